/-! the reference's constructor, in segments -/
def zTk (a b y8 : Int) (s : zSto) : Prop := s 200 2 = a ∧ s 200 3 = b ∧ s 164 50 = 0 ∧ s 164 54 = 0 ∧ s 164 1 = 0 ∧ s 164 7 = 0 ∧ s 164 8 = y8
def zWm (s : zSto) : Prop := s 194 3 = 0 ∧ s 194 4 = 0 ∧ s 195 1 = 0
def zWl (c : Nat) (s : zSto) : Prop := (∀ p, p ∈ yWtab → p.1 < c → ∀ j, j < p.2.length → s p.1 j = p.2.getD j 0) ∧ zWm s
theorem yWtab_ge : ∀ p ∈ yWtab, 167 ≤ p.1 := by decide
theorem zWl_k {c k j : Nat} {v : Int} {s s1 : zSto} (h : zWl c s) (e : zset s k j v = s1) (hk : c ≤ k ∨ k < 167) (hq : k ≠ 194 ∧ k ≠ 195) : zWl c s1 := ⟨fun p hp hc i hi => by
  have := yWtab_ge p hp
  rw [← e, zset_k (by omega)]; exact h.1 p hp hc i hi, by unfold zWm; rw [← e, zset_k hq.1.symm, zset_k hq.1.symm, zset_k hq.2.symm]; exact h.2⟩
theorem zWl_row {c d k : Nat} {L : List Int} {s : zSto} (h : zWl c s) (hu : ∀ p ∈ yWtab, p.1 < d → p.1 < c ∨ p = (k, L)) (he : ∀ j, j < L.length → s k j = L.getD j 0) : zWl d s := ⟨fun p hp hc i hi => by
  rcases hu p hp hc with x | x
  · exact h.1 p hp x i hi
  · subst x; exact he i hi, h.2⟩
def zQm (a b y8 : Int) (c : Nat) (σ s : zSto) (m n : Nat) : Prop := zCs σ s 164 m n ∧ zTk a b y8 s ∧ zWl c s
theorem zq_row {a b y8 : Int} {c d k : Nat} {L : List Int} {σ s : zSto} {m n : Nat} (h : zQm a b y8 c σ s m n) (hu : ∀ p ∈ yWtab, p.1 < d → p.1 < c ∨ p = (k, L)) (he : ∀ j, j < L.length → s k j = L.getD j 0) : zQm a b y8 d σ s m n := ⟨h.1, h.2.1, zWl_row h.2.2 hu he⟩
theorem zTk_164 {a b y8 v : Int} {s s1 : zSto} {j : Nat} (e : zset s 164 j v = s1) (hj : j ≠ 50 ∧ j ≠ 54 ∧ j ≠ 1 ∧ j ≠ 7 ∧ j ≠ 8) (t : zTk a b y8 s) : zTk a b y8 s1 := by
  subst e
  obtain ⟨t1, t2, t3, t4, t5, t6, t7⟩ := t
  exact ⟨(zset_k (by decide)).trans t1, (zset_k (by decide)).trans t2, (zset_j (fun h => hj.1 h.symm)).trans t3, (zset_j (fun h => hj.2.1 h.symm)).trans t4, (zset_j (fun h => hj.2.2.1 h.symm)).trans t5, (zset_j (fun h => hj.2.2.2.1 h.symm)).trans t6, (zset_j (fun h => hj.2.2.2.2 h.symm)).trans t7⟩
theorem zq_ref {a b y8 v : Int} {c : Nat} {σ s s1 : zSto} {m n j m' g : Nat} (e : zset s 164 j v = s1) (h : zQm a b y8 c σ s m n) (hv : zP 46 164 j v) (hn : v ≠ -1) (hg : m + g = j) (hm : ∀ i, i < g → zdv (zft 12 (m + i)) ≠ -1) (hm' : j + 1 = m') (hj : j ≠ 50 ∧ j ≠ 54 ∧ j ≠ 1 ∧ j ≠ 7 ∧ j ≠ 8) : zQm a b y8 c σ s1 m' n := by
  subst hm'
  refine ⟨zCs_ref e h.1 zc_164 zs_46 hv hn (fun i h1 h2 => ?_), zTk_164 e hj h.2.1, zWl_k h.2.2 e (Or.inr (by decide)) (by decide)⟩
  have := hm (i - m) (by omega)
  rwa [show m + (i - m) = i by omega] at this
theorem zq_int {a b y8 v : Int} {c : Nat} {σ s s1 : zSto} {m n j : Nat} (e : zset s 164 j v = s1) (h : zQm a b y8 c σ s m n) (hv : zP 46 164 j v) (hd : zdv (zft 12 j) ≠ -1) (hj : j ≠ 50 ∧ j ≠ 54 ∧ j ≠ 1 ∧ j ≠ 7 ∧ j ≠ 8) : zQm a b y8 c σ s1 m n := ⟨zCs_int e h.1 zc_164 zs_46 hv hd, zTk_164 e hj h.2.1, zWl_k h.2.2 e (Or.inr (by decide)) (by decide)⟩
theorem zq_arr {a b y8 : Int} {c : Nat} {σ s : zSto} {m n n' r t N : Nat} (h : zQm a b y8 c σ s m n) (hk : zro n = r) (hs : zrs r = .inr (t, N)) (ht : t < 5) (hn : n + 1 = n') : zQm a b y8 c σ s m n' := by
  subst hn
  exact ⟨zCs_arr h.1 hk hs ht, h.2⟩
theorem zq_el {a b y8 v : Int} {cw : Nat} {σ s s1 : zSto} {m n c r t N j : Nat} (e : zset s c j v = s1) (h : zQm a b y8 cw σ s m n) (hc : 164 < c) (hcn : c < n) (hk : zro c = r) (hs : zrs r = .inr (t, N)) (hv : zP r c j v) (h2 : c ≠ 200 ∨ (j ≠ 2 ∧ j ≠ 3)) (hw : cw ≤ c ∧ c ≠ 194 ∧ c ≠ 195) : zQm a b y8 cw σ s1 m n := by
  refine ⟨zCs_el e h.1 hc hcn hk hs hv, ?_, zWl_k h.2.2 e (Or.inl hw.1) hw.2⟩
  subst e
  obtain ⟨t1, t2, t3, t4, t5, t6, t7⟩ := h.2.1
  have hne : (164 : Nat) ≠ c := by omega
  refine ⟨?_, ?_, (zset_k hne).trans t3, (zset_k hne).trans t4, (zset_k hne).trans t5, (zset_k hne).trans t6, (zset_k hne).trans t7⟩
  · rcases h2 with q | q
    · exact (zset_k (fun x => q x.symm)).trans t1
    · exact (zset_j (fun x => q.1 x.symm)).trans t1
  · rcases h2 with q | q
    · exact (zset_k (fun x => q x.symm)).trans t2
    · exact (zset_j (fun x => q.2 x.symm)).trans t2
theorem zq_e2 {a b y8 v : Int} {cw : Nat} {σ s s1 : zSto} {m n r t N : Nat} (e : zset s 200 2 v = s1) (h : zQm a b y8 cw σ s m n) (hcn : 200 < n) (hk : zro 200 = r) (hs : zrs r = .inr (t, N)) (hv : zP r 200 2 v) (hw : cw ≤ 200) : zQm v b y8 cw σ s1 m n := by
  refine ⟨zCs_el e h.1 (by decide) hcn hk hs hv, ?_, zWl_k h.2.2 e (Or.inl hw) (by decide)⟩
  subst e
  obtain ⟨t1, t2, t3, t4, t5, t6, t7⟩ := h.2.1
  exact ⟨zset_s, (zset_j (by decide)).trans t2, (zset_k (by decide)).trans t3, (zset_k (by decide)).trans t4, (zset_k (by decide)).trans t5, (zset_k (by decide)).trans t6, (zset_k (by decide)).trans t7⟩
theorem zq_e3 {a b y8 v : Int} {cw : Nat} {σ s s1 : zSto} {m n r t N : Nat} (e : zset s 200 3 v = s1) (h : zQm a b y8 cw σ s m n) (hcn : 200 < n) (hk : zro 200 = r) (hs : zrs r = .inr (t, N)) (hv : zP r 200 3 v) (hw : cw ≤ 200) : zQm a v y8 cw σ s1 m n := by
  refine ⟨zCs_el e h.1 (by decide) hcn hk hs hv, ?_, zWl_k h.2.2 e (Or.inl hw) (by decide)⟩
  subst e
  obtain ⟨t1, t2, t3, t4, t5, t6, t7⟩ := h.2.1
  exact ⟨(zset_j (by decide)).trans t1, zset_s, (zset_k (by decide)).trans t3, (zset_k (by decide)).trans t4, (zset_k (by decide)).trans t5, (zset_k (by decide)).trans t6, (zset_k (by decide)).trans t7⟩
theorem zq_f8 {a b y8 v : Int} {c : Nat} {σ s s1 : zSto} {m n : Nat} (e : zset s 164 8 v = s1) (h : zQm a b y8 c σ s m n) (hv : zP 46 164 8 v) (hd : zdv (zft 12 8) ≠ -1) : zQm a b v c σ s1 m n := by
  refine ⟨zCs_int e h.1 zc_164 zs_46 hv hd, ?_, zWl_k h.2.2 e (Or.inr (by decide)) (by decide)⟩
  subst e
  obtain ⟨t1, t2, t3, t4, t5, t6, t7⟩ := h.2.1
  exact ⟨(zset_k (by decide)).trans t1, (zset_k (by decide)).trans t2, (zset_j (by decide)).trans t3, (zset_j (by decide)).trans t4, (zset_j (by decide)).trans t5, (zset_j (by decide)).trans t6, zset_s⟩
section ZQM
variable {X : zCX} {cc : ByteArray} {own : String} {d n cs ss pc pc' : Nat} {σ : zSto} {lv : List (Option Value)} {st : List Value}
theorem zt_newaL {t N r n' cs' ss' : Nat} {x : Int} {atype : ArrayType} (hX : zok X cc own d) (hd : decode cc pc = .ok (.newarray atype, 2)) (hp : pc + 2 = pc') (hw : Cond.arrayClass (newarray.typeOf atype) ∈ wsL_law) (hty : newarray.typeOf atype = zty t) (ht5 : t < 5) (hn : n ≠ zNC) (hk : zro n = r) (hs : zrs r = .inr (t, N)) (hx0 : x = (N : Int)) (hN : N ≤ 65535) (h0 : σ n = zdef n) (e1 : n + 1 = n') (e2 : cs + 1 = cs') (e3 : ss + N = ss') (hroom : cs' ≤ X.2.2.2.2.1.cells ∧ ss' ≤ X.2.2.2.2.1.slots)
    (k : zZ X n' cs' ss' σ pc' lv (.ref (X.1.1 + n) :: st)) : zZ X n cs ss σ pc lv (.int (zI x) :: st) := by
  subst e1 e2 e3
  exact zt_newa hX hd hp hw hty ht5 hn hk hs hx0 hN h0 hroom k
end ZQM
set_option maxRecDepth 100000 in
set_option maxHeartbeats 4000000 in
theorem zxm_0 {X : zCX} {σ s : zSto} (hX : zok X cX12_init RX12 1) (hN : X.2.2.2.2.2.2.2.2.2.1.name = yX12_init.name ∧ X.2.2.2.2.1.cells = 73 ∧ X.2.2.2.2.1.slots = 16482) (q : zQm (0) (0) (0) 165 σ s 0 165) (K : ∀ s' : zSto, zQm (0) (0) (-1) 171 σ s' 15 171 → zZ X 171 6 1622 s' 134 [some (.ref (X.1.1 + 164))] []) : zZ X 165 0 0 s 0 [some (.ref (X.1.1 + 164))] [] := by
  refine zt_aload_n (pc' := 1) hX dX12_init_0 rfl rfl ?_
  refine zt_oinit (pc' := 4) hX (by decide) dX12_init_1 rfl zw_10_15 zw_1_10 zw_1_11 rfl ?_
  refine zt_aload_n (pc' := 5) hX dX12_init_4 rfl rfl ?_
  refine zt_sipush (pc' := 8) hX dX12_init_5 rfl (by decide) (by decide) ?_
  refine zt_newaL (pc' := 10) (t := 0) (N := 1600) (n' := 166) (cs' := 1) (ss' := 1600) hX dX12_init_8 rfl zw_3_7 rfl (by decide) (by decide) zc_165 zs_47 (by decide) (by decide) (zCs_nx q.1) rfl rfl rfl ⟨by rw [hN.2.1]; exact Nat.le_of_ble_eq_true rfl, by rw [hN.2.2]; exact Nat.le_of_ble_eq_true rfl⟩ ?_
  have q1 := zq_arr (n' := 166) q zc_165 zs_47 (by decide) rfl
  refine zt_putF (pc' := 13) (x := ((165 : Nat) : Int)) hX dX12_init_10 rfl hN.1 zf_X12_7 (by decide) zc_164 zs_46 (fun q hq => by cases hq; exact ⟨rfl, rfl⟩) (zrf_of rfl) rfl rfl ?_
  generalize h3 : zset s 164 0 ((165 : Nat) : Int) = s2
  have q4 := zq_ref (m' := 1) (g := 0) h3 q1 rfl (by decide) rfl (by decide) rfl (by decide)
  clear h3 q1
  refine zt_aload_n (pc' := 14) hX dX12_init_13 rfl rfl ?_
  refine zt_iconst (pc' := 15) hX dX12_init_14 rfl ?_
  refine zt_put (pc' := 18) (x := (-1)) hX dX12_init_15 rfl zf_X12_13 (by decide) zc_164 zs_46 (fun q hq => by cases hq; rfl) rfl rfl rfl ?_
  generalize h6 : zset s2 164 8 (-1) = s5
  have q7 := zq_f8 h6 q4 (show -2147483648 ≤ ((-1) : Int) ∧ ((-1) : Int) ≤ 2147483647 from ⟨by decide, by decide⟩) (by decide)
  clear h6 q4
  refine zt_aload_n (pc' := 19) hX dX12_init_18 rfl rfl ?_
  refine zt_bipush (pc' := 21) hX dX12_init_19 rfl (by decide) (by decide) ?_
  refine zt_newaL (pc' := 23) (t := 0) (N := 6) (n' := 167) (cs' := 2) (ss' := 1606) hX dX12_init_21 rfl zw_3_7 rfl (by decide) (by decide) zc_166 zs_48 (by decide) (by decide) (zCs_nx q7.1) rfl rfl rfl ⟨by rw [hN.2.1]; exact Nat.le_of_ble_eq_true rfl, by rw [hN.2.2]; exact Nat.le_of_ble_eq_true rfl⟩ ?_
  have q8 := zq_arr (n' := 167) q7 zc_166 zs_48 (by decide) rfl
  clear q7
  refine zt_putF (pc' := 26) (x := ((166 : Nat) : Int)) hX dX12_init_23 rfl hN.1 zf_X12_17 (by decide) zc_164 zs_46 (fun q hq => by cases hq; exact ⟨rfl, rfl⟩) (zrf_of rfl) rfl rfl ?_
  generalize h10 : zset s5 164 9 ((166 : Nat) : Int) = s9
  have q11 := zq_ref (m' := 10) (g := 8) h10 q8 rfl (by decide) rfl (by decide) rfl (by decide)
  clear h10 q8
  refine zt_aload_n (pc' := 27) hX dX12_init_26 rfl rfl ?_
  refine zt_iconst (pc' := 28) hX dX12_init_27 rfl ?_
  refine zt_newaL (pc' := 30) (t := 3) (N := 4) (n' := 168) (cs' := 3) (ss' := 1610) hX dX12_init_28 rfl zw_10_19 rfl (by decide) (by decide) zc_167 zs_49 (by decide) (by decide) (zCs_nx q11.1) rfl rfl rfl ⟨by rw [hN.2.1]; exact Nat.le_of_ble_eq_true rfl, by rw [hN.2.2]; exact Nat.le_of_ble_eq_true rfl⟩ ?_
  have q12 := zq_arr (n' := 168) q11 zc_167 zs_49 (by decide) rfl
  clear q11
  refine zt_dup (pc' := 31) hX dX12_init_30 rfl rfl ?_
  refine zt_iconst (pc' := 32) hX dX12_init_31 rfl ?_
  refine zt_bipush (pc' := 34) hX dX12_init_32 rfl (by decide) (by decide) ?_
  refine zt_cast (pc' := 35) hX dX12_init_34 rfl (by decide) zc_167 zs_49 (by decide) ⟨by decide, by decide⟩ (by decide +kernel) ?_
  rw [show Int.toNat 0 = 0 from rfl]
  generalize h14 : zset s9 167 0 112 = s13
  have q15 := zq_el h14 q12 (by decide) (by decide) zc_167 zs_49 (show 0 ≤ (112 : Int) ∧ (112 : Int) ≤ 65535 from ⟨by decide, by decide⟩) (by decide) (by decide)
  have f16 : s13 167 0 = 112 := by rw [← h14]; exact zset_s
  clear h14 q12
  refine zt_dup (pc' := 36) hX dX12_init_35 rfl rfl ?_
  refine zt_iconst (pc' := 37) hX dX12_init_36 rfl ?_
  refine zt_bipush (pc' := 39) hX dX12_init_37 rfl (by decide) (by decide) ?_
  refine zt_cast (pc' := 40) hX dX12_init_39 rfl (by decide) zc_167 zs_49 (by decide) ⟨by decide, by decide⟩ (by decide +kernel) ?_
  rw [show Int.toNat 1 = 1 from rfl]
  generalize h18 : zset s13 167 1 97 = s17
  have q19 := zq_el h18 q15 (by decide) (by decide) zc_167 zs_49 (show 0 ≤ (97 : Int) ∧ (97 : Int) ≤ 65535 from ⟨by decide, by decide⟩) (by decide) (by decide)
  have f20 : s17 167 0 = 112 := by rw [← h18]; exact (zset_j (by decide)).trans f16
  have f21 : s17 167 1 = 97 := by rw [← h18]; exact zset_s
  clear f16
  clear h18 q15
  refine zt_dup (pc' := 41) hX dX12_init_40 rfl rfl ?_
  refine zt_iconst (pc' := 42) hX dX12_init_41 rfl ?_
  refine zt_bipush (pc' := 44) hX dX12_init_42 rfl (by decide) (by decide) ?_
  refine zt_cast (pc' := 45) hX dX12_init_44 rfl (by decide) zc_167 zs_49 (by decide) ⟨by decide, by decide⟩ (by decide +kernel) ?_
  rw [show Int.toNat 2 = 2 from rfl]
  generalize h23 : zset s17 167 2 110 = s22
  have q24 := zq_el h23 q19 (by decide) (by decide) zc_167 zs_49 (show 0 ≤ (110 : Int) ∧ (110 : Int) ≤ 65535 from ⟨by decide, by decide⟩) (by decide) (by decide)
  have f25 : s22 167 0 = 112 := by rw [← h23]; exact (zset_j (by decide)).trans f20
  have f26 : s22 167 1 = 97 := by rw [← h23]; exact (zset_j (by decide)).trans f21
  have f27 : s22 167 2 = 110 := by rw [← h23]; exact zset_s
  clear f20 f21
  clear h23 q19
  refine zt_dup (pc' := 46) hX dX12_init_45 rfl rfl ?_
  refine zt_iconst (pc' := 47) hX dX12_init_46 rfl ?_
  refine zt_bipush (pc' := 49) hX dX12_init_47 rfl (by decide) (by decide) ?_
  refine zt_cast (pc' := 50) hX dX12_init_49 rfl (by decide) zc_167 zs_49 (by decide) ⟨by decide, by decide⟩ (by decide +kernel) ?_
  rw [show Int.toNat 3 = 3 from rfl]
  generalize h29 : zset s22 167 3 101 = s28
  have q30 := zq_el h29 q24 (by decide) (by decide) zc_167 zs_49 (show 0 ≤ (101 : Int) ∧ (101 : Int) ≤ 65535 from ⟨by decide, by decide⟩) (by decide) (by decide)
  have f31 : s28 167 0 = 112 := by rw [← h29]; exact (zset_j (by decide)).trans f25
  have f32 : s28 167 1 = 97 := by rw [← h29]; exact (zset_j (by decide)).trans f26
  have f33 : s28 167 2 = 110 := by rw [← h29]; exact (zset_j (by decide)).trans f27
  have f34 : s28 167 3 = 101 := by rw [← h29]; exact zset_s
  clear f25 f26 f27
  clear h29 q24
  have q35 := zq_row (d := 168) (k := 167) (L := [112, 97, 110, 101]) q30 (by decide) (fun j hj => by have hj : j < 4 := hj; rcases (show j = 0 ∨ j = 1 ∨ j = 2 ∨ j = 3 by omega) with rfl | rfl | rfl | rfl; exact f31; exact f32; exact f33; exact f34)
  clear f31 f32 f33 f34 q30
  refine zt_putF (pc' := 53) (x := ((167 : Nat) : Int)) hX dX12_init_50 rfl hN.1 zf_X12_20 (by decide) zc_164 zs_46 (fun q hq => by cases hq; exact ⟨rfl, rfl⟩) (zrf_of rfl) rfl rfl ?_
  generalize h37 : zset s28 164 11 ((167 : Nat) : Int) = s36
  have q38 := zq_ref (m' := 12) (g := 1) h37 q35 rfl (by decide) rfl (by decide) rfl (by decide)
  clear h37 q35
  refine zt_aload_n (pc' := 54) hX dX12_init_53 rfl rfl ?_
  refine zt_iconst (pc' := 55) hX dX12_init_54 rfl ?_
  refine zt_newaL (pc' := 57) (t := 3) (N := 2) (n' := 169) (cs' := 4) (ss' := 1612) hX dX12_init_55 rfl zw_10_19 rfl (by decide) (by decide) zc_168 zs_50 (by decide) (by decide) (zCs_nx q38.1) rfl rfl rfl ⟨by rw [hN.2.1]; exact Nat.le_of_ble_eq_true rfl, by rw [hN.2.2]; exact Nat.le_of_ble_eq_true rfl⟩ ?_
  have q39 := zq_arr (n' := 169) q38 zc_168 zs_50 (by decide) rfl
  clear q38
  refine zt_dup (pc' := 58) hX dX12_init_57 rfl rfl ?_
  refine zt_iconst (pc' := 59) hX dX12_init_58 rfl ?_
  refine zt_bipush (pc' := 61) hX dX12_init_59 rfl (by decide) (by decide) ?_
  refine zt_cast (pc' := 62) hX dX12_init_61 rfl (by decide) zc_168 zs_50 (by decide) ⟨by decide, by decide⟩ (by decide +kernel) ?_
  rw [show Int.toNat 0 = 0 from rfl]
  generalize h41 : zset s36 168 0 98 = s40
  have q42 := zq_el h41 q39 (by decide) (by decide) zc_168 zs_50 (show 0 ≤ (98 : Int) ∧ (98 : Int) ≤ 65535 from ⟨by decide, by decide⟩) (by decide) (by decide)
  have f43 : s40 168 0 = 98 := by rw [← h41]; exact zset_s
  clear h41 q39
  refine zt_dup (pc' := 63) hX dX12_init_62 rfl rfl ?_
  refine zt_iconst (pc' := 64) hX dX12_init_63 rfl ?_
  refine zt_bipush (pc' := 66) hX dX12_init_64 rfl (by decide) (by decide) ?_
  refine zt_cast (pc' := 67) hX dX12_init_66 rfl (by decide) zc_168 zs_50 (by decide) ⟨by decide, by decide⟩ (by decide +kernel) ?_
  rw [show Int.toNat 1 = 1 from rfl]
  generalize h45 : zset s40 168 1 121 = s44
  have q46 := zq_el h45 q42 (by decide) (by decide) zc_168 zs_50 (show 0 ≤ (121 : Int) ∧ (121 : Int) ≤ 65535 from ⟨by decide, by decide⟩) (by decide) (by decide)
  have f47 : s44 168 0 = 98 := by rw [← h45]; exact (zset_j (by decide)).trans f43
  have f48 : s44 168 1 = 121 := by rw [← h45]; exact zset_s
  clear f43
  clear h45 q42
  have q49 := zq_row (d := 169) (k := 168) (L := [98, 121]) q46 (by decide) (fun j hj => by have hj : j < 2 := hj; rcases (show j = 0 ∨ j = 1 by omega) with rfl | rfl; exact f47; exact f48)
  clear f47 f48 q46
  refine zt_putF (pc' := 70) (x := ((168 : Nat) : Int)) hX dX12_init_67 rfl hN.1 zf_X12_24 (by decide) zc_164 zs_46 (fun q hq => by cases hq; exact ⟨rfl, rfl⟩) (zrf_of rfl) rfl rfl ?_
  generalize h51 : zset s44 164 12 ((168 : Nat) : Int) = s50
  have q52 := zq_ref (m' := 13) (g := 0) h51 q49 rfl (by decide) rfl (by decide) rfl (by decide)
  clear h51 q49
  refine zt_aload_n (pc' := 71) hX dX12_init_70 rfl rfl ?_
  refine zt_iconst (pc' := 72) hX dX12_init_71 rfl ?_
  refine zt_newaL (pc' := 74) (t := 3) (N := 5) (n' := 170) (cs' := 5) (ss' := 1617) hX dX12_init_72 rfl zw_10_19 rfl (by decide) (by decide) zc_169 zs_51 (by decide) (by decide) (zCs_nx q52.1) rfl rfl rfl ⟨by rw [hN.2.1]; exact Nat.le_of_ble_eq_true rfl, by rw [hN.2.2]; exact Nat.le_of_ble_eq_true rfl⟩ ?_
  have q53 := zq_arr (n' := 170) q52 zc_169 zs_51 (by decide) rfl
  clear q52
  refine zt_dup (pc' := 75) hX dX12_init_74 rfl rfl ?_
  refine zt_iconst (pc' := 76) hX dX12_init_75 rfl ?_
  refine zt_bipush (pc' := 78) hX dX12_init_76 rfl (by decide) (by decide) ?_
  refine zt_cast (pc' := 79) hX dX12_init_78 rfl (by decide) zc_169 zs_51 (by decide) ⟨by decide, by decide⟩ (by decide +kernel) ?_
  rw [show Int.toNat 0 = 0 from rfl]
  generalize h55 : zset s50 169 0 116 = s54
  have q56 := zq_el h55 q53 (by decide) (by decide) zc_169 zs_51 (show 0 ≤ (116 : Int) ∧ (116 : Int) ≤ 65535 from ⟨by decide, by decide⟩) (by decide) (by decide)
  have f57 : s54 169 0 = 116 := by rw [← h55]; exact zset_s
  clear h55 q53
  refine zt_dup (pc' := 80) hX dX12_init_79 rfl rfl ?_
  refine zt_iconst (pc' := 81) hX dX12_init_80 rfl ?_
  refine zt_bipush (pc' := 83) hX dX12_init_81 rfl (by decide) (by decide) ?_
  refine zt_cast (pc' := 84) hX dX12_init_83 rfl (by decide) zc_169 zs_51 (by decide) ⟨by decide, by decide⟩ (by decide +kernel) ?_
  rw [show Int.toNat 1 = 1 from rfl]
  generalize h59 : zset s54 169 1 111 = s58
  have q60 := zq_el h59 q56 (by decide) (by decide) zc_169 zs_51 (show 0 ≤ (111 : Int) ∧ (111 : Int) ≤ 65535 from ⟨by decide, by decide⟩) (by decide) (by decide)
  have f61 : s58 169 0 = 116 := by rw [← h59]; exact (zset_j (by decide)).trans f57
  have f62 : s58 169 1 = 111 := by rw [← h59]; exact zset_s
  clear f57
  clear h59 q56
  refine zt_dup (pc' := 85) hX dX12_init_84 rfl rfl ?_
  refine zt_iconst (pc' := 86) hX dX12_init_85 rfl ?_
  refine zt_bipush (pc' := 88) hX dX12_init_86 rfl (by decide) (by decide) ?_
  refine zt_cast (pc' := 89) hX dX12_init_88 rfl (by decide) zc_169 zs_51 (by decide) ⟨by decide, by decide⟩ (by decide +kernel) ?_
  rw [show Int.toNat 2 = 2 from rfl]
  generalize h64 : zset s58 169 2 117 = s63
  have q65 := zq_el h64 q60 (by decide) (by decide) zc_169 zs_51 (show 0 ≤ (117 : Int) ∧ (117 : Int) ≤ 65535 from ⟨by decide, by decide⟩) (by decide) (by decide)
  have f66 : s63 169 0 = 116 := by rw [← h64]; exact (zset_j (by decide)).trans f61
  have f67 : s63 169 1 = 111 := by rw [← h64]; exact (zset_j (by decide)).trans f62
  have f68 : s63 169 2 = 117 := by rw [← h64]; exact zset_s
  clear f61 f62
  clear h64 q60
  refine zt_dup (pc' := 90) hX dX12_init_89 rfl rfl ?_
  refine zt_iconst (pc' := 91) hX dX12_init_90 rfl ?_
  refine zt_bipush (pc' := 93) hX dX12_init_91 rfl (by decide) (by decide) ?_
  refine zt_cast (pc' := 94) hX dX12_init_93 rfl (by decide) zc_169 zs_51 (by decide) ⟨by decide, by decide⟩ (by decide +kernel) ?_
  rw [show Int.toNat 3 = 3 from rfl]
  generalize h70 : zset s63 169 3 103 = s69
  have q71 := zq_el h70 q65 (by decide) (by decide) zc_169 zs_51 (show 0 ≤ (103 : Int) ∧ (103 : Int) ≤ 65535 from ⟨by decide, by decide⟩) (by decide) (by decide)
  have f72 : s69 169 0 = 116 := by rw [← h70]; exact (zset_j (by decide)).trans f66
  have f73 : s69 169 1 = 111 := by rw [← h70]; exact (zset_j (by decide)).trans f67
  have f74 : s69 169 2 = 117 := by rw [← h70]; exact (zset_j (by decide)).trans f68
  have f75 : s69 169 3 = 103 := by rw [← h70]; exact zset_s
  clear f66 f67 f68
  clear h70 q65
  refine zt_dup (pc' := 95) hX dX12_init_94 rfl rfl ?_
  refine zt_iconst (pc' := 96) hX dX12_init_95 rfl ?_
  refine zt_bipush (pc' := 98) hX dX12_init_96 rfl (by decide) (by decide) ?_
  refine zt_cast (pc' := 99) hX dX12_init_98 rfl (by decide) zc_169 zs_51 (by decide) ⟨by decide, by decide⟩ (by decide +kernel) ?_
  rw [show Int.toNat 4 = 4 from rfl]
  generalize h77 : zset s69 169 4 104 = s76
  have q78 := zq_el h77 q71 (by decide) (by decide) zc_169 zs_51 (show 0 ≤ (104 : Int) ∧ (104 : Int) ≤ 65535 from ⟨by decide, by decide⟩) (by decide) (by decide)
  have f79 : s76 169 0 = 116 := by rw [← h77]; exact (zset_j (by decide)).trans f72
  have f80 : s76 169 1 = 111 := by rw [← h77]; exact (zset_j (by decide)).trans f73
  have f81 : s76 169 2 = 117 := by rw [← h77]; exact (zset_j (by decide)).trans f74
  have f82 : s76 169 3 = 103 := by rw [← h77]; exact (zset_j (by decide)).trans f75
  have f83 : s76 169 4 = 104 := by rw [← h77]; exact zset_s
  clear f72 f73 f74 f75
  clear h77 q71
  have q84 := zq_row (d := 170) (k := 169) (L := [116, 111, 117, 103, 104]) q78 (by decide) (fun j hj => by have hj : j < 5 := hj; rcases (show j = 0 ∨ j = 1 ∨ j = 2 ∨ j = 3 ∨ j = 4 by omega) with rfl | rfl | rfl | rfl | rfl; exact f79; exact f80; exact f81; exact f82; exact f83)
  clear f79 f80 f81 f82 f83 q78
  refine zt_putF (pc' := 102) (x := ((169 : Nat) : Int)) hX dX12_init_99 rfl hN.1 zf_X12_27 (by decide) zc_164 zs_46 (fun q hq => by cases hq; exact ⟨rfl, rfl⟩) (zrf_of rfl) rfl rfl ?_
  generalize h86 : zset s76 164 13 ((169 : Nat) : Int) = s85
  have q87 := zq_ref (m' := 14) (g := 0) h86 q84 rfl (by decide) rfl (by decide) rfl (by decide)
  clear h86 q84
  refine zt_aload_n (pc' := 103) hX dX12_init_102 rfl rfl ?_
  refine zt_iconst (pc' := 104) hX dX12_init_103 rfl ?_
  refine zt_newaL (pc' := 106) (t := 3) (N := 5) (n' := 171) (cs' := 6) (ss' := 1622) hX dX12_init_104 rfl zw_10_19 rfl (by decide) (by decide) zc_170 zs_52 (by decide) (by decide) (zCs_nx q87.1) rfl rfl rfl ⟨by rw [hN.2.1]; exact Nat.le_of_ble_eq_true rfl, by rw [hN.2.2]; exact Nat.le_of_ble_eq_true rfl⟩ ?_
  have q88 := zq_arr (n' := 171) q87 zc_170 zs_52 (by decide) rfl
  clear q87
  refine zt_dup (pc' := 107) hX dX12_init_106 rfl rfl ?_
  refine zt_iconst (pc' := 108) hX dX12_init_107 rfl ?_
  refine zt_bipush (pc' := 110) hX dX12_init_108 rfl (by decide) (by decide) ?_
  refine zt_cast (pc' := 111) hX dX12_init_110 rfl (by decide) zc_170 zs_52 (by decide) ⟨by decide, by decide⟩ (by decide +kernel) ?_
  rw [show Int.toNat 0 = 0 from rfl]
  generalize h90 : zset s85 170 0 104 = s89
  have q91 := zq_el h90 q88 (by decide) (by decide) zc_170 zs_52 (show 0 ≤ (104 : Int) ∧ (104 : Int) ≤ 65535 from ⟨by decide, by decide⟩) (by decide) (by decide)
  have f92 : s89 170 0 = 104 := by rw [← h90]; exact zset_s
  clear h90 q88
  refine zt_dup (pc' := 112) hX dX12_init_111 rfl rfl ?_
  refine zt_iconst (pc' := 113) hX dX12_init_112 rfl ?_
  refine zt_bipush (pc' := 115) hX dX12_init_113 rfl (by decide) (by decide) ?_
  refine zt_cast (pc' := 116) hX dX12_init_115 rfl (by decide) zc_170 zs_52 (by decide) ⟨by decide, by decide⟩ (by decide +kernel) ?_
  rw [show Int.toNat 1 = 1 from rfl]
  generalize h94 : zset s89 170 1 101 = s93
  have q95 := zq_el h94 q91 (by decide) (by decide) zc_170 zs_52 (show 0 ≤ (101 : Int) ∧ (101 : Int) ≤ 65535 from ⟨by decide, by decide⟩) (by decide) (by decide)
  have f96 : s93 170 0 = 104 := by rw [← h94]; exact (zset_j (by decide)).trans f92
  have f97 : s93 170 1 = 101 := by rw [← h94]; exact zset_s
  clear f92
  clear h94 q91
  refine zt_dup (pc' := 117) hX dX12_init_116 rfl rfl ?_
  refine zt_iconst (pc' := 118) hX dX12_init_117 rfl ?_
  refine zt_bipush (pc' := 120) hX dX12_init_118 rfl (by decide) (by decide) ?_
  refine zt_cast (pc' := 121) hX dX12_init_120 rfl (by decide) zc_170 zs_52 (by decide) ⟨by decide, by decide⟩ (by decide +kernel) ?_
  rw [show Int.toNat 2 = 2 from rfl]
  generalize h99 : zset s93 170 2 97 = s98
  have q100 := zq_el h99 q95 (by decide) (by decide) zc_170 zs_52 (show 0 ≤ (97 : Int) ∧ (97 : Int) ≤ 65535 from ⟨by decide, by decide⟩) (by decide) (by decide)
  have f101 : s98 170 0 = 104 := by rw [← h99]; exact (zset_j (by decide)).trans f96
  have f102 : s98 170 1 = 101 := by rw [← h99]; exact (zset_j (by decide)).trans f97
  have f103 : s98 170 2 = 97 := by rw [← h99]; exact zset_s
  clear f96 f97
  clear h99 q95
  refine zt_dup (pc' := 122) hX dX12_init_121 rfl rfl ?_
  refine zt_iconst (pc' := 123) hX dX12_init_122 rfl ?_
  refine zt_bipush (pc' := 125) hX dX12_init_123 rfl (by decide) (by decide) ?_
  refine zt_cast (pc' := 126) hX dX12_init_125 rfl (by decide) zc_170 zs_52 (by decide) ⟨by decide, by decide⟩ (by decide +kernel) ?_
  rw [show Int.toNat 3 = 3 from rfl]
  generalize h105 : zset s98 170 3 118 = s104
  have q106 := zq_el h105 q100 (by decide) (by decide) zc_170 zs_52 (show 0 ≤ (118 : Int) ∧ (118 : Int) ≤ 65535 from ⟨by decide, by decide⟩) (by decide) (by decide)
  have f107 : s104 170 0 = 104 := by rw [← h105]; exact (zset_j (by decide)).trans f101
  have f108 : s104 170 1 = 101 := by rw [← h105]; exact (zset_j (by decide)).trans f102
  have f109 : s104 170 2 = 97 := by rw [← h105]; exact (zset_j (by decide)).trans f103
  have f110 : s104 170 3 = 118 := by rw [← h105]; exact zset_s
  clear f101 f102 f103
  clear h105 q100
  refine zt_dup (pc' := 127) hX dX12_init_126 rfl rfl ?_
  refine zt_iconst (pc' := 128) hX dX12_init_127 rfl ?_
  refine zt_bipush (pc' := 130) hX dX12_init_128 rfl (by decide) (by decide) ?_
  refine zt_cast (pc' := 131) hX dX12_init_130 rfl (by decide) zc_170 zs_52 (by decide) ⟨by decide, by decide⟩ (by decide +kernel) ?_
  rw [show Int.toNat 4 = 4 from rfl]
  generalize h112 : zset s104 170 4 121 = s111
  have q113 := zq_el h112 q106 (by decide) (by decide) zc_170 zs_52 (show 0 ≤ (121 : Int) ∧ (121 : Int) ≤ 65535 from ⟨by decide, by decide⟩) (by decide) (by decide)
  have f114 : s111 170 0 = 104 := by rw [← h112]; exact (zset_j (by decide)).trans f107
  have f115 : s111 170 1 = 101 := by rw [← h112]; exact (zset_j (by decide)).trans f108
  have f116 : s111 170 2 = 97 := by rw [← h112]; exact (zset_j (by decide)).trans f109
  have f117 : s111 170 3 = 118 := by rw [← h112]; exact (zset_j (by decide)).trans f110
  have f118 : s111 170 4 = 121 := by rw [← h112]; exact zset_s
  clear f107 f108 f109 f110
  clear h112 q106
  have q119 := zq_row (d := 171) (k := 170) (L := [104, 101, 97, 118, 121]) q113 (by decide) (fun j hj => by have hj : j < 5 := hj; rcases (show j = 0 ∨ j = 1 ∨ j = 2 ∨ j = 3 ∨ j = 4 by omega) with rfl | rfl | rfl | rfl | rfl; exact f114; exact f115; exact f116; exact f117; exact f118)
  clear f114 f115 f116 f117 f118 q113
  refine zt_putF (pc' := 134) (x := ((170 : Nat) : Int)) hX dX12_init_131 rfl hN.1 zf_X12_30 (by decide) zc_164 zs_46 (fun q hq => by cases hq; exact ⟨rfl, rfl⟩) (zrf_of rfl) rfl rfl ?_
  generalize h121 : zset s111 164 14 ((170 : Nat) : Int) = s120
  have q122 := zq_ref (m' := 15) (g := 0) h121 q119 rfl (by decide) rfl (by decide) rfl (by decide)
  clear h121 q119
  exact K s120 q122

set_option maxRecDepth 100000 in
set_option maxHeartbeats 4000000 in
theorem zxm_1 {X : zCX} {σ s : zSto} (hX : zok X cX12_init RX12 1) (hN : X.2.2.2.2.2.2.2.2.2.1.name = yX12_init.name ∧ X.2.2.2.2.1.cells = 73 ∧ X.2.2.2.2.1.slots = 16482) (q : zQm (0) (0) (-1) 171 σ s 15 171) (K : ∀ s' : zSto, zQm (0) (0) (-1) 176 σ s' 20 176 → zZ X 176 11 1642 s' 269 [some (.ref (X.1.1 + 164))] []) : zZ X 171 6 1622 s 134 [some (.ref (X.1.1 + 164))] [] := by
  refine zt_aload_n (pc' := 135) hX dX12_init_134 rfl rfl ?_
  refine zt_iconst (pc' := 136) hX dX12_init_135 rfl ?_
  refine zt_newaL (pc' := 138) (t := 3) (N := 4) (n' := 172) (cs' := 7) (ss' := 1626) hX dX12_init_136 rfl zw_10_19 rfl (by decide) (by decide) zc_171 zs_53 (by decide) (by decide) (zCs_nx q.1) rfl rfl rfl ⟨by rw [hN.2.1]; exact Nat.le_of_ble_eq_true rfl, by rw [hN.2.2]; exact Nat.le_of_ble_eq_true rfl⟩ ?_
  have q123 := zq_arr (n' := 172) q zc_171 zs_53 (by decide) rfl
  refine zt_dup (pc' := 139) hX dX12_init_138 rfl rfl ?_
  refine zt_iconst (pc' := 140) hX dX12_init_139 rfl ?_
  refine zt_bipush (pc' := 142) hX dX12_init_140 rfl (by decide) (by decide) ?_
  refine zt_cast (pc' := 143) hX dX12_init_142 rfl (by decide) zc_171 zs_53 (by decide) ⟨by decide, by decide⟩ (by decide +kernel) ?_
  rw [show Int.toNat 0 = 0 from rfl]
  generalize h125 : zset s 171 0 112 = s124
  have q126 := zq_el h125 q123 (by decide) (by decide) zc_171 zs_53 (show 0 ≤ (112 : Int) ∧ (112 : Int) ≤ 65535 from ⟨by decide, by decide⟩) (by decide) (by decide)
  have f127 : s124 171 0 = 112 := by rw [← h125]; exact zset_s
  clear h125 q123
  refine zt_dup (pc' := 144) hX dX12_init_143 rfl rfl ?_
  refine zt_iconst (pc' := 145) hX dX12_init_144 rfl ?_
  refine zt_bipush (pc' := 147) hX dX12_init_145 rfl (by decide) (by decide) ?_
  refine zt_cast (pc' := 148) hX dX12_init_147 rfl (by decide) zc_171 zs_53 (by decide) ⟨by decide, by decide⟩ (by decide +kernel) ?_
  rw [show Int.toNat 1 = 1 from rfl]
  generalize h129 : zset s124 171 1 111 = s128
  have q130 := zq_el h129 q126 (by decide) (by decide) zc_171 zs_53 (show 0 ≤ (111 : Int) ∧ (111 : Int) ≤ 65535 from ⟨by decide, by decide⟩) (by decide) (by decide)
  have f131 : s128 171 0 = 112 := by rw [← h129]; exact (zset_j (by decide)).trans f127
  have f132 : s128 171 1 = 111 := by rw [← h129]; exact zset_s
  clear f127
  clear h129 q126
  refine zt_dup (pc' := 149) hX dX12_init_148 rfl rfl ?_
  refine zt_iconst (pc' := 150) hX dX12_init_149 rfl ?_
  refine zt_bipush (pc' := 152) hX dX12_init_150 rfl (by decide) (by decide) ?_
  refine zt_cast (pc' := 153) hX dX12_init_152 rfl (by decide) zc_171 zs_53 (by decide) ⟨by decide, by decide⟩ (by decide +kernel) ?_
  rw [show Int.toNat 2 = 2 from rfl]
  generalize h134 : zset s128 171 2 108 = s133
  have q135 := zq_el h134 q130 (by decide) (by decide) zc_171 zs_53 (show 0 ≤ (108 : Int) ∧ (108 : Int) ≤ 65535 from ⟨by decide, by decide⟩) (by decide) (by decide)
  have f136 : s133 171 0 = 112 := by rw [← h134]; exact (zset_j (by decide)).trans f131
  have f137 : s133 171 1 = 111 := by rw [← h134]; exact (zset_j (by decide)).trans f132
  have f138 : s133 171 2 = 108 := by rw [← h134]; exact zset_s
  clear f131 f132
  clear h134 q130
  refine zt_dup (pc' := 154) hX dX12_init_153 rfl rfl ?_
  refine zt_iconst (pc' := 155) hX dX12_init_154 rfl ?_
  refine zt_bipush (pc' := 157) hX dX12_init_155 rfl (by decide) (by decide) ?_
  refine zt_cast (pc' := 158) hX dX12_init_157 rfl (by decide) zc_171 zs_53 (by decide) ⟨by decide, by decide⟩ (by decide +kernel) ?_
  rw [show Int.toNat 3 = 3 from rfl]
  generalize h140 : zset s133 171 3 101 = s139
  have q141 := zq_el h140 q135 (by decide) (by decide) zc_171 zs_53 (show 0 ≤ (101 : Int) ∧ (101 : Int) ≤ 65535 from ⟨by decide, by decide⟩) (by decide) (by decide)
  have f142 : s139 171 0 = 112 := by rw [← h140]; exact (zset_j (by decide)).trans f136
  have f143 : s139 171 1 = 111 := by rw [← h140]; exact (zset_j (by decide)).trans f137
  have f144 : s139 171 2 = 108 := by rw [← h140]; exact (zset_j (by decide)).trans f138
  have f145 : s139 171 3 = 101 := by rw [← h140]; exact zset_s
  clear f136 f137 f138
  clear h140 q135
  have q146 := zq_row (d := 172) (k := 171) (L := [112, 111, 108, 101]) q141 (by decide) (fun j hj => by have hj : j < 4 := hj; rcases (show j = 0 ∨ j = 1 ∨ j = 2 ∨ j = 3 by omega) with rfl | rfl | rfl | rfl; exact f142; exact f143; exact f144; exact f145)
  clear f142 f143 f144 f145 q141
  refine zt_putF (pc' := 161) (x := ((171 : Nat) : Int)) hX dX12_init_158 rfl hN.1 zf_X12_33 (by decide) zc_164 zs_46 (fun q hq => by cases hq; exact ⟨rfl, rfl⟩) (zrf_of rfl) rfl rfl ?_
  generalize h148 : zset s139 164 15 ((171 : Nat) : Int) = s147
  have q149 := zq_ref (m' := 16) (g := 0) h148 q146 rfl (by decide) rfl (by decide) rfl (by decide)
  clear h148 q146
  refine zt_aload_n (pc' := 162) hX dX12_init_161 rfl rfl ?_
  refine zt_iconst (pc' := 163) hX dX12_init_162 rfl ?_
  refine zt_newaL (pc' := 165) (t := 3) (N := 2) (n' := 173) (cs' := 8) (ss' := 1628) hX dX12_init_163 rfl zw_10_19 rfl (by decide) (by decide) zc_172 zs_54 (by decide) (by decide) (zCs_nx q149.1) rfl rfl rfl ⟨by rw [hN.2.1]; exact Nat.le_of_ble_eq_true rfl, by rw [hN.2.2]; exact Nat.le_of_ble_eq_true rfl⟩ ?_
  have q150 := zq_arr (n' := 173) q149 zc_172 zs_54 (by decide) rfl
  clear q149
  refine zt_dup (pc' := 166) hX dX12_init_165 rfl rfl ?_
  refine zt_iconst (pc' := 167) hX dX12_init_166 rfl ?_
  refine zt_bipush (pc' := 169) hX dX12_init_167 rfl (by decide) (by decide) ?_
  refine zt_cast (pc' := 170) hX dX12_init_169 rfl (by decide) zc_172 zs_54 (by decide) ⟨by decide, by decide⟩ (by decide +kernel) ?_
  rw [show Int.toNat 0 = 0 from rfl]
  generalize h152 : zset s147 172 0 97 = s151
  have q153 := zq_el h152 q150 (by decide) (by decide) zc_172 zs_54 (show 0 ≤ (97 : Int) ∧ (97 : Int) ≤ 65535 from ⟨by decide, by decide⟩) (by decide) (by decide)
  have f154 : s151 172 0 = 97 := by rw [← h152]; exact zset_s
  clear h152 q150
  refine zt_dup (pc' := 171) hX dX12_init_170 rfl rfl ?_
  refine zt_iconst (pc' := 172) hX dX12_init_171 rfl ?_
  refine zt_bipush (pc' := 174) hX dX12_init_172 rfl (by decide) (by decide) ?_
  refine zt_cast (pc' := 175) hX dX12_init_174 rfl (by decide) zc_172 zs_54 (by decide) ⟨by decide, by decide⟩ (by decide +kernel) ?_
  rw [show Int.toNat 1 = 1 from rfl]
  generalize h156 : zset s151 172 1 116 = s155
  have q157 := zq_el h156 q153 (by decide) (by decide) zc_172 zs_54 (show 0 ≤ (116 : Int) ∧ (116 : Int) ≤ 65535 from ⟨by decide, by decide⟩) (by decide) (by decide)
  have f158 : s155 172 0 = 97 := by rw [← h156]; exact (zset_j (by decide)).trans f154
  have f159 : s155 172 1 = 116 := by rw [← h156]; exact zset_s
  clear f154
  clear h156 q153
  have q160 := zq_row (d := 173) (k := 172) (L := [97, 116]) q157 (by decide) (fun j hj => by have hj : j < 2 := hj; rcases (show j = 0 ∨ j = 1 by omega) with rfl | rfl; exact f158; exact f159)
  clear f158 f159 q157
  refine zt_putF (pc' := 178) (x := ((172 : Nat) : Int)) hX dX12_init_175 rfl hN.1 zf_X12_36 (by decide) zc_164 zs_46 (fun q hq => by cases hq; exact ⟨rfl, rfl⟩) (zrf_of rfl) rfl rfl ?_
  generalize h162 : zset s155 164 16 ((172 : Nat) : Int) = s161
  have q163 := zq_ref (m' := 17) (g := 0) h162 q160 rfl (by decide) rfl (by decide) rfl (by decide)
  clear h162 q160
  refine zt_aload_n (pc' := 179) hX dX12_init_178 rfl rfl ?_
  refine zt_iconst (pc' := 180) hX dX12_init_179 rfl ?_
  refine zt_newaL (pc' := 182) (t := 3) (N := 5) (n' := 174) (cs' := 9) (ss' := 1633) hX dX12_init_180 rfl zw_10_19 rfl (by decide) (by decide) zc_173 zs_55 (by decide) (by decide) (zCs_nx q163.1) rfl rfl rfl ⟨by rw [hN.2.1]; exact Nat.le_of_ble_eq_true rfl, by rw [hN.2.2]; exact Nat.le_of_ble_eq_true rfl⟩ ?_
  have q164 := zq_arr (n' := 174) q163 zc_173 zs_55 (by decide) rfl
  clear q163
  refine zt_dup (pc' := 183) hX dX12_init_182 rfl rfl ?_
  refine zt_iconst (pc' := 184) hX dX12_init_183 rfl ?_
  refine zt_bipush (pc' := 186) hX dX12_init_184 rfl (by decide) (by decide) ?_
  refine zt_cast (pc' := 187) hX dX12_init_186 rfl (by decide) zc_173 zs_55 (by decide) ⟨by decide, by decide⟩ (by decide +kernel) ?_
  rw [show Int.toNat 0 = 0 from rfl]
  generalize h166 : zset s161 173 0 108 = s165
  have q167 := zq_el h166 q164 (by decide) (by decide) zc_173 zs_55 (show 0 ≤ (108 : Int) ∧ (108 : Int) ≤ 65535 from ⟨by decide, by decide⟩) (by decide) (by decide)
  have f168 : s165 173 0 = 108 := by rw [← h166]; exact zset_s
  clear h166 q164
  refine zt_dup (pc' := 188) hX dX12_init_187 rfl rfl ?_
  refine zt_iconst (pc' := 189) hX dX12_init_188 rfl ?_
  refine zt_bipush (pc' := 191) hX dX12_init_189 rfl (by decide) (by decide) ?_
  refine zt_cast (pc' := 192) hX dX12_init_191 rfl (by decide) zc_173 zs_55 (by decide) ⟨by decide, by decide⟩ (by decide +kernel) ?_
  rw [show Int.toNat 1 = 1 from rfl]
  generalize h170 : zset s165 173 1 105 = s169
  have q171 := zq_el h170 q167 (by decide) (by decide) zc_173 zs_55 (show 0 ≤ (105 : Int) ∧ (105 : Int) ≤ 65535 from ⟨by decide, by decide⟩) (by decide) (by decide)
  have f172 : s169 173 0 = 108 := by rw [← h170]; exact (zset_j (by decide)).trans f168
  have f173 : s169 173 1 = 105 := by rw [← h170]; exact zset_s
  clear f168
  clear h170 q167
  refine zt_dup (pc' := 193) hX dX12_init_192 rfl rfl ?_
  refine zt_iconst (pc' := 194) hX dX12_init_193 rfl ?_
  refine zt_bipush (pc' := 196) hX dX12_init_194 rfl (by decide) (by decide) ?_
  refine zt_cast (pc' := 197) hX dX12_init_196 rfl (by decide) zc_173 zs_55 (by decide) ⟨by decide, by decide⟩ (by decide +kernel) ?_
  rw [show Int.toNat 2 = 2 from rfl]
  generalize h175 : zset s169 173 2 102 = s174
  have q176 := zq_el h175 q171 (by decide) (by decide) zc_173 zs_55 (show 0 ≤ (102 : Int) ∧ (102 : Int) ≤ 65535 from ⟨by decide, by decide⟩) (by decide) (by decide)
  have f177 : s174 173 0 = 108 := by rw [← h175]; exact (zset_j (by decide)).trans f172
  have f178 : s174 173 1 = 105 := by rw [← h175]; exact (zset_j (by decide)).trans f173
  have f179 : s174 173 2 = 102 := by rw [← h175]; exact zset_s
  clear f172 f173
  clear h175 q171
  refine zt_dup (pc' := 198) hX dX12_init_197 rfl rfl ?_
  refine zt_iconst (pc' := 199) hX dX12_init_198 rfl ?_
  refine zt_bipush (pc' := 201) hX dX12_init_199 rfl (by decide) (by decide) ?_
  refine zt_cast (pc' := 202) hX dX12_init_201 rfl (by decide) zc_173 zs_55 (by decide) ⟨by decide, by decide⟩ (by decide +kernel) ?_
  rw [show Int.toNat 3 = 3 from rfl]
  generalize h181 : zset s174 173 3 116 = s180
  have q182 := zq_el h181 q176 (by decide) (by decide) zc_173 zs_55 (show 0 ≤ (116 : Int) ∧ (116 : Int) ≤ 65535 from ⟨by decide, by decide⟩) (by decide) (by decide)
  have f183 : s180 173 0 = 108 := by rw [← h181]; exact (zset_j (by decide)).trans f177
  have f184 : s180 173 1 = 105 := by rw [← h181]; exact (zset_j (by decide)).trans f178
  have f185 : s180 173 2 = 102 := by rw [← h181]; exact (zset_j (by decide)).trans f179
  have f186 : s180 173 3 = 116 := by rw [← h181]; exact zset_s
  clear f177 f178 f179
  clear h181 q176
  refine zt_dup (pc' := 203) hX dX12_init_202 rfl rfl ?_
  refine zt_iconst (pc' := 204) hX dX12_init_203 rfl ?_
  refine zt_bipush (pc' := 206) hX dX12_init_204 rfl (by decide) (by decide) ?_
  refine zt_cast (pc' := 207) hX dX12_init_206 rfl (by decide) zc_173 zs_55 (by decide) ⟨by decide, by decide⟩ (by decide +kernel) ?_
  rw [show Int.toNat 4 = 4 from rfl]
  generalize h188 : zset s180 173 4 115 = s187
  have q189 := zq_el h188 q182 (by decide) (by decide) zc_173 zs_55 (show 0 ≤ (115 : Int) ∧ (115 : Int) ≤ 65535 from ⟨by decide, by decide⟩) (by decide) (by decide)
  have f190 : s187 173 0 = 108 := by rw [← h188]; exact (zset_j (by decide)).trans f183
  have f191 : s187 173 1 = 105 := by rw [← h188]; exact (zset_j (by decide)).trans f184
  have f192 : s187 173 2 = 102 := by rw [← h188]; exact (zset_j (by decide)).trans f185
  have f193 : s187 173 3 = 116 := by rw [← h188]; exact (zset_j (by decide)).trans f186
  have f194 : s187 173 4 = 115 := by rw [← h188]; exact zset_s
  clear f183 f184 f185 f186
  clear h188 q182
  have q195 := zq_row (d := 174) (k := 173) (L := [108, 105, 102, 116, 115]) q189 (by decide) (fun j hj => by have hj : j < 5 := hj; rcases (show j = 0 ∨ j = 1 ∨ j = 2 ∨ j = 3 ∨ j = 4 by omega) with rfl | rfl | rfl | rfl | rfl; exact f190; exact f191; exact f192; exact f193; exact f194)
  clear f190 f191 f192 f193 f194 q189
  refine zt_putF (pc' := 210) (x := ((173 : Nat) : Int)) hX dX12_init_207 rfl hN.1 zf_X12_39 (by decide) zc_164 zs_46 (fun q hq => by cases hq; exact ⟨rfl, rfl⟩) (zrf_of rfl) rfl rfl ?_
  generalize h197 : zset s187 164 17 ((173 : Nat) : Int) = s196
  have q198 := zq_ref (m' := 18) (g := 0) h197 q195 rfl (by decide) rfl (by decide) rfl (by decide)
  clear h197 q195
  refine zt_aload_n (pc' := 211) hX dX12_init_210 rfl rfl ?_
  refine zt_iconst (pc' := 212) hX dX12_init_211 rfl ?_
  refine zt_newaL (pc' := 214) (t := 3) (N := 4) (n' := 175) (cs' := 10) (ss' := 1637) hX dX12_init_212 rfl zw_10_19 rfl (by decide) (by decide) zc_174 zs_56 (by decide) (by decide) (zCs_nx q198.1) rfl rfl rfl ⟨by rw [hN.2.1]; exact Nat.le_of_ble_eq_true rfl, by rw [hN.2.2]; exact Nat.le_of_ble_eq_true rfl⟩ ?_
  have q199 := zq_arr (n' := 175) q198 zc_174 zs_56 (by decide) rfl
  clear q198
  refine zt_dup (pc' := 215) hX dX12_init_214 rfl rfl ?_
  refine zt_iconst (pc' := 216) hX dX12_init_215 rfl ?_
  refine zt_bipush (pc' := 218) hX dX12_init_216 rfl (by decide) (by decide) ?_
  refine zt_cast (pc' := 219) hX dX12_init_218 rfl (by decide) zc_174 zs_56 (by decide) ⟨by decide, by decide⟩ (by decide +kernel) ?_
  rw [show Int.toNat 0 = 0 from rfl]
  generalize h201 : zset s196 174 0 97 = s200
  have q202 := zq_el h201 q199 (by decide) (by decide) zc_174 zs_56 (show 0 ≤ (97 : Int) ∧ (97 : Int) ≤ 65535 from ⟨by decide, by decide⟩) (by decide) (by decide)
  have f203 : s200 174 0 = 97 := by rw [← h201]; exact zset_s
  clear h201 q199
  refine zt_dup (pc' := 220) hX dX12_init_219 rfl rfl ?_
  refine zt_iconst (pc' := 221) hX dX12_init_220 rfl ?_
  refine zt_bipush (pc' := 223) hX dX12_init_221 rfl (by decide) (by decide) ?_
  refine zt_cast (pc' := 224) hX dX12_init_223 rfl (by decide) zc_174 zs_56 (by decide) ⟨by decide, by decide⟩ (by decide +kernel) ?_
  rw [show Int.toNat 1 = 1 from rfl]
  generalize h205 : zset s200 174 1 100 = s204
  have q206 := zq_el h205 q202 (by decide) (by decide) zc_174 zs_56 (show 0 ≤ (100 : Int) ∧ (100 : Int) ≤ 65535 from ⟨by decide, by decide⟩) (by decide) (by decide)
  have f207 : s204 174 0 = 97 := by rw [← h205]; exact (zset_j (by decide)).trans f203
  have f208 : s204 174 1 = 100 := by rw [← h205]; exact zset_s
  clear f203
  clear h205 q202
  refine zt_dup (pc' := 225) hX dX12_init_224 rfl rfl ?_
  refine zt_iconst (pc' := 226) hX dX12_init_225 rfl ?_
  refine zt_bipush (pc' := 228) hX dX12_init_226 rfl (by decide) (by decide) ?_
  refine zt_cast (pc' := 229) hX dX12_init_228 rfl (by decide) zc_174 zs_56 (by decide) ⟨by decide, by decide⟩ (by decide +kernel) ?_
  rw [show Int.toNat 2 = 2 from rfl]
  generalize h210 : zset s204 174 2 100 = s209
  have q211 := zq_el h210 q206 (by decide) (by decide) zc_174 zs_56 (show 0 ≤ (100 : Int) ∧ (100 : Int) ≤ 65535 from ⟨by decide, by decide⟩) (by decide) (by decide)
  have f212 : s209 174 0 = 97 := by rw [← h210]; exact (zset_j (by decide)).trans f207
  have f213 : s209 174 1 = 100 := by rw [← h210]; exact (zset_j (by decide)).trans f208
  have f214 : s209 174 2 = 100 := by rw [← h210]; exact zset_s
  clear f207 f208
  clear h210 q206
  refine zt_dup (pc' := 230) hX dX12_init_229 rfl rfl ?_
  refine zt_iconst (pc' := 231) hX dX12_init_230 rfl ?_
  refine zt_bipush (pc' := 233) hX dX12_init_231 rfl (by decide) (by decide) ?_
  refine zt_cast (pc' := 234) hX dX12_init_233 rfl (by decide) zc_174 zs_56 (by decide) ⟨by decide, by decide⟩ (by decide +kernel) ?_
  rw [show Int.toNat 3 = 3 from rfl]
  generalize h216 : zset s209 174 3 115 = s215
  have q217 := zq_el h216 q211 (by decide) (by decide) zc_174 zs_56 (show 0 ≤ (115 : Int) ∧ (115 : Int) ≤ 65535 from ⟨by decide, by decide⟩) (by decide) (by decide)
  have f218 : s215 174 0 = 97 := by rw [← h216]; exact (zset_j (by decide)).trans f212
  have f219 : s215 174 1 = 100 := by rw [← h216]; exact (zset_j (by decide)).trans f213
  have f220 : s215 174 2 = 100 := by rw [← h216]; exact (zset_j (by decide)).trans f214
  have f221 : s215 174 3 = 115 := by rw [← h216]; exact zset_s
  clear f212 f213 f214
  clear h216 q211
  have q222 := zq_row (d := 175) (k := 174) (L := [97, 100, 100, 115]) q217 (by decide) (fun j hj => by have hj : j < 4 := hj; rcases (show j = 0 ∨ j = 1 ∨ j = 2 ∨ j = 3 by omega) with rfl | rfl | rfl | rfl; exact f218; exact f219; exact f220; exact f221)
  clear f218 f219 f220 f221 q217
  refine zt_putF (pc' := 237) (x := ((174 : Nat) : Int)) hX dX12_init_234 rfl hN.1 zf_X12_42 (by decide) zc_164 zs_46 (fun q hq => by cases hq; exact ⟨rfl, rfl⟩) (zrf_of rfl) rfl rfl ?_
  generalize h224 : zset s215 164 18 ((174 : Nat) : Int) = s223
  have q225 := zq_ref (m' := 19) (g := 0) h224 q222 rfl (by decide) rfl (by decide) rfl (by decide)
  clear h224 q222
  refine zt_aload_n (pc' := 238) hX dX12_init_237 rfl rfl ?_
  refine zt_iconst (pc' := 239) hX dX12_init_238 rfl ?_
  refine zt_newaL (pc' := 241) (t := 3) (N := 5) (n' := 176) (cs' := 11) (ss' := 1642) hX dX12_init_239 rfl zw_10_19 rfl (by decide) (by decide) zc_175 zs_57 (by decide) (by decide) (zCs_nx q225.1) rfl rfl rfl ⟨by rw [hN.2.1]; exact Nat.le_of_ble_eq_true rfl, by rw [hN.2.2]; exact Nat.le_of_ble_eq_true rfl⟩ ?_
  have q226 := zq_arr (n' := 176) q225 zc_175 zs_57 (by decide) rfl
  clear q225
  refine zt_dup (pc' := 242) hX dX12_init_241 rfl rfl ?_
  refine zt_iconst (pc' := 243) hX dX12_init_242 rfl ?_
  refine zt_bipush (pc' := 245) hX dX12_init_243 rfl (by decide) (by decide) ?_
  refine zt_cast (pc' := 246) hX dX12_init_245 rfl (by decide) zc_175 zs_57 (by decide) ⟨by decide, by decide⟩ (by decide +kernel) ?_
  rw [show Int.toNat 0 = 0 from rfl]
  generalize h228 : zset s223 175 0 104 = s227
  have q229 := zq_el h228 q226 (by decide) (by decide) zc_175 zs_57 (show 0 ≤ (104 : Int) ∧ (104 : Int) ≤ 65535 from ⟨by decide, by decide⟩) (by decide) (by decide)
  have f230 : s227 175 0 = 104 := by rw [← h228]; exact zset_s
  clear h228 q226
  refine zt_dup (pc' := 247) hX dX12_init_246 rfl rfl ?_
  refine zt_iconst (pc' := 248) hX dX12_init_247 rfl ?_
  refine zt_bipush (pc' := 250) hX dX12_init_248 rfl (by decide) (by decide) ?_
  refine zt_cast (pc' := 251) hX dX12_init_250 rfl (by decide) zc_175 zs_57 (by decide) ⟨by decide, by decide⟩ (by decide +kernel) ?_
  rw [show Int.toNat 1 = 1 from rfl]
  generalize h232 : zset s227 175 1 111 = s231
  have q233 := zq_el h232 q229 (by decide) (by decide) zc_175 zs_57 (show 0 ≤ (111 : Int) ∧ (111 : Int) ≤ 65535 from ⟨by decide, by decide⟩) (by decide) (by decide)
  have f234 : s231 175 0 = 104 := by rw [← h232]; exact (zset_j (by decide)).trans f230
  have f235 : s231 175 1 = 111 := by rw [← h232]; exact zset_s
  clear f230
  clear h232 q229
  refine zt_dup (pc' := 252) hX dX12_init_251 rfl rfl ?_
  refine zt_iconst (pc' := 253) hX dX12_init_252 rfl ?_
  refine zt_bipush (pc' := 255) hX dX12_init_253 rfl (by decide) (by decide) ?_
  refine zt_cast (pc' := 256) hX dX12_init_255 rfl (by decide) zc_175 zs_57 (by decide) ⟨by decide, by decide⟩ (by decide +kernel) ?_
  rw [show Int.toNat 2 = 2 from rfl]
  generalize h237 : zset s231 175 2 108 = s236
  have q238 := zq_el h237 q233 (by decide) (by decide) zc_175 zs_57 (show 0 ≤ (108 : Int) ∧ (108 : Int) ≤ 65535 from ⟨by decide, by decide⟩) (by decide) (by decide)
  have f239 : s236 175 0 = 104 := by rw [← h237]; exact (zset_j (by decide)).trans f234
  have f240 : s236 175 1 = 111 := by rw [← h237]; exact (zset_j (by decide)).trans f235
  have f241 : s236 175 2 = 108 := by rw [← h237]; exact zset_s
  clear f234 f235
  clear h237 q233
  refine zt_dup (pc' := 257) hX dX12_init_256 rfl rfl ?_
  refine zt_iconst (pc' := 258) hX dX12_init_257 rfl ?_
  refine zt_bipush (pc' := 260) hX dX12_init_258 rfl (by decide) (by decide) ?_
  refine zt_cast (pc' := 261) hX dX12_init_260 rfl (by decide) zc_175 zs_57 (by decide) ⟨by decide, by decide⟩ (by decide +kernel) ?_
  rw [show Int.toNat 3 = 3 from rfl]
  generalize h243 : zset s236 175 3 100 = s242
  have q244 := zq_el h243 q238 (by decide) (by decide) zc_175 zs_57 (show 0 ≤ (100 : Int) ∧ (100 : Int) ≤ 65535 from ⟨by decide, by decide⟩) (by decide) (by decide)
  have f245 : s242 175 0 = 104 := by rw [← h243]; exact (zset_j (by decide)).trans f239
  have f246 : s242 175 1 = 111 := by rw [← h243]; exact (zset_j (by decide)).trans f240
  have f247 : s242 175 2 = 108 := by rw [← h243]; exact (zset_j (by decide)).trans f241
  have f248 : s242 175 3 = 100 := by rw [← h243]; exact zset_s
  clear f239 f240 f241
  clear h243 q238
  refine zt_dup (pc' := 262) hX dX12_init_261 rfl rfl ?_
  refine zt_iconst (pc' := 263) hX dX12_init_262 rfl ?_
  refine zt_bipush (pc' := 265) hX dX12_init_263 rfl (by decide) (by decide) ?_
  refine zt_cast (pc' := 266) hX dX12_init_265 rfl (by decide) zc_175 zs_57 (by decide) ⟨by decide, by decide⟩ (by decide +kernel) ?_
  rw [show Int.toNat 4 = 4 from rfl]
  generalize h250 : zset s242 175 4 115 = s249
  have q251 := zq_el h250 q244 (by decide) (by decide) zc_175 zs_57 (show 0 ≤ (115 : Int) ∧ (115 : Int) ≤ 65535 from ⟨by decide, by decide⟩) (by decide) (by decide)
  have f252 : s249 175 0 = 104 := by rw [← h250]; exact (zset_j (by decide)).trans f245
  have f253 : s249 175 1 = 111 := by rw [← h250]; exact (zset_j (by decide)).trans f246
  have f254 : s249 175 2 = 108 := by rw [← h250]; exact (zset_j (by decide)).trans f247
  have f255 : s249 175 3 = 100 := by rw [← h250]; exact (zset_j (by decide)).trans f248
  have f256 : s249 175 4 = 115 := by rw [← h250]; exact zset_s
  clear f245 f246 f247 f248
  clear h250 q244
  have q257 := zq_row (d := 176) (k := 175) (L := [104, 111, 108, 100, 115]) q251 (by decide) (fun j hj => by have hj : j < 5 := hj; rcases (show j = 0 ∨ j = 1 ∨ j = 2 ∨ j = 3 ∨ j = 4 by omega) with rfl | rfl | rfl | rfl | rfl; exact f252; exact f253; exact f254; exact f255; exact f256)
  clear f252 f253 f254 f255 f256 q251
  refine zt_putF (pc' := 269) (x := ((175 : Nat) : Int)) hX dX12_init_266 rfl hN.1 zf_X12_45 (by decide) zc_164 zs_46 (fun q hq => by cases hq; exact ⟨rfl, rfl⟩) (zrf_of rfl) rfl rfl ?_
  generalize h259 : zset s249 164 19 ((175 : Nat) : Int) = s258
  have q260 := zq_ref (m' := 20) (g := 0) h259 q257 rfl (by decide) rfl (by decide) rfl (by decide)
  clear h259 q257
  exact K s258 q260

set_option maxRecDepth 100000 in
set_option maxHeartbeats 4000000 in
theorem zxm_2 {X : zCX} {σ s : zSto} (hX : zok X cX12_init RX12 1) (hN : X.2.2.2.2.2.2.2.2.2.1.name = yX12_init.name ∧ X.2.2.2.2.1.cells = 73 ∧ X.2.2.2.2.1.slots = 16482) (q : zQm (0) (0) (-1) 176 σ s 20 176) (K : ∀ s' : zSto, zQm (0) (0) (-1) 181 σ s' 25 181 → zZ X 181 16 1666 s' 425 [some (.ref (X.1.1 + 164))] []) : zZ X 176 11 1642 s 269 [some (.ref (X.1.1 + 164))] [] := by
  refine zt_aload_n (pc' := 270) hX dX12_init_269 rfl rfl ?_
  refine zt_iconst (pc' := 271) hX dX12_init_270 rfl ?_
  refine zt_newaL (pc' := 273) (t := 3) (N := 5) (n' := 177) (cs' := 12) (ss' := 1647) hX dX12_init_271 rfl zw_10_19 rfl (by decide) (by decide) zc_176 zs_58 (by decide) (by decide) (zCs_nx q.1) rfl rfl rfl ⟨by rw [hN.2.1]; exact Nat.le_of_ble_eq_true rfl, by rw [hN.2.2]; exact Nat.le_of_ble_eq_true rfl⟩ ?_
  have q261 := zq_arr (n' := 177) q zc_176 zs_58 (by decide) rfl
  refine zt_dup (pc' := 274) hX dX12_init_273 rfl rfl ?_
  refine zt_iconst (pc' := 275) hX dX12_init_274 rfl ?_
  refine zt_bipush (pc' := 277) hX dX12_init_275 rfl (by decide) (by decide) ?_
  refine zt_cast (pc' := 278) hX dX12_init_277 rfl (by decide) zc_176 zs_58 (by decide) ⟨by decide, by decide⟩ (by decide +kernel) ?_
  rw [show Int.toNat 0 = 0 from rfl]
  generalize h263 : zset s 176 0 102 = s262
  have q264 := zq_el h263 q261 (by decide) (by decide) zc_176 zs_58 (show 0 ≤ (102 : Int) ∧ (102 : Int) ≤ 65535 from ⟨by decide, by decide⟩) (by decide) (by decide)
  have f265 : s262 176 0 = 102 := by rw [← h263]; exact zset_s
  clear h263 q261
  refine zt_dup (pc' := 279) hX dX12_init_278 rfl rfl ?_
  refine zt_iconst (pc' := 280) hX dX12_init_279 rfl ?_
  refine zt_bipush (pc' := 282) hX dX12_init_280 rfl (by decide) (by decide) ?_
  refine zt_cast (pc' := 283) hX dX12_init_282 rfl (by decide) zc_176 zs_58 (by decide) ⟨by decide, by decide⟩ (by decide +kernel) ?_
  rw [show Int.toNat 1 = 1 from rfl]
  generalize h267 : zset s262 176 1 97 = s266
  have q268 := zq_el h267 q264 (by decide) (by decide) zc_176 zs_58 (show 0 ≤ (97 : Int) ∧ (97 : Int) ≤ 65535 from ⟨by decide, by decide⟩) (by decide) (by decide)
  have f269 : s266 176 0 = 102 := by rw [← h267]; exact (zset_j (by decide)).trans f265
  have f270 : s266 176 1 = 97 := by rw [← h267]; exact zset_s
  clear f265
  clear h267 q264
  refine zt_dup (pc' := 284) hX dX12_init_283 rfl rfl ?_
  refine zt_iconst (pc' := 285) hX dX12_init_284 rfl ?_
  refine zt_bipush (pc' := 287) hX dX12_init_285 rfl (by decide) (by decide) ?_
  refine zt_cast (pc' := 288) hX dX12_init_287 rfl (by decide) zc_176 zs_58 (by decide) ⟨by decide, by decide⟩ (by decide +kernel) ?_
  rw [show Int.toNat 2 = 2 from rfl]
  generalize h272 : zset s266 176 2 100 = s271
  have q273 := zq_el h272 q268 (by decide) (by decide) zc_176 zs_58 (show 0 ≤ (100 : Int) ∧ (100 : Int) ≤ 65535 from ⟨by decide, by decide⟩) (by decide) (by decide)
  have f274 : s271 176 0 = 102 := by rw [← h272]; exact (zset_j (by decide)).trans f269
  have f275 : s271 176 1 = 97 := by rw [← h272]; exact (zset_j (by decide)).trans f270
  have f276 : s271 176 2 = 100 := by rw [← h272]; exact zset_s
  clear f269 f270
  clear h272 q268
  refine zt_dup (pc' := 289) hX dX12_init_288 rfl rfl ?_
  refine zt_iconst (pc' := 290) hX dX12_init_289 rfl ?_
  refine zt_bipush (pc' := 292) hX dX12_init_290 rfl (by decide) (by decide) ?_
  refine zt_cast (pc' := 293) hX dX12_init_292 rfl (by decide) zc_176 zs_58 (by decide) ⟨by decide, by decide⟩ (by decide +kernel) ?_
  rw [show Int.toNat 3 = 3 from rfl]
  generalize h278 : zset s271 176 3 101 = s277
  have q279 := zq_el h278 q273 (by decide) (by decide) zc_176 zs_58 (show 0 ≤ (101 : Int) ∧ (101 : Int) ≤ 65535 from ⟨by decide, by decide⟩) (by decide) (by decide)
  have f280 : s277 176 0 = 102 := by rw [← h278]; exact (zset_j (by decide)).trans f274
  have f281 : s277 176 1 = 97 := by rw [← h278]; exact (zset_j (by decide)).trans f275
  have f282 : s277 176 2 = 100 := by rw [← h278]; exact (zset_j (by decide)).trans f276
  have f283 : s277 176 3 = 101 := by rw [← h278]; exact zset_s
  clear f274 f275 f276
  clear h278 q273
  refine zt_dup (pc' := 294) hX dX12_init_293 rfl rfl ?_
  refine zt_iconst (pc' := 295) hX dX12_init_294 rfl ?_
  refine zt_bipush (pc' := 297) hX dX12_init_295 rfl (by decide) (by decide) ?_
  refine zt_cast (pc' := 298) hX dX12_init_297 rfl (by decide) zc_176 zs_58 (by decide) ⟨by decide, by decide⟩ (by decide +kernel) ?_
  rw [show Int.toNat 4 = 4 from rfl]
  generalize h285 : zset s277 176 4 115 = s284
  have q286 := zq_el h285 q279 (by decide) (by decide) zc_176 zs_58 (show 0 ≤ (115 : Int) ∧ (115 : Int) ≤ 65535 from ⟨by decide, by decide⟩) (by decide) (by decide)
  have f287 : s284 176 0 = 102 := by rw [← h285]; exact (zset_j (by decide)).trans f280
  have f288 : s284 176 1 = 97 := by rw [← h285]; exact (zset_j (by decide)).trans f281
  have f289 : s284 176 2 = 100 := by rw [← h285]; exact (zset_j (by decide)).trans f282
  have f290 : s284 176 3 = 101 := by rw [← h285]; exact (zset_j (by decide)).trans f283
  have f291 : s284 176 4 = 115 := by rw [← h285]; exact zset_s
  clear f280 f281 f282 f283
  clear h285 q279
  have q292 := zq_row (d := 177) (k := 176) (L := [102, 97, 100, 101, 115]) q286 (by decide) (fun j hj => by have hj : j < 5 := hj; rcases (show j = 0 ∨ j = 1 ∨ j = 2 ∨ j = 3 ∨ j = 4 by omega) with rfl | rfl | rfl | rfl | rfl; exact f287; exact f288; exact f289; exact f290; exact f291)
  clear f287 f288 f289 f290 f291 q286
  refine zt_putF (pc' := 301) (x := ((176 : Nat) : Int)) hX dX12_init_298 rfl hN.1 zf_X12_48 (by decide) zc_164 zs_46 (fun q hq => by cases hq; exact ⟨rfl, rfl⟩) (zrf_of rfl) rfl rfl ?_
  generalize h294 : zset s284 164 20 ((176 : Nat) : Int) = s293
  have q295 := zq_ref (m' := 21) (g := 0) h294 q292 rfl (by decide) rfl (by decide) rfl (by decide)
  clear h294 q292
  refine zt_aload_n (pc' := 302) hX dX12_init_301 rfl rfl ?_
  refine zt_iconst (pc' := 303) hX dX12_init_302 rfl ?_
  refine zt_newaL (pc' := 305) (t := 3) (N := 5) (n' := 178) (cs' := 13) (ss' := 1652) hX dX12_init_303 rfl zw_10_19 rfl (by decide) (by decide) zc_177 zs_59 (by decide) (by decide) (zCs_nx q295.1) rfl rfl rfl ⟨by rw [hN.2.1]; exact Nat.le_of_ble_eq_true rfl, by rw [hN.2.2]; exact Nat.le_of_ble_eq_true rfl⟩ ?_
  have q296 := zq_arr (n' := 178) q295 zc_177 zs_59 (by decide) rfl
  clear q295
  refine zt_dup (pc' := 306) hX dX12_init_305 rfl rfl ?_
  refine zt_iconst (pc' := 307) hX dX12_init_306 rfl ?_
  refine zt_bipush (pc' := 309) hX dX12_init_307 rfl (by decide) (by decide) ?_
  refine zt_cast (pc' := 310) hX dX12_init_309 rfl (by decide) zc_177 zs_59 (by decide) ⟨by decide, by decide⟩ (by decide +kernel) ?_
  rw [show Int.toNat 0 = 0 from rfl]
  generalize h298 : zset s293 177 0 115 = s297
  have q299 := zq_el h298 q296 (by decide) (by decide) zc_177 zs_59 (show 0 ≤ (115 : Int) ∧ (115 : Int) ≤ 65535 from ⟨by decide, by decide⟩) (by decide) (by decide)
  have f300 : s297 177 0 = 115 := by rw [← h298]; exact zset_s
  clear h298 q296
  refine zt_dup (pc' := 311) hX dX12_init_310 rfl rfl ?_
  refine zt_iconst (pc' := 312) hX dX12_init_311 rfl ?_
  refine zt_bipush (pc' := 314) hX dX12_init_312 rfl (by decide) (by decide) ?_
  refine zt_cast (pc' := 315) hX dX12_init_314 rfl (by decide) zc_177 zs_59 (by decide) ⟨by decide, by decide⟩ (by decide +kernel) ?_
  rw [show Int.toNat 1 = 1 from rfl]
  generalize h302 : zset s297 177 1 116 = s301
  have q303 := zq_el h302 q299 (by decide) (by decide) zc_177 zs_59 (show 0 ≤ (116 : Int) ∧ (116 : Int) ≤ 65535 from ⟨by decide, by decide⟩) (by decide) (by decide)
  have f304 : s301 177 0 = 115 := by rw [← h302]; exact (zset_j (by decide)).trans f300
  have f305 : s301 177 1 = 116 := by rw [← h302]; exact zset_s
  clear f300
  clear h302 q299
  refine zt_dup (pc' := 316) hX dX12_init_315 rfl rfl ?_
  refine zt_iconst (pc' := 317) hX dX12_init_316 rfl ?_
  refine zt_bipush (pc' := 319) hX dX12_init_317 rfl (by decide) (by decide) ?_
  refine zt_cast (pc' := 320) hX dX12_init_319 rfl (by decide) zc_177 zs_59 (by decide) ⟨by decide, by decide⟩ (by decide +kernel) ?_
  rw [show Int.toNat 2 = 2 from rfl]
  generalize h307 : zset s301 177 2 111 = s306
  have q308 := zq_el h307 q303 (by decide) (by decide) zc_177 zs_59 (show 0 ≤ (111 : Int) ∧ (111 : Int) ≤ 65535 from ⟨by decide, by decide⟩) (by decide) (by decide)
  have f309 : s306 177 0 = 115 := by rw [← h307]; exact (zset_j (by decide)).trans f304
  have f310 : s306 177 1 = 116 := by rw [← h307]; exact (zset_j (by decide)).trans f305
  have f311 : s306 177 2 = 111 := by rw [← h307]; exact zset_s
  clear f304 f305
  clear h307 q303
  refine zt_dup (pc' := 321) hX dX12_init_320 rfl rfl ?_
  refine zt_iconst (pc' := 322) hX dX12_init_321 rfl ?_
  refine zt_bipush (pc' := 324) hX dX12_init_322 rfl (by decide) (by decide) ?_
  refine zt_cast (pc' := 325) hX dX12_init_324 rfl (by decide) zc_177 zs_59 (by decide) ⟨by decide, by decide⟩ (by decide +kernel) ?_
  rw [show Int.toNat 3 = 3 from rfl]
  generalize h313 : zset s306 177 3 110 = s312
  have q314 := zq_el h313 q308 (by decide) (by decide) zc_177 zs_59 (show 0 ≤ (110 : Int) ∧ (110 : Int) ≤ 65535 from ⟨by decide, by decide⟩) (by decide) (by decide)
  have f315 : s312 177 0 = 115 := by rw [← h313]; exact (zset_j (by decide)).trans f309
  have f316 : s312 177 1 = 116 := by rw [← h313]; exact (zset_j (by decide)).trans f310
  have f317 : s312 177 2 = 111 := by rw [← h313]; exact (zset_j (by decide)).trans f311
  have f318 : s312 177 3 = 110 := by rw [← h313]; exact zset_s
  clear f309 f310 f311
  clear h313 q308
  refine zt_dup (pc' := 326) hX dX12_init_325 rfl rfl ?_
  refine zt_iconst (pc' := 327) hX dX12_init_326 rfl ?_
  refine zt_bipush (pc' := 329) hX dX12_init_327 rfl (by decide) (by decide) ?_
  refine zt_cast (pc' := 330) hX dX12_init_329 rfl (by decide) zc_177 zs_59 (by decide) ⟨by decide, by decide⟩ (by decide +kernel) ?_
  rw [show Int.toNat 4 = 4 from rfl]
  generalize h320 : zset s312 177 4 101 = s319
  have q321 := zq_el h320 q314 (by decide) (by decide) zc_177 zs_59 (show 0 ≤ (101 : Int) ∧ (101 : Int) ≤ 65535 from ⟨by decide, by decide⟩) (by decide) (by decide)
  have f322 : s319 177 0 = 115 := by rw [← h320]; exact (zset_j (by decide)).trans f315
  have f323 : s319 177 1 = 116 := by rw [← h320]; exact (zset_j (by decide)).trans f316
  have f324 : s319 177 2 = 111 := by rw [← h320]; exact (zset_j (by decide)).trans f317
  have f325 : s319 177 3 = 110 := by rw [← h320]; exact (zset_j (by decide)).trans f318
  have f326 : s319 177 4 = 101 := by rw [← h320]; exact zset_s
  clear f315 f316 f317 f318
  clear h320 q314
  have q327 := zq_row (d := 178) (k := 177) (L := [115, 116, 111, 110, 101]) q321 (by decide) (fun j hj => by have hj : j < 5 := hj; rcases (show j = 0 ∨ j = 1 ∨ j = 2 ∨ j = 3 ∨ j = 4 by omega) with rfl | rfl | rfl | rfl | rfl; exact f322; exact f323; exact f324; exact f325; exact f326)
  clear f322 f323 f324 f325 f326 q321
  refine zt_putF (pc' := 333) (x := ((177 : Nat) : Int)) hX dX12_init_330 rfl hN.1 zf_X12_51 (by decide) zc_164 zs_46 (fun q hq => by cases hq; exact ⟨rfl, rfl⟩) (zrf_of rfl) rfl rfl ?_
  generalize h329 : zset s319 164 21 ((177 : Nat) : Int) = s328
  have q330 := zq_ref (m' := 22) (g := 0) h329 q327 rfl (by decide) rfl (by decide) rfl (by decide)
  clear h329 q327
  refine zt_aload_n (pc' := 334) hX dX12_init_333 rfl rfl ?_
  refine zt_iconst (pc' := 335) hX dX12_init_334 rfl ?_
  refine zt_newaL (pc' := 337) (t := 3) (N := 4) (n' := 179) (cs' := 14) (ss' := 1656) hX dX12_init_335 rfl zw_10_19 rfl (by decide) (by decide) zc_178 zs_60 (by decide) (by decide) (zCs_nx q330.1) rfl rfl rfl ⟨by rw [hN.2.1]; exact Nat.le_of_ble_eq_true rfl, by rw [hN.2.2]; exact Nat.le_of_ble_eq_true rfl⟩ ?_
  have q331 := zq_arr (n' := 179) q330 zc_178 zs_60 (by decide) rfl
  clear q330
  refine zt_dup (pc' := 338) hX dX12_init_337 rfl rfl ?_
  refine zt_iconst (pc' := 339) hX dX12_init_338 rfl ?_
  refine zt_bipush (pc' := 341) hX dX12_init_339 rfl (by decide) (by decide) ?_
  refine zt_cast (pc' := 342) hX dX12_init_341 rfl (by decide) zc_178 zs_60 (by decide) ⟨by decide, by decide⟩ (by decide +kernel) ?_
  rw [show Int.toNat 0 = 0 from rfl]
  generalize h333 : zset s328 178 0 104 = s332
  have q334 := zq_el h333 q331 (by decide) (by decide) zc_178 zs_60 (show 0 ≤ (104 : Int) ∧ (104 : Int) ≤ 65535 from ⟨by decide, by decide⟩) (by decide) (by decide)
  have f335 : s332 178 0 = 104 := by rw [← h333]; exact zset_s
  clear h333 q331
  refine zt_dup (pc' := 343) hX dX12_init_342 rfl rfl ?_
  refine zt_iconst (pc' := 344) hX dX12_init_343 rfl ?_
  refine zt_bipush (pc' := 346) hX dX12_init_344 rfl (by decide) (by decide) ?_
  refine zt_cast (pc' := 347) hX dX12_init_346 rfl (by decide) zc_178 zs_60 (by decide) ⟨by decide, by decide⟩ (by decide +kernel) ?_
  rw [show Int.toNat 1 = 1 from rfl]
  generalize h337 : zset s332 178 1 97 = s336
  have q338 := zq_el h337 q334 (by decide) (by decide) zc_178 zs_60 (show 0 ≤ (97 : Int) ∧ (97 : Int) ≤ 65535 from ⟨by decide, by decide⟩) (by decide) (by decide)
  have f339 : s336 178 0 = 104 := by rw [← h337]; exact (zset_j (by decide)).trans f335
  have f340 : s336 178 1 = 97 := by rw [← h337]; exact zset_s
  clear f335
  clear h337 q334
  refine zt_dup (pc' := 348) hX dX12_init_347 rfl rfl ?_
  refine zt_iconst (pc' := 349) hX dX12_init_348 rfl ?_
  refine zt_bipush (pc' := 351) hX dX12_init_349 rfl (by decide) (by decide) ?_
  refine zt_cast (pc' := 352) hX dX12_init_351 rfl (by decide) zc_178 zs_60 (by decide) ⟨by decide, by decide⟩ (by decide +kernel) ?_
  rw [show Int.toNat 2 = 2 from rfl]
  generalize h342 : zset s336 178 2 105 = s341
  have q343 := zq_el h342 q338 (by decide) (by decide) zc_178 zs_60 (show 0 ≤ (105 : Int) ∧ (105 : Int) ≤ 65535 from ⟨by decide, by decide⟩) (by decide) (by decide)
  have f344 : s341 178 0 = 104 := by rw [← h342]; exact (zset_j (by decide)).trans f339
  have f345 : s341 178 1 = 97 := by rw [← h342]; exact (zset_j (by decide)).trans f340
  have f346 : s341 178 2 = 105 := by rw [← h342]; exact zset_s
  clear f339 f340
  clear h342 q338
  refine zt_dup (pc' := 353) hX dX12_init_352 rfl rfl ?_
  refine zt_iconst (pc' := 354) hX dX12_init_353 rfl ?_
  refine zt_bipush (pc' := 356) hX dX12_init_354 rfl (by decide) (by decide) ?_
  refine zt_cast (pc' := 357) hX dX12_init_356 rfl (by decide) zc_178 zs_60 (by decide) ⟨by decide, by decide⟩ (by decide +kernel) ?_
  rw [show Int.toNat 3 = 3 from rfl]
  generalize h348 : zset s341 178 3 108 = s347
  have q349 := zq_el h348 q343 (by decide) (by decide) zc_178 zs_60 (show 0 ≤ (108 : Int) ∧ (108 : Int) ≤ 65535 from ⟨by decide, by decide⟩) (by decide) (by decide)
  have f350 : s347 178 0 = 104 := by rw [← h348]; exact (zset_j (by decide)).trans f344
  have f351 : s347 178 1 = 97 := by rw [← h348]; exact (zset_j (by decide)).trans f345
  have f352 : s347 178 2 = 105 := by rw [← h348]; exact (zset_j (by decide)).trans f346
  have f353 : s347 178 3 = 108 := by rw [← h348]; exact zset_s
  clear f344 f345 f346
  clear h348 q343
  have q354 := zq_row (d := 179) (k := 178) (L := [104, 97, 105, 108]) q349 (by decide) (fun j hj => by have hj : j < 4 := hj; rcases (show j = 0 ∨ j = 1 ∨ j = 2 ∨ j = 3 by omega) with rfl | rfl | rfl | rfl; exact f350; exact f351; exact f352; exact f353)
  clear f350 f351 f352 f353 q349
  refine zt_putF (pc' := 360) (x := ((178 : Nat) : Int)) hX dX12_init_357 rfl hN.1 zf_X12_54 (by decide) zc_164 zs_46 (fun q hq => by cases hq; exact ⟨rfl, rfl⟩) (zrf_of rfl) rfl rfl ?_
  generalize h356 : zset s347 164 22 ((178 : Nat) : Int) = s355
  have q357 := zq_ref (m' := 23) (g := 0) h356 q354 rfl (by decide) rfl (by decide) rfl (by decide)
  clear h356 q354
  refine zt_aload_n (pc' := 361) hX dX12_init_360 rfl rfl ?_
  refine zt_iconst (pc' := 362) hX dX12_init_361 rfl ?_
  refine zt_newaL (pc' := 364) (t := 3) (N := 4) (n' := 180) (cs' := 15) (ss' := 1660) hX dX12_init_362 rfl zw_10_19 rfl (by decide) (by decide) zc_179 zs_61 (by decide) (by decide) (zCs_nx q357.1) rfl rfl rfl ⟨by rw [hN.2.1]; exact Nat.le_of_ble_eq_true rfl, by rw [hN.2.2]; exact Nat.le_of_ble_eq_true rfl⟩ ?_
  have q358 := zq_arr (n' := 180) q357 zc_179 zs_61 (by decide) rfl
  clear q357
  refine zt_dup (pc' := 365) hX dX12_init_364 rfl rfl ?_
  refine zt_iconst (pc' := 366) hX dX12_init_365 rfl ?_
  refine zt_bipush (pc' := 368) hX dX12_init_366 rfl (by decide) (by decide) ?_
  refine zt_cast (pc' := 369) hX dX12_init_368 rfl (by decide) zc_179 zs_61 (by decide) ⟨by decide, by decide⟩ (by decide +kernel) ?_
  rw [show Int.toNat 0 = 0 from rfl]
  generalize h360 : zset s355 179 0 104 = s359
  have q361 := zq_el h360 q358 (by decide) (by decide) zc_179 zs_61 (show 0 ≤ (104 : Int) ∧ (104 : Int) ≤ 65535 from ⟨by decide, by decide⟩) (by decide) (by decide)
  have f362 : s359 179 0 = 104 := by rw [← h360]; exact zset_s
  clear h360 q358
  refine zt_dup (pc' := 370) hX dX12_init_369 rfl rfl ?_
  refine zt_iconst (pc' := 371) hX dX12_init_370 rfl ?_
  refine zt_bipush (pc' := 373) hX dX12_init_371 rfl (by decide) (by decide) ?_
  refine zt_cast (pc' := 374) hX dX12_init_373 rfl (by decide) zc_179 zs_61 (by decide) ⟨by decide, by decide⟩ (by decide +kernel) ?_
  rw [show Int.toNat 1 = 1 from rfl]
  generalize h364 : zset s359 179 1 111 = s363
  have q365 := zq_el h364 q361 (by decide) (by decide) zc_179 zs_61 (show 0 ≤ (111 : Int) ∧ (111 : Int) ≤ 65535 from ⟨by decide, by decide⟩) (by decide) (by decide)
  have f366 : s363 179 0 = 104 := by rw [← h364]; exact (zset_j (by decide)).trans f362
  have f367 : s363 179 1 = 111 := by rw [← h364]; exact zset_s
  clear f362
  clear h364 q361
  refine zt_dup (pc' := 375) hX dX12_init_374 rfl rfl ?_
  refine zt_iconst (pc' := 376) hX dX12_init_375 rfl ?_
  refine zt_bipush (pc' := 378) hX dX12_init_376 rfl (by decide) (by decide) ?_
  refine zt_cast (pc' := 379) hX dX12_init_378 rfl (by decide) zc_179 zs_61 (by decide) ⟨by decide, by decide⟩ (by decide +kernel) ?_
  rw [show Int.toNat 2 = 2 from rfl]
  generalize h369 : zset s363 179 2 117 = s368
  have q370 := zq_el h369 q365 (by decide) (by decide) zc_179 zs_61 (show 0 ≤ (117 : Int) ∧ (117 : Int) ≤ 65535 from ⟨by decide, by decide⟩) (by decide) (by decide)
  have f371 : s368 179 0 = 104 := by rw [← h369]; exact (zset_j (by decide)).trans f366
  have f372 : s368 179 1 = 111 := by rw [← h369]; exact (zset_j (by decide)).trans f367
  have f373 : s368 179 2 = 117 := by rw [← h369]; exact zset_s
  clear f366 f367
  clear h369 q365
  refine zt_dup (pc' := 380) hX dX12_init_379 rfl rfl ?_
  refine zt_iconst (pc' := 381) hX dX12_init_380 rfl ?_
  refine zt_bipush (pc' := 383) hX dX12_init_381 rfl (by decide) (by decide) ?_
  refine zt_cast (pc' := 384) hX dX12_init_383 rfl (by decide) zc_179 zs_61 (by decide) ⟨by decide, by decide⟩ (by decide +kernel) ?_
  rw [show Int.toNat 3 = 3 from rfl]
  generalize h375 : zset s368 179 3 114 = s374
  have q376 := zq_el h375 q370 (by decide) (by decide) zc_179 zs_61 (show 0 ≤ (114 : Int) ∧ (114 : Int) ≤ 65535 from ⟨by decide, by decide⟩) (by decide) (by decide)
  have f377 : s374 179 0 = 104 := by rw [← h375]; exact (zset_j (by decide)).trans f371
  have f378 : s374 179 1 = 111 := by rw [← h375]; exact (zset_j (by decide)).trans f372
  have f379 : s374 179 2 = 117 := by rw [← h375]; exact (zset_j (by decide)).trans f373
  have f380 : s374 179 3 = 114 := by rw [← h375]; exact zset_s
  clear f371 f372 f373
  clear h375 q370
  have q381 := zq_row (d := 180) (k := 179) (L := [104, 111, 117, 114]) q376 (by decide) (fun j hj => by have hj : j < 4 := hj; rcases (show j = 0 ∨ j = 1 ∨ j = 2 ∨ j = 3 by omega) with rfl | rfl | rfl | rfl; exact f377; exact f378; exact f379; exact f380)
  clear f377 f378 f379 f380 q376
  refine zt_putF (pc' := 387) (x := ((179 : Nat) : Int)) hX dX12_init_384 rfl hN.1 zf_X12_57 (by decide) zc_164 zs_46 (fun q hq => by cases hq; exact ⟨rfl, rfl⟩) (zrf_of rfl) rfl rfl ?_
  generalize h383 : zset s374 164 23 ((179 : Nat) : Int) = s382
  have q384 := zq_ref (m' := 24) (g := 0) h383 q381 rfl (by decide) rfl (by decide) rfl (by decide)
  clear h383 q381
  refine zt_aload_n (pc' := 388) hX dX12_init_387 rfl rfl ?_
  refine zt_bipush (pc' := 390) hX dX12_init_388 rfl (by decide) (by decide) ?_
  refine zt_newaL (pc' := 392) (t := 3) (N := 6) (n' := 181) (cs' := 16) (ss' := 1666) hX dX12_init_390 rfl zw_10_19 rfl (by decide) (by decide) zc_180 zs_62 (by decide) (by decide) (zCs_nx q384.1) rfl rfl rfl ⟨by rw [hN.2.1]; exact Nat.le_of_ble_eq_true rfl, by rw [hN.2.2]; exact Nat.le_of_ble_eq_true rfl⟩ ?_
  have q385 := zq_arr (n' := 181) q384 zc_180 zs_62 (by decide) rfl
  clear q384
  refine zt_dup (pc' := 393) hX dX12_init_392 rfl rfl ?_
  refine zt_iconst (pc' := 394) hX dX12_init_393 rfl ?_
  refine zt_bipush (pc' := 396) hX dX12_init_394 rfl (by decide) (by decide) ?_
  refine zt_cast (pc' := 397) hX dX12_init_396 rfl (by decide) zc_180 zs_62 (by decide) ⟨by decide, by decide⟩ (by decide +kernel) ?_
  rw [show Int.toNat 0 = 0 from rfl]
  generalize h387 : zset s382 180 0 99 = s386
  have q388 := zq_el h387 q385 (by decide) (by decide) zc_180 zs_62 (show 0 ≤ (99 : Int) ∧ (99 : Int) ≤ 65535 from ⟨by decide, by decide⟩) (by decide) (by decide)
  have f389 : s386 180 0 = 99 := by rw [← h387]; exact zset_s
  clear h387 q385
  refine zt_dup (pc' := 398) hX dX12_init_397 rfl rfl ?_
  refine zt_iconst (pc' := 399) hX dX12_init_398 rfl ?_
  refine zt_bipush (pc' := 401) hX dX12_init_399 rfl (by decide) (by decide) ?_
  refine zt_cast (pc' := 402) hX dX12_init_401 rfl (by decide) zc_180 zs_62 (by decide) ⟨by decide, by decide⟩ (by decide +kernel) ?_
  rw [show Int.toNat 1 = 1 from rfl]
  generalize h391 : zset s386 180 1 114 = s390
  have q392 := zq_el h391 q388 (by decide) (by decide) zc_180 zs_62 (show 0 ≤ (114 : Int) ∧ (114 : Int) ≤ 65535 from ⟨by decide, by decide⟩) (by decide) (by decide)
  have f393 : s390 180 0 = 99 := by rw [← h391]; exact (zset_j (by decide)).trans f389
  have f394 : s390 180 1 = 114 := by rw [← h391]; exact zset_s
  clear f389
  clear h391 q388
  refine zt_dup (pc' := 403) hX dX12_init_402 rfl rfl ?_
  refine zt_iconst (pc' := 404) hX dX12_init_403 rfl ?_
  refine zt_bipush (pc' := 406) hX dX12_init_404 rfl (by decide) (by decide) ?_
  refine zt_cast (pc' := 407) hX dX12_init_406 rfl (by decide) zc_180 zs_62 (by decide) ⟨by decide, by decide⟩ (by decide +kernel) ?_
  rw [show Int.toNat 2 = 2 from rfl]
  generalize h396 : zset s390 180 2 97 = s395
  have q397 := zq_el h396 q392 (by decide) (by decide) zc_180 zs_62 (show 0 ≤ (97 : Int) ∧ (97 : Int) ≤ 65535 from ⟨by decide, by decide⟩) (by decide) (by decide)
  have f398 : s395 180 0 = 99 := by rw [← h396]; exact (zset_j (by decide)).trans f393
  have f399 : s395 180 1 = 114 := by rw [← h396]; exact (zset_j (by decide)).trans f394
  have f400 : s395 180 2 = 97 := by rw [← h396]; exact zset_s
  clear f393 f394
  clear h396 q392
  refine zt_dup (pc' := 408) hX dX12_init_407 rfl rfl ?_
  refine zt_iconst (pc' := 409) hX dX12_init_408 rfl ?_
  refine zt_bipush (pc' := 411) hX dX12_init_409 rfl (by decide) (by decide) ?_
  refine zt_cast (pc' := 412) hX dX12_init_411 rfl (by decide) zc_180 zs_62 (by decide) ⟨by decide, by decide⟩ (by decide +kernel) ?_
  rw [show Int.toNat 3 = 3 from rfl]
  generalize h402 : zset s395 180 3 99 = s401
  have q403 := zq_el h402 q397 (by decide) (by decide) zc_180 zs_62 (show 0 ≤ (99 : Int) ∧ (99 : Int) ≤ 65535 from ⟨by decide, by decide⟩) (by decide) (by decide)
  have f404 : s401 180 0 = 99 := by rw [← h402]; exact (zset_j (by decide)).trans f398
  have f405 : s401 180 1 = 114 := by rw [← h402]; exact (zset_j (by decide)).trans f399
  have f406 : s401 180 2 = 97 := by rw [← h402]; exact (zset_j (by decide)).trans f400
  have f407 : s401 180 3 = 99 := by rw [← h402]; exact zset_s
  clear f398 f399 f400
  clear h402 q397
  refine zt_dup (pc' := 413) hX dX12_init_412 rfl rfl ?_
  refine zt_iconst (pc' := 414) hX dX12_init_413 rfl ?_
  refine zt_bipush (pc' := 416) hX dX12_init_414 rfl (by decide) (by decide) ?_
  refine zt_cast (pc' := 417) hX dX12_init_416 rfl (by decide) zc_180 zs_62 (by decide) ⟨by decide, by decide⟩ (by decide +kernel) ?_
  rw [show Int.toNat 4 = 4 from rfl]
  generalize h409 : zset s401 180 4 107 = s408
  have q410 := zq_el h409 q403 (by decide) (by decide) zc_180 zs_62 (show 0 ≤ (107 : Int) ∧ (107 : Int) ≤ 65535 from ⟨by decide, by decide⟩) (by decide) (by decide)
  have f411 : s408 180 0 = 99 := by rw [← h409]; exact (zset_j (by decide)).trans f404
  have f412 : s408 180 1 = 114 := by rw [← h409]; exact (zset_j (by decide)).trans f405
  have f413 : s408 180 2 = 97 := by rw [← h409]; exact (zset_j (by decide)).trans f406
  have f414 : s408 180 3 = 99 := by rw [← h409]; exact (zset_j (by decide)).trans f407
  have f415 : s408 180 4 = 107 := by rw [← h409]; exact zset_s
  clear f404 f405 f406 f407
  clear h409 q403
  refine zt_dup (pc' := 418) hX dX12_init_417 rfl rfl ?_
  refine zt_iconst (pc' := 419) hX dX12_init_418 rfl ?_
  refine zt_bipush (pc' := 421) hX dX12_init_419 rfl (by decide) (by decide) ?_
  refine zt_cast (pc' := 422) hX dX12_init_421 rfl (by decide) zc_180 zs_62 (by decide) ⟨by decide, by decide⟩ (by decide +kernel) ?_
  rw [show Int.toNat 5 = 5 from rfl]
  generalize h417 : zset s408 180 5 115 = s416
  have q418 := zq_el h417 q410 (by decide) (by decide) zc_180 zs_62 (show 0 ≤ (115 : Int) ∧ (115 : Int) ≤ 65535 from ⟨by decide, by decide⟩) (by decide) (by decide)
  have f419 : s416 180 0 = 99 := by rw [← h417]; exact (zset_j (by decide)).trans f411
  have f420 : s416 180 1 = 114 := by rw [← h417]; exact (zset_j (by decide)).trans f412
  have f421 : s416 180 2 = 97 := by rw [← h417]; exact (zset_j (by decide)).trans f413
  have f422 : s416 180 3 = 99 := by rw [← h417]; exact (zset_j (by decide)).trans f414
  have f423 : s416 180 4 = 107 := by rw [← h417]; exact (zset_j (by decide)).trans f415
  have f424 : s416 180 5 = 115 := by rw [← h417]; exact zset_s
  clear f411 f412 f413 f414 f415
  clear h417 q410
  have q425 := zq_row (d := 181) (k := 180) (L := [99, 114, 97, 99, 107, 115]) q418 (by decide) (fun j hj => by have hj : j < 6 := hj; rcases (show j = 0 ∨ j = 1 ∨ j = 2 ∨ j = 3 ∨ j = 4 ∨ j = 5 by omega) with rfl | rfl | rfl | rfl | rfl | rfl; exact f419; exact f420; exact f421; exact f422; exact f423; exact f424)
  clear f419 f420 f421 f422 f423 f424 q418
  refine zt_putF (pc' := 425) (x := ((180 : Nat) : Int)) hX dX12_init_422 rfl hN.1 zf_X12_60 (by decide) zc_164 zs_46 (fun q hq => by cases hq; exact ⟨rfl, rfl⟩) (zrf_of rfl) rfl rfl ?_
  generalize h427 : zset s416 164 24 ((180 : Nat) : Int) = s426
  have q428 := zq_ref (m' := 25) (g := 0) h427 q425 rfl (by decide) rfl (by decide) rfl (by decide)
  clear h427 q425
  exact K s426 q428

set_option maxRecDepth 100000 in
set_option maxHeartbeats 4000000 in
theorem zxm_3 {X : zCX} {σ s : zSto} (hX : zok X cX12_init RX12 1) (hN : X.2.2.2.2.2.2.2.2.2.1.name = yX12_init.name ∧ X.2.2.2.2.1.cells = 73 ∧ X.2.2.2.2.1.slots = 16482) (q : zQm (0) (0) (-1) 181 σ s 25 181) (K : ∀ s' : zSto, zQm (0) (0) (-1) 185 σ s' 29 185 → zZ X 185 20 1687 s' 560 [some (.ref (X.1.1 + 164))] []) : zZ X 181 16 1666 s 425 [some (.ref (X.1.1 + 164))] [] := by
  refine zt_aload_n (pc' := 426) hX dX12_init_425 rfl rfl ?_
  refine zt_bipush (pc' := 428) hX dX12_init_426 rfl (by decide) (by decide) ?_
  refine zt_newaL (pc' := 430) (t := 3) (N := 6) (n' := 182) (cs' := 17) (ss' := 1672) hX dX12_init_428 rfl zw_10_19 rfl (by decide) (by decide) zc_181 zs_63 (by decide) (by decide) (zCs_nx q.1) rfl rfl rfl ⟨by rw [hN.2.1]; exact Nat.le_of_ble_eq_true rfl, by rw [hN.2.2]; exact Nat.le_of_ble_eq_true rfl⟩ ?_
  have q429 := zq_arr (n' := 182) q zc_181 zs_63 (by decide) rfl
  refine zt_dup (pc' := 431) hX dX12_init_430 rfl rfl ?_
  refine zt_iconst (pc' := 432) hX dX12_init_431 rfl ?_
  refine zt_bipush (pc' := 434) hX dX12_init_432 rfl (by decide) (by decide) ?_
  refine zt_cast (pc' := 435) hX dX12_init_434 rfl (by decide) zc_181 zs_63 (by decide) ⟨by decide, by decide⟩ (by decide +kernel) ?_
  rw [show Int.toNat 0 = 0 from rfl]
  generalize h431 : zset s 181 0 119 = s430
  have q432 := zq_el h431 q429 (by decide) (by decide) zc_181 zs_63 (show 0 ≤ (119 : Int) ∧ (119 : Int) ≤ 65535 from ⟨by decide, by decide⟩) (by decide) (by decide)
  have f433 : s430 181 0 = 119 := by rw [← h431]; exact zset_s
  clear h431 q429
  refine zt_dup (pc' := 436) hX dX12_init_435 rfl rfl ?_
  refine zt_iconst (pc' := 437) hX dX12_init_436 rfl ?_
  refine zt_bipush (pc' := 439) hX dX12_init_437 rfl (by decide) (by decide) ?_
  refine zt_cast (pc' := 440) hX dX12_init_439 rfl (by decide) zc_181 zs_63 (by decide) ⟨by decide, by decide⟩ (by decide +kernel) ?_
  rw [show Int.toNat 1 = 1 from rfl]
  generalize h435 : zset s430 181 1 101 = s434
  have q436 := zq_el h435 q432 (by decide) (by decide) zc_181 zs_63 (show 0 ≤ (101 : Int) ∧ (101 : Int) ≤ 65535 from ⟨by decide, by decide⟩) (by decide) (by decide)
  have f437 : s434 181 0 = 119 := by rw [← h435]; exact (zset_j (by decide)).trans f433
  have f438 : s434 181 1 = 101 := by rw [← h435]; exact zset_s
  clear f433
  clear h435 q432
  refine zt_dup (pc' := 441) hX dX12_init_440 rfl rfl ?_
  refine zt_iconst (pc' := 442) hX dX12_init_441 rfl ?_
  refine zt_bipush (pc' := 444) hX dX12_init_442 rfl (by decide) (by decide) ?_
  refine zt_cast (pc' := 445) hX dX12_init_444 rfl (by decide) zc_181 zs_63 (by decide) ⟨by decide, by decide⟩ (by decide +kernel) ?_
  rw [show Int.toNat 2 = 2 from rfl]
  generalize h440 : zset s434 181 2 105 = s439
  have q441 := zq_el h440 q436 (by decide) (by decide) zc_181 zs_63 (show 0 ≤ (105 : Int) ∧ (105 : Int) ≤ 65535 from ⟨by decide, by decide⟩) (by decide) (by decide)
  have f442 : s439 181 0 = 119 := by rw [← h440]; exact (zset_j (by decide)).trans f437
  have f443 : s439 181 1 = 101 := by rw [← h440]; exact (zset_j (by decide)).trans f438
  have f444 : s439 181 2 = 105 := by rw [← h440]; exact zset_s
  clear f437 f438
  clear h440 q436
  refine zt_dup (pc' := 446) hX dX12_init_445 rfl rfl ?_
  refine zt_iconst (pc' := 447) hX dX12_init_446 rfl ?_
  refine zt_bipush (pc' := 449) hX dX12_init_447 rfl (by decide) (by decide) ?_
  refine zt_cast (pc' := 450) hX dX12_init_449 rfl (by decide) zc_181 zs_63 (by decide) ⟨by decide, by decide⟩ (by decide +kernel) ?_
  rw [show Int.toNat 3 = 3 from rfl]
  generalize h446 : zset s439 181 3 103 = s445
  have q447 := zq_el h446 q441 (by decide) (by decide) zc_181 zs_63 (show 0 ≤ (103 : Int) ∧ (103 : Int) ≤ 65535 from ⟨by decide, by decide⟩) (by decide) (by decide)
  have f448 : s445 181 0 = 119 := by rw [← h446]; exact (zset_j (by decide)).trans f442
  have f449 : s445 181 1 = 101 := by rw [← h446]; exact (zset_j (by decide)).trans f443
  have f450 : s445 181 2 = 105 := by rw [← h446]; exact (zset_j (by decide)).trans f444
  have f451 : s445 181 3 = 103 := by rw [← h446]; exact zset_s
  clear f442 f443 f444
  clear h446 q441
  refine zt_dup (pc' := 451) hX dX12_init_450 rfl rfl ?_
  refine zt_iconst (pc' := 452) hX dX12_init_451 rfl ?_
  refine zt_bipush (pc' := 454) hX dX12_init_452 rfl (by decide) (by decide) ?_
  refine zt_cast (pc' := 455) hX dX12_init_454 rfl (by decide) zc_181 zs_63 (by decide) ⟨by decide, by decide⟩ (by decide +kernel) ?_
  rw [show Int.toNat 4 = 4 from rfl]
  generalize h453 : zset s445 181 4 104 = s452
  have q454 := zq_el h453 q447 (by decide) (by decide) zc_181 zs_63 (show 0 ≤ (104 : Int) ∧ (104 : Int) ≤ 65535 from ⟨by decide, by decide⟩) (by decide) (by decide)
  have f455 : s452 181 0 = 119 := by rw [← h453]; exact (zset_j (by decide)).trans f448
  have f456 : s452 181 1 = 101 := by rw [← h453]; exact (zset_j (by decide)).trans f449
  have f457 : s452 181 2 = 105 := by rw [← h453]; exact (zset_j (by decide)).trans f450
  have f458 : s452 181 3 = 103 := by rw [← h453]; exact (zset_j (by decide)).trans f451
  have f459 : s452 181 4 = 104 := by rw [← h453]; exact zset_s
  clear f448 f449 f450 f451
  clear h453 q447
  refine zt_dup (pc' := 456) hX dX12_init_455 rfl rfl ?_
  refine zt_iconst (pc' := 457) hX dX12_init_456 rfl ?_
  refine zt_bipush (pc' := 459) hX dX12_init_457 rfl (by decide) (by decide) ?_
  refine zt_cast (pc' := 460) hX dX12_init_459 rfl (by decide) zc_181 zs_63 (by decide) ⟨by decide, by decide⟩ (by decide +kernel) ?_
  rw [show Int.toNat 5 = 5 from rfl]
  generalize h461 : zset s452 181 5 116 = s460
  have q462 := zq_el h461 q454 (by decide) (by decide) zc_181 zs_63 (show 0 ≤ (116 : Int) ∧ (116 : Int) ≤ 65535 from ⟨by decide, by decide⟩) (by decide) (by decide)
  have f463 : s460 181 0 = 119 := by rw [← h461]; exact (zset_j (by decide)).trans f455
  have f464 : s460 181 1 = 101 := by rw [← h461]; exact (zset_j (by decide)).trans f456
  have f465 : s460 181 2 = 105 := by rw [← h461]; exact (zset_j (by decide)).trans f457
  have f466 : s460 181 3 = 103 := by rw [← h461]; exact (zset_j (by decide)).trans f458
  have f467 : s460 181 4 = 104 := by rw [← h461]; exact (zset_j (by decide)).trans f459
  have f468 : s460 181 5 = 116 := by rw [← h461]; exact zset_s
  clear f455 f456 f457 f458 f459
  clear h461 q454
  have q469 := zq_row (d := 182) (k := 181) (L := [119, 101, 105, 103, 104, 116]) q462 (by decide) (fun j hj => by have hj : j < 6 := hj; rcases (show j = 0 ∨ j = 1 ∨ j = 2 ∨ j = 3 ∨ j = 4 ∨ j = 5 by omega) with rfl | rfl | rfl | rfl | rfl | rfl; exact f463; exact f464; exact f465; exact f466; exact f467; exact f468)
  clear f463 f464 f465 f466 f467 f468 q462
  refine zt_putF (pc' := 463) (x := ((181 : Nat) : Int)) hX dX12_init_460 rfl hN.1 zf_X12_63 (by decide) zc_164 zs_46 (fun q hq => by cases hq; exact ⟨rfl, rfl⟩) (zrf_of rfl) rfl rfl ?_
  generalize h471 : zset s460 164 25 ((181 : Nat) : Int) = s470
  have q472 := zq_ref (m' := 26) (g := 0) h471 q469 rfl (by decide) rfl (by decide) rfl (by decide)
  clear h471 q469
  refine zt_aload_n (pc' := 464) hX dX12_init_463 rfl rfl ?_
  refine zt_iconst (pc' := 465) hX dX12_init_464 rfl ?_
  refine zt_newaL (pc' := 467) (t := 3) (N := 5) (n' := 183) (cs' := 18) (ss' := 1677) hX dX12_init_465 rfl zw_10_19 rfl (by decide) (by decide) zc_182 zs_64 (by decide) (by decide) (zCs_nx q472.1) rfl rfl rfl ⟨by rw [hN.2.1]; exact Nat.le_of_ble_eq_true rfl, by rw [hN.2.2]; exact Nat.le_of_ble_eq_true rfl⟩ ?_
  have q473 := zq_arr (n' := 183) q472 zc_182 zs_64 (by decide) rfl
  clear q472
  refine zt_dup (pc' := 468) hX dX12_init_467 rfl rfl ?_
  refine zt_iconst (pc' := 469) hX dX12_init_468 rfl ?_
  refine zt_bipush (pc' := 471) hX dX12_init_469 rfl (by decide) (by decide) ?_
  refine zt_cast (pc' := 472) hX dX12_init_471 rfl (by decide) zc_182 zs_64 (by decide) ⟨by decide, by decide⟩ (by decide +kernel) ?_
  rw [show Int.toNat 0 = 0 from rfl]
  generalize h475 : zset s470 182 0 116 = s474
  have q476 := zq_el h475 q473 (by decide) (by decide) zc_182 zs_64 (show 0 ≤ (116 : Int) ∧ (116 : Int) ≤ 65535 from ⟨by decide, by decide⟩) (by decide) (by decide)
  have f477 : s474 182 0 = 116 := by rw [← h475]; exact zset_s
  clear h475 q473
  refine zt_dup (pc' := 473) hX dX12_init_472 rfl rfl ?_
  refine zt_iconst (pc' := 474) hX dX12_init_473 rfl ?_
  refine zt_bipush (pc' := 476) hX dX12_init_474 rfl (by decide) (by decide) ?_
  refine zt_cast (pc' := 477) hX dX12_init_476 rfl (by decide) zc_182 zs_64 (by decide) ⟨by decide, by decide⟩ (by decide +kernel) ?_
  rw [show Int.toNat 1 = 1 from rfl]
  generalize h479 : zset s474 182 1 105 = s478
  have q480 := zq_el h479 q476 (by decide) (by decide) zc_182 zs_64 (show 0 ≤ (105 : Int) ∧ (105 : Int) ≤ 65535 from ⟨by decide, by decide⟩) (by decide) (by decide)
  have f481 : s478 182 0 = 116 := by rw [← h479]; exact (zset_j (by decide)).trans f477
  have f482 : s478 182 1 = 105 := by rw [← h479]; exact zset_s
  clear f477
  clear h479 q476
  refine zt_dup (pc' := 478) hX dX12_init_477 rfl rfl ?_
  refine zt_iconst (pc' := 479) hX dX12_init_478 rfl ?_
  refine zt_bipush (pc' := 481) hX dX12_init_479 rfl (by decide) (by decide) ?_
  refine zt_cast (pc' := 482) hX dX12_init_481 rfl (by decide) zc_182 zs_64 (by decide) ⟨by decide, by decide⟩ (by decide +kernel) ?_
  rw [show Int.toNat 2 = 2 from rfl]
  generalize h484 : zset s478 182 2 114 = s483
  have q485 := zq_el h484 q480 (by decide) (by decide) zc_182 zs_64 (show 0 ≤ (114 : Int) ∧ (114 : Int) ≤ 65535 from ⟨by decide, by decide⟩) (by decide) (by decide)
  have f486 : s483 182 0 = 116 := by rw [← h484]; exact (zset_j (by decide)).trans f481
  have f487 : s483 182 1 = 105 := by rw [← h484]; exact (zset_j (by decide)).trans f482
  have f488 : s483 182 2 = 114 := by rw [← h484]; exact zset_s
  clear f481 f482
  clear h484 q480
  refine zt_dup (pc' := 483) hX dX12_init_482 rfl rfl ?_
  refine zt_iconst (pc' := 484) hX dX12_init_483 rfl ?_
  refine zt_bipush (pc' := 486) hX dX12_init_484 rfl (by decide) (by decide) ?_
  refine zt_cast (pc' := 487) hX dX12_init_486 rfl (by decide) zc_182 zs_64 (by decide) ⟨by decide, by decide⟩ (by decide +kernel) ?_
  rw [show Int.toNat 3 = 3 from rfl]
  generalize h490 : zset s483 182 3 101 = s489
  have q491 := zq_el h490 q485 (by decide) (by decide) zc_182 zs_64 (show 0 ≤ (101 : Int) ∧ (101 : Int) ≤ 65535 from ⟨by decide, by decide⟩) (by decide) (by decide)
  have f492 : s489 182 0 = 116 := by rw [← h490]; exact (zset_j (by decide)).trans f486
  have f493 : s489 182 1 = 105 := by rw [← h490]; exact (zset_j (by decide)).trans f487
  have f494 : s489 182 2 = 114 := by rw [← h490]; exact (zset_j (by decide)).trans f488
  have f495 : s489 182 3 = 101 := by rw [← h490]; exact zset_s
  clear f486 f487 f488
  clear h490 q485
  refine zt_dup (pc' := 488) hX dX12_init_487 rfl rfl ?_
  refine zt_iconst (pc' := 489) hX dX12_init_488 rfl ?_
  refine zt_bipush (pc' := 491) hX dX12_init_489 rfl (by decide) (by decide) ?_
  refine zt_cast (pc' := 492) hX dX12_init_491 rfl (by decide) zc_182 zs_64 (by decide) ⟨by decide, by decide⟩ (by decide +kernel) ?_
  rw [show Int.toNat 4 = 4 from rfl]
  generalize h497 : zset s489 182 4 100 = s496
  have q498 := zq_el h497 q491 (by decide) (by decide) zc_182 zs_64 (show 0 ≤ (100 : Int) ∧ (100 : Int) ≤ 65535 from ⟨by decide, by decide⟩) (by decide) (by decide)
  have f499 : s496 182 0 = 116 := by rw [← h497]; exact (zset_j (by decide)).trans f492
  have f500 : s496 182 1 = 105 := by rw [← h497]; exact (zset_j (by decide)).trans f493
  have f501 : s496 182 2 = 114 := by rw [← h497]; exact (zset_j (by decide)).trans f494
  have f502 : s496 182 3 = 101 := by rw [← h497]; exact (zset_j (by decide)).trans f495
  have f503 : s496 182 4 = 100 := by rw [← h497]; exact zset_s
  clear f492 f493 f494 f495
  clear h497 q491
  have q504 := zq_row (d := 183) (k := 182) (L := [116, 105, 114, 101, 100]) q498 (by decide) (fun j hj => by have hj : j < 5 := hj; rcases (show j = 0 ∨ j = 1 ∨ j = 2 ∨ j = 3 ∨ j = 4 by omega) with rfl | rfl | rfl | rfl | rfl; exact f499; exact f500; exact f501; exact f502; exact f503)
  clear f499 f500 f501 f502 f503 q498
  refine zt_putF (pc' := 495) (x := ((182 : Nat) : Int)) hX dX12_init_492 rfl hN.1 zf_X12_66 (by decide) zc_164 zs_46 (fun q hq => by cases hq; exact ⟨rfl, rfl⟩) (zrf_of rfl) rfl rfl ?_
  generalize h506 : zset s496 164 26 ((182 : Nat) : Int) = s505
  have q507 := zq_ref (m' := 27) (g := 0) h506 q504 rfl (by decide) rfl (by decide) rfl (by decide)
  clear h506 q504
  refine zt_aload_n (pc' := 496) hX dX12_init_495 rfl rfl ?_
  refine zt_iconst (pc' := 497) hX dX12_init_496 rfl ?_
  refine zt_newaL (pc' := 499) (t := 3) (N := 4) (n' := 184) (cs' := 19) (ss' := 1681) hX dX12_init_497 rfl zw_10_19 rfl (by decide) (by decide) zc_183 zs_65 (by decide) (by decide) (zCs_nx q507.1) rfl rfl rfl ⟨by rw [hN.2.1]; exact Nat.le_of_ble_eq_true rfl, by rw [hN.2.2]; exact Nat.le_of_ble_eq_true rfl⟩ ?_
  have q508 := zq_arr (n' := 184) q507 zc_183 zs_65 (by decide) rfl
  clear q507
  refine zt_dup (pc' := 500) hX dX12_init_499 rfl rfl ?_
  refine zt_iconst (pc' := 501) hX dX12_init_500 rfl ?_
  refine zt_bipush (pc' := 503) hX dX12_init_501 rfl (by decide) (by decide) ?_
  refine zt_cast (pc' := 504) hX dX12_init_503 rfl (by decide) zc_183 zs_65 (by decide) ⟨by decide, by decide⟩ (by decide +kernel) ?_
  rw [show Int.toNat 0 = 0 from rfl]
  generalize h510 : zset s505 183 0 110 = s509
  have q511 := zq_el h510 q508 (by decide) (by decide) zc_183 zs_65 (show 0 ≤ (110 : Int) ∧ (110 : Int) ≤ 65535 from ⟨by decide, by decide⟩) (by decide) (by decide)
  have f512 : s509 183 0 = 110 := by rw [← h510]; exact zset_s
  clear h510 q508
  refine zt_dup (pc' := 505) hX dX12_init_504 rfl rfl ?_
  refine zt_iconst (pc' := 506) hX dX12_init_505 rfl ?_
  refine zt_bipush (pc' := 508) hX dX12_init_506 rfl (by decide) (by decide) ?_
  refine zt_cast (pc' := 509) hX dX12_init_508 rfl (by decide) zc_183 zs_65 (by decide) ⟨by decide, by decide⟩ (by decide +kernel) ?_
  rw [show Int.toNat 1 = 1 from rfl]
  generalize h514 : zset s509 183 1 101 = s513
  have q515 := zq_el h514 q511 (by decide) (by decide) zc_183 zs_65 (show 0 ≤ (101 : Int) ∧ (101 : Int) ≤ 65535 from ⟨by decide, by decide⟩) (by decide) (by decide)
  have f516 : s513 183 0 = 110 := by rw [← h514]; exact (zset_j (by decide)).trans f512
  have f517 : s513 183 1 = 101 := by rw [← h514]; exact zset_s
  clear f512
  clear h514 q511
  refine zt_dup (pc' := 510) hX dX12_init_509 rfl rfl ?_
  refine zt_iconst (pc' := 511) hX dX12_init_510 rfl ?_
  refine zt_bipush (pc' := 513) hX dX12_init_511 rfl (by decide) (by decide) ?_
  refine zt_cast (pc' := 514) hX dX12_init_513 rfl (by decide) zc_183 zs_65 (by decide) ⟨by decide, by decide⟩ (by decide +kernel) ?_
  rw [show Int.toNat 2 = 2 from rfl]
  generalize h519 : zset s513 183 2 97 = s518
  have q520 := zq_el h519 q515 (by decide) (by decide) zc_183 zs_65 (show 0 ≤ (97 : Int) ∧ (97 : Int) ≤ 65535 from ⟨by decide, by decide⟩) (by decide) (by decide)
  have f521 : s518 183 0 = 110 := by rw [← h519]; exact (zset_j (by decide)).trans f516
  have f522 : s518 183 1 = 101 := by rw [← h519]; exact (zset_j (by decide)).trans f517
  have f523 : s518 183 2 = 97 := by rw [← h519]; exact zset_s
  clear f516 f517
  clear h519 q515
  refine zt_dup (pc' := 515) hX dX12_init_514 rfl rfl ?_
  refine zt_iconst (pc' := 516) hX dX12_init_515 rfl ?_
  refine zt_bipush (pc' := 518) hX dX12_init_516 rfl (by decide) (by decide) ?_
  refine zt_cast (pc' := 519) hX dX12_init_518 rfl (by decide) zc_183 zs_65 (by decide) ⟨by decide, by decide⟩ (by decide +kernel) ?_
  rw [show Int.toNat 3 = 3 from rfl]
  generalize h525 : zset s518 183 3 114 = s524
  have q526 := zq_el h525 q520 (by decide) (by decide) zc_183 zs_65 (show 0 ≤ (114 : Int) ∧ (114 : Int) ≤ 65535 from ⟨by decide, by decide⟩) (by decide) (by decide)
  have f527 : s524 183 0 = 110 := by rw [← h525]; exact (zset_j (by decide)).trans f521
  have f528 : s524 183 1 = 101 := by rw [← h525]; exact (zset_j (by decide)).trans f522
  have f529 : s524 183 2 = 97 := by rw [← h525]; exact (zset_j (by decide)).trans f523
  have f530 : s524 183 3 = 114 := by rw [← h525]; exact zset_s
  clear f521 f522 f523
  clear h525 q520
  have q531 := zq_row (d := 184) (k := 183) (L := [110, 101, 97, 114]) q526 (by decide) (fun j hj => by have hj : j < 4 := hj; rcases (show j = 0 ∨ j = 1 ∨ j = 2 ∨ j = 3 by omega) with rfl | rfl | rfl | rfl; exact f527; exact f528; exact f529; exact f530)
  clear f527 f528 f529 f530 q526
  refine zt_putF (pc' := 522) (x := ((183 : Nat) : Int)) hX dX12_init_519 rfl hN.1 zf_X12_69 (by decide) zc_164 zs_46 (fun q hq => by cases hq; exact ⟨rfl, rfl⟩) (zrf_of rfl) rfl rfl ?_
  generalize h533 : zset s524 164 27 ((183 : Nat) : Int) = s532
  have q534 := zq_ref (m' := 28) (g := 0) h533 q531 rfl (by decide) rfl (by decide) rfl (by decide)
  clear h533 q531
  refine zt_aload_n (pc' := 523) hX dX12_init_522 rfl rfl ?_
  refine zt_bipush (pc' := 525) hX dX12_init_523 rfl (by decide) (by decide) ?_
  refine zt_newaL (pc' := 527) (t := 3) (N := 6) (n' := 185) (cs' := 20) (ss' := 1687) hX dX12_init_525 rfl zw_10_19 rfl (by decide) (by decide) zc_184 zs_66 (by decide) (by decide) (zCs_nx q534.1) rfl rfl rfl ⟨by rw [hN.2.1]; exact Nat.le_of_ble_eq_true rfl, by rw [hN.2.2]; exact Nat.le_of_ble_eq_true rfl⟩ ?_
  have q535 := zq_arr (n' := 185) q534 zc_184 zs_66 (by decide) rfl
  clear q534
  refine zt_dup (pc' := 528) hX dX12_init_527 rfl rfl ?_
  refine zt_iconst (pc' := 529) hX dX12_init_528 rfl ?_
  refine zt_bipush (pc' := 531) hX dX12_init_529 rfl (by decide) (by decide) ?_
  refine zt_cast (pc' := 532) hX dX12_init_531 rfl (by decide) zc_184 zs_66 (by decide) ⟨by decide, by decide⟩ (by decide +kernel) ?_
  rw [show Int.toNat 0 = 0 from rfl]
  generalize h537 : zset s532 184 0 110 = s536
  have q538 := zq_el h537 q535 (by decide) (by decide) zc_184 zs_66 (show 0 ≤ (110 : Int) ∧ (110 : Int) ≤ 65535 from ⟨by decide, by decide⟩) (by decide) (by decide)
  have f539 : s536 184 0 = 110 := by rw [← h537]; exact zset_s
  clear h537 q535
  refine zt_dup (pc' := 533) hX dX12_init_532 rfl rfl ?_
  refine zt_iconst (pc' := 534) hX dX12_init_533 rfl ?_
  refine zt_bipush (pc' := 536) hX dX12_init_534 rfl (by decide) (by decide) ?_
  refine zt_cast (pc' := 537) hX dX12_init_536 rfl (by decide) zc_184 zs_66 (by decide) ⟨by decide, by decide⟩ (by decide +kernel) ?_
  rw [show Int.toNat 1 = 1 from rfl]
  generalize h541 : zset s536 184 1 117 = s540
  have q542 := zq_el h541 q538 (by decide) (by decide) zc_184 zs_66 (show 0 ≤ (117 : Int) ∧ (117 : Int) ≤ 65535 from ⟨by decide, by decide⟩) (by decide) (by decide)
  have f543 : s540 184 0 = 110 := by rw [← h541]; exact (zset_j (by decide)).trans f539
  have f544 : s540 184 1 = 117 := by rw [← h541]; exact zset_s
  clear f539
  clear h541 q538
  refine zt_dup (pc' := 538) hX dX12_init_537 rfl rfl ?_
  refine zt_iconst (pc' := 539) hX dX12_init_538 rfl ?_
  refine zt_bipush (pc' := 541) hX dX12_init_539 rfl (by decide) (by decide) ?_
  refine zt_cast (pc' := 542) hX dX12_init_541 rfl (by decide) zc_184 zs_66 (by decide) ⟨by decide, by decide⟩ (by decide +kernel) ?_
  rw [show Int.toNat 2 = 2 from rfl]
  generalize h546 : zset s540 184 2 109 = s545
  have q547 := zq_el h546 q542 (by decide) (by decide) zc_184 zs_66 (show 0 ≤ (109 : Int) ∧ (109 : Int) ≤ 65535 from ⟨by decide, by decide⟩) (by decide) (by decide)
  have f548 : s545 184 0 = 110 := by rw [← h546]; exact (zset_j (by decide)).trans f543
  have f549 : s545 184 1 = 117 := by rw [← h546]; exact (zset_j (by decide)).trans f544
  have f550 : s545 184 2 = 109 := by rw [← h546]; exact zset_s
  clear f543 f544
  clear h546 q542
  refine zt_dup (pc' := 543) hX dX12_init_542 rfl rfl ?_
  refine zt_iconst (pc' := 544) hX dX12_init_543 rfl ?_
  refine zt_bipush (pc' := 546) hX dX12_init_544 rfl (by decide) (by decide) ?_
  refine zt_cast (pc' := 547) hX dX12_init_546 rfl (by decide) zc_184 zs_66 (by decide) ⟨by decide, by decide⟩ (by decide +kernel) ?_
  rw [show Int.toNat 3 = 3 from rfl]
  generalize h552 : zset s545 184 3 98 = s551
  have q553 := zq_el h552 q547 (by decide) (by decide) zc_184 zs_66 (show 0 ≤ (98 : Int) ∧ (98 : Int) ≤ 65535 from ⟨by decide, by decide⟩) (by decide) (by decide)
  have f554 : s551 184 0 = 110 := by rw [← h552]; exact (zset_j (by decide)).trans f548
  have f555 : s551 184 1 = 117 := by rw [← h552]; exact (zset_j (by decide)).trans f549
  have f556 : s551 184 2 = 109 := by rw [← h552]; exact (zset_j (by decide)).trans f550
  have f557 : s551 184 3 = 98 := by rw [← h552]; exact zset_s
  clear f548 f549 f550
  clear h552 q547
  refine zt_dup (pc' := 548) hX dX12_init_547 rfl rfl ?_
  refine zt_iconst (pc' := 549) hX dX12_init_548 rfl ?_
  refine zt_bipush (pc' := 551) hX dX12_init_549 rfl (by decide) (by decide) ?_
  refine zt_cast (pc' := 552) hX dX12_init_551 rfl (by decide) zc_184 zs_66 (by decide) ⟨by decide, by decide⟩ (by decide +kernel) ?_
  rw [show Int.toNat 4 = 4 from rfl]
  generalize h559 : zset s551 184 4 101 = s558
  have q560 := zq_el h559 q553 (by decide) (by decide) zc_184 zs_66 (show 0 ≤ (101 : Int) ∧ (101 : Int) ≤ 65535 from ⟨by decide, by decide⟩) (by decide) (by decide)
  have f561 : s558 184 0 = 110 := by rw [← h559]; exact (zset_j (by decide)).trans f554
  have f562 : s558 184 1 = 117 := by rw [← h559]; exact (zset_j (by decide)).trans f555
  have f563 : s558 184 2 = 109 := by rw [← h559]; exact (zset_j (by decide)).trans f556
  have f564 : s558 184 3 = 98 := by rw [← h559]; exact (zset_j (by decide)).trans f557
  have f565 : s558 184 4 = 101 := by rw [← h559]; exact zset_s
  clear f554 f555 f556 f557
  clear h559 q553
  refine zt_dup (pc' := 553) hX dX12_init_552 rfl rfl ?_
  refine zt_iconst (pc' := 554) hX dX12_init_553 rfl ?_
  refine zt_bipush (pc' := 556) hX dX12_init_554 rfl (by decide) (by decide) ?_
  refine zt_cast (pc' := 557) hX dX12_init_556 rfl (by decide) zc_184 zs_66 (by decide) ⟨by decide, by decide⟩ (by decide +kernel) ?_
  rw [show Int.toNat 5 = 5 from rfl]
  generalize h567 : zset s558 184 5 114 = s566
  have q568 := zq_el h567 q560 (by decide) (by decide) zc_184 zs_66 (show 0 ≤ (114 : Int) ∧ (114 : Int) ≤ 65535 from ⟨by decide, by decide⟩) (by decide) (by decide)
  have f569 : s566 184 0 = 110 := by rw [← h567]; exact (zset_j (by decide)).trans f561
  have f570 : s566 184 1 = 117 := by rw [← h567]; exact (zset_j (by decide)).trans f562
  have f571 : s566 184 2 = 109 := by rw [← h567]; exact (zset_j (by decide)).trans f563
  have f572 : s566 184 3 = 98 := by rw [← h567]; exact (zset_j (by decide)).trans f564
  have f573 : s566 184 4 = 101 := by rw [← h567]; exact (zset_j (by decide)).trans f565
  have f574 : s566 184 5 = 114 := by rw [← h567]; exact zset_s
  clear f561 f562 f563 f564 f565
  clear h567 q560
  have q575 := zq_row (d := 185) (k := 184) (L := [110, 117, 109, 98, 101, 114]) q568 (by decide) (fun j hj => by have hj : j < 6 := hj; rcases (show j = 0 ∨ j = 1 ∨ j = 2 ∨ j = 3 ∨ j = 4 ∨ j = 5 by omega) with rfl | rfl | rfl | rfl | rfl | rfl; exact f569; exact f570; exact f571; exact f572; exact f573; exact f574)
  clear f569 f570 f571 f572 f573 f574 q568
  refine zt_putF (pc' := 560) (x := ((184 : Nat) : Int)) hX dX12_init_557 rfl hN.1 zf_X12_72 (by decide) zc_164 zs_46 (fun q hq => by cases hq; exact ⟨rfl, rfl⟩) (zrf_of rfl) rfl rfl ?_
  generalize h577 : zset s566 164 28 ((184 : Nat) : Int) = s576
  have q578 := zq_ref (m' := 29) (g := 0) h577 q575 rfl (by decide) rfl (by decide) rfl (by decide)
  clear h577 q575
  exact K s576 q578

set_option maxRecDepth 100000 in
set_option maxHeartbeats 4000000 in
theorem zxm_4 {X : zCX} {σ s : zSto} (hX : zok X cX12_init RX12 1) (hN : X.2.2.2.2.2.2.2.2.2.1.name = yX12_init.name ∧ X.2.2.2.2.1.cells = 73 ∧ X.2.2.2.2.1.slots = 16482) (q : zQm (0) (0) (-1) 185 σ s 29 185) (K : ∀ s' : zSto, zQm (0) (0) (-1) 191 σ s' 35 191 → zZ X 191 26 1707 s' 703 [some (.ref (X.1.1 + 164))] []) : zZ X 185 20 1687 s 560 [some (.ref (X.1.1 + 164))] [] := by
  refine zt_aload_n (pc' := 561) hX dX12_init_560 rfl rfl ?_
  refine zt_bipush (pc' := 563) hX dX12_init_561 rfl (by decide) (by decide) ?_
  refine zt_newaL (pc' := 565) (t := 3) (N := 6) (n' := 186) (cs' := 21) (ss' := 1693) hX dX12_init_563 rfl zw_10_19 rfl (by decide) (by decide) zc_185 zs_67 (by decide) (by decide) (zCs_nx q.1) rfl rfl rfl ⟨by rw [hN.2.1]; exact Nat.le_of_ble_eq_true rfl, by rw [hN.2.2]; exact Nat.le_of_ble_eq_true rfl⟩ ?_
  have q579 := zq_arr (n' := 186) q zc_185 zs_67 (by decide) rfl
  refine zt_dup (pc' := 566) hX dX12_init_565 rfl rfl ?_
  refine zt_iconst (pc' := 567) hX dX12_init_566 rfl ?_
  refine zt_bipush (pc' := 569) hX dX12_init_567 rfl (by decide) (by decide) ?_
  refine zt_cast (pc' := 570) hX dX12_init_569 rfl (by decide) zc_185 zs_67 (by decide) ⟨by decide, by decide⟩ (by decide +kernel) ?_
  rw [show Int.toNat 0 = 0 from rfl]
  generalize h581 : zset s 185 0 99 = s580
  have q582 := zq_el h581 q579 (by decide) (by decide) zc_185 zs_67 (show 0 ≤ (99 : Int) ∧ (99 : Int) ≤ 65535 from ⟨by decide, by decide⟩) (by decide) (by decide)
  have f583 : s580 185 0 = 99 := by rw [← h581]; exact zset_s
  clear h581 q579
  refine zt_dup (pc' := 571) hX dX12_init_570 rfl rfl ?_
  refine zt_iconst (pc' := 572) hX dX12_init_571 rfl ?_
  refine zt_bipush (pc' := 574) hX dX12_init_572 rfl (by decide) (by decide) ?_
  refine zt_cast (pc' := 575) hX dX12_init_574 rfl (by decide) zc_185 zs_67 (by decide) ⟨by decide, by decide⟩ (by decide +kernel) ?_
  rw [show Int.toNat 1 = 1 from rfl]
  generalize h585 : zset s580 185 1 111 = s584
  have q586 := zq_el h585 q582 (by decide) (by decide) zc_185 zs_67 (show 0 ≤ (111 : Int) ∧ (111 : Int) ≤ 65535 from ⟨by decide, by decide⟩) (by decide) (by decide)
  have f587 : s584 185 0 = 99 := by rw [← h585]; exact (zset_j (by decide)).trans f583
  have f588 : s584 185 1 = 111 := by rw [← h585]; exact zset_s
  clear f583
  clear h585 q582
  refine zt_dup (pc' := 576) hX dX12_init_575 rfl rfl ?_
  refine zt_iconst (pc' := 577) hX dX12_init_576 rfl ?_
  refine zt_bipush (pc' := 579) hX dX12_init_577 rfl (by decide) (by decide) ?_
  refine zt_cast (pc' := 580) hX dX12_init_579 rfl (by decide) zc_185 zs_67 (by decide) ⟨by decide, by decide⟩ (by decide +kernel) ?_
  rw [show Int.toNat 2 = 2 from rfl]
  generalize h590 : zset s584 185 2 108 = s589
  have q591 := zq_el h590 q586 (by decide) (by decide) zc_185 zs_67 (show 0 ≤ (108 : Int) ∧ (108 : Int) ≤ 65535 from ⟨by decide, by decide⟩) (by decide) (by decide)
  have f592 : s589 185 0 = 99 := by rw [← h590]; exact (zset_j (by decide)).trans f587
  have f593 : s589 185 1 = 111 := by rw [← h590]; exact (zset_j (by decide)).trans f588
  have f594 : s589 185 2 = 108 := by rw [← h590]; exact zset_s
  clear f587 f588
  clear h590 q586
  refine zt_dup (pc' := 581) hX dX12_init_580 rfl rfl ?_
  refine zt_iconst (pc' := 582) hX dX12_init_581 rfl ?_
  refine zt_bipush (pc' := 584) hX dX12_init_582 rfl (by decide) (by decide) ?_
  refine zt_cast (pc' := 585) hX dX12_init_584 rfl (by decide) zc_185 zs_67 (by decide) ⟨by decide, by decide⟩ (by decide +kernel) ?_
  rw [show Int.toNat 3 = 3 from rfl]
  generalize h596 : zset s589 185 3 117 = s595
  have q597 := zq_el h596 q591 (by decide) (by decide) zc_185 zs_67 (show 0 ≤ (117 : Int) ∧ (117 : Int) ≤ 65535 from ⟨by decide, by decide⟩) (by decide) (by decide)
  have f598 : s595 185 0 = 99 := by rw [← h596]; exact (zset_j (by decide)).trans f592
  have f599 : s595 185 1 = 111 := by rw [← h596]; exact (zset_j (by decide)).trans f593
  have f600 : s595 185 2 = 108 := by rw [← h596]; exact (zset_j (by decide)).trans f594
  have f601 : s595 185 3 = 117 := by rw [← h596]; exact zset_s
  clear f592 f593 f594
  clear h596 q591
  refine zt_dup (pc' := 586) hX dX12_init_585 rfl rfl ?_
  refine zt_iconst (pc' := 587) hX dX12_init_586 rfl ?_
  refine zt_bipush (pc' := 589) hX dX12_init_587 rfl (by decide) (by decide) ?_
  refine zt_cast (pc' := 590) hX dX12_init_589 rfl (by decide) zc_185 zs_67 (by decide) ⟨by decide, by decide⟩ (by decide +kernel) ?_
  rw [show Int.toNat 4 = 4 from rfl]
  generalize h603 : zset s595 185 4 109 = s602
  have q604 := zq_el h603 q597 (by decide) (by decide) zc_185 zs_67 (show 0 ≤ (109 : Int) ∧ (109 : Int) ≤ 65535 from ⟨by decide, by decide⟩) (by decide) (by decide)
  have f605 : s602 185 0 = 99 := by rw [← h603]; exact (zset_j (by decide)).trans f598
  have f606 : s602 185 1 = 111 := by rw [← h603]; exact (zset_j (by decide)).trans f599
  have f607 : s602 185 2 = 108 := by rw [← h603]; exact (zset_j (by decide)).trans f600
  have f608 : s602 185 3 = 117 := by rw [← h603]; exact (zset_j (by decide)).trans f601
  have f609 : s602 185 4 = 109 := by rw [← h603]; exact zset_s
  clear f598 f599 f600 f601
  clear h603 q597
  refine zt_dup (pc' := 591) hX dX12_init_590 rfl rfl ?_
  refine zt_iconst (pc' := 592) hX dX12_init_591 rfl ?_
  refine zt_bipush (pc' := 594) hX dX12_init_592 rfl (by decide) (by decide) ?_
  refine zt_cast (pc' := 595) hX dX12_init_594 rfl (by decide) zc_185 zs_67 (by decide) ⟨by decide, by decide⟩ (by decide +kernel) ?_
  rw [show Int.toNat 5 = 5 from rfl]
  generalize h611 : zset s602 185 5 110 = s610
  have q612 := zq_el h611 q604 (by decide) (by decide) zc_185 zs_67 (show 0 ≤ (110 : Int) ∧ (110 : Int) ≤ 65535 from ⟨by decide, by decide⟩) (by decide) (by decide)
  have f613 : s610 185 0 = 99 := by rw [← h611]; exact (zset_j (by decide)).trans f605
  have f614 : s610 185 1 = 111 := by rw [← h611]; exact (zset_j (by decide)).trans f606
  have f615 : s610 185 2 = 108 := by rw [← h611]; exact (zset_j (by decide)).trans f607
  have f616 : s610 185 3 = 117 := by rw [← h611]; exact (zset_j (by decide)).trans f608
  have f617 : s610 185 4 = 109 := by rw [← h611]; exact (zset_j (by decide)).trans f609
  have f618 : s610 185 5 = 110 := by rw [← h611]; exact zset_s
  clear f605 f606 f607 f608 f609
  clear h611 q604
  have q619 := zq_row (d := 186) (k := 185) (L := [99, 111, 108, 117, 109, 110]) q612 (by decide) (fun j hj => by have hj : j < 6 := hj; rcases (show j = 0 ∨ j = 1 ∨ j = 2 ∨ j = 3 ∨ j = 4 ∨ j = 5 by omega) with rfl | rfl | rfl | rfl | rfl | rfl; exact f613; exact f614; exact f615; exact f616; exact f617; exact f618)
  clear f613 f614 f615 f616 f617 f618 q612
  refine zt_putF (pc' := 598) (x := ((185 : Nat) : Int)) hX dX12_init_595 rfl hN.1 zf_X12_75 (by decide) zc_164 zs_46 (fun q hq => by cases hq; exact ⟨rfl, rfl⟩) (zrf_of rfl) rfl rfl ?_
  generalize h621 : zset s610 164 29 ((185 : Nat) : Int) = s620
  have q622 := zq_ref (m' := 30) (g := 0) h621 q619 rfl (by decide) rfl (by decide) rfl (by decide)
  clear h621 q619
  refine zt_aload_n (pc' := 599) hX dX12_init_598 rfl rfl ?_
  refine zt_iconst (pc' := 600) hX dX12_init_599 rfl ?_
  refine zt_newaL (pc' := 602) (t := 3) (N := 3) (n' := 187) (cs' := 22) (ss' := 1696) hX dX12_init_600 rfl zw_10_19 rfl (by decide) (by decide) zc_186 zs_68 (by decide) (by decide) (zCs_nx q622.1) rfl rfl rfl ⟨by rw [hN.2.1]; exact Nat.le_of_ble_eq_true rfl, by rw [hN.2.2]; exact Nat.le_of_ble_eq_true rfl⟩ ?_
  have q623 := zq_arr (n' := 187) q622 zc_186 zs_68 (by decide) rfl
  clear q622
  refine zt_dup (pc' := 603) hX dX12_init_602 rfl rfl ?_
  refine zt_iconst (pc' := 604) hX dX12_init_603 rfl ?_
  refine zt_bipush (pc' := 606) hX dX12_init_604 rfl (by decide) (by decide) ?_
  refine zt_cast (pc' := 607) hX dX12_init_606 rfl (by decide) zc_186 zs_68 (by decide) ⟨by decide, by decide⟩ (by decide +kernel) ?_
  rw [show Int.toNat 0 = 0 from rfl]
  generalize h625 : zset s620 186 0 114 = s624
  have q626 := zq_el h625 q623 (by decide) (by decide) zc_186 zs_68 (show 0 ≤ (114 : Int) ∧ (114 : Int) ≤ 65535 from ⟨by decide, by decide⟩) (by decide) (by decide)
  have f627 : s624 186 0 = 114 := by rw [← h625]; exact zset_s
  clear h625 q623
  refine zt_dup (pc' := 608) hX dX12_init_607 rfl rfl ?_
  refine zt_iconst (pc' := 609) hX dX12_init_608 rfl ?_
  refine zt_bipush (pc' := 611) hX dX12_init_609 rfl (by decide) (by decide) ?_
  refine zt_cast (pc' := 612) hX dX12_init_611 rfl (by decide) zc_186 zs_68 (by decide) ⟨by decide, by decide⟩ (by decide +kernel) ?_
  rw [show Int.toNat 1 = 1 from rfl]
  generalize h629 : zset s624 186 1 111 = s628
  have q630 := zq_el h629 q626 (by decide) (by decide) zc_186 zs_68 (show 0 ≤ (111 : Int) ∧ (111 : Int) ≤ 65535 from ⟨by decide, by decide⟩) (by decide) (by decide)
  have f631 : s628 186 0 = 114 := by rw [← h629]; exact (zset_j (by decide)).trans f627
  have f632 : s628 186 1 = 111 := by rw [← h629]; exact zset_s
  clear f627
  clear h629 q626
  refine zt_dup (pc' := 613) hX dX12_init_612 rfl rfl ?_
  refine zt_iconst (pc' := 614) hX dX12_init_613 rfl ?_
  refine zt_bipush (pc' := 616) hX dX12_init_614 rfl (by decide) (by decide) ?_
  refine zt_cast (pc' := 617) hX dX12_init_616 rfl (by decide) zc_186 zs_68 (by decide) ⟨by decide, by decide⟩ (by decide +kernel) ?_
  rw [show Int.toNat 2 = 2 from rfl]
  generalize h634 : zset s628 186 2 119 = s633
  have q635 := zq_el h634 q630 (by decide) (by decide) zc_186 zs_68 (show 0 ≤ (119 : Int) ∧ (119 : Int) ≤ 65535 from ⟨by decide, by decide⟩) (by decide) (by decide)
  have f636 : s633 186 0 = 114 := by rw [← h634]; exact (zset_j (by decide)).trans f631
  have f637 : s633 186 1 = 111 := by rw [← h634]; exact (zset_j (by decide)).trans f632
  have f638 : s633 186 2 = 119 := by rw [← h634]; exact zset_s
  clear f631 f632
  clear h634 q630
  have q639 := zq_row (d := 187) (k := 186) (L := [114, 111, 119]) q635 (by decide) (fun j hj => by have hj : j < 3 := hj; rcases (show j = 0 ∨ j = 1 ∨ j = 2 by omega) with rfl | rfl | rfl; exact f636; exact f637; exact f638)
  clear f636 f637 f638 q635
  refine zt_putF (pc' := 620) (x := ((186 : Nat) : Int)) hX dX12_init_617 rfl hN.1 zf_X12_78 (by decide) zc_164 zs_46 (fun q hq => by cases hq; exact ⟨rfl, rfl⟩) (zrf_of rfl) rfl rfl ?_
  generalize h641 : zset s633 164 30 ((186 : Nat) : Int) = s640
  have q642 := zq_ref (m' := 31) (g := 0) h641 q639 rfl (by decide) rfl (by decide) rfl (by decide)
  clear h641 q639
  refine zt_aload_n (pc' := 621) hX dX12_init_620 rfl rfl ?_
  refine zt_iconst (pc' := 622) hX dX12_init_621 rfl ?_
  refine zt_newaL (pc' := 624) (t := 3) (N := 3) (n' := 188) (cs' := 23) (ss' := 1699) hX dX12_init_622 rfl zw_10_19 rfl (by decide) (by decide) zc_187 zs_69 (by decide) (by decide) (zCs_nx q642.1) rfl rfl rfl ⟨by rw [hN.2.1]; exact Nat.le_of_ble_eq_true rfl, by rw [hN.2.2]; exact Nat.le_of_ble_eq_true rfl⟩ ?_
  have q643 := zq_arr (n' := 188) q642 zc_187 zs_69 (by decide) rfl
  clear q642
  refine zt_dup (pc' := 625) hX dX12_init_624 rfl rfl ?_
  refine zt_iconst (pc' := 626) hX dX12_init_625 rfl ?_
  refine zt_bipush (pc' := 628) hX dX12_init_626 rfl (by decide) (by decide) ?_
  refine zt_cast (pc' := 629) hX dX12_init_628 rfl (by decide) zc_187 zs_69 (by decide) ⟨by decide, by decide⟩ (by decide +kernel) ?_
  rw [show Int.toNat 0 = 0 from rfl]
  generalize h645 : zset s640 187 0 102 = s644
  have q646 := zq_el h645 q643 (by decide) (by decide) zc_187 zs_69 (show 0 ≤ (102 : Int) ∧ (102 : Int) ≤ 65535 from ⟨by decide, by decide⟩) (by decide) (by decide)
  have f647 : s644 187 0 = 102 := by rw [← h645]; exact zset_s
  clear h645 q643
  refine zt_dup (pc' := 630) hX dX12_init_629 rfl rfl ?_
  refine zt_iconst (pc' := 631) hX dX12_init_630 rfl ?_
  refine zt_bipush (pc' := 633) hX dX12_init_631 rfl (by decide) (by decide) ?_
  refine zt_cast (pc' := 634) hX dX12_init_633 rfl (by decide) zc_187 zs_69 (by decide) ⟨by decide, by decide⟩ (by decide +kernel) ?_
  rw [show Int.toNat 1 = 1 from rfl]
  generalize h649 : zset s644 187 1 97 = s648
  have q650 := zq_el h649 q646 (by decide) (by decide) zc_187 zs_69 (show 0 ≤ (97 : Int) ∧ (97 : Int) ≤ 65535 from ⟨by decide, by decide⟩) (by decide) (by decide)
  have f651 : s648 187 0 = 102 := by rw [← h649]; exact (zset_j (by decide)).trans f647
  have f652 : s648 187 1 = 97 := by rw [← h649]; exact zset_s
  clear f647
  clear h649 q646
  refine zt_dup (pc' := 635) hX dX12_init_634 rfl rfl ?_
  refine zt_iconst (pc' := 636) hX dX12_init_635 rfl ?_
  refine zt_bipush (pc' := 638) hX dX12_init_636 rfl (by decide) (by decide) ?_
  refine zt_cast (pc' := 639) hX dX12_init_638 rfl (by decide) zc_187 zs_69 (by decide) ⟨by decide, by decide⟩ (by decide +kernel) ?_
  rw [show Int.toNat 2 = 2 from rfl]
  generalize h654 : zset s648 187 2 114 = s653
  have q655 := zq_el h654 q650 (by decide) (by decide) zc_187 zs_69 (show 0 ≤ (114 : Int) ∧ (114 : Int) ≤ 65535 from ⟨by decide, by decide⟩) (by decide) (by decide)
  have f656 : s653 187 0 = 102 := by rw [← h654]; exact (zset_j (by decide)).trans f651
  have f657 : s653 187 1 = 97 := by rw [← h654]; exact (zset_j (by decide)).trans f652
  have f658 : s653 187 2 = 114 := by rw [← h654]; exact zset_s
  clear f651 f652
  clear h654 q650
  have q659 := zq_row (d := 188) (k := 187) (L := [102, 97, 114]) q655 (by decide) (fun j hj => by have hj : j < 3 := hj; rcases (show j = 0 ∨ j = 1 ∨ j = 2 by omega) with rfl | rfl | rfl; exact f656; exact f657; exact f658)
  clear f656 f657 f658 q655
  refine zt_putF (pc' := 642) (x := ((187 : Nat) : Int)) hX dX12_init_639 rfl hN.1 zf_X12_81 (by decide) zc_164 zs_46 (fun q hq => by cases hq; exact ⟨rfl, rfl⟩) (zrf_of rfl) rfl rfl ?_
  generalize h661 : zset s653 164 31 ((187 : Nat) : Int) = s660
  have q662 := zq_ref (m' := 32) (g := 0) h661 q659 rfl (by decide) rfl (by decide) rfl (by decide)
  clear h661 q659
  refine zt_aload_n (pc' := 643) hX dX12_init_642 rfl rfl ?_
  refine zt_iconst (pc' := 644) hX dX12_init_643 rfl ?_
  refine zt_newaL (pc' := 646) (t := 3) (N := 2) (n' := 189) (cs' := 24) (ss' := 1701) hX dX12_init_644 rfl zw_10_19 rfl (by decide) (by decide) zc_188 zs_70 (by decide) (by decide) (zCs_nx q662.1) rfl rfl rfl ⟨by rw [hN.2.1]; exact Nat.le_of_ble_eq_true rfl, by rw [hN.2.2]; exact Nat.le_of_ble_eq_true rfl⟩ ?_
  have q663 := zq_arr (n' := 189) q662 zc_188 zs_70 (by decide) rfl
  clear q662
  refine zt_dup (pc' := 647) hX dX12_init_646 rfl rfl ?_
  refine zt_iconst (pc' := 648) hX dX12_init_647 rfl ?_
  refine zt_bipush (pc' := 650) hX dX12_init_648 rfl (by decide) (by decide) ?_
  refine zt_cast (pc' := 651) hX dX12_init_650 rfl (by decide) zc_188 zs_70 (by decide) ⟨by decide, by decide⟩ (by decide +kernel) ?_
  rw [show Int.toNat 0 = 0 from rfl]
  generalize h665 : zset s660 188 0 111 = s664
  have q666 := zq_el h665 q663 (by decide) (by decide) zc_188 zs_70 (show 0 ≤ (111 : Int) ∧ (111 : Int) ≤ 65535 from ⟨by decide, by decide⟩) (by decide) (by decide)
  have f667 : s664 188 0 = 111 := by rw [← h665]; exact zset_s
  clear h665 q663
  refine zt_dup (pc' := 652) hX dX12_init_651 rfl rfl ?_
  refine zt_iconst (pc' := 653) hX dX12_init_652 rfl ?_
  refine zt_bipush (pc' := 655) hX dX12_init_653 rfl (by decide) (by decide) ?_
  refine zt_cast (pc' := 656) hX dX12_init_655 rfl (by decide) zc_188 zs_70 (by decide) ⟨by decide, by decide⟩ (by decide +kernel) ?_
  rw [show Int.toNat 1 = 1 from rfl]
  generalize h669 : zset s664 188 1 114 = s668
  have q670 := zq_el h669 q666 (by decide) (by decide) zc_188 zs_70 (show 0 ≤ (114 : Int) ∧ (114 : Int) ≤ 65535 from ⟨by decide, by decide⟩) (by decide) (by decide)
  have f671 : s668 188 0 = 111 := by rw [← h669]; exact (zset_j (by decide)).trans f667
  have f672 : s668 188 1 = 114 := by rw [← h669]; exact zset_s
  clear f667
  clear h669 q666
  have q673 := zq_row (d := 189) (k := 188) (L := [111, 114]) q670 (by decide) (fun j hj => by have hj : j < 2 := hj; rcases (show j = 0 ∨ j = 1 by omega) with rfl | rfl; exact f671; exact f672)
  clear f671 f672 q670
  refine zt_putF (pc' := 659) (x := ((188 : Nat) : Int)) hX dX12_init_656 rfl hN.1 zf_X12_84 (by decide) zc_164 zs_46 (fun q hq => by cases hq; exact ⟨rfl, rfl⟩) (zrf_of rfl) rfl rfl ?_
  generalize h675 : zset s668 164 32 ((188 : Nat) : Int) = s674
  have q676 := zq_ref (m' := 33) (g := 0) h675 q673 rfl (by decide) rfl (by decide) rfl (by decide)
  clear h675 q673
  refine zt_aload_n (pc' := 660) hX dX12_init_659 rfl rfl ?_
  refine zt_iconst (pc' := 661) hX dX12_init_660 rfl ?_
  refine zt_newaL (pc' := 663) (t := 3) (N := 3) (n' := 190) (cs' := 25) (ss' := 1704) hX dX12_init_661 rfl zw_10_19 rfl (by decide) (by decide) zc_189 zs_71 (by decide) (by decide) (zCs_nx q676.1) rfl rfl rfl ⟨by rw [hN.2.1]; exact Nat.le_of_ble_eq_true rfl, by rw [hN.2.2]; exact Nat.le_of_ble_eq_true rfl⟩ ?_
  have q677 := zq_arr (n' := 190) q676 zc_189 zs_71 (by decide) rfl
  clear q676
  refine zt_dup (pc' := 664) hX dX12_init_663 rfl rfl ?_
  refine zt_iconst (pc' := 665) hX dX12_init_664 rfl ?_
  refine zt_bipush (pc' := 667) hX dX12_init_665 rfl (by decide) (by decide) ?_
  refine zt_cast (pc' := 668) hX dX12_init_667 rfl (by decide) zc_189 zs_71 (by decide) ⟨by decide, by decide⟩ (by decide +kernel) ?_
  rw [show Int.toNat 0 = 0 from rfl]
  generalize h679 : zset s674 189 0 97 = s678
  have q680 := zq_el h679 q677 (by decide) (by decide) zc_189 zs_71 (show 0 ≤ (97 : Int) ∧ (97 : Int) ≤ 65535 from ⟨by decide, by decide⟩) (by decide) (by decide)
  have f681 : s678 189 0 = 97 := by rw [← h679]; exact zset_s
  clear h679 q677
  refine zt_dup (pc' := 669) hX dX12_init_668 rfl rfl ?_
  refine zt_iconst (pc' := 670) hX dX12_init_669 rfl ?_
  refine zt_bipush (pc' := 672) hX dX12_init_670 rfl (by decide) (by decide) ?_
  refine zt_cast (pc' := 673) hX dX12_init_672 rfl (by decide) zc_189 zs_71 (by decide) ⟨by decide, by decide⟩ (by decide +kernel) ?_
  rw [show Int.toNat 1 = 1 from rfl]
  generalize h683 : zset s678 189 1 110 = s682
  have q684 := zq_el h683 q680 (by decide) (by decide) zc_189 zs_71 (show 0 ≤ (110 : Int) ∧ (110 : Int) ≤ 65535 from ⟨by decide, by decide⟩) (by decide) (by decide)
  have f685 : s682 189 0 = 97 := by rw [← h683]; exact (zset_j (by decide)).trans f681
  have f686 : s682 189 1 = 110 := by rw [← h683]; exact zset_s
  clear f681
  clear h683 q680
  refine zt_dup (pc' := 674) hX dX12_init_673 rfl rfl ?_
  refine zt_iconst (pc' := 675) hX dX12_init_674 rfl ?_
  refine zt_bipush (pc' := 677) hX dX12_init_675 rfl (by decide) (by decide) ?_
  refine zt_cast (pc' := 678) hX dX12_init_677 rfl (by decide) zc_189 zs_71 (by decide) ⟨by decide, by decide⟩ (by decide +kernel) ?_
  rw [show Int.toNat 2 = 2 from rfl]
  generalize h688 : zset s682 189 2 100 = s687
  have q689 := zq_el h688 q684 (by decide) (by decide) zc_189 zs_71 (show 0 ≤ (100 : Int) ∧ (100 : Int) ≤ 65535 from ⟨by decide, by decide⟩) (by decide) (by decide)
  have f690 : s687 189 0 = 97 := by rw [← h688]; exact (zset_j (by decide)).trans f685
  have f691 : s687 189 1 = 110 := by rw [← h688]; exact (zset_j (by decide)).trans f686
  have f692 : s687 189 2 = 100 := by rw [← h688]; exact zset_s
  clear f685 f686
  clear h688 q684
  have q693 := zq_row (d := 190) (k := 189) (L := [97, 110, 100]) q689 (by decide) (fun j hj => by have hj : j < 3 := hj; rcases (show j = 0 ∨ j = 1 ∨ j = 2 by omega) with rfl | rfl | rfl; exact f690; exact f691; exact f692)
  clear f690 f691 f692 q689
  refine zt_putF (pc' := 681) (x := ((189 : Nat) : Int)) hX dX12_init_678 rfl hN.1 zf_X12_87 (by decide) zc_164 zs_46 (fun q hq => by cases hq; exact ⟨rfl, rfl⟩) (zrf_of rfl) rfl rfl ?_
  generalize h695 : zset s687 164 33 ((189 : Nat) : Int) = s694
  have q696 := zq_ref (m' := 34) (g := 0) h695 q693 rfl (by decide) rfl (by decide) rfl (by decide)
  clear h695 q693
  refine zt_aload_n (pc' := 682) hX dX12_init_681 rfl rfl ?_
  refine zt_iconst (pc' := 683) hX dX12_init_682 rfl ?_
  refine zt_newaL (pc' := 685) (t := 3) (N := 3) (n' := 191) (cs' := 26) (ss' := 1707) hX dX12_init_683 rfl zw_10_19 rfl (by decide) (by decide) zc_190 zs_72 (by decide) (by decide) (zCs_nx q696.1) rfl rfl rfl ⟨by rw [hN.2.1]; exact Nat.le_of_ble_eq_true rfl, by rw [hN.2.2]; exact Nat.le_of_ble_eq_true rfl⟩ ?_
  have q697 := zq_arr (n' := 191) q696 zc_190 zs_72 (by decide) rfl
  clear q696
  refine zt_dup (pc' := 686) hX dX12_init_685 rfl rfl ?_
  refine zt_iconst (pc' := 687) hX dX12_init_686 rfl ?_
  refine zt_bipush (pc' := 689) hX dX12_init_687 rfl (by decide) (by decide) ?_
  refine zt_cast (pc' := 690) hX dX12_init_689 rfl (by decide) zc_190 zs_72 (by decide) ⟨by decide, by decide⟩ (by decide +kernel) ?_
  rw [show Int.toNat 0 = 0 from rfl]
  generalize h699 : zset s694 190 0 110 = s698
  have q700 := zq_el h699 q697 (by decide) (by decide) zc_190 zs_72 (show 0 ≤ (110 : Int) ∧ (110 : Int) ≤ 65535 from ⟨by decide, by decide⟩) (by decide) (by decide)
  have f701 : s698 190 0 = 110 := by rw [← h699]; exact zset_s
  clear h699 q697
  refine zt_dup (pc' := 691) hX dX12_init_690 rfl rfl ?_
  refine zt_iconst (pc' := 692) hX dX12_init_691 rfl ?_
  refine zt_bipush (pc' := 694) hX dX12_init_692 rfl (by decide) (by decide) ?_
  refine zt_cast (pc' := 695) hX dX12_init_694 rfl (by decide) zc_190 zs_72 (by decide) ⟨by decide, by decide⟩ (by decide +kernel) ?_
  rw [show Int.toNat 1 = 1 from rfl]
  generalize h703 : zset s698 190 1 111 = s702
  have q704 := zq_el h703 q700 (by decide) (by decide) zc_190 zs_72 (show 0 ≤ (111 : Int) ∧ (111 : Int) ≤ 65535 from ⟨by decide, by decide⟩) (by decide) (by decide)
  have f705 : s702 190 0 = 110 := by rw [← h703]; exact (zset_j (by decide)).trans f701
  have f706 : s702 190 1 = 111 := by rw [← h703]; exact zset_s
  clear f701
  clear h703 q700
  refine zt_dup (pc' := 696) hX dX12_init_695 rfl rfl ?_
  refine zt_iconst (pc' := 697) hX dX12_init_696 rfl ?_
  refine zt_bipush (pc' := 699) hX dX12_init_697 rfl (by decide) (by decide) ?_
  refine zt_cast (pc' := 700) hX dX12_init_699 rfl (by decide) zc_190 zs_72 (by decide) ⟨by decide, by decide⟩ (by decide +kernel) ?_
  rw [show Int.toNat 2 = 2 from rfl]
  generalize h708 : zset s702 190 2 116 = s707
  have q709 := zq_el h708 q704 (by decide) (by decide) zc_190 zs_72 (show 0 ≤ (116 : Int) ∧ (116 : Int) ≤ 65535 from ⟨by decide, by decide⟩) (by decide) (by decide)
  have f710 : s707 190 0 = 110 := by rw [← h708]; exact (zset_j (by decide)).trans f705
  have f711 : s707 190 1 = 111 := by rw [← h708]; exact (zset_j (by decide)).trans f706
  have f712 : s707 190 2 = 116 := by rw [← h708]; exact zset_s
  clear f705 f706
  clear h708 q704
  have q713 := zq_row (d := 191) (k := 190) (L := [110, 111, 116]) q709 (by decide) (fun j hj => by have hj : j < 3 := hj; rcases (show j = 0 ∨ j = 1 ∨ j = 2 by omega) with rfl | rfl | rfl; exact f710; exact f711; exact f712)
  clear f710 f711 f712 q709
  refine zt_putF (pc' := 703) (x := ((190 : Nat) : Int)) hX dX12_init_700 rfl hN.1 zf_X12_90 (by decide) zc_164 zs_46 (fun q hq => by cases hq; exact ⟨rfl, rfl⟩) (zrf_of rfl) rfl rfl ?_
  generalize h715 : zset s707 164 34 ((190 : Nat) : Int) = s714
  have q716 := zq_ref (m' := 35) (g := 0) h715 q713 rfl (by decide) rfl (by decide) rfl (by decide)
  clear h715 q713
  exact K s714 q716

set_option maxRecDepth 100000 in
set_option maxHeartbeats 4000000 in
theorem zxm_5 {X : zCX} {σ s : zSto} (hX : zok X cX12_init RX12 1) (hN : X.2.2.2.2.2.2.2.2.2.1.name = yX12_init.name ∧ X.2.2.2.2.1.cells = 73 ∧ X.2.2.2.2.1.slots = 16482) (q : zQm (0) (0) (-1) 191 σ s 35 191) (K : ∀ s' : zSto, zQm (0) (0) (-1) 194 σ s' 45 200 → zZ X 200 35 1862 s' 842 [some (.ref (X.1.1 + 164))] []) : zZ X 191 26 1707 s 703 [some (.ref (X.1.1 + 164))] [] := by
  refine zt_aload_n (pc' := 704) hX dX12_init_703 rfl rfl ?_
  refine zt_iconst (pc' := 705) hX dX12_init_704 rfl ?_
  refine zt_newaL (pc' := 707) (t := 3) (N := 3) (n' := 192) (cs' := 27) (ss' := 1710) hX dX12_init_705 rfl zw_10_19 rfl (by decide) (by decide) zc_191 zs_73 (by decide) (by decide) (zCs_nx q.1) rfl rfl rfl ⟨by rw [hN.2.1]; exact Nat.le_of_ble_eq_true rfl, by rw [hN.2.2]; exact Nat.le_of_ble_eq_true rfl⟩ ?_
  have q717 := zq_arr (n' := 192) q zc_191 zs_73 (by decide) rfl
  refine zt_dup (pc' := 708) hX dX12_init_707 rfl rfl ?_
  refine zt_iconst (pc' := 709) hX dX12_init_708 rfl ?_
  refine zt_bipush (pc' := 711) hX dX12_init_709 rfl (by decide) (by decide) ?_
  refine zt_cast (pc' := 712) hX dX12_init_711 rfl (by decide) zc_191 zs_73 (by decide) ⟨by decide, by decide⟩ (by decide +kernel) ?_
  rw [show Int.toNat 0 = 0 from rfl]
  generalize h719 : zset s 191 0 97 = s718
  have q720 := zq_el h719 q717 (by decide) (by decide) zc_191 zs_73 (show 0 ≤ (97 : Int) ∧ (97 : Int) ≤ 65535 from ⟨by decide, by decide⟩) (by decide) (by decide)
  have f721 : s718 191 0 = 97 := by rw [← h719]; exact zset_s
  clear h719 q717
  refine zt_dup (pc' := 713) hX dX12_init_712 rfl rfl ?_
  refine zt_iconst (pc' := 714) hX dX12_init_713 rfl ?_
  refine zt_bipush (pc' := 716) hX dX12_init_714 rfl (by decide) (by decide) ?_
  refine zt_cast (pc' := 717) hX dX12_init_716 rfl (by decide) zc_191 zs_73 (by decide) ⟨by decide, by decide⟩ (by decide +kernel) ?_
  rw [show Int.toNat 1 = 1 from rfl]
  generalize h723 : zset s718 191 1 108 = s722
  have q724 := zq_el h723 q720 (by decide) (by decide) zc_191 zs_73 (show 0 ≤ (108 : Int) ∧ (108 : Int) ≤ 65535 from ⟨by decide, by decide⟩) (by decide) (by decide)
  have f725 : s722 191 0 = 97 := by rw [← h723]; exact (zset_j (by decide)).trans f721
  have f726 : s722 191 1 = 108 := by rw [← h723]; exact zset_s
  clear f721
  clear h723 q720
  refine zt_dup (pc' := 718) hX dX12_init_717 rfl rfl ?_
  refine zt_iconst (pc' := 719) hX dX12_init_718 rfl ?_
  refine zt_bipush (pc' := 721) hX dX12_init_719 rfl (by decide) (by decide) ?_
  refine zt_cast (pc' := 722) hX dX12_init_721 rfl (by decide) zc_191 zs_73 (by decide) ⟨by decide, by decide⟩ (by decide +kernel) ?_
  rw [show Int.toNat 2 = 2 from rfl]
  generalize h728 : zset s722 191 2 108 = s727
  have q729 := zq_el h728 q724 (by decide) (by decide) zc_191 zs_73 (show 0 ≤ (108 : Int) ∧ (108 : Int) ≤ 65535 from ⟨by decide, by decide⟩) (by decide) (by decide)
  have f730 : s727 191 0 = 97 := by rw [← h728]; exact (zset_j (by decide)).trans f725
  have f731 : s727 191 1 = 108 := by rw [← h728]; exact (zset_j (by decide)).trans f726
  have f732 : s727 191 2 = 108 := by rw [← h728]; exact zset_s
  clear f725 f726
  clear h728 q724
  have q733 := zq_row (d := 192) (k := 191) (L := [97, 108, 108]) q729 (by decide) (fun j hj => by have hj : j < 3 := hj; rcases (show j = 0 ∨ j = 1 ∨ j = 2 by omega) with rfl | rfl | rfl; exact f730; exact f731; exact f732)
  clear f730 f731 f732 q729
  refine zt_putF (pc' := 725) (x := ((191 : Nat) : Int)) hX dX12_init_722 rfl hN.1 zf_X12_93 (by decide) zc_164 zs_46 (fun q hq => by cases hq; exact ⟨rfl, rfl⟩) (zrf_of rfl) rfl rfl ?_
  generalize h735 : zset s727 164 35 ((191 : Nat) : Int) = s734
  have q736 := zq_ref (m' := 36) (g := 0) h735 q733 rfl (by decide) rfl (by decide) rfl (by decide)
  clear h735 q733
  refine zt_aload_n (pc' := 726) hX dX12_init_725 rfl rfl ?_
  refine zt_iconst (pc' := 727) hX dX12_init_726 rfl ?_
  refine zt_newaL (pc' := 729) (t := 3) (N := 3) (n' := 193) (cs' := 28) (ss' := 1713) hX dX12_init_727 rfl zw_10_19 rfl (by decide) (by decide) zc_192 zs_74 (by decide) (by decide) (zCs_nx q736.1) rfl rfl rfl ⟨by rw [hN.2.1]; exact Nat.le_of_ble_eq_true rfl, by rw [hN.2.2]; exact Nat.le_of_ble_eq_true rfl⟩ ?_
  have q737 := zq_arr (n' := 193) q736 zc_192 zs_74 (by decide) rfl
  clear q736
  refine zt_dup (pc' := 730) hX dX12_init_729 rfl rfl ?_
  refine zt_iconst (pc' := 731) hX dX12_init_730 rfl ?_
  refine zt_bipush (pc' := 733) hX dX12_init_731 rfl (by decide) (by decide) ?_
  refine zt_cast (pc' := 734) hX dX12_init_733 rfl (by decide) zc_192 zs_74 (by decide) ⟨by decide, by decide⟩ (by decide +kernel) ?_
  rw [show Int.toNat 0 = 0 from rfl]
  generalize h739 : zset s734 192 0 109 = s738
  have q740 := zq_el h739 q737 (by decide) (by decide) zc_192 zs_74 (show 0 ≤ (109 : Int) ∧ (109 : Int) ≤ 65535 from ⟨by decide, by decide⟩) (by decide) (by decide)
  have f741 : s738 192 0 = 109 := by rw [← h739]; exact zset_s
  clear h739 q737
  refine zt_dup (pc' := 735) hX dX12_init_734 rfl rfl ?_
  refine zt_iconst (pc' := 736) hX dX12_init_735 rfl ?_
  refine zt_bipush (pc' := 738) hX dX12_init_736 rfl (by decide) (by decide) ?_
  refine zt_cast (pc' := 739) hX dX12_init_738 rfl (by decide) zc_192 zs_74 (by decide) ⟨by decide, by decide⟩ (by decide +kernel) ?_
  rw [show Int.toNat 1 = 1 from rfl]
  generalize h743 : zset s738 192 1 105 = s742
  have q744 := zq_el h743 q740 (by decide) (by decide) zc_192 zs_74 (show 0 ≤ (105 : Int) ∧ (105 : Int) ≤ 65535 from ⟨by decide, by decide⟩) (by decide) (by decide)
  have f745 : s742 192 0 = 109 := by rw [← h743]; exact (zset_j (by decide)).trans f741
  have f746 : s742 192 1 = 105 := by rw [← h743]; exact zset_s
  clear f741
  clear h743 q740
  refine zt_dup (pc' := 740) hX dX12_init_739 rfl rfl ?_
  refine zt_iconst (pc' := 741) hX dX12_init_740 rfl ?_
  refine zt_bipush (pc' := 743) hX dX12_init_741 rfl (by decide) (by decide) ?_
  refine zt_cast (pc' := 744) hX dX12_init_743 rfl (by decide) zc_192 zs_74 (by decide) ⟨by decide, by decide⟩ (by decide +kernel) ?_
  rw [show Int.toNat 2 = 2 from rfl]
  generalize h748 : zset s742 192 2 110 = s747
  have q749 := zq_el h748 q744 (by decide) (by decide) zc_192 zs_74 (show 0 ≤ (110 : Int) ∧ (110 : Int) ≤ 65535 from ⟨by decide, by decide⟩) (by decide) (by decide)
  have f750 : s747 192 0 = 109 := by rw [← h748]; exact (zset_j (by decide)).trans f745
  have f751 : s747 192 1 = 105 := by rw [← h748]; exact (zset_j (by decide)).trans f746
  have f752 : s747 192 2 = 110 := by rw [← h748]; exact zset_s
  clear f745 f746
  clear h748 q744
  have q753 := zq_row (d := 193) (k := 192) (L := [109, 105, 110]) q749 (by decide) (fun j hj => by have hj : j < 3 := hj; rcases (show j = 0 ∨ j = 1 ∨ j = 2 by omega) with rfl | rfl | rfl; exact f750; exact f751; exact f752)
  clear f750 f751 f752 q749
  refine zt_putF (pc' := 747) (x := ((192 : Nat) : Int)) hX dX12_init_744 rfl hN.1 zf_X12_96 (by decide) zc_164 zs_46 (fun q hq => by cases hq; exact ⟨rfl, rfl⟩) (zrf_of rfl) rfl rfl ?_
  generalize h755 : zset s747 164 36 ((192 : Nat) : Int) = s754
  have q756 := zq_ref (m' := 37) (g := 0) h755 q753 rfl (by decide) rfl (by decide) rfl (by decide)
  clear h755 q753
  refine zt_aload_n (pc' := 748) hX dX12_init_747 rfl rfl ?_
  refine zt_iconst (pc' := 749) hX dX12_init_748 rfl ?_
  refine zt_newaL (pc' := 751) (t := 3) (N := 3) (n' := 194) (cs' := 29) (ss' := 1716) hX dX12_init_749 rfl zw_10_19 rfl (by decide) (by decide) zc_193 zs_75 (by decide) (by decide) (zCs_nx q756.1) rfl rfl rfl ⟨by rw [hN.2.1]; exact Nat.le_of_ble_eq_true rfl, by rw [hN.2.2]; exact Nat.le_of_ble_eq_true rfl⟩ ?_
  have q757 := zq_arr (n' := 194) q756 zc_193 zs_75 (by decide) rfl
  clear q756
  refine zt_dup (pc' := 752) hX dX12_init_751 rfl rfl ?_
  refine zt_iconst (pc' := 753) hX dX12_init_752 rfl ?_
  refine zt_bipush (pc' := 755) hX dX12_init_753 rfl (by decide) (by decide) ?_
  refine zt_cast (pc' := 756) hX dX12_init_755 rfl (by decide) zc_193 zs_75 (by decide) ⟨by decide, by decide⟩ (by decide +kernel) ?_
  rw [show Int.toNat 0 = 0 from rfl]
  generalize h759 : zset s754 193 0 109 = s758
  have q760 := zq_el h759 q757 (by decide) (by decide) zc_193 zs_75 (show 0 ≤ (109 : Int) ∧ (109 : Int) ≤ 65535 from ⟨by decide, by decide⟩) (by decide) (by decide)
  have f761 : s758 193 0 = 109 := by rw [← h759]; exact zset_s
  clear h759 q757
  refine zt_dup (pc' := 757) hX dX12_init_756 rfl rfl ?_
  refine zt_iconst (pc' := 758) hX dX12_init_757 rfl ?_
  refine zt_bipush (pc' := 760) hX dX12_init_758 rfl (by decide) (by decide) ?_
  refine zt_cast (pc' := 761) hX dX12_init_760 rfl (by decide) zc_193 zs_75 (by decide) ⟨by decide, by decide⟩ (by decide +kernel) ?_
  rw [show Int.toNat 1 = 1 from rfl]
  generalize h763 : zset s758 193 1 97 = s762
  have q764 := zq_el h763 q760 (by decide) (by decide) zc_193 zs_75 (show 0 ≤ (97 : Int) ∧ (97 : Int) ≤ 65535 from ⟨by decide, by decide⟩) (by decide) (by decide)
  have f765 : s762 193 0 = 109 := by rw [← h763]; exact (zset_j (by decide)).trans f761
  have f766 : s762 193 1 = 97 := by rw [← h763]; exact zset_s
  clear f761
  clear h763 q760
  refine zt_dup (pc' := 762) hX dX12_init_761 rfl rfl ?_
  refine zt_iconst (pc' := 763) hX dX12_init_762 rfl ?_
  refine zt_bipush (pc' := 765) hX dX12_init_763 rfl (by decide) (by decide) ?_
  refine zt_cast (pc' := 766) hX dX12_init_765 rfl (by decide) zc_193 zs_75 (by decide) ⟨by decide, by decide⟩ (by decide +kernel) ?_
  rw [show Int.toNat 2 = 2 from rfl]
  generalize h768 : zset s762 193 2 120 = s767
  have q769 := zq_el h768 q764 (by decide) (by decide) zc_193 zs_75 (show 0 ≤ (120 : Int) ∧ (120 : Int) ≤ 65535 from ⟨by decide, by decide⟩) (by decide) (by decide)
  have f770 : s767 193 0 = 109 := by rw [← h768]; exact (zset_j (by decide)).trans f765
  have f771 : s767 193 1 = 97 := by rw [← h768]; exact (zset_j (by decide)).trans f766
  have f772 : s767 193 2 = 120 := by rw [← h768]; exact zset_s
  clear f765 f766
  clear h768 q764
  have q773 := zq_row (d := 194) (k := 193) (L := [109, 97, 120]) q769 (by decide) (fun j hj => by have hj : j < 3 := hj; rcases (show j = 0 ∨ j = 1 ∨ j = 2 by omega) with rfl | rfl | rfl; exact f770; exact f771; exact f772)
  clear f770 f771 f772 q769
  refine zt_putF (pc' := 769) (x := ((193 : Nat) : Int)) hX dX12_init_766 rfl hN.1 zf_X12_99 (by decide) zc_164 zs_46 (fun q hq => by cases hq; exact ⟨rfl, rfl⟩) (zrf_of rfl) rfl rfl ?_
  generalize h775 : zset s767 164 37 ((193 : Nat) : Int) = s774
  have q776 := zq_ref (m' := 38) (g := 0) h775 q773 rfl (by decide) rfl (by decide) rfl (by decide)
  clear h775 q773
  refine zt_aload_n (pc' := 770) hX dX12_init_769 rfl rfl ?_
  refine zt_bipush (pc' := 772) hX dX12_init_770 rfl (by decide) (by decide) ?_
  refine zt_newaL (pc' := 774) (t := 0) (N := 6) (n' := 195) (cs' := 30) (ss' := 1722) hX dX12_init_772 rfl zw_3_7 rfl (by decide) (by decide) zc_194 zs_76 (by decide) (by decide) (zCs_nx q776.1) rfl rfl rfl ⟨by rw [hN.2.1]; exact Nat.le_of_ble_eq_true rfl, by rw [hN.2.2]; exact Nat.le_of_ble_eq_true rfl⟩ ?_
  have q777 := zq_arr (n' := 195) q776 zc_194 zs_76 (by decide) rfl
  clear q776
  refine zt_putF (pc' := 777) (x := ((194 : Nat) : Int)) hX dX12_init_774 rfl hN.1 zf_X12_102 (by decide) zc_164 zs_46 (fun q hq => by cases hq; exact ⟨rfl, rfl⟩) (zrf_of rfl) rfl rfl ?_
  generalize h779 : zset s774 164 39 ((194 : Nat) : Int) = s778
  have q780 := zq_ref (m' := 40) (g := 1) h779 q777 rfl (by decide) rfl (by decide) rfl (by decide)
  clear h779 q777
  refine zt_aload_n (pc' := 778) hX dX12_init_777 rfl rfl ?_
  refine zt_iconst (pc' := 779) hX dX12_init_778 rfl ?_
  refine zt_newaL (pc' := 781) (t := 0) (N := 2) (n' := 196) (cs' := 31) (ss' := 1724) hX dX12_init_779 rfl zw_3_7 rfl (by decide) (by decide) zc_195 zs_77 (by decide) (by decide) (zCs_nx q780.1) rfl rfl rfl ⟨by rw [hN.2.1]; exact Nat.le_of_ble_eq_true rfl, by rw [hN.2.2]; exact Nat.le_of_ble_eq_true rfl⟩ ?_
  have q781 := zq_arr (n' := 196) q780 zc_195 zs_77 (by decide) rfl
  clear q780
  refine zt_putF (pc' := 784) (x := ((195 : Nat) : Int)) hX dX12_init_781 rfl hN.1 zf_X12_105 (by decide) zc_164 zs_46 (fun q hq => by cases hq; exact ⟨rfl, rfl⟩) (zrf_of rfl) rfl rfl ?_
  generalize h783 : zset s778 164 40 ((195 : Nat) : Int) = s782
  have q784 := zq_ref (m' := 41) (g := 0) h783 q781 rfl (by decide) rfl (by decide) rfl (by decide)
  clear h783 q781
  refine zt_aload_n (pc' := 785) hX dX12_init_784 rfl rfl ?_
  refine zt_bipush (pc' := 787) hX dX12_init_785 rfl (by decide) (by decide) ?_
  refine zt_newaL (pc' := 789) (t := 4) (N := 20) (n' := 197) (cs' := 32) (ss' := 1744) hX dX12_init_787 rfl zw_12_1 rfl (by decide) (by decide) zc_196 zs_78 (by decide) (by decide) (zCs_nx q784.1) rfl rfl rfl ⟨by rw [hN.2.1]; exact Nat.le_of_ble_eq_true rfl, by rw [hN.2.2]; exact Nat.le_of_ble_eq_true rfl⟩ ?_
  have q785 := zq_arr (n' := 197) q784 zc_196 zs_78 (by decide) rfl
  clear q784
  refine zt_putF (pc' := 792) (x := ((196 : Nat) : Int)) hX dX12_init_789 rfl hN.1 zf_X12_108 (by decide) zc_164 zs_46 (fun q hq => by cases hq; exact ⟨rfl, rfl⟩) (zrf_of rfl) rfl rfl ?_
  generalize h787 : zset s782 164 41 ((196 : Nat) : Int) = s786
  have q788 := zq_ref (m' := 42) (g := 0) h787 q785 rfl (by decide) rfl (by decide) rfl (by decide)
  clear h787 q785
  refine zt_aload_n (pc' := 793) hX dX12_init_792 rfl rfl ?_
  refine zt_bipush (pc' := 795) hX dX12_init_793 rfl (by decide) (by decide) ?_
  refine zt_newaL (pc' := 797) (t := 0) (N := 72) (n' := 198) (cs' := 33) (ss' := 1816) hX dX12_init_795 rfl zw_3_7 rfl (by decide) (by decide) zc_197 zs_79 (by decide) (by decide) (zCs_nx q788.1) rfl rfl rfl ⟨by rw [hN.2.1]; exact Nat.le_of_ble_eq_true rfl, by rw [hN.2.2]; exact Nat.le_of_ble_eq_true rfl⟩ ?_
  have q789 := zq_arr (n' := 198) q788 zc_197 zs_79 (by decide) rfl
  clear q788
  refine zt_putF (pc' := 800) (x := ((197 : Nat) : Int)) hX dX12_init_797 rfl hN.1 zf_X12_112 (by decide) zc_164 zs_46 (fun q hq => by cases hq; exact ⟨rfl, rfl⟩) (zrf_of rfl) rfl rfl ?_
  generalize h791 : zset s786 164 42 ((197 : Nat) : Int) = s790
  have q792 := zq_ref (m' := 43) (g := 0) h791 q789 rfl (by decide) rfl (by decide) rfl (by decide)
  clear h791 q789
  refine zt_aload_n (pc' := 801) hX dX12_init_800 rfl rfl ?_
  refine zt_bipush (pc' := 803) hX dX12_init_801 rfl (by decide) (by decide) ?_
  refine zt_newaL (pc' := 805) (t := 0) (N := 40) (n' := 199) (cs' := 34) (ss' := 1856) hX dX12_init_803 rfl zw_3_7 rfl (by decide) (by decide) zc_198 zs_80 (by decide) (by decide) (zCs_nx q792.1) rfl rfl rfl ⟨by rw [hN.2.1]; exact Nat.le_of_ble_eq_true rfl, by rw [hN.2.2]; exact Nat.le_of_ble_eq_true rfl⟩ ?_
  have q793 := zq_arr (n' := 199) q792 zc_198 zs_80 (by decide) rfl
  clear q792
  refine zt_putF (pc' := 808) (x := ((198 : Nat) : Int)) hX dX12_init_805 rfl hN.1 zf_X12_115 (by decide) zc_164 zs_46 (fun q hq => by cases hq; exact ⟨rfl, rfl⟩) (zrf_of rfl) rfl rfl ?_
  generalize h795 : zset s790 164 43 ((198 : Nat) : Int) = s794
  have q796 := zq_ref (m' := 44) (g := 0) h795 q793 rfl (by decide) rfl (by decide) rfl (by decide)
  clear h795 q793
  refine zt_aload_n (pc' := 809) hX dX12_init_808 rfl rfl ?_
  refine zt_bipush (pc' := 811) hX dX12_init_809 rfl (by decide) (by decide) ?_
  refine zt_newaL (pc' := 813) (t := 0) (N := 6) (n' := 200) (cs' := 35) (ss' := 1862) hX dX12_init_811 rfl zw_3_7 rfl (by decide) (by decide) zc_199 zs_81 (by decide) (by decide) (zCs_nx q796.1) rfl rfl rfl ⟨by rw [hN.2.1]; exact Nat.le_of_ble_eq_true rfl, by rw [hN.2.2]; exact Nat.le_of_ble_eq_true rfl⟩ ?_
  have q797 := zq_arr (n' := 200) q796 zc_199 zs_81 (by decide) rfl
  clear q796
  refine zt_dup (pc' := 814) hX dX12_init_813 rfl rfl ?_
  refine zt_iconst (pc' := 815) hX dX12_init_814 rfl ?_
  refine zt_iconst (pc' := 816) hX dX12_init_815 rfl ?_
  refine zt_iast (pc' := 817) hX dX12_init_816 rfl (by decide) zc_199 zs_81 (by decide) ⟨by decide, by decide⟩ ?_
  rw [show Int.toNat 0 = 0 from rfl]
  generalize h799 : zset s794 199 0 3 = s798
  have q800 := zq_el h799 q797 (by decide) (by decide) zc_199 zs_81 (show zP81 199 0 3 from (by unfold zP81; omega)) (by decide) (by decide)
  clear h799 q797
  refine zt_dup (pc' := 818) hX dX12_init_817 rfl rfl ?_
  refine zt_iconst (pc' := 819) hX dX12_init_818 rfl ?_
  refine zt_bipush (pc' := 821) hX dX12_init_819 rfl (by decide) (by decide) ?_
  refine zt_iast (pc' := 822) hX dX12_init_821 rfl (by decide) zc_199 zs_81 (by decide) ⟨by decide, by decide⟩ ?_
  rw [show Int.toNat 1 = 1 from rfl]
  generalize h802 : zset s798 199 1 20 = s801
  have q803 := zq_el h802 q800 (by decide) (by decide) zc_199 zs_81 (show zP81 199 1 20 from (by unfold zP81; omega)) (by decide) (by decide)
  clear h802 q800
  refine zt_dup (pc' := 823) hX dX12_init_822 rfl rfl ?_
  refine zt_iconst (pc' := 824) hX dX12_init_823 rfl ?_
  refine zt_iconst (pc' := 825) hX dX12_init_824 rfl ?_
  refine zt_iast (pc' := 826) hX dX12_init_825 rfl (by decide) zc_199 zs_81 (by decide) ⟨by decide, by decide⟩ ?_
  rw [show Int.toNat 2 = 2 from rfl]
  generalize h805 : zset s801 199 2 0 = s804
  have q806 := zq_el h805 q803 (by decide) (by decide) zc_199 zs_81 (show zP81 199 2 0 from (by unfold zP81; omega)) (by decide) (by decide)
  clear h805 q803
  refine zt_dup (pc' := 827) hX dX12_init_826 rfl rfl ?_
  refine zt_iconst (pc' := 828) hX dX12_init_827 rfl ?_
  refine zt_iconst (pc' := 829) hX dX12_init_828 rfl ?_
  refine zt_iast (pc' := 830) hX dX12_init_829 rfl (by decide) zc_199 zs_81 (by decide) ⟨by decide, by decide⟩ ?_
  rw [show Int.toNat 3 = 3 from rfl]
  generalize h808 : zset s804 199 3 3 = s807
  have q809 := zq_el h808 q806 (by decide) (by decide) zc_199 zs_81 (show zP81 199 3 3 from (by unfold zP81; omega)) (by decide) (by decide)
  clear h808 q806
  refine zt_dup (pc' := 831) hX dX12_init_830 rfl rfl ?_
  refine zt_iconst (pc' := 832) hX dX12_init_831 rfl ?_
  refine zt_bipush (pc' := 834) hX dX12_init_832 rfl (by decide) (by decide) ?_
  refine zt_iast (pc' := 835) hX dX12_init_834 rfl (by decide) zc_199 zs_81 (by decide) ⟨by decide, by decide⟩ ?_
  rw [show Int.toNat 4 = 4 from rfl]
  generalize h811 : zset s807 199 4 20 = s810
  have q812 := zq_el h811 q809 (by decide) (by decide) zc_199 zs_81 (show zP81 199 4 20 from (by unfold zP81; omega)) (by decide) (by decide)
  clear h811 q809
  refine zt_dup (pc' := 836) hX dX12_init_835 rfl rfl ?_
  refine zt_iconst (pc' := 837) hX dX12_init_836 rfl ?_
  refine zt_iconst (pc' := 838) hX dX12_init_837 rfl ?_
  refine zt_iast (pc' := 839) hX dX12_init_838 rfl (by decide) zc_199 zs_81 (by decide) ⟨by decide, by decide⟩ ?_
  rw [show Int.toNat 5 = 5 from rfl]
  generalize h814 : zset s810 199 5 0 = s813
  have q815 := zq_el h814 q812 (by decide) (by decide) zc_199 zs_81 (show zP81 199 5 0 from (by unfold zP81; omega)) (by decide) (by decide)
  clear h814 q812
  refine zt_putF (pc' := 842) (x := ((199 : Nat) : Int)) hX dX12_init_839 rfl hN.1 zf_X12_118 (by decide) zc_164 zs_46 (fun q hq => by cases hq; exact ⟨rfl, rfl⟩) (zrf_of rfl) rfl rfl ?_
  generalize h817 : zset s813 164 44 ((199 : Nat) : Int) = s816
  have q818 := zq_ref (m' := 45) (g := 0) h817 q815 rfl (by decide) rfl (by decide) rfl (by decide)
  clear h817 q815
  exact K s816 q818
