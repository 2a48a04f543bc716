/-! the reference's constructor, in segments -/
def zTk (a b : Int) (s : zSto) : Prop := s 200 2 = a ∧ s 200 3 = b ∧ s 164 50 = 0 ∧ s 164 54 = 0 ∧ s 164 1 = 0
def zQm (a b : Int) (σ s : zSto) (m n : Nat) : Prop := zCs σ s 164 m n ∧ zTk a b s
theorem zTk_164 {a b v : Int} {s s1 : zSto} {j : Nat} (e : zset s 164 j v = s1) (hj : j ≠ 50 ∧ j ≠ 54 ∧ j ≠ 1) (t : zTk a b s) : zTk a b s1 := by
  subst e
  obtain ⟨t1, t2, t3, t4, t5⟩ := t
  exact ⟨(zset_k (by decide)).trans t1, (zset_k (by decide)).trans t2, (zset_j (fun h => hj.1 h.symm)).trans t3, (zset_j (fun h => hj.2.1 h.symm)).trans t4, (zset_j (fun h => hj.2.2 h.symm)).trans t5⟩
theorem zq_ref {a b v : Int} {σ s s1 : zSto} {m n j m' g : Nat} (e : zset s 164 j v = s1) (h : zQm a b σ s m n) (hv : zP 46 164 j v) (hn : v ≠ -1) (hg : m + g = j) (hm : ∀ i, i < g → zdv (zft 12 (m + i)) ≠ -1) (hm' : j + 1 = m') (hj : j ≠ 50 ∧ j ≠ 54 ∧ j ≠ 1) : zQm a b σ s1 m' n := by
  subst hm'
  refine ⟨zCs_ref e h.1 zc_164 zs_46 hv hn (fun i h1 h2 => ?_), zTk_164 e hj h.2⟩
  have := hm (i - m) (by omega)
  rwa [show m + (i - m) = i by omega] at this
theorem zq_int {a b v : Int} {σ s s1 : zSto} {m n j : Nat} (e : zset s 164 j v = s1) (h : zQm a b σ s m n) (hv : zP 46 164 j v) (hd : zdv (zft 12 j) ≠ -1) (hj : j ≠ 50 ∧ j ≠ 54 ∧ j ≠ 1) : zQm a b σ s1 m n := ⟨zCs_int e h.1 zc_164 zs_46 hv hd, zTk_164 e hj h.2⟩
theorem zq_arr {a b : Int} {σ s : zSto} {m n n' r t N : Nat} (h : zQm a b σ s m n) (hk : zro n = r) (hs : zrs r = .inr (t, N)) (ht : t < 5) (hn : n + 1 = n') : zQm a b σ s m n' := by
  subst hn
  exact ⟨zCs_arr h.1 hk hs ht, h.2⟩
theorem zq_el {a b v : Int} {σ s s1 : zSto} {m n c r t N j : Nat} (e : zset s c j v = s1) (h : zQm a b σ s m n) (hc : 164 < c) (hcn : c < n) (hk : zro c = r) (hs : zrs r = .inr (t, N)) (hv : zP r c j v) (h2 : c ≠ 200 ∨ (j ≠ 2 ∧ j ≠ 3)) : zQm a b σ s1 m n := by
  refine ⟨zCs_el e h.1 hc hcn hk hs hv, ?_⟩
  subst e
  obtain ⟨t1, t2, t3, t4, t5⟩ := h.2
  have hne : (164 : Nat) ≠ c := by omega
  refine ⟨?_, ?_, (zset_k hne).trans t3, (zset_k hne).trans t4, (zset_k hne).trans t5⟩
  · rcases h2 with q | q
    · exact (zset_k (fun x => q x.symm)).trans t1
    · exact (zset_j (fun x => q.1 x.symm)).trans t1
  · rcases h2 with q | q
    · exact (zset_k (fun x => q x.symm)).trans t2
    · exact (zset_j (fun x => q.2 x.symm)).trans t2
theorem zq_e2 {a b v : Int} {σ s s1 : zSto} {m n r t N : Nat} (e : zset s 200 2 v = s1) (h : zQm a b σ s m n) (hcn : 200 < n) (hk : zro 200 = r) (hs : zrs r = .inr (t, N)) (hv : zP r 200 2 v) : zQm v b σ s1 m n := by
  refine ⟨zCs_el e h.1 (by decide) hcn hk hs hv, ?_⟩
  subst e
  obtain ⟨t1, t2, t3, t4, t5⟩ := h.2
  exact ⟨zset_s, (zset_j (by decide)).trans t2, (zset_k (by decide)).trans t3, (zset_k (by decide)).trans t4, (zset_k (by decide)).trans t5⟩
theorem zq_e3 {a b v : Int} {σ s s1 : zSto} {m n r t N : Nat} (e : zset s 200 3 v = s1) (h : zQm a b σ s m n) (hcn : 200 < n) (hk : zro 200 = r) (hs : zrs r = .inr (t, N)) (hv : zP r 200 3 v) : zQm a v σ s1 m n := by
  refine ⟨zCs_el e h.1 (by decide) hcn hk hs hv, ?_⟩
  subst e
  obtain ⟨t1, t2, t3, t4, t5⟩ := h.2
  exact ⟨(zset_j (by decide)).trans t1, zset_s, (zset_k (by decide)).trans t3, (zset_k (by decide)).trans t4, (zset_k (by decide)).trans t5⟩
section ZQM
variable {X : zCX} {cc : ByteArray} {own : String} {d n cs ss pc pc' : Nat} {σ : zSto} {lv : List (Option Value)} {st : List Value}
theorem zt_newaL {t N r n' cs' ss' : Nat} {x : Int} {atype : ArrayType} (hX : zok X cc own d) (hd : decode cc pc = .ok (.newarray atype, 2)) (hp : pc + 2 = pc') (hw : Cond.arrayClass (newarray.typeOf atype) ∈ wsL_law) (hty : newarray.typeOf atype = zty t) (ht5 : t < 5) (hn : n ≠ zNC) (hk : zro n = r) (hs : zrs r = .inr (t, N)) (hx0 : x = (N : Int)) (hN : N ≤ 65535) (h0 : σ n = zdef n) (e1 : n + 1 = n') (e2 : cs + 1 = cs') (e3 : ss + N = ss') (hroom : cs' ≤ X.2.2.2.2.1.cells ∧ ss' ≤ X.2.2.2.2.1.slots)
    (k : zZ X n' cs' ss' σ pc' lv (.ref (X.1.1 + n) :: st)) : zZ X n cs ss σ pc lv (.int (zI x) :: st) := by
  subst e1 e2 e3
  exact zt_newa hX hd hp hw hty ht5 hn hk hs hx0 hN h0 hroom k
end ZQM
set_option maxRecDepth 100000 in
set_option maxHeartbeats 4000000 in
theorem zxm_0 {X : zCX} {σ s : zSto} (hX : zok X cX12_init RX12 1) (hN : X.2.2.2.2.2.2.2.2.2.1.name = yX12_init.name ∧ X.2.2.2.2.1.cells = 73 ∧ X.2.2.2.2.1.slots = 16482) (q : zQm (0) (0) σ s 0 165) (K : ∀ s' : zSto, zQm (0) (0) σ s' 15 171 → zZ X 171 6 1622 s' 134 [some (.ref (X.1.1 + 164))] []) : zZ X 165 0 0 s 0 [some (.ref (X.1.1 + 164))] [] := by
  refine zt_aload_n (pc' := 1) hX dX12_init_0 rfl rfl ?_
  refine zt_oinit (pc' := 4) hX (by decide) dX12_init_1 rfl zw_10_15 zw_1_10 zw_1_11 rfl ?_
  refine zt_aload_n (pc' := 5) hX dX12_init_4 rfl rfl ?_
  refine zt_sipush (pc' := 8) hX dX12_init_5 rfl (by decide) (by decide) ?_
  refine zt_newaL (pc' := 10) (t := 0) (N := 1600) (n' := 166) (cs' := 1) (ss' := 1600) hX dX12_init_8 rfl zw_3_7 rfl (by decide) (by decide) zc_165 zs_47 (by decide) (by decide) (zCs_nx q.1) rfl rfl rfl ⟨by rw [hN.2.1]; exact Nat.le_of_ble_eq_true rfl, by rw [hN.2.2]; exact Nat.le_of_ble_eq_true rfl⟩ ?_
  have q1 := zq_arr (n' := 166) q zc_165 zs_47 (by decide) rfl
  refine zt_putF (pc' := 13) (x := ((165 : Nat) : Int)) hX dX12_init_10 rfl hN.1 zf_X12_7 (by decide) zc_164 zs_46 (fun q hq => by cases hq; exact ⟨rfl, rfl⟩) (zrf_of rfl) rfl rfl ?_
  generalize h3 : zset s 164 0 ((165 : Nat) : Int) = s2
  have q4 := zq_ref (m' := 1) (g := 0) h3 q1 rfl (by decide) rfl (by decide) rfl (by decide)
  clear h3 q1
  refine zt_aload_n (pc' := 14) hX dX12_init_13 rfl rfl ?_
  refine zt_iconst (pc' := 15) hX dX12_init_14 rfl ?_
  refine zt_put (pc' := 18) (x := (-1)) hX dX12_init_15 rfl zf_X12_13 (by decide) zc_164 zs_46 (fun q hq => by cases hq; rfl) rfl rfl rfl ?_
  generalize h6 : zset s2 164 8 (-1) = s5
  have q7 := zq_int h6 q4 (show -2147483648 ≤ ((-1) : Int) ∧ ((-1) : Int) ≤ 2147483647 from ⟨by decide, by decide⟩) (by decide) (by decide)
  clear h6 q4
  refine zt_aload_n (pc' := 19) hX dX12_init_18 rfl rfl ?_
  refine zt_bipush (pc' := 21) hX dX12_init_19 rfl (by decide) (by decide) ?_
  refine zt_newaL (pc' := 23) (t := 0) (N := 6) (n' := 167) (cs' := 2) (ss' := 1606) hX dX12_init_21 rfl zw_3_7 rfl (by decide) (by decide) zc_166 zs_48 (by decide) (by decide) (zCs_nx q7.1) rfl rfl rfl ⟨by rw [hN.2.1]; exact Nat.le_of_ble_eq_true rfl, by rw [hN.2.2]; exact Nat.le_of_ble_eq_true rfl⟩ ?_
  have q8 := zq_arr (n' := 167) q7 zc_166 zs_48 (by decide) rfl
  clear q7
  refine zt_putF (pc' := 26) (x := ((166 : Nat) : Int)) hX dX12_init_23 rfl hN.1 zf_X12_17 (by decide) zc_164 zs_46 (fun q hq => by cases hq; exact ⟨rfl, rfl⟩) (zrf_of rfl) rfl rfl ?_
  generalize h10 : zset s5 164 9 ((166 : Nat) : Int) = s9
  have q11 := zq_ref (m' := 10) (g := 8) h10 q8 rfl (by decide) rfl (by decide) rfl (by decide)
  clear h10 q8
  refine zt_aload_n (pc' := 27) hX dX12_init_26 rfl rfl ?_
  refine zt_iconst (pc' := 28) hX dX12_init_27 rfl ?_
  refine zt_newaL (pc' := 30) (t := 3) (N := 4) (n' := 168) (cs' := 3) (ss' := 1610) hX dX12_init_28 rfl zw_10_19 rfl (by decide) (by decide) zc_167 zs_49 (by decide) (by decide) (zCs_nx q11.1) rfl rfl rfl ⟨by rw [hN.2.1]; exact Nat.le_of_ble_eq_true rfl, by rw [hN.2.2]; exact Nat.le_of_ble_eq_true rfl⟩ ?_
  have q12 := zq_arr (n' := 168) q11 zc_167 zs_49 (by decide) rfl
  clear q11
  refine zt_dup (pc' := 31) hX dX12_init_30 rfl rfl ?_
  refine zt_iconst (pc' := 32) hX dX12_init_31 rfl ?_
  refine zt_bipush (pc' := 34) hX dX12_init_32 rfl (by decide) (by decide) ?_
  refine zt_cast (pc' := 35) hX dX12_init_34 rfl (by decide) zc_167 zs_49 (by decide) ⟨by decide, by decide⟩ (by decide +kernel) ?_
  rw [show Int.toNat 0 = 0 from rfl]
  generalize h14 : zset s9 167 0 112 = s13
  have q15 := zq_el h14 q12 (by decide) (by decide) zc_167 zs_49 (show 0 ≤ (112 : Int) ∧ (112 : Int) ≤ 65535 from ⟨by decide, by decide⟩) (by decide)
  clear h14 q12
  refine zt_dup (pc' := 36) hX dX12_init_35 rfl rfl ?_
  refine zt_iconst (pc' := 37) hX dX12_init_36 rfl ?_
  refine zt_bipush (pc' := 39) hX dX12_init_37 rfl (by decide) (by decide) ?_
  refine zt_cast (pc' := 40) hX dX12_init_39 rfl (by decide) zc_167 zs_49 (by decide) ⟨by decide, by decide⟩ (by decide +kernel) ?_
  rw [show Int.toNat 1 = 1 from rfl]
  generalize h17 : zset s13 167 1 97 = s16
  have q18 := zq_el h17 q15 (by decide) (by decide) zc_167 zs_49 (show 0 ≤ (97 : Int) ∧ (97 : Int) ≤ 65535 from ⟨by decide, by decide⟩) (by decide)
  clear h17 q15
  refine zt_dup (pc' := 41) hX dX12_init_40 rfl rfl ?_
  refine zt_iconst (pc' := 42) hX dX12_init_41 rfl ?_
  refine zt_bipush (pc' := 44) hX dX12_init_42 rfl (by decide) (by decide) ?_
  refine zt_cast (pc' := 45) hX dX12_init_44 rfl (by decide) zc_167 zs_49 (by decide) ⟨by decide, by decide⟩ (by decide +kernel) ?_
  rw [show Int.toNat 2 = 2 from rfl]
  generalize h20 : zset s16 167 2 110 = s19
  have q21 := zq_el h20 q18 (by decide) (by decide) zc_167 zs_49 (show 0 ≤ (110 : Int) ∧ (110 : Int) ≤ 65535 from ⟨by decide, by decide⟩) (by decide)
  clear h20 q18
  refine zt_dup (pc' := 46) hX dX12_init_45 rfl rfl ?_
  refine zt_iconst (pc' := 47) hX dX12_init_46 rfl ?_
  refine zt_bipush (pc' := 49) hX dX12_init_47 rfl (by decide) (by decide) ?_
  refine zt_cast (pc' := 50) hX dX12_init_49 rfl (by decide) zc_167 zs_49 (by decide) ⟨by decide, by decide⟩ (by decide +kernel) ?_
  rw [show Int.toNat 3 = 3 from rfl]
  generalize h23 : zset s19 167 3 101 = s22
  have q24 := zq_el h23 q21 (by decide) (by decide) zc_167 zs_49 (show 0 ≤ (101 : Int) ∧ (101 : Int) ≤ 65535 from ⟨by decide, by decide⟩) (by decide)
  clear h23 q21
  refine zt_putF (pc' := 53) (x := ((167 : Nat) : Int)) hX dX12_init_50 rfl hN.1 zf_X12_20 (by decide) zc_164 zs_46 (fun q hq => by cases hq; exact ⟨rfl, rfl⟩) (zrf_of rfl) rfl rfl ?_
  generalize h26 : zset s22 164 11 ((167 : Nat) : Int) = s25
  have q27 := zq_ref (m' := 12) (g := 1) h26 q24 rfl (by decide) rfl (by decide) rfl (by decide)
  clear h26 q24
  refine zt_aload_n (pc' := 54) hX dX12_init_53 rfl rfl ?_
  refine zt_iconst (pc' := 55) hX dX12_init_54 rfl ?_
  refine zt_newaL (pc' := 57) (t := 3) (N := 2) (n' := 169) (cs' := 4) (ss' := 1612) hX dX12_init_55 rfl zw_10_19 rfl (by decide) (by decide) zc_168 zs_50 (by decide) (by decide) (zCs_nx q27.1) rfl rfl rfl ⟨by rw [hN.2.1]; exact Nat.le_of_ble_eq_true rfl, by rw [hN.2.2]; exact Nat.le_of_ble_eq_true rfl⟩ ?_
  have q28 := zq_arr (n' := 169) q27 zc_168 zs_50 (by decide) rfl
  clear q27
  refine zt_dup (pc' := 58) hX dX12_init_57 rfl rfl ?_
  refine zt_iconst (pc' := 59) hX dX12_init_58 rfl ?_
  refine zt_bipush (pc' := 61) hX dX12_init_59 rfl (by decide) (by decide) ?_
  refine zt_cast (pc' := 62) hX dX12_init_61 rfl (by decide) zc_168 zs_50 (by decide) ⟨by decide, by decide⟩ (by decide +kernel) ?_
  rw [show Int.toNat 0 = 0 from rfl]
  generalize h30 : zset s25 168 0 98 = s29
  have q31 := zq_el h30 q28 (by decide) (by decide) zc_168 zs_50 (show 0 ≤ (98 : Int) ∧ (98 : Int) ≤ 65535 from ⟨by decide, by decide⟩) (by decide)
  clear h30 q28
  refine zt_dup (pc' := 63) hX dX12_init_62 rfl rfl ?_
  refine zt_iconst (pc' := 64) hX dX12_init_63 rfl ?_
  refine zt_bipush (pc' := 66) hX dX12_init_64 rfl (by decide) (by decide) ?_
  refine zt_cast (pc' := 67) hX dX12_init_66 rfl (by decide) zc_168 zs_50 (by decide) ⟨by decide, by decide⟩ (by decide +kernel) ?_
  rw [show Int.toNat 1 = 1 from rfl]
  generalize h33 : zset s29 168 1 121 = s32
  have q34 := zq_el h33 q31 (by decide) (by decide) zc_168 zs_50 (show 0 ≤ (121 : Int) ∧ (121 : Int) ≤ 65535 from ⟨by decide, by decide⟩) (by decide)
  clear h33 q31
  refine zt_putF (pc' := 70) (x := ((168 : Nat) : Int)) hX dX12_init_67 rfl hN.1 zf_X12_24 (by decide) zc_164 zs_46 (fun q hq => by cases hq; exact ⟨rfl, rfl⟩) (zrf_of rfl) rfl rfl ?_
  generalize h36 : zset s32 164 12 ((168 : Nat) : Int) = s35
  have q37 := zq_ref (m' := 13) (g := 0) h36 q34 rfl (by decide) rfl (by decide) rfl (by decide)
  clear h36 q34
  refine zt_aload_n (pc' := 71) hX dX12_init_70 rfl rfl ?_
  refine zt_iconst (pc' := 72) hX dX12_init_71 rfl ?_
  refine zt_newaL (pc' := 74) (t := 3) (N := 5) (n' := 170) (cs' := 5) (ss' := 1617) hX dX12_init_72 rfl zw_10_19 rfl (by decide) (by decide) zc_169 zs_51 (by decide) (by decide) (zCs_nx q37.1) rfl rfl rfl ⟨by rw [hN.2.1]; exact Nat.le_of_ble_eq_true rfl, by rw [hN.2.2]; exact Nat.le_of_ble_eq_true rfl⟩ ?_
  have q38 := zq_arr (n' := 170) q37 zc_169 zs_51 (by decide) rfl
  clear q37
  refine zt_dup (pc' := 75) hX dX12_init_74 rfl rfl ?_
  refine zt_iconst (pc' := 76) hX dX12_init_75 rfl ?_
  refine zt_bipush (pc' := 78) hX dX12_init_76 rfl (by decide) (by decide) ?_
  refine zt_cast (pc' := 79) hX dX12_init_78 rfl (by decide) zc_169 zs_51 (by decide) ⟨by decide, by decide⟩ (by decide +kernel) ?_
  rw [show Int.toNat 0 = 0 from rfl]
  generalize h40 : zset s35 169 0 116 = s39
  have q41 := zq_el h40 q38 (by decide) (by decide) zc_169 zs_51 (show 0 ≤ (116 : Int) ∧ (116 : Int) ≤ 65535 from ⟨by decide, by decide⟩) (by decide)
  clear h40 q38
  refine zt_dup (pc' := 80) hX dX12_init_79 rfl rfl ?_
  refine zt_iconst (pc' := 81) hX dX12_init_80 rfl ?_
  refine zt_bipush (pc' := 83) hX dX12_init_81 rfl (by decide) (by decide) ?_
  refine zt_cast (pc' := 84) hX dX12_init_83 rfl (by decide) zc_169 zs_51 (by decide) ⟨by decide, by decide⟩ (by decide +kernel) ?_
  rw [show Int.toNat 1 = 1 from rfl]
  generalize h43 : zset s39 169 1 111 = s42
  have q44 := zq_el h43 q41 (by decide) (by decide) zc_169 zs_51 (show 0 ≤ (111 : Int) ∧ (111 : Int) ≤ 65535 from ⟨by decide, by decide⟩) (by decide)
  clear h43 q41
  refine zt_dup (pc' := 85) hX dX12_init_84 rfl rfl ?_
  refine zt_iconst (pc' := 86) hX dX12_init_85 rfl ?_
  refine zt_bipush (pc' := 88) hX dX12_init_86 rfl (by decide) (by decide) ?_
  refine zt_cast (pc' := 89) hX dX12_init_88 rfl (by decide) zc_169 zs_51 (by decide) ⟨by decide, by decide⟩ (by decide +kernel) ?_
  rw [show Int.toNat 2 = 2 from rfl]
  generalize h46 : zset s42 169 2 117 = s45
  have q47 := zq_el h46 q44 (by decide) (by decide) zc_169 zs_51 (show 0 ≤ (117 : Int) ∧ (117 : Int) ≤ 65535 from ⟨by decide, by decide⟩) (by decide)
  clear h46 q44
  refine zt_dup (pc' := 90) hX dX12_init_89 rfl rfl ?_
  refine zt_iconst (pc' := 91) hX dX12_init_90 rfl ?_
  refine zt_bipush (pc' := 93) hX dX12_init_91 rfl (by decide) (by decide) ?_
  refine zt_cast (pc' := 94) hX dX12_init_93 rfl (by decide) zc_169 zs_51 (by decide) ⟨by decide, by decide⟩ (by decide +kernel) ?_
  rw [show Int.toNat 3 = 3 from rfl]
  generalize h49 : zset s45 169 3 103 = s48
  have q50 := zq_el h49 q47 (by decide) (by decide) zc_169 zs_51 (show 0 ≤ (103 : Int) ∧ (103 : Int) ≤ 65535 from ⟨by decide, by decide⟩) (by decide)
  clear h49 q47
  refine zt_dup (pc' := 95) hX dX12_init_94 rfl rfl ?_
  refine zt_iconst (pc' := 96) hX dX12_init_95 rfl ?_
  refine zt_bipush (pc' := 98) hX dX12_init_96 rfl (by decide) (by decide) ?_
  refine zt_cast (pc' := 99) hX dX12_init_98 rfl (by decide) zc_169 zs_51 (by decide) ⟨by decide, by decide⟩ (by decide +kernel) ?_
  rw [show Int.toNat 4 = 4 from rfl]
  generalize h52 : zset s48 169 4 104 = s51
  have q53 := zq_el h52 q50 (by decide) (by decide) zc_169 zs_51 (show 0 ≤ (104 : Int) ∧ (104 : Int) ≤ 65535 from ⟨by decide, by decide⟩) (by decide)
  clear h52 q50
  refine zt_putF (pc' := 102) (x := ((169 : Nat) : Int)) hX dX12_init_99 rfl hN.1 zf_X12_27 (by decide) zc_164 zs_46 (fun q hq => by cases hq; exact ⟨rfl, rfl⟩) (zrf_of rfl) rfl rfl ?_
  generalize h55 : zset s51 164 13 ((169 : Nat) : Int) = s54
  have q56 := zq_ref (m' := 14) (g := 0) h55 q53 rfl (by decide) rfl (by decide) rfl (by decide)
  clear h55 q53
  refine zt_aload_n (pc' := 103) hX dX12_init_102 rfl rfl ?_
  refine zt_iconst (pc' := 104) hX dX12_init_103 rfl ?_
  refine zt_newaL (pc' := 106) (t := 3) (N := 5) (n' := 171) (cs' := 6) (ss' := 1622) hX dX12_init_104 rfl zw_10_19 rfl (by decide) (by decide) zc_170 zs_52 (by decide) (by decide) (zCs_nx q56.1) rfl rfl rfl ⟨by rw [hN.2.1]; exact Nat.le_of_ble_eq_true rfl, by rw [hN.2.2]; exact Nat.le_of_ble_eq_true rfl⟩ ?_
  have q57 := zq_arr (n' := 171) q56 zc_170 zs_52 (by decide) rfl
  clear q56
  refine zt_dup (pc' := 107) hX dX12_init_106 rfl rfl ?_
  refine zt_iconst (pc' := 108) hX dX12_init_107 rfl ?_
  refine zt_bipush (pc' := 110) hX dX12_init_108 rfl (by decide) (by decide) ?_
  refine zt_cast (pc' := 111) hX dX12_init_110 rfl (by decide) zc_170 zs_52 (by decide) ⟨by decide, by decide⟩ (by decide +kernel) ?_
  rw [show Int.toNat 0 = 0 from rfl]
  generalize h59 : zset s54 170 0 104 = s58
  have q60 := zq_el h59 q57 (by decide) (by decide) zc_170 zs_52 (show 0 ≤ (104 : Int) ∧ (104 : Int) ≤ 65535 from ⟨by decide, by decide⟩) (by decide)
  clear h59 q57
  refine zt_dup (pc' := 112) hX dX12_init_111 rfl rfl ?_
  refine zt_iconst (pc' := 113) hX dX12_init_112 rfl ?_
  refine zt_bipush (pc' := 115) hX dX12_init_113 rfl (by decide) (by decide) ?_
  refine zt_cast (pc' := 116) hX dX12_init_115 rfl (by decide) zc_170 zs_52 (by decide) ⟨by decide, by decide⟩ (by decide +kernel) ?_
  rw [show Int.toNat 1 = 1 from rfl]
  generalize h62 : zset s58 170 1 101 = s61
  have q63 := zq_el h62 q60 (by decide) (by decide) zc_170 zs_52 (show 0 ≤ (101 : Int) ∧ (101 : Int) ≤ 65535 from ⟨by decide, by decide⟩) (by decide)
  clear h62 q60
  refine zt_dup (pc' := 117) hX dX12_init_116 rfl rfl ?_
  refine zt_iconst (pc' := 118) hX dX12_init_117 rfl ?_
  refine zt_bipush (pc' := 120) hX dX12_init_118 rfl (by decide) (by decide) ?_
  refine zt_cast (pc' := 121) hX dX12_init_120 rfl (by decide) zc_170 zs_52 (by decide) ⟨by decide, by decide⟩ (by decide +kernel) ?_
  rw [show Int.toNat 2 = 2 from rfl]
  generalize h65 : zset s61 170 2 97 = s64
  have q66 := zq_el h65 q63 (by decide) (by decide) zc_170 zs_52 (show 0 ≤ (97 : Int) ∧ (97 : Int) ≤ 65535 from ⟨by decide, by decide⟩) (by decide)
  clear h65 q63
  refine zt_dup (pc' := 122) hX dX12_init_121 rfl rfl ?_
  refine zt_iconst (pc' := 123) hX dX12_init_122 rfl ?_
  refine zt_bipush (pc' := 125) hX dX12_init_123 rfl (by decide) (by decide) ?_
  refine zt_cast (pc' := 126) hX dX12_init_125 rfl (by decide) zc_170 zs_52 (by decide) ⟨by decide, by decide⟩ (by decide +kernel) ?_
  rw [show Int.toNat 3 = 3 from rfl]
  generalize h68 : zset s64 170 3 118 = s67
  have q69 := zq_el h68 q66 (by decide) (by decide) zc_170 zs_52 (show 0 ≤ (118 : Int) ∧ (118 : Int) ≤ 65535 from ⟨by decide, by decide⟩) (by decide)
  clear h68 q66
  refine zt_dup (pc' := 127) hX dX12_init_126 rfl rfl ?_
  refine zt_iconst (pc' := 128) hX dX12_init_127 rfl ?_
  refine zt_bipush (pc' := 130) hX dX12_init_128 rfl (by decide) (by decide) ?_
  refine zt_cast (pc' := 131) hX dX12_init_130 rfl (by decide) zc_170 zs_52 (by decide) ⟨by decide, by decide⟩ (by decide +kernel) ?_
  rw [show Int.toNat 4 = 4 from rfl]
  generalize h71 : zset s67 170 4 121 = s70
  have q72 := zq_el h71 q69 (by decide) (by decide) zc_170 zs_52 (show 0 ≤ (121 : Int) ∧ (121 : Int) ≤ 65535 from ⟨by decide, by decide⟩) (by decide)
  clear h71 q69
  refine zt_putF (pc' := 134) (x := ((170 : Nat) : Int)) hX dX12_init_131 rfl hN.1 zf_X12_30 (by decide) zc_164 zs_46 (fun q hq => by cases hq; exact ⟨rfl, rfl⟩) (zrf_of rfl) rfl rfl ?_
  generalize h74 : zset s70 164 14 ((170 : Nat) : Int) = s73
  have q75 := zq_ref (m' := 15) (g := 0) h74 q72 rfl (by decide) rfl (by decide) rfl (by decide)
  clear h74 q72
  exact K s73 q75

set_option maxRecDepth 100000 in
set_option maxHeartbeats 4000000 in
theorem zxm_1 {X : zCX} {σ s : zSto} (hX : zok X cX12_init RX12 1) (hN : X.2.2.2.2.2.2.2.2.2.1.name = yX12_init.name ∧ X.2.2.2.2.1.cells = 73 ∧ X.2.2.2.2.1.slots = 16482) (q : zQm (0) (0) σ s 15 171) (K : ∀ s' : zSto, zQm (0) (0) σ s' 20 176 → zZ X 176 11 1642 s' 269 [some (.ref (X.1.1 + 164))] []) : zZ X 171 6 1622 s 134 [some (.ref (X.1.1 + 164))] [] := by
  refine zt_aload_n (pc' := 135) hX dX12_init_134 rfl rfl ?_
  refine zt_iconst (pc' := 136) hX dX12_init_135 rfl ?_
  refine zt_newaL (pc' := 138) (t := 3) (N := 4) (n' := 172) (cs' := 7) (ss' := 1626) hX dX12_init_136 rfl zw_10_19 rfl (by decide) (by decide) zc_171 zs_53 (by decide) (by decide) (zCs_nx q.1) rfl rfl rfl ⟨by rw [hN.2.1]; exact Nat.le_of_ble_eq_true rfl, by rw [hN.2.2]; exact Nat.le_of_ble_eq_true rfl⟩ ?_
  have q76 := zq_arr (n' := 172) q zc_171 zs_53 (by decide) rfl
  refine zt_dup (pc' := 139) hX dX12_init_138 rfl rfl ?_
  refine zt_iconst (pc' := 140) hX dX12_init_139 rfl ?_
  refine zt_bipush (pc' := 142) hX dX12_init_140 rfl (by decide) (by decide) ?_
  refine zt_cast (pc' := 143) hX dX12_init_142 rfl (by decide) zc_171 zs_53 (by decide) ⟨by decide, by decide⟩ (by decide +kernel) ?_
  rw [show Int.toNat 0 = 0 from rfl]
  generalize h78 : zset s 171 0 112 = s77
  have q79 := zq_el h78 q76 (by decide) (by decide) zc_171 zs_53 (show 0 ≤ (112 : Int) ∧ (112 : Int) ≤ 65535 from ⟨by decide, by decide⟩) (by decide)
  clear h78 q76
  refine zt_dup (pc' := 144) hX dX12_init_143 rfl rfl ?_
  refine zt_iconst (pc' := 145) hX dX12_init_144 rfl ?_
  refine zt_bipush (pc' := 147) hX dX12_init_145 rfl (by decide) (by decide) ?_
  refine zt_cast (pc' := 148) hX dX12_init_147 rfl (by decide) zc_171 zs_53 (by decide) ⟨by decide, by decide⟩ (by decide +kernel) ?_
  rw [show Int.toNat 1 = 1 from rfl]
  generalize h81 : zset s77 171 1 111 = s80
  have q82 := zq_el h81 q79 (by decide) (by decide) zc_171 zs_53 (show 0 ≤ (111 : Int) ∧ (111 : Int) ≤ 65535 from ⟨by decide, by decide⟩) (by decide)
  clear h81 q79
  refine zt_dup (pc' := 149) hX dX12_init_148 rfl rfl ?_
  refine zt_iconst (pc' := 150) hX dX12_init_149 rfl ?_
  refine zt_bipush (pc' := 152) hX dX12_init_150 rfl (by decide) (by decide) ?_
  refine zt_cast (pc' := 153) hX dX12_init_152 rfl (by decide) zc_171 zs_53 (by decide) ⟨by decide, by decide⟩ (by decide +kernel) ?_
  rw [show Int.toNat 2 = 2 from rfl]
  generalize h84 : zset s80 171 2 108 = s83
  have q85 := zq_el h84 q82 (by decide) (by decide) zc_171 zs_53 (show 0 ≤ (108 : Int) ∧ (108 : Int) ≤ 65535 from ⟨by decide, by decide⟩) (by decide)
  clear h84 q82
  refine zt_dup (pc' := 154) hX dX12_init_153 rfl rfl ?_
  refine zt_iconst (pc' := 155) hX dX12_init_154 rfl ?_
  refine zt_bipush (pc' := 157) hX dX12_init_155 rfl (by decide) (by decide) ?_
  refine zt_cast (pc' := 158) hX dX12_init_157 rfl (by decide) zc_171 zs_53 (by decide) ⟨by decide, by decide⟩ (by decide +kernel) ?_
  rw [show Int.toNat 3 = 3 from rfl]
  generalize h87 : zset s83 171 3 101 = s86
  have q88 := zq_el h87 q85 (by decide) (by decide) zc_171 zs_53 (show 0 ≤ (101 : Int) ∧ (101 : Int) ≤ 65535 from ⟨by decide, by decide⟩) (by decide)
  clear h87 q85
  refine zt_putF (pc' := 161) (x := ((171 : Nat) : Int)) hX dX12_init_158 rfl hN.1 zf_X12_33 (by decide) zc_164 zs_46 (fun q hq => by cases hq; exact ⟨rfl, rfl⟩) (zrf_of rfl) rfl rfl ?_
  generalize h90 : zset s86 164 15 ((171 : Nat) : Int) = s89
  have q91 := zq_ref (m' := 16) (g := 0) h90 q88 rfl (by decide) rfl (by decide) rfl (by decide)
  clear h90 q88
  refine zt_aload_n (pc' := 162) hX dX12_init_161 rfl rfl ?_
  refine zt_iconst (pc' := 163) hX dX12_init_162 rfl ?_
  refine zt_newaL (pc' := 165) (t := 3) (N := 2) (n' := 173) (cs' := 8) (ss' := 1628) hX dX12_init_163 rfl zw_10_19 rfl (by decide) (by decide) zc_172 zs_54 (by decide) (by decide) (zCs_nx q91.1) rfl rfl rfl ⟨by rw [hN.2.1]; exact Nat.le_of_ble_eq_true rfl, by rw [hN.2.2]; exact Nat.le_of_ble_eq_true rfl⟩ ?_
  have q92 := zq_arr (n' := 173) q91 zc_172 zs_54 (by decide) rfl
  clear q91
  refine zt_dup (pc' := 166) hX dX12_init_165 rfl rfl ?_
  refine zt_iconst (pc' := 167) hX dX12_init_166 rfl ?_
  refine zt_bipush (pc' := 169) hX dX12_init_167 rfl (by decide) (by decide) ?_
  refine zt_cast (pc' := 170) hX dX12_init_169 rfl (by decide) zc_172 zs_54 (by decide) ⟨by decide, by decide⟩ (by decide +kernel) ?_
  rw [show Int.toNat 0 = 0 from rfl]
  generalize h94 : zset s89 172 0 97 = s93
  have q95 := zq_el h94 q92 (by decide) (by decide) zc_172 zs_54 (show 0 ≤ (97 : Int) ∧ (97 : Int) ≤ 65535 from ⟨by decide, by decide⟩) (by decide)
  clear h94 q92
  refine zt_dup (pc' := 171) hX dX12_init_170 rfl rfl ?_
  refine zt_iconst (pc' := 172) hX dX12_init_171 rfl ?_
  refine zt_bipush (pc' := 174) hX dX12_init_172 rfl (by decide) (by decide) ?_
  refine zt_cast (pc' := 175) hX dX12_init_174 rfl (by decide) zc_172 zs_54 (by decide) ⟨by decide, by decide⟩ (by decide +kernel) ?_
  rw [show Int.toNat 1 = 1 from rfl]
  generalize h97 : zset s93 172 1 116 = s96
  have q98 := zq_el h97 q95 (by decide) (by decide) zc_172 zs_54 (show 0 ≤ (116 : Int) ∧ (116 : Int) ≤ 65535 from ⟨by decide, by decide⟩) (by decide)
  clear h97 q95
  refine zt_putF (pc' := 178) (x := ((172 : Nat) : Int)) hX dX12_init_175 rfl hN.1 zf_X12_36 (by decide) zc_164 zs_46 (fun q hq => by cases hq; exact ⟨rfl, rfl⟩) (zrf_of rfl) rfl rfl ?_
  generalize h100 : zset s96 164 16 ((172 : Nat) : Int) = s99
  have q101 := zq_ref (m' := 17) (g := 0) h100 q98 rfl (by decide) rfl (by decide) rfl (by decide)
  clear h100 q98
  refine zt_aload_n (pc' := 179) hX dX12_init_178 rfl rfl ?_
  refine zt_iconst (pc' := 180) hX dX12_init_179 rfl ?_
  refine zt_newaL (pc' := 182) (t := 3) (N := 5) (n' := 174) (cs' := 9) (ss' := 1633) hX dX12_init_180 rfl zw_10_19 rfl (by decide) (by decide) zc_173 zs_55 (by decide) (by decide) (zCs_nx q101.1) rfl rfl rfl ⟨by rw [hN.2.1]; exact Nat.le_of_ble_eq_true rfl, by rw [hN.2.2]; exact Nat.le_of_ble_eq_true rfl⟩ ?_
  have q102 := zq_arr (n' := 174) q101 zc_173 zs_55 (by decide) rfl
  clear q101
  refine zt_dup (pc' := 183) hX dX12_init_182 rfl rfl ?_
  refine zt_iconst (pc' := 184) hX dX12_init_183 rfl ?_
  refine zt_bipush (pc' := 186) hX dX12_init_184 rfl (by decide) (by decide) ?_
  refine zt_cast (pc' := 187) hX dX12_init_186 rfl (by decide) zc_173 zs_55 (by decide) ⟨by decide, by decide⟩ (by decide +kernel) ?_
  rw [show Int.toNat 0 = 0 from rfl]
  generalize h104 : zset s99 173 0 108 = s103
  have q105 := zq_el h104 q102 (by decide) (by decide) zc_173 zs_55 (show 0 ≤ (108 : Int) ∧ (108 : Int) ≤ 65535 from ⟨by decide, by decide⟩) (by decide)
  clear h104 q102
  refine zt_dup (pc' := 188) hX dX12_init_187 rfl rfl ?_
  refine zt_iconst (pc' := 189) hX dX12_init_188 rfl ?_
  refine zt_bipush (pc' := 191) hX dX12_init_189 rfl (by decide) (by decide) ?_
  refine zt_cast (pc' := 192) hX dX12_init_191 rfl (by decide) zc_173 zs_55 (by decide) ⟨by decide, by decide⟩ (by decide +kernel) ?_
  rw [show Int.toNat 1 = 1 from rfl]
  generalize h107 : zset s103 173 1 105 = s106
  have q108 := zq_el h107 q105 (by decide) (by decide) zc_173 zs_55 (show 0 ≤ (105 : Int) ∧ (105 : Int) ≤ 65535 from ⟨by decide, by decide⟩) (by decide)
  clear h107 q105
  refine zt_dup (pc' := 193) hX dX12_init_192 rfl rfl ?_
  refine zt_iconst (pc' := 194) hX dX12_init_193 rfl ?_
  refine zt_bipush (pc' := 196) hX dX12_init_194 rfl (by decide) (by decide) ?_
  refine zt_cast (pc' := 197) hX dX12_init_196 rfl (by decide) zc_173 zs_55 (by decide) ⟨by decide, by decide⟩ (by decide +kernel) ?_
  rw [show Int.toNat 2 = 2 from rfl]
  generalize h110 : zset s106 173 2 102 = s109
  have q111 := zq_el h110 q108 (by decide) (by decide) zc_173 zs_55 (show 0 ≤ (102 : Int) ∧ (102 : Int) ≤ 65535 from ⟨by decide, by decide⟩) (by decide)
  clear h110 q108
  refine zt_dup (pc' := 198) hX dX12_init_197 rfl rfl ?_
  refine zt_iconst (pc' := 199) hX dX12_init_198 rfl ?_
  refine zt_bipush (pc' := 201) hX dX12_init_199 rfl (by decide) (by decide) ?_
  refine zt_cast (pc' := 202) hX dX12_init_201 rfl (by decide) zc_173 zs_55 (by decide) ⟨by decide, by decide⟩ (by decide +kernel) ?_
  rw [show Int.toNat 3 = 3 from rfl]
  generalize h113 : zset s109 173 3 116 = s112
  have q114 := zq_el h113 q111 (by decide) (by decide) zc_173 zs_55 (show 0 ≤ (116 : Int) ∧ (116 : Int) ≤ 65535 from ⟨by decide, by decide⟩) (by decide)
  clear h113 q111
  refine zt_dup (pc' := 203) hX dX12_init_202 rfl rfl ?_
  refine zt_iconst (pc' := 204) hX dX12_init_203 rfl ?_
  refine zt_bipush (pc' := 206) hX dX12_init_204 rfl (by decide) (by decide) ?_
  refine zt_cast (pc' := 207) hX dX12_init_206 rfl (by decide) zc_173 zs_55 (by decide) ⟨by decide, by decide⟩ (by decide +kernel) ?_
  rw [show Int.toNat 4 = 4 from rfl]
  generalize h116 : zset s112 173 4 115 = s115
  have q117 := zq_el h116 q114 (by decide) (by decide) zc_173 zs_55 (show 0 ≤ (115 : Int) ∧ (115 : Int) ≤ 65535 from ⟨by decide, by decide⟩) (by decide)
  clear h116 q114
  refine zt_putF (pc' := 210) (x := ((173 : Nat) : Int)) hX dX12_init_207 rfl hN.1 zf_X12_39 (by decide) zc_164 zs_46 (fun q hq => by cases hq; exact ⟨rfl, rfl⟩) (zrf_of rfl) rfl rfl ?_
  generalize h119 : zset s115 164 17 ((173 : Nat) : Int) = s118
  have q120 := zq_ref (m' := 18) (g := 0) h119 q117 rfl (by decide) rfl (by decide) rfl (by decide)
  clear h119 q117
  refine zt_aload_n (pc' := 211) hX dX12_init_210 rfl rfl ?_
  refine zt_iconst (pc' := 212) hX dX12_init_211 rfl ?_
  refine zt_newaL (pc' := 214) (t := 3) (N := 4) (n' := 175) (cs' := 10) (ss' := 1637) hX dX12_init_212 rfl zw_10_19 rfl (by decide) (by decide) zc_174 zs_56 (by decide) (by decide) (zCs_nx q120.1) rfl rfl rfl ⟨by rw [hN.2.1]; exact Nat.le_of_ble_eq_true rfl, by rw [hN.2.2]; exact Nat.le_of_ble_eq_true rfl⟩ ?_
  have q121 := zq_arr (n' := 175) q120 zc_174 zs_56 (by decide) rfl
  clear q120
  refine zt_dup (pc' := 215) hX dX12_init_214 rfl rfl ?_
  refine zt_iconst (pc' := 216) hX dX12_init_215 rfl ?_
  refine zt_bipush (pc' := 218) hX dX12_init_216 rfl (by decide) (by decide) ?_
  refine zt_cast (pc' := 219) hX dX12_init_218 rfl (by decide) zc_174 zs_56 (by decide) ⟨by decide, by decide⟩ (by decide +kernel) ?_
  rw [show Int.toNat 0 = 0 from rfl]
  generalize h123 : zset s118 174 0 97 = s122
  have q124 := zq_el h123 q121 (by decide) (by decide) zc_174 zs_56 (show 0 ≤ (97 : Int) ∧ (97 : Int) ≤ 65535 from ⟨by decide, by decide⟩) (by decide)
  clear h123 q121
  refine zt_dup (pc' := 220) hX dX12_init_219 rfl rfl ?_
  refine zt_iconst (pc' := 221) hX dX12_init_220 rfl ?_
  refine zt_bipush (pc' := 223) hX dX12_init_221 rfl (by decide) (by decide) ?_
  refine zt_cast (pc' := 224) hX dX12_init_223 rfl (by decide) zc_174 zs_56 (by decide) ⟨by decide, by decide⟩ (by decide +kernel) ?_
  rw [show Int.toNat 1 = 1 from rfl]
  generalize h126 : zset s122 174 1 100 = s125
  have q127 := zq_el h126 q124 (by decide) (by decide) zc_174 zs_56 (show 0 ≤ (100 : Int) ∧ (100 : Int) ≤ 65535 from ⟨by decide, by decide⟩) (by decide)
  clear h126 q124
  refine zt_dup (pc' := 225) hX dX12_init_224 rfl rfl ?_
  refine zt_iconst (pc' := 226) hX dX12_init_225 rfl ?_
  refine zt_bipush (pc' := 228) hX dX12_init_226 rfl (by decide) (by decide) ?_
  refine zt_cast (pc' := 229) hX dX12_init_228 rfl (by decide) zc_174 zs_56 (by decide) ⟨by decide, by decide⟩ (by decide +kernel) ?_
  rw [show Int.toNat 2 = 2 from rfl]
  generalize h129 : zset s125 174 2 100 = s128
  have q130 := zq_el h129 q127 (by decide) (by decide) zc_174 zs_56 (show 0 ≤ (100 : Int) ∧ (100 : Int) ≤ 65535 from ⟨by decide, by decide⟩) (by decide)
  clear h129 q127
  refine zt_dup (pc' := 230) hX dX12_init_229 rfl rfl ?_
  refine zt_iconst (pc' := 231) hX dX12_init_230 rfl ?_
  refine zt_bipush (pc' := 233) hX dX12_init_231 rfl (by decide) (by decide) ?_
  refine zt_cast (pc' := 234) hX dX12_init_233 rfl (by decide) zc_174 zs_56 (by decide) ⟨by decide, by decide⟩ (by decide +kernel) ?_
  rw [show Int.toNat 3 = 3 from rfl]
  generalize h132 : zset s128 174 3 115 = s131
  have q133 := zq_el h132 q130 (by decide) (by decide) zc_174 zs_56 (show 0 ≤ (115 : Int) ∧ (115 : Int) ≤ 65535 from ⟨by decide, by decide⟩) (by decide)
  clear h132 q130
  refine zt_putF (pc' := 237) (x := ((174 : Nat) : Int)) hX dX12_init_234 rfl hN.1 zf_X12_42 (by decide) zc_164 zs_46 (fun q hq => by cases hq; exact ⟨rfl, rfl⟩) (zrf_of rfl) rfl rfl ?_
  generalize h135 : zset s131 164 18 ((174 : Nat) : Int) = s134
  have q136 := zq_ref (m' := 19) (g := 0) h135 q133 rfl (by decide) rfl (by decide) rfl (by decide)
  clear h135 q133
  refine zt_aload_n (pc' := 238) hX dX12_init_237 rfl rfl ?_
  refine zt_iconst (pc' := 239) hX dX12_init_238 rfl ?_
  refine zt_newaL (pc' := 241) (t := 3) (N := 5) (n' := 176) (cs' := 11) (ss' := 1642) hX dX12_init_239 rfl zw_10_19 rfl (by decide) (by decide) zc_175 zs_57 (by decide) (by decide) (zCs_nx q136.1) rfl rfl rfl ⟨by rw [hN.2.1]; exact Nat.le_of_ble_eq_true rfl, by rw [hN.2.2]; exact Nat.le_of_ble_eq_true rfl⟩ ?_
  have q137 := zq_arr (n' := 176) q136 zc_175 zs_57 (by decide) rfl
  clear q136
  refine zt_dup (pc' := 242) hX dX12_init_241 rfl rfl ?_
  refine zt_iconst (pc' := 243) hX dX12_init_242 rfl ?_
  refine zt_bipush (pc' := 245) hX dX12_init_243 rfl (by decide) (by decide) ?_
  refine zt_cast (pc' := 246) hX dX12_init_245 rfl (by decide) zc_175 zs_57 (by decide) ⟨by decide, by decide⟩ (by decide +kernel) ?_
  rw [show Int.toNat 0 = 0 from rfl]
  generalize h139 : zset s134 175 0 104 = s138
  have q140 := zq_el h139 q137 (by decide) (by decide) zc_175 zs_57 (show 0 ≤ (104 : Int) ∧ (104 : Int) ≤ 65535 from ⟨by decide, by decide⟩) (by decide)
  clear h139 q137
  refine zt_dup (pc' := 247) hX dX12_init_246 rfl rfl ?_
  refine zt_iconst (pc' := 248) hX dX12_init_247 rfl ?_
  refine zt_bipush (pc' := 250) hX dX12_init_248 rfl (by decide) (by decide) ?_
  refine zt_cast (pc' := 251) hX dX12_init_250 rfl (by decide) zc_175 zs_57 (by decide) ⟨by decide, by decide⟩ (by decide +kernel) ?_
  rw [show Int.toNat 1 = 1 from rfl]
  generalize h142 : zset s138 175 1 111 = s141
  have q143 := zq_el h142 q140 (by decide) (by decide) zc_175 zs_57 (show 0 ≤ (111 : Int) ∧ (111 : Int) ≤ 65535 from ⟨by decide, by decide⟩) (by decide)
  clear h142 q140
  refine zt_dup (pc' := 252) hX dX12_init_251 rfl rfl ?_
  refine zt_iconst (pc' := 253) hX dX12_init_252 rfl ?_
  refine zt_bipush (pc' := 255) hX dX12_init_253 rfl (by decide) (by decide) ?_
  refine zt_cast (pc' := 256) hX dX12_init_255 rfl (by decide) zc_175 zs_57 (by decide) ⟨by decide, by decide⟩ (by decide +kernel) ?_
  rw [show Int.toNat 2 = 2 from rfl]
  generalize h145 : zset s141 175 2 108 = s144
  have q146 := zq_el h145 q143 (by decide) (by decide) zc_175 zs_57 (show 0 ≤ (108 : Int) ∧ (108 : Int) ≤ 65535 from ⟨by decide, by decide⟩) (by decide)
  clear h145 q143
  refine zt_dup (pc' := 257) hX dX12_init_256 rfl rfl ?_
  refine zt_iconst (pc' := 258) hX dX12_init_257 rfl ?_
  refine zt_bipush (pc' := 260) hX dX12_init_258 rfl (by decide) (by decide) ?_
  refine zt_cast (pc' := 261) hX dX12_init_260 rfl (by decide) zc_175 zs_57 (by decide) ⟨by decide, by decide⟩ (by decide +kernel) ?_
  rw [show Int.toNat 3 = 3 from rfl]
  generalize h148 : zset s144 175 3 100 = s147
  have q149 := zq_el h148 q146 (by decide) (by decide) zc_175 zs_57 (show 0 ≤ (100 : Int) ∧ (100 : Int) ≤ 65535 from ⟨by decide, by decide⟩) (by decide)
  clear h148 q146
  refine zt_dup (pc' := 262) hX dX12_init_261 rfl rfl ?_
  refine zt_iconst (pc' := 263) hX dX12_init_262 rfl ?_
  refine zt_bipush (pc' := 265) hX dX12_init_263 rfl (by decide) (by decide) ?_
  refine zt_cast (pc' := 266) hX dX12_init_265 rfl (by decide) zc_175 zs_57 (by decide) ⟨by decide, by decide⟩ (by decide +kernel) ?_
  rw [show Int.toNat 4 = 4 from rfl]
  generalize h151 : zset s147 175 4 115 = s150
  have q152 := zq_el h151 q149 (by decide) (by decide) zc_175 zs_57 (show 0 ≤ (115 : Int) ∧ (115 : Int) ≤ 65535 from ⟨by decide, by decide⟩) (by decide)
  clear h151 q149
  refine zt_putF (pc' := 269) (x := ((175 : Nat) : Int)) hX dX12_init_266 rfl hN.1 zf_X12_45 (by decide) zc_164 zs_46 (fun q hq => by cases hq; exact ⟨rfl, rfl⟩) (zrf_of rfl) rfl rfl ?_
  generalize h154 : zset s150 164 19 ((175 : Nat) : Int) = s153
  have q155 := zq_ref (m' := 20) (g := 0) h154 q152 rfl (by decide) rfl (by decide) rfl (by decide)
  clear h154 q152
  exact K s153 q155

set_option maxRecDepth 100000 in
set_option maxHeartbeats 4000000 in
theorem zxm_2 {X : zCX} {σ s : zSto} (hX : zok X cX12_init RX12 1) (hN : X.2.2.2.2.2.2.2.2.2.1.name = yX12_init.name ∧ X.2.2.2.2.1.cells = 73 ∧ X.2.2.2.2.1.slots = 16482) (q : zQm (0) (0) σ s 20 176) (K : ∀ s' : zSto, zQm (0) (0) σ s' 25 181 → zZ X 181 16 1666 s' 425 [some (.ref (X.1.1 + 164))] []) : zZ X 176 11 1642 s 269 [some (.ref (X.1.1 + 164))] [] := by
  refine zt_aload_n (pc' := 270) hX dX12_init_269 rfl rfl ?_
  refine zt_iconst (pc' := 271) hX dX12_init_270 rfl ?_
  refine zt_newaL (pc' := 273) (t := 3) (N := 5) (n' := 177) (cs' := 12) (ss' := 1647) hX dX12_init_271 rfl zw_10_19 rfl (by decide) (by decide) zc_176 zs_58 (by decide) (by decide) (zCs_nx q.1) rfl rfl rfl ⟨by rw [hN.2.1]; exact Nat.le_of_ble_eq_true rfl, by rw [hN.2.2]; exact Nat.le_of_ble_eq_true rfl⟩ ?_
  have q156 := zq_arr (n' := 177) q zc_176 zs_58 (by decide) rfl
  refine zt_dup (pc' := 274) hX dX12_init_273 rfl rfl ?_
  refine zt_iconst (pc' := 275) hX dX12_init_274 rfl ?_
  refine zt_bipush (pc' := 277) hX dX12_init_275 rfl (by decide) (by decide) ?_
  refine zt_cast (pc' := 278) hX dX12_init_277 rfl (by decide) zc_176 zs_58 (by decide) ⟨by decide, by decide⟩ (by decide +kernel) ?_
  rw [show Int.toNat 0 = 0 from rfl]
  generalize h158 : zset s 176 0 102 = s157
  have q159 := zq_el h158 q156 (by decide) (by decide) zc_176 zs_58 (show 0 ≤ (102 : Int) ∧ (102 : Int) ≤ 65535 from ⟨by decide, by decide⟩) (by decide)
  clear h158 q156
  refine zt_dup (pc' := 279) hX dX12_init_278 rfl rfl ?_
  refine zt_iconst (pc' := 280) hX dX12_init_279 rfl ?_
  refine zt_bipush (pc' := 282) hX dX12_init_280 rfl (by decide) (by decide) ?_
  refine zt_cast (pc' := 283) hX dX12_init_282 rfl (by decide) zc_176 zs_58 (by decide) ⟨by decide, by decide⟩ (by decide +kernel) ?_
  rw [show Int.toNat 1 = 1 from rfl]
  generalize h161 : zset s157 176 1 97 = s160
  have q162 := zq_el h161 q159 (by decide) (by decide) zc_176 zs_58 (show 0 ≤ (97 : Int) ∧ (97 : Int) ≤ 65535 from ⟨by decide, by decide⟩) (by decide)
  clear h161 q159
  refine zt_dup (pc' := 284) hX dX12_init_283 rfl rfl ?_
  refine zt_iconst (pc' := 285) hX dX12_init_284 rfl ?_
  refine zt_bipush (pc' := 287) hX dX12_init_285 rfl (by decide) (by decide) ?_
  refine zt_cast (pc' := 288) hX dX12_init_287 rfl (by decide) zc_176 zs_58 (by decide) ⟨by decide, by decide⟩ (by decide +kernel) ?_
  rw [show Int.toNat 2 = 2 from rfl]
  generalize h164 : zset s160 176 2 100 = s163
  have q165 := zq_el h164 q162 (by decide) (by decide) zc_176 zs_58 (show 0 ≤ (100 : Int) ∧ (100 : Int) ≤ 65535 from ⟨by decide, by decide⟩) (by decide)
  clear h164 q162
  refine zt_dup (pc' := 289) hX dX12_init_288 rfl rfl ?_
  refine zt_iconst (pc' := 290) hX dX12_init_289 rfl ?_
  refine zt_bipush (pc' := 292) hX dX12_init_290 rfl (by decide) (by decide) ?_
  refine zt_cast (pc' := 293) hX dX12_init_292 rfl (by decide) zc_176 zs_58 (by decide) ⟨by decide, by decide⟩ (by decide +kernel) ?_
  rw [show Int.toNat 3 = 3 from rfl]
  generalize h167 : zset s163 176 3 101 = s166
  have q168 := zq_el h167 q165 (by decide) (by decide) zc_176 zs_58 (show 0 ≤ (101 : Int) ∧ (101 : Int) ≤ 65535 from ⟨by decide, by decide⟩) (by decide)
  clear h167 q165
  refine zt_dup (pc' := 294) hX dX12_init_293 rfl rfl ?_
  refine zt_iconst (pc' := 295) hX dX12_init_294 rfl ?_
  refine zt_bipush (pc' := 297) hX dX12_init_295 rfl (by decide) (by decide) ?_
  refine zt_cast (pc' := 298) hX dX12_init_297 rfl (by decide) zc_176 zs_58 (by decide) ⟨by decide, by decide⟩ (by decide +kernel) ?_
  rw [show Int.toNat 4 = 4 from rfl]
  generalize h170 : zset s166 176 4 115 = s169
  have q171 := zq_el h170 q168 (by decide) (by decide) zc_176 zs_58 (show 0 ≤ (115 : Int) ∧ (115 : Int) ≤ 65535 from ⟨by decide, by decide⟩) (by decide)
  clear h170 q168
  refine zt_putF (pc' := 301) (x := ((176 : Nat) : Int)) hX dX12_init_298 rfl hN.1 zf_X12_48 (by decide) zc_164 zs_46 (fun q hq => by cases hq; exact ⟨rfl, rfl⟩) (zrf_of rfl) rfl rfl ?_
  generalize h173 : zset s169 164 20 ((176 : Nat) : Int) = s172
  have q174 := zq_ref (m' := 21) (g := 0) h173 q171 rfl (by decide) rfl (by decide) rfl (by decide)
  clear h173 q171
  refine zt_aload_n (pc' := 302) hX dX12_init_301 rfl rfl ?_
  refine zt_iconst (pc' := 303) hX dX12_init_302 rfl ?_
  refine zt_newaL (pc' := 305) (t := 3) (N := 5) (n' := 178) (cs' := 13) (ss' := 1652) hX dX12_init_303 rfl zw_10_19 rfl (by decide) (by decide) zc_177 zs_59 (by decide) (by decide) (zCs_nx q174.1) rfl rfl rfl ⟨by rw [hN.2.1]; exact Nat.le_of_ble_eq_true rfl, by rw [hN.2.2]; exact Nat.le_of_ble_eq_true rfl⟩ ?_
  have q175 := zq_arr (n' := 178) q174 zc_177 zs_59 (by decide) rfl
  clear q174
  refine zt_dup (pc' := 306) hX dX12_init_305 rfl rfl ?_
  refine zt_iconst (pc' := 307) hX dX12_init_306 rfl ?_
  refine zt_bipush (pc' := 309) hX dX12_init_307 rfl (by decide) (by decide) ?_
  refine zt_cast (pc' := 310) hX dX12_init_309 rfl (by decide) zc_177 zs_59 (by decide) ⟨by decide, by decide⟩ (by decide +kernel) ?_
  rw [show Int.toNat 0 = 0 from rfl]
  generalize h177 : zset s172 177 0 115 = s176
  have q178 := zq_el h177 q175 (by decide) (by decide) zc_177 zs_59 (show 0 ≤ (115 : Int) ∧ (115 : Int) ≤ 65535 from ⟨by decide, by decide⟩) (by decide)
  clear h177 q175
  refine zt_dup (pc' := 311) hX dX12_init_310 rfl rfl ?_
  refine zt_iconst (pc' := 312) hX dX12_init_311 rfl ?_
  refine zt_bipush (pc' := 314) hX dX12_init_312 rfl (by decide) (by decide) ?_
  refine zt_cast (pc' := 315) hX dX12_init_314 rfl (by decide) zc_177 zs_59 (by decide) ⟨by decide, by decide⟩ (by decide +kernel) ?_
  rw [show Int.toNat 1 = 1 from rfl]
  generalize h180 : zset s176 177 1 116 = s179
  have q181 := zq_el h180 q178 (by decide) (by decide) zc_177 zs_59 (show 0 ≤ (116 : Int) ∧ (116 : Int) ≤ 65535 from ⟨by decide, by decide⟩) (by decide)
  clear h180 q178
  refine zt_dup (pc' := 316) hX dX12_init_315 rfl rfl ?_
  refine zt_iconst (pc' := 317) hX dX12_init_316 rfl ?_
  refine zt_bipush (pc' := 319) hX dX12_init_317 rfl (by decide) (by decide) ?_
  refine zt_cast (pc' := 320) hX dX12_init_319 rfl (by decide) zc_177 zs_59 (by decide) ⟨by decide, by decide⟩ (by decide +kernel) ?_
  rw [show Int.toNat 2 = 2 from rfl]
  generalize h183 : zset s179 177 2 111 = s182
  have q184 := zq_el h183 q181 (by decide) (by decide) zc_177 zs_59 (show 0 ≤ (111 : Int) ∧ (111 : Int) ≤ 65535 from ⟨by decide, by decide⟩) (by decide)
  clear h183 q181
  refine zt_dup (pc' := 321) hX dX12_init_320 rfl rfl ?_
  refine zt_iconst (pc' := 322) hX dX12_init_321 rfl ?_
  refine zt_bipush (pc' := 324) hX dX12_init_322 rfl (by decide) (by decide) ?_
  refine zt_cast (pc' := 325) hX dX12_init_324 rfl (by decide) zc_177 zs_59 (by decide) ⟨by decide, by decide⟩ (by decide +kernel) ?_
  rw [show Int.toNat 3 = 3 from rfl]
  generalize h186 : zset s182 177 3 110 = s185
  have q187 := zq_el h186 q184 (by decide) (by decide) zc_177 zs_59 (show 0 ≤ (110 : Int) ∧ (110 : Int) ≤ 65535 from ⟨by decide, by decide⟩) (by decide)
  clear h186 q184
  refine zt_dup (pc' := 326) hX dX12_init_325 rfl rfl ?_
  refine zt_iconst (pc' := 327) hX dX12_init_326 rfl ?_
  refine zt_bipush (pc' := 329) hX dX12_init_327 rfl (by decide) (by decide) ?_
  refine zt_cast (pc' := 330) hX dX12_init_329 rfl (by decide) zc_177 zs_59 (by decide) ⟨by decide, by decide⟩ (by decide +kernel) ?_
  rw [show Int.toNat 4 = 4 from rfl]
  generalize h189 : zset s185 177 4 101 = s188
  have q190 := zq_el h189 q187 (by decide) (by decide) zc_177 zs_59 (show 0 ≤ (101 : Int) ∧ (101 : Int) ≤ 65535 from ⟨by decide, by decide⟩) (by decide)
  clear h189 q187
  refine zt_putF (pc' := 333) (x := ((177 : Nat) : Int)) hX dX12_init_330 rfl hN.1 zf_X12_51 (by decide) zc_164 zs_46 (fun q hq => by cases hq; exact ⟨rfl, rfl⟩) (zrf_of rfl) rfl rfl ?_
  generalize h192 : zset s188 164 21 ((177 : Nat) : Int) = s191
  have q193 := zq_ref (m' := 22) (g := 0) h192 q190 rfl (by decide) rfl (by decide) rfl (by decide)
  clear h192 q190
  refine zt_aload_n (pc' := 334) hX dX12_init_333 rfl rfl ?_
  refine zt_iconst (pc' := 335) hX dX12_init_334 rfl ?_
  refine zt_newaL (pc' := 337) (t := 3) (N := 4) (n' := 179) (cs' := 14) (ss' := 1656) hX dX12_init_335 rfl zw_10_19 rfl (by decide) (by decide) zc_178 zs_60 (by decide) (by decide) (zCs_nx q193.1) rfl rfl rfl ⟨by rw [hN.2.1]; exact Nat.le_of_ble_eq_true rfl, by rw [hN.2.2]; exact Nat.le_of_ble_eq_true rfl⟩ ?_
  have q194 := zq_arr (n' := 179) q193 zc_178 zs_60 (by decide) rfl
  clear q193
  refine zt_dup (pc' := 338) hX dX12_init_337 rfl rfl ?_
  refine zt_iconst (pc' := 339) hX dX12_init_338 rfl ?_
  refine zt_bipush (pc' := 341) hX dX12_init_339 rfl (by decide) (by decide) ?_
  refine zt_cast (pc' := 342) hX dX12_init_341 rfl (by decide) zc_178 zs_60 (by decide) ⟨by decide, by decide⟩ (by decide +kernel) ?_
  rw [show Int.toNat 0 = 0 from rfl]
  generalize h196 : zset s191 178 0 104 = s195
  have q197 := zq_el h196 q194 (by decide) (by decide) zc_178 zs_60 (show 0 ≤ (104 : Int) ∧ (104 : Int) ≤ 65535 from ⟨by decide, by decide⟩) (by decide)
  clear h196 q194
  refine zt_dup (pc' := 343) hX dX12_init_342 rfl rfl ?_
  refine zt_iconst (pc' := 344) hX dX12_init_343 rfl ?_
  refine zt_bipush (pc' := 346) hX dX12_init_344 rfl (by decide) (by decide) ?_
  refine zt_cast (pc' := 347) hX dX12_init_346 rfl (by decide) zc_178 zs_60 (by decide) ⟨by decide, by decide⟩ (by decide +kernel) ?_
  rw [show Int.toNat 1 = 1 from rfl]
  generalize h199 : zset s195 178 1 97 = s198
  have q200 := zq_el h199 q197 (by decide) (by decide) zc_178 zs_60 (show 0 ≤ (97 : Int) ∧ (97 : Int) ≤ 65535 from ⟨by decide, by decide⟩) (by decide)
  clear h199 q197
  refine zt_dup (pc' := 348) hX dX12_init_347 rfl rfl ?_
  refine zt_iconst (pc' := 349) hX dX12_init_348 rfl ?_
  refine zt_bipush (pc' := 351) hX dX12_init_349 rfl (by decide) (by decide) ?_
  refine zt_cast (pc' := 352) hX dX12_init_351 rfl (by decide) zc_178 zs_60 (by decide) ⟨by decide, by decide⟩ (by decide +kernel) ?_
  rw [show Int.toNat 2 = 2 from rfl]
  generalize h202 : zset s198 178 2 105 = s201
  have q203 := zq_el h202 q200 (by decide) (by decide) zc_178 zs_60 (show 0 ≤ (105 : Int) ∧ (105 : Int) ≤ 65535 from ⟨by decide, by decide⟩) (by decide)
  clear h202 q200
  refine zt_dup (pc' := 353) hX dX12_init_352 rfl rfl ?_
  refine zt_iconst (pc' := 354) hX dX12_init_353 rfl ?_
  refine zt_bipush (pc' := 356) hX dX12_init_354 rfl (by decide) (by decide) ?_
  refine zt_cast (pc' := 357) hX dX12_init_356 rfl (by decide) zc_178 zs_60 (by decide) ⟨by decide, by decide⟩ (by decide +kernel) ?_
  rw [show Int.toNat 3 = 3 from rfl]
  generalize h205 : zset s201 178 3 108 = s204
  have q206 := zq_el h205 q203 (by decide) (by decide) zc_178 zs_60 (show 0 ≤ (108 : Int) ∧ (108 : Int) ≤ 65535 from ⟨by decide, by decide⟩) (by decide)
  clear h205 q203
  refine zt_putF (pc' := 360) (x := ((178 : Nat) : Int)) hX dX12_init_357 rfl hN.1 zf_X12_54 (by decide) zc_164 zs_46 (fun q hq => by cases hq; exact ⟨rfl, rfl⟩) (zrf_of rfl) rfl rfl ?_
  generalize h208 : zset s204 164 22 ((178 : Nat) : Int) = s207
  have q209 := zq_ref (m' := 23) (g := 0) h208 q206 rfl (by decide) rfl (by decide) rfl (by decide)
  clear h208 q206
  refine zt_aload_n (pc' := 361) hX dX12_init_360 rfl rfl ?_
  refine zt_iconst (pc' := 362) hX dX12_init_361 rfl ?_
  refine zt_newaL (pc' := 364) (t := 3) (N := 4) (n' := 180) (cs' := 15) (ss' := 1660) hX dX12_init_362 rfl zw_10_19 rfl (by decide) (by decide) zc_179 zs_61 (by decide) (by decide) (zCs_nx q209.1) rfl rfl rfl ⟨by rw [hN.2.1]; exact Nat.le_of_ble_eq_true rfl, by rw [hN.2.2]; exact Nat.le_of_ble_eq_true rfl⟩ ?_
  have q210 := zq_arr (n' := 180) q209 zc_179 zs_61 (by decide) rfl
  clear q209
  refine zt_dup (pc' := 365) hX dX12_init_364 rfl rfl ?_
  refine zt_iconst (pc' := 366) hX dX12_init_365 rfl ?_
  refine zt_bipush (pc' := 368) hX dX12_init_366 rfl (by decide) (by decide) ?_
  refine zt_cast (pc' := 369) hX dX12_init_368 rfl (by decide) zc_179 zs_61 (by decide) ⟨by decide, by decide⟩ (by decide +kernel) ?_
  rw [show Int.toNat 0 = 0 from rfl]
  generalize h212 : zset s207 179 0 104 = s211
  have q213 := zq_el h212 q210 (by decide) (by decide) zc_179 zs_61 (show 0 ≤ (104 : Int) ∧ (104 : Int) ≤ 65535 from ⟨by decide, by decide⟩) (by decide)
  clear h212 q210
  refine zt_dup (pc' := 370) hX dX12_init_369 rfl rfl ?_
  refine zt_iconst (pc' := 371) hX dX12_init_370 rfl ?_
  refine zt_bipush (pc' := 373) hX dX12_init_371 rfl (by decide) (by decide) ?_
  refine zt_cast (pc' := 374) hX dX12_init_373 rfl (by decide) zc_179 zs_61 (by decide) ⟨by decide, by decide⟩ (by decide +kernel) ?_
  rw [show Int.toNat 1 = 1 from rfl]
  generalize h215 : zset s211 179 1 111 = s214
  have q216 := zq_el h215 q213 (by decide) (by decide) zc_179 zs_61 (show 0 ≤ (111 : Int) ∧ (111 : Int) ≤ 65535 from ⟨by decide, by decide⟩) (by decide)
  clear h215 q213
  refine zt_dup (pc' := 375) hX dX12_init_374 rfl rfl ?_
  refine zt_iconst (pc' := 376) hX dX12_init_375 rfl ?_
  refine zt_bipush (pc' := 378) hX dX12_init_376 rfl (by decide) (by decide) ?_
  refine zt_cast (pc' := 379) hX dX12_init_378 rfl (by decide) zc_179 zs_61 (by decide) ⟨by decide, by decide⟩ (by decide +kernel) ?_
  rw [show Int.toNat 2 = 2 from rfl]
  generalize h218 : zset s214 179 2 117 = s217
  have q219 := zq_el h218 q216 (by decide) (by decide) zc_179 zs_61 (show 0 ≤ (117 : Int) ∧ (117 : Int) ≤ 65535 from ⟨by decide, by decide⟩) (by decide)
  clear h218 q216
  refine zt_dup (pc' := 380) hX dX12_init_379 rfl rfl ?_
  refine zt_iconst (pc' := 381) hX dX12_init_380 rfl ?_
  refine zt_bipush (pc' := 383) hX dX12_init_381 rfl (by decide) (by decide) ?_
  refine zt_cast (pc' := 384) hX dX12_init_383 rfl (by decide) zc_179 zs_61 (by decide) ⟨by decide, by decide⟩ (by decide +kernel) ?_
  rw [show Int.toNat 3 = 3 from rfl]
  generalize h221 : zset s217 179 3 114 = s220
  have q222 := zq_el h221 q219 (by decide) (by decide) zc_179 zs_61 (show 0 ≤ (114 : Int) ∧ (114 : Int) ≤ 65535 from ⟨by decide, by decide⟩) (by decide)
  clear h221 q219
  refine zt_putF (pc' := 387) (x := ((179 : Nat) : Int)) hX dX12_init_384 rfl hN.1 zf_X12_57 (by decide) zc_164 zs_46 (fun q hq => by cases hq; exact ⟨rfl, rfl⟩) (zrf_of rfl) rfl rfl ?_
  generalize h224 : zset s220 164 23 ((179 : Nat) : Int) = s223
  have q225 := zq_ref (m' := 24) (g := 0) h224 q222 rfl (by decide) rfl (by decide) rfl (by decide)
  clear h224 q222
  refine zt_aload_n (pc' := 388) hX dX12_init_387 rfl rfl ?_
  refine zt_bipush (pc' := 390) hX dX12_init_388 rfl (by decide) (by decide) ?_
  refine zt_newaL (pc' := 392) (t := 3) (N := 6) (n' := 181) (cs' := 16) (ss' := 1666) hX dX12_init_390 rfl zw_10_19 rfl (by decide) (by decide) zc_180 zs_62 (by decide) (by decide) (zCs_nx q225.1) rfl rfl rfl ⟨by rw [hN.2.1]; exact Nat.le_of_ble_eq_true rfl, by rw [hN.2.2]; exact Nat.le_of_ble_eq_true rfl⟩ ?_
  have q226 := zq_arr (n' := 181) q225 zc_180 zs_62 (by decide) rfl
  clear q225
  refine zt_dup (pc' := 393) hX dX12_init_392 rfl rfl ?_
  refine zt_iconst (pc' := 394) hX dX12_init_393 rfl ?_
  refine zt_bipush (pc' := 396) hX dX12_init_394 rfl (by decide) (by decide) ?_
  refine zt_cast (pc' := 397) hX dX12_init_396 rfl (by decide) zc_180 zs_62 (by decide) ⟨by decide, by decide⟩ (by decide +kernel) ?_
  rw [show Int.toNat 0 = 0 from rfl]
  generalize h228 : zset s223 180 0 99 = s227
  have q229 := zq_el h228 q226 (by decide) (by decide) zc_180 zs_62 (show 0 ≤ (99 : Int) ∧ (99 : Int) ≤ 65535 from ⟨by decide, by decide⟩) (by decide)
  clear h228 q226
  refine zt_dup (pc' := 398) hX dX12_init_397 rfl rfl ?_
  refine zt_iconst (pc' := 399) hX dX12_init_398 rfl ?_
  refine zt_bipush (pc' := 401) hX dX12_init_399 rfl (by decide) (by decide) ?_
  refine zt_cast (pc' := 402) hX dX12_init_401 rfl (by decide) zc_180 zs_62 (by decide) ⟨by decide, by decide⟩ (by decide +kernel) ?_
  rw [show Int.toNat 1 = 1 from rfl]
  generalize h231 : zset s227 180 1 114 = s230
  have q232 := zq_el h231 q229 (by decide) (by decide) zc_180 zs_62 (show 0 ≤ (114 : Int) ∧ (114 : Int) ≤ 65535 from ⟨by decide, by decide⟩) (by decide)
  clear h231 q229
  refine zt_dup (pc' := 403) hX dX12_init_402 rfl rfl ?_
  refine zt_iconst (pc' := 404) hX dX12_init_403 rfl ?_
  refine zt_bipush (pc' := 406) hX dX12_init_404 rfl (by decide) (by decide) ?_
  refine zt_cast (pc' := 407) hX dX12_init_406 rfl (by decide) zc_180 zs_62 (by decide) ⟨by decide, by decide⟩ (by decide +kernel) ?_
  rw [show Int.toNat 2 = 2 from rfl]
  generalize h234 : zset s230 180 2 97 = s233
  have q235 := zq_el h234 q232 (by decide) (by decide) zc_180 zs_62 (show 0 ≤ (97 : Int) ∧ (97 : Int) ≤ 65535 from ⟨by decide, by decide⟩) (by decide)
  clear h234 q232
  refine zt_dup (pc' := 408) hX dX12_init_407 rfl rfl ?_
  refine zt_iconst (pc' := 409) hX dX12_init_408 rfl ?_
  refine zt_bipush (pc' := 411) hX dX12_init_409 rfl (by decide) (by decide) ?_
  refine zt_cast (pc' := 412) hX dX12_init_411 rfl (by decide) zc_180 zs_62 (by decide) ⟨by decide, by decide⟩ (by decide +kernel) ?_
  rw [show Int.toNat 3 = 3 from rfl]
  generalize h237 : zset s233 180 3 99 = s236
  have q238 := zq_el h237 q235 (by decide) (by decide) zc_180 zs_62 (show 0 ≤ (99 : Int) ∧ (99 : Int) ≤ 65535 from ⟨by decide, by decide⟩) (by decide)
  clear h237 q235
  refine zt_dup (pc' := 413) hX dX12_init_412 rfl rfl ?_
  refine zt_iconst (pc' := 414) hX dX12_init_413 rfl ?_
  refine zt_bipush (pc' := 416) hX dX12_init_414 rfl (by decide) (by decide) ?_
  refine zt_cast (pc' := 417) hX dX12_init_416 rfl (by decide) zc_180 zs_62 (by decide) ⟨by decide, by decide⟩ (by decide +kernel) ?_
  rw [show Int.toNat 4 = 4 from rfl]
  generalize h240 : zset s236 180 4 107 = s239
  have q241 := zq_el h240 q238 (by decide) (by decide) zc_180 zs_62 (show 0 ≤ (107 : Int) ∧ (107 : Int) ≤ 65535 from ⟨by decide, by decide⟩) (by decide)
  clear h240 q238
  refine zt_dup (pc' := 418) hX dX12_init_417 rfl rfl ?_
  refine zt_iconst (pc' := 419) hX dX12_init_418 rfl ?_
  refine zt_bipush (pc' := 421) hX dX12_init_419 rfl (by decide) (by decide) ?_
  refine zt_cast (pc' := 422) hX dX12_init_421 rfl (by decide) zc_180 zs_62 (by decide) ⟨by decide, by decide⟩ (by decide +kernel) ?_
  rw [show Int.toNat 5 = 5 from rfl]
  generalize h243 : zset s239 180 5 115 = s242
  have q244 := zq_el h243 q241 (by decide) (by decide) zc_180 zs_62 (show 0 ≤ (115 : Int) ∧ (115 : Int) ≤ 65535 from ⟨by decide, by decide⟩) (by decide)
  clear h243 q241
  refine zt_putF (pc' := 425) (x := ((180 : Nat) : Int)) hX dX12_init_422 rfl hN.1 zf_X12_60 (by decide) zc_164 zs_46 (fun q hq => by cases hq; exact ⟨rfl, rfl⟩) (zrf_of rfl) rfl rfl ?_
  generalize h246 : zset s242 164 24 ((180 : Nat) : Int) = s245
  have q247 := zq_ref (m' := 25) (g := 0) h246 q244 rfl (by decide) rfl (by decide) rfl (by decide)
  clear h246 q244
  exact K s245 q247

set_option maxRecDepth 100000 in
set_option maxHeartbeats 4000000 in
theorem zxm_3 {X : zCX} {σ s : zSto} (hX : zok X cX12_init RX12 1) (hN : X.2.2.2.2.2.2.2.2.2.1.name = yX12_init.name ∧ X.2.2.2.2.1.cells = 73 ∧ X.2.2.2.2.1.slots = 16482) (q : zQm (0) (0) σ s 25 181) (K : ∀ s' : zSto, zQm (0) (0) σ s' 29 185 → zZ X 185 20 1687 s' 560 [some (.ref (X.1.1 + 164))] []) : zZ X 181 16 1666 s 425 [some (.ref (X.1.1 + 164))] [] := by
  refine zt_aload_n (pc' := 426) hX dX12_init_425 rfl rfl ?_
  refine zt_bipush (pc' := 428) hX dX12_init_426 rfl (by decide) (by decide) ?_
  refine zt_newaL (pc' := 430) (t := 3) (N := 6) (n' := 182) (cs' := 17) (ss' := 1672) hX dX12_init_428 rfl zw_10_19 rfl (by decide) (by decide) zc_181 zs_63 (by decide) (by decide) (zCs_nx q.1) rfl rfl rfl ⟨by rw [hN.2.1]; exact Nat.le_of_ble_eq_true rfl, by rw [hN.2.2]; exact Nat.le_of_ble_eq_true rfl⟩ ?_
  have q248 := zq_arr (n' := 182) q zc_181 zs_63 (by decide) rfl
  refine zt_dup (pc' := 431) hX dX12_init_430 rfl rfl ?_
  refine zt_iconst (pc' := 432) hX dX12_init_431 rfl ?_
  refine zt_bipush (pc' := 434) hX dX12_init_432 rfl (by decide) (by decide) ?_
  refine zt_cast (pc' := 435) hX dX12_init_434 rfl (by decide) zc_181 zs_63 (by decide) ⟨by decide, by decide⟩ (by decide +kernel) ?_
  rw [show Int.toNat 0 = 0 from rfl]
  generalize h250 : zset s 181 0 119 = s249
  have q251 := zq_el h250 q248 (by decide) (by decide) zc_181 zs_63 (show 0 ≤ (119 : Int) ∧ (119 : Int) ≤ 65535 from ⟨by decide, by decide⟩) (by decide)
  clear h250 q248
  refine zt_dup (pc' := 436) hX dX12_init_435 rfl rfl ?_
  refine zt_iconst (pc' := 437) hX dX12_init_436 rfl ?_
  refine zt_bipush (pc' := 439) hX dX12_init_437 rfl (by decide) (by decide) ?_
  refine zt_cast (pc' := 440) hX dX12_init_439 rfl (by decide) zc_181 zs_63 (by decide) ⟨by decide, by decide⟩ (by decide +kernel) ?_
  rw [show Int.toNat 1 = 1 from rfl]
  generalize h253 : zset s249 181 1 101 = s252
  have q254 := zq_el h253 q251 (by decide) (by decide) zc_181 zs_63 (show 0 ≤ (101 : Int) ∧ (101 : Int) ≤ 65535 from ⟨by decide, by decide⟩) (by decide)
  clear h253 q251
  refine zt_dup (pc' := 441) hX dX12_init_440 rfl rfl ?_
  refine zt_iconst (pc' := 442) hX dX12_init_441 rfl ?_
  refine zt_bipush (pc' := 444) hX dX12_init_442 rfl (by decide) (by decide) ?_
  refine zt_cast (pc' := 445) hX dX12_init_444 rfl (by decide) zc_181 zs_63 (by decide) ⟨by decide, by decide⟩ (by decide +kernel) ?_
  rw [show Int.toNat 2 = 2 from rfl]
  generalize h256 : zset s252 181 2 105 = s255
  have q257 := zq_el h256 q254 (by decide) (by decide) zc_181 zs_63 (show 0 ≤ (105 : Int) ∧ (105 : Int) ≤ 65535 from ⟨by decide, by decide⟩) (by decide)
  clear h256 q254
  refine zt_dup (pc' := 446) hX dX12_init_445 rfl rfl ?_
  refine zt_iconst (pc' := 447) hX dX12_init_446 rfl ?_
  refine zt_bipush (pc' := 449) hX dX12_init_447 rfl (by decide) (by decide) ?_
  refine zt_cast (pc' := 450) hX dX12_init_449 rfl (by decide) zc_181 zs_63 (by decide) ⟨by decide, by decide⟩ (by decide +kernel) ?_
  rw [show Int.toNat 3 = 3 from rfl]
  generalize h259 : zset s255 181 3 103 = s258
  have q260 := zq_el h259 q257 (by decide) (by decide) zc_181 zs_63 (show 0 ≤ (103 : Int) ∧ (103 : Int) ≤ 65535 from ⟨by decide, by decide⟩) (by decide)
  clear h259 q257
  refine zt_dup (pc' := 451) hX dX12_init_450 rfl rfl ?_
  refine zt_iconst (pc' := 452) hX dX12_init_451 rfl ?_
  refine zt_bipush (pc' := 454) hX dX12_init_452 rfl (by decide) (by decide) ?_
  refine zt_cast (pc' := 455) hX dX12_init_454 rfl (by decide) zc_181 zs_63 (by decide) ⟨by decide, by decide⟩ (by decide +kernel) ?_
  rw [show Int.toNat 4 = 4 from rfl]
  generalize h262 : zset s258 181 4 104 = s261
  have q263 := zq_el h262 q260 (by decide) (by decide) zc_181 zs_63 (show 0 ≤ (104 : Int) ∧ (104 : Int) ≤ 65535 from ⟨by decide, by decide⟩) (by decide)
  clear h262 q260
  refine zt_dup (pc' := 456) hX dX12_init_455 rfl rfl ?_
  refine zt_iconst (pc' := 457) hX dX12_init_456 rfl ?_
  refine zt_bipush (pc' := 459) hX dX12_init_457 rfl (by decide) (by decide) ?_
  refine zt_cast (pc' := 460) hX dX12_init_459 rfl (by decide) zc_181 zs_63 (by decide) ⟨by decide, by decide⟩ (by decide +kernel) ?_
  rw [show Int.toNat 5 = 5 from rfl]
  generalize h265 : zset s261 181 5 116 = s264
  have q266 := zq_el h265 q263 (by decide) (by decide) zc_181 zs_63 (show 0 ≤ (116 : Int) ∧ (116 : Int) ≤ 65535 from ⟨by decide, by decide⟩) (by decide)
  clear h265 q263
  refine zt_putF (pc' := 463) (x := ((181 : Nat) : Int)) hX dX12_init_460 rfl hN.1 zf_X12_63 (by decide) zc_164 zs_46 (fun q hq => by cases hq; exact ⟨rfl, rfl⟩) (zrf_of rfl) rfl rfl ?_
  generalize h268 : zset s264 164 25 ((181 : Nat) : Int) = s267
  have q269 := zq_ref (m' := 26) (g := 0) h268 q266 rfl (by decide) rfl (by decide) rfl (by decide)
  clear h268 q266
  refine zt_aload_n (pc' := 464) hX dX12_init_463 rfl rfl ?_
  refine zt_iconst (pc' := 465) hX dX12_init_464 rfl ?_
  refine zt_newaL (pc' := 467) (t := 3) (N := 5) (n' := 183) (cs' := 18) (ss' := 1677) hX dX12_init_465 rfl zw_10_19 rfl (by decide) (by decide) zc_182 zs_64 (by decide) (by decide) (zCs_nx q269.1) rfl rfl rfl ⟨by rw [hN.2.1]; exact Nat.le_of_ble_eq_true rfl, by rw [hN.2.2]; exact Nat.le_of_ble_eq_true rfl⟩ ?_
  have q270 := zq_arr (n' := 183) q269 zc_182 zs_64 (by decide) rfl
  clear q269
  refine zt_dup (pc' := 468) hX dX12_init_467 rfl rfl ?_
  refine zt_iconst (pc' := 469) hX dX12_init_468 rfl ?_
  refine zt_bipush (pc' := 471) hX dX12_init_469 rfl (by decide) (by decide) ?_
  refine zt_cast (pc' := 472) hX dX12_init_471 rfl (by decide) zc_182 zs_64 (by decide) ⟨by decide, by decide⟩ (by decide +kernel) ?_
  rw [show Int.toNat 0 = 0 from rfl]
  generalize h272 : zset s267 182 0 116 = s271
  have q273 := zq_el h272 q270 (by decide) (by decide) zc_182 zs_64 (show 0 ≤ (116 : Int) ∧ (116 : Int) ≤ 65535 from ⟨by decide, by decide⟩) (by decide)
  clear h272 q270
  refine zt_dup (pc' := 473) hX dX12_init_472 rfl rfl ?_
  refine zt_iconst (pc' := 474) hX dX12_init_473 rfl ?_
  refine zt_bipush (pc' := 476) hX dX12_init_474 rfl (by decide) (by decide) ?_
  refine zt_cast (pc' := 477) hX dX12_init_476 rfl (by decide) zc_182 zs_64 (by decide) ⟨by decide, by decide⟩ (by decide +kernel) ?_
  rw [show Int.toNat 1 = 1 from rfl]
  generalize h275 : zset s271 182 1 105 = s274
  have q276 := zq_el h275 q273 (by decide) (by decide) zc_182 zs_64 (show 0 ≤ (105 : Int) ∧ (105 : Int) ≤ 65535 from ⟨by decide, by decide⟩) (by decide)
  clear h275 q273
  refine zt_dup (pc' := 478) hX dX12_init_477 rfl rfl ?_
  refine zt_iconst (pc' := 479) hX dX12_init_478 rfl ?_
  refine zt_bipush (pc' := 481) hX dX12_init_479 rfl (by decide) (by decide) ?_
  refine zt_cast (pc' := 482) hX dX12_init_481 rfl (by decide) zc_182 zs_64 (by decide) ⟨by decide, by decide⟩ (by decide +kernel) ?_
  rw [show Int.toNat 2 = 2 from rfl]
  generalize h278 : zset s274 182 2 114 = s277
  have q279 := zq_el h278 q276 (by decide) (by decide) zc_182 zs_64 (show 0 ≤ (114 : Int) ∧ (114 : Int) ≤ 65535 from ⟨by decide, by decide⟩) (by decide)
  clear h278 q276
  refine zt_dup (pc' := 483) hX dX12_init_482 rfl rfl ?_
  refine zt_iconst (pc' := 484) hX dX12_init_483 rfl ?_
  refine zt_bipush (pc' := 486) hX dX12_init_484 rfl (by decide) (by decide) ?_
  refine zt_cast (pc' := 487) hX dX12_init_486 rfl (by decide) zc_182 zs_64 (by decide) ⟨by decide, by decide⟩ (by decide +kernel) ?_
  rw [show Int.toNat 3 = 3 from rfl]
  generalize h281 : zset s277 182 3 101 = s280
  have q282 := zq_el h281 q279 (by decide) (by decide) zc_182 zs_64 (show 0 ≤ (101 : Int) ∧ (101 : Int) ≤ 65535 from ⟨by decide, by decide⟩) (by decide)
  clear h281 q279
  refine zt_dup (pc' := 488) hX dX12_init_487 rfl rfl ?_
  refine zt_iconst (pc' := 489) hX dX12_init_488 rfl ?_
  refine zt_bipush (pc' := 491) hX dX12_init_489 rfl (by decide) (by decide) ?_
  refine zt_cast (pc' := 492) hX dX12_init_491 rfl (by decide) zc_182 zs_64 (by decide) ⟨by decide, by decide⟩ (by decide +kernel) ?_
  rw [show Int.toNat 4 = 4 from rfl]
  generalize h284 : zset s280 182 4 100 = s283
  have q285 := zq_el h284 q282 (by decide) (by decide) zc_182 zs_64 (show 0 ≤ (100 : Int) ∧ (100 : Int) ≤ 65535 from ⟨by decide, by decide⟩) (by decide)
  clear h284 q282
  refine zt_putF (pc' := 495) (x := ((182 : Nat) : Int)) hX dX12_init_492 rfl hN.1 zf_X12_66 (by decide) zc_164 zs_46 (fun q hq => by cases hq; exact ⟨rfl, rfl⟩) (zrf_of rfl) rfl rfl ?_
  generalize h287 : zset s283 164 26 ((182 : Nat) : Int) = s286
  have q288 := zq_ref (m' := 27) (g := 0) h287 q285 rfl (by decide) rfl (by decide) rfl (by decide)
  clear h287 q285
  refine zt_aload_n (pc' := 496) hX dX12_init_495 rfl rfl ?_
  refine zt_iconst (pc' := 497) hX dX12_init_496 rfl ?_
  refine zt_newaL (pc' := 499) (t := 3) (N := 4) (n' := 184) (cs' := 19) (ss' := 1681) hX dX12_init_497 rfl zw_10_19 rfl (by decide) (by decide) zc_183 zs_65 (by decide) (by decide) (zCs_nx q288.1) rfl rfl rfl ⟨by rw [hN.2.1]; exact Nat.le_of_ble_eq_true rfl, by rw [hN.2.2]; exact Nat.le_of_ble_eq_true rfl⟩ ?_
  have q289 := zq_arr (n' := 184) q288 zc_183 zs_65 (by decide) rfl
  clear q288
  refine zt_dup (pc' := 500) hX dX12_init_499 rfl rfl ?_
  refine zt_iconst (pc' := 501) hX dX12_init_500 rfl ?_
  refine zt_bipush (pc' := 503) hX dX12_init_501 rfl (by decide) (by decide) ?_
  refine zt_cast (pc' := 504) hX dX12_init_503 rfl (by decide) zc_183 zs_65 (by decide) ⟨by decide, by decide⟩ (by decide +kernel) ?_
  rw [show Int.toNat 0 = 0 from rfl]
  generalize h291 : zset s286 183 0 110 = s290
  have q292 := zq_el h291 q289 (by decide) (by decide) zc_183 zs_65 (show 0 ≤ (110 : Int) ∧ (110 : Int) ≤ 65535 from ⟨by decide, by decide⟩) (by decide)
  clear h291 q289
  refine zt_dup (pc' := 505) hX dX12_init_504 rfl rfl ?_
  refine zt_iconst (pc' := 506) hX dX12_init_505 rfl ?_
  refine zt_bipush (pc' := 508) hX dX12_init_506 rfl (by decide) (by decide) ?_
  refine zt_cast (pc' := 509) hX dX12_init_508 rfl (by decide) zc_183 zs_65 (by decide) ⟨by decide, by decide⟩ (by decide +kernel) ?_
  rw [show Int.toNat 1 = 1 from rfl]
  generalize h294 : zset s290 183 1 101 = s293
  have q295 := zq_el h294 q292 (by decide) (by decide) zc_183 zs_65 (show 0 ≤ (101 : Int) ∧ (101 : Int) ≤ 65535 from ⟨by decide, by decide⟩) (by decide)
  clear h294 q292
  refine zt_dup (pc' := 510) hX dX12_init_509 rfl rfl ?_
  refine zt_iconst (pc' := 511) hX dX12_init_510 rfl ?_
  refine zt_bipush (pc' := 513) hX dX12_init_511 rfl (by decide) (by decide) ?_
  refine zt_cast (pc' := 514) hX dX12_init_513 rfl (by decide) zc_183 zs_65 (by decide) ⟨by decide, by decide⟩ (by decide +kernel) ?_
  rw [show Int.toNat 2 = 2 from rfl]
  generalize h297 : zset s293 183 2 97 = s296
  have q298 := zq_el h297 q295 (by decide) (by decide) zc_183 zs_65 (show 0 ≤ (97 : Int) ∧ (97 : Int) ≤ 65535 from ⟨by decide, by decide⟩) (by decide)
  clear h297 q295
  refine zt_dup (pc' := 515) hX dX12_init_514 rfl rfl ?_
  refine zt_iconst (pc' := 516) hX dX12_init_515 rfl ?_
  refine zt_bipush (pc' := 518) hX dX12_init_516 rfl (by decide) (by decide) ?_
  refine zt_cast (pc' := 519) hX dX12_init_518 rfl (by decide) zc_183 zs_65 (by decide) ⟨by decide, by decide⟩ (by decide +kernel) ?_
  rw [show Int.toNat 3 = 3 from rfl]
  generalize h300 : zset s296 183 3 114 = s299
  have q301 := zq_el h300 q298 (by decide) (by decide) zc_183 zs_65 (show 0 ≤ (114 : Int) ∧ (114 : Int) ≤ 65535 from ⟨by decide, by decide⟩) (by decide)
  clear h300 q298
  refine zt_putF (pc' := 522) (x := ((183 : Nat) : Int)) hX dX12_init_519 rfl hN.1 zf_X12_69 (by decide) zc_164 zs_46 (fun q hq => by cases hq; exact ⟨rfl, rfl⟩) (zrf_of rfl) rfl rfl ?_
  generalize h303 : zset s299 164 27 ((183 : Nat) : Int) = s302
  have q304 := zq_ref (m' := 28) (g := 0) h303 q301 rfl (by decide) rfl (by decide) rfl (by decide)
  clear h303 q301
  refine zt_aload_n (pc' := 523) hX dX12_init_522 rfl rfl ?_
  refine zt_bipush (pc' := 525) hX dX12_init_523 rfl (by decide) (by decide) ?_
  refine zt_newaL (pc' := 527) (t := 3) (N := 6) (n' := 185) (cs' := 20) (ss' := 1687) hX dX12_init_525 rfl zw_10_19 rfl (by decide) (by decide) zc_184 zs_66 (by decide) (by decide) (zCs_nx q304.1) rfl rfl rfl ⟨by rw [hN.2.1]; exact Nat.le_of_ble_eq_true rfl, by rw [hN.2.2]; exact Nat.le_of_ble_eq_true rfl⟩ ?_
  have q305 := zq_arr (n' := 185) q304 zc_184 zs_66 (by decide) rfl
  clear q304
  refine zt_dup (pc' := 528) hX dX12_init_527 rfl rfl ?_
  refine zt_iconst (pc' := 529) hX dX12_init_528 rfl ?_
  refine zt_bipush (pc' := 531) hX dX12_init_529 rfl (by decide) (by decide) ?_
  refine zt_cast (pc' := 532) hX dX12_init_531 rfl (by decide) zc_184 zs_66 (by decide) ⟨by decide, by decide⟩ (by decide +kernel) ?_
  rw [show Int.toNat 0 = 0 from rfl]
  generalize h307 : zset s302 184 0 110 = s306
  have q308 := zq_el h307 q305 (by decide) (by decide) zc_184 zs_66 (show 0 ≤ (110 : Int) ∧ (110 : Int) ≤ 65535 from ⟨by decide, by decide⟩) (by decide)
  clear h307 q305
  refine zt_dup (pc' := 533) hX dX12_init_532 rfl rfl ?_
  refine zt_iconst (pc' := 534) hX dX12_init_533 rfl ?_
  refine zt_bipush (pc' := 536) hX dX12_init_534 rfl (by decide) (by decide) ?_
  refine zt_cast (pc' := 537) hX dX12_init_536 rfl (by decide) zc_184 zs_66 (by decide) ⟨by decide, by decide⟩ (by decide +kernel) ?_
  rw [show Int.toNat 1 = 1 from rfl]
  generalize h310 : zset s306 184 1 117 = s309
  have q311 := zq_el h310 q308 (by decide) (by decide) zc_184 zs_66 (show 0 ≤ (117 : Int) ∧ (117 : Int) ≤ 65535 from ⟨by decide, by decide⟩) (by decide)
  clear h310 q308
  refine zt_dup (pc' := 538) hX dX12_init_537 rfl rfl ?_
  refine zt_iconst (pc' := 539) hX dX12_init_538 rfl ?_
  refine zt_bipush (pc' := 541) hX dX12_init_539 rfl (by decide) (by decide) ?_
  refine zt_cast (pc' := 542) hX dX12_init_541 rfl (by decide) zc_184 zs_66 (by decide) ⟨by decide, by decide⟩ (by decide +kernel) ?_
  rw [show Int.toNat 2 = 2 from rfl]
  generalize h313 : zset s309 184 2 109 = s312
  have q314 := zq_el h313 q311 (by decide) (by decide) zc_184 zs_66 (show 0 ≤ (109 : Int) ∧ (109 : Int) ≤ 65535 from ⟨by decide, by decide⟩) (by decide)
  clear h313 q311
  refine zt_dup (pc' := 543) hX dX12_init_542 rfl rfl ?_
  refine zt_iconst (pc' := 544) hX dX12_init_543 rfl ?_
  refine zt_bipush (pc' := 546) hX dX12_init_544 rfl (by decide) (by decide) ?_
  refine zt_cast (pc' := 547) hX dX12_init_546 rfl (by decide) zc_184 zs_66 (by decide) ⟨by decide, by decide⟩ (by decide +kernel) ?_
  rw [show Int.toNat 3 = 3 from rfl]
  generalize h316 : zset s312 184 3 98 = s315
  have q317 := zq_el h316 q314 (by decide) (by decide) zc_184 zs_66 (show 0 ≤ (98 : Int) ∧ (98 : Int) ≤ 65535 from ⟨by decide, by decide⟩) (by decide)
  clear h316 q314
  refine zt_dup (pc' := 548) hX dX12_init_547 rfl rfl ?_
  refine zt_iconst (pc' := 549) hX dX12_init_548 rfl ?_
  refine zt_bipush (pc' := 551) hX dX12_init_549 rfl (by decide) (by decide) ?_
  refine zt_cast (pc' := 552) hX dX12_init_551 rfl (by decide) zc_184 zs_66 (by decide) ⟨by decide, by decide⟩ (by decide +kernel) ?_
  rw [show Int.toNat 4 = 4 from rfl]
  generalize h319 : zset s315 184 4 101 = s318
  have q320 := zq_el h319 q317 (by decide) (by decide) zc_184 zs_66 (show 0 ≤ (101 : Int) ∧ (101 : Int) ≤ 65535 from ⟨by decide, by decide⟩) (by decide)
  clear h319 q317
  refine zt_dup (pc' := 553) hX dX12_init_552 rfl rfl ?_
  refine zt_iconst (pc' := 554) hX dX12_init_553 rfl ?_
  refine zt_bipush (pc' := 556) hX dX12_init_554 rfl (by decide) (by decide) ?_
  refine zt_cast (pc' := 557) hX dX12_init_556 rfl (by decide) zc_184 zs_66 (by decide) ⟨by decide, by decide⟩ (by decide +kernel) ?_
  rw [show Int.toNat 5 = 5 from rfl]
  generalize h322 : zset s318 184 5 114 = s321
  have q323 := zq_el h322 q320 (by decide) (by decide) zc_184 zs_66 (show 0 ≤ (114 : Int) ∧ (114 : Int) ≤ 65535 from ⟨by decide, by decide⟩) (by decide)
  clear h322 q320
  refine zt_putF (pc' := 560) (x := ((184 : Nat) : Int)) hX dX12_init_557 rfl hN.1 zf_X12_72 (by decide) zc_164 zs_46 (fun q hq => by cases hq; exact ⟨rfl, rfl⟩) (zrf_of rfl) rfl rfl ?_
  generalize h325 : zset s321 164 28 ((184 : Nat) : Int) = s324
  have q326 := zq_ref (m' := 29) (g := 0) h325 q323 rfl (by decide) rfl (by decide) rfl (by decide)
  clear h325 q323
  exact K s324 q326

set_option maxRecDepth 100000 in
set_option maxHeartbeats 4000000 in
theorem zxm_4 {X : zCX} {σ s : zSto} (hX : zok X cX12_init RX12 1) (hN : X.2.2.2.2.2.2.2.2.2.1.name = yX12_init.name ∧ X.2.2.2.2.1.cells = 73 ∧ X.2.2.2.2.1.slots = 16482) (q : zQm (0) (0) σ s 29 185) (K : ∀ s' : zSto, zQm (0) (0) σ s' 35 191 → zZ X 191 26 1707 s' 703 [some (.ref (X.1.1 + 164))] []) : zZ X 185 20 1687 s 560 [some (.ref (X.1.1 + 164))] [] := by
  refine zt_aload_n (pc' := 561) hX dX12_init_560 rfl rfl ?_
  refine zt_bipush (pc' := 563) hX dX12_init_561 rfl (by decide) (by decide) ?_
  refine zt_newaL (pc' := 565) (t := 3) (N := 6) (n' := 186) (cs' := 21) (ss' := 1693) hX dX12_init_563 rfl zw_10_19 rfl (by decide) (by decide) zc_185 zs_67 (by decide) (by decide) (zCs_nx q.1) rfl rfl rfl ⟨by rw [hN.2.1]; exact Nat.le_of_ble_eq_true rfl, by rw [hN.2.2]; exact Nat.le_of_ble_eq_true rfl⟩ ?_
  have q327 := zq_arr (n' := 186) q zc_185 zs_67 (by decide) rfl
  refine zt_dup (pc' := 566) hX dX12_init_565 rfl rfl ?_
  refine zt_iconst (pc' := 567) hX dX12_init_566 rfl ?_
  refine zt_bipush (pc' := 569) hX dX12_init_567 rfl (by decide) (by decide) ?_
  refine zt_cast (pc' := 570) hX dX12_init_569 rfl (by decide) zc_185 zs_67 (by decide) ⟨by decide, by decide⟩ (by decide +kernel) ?_
  rw [show Int.toNat 0 = 0 from rfl]
  generalize h329 : zset s 185 0 99 = s328
  have q330 := zq_el h329 q327 (by decide) (by decide) zc_185 zs_67 (show 0 ≤ (99 : Int) ∧ (99 : Int) ≤ 65535 from ⟨by decide, by decide⟩) (by decide)
  clear h329 q327
  refine zt_dup (pc' := 571) hX dX12_init_570 rfl rfl ?_
  refine zt_iconst (pc' := 572) hX dX12_init_571 rfl ?_
  refine zt_bipush (pc' := 574) hX dX12_init_572 rfl (by decide) (by decide) ?_
  refine zt_cast (pc' := 575) hX dX12_init_574 rfl (by decide) zc_185 zs_67 (by decide) ⟨by decide, by decide⟩ (by decide +kernel) ?_
  rw [show Int.toNat 1 = 1 from rfl]
  generalize h332 : zset s328 185 1 111 = s331
  have q333 := zq_el h332 q330 (by decide) (by decide) zc_185 zs_67 (show 0 ≤ (111 : Int) ∧ (111 : Int) ≤ 65535 from ⟨by decide, by decide⟩) (by decide)
  clear h332 q330
  refine zt_dup (pc' := 576) hX dX12_init_575 rfl rfl ?_
  refine zt_iconst (pc' := 577) hX dX12_init_576 rfl ?_
  refine zt_bipush (pc' := 579) hX dX12_init_577 rfl (by decide) (by decide) ?_
  refine zt_cast (pc' := 580) hX dX12_init_579 rfl (by decide) zc_185 zs_67 (by decide) ⟨by decide, by decide⟩ (by decide +kernel) ?_
  rw [show Int.toNat 2 = 2 from rfl]
  generalize h335 : zset s331 185 2 108 = s334
  have q336 := zq_el h335 q333 (by decide) (by decide) zc_185 zs_67 (show 0 ≤ (108 : Int) ∧ (108 : Int) ≤ 65535 from ⟨by decide, by decide⟩) (by decide)
  clear h335 q333
  refine zt_dup (pc' := 581) hX dX12_init_580 rfl rfl ?_
  refine zt_iconst (pc' := 582) hX dX12_init_581 rfl ?_
  refine zt_bipush (pc' := 584) hX dX12_init_582 rfl (by decide) (by decide) ?_
  refine zt_cast (pc' := 585) hX dX12_init_584 rfl (by decide) zc_185 zs_67 (by decide) ⟨by decide, by decide⟩ (by decide +kernel) ?_
  rw [show Int.toNat 3 = 3 from rfl]
  generalize h338 : zset s334 185 3 117 = s337
  have q339 := zq_el h338 q336 (by decide) (by decide) zc_185 zs_67 (show 0 ≤ (117 : Int) ∧ (117 : Int) ≤ 65535 from ⟨by decide, by decide⟩) (by decide)
  clear h338 q336
  refine zt_dup (pc' := 586) hX dX12_init_585 rfl rfl ?_
  refine zt_iconst (pc' := 587) hX dX12_init_586 rfl ?_
  refine zt_bipush (pc' := 589) hX dX12_init_587 rfl (by decide) (by decide) ?_
  refine zt_cast (pc' := 590) hX dX12_init_589 rfl (by decide) zc_185 zs_67 (by decide) ⟨by decide, by decide⟩ (by decide +kernel) ?_
  rw [show Int.toNat 4 = 4 from rfl]
  generalize h341 : zset s337 185 4 109 = s340
  have q342 := zq_el h341 q339 (by decide) (by decide) zc_185 zs_67 (show 0 ≤ (109 : Int) ∧ (109 : Int) ≤ 65535 from ⟨by decide, by decide⟩) (by decide)
  clear h341 q339
  refine zt_dup (pc' := 591) hX dX12_init_590 rfl rfl ?_
  refine zt_iconst (pc' := 592) hX dX12_init_591 rfl ?_
  refine zt_bipush (pc' := 594) hX dX12_init_592 rfl (by decide) (by decide) ?_
  refine zt_cast (pc' := 595) hX dX12_init_594 rfl (by decide) zc_185 zs_67 (by decide) ⟨by decide, by decide⟩ (by decide +kernel) ?_
  rw [show Int.toNat 5 = 5 from rfl]
  generalize h344 : zset s340 185 5 110 = s343
  have q345 := zq_el h344 q342 (by decide) (by decide) zc_185 zs_67 (show 0 ≤ (110 : Int) ∧ (110 : Int) ≤ 65535 from ⟨by decide, by decide⟩) (by decide)
  clear h344 q342
  refine zt_putF (pc' := 598) (x := ((185 : Nat) : Int)) hX dX12_init_595 rfl hN.1 zf_X12_75 (by decide) zc_164 zs_46 (fun q hq => by cases hq; exact ⟨rfl, rfl⟩) (zrf_of rfl) rfl rfl ?_
  generalize h347 : zset s343 164 29 ((185 : Nat) : Int) = s346
  have q348 := zq_ref (m' := 30) (g := 0) h347 q345 rfl (by decide) rfl (by decide) rfl (by decide)
  clear h347 q345
  refine zt_aload_n (pc' := 599) hX dX12_init_598 rfl rfl ?_
  refine zt_iconst (pc' := 600) hX dX12_init_599 rfl ?_
  refine zt_newaL (pc' := 602) (t := 3) (N := 3) (n' := 187) (cs' := 22) (ss' := 1696) hX dX12_init_600 rfl zw_10_19 rfl (by decide) (by decide) zc_186 zs_68 (by decide) (by decide) (zCs_nx q348.1) rfl rfl rfl ⟨by rw [hN.2.1]; exact Nat.le_of_ble_eq_true rfl, by rw [hN.2.2]; exact Nat.le_of_ble_eq_true rfl⟩ ?_
  have q349 := zq_arr (n' := 187) q348 zc_186 zs_68 (by decide) rfl
  clear q348
  refine zt_dup (pc' := 603) hX dX12_init_602 rfl rfl ?_
  refine zt_iconst (pc' := 604) hX dX12_init_603 rfl ?_
  refine zt_bipush (pc' := 606) hX dX12_init_604 rfl (by decide) (by decide) ?_
  refine zt_cast (pc' := 607) hX dX12_init_606 rfl (by decide) zc_186 zs_68 (by decide) ⟨by decide, by decide⟩ (by decide +kernel) ?_
  rw [show Int.toNat 0 = 0 from rfl]
  generalize h351 : zset s346 186 0 114 = s350
  have q352 := zq_el h351 q349 (by decide) (by decide) zc_186 zs_68 (show 0 ≤ (114 : Int) ∧ (114 : Int) ≤ 65535 from ⟨by decide, by decide⟩) (by decide)
  clear h351 q349
  refine zt_dup (pc' := 608) hX dX12_init_607 rfl rfl ?_
  refine zt_iconst (pc' := 609) hX dX12_init_608 rfl ?_
  refine zt_bipush (pc' := 611) hX dX12_init_609 rfl (by decide) (by decide) ?_
  refine zt_cast (pc' := 612) hX dX12_init_611 rfl (by decide) zc_186 zs_68 (by decide) ⟨by decide, by decide⟩ (by decide +kernel) ?_
  rw [show Int.toNat 1 = 1 from rfl]
  generalize h354 : zset s350 186 1 111 = s353
  have q355 := zq_el h354 q352 (by decide) (by decide) zc_186 zs_68 (show 0 ≤ (111 : Int) ∧ (111 : Int) ≤ 65535 from ⟨by decide, by decide⟩) (by decide)
  clear h354 q352
  refine zt_dup (pc' := 613) hX dX12_init_612 rfl rfl ?_
  refine zt_iconst (pc' := 614) hX dX12_init_613 rfl ?_
  refine zt_bipush (pc' := 616) hX dX12_init_614 rfl (by decide) (by decide) ?_
  refine zt_cast (pc' := 617) hX dX12_init_616 rfl (by decide) zc_186 zs_68 (by decide) ⟨by decide, by decide⟩ (by decide +kernel) ?_
  rw [show Int.toNat 2 = 2 from rfl]
  generalize h357 : zset s353 186 2 119 = s356
  have q358 := zq_el h357 q355 (by decide) (by decide) zc_186 zs_68 (show 0 ≤ (119 : Int) ∧ (119 : Int) ≤ 65535 from ⟨by decide, by decide⟩) (by decide)
  clear h357 q355
  refine zt_putF (pc' := 620) (x := ((186 : Nat) : Int)) hX dX12_init_617 rfl hN.1 zf_X12_78 (by decide) zc_164 zs_46 (fun q hq => by cases hq; exact ⟨rfl, rfl⟩) (zrf_of rfl) rfl rfl ?_
  generalize h360 : zset s356 164 30 ((186 : Nat) : Int) = s359
  have q361 := zq_ref (m' := 31) (g := 0) h360 q358 rfl (by decide) rfl (by decide) rfl (by decide)
  clear h360 q358
  refine zt_aload_n (pc' := 621) hX dX12_init_620 rfl rfl ?_
  refine zt_iconst (pc' := 622) hX dX12_init_621 rfl ?_
  refine zt_newaL (pc' := 624) (t := 3) (N := 3) (n' := 188) (cs' := 23) (ss' := 1699) hX dX12_init_622 rfl zw_10_19 rfl (by decide) (by decide) zc_187 zs_69 (by decide) (by decide) (zCs_nx q361.1) rfl rfl rfl ⟨by rw [hN.2.1]; exact Nat.le_of_ble_eq_true rfl, by rw [hN.2.2]; exact Nat.le_of_ble_eq_true rfl⟩ ?_
  have q362 := zq_arr (n' := 188) q361 zc_187 zs_69 (by decide) rfl
  clear q361
  refine zt_dup (pc' := 625) hX dX12_init_624 rfl rfl ?_
  refine zt_iconst (pc' := 626) hX dX12_init_625 rfl ?_
  refine zt_bipush (pc' := 628) hX dX12_init_626 rfl (by decide) (by decide) ?_
  refine zt_cast (pc' := 629) hX dX12_init_628 rfl (by decide) zc_187 zs_69 (by decide) ⟨by decide, by decide⟩ (by decide +kernel) ?_
  rw [show Int.toNat 0 = 0 from rfl]
  generalize h364 : zset s359 187 0 102 = s363
  have q365 := zq_el h364 q362 (by decide) (by decide) zc_187 zs_69 (show 0 ≤ (102 : Int) ∧ (102 : Int) ≤ 65535 from ⟨by decide, by decide⟩) (by decide)
  clear h364 q362
  refine zt_dup (pc' := 630) hX dX12_init_629 rfl rfl ?_
  refine zt_iconst (pc' := 631) hX dX12_init_630 rfl ?_
  refine zt_bipush (pc' := 633) hX dX12_init_631 rfl (by decide) (by decide) ?_
  refine zt_cast (pc' := 634) hX dX12_init_633 rfl (by decide) zc_187 zs_69 (by decide) ⟨by decide, by decide⟩ (by decide +kernel) ?_
  rw [show Int.toNat 1 = 1 from rfl]
  generalize h367 : zset s363 187 1 97 = s366
  have q368 := zq_el h367 q365 (by decide) (by decide) zc_187 zs_69 (show 0 ≤ (97 : Int) ∧ (97 : Int) ≤ 65535 from ⟨by decide, by decide⟩) (by decide)
  clear h367 q365
  refine zt_dup (pc' := 635) hX dX12_init_634 rfl rfl ?_
  refine zt_iconst (pc' := 636) hX dX12_init_635 rfl ?_
  refine zt_bipush (pc' := 638) hX dX12_init_636 rfl (by decide) (by decide) ?_
  refine zt_cast (pc' := 639) hX dX12_init_638 rfl (by decide) zc_187 zs_69 (by decide) ⟨by decide, by decide⟩ (by decide +kernel) ?_
  rw [show Int.toNat 2 = 2 from rfl]
  generalize h370 : zset s366 187 2 114 = s369
  have q371 := zq_el h370 q368 (by decide) (by decide) zc_187 zs_69 (show 0 ≤ (114 : Int) ∧ (114 : Int) ≤ 65535 from ⟨by decide, by decide⟩) (by decide)
  clear h370 q368
  refine zt_putF (pc' := 642) (x := ((187 : Nat) : Int)) hX dX12_init_639 rfl hN.1 zf_X12_81 (by decide) zc_164 zs_46 (fun q hq => by cases hq; exact ⟨rfl, rfl⟩) (zrf_of rfl) rfl rfl ?_
  generalize h373 : zset s369 164 31 ((187 : Nat) : Int) = s372
  have q374 := zq_ref (m' := 32) (g := 0) h373 q371 rfl (by decide) rfl (by decide) rfl (by decide)
  clear h373 q371
  refine zt_aload_n (pc' := 643) hX dX12_init_642 rfl rfl ?_
  refine zt_iconst (pc' := 644) hX dX12_init_643 rfl ?_
  refine zt_newaL (pc' := 646) (t := 3) (N := 2) (n' := 189) (cs' := 24) (ss' := 1701) hX dX12_init_644 rfl zw_10_19 rfl (by decide) (by decide) zc_188 zs_70 (by decide) (by decide) (zCs_nx q374.1) rfl rfl rfl ⟨by rw [hN.2.1]; exact Nat.le_of_ble_eq_true rfl, by rw [hN.2.2]; exact Nat.le_of_ble_eq_true rfl⟩ ?_
  have q375 := zq_arr (n' := 189) q374 zc_188 zs_70 (by decide) rfl
  clear q374
  refine zt_dup (pc' := 647) hX dX12_init_646 rfl rfl ?_
  refine zt_iconst (pc' := 648) hX dX12_init_647 rfl ?_
  refine zt_bipush (pc' := 650) hX dX12_init_648 rfl (by decide) (by decide) ?_
  refine zt_cast (pc' := 651) hX dX12_init_650 rfl (by decide) zc_188 zs_70 (by decide) ⟨by decide, by decide⟩ (by decide +kernel) ?_
  rw [show Int.toNat 0 = 0 from rfl]
  generalize h377 : zset s372 188 0 111 = s376
  have q378 := zq_el h377 q375 (by decide) (by decide) zc_188 zs_70 (show 0 ≤ (111 : Int) ∧ (111 : Int) ≤ 65535 from ⟨by decide, by decide⟩) (by decide)
  clear h377 q375
  refine zt_dup (pc' := 652) hX dX12_init_651 rfl rfl ?_
  refine zt_iconst (pc' := 653) hX dX12_init_652 rfl ?_
  refine zt_bipush (pc' := 655) hX dX12_init_653 rfl (by decide) (by decide) ?_
  refine zt_cast (pc' := 656) hX dX12_init_655 rfl (by decide) zc_188 zs_70 (by decide) ⟨by decide, by decide⟩ (by decide +kernel) ?_
  rw [show Int.toNat 1 = 1 from rfl]
  generalize h380 : zset s376 188 1 114 = s379
  have q381 := zq_el h380 q378 (by decide) (by decide) zc_188 zs_70 (show 0 ≤ (114 : Int) ∧ (114 : Int) ≤ 65535 from ⟨by decide, by decide⟩) (by decide)
  clear h380 q378
  refine zt_putF (pc' := 659) (x := ((188 : Nat) : Int)) hX dX12_init_656 rfl hN.1 zf_X12_84 (by decide) zc_164 zs_46 (fun q hq => by cases hq; exact ⟨rfl, rfl⟩) (zrf_of rfl) rfl rfl ?_
  generalize h383 : zset s379 164 32 ((188 : Nat) : Int) = s382
  have q384 := zq_ref (m' := 33) (g := 0) h383 q381 rfl (by decide) rfl (by decide) rfl (by decide)
  clear h383 q381
  refine zt_aload_n (pc' := 660) hX dX12_init_659 rfl rfl ?_
  refine zt_iconst (pc' := 661) hX dX12_init_660 rfl ?_
  refine zt_newaL (pc' := 663) (t := 3) (N := 3) (n' := 190) (cs' := 25) (ss' := 1704) hX dX12_init_661 rfl zw_10_19 rfl (by decide) (by decide) zc_189 zs_71 (by decide) (by decide) (zCs_nx q384.1) rfl rfl rfl ⟨by rw [hN.2.1]; exact Nat.le_of_ble_eq_true rfl, by rw [hN.2.2]; exact Nat.le_of_ble_eq_true rfl⟩ ?_
  have q385 := zq_arr (n' := 190) q384 zc_189 zs_71 (by decide) rfl
  clear q384
  refine zt_dup (pc' := 664) hX dX12_init_663 rfl rfl ?_
  refine zt_iconst (pc' := 665) hX dX12_init_664 rfl ?_
  refine zt_bipush (pc' := 667) hX dX12_init_665 rfl (by decide) (by decide) ?_
  refine zt_cast (pc' := 668) hX dX12_init_667 rfl (by decide) zc_189 zs_71 (by decide) ⟨by decide, by decide⟩ (by decide +kernel) ?_
  rw [show Int.toNat 0 = 0 from rfl]
  generalize h387 : zset s382 189 0 97 = s386
  have q388 := zq_el h387 q385 (by decide) (by decide) zc_189 zs_71 (show 0 ≤ (97 : Int) ∧ (97 : Int) ≤ 65535 from ⟨by decide, by decide⟩) (by decide)
  clear h387 q385
  refine zt_dup (pc' := 669) hX dX12_init_668 rfl rfl ?_
  refine zt_iconst (pc' := 670) hX dX12_init_669 rfl ?_
  refine zt_bipush (pc' := 672) hX dX12_init_670 rfl (by decide) (by decide) ?_
  refine zt_cast (pc' := 673) hX dX12_init_672 rfl (by decide) zc_189 zs_71 (by decide) ⟨by decide, by decide⟩ (by decide +kernel) ?_
  rw [show Int.toNat 1 = 1 from rfl]
  generalize h390 : zset s386 189 1 110 = s389
  have q391 := zq_el h390 q388 (by decide) (by decide) zc_189 zs_71 (show 0 ≤ (110 : Int) ∧ (110 : Int) ≤ 65535 from ⟨by decide, by decide⟩) (by decide)
  clear h390 q388
  refine zt_dup (pc' := 674) hX dX12_init_673 rfl rfl ?_
  refine zt_iconst (pc' := 675) hX dX12_init_674 rfl ?_
  refine zt_bipush (pc' := 677) hX dX12_init_675 rfl (by decide) (by decide) ?_
  refine zt_cast (pc' := 678) hX dX12_init_677 rfl (by decide) zc_189 zs_71 (by decide) ⟨by decide, by decide⟩ (by decide +kernel) ?_
  rw [show Int.toNat 2 = 2 from rfl]
  generalize h393 : zset s389 189 2 100 = s392
  have q394 := zq_el h393 q391 (by decide) (by decide) zc_189 zs_71 (show 0 ≤ (100 : Int) ∧ (100 : Int) ≤ 65535 from ⟨by decide, by decide⟩) (by decide)
  clear h393 q391
  refine zt_putF (pc' := 681) (x := ((189 : Nat) : Int)) hX dX12_init_678 rfl hN.1 zf_X12_87 (by decide) zc_164 zs_46 (fun q hq => by cases hq; exact ⟨rfl, rfl⟩) (zrf_of rfl) rfl rfl ?_
  generalize h396 : zset s392 164 33 ((189 : Nat) : Int) = s395
  have q397 := zq_ref (m' := 34) (g := 0) h396 q394 rfl (by decide) rfl (by decide) rfl (by decide)
  clear h396 q394
  refine zt_aload_n (pc' := 682) hX dX12_init_681 rfl rfl ?_
  refine zt_iconst (pc' := 683) hX dX12_init_682 rfl ?_
  refine zt_newaL (pc' := 685) (t := 3) (N := 3) (n' := 191) (cs' := 26) (ss' := 1707) hX dX12_init_683 rfl zw_10_19 rfl (by decide) (by decide) zc_190 zs_72 (by decide) (by decide) (zCs_nx q397.1) rfl rfl rfl ⟨by rw [hN.2.1]; exact Nat.le_of_ble_eq_true rfl, by rw [hN.2.2]; exact Nat.le_of_ble_eq_true rfl⟩ ?_
  have q398 := zq_arr (n' := 191) q397 zc_190 zs_72 (by decide) rfl
  clear q397
  refine zt_dup (pc' := 686) hX dX12_init_685 rfl rfl ?_
  refine zt_iconst (pc' := 687) hX dX12_init_686 rfl ?_
  refine zt_bipush (pc' := 689) hX dX12_init_687 rfl (by decide) (by decide) ?_
  refine zt_cast (pc' := 690) hX dX12_init_689 rfl (by decide) zc_190 zs_72 (by decide) ⟨by decide, by decide⟩ (by decide +kernel) ?_
  rw [show Int.toNat 0 = 0 from rfl]
  generalize h400 : zset s395 190 0 110 = s399
  have q401 := zq_el h400 q398 (by decide) (by decide) zc_190 zs_72 (show 0 ≤ (110 : Int) ∧ (110 : Int) ≤ 65535 from ⟨by decide, by decide⟩) (by decide)
  clear h400 q398
  refine zt_dup (pc' := 691) hX dX12_init_690 rfl rfl ?_
  refine zt_iconst (pc' := 692) hX dX12_init_691 rfl ?_
  refine zt_bipush (pc' := 694) hX dX12_init_692 rfl (by decide) (by decide) ?_
  refine zt_cast (pc' := 695) hX dX12_init_694 rfl (by decide) zc_190 zs_72 (by decide) ⟨by decide, by decide⟩ (by decide +kernel) ?_
  rw [show Int.toNat 1 = 1 from rfl]
  generalize h403 : zset s399 190 1 111 = s402
  have q404 := zq_el h403 q401 (by decide) (by decide) zc_190 zs_72 (show 0 ≤ (111 : Int) ∧ (111 : Int) ≤ 65535 from ⟨by decide, by decide⟩) (by decide)
  clear h403 q401
  refine zt_dup (pc' := 696) hX dX12_init_695 rfl rfl ?_
  refine zt_iconst (pc' := 697) hX dX12_init_696 rfl ?_
  refine zt_bipush (pc' := 699) hX dX12_init_697 rfl (by decide) (by decide) ?_
  refine zt_cast (pc' := 700) hX dX12_init_699 rfl (by decide) zc_190 zs_72 (by decide) ⟨by decide, by decide⟩ (by decide +kernel) ?_
  rw [show Int.toNat 2 = 2 from rfl]
  generalize h406 : zset s402 190 2 116 = s405
  have q407 := zq_el h406 q404 (by decide) (by decide) zc_190 zs_72 (show 0 ≤ (116 : Int) ∧ (116 : Int) ≤ 65535 from ⟨by decide, by decide⟩) (by decide)
  clear h406 q404
  refine zt_putF (pc' := 703) (x := ((190 : Nat) : Int)) hX dX12_init_700 rfl hN.1 zf_X12_90 (by decide) zc_164 zs_46 (fun q hq => by cases hq; exact ⟨rfl, rfl⟩) (zrf_of rfl) rfl rfl ?_
  generalize h409 : zset s405 164 34 ((190 : Nat) : Int) = s408
  have q410 := zq_ref (m' := 35) (g := 0) h409 q407 rfl (by decide) rfl (by decide) rfl (by decide)
  clear h409 q407
  exact K s408 q410

set_option maxRecDepth 100000 in
set_option maxHeartbeats 4000000 in
theorem zxm_5 {X : zCX} {σ s : zSto} (hX : zok X cX12_init RX12 1) (hN : X.2.2.2.2.2.2.2.2.2.1.name = yX12_init.name ∧ X.2.2.2.2.1.cells = 73 ∧ X.2.2.2.2.1.slots = 16482) (q : zQm (0) (0) σ s 35 191) (K : ∀ s' : zSto, zQm (0) (0) σ s' 45 200 → zZ X 200 35 1862 s' 842 [some (.ref (X.1.1 + 164))] []) : zZ X 191 26 1707 s 703 [some (.ref (X.1.1 + 164))] [] := by
  refine zt_aload_n (pc' := 704) hX dX12_init_703 rfl rfl ?_
  refine zt_iconst (pc' := 705) hX dX12_init_704 rfl ?_
  refine zt_newaL (pc' := 707) (t := 3) (N := 3) (n' := 192) (cs' := 27) (ss' := 1710) hX dX12_init_705 rfl zw_10_19 rfl (by decide) (by decide) zc_191 zs_73 (by decide) (by decide) (zCs_nx q.1) rfl rfl rfl ⟨by rw [hN.2.1]; exact Nat.le_of_ble_eq_true rfl, by rw [hN.2.2]; exact Nat.le_of_ble_eq_true rfl⟩ ?_
  have q411 := zq_arr (n' := 192) q zc_191 zs_73 (by decide) rfl
  refine zt_dup (pc' := 708) hX dX12_init_707 rfl rfl ?_
  refine zt_iconst (pc' := 709) hX dX12_init_708 rfl ?_
  refine zt_bipush (pc' := 711) hX dX12_init_709 rfl (by decide) (by decide) ?_
  refine zt_cast (pc' := 712) hX dX12_init_711 rfl (by decide) zc_191 zs_73 (by decide) ⟨by decide, by decide⟩ (by decide +kernel) ?_
  rw [show Int.toNat 0 = 0 from rfl]
  generalize h413 : zset s 191 0 97 = s412
  have q414 := zq_el h413 q411 (by decide) (by decide) zc_191 zs_73 (show 0 ≤ (97 : Int) ∧ (97 : Int) ≤ 65535 from ⟨by decide, by decide⟩) (by decide)
  clear h413 q411
  refine zt_dup (pc' := 713) hX dX12_init_712 rfl rfl ?_
  refine zt_iconst (pc' := 714) hX dX12_init_713 rfl ?_
  refine zt_bipush (pc' := 716) hX dX12_init_714 rfl (by decide) (by decide) ?_
  refine zt_cast (pc' := 717) hX dX12_init_716 rfl (by decide) zc_191 zs_73 (by decide) ⟨by decide, by decide⟩ (by decide +kernel) ?_
  rw [show Int.toNat 1 = 1 from rfl]
  generalize h416 : zset s412 191 1 108 = s415
  have q417 := zq_el h416 q414 (by decide) (by decide) zc_191 zs_73 (show 0 ≤ (108 : Int) ∧ (108 : Int) ≤ 65535 from ⟨by decide, by decide⟩) (by decide)
  clear h416 q414
  refine zt_dup (pc' := 718) hX dX12_init_717 rfl rfl ?_
  refine zt_iconst (pc' := 719) hX dX12_init_718 rfl ?_
  refine zt_bipush (pc' := 721) hX dX12_init_719 rfl (by decide) (by decide) ?_
  refine zt_cast (pc' := 722) hX dX12_init_721 rfl (by decide) zc_191 zs_73 (by decide) ⟨by decide, by decide⟩ (by decide +kernel) ?_
  rw [show Int.toNat 2 = 2 from rfl]
  generalize h419 : zset s415 191 2 108 = s418
  have q420 := zq_el h419 q417 (by decide) (by decide) zc_191 zs_73 (show 0 ≤ (108 : Int) ∧ (108 : Int) ≤ 65535 from ⟨by decide, by decide⟩) (by decide)
  clear h419 q417
  refine zt_putF (pc' := 725) (x := ((191 : Nat) : Int)) hX dX12_init_722 rfl hN.1 zf_X12_93 (by decide) zc_164 zs_46 (fun q hq => by cases hq; exact ⟨rfl, rfl⟩) (zrf_of rfl) rfl rfl ?_
  generalize h422 : zset s418 164 35 ((191 : Nat) : Int) = s421
  have q423 := zq_ref (m' := 36) (g := 0) h422 q420 rfl (by decide) rfl (by decide) rfl (by decide)
  clear h422 q420
  refine zt_aload_n (pc' := 726) hX dX12_init_725 rfl rfl ?_
  refine zt_iconst (pc' := 727) hX dX12_init_726 rfl ?_
  refine zt_newaL (pc' := 729) (t := 3) (N := 3) (n' := 193) (cs' := 28) (ss' := 1713) hX dX12_init_727 rfl zw_10_19 rfl (by decide) (by decide) zc_192 zs_74 (by decide) (by decide) (zCs_nx q423.1) rfl rfl rfl ⟨by rw [hN.2.1]; exact Nat.le_of_ble_eq_true rfl, by rw [hN.2.2]; exact Nat.le_of_ble_eq_true rfl⟩ ?_
  have q424 := zq_arr (n' := 193) q423 zc_192 zs_74 (by decide) rfl
  clear q423
  refine zt_dup (pc' := 730) hX dX12_init_729 rfl rfl ?_
  refine zt_iconst (pc' := 731) hX dX12_init_730 rfl ?_
  refine zt_bipush (pc' := 733) hX dX12_init_731 rfl (by decide) (by decide) ?_
  refine zt_cast (pc' := 734) hX dX12_init_733 rfl (by decide) zc_192 zs_74 (by decide) ⟨by decide, by decide⟩ (by decide +kernel) ?_
  rw [show Int.toNat 0 = 0 from rfl]
  generalize h426 : zset s421 192 0 109 = s425
  have q427 := zq_el h426 q424 (by decide) (by decide) zc_192 zs_74 (show 0 ≤ (109 : Int) ∧ (109 : Int) ≤ 65535 from ⟨by decide, by decide⟩) (by decide)
  clear h426 q424
  refine zt_dup (pc' := 735) hX dX12_init_734 rfl rfl ?_
  refine zt_iconst (pc' := 736) hX dX12_init_735 rfl ?_
  refine zt_bipush (pc' := 738) hX dX12_init_736 rfl (by decide) (by decide) ?_
  refine zt_cast (pc' := 739) hX dX12_init_738 rfl (by decide) zc_192 zs_74 (by decide) ⟨by decide, by decide⟩ (by decide +kernel) ?_
  rw [show Int.toNat 1 = 1 from rfl]
  generalize h429 : zset s425 192 1 105 = s428
  have q430 := zq_el h429 q427 (by decide) (by decide) zc_192 zs_74 (show 0 ≤ (105 : Int) ∧ (105 : Int) ≤ 65535 from ⟨by decide, by decide⟩) (by decide)
  clear h429 q427
  refine zt_dup (pc' := 740) hX dX12_init_739 rfl rfl ?_
  refine zt_iconst (pc' := 741) hX dX12_init_740 rfl ?_
  refine zt_bipush (pc' := 743) hX dX12_init_741 rfl (by decide) (by decide) ?_
  refine zt_cast (pc' := 744) hX dX12_init_743 rfl (by decide) zc_192 zs_74 (by decide) ⟨by decide, by decide⟩ (by decide +kernel) ?_
  rw [show Int.toNat 2 = 2 from rfl]
  generalize h432 : zset s428 192 2 110 = s431
  have q433 := zq_el h432 q430 (by decide) (by decide) zc_192 zs_74 (show 0 ≤ (110 : Int) ∧ (110 : Int) ≤ 65535 from ⟨by decide, by decide⟩) (by decide)
  clear h432 q430
  refine zt_putF (pc' := 747) (x := ((192 : Nat) : Int)) hX dX12_init_744 rfl hN.1 zf_X12_96 (by decide) zc_164 zs_46 (fun q hq => by cases hq; exact ⟨rfl, rfl⟩) (zrf_of rfl) rfl rfl ?_
  generalize h435 : zset s431 164 36 ((192 : Nat) : Int) = s434
  have q436 := zq_ref (m' := 37) (g := 0) h435 q433 rfl (by decide) rfl (by decide) rfl (by decide)
  clear h435 q433
  refine zt_aload_n (pc' := 748) hX dX12_init_747 rfl rfl ?_
  refine zt_iconst (pc' := 749) hX dX12_init_748 rfl ?_
  refine zt_newaL (pc' := 751) (t := 3) (N := 3) (n' := 194) (cs' := 29) (ss' := 1716) hX dX12_init_749 rfl zw_10_19 rfl (by decide) (by decide) zc_193 zs_75 (by decide) (by decide) (zCs_nx q436.1) rfl rfl rfl ⟨by rw [hN.2.1]; exact Nat.le_of_ble_eq_true rfl, by rw [hN.2.2]; exact Nat.le_of_ble_eq_true rfl⟩ ?_
  have q437 := zq_arr (n' := 194) q436 zc_193 zs_75 (by decide) rfl
  clear q436
  refine zt_dup (pc' := 752) hX dX12_init_751 rfl rfl ?_
  refine zt_iconst (pc' := 753) hX dX12_init_752 rfl ?_
  refine zt_bipush (pc' := 755) hX dX12_init_753 rfl (by decide) (by decide) ?_
  refine zt_cast (pc' := 756) hX dX12_init_755 rfl (by decide) zc_193 zs_75 (by decide) ⟨by decide, by decide⟩ (by decide +kernel) ?_
  rw [show Int.toNat 0 = 0 from rfl]
  generalize h439 : zset s434 193 0 109 = s438
  have q440 := zq_el h439 q437 (by decide) (by decide) zc_193 zs_75 (show 0 ≤ (109 : Int) ∧ (109 : Int) ≤ 65535 from ⟨by decide, by decide⟩) (by decide)
  clear h439 q437
  refine zt_dup (pc' := 757) hX dX12_init_756 rfl rfl ?_
  refine zt_iconst (pc' := 758) hX dX12_init_757 rfl ?_
  refine zt_bipush (pc' := 760) hX dX12_init_758 rfl (by decide) (by decide) ?_
  refine zt_cast (pc' := 761) hX dX12_init_760 rfl (by decide) zc_193 zs_75 (by decide) ⟨by decide, by decide⟩ (by decide +kernel) ?_
  rw [show Int.toNat 1 = 1 from rfl]
  generalize h442 : zset s438 193 1 97 = s441
  have q443 := zq_el h442 q440 (by decide) (by decide) zc_193 zs_75 (show 0 ≤ (97 : Int) ∧ (97 : Int) ≤ 65535 from ⟨by decide, by decide⟩) (by decide)
  clear h442 q440
  refine zt_dup (pc' := 762) hX dX12_init_761 rfl rfl ?_
  refine zt_iconst (pc' := 763) hX dX12_init_762 rfl ?_
  refine zt_bipush (pc' := 765) hX dX12_init_763 rfl (by decide) (by decide) ?_
  refine zt_cast (pc' := 766) hX dX12_init_765 rfl (by decide) zc_193 zs_75 (by decide) ⟨by decide, by decide⟩ (by decide +kernel) ?_
  rw [show Int.toNat 2 = 2 from rfl]
  generalize h445 : zset s441 193 2 120 = s444
  have q446 := zq_el h445 q443 (by decide) (by decide) zc_193 zs_75 (show 0 ≤ (120 : Int) ∧ (120 : Int) ≤ 65535 from ⟨by decide, by decide⟩) (by decide)
  clear h445 q443
  refine zt_putF (pc' := 769) (x := ((193 : Nat) : Int)) hX dX12_init_766 rfl hN.1 zf_X12_99 (by decide) zc_164 zs_46 (fun q hq => by cases hq; exact ⟨rfl, rfl⟩) (zrf_of rfl) rfl rfl ?_
  generalize h448 : zset s444 164 37 ((193 : Nat) : Int) = s447
  have q449 := zq_ref (m' := 38) (g := 0) h448 q446 rfl (by decide) rfl (by decide) rfl (by decide)
  clear h448 q446
  refine zt_aload_n (pc' := 770) hX dX12_init_769 rfl rfl ?_
  refine zt_bipush (pc' := 772) hX dX12_init_770 rfl (by decide) (by decide) ?_
  refine zt_newaL (pc' := 774) (t := 0) (N := 6) (n' := 195) (cs' := 30) (ss' := 1722) hX dX12_init_772 rfl zw_3_7 rfl (by decide) (by decide) zc_194 zs_76 (by decide) (by decide) (zCs_nx q449.1) rfl rfl rfl ⟨by rw [hN.2.1]; exact Nat.le_of_ble_eq_true rfl, by rw [hN.2.2]; exact Nat.le_of_ble_eq_true rfl⟩ ?_
  have q450 := zq_arr (n' := 195) q449 zc_194 zs_76 (by decide) rfl
  clear q449
  refine zt_putF (pc' := 777) (x := ((194 : Nat) : Int)) hX dX12_init_774 rfl hN.1 zf_X12_102 (by decide) zc_164 zs_46 (fun q hq => by cases hq; exact ⟨rfl, rfl⟩) (zrf_of rfl) rfl rfl ?_
  generalize h452 : zset s447 164 39 ((194 : Nat) : Int) = s451
  have q453 := zq_ref (m' := 40) (g := 1) h452 q450 rfl (by decide) rfl (by decide) rfl (by decide)
  clear h452 q450
  refine zt_aload_n (pc' := 778) hX dX12_init_777 rfl rfl ?_
  refine zt_iconst (pc' := 779) hX dX12_init_778 rfl ?_
  refine zt_newaL (pc' := 781) (t := 0) (N := 2) (n' := 196) (cs' := 31) (ss' := 1724) hX dX12_init_779 rfl zw_3_7 rfl (by decide) (by decide) zc_195 zs_77 (by decide) (by decide) (zCs_nx q453.1) rfl rfl rfl ⟨by rw [hN.2.1]; exact Nat.le_of_ble_eq_true rfl, by rw [hN.2.2]; exact Nat.le_of_ble_eq_true rfl⟩ ?_
  have q454 := zq_arr (n' := 196) q453 zc_195 zs_77 (by decide) rfl
  clear q453
  refine zt_putF (pc' := 784) (x := ((195 : Nat) : Int)) hX dX12_init_781 rfl hN.1 zf_X12_105 (by decide) zc_164 zs_46 (fun q hq => by cases hq; exact ⟨rfl, rfl⟩) (zrf_of rfl) rfl rfl ?_
  generalize h456 : zset s451 164 40 ((195 : Nat) : Int) = s455
  have q457 := zq_ref (m' := 41) (g := 0) h456 q454 rfl (by decide) rfl (by decide) rfl (by decide)
  clear h456 q454
  refine zt_aload_n (pc' := 785) hX dX12_init_784 rfl rfl ?_
  refine zt_bipush (pc' := 787) hX dX12_init_785 rfl (by decide) (by decide) ?_
  refine zt_newaL (pc' := 789) (t := 4) (N := 20) (n' := 197) (cs' := 32) (ss' := 1744) hX dX12_init_787 rfl zw_12_1 rfl (by decide) (by decide) zc_196 zs_78 (by decide) (by decide) (zCs_nx q457.1) rfl rfl rfl ⟨by rw [hN.2.1]; exact Nat.le_of_ble_eq_true rfl, by rw [hN.2.2]; exact Nat.le_of_ble_eq_true rfl⟩ ?_
  have q458 := zq_arr (n' := 197) q457 zc_196 zs_78 (by decide) rfl
  clear q457
  refine zt_putF (pc' := 792) (x := ((196 : Nat) : Int)) hX dX12_init_789 rfl hN.1 zf_X12_108 (by decide) zc_164 zs_46 (fun q hq => by cases hq; exact ⟨rfl, rfl⟩) (zrf_of rfl) rfl rfl ?_
  generalize h460 : zset s455 164 41 ((196 : Nat) : Int) = s459
  have q461 := zq_ref (m' := 42) (g := 0) h460 q458 rfl (by decide) rfl (by decide) rfl (by decide)
  clear h460 q458
  refine zt_aload_n (pc' := 793) hX dX12_init_792 rfl rfl ?_
  refine zt_bipush (pc' := 795) hX dX12_init_793 rfl (by decide) (by decide) ?_
  refine zt_newaL (pc' := 797) (t := 0) (N := 72) (n' := 198) (cs' := 33) (ss' := 1816) hX dX12_init_795 rfl zw_3_7 rfl (by decide) (by decide) zc_197 zs_79 (by decide) (by decide) (zCs_nx q461.1) rfl rfl rfl ⟨by rw [hN.2.1]; exact Nat.le_of_ble_eq_true rfl, by rw [hN.2.2]; exact Nat.le_of_ble_eq_true rfl⟩ ?_
  have q462 := zq_arr (n' := 198) q461 zc_197 zs_79 (by decide) rfl
  clear q461
  refine zt_putF (pc' := 800) (x := ((197 : Nat) : Int)) hX dX12_init_797 rfl hN.1 zf_X12_112 (by decide) zc_164 zs_46 (fun q hq => by cases hq; exact ⟨rfl, rfl⟩) (zrf_of rfl) rfl rfl ?_
  generalize h464 : zset s459 164 42 ((197 : Nat) : Int) = s463
  have q465 := zq_ref (m' := 43) (g := 0) h464 q462 rfl (by decide) rfl (by decide) rfl (by decide)
  clear h464 q462
  refine zt_aload_n (pc' := 801) hX dX12_init_800 rfl rfl ?_
  refine zt_bipush (pc' := 803) hX dX12_init_801 rfl (by decide) (by decide) ?_
  refine zt_newaL (pc' := 805) (t := 0) (N := 40) (n' := 199) (cs' := 34) (ss' := 1856) hX dX12_init_803 rfl zw_3_7 rfl (by decide) (by decide) zc_198 zs_80 (by decide) (by decide) (zCs_nx q465.1) rfl rfl rfl ⟨by rw [hN.2.1]; exact Nat.le_of_ble_eq_true rfl, by rw [hN.2.2]; exact Nat.le_of_ble_eq_true rfl⟩ ?_
  have q466 := zq_arr (n' := 199) q465 zc_198 zs_80 (by decide) rfl
  clear q465
  refine zt_putF (pc' := 808) (x := ((198 : Nat) : Int)) hX dX12_init_805 rfl hN.1 zf_X12_115 (by decide) zc_164 zs_46 (fun q hq => by cases hq; exact ⟨rfl, rfl⟩) (zrf_of rfl) rfl rfl ?_
  generalize h468 : zset s463 164 43 ((198 : Nat) : Int) = s467
  have q469 := zq_ref (m' := 44) (g := 0) h468 q466 rfl (by decide) rfl (by decide) rfl (by decide)
  clear h468 q466
  refine zt_aload_n (pc' := 809) hX dX12_init_808 rfl rfl ?_
  refine zt_bipush (pc' := 811) hX dX12_init_809 rfl (by decide) (by decide) ?_
  refine zt_newaL (pc' := 813) (t := 0) (N := 6) (n' := 200) (cs' := 35) (ss' := 1862) hX dX12_init_811 rfl zw_3_7 rfl (by decide) (by decide) zc_199 zs_81 (by decide) (by decide) (zCs_nx q469.1) rfl rfl rfl ⟨by rw [hN.2.1]; exact Nat.le_of_ble_eq_true rfl, by rw [hN.2.2]; exact Nat.le_of_ble_eq_true rfl⟩ ?_
  have q470 := zq_arr (n' := 200) q469 zc_199 zs_81 (by decide) rfl
  clear q469
  refine zt_dup (pc' := 814) hX dX12_init_813 rfl rfl ?_
  refine zt_iconst (pc' := 815) hX dX12_init_814 rfl ?_
  refine zt_iconst (pc' := 816) hX dX12_init_815 rfl ?_
  refine zt_iast (pc' := 817) hX dX12_init_816 rfl (by decide) zc_199 zs_81 (by decide) ⟨by decide, by decide⟩ ?_
  rw [show Int.toNat 0 = 0 from rfl]
  generalize h472 : zset s467 199 0 3 = s471
  have q473 := zq_el h472 q470 (by decide) (by decide) zc_199 zs_81 (show zP81 199 0 3 from (by unfold zP81; omega)) (by decide)
  clear h472 q470
  refine zt_dup (pc' := 818) hX dX12_init_817 rfl rfl ?_
  refine zt_iconst (pc' := 819) hX dX12_init_818 rfl ?_
  refine zt_bipush (pc' := 821) hX dX12_init_819 rfl (by decide) (by decide) ?_
  refine zt_iast (pc' := 822) hX dX12_init_821 rfl (by decide) zc_199 zs_81 (by decide) ⟨by decide, by decide⟩ ?_
  rw [show Int.toNat 1 = 1 from rfl]
  generalize h475 : zset s471 199 1 20 = s474
  have q476 := zq_el h475 q473 (by decide) (by decide) zc_199 zs_81 (show zP81 199 1 20 from (by unfold zP81; omega)) (by decide)
  clear h475 q473
  refine zt_dup (pc' := 823) hX dX12_init_822 rfl rfl ?_
  refine zt_iconst (pc' := 824) hX dX12_init_823 rfl ?_
  refine zt_iconst (pc' := 825) hX dX12_init_824 rfl ?_
  refine zt_iast (pc' := 826) hX dX12_init_825 rfl (by decide) zc_199 zs_81 (by decide) ⟨by decide, by decide⟩ ?_
  rw [show Int.toNat 2 = 2 from rfl]
  generalize h478 : zset s474 199 2 0 = s477
  have q479 := zq_el h478 q476 (by decide) (by decide) zc_199 zs_81 (show zP81 199 2 0 from (by unfold zP81; omega)) (by decide)
  clear h478 q476
  refine zt_dup (pc' := 827) hX dX12_init_826 rfl rfl ?_
  refine zt_iconst (pc' := 828) hX dX12_init_827 rfl ?_
  refine zt_iconst (pc' := 829) hX dX12_init_828 rfl ?_
  refine zt_iast (pc' := 830) hX dX12_init_829 rfl (by decide) zc_199 zs_81 (by decide) ⟨by decide, by decide⟩ ?_
  rw [show Int.toNat 3 = 3 from rfl]
  generalize h481 : zset s477 199 3 3 = s480
  have q482 := zq_el h481 q479 (by decide) (by decide) zc_199 zs_81 (show zP81 199 3 3 from (by unfold zP81; omega)) (by decide)
  clear h481 q479
  refine zt_dup (pc' := 831) hX dX12_init_830 rfl rfl ?_
  refine zt_iconst (pc' := 832) hX dX12_init_831 rfl ?_
  refine zt_bipush (pc' := 834) hX dX12_init_832 rfl (by decide) (by decide) ?_
  refine zt_iast (pc' := 835) hX dX12_init_834 rfl (by decide) zc_199 zs_81 (by decide) ⟨by decide, by decide⟩ ?_
  rw [show Int.toNat 4 = 4 from rfl]
  generalize h484 : zset s480 199 4 20 = s483
  have q485 := zq_el h484 q482 (by decide) (by decide) zc_199 zs_81 (show zP81 199 4 20 from (by unfold zP81; omega)) (by decide)
  clear h484 q482
  refine zt_dup (pc' := 836) hX dX12_init_835 rfl rfl ?_
  refine zt_iconst (pc' := 837) hX dX12_init_836 rfl ?_
  refine zt_iconst (pc' := 838) hX dX12_init_837 rfl ?_
  refine zt_iast (pc' := 839) hX dX12_init_838 rfl (by decide) zc_199 zs_81 (by decide) ⟨by decide, by decide⟩ ?_
  rw [show Int.toNat 5 = 5 from rfl]
  generalize h487 : zset s483 199 5 0 = s486
  have q488 := zq_el h487 q485 (by decide) (by decide) zc_199 zs_81 (show zP81 199 5 0 from (by unfold zP81; omega)) (by decide)
  clear h487 q485
  refine zt_putF (pc' := 842) (x := ((199 : Nat) : Int)) hX dX12_init_839 rfl hN.1 zf_X12_118 (by decide) zc_164 zs_46 (fun q hq => by cases hq; exact ⟨rfl, rfl⟩) (zrf_of rfl) rfl rfl ?_
  generalize h490 : zset s486 164 44 ((199 : Nat) : Int) = s489
  have q491 := zq_ref (m' := 45) (g := 0) h490 q488 rfl (by decide) rfl (by decide) rfl (by decide)
  clear h490 q488
  exact K s489 q491
