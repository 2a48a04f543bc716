/-! codes that are told but do not stand yet: a stretch of the working codes -/
def zWo (s : zSto) (w : Nat) (c : Int) : Prop := s 200 w = -1 ∨ (0 ≤ s 200 w ∧ s 200 w ≤ s 201 w ∧ s 201 w ≤ c ∧ zCW (fun i => s 202 ((s 200 w).toNat + i)) (s 201 w - s 200 w).toNat)
noncomputable def zo (s : zSto) (w : Nat) (c : Int) : Int := zi (zWo s w c)
noncomputable def zwk (s : zSto) : Int := zi (zWo s 0 (s 164 48) ∧ zWo s 1 (s 164 48))
noncomputable def zcy (s : zSto) (c k : Int) : Int := zi (∀ i, i < k.toNat → s 202 (c.toNat + i) = s 234 i)
noncomputable def zcz (s : zSto) (k : Int) : Int := zi (∀ i, i < k.toNat → s 202 (1600 + i) = s 202 i)
noncomputable def zwf (s : zSto) : Int := zi (zWF s)
theorem zWo_eq {s s' : zSto} {w : Nat} {c : Int} (h0 : s' 200 w = s 200 w) (h1 : s' 201 w = s 201 w) (h2 : ∀ j, j < c.toNat → s' 202 j = s 202 j) (h : zWo s w c) : zWo s' w c := by
  unfold zWo at h ⊢
  rw [h0, h1]
  rcases h with h | ⟨a1, a2, a3, a4⟩
  · exact Or.inl h
  · exact Or.inr ⟨a1, a2, a3, zCW_eq (fun i hi => (h2 _ (by omega)).symm) a4⟩
theorem zWo_up {s : zSto} {w : Nat} {c d : Int} (hd : c ≤ d) (h : zWo s w c) : zWo s w d := by
  rcases h with h | ⟨a1, a2, a3, a4⟩
  · exact Or.inl h
  · exact Or.inr ⟨a1, a2, by omega, a4⟩
theorem zo_eq {s s' : zSto} {w : Nat} {c : Int} (h0 : s' 200 w = s 200 w) (h1 : s' 201 w = s 201 w) (h2 : ∀ j, j < c.toNat → s' 202 j = s 202 j) : zo s w c = 1 → zo s' w c = 1 := zi_m (zWo_eq h0 h1 h2)
theorem zo_wk {s : zSto} (h : zwk s = 1) : zo s 0 (s 164 48) = 1 ∧ zo s 1 (s 164 48) = 1 := ⟨zi_1.2 (zi_1.1 h).1, zi_1.2 (zi_1.1 h).2⟩
theorem zo_m {s s1 : zSto} {j : Nat} {v : Int} (h : zset s 164 j v = s1) (w : Nat) (c : Int) (ho : zo s w c = 1) : zo s1 w c = 1 := by
  subst h
  exact zo_eq (zset_k (by decide)) (zset_k (by decide)) (fun j _ => zset_k (by decide)) ho
theorem zo_on {s s' : zSto} (h : zOn zQ2 s s') (w : Nat) (c : Int) (ho : zo s w c = 1) : zo s' w c = 1 :=
  zo_eq (h 200 w rfl) (h 201 w rfl) (fun j _ => h 202 j rfl) ho
theorem zo_0 {s s1 : zSto} {j : Nat} {v : Int} (h : zset s 200 j v = s1) (w : Nat) (c : Int) (hj : w ≠ j) (ho : zo s w c = 1) : zo s1 w c = 1 := by
  subst h
  exact zo_eq (zset_j hj) (zset_k (by decide)) (fun j _ => zset_k (by decide)) ho
theorem zo_2 {s s1 : zSto} {i : Nat} {v : Int} (h : zset s 202 i v = s1) (w : Nat) (c : Int) (hi : c ≤ (i : Int)) (ho : zo s w c = 1) : zo s1 w c = 1 := by
  subst h
  exact zo_eq (zset_k (by decide)) (zset_k (by decide)) (fun j hj => zset_j (by omega)) ho
theorem zcy_0 (s : zSto) (c : Int) : zcy s c 0 = 1 := zi_1.2 (fun i hi => absurd hi (Nat.not_lt_zero i))
theorem zcy_s {s s1 s2 : zSto} {i : Nat} {v x c k : Int} (h1 : zset s 202 i v = s1) (h2 : zset s1 164 48 x = s2) (hi : (i : Int) = c + k) (hv : s 234 k.toNat = v) (hc : 0 ≤ c) (hk : 0 ≤ k) (h : zcy s c k = 1) : zcy s2 c (k + 1) = 1 := by
  have h := zi_1.1 h
  refine zi_1.2 fun a ha => ?_
  have e2 : ∀ j, s2 202 j = s1 202 j := fun j => by subst h2; exact zset_k (by decide)
  have e4 : ∀ j, s2 234 j = s 234 j := fun j => by subst h2 h1; rw [zset_k (by decide), zset_k (by decide)]
  rw [e2, e4]
  rcases Nat.lt_or_ge a k.toNat with hl | hl
  · rw [← h a hl]
    subst h1
    exact zset_j (by omega)
  · have ea : a = k.toNat := by omega
    subst ea
    rw [hv]
    have ei : c.toNat + k.toNat = i := by omega
    rw [ei]
    subst h1
    exact zset_s
theorem zwk_fin {s s1 : zSto} {x c : Int} {w u : Nat} {k : Int} (hwu : (w = 0 ∧ u = 1) ∨ (w = 1 ∧ u = 0)) (h : zset s 201 w x = s1) (hx : x = s 164 48) (hf : s 200 w = c) (hc : 0 ≤ c) (hq : 0 ≤ s 164 97) (hco : s 164 48 = c + s 164 97) (hk : k = s 164 97) (hy : zcy s c k = 1) (ht : zt s = 1) (ho : zo s u c = 1) : zwk s1 = 1 := by
  rw [hk] at hy
  have e0 : ∀ j, s1 200 j = s 200 j := fun j => by subst h; exact zset_k (by decide)
  have e2 : ∀ j, s1 202 j = s 202 j := fun j => by subst h; exact zset_k (by decide)
  have eco : s1 164 48 = s 164 48 := by subst h; exact zset_k (by decide)
  have ew : s1 201 w = x := by subst h; exact zset_s
  have hne : u ≠ w := by omega
  have eu : s1 201 u = s 201 u := by subst h; exact zset_j hne
  have hy := zi_1.1 hy
  have ht := (zi_1.1 ht).1
  have A : zWo s1 w (s1 164 48) := by
    refine Or.inr ?_
    rw [e0, hf, ew, eco]
    refine ⟨hc, by omega, by omega, ?_⟩
    have en : (x - c).toNat = (s 164 97).toNat := by omega
    rw [en]
    exact zCW_eq (fun i hi => by rw [e2]; exact (hy i hi).symm) ht
  have B : zWo s1 u (s1 164 48) := by
    rw [eco]
    exact zWo_up (by omega) (zWo_eq (e0 u) eu (fun j _ => e2 j) (zi_1.1 ho))
  rcases hwu with ⟨rfl, rfl⟩ | ⟨rfl, rfl⟩
  · exact zi_1.2 ⟨A, B⟩
  · exact zi_1.2 ⟨B, A⟩
theorem zwk_eq {s s' : zSto} (h0 : ∀ w, w < 2 → s' 200 w = s 200 w) (h1 : ∀ w, w < 2 → s' 201 w = s 201 w) (h2 : ∀ j, s' 202 j = s 202 j) (hc : s' 164 48 = s 164 48) : zwk s = 1 → zwk s' = 1 := by
  refine zi_m fun a => ⟨?_, ?_⟩
  · rw [hc]; exact zWo_eq (h0 0 (by decide)) (h1 0 (by decide)) (fun j _ => h2 j) a.1
  · rw [hc]; exact zWo_eq (h0 1 (by decide)) (h1 1 (by decide)) (fun j _ => h2 j) a.2
theorem zwk_E {s s' : zSto} (h0 : ∀ w, w < 2 → s' 200 w = s 200 w) (h1 : ∀ w, w < 2 → s' 201 w = s 201 w) (h2 : ∀ j, s' 202 j = s 202 j) (hc : s' 164 48 = s 164 48) : zwk s' = zwk s := by
  have A := zwk_eq h0 h1 h2 hc
  have B := zwk_eq (s := s') (s' := s) (fun w hw => (h0 w hw).symm) (fun w hw => (h1 w hw).symm) (fun j => (h2 j).symm) hc.symm
  exact congrArg zi (propext ⟨fun a => zi_1.1 (B (zi_1.2 a)), fun a => zi_1.1 (A (zi_1.2 a))⟩)
theorem zwk_q1 {s s' : zSto} (h : zOn zQ1 s s') : zwk s' = zwk s := zwk_E (fun w _ => h 200 w rfl) (fun w _ => h 201 w rfl) (fun j => h 202 j rfl) (h 164 48 rfl)
theorem zwk_q4 {s s' : zSto} (h : zOn zQ4 s s') : zwk s' = zwk s := zwk_E (fun w _ => h 200 w rfl) (fun w _ => h 201 w rfl) (fun j => h 202 j rfl) (h 164 48 rfl)
theorem zwk_q7 {s s' : zSto} (h : zOn zQ7 s s') : zwk s' = zwk s := zwk_E (fun w _ => h 200 w rfl) (fun w _ => h 201 w rfl) (fun j => h 202 j rfl) (h 164 48 rfl)
theorem zwk_m {s s1 : zSto} {j : Nat} {v : Int} (h : zset s 164 j v = s1) (hj : 48 ≠ j) : zwk s1 = zwk s := by
  subst h
  exact zwk_E (fun w _ => zset_k (by decide)) (fun w _ => zset_k (by decide)) (fun j => zset_k (by decide)) (zset_j hj)
theorem zwk_k {s s1 : zSto} {k j : Nat} {v : Int} (h : zset s k j v = s1) (hk : 164 ≠ k ∧ 200 ≠ k ∧ 201 ≠ k ∧ 202 ≠ k) : zwk s1 = zwk s := by
  subst h
  exact zwk_E (fun w _ => zset_k hk.2.1) (fun w _ => zset_k hk.2.2.1) (fun j => zset_k hk.2.2.2) (zset_k hk.1)
theorem zwk_0 {s : zSto} (h0 : s 200 0 = -1) (h1 : s 200 1 = -1) : zwk s = 1 := zi_1.2 ⟨Or.inl h0, Or.inl h1⟩
/-! the pane stands: the working places are copied -/
def zWS (σ s : zSto) : Prop := (∀ j, j < 3 → s 194 j = σ 194 j) ∧ (∀ j, j < 3 → s 199 j = σ 199 j) ∧ (∀ j, j < 2 → s 200 j = σ 200 j) ∧ (∀ j, j < 2 → s 201 j = σ 201 j) ∧ (∀ j, j < 1600 → s 202 j = σ 202 j) ∧ s 164 48 = σ 164 48 ∧ s 164 54 = σ 164 54
noncomputable def zwz (σ s : zSto) : Int := zi (zWS σ s)
theorem zwz_rf (σ : zSto) : zwz σ σ = 1 := zi_1.2 ⟨fun _ _ => rfl, fun _ _ => rfl, fun _ _ => rfl, fun _ _ => rfl, fun _ _ => rfl, rfl, rfl⟩
theorem zwz_set {σ s s1 : zSto} {k j : Nat} {v : Int} (h : zset s k j v = s1) (a : zwz σ s = 1) (hc : (k = 194 → 3 ≤ j) ∧ (k = 199 → 3 ≤ j) ∧ (k = 200 → 2 ≤ j) ∧ (k = 201 → 2 ≤ j) ∧ (k = 202 → 1600 ≤ j) ∧ (k = 164 → j ≠ 48 ∧ j ≠ 54)) : zwz σ s1 = 1 := by
  obtain ⟨a1, a2, a3, a4, a5, a6, a7⟩ := zi_1.1 a
  obtain ⟨c1, c2, c3, c4, c5, c6⟩ := hc
  have key : ∀ K J, (k = K → j ≠ J) → s1 K J = s K J := by
    intro K J hKJ
    subst h
    by_cases e : K = k
    · subst e
      exact zset_j (hKJ rfl).symm
    · exact zset_k e
  refine zi_1.2 ⟨fun J hJ => ?_, fun J hJ => ?_, fun J hJ => ?_, fun J hJ => ?_, fun J hJ => ?_, ?_, ?_⟩
  · rw [key 194 J (fun e => by have := c1 e; omega)]; exact a1 J hJ
  · rw [key 199 J (fun e => by have := c2 e; omega)]; exact a2 J hJ
  · rw [key 200 J (fun e => by have := c3 e; omega)]; exact a3 J hJ
  · rw [key 201 J (fun e => by have := c4 e; omega)]; exact a4 J hJ
  · rw [key 202 J (fun e => by have := c5 e; omega)]; exact a5 J hJ
  · rw [key 164 48 (fun e => (c6 e).1)]; exact a6
  · rw [key 164 54 (fun e => (c6 e).2)]; exact a7
theorem zwz_f {σ s : zSto} (a : zwz σ s = 1) : s 164 48 = σ 164 48 ∧ s 164 54 = σ 164 54 ∧ s 194 0 = σ 194 0 ∧ s 194 1 = σ 194 1 ∧ s 200 0 = σ 200 0 ∧ s 200 1 = σ 200 1 ∧ s 201 0 = σ 201 0 ∧ s 201 1 = σ 201 1 := by
  obtain ⟨a1, a2, a3, a4, a5, a6, a7⟩ := zi_1.1 a
  exact ⟨a6, a7, a1 0 (by decide), a1 1 (by decide), a3 0 (by decide), a3 1 (by decide), a4 0 (by decide), a4 1 (by decide)⟩
theorem zwz_st {σ s : zSto} {k v : Int} (a : zwz σ s = 1) (hp : 0 ≤ σ 199 0 ∧ σ 199 0 ≤ 100 ∧ 0 ≤ σ 199 1 ∧ σ 199 1 ≤ 100 ∧ 0 ≤ σ 199 2 ∧ σ 199 2 ≤ 100) (hv : s 199 k.toNat = v) (h0 : 0 ≤ k) (h1 : k ≤ 2) : 0 ≤ v ∧ v ≤ 100 := by
  obtain ⟨a1, a2, -⟩ := zi_1.1 a
  rw [a2 _ (by omega)] at hv
  rcases (show k = 0 ∨ k = 1 ∨ k = 2 by omega) with rfl | rfl | rfl
  · have hv : σ 199 0 = v := hv
    omega
  · have hv : σ 199 1 = v := hv
    omega
  · have hv : σ 199 2 = v := hv
    omega
theorem zwz_sd {σ s : zSto} {k v : Int} (a : zwz σ s = 1) (hp : 2 ≤ σ 194 0 ∧ σ 194 0 ≤ 6 ∧ 2 ≤ σ 194 1 ∧ σ 194 1 ≤ 6) (hv : s 194 k.toNat = v) (h0 : 0 ≤ k) (h1 : k ≤ 2) : k ≤ 1 → 2 ≤ v ∧ v ≤ 6 := by
  intro h
  obtain ⟨a1, -⟩ := zi_1.1 a
  rw [a1 _ (by omega)] at hv
  rcases (show k = 0 ∨ k = 1 by omega) with rfl | rfl
  · have hv : σ 194 0 = v := hv
    omega
  · have hv : σ 194 1 = v := hv
    omega
theorem zc2 {K d e : Nat} {s s1 : zSto} {i : Nat} {k v : Int} (h : zset s K i v = s1) (hi : (i : Int) = (d : Int) + k) (he : e = d + 1) (hv : s K k.toNat = v) (hk : 0 ≤ k) (hd : 2 ≤ d) : (k = 0 → s1 K d = s1 K 0) ∧ (k ≠ 0 → s1 K d = s K d) ∧ (k = 1 → s1 K e = s1 K 1) ∧ (k ≠ 1 → s1 K e = s K e) ∧ s1 K 0 = s K 0 ∧ s1 K 1 = s K 1 := by
  have key : ∀ J, J ≠ i → s1 K J = s K J := fun J hJ => by subst h; exact zset_j hJ
  have kat : s1 K i = v := by subst h; exact zset_s
  refine ⟨fun e0 => ?_, fun e0 => key d (by omega), fun e0 => ?_, fun e0 => key e (by omega), key 0 (by omega), key 1 (by omega)⟩
  · have : i = d := by omega
    subst this e0
    rw [kat, key 0 (by omega)]
    exact hv.symm
  · have : i = e := by omega
    subst this e0
    rw [kat, key 1 (by omega)]
    exact hv.symm
theorem zcz_0 (s : zSto) : zcz s 0 = 1 := zi_1.2 (fun i hi => absurd hi (Nat.not_lt_zero i))
theorem zcz_s {s s1 : zSto} {i : Nat} {k v : Int} (h : zset s 202 i v = s1) (hi : (i : Int) = 1600 + k) (hv : s 202 k.toNat = v) (hk : 0 ≤ k) (hk2 : k < 1600) (hz : zcz s k = 1) : zcz s1 (k + 1) = 1 := by
  have hz := zi_1.1 hz
  refine zi_1.2 fun a ha => ?_
  have key : ∀ J, J ≠ i → s1 202 J = s 202 J := fun J hJ => by subst h; exact zset_j hJ
  rcases Nat.lt_or_ge a k.toNat with hl | hl
  · rw [key _ (by omega), key _ (by omega)]; exact hz a hl
  · have ea : a = k.toNat := by omega
    subst ea
    rw [key k.toNat (by omega), hv]
    have ei : 1600 + k.toNat = i := by omega
    rw [ei]
    subst h
    exact zset_s
theorem zwf_st {σ s : zSto} {k : Int} (hwk : zwk σ = 1) (a : zwz σ s = 1) (hz : zcz s k = 1) (hk : k = s 164 48) (e1 : s 200 2 = s 200 0) (e2 : s 200 3 = s 200 1) (e3 : s 201 2 = s 201 0) (e4 : s 201 3 = s 201 1) (hs : 2 ≤ s 194 3 ∧ 2 ≤ s 194 4) (hco : s 164 48 ≤ 1600) : zwf s = 1 := by
  obtain ⟨a1, a2, a3, a4, a5, a6, a7⟩ := zi_1.1 a
  have hz := zi_1.1 hz
  obtain ⟨b0, b1⟩ := zi_1.1 hwk
  have one : ∀ w, w < 2 → zWo σ w (σ 164 48) → s 200 (2 + w) = s 200 w → s 201 (2 + w) = s 201 w → zWF1 s w := by
    intro w hw b f0 f1
    unfold zWF1
    rw [f0, f1, a3 w hw, a4 w hw]
    rcases b with b | ⟨c1, c2, c3, c4⟩
    · exact Or.inl b
    · refine Or.inr ⟨c1, c2, by omega, zCW_eq (fun i hi => ?_) c4⟩
      have e : 1600 + (σ 200 w).toNat + i = 1600 + ((σ 200 w).toNat + i) := by omega
      show σ 202 ((σ 200 w).toNat + i) = s 202 (1600 + (σ 200 w).toNat + i)
      rw [e, hz _ (by omega), a5 _ (by omega)]
  refine zi_1.2 ⟨one 0 (by decide) b0 e1 e3, one 1 (by decide) b1 e2 e4, fun _ => ?_⟩
  have : 2 * 2 ≤ s 194 3 * s 194 4 := Int.mul_le_mul hs.1 hs.2 (by decide) (by omega)
  omega
theorem zwf_k {s s1 : zSto} {k j : Nat} {v : Int} (h : zset s k j v = s1) (hk : (k ≠ 164 ∨ j ≠ 50) ∧ k ≠ 200 ∧ k ≠ 201 ∧ k ≠ 202 ∧ k ≠ 194) (a : zwf s = 1) : zwf s1 = 1 := by
  obtain ⟨k0, k1, k2, k3, k4⟩ := hk
  refine zi_1.2 (zWF_ko (zi_1.1 a) ⟨fun i _ => ?_, fun i _ => ?_, fun i _ => ?_, fun i _ => ?_, ?_⟩)
  · subst h; exact zset_k k1.symm
  · subst h; exact zset_k k2.symm
  · subst h; exact zset_k k3.symm
  · subst h; exact zset_k k4.symm
  · subst h
    by_cases e : k = 164
    · exact zset_j (k0.resolve_left (fun h => h e)).symm
    · exact zset_k (fun x => e x.symm)
theorem zGN_cf {σ s : zSto} {j : Nat} {v : Int} (h : zGN σ s) (hj : j < 2) : zGN σ (zset s 200 j v) := by
  refine ⟨zFN_set h.1 zc_200 (by decide) zk_82, ⟨⟨fun i hi => ?_, fun i hi => ?_, fun i hi => ?_, fun i hi => ?_, ?_, ?_, fun i hi => ?_⟩, ?_⟩⟩
  · rw [zset_j (by omega)]; exact h.2.1.1 i hi
  · rw [zset_k (by decide)]; exact h.2.1.2.1 i hi
  · rw [zset_k (by decide)]; exact h.2.1.2.2.1 i hi
  · rw [zset_k (by decide)]; exact h.2.1.2.2.2.1 i hi
  · rw [zset_k (by decide)]; exact h.2.1.2.2.2.2.1
  · rw [zset_k (by decide)]; exact h.2.1.2.2.2.2.2.1
  · rw [zset_k (by decide)]; exact h.2.1.2.2.2.2.2.2 i hi
  · rw [zset_k (by decide)]; exact h.2.2
theorem zGN_mn {σ s : zSto} {j : Nat} {v : Int} (h : zGN σ s) (hj : j < 1) : zGN σ (zset s 195 j v) := by
  refine ⟨zFN_set h.1 zc_195 (by decide) zk_77, ⟨⟨fun i hi => ?_, fun i hi => ?_, fun i hi => ?_, fun i hi => ?_, ?_, ?_, fun i hi => ?_⟩, ?_⟩⟩
  · rw [zset_k (by decide)]; exact h.2.1.1 i hi
  · rw [zset_k (by decide)]; exact h.2.1.2.1 i hi
  · rw [zset_k (by decide)]; exact h.2.1.2.2.1 i hi
  · rw [zset_k (by decide)]; exact h.2.1.2.2.2.1 i hi
  · rw [zset_k (by decide)]; exact h.2.1.2.2.2.2.1
  · rw [zset_j (by omega)]; exact h.2.1.2.2.2.2.2.1
  · rw [zset_k (by decide)]; exact h.2.1.2.2.2.2.2.2 i hi
  · rw [zset_k (by decide)]; exact h.2.2
theorem zwf_N {σ s : zSto} (h : zWF σ) (hk : zGN σ s) : zwf s = 1 ∧ s 164 54 = σ 164 54 := ⟨zi_1.2 (zWF_N h hk), hk.2.2⟩
