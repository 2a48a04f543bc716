noncomputable def yNz (σ s : zSto) (k : Int) : Int := @ite Int ((∀ i : Nat, i < 10 → s 196 i = σ 196 i) ∧ ∀ i : Nat, (i : Int) < k → s 196 (10 + i) = σ 196 i) (Classical.propDecidable _) 1 0
theorem yNz_1 {σ s : zSto} {k : Int} (h : (∀ i : Nat, i < 10 → s 196 i = σ 196 i) ∧ ∀ i : Nat, (i : Int) < k → s 196 (10 + i) = σ 196 i) : yNz σ s k = 1 := by unfold yNz; exact if_pos h
theorem yNz_i {σ s : zSto} {k : Int} (h : yNz σ s k = 1) : (∀ i : Nat, i < 10 → s 196 i = σ 196 i) ∧ ∀ i : Nat, (i : Int) < k → s 196 (10 + i) = σ 196 i := by
  by_cases c : (∀ i : Nat, i < 10 → s 196 i = σ 196 i) ∧ ∀ i : Nat, (i : Int) < k → s 196 (10 + i) = σ 196 i
  · exact c
  · unfold yNz at h
    rw [if_neg c] at h
    exact absurd h (by decide)
theorem yNz_0 (σ : zSto) : yNz σ σ 0 = 1 := yNz_1 ⟨fun _ _ => rfl, fun i h => absurd h (by omega)⟩
theorem yNz_k {σ s s' : zSto} {k j : Nat} {v : Int} (e : zset s k j v = s') (hk : (196 : Nat) ≠ k) (n : Int) : yNz σ s' n = yNz σ s n := by
  have r : s' 196 = s 196 := by rw [← e]; exact funext (fun i => zset_k hk)
  unfold yNz
  rw [r]
theorem yNz_s {σ s s' : zSto} {k v : Int} {j : Nat} (e : zset s 196 j v = s') (hj : j = (10 + k).toNat) (h0 : 0 ≤ k) (h10 : k < 10) (hv : s 196 k.toNat = v) (h : yNz σ s k = 1) : yNz σ s' (k + 1) = 1 := by
  obtain ⟨a, b⟩ := yNz_i h
  refine yNz_1 ⟨fun i hi => ?_, fun i hi => ?_⟩
  · rw [← e, zset_j (by omega)]; exact a i hi
  · by_cases q : (i : Int) = k
    · rw [show 10 + i = j by omega, ← e, zset_s, ← hv, show k.toNat = i by omega]; exact a i (by omega)
    · rw [← e, zset_j (by omega)]; exact b i (by omega)
theorem yNz_e {σ s : zSto} {k : Int} (h : yNz σ s k = 1) (hk : k = 10) : yNz σ s 10 = 1 := hk ▸ h
theorem zQ3_n {i : Nat} (h : 10 ≤ i) : zQ3 196 i = false := by simp [zQ3, zQ2, zQ1]; omega
def yNo (s : zSto) (P : yPl) : Prop := P.nm = (List.range (s 195 1).toNat).map (fun i => yPd (s 196 (10 + i))) ∧ ∀ i : Nat, (i : Int) < s 195 1 → yvu (s 196 (10 + i))
theorem yTe_nam {P : yPl} {s so s' : zSto} (t : yTe P s) (z : (∀ i : Nat, i < 10 → s' 196 i = so 196 i) ∧ ∀ i : Nat, (i : Int) < 10 → s' 196 (10 + i) = so 196 i) (g : ∀ i : Nat, so 196 i = s 196 i) (h1 : s' 195 1 = s 195 0) (hb : 0 ≤ s 195 0 ∧ s 195 0 ≤ 10) : yNo s' P := by
  obtain ⟨t1, t2, t3⟩ := t
  have q : ∀ i : Nat, (i : Int) < s 195 0 → s' 196 (10 + i) = s 196 i := fun i hi => (z.2 i (by omega)).trans (g i)
  refine ⟨?_, fun i hi => ?_⟩
  · rw [← t1, h1]
    show List.map _ (List.range (s 195 0).toNat) = List.map _ (List.range (s 195 0).toNat)
    refine List.map_congr_left (fun i hi => ?_)
    have hi := List.mem_range.mp hi
    show yPd (s 196 i) = yPd (s' 196 (10 + i))
    rw [q i (by omega)]
  · rw [h1] at hi
    rw [q i hi]
    exact t2 i hi
