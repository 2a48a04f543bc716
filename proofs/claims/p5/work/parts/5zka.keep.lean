def zPq (k j : Nat) : Bool := zPb k j && !(decide (7 ≤ k ∧ k ≤ 12)) && !(decide (17 ≤ k ∧ k ≤ 22))
theorem zPq_t {k j : Nat} (h : k < 164 ∧ k ≠ 28 ∧ k ≠ 2) (a : ¬ (7 ≤ k ∧ k ≤ 12)) (b : ¬ (17 ≤ k ∧ k ≤ 22)) : zPq k j = true := by
  unfold zPq
  rw [zPb_t h, decide_eq_false a, decide_eq_false b]; rfl
theorem zOn_qb {a b : zSto} (h : zOn zPq a b) : zOn zPb a b := fun k j x => h k j (by unfold zPq; rw [x]; rfl)
theorem zpr_q : ∀ k, k < 238 → zro k = 6 ∨ zro k = 7 → k < 164 ∧ k ≠ 28 ∧ k ≠ 2 ∧ ¬ (7 ≤ k ∧ k ≤ 12) ∧ ¬ (17 ≤ k ∧ k ≤ 22) := by decide +kernel
theorem zRp_q {k j : Nat} (h : zRp k j = true) : k < 164 ∧ k ≠ 28 ∧ k ≠ 2 ∧ ¬ (7 ≤ k ∧ k ≤ 12) ∧ ¬ (17 ≤ k ∧ k ≤ 22) := by
  simp only [zRp, Bool.or_eq_true, beq_iff_eq] at h
  rcases h with h | h
  · exact zpr_q k (zro_lt h (by decide)) (Or.inl h)
  · exact zpr_q k (zro_lt h (by decide)) (Or.inr h)
theorem zR4_q {k j : Nat} (h : zR4 k j = true) : k < 164 ∧ k ≠ 28 ∧ k ≠ 2 ∧ ¬ (7 ≤ k ∧ k ≤ 12) ∧ ¬ (17 ≤ k ∧ k ≤ 22) := by
  simp only [zR4, zR2, zR1, Bool.or_eq_true, Bool.and_eq_true, beq_iff_eq] at h
  rcases h with (h | h) | h
  · omega
  · exact zRp_q h
  · omega
theorem zR0_q {k j : Nat} (h : zR0 k j = true) : k < 164 ∧ k ≠ 28 ∧ k ≠ 2 ∧ ¬ (7 ≤ k ∧ k ≤ 12) ∧ ¬ (17 ≤ k ∧ k ≤ 22) := by
  simp only [zR0, Bool.or_eq_true, Bool.and_eq_true, beq_iff_eq] at h
  omega
theorem zi_5q : ∀ k j, zR5 k j = true → zPq k j = true := by
  intro k j h
  simp only [zR5, Bool.or_eq_true] at h
  rcases h with h | h
  · have q := zR4_q h; exact zPq_t ⟨q.1, q.2.1, q.2.2.1⟩ q.2.2.2.1 q.2.2.2.2
  · have q := zR0_q h; exact zPq_t ⟨q.1, q.2.1, q.2.2.1⟩ q.2.2.2.1 q.2.2.2.2
theorem zi_fq : ∀ k j, zRf k j = true → zPq k j = true := by
  intro k j h
  simp only [zRf, Bool.and_eq_true, beq_iff_eq] at h
  exact zPq_t (by omega) (by omega) (by omega)
theorem zPq_f {k j : Nat} (h : zPq k j = false) : 164 ≤ k ∨ k = 28 ∨ k = 2 ∨ (5 ≤ k ∧ k ≤ 26) := by
  by_cases a : 7 ≤ k ∧ k ≤ 12
  · omega
  · by_cases b : 17 ≤ k ∧ k ≤ 22
    · omega
    · by_cases c : k < 164 ∧ k ≠ 28 ∧ k ≠ 2
      · rw [zPq_t c a b] at h; exact absurd h (by decide)
      · omega
theorem zOn_qe {a b : zSto} (h : zFE a b) : zOn zPq a b := fun k j x => congrFun (h.1.1 k (by
  have q := zPq_f x
  rcases q with q | q | q | q
  · exact Or.inl q
  · exact Or.inr (Or.inl q)
  · exact Or.inr (Or.inr (Or.inl q))
  · exact Or.inr (Or.inr (Or.inr q)))) j
