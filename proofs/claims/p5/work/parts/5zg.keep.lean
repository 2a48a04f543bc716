def zPb (k _j : Nat) : Bool := decide (k < 164) && decide (k ≠ 28) && decide (k ≠ 2)
theorem zPb_f {k j : Nat} (h : zPb k j = false) : 164 ≤ k ∨ k = 28 ∨ k = 2 := by
  unfold zPb at h
  by_cases a : k < 164
  · by_cases b : k = 28
    · exact Or.inr (Or.inl b)
    · by_cases c : k = 2
      · exact Or.inr (Or.inr c)
      · rw [decide_eq_true a, decide_eq_true b, decide_eq_true c] at h; exact absurd h (by decide)
  · exact Or.inl (by omega)
theorem zPb_t {k j : Nat} (h : k < 164 ∧ k ≠ 28 ∧ k ≠ 2) : zPb k j = true := by
  unfold zPb; rw [decide_eq_true h.1, decide_eq_true h.2.1, decide_eq_true h.2.2]; rfl
theorem zOn_be {a b : zSto} (h : zFE a b) : zOn zPb a b := fun k j x => by
  have q := zPb_f x
  exact congrFun (h.1.1 k (by rcases q with q | q | q; exact Or.inl q; exact Or.inr (Or.inl q); exact Or.inr (Or.inr (Or.inl q)))) j
theorem zFB_on {a b : zSto} (h : zOn zPb a b) : zFB a b := fun k q => funext (fun j => h k j (by
  unfold zPb
  rcases q with q | q | q
  · have : 164 ≤ k := q
    rw [decide_eq_false (show ¬ k < 164 by omega)]; rfl
  · subst q; rfl
  · subst q; rfl))
theorem zpr_c : ∀ k, k < 238 → zro k = 6 ∨ zro k = 7 → k < 164 ∧ k ≠ 28 ∧ k ≠ 2 := by decide +kernel
theorem zRp_k {k j : Nat} (h : zRp k j = true) : k < 164 ∧ k ≠ 28 ∧ k ≠ 2 := by
  simp only [zRp, Bool.or_eq_true, beq_iff_eq] at h
  rcases h with h | h
  · exact zpr_c k (zro_lt h (by decide)) (Or.inl h)
  · exact zpr_c k (zro_lt h (by decide)) (Or.inr h)
theorem zR4_k {k j : Nat} (h : zR4 k j = true) : k < 164 ∧ k ≠ 28 ∧ k ≠ 2 := by
  simp only [zR4, zR2, zR1, Bool.or_eq_true, Bool.and_eq_true, beq_iff_eq] at h
  rcases h with (h | h) | h
  · omega
  · exact zRp_k h
  · omega
theorem zR0_k {k j : Nat} (h : zR0 k j = true) : k < 164 ∧ k ≠ 28 ∧ k ≠ 2 := by
  simp only [zR0, Bool.or_eq_true, Bool.and_eq_true, beq_iff_eq] at h
  omega
theorem zi_t7b : ∀ k j, zRt7 k j = true → zPb k j = true := by
  intro k j h
  refine zPb_t ?_
  simp only [zRt7, zR7, Bool.or_eq_true, Bool.and_eq_true, decide_eq_true_eq, beq_iff_eq] at h
  rcases h with ((h | h) | h) | h
  · exact zR4_k h
  · omega
  · exact zR0_k h
  · omega
theorem zi_t17b : ∀ k j, zRt17 k j = true → zPb k j = true := by
  intro k j h
  refine zPb_t ?_
  simp only [zRt17, zR17, Bool.or_eq_true, Bool.and_eq_true, decide_eq_true_eq, beq_iff_eq] at h
  rcases h with ((h | h) | h) | h
  · exact zR4_k h
  · omega
  · exact zR0_k h
  · omega
theorem zi_fb : ∀ k j, zRf k j = true → zPb k j = true := by
  intro k j h
  refine zPb_t ?_
  simp only [zRf, Bool.and_eq_true, beq_iff_eq] at h
  omega
theorem zro_67 {k : Nat} : (k = 7 ∨ k = 8 ∨ k = 9 ∨ k = 10 ∨ k = 11 ∨ k = 12 ∨ k = 17 ∨ k = 0) → zro k ≠ 6 ∧ zro k ≠ 7 := by
  rintro (rfl | rfl | rfl | rfl | rfl | rfl | rfl | rfl) <;> decide +kernel
def yNc (s : zSto) (K : Nat) (P : yPl) : Prop := s K 10 = P.c ∧ s K 11 = P.r ∧ s K 12 = (P.nm.length : Int)
theorem yNc_of {s s' : zSto} {K A B C : Nat} {P : yPl} (h : yPlc s K A B C = P) (h0 : 0 ≤ s K 12) (e : s' K 10 = s K 10 ∧ s' K 11 = s K 11 ∧ s' K 12 = s K 12) : yNc s' K P := by
  refine ⟨?_, ?_, ?_⟩
  · rw [e.1, ← h]; rfl
  · rw [e.2.1, ← h]; rfl
  · rw [e.2.2, ← h, yPlc_len]; omega
