theorem zR5_k {k j : Nat} (h : zR5 k j = true) : k < 164 ∧ k ≠ 28 ∧ k ≠ 2 := by
  simp only [zR5, Bool.or_eq_true] at h
  rcases h with h | h
  · exact zR4_k h
  · exact zR0_k h
theorem zi_5b : ∀ k j, zR5 k j = true → zPb k j = true := fun _ _ h => zPb_t (zR5_k h)
theorem yFl_k {f : Int → Int} {s : zSto} (h : yTk f s) : yFl (yst s) (s 27 7) (s 27 8) := by
  by_cases c : s 27 7 = 0
  · rw [yst_1 c]
    have := h.2.2.2.2.2 c
    exact ⟨fun _ => by omega, fun x y e => by cases e⟩
  · rw [yst_0 c]
    refine ⟨fun o => absurd o (by show ¬ (0 : Int) = 1; decide), fun x y e => ?_⟩
    injection e with e
    injection e with e1 e2
    omega
theorem yFl_q {f : Int → Int} {s : zSto} {p : yP} (h : yTk f s) (e : yst s = p) : yFl p (s 27 7) (s 27 8) := e ▸ yFl_k h
theorem yFl_eq {p : yP} {a b a' b' : Int} (h : yFl p a b) (e1 : a' = a) (e2 : b' = b) : yFl p a' b' := by rw [e1, e2]; exact h
theorem yFl_u {p : yP} {a b a' b' : Int} (h : yFl p a b) (g : yFl p a' b') : a = a' ∧ b = b' := by
  cases p using yP_cases with
  | ok q =>
    have h1 := h.1 rfl
    have g1 := g.1 rfl
    omega
  | no x y =>
    have h1 := h.2 x y rfl
    have g1 := g.2 x y rfl
    omega
