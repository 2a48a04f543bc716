def yNr (s : zSto) (P : yPl) : Prop := s 194 3 = P.c ∧ s 194 4 = P.r ∧ s 195 1 = (P.nm.length : Int) ∧ s 164 50 = 1 ∧ (2 ≤ s 194 3 ∧ 2 ≤ s 194 4)
theorem yTe_num {P : yPl} {s s' : zSto} (t : yTe P s) (h : s' 194 3 = s 194 0 ∧ s' 194 4 = s 194 1) (h1 : s' 195 1 = s 195 0) (hp : s' 164 50 = 1) (hs : 2 ≤ s 194 0 ∧ s 194 0 ≤ 6 ∧ 2 ≤ s 194 1 ∧ s 194 1 ≤ 6) (h0 : 0 ≤ s 195 0) : yNr s' P := by
  have e := t.1
  refine ⟨?_, ?_, ?_, hp, by omega⟩
  · rw [← e]; exact h.1
  · rw [← e]; exact h.2
  · rw [← e, yPlr_nl]; omega
def yFl (p : yP) (a b : Int) : Prop := (yPo p = 1 → a = 0 ∧ b = -1) ∧ ∀ x y, p = .no x y → a = x ∧ b = y
theorem yflt {f : Int → Int} {s : zSto} {a b : Int} (h : yTq f s) (ea : a = s 164 5) (eb : b = s 164 6) : yFl (yqs f s) a b := by
  by_cases c : s 164 5 = 0
  · rw [yqs_1 c]
    have := (h.2.2.2 c).2.2.1
    exact ⟨fun _ => by omega, fun x y e => by cases e⟩
  · rw [yqs_0 c]
    refine ⟨fun o => absurd o (by show ¬ (0 : Int) = 1; decide), fun x y e => ?_⟩
    injection e with e
    injection e with e1 e2
    omega
