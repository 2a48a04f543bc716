theorem yFj_k {f : Int → Int} {s : zSto} (h : yTk f s) : yFl (yst s) (s 27 7) (s 27 8) := by
  by_cases c : s 27 7 = 0
  · rw [yst_1 c]
    have := h.2.2.2.2.2 c
    exact ⟨fun _ => by omega, fun x y e => by cases e⟩
  · rw [yst_0 c]
    refine ⟨fun o => absurd o (by show ¬ (0 : Int) = 1; decide), fun x y e => ?_⟩
    injection e with e
    injection e with e1 e2
    omega
theorem yFj_q {f : Int → Int} {s : zSto} {p : yP} (h : yTk f s) (e : yst s = p) : yFl p (s 27 7) (s 27 8) := e ▸ yFj_k h
theorem yFj_eq {p : yP} {a b a' b' : Int} (h : yFl p a b) (e1 : a' = a) (e2 : b' = b) : yFl p a' b' := by rw [e1, e2]; exact h
def yFa (a b w : Int) : Int := if w = 0 then a else if w = 1 then b else -1
theorem yFa_0 {a b w : Int} (h : w = 0) : a = yFa a b w := (if_pos h).symm
theorem yFa_1 {a b w : Int} (h : w = 1) : b = yFa a b w := by unfold yFa; rw [if_neg (by omega), if_pos h]
theorem yFa_n {a b w : Int} (h0 : ¬ w = 0) (h : ¬ w = 1) : -1 = yFa a b w := by unfold yFa; rw [if_neg h0, if_neg h]
