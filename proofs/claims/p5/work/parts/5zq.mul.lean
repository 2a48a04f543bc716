def zF3 (k j : Nat) : Bool := (k == 3 && j == 1) || k == 4
theorem ymul_c {a b c d : Int} (h : a = c) (g : b = d) : a * b = c * d := by rw [h, g]
theorem ymul36 {a b : Int} (h : 0 ≤ a ∧ a ≤ 6) (g : 0 ≤ b ∧ b ≤ 6) : 0 ≤ a * b ∧ a * b ≤ 36 := by
  rcases (show a = 0 ∨ a = 1 ∨ a = 2 ∨ a = 3 ∨ a = 4 ∨ a = 5 ∨ a = 6 by omega) with e | e | e | e | e | e | e <;> subst e <;> omega
