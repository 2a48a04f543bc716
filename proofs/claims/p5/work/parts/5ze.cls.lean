def zAl (_k _j : Nat) : Bool := true
theorem zOn_al {a b : zSto} : zOn zAl a b := fun _ _ h => absurd (show true = false from h) (by decide)
def zRf (k j : Nat) : Bool := k == 0 && (j == 15 || j == 16)
theorem yst_po {s : zSto} : (s 27 7 = 0 → yPo (yst s) = 1) ∧ (s 27 7 ≠ 0 → yPo (yst s) = 0) := by
  constructor
  · intro h; rw [yst_1 h]; rfl
  · intro h; rw [yst_0 h]; rfl
