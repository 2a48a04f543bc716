theorem yPi_no {f : Int → Int} {p : yP} (o : yPo p = 0) : yPi f p = -1 := by
  cases p using yP_cases with
  | ok q => exact absurd o (by show ¬ (1 : Int) = 0; decide)
  | no a b => rfl
theorem yTl_0 {cb rl : Int} {f : Int → Int} {σ : zSto} {p : yP} (o : yPo p = 1) (h97 : σ 164 97 = 0) (h99 : σ 164 99 = 0) (h100 : σ 164 100 = 0) (h101 : σ 164 101 = 0) (h51 : σ 164 51 = rl) (hcb : 0 ≤ cb ∧ cb ≤ yPq p) : yTl cb rl f (4, [], p) 4 0 σ p := by
  have n0 : (σ 164 99).toNat = 0 := by omega
  unfold yTl
  rw [n0]
  exact ⟨o, yJ_rf _, by omega, ⟨fun i h => absurd h (by omega), fun i h => absurd h (by omega)⟩, by rw [h100]; rfl, by omega, h51, h101, by omega, Int.le_refl _⟩
theorem yTl_bd {cb rl : Int} {f : Int → Int} {M0 : Nat × List Nat × yP} {m : Nat} {s : zSto} {p : yP} (h : yTl cb rl f M0 m 0 s p) : ybd cb s p := fun _ => by have := h.2.2.2.2.2.2.2.2.1; omega
theorem yTl_bl {cb rl : Int} {f : Int → Int} {M0 : Nat × List Nat × yP} {m : Nat} {e : Int} {s : zSto} {p : yP} (h : yTl cb rl f M0 m e s p) : ybL s := by
  unfold ybL
  by_cases c : s 164 99 ≤ 0
  · exact Or.inl c
  · have := h.2.2.2.1.1 (s 164 99 - 1).toNat (by omega)
    exact Or.inr (by omega)
theorem yTl_re {cb rl : Int} {f : Int → Int} {M0 : Nat × List Nat × yP} {m : Nat} {e : Int} {s : zSto} {p : yP} (h : yTl cb rl f M0 m e s p) : yTl cb rl f (m, ysk (s 235) 0 (s 164 99).toNat, p) m e s p :=
  ⟨h.1, yJ_rf _, h.2.2.1, h.2.2.2.1, h.2.2.2.2.1, h.2.2.2.2.2.1, h.2.2.2.2.2.2.1, h.2.2.2.2.2.2.2.1, h.2.2.2.2.2.2.2.2.1, Int.le_refl _⟩
theorem yTl_tr {cb rl : Int} {f : Int → Int} {M0 : Nat × List Nat × yP} {m n : Nat} {e e' : Int} {s s1 : zSto} {p p1 : yP} (h : yTl cb rl f M0 m e s p) (g : yTl cb rl f (m, ysk (s 235) 0 (s 164 99).toNat, p) n e' s1 p1) : yTl cb rl f M0 n e' s1 p1 :=
  ⟨g.1, yJ_tr h.2.1 g.2.1, g.2.2.1, g.2.2.2.1, g.2.2.2.2.1, g.2.2.2.2.2.1, g.2.2.2.2.2.2.1, g.2.2.2.2.2.2.2.1, g.2.2.2.2.2.2.2.2.1, Int.le_trans h.2.2.2.2.2.2.2.2.2 g.2.2.2.2.2.2.2.2.2⟩
def yTd (cb rl : Int) (f : Int → Int) (M0 : Nat × List Nat × yP) (s : zSto) (p : yP) : Prop := yJ rl f M0 (5, [], p) ∧ yPi f p ≠ 22 ∧ yPi f p ≠ 21 ∧ (yPo p = 1 → 0 ≤ s 164 99 ∧ 0 ≤ cb ∧ cb + s 164 97 + s 164 99 ≤ yPq p)
theorem yTd_f {cb rl : Int} {f : Int → Int} {M0 : Nat × List Nat × yP} {s : zSto} {p : yP} (h : yFt rl f M0 p) : yTd cb rl f M0 s p := by
  have i := yPi_no (f := f) h.1
  exact ⟨yJ_tr h.2 (yJ_any h.1), by omega, by omega, fun o => absurd o (by rw [h.1]; decide)⟩
theorem yTd_b {cb rl : Int} {f : Int → Int} {M0 : Nat × List Nat × yP} {s s1 : zSto} {p p1 : yP} {n : Nat} {l : List Nat} (h : yTl cb rl f M0 4 0 s p) (J : yJ rl f (4, ysk (s 235) 0 (s 164 99).toNat, p) (n, l, p1)) (o : yPo p1 = 0) : yTd cb rl f M0 s1 p1 := by
  have i := yPi_no (f := f) o
  exact ⟨yJ_tr h.2.1 (yJ_tr J (yJ_any o)), by omega, by omega, fun x => absurd x (by rw [o]; decide)⟩
theorem yTd_g {cb rl : Int} {f : Int → Int} {M0 : Nat × List Nat × yP} {s s1 : zSto} {p p1 : yP} (h : yTl cb rl f M0 5 0 s p) (g : yJ rl f (5, ysk (s 235) 0 (s 164 99).toNat, p) (5, [], p1) ∧ yPi f p1 ≠ 22 ∧ yPi f p1 ≠ 21 ∧ (yPo p1 = 1 → yTl cb rl f (5, ysk (s 235) 0 (s 164 99).toNat, p) 5 0 s1 p1)) : yTd cb rl f M0 s1 p1 :=
  ⟨yJ_tr h.2.1 g.1, g.2.1, g.2.2.1, fun o => by have x := g.2.2.2 o; have y := x.2.2.2.2.2.2.2.2.1; have z := x.2.2.1; omega⟩
theorem yTd_d {cb rl : Int} {f : Int → Int} {M0 : Nat × List Nat × yP} {s s' : zSto} {p : yP} (h : yTd cb rl f M0 s p) (h9 : 1 ≤ s 164 99) (h' : s' 164 97 = s 164 97 + 1 ∧ s' 164 99 = s 164 99 - 1) : yTd cb rl f M0 s' p :=
  ⟨h.1, h.2.1, h.2.2.1, fun o => by have := h.2.2.2 o; omega⟩
theorem yTd_n {cb rl : Int} {f : Int → Int} {M0 : Nat × List Nat × yP} {s : zSto} {p : yP} (h : yTd cb rl f M0 s p) (hT : yTq f s) (hE : yqs f s = p) (h0 : s 164 5 = 0) : 0 ≤ s 164 99 ∧ s 164 97 + s 164 99 ≤ 1600 := by
  have o := (yHb hT hE).1 h0
  have x := (yMq hT hE).1 o
  have y := h.2.2.2 o
  omega
def yTp (cb rl : Int) (f : Int → Int) (M0 : Nat × List Nat × yP) (s : zSto) (p : yP) (x : Int) : Prop := (x = 1 ∧ yTl cb rl f M0 4 0 s p) ∨ (x = 1 ∧ yFt rl f M0 p) ∨ (x = 0 ∧ yTd cb rl f M0 s p)
theorem yTp_c {cb rl : Int} {f : Int → Int} {M0 : Nat × List Nat × yP} {s : zSto} {p : yP} {x : Int} (h : yTp cb rl f M0 s p x) : (x = 1 ∧ yTl cb rl f M0 4 0 s p) ∨ (x = 1 ∧ yFt rl f M0 p) ∨ (x = 0 ∧ yTd cb rl f M0 s p) := h
theorem yGt_c {cb rl : Int} {f : Int → Int} {M0 : Nat × List Nat × yP} {s : zSto} {p : yP} {r : Int} (h : yGt cb rl f M0 s p r) : (r = 1 ∧ yTl cb rl f M0 4 0 s p ∧ yPq M0.2.2 + 1 ≤ yPq p) ∨ (r = 0 ∧ yJ rl f M0 (5, [], p) ∧ yPi f p ≠ 22 ∧ yPi f p ≠ 21 ∧ (yPo p = 1 → yTl cb rl f M0 5 0 s p)) := h
def yIo (a b c : Prop) : Prop := a ∨ b ∨ c
