def yEs (cb rl : Int) (f : Int → Int) (k : List Nat) (M0 : Nat × List Nat × yP) (b s : zSto) (p : yP) : Prop :=
  yJ rl f M0 (2, k, p) ∧ yns f p ∧ (yPo p = 1 → yLm cb rl f k M0 b 2 s p ∧ ystk k s = k ∧ yPq M0.2.2 + 1 ≤ yPq p)
def yLs (cb rl : Int) (f : Int → Int) (k : List Nat) (M0 : Nat × List Nat × yP) (b s : zSto) (p : yP) (x : Int) : Prop := (x = 1 ∧ yLm cb rl f k M0 b 1 s p) ∨ (x = 0 ∧ yEs cb rl f k M0 b s p)
theorem yLs_c {cb : Int} {rl : Int} {f : Int → Int} {k : List Nat} {M0 : Nat × List Nat × yP} {b s : zSto} {p : yP} {x : Int} (h : yLs cb rl f k M0 b s p x) : (x = 1 ∧ yLm cb rl f k M0 b 1 s p) ∨ (x = 0 ∧ yEs cb rl f k M0 b s p) := h
theorem yLs_0 {cb : Int} {rl : Int} {f : Int → Int} {k : List Nat} {σ b : zSto} {p : yP} {u : Int} (e : zset σ 164 101 u = b) (hu : u = σ 164 99) (h9 : 0 ≤ σ 164 99 ∧ σ 164 99 ≤ 1700) (hk : (ydep k : Int) = σ 164 100 ∧ σ 164 100 ≤ 6 ∧ σ 164 51 = rl) (hb : ybd cb σ p) (o : yPo p = 1) : yLm cb rl f k (1, k, p) b 1 b p := by
  have a : ∀ j, j ≠ 101 → b 164 j = σ 164 j := fun j h => by rw [← e, zset_j h]
  have b1 : b 164 101 = σ 164 99 := by rw [← e, ← hu]; exact zset_s
  have a9 := a 99 (by decide)
  have a0 := a 100 (by decide)
  have a5 := a 51 (by decide)
  have a7 := a 97 (by decide)
  have n0 : (b 164 99 - b 164 101).toNat = 0 := by omega
  have st : ystk k b = k := by unfold ystk; rw [n0]; rfl
  refine ⟨o, by rw [st]; exact yJ_rf _, ⟨⟨by omega, ?_, ?_, by omega⟩, fun x => by have := hb x; omega, by omega⟩, rfl, yKp_rf, Int.le_refl _⟩
  · rw [n0]; exact ⟨fun i h1 h2 => absurd h2 (by omega), fun i h1 h2 => absurd h2 (by omega)⟩
  · rw [n0]
    show ((ydep k : Nat) : Int) = _
    omega
theorem ybl_0 {σ b : zSto} {u : Int} (e : zset σ 164 101 u = b) (hu : u = σ 164 99) (h : σ 164 99 ≤ 0 ∨ ¬ (1 ≤ σ 235 (σ 164 99 - 1).toNat ∧ σ 235 (σ 164 99 - 1).toNat ≤ 4)) : ybl b := by
  have b1 : b 164 101 = σ 164 99 := by rw [← e, ← hu]; exact zset_s
  unfold ybl
  rw [b1, ← e, zset_k (by decide)]
  exact h
theorem ybl_k {b s : zSto} (h : ybl b) (e : s 164 101 = b 164 101) (kp : yKp (b 164 101) b s) (h0 : 0 ≤ b 164 101) : ybl s := by
  unfold ybl at *
  rw [e]
  by_cases c : b 164 101 ≤ 0
  · exact Or.inl c
  · rw [kp _ (by omega)]; exact h
theorem yKp_tr {a c : Int} {s t u : zSto} (h : yKp a s t) (g : yKp c t u) (e : c = a) : yKp a s u := fun j hj => (g j (by omega)).trans (h j hj)
abbrev yPd1 (cb rl : Int) (k : List Nat) (s s' : zSto) (p p' : yP) : Prop := yLv cb rl k s' p' ∧ ynf s' ∧ s' 164 101 = s 164 101 ∧ yKp (s 164 101) s s' ∧ yPq p + 1 ≤ yPq p'
theorem yLs_f {cb : Int} {rl : Int} {f : Int → Int} {k : List Nat} {M0 : Nat × List Nat × yP} {b s s' : zSto} {p p' : yP} (a : yLm cb rl f k M0 b 1 s p) (z : yJ rl f (1, ystk k s, p) (2, ystk k s', p')) (o : yPo p' = 0) : yEs cb rl f k M0 b s' p' :=
  ⟨yJ_tr a.2.1 (yJ_tr z (yJ_any o)), yns_f o, fun x => absurd x (by omega)⟩
theorem yLs_m {cb : Int} {rl : Int} {f : Int → Int} {k : List Nat} {M0 : Nat × List Nat × yP} {b s s' s'' : zSto} {p p' p'' : yP} {m : Nat} (a : yLm cb rl f k M0 b 1 s p) (z : yJ rl f (1, ystk k s, p) (2, ystk k s', p')) (z1 : yPd1 cb rl k s s' p p') (g : yLm cb rl f k (2, ystk k s', p') s' m s'' p'') : yLm cb rl f k M0 b m s'' p'' ∧ yPq p + 1 ≤ yPq p'' := by
  obtain ⟨a1, a2, a3, a4, a5, a6⟩ := a
  obtain ⟨g1, g2, g3, g4, g5, g6⟩ := g
  obtain ⟨y1, y2, y3, y4, y5⟩ := z1
  have g6 : yPq p' ≤ yPq p'' := g6
  exact ⟨⟨g1, yJ_tr a2 (yJ_tr z g2), g3, by omega, yKp_tr (yKp_tr a5 y4 a4) g5 (by omega), by omega⟩, by omega⟩
theorem yLs_h {cb : Int} {rl : Int} {f : Int → Int} {k : List Nat} {M0 : Nat × List Nat × yP} {b s s' s'' : zSto} {p p' p'' : yP} (a : yLm cb rl f k M0 b 1 s p) (z : yJ rl f (1, ystk k s, p) (2, ystk k s', p')) (z1 : yPd1 cb rl k s s' p p')
    (g : yJ rl f (2, ystk k s', p') (2, k, p'') ∧ yns f p'' ∧ (yPo p'' = 1 → yLm cb rl f k (2, ystk k s', p') s' 2 s'' p'' ∧ ystk k s'' = k)) : yEs cb rl f k M0 b s'' p'' := by
  refine ⟨yJ_tr a.2.1 (yJ_tr z g.1), g.2.1, fun o => ?_⟩
  obtain ⟨g1, g2⟩ := g.2.2 o
  obtain ⟨m1, m2⟩ := yLs_m a z z1 g1
  have := a.2.2.2.2.2
  exact ⟨m1, g2, by omega⟩
theorem yGon_c {cb : Int} {rl : Int} {f : Int → Int} {k : List Nat} {σ s : zSto} {p0 p : yP} {r : Int} (h : yGon cb rl f k σ s p0 p r) : (r = 1 ∧ yLm cb rl f k (2, ystk k σ, p0) σ 1 s p) ∨ (r = 0 ∧ yJ rl f (2, ystk k σ, p0) (2, k, p) ∧ yns f p ∧ (yPo p = 1 → yLm cb rl f k (2, ystk k σ, p0) σ 2 s p ∧ ystk k s = k)) := h
def ySq (cb rl : Int) (f : Int → Int) (k : List Nat) (M0 : Nat × List Nat × yP) (b s : zSto) (p : yP) : Prop :=
  yJ rl f M0 (2, k, p) ∧ yns f p ∧ (yPo p = 1 → b 164 101 ≤ s 164 99 ∧ s 164 100 = ydep k ∧ s 164 51 = rl ∧ s 164 101 = b 164 101 ∧ yKp (b 164 101) b s ∧ (0 ≤ cb ∧ cb + s 164 97 + s 164 99 ≤ yPq p) ∧ yPq M0.2.2 + 1 ≤ yPq p)
theorem ySq_0 {cb : Int} {rl : Int} {f : Int → Int} {k : List Nat} {M0 : Nat × List Nat × yP} {b s : zSto} {p : yP} (h : yEs cb rl f k M0 b s p) : ySq cb rl f k M0 b s p := by
  refine ⟨h.1, h.2.1, fun o => ?_⟩
  obtain ⟨⟨a1, a2, ⟨⟨c1, c2, c3, c4⟩, a3, a4⟩, a5, a6, a7⟩, st, ad⟩ := h.2.2 o
  have c3 : ((ydep (ystk k s) : Nat) : Int) = s 164 100 := c3
  rw [st] at c3
  exact ⟨by omega, c3.symm, c4, a5, a6, a3 o, ad⟩
theorem ySq_n {cb : Int} {rl : Int} {f : Int → Int} {k : List Nat} {M0 : Nat × List Nat × yP} {b s : zSto} {p : yP} (h : ySq cb rl f k M0 b s p) (hT : yTq f s) (hE : yqs f s = p) (h0 : s 164 5 = 0) : b 164 101 ≤ s 164 99 ∧ s 164 101 = b 164 101 ∧ s 164 97 + s 164 99 ≤ 1600 := by
  have o := (yHb hT hE).1 h0
  have x := (yMq hT hE).1 o
  have y := h.2.2 o
  omega
theorem ySq_d {cb : Int} {rl : Int} {f : Int → Int} {k : List Nat} {M0 : Nat × List Nat × yP} {b s s' : zSto} {p : yP} (h : ySq cb rl f k M0 b s p) (lt : b 164 101 < s 164 99) (o : zOn zWd s s') (h' : s' 164 97 = s 164 97 + 1 ∧ s' 164 99 = s 164 99 - 1) : ySq cb rl f k M0 b s' p := by
  refine ⟨h.1, h.2.1, fun x => ?_⟩
  obtain ⟨a1, a2, a3, a4, a5, a6, a7⟩ := h.2.2 x
  have o0 := o 164 100 rfl
  have o5 := o 164 51 rfl
  have o1 := o 164 101 rfl
  exact ⟨by omega, by omega, by omega, by omega, fun j hj => (o 235 j rfl).trans (a5 j hj), by omega, a7⟩
def ySe (cb : Int) (s s' : zSto) (p p' : yP) : Prop := yPo p' = 1 → s' 164 99 = s 164 99 ∧ s' 164 100 = s 164 100 ∧ s' 164 51 = s 164 51 ∧ yKp (s 164 99) s s' ∧ ybd cb s' p' ∧ yPq p + 1 ≤ yPq p'
theorem ySq_e {cb : Int} {rl : Int} {f : Int → Int} {k : List Nat} {σ b s s' : zSto} {p0 p : yP} {u v : Int} (h : ySq cb rl f k (1, k, p0) b s p) (e : zset σ 164 101 u = b) (hu : u = σ 164 99) (hk : (ydep k : Int) = σ 164 100 ∧ σ 164 100 ≤ 6 ∧ σ 164 51 = rl) (e' : zset s 164 101 v = s') (hs : yPo p = 1 → s 164 99 ≤ b 164 101) : ySe cb σ s' p0 p := by
  intro o
  obtain ⟨a1, a2, a3, a4, a5, a6, a7⟩ := h.2.2 o
  have a : ∀ j, j ≠ 101 → s' 164 j = s 164 j := fun j h => by rw [← e', zset_j h]
  have b1 : b 164 101 = σ 164 99 := by rw [← e, ← hu]; exact zset_s
  have a9 := a 99 (by decide)
  have a0 := a 100 (by decide)
  have a5' := a 51 (by decide)
  have a7' := a 97 (by decide)
  have hs := hs o
  have a7 : yPq p0 + 1 ≤ yPq p := a7
  refine ⟨by omega, by omega, by omega, fun j hj => ?_, fun _ => by omega, a7⟩
  rw [← e', zset_k (by decide), a5 j (by omega), ← e, zset_k (by decide)]
def ymt (p : yP) (x : Int) : Nat := if x = 0 then 0 else yms p 1 + 1
theorem ymt_d {p p' : yP} {N : Nat} (l : ymt p 1 < N + 1) : ymt p' 0 < N := by
  have e : ymt p 1 = yms p 1 + 1 := if_neg (by decide)
  have e' : ymt p' 0 = 0 := if_pos rfl
  omega
theorem ymt_a {p p' : yP} {N : Nat} (o : yPo p = 1) (b : yPq p ≤ 1600) (h : yPo p' = 1 → yPq p + 1 ≤ yPq p') (l : ymt p 1 < N + 1) : ymt p' 1 < N := by
  have e : ymt p 1 = yms p 1 + 1 := if_neg (by decide)
  have e' : ymt p' 1 = yms p' 1 + 1 := if_neg (by decide)
  rw [yms_o o] at e
  rcases yPo_b p' with x | x
  · rw [yms_o x] at e'; have y := h x; omega
  · rw [yms_f x] at e'; omega
