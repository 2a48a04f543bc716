abbrev yP : Type := Int ⊕ Int × Int
abbrev yP.ok (q : Int) : yP := Sum.inl q
abbrev yP.no (a p : Int) : yP := Sum.inr (a, p)
theorem yP_cases {motive : yP → Prop} (ok : ∀ q, motive (yP.ok q)) (no : ∀ a p, motive (yP.no a p)) (s : yP) : motive s := by
  cases s with
  | inl q => exact ok q
  | inr x => exact no x.1 x.2
def yPi (f : Int → Int) : yP → Int
  | .inl q => yI f q
  | .inr (_, _) => -1
def yPk (f : Int → Int) : yP → Int
  | .inl q => yK f q
  | .inr (_, _) => 6
def yPg (f : Int → Int) : yP → Int
  | .inl q => if yK f q = 3 then f q else -1
  | .inr (_, _) => -1
def yPx (f : Int → Int) : yP → yP
  | .inl q => .ok (yX f q)
  | .inr (a, p) => .no a p
def yPf (a : Int) (d : Int) : yP → yP
  | .inl q => .no a (q + d)
  | .inr (a, p) => .no a p
def yPno (a p : Int) : yP → yP
  | .inl _ => .no a p
  | .inr (a, p) => .no a p
def yPq : yP → Int
  | .inl q => q
  | .inr (_, _) => 0
def yPw (f : Int → Int) (w : Int) (s : yP) : yP := if yPi f s = w then yPx f s else yPf 1 0 s
def yPs (f : Int → Int) (c : Int) (s : yP) : yP := if yPg f s = c then yPx f s else yPf 1 0 s
def yPv (f : Int → Int) : yP → Int
  | .inl q => yV f q
  | .inr (_, _) => 0
def yPn (f : Int → Int) (lo hi : Int) (s : yP) : yP :=
  if yPk f s = 5 then yPf 1 4 s
  else if yPk f s = 2 then (if yPv f s < lo ∨ hi < yPv f s then yPf 2 0 s else yPx f s)
  else yPf 1 0 s
def yPo : yP → Int
  | .inl _ => 1
  | .inr (_, _) => 0
def yVal (r w : Int) : Bool :=
  decide (w = 12) || decide (w = 13) || (decide (w = 14) && decide (r = 0)) || ((decide (w = 6) || decide (w = 15) || decide (w = 16)) && decide (r ≠ 0))
    || ((decide (w = 17) || decide (w = 18) || decide (w = 19) || decide (w = 8)) && decide (r = 2))
def ydep : List Nat → Nat
  | [] => 0
  | a :: k => if a = 5 ∨ a = 6 then ydep k else ydep k + 1
def ytop : List Nat → Nat
  | [] => 0
  | a :: _ => a
def yop (f : Int → Int) (m a : Nat) (k : List Nat) (s : yP) : Nat × List Nat × yP :=
  if ydep k = 6 then (0, [], yPf 4 0 s) else (m, a :: k, yPx f s)
def ynx (r : Int) (f : Int → Int) : Nat × List Nat × yP → Nat × List Nat × yP
  | (_, _, .inr (a, p)) => (0, [], .no a p)
  | (1, k, .inl q) =>
    let s : yP := .ok q
    if yPg f s = 40 then yop f 1 1 k s
    else if yPi f s = 25 ∨ yPi f s = 26 then (3, k, yPx f s)
    else if yPi f s = 20 ∧ r = 2 then yop f 1 4 k s
    else if yVal r (yPi f s) = true then (2, k, yPx f s)
    else (2, k, yPn f 0 9999 s)
  | (2, k, .inl q) =>
    let s : yP := .ok q
    if ytop k = 4 then (2, k.tail, s)
    else if yPg f s = 42 ∨ yPg f s = 47 ∨ yPg f s = 43 ∨ yPg f s = 45 then (1, k, yPx f s)
    else if ytop k = 1 ∨ ytop k = 3 then (2, k.tail, yPs f 41 s)
    else if ytop k = 2 then (1, 3 :: k.tail, yPs f 44 s)
    else if ytop k = 5 then (if yPg f s = 60 ∨ yPg f s = 61 ∨ yPg f s = 62 then (1, 6 :: k.tail, yPx f s) else (0, [], yPf 1 0 s))
    else if ytop k = 6 then (5, k.tail, s)
    else (2, k, s)
  | (3, k, .inl q) =>
    let s : yP := .ok q
    if yPg f s = 40 then yop f 1 2 k s else (0, [], yPf 1 0 s)
  | (4, k, .inl q) =>
    let s : yP := .ok q
    if yPi f s = 23 then yop f 4 8 k s
    else if yPg f s = 91 then yop f 4 7 k s
    else if yPi f s = 24 then (5, k, yPx f s)
    else (1, 5 :: k, s)
  | (5, k, .inl q) =>
    let s : yP := .ok q
    if ytop k = 8 then (5, k.tail, s)
    else if yPi f s = 22 ∨ yPi f s = 21 then (4, k, yPx f s)
    else if ytop k = 7 then (5, k.tail, yPs f 93 s)
    else (5, k, s)
  | c => c
def yit (r : Int) (f : Int → Int) : Nat → Nat × List Nat × yP → Nat × List Nat × yP
  | 0, c => c
  | n + 1, c => yit r f n (ynx r f c)
theorem yit_add {r : Int} {f : Int → Int} : ∀ (n m : Nat) (c : Nat × List Nat × yP), yit r f (n + m) c = yit r f m (yit r f n c) := by
  intro n
  induction n with
  | zero => intro m c; rw [Nat.zero_add]; rfl
  | succ n ih => intro m c; rw [Nat.succ_add]; exact ih m (ynx r f c)
def yJ (r : Int) (f : Int → Int) (a b : Nat × List Nat × yP) : Prop := ∃ n m, yit r f n a = yit r f m b
theorem yJ_rf {r : Int} {f : Int → Int} (a : Nat × List Nat × yP) : yJ r f a a := ⟨0, 0, rfl⟩
theorem yJ_sy {r : Int} {f : Int → Int} {a b : Nat × List Nat × yP} (h : yJ r f a b) : yJ r f b a := by
  obtain ⟨n, m, e⟩ := h; exact ⟨m, n, e.symm⟩
theorem yJ_tr {r : Int} {f : Int → Int} {a b c : Nat × List Nat × yP} (h : yJ r f a b) (g : yJ r f b c) : yJ r f a c := by
  obtain ⟨n, m, e⟩ := h; obtain ⟨p, q, d⟩ := g
  refine ⟨n + p, q + m, ?_⟩
  rw [yit_add n p a, e, ← yit_add m p b, Nat.add_comm m p, yit_add p m b, d, ← yit_add q m c]
theorem yJ_st {r : Int} {f : Int → Int} (a : Nat × List Nat × yP) : yJ r f a (ynx r f a) := ⟨1, 0, rfl⟩
theorem yJ_eq {r : Int} {f : Int → Int} {a b : Nat × List Nat × yP} (h : ynx r f a = b) : yJ r f a b := h ▸ yJ_st a
theorem yJ_no {r : Int} {f : Int → Int} {m n : Nat} {k l : List Nat} {a p : Int} : yJ r f (m, k, .no a p) (n, l, .no a p) :=
  yJ_tr (yJ_eq (b := (0, [], .no a p)) (by unfold ynx; rfl)) (yJ_sy (yJ_eq (by unfold ynx; rfl)))
theorem yit_fx {r : Int} {f : Int → Int} {a : Nat × List Nat × yP} (h : ynx r f a = a) : ∀ n, yit r f n a = a := by
  intro n
  induction n with
  | zero => rfl
  | succ n ih => show yit r f n (ynx r f a) = a; rw [h]; exact ih
theorem yJ_fx {r : Int} {f : Int → Int} {a b : Nat × List Nat × yP} (h : yJ r f a b) (ha : ynx r f a = a) (hb : ynx r f b = b) : a = b := by
  obtain ⟨n, m, e⟩ := h
  rw [yit_fx ha, yit_fx hb] at e
  exact e
