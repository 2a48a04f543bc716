theorem ybd_q {cb : Int} {s s' : zSto} {p : yP} (h : ybd cb s p) (o : zOn zQ1 s s') : ybd cb s' p := fun x => by rw [o 164 97 rfl, o 164 99 rfl]; exact h x
def ybL (s : zSto) : Prop := s 164 99 ≤ 0 ∨ ¬ (1 ≤ s 235 (s 164 99 - 1).toNat ∧ s 235 (s 164 99 - 1).toNat ≤ 4)
theorem ybL_q {s s' : zSto} (h : ybL s) (o : zOn zQ1 s s') : ybL s' := by unfold ybL at *; rw [o 164 99 rfl, o 235 _ rfl]; exact h
theorem ybL_e {cb : Int} {s s' : zSto} {p p' : yP} (h : ybL s) (a : ySe cb s s' p p') (o : yPo p' = 1) : ybL s' := by
  obtain ⟨a1, a2, a3, a4, a5, a6⟩ := a o
  unfold ybL at *
  rw [a1]
  by_cases c : s 164 99 ≤ 0
  · exact Or.inl c
  · rw [a4 _ (by omega)]; exact h
theorem yFs_b {cb : Int} {f : Int → Int} {s s1 s3 : zSto} {p p1 : yP} (a : ySe cb s s1 p p1) (o1 : yPo p1 = 1) (ad : yPq p1 + 1 ≤ yPq (yPx f p1)) (o : zOn zQ1 s1 s3) : ybd (cb + 1) s3 (yPx f p1) := fun x => by
  have y := (a o1).2.2.2.2.1 o1
  rw [o 164 97 rfl, o 164 99 rfl]
  omega
theorem yFs_a {cb : Int} {f : Int → Int} {s s1 s' : zSto} {p : yP} (h : ybd cb s p) (ad : yPo p = 1 → yPq p + 1 ≤ yPq (yPx f p)) (o : zOn zQ1 s s1) (c : zOn zWc s1 s') (c7 : s' 164 97 = s1 164 97 + 1) : ySe cb s s' p (yPx f p) := by
  intro x
  have x' : yPo p = 1 := by rw [yPo_px] at x; exact x
  have y := h x'
  have z := ad x'
  have e9 := (c 164 99 rfl).trans (o 164 99 rfl)
  have e0 := (c 164 100 rfl).trans (o 164 100 rfl)
  have e1 := (c 164 51 rfl).trans (o 164 51 rfl)
  have e7 := o 164 97 rfl
  exact ⟨e9, e0, e1, fun j _ => (c 235 j rfl).trans (o 235 j rfl), fun _ => by omega, z⟩
theorem yFs_e {cb : Int} {f : Int → Int} {σ s1 s3 s4 s5 : zSto} {p p1 p2 : yP} (a : ySe cb σ s1 p p1) (o1 : yPo p1 = 1) (ad : yPq p1 + 1 ≤ yPq (yPx f p1)) (o : zOn zQ1 s1 s3) (b : ySe (cb + 1) s3 s4 (yPx f p1) p2) (c : zOn zWc s4 s5) (c7 : s5 164 97 = s4 164 97 + 1) : ySe cb σ s5 p p2 := by
  intro o2
  obtain ⟨a1, a2, a3, a4, a5, a6⟩ := a o1
  obtain ⟨b1, b2, b3, b4, b5, b6⟩ := b o2
  have q := b5 o2
  have q1 := a5 o1
  have e9 := o 164 99 rfl
  have e0 := o 164 100 rfl
  have e1 := o 164 51 rfl
  have c9 := c 164 99 rfl
  have c0 := c 164 100 rfl
  have c1 := c 164 51 rfl
  refine ⟨by omega, by omega, by omega, fun j hj => ?_, fun _ => by omega, by omega⟩
  rw [c 235 j rfl, b4 j (by omega), o 235 j rfl, a4 j hj]
theorem yFact_b {rl : Int} {f : Int → Int} {k : List Nat} {p p1 : yP} (n : yPi f p ≠ 23 ∧ yPg f p ≠ 91) (n24 : yPi f p ≠ 24) (J : yJ rl f (1, 5 :: k, p) (2, 5 :: k, p1)) (o : yPo p1 = 0) : yJ rl f (4, k, p) (5, k, p1) := yJ_tr (yJ_cmp n.1 n.2 n24) (yJ_tr J (yJ_any o))
theorem yFact_f {rl : Int} {f : Int → Int} {k : List Nat} {p p1 : yP} {a : Int} (n : yPi f p ≠ 23 ∧ yPg f p ≠ 91) (n24 : yPi f p ≠ 24) (J : yJ rl f (1, 5 :: k, p) (2, 5 :: k, p1)) (ns : yns f p1) (hg : yPg f p1 ≠ 60 ∧ yPg f p1 ≠ 61 ∧ yPg f p1 ≠ 62) (ha : a = yPq p1) : yJ rl f (4, k, p) (5, k, yPno 1 a p1) := by
  have e : yPno 1 a p1 = yPf 1 0 p1 := yPno_f (fun _ => by omega)
  rw [e]
  exact yJ_tr (yJ_cmp n.1 n.2 n24) (yJ_tr J (yJ_cb ns hg))
theorem yFact_e {rl : Int} {f : Int → Int} {k : List Nat} {p p1 p2 : yP} (n : yPi f p ≠ 23 ∧ yPg f p ≠ 91) (n24 : yPi f p ≠ 24) (J : yJ rl f (1, 5 :: k, p) (2, 5 :: k, p1)) (hc : yPg f p1 = 60 ∨ yPg f p1 = 61 ∨ yPg f p1 = 62) (J2 : yJ rl f (1, 6 :: k, yPx f p1) (2, 6 :: k, p2)) (ns2 : yns f p2) : yJ rl f (4, k, p) (5, k, p2) :=
  yJ_tr (yJ_cmp n.1 n.2 n24) (yJ_tr J (yJ_tr (yJ_cs hc) (yJ_tr J2 (yJ_ce ns2))))
theorem ySe_f {cb : Int} {s s' : zSto} {p p' : yP} (o : yPo p' = 0) : ySe cb s s' p p' := fun x => absurd x (by omega)
def ytw (w : Nat → Int) (n : Nat) : Prop := (∀ i, i < n → w i = 10 ∨ w i = 11 ∨ w i = 12 ∨ w i = 25) ∧ ∀ i, i + 1 < n → w i = 12 → w (i + 1) = 12 ∨ w (i + 1) = 25
theorem ytw_m {w : Nat → Int} {m n : Nat} (hm : m ≤ n) (h : ytw w n) : ytw w m := ⟨fun i hi => h.1 i (by omega), fun i hi => h.2 i (by omega)⟩
theorem ytw_c {w v : Nat → Int} {n : Nat} (h : ytw w n) (e : ∀ i, i < n → v i = w i) : ytw v n := ⟨fun i hi => by rw [e i hi]; exact h.1 i hi, fun i hi x => by rw [e (i + 1) hi]; exact h.2 i hi (by rw [← e i (by omega)]; exact x)⟩
theorem ytw_p {w v : Nat → Int} {n : Nat} {c : Int} (h : ytw w n) (e : ∀ i, i < n → v i = w i) (hc : v n = c) (ho : (c = 12 ∨ c = 25) ∨ ((c = 10 ∨ c = 11) ∧ (n = 0 ∨ w (n - 1) ≠ 12))) : ytw v (n + 1) := by
  refine ⟨fun i hi => ?_, fun i hi x => ?_⟩
  · by_cases y : i < n
    · rw [e i y]; exact h.1 i y
    · rw [show i = n by omega, hc]; omega
  · by_cases y : i + 1 < n
    · rw [e (i + 1) y]; exact h.2 i y (by rw [← e i (by omega)]; exact x)
    · have z : i + 1 = n := by omega
      rw [z, hc]
      rcases ho with o | ⟨o, t⟩
      · exact o
      · exfalso
        rw [e i (by omega)] at x
        rcases t with t | t
        · omega
        · rw [show n - 1 = i by omega] at t; exact t x
theorem ytd {w : Nat → Int} {n : Nat} (h : ytw w (n + 1)) (o : w n = 10 ∨ w n = 11) : ysk w 0 (n + 1) = ysk w 0 n ∧ (n = 0 ∨ w (n - 1) ≠ 12) := by
  constructor
  · show yab (w (0 + n)) ++ ysk w 0 n = _
    rw [Nat.zero_add, yab_o (by omega)]; rfl
  · by_cases z : n = 0
    · exact Or.inl z
    · refine Or.inr (fun x => ?_)
      have y := h.2 (n - 1) (by omega) x
      rw [show n - 1 + 1 = n by omega] at y
      omega
theorem yts {w : Nat → Int} {n : Nat} (o : w n = 25) : ysk w 0 (n + 1) = 7 :: ysk w 0 n := by
  show yab (w (0 + n)) ++ ysk w 0 n = _
  rw [Nat.zero_add, o]; rfl
theorem ytv {w : Nat → Int} {n : Nat} (o : w n = 12) : ysk w 0 (n + 1) = 8 :: ysk w 0 n := by
  show yab (w (0 + n)) ++ ysk w 0 n = _
  rw [Nat.zero_add, o]; rfl
theorem ytt {w : Nat → Int} : ∀ n : Nat, ytw w n → (n = 0 ∨ w (n - 1) ≠ 12) → ((¬ ∃ j, j < n ∧ w j = 25) → ysk w 0 n = []) ∧ ((∃ j, j < n ∧ w j = 25) → ∃ l, ysk w 0 n = 7 :: l) := by
  intro n
  induction n with
  | zero => intro _ _; exact ⟨fun _ => rfl, fun ⟨j, h, _⟩ => absurd h (by omega)⟩
  | succ n ih =>
    intro h t
    have t : w n ≠ 12 := by
      rcases t with t | t
      · omega
      · rw [show n + 1 - 1 = n by omega] at t; exact t
    have op : w n = 10 ∨ w n = 11 → ((¬ ∃ j, j < n + 1 ∧ w j = 25) → ysk w 0 (n + 1) = []) ∧ ((∃ j, j < n + 1 ∧ w j = 25) → ∃ l, ysk w 0 (n + 1) = 7 :: l) := by
      intro o
      obtain ⟨e, g⟩ := ytd h o
      rw [e]
      obtain ⟨a, b⟩ := ih (ytw_m (by omega) h) g
      refine ⟨fun x => a (fun ⟨j, h1, h2⟩ => x ⟨j, by omega, h2⟩), fun ⟨j, h1, h2⟩ => b ⟨j, ?_, h2⟩⟩
      by_cases z : j = n
      · rw [z] at h2; omega
      · omega
    rcases h.1 n (by omega) with c | c | c | c
    · exact op (Or.inl c)
    · exact op (Or.inr c)
    · exact absurd c t
    · exact ⟨fun x => absurd ⟨n, by omega, c⟩ x, fun _ => ⟨_, yts c⟩⟩
theorem ytn {r : Int} {f : Int → Int} {w : Nat → Int} {m : Nat} {p : yP} : ∀ n : Nat, m ≤ n → (∀ i, m ≤ i → i < n → w i = 12) → yJ r f (5, ysk w 0 n, p) (5, ysk w 0 m, p) ∧ ydep (ysk w 0 n) = ydep (ysk w 0 m) + (n - m) := by
  intro n
  induction n with
  | zero => intro h _; rw [show m = 0 by omega]; exact ⟨yJ_rf _, by omega⟩
  | succ n ih =>
    intro h a
    by_cases z : m = n + 1
    · rw [z]; exact ⟨yJ_rf _, by omega⟩
    · obtain ⟨b, c⟩ := ih (by omega) (fun i h1 h2 => a i h1 (by omega))
      rw [ytv (a n (by omega) (by omega))]
      refine ⟨yJ_tr yJ_nt b, ?_⟩
      rw [ydep_c (by decide), c]; omega
def yTl (cb rl : Int) (f : Int → Int) (M0 : Nat × List Nat × yP) (m : Nat) (e : Int) (s : zSto) (p : yP) : Prop :=
  yPo p = 1 ∧ yJ rl f M0 (m, ysk (s 235) 0 (s 164 99).toNat, p) ∧ (0 ≤ s 164 99 ∧ s 164 99 ≤ 1700) ∧ ytw (s 235) (s 164 99).toNat ∧ ((ydep (ysk (s 235) 0 (s 164 99).toNat) : Nat) : Int) = s 164 100 ∧ s 164 100 ≤ 6 ∧ s 164 51 = rl ∧ s 164 101 = 0 ∧ (0 ≤ cb ∧ cb + s 164 97 + s 164 99 + e ≤ yPq p) ∧ yPq M0.2.2 ≤ yPq p
def ytp (s : zSto) : Prop := s 164 99 = 0 ∨ s 235 (s 164 99 - 1).toNat ≠ 12
theorem ytp_n {s : zSto} (h : ytp s) (h0 : 0 ≤ s 164 99) : (s 164 99).toNat = 0 ∨ s 235 ((s 164 99).toNat - 1) ≠ 12 := by
  rcases h with h | h
  · exact Or.inl (by omega)
  · by_cases c : s 164 99 = 0
    · exact Or.inl (by omega)
    · refine Or.inr ?_
      rw [show (s 164 99).toNat - 1 = (s 164 99 - 1).toNat by omega]; exact h
theorem yTl_fr {cb rl : Int} {f : Int → Int} {M0 : Nat × List Nat × yP} {m : Nat} {e : Int} {s s' : zSto} {p : yP} (h : yTl cb rl f M0 m e s p) (o : zOn zQ1 s s') : yTl cb rl f M0 m e s' p := by
  have r : s' 235 = s 235 := funext (fun j => o 235 j rfl)
  unfold yTl at *
  rw [r, o 164 99 rfl, o 164 100 rfl, o 164 51 rfl, o 164 101 rfl, o 164 97 rfl]
  exact h
theorem ytp_fr {s s' : zSto} (h : ytp s) (o : zOn zQ1 s s') : ytp s' := by
  unfold ytp at *
  rw [o 164 99 rfl, o 235 _ rfl]
  exact h
theorem yTl_n {cb rl : Int} {f : Int → Int} {M0 : Nat × List Nat × yP} {m : Nat} {e : Int} {s : zSto} {p : yP} (h : yTl cb rl f M0 m e s p) (he : 0 ≤ e) (hT : yTq f s) (hE : yqs f s = p) :
    s 164 5 = 0 ∧ 0 ≤ s 164 99 ∧ s 164 97 + s 164 99 ≤ 1600 ∧ 0 ≤ s 164 100 ∧ s 164 100 ≤ 6 ∧ s 164 51 = rl ∧ s 164 101 = 0 ∧ 0 ≤ yPq p ∧ yPq p ≤ 1600 := by
  obtain ⟨h1, h2, h3, h4, h5, h6, h7, h8, h9, h10⟩ := h
  have x := (yMq hT hE).1 h1
  exact ⟨yHb1 hE h1, h3.1, by omega, by omega, h6, h7, h8, x.1, x.2.1⟩
theorem yTl_st {cb rl : Int} {f : Int → Int} {M0 : Nat × List Nat × yP} {m n : Nat} {s t : zSto} {p : yP} (h : yTl cb rl f M0 m 0 s p) (hT : yTq f t) (hE : yqs f t = p) (hk : yPk f p ≠ 0) (J : yJ rl f (m, ysk (s 235) 0 (s 164 99).toNat, p) (n, ysk (s 235) 0 (s 164 99).toNat, yPx f p)) : yTl cb rl f M0 n 1 s (yPx f p) := by
  obtain ⟨h1, h2, h3, h4, h5, h6, h7, h8, h9, h10⟩ := h
  have x := (yMq hT hE).1 h1
  have y := x.2.2.2 hk
  exact ⟨yPo_px.trans h1, yJ_tr h2 J, h3, h4, h5, h6, h7, h8, by omega, by omega⟩
theorem yTl_op {cb rl : Int} {f : Int → Int} {M0 : Nat × List Nat × yP} {s t s1 s' : zSto} {p : yP} {c : Int} {a : Nat} (h : yTl cb rl f M0 4 0 s p) (hT : yTq f t) (hE : yqs f t = p) (hd : s 164 100 ≠ 6) (h97 : 0 ≤ s 164 97)
    (h0 : s1 164 100 = s 164 100 + 1) (h9 : s1 164 99 = s 164 99 + 1) (hv : s1 235 (s 164 99).toNat = c) (hr : ∀ j, j ≠ (s 164 99).toNat → s1 235 j = s 235 j) (oo : zOn zQo s s1) (o : zOn zQ1 s1 s') (hc : (c = 25 ∧ a = 7) ∨ (c = 12 ∧ a = 8))
    (J : ∀ K, ydep K ≠ 6 → yJ rl f (4, K, p) (4, a :: K, yPx f p)) (hk : yPk f p ≠ 0) : yTl cb rl f M0 4 0 s' (yPx f p) := by
  obtain ⟨h1, h2, h3, h4, h5, h6, h7, h8, h9', h10⟩ := h
  have x := (yMq hT hE).1 h1
  have y := x.2.2.2 hk
  have n1 : (s1 164 99).toNat = (s 164 99).toNat + 1 := by omega
  have r : s' 235 = s1 235 := funext (fun j => o 235 j rfl)
  have ag : ∀ i, i < (s 164 99).toNat → s1 235 i = s 235 i := fun i hi => hr i (by omega)
  have e97 := oo 164 97 rfl
  have e101 := oo 164 101 rfl
  have e51 := oo 164 51 rfl
  have q97 := o 164 97 rfl
  have q99 := o 164 99 rfl
  have q100 := o 164 100 rfl
  have st : ysk (s1 235) 0 (s1 164 99).toNat = a :: ysk (s 235) 0 (s 164 99).toNat := by
    rw [n1]
    rw [ysk_p (w := s 235) (c := c) (fun i _ h2 => ag i (by omega)) (by rw [Nat.zero_add]; exact hv)]
    rcases hc with ⟨e1, e2⟩ | ⟨e1, e2⟩ <;> (rw [e1, e2]; rfl)
  have dp : ydep (a :: ysk (s 235) 0 (s 164 99).toNat) = ydep (ysk (s 235) 0 (s 164 99).toNat) + 1 := ydep_c (by omega)
  unfold yTl
  rw [r, q99, q100, o 164 51 rfl, o 164 101 rfl, q97, st]
  refine ⟨yPo_px.trans h1, yJ_tr h2 (J _ (by omega)), by omega, ?_, by rw [dp]; omega, by omega, by omega, by omega, by omega, by omega⟩
  rw [n1]
  exact ytw_p h4 ag hv (by rcases hc with c | c <;> omega)
theorem yTl_f6 {cb rl : Int} {f : Int → Int} {M0 : Nat × List Nat × yP} {s : zSto} {p : yP} {a : Int} (h : yTl cb rl f M0 4 0 s p) (hd : s 164 100 = 6) (ha : a = yPq p) (J : ∀ K, ydep K = 6 → yJ rl f (4, K, p) (5, K, yPf 4 0 p)) : yFt rl f M0 (yPno 4 a p) := by
  obtain ⟨h1, h2, h3, h4, h5, h6, h7, h8, h9, h10⟩ := h
  have e : yPno 4 a p = yPf 4 0 p := yPno_f (fun _ => by omega)
  exact ⟨yPo_no, by rw [e]; exact yJ_tr h2 (yJ_tr (J _ (by omega)) (yJ_any yPo_pf))⟩
theorem yTl_fact {cb rl : Int} {f : Int → Int} {M0 : Nat × List Nat × yP} {s s' : zSto} {p p' : yP} (h : yTl cb rl f M0 4 0 s p) (J : yJ rl f (4, ysk (s 235) 0 (s 164 99).toNat, p) (5, ysk (s 235) 0 (s 164 99).toNat, p')) (e : ySe cb s s' p p') (h101 : s' 164 101 = s 164 101) (o : yPo p' = 1) : yTl cb rl f M0 5 0 s' p' := by
  obtain ⟨h1, h2, h3, h4, h5, h6, h7, h8, h9, h10⟩ := h
  obtain ⟨a1, a2, a3, a4, a5, a6⟩ := e o
  have b := a5 o
  have ag : ∀ i, i < (s 164 99).toNat → s' 235 i = s 235 i := fun i hi => a4 i (by omega)
  have st : ysk (s' 235) 0 (s 164 99).toNat = ysk (s 235) 0 (s 164 99).toNat := ysk_eq _ (fun i _ h2 => ag i (by omega))
  unfold yTl
  rw [a1, a2, a3, st]
  exact ⟨o, yJ_tr h2 J, h3, ytw_c h4 ag, h5, h6, h7, by omega, by omega, by omega⟩
theorem yTl_nots {cb rl : Int} {f : Int → Int} {M0 : Nat × List Nat × yP} {s s' : zSto} {p : yP} (h : yTl cb rl f M0 5 0 s p) (o : zOn zWe s s') (e1 : s' 164 97 + s' 164 99 = s 164 97 + s 164 99 ∧ 0 ≤ s' 164 99 ∧ s' 164 99 ≤ s 164 99 ∧ s' 164 100 = s 164 100 - (s 164 99 - s' 164 99)) (e2 : ∀ i : Nat, s' 164 99 ≤ i → (i : Int) < s 164 99 → s 235 i = 12) (h0 : s 164 5 = 0) (e3 : s 164 5 ≠ 0 ∨ s' 164 99 = 0 ∨ s 235 (s' 164 99 - 1).toNat ≠ 12) : yTl cb rl f M0 5 0 s' p ∧ ytp s' := by
  obtain ⟨h1, h2, h3, h4, h5, h6, h7, h8, h9, h10⟩ := h
  have r : s' 235 = s 235 := funext (fun j => o 235 j rfl)
  obtain ⟨j1, j2⟩ := ytn (r := rl) (f := f) (w := s 235) (m := (s' 164 99).toNat) (p := p) (s 164 99).toNat (by omega) (fun i i1 i2 => e2 i (by omega) (by omega))
  constructor
  · unfold yTl
    rw [r, o 164 51 rfl, o 164 101 rfl]
    exact ⟨h1, yJ_tr h2 j1, by omega, ytw_m (by omega) h4, by omega, by omega, h7, h8, by omega, h10⟩
  · unfold ytp
    rw [r]
    rcases e3 with x | x | x
    · exact absurd h0 x
    · exact Or.inl x
    · exact Or.inr x
theorem yTl_d {cb rl : Int} {f : Int → Int} {M0 : Nat × List Nat × yP} {m : Nat} {e : Int} {s s' : zSto} {p : yP} (h : yTl cb rl f M0 m e s p) (h9 : 1 ≤ s 164 99) (o : zOn zWd s s') (h' : s' 164 97 = s 164 97 + 1 ∧ s' 164 99 = s 164 99 - 1) (v : s 235 (s 164 99 - 1).toNat = 10 ∨ s 235 (s 164 99 - 1).toNat = 11) : yTl cb rl f M0 m e s' p ∧ ytp s' := by
  obtain ⟨h1, h2, h3, h4, h5, h6, h7, h8, h9, h10⟩ := h
  have r : s' 235 = s 235 := funext (fun j => o 235 j rfl)
  have n1 : (s 164 99).toNat = (s 164 99 - 1).toNat + 1 := by omega
  have t0 := o 164 100 rfl
  rw [n1] at h4 h2 h5
  obtain ⟨d1, d2⟩ := ytd h4 v
  rw [d1] at h2 h5
  constructor
  · unfold yTl
    rw [r, t0, o 164 51 rfl, o 164 101 rfl, h'.2]
    exact ⟨h1, h2, by omega, ytw_m (by omega) h4, h5, h6, h7, h8, by omega, h10⟩
  · unfold ytp
    rw [r, h'.2]
    rcases d2 with x | x
    · exact Or.inl (by omega)
    · refine Or.inr ?_
      rw [show (s 164 99 - 1 - 1).toNat = (s 164 99 - 1).toNat - 1 by omega]; exact x
theorem yTl_top {cb rl : Int} {f : Int → Int} {M0 : Nat × List Nat × yP} {m : Nat} {e : Int} {s : zSto} {p : yP} (h : yTl cb rl f M0 m e s p) (t : ytp s) (n : ¬ (1 ≤ s 164 99 ∧ s 235 (s 164 99 - 1).toNat = 25)) (h9 : 1 ≤ s 164 99) : s 235 (s 164 99 - 1).toNat = 10 ∨ s 235 (s 164 99 - 1).toNat = 11 := by
  rcases h.2.2.2.1.1 (s 164 99 - 1).toNat (by have := h.2.2.1; omega) with c | c | c | c
  · exact Or.inl c
  · exact Or.inr c
  · rcases t with t | t
    · omega
    · exact absurd c t
  · exact absurd ⟨h9, c⟩ n
theorem yqq_n {w : Nat → Int} {n : Int} (h : yqq w n) : 1 ≤ n := by obtain ⟨j, a, _⟩ := h; omega
theorem yqq_d {w : Nat → Int} {n : Int} (h : yqq w n) (v : w (n - 1).toNat = 10 ∨ w (n - 1).toNat = 11) : yqq w (n - 1) := by
  obtain ⟨j, a, b⟩ := h
  refine ⟨j, ?_, b⟩
  by_cases z : (j : Int) = n - 1
  · rw [← z] at v; simp at v; omega
  · omega
theorem yqq_e {w v : Nat → Int} {n m : Int} (h : yqq w n) (e : v = w) (g : m = n) : yqq v m := by rw [e, g]; exact h
theorem yTl_sq {cb rl : Int} {f : Int → Int} {M0 : Nat × List Nat × yP} {s s' : zSto} {p : yP} (h : yTl cb rl f M0 5 0 s p) (g : yPg f p = 93) (top : 1 ≤ s 164 99 ∧ s 235 (s 164 99 - 1).toNat = 25) (r : s' 235 = s 235) (e9 : s' 164 99 = s 164 99 - 1) (e0 : s' 164 100 = s 164 100 - 1) (e7 : s' 164 97 = s 164 97) (e1 : s' 164 51 = s 164 51) (eb : s' 164 101 = s 164 101) (ad : yPq p + 1 ≤ yPq (yPx f p)) : yTl cb rl f M0 5 0 s' (yPx f p) := by
  obtain ⟨h1, h2, h3, h4, h5, h6, h7, h8, h9, h10⟩ := h
  have n1 : (s 164 99).toNat = (s 164 99 - 1).toNat + 1 := by omega
  rw [n1] at h4 h2 h5
  rw [yts top.2] at h2 h5
  have i : yPi f p = -1 := yPk_i (by have := yPg_k (f := f) (s := p) (by omega); omega)
  have q : yPs f 93 p = yPx f p := (yps_1 g).symm
  have dp : ydep (7 :: ysk (s 235) 0 (s 164 99 - 1).toNat) = ydep (ysk (s 235) 0 (s 164 99 - 1).toNat) + 1 := ydep_c (by decide)
  have j := yJ_qc (r := rl) (k := ysk (s 235) 0 (s 164 99 - 1).toNat) (f := f) (s := p) ⟨by omega, by omega⟩
  rw [q] at j
  unfold yTl
  rw [r, e9, e0, e7, e1, eb]
  exact ⟨yPo_px.trans h1, yJ_tr h2 j, by omega, ytw_m (by omega) h4, by omega, by omega, h7, h8, by omega, by omega⟩
theorem yTl_p {cb rl : Int} {f : Int → Int} {M0 : Nat × List Nat × yP} {m : Nat} {s s1 s' : zSto} {p : yP} {c : Int} {j9 : Nat} {u : Int} (h : yTl cb rl f M0 m 1 s p) (t : ytp s) (hc : c = 10 ∨ c = 11) (e1 : zset s 235 j9 c = s1) (e2 : zset s1 164 99 u = s') (hj : j9 = (s 164 99).toNat) (hu : u = s 164 99 + 1) (h97 : 0 ≤ s 164 97) (hm : s 164 99 ≤ 1699) : yTl cb rl f M0 m 0 s' p := by
  obtain ⟨h1, h2, h3, h4, h5, h6, h7, h8, h9, h10⟩ := h
  have a : ∀ j, j ≠ 99 → s' 164 j = s 164 j := fun j x => by rw [← e2, zset_j x, ← e1, zset_k (by decide)]
  have n9 : s' 164 99 = s 164 99 + 1 := by rw [← e2, ← hu]; exact zset_s
  have r : s' 235 = s1 235 := by rw [← e2]; exact funext (fun j => zset_k (by decide))
  have ag : ∀ i, i < (s 164 99).toNat → s1 235 i = s 235 i := fun i hi => by rw [← e1]; exact zset_j (by omega)
  have hv : s1 235 (s 164 99).toNat = c := by rw [← e1, ← hj]; exact zset_s
  have n1 : (s' 164 99).toNat = (s 164 99).toNat + 1 := by omega
  have st : ysk (s1 235) 0 ((s 164 99).toNat + 1) = ysk (s 235) 0 (s 164 99).toNat := by
    rw [ysk_p (w := s 235) (c := c) (fun i _ h2 => ag i (by omega)) (by rw [Nat.zero_add]; exact hv), yab_o (by omega)]; rfl
  unfold yTl
  rw [r, n1, n9, a 100 (by decide), a 51 (by decide), a 101 (by decide), a 97 (by decide), st]
  exact ⟨h1, h2, by omega, ytw_p h4 ag hv (Or.inr ⟨hc, ytp_n t h3.1⟩), h5, h6, h7, h8, by omega, h10⟩
def yGt (cb rl : Int) (f : Int → Int) (M0 : Nat × List Nat × yP) (s : zSto) (p : yP) (r : Int) : Prop :=
  (r = 1 ∧ yTl cb rl f M0 4 0 s p ∧ yPq M0.2.2 + 1 ≤ yPq p) ∨ (r = 0 ∧ yJ rl f M0 (5, [], p) ∧ yPi f p ≠ 22 ∧ yPi f p ≠ 21 ∧ (yPo p = 1 → yTl cb rl f M0 5 0 s p))
theorem yGt_e {cb rl : Int} {f : Int → Int} {M0 : Nat × List Nat × yP} {s : zSto} {p : yP} (h : yTl cb rl f M0 5 0 s p) (t : ytp s) (n : yPi f p ≠ 22 ∧ yPi f p ≠ 21) (q : ¬ yqq (s 235) (s 164 99)) : yGt cb rl f M0 s p 0 := by
  refine Or.inr ⟨rfl, ?_, n.1, n.2, fun _ => h⟩
  have e := (ytt (s 164 99).toNat h.2.2.2.1 (ytp_n t h.2.2.1.1)).1 (fun ⟨j, a, b⟩ => q ⟨j, by have := h.2.2.1; omega, b⟩)
  have j := h.2.1
  rw [e] at j
  exact j
theorem yGt_f {cb rl : Int} {f : Int → Int} {M0 : Nat × List Nat × yP} {s s' : zSto} {p : yP} {a : Int} (h : yTl cb rl f M0 5 0 s p) (t : ytp s) (n : yPi f p ≠ 22 ∧ yPi f p ≠ 21) (q : yqq (s 235) (s 164 99)) (g : yPg f p ≠ 93) (ha : a = yPq p) : yGt cb rl f M0 s' (yPno 1 a p) 0 := by
  have e : yPno 1 a p = yPf 1 0 p := yPno_f (fun _ => by omega)
  have i : yPi f (yPno 1 a p) = -1 := by
    cases p using yP_cases with
    | ok q => rfl
    | no a b => rfl
  refine Or.inr ⟨rfl, ?_, by omega, by omega, fun o => by rw [yPo_no] at o; exact absurd o (by decide)⟩
  obtain ⟨j, a1, b1⟩ := q
  obtain ⟨l, el⟩ := (ytt (s 164 99).toNat h.2.2.2.1 (ytp_n t h.2.2.1.1)).2 ⟨j, by omega, b1⟩
  have x := h.2.1
  rw [el] at x
  rw [e]
  have w := yJ_qc (r := rl) (k := l) (f := f) (s := p) n
  have q : yPs f 93 p = yPf 1 0 p := by unfold yPs; rw [if_neg g]
  rw [q] at w
  exact yJ_tr x (yJ_tr w (yJ_any yPo_pf))
theorem ysps2 {A : Prop} [Decidable A] {r : Int} (h : (A → r = 1) ∧ (¬ A → r = 0)) : (r = 1 ∧ A) ∨ (r = 0 ∧ ¬ A) := by
  by_cases c : A
  · exact Or.inl ⟨h.1 c, c⟩
  · exact Or.inr ⟨h.2 c, c⟩
theorem ysqq {w : Nat → Int} {n r : Int} (h : (yqq w n → r = 1) ∧ (¬ yqq w n → r = 0)) : (r = 1 ∧ yqq w n) ∨ (r = 0 ∧ ¬ yqq w n) := by
  by_cases c : yqq w n
  · exact Or.inl ⟨h.1 c, c⟩
  · exact Or.inr ⟨h.2 c, c⟩
theorem yTl_ao {cb rl : Int} {f : Int → Int} {M0 : Nat × List Nat × yP} {s t : zSto} {p : yP} (h : yTl cb rl f M0 5 0 s p) (g : ytp s) (hT : yTq f t) (hE : yqs f t = p) (i : yPi f p = 22 ∨ yPi f p = 21) : yTl cb rl f M0 4 1 s (yPx f p) := by
  refine yTl_st h hT hE (ykn (Or.inr (Or.inl (by omega)))) (yJ_ao ?_ i)
  by_cases c : ∃ j, j < (s 164 99).toNat ∧ s 235 j = 25
  · obtain ⟨l, e⟩ := (ytt (s 164 99).toNat h.2.2.2.1 (ytp_n g h.2.2.1.1)).2 c
    rw [e]; show (7 : Nat) ≠ 8; decide
  · rw [(ytt (s 164 99).toNat h.2.2.2.1 (ytp_n g h.2.2.1.1)).1 c]; decide
