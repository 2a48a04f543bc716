theorem yJ_any {r : Int} {f : Int → Int} {m n : Nat} {k l : List Nat} {p : yP} (h : yPo p = 0) : yJ r f (m, k, p) (n, l, p) := by
  cases p using yP_cases with
  | ok q => exact absurd h (by show ¬ (1 : Int) = 0; decide)
  | no a b => exact yJ_no
def yLv (cb rl : Int) (k : List Nat) (s : zSto) (p : yP) : Prop := ysm rl k s ∧ ybd cb s p ∧ s 164 100 ≤ 6
def yKp (b : Int) (s s' : zSto) : Prop := ∀ j : Nat, (j : Int) < b → s' 235 j = s 235 j
theorem yKp_rf {b : Int} {s : zSto} : yKp b s s := fun _ _ => rfl
def yLm (cb rl : Int) (f : Int → Int) (k : List Nat) (M0 : Nat × List Nat × yP) (σ : zSto) (m : Nat) (s : zSto) (p : yP) : Prop :=
  yPo p = 1 ∧ yJ rl f M0 (m, ystk k s, p) ∧ yLv cb rl k s p ∧ s 164 101 = σ 164 101 ∧ yKp (σ 164 101) σ s ∧ yPq M0.2.2 ≤ yPq p
def yNop (rl : Int) (f : Int → Int) (p : yP) : Prop := yPg f p ≠ 40 ∧ yPi f p ≠ 25 ∧ yPi f p ≠ 26 ∧ ¬ (yPi f p = 20 ∧ rl = 2)
def yFt (rl : Int) (f : Int → Int) (M0 : Nat × List Nat × yP) (p : yP) : Prop := yPo p = 0 ∧ yJ rl f M0 (0, [], p)
def yLp (cb rl : Int) (f : Int → Int) (k : List Nat) (M0 : Nat × List Nat × yP) (σ s : zSto) (p : yP) (x : Int) : Prop :=
  (x = 1 ∧ yLm cb rl f k M0 σ 1 s p) ∨ (x = 1 ∧ yFt rl f M0 p) ∨ (x = 0 ∧ yLm cb rl f k M0 σ 1 s p ∧ yNop rl f p)
theorem yLp_c {cb : Int} {rl : Int} {f : Int → Int} {k : List Nat} {M0 : Nat × List Nat × yP} {σ s : zSto} {p : yP} {x : Int} (h : yLp cb rl f k M0 σ s p x) :
  (x = 1 ∧ yLm cb rl f k M0 σ 1 s p) ∨ (x = 1 ∧ yFt rl f M0 p) ∨ (x = 0 ∧ yLm cb rl f k M0 σ 1 s p ∧ yNop rl f p) := h
theorem yLm_0 {cb : Int} {rl : Int} {f : Int → Int} {k : List Nat} {m : Nat} {σ : zSto} {p : yP} (o : yPo p = 1) (h : yLv cb rl k σ p) : yLm cb rl f k (m, ystk k σ, p) σ m σ p :=
  ⟨o, yJ_rf _, h, rfl, yKp_rf, Int.le_refl _⟩
theorem ysm_eq {rl : Int} {k : List Nat} {s s' : zSto} (h : ysm rl k s) (h9 : s' 164 99 = s 164 99) (h0 : s' 164 100 = s 164 100) (hb : s' 164 101 = s 164 101) (ht : s' 164 51 = s 164 51) (hr : ∀ j, s' 235 j = s 235 j) : ysm rl k s' ∧ ystk k s' = ystk k s := by
  have e : s' 235 = s 235 := funext hr
  unfold ysm ystk at *
  rw [h9, h0, hb, ht, e]
  exact ⟨h, rfl⟩
theorem yLm_fr {cb : Int} {rl : Int} {f : Int → Int} {k : List Nat} {M0 : Nat × List Nat × yP} {σ : zSto} {m : Nat} {s s' : zSto} {p : yP} (h : yLm cb rl f k M0 σ m s p) (o : zOn zQ1 s s') : yLm cb rl f k M0 σ m s' p := by
  obtain ⟨h1, h2, ⟨h3, h4, h5⟩, h6, h7, h8⟩ := h
  obtain ⟨a, b⟩ := ysm_eq h3 (o 164 99 rfl) (o 164 100 rfl) (o 164 101 rfl) (o 164 51 rfl) (fun j => o 235 j rfl)
  refine ⟨h1, by rw [b]; exact h2, ⟨a, fun x => by rw [o 164 97 rfl, o 164 99 rfl]; exact h4 x, by rw [o 164 100 rfl]; exact h5⟩, by rw [o 164 101 rfl]; exact h6, fun j hj => (o 235 j rfl).trans (h7 j hj), h8⟩
theorem yLm_n {cb : Int} {rl : Int} {f : Int → Int} {k : List Nat} {M0 : Nat × List Nat × yP} {σ : zSto} {m : Nat} {s : zSto} {p : yP} (h : yLm cb rl f k M0 σ m s p) (hT : yTq f s) (hE : yqs f s = p) :
    s 164 5 = 0 ∧ 0 ≤ s 164 101 ∧ s 164 101 ≤ s 164 99 ∧ s 164 97 + s 164 99 ≤ 1600 ∧ 0 ≤ s 164 100 ∧ s 164 100 ≤ 6 ∧ s 164 51 = rl ∧ 0 ≤ yPq p ∧ yPq p ≤ 1600 := by
  obtain ⟨h1, h2, ⟨⟨b, w, d, t⟩, h4, h5⟩, h6, h7, h8⟩ := h
  have x := (yMq hT hE).1 h1
  have y := h4 h1
  exact ⟨yHb1 hE h1, b.1, b.2.1, by omega, by omega, h5, t, x.1, x.2.1⟩
theorem yLm_st {cb : Int} {rl : Int} {f : Int → Int} {k : List Nat} {M0 : Nat × List Nat × yP} {σ : zSto} {m n : Nat} {s t : zSto} {p : yP} (h : yLm cb rl f k M0 σ m s p) (hT : yTq f t) (hE : yqs f t = p) (J : ∀ K, yJ rl f (m, K, p) (n, K, yPx f p)) : yLm cb rl f k M0 σ n s (yPx f p) := by
  obtain ⟨h1, h2, ⟨h3, h4, h5⟩, h6, h7, h8⟩ := h
  have x := (yMq hT hE).1 h1
  exact ⟨yPo_px.trans h1, yJ_tr h2 (J _), ⟨h3, fun o => by have := h4 h1; omega, h5⟩, h6, h7, by omega⟩
theorem yLm_op {cb : Int} {rl : Int} {f : Int → Int} {k : List Nat} {M0 : Nat × List Nat × yP} {σ : zSto} {m : Nat} {s t s1 s' : zSto} {p : yP} {c : Int} (h : yLm cb rl f k M0 σ m s p) (hT : yTq f t) (hE : yqs f t = p) (h97 : 0 ≤ s 164 97) (hd : s 164 100 ≠ 6)
    (h0 : s1 164 100 = s 164 100 + 1) (h9 : s1 164 99 = s 164 99 + 1) (hv : s1 235 (s 164 99).toNat = c) (hr : ∀ j, j ≠ (s 164 99).toNat → s1 235 j = s 235 j) (oo : zOn zQo s s1) (o : zOn zQ1 s1 s') (hc : (20 ≤ c ∧ c ≤ 24) ∨ c = 60)
    (J : ∀ K, ydep K ≠ 6 → yJ rl f (m, K, p) (1, yab c ++ K, yPx f p)) (hk : yPk f p ≠ 0) : yLm cb rl f k M0 σ 1 s' (yPx f p) := by
  obtain ⟨h1, h2, ⟨h3, h4, h5⟩, h6, h7, h8⟩ := h
  have x := (yMq hT hE).1 h1
  have y := h4 h1
  have bb := h3.1
  have z97 := oo 164 97 rfl
  obtain ⟨a, b⟩ := ysm_p h3 hc h9 h0 (oo 164 101 rfl) (oo 164 51 rfl) (by omega) hv hr
  obtain ⟨a', b'⟩ := ysm_eq a (o 164 99 rfl) (o 164 100 rfl) (o 164 101 rfl) (o 164 51 rfl) (fun j => o 235 j rfl)
  have d : ydep (ystk k s) ≠ 6 := by
    have q : ((ydep (ystk k s) : Nat) : Int) = s 164 100 := h3.2.2.1
    omega
  have hx := x.2.2.2 hk
  refine ⟨yPo_px.trans h1, ?_, ⟨a', fun _ => ?_, ?_⟩, ?_, fun j hj => ?_, by omega⟩
  · rw [b', b]; exact yJ_tr h2 (J _ d)
  · rw [o 164 97 rfl, o 164 99 rfl]; omega
  · rw [o 164 100 rfl]; omega
  · rw [o 164 101 rfl, oo 164 101 rfl]; exact h6
  · rw [o 235 j rfl, hr j (by omega)]; exact h7 j hj
theorem yLm_f6 {cb : Int} {rl : Int} {f : Int → Int} {k : List Nat} {M0 : Nat × List Nat × yP} {σ : zSto} {m : Nat} {s : zSto} {p : yP} {a : Int} (h : yLm cb rl f k M0 σ m s p) (hd : s 164 100 = 6) (ha : a = yPq p)
    (J : ∀ K, ydep K = 6 → yJ rl f (m, K, p) (2, K, yPf 4 0 p)) : yFt rl f M0 (yPno 4 a p) := by
  obtain ⟨h1, h2, ⟨h3, h4, h5⟩, h6, h7, h8⟩ := h
  have d : ydep (ystk k s) = 6 := by
    have q : ((ydep (ystk k s) : Nat) : Int) = s 164 100 := h3.2.2.1
    omega
  have e : yPno 4 a p = yPf 4 0 p := yPno_f (fun _ => by omega)
  exact ⟨yPo_no, by rw [e]; exact yJ_tr h2 (yJ_tr (J _ d) (yJ_any yPo_pf))⟩
theorem yLm_f {cb : Int} {rl : Int} {f : Int → Int} {k : List Nat} {M0 : Nat × List Nat × yP} {σ : zSto} {m n : Nat} {s : zSto} {p p' : yP} (h : yLm cb rl f k M0 σ m s p) (o : yPo p' = 0) (J : ∀ K, yJ rl f (m, K, p) (n, K, p')) : yFt rl f M0 p' :=
  ⟨o, yJ_tr h.2.1 (yJ_tr (J _) (yJ_any o))⟩
theorem yPx_0 {f : Int → Int} {p : yP} (h : yPo p = 0) : yPx f p = p := by
  cases p using yP_cases with
  | ok q => exact absurd h (by show ¬ (1 : Int) = 0; decide)
  | no a b => rfl
def yms : yP → Int → Nat
  | .inl q, m => (2 * (1601 - q) + m + 1).toNat
  | .inr (_, _), _ => 0
theorem yms_o {p : yP} {m : Int} (h : yPo p = 1) : yms p m = (2 * (1601 - yPq p) + m + 1).toNat := by
  cases p using yP_cases with
  | ok q => rfl
  | no a b => exact absurd h (by show ¬ (0 : Int) = 1; decide)
theorem yms_f {p : yP} {m : Int} (h : yPo p = 0) : yms p m = 0 := by
  cases p using yP_cases with
  | ok q => exact absurd h (by show ¬ (1 : Int) = 0; decide)
  | no a b => rfl
theorem yms_x {p p' : yP} {m m' : Int} {N : Nat} (o : yPo p = 1) (b : yPq p ≤ 1600) (hm : 0 ≤ m) (h : yPo p' = 1 → (yPq p + 1 ≤ yPq p' ∧ m' ≤ m + 1) ∨ (yPq p ≤ yPq p' ∧ m' < m)) (l : yms p m < N + 1) : yms p' m' < N := by
  rw [yms_o o] at l
  rcases yPo_b p' with x | x
  · rw [yms_o x]; have y := h x; omega
  · rw [yms_f x]; omega
theorem yL_at1 {f : Int → Int} {s s' : zSto} {p : yP} {c : Int} (h : yTq f s) (hE : yqs f s = p) (h0 : s 164 5 = 0) (ha : s 164 2 = yPq p) (hc : f (yPq p) = c) (hn : 0 ≤ c ∧ ¬ (97 ≤ c ∧ c ≤ 122) ∧ ¬ (48 ≤ c ∧ c ≤ 57)) (e1 : zset s 164 2 (s 164 2 + 1) = s') : yTq f s' ∧ yqs f s' = yPx f p ∧ yPg f p = c := by
  obtain ⟨r1, r2, r3, r4⟩ := yL_sign2 h hE h0 ha (by rw [ha]; exact hc) hn e1
  refine ⟨r1, ?_, r3⟩
  rw [r2]; unfold yPu; rw [if_pos r3]
theorem yL_at0 {f : Int → Int} {s s' : zSto} {p : yP} (h : yTq f s) (hE : yqs f s = p) (h0 : s 164 5 ≠ 0) (hc : 0 ≤ f (s 164 2)) (e1 : zset s 164 2 (s 164 2 + 1) = s') : yTq f s' ∧ yqs f s' = p := by
  obtain ⟨h1, h2, h3, h4⟩ := h
  have o : ∀ j, j ≠ 2 → s' 164 j = s 164 j := fun j a => by rw [← e1, zset_j a]
  have t : ∀ j, s' 165 j = s 165 j := fun j => by rw [← e1, zset_k (by decide)]
  have s2 : s' 164 2 = s 164 2 + 1 := by rw [← e1]; exact zset_s
  have en : s 164 2 < s 164 3 := by
    rcases (show s 164 2 < s 164 3 ∨ s 164 3 ≤ s 164 2 by omega) with x | x
    · exact x
    · have y := yU_out h2 (k := s 164 2) (by omega); omega
  have e3 := o 3 (by decide)
  have e5 := o 5 (by decide)
  refine ⟨⟨h1, (yU_eq e3 t).trans h2, by omega, fun z => absurd z (by omega)⟩, ?_⟩
  rw [← hE, yqs_0 h0, yqs_0 (by omega), e5, o 6 (by decide)]
theorem yat_q {f : Int → Int} {s s' : zSto} {p : yP} (hE : yqs f s = p) (h0 : s 164 5 = 0) (h : s' 164 2 = yS f (s 164 2)) : s' 164 2 = yPq p := by
  rw [← hE, yqs_1 h0]; exact h
theorem ysg_p {f : Int → Int} {s : zSto} {p : yP} {c : Int} (hT : yTq f s) (hE : yqs f s = p) (h0 : s 164 5 = 0) (ha : s 164 2 = yPq p) (hc : f (yPq p) = c) (hn : 0 ≤ c ∧ ¬ (97 ≤ c ∧ c ≤ 122) ∧ ¬ (48 ≤ c ∧ c ≤ 57)) : yPg f p = c :=
  (yL_at1 hT hE h0 ha hc hn rfl).2.2
theorem ysg_n {f : Int → Int} {p : yP} {c : Int} (hc : f (yPq p) ≠ c) (hn : 0 ≤ c ∧ ¬ (97 ≤ c ∧ c ≤ 122) ∧ ¬ (48 ≤ c ∧ c ≤ 57)) : yPg f p ≠ c := by
  cases p using yP_cases with
  | ok q => exact yq_g hn hc
  | no a b => show (-1 : Int) ≠ c; omega
theorem yof_f {f : Int → Int} {p : yP} {t r rl : Int} (ht : t = rl) (hr : 0 ≤ rl ∧ rl ≤ 2) (h : (10 ≤ yqw (yPi f p) ∧ yqw (yPi f p) < 11 ∧ yalw t (yqw (yPi f p)) → r = yqw (yPi f p)) ∧ (¬ (10 ≤ yqw (yPi f p) ∧ yqw (yPi f p) < 11 ∧ yalw t (yqw (yPi f p))) → r = -1)) :
    (r = 10 ∧ yPi f p = 20 ∧ rl = 2) ∨ (r = -1 ∧ ¬ (yPi f p = 20 ∧ rl = 2)) := by
  subst ht
  by_cases c : yPi f p = 20 ∧ t = 2
  · have d := (yqw_f hr).mpr c
    have e := h.1 d
    exact Or.inl ⟨by omega, c⟩
  · exact Or.inr ⟨h.2 (fun d => c ((yqw_f hr).mp d)), c⟩
theorem yof_v {f : Int → Int} {p : yP} {t r rl : Int} (ht : t = rl) (hr : 0 ≤ rl ∧ rl ≤ 2) (h : (0 ≤ yqw (yPi f p) ∧ yqw (yPi f p) < 10 ∧ yalw t (yqw (yPi f p)) → r = yqw (yPi f p)) ∧ (¬ (0 ≤ yqw (yPi f p) ∧ yqw (yPi f p) < 10 ∧ yalw t (yqw (yPi f p))) → r = -1)) :
    (r = yqw (yPi f p) ∧ 0 ≤ r ∧ r < 10 ∧ yVal rl (yPi f p) = true) ∨ (r = -1 ∧ yVal rl (yPi f p) = false) := by
  subst ht
  by_cases c : yVal t (yPi f p) = true
  · have d := (yqw_v hr).mpr c
    have e := h.1 d
    exact Or.inl ⟨e, by omega, by omega, c⟩
  · exact Or.inr ⟨h.2 (fun d => c ((yqw_v hr).mp d)), Bool.eq_false_iff.mpr c⟩
theorem yJ_numb {r : Int} {f : Int → Int} {k : List Nat} {p : yP} (n : yNop r f p) (v : yVal r (yPi f p) = false) : yJ r f (1, k, p) (2, k, yPn f 0 9999 p) := by
  obtain ⟨n1, n2, n3, n4⟩ := n
  by_cases c : yPk f p = 2 ∨ yPk f p = 5
  · exact yJ_num c
  · have e : yPn f 0 9999 p = yPf 1 0 p := by
      unfold yPn
      rw [if_neg (by omega), if_neg (by omega)]
    rw [e]
    refine yJ_bad (by omega) n1 ⟨n2, n3⟩ ?_ v
    by_cases x : yPi f p = 20
    · exact Or.inr (fun y => n4 ⟨x, y⟩)
    · exact Or.inl x
theorem yPn_k {f : Int → Int} {lo hi : Int} {p : yP} (o : yPo (yPn f lo hi p) = 1) : yPk f p = 2 ∧ yPn f lo hi p = yPx f p := by
  unfold yPn at *
  by_cases a : yPk f p = 5
  · rw [if_pos a, yPo_pf] at o; exact absurd o (by decide)
  · rw [if_neg a] at o ⊢
    by_cases b : yPk f p = 2
    · rw [if_pos b] at o ⊢
      by_cases c : yPv f p < lo ∨ hi < yPv f p
      · rw [if_pos c, yPo_pf] at o; exact absurd o (by decide)
      · rw [if_neg c]; exact ⟨b, rfl⟩
    · rw [if_neg b, yPo_pf] at o; exact absurd o (by decide)
theorem yEnd {rl : Int} {f : Int → Int} {k : List Nat} {s s' : zSto} {p : yP} (h3 : ysm rl k s) (e : zOn zWe s s') (e1 : s 164 101 ≤ s' 164 99 ∧ s' 164 99 ≤ s 164 99 ∧ s' 164 100 = s 164 100 - (s 164 99 - s' 164 99))
    (e2 : ∀ i : Nat, s' 164 99 ≤ i → (i : Int) < s 164 99 → 60 ≤ s 235 i) (e3 : s' 164 99 = s 164 101 ∨ s 235 (s' 164 99 - 1).toNat < 60) : yJ rl f (2, ystk k s, p) (2, ystk k s', p) ∧ ysm rl k s' ∧ ynf s' := by
  obtain ⟨⟨a1, a2, a3⟩, w, d, t⟩ := h3
  have row : s' 235 = s 235 := funext (fun j => e 235 j rfl)
  have hb := e 164 101 rfl
  have ht := e 164 51 rfl
  obtain ⟨j1, j2⟩ := yofs (r := rl) (f := f) (w := s 235) (b := (s 164 101).toNat) (m := (s' 164 99 - s 164 101).toNat) (k := k) (p := p) (s 164 99 - s 164 101).toNat (by omega) (fun i h1 h2 => e2 _ (by omega) (by omega))
  refine ⟨?_, ⟨by omega, ?_, ?_, by omega⟩, ?_⟩
  · unfold ystk
    rw [row, hb]
    exact j1
  · rw [row, hb]
    exact ysw_m (by omega) w
  · rw [row, hb]
    omega
  · unfold ynf
    rw [row, hb]
    rcases e3 with x | x
    · exact Or.inl x
    · exact Or.inr (by omega)
theorem yPart_end {cb : Int} {rl : Int} {f : Int → Int} {k : List Nat} {M0 : Nat × List Nat × yP} {σ s t s1 s2 s' : zSto} {p p' : yP} (h : yLm cb rl f k M0 σ 1 s p) (hT : yTq f t) (hE : yqs f t = p) (n : yNop rl f p)
    (v : (yVal rl (yPi f p) = true ∧ p' = yPx f p) ∨ (yVal rl (yPi f p) = false ∧ p' = yPn f 0 9999 p)) (o : zOn zQ1 s s1) (c : zOn zWc s1 s2) (c7 : s2 164 97 = s1 164 97 + 1) (e : zOn zWe s2 s')
    (e1 : s' 164 97 + s' 164 99 = s2 164 97 + s2 164 99 ∧ s2 164 101 ≤ s' 164 99 ∧ s' 164 99 ≤ s2 164 99 ∧ s' 164 100 = s2 164 100 - (s2 164 99 - s' 164 99))
    (e2 : ∀ i : Nat, s' 164 99 ≤ i → (i : Int) < s2 164 99 → 60 ≤ s2 235 i) (e3 : s2 164 5 ≠ 0 ∨ s' 164 99 = s2 164 101 ∨ s2 235 (s' 164 99 - 1).toNat < 60) (hE' : yqs f s' = p') :
    yJ rl f M0 (2, ystk k s', p') ∧ (yPo p' = 1 → yLv cb rl k s' p' ∧ ynf s' ∧ s' 164 101 = σ 164 101 ∧ yKp (σ 164 101) σ s' ∧ yPq M0.2.2 + 1 ≤ yPq p') := by
  have J : ∀ K, yJ rl f (1, K, p) (2, K, p') := fun K => by
    rcases v with ⟨v, rfl⟩ | ⟨v, rfl⟩
    · exact yJ_val v
    · exact yJ_numb n v
  have h' := yLm_fr h o
  obtain ⟨h1, h2, ⟨h3, h4, h5⟩, h6, h7, h8⟩ := h'
  rcases yPo_b p' with x | x
  · have kx : yPk f p ≠ 0 ∧ p' = yPx f p := by
      rcases v with ⟨v, rfl⟩ | ⟨v, rfl⟩
      · refine ⟨ykn (Or.inr (Or.inl (fun z => ?_))), rfl⟩
        rw [z, yVal_m (Or.inl rfl)] at v; exact absurd v (by decide)
      · have y := yPn_k x; exact ⟨by omega, y.2⟩
    obtain ⟨s3, st⟩ := ysm_eq h3 (c 164 99 rfl) (c 164 100 rfl) (c 164 101 rfl) (c 164 51 rfl) (fun j => c 235 j rfl)
    have b0 : s2 164 5 = 0 := by rw [← e 164 5 rfl]; exact yHb1 hE' x
    obtain ⟨j1, m1, n1⟩ := yEnd (f := f) (p := p') s3 e ⟨e1.2.1, e1.2.2.1, e1.2.2.2⟩ e2 (e3.resolve_left (fun z => z b0))
    have xx := (yMq hT hE).1 h1
    have y4 := h4 h1
    have adv := xx.2.2.2 kx.1
    have g99 := c 164 99 rfl
    have g100 := c 164 100 rfl
    rw [← kx.2] at adv
    refine ⟨?_, fun _ => ⟨⟨m1, fun _ => by omega, by omega⟩, n1, ?_, fun j hj => ?_, by omega⟩⟩
    · rw [st] at j1; exact yJ_tr h2 (yJ_tr (J _) j1)
    · rw [e 164 101 rfl, c 164 101 rfl]; exact h6
    · rw [e 235 j rfl, c 235 j rfl]; exact h7 j hj
  · exact ⟨yJ_tr h2 (yJ_tr (J _) (yJ_any x)), fun y => absurd y (by omega)⟩
def yOf (rl : Int) (f : Int → Int) (p : yP) (r : Int) : Prop := (r = 10 ∧ yPi f p = 20 ∧ rl = 2) ∨ (r = -1 ∧ ¬ (yPi f p = 20 ∧ rl = 2))
theorem yOf_c {rl : Int} {f : Int → Int} {p : yP} {r : Int} (h : yOf rl f p r) : (r = 10 ∧ yPi f p = 20 ∧ rl = 2) ∨ (r = -1 ∧ ¬ (yPi f p = 20 ∧ rl = 2)) := h
def yVa (rl : Int) (f : Int → Int) (p : yP) (r : Int) : Prop := (r = yqw (yPi f p) ∧ 0 ≤ r ∧ r < 10 ∧ yVal rl (yPi f p) = true) ∨ (r = -1 ∧ yVal rl (yPi f p) = false)
theorem yVa_c {rl : Int} {f : Int → Int} {p : yP} {r : Int} (h : yVa rl f p r) : (r = yqw (yPi f p) ∧ 0 ≤ r ∧ r < 10 ∧ yVal rl (yPi f p) = true) ∨ (r = -1 ∧ yVal rl (yPi f p) = false) := h
theorem zi_a2 : ∀ k j, zQa k j = true → zQ2 k j = true := fun k j h => zi_12 k j (zi_a1 k j h)
theorem zi_o2 : ∀ k j, zQo k j = true → zQ2 k j = true := by
  intro k j h
  simp only [zQo, zQ2, Bool.or_eq_true, Bool.and_eq_true, beq_iff_eq, decide_eq_true_eq] at h ⊢
  rcases h with (h | h) | h
  · exact Or.inl (Or.inl (Or.inl h))
  · exact Or.inl (Or.inl (Or.inr ⟨h.1, by omega⟩))
  · exact Or.inr h
theorem zi_c2 : ∀ k j, zWc k j = true → zQ2 k j = true := by
  intro k j h
  simp only [zWc, zQ2, Bool.or_eq_true, Bool.and_eq_true, beq_iff_eq, decide_eq_true_eq] at h ⊢
  rcases h with h | h
  · exact Or.inl (Or.inl (Or.inr ⟨h.1, by omega⟩))
  · exact Or.inl (Or.inr h)
theorem zi_d2 : ∀ k j, zWd k j = true → zQ2 k j = true := by
  intro k j h
  simp only [zWd, Bool.or_eq_true] at h
  rcases h with h | h
  · exact zi_c2 k j h
  · simp only [zQ2, Bool.or_eq_true, Bool.and_eq_true, beq_iff_eq, decide_eq_true_eq] at h ⊢
    exact Or.inl (Or.inl (Or.inr ⟨h.1, by omega⟩))
theorem zi_e2 : ∀ k j, zWe k j = true → zQ2 k j = true := by
  intro k j h
  simp only [zWe, Bool.or_eq_true] at h
  rcases h with h | h
  · exact zi_d2 k j h
  · simp only [zQ2, Bool.or_eq_true, Bool.and_eq_true, beq_iff_eq, decide_eq_true_eq] at h ⊢
    exact Or.inl (Or.inl (Or.inr ⟨h.1, by omega⟩))
theorem yadv1 {f : Int → Int} {s : zSto} {p : yP} (hT : yTq f s) (hE : yqs f s = p) (o : yPo p = 1) (k : yPk f p ≠ 0) : yPq p + 1 ≤ yPq (yPx f p) := ((yMq hT hE).1 o).2.2.2 k
theorem yadv2 {f : Int → Int} {s t : zSto} {p : yP} (hT : yTq f s) (hE : yqs f s = p) (o : yPo p = 1) (gT : yTq f t) (gE : yqs f t = yPx f p) (k : yPk f (yPx f p) ≠ 0) : yPq p + 1 ≤ yPq (yPx f (yPx f p)) := by
  have a := ((yMq hT hE).1 o).2.2.1
  have b := yadv1 gT gE (yPo_px.trans o) k
  omega
theorem yat_lt {f : Int → Int} {s : zSto} {q : Int} (h : yTq f s) (ha : s 164 2 = q) (hc : 0 ≤ f q) : q + 1 ≤ 1600 := by
  have h3 := h.2.2.1
  rcases (show s 164 2 < s 164 3 ∨ s 164 3 ≤ s 164 2 by omega) with x | x
  · omega
  · have y := yU_out h.2.1 (k := q) (by omega); omega
