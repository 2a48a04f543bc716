theorem yT_1 {s : zSto} {k : Int} (h0 : 0 ≤ k) (h1 : k < s 1 1) : yT s k = s 2 k.toNat % 256 := if_pos ⟨h0, h1⟩
theorem yT_0 {s : zSto} {k : Int} (h : ¬ (0 ≤ k ∧ k < s 1 1)) : yT s k = -1 := if_neg h
theorem yand255 : ∀ i : Fin 256, (zI ((i.val : Int) - 128) &&& zI 255).toInt = ((i.val : Int) - 128) % 256 := by decide +kernel
theorem yT_b {s : zSto} {k v r : Int} (h0 : 0 ≤ k) (h1 : k < s 1 1) (hv : s 2 k.toNat = v) (hb : -128 ≤ v ∧ v ≤ 127) (e : r = (zI v &&& zI 255).toInt) : r = yT s k := by
  rw [yT_1 h0 h1, hv, e]
  have h := yand255 ⟨(v + 128).toNat, by omega⟩
  have g : (((⟨(v + 128).toNat, by omega⟩ : Fin 256).val : Int)) - 128 = v := by show ((v + 128).toNat : Int) - 128 = v; omega
  rw [g] at h
  exact h
theorem yT_tx {s : zSto} (hI : zInv s) : yTx (yT s) := by
  have b := zv_2_1 hI zc_1
  refine ⟨fun k => ?_, fun k h => yT_0 (by omega), fun k h => yT_0 (by omega)⟩
  unfold yT
  by_cases c : 0 ≤ k ∧ k < s 1 1
  · rw [if_pos c]; omega
  · rw [if_neg c]; omega
theorem yT_eq {s s' : zSto} (h1 : s' 1 1 = s 1 1) (h2 : ∀ j, s' 2 j = s 2 j) : yT s' = yT s := by
  funext k
  unfold yT
  rw [h1, h2]
def zR0 (k j : Nat) : Bool := (k == 27 && (j == 5 || j == 6 || j == 7 || j == 8)) || k == 29 || k == 30 || k == 31 || k == 32
theorem yT_on {s s' : zSto} (h : zOn zR0 s s') : yT s' = yT s := yT_eq (h 1 1 rfl) (fun j => h 2 j rfl)
theorem yTab_on {s s' : zSto} (h : zOn zR0 s s') (w : yTab s) : yTab s' := fun i hi => (h 28 i rfl).trans (w i hi)
theorem zR0_a {k j : Nat} (h : k = 29 ∨ k = 30 ∨ k = 31 ∨ k = 32) : zR0 k j = true := by
  rcases h with e | e | e | e <;> subst e <;> simp [zR0]
def yAdd (s s' : zSto) (a p v w : Int) : Prop :=
  (s' 27 5 = s 27 5 + 1 ∧ s' 27 6 = s 27 6 ∧ s' 27 7 = s 27 7 ∧ s' 27 8 = s 27 8) ∧ (∀ k, 29 ≤ k → k ≤ 32 → ∀ j, j ≠ (s 27 5).toNat → s' k j = s k j)
    ∧ s' 29 (s 27 5).toNat = a ∧ s' 30 (s 27 5).toNat = p ∧ s' 31 (s 27 5).toNat = v ∧ s' 32 (s 27 5).toNat = w
theorem yAdd_of {s t1 t2 t3 t4 s' : zSto} {a p v w : Int} {c j2 j3 j4 : Nat} {n : Int} (hc : (s 27 5).toNat = c) (e1 : zset s 29 c a = t1) (e2 : zset t1 30 j2 p = t2) (e3 : zset t2 31 j3 v = t3) (e4 : zset t3 32 j4 w = t4) (e5 : zset t4 27 5 n = s')
    (h2 : j2 = c) (h3 : j3 = c) (h4 : j4 = c) (hn : n = s 27 5 + 1) : yAdd s s' a p v w := by
  subst hc; subst h2; subst h3; subst h4; subst hn
  subst e1; subst e2; subst e3; subst e4; subst e5
  refine ⟨⟨zset_s, ?_, ?_, ?_⟩, ?_, ?_, ?_, ?_, ?_⟩
  · rw [zset_j (by decide), zset_k (by decide), zset_k (by decide), zset_k (by decide), zset_k (by decide)]
  · rw [zset_j (by decide), zset_k (by decide), zset_k (by decide), zset_k (by decide), zset_k (by decide)]
  · rw [zset_j (by decide), zset_k (by decide), zset_k (by decide), zset_k (by decide), zset_k (by decide)]
  · intro k hk1 hk2 j hj
    rw [zset_k (by omega)]
    rcases (show k = 29 ∨ k = 30 ∨ k = 31 ∨ k = 32 by omega) with e | e | e | e <;> subst e
    · rw [zset_k (by decide), zset_k (by decide), zset_k (by decide), zset_j hj]
    · rw [zset_k (by decide), zset_k (by decide), zset_j hj, zset_k (by decide)]
    · rw [zset_k (by decide), zset_j hj, zset_k (by decide), zset_k (by decide)]
    · rw [zset_j hj, zset_k (by decide), zset_k (by decide), zset_k (by decide)]
  · rw [zset_k (by decide), zset_k (by decide), zset_k (by decide), zset_k (by decide)]; exact zset_s
  · rw [zset_k (by decide), zset_k (by decide), zset_k (by decide)]; exact zset_s
  · rw [zset_k (by decide), zset_k (by decide)]; exact zset_s
  · rw [zset_k (by decide)]; exact zset_s
def yVok (f : Int → Int) (p v : Int) : Prop := (yK f p = 1 ∨ yK f p = 4 → v = yC f p) ∧ (yK f p = 2 ∨ yK f p = 5 → v = yV f p) ∧ (yK f p = 3 → v = f p)
def yCut (f : Int → Int) (s s' : zSto) (p : Int) : Prop := ∃ v, yAdd s s' (yK f p) p v (yI f p) ∧ yVok f p v
def yRows (f : Int → Int) (s : zSto) (p : Int) : Prop :=
  (∀ i : Nat, (i : Int) < s 27 5 → yTok f s i ∧ 0 ≤ f (s 30 i)) ∧ (∀ i : Nat, (i : Int) + 1 < s 27 5 → s 30 (i + 1) = yX f (s 30 i))
    ∧ (0 < s 27 5 → yX f (s 30 (s 27 5 - 1).toNat) = yS f p ∧ s 30 0 = yS f 0) ∧ (s 27 5 = 0 → yS f 0 = yS f p) ∧ (0 ≤ s 27 5 ∧ s 27 5 ≤ p ∧ p ≤ 1600) ∧ (s 27 6 = 0 ∧ s 27 7 = 0 ∧ s 27 8 = -1)
theorem yRows_0 {f : Int → Int} {s : zSto} (h5 : s 27 5 = 0) (h6 : s 27 6 = 0) (h7 : s 27 7 = 0) (h8 : s 27 8 = -1) : yRows f s 0 := by
  refine ⟨fun i h => absurd h (by omega), fun i h => absurd h (by omega), fun h => absurd h (by omega), fun _ => rfl, by omega, h6, h7, h8⟩
theorem yRows_b {f : Int → Int} {s : zSto} {p : Int} (hf : yTx f) (h : yRows f s p) (hb : f p = 10 ∨ f p = 32) : yRows f s (p + 1) := by
  obtain ⟨h1, h2, h3, h4, h5, h6⟩ := h
  have e : yS f p = yS f (p + 1) := yE_s hf yB_m (by omega) (yB_t.mpr hb)
  have hp : p < 1600 := by
    rcases (show p < 1600 ∨ 1600 ≤ p by omega) with c | c
    · exact c
    · have := hf.2.2 p c; omega
  rw [e] at h3 h4
  exact ⟨h1, h2, h3, h4, by omega, h6⟩
theorem yK_1p {f : Int → Int} {p : Int} (h : yK f p ≠ 0) : 0 ≤ f p := by
  rcases (show f p < 0 ∨ 0 ≤ f p by omega) with c | c
  · exact absurd (yK_0.mpr c) h
  · exact c
theorem yAdd_row {s s' : zSto} {a p v w : Int} (h : yAdd s s' a p v w) (hc : 0 ≤ s 27 5) {k : Nat} (hk : 29 ≤ k ∧ k ≤ 32) {j : Nat} (hj : (j : Int) < s 27 5) : s' k j = s k j := h.2.1 k hk.1 hk.2 j (by omega)
theorem yRows_a {f : Int → Int} {s s' : zSto} {p p' : Int} (hf : yTx f) (h : yRows f s p) (hc : yCut f s s' p) (h0 : 0 ≤ f p) (hb : ¬ (f p = 10 ∨ f p = 32)) (hx : yX f p = yS f p') (hp : p + 1 ≤ p' ∧ p' ≤ 1600) : yRows f s' p' := by
  obtain ⟨v, ha, hv⟩ := hc
  obtain ⟨h1, h2, h3, h4, h5, h6⟩ := h
  obtain ⟨⟨a5, a6, a7, a8⟩, a9, b1, b2, b3, b4⟩ := ha
  have row : ∀ k, 29 ≤ k → k ≤ 32 → ∀ j : Nat, (j : Int) < s 27 5 → s' k j = s k j := fun k k1 k2 j hj => a9 k k1 k2 j (by omega)
  have hs : yS f p = p := yE_n (Bool.eq_false_iff.mpr (fun c => hb (yB_t.mp c)))
  have tok : ∀ i : Nat, (i : Int) < s' 27 5 → yTok f s' i ∧ 0 ≤ f (s' 30 i) := by
    intro i hi
    by_cases c : (i : Int) < s 27 5
    · unfold yTok
      rw [row 29 (by decide) (by decide) i c, row 30 (by decide) (by decide) i c, row 31 (by decide) (by decide) i c, row 32 (by decide) (by decide) i c]
      exact h1 i c
    · have e : i = (s 27 5).toNat := by omega
      rw [e]
      unfold yTok
      rw [b1, b2, b3, b4]
      exact ⟨⟨by omega, rfl, hv.1, hv.2.1, hv.2.2, rfl, Bool.eq_false_iff.mpr (fun c => hb (yB_t.mp c))⟩, h0⟩
  refine ⟨tok, ?_, ?_, fun e => absurd e (by omega), by omega, by omega⟩
  · intro i hi
    by_cases c : (i : Int) + 1 < s 27 5
    · rw [row 30 (by decide) (by decide) i (by omega), row 30 (by decide) (by decide) (i + 1) (by omega)]
      exact h2 i c
    · have e : i + 1 = (s 27 5).toNat := by omega
      rw [e, b2, row 30 (by decide) (by decide) i (by omega)]
      have q := (h3 (by omega)).1
      rw [show (s 27 5 - 1).toNat = i by omega] at q
      rw [q, hs]
  · intro _
    have e : (s' 27 5 - 1).toNat = (s 27 5).toNat := by omega
    rw [e, b2]
    refine ⟨hx, ?_⟩
    by_cases c : s 27 5 = 0
    · have q : s' 30 0 = p := by rw [← b2, show (s 27 5).toNat = 0 by omega]
      rw [q, h4 c, hs]
    · rw [row 30 (by decide) (by decide) 0 (by omega)]
      exact (h3 (by omega)).2
theorem yRows_e {f : Int → Int} {s t s' : zSto} {p v : Int} {n : Int} (hf : yTx f) (h : yRows f s p) (ha : yAdd s t 0 p v (-1)) (h0 : f p < 0) (e : zset t 27 5 n = s') (hn : n = s 27 5) : yTk f s' ∧ yst s' = .ok (yS f 0) := by
  obtain ⟨h1, h2, h3, h4, h5, h6⟩ := h
  obtain ⟨⟨a5, a6, a7, a8⟩, a9, b1, b2, b3, b4⟩ := ha
  have c5 : s' 27 5 = s 27 5 := by rw [← e, zset_s, hn]
  have c6 : s' 27 6 = 0 := by rw [← e, zset_j (by decide), a6]; exact h6.1
  have c7 : s' 27 7 = 0 := by rw [← e, zset_j (by decide), a7]; exact h6.2.1
  have c8 : s' 27 8 = -1 := by rw [← e, zset_j (by decide), a8]; exact h6.2.2
  have ct : ∀ k, 29 ≤ k → k ≤ 32 → ∀ j, s' k j = t k j := fun k k1 k2 j => by rw [← e]; exact zset_k (by omega)
  have row : ∀ k, 29 ≤ k → k ≤ 32 → ∀ j : Nat, (j : Int) < s 27 5 → s' k j = s k j := fun k k1 k2 j hj => (ct k k1 k2 j).trans (a9 k k1 k2 j (by omega))
  have hs : yS f p = p := yE_n (Bool.eq_false_iff.mpr (fun c => by have := yB_t.mp c; omega))
  have hk : yK f p = 0 := yK_0.mpr h0
  have hi : yI f p = -1 := if_neg (by omega)
  have last : s' 30 (s 27 5).toNat = p := by rw [ct 30 (by decide) (by decide)]; exact b2
  refine ⟨⟨hf, by omega, ?_, ?_, ?_, fun _ => c8⟩, ?_⟩
  · intro i hi'
    rw [c5] at hi'
    by_cases c : (i : Int) < s 27 5
    · unfold yTok
      rw [row 29 (by decide) (by decide) i c, row 30 (by decide) (by decide) i c, row 31 (by decide) (by decide) i c, row 32 (by decide) (by decide) i c]
      exact (h1 i c).1
    · have e2 : i = (s 27 5).toNat := by omega
      rw [e2]
      unfold yTok
      rw [last, ct 29 (by decide) (by decide), ct 31 (by decide) (by decide), ct 32 (by decide) (by decide), b1, b3, b4, hk, hi]
      exact ⟨by omega, rfl, fun c => by omega, fun c => by omega, fun c => by omega, rfl, Bool.eq_false_iff.mpr (fun c => by have := yB_t.mp c; omega)⟩
  · intro i hi'
    rw [c5] at hi'
    rw [row 30 (by decide) (by decide) i hi']
    refine ⟨(h1 i hi').2, ?_⟩
    by_cases c : (i : Int) + 1 < s 27 5
    · rw [row 30 (by decide) (by decide) (i + 1) (by omega)]
      exact h2 i c
    · have e2 : i + 1 = (s 27 5).toNat := by omega
      have q := (h3 (by omega)).1
      rw [show (s 27 5 - 1).toNat = i by omega] at q
      rw [e2, last, q, hs]
  · rw [c5, last]; exact h0
  · rw [yst_1 c7, c6]
    show yP.ok (s' 30 0) = _
    by_cases c : s 27 5 = 0
    · have q : s' 30 0 = p := by rw [← last, show (s 27 5).toNat = 0 by omega]
      rw [q, h4 c, hs]
    · rw [row 30 (by decide) (by decide) 0 (by omega), (h3 (by omega)).2]
def ycs (f : Int → Int) (p : Int) : Nat → Int
  | 0 => 0
  | n + 1 => ycs f p n + (f (p + n) - 96) * zlw n
theorem ycs_6 {f : Int → Int} {p : Int} {n : Nat} (hn : n ≤ 6) (h : (n : Int) = yWe f p - p ∨ (n = 6 ∧ 6 ≤ yWe f p - p)) : ycs f p n = yC f p := by
  have d : ∀ i : Int, 0 ≤ i → i < n → yd f p i = f (p + i) - 96 := fun i h0 h1 => if_pos (by omega)
  have z : ∀ i : Int, n ≤ i → i < 6 → yd f p i = 0 := fun i h0 h1 => if_neg (by omega)
  unfold yC
  rcases (show n = 0 ∨ n = 1 ∨ n = 2 ∨ n = 3 ∨ n = 4 ∨ n = 5 ∨ n = 6 by omega) with e | e | e | e | e | e | e <;> subst e
  · rw [z 0 (by omega) (by omega), z 1 (by omega) (by omega), z 2 (by omega) (by omega), z 3 (by omega) (by omega), z 4 (by omega) (by omega), z 5 (by omega) (by omega)]; rfl
  · rw [d 0 (by omega) (by omega), z 1 (by omega) (by omega), z 2 (by omega) (by omega), z 3 (by omega) (by omega), z 4 (by omega) (by omega), z 5 (by omega) (by omega)]
    simp only [ycs, zlw]; simp; omega
  · rw [d 0 (by omega) (by omega), d 1 (by omega) (by omega), z 2 (by omega) (by omega), z 3 (by omega) (by omega), z 4 (by omega) (by omega), z 5 (by omega) (by omega)]
    simp only [ycs, zlw]; simp; omega
  · rw [d 0 (by omega) (by omega), d 1 (by omega) (by omega), d 2 (by omega) (by omega), z 3 (by omega) (by omega), z 4 (by omega) (by omega), z 5 (by omega) (by omega)]
    simp only [ycs, zlw]; simp; omega
  · rw [d 0 (by omega) (by omega), d 1 (by omega) (by omega), d 2 (by omega) (by omega), d 3 (by omega) (by omega), z 4 (by omega) (by omega), z 5 (by omega) (by omega)]
    simp only [ycs, zlw]; simp; omega
  · rw [d 0 (by omega) (by omega), d 1 (by omega) (by omega), d 2 (by omega) (by omega), d 3 (by omega) (by omega), d 4 (by omega) (by omega), z 5 (by omega) (by omega)]
    simp only [ycs, zlw]; simp; omega
  · rw [d 0 (by omega) (by omega), d 1 (by omega) (by omega), d 2 (by omega) (by omega), d 3 (by omega) (by omega), d 4 (by omega) (by omega), d 5 (by omega) (by omega)]
    simp only [ycs, zlw]; simp; omega
theorem ycs_b {f : Int → Int} {p : Int} {n : Nat} (hn : n ≤ 6) (h : ∀ j, p ≤ j → j < p + n → yL (f j) = true) : 0 ≤ ycs f p n ∧ ycs f p n ≤ 387420488 := by
  have d : ∀ i : Int, 0 ≤ i → i < n → 1 ≤ f (p + i) - 96 ∧ f (p + i) - 96 ≤ 26 := fun i h0 h1 => by
    have := yL_t.mp (h (p + i) (by omega) (by omega)); omega
  rcases (show n = 0 ∨ n = 1 ∨ n = 2 ∨ n = 3 ∨ n = 4 ∨ n = 5 ∨ n = 6 by omega) with e | e | e | e | e | e | e <;> subst e
  · exact ⟨Int.le_refl _, by show (0 : Int) ≤ 387420488; decide⟩
  · have d0 := d 0 (by omega) (by omega); simp only [ycs, zlw]; simp at *; omega
  · have d0 := d 0 (by omega) (by omega); have d1 := d 1 (by omega) (by omega); simp only [ycs, zlw]; simp at *; omega
  · have d0 := d 0 (by omega) (by omega); have d1 := d 1 (by omega) (by omega); have d2 := d 2 (by omega) (by omega); simp only [ycs, zlw]; simp at *; omega
  · have d0 := d 0 (by omega) (by omega); have d1 := d 1 (by omega) (by omega); have d2 := d 2 (by omega) (by omega); have d3 := d 3 (by omega) (by omega); simp only [ycs, zlw]; simp at *; omega
  · have d0 := d 0 (by omega) (by omega); have d1 := d 1 (by omega) (by omega); have d2 := d 2 (by omega) (by omega); have d3 := d 3 (by omega) (by omega); have d4 := d 4 (by omega) (by omega); simp only [ycs, zlw]; simp at *; omega
  · have d0 := d 0 (by omega) (by omega); have d1 := d 1 (by omega) (by omega); have d2 := d 2 (by omega) (by omega); have d3 := d 3 (by omega) (by omega); have d4 := d 4 (by omega) (by omega); have d5 := d 5 (by omega) (by omega); simp only [ycs, zlw]; simp at *; omega
theorem yX_l {f : Int → Int} {p : Int} (h : yL (f p) = true) : yX f p = yS f (yWe f p) := by
  have b := yL_t.mp h
  unfold yX; rw [if_neg (by omega), if_pos h]
theorem yLD {b : Int} (h : yD b = true) : yL b = false := by
  have x := yD_t.mp h
  exact Bool.eq_false_iff.mpr (fun c => by have := yL_t.mp c; omega)
theorem yX_d {f : Int → Int} {p : Int} (h : yD (f p) = true) : yX f p = yS f (yNe f p) := by
  have b := yD_t.mp h
  unfold yX; rw [if_neg (by omega), yLD h, if_neg (by decide), if_pos h]
theorem yWe_b {f : Int → Int} {p : Int} (hf : yTx f) (hp : 0 ≤ p ∧ p ≤ 1600) (h : yL (f p) = true) : p + 1 ≤ yWe f p ∧ yWe f p ≤ 1600 := by
  have e : yWe f p = yWe f (p + 1) := yE_s hf yL_m hp.1 h
  have a : p + 1 ≤ yWe f (p + 1) := yE_b
  have c : yWe f p ≤ 1600 := yE_m hf yL_m hp
  omega
theorem yNe_b {f : Int → Int} {p : Int} (hf : yTx f) (hp : 0 ≤ p ∧ p ≤ 1600) (h : yD (f p) = true) : p + 1 ≤ yNe f p ∧ yNe f p ≤ 1600 := by
  have e : yNe f p = yNe f (p + 1) := yE_s hf yD_m hp.1 h
  have a : p + 1 ≤ yNe f (p + 1) := yE_b
  have c : yNe f p ≤ 1600 := yE_m hf yD_m hp
  omega
theorem yRows_w {f : Int → Int} {s s' : zSto} {p r : Int} (hf : yTx f) (h : yRows f s p) (hc : yCut f s s' p) (hl : yL (f p) = true) (hr : r = yWe f p - p) : yRows f s' (p + r) := by
  have b := yL_t.mp hl
  have w := h.2.2.2.2.1
  have g := yWe_b hf (by omega) hl
  have e : p + r = yWe f p := by omega
  exact yRows_a hf h hc (by omega) (by omega) (by rw [yX_l hl, e]) (by omega)
theorem yRows_d {f : Int → Int} {s s' : zSto} {p r : Int} (hf : yTx f) (h : yRows f s p) (hc : yCut f s s' p) (hl : yD (f p) = true) (hr : r = yNe f p - p) : yRows f s' (p + r) := by
  have b := yD_t.mp hl
  have w := h.2.2.2.2.1
  have g := yNe_b hf (by omega) hl
  have e : p + r = yNe f p := by omega
  exact yRows_a hf h hc (by omega) (by omega) (by rw [yX_d hl, e]) (by omega)
theorem yRows_g {f : Int → Int} {s s' : zSto} {p : Int} (hf : yTx f) (h : yRows f s p) (hc : yAdd s s' 3 p (f p) (-1)) (h0 : 0 ≤ f p) (hl : ¬ (97 ≤ f p ∧ f p ≤ 122)) (hd : ¬ (48 ≤ f p ∧ f p ≤ 57)) (hb : ¬ (f p = 10 ∨ f p = 32)) : yRows f s' (p + 1) := by
  have l : yL (f p) = false := Bool.eq_false_iff.mpr (fun c => hl (yL_t.mp c))
  have d : yD (f p) = false := Bool.eq_false_iff.mpr (fun c => hd (yD_t.mp c))
  have k : yK f p = 3 := yK_3.mpr ⟨h0, l, d⟩
  have i : yI f p = -1 := if_neg (by omega)
  have w := h.2.2.2.2.1
  have hp : p < 1600 := by
    rcases (show p < 1600 ∨ 1600 ≤ p by omega) with c | c
    · exact c
    · have := hf.2.2 p c; omega
  refine yRows_a hf h ⟨f p, by rw [k, i]; exact hc, ?_⟩ h0 hb ?_ (by omega)
  · exact ⟨fun c => by omega, fun c => by omega, fun _ => rfl⟩
  · unfold yX; rw [if_neg (by omega), l, if_neg (by decide), d, if_neg (by decide)]
theorem ykw_1 {s : zSto} {c i : Int} (h : yTab s) (hi : 0 ≤ i ∧ i < 33) (e : s 28 i.toNat = c) : i = yWn c := by
  have k := (yWn_is (c := c) (i := i.toNat) (by omega)).mpr (by rw [← e]; exact h i.toNat (by omega))
  omega
theorem ykw_0 {c i : Int} (h : ∀ j : Nat, (j : Int) < i → yWc j ≠ c) (hi : 33 ≤ i) : -1 = yWn c := (yWn_no (fun j hj => h j (by omega))).symm
theorem ykw_s {s : zSto} {c i v : Int} (hW : yTab s) (h : ∀ j : Nat, (j : Int) < i → yWc j ≠ c) (hi : 0 ≤ i ∧ i < 33) (e : s 28 i.toNat = v) (hv : v ≠ c) : ∀ j : Nat, (j : Int) < i + 1 → yWc j ≠ c := by
  intro j hj
  by_cases x : (j : Int) < i
  · exact h j x
  · have y : j = i.toNat := by omega
    rw [y, ← hW i.toNat (by omega), e]; exact hv
def yct (f : Int → Int) (p n : Int) : Int := ycs f p (if n < 6 then n.toNat else 6)
theorem yct_0 {f : Int → Int} {p : Int} : yct f p 0 = 0 := rfl
theorem yct_s {f : Int → Int} {p n c d b v : Int} (hn : 0 ≤ n ∧ n < 6) (h : yct f p n = c) (hb : b = f (p + n)) (hv : zlw n.toNat = v) (e : (b - 96) * v = d) : yct f p (n + 1) = c + d := by
  unfold yct at h ⊢
  rw [if_pos hn.2] at h
  have k : (if n + 1 < 6 then (n + 1).toNat else 6) = n.toNat + 1 := by split <;> omega
  rw [k]
  show ycs f p n.toNat + (f (p + (n.toNat : Int)) - 96) * zlw n.toNat = c + d
  rw [h, hv, show (n.toNat : Int) = n by omega, ← hb, e]
theorem yct_t {f : Int → Int} {p n c : Int} (hn : 6 ≤ n) (h : yct f p n = c) : yct f p (n + 1) = c := by
  unfold yct at h ⊢
  rw [if_neg (by omega)] at h ⊢
  exact h
theorem yct_b {f : Int → Int} {p n c : Int} (hn : 0 ≤ n) (h : yct f p n = c) (ha : ∀ j, p ≤ j → j < p + n → yL (f j) = true) : 0 ≤ c ∧ c ≤ 387420488 := by
  unfold yct at h
  rw [← h]
  by_cases k : n < 6
  · rw [if_pos k]; exact ycs_b (by omega) (fun j h1 h2 => ha j h1 (by omega))
  · rw [if_neg k]; exact ycs_b (by omega) (fun j h1 h2 => ha j h1 (by omega))
theorem yct_e {f : Int → Int} {p n c : Int} (hn : 0 ≤ n) (h : yct f p n = c) (he : yWe f p = p + n) : c = yC f p := by
  unfold yct at h
  rw [← h]
  by_cases k : n < 6
  · rw [if_pos k]; exact ycs_6 (by omega) (Or.inl (by omega))
  · rw [if_neg k]; exact ycs_6 (by omega) (Or.inr ⟨rfl, by omega⟩)
theorem yall_s {g : Int → Bool} {f : Int → Int} {p x : Int} (h : ∀ j, p ≤ j → j < x → g (f j) = true) (hx : g (f x) = true) : ∀ j, p ≤ j → j < x + 1 → g (f j) = true := by
  intro j h1 h2
  by_cases c : j < x
  · exact h j h1 c
  · rw [show j = x by omega]; exact hx
theorem ycw6 {f : Int → Int} {s s' : zSto} {p : Int} (hl : yL (f p) = true) (hd : 48 ≤ f (p - 1) ∧ f (p - 1) ≤ 57) (h : yAdd s s' 6 p (-1) (-1)) : yCut f s s' p := by
  have b := yL_t.mp hl
  have k : yK f p = 6 := by unfold yK; rw [if_neg (by omega), if_pos hl, if_pos (yD_t.mpr hd)]
  have i : yI f p = -1 := if_neg (by omega)
  exact ⟨-1, by rw [k, i]; exact h, fun c => by omega, fun c => by omega, fun c => by omega⟩
theorem ycw4 {f : Int → Int} {s s' : zSto} {p n c : Int} (hl : yL (f p) = true) (hd : ¬ (48 ≤ f (p - 1) ∧ f (p - 1) ≤ 57)) (he : yWe f p = p + n) (hn : 6 < n) (hc : yct f p n = c) (h : yAdd s s' 4 p c (-1)) : yCut f s s' p := by
  have b := yL_t.mp hl
  have k : yK f p = 4 := by unfold yK; rw [if_neg (by omega), if_pos hl, if_neg (fun x => hd (yD_t.mp x)), if_pos (by omega)]
  have i : yI f p = -1 := if_neg (by omega)
  exact ⟨c, by rw [k, i]; exact h, fun _ => yct_e (by omega) hc he, fun c => by omega, fun c => by omega⟩
theorem ycw1 {f : Int → Int} {s s' : zSto} {p n c w : Int} (hl : yL (f p) = true) (hd : ¬ (48 ≤ f (p - 1) ∧ f (p - 1) ≤ 57)) (he : yWe f p = p + n) (hn : 0 ≤ n ∧ n ≤ 6) (hc : yct f p n = c) (hw : w = yWn c) (h : yAdd s s' 1 p c w) : yCut f s s' p := by
  have b := yL_t.mp hl
  have k : yK f p = 1 := by unfold yK; rw [if_neg (by omega), if_pos hl, if_neg (fun x => hd (yD_t.mp x)), if_neg (by omega)]
  have e := yct_e hn.1 hc he
  have i : yI f p = w := by unfold yI; rw [if_pos k, ← e, hw]
  exact ⟨c, by rw [k, i]; exact h, fun _ => e, fun c => by omega, fun c => by omega⟩
def yNt (f : Int → Int) (p n : Int) : Int := yNv f p (if n < 4 then n.toNat else 4)
theorem yNt_s {f : Int → Int} {p n c b : Int} (hn : 0 ≤ n ∧ n < 4) (h : yNt f p n = c) (hb : b = f (p + n)) : yNt f p (n + 1) = c * 10 + b - 48 := by
  unfold yNt at h ⊢
  rw [if_pos hn.2] at h
  have k : (if n + 1 < 4 then (n + 1).toNat else 4) = n.toNat + 1 := by split <;> omega
  rw [k]
  show 10 * yNv f p n.toNat + (f (p + (n.toNat : Int)) - 48) = _
  rw [h, show (n.toNat : Int) = n by omega, ← hb]; omega
theorem yNt_t {f : Int → Int} {p n c : Int} (hn : 4 ≤ n) (h : yNt f p n = c) : yNt f p (n + 1) = c := by
  unfold yNt at h ⊢
  rw [if_neg (by omega)] at h ⊢
  exact h
theorem yNt_b {f : Int → Int} {p n c : Int} (hn : 0 ≤ n) (h : yNt f p n = c) (ha : ∀ j, p ≤ j → j < p + n → yD (f j) = true) : 0 ≤ c ∧ c ≤ 9999 := by
  unfold yNt at h
  rw [← h]
  have key : ∀ m : Nat, m ≤ 4 → (m : Int) ≤ n → 0 ≤ yNv f p m ∧ yNv f p m ≤ 9999 := by
    intro m hm hn
    have b := yNv_b (f := f) (p := p) m (fun j h1 h2 => ha j h1 (by omega))
    rcases (show m = 0 ∨ m = 1 ∨ m = 2 ∨ m = 3 ∨ m = 4 by omega) with c | c | c | c | c
    all_goals (rw [c] at b ⊢; omega)
  by_cases k : n < 4
  · rw [if_pos k]; exact key _ (by omega) (by omega)
  · rw [if_neg k]; exact key _ (by omega) (by omega)
theorem yNt_e {f : Int → Int} {p n c : Int} (hn : 0 ≤ n) (h : yNt f p n = c) (he : yNe f p = p + n) : c = yV f p := by
  unfold yNt at h
  unfold yV
  rw [← h, he, show p + n - p = n by omega]
  by_cases k : n < 4
  · rw [if_pos k, if_neg (by omega)]
  · rw [if_neg k]
    by_cases j : 4 < n
    · rw [if_pos j]
    · rw [if_neg j, show n.toNat = 4 by omega]
theorem ycn6 {f : Int → Int} {s s' : zSto} {p : Int} (hl : yD (f p) = true) (hd : 97 ≤ f (p - 1) ∧ f (p - 1) ≤ 122) (h : yAdd s s' 6 p (-1) (-1)) : yCut f s s' p := by
  have b := yD_t.mp hl
  have k : yK f p = 6 := by unfold yK; rw [if_neg (by omega), yLD hl, if_neg (by decide), if_pos hl, if_pos (yL_t.mpr hd)]
  have i : yI f p = -1 := if_neg (by omega)
  exact ⟨-1, by rw [k, i]; exact h, fun c => by omega, fun c => by omega, fun c => by omega⟩
theorem ycn5 {f : Int → Int} {s s' : zSto} {p n c : Int} (hl : yD (f p) = true) (hd : ¬ (97 ≤ f (p - 1) ∧ f (p - 1) ≤ 122)) (he : yNe f p = p + n) (hn : 4 < n) (hc : yNt f p n = c) (h : yAdd s s' 5 p c (-1)) : yCut f s s' p := by
  have b := yD_t.mp hl
  have k : yK f p = 5 := by unfold yK; rw [if_neg (by omega), yLD hl, if_neg (by decide), if_pos hl, if_neg (fun x => hd (yL_t.mp x)), if_pos (by omega)]
  have i : yI f p = -1 := if_neg (by omega)
  exact ⟨c, by rw [k, i]; exact h, fun c => by omega, fun _ => yNt_e (by omega) hc he, fun c => by omega⟩
theorem ycn2 {f : Int → Int} {s s' : zSto} {p n c : Int} (hl : yD (f p) = true) (hd : ¬ (97 ≤ f (p - 1) ∧ f (p - 1) ≤ 122)) (he : yNe f p = p + n) (hn : 0 ≤ n ∧ n ≤ 4) (hc : yNt f p n = c) (h : yAdd s s' 2 p c (-1)) : yCut f s s' p := by
  have b := yD_t.mp hl
  have k : yK f p = 2 := by unfold yK; rw [if_neg (by omega), yLD hl, if_neg (by decide), if_pos hl, if_neg (fun x => hd (yL_t.mp x)), if_neg (by omega)]
  have i : yI f p = -1 := if_neg (by omega)
  exact ⟨c, by rw [k, i]; exact h, fun c => by omega, fun _ => yNt_e hn.1 hc he, fun c => by omega⟩
theorem ywr_eq {r x : Int} (h : r = (zI x).toInt) : -2147483648 ≤ x → x ≤ 2147483647 → r = x := fun a b => by rw [h, zI_t a b]
theorem ymul {r a v : Int} (h : -2147483648 ≤ a * v → a * v ≤ 2147483647 → r = a * v) (ha : 0 ≤ a ∧ a ≤ 26) (hv : 1 ≤ v ∧ v ≤ 14348907) : a * v = r ∧ 0 ≤ r ∧ r ≤ 373071582 := by
  have b := zmul_b (x := a) (y := v) (a := 26) (b := 14348907) ha.1 ha.2 (by omega) hv.2
  have e := h (by omega) (by omega)
  rw [← e] at b
  exact ⟨e.symm, by omega, by omega⟩
theorem yT_nn {s : zSto} {k : Int} (h0 : 0 ≤ k) (h1 : k < s 1 1) : 0 ≤ yT s k := by rw [yT_1 h0 h1]; omega
