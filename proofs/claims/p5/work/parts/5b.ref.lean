def yU (s : zSto) : Int → Int := fun k => if 0 ≤ k ∧ k < s 164 3 then s 165 k.toNat else -1
def yqs (f : Int → Int) (s : zSto) : yP := if s 164 5 = 0 then .ok (yS f (s 164 2)) else .no (s 164 5) (s 164 6)
def yAl (f : Int → Int) (p : Int) : Prop := yL (f (p - 1)) = true ∨ yD (f (p - 1)) = true
def yBd (f : Int → Int) (p : Int) : Prop := ¬ (yL (f (p - 1)) = true ∧ yL (f p) = true) ∧ ¬ (yD (f (p - 1)) = true ∧ yD (f p) = true)
def yTq (f : Int → Int) (s : zSto) : Prop :=
  yTx f ∧ yU s = f ∧ (0 ≤ s 164 2 ∧ s 164 2 ≤ s 164 3 ∧ s 164 3 ≤ 1600) ∧ (s 164 5 = 0 → s 164 4 ≤ s 164 2 ∧ (s 164 4 = s 164 2 ↔ yAl f (s 164 2)) ∧ s 164 6 = -1 ∧ yBd f (s 164 2))
def yRq (s s' : zSto) : Prop := (∀ j, s' 165 j = s 165 j) ∧ s' 164 2 = s 164 2 ∧ s' 164 3 = s 164 3 ∧ s' 164 4 = s 164 4 ∧ s' 164 5 = s 164 5 ∧ s' 164 6 = s 164 6
theorem yU_eq {s s' : zSto} (h3 : s' 164 3 = s 164 3) (ht : ∀ j, s' 165 j = s 165 j) : yU s' = yU s := by
  funext k; unfold yU; rw [h3, ht]
theorem yTq_rk {f : Int → Int} {s s' : zSto} (h : yTq f s) (r : yRq s s') : yTq f s' := by
  obtain ⟨r0, r2, r3, r4, r5, r6⟩ := r
  obtain ⟨h1, h2, h3, h4⟩ := h
  refine ⟨h1, (yU_eq r3 r0).trans h2, by omega, ?_⟩
  rw [r2, r4, r5, r6]; exact h4
theorem yqs_rk {f : Int → Int} {s s' : zSto} (r : yRq s s') : yqs f s' = yqs f s := by
  obtain ⟨r0, r2, r3, r4, r5, r6⟩ := r
  unfold yqs; rw [r2, r5, r6]
theorem yqs_1 {f : Int → Int} {s : zSto} (h : s 164 5 = 0) : yqs f s = .ok (yS f (s 164 2)) := if_pos h
theorem yqs_0 {f : Int → Int} {s : zSto} (h : s 164 5 ≠ 0) : yqs f s = .no (s 164 5) (s 164 6) := if_neg h
theorem yU_at {f : Int → Int} {s : zSto} (h : yU s = f) {k : Int} (h0 : 0 ≤ k) (h1 : k < s 164 3) : s 165 k.toNat = f k := by
  rw [← h]; exact (if_pos ⟨h0, h1⟩).symm
theorem yU_out {f : Int → Int} {s : zSto} (h : yU s = f) {k : Int} (h1 : ¬ (0 ≤ k ∧ k < s 164 3)) : f k = -1 := by
  rw [← h]; exact if_neg h1
def zQa (k j : Nat) : Bool := k == 164 && j == 2
theorem zi_a1 : ∀ k j, zQa k j = true → zQ1 k j = true := by
  intro k j h
  simp only [zQa, Bool.and_eq_true, beq_iff_eq] at h
  obtain ⟨rfl, rfl⟩ := h
  rfl
theorem yL_look {f : Int → Int} {s s' : zSto} (h : yTq f s) (o : zOn zQa s s') (ha : yS f (s 164 2) = s' 164 2) : yTq f s' ∧ yqs f s' = yqs f s := by
  obtain ⟨h1, h2, h3, h4⟩ := h
  have e3 : s' 164 3 = s 164 3 := o 164 3 rfl
  have e4 : s' 164 4 = s 164 4 := o 164 4 rfl
  have e5 : s' 164 5 = s 164 5 := o 164 5 rfl
  have e6 : s' 164 6 = s 164 6 := o 164 6 rfl
  have et : ∀ j, s' 165 j = s 165 j := fun j => o 165 j rfl
  have b : s 164 2 ≤ yS f (s 164 2) := yE_b
  have m : yS f (s 164 2) ≤ s 164 3 := by
    rcases (show s 164 3 < yS f (s 164 2) ∨ yS f (s 164 2) ≤ s 164 3 by omega) with c | c
    · have x := yE_i (g := yB) (f := f) (p := s 164 2) (j := s 164 3) h3.2.1 c
      rw [yU_out h2 (by omega)] at x
      exact absurd x (by decide)
    · exact c
  refine ⟨⟨h1, (yU_eq e3 et).trans h2, by omega, ?_⟩, ?_⟩
  · intro z
    rw [e5] at z
    obtain ⟨k1, k2, k3, k4⟩ := h4 z
    rw [e4, e6]
    by_cases c : s' 164 2 = s 164 2
    · rw [c]; exact ⟨k1, k2, k3, k4⟩
    · have y := yE_i (g := yB) (f := f) (p := s 164 2) (j := s' 164 2 - 1) (by omega) (by show s' 164 2 - 1 < yS f (s 164 2); omega)
      have y := yB_t.mp y
      refine ⟨by omega, ⟨fun x => by omega, fun x => ?_⟩, k3, fun x => ?_, fun x => ?_⟩
      · exfalso
        rcases x with x | x
        · have x := yL_t.mp x; omega
        · have x := yD_t.mp x; omega
      · have x := yL_t.mp x.1; omega
      · have x := yD_t.mp x.1; omega
  · unfold yqs
    rw [e5, e6, ← ha, yS_i h1 h3.1]
theorem yall_b {g : Int → Bool} {f : Int → Int} {p x : Int} (h : ∀ j, p ≤ j → j < x → g (f j) = true) (hx : g (f x) = true) : ∀ j, p ≤ j → j < x + 1 → g (f j) = true := yall_s h hx
def yTw (f : Int → Int) (s : zSto) : Prop := yTx f ∧ yU s = f ∧ (0 ≤ s 164 2 ∧ s 164 2 ≤ s 164 3 ∧ s 164 3 ≤ 1600)
theorem yTq_w {f : Int → Int} {s : zSto} (h : yTq f s) : yTw f s := ⟨h.1, h.2.1, h.2.2.1⟩
theorem yL_fail1 {f : Int → Int} {s t s' : zSto} {a p : Int} (h : yTw f s) (e1 : zset s 164 5 a = t) (e2 : zset t 164 6 p = s') (h0 : s 164 5 = 0) (ha : a ≠ 0) : yTq f s' ∧ yqs f s' = yPno a p (yqs f s) := by
  obtain ⟨h1, h2, h3⟩ := h
  have e : ∀ j, j ≠ 5 → j ≠ 6 → s' 164 j = s 164 j := fun j h5 h6 => by rw [← e2, zset_j h6, ← e1, zset_j h5]
  have et : ∀ j, s' 165 j = s 165 j := fun j => by rw [← e2, zset_k (by decide), ← e1, zset_k (by decide)]
  have e5 : s' 164 5 = a := by rw [← e2, zset_j (by decide), ← e1, zset_s]
  have e6 : s' 164 6 = p := by rw [← e2, zset_s]
  have r2 := e 2 (by decide) (by decide)
  have r3 := e 3 (by decide) (by decide)
  refine ⟨⟨h1, (yU_eq r3 et).trans h2, by omega, fun x => absurd x (by omega)⟩, ?_⟩
  rw [yqs_1 h0]
  unfold yqs
  rw [e5, e6, if_neg ha]; rfl
theorem yTw_0 {f : Int → Int} {s : zSto} (h : yTw f s) (h0 : s 164 5 ≠ 0) : yTq f s := ⟨h.1, h.2.1, h.2.2, fun x => absurd x h0⟩
theorem yL_fail0 {f : Int → Int} {s : zSto} {a p : Int} (h0 : s 164 5 ≠ 0) : yqs f s = yPno a p (yqs f s) := by
  rw [yqs_0 h0]; rfl
theorem yA_at {f : Int → Int} {σ s : zSto} (h : yTq f σ) (o : zOn zQa σ s) {k v : Int} (h0 : 0 ≤ k) (h1 : k < s 164 3) (hv : s 165 k.toNat = v) : f k = v := by
  rw [← yU_at ((yU_eq (o 164 3 rfl) (fun j => o 165 j rfl)).trans h.2.1) h0 h1, hv]
theorem yA_out {f : Int → Int} {σ s : zSto} (h : yTq f σ) (o : zOn zQa σ s) {k : Int} (h1 : s 164 3 ≤ k) : f k = -1 := yU_out ((yU_eq (o 164 3 rfl) (fun j => o 165 j rfl)).trans h.2.1) (by omega)
theorem yB_at {f : Int → Int} {s : zSto} (h : yTq f s) {k v : Int} (h0 : 0 ≤ k) (h1 : k < s 164 3) (hv : s 165 k.toNat = v) : f k = v := by
  rw [← yU_at h.2.1 h0 h1, hv]
theorem yB_out {f : Int → Int} {s : zSto} (h : yTq f s) {k : Int} (h1 : s 164 3 ≤ k) : f k = -1 := yU_out h.2.1 (by omega)
theorem yHq {f : Int → Int} {s : zSto} (_h : yTq f s) : (s 164 5 = 0 → yPo (yqs f s) = 1 ∧ yPq (yqs f s) = yS f (s 164 2)) ∧ (s 164 5 ≠ 0 → yPo (yqs f s) = 0 ∧ yPk f (yqs f s) = 6 ∧ yPi f (yqs f s) = -1 ∧ yPg f (yqs f s) = -1) := by
  constructor
  · intro e; rw [yqs_1 e]; exact ⟨rfl, rfl⟩
  · intro e; rw [yqs_0 e]; exact ⟨rfl, rfl, rfl, rfl⟩
def yrd (s : zSto) (k n : Nat) (j : Nat) : Int := if j < n then s k j - 96 else 0
def yRow (s : zSto) (k n : Nat) (w : Int) : Prop := (0 ≤ w ∧ w < 33) ∧ n ≤ 6 ∧ (∀ j, j < n → 97 ≤ s k j ∧ s k j ≤ 122)
  ∧ yWc w.toNat = 14348907 * yrd s k n 0 + 531441 * yrd s k n 1 + 19683 * yrd s k n 2 + 729 * yrd s k n 3 + 27 * yrd s k n 4 + yrd s k n 5
theorem yrd_b {s : zSto} {k n : Nat} (h : ∀ j, j < n → 97 ≤ s k j ∧ s k j ≤ 122) (j : Nat) : 0 ≤ yrd s k n j ∧ yrd s k n j ≤ 26 ∧ (j < n ↔ yrd s k n j ≠ 0) := by
  unfold yrd
  by_cases c : j < n
  · rw [if_pos c]; have := h j c; omega
  · rw [if_neg c]; omega
theorem yd_p {f : Int → Int} {q : Int} (j : Nat) : (q + j < yWe f q ↔ yd f q j ≠ 0) := by
  unfold yd
  by_cases c : q + (j : Int) < yWe f q
  · rw [if_pos c]
    have x := yL_t.mp (yE_i (g := yL) (f := f) (p := q) (by omega) c)
    omega
  · rw [if_neg c]; omega
theorem ycode {a0 a1 a2 a3 a4 a5 b0 b1 b2 b3 b4 b5 : Int} (h0 : 0 ≤ a0 ∧ a0 ≤ 26) (h1 : 0 ≤ a1 ∧ a1 ≤ 26) (h2 : 0 ≤ a2 ∧ a2 ≤ 26) (h3 : 0 ≤ a3 ∧ a3 ≤ 26) (h4 : 0 ≤ a4 ∧ a4 ≤ 26) (h5 : 0 ≤ a5 ∧ a5 ≤ 26)
    (g0 : 0 ≤ b0 ∧ b0 ≤ 26) (g1 : 0 ≤ b1 ∧ b1 ≤ 26) (g2 : 0 ≤ b2 ∧ b2 ≤ 26) (g3 : 0 ≤ b3 ∧ b3 ≤ 26) (g4 : 0 ≤ b4 ∧ b4 ≤ 26) (g5 : 0 ≤ b5 ∧ b5 ≤ 26)
    (e : 14348907 * a0 + 531441 * a1 + 19683 * a2 + 729 * a3 + 27 * a4 + a5 = 14348907 * b0 + 531441 * b1 + 19683 * b2 + 729 * b3 + 27 * b4 + b5) : a0 = b0 ∧ a1 = b1 ∧ a2 = b2 ∧ a3 = b3 ∧ a4 = b4 ∧ a5 = b5 := by
  have i5 : a5 = b5 := by omega
  have i4 : a4 = b4 := by omega
  have i3 : a3 = b3 := by omega
  have i2 : a2 = b2 := by omega
  have i1 : a1 = b1 := by omega
  exact ⟨by omega, i1, i2, i3, i4, i5⟩
theorem yIs {f : Int → Int} {s : zSto} {k n : Nat} {w q : Int} (hw : yRow s k n w) (hk : yK f q = 1 ∨ yK f q = 4) (hl : yL (f q) = true) : yI f q = w ↔ (yWe f q - q = n ∧ ∀ j : Nat, j < n → f (q + j) = s k j) := by
  obtain ⟨w1, w2, w3, w4⟩ := hw
  have le : q ≤ yWe f q := yE_b
  have b := fun j => yrd_b w3 j
  have c := fun (j : Nat) => yd_b (f := f) (p := q) (i := j) (by omega)
  constructor
  · intro h
    have k1 : yK f q = 1 := by
      by_cases x : yK f q = 1
      · exact x
      · unfold yI at h; rw [if_neg x] at h; omega
    have l6 : yWe f q - q ≤ 6 := by
      unfold yK at k1
      have z := yL_t.mp hl
      rw [if_neg (by omega), if_pos hl] at k1
      by_cases x : 6 < yWe f q - q
      · rw [if_pos x] at k1; split at k1 <;> omega
      · omega
    unfold yI at h
    rw [if_pos k1] at h
    have e := (yWn_is (c := yC f q) (i := w.toNat) (by omega)).mp (by omega)
    rw [w4] at e
    unfold yC at e
    obtain ⟨e0, e1, e2, e3, e4, e5⟩ := ycode (c 0) (c 1) (c 2) (c 3) (c 4) (c 5) ⟨(b 0).1, (b 0).2.1⟩ ⟨(b 1).1, (b 1).2.1⟩ ⟨(b 2).1, (b 2).2.1⟩ ⟨(b 3).1, (b 3).2.1⟩ ⟨(b 4).1, (b 4).2.1⟩ ⟨(b 5).1, (b 5).2.1⟩ e
    have eq : ∀ j : Nat, j < 6 → yd f q j = yrd s k n j := by
      intro j hj
      rcases (show j = 0 ∨ j = 1 ∨ j = 2 ∨ j = 3 ∨ j = 4 ∨ j = 5 by omega) with x | x | x | x | x | x <;> subst x <;> assumption
    have iff : ∀ j : Nat, j < 6 → (q + j < yWe f q ↔ j < n) := by
      intro j hj
      rw [yd_p j, (b j).2.2, eq j hj]
    have len : yWe f q - q = n := by
      rcases (show yWe f q - q < n ∨ yWe f q - q = n ∨ n < yWe f q - q by omega) with x | x | x
      · have y := (iff (yWe f q - q).toNat (by omega)).mpr (by omega); omega
      · exact x
      · have y := (iff n (by omega)).mp (by omega); omega
    refine ⟨len, fun j hj => ?_⟩
    have y := eq j (by omega)
    unfold yd yrd at y
    rw [if_pos (by omega), if_pos hj] at y
    omega
  · intro ⟨len, all⟩
    have k1 : yK f q = 1 := by
      rcases hk with x | x
      · exact x
      · exfalso
        unfold yK at x
        have z := yL_t.mp hl
        rw [if_neg (by omega), if_pos hl, if_neg (show ¬ 6 < yWe f q - q by omega)] at x
        split at x <;> omega
    unfold yI
    rw [if_pos k1]
    have eq : ∀ j : Nat, j < 6 → yd f q j = yrd s k n j := by
      intro j hj
      unfold yd yrd
      by_cases x : j < n
      · rw [if_pos (by omega), if_pos x, all j x]
      · rw [if_neg (by omega), if_neg x]
    have e : yC f q = yWc w.toNat := by
      rw [w4]
      unfold yC
      rw [show yd f q 0 = _ from eq 0 (by omega), show yd f q 1 = _ from eq 1 (by omega), show yd f q 2 = _ from eq 2 (by omega), show yd f q 3 = _ from eq 3 (by omega), show yd f q 4 = _ from eq 4 (by omega), show yd f q 5 = _ from eq 5 (by omega)]
    have r := (yWn_is (c := yC f q) (i := w.toNat) (by omega)).mpr e
    omega
def yAtq (f : Int → Int) (s : zSto) (p : yP) : Prop := yPo p = 1 → s 164 2 = yPq p
theorem yq_K {f : Int → Int} {s : zSto} (h : yTq f s) (h0 : s 164 5 = 0) (hl : yL (f (s 164 2)) = true) : (s 164 4 = s 164 2 → yK f (s 164 2) = 6) ∧ (s 164 4 ≠ s 164 2 → yK f (s 164 2) = 1 ∨ yK f (s 164 2) = 4) := by
  obtain ⟨k1, k2, k3, k4⟩ := h.2.2.2 h0
  have z := yL_t.mp hl
  constructor
  · intro e
    unfold yK
    rw [if_neg (by omega), if_pos hl]
    rcases k2.mp e with x | x
    · exact absurd ⟨x, hl⟩ k4.1
    · rw [if_pos x]
  · intro e
    have n : ¬ yAl f (s 164 2) := fun x => e (k2.mpr x)
    unfold yK
    rw [if_neg (by omega), if_pos hl, if_neg (fun x => n (Or.inr x))]
    split
    · exact Or.inr rfl
    · exact Or.inl rfl
theorem yq_D {f : Int → Int} {s : zSto} (h : yTq f s) (h0 : s 164 5 = 0) (hl : yD (f (s 164 2)) = true) : (s 164 4 = s 164 2 → yK f (s 164 2) = 6) ∧ (s 164 4 ≠ s 164 2 → yK f (s 164 2) = 2 ∨ yK f (s 164 2) = 5) := by
  obtain ⟨k1, k2, k3, k4⟩ := h.2.2.2 h0
  have z := yD_t.mp hl
  constructor
  · intro e
    unfold yK
    rw [if_neg (by omega), yLD hl, if_neg (by decide), if_pos hl]
    rcases k2.mp e with x | x
    · rw [if_pos x]
    · exact absurd ⟨x, hl⟩ k4.2
  · intro e
    have n : ¬ yAl f (s 164 2) := fun x => e (k2.mpr x)
    unfold yK
    rw [if_neg (by omega), yLD hl, if_neg (by decide), if_pos hl, if_neg (fun x => n (Or.inl x))]
    split
    · exact Or.inr rfl
    · exact Or.inl rfl
theorem yi_nl {f : Int → Int} {q : Int} (h : ¬ (97 ≤ f q ∧ f q ≤ 122)) : yI f q = -1 := by
  unfold yI
  refine if_neg (fun k => ?_)
  unfold yK at k
  have l : yL (f q) ≠ true := fun x => h (yL_t.mp x)
  by_cases a : f q < 0
  · rw [if_pos a] at k; omega
  · rw [if_neg a, if_neg l] at k
    split at k
    · split at k
      · omega
      · split at k <;> omega
    · omega
theorem yi_k {f : Int → Int} {q : Int} (h : yK f q ≠ 1) : yI f q = -1 := if_neg h
theorem yish0 {f : Int → Int} {s : zSto} {w q : Int} (hq : yqs f s = .ok q) (hi : yI f q = -1) (hw : 0 ≤ w) : yPi f (yqs f s) ≠ w := by
  rw [hq]; show yI f q ≠ w; omega
theorem yqs_at {f : Int → Int} {σ s : zSto} (hb : σ 164 5 = 0) (ha : s 164 2 = yS f (σ 164 2)) : yqs f σ = .ok (s 164 2) := by
  rw [yqs_1 hb, ha]
theorem yL_takes {f : Int → Int} {s t s' : zSto} {w n : Int} (h : yTq f s) (h0 : s 164 5 = 0) (hq : yqs f s = .ok (s 164 2)) (hi : yI f (s 164 2) = w) (hw : 0 ≤ w) (hn : yWe f (s 164 2) = s 164 2 + n) (e1 : zset s 164 2 (s 164 2 + n) = t) (e2 : zset t 164 4 (t 164 2) = s') : yTq f s' ∧ yqs f s' = yPx f (yqs f s) := by
  obtain ⟨h1, h2, h3, h4⟩ := h
  obtain ⟨k1, k2, k3, k4⟩ := h4 h0
  have k : yK f (s 164 2) = 1 := by
    by_cases x : yK f (s 164 2) = 1
    · exact x
    · rw [yi_k x] at hi; omega
  have hl : yL (f (s 164 2)) = true := by
    by_cases x : yL (f (s 164 2)) = true
    · exact x
    · have y := yi_nl (f := f) (q := s 164 2) (fun z => x (yL_t.mpr z)); omega
  have b := yWe_b h1 (by omega) hl
  have t2 : t 164 2 = s 164 2 + n := by rw [← e1]; exact zset_s
  have o : ∀ j, j ≠ 2 → j ≠ 4 → s' 164 j = s 164 j := fun j a c => by rw [← e2, zset_j c, ← e1, zset_j a]
  have et : ∀ j, s' 165 j = s 165 j := fun j => by rw [← e2, zset_k (by decide), ← e1, zset_k (by decide)]
  have s2 : s' 164 2 = s 164 2 + n := by rw [← e2, zset_j (by decide)]; exact t2
  have s4 : s' 164 4 = s 164 2 + n := by rw [← e2, zset_s]; exact t2
  have r3 := o 3 (by decide) (by decide)
  have r5 := o 5 (by decide) (by decide)
  have r6 := o 6 (by decide) (by decide)
  have last : yL (f (s 164 2 + n - 1)) = true := yE_i (g := yL) (f := f) (p := s 164 2) (by omega) (by show s 164 2 + n - 1 < yWe f (s 164 2); omega)
  have nxt : yL (f (s 164 2 + n)) = false := by rw [← hn]; exact yE_x h1 yL_m (by omega)
  have en : s 164 2 + n ≤ s 164 3 := by
    rcases (show s 164 2 + n ≤ s 164 3 ∨ s 164 3 ≤ s 164 2 + n - 1 by omega) with x | x
    · exact x
    · have y := yU_out h2 (k := s 164 2 + n - 1) (by omega)
      rw [y] at last; exact absurd last (by decide)
  refine ⟨⟨h1, (yU_eq r3 et).trans h2, by omega, fun z => ?_⟩, ?_⟩
  · rw [s4, s2, r6]
    refine ⟨Int.le_refl _, ⟨fun _ => Or.inl last, fun _ => rfl⟩, k3, fun x => ?_, fun x => ?_⟩
    · rw [nxt] at x; exact absurd x.2 (by decide)
    · rw [yLD x.1] at last; exact absurd last (by decide)
  · rw [hq]
    unfold yqs
    rw [r5, if_pos h0, s2]
    show _ = yP.ok (yX f (s 164 2))
    rw [yX_l hl, hn]
theorem yL_sign {f : Int → Int} {s s' : zSto} {c : Int} (h : yTq f s) (h0 : s 164 5 = 0) (hq : yqs f s = .ok (s 164 2)) (hc : f (s 164 2) = c) (hn : 0 ≤ c ∧ ¬ (97 ≤ c ∧ c ≤ 122) ∧ ¬ (48 ≤ c ∧ c ≤ 57)) (e1 : zset s 164 2 (s 164 2 + 1) = s') : yTq f s' ∧ yqs f s' = yPx f (yqs f s) ∧ yPg f (yqs f s) = c := by
  obtain ⟨h1, h2, h3, h4⟩ := h
  obtain ⟨k1, k2, k3, k4⟩ := h4 h0
  have o : ∀ j, j ≠ 2 → s' 164 j = s 164 j := fun j a => by rw [← e1, zset_j a]
  have et : ∀ j, s' 165 j = s 165 j := fun j => by rw [← e1, zset_k (by decide)]
  have s2 : s' 164 2 = s 164 2 + 1 := by rw [← e1]; exact zset_s
  have r3 := o 3 (by decide)
  have r4 := o 4 (by decide)
  have r5 := o 5 (by decide)
  have r6 := o 6 (by decide)
  have nl : yL (f (s 164 2)) = false := Bool.eq_false_iff.mpr (fun x => by have := yL_t.mp x; omega)
  have nd : yD (f (s 164 2)) = false := Bool.eq_false_iff.mpr (fun x => by have := yD_t.mp x; omega)
  have en : s 164 2 + 1 ≤ s 164 3 := by
    rcases (show s 164 2 + 1 ≤ s 164 3 ∨ s 164 3 ≤ s 164 2 by omega) with x | x
    · exact x
    · have y := yU_out h2 (k := s 164 2) (by omega); omega
  have k : yK f (s 164 2) = 3 := yK_3.mpr ⟨by omega, nl, nd⟩
  refine ⟨⟨h1, (yU_eq r3 et).trans h2, by omega, fun z => ?_⟩, ?_, ?_⟩
  · rw [s2, r4, r6, show yAl f (s 164 2 + 1) ↔ False from ?_, show yBd f (s 164 2 + 1) ↔ True from ?_]
    · exact ⟨by omega, ⟨fun x => by omega, False.elim⟩, k3, trivial⟩
    · unfold yBd
      rw [show s 164 2 + 1 - 1 = s 164 2 by omega, nl, nd]; simp
    · unfold yAl
      rw [show s 164 2 + 1 - 1 = s 164 2 by omega, nl, nd]; simp
  · rw [hq]
    unfold yqs
    rw [r5, if_pos h0, s2]
    show _ = yP.ok (yX f (s 164 2))
    unfold yX
    rw [if_neg (by omega), nl, if_neg (by decide), nd, if_neg (by decide)]
  · rw [hq]; show (if yK f (s 164 2) = 3 then f (s 164 2) else -1) = c; rw [if_pos k, hc]
theorem yq_g {f : Int → Int} {q c : Int} (hn : 0 ≤ c ∧ ¬ (97 ≤ c ∧ c ≤ 122) ∧ ¬ (48 ≤ c ∧ c ≤ 57)) (h : f q ≠ c) : yPg f (.ok q) ≠ c := by
  show (if yK f q = 3 then f q else -1) ≠ c
  split
  · exact h
  · omega
theorem yeq_s {f : Int → Int} {s : zSto} {k : Nat} {a i u v : Int} (h : ∀ j : Nat, (j : Int) < i → f (a + j) = s k j) (hi : 0 ≤ i) (e : f (a + i) = u) (g : s k i.toNat = v) (uv : u = v) : ∀ j : Nat, (j : Int) < i + 1 → f (a + j) = s k j := by
  intro j hj
  by_cases x : (j : Int) < i
  · exact h j x
  · rw [show j = i.toNat by omega, show ((i.toNat : Nat) : Int) = i by omega, e, g, uv]
theorem yis_a {f : Int → Int} {s : zSto} {w q : Int} (hq : yqs f s = .ok q) (h : yI f q = -1) (hw : 0 ≤ w ∧ w < 33) : (yPi f (yqs f s) = w → (0 : Int) = 1) ∧ (yPi f (yqs f s) ≠ w → (0 : Int) = 0) := by
  rw [hq]
  exact ⟨fun e => by have e : yI f q = w := e; omega, fun _ => rfl⟩
theorem yis_b {f : Int → Int} {s : zSto} {w q : Int} (hq : yqs f s = .ok q) (h : yI f q ≠ w) : (yPi f (yqs f s) = w → (0 : Int) = 1) ∧ (yPi f (yqs f s) ≠ w → (0 : Int) = 0) := by
  rw [hq]
  exact ⟨fun e => absurd e h, fun _ => rfl⟩
theorem yis_c {f : Int → Int} {s : zSto} {w q : Int} (hq : yqs f s = .ok q) (h : yI f q = w) : (yPi f (yqs f s) = w → (1 : Int) = 1) ∧ (yPi f (yqs f s) ≠ w → (1 : Int) = 0) := by
  rw [hq]
  exact ⟨fun _ => rfl, fun e => absurd h e⟩
theorem yis_n {f : Int → Int} {s : zSto} {w : Int} (hb : s 164 5 ≠ 0) (hw : 0 ≤ w ∧ w < 33) : (yPi f (yqs f s) = w → (0 : Int) = 1) ∧ (yPi f (yqs f s) ≠ w → (0 : Int) = 0) := by
  rw [yqs_0 hb]
  exact ⟨fun e => by have e : (-1 : Int) = w := e; omega, fun _ => rfl⟩
def yPt (f : Int → Int) (w : Int) (s : yP) : yP := if yPi f s = w then yPx f s else s
def yPu (f : Int → Int) (c : Int) (s : yP) : yP := if yPg f s = c then yPx f s else s
theorem yq_ok {f : Int → Int} {s : zSto} {p : yP} (hE : yqs f s = p) (h0 : s 164 5 = 0) (ha : s 164 2 = yPq p) : yqs f s = .ok (s 164 2) ∧ p = .ok (s 164 2) := by
  have e := yqs_1 (f := f) h0
  rw [hE] at e
  have g : s 164 2 = yS f (s 164 2) := by rw [e] at ha; exact ha
  constructor
  · rw [hE, e, ← g]
  · rw [e, ← g]
theorem yL_takes2 {f : Int → Int} {s t s' : zSto} {p : yP} {w n : Int} (h : yTq f s) (hE : yqs f s = p) (h0 : s 164 5 = 0) (ha : s 164 2 = yPq p) (hi : yPi f p = w) (hw : 0 ≤ w) (hn : yWe f (s 164 2) = s 164 2 + n) (e1 : zset s 164 2 (s 164 2 + n) = t) (e2 : zset t 164 4 (t 164 2) = s') : yTq f s' ∧ yqs f s' = yPt f w p := by
  obtain ⟨q1, q2⟩ := yq_ok hE h0 ha
  have r := yL_takes h h0 q1 (by rw [q2] at hi; exact hi) hw hn e1 e2
  refine ⟨r.1, ?_⟩
  unfold yPt
  rw [if_pos hi, r.2, hE]
theorem yL_sign2 {f : Int → Int} {s s' : zSto} {p : yP} {c : Int} (h : yTq f s) (hE : yqs f s = p) (h0 : s 164 5 = 0) (ha : s 164 2 = yPq p) (hc : f (s 164 2) = c) (hn : 0 ≤ c ∧ ¬ (97 ≤ c ∧ c ≤ 122) ∧ ¬ (48 ≤ c ∧ c ≤ 57)) (e1 : zset s 164 2 (s 164 2 + 1) = s') : yTq f s' ∧ yqs f s' = yPu f c p ∧ yPg f p = c ∧ s' 165 (s' 164 2 - 1).toNat = c := by
  obtain ⟨q1, q2⟩ := yq_ok hE h0 ha
  obtain ⟨r1, r2, r3⟩ := yL_sign h h0 q1 hc hn e1
  rw [hE] at r2 r3
  refine ⟨r1, ?_, r3, ?_⟩
  · unfold yPu; rw [if_pos r3, r2]
  · have s2 : s' 164 2 = s 164 2 + 1 := by rw [← e1]; exact zset_s
    have b := h.2.2.1
    rw [s2, show s 164 2 + 1 - 1 = s 164 2 by omega, ← e1, zset_k (by decide)]
    have en : s 164 2 < s 164 3 := by
      rcases (show s 164 2 < s 164 3 ∨ s 164 3 ≤ s 164 2 by omega) with x | x
      · exact x
      · have y := yU_out h.2.1 (k := s 164 2) (by omega); omega
    rw [yU_at h.2.1 b.1 en, hc]
theorem yPt_0 {f : Int → Int} {w : Int} {p : yP} (h : yPi f p ≠ w) : p = yPt f w p := (if_neg h).symm
theorem yPu_0 {f : Int → Int} {w : Int} {p : yP} (h : yPg f p ≠ w) : p = yPu f w p := (if_neg h).symm
theorem yPw_t {f : Int → Int} {w : Int} {p : yP} (h : yPi f p = w) : yPt f w p = yPw f w p := by unfold yPt yPw; rw [if_pos h, if_pos h]
theorem yPw_n {f : Int → Int} {w a : Int} {p : yP} (h : yPi f p ≠ w) (ha : yPo p = 1 → a = yPq p) : yPno 1 a (yPt f w p) = yPw f w p := by
  unfold yPt yPw; rw [if_neg h, if_neg h]; exact yPno_f (fun o => by rw [ha o]; omega)
theorem yPs_t {f : Int → Int} {w : Int} {p : yP} (h : yPg f p = w) : yPu f w p = yPs f w p := by unfold yPu yPs; rw [if_pos h, if_pos h]
theorem yPs_n {f : Int → Int} {w a : Int} {p : yP} (h : yPg f p ≠ w) (ha : yPo p = 1 → a = yPq p) : yPno 1 a (yPu f w p) = yPs f w p := by
  unfold yPu yPs; rw [if_neg h, if_neg h]; exact yPno_f (fun o => by rw [ha o]; omega)
theorem yPw_no {f : Int → Int} {w : Int} {p : yP} (h : yPo p = 0) : p = yPw f w p := by
  cases p using yP_cases with
  | ok q => exact absurd h (by show ¬ (1 : Int) = 0; decide)
  | no a u => unfold yPw; split <;> rfl
theorem yPs_no {f : Int → Int} {w : Int} {p : yP} (h : yPo p = 0) : p = yPs f w p := by
  cases p using yP_cases with
  | ok q => exact absurd h (by show ¬ (1 : Int) = 0; decide)
  | no a u => unfold yPs; split <;> rfl
theorem yPn_no {f : Int → Int} {lo hi : Int} {p : yP} (h : yPo p = 0) : p = yPn f lo hi p := by
  cases p using yP_cases with
  | ok q => exact absurd h (by show ¬ (1 : Int) = 0; decide)
  | no a u =>
    unfold yPn
    rw [if_neg (by show ¬ (6 : Int) = 5; decide), if_neg (by show ¬ (6 : Int) = 2; decide)]; rfl
theorem yk_nd {f : Int → Int} {q : Int} (h : ¬ (48 ≤ f q ∧ f q ≤ 57)) : yK f q ≠ 5 ∧ yK f q ≠ 2 := by
  have d : yD (f q) ≠ true := fun x => h (yD_t.mp x)
  unfold yK
  rw [if_neg (c := yD (f q) = true) d]
  split
  · omega
  · split
    · split
      · omega
      · split <;> omega
    · omega
theorem yPn_a {f : Int → Int} {lo hi q : Int} {p : yP} (hp : p = .ok q) (h : yK f q ≠ 5 ∧ yK f q ≠ 2) : yPno 1 q p = yPn f lo hi p := by
  subst hp
  exact ypn_n h (fun _ => rfl)
theorem yPn_5 {f : Int → Int} {lo hi b a : Int} {p u : yP} (hp : p = .ok b) (hu : yPo u = 1) (hk : yK f b = 2 ∨ yK f b = 5) (hn : 4 < yNe f b - b) (ha : a = b + 4) (hl : yD (f b) = true) : yPno 1 a u = yPn f lo hi p := by
  subst hp
  have k : yK f b = 5 := by
    rcases hk with x | x
    · exfalso
      have z := yD_t.mp hl
      unfold yK at x
      rw [if_neg (by omega), yLD hl, if_neg (by decide), if_pos hl, if_pos hn] at x
      split at x <;> omega
    · exact x
  unfold yPn
  rw [if_pos (show yPk f (.ok b) = 5 from k), ha]
  cases u using yP_cases with
  | ok q => rfl
  | no c d => exact absurd hu (by show ¬ (0 : Int) = 1; decide)
theorem yk_2 {f : Int → Int} {b : Int} (hk : yK f b = 2 ∨ yK f b = 5) (hn : yNe f b - b ≤ 4) (hl : yD (f b) = true) : yK f b = 2 := by
  rcases hk with x | x
  · exact x
  · exfalso
    have z := yD_t.mp hl
    unfold yK at x
    rw [if_neg (by omega), yLD hl, if_neg (by decide), if_pos hl, if_neg (show ¬ 4 < yNe f b - b by omega)] at x
    split at x <;> omega
theorem yL_num {f : Int → Int} {s t s' : zSto} {p : yP} {b : Int} (h : yTw f s) (h0 : s 164 5 = 0) (h6 : s 164 6 = -1) (hp : p = .ok b) (hb : 0 ≤ b ∧ b ≤ 1600) (hl : yD (f b) = true) (hn : yNe f b = s 164 2) (e1 : zset s 164 4 (s 164 2) = t) (e2 : zset t 164 10 b = s') : yTq f s' ∧ yqs f s' = yPx f p := by
  obtain ⟨h1, h2, h3⟩ := h
  have g := yNe_b h1 hb hl
  have o : ∀ j, j ≠ 4 → j ≠ 10 → s' 164 j = s 164 j := fun j a c => by rw [← e2, zset_j c, ← e1, zset_j a]
  have et : ∀ j, s' 165 j = s 165 j := fun j => by rw [← e2, zset_k (by decide), ← e1, zset_k (by decide)]
  have s4 : s' 164 4 = s 164 2 := by rw [← e2, zset_j (by decide), ← e1, zset_s]
  have r2 := o 2 (by decide) (by decide)
  have r3 := o 3 (by decide) (by decide)
  have r5 := o 5 (by decide) (by decide)
  have r6 := o 6 (by decide) (by decide)
  have last : yD (f (s 164 2 - 1)) = true := yE_i (g := yD) (f := f) (p := b) (by omega) (by show s 164 2 - 1 < yNe f b; omega)
  have nxt : yD (f (s 164 2)) = false := by rw [← hn]; exact yE_x h1 yD_m hb.1
  refine ⟨⟨h1, (yU_eq r3 et).trans h2, by omega, fun z => ?_⟩, ?_⟩
  · rw [s4, r2, r6]
    refine ⟨Int.le_refl _, ⟨fun _ => Or.inr last, fun _ => rfl⟩, h6, fun x => ?_, fun x => ?_⟩
    · rw [yLD last] at x; exact absurd x.1 (by decide)
    · rw [nxt] at x; exact absurd x.2 (by decide)
  · subst hp
    unfold yqs
    rw [r5, if_pos h0, r2]
    show _ = yP.ok (yX f b)
    rw [yX_d hl, hn]
theorem yPn_r {f : Int → Int} {lo hi b : Int} {p : yP} (hp : p = .ok b) (hk : yK f b = 2) (hv : yV f b < lo ∨ hi < yV f b) : yPno 2 b (yPx f p) = yPn f lo hi p := by
  subst hp
  have e := ypn_2 (f := f) (s := .ok b) (lo := lo) (hi := hi) (p := b) hk hv (fun _ => rfl)
  rw [← e]; rfl
theorem yPn_g {f : Int → Int} {lo hi b : Int} {p : yP} (hp : p = .ok b) (hk : yK f b = 2) (hv : ¬ (yV f b < lo ∨ hi < yV f b)) : yPx f p = yPn f lo hi p := by
  subst hp
  exact ypn_1 hk hv
theorem yTw_s {f : Int → Int} {s s' : zSto} {v : Int} (h : yTw f s) (e : zset s 164 2 v = s') (hv : 0 ≤ v ∧ v ≤ s 164 3) : yTw f s' := by
  obtain ⟨h1, h2, h3⟩ := h
  have r3 : s' 164 3 = s 164 3 := by rw [← e]; exact zset_j (by decide)
  have r2 : s' 164 2 = v := by rw [← e]; exact zset_s
  exact ⟨h1, (yU_eq r3 (fun j => by rw [← e]; exact zset_k (by decide))).trans h2, by omega⟩
theorem yW_at {f : Int → Int} {s : zSto} (h : yTw f s) {k v : Int} (h0 : 0 ≤ k) (h1 : k < s 164 3) (hv : s 165 k.toNat = v) : f k = v := by
  rw [← yU_at h.2.1 h0 h1, hv]
theorem yW_out {f : Int → Int} {s : zSto} (h : yTw f s) {k : Int} (h1 : s 164 3 ≤ k) : f k = -1 := yU_out h.2.1 (by omega)
theorem yE_i5 {f : Int → Int} {b e : Int} (hf : yTx f) (hb : 0 ≤ b ∧ b ≤ e) (h : ∀ j, b ≤ j → j < e + 1 → yD (f j) = true) : e + 1 ≤ yNe f b := by
  rcases (show e + 1 ≤ yNe f b ∨ yNe f b ≤ e by omega) with c | c
  · exact c
  · have g : b ≤ yNe f b := yE_b
    have x := h (yNe f b) g (by omega)
    have y : yD (f (yNe f b)) = false := yE_x hf yD_m hb.1
    rw [y] at x; exact absurd x (by decide)
def yNm0 (f : Int → Int) (s : yP) : yP :=
  if yPk f s = 4 then yPf 1 6 s
  else if yPk f s ≠ 1 ∨ (0 ≤ yPi f s ∧ yPi f s < 27) then yPf 1 0 s
  else yPx f s
def yut (f : Int → Int) (p : Int) : Nat → Int
  | 0 => 0
  | n + 1 => 27 * yut f p n + (f (p + n) - 96)
theorem yut_b {f : Int → Int} {p : Int} : ∀ n : Nat, (∀ j, p ≤ j → j < p + n → yL (f j) = true) → 0 ≤ yut f p n ∧ yut f p n < 27 ^ n := by
  intro n
  induction n with
  | zero => intro _; exact ⟨Int.le_refl _, by show (0 : Int) < 1; omega⟩
  | succ n ih =>
    intro h
    obtain ⟨a, b⟩ := ih (fun j h1 h2 => h j h1 (by omega))
    have d := yL_t.mp (h (p + n) (by omega) (by omega))
    show 0 ≤ 27 * yut f p n + (f (p + n) - 96) ∧ 27 * yut f p n + (f (p + n) - 96) < 27 ^ (n + 1)
    have e : (27 : Int) ^ (n + 1) = 27 ^ n * 27 := Int.pow_succ 27 n
    rw [e]
    generalize (27 : Int) ^ n = t at *
    omega
theorem yut_6 {f : Int → Int} {p n : Int} (hn : 0 ≤ n ∧ n ≤ 6) (h : ∀ j, p ≤ j → j < p + n → yL (f j) = true) : 0 ≤ yut f p n.toNat ∧ yut f p n.toNat ≤ 387420488 := by
  have b := yut_b (f := f) (p := p) n.toNat (fun j h1 h2 => h j h1 (by omega))
  rcases (show n.toNat = 0 ∨ n.toNat = 1 ∨ n.toNat = 2 ∨ n.toNat = 3 ∨ n.toNat = 4 ∨ n.toNat = 5 ∨ n.toNat = 6 by omega) with c | c | c | c | c | c | c
  all_goals (rw [c] at b ⊢; omega)
theorem yut_s {f : Int → Int} {p n c b : Int} (hn : 0 ≤ n) (h : yut f p n.toNat = c) (hb : f (p + n) = b) : yut f p (n + 1).toNat = 27 * c + (b - 96) := by
  rw [show (n + 1).toNat = n.toNat + 1 by omega]
  show 27 * yut f p n.toNat + (f (p + (n.toNat : Int)) - 96) = _
  rw [h, show ((n.toNat : Nat) : Int) = n by omega, hb]
theorem yNm_no {f : Int → Int} {p : yP} (h : yPo p = 0) : p = yNm0 f p := by
  cases p using yP_cases with
  | ok q => exact absurd h (by show ¬ (1 : Int) = 0; decide)
  | no a u =>
    unfold yNm0
    rw [if_neg (by show ¬ (6 : Int) = 4; decide), if_pos (Or.inl (by show ¬ (6 : Int) = 1; decide))]; rfl
theorem yNm_a {f : Int → Int} {q : Int} {p : yP} (hp : p = .ok q) (h4 : yK f q ≠ 4) (h : yK f q ≠ 1 ∨ (0 ≤ yI f q ∧ yI f q < 27)) : yPno 1 q p = yNm0 f p := by
  subst hp
  unfold yNm0
  rw [if_neg (show ¬ yPk f (.ok q) = 4 from h4), if_pos (show yPk f (.ok q) ≠ 1 ∨ (0 ≤ yPi f (.ok q) ∧ yPi f (.ok q) < 27) from h)]
  exact yPno_f (fun _ => by show q = q + 0; omega)
theorem yk_nl {f : Int → Int} {q : Int} (h : ¬ (97 ≤ f q ∧ f q ≤ 122)) : yK f q ≠ 4 ∧ yK f q ≠ 1 := by
  have d : yL (f q) ≠ true := fun x => h (yL_t.mp x)
  unfold yK
  rw [if_neg (c := yL (f q) = true) d]
  split
  · omega
  · split
    · split
      · omega
      · split <;> omega
    · omega
theorem yNm_6 {f : Int → Int} {b a : Int} {p u : yP} (hp : p = .ok b) (hu : yPo u = 1) (hk : yK f b = 1 ∨ yK f b = 4) (hn : 6 < yWe f b - b) (ha : a = b + 6) (hl : yL (f b) = true) : yPno 1 a u = yNm0 f p := by
  subst hp
  have k : yK f b = 4 := by
    rcases hk with x | x
    · exfalso
      have z := yL_t.mp hl
      unfold yK at x
      rw [if_neg (by omega), if_pos hl, if_pos hn] at x
      split at x <;> omega
    · exact x
  unfold yNm0
  rw [if_pos (show yPk f (.ok b) = 4 from k), ha]
  cases u using yP_cases with
  | ok q => rfl
  | no c d => exact absurd hu (by show ¬ (0 : Int) = 1; decide)
theorem yk_1 {f : Int → Int} {b : Int} (hk : yK f b = 1 ∨ yK f b = 4) (hn : yWe f b - b ≤ 6) (hl : yL (f b) = true) : yK f b = 1 := by
  rcases hk with x | x
  · exact x
  · exfalso
    have z := yL_t.mp hl
    unfold yK at x
    rw [if_neg (by omega), if_pos hl, if_neg (show ¬ 6 < yWe f b - b by omega)] at x
    split at x <;> omega
theorem yNm_g {f : Int → Int} {b : Int} {p : yP} (hp : p = .ok b) (hk : yK f b = 1) (hv : ¬ (0 ≤ yI f b ∧ yI f b < 27)) : yPx f p = yNm0 f p := by
  subst hp
  unfold yNm0
  rw [if_neg (show ¬ yPk f (.ok b) = 4 by show ¬ yK f b = 4; omega), if_neg (show ¬ (yPk f (.ok b) ≠ 1 ∨ (0 ≤ yPi f (.ok b) ∧ yPi f (.ok b) < 27)) by show ¬ (yK f b ≠ 1 ∨ (0 ≤ yI f b ∧ yI f b < 27)); omega)]
theorem yE_i7 {f : Int → Int} {b e : Int} (hf : yTx f) (hb : 0 ≤ b ∧ b ≤ e) (h : ∀ j, b ≤ j → j < e + 1 → yL (f j) = true) : e + 1 ≤ yWe f b := by
  rcases (show e + 1 ≤ yWe f b ∨ yWe f b ≤ e by omega) with c | c
  · exact c
  · have g : b ≤ yWe f b := yE_b
    have x := h (yWe f b) g (by omega)
    have y : yL (f (yWe f b)) = false := yE_x hf yL_m hb.1
    rw [y] at x; exact absurd x (by decide)
theorem yL_nam {f : Int → Int} {s s' : zSto} {p : yP} {b : Int} (h : yTw f s) (h0 : s 164 5 = 0) (h6 : s 164 6 = -1) (hp : p = .ok b) (hb : 0 ≤ b ∧ b ≤ 1600) (hl : yL (f b) = true) (hn : yWe f b = s 164 2) (e1 : zset s 164 4 (s 164 2) = s') : yTq f s' ∧ yqs f s' = yPx f p := by
  obtain ⟨h1, h2, h3⟩ := h
  have g := yWe_b h1 hb hl
  have o : ∀ j, j ≠ 4 → s' 164 j = s 164 j := fun j a => by rw [← e1, zset_j a]
  have et : ∀ j, s' 165 j = s 165 j := fun j => by rw [← e1, zset_k (by decide)]
  have s4 : s' 164 4 = s 164 2 := by rw [← e1, zset_s]
  have r2 := o 2 (by decide)
  have r3 := o 3 (by decide)
  have r5 := o 5 (by decide)
  have r6 := o 6 (by decide)
  have last : yL (f (s 164 2 - 1)) = true := yE_i (g := yL) (f := f) (p := b) (by omega) (by show s 164 2 - 1 < yWe f b; omega)
  have nxt : yL (f (s 164 2)) = false := by rw [← hn]; exact yE_x h1 yL_m hb.1
  refine ⟨⟨h1, (yU_eq r3 et).trans h2, by omega, fun z => ?_⟩, ?_⟩
  · rw [s4, r2, r6]
    refine ⟨Int.le_refl _, ⟨fun _ => Or.inl last, fun _ => rfl⟩, h6, fun x => ?_, fun x => ?_⟩
    · rw [nxt] at x; exact absurd x.2 (by decide)
    · rw [yLD x.1] at last; exact absurd last (by decide)
  · subst hp
    unfold yqs
    rw [r5, if_pos h0, r2]
    show _ = yP.ok (yX f b)
    rw [yX_l hl, hn]
theorem ywrl_eq {r x : Int} (h : r = (zJ x).toInt) : -9223372036854775808 ≤ x → x ≤ 9223372036854775807 → r = x := fun a b => by rw [h, zJ_t a b]
theorem yTw_j {f : Int → Int} {s s' : zSto} {v : Int} (h : yTq f s) (e : zset s 164 38 v = s') : yTw f s' := by
  obtain ⟨h1, h2, h3, h4⟩ := h
  have r3 : s' 164 3 = s 164 3 := by rw [← e]; exact zset_j (by decide)
  have r2 : s' 164 2 = s 164 2 := by rw [← e]; exact zset_j (by decide)
  exact ⟨h1, (yU_eq r3 (fun j => by rw [← e]; exact zset_k (by decide))).trans h2, by omega⟩
theorem yi_own {f : Int → Int} {q : Int} (h : 0 ≤ yI f q) : yK f q = 1 := by
  by_cases x : yK f q = 1
  · exact x
  · rw [yi_k x] at h; omega
theorem yspl {a w r : Int} (h : (a = w → r = 1) ∧ (a ≠ w → r = 0)) : (r = 1 ∧ a = w) ∨ (r = 0 ∧ a ≠ w) := by
  by_cases c : a = w
  · exact Or.inl ⟨h.1 c, c⟩
  · exact Or.inr ⟨h.2 c, c⟩
theorem yHb {f : Int → Int} {s : zSto} {p : yP} (_h : yTq f s) (e : yqs f s = p) : (s 164 5 = 0 → yPo p = 1) ∧ (s 164 5 ≠ 0 → yPo p = 0) := by
  subst e
  constructor
  · intro x; rw [yqs_1 x]; rfl
  · intro x; rw [yqs_0 x]; rfl
theorem yRq_set {s s' : zSto} {k j r : Nat} {v : Int} (e : zset s k j v = s') (hk : zro k = r) (hr : r ≠ 46 ∧ r ≠ 47) : yRq s s' := by
  subst e
  have e1 : (164 : Nat) ≠ k := zne_r zc_164 hk hr.1.symm
  have e2 : (165 : Nat) ≠ k := zne_r zc_165 hk hr.2.symm
  exact ⟨fun _ => zset_k e2, zset_k e1, zset_k e1, zset_k e1, zset_k e1, zset_k e1⟩
def zQh (k j : Nat) : Bool := zQ1 k j || (k == 197 && decide (j < 36))
theorem zqh_197 {j : Nat} (h : j < 36) : zQh 197 j = true := by simp [zQh, h]
theorem zi_1h : ∀ k j, zQ1 k j = true → zQh k j = true := fun k j h => by simp only [zQh, h, Bool.true_or]
theorem zi_h3 : ∀ k j, zQh k j = true → zQ3 k j = true := by
  intro k j h
  simp only [zQh, Bool.or_eq_true] at h
  rcases h with h | h
  · exact zi_13 k j h
  · simp only [zQ3, h, Bool.true_or, Bool.or_true]
def zQo (k j : Nat) : Bool := zQ1 k j || (k == 164 && (j == 99 || j == 100)) || (k == 235 && decide (j < 1700))
theorem zqo_235 {j : Nat} (h : j < 1700) : zQo 235 j = true := by simp [zQo, h]
theorem zi_1o : ∀ k j, zQ1 k j = true → zQo k j = true := fun k j h => by simp only [zQo, h, Bool.true_or]
theorem yRq_j {s s' : zSto} {j : Nat} {v : Int} (e : zset s 164 j v = s') (hj : j ≠ 2 ∧ j ≠ 3 ∧ j ≠ 4 ∧ j ≠ 5 ∧ j ≠ 6) : yRq s s' := by
  subst e
  exact ⟨fun _ => zset_k (by decide), zset_j hj.1.symm, zset_j hj.2.1.symm, zset_j hj.2.2.1.symm, zset_j hj.2.2.2.1.symm, zset_j hj.2.2.2.2.symm⟩
