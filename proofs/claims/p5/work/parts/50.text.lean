def yTx (f : Int → Int) : Prop := (∀ k, -1 ≤ f k ∧ f k ≤ 255) ∧ (∀ k, k < 0 → f k = -1) ∧ ∀ k, 1600 ≤ k → f k = -1
def yB (b : Int) : Bool := decide (b = 10) || decide (b = 32)
def yL (b : Int) : Bool := decide (97 ≤ b) && decide (b ≤ 122)
def yD (b : Int) : Bool := decide (48 ≤ b) && decide (b ≤ 57)
theorem yB_t {b : Int} : yB b = true ↔ b = 10 ∨ b = 32 := by simp [yB]
theorem yL_t {b : Int} : yL b = true ↔ 97 ≤ b ∧ b ≤ 122 := by simp [yL]
theorem yD_t {b : Int} : yD b = true ↔ 48 ≤ b ∧ b ≤ 57 := by simp [yD]
def yRun (g : Int → Bool) (f : Int → Int) : Nat → Int → Int
  | 0, p => p
  | k + 1, p => if g (f p) = true then yRun g f k (p + 1) else p
def yE (g : Int → Bool) (f : Int → Int) (p : Int) : Int := yRun g f 1601 p
theorem yRun_1 {g : Int → Bool} {f : Int → Int} (hf : yTx f) (hg : g (-1) = false) : ∀ (k : Nat) (p : Int), 1600 ≤ p + k → yRun g f (k + 1) p = yRun g f k p := by
  intro k
  induction k with
  | zero =>
    intro p h
    show (if g (f p) = true then p + 1 else p) = p
    rw [hf.2.2 p (by omega), hg]; rfl
  | succ k ih =>
    intro p h
    show (if g (f p) = true then yRun g f (k + 1) (p + 1) else p) = (if g (f p) = true then yRun g f k (p + 1) else p)
    rw [ih (p + 1) (by omega)]
theorem yE_eq {g : Int → Bool} {f : Int → Int} (hf : yTx f) (hg : g (-1) = false) {p : Int} (hp : 0 ≤ p) : yE g f p = if g (f p) = true then yE g f (p + 1) else p := by
  unfold yE
  show (if g (f p) = true then yRun g f 1600 (p + 1) else p) = _
  rw [yRun_1 hf hg 1600 (p + 1) (by omega)]
theorem yE_s {g : Int → Bool} {f : Int → Int} (hf : yTx f) (hg : g (-1) = false) {p : Int} (hp : 0 ≤ p) (h : g (f p) = true) : yE g f p = yE g f (p + 1) := by
  rw [yE_eq hf hg hp, if_pos h]
theorem yE_n {g : Int → Bool} {f : Int → Int} {p : Int} (h : g (f p) = false) : yE g f p = p := by
  show (if g (f p) = true then yRun g f 1600 (p + 1) else p) = p
  rw [if_neg (by rw [h]; exact Bool.false_ne_true)]
theorem yRun_b {g : Int → Bool} {f : Int → Int} : ∀ (k : Nat) (p : Int), p ≤ yRun g f k p ∧ ∀ j, p ≤ j → j < yRun g f k p → g (f j) = true := by
  intro k
  induction k with
  | zero => intro p; exact ⟨Int.le_refl _, fun j h1 h2 => absurd h2 (by show ¬ j < p; omega)⟩
  | succ k ih =>
    intro p
    show p ≤ (if g (f p) = true then yRun g f k (p + 1) else p) ∧ ∀ j, p ≤ j → j < (if g (f p) = true then yRun g f k (p + 1) else p) → g (f j) = true
    by_cases h : g (f p) = true
    · rw [if_pos h]
      obtain ⟨a, c⟩ := ih (p + 1)
      refine ⟨by omega, fun j h1 h2 => ?_⟩
      by_cases e : j = p
      · rw [e]; exact h
      · exact c j (by omega) h2
    · rw [if_neg h]
      exact ⟨Int.le_refl _, fun j h1 h2 => absurd h2 (by omega)⟩
theorem yE_b {g : Int → Bool} {f : Int → Int} {p : Int} : p ≤ yE g f p := (yRun_b 1601 p).1
theorem yE_i {g : Int → Bool} {f : Int → Int} {p j : Int} (h1 : p ≤ j) (h2 : j < yE g f p) : g (f j) = true := (yRun_b 1601 p).2 j h1 h2
theorem yE_x {g : Int → Bool} {f : Int → Int} (hf : yTx f) (hg : g (-1) = false) {p : Int} (hp : 0 ≤ p) : g (f (yE g f p)) = false := by
  have key : ∀ (k : Nat) (p : Int), 0 ≤ p → 1600 ≤ p + k → g (f (yE g f p)) = false := by
    intro k
    induction k with
    | zero =>
      intro p hp h
      have e : f p = -1 := hf.2.2 p (by omega)
      rw [yE_n (by rw [e]; exact hg), e]; exact hg
    | succ k ih =>
      intro p hp h
      by_cases c : g (f p) = true
      · rw [yE_s hf hg hp c]; exact ih (p + 1) (by omega) (by omega)
      · rw [yE_n (Bool.eq_false_iff.mpr c)]; exact Bool.eq_false_iff.mpr c
  exact key 1600 p hp (by omega)
theorem yE_m {g : Int → Bool} {f : Int → Int} (hf : yTx f) (hg : g (-1) = false) {p : Int} (h : 0 ≤ p ∧ p ≤ 1600) : yE g f p ≤ 1600 := by
  rcases (show 1600 < yE g f p ∨ yE g f p ≤ 1600 by omega) with c | c
  · have e := yE_i (g := g) (f := f) (p := p) (j := 1600) h.2 c
    rw [hf.2.2 1600 (by omega), hg] at e
    exact absurd e Bool.false_ne_true
  · exact c
theorem yE_u {g : Int → Bool} {f : Int → Int} (hf : yTx f) (hg : g (-1) = false) {p e : Int} (hp : 0 ≤ p) (h : p ≤ e) (ha : ∀ j, p ≤ j → j < e → g (f j) = true) (hx : g (f e) = false) : yE g f p = e := by
  have b := yE_b (g := g) (f := f) (p := p)
  rcases Int.lt_trichotomy (yE g f p) e with c | c | c
  · have x := ha _ b c
    rw [yE_x hf hg hp] at x
    exact absurd x Bool.false_ne_true
  · exact c
  · have x := yE_i (g := g) (f := f) (p := p) h c
    rw [hx] at x
    exact absurd x Bool.false_ne_true
theorem yB_m : yB (-1) = false := by decide
theorem yL_m : yL (-1) = false := by decide
theorem yD_m : yD (-1) = false := by decide
def yS (f : Int → Int) (p : Int) : Int := yE yB f p
def yWe (f : Int → Int) (p : Int) : Int := yE yL f p
def yNe (f : Int → Int) (p : Int) : Int := yE yD f p
theorem yS_i {f : Int → Int} (hf : yTx f) {p : Int} (hp : 0 ≤ p) : yS f (yS f p) = yS f p := yE_n (yE_x hf yB_m hp)
def yNv (f : Int → Int) (p : Int) : Nat → Int
  | 0 => 0
  | m + 1 => 10 * yNv f p m + (f (p + m) - 48)
theorem yNv_b {f : Int → Int} {p : Int} : ∀ m : Nat, (∀ j, p ≤ j → j < p + m → yD (f j) = true) → 0 ≤ yNv f p m ∧ yNv f p m < 10 ^ m := by
  intro m
  induction m with
  | zero => intro _; exact ⟨Int.le_refl _, by show (0 : Int) < 1; omega⟩
  | succ m ih =>
    intro h
    obtain ⟨a, b⟩ := ih (fun j h1 h2 => h j h1 (by omega))
    have d := yD_t.mp (h (p + m) (by omega) (by omega))
    show 0 ≤ 10 * yNv f p m + (f (p + m) - 48) ∧ 10 * yNv f p m + (f (p + m) - 48) < 10 ^ (m + 1)
    have e : (10 : Int) ^ (m + 1) = 10 ^ m * 10 := Int.pow_succ 10 m
    rw [e]
    generalize (10 : Int) ^ m = t at *
    omega
def yd (f : Int → Int) (p : Int) (i : Int) : Int := if p + i < yWe f p then f (p + i) - 96 else 0
theorem yd_b {f : Int → Int} {p i : Int} (h : 0 ≤ i) : 0 ≤ yd f p i ∧ yd f p i ≤ 26 := by
  unfold yd
  by_cases c : p + i < yWe f p
  · rw [if_pos c]
    have x := yL_t.mp (yE_i (g := yL) (f := f) (p := p) (by omega) c)
    omega
  · rw [if_neg c]; omega
def yC (f : Int → Int) (p : Int) : Int := 14348907 * yd f p 0 + 531441 * yd f p 1 + 19683 * yd f p 2 + 729 * yd f p 3 + 27 * yd f p 4 + yd f p 5
def yWds : List Int := [230393160, 41983839, 295368417, 117484857, 237793968, 24977727, 177103044, 16567254, 123002496, 86707773, 283563639, 115508592, 123189336, 52634845, 332864552, 292119156, 203574708, 212302449, 51270206, 266704650, 86979177, 224799543, 21867813, 209249973, 20962395, 191594322, 187539624, 91245096, 173106882, 218819934, 295344468, 194895963, 174878163]
def yWc (i : Nat) : Int := yWds.getD i (-5)
def yWn (c : Int) : Int := match yWds.findIdx? (fun x => decide (x = c)) with | some i => (i : Int) | none => -1
theorem yWn_c : ∀ i : Nat, i < 33 → yWn (yWc i) = (i : Int) := by decide +kernel
theorem yWn_no {c : Int} (h : ∀ i : Nat, i < 33 → yWc i ≠ c) : yWn c = -1 := by
  have e : yWds.findIdx? (fun x => decide (x = c)) = none := by
    rw [List.findIdx?_eq_none_iff]
    intro x hx
    obtain ⟨i, hi, e⟩ := List.mem_iff_getElem.mp hx
    have hl : i < 33 := hi
    have k := h i hl
    have g : yWc i = x := by
      show yWds.getD i (-5) = x
      rw [List.getD_eq_getElem?_getD, List.getElem?_eq_getElem hi, e]; rfl
    rw [g] at k
    exact decide_eq_false k
  show (match yWds.findIdx? (fun x => decide (x = c)) with | some i => (i : Int) | none => -1) = -1
  rw [e]
theorem yWn_is {c : Int} {i : Nat} (hi : i < 33) : yWn c = (i : Int) ↔ c = yWc i := by
  constructor
  · intro h
    by_cases e : c = yWc i
    · exact e
    · exfalso
      by_cases k : ∃ j : Nat, j < 33 ∧ yWc j = c
      · obtain ⟨j, hj, ej⟩ := k
        have x := yWn_c j hj
        rw [ej, h] at x
        have x : i = j := by omega
        rw [x] at e
        exact e ej.symm
      · have x : yWn c = -1 := yWn_no (fun j hj ej => k ⟨j, hj, ej⟩)
        omega
  · intro h
    rw [h]
    exact yWn_c i hi
theorem yWn_b {c : Int} : -1 ≤ yWn c ∧ yWn c ≤ 32 := by
  by_cases k : ∃ j : Nat, j < 33 ∧ yWc j = c
  · obtain ⟨j, hj, ej⟩ := k
    rw [← ej, yWn_c j hj]; omega
  · rw [yWn_no (fun j hj ej => k ⟨j, hj, ej⟩)]; omega
def yK (f : Int → Int) (q : Int) : Int :=
  if f q < 0 then 0
  else if yL (f q) = true then (if yD (f (q - 1)) = true then 6 else if 6 < yWe f q - q then 4 else 1)
  else if yD (f q) = true then (if yL (f (q - 1)) = true then 6 else if 4 < yNe f q - q then 5 else 2)
  else 3
def yI (f : Int → Int) (q : Int) : Int := if yK f q = 1 then yWn (yC f q) else -1
def yV (f : Int → Int) (q : Int) : Int := yNv f q (if 4 < yNe f q - q then 4 else (yNe f q - q).toNat)
def yX (f : Int → Int) (q : Int) : Int :=
  if f q < 0 then q
  else if yL (f q) = true then yS f (yWe f q)
  else if yD (f q) = true then yS f (yNe f q)
  else yS f (q + 1)
theorem yI_b {f : Int → Int} {q : Int} : -1 ≤ yI f q ∧ yI f q ≤ 32 := by
  unfold yI
  by_cases h : yK f q = 1
  · rw [if_pos h]; exact yWn_b
  · rw [if_neg h]; omega
theorem yK_b {f : Int → Int} {q : Int} : 0 ≤ yK f q ∧ yK f q ≤ 6 := by
  unfold yK
  repeat' split
  all_goals omega
theorem yK_3 {f : Int → Int} {q : Int} : yK f q = 3 ↔ 0 ≤ f q ∧ yL (f q) = false ∧ yD (f q) = false := by
  unfold yK
  by_cases a : f q < 0
  · rw [if_pos a]; constructor <;> intro h
    · omega
    · omega
  · rw [if_neg a]
    by_cases b : yL (f q) = true
    · rw [if_pos b]
      constructor
      · intro h; exfalso; revert h; repeat' split
        all_goals omega
      · intro h; rw [b] at h; exact absurd h.2.1 (by decide)
    · rw [if_neg b]
      by_cases c : yD (f q) = true
      · rw [if_pos c]
        constructor
        · intro h; exfalso; revert h; repeat' split
          all_goals omega
        · intro h; rw [c] at h; exact absurd h.2.2 (by decide)
      · rw [if_neg c]
        exact ⟨fun _ => ⟨by omega, Bool.eq_false_iff.mpr b, Bool.eq_false_iff.mpr c⟩, fun _ => rfl⟩
theorem yK_0 {f : Int → Int} {q : Int} : yK f q = 0 ↔ f q < 0 := by
  unfold yK
  by_cases a : f q < 0
  · rw [if_pos a]; exact ⟨fun _ => a, fun _ => rfl⟩
  · rw [if_neg a]
    constructor
    · intro h; exfalso; revert h; repeat' split
      all_goals omega
    · intro h; exact absurd h a
theorem yX_m {f : Int → Int} (hf : yTx f) {q : Int} (h : 0 ≤ q ∧ q ≤ 1600) : q ≤ yX f q ∧ yX f q ≤ 1600 ∧ (0 ≤ f q → q < yX f q) := by
  unfold yX
  by_cases a : f q < 0
  · rw [if_pos a]; exact ⟨Int.le_refl _, h.2, fun x => by omega⟩
  · rw [if_neg a]
    have hq : q < 1600 := by
      rcases (show q < 1600 ∨ 1600 ≤ q by omega) with c | c
      · exact c
      · have := hf.2.2 q c; omega
    by_cases b : yL (f q) = true
    · rw [if_pos b]
      have e1 : yWe f q = yWe f (q + 1) := yE_s hf yL_m h.1 b
      have e2 : q + 1 ≤ yWe f (q + 1) := yE_b
      have e3 : yWe f (q + 1) ≤ 1600 := yE_m hf yL_m ⟨by omega, by omega⟩
      have e4 : yWe f q ≤ yS f (yWe f q) := yE_b
      have e5 : yS f (yWe f q) ≤ 1600 := yE_m hf yB_m ⟨by omega, by omega⟩
      exact ⟨by omega, by omega, fun _ => by omega⟩
    · rw [if_neg b]
      by_cases c : yD (f q) = true
      · rw [if_pos c]
        have e1 : yNe f q = yNe f (q + 1) := yE_s hf yD_m h.1 c
        have e2 : q + 1 ≤ yNe f (q + 1) := yE_b
        have e3 : yNe f (q + 1) ≤ 1600 := yE_m hf yD_m ⟨by omega, by omega⟩
        have e4 : yNe f q ≤ yS f (yNe f q) := yE_b
        have e5 : yS f (yNe f q) ≤ 1600 := yE_m hf yB_m ⟨by omega, by omega⟩
        exact ⟨by omega, by omega, fun _ => by omega⟩
      · rw [if_neg c]
        have e4 : q + 1 ≤ yS f (q + 1) := yE_b
        have e5 : yS f (q + 1) ≤ 1600 := yE_m hf yB_m ⟨by omega, by omega⟩
        exact ⟨by omega, by omega, fun _ => by omega⟩
theorem yV_b {f : Int → Int} {q : Int} : 0 ≤ yV f q ∧ yV f q ≤ 9999 := by
  unfold yV
  have e := yE_b (g := yD) (f := f) (p := q)
  have i : ∀ j, q ≤ j → j < yNe f q → yD (f j) = true := fun j h1 h2 => yE_i h1 h2
  have e : q ≤ yNe f q := e
  have key : ∀ m : Nat, m ≤ 4 → (m : Int) ≤ yNe f q - q → 0 ≤ yNv f q m ∧ yNv f q m ≤ 9999 := by
    intro m hm hn
    have b := yNv_b (f := f) (p := q) m (fun j h1 h2 => i j h1 (by omega))
    rcases (show m = 0 ∨ m = 1 ∨ m = 2 ∨ m = 3 ∨ m = 4 by omega) with c | c | c | c | c
    all_goals (rw [c] at b ⊢; omega)
  by_cases c : 4 < yNe f q - q
  · rw [if_pos c]; exact key 4 (by omega) (by omega)
  · rw [if_neg c]; exact key _ (by omega) (by omega)
