def yab (c : Int) : List Nat := if c = 20 then [1] else if c = 21 ∨ c = 22 then [2] else if c = 23 ∨ c = 24 then [3] else if c = 25 then [7] else if c = 12 then [8] else if 60 ≤ c then [4] else []
def ysk (w : Nat → Int) (b : Nat) : Nat → List Nat
  | 0 => []
  | n + 1 => yab (w (b + n)) ++ ysk w b n
theorem ysk_eq {w v : Nat → Int} {b : Nat} : ∀ n : Nat, (∀ i, b ≤ i → i < b + n → w i = v i) → ysk w b n = ysk v b n := by
  intro n
  induction n with
  | zero => intro _; rfl
  | succ n ih =>
    intro h
    show yab (w (b + n)) ++ ysk w b n = yab (v (b + n)) ++ ysk v b n
    rw [ih (fun i h1 h2 => h i h1 (by omega)), h (b + n) (by omega) (by omega)]
theorem ysk_p {w v : Nat → Int} {b n : Nat} {c : Int} (h : ∀ i, b ≤ i → i < b + n → v i = w i) (hc : v (b + n) = c) : ysk v b (n + 1) = yab c ++ ysk w b n := by
  show yab (v (b + n)) ++ ysk v b n = _
  rw [hc, ysk_eq n h]
theorem yab_o {c : Int} (h : (1 ≤ c ∧ c ≤ 11) ∨ c = 13) : yab c = [] := by
  unfold yab
  repeat' split
  all_goals first | rfl | omega
theorem yab_len {c : Int} : (yab c).length ≤ 1 := by
  unfold yab
  repeat' split
  all_goals decide
def ybr (w : Nat → Int) (b : Nat) : Nat → Int
  | 0 => -1
  | n + 1 => if 20 ≤ w (b + n) ∧ w (b + n) ≤ 24 then w (b + n) else ybr w b n
def ysw (w : Nat → Int) (b n : Nat) : Prop := (∀ i, b ≤ i → i < b + n → (1 ≤ w i ∧ w i ≤ 4) ∨ (20 ≤ w i ∧ w i ≤ 24) ∨ w i = 60) ∧ ∀ i, b ≤ i → i + 1 < b + n → w i = 60 → 20 ≤ w (i + 1)
theorem ysw_d {w : Nat → Int} {b n : Nat} (h : ysw w b (n + 1)) : ysw w b n := ⟨fun i h1 h2 => h.1 i h1 (by omega), fun i h1 h2 => h.2 i h1 (by omega)⟩
theorem ybr_t {w : Nat → Int} {b : Nat} : ∀ n : Nat, ysw w b n → (n = 0 ∨ w (b + n - 1) ≠ 60) → ysk w b n = [] ∧ ybr w b n = -1 ∨ ∃ l, ysk w b n = yab (ybr w b n) ++ l ∧ 20 ≤ ybr w b n ∧ ybr w b n ≤ 24 := by
  intro n
  induction n with
  | zero => intro _ _; exact Or.inl ⟨rfl, rfl⟩
  | succ n ih =>
    intro h t
    have t : w (b + n) ≠ 60 := by
      rcases t with t | t
      · omega
      · rw [show b + (n + 1) - 1 = b + n by omega] at t; exact t
    by_cases c : 20 ≤ w (b + n) ∧ w (b + n) ≤ 24
    · refine Or.inr ⟨ysk w b n, ?_, ?_⟩
      · show yab (w (b + n)) ++ _ = yab (if 20 ≤ w (b + n) ∧ w (b + n) ≤ 24 then w (b + n) else ybr w b n) ++ _
        rw [if_pos c]
      · show 20 ≤ (if 20 ≤ w (b + n) ∧ w (b + n) ≤ 24 then w (b + n) else ybr w b n) ∧ (if 20 ≤ w (b + n) ∧ w (b + n) ≤ 24 then w (b + n) else ybr w b n) ≤ 24
        rw [if_pos c]; exact c
    · have o : 1 ≤ w (b + n) ∧ w (b + n) ≤ 4 := by
        rcases h.1 (b + n) (by omega) (by omega) with x | x | x
        · exact x
        · exact absurd x c
        · exact absurd x t
      have e : ysk w b (n + 1) = ysk w b n := by
        show yab (w (b + n)) ++ ysk w b n = _
        rw [yab_o (Or.inl (by omega))]; rfl
      have g : ybr w b (n + 1) = ybr w b n := by
        show (if 20 ≤ w (b + n) ∧ w (b + n) ≤ 24 then w (b + n) else ybr w b n) = _
        rw [if_neg c]
      rw [e, g]
      refine ih (ysw_d h) ?_
      by_cases z : n = 0
      · exact Or.inl z
      · refine Or.inr (fun x => ?_)
        have y := h.2 (b + n - 1) (by omega) (by omega) x
        rw [show b + n - 1 + 1 = b + n by omega] at y
        omega
theorem ysw_p {w v : Nat → Int} {b n : Nat} {c : Int} (h : ysw w b n) (hv : ∀ i, b ≤ i → i < b + n → v i = w i) (hc : v (b + n) = c) (ho : (1 ≤ c ∧ c ≤ 4 ∧ (n = 0 ∨ w (b + n - 1) ≠ 60)) ∨ (20 ≤ c ∧ c ≤ 24) ∨ c = 60) : ysw v b (n + 1) := by
  refine ⟨fun i h1 h2 => ?_, fun i h1 h2 e => ?_⟩
  · by_cases x : i < b + n
    · rw [hv i h1 x]; exact h.1 i h1 x
    · rw [show i = b + n by omega, hc]
      rcases ho with o | o | o
      · exact Or.inl ⟨o.1, o.2.1⟩
      · exact Or.inr (Or.inl o)
      · exact Or.inr (Or.inr o)
  · by_cases x : i + 1 < b + n
    · rw [hv (i + 1) (by omega) x]
      exact h.2 i h1 x (by rw [← hv i h1 (by omega)]; exact e)
    · have y : i + 1 = b + n := by omega
      rw [y, hc]
      rcases ho with o | o | o
      · exfalso
        rcases o.2.2 with z | z
        · omega
        · rw [hv i h1 (by omega)] at e
          rw [show b + n - 1 = i by omega] at z
          exact z e
      · omega
      · omega
theorem ysw_c {w v : Nat → Int} {b n : Nat} (h : ysw w b n) (hv : ∀ i, b ≤ i → i < b + n → v i = w i) : ysw v b n :=
  ⟨fun i h1 h2 => by rw [hv i h1 h2]; exact h.1 i h1 h2, fun i h1 h2 e => by rw [hv (i + 1) (by omega) h2]; exact h.2 i h1 h2 (by rw [← hv i h1 (by omega)]; exact e)⟩
def zWc (k j : Nat) : Bool := (k == 164 && j == 97) || (k == 234 && decide (j < 1700))
def zWd (k j : Nat) : Bool := zWc k j || (k == 164 && j == 99)
theorem zwc_234 {j : Nat} (h : j < 1700) : zWc 234 j = true := by simp [zWc, h]
theorem zi_cd : ∀ k j, zWc k j = true → zWd k j = true := fun k j h => by simp only [zWd, h, Bool.true_or]
theorem ybr_s {w : Nat → Int} {b k v : Int} (hb : 0 ≤ b ∧ b ≤ k) (hv : w k.toNat = v) (hn : ¬ (20 ≤ v ∧ v ≤ 24)) : ybr w b.toNat (k + 1 - b).toNat = ybr w b.toNat (k - b).toNat := by
  rw [show (k + 1 - b).toNat = (k - b).toNat + 1 by omega]
  show (if 20 ≤ w (b.toNat + (k - b).toNat) ∧ w (b.toNat + (k - b).toNat) ≤ 24 then w (b.toNat + (k - b).toNat) else ybr w b.toNat (k - b).toNat) = _
  rw [show b.toNat + (k - b).toNat = k.toNat by omega, hv, if_neg hn]
theorem ybr_v {w : Nat → Int} {b k v : Int} (hb : 0 ≤ b ∧ b ≤ k) (hv : w k.toNat = v) (hn : 20 ≤ v ∧ v ≤ 24) : ybr w b.toNat (k + 1 - b).toNat = v := by
  rw [show (k + 1 - b).toNat = (k - b).toNat + 1 by omega]
  show (if 20 ≤ w (b.toNat + (k - b).toNat) ∧ w (b.toNat + (k - b).toNat) ≤ 24 then w (b.toNat + (k - b).toNat) else ybr w b.toNat (k - b).toNat) = _
  rw [show b.toNat + (k - b).toNat = k.toNat by omega, hv, if_pos hn]
theorem ybr_0 {w : Nat → Int} {b k : Int} (h : k + 1 ≤ b) : ybr w b.toNat (k + 1 - b).toNat = -1 := by
  rw [show (k + 1 - b).toNat = 0 by omega]; rfl
def zWe (k j : Nat) : Bool := zWd k j || (k == 164 && j == 100)
theorem zi_de : ∀ k j, zWd k j = true → zWe k j = true := fun k j h => by simp only [zWe, h, Bool.true_or]
theorem yRq_e {s s' : zSto} (h : zOn zWe s s') : yRq s s' := ⟨fun j => h 165 j rfl, h _ _ rfl, h _ _ rfl, h _ _ rfl, h _ _ rfl, h _ _ rfl⟩
theorem yRq_d {s s' : zSto} (h : zOn zWd s s') : yRq s s' := ⟨fun j => h 165 j rfl, h _ _ rfl, h _ _ rfl, h _ _ rfl, h _ _ rfl, h _ _ rfl⟩
theorem yRq_c {s s' : zSto} (h : zOn zWc s s') : yRq s s' := ⟨fun j => h 165 j rfl, h _ _ rfl, h _ _ rfl, h _ _ rfl, h _ _ rfl, h _ _ rfl⟩
theorem ydr_s {w : Nat → Int} {m n : Int} {v : Int} {Q : Int → Prop} (h : ∀ i : Nat, n ≤ i → (i : Int) < m → Q (w i)) (h1 : 1 ≤ n) (e : w (n - 1).toNat = v) (hv : Q v) : ∀ i : Nat, n - 1 ≤ i → (i : Int) < m → Q (w i) := by
  intro i h2 h3
  by_cases x : n ≤ (i : Int)
  · exact h i x h3
  · rw [show i = (n - 1).toNat by omega, e]; exact hv
def yqw (w : Int) : Int := if w = 12 then 0 else if w = 13 then 1 else if w = 14 then 2 else if w = 6 then 3 else if w = 15 then 4 else if w = 16 then 5 else if w = 17 then 6 else if w = 18 then 7 else if w = 19 then 8 else if w = 8 then 9 else if w = 20 then 10 else -1
abbrev yalw (t k : Int) : Prop := k < 2 ∨ (t = 0 ∧ k = 2) ∨ (t = 1 ∧ 3 ≤ k ∧ k ≤ 5) ∨ (t ≠ 0 ∧ t ≠ 1 ∧ 2 < k)
theorem yqw_v {t w : Int} (ht : 0 ≤ t ∧ t ≤ 2) : (0 ≤ yqw w ∧ yqw w < 10 ∧ yalw t (yqw w)) ↔ yVal t w = true := by
  have k := yVi_c t w
  have e : yVal t w = true ↔ yVi t w = 1 := ⟨fun h => if_pos h, yVi_1⟩
  rw [e]
  unfold yqw yalw
  constructor
  · intro h
    refine k.1 ?_
    revert h
    repeat' split
    all_goals (intro h; omega)
  · intro h
    by_cases c : w = 12 ∨ w = 13 ∨ (w = 14 ∧ t = 0) ∨ ((w = 6 ∨ w = 15 ∨ w = 16) ∧ t ≠ 0) ∨ ((w = 17 ∨ w = 18 ∨ w = 19 ∨ w = 8) ∧ t = 2)
    · repeat' split
      all_goals omega
    · rw [k.2 c] at h; omega
theorem yqw_f {t w : Int} (ht : 0 ≤ t ∧ t ≤ 2) : (10 ≤ yqw w ∧ yqw w < 11 ∧ yalw t (yqw w)) ↔ (w = 20 ∧ t = 2) := by
  unfold yqw yalw
  repeat' split
  all_goals (constructor <;> intro h <;> omega)
theorem yqw_n (w : Int) : (yqw w = 0 → w = 12) ∧ (yqw w = 1 → w = 13) ∧ (yqw w = 2 → w = 14) ∧ (yqw w = 3 → w = 6) ∧ (yqw w = 4 → w = 15) ∧ (yqw w = 5 → w = 16) ∧ (yqw w = 6 → w = 17) ∧ (yqw w = 7 → w = 18) ∧ (yqw w = 8 → w = 19) ∧ (yqw w = 9 → w = 8) ∧ (yqw w = 10 → w = 20) := by
  unfold yqw
  repeat' split
  all_goals omega
def yqq (w : Nat → Int) (n : Int) : Prop := ∃ j : Nat, (j : Int) < n ∧ w j = 25
theorem ypw_3 {f : Int → Int} {p : yP} {w : Int} (h : yPi f p = w ∨ yPo p = 0) : yPw f w p = yPx f p := by
  rcases h with h | h
  · exact (ypw_1 h).symm
  · cases p using yP_cases with
    | ok q => exact absurd h (by show ¬ (1 : Int) = 0; decide)
    | no a b =>
      unfold yPw
      split
      · rfl
      · rfl
