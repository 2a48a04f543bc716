def yns (f : Int → Int) (s : yP) : Prop := yPg f s ≠ 42 ∧ yPg f s ≠ 47 ∧ yPg f s ≠ 43 ∧ yPg f s ≠ 45
theorem yPk_g {f : Int → Int} {s : yP} (h : yPk f s ≠ 3) : yPg f s = -1 := by
  cases s using yP_cases with
  | ok q => exact if_neg h
  | no a p => rfl
theorem yPk_i {f : Int → Int} {s : yP} (h : yPk f s ≠ 1) : yPi f s = -1 := by
  cases s using yP_cases with
  | ok q => exact if_neg h
  | no a p => rfl
theorem yPg_k {f : Int → Int} {s : yP} (h : yPg f s ≠ -1) : yPk f s = 3 := by
  by_cases c : yPk f s = 3
  · exact c
  · exact absurd (yPk_g c) h
theorem yPi_k {f : Int → Int} {s : yP} (h : yPi f s ≠ -1) : yPk f s = 1 := by
  by_cases c : yPk f s = 1
  · exact c
  · exact absurd (yPk_i c) h
theorem yVal_m {r w : Int} (h : w = -1 ∨ w = 25 ∨ w = 26 ∨ w = 20) : yVal r w = false := by
  unfold yVal
  rcases h with h | h | h | h <;> subst h <;> simp
section
variable {r : Int} {f : Int → Int} {k : List Nat} {s : yP}
theorem yJ_num (h : yPk f s = 2 ∨ yPk f s = 5) : yJ r f (1, k, s) (2, k, yPn f 0 9999 s) := by
  cases s using yP_cases with
  | no a p => rcases h with h | h <;> exact absurd (show (6 : Int) = _ from h) (by decide)
  | ok q =>
    have g : yPg f (.ok q) = -1 := yPk_g (by omega)
    have i : yPi f (.ok q) = -1 := yPk_i (by omega)
    refine yJ_eq ?_
    unfold ynx
    show (if yPg f (.ok q) = 40 then _ else if yPi f (.ok q) = 25 ∨ yPi f (.ok q) = 26 then _ else if yPi f (.ok q) = 20 ∧ r = 2 then _ else if yVal r (yPi f (.ok q)) = true then _ else (2, k, yPn f 0 9999 (.ok q))) = _
    rw [g, i, if_neg (by decide), if_neg (by decide), if_neg (fun h => absurd h.1 (by decide)), yVal_m (Or.inl rfl), if_neg (by decide)]
theorem yJ_bad (h : yPk f s ≠ 2 ∧ yPk f s ≠ 5) (h1 : yPg f s ≠ 40) (h2 : yPi f s ≠ 25 ∧ yPi f s ≠ 26) (h3 : yPi f s ≠ 20 ∨ r ≠ 2) (h4 : yVal r (yPi f s) = false) : yJ r f (1, k, s) (2, k, yPf 1 0 s) := by
  cases s using yP_cases with
  | no a p => exact yJ_no
  | ok q =>
    refine yJ_eq ?_
    unfold ynx
    show (if yPg f (.ok q) = 40 then _ else if yPi f (.ok q) = 25 ∨ yPi f (.ok q) = 26 then _ else if yPi f (.ok q) = 20 ∧ r = 2 then _ else if yVal r (yPi f (.ok q)) = true then _ else (2, k, yPn f 0 9999 (.ok q))) = _
    rw [if_neg h1, if_neg (by omega), if_neg (by omega), h4, if_neg (by decide)]
    unfold yPn
    rw [if_neg h.2, if_neg h.1]
theorem yJ_op1 (h : yPg f s = 40) (hd : ydep k ≠ 6) : yJ r f (1, k, s) (1, 1 :: k, yPx f s) := by
  cases s using yP_cases with
  | no a p => exact yJ_no
  | ok q =>
    refine yJ_eq ?_
    unfold ynx
    show (if yPg f (.ok q) = 40 then yop f 1 1 k (.ok q) else _) = _
    rw [if_pos h]; exact if_neg hd
theorem yJ_op6 (h : yPg f s = 40) (hd : ydep k = 6) : yJ r f (1, k, s) (2, k, yPf 4 0 s) := by
  cases s using yP_cases with
  | no a p => exact yJ_no
  | ok q =>
    refine yJ_tr (yJ_eq (b := (0, [], yPf 4 0 (.ok q))) ?_) yJ_no
    unfold ynx
    show (if yPg f (.ok q) = 40 then yop f 1 1 k (.ok q) else _) = _
    rw [if_pos h]; exact if_pos hd
theorem yJ_mm (h : yPi f s = 25 ∨ yPi f s = 26) : yJ r f (1, k, s) (3, k, yPx f s) := by
  cases s using yP_cases with
  | no a p => exact yJ_no
  | ok q =>
    have g : yPg f (.ok q) = -1 := yPk_g (by have := yPi_k (f := f) (s := .ok q) (by omega); omega)
    refine yJ_eq ?_
    unfold ynx
    show (if yPg f (.ok q) = 40 then _ else if yPi f (.ok q) = 25 ∨ yPi f (.ok q) = 26 then _ else _) = _
    rw [g, if_neg (by decide), if_pos h]
theorem yJ_far (h : yPi f s = 20) (hr : r = 2) (hd : ydep k ≠ 6) : yJ r f (1, k, s) (1, 4 :: k, yPx f s) := by
  cases s using yP_cases with
  | no a p => exact yJ_no
  | ok q =>
    have g : yPg f (.ok q) = -1 := yPk_g (by have := yPi_k (f := f) (s := .ok q) (by omega); omega)
    refine yJ_eq ?_
    unfold ynx
    show (if yPg f (.ok q) = 40 then _ else if yPi f (.ok q) = 25 ∨ yPi f (.ok q) = 26 then _ else if yPi f (.ok q) = 20 ∧ r = 2 then yop f 1 4 k (.ok q) else _) = _
    rw [g, if_neg (by decide), if_neg (by omega), if_pos ⟨h, hr⟩]; exact if_neg hd
theorem yJ_far6 (h : yPi f s = 20) (hr : r = 2) (hd : ydep k = 6) : yJ r f (1, k, s) (2, k, yPf 4 0 s) := by
  cases s using yP_cases with
  | no a p => exact yJ_no
  | ok q =>
    have g : yPg f (.ok q) = -1 := yPk_g (by have := yPi_k (f := f) (s := .ok q) (by omega); omega)
    refine yJ_tr (yJ_eq (b := (0, [], yPf 4 0 (.ok q))) ?_) yJ_no
    unfold ynx
    show (if yPg f (.ok q) = 40 then _ else if yPi f (.ok q) = 25 ∨ yPi f (.ok q) = 26 then _ else if yPi f (.ok q) = 20 ∧ r = 2 then yop f 1 4 k (.ok q) else _) = _
    rw [g, if_neg (by decide), if_neg (by omega), if_pos ⟨h, hr⟩]; exact if_pos hd
theorem yJ_val (h : yVal r (yPi f s) = true) : yJ r f (1, k, s) (2, k, yPx f s) := by
  cases s using yP_cases with
  | no a p => exact yJ_no
  | ok q =>
    have n : yPi f (.ok q) ≠ -1 ∧ yPi f (.ok q) ≠ 25 ∧ yPi f (.ok q) ≠ 26 ∧ yPi f (.ok q) ≠ 20 := by
      refine ⟨?_, ?_, ?_, ?_⟩ <;> intro e <;> rw [yVal_m (by omega)] at h <;> exact absurd h (by decide)
    have g : yPg f (.ok q) = -1 := yPk_g (by have := yPi_k (f := f) (s := .ok q) (by omega); omega)
    refine yJ_eq ?_
    unfold ynx
    show (if yPg f (.ok q) = 40 then _ else if yPi f (.ok q) = 25 ∨ yPi f (.ok q) = 26 then _ else if yPi f (.ok q) = 20 ∧ r = 2 then _ else if yVal r (yPi f (.ok q)) = true then _ else _) = _
    rw [g, if_neg (by decide), if_neg (by omega), if_neg (by omega), if_pos h]
theorem yJ_of : yJ r f (2, 4 :: k, s) (2, k, s) := by
  cases s using yP_cases with
  | no a p => exact yJ_no
  | ok q => refine yJ_eq ?_; unfold ynx; exact if_pos rfl
theorem yJ_o (hk : ytop k ≠ 4) (h : yPg f s = 42 ∨ yPg f s = 47 ∨ yPg f s = 43 ∨ yPg f s = 45) : yJ r f (2, k, s) (1, k, yPx f s) := by
  cases s using yP_cases with
  | no a p => exact yJ_no
  | ok q =>
    refine yJ_eq ?_
    unfold ynx
    show (if ytop k = 4 then _ else if yPg f (.ok q) = 42 ∨ yPg f (.ok q) = 47 ∨ yPg f (.ok q) = 43 ∨ yPg f (.ok q) = 45 then _ else _) = _
    rw [if_neg hk, if_pos h]
theorem yJ_cl {a : Nat} (ha : a = 1 ∨ a = 3) (h : yns f s) : yJ r f (2, a :: k, s) (2, k, yPs f 41 s) := by
  obtain ⟨h1, h2, h3, h4⟩ := h
  cases s using yP_cases with
  | no a p => unfold yPs; rw [if_neg (by show ¬ (-1 : Int) = 41; decide)]; exact yJ_no
  | ok q =>
    refine yJ_eq ?_
    unfold ynx
    show (if a = 4 then _ else if yPg f (.ok q) = 42 ∨ yPg f (.ok q) = 47 ∨ yPg f (.ok q) = 43 ∨ yPg f (.ok q) = 45 then _ else if a = 1 ∨ a = 3 then _ else _) = _
    rw [if_neg (by omega), if_neg (by omega), if_pos ha]; rfl
theorem yJ_cm (h : yns f s) : yJ r f (2, 2 :: k, s) (1, 3 :: k, yPs f 44 s) := by
  obtain ⟨h1, h2, h3, h4⟩ := h
  cases s using yP_cases with
  | no a p => unfold yPs; rw [if_neg (by show ¬ (-1 : Int) = 44; decide)]; exact yJ_no
  | ok q =>
    have t : ytop (2 :: k) = 2 := rfl
    refine yJ_eq ?_
    unfold ynx
    show (if ytop (2 :: k) = 4 then _ else if yPg f (.ok q) = 42 ∨ yPg f (.ok q) = 47 ∨ yPg f (.ok q) = 43 ∨ yPg f (.ok q) = 45 then _ else if ytop (2 :: k) = 1 ∨ ytop (2 :: k) = 3 then _ else if ytop (2 :: k) = 2 then _ else _) = _
    rw [if_neg (by omega), if_neg (by omega), if_neg (by omega), if_pos t]; rfl
theorem yJ_pr (h : yPg f s = 40) (hd : ydep k ≠ 6) : yJ r f (3, k, s) (1, 2 :: k, yPx f s) := by
  cases s using yP_cases with
  | no a p => exact yJ_no
  | ok q =>
    refine yJ_eq ?_
    unfold ynx
    show (if yPg f (.ok q) = 40 then yop f 1 2 k (.ok q) else _) = _
    rw [if_pos h]; exact if_neg hd
theorem yJ_pr6 (h : yPg f s = 40) (hd : ydep k = 6) : yJ r f (3, k, s) (2, k, yPf 4 0 s) := by
  cases s using yP_cases with
  | no a p => exact yJ_no
  | ok q =>
    refine yJ_tr (yJ_eq (b := (0, [], yPf 4 0 (.ok q))) ?_) yJ_no
    unfold ynx
    show (if yPg f (.ok q) = 40 then yop f 1 2 k (.ok q) else _) = _
    rw [if_pos h]; exact if_pos hd
theorem yJ_prn (h : yPg f s ≠ 40) : yJ r f (3, k, s) (2, k, yPf 1 0 s) := by
  cases s using yP_cases with
  | no a p => exact yJ_no
  | ok q =>
    refine yJ_tr (yJ_eq (b := (0, [], yPf 1 0 (.ok q))) ?_) yJ_no
    unfold ynx
    show (if yPg f (.ok q) = 40 then yop f 1 2 k (.ok q) else _) = _
    rw [if_neg h]
theorem yJ_cs (h : yPg f s = 60 ∨ yPg f s = 61 ∨ yPg f s = 62) : yJ r f (2, 5 :: k, s) (1, 6 :: k, yPx f s) := by
  cases s using yP_cases with
  | no a p => exact yJ_no
  | ok q =>
    have t : ytop (5 :: k) = 5 := rfl
    refine yJ_eq ?_
    unfold ynx
    show (if ytop (5 :: k) = 4 then _ else if yPg f (.ok q) = 42 ∨ yPg f (.ok q) = 47 ∨ yPg f (.ok q) = 43 ∨ yPg f (.ok q) = 45 then _ else if ytop (5 :: k) = 1 ∨ ytop (5 :: k) = 3 then _ else if ytop (5 :: k) = 2 then _ else if ytop (5 :: k) = 5 then (if yPg f (.ok q) = 60 ∨ yPg f (.ok q) = 61 ∨ yPg f (.ok q) = 62 then _ else _) else _) = _
    rw [if_neg (by omega), if_neg (by omega), if_neg (by omega), if_neg (by omega), if_pos t, if_pos h]; rfl
theorem yJ_cb (hn : yns f s) (h : yPg f s ≠ 60 ∧ yPg f s ≠ 61 ∧ yPg f s ≠ 62) : yJ r f (2, 5 :: k, s) (5, k, yPf 1 0 s) := by
  obtain ⟨h1, h2, h3, h4⟩ := hn
  cases s using yP_cases with
  | no a p => exact yJ_no
  | ok q =>
    have t : ytop (5 :: k) = 5 := rfl
    refine yJ_tr (yJ_eq (b := (0, [], yPf 1 0 (.ok q))) ?_) yJ_no
    unfold ynx
    show (if ytop (5 :: k) = 4 then _ else if yPg f (.ok q) = 42 ∨ yPg f (.ok q) = 47 ∨ yPg f (.ok q) = 43 ∨ yPg f (.ok q) = 45 then _ else if ytop (5 :: k) = 1 ∨ ytop (5 :: k) = 3 then _ else if ytop (5 :: k) = 2 then _ else if ytop (5 :: k) = 5 then (if yPg f (.ok q) = 60 ∨ yPg f (.ok q) = 61 ∨ yPg f (.ok q) = 62 then _ else _) else _) = _
    rw [if_neg (by omega), if_neg (by omega), if_neg (by omega), if_neg (by omega), if_pos t, if_neg (by omega)]
theorem yJ_ce (hn : yns f s) : yJ r f (2, 6 :: k, s) (5, k, s) := by
  obtain ⟨h1, h2, h3, h4⟩ := hn
  cases s using yP_cases with
  | no a p => exact yJ_no
  | ok q =>
    have t : ytop (6 :: k) = 6 := rfl
    refine yJ_eq ?_
    unfold ynx
    show (if ytop (6 :: k) = 4 then _ else if yPg f (.ok q) = 42 ∨ yPg f (.ok q) = 47 ∨ yPg f (.ok q) = 43 ∨ yPg f (.ok q) = 45 then _ else if ytop (6 :: k) = 1 ∨ ytop (6 :: k) = 3 then _ else if ytop (6 :: k) = 2 then _ else if ytop (6 :: k) = 5 then _ else if ytop (6 :: k) = 6 then _ else _) = _
    rw [if_neg (by omega), if_neg (by omega), if_neg (by omega), if_neg (by omega), if_neg (by omega), if_pos t]; rfl
theorem yJ_not (h : yPi f s = 23) (hd : ydep k ≠ 6) : yJ r f (4, k, s) (4, 8 :: k, yPx f s) := by
  cases s using yP_cases with
  | no a p => exact yJ_no
  | ok q =>
    refine yJ_eq ?_
    unfold ynx
    show (if yPi f (.ok q) = 23 then yop f 4 8 k (.ok q) else _) = _
    rw [if_pos h]; exact if_neg hd
theorem yJ_not6 (h : yPi f s = 23) (hd : ydep k = 6) : yJ r f (4, k, s) (5, k, yPf 4 0 s) := by
  cases s using yP_cases with
  | no a p => exact yJ_no
  | ok q =>
    refine yJ_tr (yJ_eq (b := (0, [], yPf 4 0 (.ok q))) ?_) yJ_no
    unfold ynx
    show (if yPi f (.ok q) = 23 then yop f 4 8 k (.ok q) else _) = _
    rw [if_pos h]; exact if_pos hd
theorem yJ_sq (h : yPg f s = 91) (hd : ydep k ≠ 6) : yJ r f (4, k, s) (4, 7 :: k, yPx f s) := by
  have i : yPi f s = -1 := yPk_i (by have := yPg_k (f := f) (s := s) (by omega); omega)
  cases s using yP_cases with
  | no a p => exact yJ_no
  | ok q =>
    refine yJ_eq ?_
    unfold ynx
    show (if yPi f (.ok q) = 23 then _ else if yPg f (.ok q) = 91 then yop f 4 7 k (.ok q) else _) = _
    rw [if_neg (by omega), if_pos h]; exact if_neg hd
theorem yJ_sq6 (h : yPg f s = 91) (hd : ydep k = 6) : yJ r f (4, k, s) (5, k, yPf 4 0 s) := by
  have i : yPi f s = -1 := yPk_i (by have := yPg_k (f := f) (s := s) (by omega); omega)
  cases s using yP_cases with
  | no a p => exact yJ_no
  | ok q =>
    refine yJ_tr (yJ_eq (b := (0, [], yPf 4 0 (.ok q))) ?_) yJ_no
    unfold ynx
    show (if yPi f (.ok q) = 23 then _ else if yPg f (.ok q) = 91 then yop f 4 7 k (.ok q) else _) = _
    rw [if_neg (by omega), if_pos h]; exact if_pos hd
theorem yJ_all (h : yPi f s = 24) : yJ r f (4, k, s) (5, k, yPx f s) := by
  have g : yPg f s = -1 := yPk_g (by have := yPi_k (f := f) (s := s) (by omega); omega)
  cases s using yP_cases with
  | no a p => exact yJ_no
  | ok q =>
    refine yJ_eq ?_
    unfold ynx
    show (if yPi f (.ok q) = 23 then _ else if yPg f (.ok q) = 91 then _ else if yPi f (.ok q) = 24 then _ else _) = _
    rw [if_neg (by omega), if_neg (by omega), if_pos h]
theorem yJ_cmp (h1 : yPi f s ≠ 23) (h2 : yPg f s ≠ 91) (h3 : yPi f s ≠ 24) : yJ r f (4, k, s) (1, 5 :: k, s) := by
  cases s using yP_cases with
  | no a p => exact yJ_no
  | ok q =>
    refine yJ_eq ?_
    unfold ynx
    show (if yPi f (.ok q) = 23 then _ else if yPg f (.ok q) = 91 then _ else if yPi f (.ok q) = 24 then _ else _) = _
    rw [if_neg h1, if_neg h2, if_neg h3]
theorem yJ_nt : yJ r f (5, 8 :: k, s) (5, k, s) := by
  cases s using yP_cases with
  | no a p => exact yJ_no
  | ok q => refine yJ_eq ?_; unfold ynx; exact if_pos rfl
theorem yJ_ao (hk : ytop k ≠ 8) (h : yPi f s = 22 ∨ yPi f s = 21) : yJ r f (5, k, s) (4, k, yPx f s) := by
  cases s using yP_cases with
  | no a p => exact yJ_no
  | ok q =>
    refine yJ_eq ?_
    unfold ynx
    show (if ytop k = 8 then _ else if yPi f (.ok q) = 22 ∨ yPi f (.ok q) = 21 then _ else _) = _
    rw [if_neg hk, if_pos h]
theorem yJ_qc (h : yPi f s ≠ 22 ∧ yPi f s ≠ 21) : yJ r f (5, 7 :: k, s) (5, k, yPs f 93 s) := by
  cases s using yP_cases with
  | no a p => unfold yPs; rw [if_neg (by show ¬ (-1 : Int) = 93; decide)]; exact yJ_no
  | ok q =>
    have t : ytop (7 :: k) = 7 := rfl
    refine yJ_eq ?_
    unfold ynx
    show (if ytop (7 :: k) = 8 then _ else if yPi f (.ok q) = 22 ∨ yPi f (.ok q) = 21 then _ else if ytop (7 :: k) = 7 then _ else _) = _
    rw [if_neg (by omega), if_neg (by omega), if_pos t]; rfl
end
def ySum (r : Int) (f : Int → Int) (s t : yP) : Prop := yJ r f (1, [], s) (2, [], t) ∧ yns f t
def yTst (r : Int) (f : Int → Int) (s t : yP) : Prop := yJ r f (4, [], s) (5, [], t) ∧ yPi f t ≠ 22 ∧ yPi f t ≠ 21
theorem yfin {r : Int} {f : Int → Int} {m : Nat} {s t : yP} (hm : m ≠ 0) (hs : ∀ q, s = .ok q → ynx r f (m, [], s) = (m, [], s)) (ht : ∀ q, t = .ok q → ynx r f (m, [], t) = (m, [], t)) (h : yJ r f (m, [], s) (m, [], t)) : s = t := by
  cases s using yP_cases with
  | ok q =>
    cases t using yP_cases with
    | ok p =>
      have e := yJ_fx h (hs q rfl) (ht p rfl)
      injection e with _ e; injection e with _ e
    | no a p =>
      have e := yJ_fx (yJ_tr h (yJ_no (n := 0) (l := []))) (hs q rfl) (by unfold ynx; rfl)
      injection e with e _; exact absurd e hm
  | no a p =>
    cases t using yP_cases with
    | ok q =>
      have e := yJ_fx (yJ_tr (yJ_no (m := 0) (k := [])) h) (by unfold ynx; rfl) (ht q rfl)
      injection e with e _; exact absurd e.symm hm
    | no b u =>
      have e := yJ_fx (yJ_tr (yJ_no (m := 0) (k := [])) (yJ_tr h (yJ_no (n := 0) (l := [])))) (by unfold ynx; rfl) (by unfold ynx; rfl)
      injection e with _ e; injection e with _ e
theorem ySum_u {r : Int} {f : Int → Int} {s t u : yP} (h : ySum r f s t) (g : ySum r f s u) : t = u := by
  have key : ∀ t, yns f t → ∀ q, t = .ok q → ynx r f (2, [], t) = (2, [], t) := by
    intro t n q e
    subst e
    obtain ⟨h1, h2, h3, h4⟩ := n
    unfold ynx
    show (if ytop [] = 4 then _ else if yPg f (.ok q) = 42 ∨ yPg f (.ok q) = 47 ∨ yPg f (.ok q) = 43 ∨ yPg f (.ok q) = 45 then _ else if ytop [] = 1 ∨ ytop [] = 3 then _ else if ytop [] = 2 then _ else if ytop [] = 5 then _ else if ytop [] = 6 then _ else _) = _
    rw [if_neg (by decide), if_neg (by omega), if_neg (by decide), if_neg (by decide), if_neg (by decide), if_neg (by decide)]
  exact yfin (by decide) (key t h.2) (key u g.2) (yJ_tr (yJ_sy h.1) g.1)
theorem yTst_u {r : Int} {f : Int → Int} {s t u : yP} (h : yTst r f s t) (g : yTst r f s u) : t = u := by
  have key : ∀ t, (yPi f t ≠ 22 ∧ yPi f t ≠ 21) → ∀ q, t = .ok q → ynx r f (5, [], t) = (5, [], t) := by
    intro t n q e
    subst e
    unfold ynx
    show (if ytop [] = 8 then _ else if yPi f (.ok q) = 22 ∨ yPi f (.ok q) = 21 then _ else if ytop [] = 7 then _ else _) = _
    rw [if_neg (by decide), if_neg (by omega), if_neg (by decide)]
  exact yfin (by decide) (key t h.2) (key u g.2) (yJ_tr (yJ_sy h.1) g.1)
noncomputable def ySm (r : Int) (f : Int → Int) (s : yP) : yP := @dite _ (∃ t, ySum r f s t) (Classical.propDecidable _) (fun h => h.choose) (fun _ => s)
noncomputable def yTt (r : Int) (f : Int → Int) (s : yP) : yP := @dite _ (∃ t, yTst r f s t) (Classical.propDecidable _) (fun h => h.choose) (fun _ => s)
theorem ySm_eq {r : Int} {f : Int → Int} {s t : yP} (h : ySum r f s t) : ySm r f s = t := by
  unfold ySm
  have x : ∃ t, ySum r f s t := ⟨t, h⟩
  rw [dif_pos x]
  exact ySum_u x.choose_spec h
theorem yTt_eq {r : Int} {f : Int → Int} {s t : yP} (h : yTst r f s t) : yTt r f s = t := by
  unfold yTt
  have x : ∃ t, yTst r f s t := ⟨t, h⟩
  rw [dif_pos x]
  exact yTst_u x.choose_spec h
