def yPd (u : Int) : Int := if u < 27 then 14348907 * u else if u < 729 then 531441 * u else if u < 19683 then 19683 * u else if u < 531441 then 729 * u else if u < 14348907 then 27 * u else u
def yvu (u : Int) : Prop := 0 < u ∧ u < 387420489 ∧ u % 27 ≠ 0
theorem yPd_i {a b : Int} (ha : yvu a) (hb : yvu b) (h : yPd a = yPd b) : a = b := by
  obtain ⟨a1, a2, a3⟩ := ha
  obtain ⟨b1, b2, b3⟩ := hb
  unfold yPd at h
  repeat' split at h
  all_goals omega
theorem yd_n {f : Int → Int} {q : Int} (i : Int) (h0 : 0 ≤ i) (h : q + i < yWe f q) : yd f q i = f (q + i) - 96 ∧ 1 ≤ f (q + i) - 96 ∧ f (q + i) - 96 ≤ 26 := by
  have x := yL_t.mp (yE_i (g := yL) (f := f) (p := q) (j := q + i) (by omega) h)
  exact ⟨if_pos h, by omega, by omega⟩
theorem yut_C {f : Int → Int} {q : Int} (h : 1 ≤ yWe f q - q ∧ yWe f q - q ≤ 6) : yPd (yut f q (yWe f q - q).toNat) = yC f q ∧ yvu (yut f q (yWe f q - q).toNat) := by
  have z : ∀ i : Int, yWe f q - q ≤ i → yd f q i = 0 := fun i hi => if_neg (by omega)
  generalize hn : (yWe f q - q).toNat = n
  unfold yC yPd yvu
  rcases (show n = 1 ∨ n = 2 ∨ n = 3 ∨ n = 4 ∨ n = 5 ∨ n = 6 by omega) with c | c | c | c | c | c <;> subst c
  · obtain ⟨a0, b0, c0⟩ := yd_n (f := f) (q := q) 0 (by omega) (by omega)
    rw [a0, z 1 (by omega), z 2 (by omega), z 3 (by omega), z 4 (by omega), z 5 (by omega)]
    simp only [yut] at *
    simp at *
    generalize f q = x0 at *
    refine ⟨?_, by omega⟩
    repeat' split
    all_goals omega
  · obtain ⟨a0, b0, c0⟩ := yd_n (f := f) (q := q) 0 (by omega) (by omega)
    obtain ⟨a1, b1, c1⟩ := yd_n (f := f) (q := q) 1 (by omega) (by omega)
    rw [a0, a1, z 2 (by omega), z 3 (by omega), z 4 (by omega), z 5 (by omega)]
    simp only [yut] at *
    simp at *
    generalize f q = x0 at *
    generalize f (q + 1) = x1 at *
    refine ⟨?_, by omega⟩
    repeat' split
    all_goals omega
  · obtain ⟨a0, b0, c0⟩ := yd_n (f := f) (q := q) 0 (by omega) (by omega)
    obtain ⟨a1, b1, c1⟩ := yd_n (f := f) (q := q) 1 (by omega) (by omega)
    obtain ⟨a2, b2, c2⟩ := yd_n (f := f) (q := q) 2 (by omega) (by omega)
    rw [a0, a1, a2, z 3 (by omega), z 4 (by omega), z 5 (by omega)]
    simp only [yut] at *
    simp at *
    generalize f q = x0 at *
    generalize f (q + 1) = x1 at *
    generalize f (q + 2) = x2 at *
    refine ⟨?_, by omega⟩
    repeat' split
    all_goals omega
  · obtain ⟨a0, b0, c0⟩ := yd_n (f := f) (q := q) 0 (by omega) (by omega)
    obtain ⟨a1, b1, c1⟩ := yd_n (f := f) (q := q) 1 (by omega) (by omega)
    obtain ⟨a2, b2, c2⟩ := yd_n (f := f) (q := q) 2 (by omega) (by omega)
    obtain ⟨a3, b3, c3⟩ := yd_n (f := f) (q := q) 3 (by omega) (by omega)
    rw [a0, a1, a2, a3, z 4 (by omega), z 5 (by omega)]
    simp only [yut] at *
    simp at *
    generalize f q = x0 at *
    generalize f (q + 1) = x1 at *
    generalize f (q + 2) = x2 at *
    generalize f (q + 3) = x3 at *
    refine ⟨?_, by omega⟩
    repeat' split
    all_goals omega
  · obtain ⟨a0, b0, c0⟩ := yd_n (f := f) (q := q) 0 (by omega) (by omega)
    obtain ⟨a1, b1, c1⟩ := yd_n (f := f) (q := q) 1 (by omega) (by omega)
    obtain ⟨a2, b2, c2⟩ := yd_n (f := f) (q := q) 2 (by omega) (by omega)
    obtain ⟨a3, b3, c3⟩ := yd_n (f := f) (q := q) 3 (by omega) (by omega)
    obtain ⟨a4, b4, c4⟩ := yd_n (f := f) (q := q) 4 (by omega) (by omega)
    rw [a0, a1, a2, a3, a4, z 5 (by omega)]
    simp only [yut] at *
    simp at *
    generalize f q = x0 at *
    generalize f (q + 1) = x1 at *
    generalize f (q + 2) = x2 at *
    generalize f (q + 3) = x3 at *
    generalize f (q + 4) = x4 at *
    refine ⟨?_, by omega⟩
    repeat' split
    all_goals omega
  · obtain ⟨a0, b0, c0⟩ := yd_n (f := f) (q := q) 0 (by omega) (by omega)
    obtain ⟨a1, b1, c1⟩ := yd_n (f := f) (q := q) 1 (by omega) (by omega)
    obtain ⟨a2, b2, c2⟩ := yd_n (f := f) (q := q) 2 (by omega) (by omega)
    obtain ⟨a3, b3, c3⟩ := yd_n (f := f) (q := q) 3 (by omega) (by omega)
    obtain ⟨a4, b4, c4⟩ := yd_n (f := f) (q := q) 4 (by omega) (by omega)
    obtain ⟨a5, b5, c5⟩ := yd_n (f := f) (q := q) 5 (by omega) (by omega)
    rw [a0, a1, a2, a3, a4, a5]
    simp only [yut] at *
    simp at *
    generalize f q = x0 at *
    generalize f (q + 1) = x1 at *
    generalize f (q + 2) = x2 at *
    generalize f (q + 3) = x3 at *
    generalize f (q + 4) = x4 at *
    generalize f (q + 5) = x5 at *
    refine ⟨?_, by omega⟩
    repeat' split
    all_goals omega
def yPlr (s : zSto) : yPl :=
  ⟨s 194 0, s 194 1, (List.range (s 195 0).toNat).map (fun i => yPd (s 196 i)), (List.range (s 195 0).toNat).map (fun i => s 198 (2 * i)), if s 200 0 = -1 then 0 else 1, if s 200 1 = -1 then 0 else 1⟩
def yNvu (s : zSto) : Prop := ∀ i : Nat, (i : Int) < s 195 0 → yvu (s 196 i)
theorem yPlr_c {s s' : zSto} (h0 : s' 194 0 = s 194 0) (h1 : s' 194 1 = s 194 1) (h2 : s' 195 0 = s 195 0) (hn : ∀ j, s' 196 j = s 196 j) (hp : ∀ j, s' 198 j = s 198 j) (ha : s' 200 0 = s 200 0) (hb : s' 200 1 = s 200 1) : yPlr s' = yPlr s := by
  unfold yPlr
  rw [h0, h1, h2, ha, hb, funext hn, funext hp]
theorem yNvu_c {s s' : zSto} (h : yNvu s) (h2 : s' 195 0 = s 195 0) (hn : ∀ j, s' 196 j = s 196 j) : yNvu s' := fun i hi => by rw [hn]; exact h i (by omega)
theorem yrn_1 {s : zSto} {k v : Int} (h : 0 ≤ k ∧ k < s 195 0) (e : s 196 k.toNat = v) : yPd v ∈ (yPlr s).nm := List.mem_map.mpr ⟨k.toNat, List.mem_range.mpr (by omega), by show yPd (s 196 k.toNat) = _; rw [e]⟩
theorem yrn_0 {s : zSto} {k v : Int} (hv : yvu v) (hs : yNvu s) (h : ∀ j : Nat, (j : Int) < k → s 196 j ≠ v) (hk : s 195 0 ≤ k) : yPd v ∉ (yPlr s).nm := by
  intro m
  obtain ⟨j, hj, e⟩ := List.mem_map.mp m
  have := List.mem_range.mp hj
  exact h j (by omega) (yPd_i (hs j (by omega)) hv e)
theorem yrh_1 {s : zSto} {k v : Int} (h : 0 ≤ k ∧ k < s 195 0) (e : s 198 (2 * k).toNat = v) : v ∈ (yPlr s).hm := List.mem_map.mpr ⟨k.toNat, List.mem_range.mpr (by omega), by show s 198 (2 * k.toNat) = _; rw [← e]; congr 1; omega⟩
theorem yrh_0 {s : zSto} {k v : Int} (h : ∀ j : Nat, (j : Int) < k → s 198 (2 * j) ≠ v) (hk : s 195 0 ≤ k) : v ∉ (yPlr s).hm := by
  intro m
  obtain ⟨j, hj, e⟩ := List.mem_map.mp m
  have := List.mem_range.mp hj
  exact h j (by omega) e
theorem yk1_len {f : Int → Int} {q : Int} (hf : yTx f) (hq : 0 ≤ q ∧ q ≤ 1600) (h : yK f q = 1) : 1 ≤ yWe f q - q ∧ yWe f q - q ≤ 6 := by
  have l : yL (f q) = true := by
    by_cases x : yL (f q) = true
    · exact x
    · have y := (yk_nl (f := f) (q := q) (fun z => x (yL_t.mpr z))).2; exact absurd h y
  have b := yWe_b hf hq l
  have z := yL_t.mp l
  unfold yK at h
  rw [if_neg (by omega), if_pos l] at h
  by_cases x : 6 < yWe f q - q
  · rw [if_pos x] at h; split at h <;> omega
  · omega
theorem yNam_ok {f : Int → Int} {s : yP} (h : yPo (yNm0 f s) = 1) : yPo s = 1 ∧ yPk f s = 1 ∧ ¬ (0 ≤ yPi f s ∧ yPi f s < 27) := by
  unfold yNm0 at h
  by_cases a : yPk f s = 4
  · rw [if_pos a, yPo_pf] at h; exact absurd h (by decide)
  · rw [if_neg a] at h
    by_cases b : yPk f s ≠ 1 ∨ (0 ≤ yPi f s ∧ yPi f s < 27)
    · rw [if_pos b, yPo_pf] at h; exact absurd h (by decide)
    · rw [if_neg b, yPo_px] at h
      exact ⟨h, Decidable.byContradiction (fun x => b (Or.inl x)), fun x => b (Or.inr x)⟩
theorem yNam_A {f : Int → Int} {P : yPl} {s : yP} (h : yPo (yNm0 f s) = 1 → yPc f s ∉ P.nm) : yNm0 f s = yNam f P s := by
  unfold yNam
  by_cases a : yPk f s = 4
  · unfold yNm0; rw [if_pos a, if_pos a]
  · by_cases b : yPk f s ≠ 1 ∨ (0 ≤ yPi f s ∧ yPi f s < 27)
    · unfold yNm0; rw [if_neg a, if_neg a, if_pos b, if_pos b]
    · have e : yNm0 f s = yPx f s := by unfold yNm0; rw [if_neg a, if_neg b]
      rw [if_neg a, if_neg b]
      by_cases c : yPc f s ∈ P.nm
      · exfalso
        have o : yPo s ≠ 1 := fun o => h (by rw [e, yPo_px]; exact o) c
        cases s using yP_cases with
        | ok q => exact o rfl
        | no u v => exact b (Or.inl (by show ¬ (6 : Int) = 1; decide))
      · rw [if_neg c]; exact e
theorem yNam_B {f : Int → Int} {P : yPl} {s : yP} {np : Int} (o : yPo (yNm0 f s) = 1) (hm : yPc f s ∈ P.nm) (hp : np = yPq s) : yPno 3 np (yNm0 f s) = yNam f P s := by
  obtain ⟨o1, k1, k2⟩ := yNam_ok o
  have b : ¬ (yPk f s ≠ 1 ∨ (0 ≤ yPi f s ∧ yPi f s < 27)) := fun x => x.elim (fun y => y k1) k2
  unfold yNam yNm0
  rw [if_neg (by omega), if_neg b, if_neg (by omega), if_neg b, if_pos hm]
  cases s using yP_cases with
  | ok q => show yP.no 3 np = yP.no 3 (q + 0); rw [hp]; show yP.no 3 q = _; rw [Int.add_zero]
  | no u v => exact absurd o1 (by show ¬ (0 : Int) = 1; decide)
theorem yNam_c {f : Int → Int} {s : yP} (hf : yTx f) (hq : yPo s = 1 → 0 ≤ yPq s ∧ yPq s ≤ 1600) (o : yPo (yNm0 f s) = 1) : yPd (yut f (yPq s) (yWe f (yPq s) - yPq s).toNat) = yPc f s ∧ yvu (yut f (yPq s) (yWe f (yPq s) - yPq s).toNat) := by
  obtain ⟨o1, k1, k2⟩ := yNam_ok o
  cases s using yP_cases with
  | ok q => exact yut_C (yk1_len hf (hq rfl) k1)
  | no u v => exact absurd o1 (by show ¬ (0 : Int) = 1; decide)
def yGo (E1 p : yP) (a np v k : Int) (row : Nat → Int) (place : Int) : Prop :=
  (p = E1 ∧ (yPo E1 = 1 → (∀ j : Nat, (j : Int) < k → row j ≠ v) ∧ place = np)) ∨ (p = yPno a np E1 ∧ yPo E1 = 1 ∧ ∃ j : Nat, (j : Int) < k ∧ row j = v)
theorem yGo_0 {E1 : yP} {a np v place : Int} {row : Nat → Int} (h : yPo E1 = 1 → place = np) : yGo E1 E1 a np v 0 row place := Or.inl ⟨rfl, fun o => ⟨fun j x => absurd x (by omega), h o⟩⟩
theorem yGo_n {E1 : yP} {a np v k place place' : Int} {row : Nat → Int} (h : yPo E1 = 0) : yGo E1 E1 a np v k row place' := Or.inl ⟨rfl, fun o => absurd o (by omega)⟩
theorem yGo_s {E1 : yP} {a np v k u place : Int} {row : Nat → Int} (h : yPo E1 = 1 → (∀ j : Nat, (j : Int) < k → row j ≠ v) ∧ place = np) (hk : 0 ≤ k) (e : row k.toNat = u) (n : u ≠ v) : yGo E1 E1 a np v (k + 1) row place :=
  Or.inl ⟨rfl, fun o => ⟨yne_s (h o).1 hk e n, (h o).2⟩⟩
theorem yGo_f {E1 : yP} {a np v k u place place' : Int} {row : Nat → Int} (h : yPo E1 = 1 → (∀ j : Nat, (j : Int) < k → row j ≠ v) ∧ place = np) (o : yPo E1 = 1) (hk : 0 ≤ k) (e : row k.toNat = u) (n : u = v) : yGo E1 (yPno a place E1) a np v (k + 1) row place' :=
  Or.inr ⟨by rw [(h o).2], o, k.toNat, by omega, by rw [e, n]⟩
theorem yGo_b {E1 : yP} {a np v k place' : Int} {row : Nat → Int} (o : yPo E1 = 1) (x : ∃ j : Nat, (j : Int) < k ∧ row j = v) : yGo E1 (yPno a np E1) a np v (k + 1) row place' :=
  Or.inr ⟨rfl, o, x.elim (fun j y => ⟨j, by omega, y.2⟩)⟩
