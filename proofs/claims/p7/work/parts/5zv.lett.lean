def yLt (n : Int) (u : Nat → Int) (p k : Int) : Int := if 0 ≤ p ∧ p < n ∧ 0 ≤ k ∧ k < 6 then Int.tmod (Int.tdiv (u p.toNat) (zlw k.toNat)) 27 else -1
theorem yLt_in {n p k r q v w : Int} {u : Nat → Int} (c : 0 ≤ p ∧ p < n ∧ 0 ≤ k ∧ k < 6) (hv : u p.toNat = v) (hw : zlw k.toNat = w) (e1 : q = Int.tdiv v w) (e2 : r = Int.tmod q 27) : r = yLt n u p k := by
  unfold yLt
  rw [if_pos c, hv, hw, ← e1, ← e2]
theorem yLt_out {n p k r : Int} {u : Nat → Int} (c : ¬ (0 ≤ p ∧ p < n ∧ 0 ≤ k ∧ k < 6)) (e : r = -1) : r = yLt n u p k := by
  unfold yLt
  rw [if_neg c, e]
theorem yLt_c {n m p k : Int} {u v : Nat → Int} (h : n = m) (g : ∀ i : Nat, (i : Int) < n → u i = v i) : yLt n u p k = yLt m v p k := by
  unfold yLt
  rw [← h]
  by_cases c : 0 ≤ p ∧ p < n ∧ 0 ≤ k ∧ k < 6
  · rw [if_pos c, if_pos c, g p.toNat (by omega)]
  · rw [if_neg c, if_neg c]
def yLi (u a b : Int) : Prop := (a = 0 ∧ b = u) ∨ (a = 1 ∧ b = u / 27 ∧ 0 < u) ∨ (a = 2 ∧ b = u / 729 ∧ 0 < u / 27) ∨ (a = 3 ∧ b = u / 19683 ∧ 0 < u / 729) ∨ (a = 4 ∧ b = u / 531441 ∧ 0 < u / 19683) ∨ (a = 5 ∧ b = u / 14348907 ∧ 0 < u / 531441) ∨ (a = 6 ∧ b = u / 387420489 ∧ 0 < u / 14348907)
theorem yLi_6 {u a b : Int} (h : yLi u a b) (hu : u < 387420489) (hb : 0 < b) : a + 1 ≤ 6 := by
  rcases h with h | h | h | h | h | h | h <;> omega
theorem yLi_s {u a b b' : Int} (h : yLi u a b) (hu : 0 < u ∧ u < 387420489) (hb : 0 < b) (e : b' = b / 27) : yLi u (a + 1) b' := by
  rcases h with ⟨h1, h2⟩ | ⟨h1, h2, h3⟩ | ⟨h1, h2, h3⟩ | ⟨h1, h2, h3⟩ | ⟨h1, h2, h3⟩ | ⟨h1, h2, h3⟩ | ⟨h1, h2, h3⟩
  · exact Or.inr (Or.inl ⟨by omega, by omega, by omega⟩)
  · exact Or.inr (Or.inr (Or.inl ⟨by omega, by omega, by omega⟩))
  · exact Or.inr (Or.inr (Or.inr (Or.inl ⟨by omega, by omega, by omega⟩)))
  · exact Or.inr (Or.inr (Or.inr (Or.inr (Or.inl ⟨by omega, by omega, by omega⟩))))
  · exact Or.inr (Or.inr (Or.inr (Or.inr (Or.inr (Or.inl ⟨by omega, by omega, by omega⟩)))))
  · exact Or.inr (Or.inr (Or.inr (Or.inr (Or.inr (Or.inr ⟨by omega, by omega, by omega⟩)))))
  · exfalso; omega
def yLl (u a : Int) : Prop := (a = 1 ∧ u < 27) ∨ (a = 2 ∧ 27 ≤ u ∧ u < 729) ∨ (a = 3 ∧ 729 ≤ u ∧ u < 19683) ∨ (a = 4 ∧ 19683 ≤ u ∧ u < 531441) ∨ (a = 5 ∧ 531441 ≤ u ∧ u < 14348907) ∨ (a = 6 ∧ 14348907 ≤ u)
theorem yLi_l {u a b : Int} (h : yLi u a b) (hu : 0 < u ∧ u < 387420489) (hb : b ≤ 0) : yLl u a := by
  rcases h with ⟨h1, h2⟩ | ⟨h1, h2, h3⟩ | ⟨h1, h2, h3⟩ | ⟨h1, h2, h3⟩ | ⟨h1, h2, h3⟩ | ⟨h1, h2, h3⟩ | ⟨h1, h2, h3⟩
  · exfalso; omega
  · exact Or.inl ⟨by omega, by omega⟩
  · exact Or.inr (Or.inl ⟨by omega, by omega, by omega⟩)
  · exact Or.inr (Or.inr (Or.inl ⟨by omega, by omega, by omega⟩))
  · exact Or.inr (Or.inr (Or.inr (Or.inl ⟨by omega, by omega, by omega⟩)))
  · exact Or.inr (Or.inr (Or.inr (Or.inr (Or.inl ⟨by omega, by omega, by omega⟩))))
  · exact Or.inr (Or.inr (Or.inr (Or.inr (Or.inr ⟨by omega, by omega⟩))))
theorem yLl_6 {u a : Int} (h : yLl u a) : 1 ≤ a ∧ a ≤ 6 := by
  rcases h with h | h | h | h | h | h <;> omega
def yLj (u a m w : Int) : Prop := (m = a - 1 ∧ w = u) ∨ (m = a - 2 ∧ w = u / 27) ∨ (m = a - 3 ∧ w = u / 729) ∨ (m = a - 4 ∧ w = u / 19683) ∨ (m = a - 5 ∧ w = u / 531441) ∨ (m = a - 6 ∧ w = u / 14348907)
theorem yLj_s {u a m w w' : Int} (h : yLj u a m w) (hu : 0 < u) (hm : 1 ≤ m) (ha : a ≤ 6) (e : w' = w / 27) : yLj u a (m + (-1)) w' := by
  rcases h with ⟨h1, h2⟩ | ⟨h1, h2⟩ | ⟨h1, h2⟩ | ⟨h1, h2⟩ | ⟨h1, h2⟩ | ⟨h1, h2⟩
  · exact Or.inr (Or.inl ⟨by omega, by omega⟩)
  · exact Or.inr (Or.inr (Or.inl ⟨by omega, by omega⟩))
  · exact Or.inr (Or.inr (Or.inr (Or.inl ⟨by omega, by omega⟩)))
  · exact Or.inr (Or.inr (Or.inr (Or.inr (Or.inl ⟨by omega, by omega⟩))))
  · exact Or.inr (Or.inr (Or.inr (Or.inr (Or.inr ⟨by omega, by omega⟩))))
  · exfalso; omega
theorem yLj_b {u a m w : Int} (h : yLj u a m w) (hu : 0 < u ∧ u < 387420489) : 0 ≤ w ∧ w ≤ 387420488 := by
  rcases h with h | h | h | h | h | h <;> omega
theorem yPd_l {u a : Int} (h : yLl u a) (hu : 0 < u) : (a = 1 ∧ u < 27 ∧ yPd u = 14348907 * u) ∨ (a = 2 ∧ u < 729 ∧ yPd u = 531441 * u) ∨ (a = 3 ∧ u < 19683 ∧ yPd u = 19683 * u) ∨ (a = 4 ∧ u < 531441 ∧ yPd u = 729 * u) ∨ (a = 5 ∧ u < 14348907 ∧ yPd u = 27 * u) ∨ (a = 6 ∧ yPd u = u) := by
  unfold yPd
  rcases h with ⟨h1, h2⟩ | ⟨h1, h2, h3⟩ | ⟨h1, h2, h3⟩ | ⟨h1, h2, h3⟩ | ⟨h1, h2, h3⟩ | ⟨h1, h2⟩
  · rw [if_pos h2]; exact Or.inl ⟨h1, h2, rfl⟩
  · rw [if_neg (by omega), if_pos h3]; exact Or.inr (Or.inl ⟨h1, h3, rfl⟩)
  · rw [if_neg (by omega), if_neg (by omega), if_pos h3]; exact Or.inr (Or.inr (Or.inl ⟨h1, h3, rfl⟩))
  · rw [if_neg (by omega), if_neg (by omega), if_neg (by omega), if_pos h3]; exact Or.inr (Or.inr (Or.inr (Or.inl ⟨h1, h3, rfl⟩)))
  · rw [if_neg (by omega), if_neg (by omega), if_neg (by omega), if_neg (by omega), if_pos h3]; exact Or.inr (Or.inr (Or.inr (Or.inr (Or.inl ⟨h1, h3, rfl⟩))))
  · rw [if_neg (by omega), if_neg (by omega), if_neg (by omega), if_neg (by omega), if_neg (by omega)]; exact Or.inr (Or.inr (Or.inr (Or.inr (Or.inr ⟨h1, rfl⟩))))
theorem zlw_k {k : Int} (h : 0 ≤ k ∧ k < 6) : (k = 0 ∧ zlw k.toNat = 14348907) ∨ (k = 1 ∧ zlw k.toNat = 531441) ∨ (k = 2 ∧ zlw k.toNat = 19683) ∨ (k = 3 ∧ zlw k.toNat = 729) ∨ (k = 4 ∧ zlw k.toNat = 27) ∨ (k = 5 ∧ zlw k.toNat = 1) := by
  rcases (show k = 0 ∨ k = 1 ∨ k = 2 ∨ k = 3 ∨ k = 4 ∨ k = 5 by omega) with e | e | e | e | e | e <;> subst e
  · exact Or.inl ⟨rfl, rfl⟩
  · exact Or.inr (Or.inl ⟨rfl, rfl⟩)
  · exact Or.inr (Or.inr (Or.inl ⟨rfl, rfl⟩))
  · exact Or.inr (Or.inr (Or.inr (Or.inl ⟨rfl, rfl⟩)))
  · exact Or.inr (Or.inr (Or.inr (Or.inr (Or.inl ⟨rfl, rfl⟩))))
  · exact Or.inr (Or.inr (Or.inr (Or.inr (Or.inr ⟨rfl, rfl⟩))))
theorem yLtd {v w : Int} (h : 0 ≤ v) (g : 0 < w) : Int.tmod (Int.tdiv v w) 27 = v / w % 27 := by
  rw [Int.tdiv_eq_ediv_of_nonneg h, Int.tmod_eq_emod_of_nonneg (Int.ediv_nonneg h (by omega))]
theorem yPd_0 {u : Int} (hu : 0 < u) : 0 ≤ yPd u := by
  unfold yPd
  split
  · omega
  · split
    · omega
    · split
      · omega
      · split
        · omega
        · split <;> omega
theorem yLe {u a k w : Int} (hu : 0 < u ∧ u < 387420489) (hl : yLl u a) (hk : 0 ≤ k ∧ k < a) (j : yLj u a k w) : w % 27 = Int.tmod (Int.tdiv (yPd u) (zlw k.toNat)) 27 := by
  have a6 := yLl_6 hl
  have p0 := yPd_0 hu.1
  rw [yLtd p0 (zlw_b _).1]
  rcases zlw_k (k := k) ⟨hk.1, by omega⟩ with ⟨e, z⟩ | ⟨e, z⟩ | ⟨e, z⟩ | ⟨e, z⟩ | ⟨e, z⟩ | ⟨e, z⟩ <;> rw [z] <;> rcases yPd_l hl hu.1 with ⟨b, c, d⟩ | ⟨b, c, d⟩ | ⟨b, c, d⟩ | ⟨b, c, d⟩ | ⟨b, c, d⟩ | ⟨b, d⟩ <;> first | (exfalso; omega) | (rw [d]; rcases j with ⟨j1, j2⟩ | ⟨j1, j2⟩ | ⟨j1, j2⟩ | ⟨j1, j2⟩ | ⟨j1, j2⟩ | ⟨j1, j2⟩ <;> omega)
theorem yLz {u a k : Int} (hu : 0 < u ∧ u < 387420489) (hl : yLl u a) (hk : a ≤ k ∧ k < 6) : 0 = Int.tmod (Int.tdiv (yPd u) (zlw k.toNat)) 27 := by
  have a6 := yLl_6 hl
  have p0 := yPd_0 hu.1
  rw [yLtd p0 (zlw_b _).1]
  rcases zlw_k (k := k) ⟨by omega, by omega⟩ with ⟨e, z⟩ | ⟨e, z⟩ | ⟨e, z⟩ | ⟨e, z⟩ | ⟨e, z⟩ | ⟨e, z⟩ <;> rw [z] <;> rcases yPd_l hl hu.1 with ⟨b, c, d⟩ | ⟨b, c, d⟩ | ⟨b, c, d⟩ | ⟨b, c, d⟩ | ⟨b, c, d⟩ | ⟨b, d⟩ <;> first | (exfalso; omega) | (rw [d]; omega)
theorem yLt_m {n p k r u : Int} {g : Nat → Int} (c : 0 ≤ p ∧ p < n ∧ 0 ≤ k ∧ k < 6) (hg : g p.toNat = u) (e : r = Int.tmod (Int.tdiv (yPd u) (zlw k.toNat)) 27) : r = yLt n (fun i => yPd (g i)) p k := by
  unfold yLt
  rw [if_pos c]
  show r = Int.tmod (Int.tdiv (yPd (g p.toNat)) (zlw k.toNat)) 27
  rw [hg]
  exact e
