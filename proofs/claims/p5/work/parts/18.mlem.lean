/-! numbers that the reference's walks need -/
theorem zcellof {k a b : Int} (h0 : 0 ≤ k) (h : k < a * b) (ha : a ≤ 6) (ha0 : 0 ≤ a) (hb : b ≤ 6) (hb0 : 0 ≤ b) : 1 ≤ a ∧ 0 ≤ k % a ∧ k % a ≤ 5 ∧ 0 ≤ k / a ∧ k / a ≤ 5 := by
  have h1 : 1 ≤ a := by
    rcases (show a = 0 ∨ 1 ≤ a by omega) with q | q
    · rw [q, Int.zero_mul] at h
      omega
    · exact q
  have h2 : k / a < b := Int.ediv_lt_of_lt_mul (by omega) (by rw [Int.mul_comm]; exact h)
  have h3 : 0 ≤ k / a := Int.ediv_nonneg h0 (by omega)
  have h4 := Int.emod_nonneg k (show a ≠ 0 by omega)
  have h5 := Int.emod_lt_of_pos k (show 0 < a by omega)
  omega
theorem zdivl_t (x y : Int64) (hy : 0 < y.toInt) : (x / y).toInt = x.toInt.tdiv y.toInt := by
  have h1 := zJ_hi x
  have h0 := zJ_lo x
  rw [Int64.toInt_div]
  show Int.bmod _ 18446744073709551616 = _
  have hb := ztd_b (x := x.toInt) hy
  refine Int.bmod_eq_of_le ?_ ?_ <;> (rcases Int.lt_or_le x.toInt 0 with h | h) <;> omega
theorem zdivl_i {x y : Int} (hx : -9223372036854775808 ≤ x ∧ x ≤ 9223372036854775807) (hy : 0 < y ∧ y ≤ 9223372036854775807) : zJ x / zJ y = zJ (x.tdiv y) := by
  rw [← zJ_of (zJ x / zJ y), zdivl_t _ _ (by rw [zJ_t (by omega) hy.2]; exact hy.1), zJ_t hx.1 hx.2, zJ_t (by omega) hy.2]
theorem zt_ldivp {X : zCX} {cc : ByteArray} {own : String} {d n cs ss pc pc' : Nat} {σ : zSto} {lv : List (Option Value)} {st : List Value} {x y : Int} (hX : zok X cc own d) (hd : decode cc pc = .ok (.ldiv, 1)) (hp : pc + 1 = pc') (h1 : -9223372036854775808 ≤ x ∧ x ≤ 9223372036854775807) (h2 : 0 < y ∧ y ≤ 9223372036854775807) (k : ∀ r : Int, r = x.tdiv y → (0 ≤ x → 0 ≤ r ∧ r ≤ x) ∧ (x ≤ 0 → x ≤ r ∧ r ≤ 0) → zZ X n cs ss σ pc' lv (.long (zJ r) :: st)) : zZ X n cs ss σ pc lv (.long (zJ y) :: .long (zJ x) :: st) := by
  subst hp
  obtain ⟨E, p, l, e, R, s, m, args, below, meth, c, Q, nL⟩ := X
  obtain ⟨hx, hb, -⟩ := hX
  intro H locs ls hG hS hl
  refine lv_ldiv hx hb hd (zne_j (by omega) (by omega)) ?_
  rw [zdivl_i h1 h2]
  exact k _ rfl (ztd_b h2.1) H locs ls hG hS hl
theorem zmul_g {x y a b : Int} (h1 : -a ≤ x) (h2 : x ≤ a) (h3 : -b ≤ y) (h4 : y ≤ b) : -(a * b) ≤ x * y ∧ x * y ≤ a * b := by
  have ha : 0 ≤ a := by omega
  rcases Int.le_total 0 y with h | h
  · have q := zmul_s (lo := -a) (hi := a) h1 h2 h h4 (by omega) ha
    rw [Int.neg_mul] at q
    exact q
  · have q := zmul_s (lo := -a) (hi := a) (y := -y) (b := b) h1 h2 (by omega) (by omega) (by omega) ha
    rw [Int.neg_mul, Int.mul_neg] at q
    omega
