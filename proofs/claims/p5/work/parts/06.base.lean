/-! The global store: one function of Ints for all cells of class and reference, in the order in which they are made -/
abbrev zSto : Type := Nat → Nat → Int
def zI (x : Int) : Int32 := Int32.ofInt x
def zJ (x : Int) : Int64 := Int64.ofInt x
def zset (σ : zSto) (k j : Nat) (v : Int) : zSto := fun a b => if a = k ∧ b = j then v else σ a b
theorem zset_s {σ : zSto} {k j : Nat} {v : Int} : zset σ k j v k j = v := by simp [zset]
theorem zset_j {σ : zSto} {k j a b : Nat} {v : Int} (h : b ≠ j) : zset σ k j v a b = σ a b := by simp [zset, h]
theorem zset_k {σ : zSto} {k j a b : Nat} {v : Int} (h : a ≠ k) : zset σ k j v a b = σ a b := by simp [zset, h]
theorem zI_t {x : Int} (h : -2147483648 ≤ x) (h' : x ≤ 2147483647) : (zI x).toInt = x := by
  unfold zI
  rw [Int32.toInt_ofInt]
  show Int.bmod x 4294967296 = x
  exact Int.bmod_eq_of_le (by omega) (by omega)
theorem zJ_t {x : Int} (h : -9223372036854775808 ≤ x) (h' : x ≤ 9223372036854775807) : (zJ x).toInt = x := by
  unfold zJ
  rw [Int64.toInt_ofInt]
  show Int.bmod x 18446744073709551616 = x
  exact Int.bmod_eq_of_le (by omega) (by omega)
theorem zI_of (v : Int32) : zI v.toInt = v := Int32.ofInt_toInt v
theorem zJ_of (v : Int64) : zJ v.toInt = v := Int64.ofInt_toInt v
theorem zI_lo (v : Int32) : -2147483648 ≤ v.toInt := by have := Int32.le_toInt v; omega
theorem zI_hi (v : Int32) : v.toInt ≤ 2147483647 := by have := Int32.toInt_lt v; omega
theorem zJ_lo (v : Int64) : -9223372036854775808 ≤ v.toInt := by have := Int64.le_toInt v; omega
theorem zJ_hi (v : Int64) : v.toInt ≤ 9223372036854775807 := by have := Int64.toInt_lt v; omega
theorem zI_add (x y : Int) : zI (x + y) = zI x + zI y := Int32.ofInt_add x y
theorem zI_sub (x y : Int) : zI (x - y) = zI x - zI y := Int32.ofInt_sub x y
theorem zI_mul (x y : Int) : zI (x * y) = zI x * zI y := Int32.ofInt_mul x y
theorem zI_neg (x : Int) : zI (-x) = -zI x := Int32.ofInt_neg x
theorem zJ_add (x y : Int) : zJ (x + y) = zJ x + zJ y := Int64.ofInt_add x y
theorem zJ_sub (x y : Int) : zJ (x - y) = zJ x - zJ y := Int64.ofInt_sub x y
theorem zJ_mul (x y : Int) : zJ (x * y) = zJ x * zJ y := Int64.ofInt_mul x y
theorem zI_cl {x : Int} (h : 0 ≤ x) (h' : x ≤ 2147483647) : (zI x).toNatClampNeg = x.toNat := by
  show (zI x).toInt.toNat = x.toNat
  rw [zI_t (by omega) h']
theorem zI_lt {x y : Int} (hx : -2147483648 ≤ x ∧ x ≤ 2147483647) (hy : -2147483648 ≤ y ∧ y ≤ 2147483647) : zI x < zI y ↔ x < y := by
  rw [Int32.lt_iff_toInt_lt, zI_t hx.1 hx.2, zI_t hy.1 hy.2]
theorem zI_le {x y : Int} (hx : -2147483648 ≤ x ∧ x ≤ 2147483647) (hy : -2147483648 ≤ y ∧ y ≤ 2147483647) : zI x ≤ zI y ↔ x ≤ y := by
  rw [Int32.le_iff_toInt_le, zI_t hx.1 hx.2, zI_t hy.1 hy.2]
theorem zI_eq {x y : Int} (hx : -2147483648 ≤ x ∧ x ≤ 2147483647) (hy : -2147483648 ≤ y ∧ y ≤ 2147483647) : zI x = zI y ↔ x = y := by
  rw [← Int32.toInt_inj, zI_t hx.1 hx.2, zI_t hy.1 hy.2]
theorem zI_0 : zI 0 = 0 := by decide +kernel
theorem zI_in {x : Int} {n : Nat} (h : 0 ≤ x) (h' : x < (n : Int)) (hn : x ≤ 2147483647) : vp_in (zI x) n := by
  rw [vp_in_iff, zI_t (by omega) hn]
  exact ⟨h, h'⟩
theorem zI_ofNat (n : Nat) : Int32.ofNat n = zI (n : Int) := by
  unfold zI
  first | rfl | exact Int32.ofInt_eq_ofNat.symm | (simp; done)
