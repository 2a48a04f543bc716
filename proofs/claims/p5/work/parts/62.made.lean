/-! the invariant while cells are made: places of references may still be null -/
def zdr (r j : Nat) : Int := match zrs r with
  | .inl c => zdv (zft c j)
  | .inr (t, _) => if t = 5 then -1 else 0
theorem zd_1 (k j : Nat) : zP 1 k j (zdr 1 j) ∨ zdr 1 j = -1 := match j with
  | 0 => Or.inr rfl
  | 1 => Or.inr rfl
  | 2 => Or.inr rfl
  | 3 => Or.inr rfl
  | 4 => Or.inr rfl
  | 5 => Or.inr rfl
  | 6 => Or.inr rfl
  | 7 => Or.inr rfl
  | 8 => Or.inr rfl
  | 9 => Or.inr rfl
  | 10 => Or.inr rfl
  | 11 => Or.inr rfl
  | 12 => Or.inr rfl
  | 13 => Or.inr rfl
  | 14 => Or.inl (show -2147483648 ≤ (0 : Int) ∧ (0 : Int) ≤ 2147483647 from ⟨by decide, by decide⟩)
  | 15 => Or.inl (show -2147483648 ≤ (0 : Int) ∧ (0 : Int) ≤ 2147483647 from ⟨by decide, by decide⟩)
  | 16 => Or.inl (show -2147483648 ≤ (0 : Int) ∧ (0 : Int) ≤ 2147483647 from ⟨by decide, by decide⟩)
  | _ + 17 => Or.inl trivial
theorem zd_2 (k j : Nat) : zP 2 k j (zdr 2 j) ∨ zdr 2 j = -1 := match j with
  | 0 => Or.inr rfl
  | 1 => Or.inl (show 0 ≤ (0 : Int) ∧ (0 : Int) ≤ 1600 from ⟨by decide, by decide⟩)
  | _ + 2 => Or.inl trivial
theorem zd_3 (k j : Nat) : zP 3 k j (zdr 3 j) ∨ zdr 3 j = -1 := by
  left
  show zP3 k j 0
  unfold zP3
  omega
theorem zd_4 (k j : Nat) : zP 4 k j (zdr 4 j) ∨ zdr 4 j = -1 := match j with
  | 0 => Or.inr rfl
  | 1 => Or.inl (show 0 ≤ (0 : Int) ∧ (0 : Int) ≤ 80 from ⟨by decide, by decide⟩)
  | _ + 2 => Or.inl trivial
theorem zd_5 (k j : Nat) : zP 5 k j (zdr 5 j) ∨ zdr 5 j = -1 := by
  left
  show zP5 k j 0
  unfold zP5
  omega
theorem zd_6 (k j : Nat) : zP 6 k j (zdr 6 j) ∨ zdr 6 j = -1 := match j with
  | 0 => Or.inr rfl
  | 1 => Or.inl (show 0 ≤ (0 : Int) ∧ (0 : Int) ≤ 1600 from ⟨by decide, by decide⟩)
  | _ + 2 => Or.inl trivial
theorem zd_7 (k j : Nat) : zP 7 k j (zdr 7 j) ∨ zdr 7 j = -1 := by
  left
  show zP7 k j 0
  unfold zP7
  omega
theorem zd_8 (k j : Nat) : zP 8 k j (zdr 8 j) ∨ zdr 8 j = -1 := match j with
  | 0 => Or.inr rfl
  | 1 => Or.inr rfl
  | 2 => Or.inr rfl
  | 3 => Or.inr rfl
  | 4 => Or.inr rfl
  | 5 => Or.inr rfl
  | 6 => Or.inr rfl
  | 7 => Or.inl (show 0 ≤ (0 : Int) ∧ (0 : Int) ≤ 1 from ⟨by decide, by decide⟩)
  | 8 => Or.inl (show 0 ≤ (0 : Int) ∧ (0 : Int) ≤ 1 from ⟨by decide, by decide⟩)
  | 9 => Or.inl (show 0 ≤ (0 : Int) ∧ (0 : Int) ≤ 1 from ⟨by decide, by decide⟩)
  | 10 => Or.inl (show 0 ≤ (0 : Int) ∧ (0 : Int) ≤ 6 from ⟨by decide, by decide⟩)
  | 11 => Or.inl (show 0 ≤ (0 : Int) ∧ (0 : Int) ≤ 6 from ⟨by decide, by decide⟩)
  | 12 => Or.inl (show 0 ≤ (0 : Int) ∧ (0 : Int) ≤ 10 from ⟨by decide, by decide⟩)
  | 13 => Or.inl (show 0 ≤ (0 : Int) ∧ (0 : Int) ≤ 99 from ⟨by decide, by decide⟩)
  | 14 => Or.inl (show 0 ≤ (0 : Int) ∧ (0 : Int) ≤ 99 from ⟨by decide, by decide⟩)
  | 15 => Or.inl (show 0 ≤ (0 : Int) ∧ (0 : Int) ≤ 99 from ⟨by decide, by decide⟩)
  | 16 => Or.inl (show 0 ≤ (0 : Int) ∧ (0 : Int) ≤ 100 from ⟨by decide, by decide⟩)
  | _ + 17 => Or.inl trivial
theorem zd_9 (k j : Nat) : zP 9 k j (zdr 9 j) ∨ zdr 9 j = -1 := by
  left
  show zP9 k j 0
  unfold zP9
  omega
theorem zd_10 (k j : Nat) : zP 10 k j (zdr 10 j) ∨ zdr 10 j = -1 := by
  left
  show zP10 k j 0
  unfold zP10
  omega
theorem zd_11 (k j : Nat) : zP 11 k j (zdr 11 j) ∨ zdr 11 j = -1 := by
  left
  show zP11 k j 0
  unfold zP11
  omega
theorem zd_12 (k j : Nat) : zP 12 k j (zdr 12 j) ∨ zdr 12 j = -1 := by
  left
  show zP12 k j 0
  unfold zP12
  omega
theorem zd_13 (k j : Nat) : zP 13 k j (zdr 13 j) ∨ zdr 13 j = -1 := by
  left
  show zP13 k j 0
  unfold zP13
  omega
theorem zd_14 (k j : Nat) : zP 14 k j (zdr 14 j) ∨ zdr 14 j = -1 := match j with
  | 0 => Or.inr rfl
  | 1 => Or.inr rfl
  | 2 => Or.inr rfl
  | 3 => Or.inr rfl
  | 4 => Or.inr rfl
  | 5 => Or.inl (show 0 ≤ (0 : Int) ∧ (0 : Int) ≤ 1601 from ⟨by decide, by decide⟩)
  | 6 => Or.inl (show 0 ≤ (0 : Int) ∧ (0 : Int) ≤ 1600 from ⟨by decide, by decide⟩)
  | 7 => Or.inl (show -2147483648 ≤ (0 : Int) ∧ (0 : Int) ≤ 2147483647 from ⟨by decide, by decide⟩)
  | 8 => Or.inl (show -2147483648 ≤ (0 : Int) ∧ (0 : Int) ≤ 2147483647 from ⟨by decide, by decide⟩)
  | _ + 9 => Or.inl trivial
theorem zd_15 (k j : Nat) : zP 15 k j (zdr 15 j) ∨ zdr 15 j = -1 := by
  left
  show zP15 k j 0
  unfold zP15
  omega
theorem zd_16 (k j : Nat) : zP 16 k j (zdr 16 j) ∨ zdr 16 j = -1 := by
  left
  show zP16 k j 0
  unfold zP16
  omega
theorem zd_17 (k j : Nat) : zP 17 k j (zdr 17 j) ∨ zdr 17 j = -1 := by
  left
  show zP17 k j 0
  unfold zP17
  omega
theorem zd_18 (k j : Nat) : zP 18 k j (zdr 18 j) ∨ zdr 18 j = -1 := by
  left
  show zP18 k j 0
  unfold zP18
  omega
theorem zd_19 (k j : Nat) : zP 19 k j (zdr 19 j) ∨ zdr 19 j = -1 := by
  left
  show zP19 k j 0
  unfold zP19
  omega
theorem zd_20 (k j : Nat) : zP 20 k j (zdr 20 j) ∨ zdr 20 j = -1 := match j with
  | 0 => Or.inr rfl
  | 1 => Or.inr rfl
  | 2 => Or.inl (show 0 ≤ (0 : Int) ∧ (0 : Int) ≤ 2 from ⟨by decide, by decide⟩)
  | _ + 3 => Or.inl trivial
theorem zd_21 (k j : Nat) : zP 21 k j (zdr 21 j) ∨ zdr 21 j = -1 := match j with
  | 0 => Or.inr rfl
  | 1 => Or.inr rfl
  | 2 => Or.inr rfl
  | _ + 3 => Or.inl trivial
theorem zd_22 (k j : Nat) : zP 22 k j (zdr 22 j) ∨ zdr 22 j = -1 := match j with
  | 0 => Or.inr rfl
  | 1 => Or.inr rfl
  | 2 => Or.inr rfl
  | 3 => Or.inr rfl
  | 4 => Or.inl (show 0 ≤ (0 : Int) ∧ (0 : Int) ≤ 40 from ⟨by decide, by decide⟩)
  | 5 => Or.inl (show -2147483648 ≤ (0 : Int) ∧ (0 : Int) ≤ 2147483647 from ⟨by decide, by decide⟩)
  | 6 => Or.inl (show -9223372036854775808 ≤ (0 : Int) ∧ (0 : Int) ≤ 9223372036854775807 from ⟨by decide, by decide⟩)
  | 7 => Or.inl (show -2147483648 ≤ (0 : Int) ∧ (0 : Int) ≤ 2147483647 from ⟨by decide, by decide⟩)
  | _ + 8 => Or.inl trivial
theorem zd_23 (k j : Nat) : zP 23 k j (zdr 23 j) ∨ zdr 23 j = -1 := by
  left
  show zP23 k j 0
  unfold zP23
  omega
theorem zd_24 (k j : Nat) : zP 24 k j (zdr 24 j) ∨ zdr 24 j = -1 := by
  left
  show zP24 k j 0
  unfold zP24
  omega
theorem zd_25 (k j : Nat) : zP 25 k j (zdr 25 j) ∨ zdr 25 j = -1 := by
  left
  show zP25 k j 0
  unfold zP25
  omega
theorem zd_26 (k j : Nat) : zP 26 k j (zdr 26 j) ∨ zdr 26 j = -1 := by
  left
  show zP26 k j 0
  unfold zP26
  omega
theorem zd_27 (k j : Nat) : zP 27 k j (zdr 27 j) ∨ zdr 27 j = -1 := match j with
  | 0 => Or.inr rfl
  | 1 => Or.inl (show 0 ≤ (0 : Int) ∧ (0 : Int) ≤ 19 from ⟨by decide, by decide⟩)
  | 2 => Or.inl (show 0 ≤ (0 : Int) ∧ (0 : Int) ≤ 20 from ⟨by decide, by decide⟩)
  | _ + 3 => Or.inl trivial
theorem zd_28 (k j : Nat) : zP 28 k j (zdr 28 j) ∨ zdr 28 j = -1 := Or.inr rfl
theorem zd_29 (k j : Nat) : zP 29 k j (zdr 29 j) ∨ zdr 29 j = -1 := match j with
  | 0 => Or.inr rfl
  | 1 => Or.inr rfl
  | 2 => Or.inr rfl
  | 3 => Or.inr rfl
  | 4 => Or.inr rfl
  | 5 => Or.inl (show 0 ≤ (0 : Int) ∧ (0 : Int) ≤ 12 from ⟨by decide, by decide⟩)
  | 6 => Or.inl (show 0 ≤ (0 : Int) ∧ (0 : Int) ≤ 1024 from ⟨by decide, by decide⟩)
  | _ + 7 => Or.inl trivial
theorem zd_30 (k j : Nat) : zP 30 k j (zdr 30 j) ∨ zdr 30 j = -1 := by
  left
  show zP30 k j 0
  unfold zP30
  omega
theorem zd_31 (k j : Nat) : zP 31 k j (zdr 31 j) ∨ zdr 31 j = -1 := by
  left
  show zP31 k j 0
  unfold zP31
  omega
theorem zd_32 (k j : Nat) : zP 32 k j (zdr 32 j) ∨ zdr 32 j = -1 := by
  left
  show zP32 k j 0
  unfold zP32
  omega
theorem zd_33 (k j : Nat) : zP 33 k j (zdr 33 j) ∨ zdr 33 j = -1 := by
  left
  show zP33 k j 0
  unfold zP33
  omega
theorem zd_34 (k j : Nat) : zP 34 k j (zdr 34 j) ∨ zdr 34 j = -1 := by
  left
  show zP34 k j 0
  unfold zP34
  omega
theorem zd_35 (k j : Nat) : zP 35 k j (zdr 35 j) ∨ zdr 35 j = -1 := match j with
  | 0 => Or.inr rfl
  | 1 => Or.inr rfl
  | 2 => Or.inr rfl
  | 3 => Or.inr rfl
  | 4 => Or.inr rfl
  | 5 => Or.inr rfl
  | 6 => Or.inr rfl
  | 7 => Or.inr rfl
  | 8 => Or.inl (show 0 ≤ (0 : Int) ∧ (0 : Int) ≤ 99 from ⟨by decide, by decide⟩)
  | 9 => Or.inl (show -2147483648 ≤ (0 : Int) ∧ (0 : Int) ≤ 2147483647 from ⟨by decide, by decide⟩)
  | 10 => Or.inl (show -2147483648 ≤ (0 : Int) ∧ (0 : Int) ≤ 2147483647 from ⟨by decide, by decide⟩)
  | 11 => Or.inl (show -9223372036854775808 ≤ (0 : Int) ∧ (0 : Int) ≤ 9223372036854775807 from ⟨by decide, by decide⟩)
  | 12 => Or.inl (show -2147483648 ≤ (0 : Int) ∧ (0 : Int) ≤ 2147483647 from ⟨by decide, by decide⟩)
  | 13 => Or.inl (show -2147483648 ≤ (0 : Int) ∧ (0 : Int) ≤ 2147483647 from ⟨by decide, by decide⟩)
  | _ + 14 => Or.inl trivial
theorem zd_36 (k j : Nat) : zP 36 k j (zdr 36 j) ∨ zdr 36 j = -1 := match j with
  | 0 => Or.inr rfl
  | 1 => Or.inr rfl
  | 2 => Or.inr rfl
  | 3 => Or.inl (show 0 ≤ (0 : Int) ∧ (0 : Int) ≤ 10 from ⟨by decide, by decide⟩)
  | _ + 4 => Or.inl trivial
theorem zd_37 (k j : Nat) : zP 37 k j (zdr 37 j) ∨ zdr 37 j = -1 := by
  left
  show zP37 k j 0
  unfold zP37
  omega
theorem zd_38 (k j : Nat) : zP 38 k j (zdr 38 j) ∨ zdr 38 j = -1 := by
  left
  show zP38 k j 0
  unfold zP38
  omega
theorem zd_39 (k j : Nat) : zP 39 k j (zdr 39 j) ∨ zdr 39 j = -1 := by
  left
  show zP39 k j 0
  unfold zP39
  omega
theorem zd_40 (k j : Nat) : zP 40 k j (zdr 40 j) ∨ zdr 40 j = -1 := by
  left
  show zP40 k j 0
  unfold zP40
  omega
theorem zd_41 (k j : Nat) : zP 41 k j (zdr 41 j) ∨ zdr 41 j = -1 := by
  left
  show zP41 k j 0
  unfold zP41
  omega
theorem zd_42 (k j : Nat) : zP 42 k j (zdr 42 j) ∨ zdr 42 j = -1 := by
  left
  show zP42 k j 0
  unfold zP42
  omega
theorem zd_43 (k j : Nat) : zP 43 k j (zdr 43 j) ∨ zdr 43 j = -1 := by
  left
  show zP43 k j 0
  unfold zP43
  omega
theorem zd_44 (k j : Nat) : zP 44 k j (zdr 44 j) ∨ zdr 44 j = -1 := by
  left
  show zP44 k j 0
  unfold zP44
  omega
theorem zd_45 (k j : Nat) : zP 45 k j (zdr 45 j) ∨ zdr 45 j = -1 := by
  left
  show zP45 k j 0
  unfold zP45
  omega
theorem zd_46 (k j : Nat) : zP 46 k j (zdr 46 j) ∨ zdr 46 j = -1 := match j with
  | 0 => Or.inr rfl
  | 1 => Or.inl (show 0 ≤ (0 : Int) ∧ (0 : Int) ≤ 1600 from ⟨by decide, by decide⟩)
  | 2 => Or.inl (show 0 ≤ (0 : Int) ∧ (0 : Int) ≤ 1600 from ⟨by decide, by decide⟩)
  | 3 => Or.inl (show 0 ≤ (0 : Int) ∧ (0 : Int) ≤ 1600 from ⟨by decide, by decide⟩)
  | 4 => Or.inl (show -1 ≤ (0 : Int) ∧ (0 : Int) ≤ 1600 from ⟨by decide, by decide⟩)
  | 5 => Or.inl (show -2147483648 ≤ (0 : Int) ∧ (0 : Int) ≤ 2147483647 from ⟨by decide, by decide⟩)
  | 6 => Or.inl (show -2147483648 ≤ (0 : Int) ∧ (0 : Int) ≤ 2147483647 from ⟨by decide, by decide⟩)
  | 7 => Or.inl (show -2147483648 ≤ (0 : Int) ∧ (0 : Int) ≤ 2147483647 from ⟨by decide, by decide⟩)
  | 8 => Or.inl (show -2147483648 ≤ (0 : Int) ∧ (0 : Int) ≤ 2147483647 from ⟨by decide, by decide⟩)
  | 9 => Or.inr rfl
  | 10 => Or.inl (show -2147483648 ≤ (0 : Int) ∧ (0 : Int) ≤ 2147483647 from ⟨by decide, by decide⟩)
  | 11 => Or.inr rfl
  | 12 => Or.inr rfl
  | 13 => Or.inr rfl
  | 14 => Or.inr rfl
  | 15 => Or.inr rfl
  | 16 => Or.inr rfl
  | 17 => Or.inr rfl
  | 18 => Or.inr rfl
  | 19 => Or.inr rfl
  | 20 => Or.inr rfl
  | 21 => Or.inr rfl
  | 22 => Or.inr rfl
  | 23 => Or.inr rfl
  | 24 => Or.inr rfl
  | 25 => Or.inr rfl
  | 26 => Or.inr rfl
  | 27 => Or.inr rfl
  | 28 => Or.inr rfl
  | 29 => Or.inr rfl
  | 30 => Or.inr rfl
  | 31 => Or.inr rfl
  | 32 => Or.inr rfl
  | 33 => Or.inr rfl
  | 34 => Or.inr rfl
  | 35 => Or.inr rfl
  | 36 => Or.inr rfl
  | 37 => Or.inr rfl
  | 38 => Or.inl (show -2147483648 ≤ (0 : Int) ∧ (0 : Int) ≤ 2147483647 from ⟨by decide, by decide⟩)
  | 39 => Or.inr rfl
  | 40 => Or.inr rfl
  | 41 => Or.inr rfl
  | 42 => Or.inr rfl
  | 43 => Or.inr rfl
  | 44 => Or.inr rfl
  | 45 => Or.inr rfl
  | 46 => Or.inr rfl
  | 47 => Or.inr rfl
  | 48 => Or.inl (show 0 ≤ (0 : Int) ∧ (0 : Int) ≤ 3200 from ⟨by decide, by decide⟩)
  | 49 => Or.inl (show -2147483648 ≤ (0 : Int) ∧ (0 : Int) ≤ 2147483647 from ⟨by decide, by decide⟩)
  | 50 => Or.inl (show 0 ≤ (0 : Int) ∧ (0 : Int) ≤ 1 from ⟨by decide, by decide⟩)
  | 51 => Or.inl (show 0 ≤ (0 : Int) ∧ (0 : Int) ≤ 2 from ⟨by decide, by decide⟩)
  | 52 => Or.inr rfl
  | 53 => Or.inr rfl
  | 54 => Or.inl (show 0 ≤ (0 : Int) ∧ (0 : Int) ≤ 99 from ⟨by decide, by decide⟩)
  | 55 => Or.inl (show -2147483648 ≤ (0 : Int) ∧ (0 : Int) ≤ 2147483647 from ⟨by decide, by decide⟩)
  | 56 => Or.inl (show -2147483648 ≤ (0 : Int) ∧ (0 : Int) ≤ 2147483647 from ⟨by decide, by decide⟩)
  | 57 => Or.inr rfl
  | 58 => Or.inl (show -1 ≤ (0 : Int) ∧ (0 : Int) ≤ 35 from ⟨by decide, by decide⟩)
  | 59 => Or.inl (show 0 ≤ (0 : Int) ∧ (0 : Int) ≤ 1 from ⟨by decide, by decide⟩)
  | 60 => Or.inl (show -2147483648 ≤ (0 : Int) ∧ (0 : Int) ≤ 2147483647 from ⟨by decide, by decide⟩)
  | 61 => Or.inr rfl
  | 62 => Or.inl (show -2147483648 ≤ (0 : Int) ∧ (0 : Int) ≤ 2147483647 from ⟨by decide, by decide⟩)
  | 63 => Or.inl (show -2147483648 ≤ (0 : Int) ∧ (0 : Int) ≤ 2147483647 from ⟨by decide, by decide⟩)
  | 64 => Or.inl (show 0 ≤ (0 : Int) ∧ (0 : Int) ≤ 12 from ⟨by decide, by decide⟩)
  | 65 => Or.inr rfl
  | 66 => Or.inr rfl
  | 67 => Or.inl (show 0 ≤ (0 : Int) ∧ (0 : Int) ≤ 1024 from ⟨by decide, by decide⟩)
  | 68 => Or.inr rfl
  | 69 => Or.inr rfl
  | 70 => Or.inl (show 0 ≤ (0 : Int) ∧ (0 : Int) ≤ 20 from ⟨by decide, by decide⟩)
  | 71 => Or.inl (show 0 ≤ (0 : Int) ∧ (0 : Int) ≤ 19 from ⟨by decide, by decide⟩)
  | 72 => Or.inl (show 0 ≤ (0 : Int) ∧ (0 : Int) ≤ 2147483647 from ⟨by decide, by decide⟩)
  | 73 => Or.inr rfl
  | 74 => Or.inr rfl
  | 75 => Or.inr rfl
  | 76 => Or.inr rfl
  | 77 => Or.inr rfl
  | 78 => Or.inr rfl
  | 79 => Or.inr rfl
  | 80 => Or.inr rfl
  | 81 => Or.inr rfl
  | 82 => Or.inr rfl
  | 83 => Or.inr rfl
  | 84 => Or.inr rfl
  | 85 => Or.inr rfl
  | 86 => Or.inr rfl
  | 87 => Or.inr rfl
  | 88 => Or.inr rfl
  | 89 => Or.inr rfl
  | 90 => Or.inr rfl
  | 91 => Or.inr rfl
  | 92 => Or.inr rfl
  | 93 => Or.inr rfl
  | 94 => Or.inr rfl
  | 95 => Or.inr rfl
  | 96 => Or.inr rfl
  | 97 => Or.inl (show 0 ≤ (0 : Int) ∧ (0 : Int) ≤ 1700 from ⟨by decide, by decide⟩)
  | 98 => Or.inr rfl
  | 99 => Or.inl (show 0 ≤ (0 : Int) ∧ (0 : Int) ≤ 1700 from ⟨by decide, by decide⟩)
  | 100 => Or.inl (show -2147483648 ≤ (0 : Int) ∧ (0 : Int) ≤ 2147483647 from ⟨by decide, by decide⟩)
  | 101 => Or.inl (show 0 ≤ (0 : Int) ∧ (0 : Int) ≤ 1700 from ⟨by decide, by decide⟩)
  | 102 => Or.inr rfl
  | 103 => Or.inl (show 0 ≤ (0 : Int) ∧ (0 : Int) ≤ 1700 from ⟨by decide, by decide⟩)
  | 104 => Or.inl (show -9223372036854775808 ≤ (0 : Int) ∧ (0 : Int) ≤ 9223372036854775807 from ⟨by decide, by decide⟩)
  | 105 => Or.inl (show 0 ≤ (0 : Int) ∧ (0 : Int) ≤ 1 from ⟨by decide, by decide⟩)
  | 106 => Or.inr rfl
  | 107 => Or.inl (show 0 ≤ (0 : Int) ∧ (0 : Int) ≤ 79 from ⟨by decide, by decide⟩)
  | _ + 108 => Or.inl trivial
theorem zd_47 (k j : Nat) : zP 47 k j (zdr 47 j) ∨ zdr 47 j = -1 := by
  left
  show zP47 k j 0
  unfold zP47
  omega
theorem zd_48 (k j : Nat) : zP 48 k j (zdr 48 j) ∨ zdr 48 j = -1 := by
  left
  show zP48 k j 0
  unfold zP48
  omega
theorem zd_49 (k j : Nat) : zP 49 k j (zdr 49 j) ∨ zdr 49 j = -1 := by
  left
  show zP49 k j 0
  unfold zP49
  omega
theorem zd_50 (k j : Nat) : zP 50 k j (zdr 50 j) ∨ zdr 50 j = -1 := by
  left
  show zP50 k j 0
  unfold zP50
  omega
theorem zd_51 (k j : Nat) : zP 51 k j (zdr 51 j) ∨ zdr 51 j = -1 := by
  left
  show zP51 k j 0
  unfold zP51
  omega
theorem zd_52 (k j : Nat) : zP 52 k j (zdr 52 j) ∨ zdr 52 j = -1 := by
  left
  show zP52 k j 0
  unfold zP52
  omega
theorem zd_53 (k j : Nat) : zP 53 k j (zdr 53 j) ∨ zdr 53 j = -1 := by
  left
  show zP53 k j 0
  unfold zP53
  omega
theorem zd_54 (k j : Nat) : zP 54 k j (zdr 54 j) ∨ zdr 54 j = -1 := by
  left
  show zP54 k j 0
  unfold zP54
  omega
theorem zd_55 (k j : Nat) : zP 55 k j (zdr 55 j) ∨ zdr 55 j = -1 := by
  left
  show zP55 k j 0
  unfold zP55
  omega
theorem zd_56 (k j : Nat) : zP 56 k j (zdr 56 j) ∨ zdr 56 j = -1 := by
  left
  show zP56 k j 0
  unfold zP56
  omega
theorem zd_57 (k j : Nat) : zP 57 k j (zdr 57 j) ∨ zdr 57 j = -1 := by
  left
  show zP57 k j 0
  unfold zP57
  omega
theorem zd_58 (k j : Nat) : zP 58 k j (zdr 58 j) ∨ zdr 58 j = -1 := by
  left
  show zP58 k j 0
  unfold zP58
  omega
theorem zd_59 (k j : Nat) : zP 59 k j (zdr 59 j) ∨ zdr 59 j = -1 := by
  left
  show zP59 k j 0
  unfold zP59
  omega
theorem zd_60 (k j : Nat) : zP 60 k j (zdr 60 j) ∨ zdr 60 j = -1 := by
  left
  show zP60 k j 0
  unfold zP60
  omega
theorem zd_61 (k j : Nat) : zP 61 k j (zdr 61 j) ∨ zdr 61 j = -1 := by
  left
  show zP61 k j 0
  unfold zP61
  omega
theorem zd_62 (k j : Nat) : zP 62 k j (zdr 62 j) ∨ zdr 62 j = -1 := by
  left
  show zP62 k j 0
  unfold zP62
  omega
theorem zd_63 (k j : Nat) : zP 63 k j (zdr 63 j) ∨ zdr 63 j = -1 := by
  left
  show zP63 k j 0
  unfold zP63
  omega
theorem zd_64 (k j : Nat) : zP 64 k j (zdr 64 j) ∨ zdr 64 j = -1 := by
  left
  show zP64 k j 0
  unfold zP64
  omega
theorem zd_65 (k j : Nat) : zP 65 k j (zdr 65 j) ∨ zdr 65 j = -1 := by
  left
  show zP65 k j 0
  unfold zP65
  omega
theorem zd_66 (k j : Nat) : zP 66 k j (zdr 66 j) ∨ zdr 66 j = -1 := by
  left
  show zP66 k j 0
  unfold zP66
  omega
theorem zd_67 (k j : Nat) : zP 67 k j (zdr 67 j) ∨ zdr 67 j = -1 := by
  left
  show zP67 k j 0
  unfold zP67
  omega
theorem zd_68 (k j : Nat) : zP 68 k j (zdr 68 j) ∨ zdr 68 j = -1 := by
  left
  show zP68 k j 0
  unfold zP68
  omega
theorem zd_69 (k j : Nat) : zP 69 k j (zdr 69 j) ∨ zdr 69 j = -1 := by
  left
  show zP69 k j 0
  unfold zP69
  omega
theorem zd_70 (k j : Nat) : zP 70 k j (zdr 70 j) ∨ zdr 70 j = -1 := by
  left
  show zP70 k j 0
  unfold zP70
  omega
theorem zd_71 (k j : Nat) : zP 71 k j (zdr 71 j) ∨ zdr 71 j = -1 := by
  left
  show zP71 k j 0
  unfold zP71
  omega
theorem zd_72 (k j : Nat) : zP 72 k j (zdr 72 j) ∨ zdr 72 j = -1 := by
  left
  show zP72 k j 0
  unfold zP72
  omega
theorem zd_73 (k j : Nat) : zP 73 k j (zdr 73 j) ∨ zdr 73 j = -1 := by
  left
  show zP73 k j 0
  unfold zP73
  omega
theorem zd_74 (k j : Nat) : zP 74 k j (zdr 74 j) ∨ zdr 74 j = -1 := by
  left
  show zP74 k j 0
  unfold zP74
  omega
theorem zd_75 (k j : Nat) : zP 75 k j (zdr 75 j) ∨ zdr 75 j = -1 := by
  left
  show zP75 k j 0
  unfold zP75
  omega
theorem zd_76 (k j : Nat) : zP 76 k j (zdr 76 j) ∨ zdr 76 j = -1 := by
  left
  show zP76 k j 0
  unfold zP76
  omega
theorem zd_77 (k j : Nat) : zP 77 k j (zdr 77 j) ∨ zdr 77 j = -1 := by
  left
  show zP77 k j 0
  unfold zP77
  omega
theorem zd_78 (k j : Nat) : zP 78 k j (zdr 78 j) ∨ zdr 78 j = -1 := by
  left
  show zP78 k j 0
  unfold zP78
  omega
theorem zd_79 (k j : Nat) : zP 79 k j (zdr 79 j) ∨ zdr 79 j = -1 := by
  left
  show zP79 k j 0
  unfold zP79
  omega
theorem zd_80 (k j : Nat) : zP 80 k j (zdr 80 j) ∨ zdr 80 j = -1 := by
  left
  show zP80 k j 0
  unfold zP80
  omega
theorem zd_81 (k j : Nat) : zP 81 k j (zdr 81 j) ∨ zdr 81 j = -1 := by
  left
  show zP81 k j 0
  unfold zP81
  omega
theorem zd_82 (k j : Nat) : zP 82 k j (zdr 82 j) ∨ zdr 82 j = -1 := by
  left
  show zP82 k j 0
  unfold zP82
  omega
theorem zd_83 (k j : Nat) : zP 83 k j (zdr 83 j) ∨ zdr 83 j = -1 := by
  left
  show zP83 k j 0
  unfold zP83
  omega
theorem zd_84 (k j : Nat) : zP 84 k j (zdr 84 j) ∨ zdr 84 j = -1 := by
  left
  show zP84 k j 0
  unfold zP84
  omega
theorem zd_85 (k j : Nat) : zP 85 k j (zdr 85 j) ∨ zdr 85 j = -1 := by
  left
  show zP85 k j 0
  unfold zP85
  omega
theorem zd_86 (k j : Nat) : zP 86 k j (zdr 86 j) ∨ zdr 86 j = -1 := by
  left
  show zP86 k j 0
  unfold zP86
  omega
theorem zd_87 (k j : Nat) : zP 87 k j (zdr 87 j) ∨ zdr 87 j = -1 := by
  left
  show zP87 k j 0
  unfold zP87
  omega
theorem zd_88 (k j : Nat) : zP 88 k j (zdr 88 j) ∨ zdr 88 j = -1 := by
  left
  show zP88 k j 0
  unfold zP88
  omega
theorem zd_89 (k j : Nat) : zP 89 k j (zdr 89 j) ∨ zdr 89 j = -1 := by
  left
  show zP89 k j 0
  unfold zP89
  omega
theorem zd_90 (k j : Nat) : zP 90 k j (zdr 90 j) ∨ zdr 90 j = -1 := by
  left
  show zP90 k j 0
  unfold zP90
  omega
theorem zd_91 (k j : Nat) : zP 91 k j (zdr 91 j) ∨ zdr 91 j = -1 := by
  left
  show zP91 k j 0
  unfold zP91
  omega
theorem zd_92 (k j : Nat) : zP 92 k j (zdr 92 j) ∨ zdr 92 j = -1 := by
  left
  show zP92 k j 0
  unfold zP92
  omega
theorem zd_93 (k j : Nat) : zP 93 k j (zdr 93 j) ∨ zdr 93 j = -1 := by
  left
  show zP93 k j 0
  unfold zP93
  omega
theorem zd_94 (k j : Nat) : zP 94 k j (zdr 94 j) ∨ zdr 94 j = -1 := by
  left
  show zP94 k j 0
  unfold zP94
  omega
theorem zd_95 (k j : Nat) : zP 95 k j (zdr 95 j) ∨ zdr 95 j = -1 := by
  left
  show zP95 k j 0
  unfold zP95
  omega
theorem zd_96 (k j : Nat) : zP 96 k j (zdr 96 j) ∨ zdr 96 j = -1 := by
  left
  show zP96 k j 0
  unfold zP96
  omega
theorem zd_97 (k j : Nat) : zP 97 k j (zdr 97 j) ∨ zdr 97 j = -1 := by
  left
  show zP97 k j 0
  unfold zP97
  omega
theorem zd_98 (k j : Nat) : zP 98 k j (zdr 98 j) ∨ zdr 98 j = -1 := by
  left
  show zP98 k j 0
  unfold zP98
  omega
theorem zd_99 (k j : Nat) : zP 99 k j (zdr 99 j) ∨ zdr 99 j = -1 := by
  left
  show zP99 k j 0
  unfold zP99
  omega
theorem zd_100 (k j : Nat) : zP 100 k j (zdr 100 j) ∨ zdr 100 j = -1 := by
  left
  show zP100 k j 0
  unfold zP100
  omega
theorem zd_101 (k j : Nat) : zP 101 k j (zdr 101 j) ∨ zdr 101 j = -1 := by
  left
  show zP101 k j 0
  unfold zP101
  omega
theorem zd_102 (k j : Nat) : zP 102 k j (zdr 102 j) ∨ zdr 102 j = -1 := by
  left
  show zP102 k j 0
  unfold zP102
  omega
theorem zd_103 (k j : Nat) : zP 103 k j (zdr 103 j) ∨ zdr 103 j = -1 := by
  left
  show zP103 k j 0
  unfold zP103
  omega
theorem zd_104 (k j : Nat) : zP 104 k j (zdr 104 j) ∨ zdr 104 j = -1 := by
  left
  show zP104 k j 0
  unfold zP104
  omega
theorem zd_105 (k j : Nat) : zP 105 k j (zdr 105 j) ∨ zdr 105 j = -1 := by
  left
  show zP105 k j 0
  unfold zP105
  omega
theorem zd_106 (k j : Nat) : zP 106 k j (zdr 106 j) ∨ zdr 106 j = -1 := by
  left
  show zP106 k j 0
  unfold zP106
  omega
theorem zd_107 (k j : Nat) : zP 107 k j (zdr 107 j) ∨ zdr 107 j = -1 := by
  left
  show zP107 k j 0
  unfold zP107
  omega
theorem zd_108 (k j : Nat) : zP 108 k j (zdr 108 j) ∨ zdr 108 j = -1 := by
  left
  show zP108 k j 0
  unfold zP108
  omega
theorem zd_109 (k j : Nat) : zP 109 k j (zdr 109 j) ∨ zdr 109 j = -1 := by
  left
  show zP109 k j 0
  unfold zP109
  omega
theorem zd_110 (k j : Nat) : zP 110 k j (zdr 110 j) ∨ zdr 110 j = -1 := by
  left
  show zP110 k j 0
  unfold zP110
  omega
theorem zd_111 (k j : Nat) : zP 111 k j (zdr 111 j) ∨ zdr 111 j = -1 := by
  left
  show zP111 k j 0
  unfold zP111
  omega
theorem zd_112 (k j : Nat) : zP 112 k j (zdr 112 j) ∨ zdr 112 j = -1 := by
  left
  show zP112 k j 0
  unfold zP112
  omega
theorem zd_113 (k j : Nat) : zP 113 k j (zdr 113 j) ∨ zdr 113 j = -1 := by
  left
  show zP113 k j 0
  unfold zP113
  omega
theorem zd_114 (k j : Nat) : zP 114 k j (zdr 114 j) ∨ zdr 114 j = -1 := by
  left
  show zP114 k j 0
  unfold zP114
  omega
theorem zd_115 (k j : Nat) : zP 115 k j (zdr 115 j) ∨ zdr 115 j = -1 := by
  left
  show zP115 k j 0
  unfold zP115
  omega
theorem zd_116 (k j : Nat) : zP 116 k j (zdr 116 j) ∨ zdr 116 j = -1 := by
  left
  show zP116 k j 0
  unfold zP116
  omega
theorem zd_117 (k j : Nat) : zP 117 k j (zdr 117 j) ∨ zdr 117 j = -1 := by
  left
  show zP117 k j 0
  unfold zP117
  omega
theorem zd_118 (k j : Nat) : zP 118 k j (zdr 118 j) ∨ zdr 118 j = -1 := by
  left
  show zP118 k j 0
  unfold zP118
  omega
theorem zd_119 (k j : Nat) : zP 119 k j (zdr 119 j) ∨ zdr 119 j = -1 := by
  left
  show zP119 k j 0
  unfold zP119
  omega
theorem zd_all (r k j : Nat) : zP r k j (zdr r j) ∨ zdr r j = -1 := match r with
  | 0 => Or.inl trivial
  | 1 => zd_1 k j
  | 2 => zd_2 k j
  | 3 => zd_3 k j
  | 4 => zd_4 k j
  | 5 => zd_5 k j
  | 6 => zd_6 k j
  | 7 => zd_7 k j
  | 8 => zd_8 k j
  | 9 => zd_9 k j
  | 10 => zd_10 k j
  | 11 => zd_11 k j
  | 12 => zd_12 k j
  | 13 => zd_13 k j
  | 14 => zd_14 k j
  | 15 => zd_15 k j
  | 16 => zd_16 k j
  | 17 => zd_17 k j
  | 18 => zd_18 k j
  | 19 => zd_19 k j
  | 20 => zd_20 k j
  | 21 => zd_21 k j
  | 22 => zd_22 k j
  | 23 => zd_23 k j
  | 24 => zd_24 k j
  | 25 => zd_25 k j
  | 26 => zd_26 k j
  | 27 => zd_27 k j
  | 28 => zd_28 k j
  | 29 => zd_29 k j
  | 30 => zd_30 k j
  | 31 => zd_31 k j
  | 32 => zd_32 k j
  | 33 => zd_33 k j
  | 34 => zd_34 k j
  | 35 => zd_35 k j
  | 36 => zd_36 k j
  | 37 => zd_37 k j
  | 38 => zd_38 k j
  | 39 => zd_39 k j
  | 40 => zd_40 k j
  | 41 => zd_41 k j
  | 42 => zd_42 k j
  | 43 => zd_43 k j
  | 44 => zd_44 k j
  | 45 => zd_45 k j
  | 46 => zd_46 k j
  | 47 => zd_47 k j
  | 48 => zd_48 k j
  | 49 => zd_49 k j
  | 50 => zd_50 k j
  | 51 => zd_51 k j
  | 52 => zd_52 k j
  | 53 => zd_53 k j
  | 54 => zd_54 k j
  | 55 => zd_55 k j
  | 56 => zd_56 k j
  | 57 => zd_57 k j
  | 58 => zd_58 k j
  | 59 => zd_59 k j
  | 60 => zd_60 k j
  | 61 => zd_61 k j
  | 62 => zd_62 k j
  | 63 => zd_63 k j
  | 64 => zd_64 k j
  | 65 => zd_65 k j
  | 66 => zd_66 k j
  | 67 => zd_67 k j
  | 68 => zd_68 k j
  | 69 => zd_69 k j
  | 70 => zd_70 k j
  | 71 => zd_71 k j
  | 72 => zd_72 k j
  | 73 => zd_73 k j
  | 74 => zd_74 k j
  | 75 => zd_75 k j
  | 76 => zd_76 k j
  | 77 => zd_77 k j
  | 78 => zd_78 k j
  | 79 => zd_79 k j
  | 80 => zd_80 k j
  | 81 => zd_81 k j
  | 82 => zd_82 k j
  | 83 => zd_83 k j
  | 84 => zd_84 k j
  | 85 => zd_85 k j
  | 86 => zd_86 k j
  | 87 => zd_87 k j
  | 88 => zd_88 k j
  | 89 => zd_89 k j
  | 90 => zd_90 k j
  | 91 => zd_91 k j
  | 92 => zd_92 k j
  | 93 => zd_93 k j
  | 94 => zd_94 k j
  | 95 => zd_95 k j
  | 96 => zd_96 k j
  | 97 => zd_97 k j
  | 98 => zd_98 k j
  | 99 => zd_99 k j
  | 100 => zd_100 k j
  | 101 => zd_101 k j
  | 102 => zd_102 k j
  | 103 => zd_103 k j
  | 104 => zd_104 k j
  | 105 => zd_105 k j
  | 106 => zd_106 k j
  | 107 => zd_107 k j
  | 108 => zd_108 k j
  | 109 => zd_109 k j
  | 110 => zd_110 k j
  | 111 => zd_111 k j
  | 112 => zd_112 k j
  | 113 => zd_113 k j
  | 114 => zd_114 k j
  | 115 => zd_115 k j
  | 116 => zd_116 k j
  | 117 => zd_117 k j
  | 118 => zd_118 k j
  | 119 => zd_119 k j
  | _ + 120 => Or.inl trivial
def zIR (σ : zSto) : Prop := ∀ k j : Nat, zP (zro k) k j (σ k j) ∨ (zdef k j = -1 ∧ σ k j = -1)
theorem zIR_def : zIR zdef := by
  intro k j
  have e : zdef k j = zdr (zro k) j := rfl
  rcases zd_all (zro k) k j with h | h
  · exact Or.inl (by rw [e]; exact h)
  · exact Or.inr ⟨by rw [e]; exact h, by rw [e]; exact h⟩
theorem zIR_set {σ s1 : zSto} {k j r : Nat} {v : Int} (e : zset σ k j v = s1) (h : zIR σ) (hk : zro k = r) (hv : zP r k j v) : zIR s1 := by
  subst e
  intro a b
  by_cases q : a = k ∧ b = j
  · obtain ⟨rfl, rfl⟩ := q
    rw [zset_s, hk]
    exact Or.inl hv
  · have : zset σ k j v a b = σ a b := by simp [zset, q]
    rw [this]
    exact h a b
def zDf (s : zSto) (lo : Nat) : Prop := ∀ a, lo ≤ a → s a = zdef a
def zLo (σ s : zSto) (k : Nat) : Prop := ∀ a, a < k → s a = σ a
def zNNo (s : zSto) (k m : Nat) : Prop := ∀ j, j < m → zdef k j = -1 → s k j ≠ -1
def zOk (s : zSto) (lo hi : Nat) : Prop := ∀ a, lo ≤ a → a < hi → ∀ j, zP (zro a) a j (s a j)
def zCs (σ s : zSto) (k m n : Nat) : Prop := zIR s ∧ zDf s n ∧ zLo σ s k ∧ zNNo s k m ∧ zOk s (k + 1) n ∧ k < n
def zCp (σ s : zSto) (k n : Nat) : Prop := zIR s ∧ zDf s n ∧ zLo σ s k ∧ zOk s k n
theorem zCs_0 {σ : zSto} {k : Nat} (h : zIR σ) (hd : zDf σ k) : zCs σ σ k 0 (k + 1) := ⟨h, fun a ha => hd a (by omega), fun _ _ => rfl, fun j hj => absurd hj (Nat.not_lt_zero j), fun a h1 h2 => by omega, by omega⟩
theorem zset_a {σ : zSto} {k j a : Nat} {v : Int} (h : a ≠ k) : zset σ k j v a = σ a := funext fun _ => zset_k h
theorem zCs_ref {σ s s1 : zSto} {k m n r c j : Nat} {v : Int} (e : zset s k j v = s1) (h : zCs σ s k m n) (hk : zro k = r) (hs : zrs r = .inl c) (hv : zP r k j v) (hn : v ≠ -1) (hm : ∀ i, i < j → m ≤ i → zdv (zft c i) ≠ -1) : zCs σ s1 k (j + 1) n := by
  obtain ⟨a1, a2, a3, a4, a5, a6⟩ := h
  refine ⟨zIR_set e a1 hk hv, fun a ha => ?_, fun a ha => ?_, fun i hi hd => ?_, fun a h1 h2 i => ?_, a6⟩
  · subst e; rw [zset_a (by omega)]; exact a2 a ha
  · subst e; rw [zset_a (by omega)]; exact a3 a ha
  · subst e
    by_cases q : i = j
    · subst q; rw [zset_s]; exact hn
    · rw [zset_j q]
      rcases Nat.lt_or_ge i m with h1 | h1
      · exact a4 i h1 hd
      · exact absurd ((zdef_o hk hs i).symm.trans hd) (hm i (by omega) h1)
  · subst e; rw [zset_a (by omega)]; exact a5 a h1 h2 i
theorem zCs_int {σ s s1 : zSto} {k m n r c j : Nat} {v : Int} (e : zset s k j v = s1) (h : zCs σ s k m n) (hk : zro k = r) (hs : zrs r = .inl c) (hv : zP r k j v) (hj : zdv (zft c j) ≠ -1) : zCs σ s1 k m n := by
  obtain ⟨a1, a2, a3, a4, a5, a6⟩ := h
  refine ⟨zIR_set e a1 hk hv, fun a ha => ?_, fun a ha => ?_, fun i hi hd => ?_, fun a h1 h2 i => ?_, a6⟩
  · subst e; rw [zset_a (by omega)]; exact a2 a ha
  · subst e; rw [zset_a (by omega)]; exact a3 a ha
  · subst e
    by_cases q : i = j
    · subst q; exact absurd ((zdef_o hk hs i).symm.trans hd) hj
    · rw [zset_j q]; exact a4 i hi hd
  · subst e; rw [zset_a (by omega)]; exact a5 a h1 h2 i
theorem zCs_arr {σ s : zSto} {k m n r t N : Nat} (h : zCs σ s k m n) (hk : zro n = r) (hs : zrs r = .inr (t, N)) (ht : t < 5) : zCs σ s k m (n + 1) := by
  obtain ⟨a1, a2, a3, a4, a5, a6⟩ := h
  refine ⟨a1, fun a ha => a2 a (by omega), a3, a4, fun a h1 h2 i => ?_, by omega⟩
  rcases Nat.lt_or_ge a n with q | q
  · exact a5 a h1 q i
  · have : a = n := by omega
    subst this
    rcases a1 a i with p | p
    · exact p
    · rw [zdef_a hk hs ht] at p
      exact absurd p.1 (show ¬ (0 : Int) = -1 by decide)
theorem zCs_el {σ s s1 : zSto} {k m n a r t N j : Nat} {v : Int} (e : zset s a j v = s1) (h : zCs σ s k m n) (ha : k < a) (han : a < n) (hk : zro a = r) (hs : zrs r = .inr (t, N)) (hv : zP r a j v) : zCs σ s1 k m n := by
  obtain ⟨a1, a2, a3, a4, a5, a6⟩ := h
  refine ⟨zIR_set e a1 hk hv, fun b hb => ?_, fun b hb => ?_, fun i hi hd => ?_, fun b h1 h2 i => ?_, a6⟩
  · subst e; rw [zset_a (by omega)]; exact a2 b hb
  · subst e; rw [zset_a (by omega)]; exact a3 b hb
  · subst e; rw [zset_a (by omega)]; exact a4 i hi hd
  · subst e
    by_cases q : b = a ∧ i = j
    · obtain ⟨rfl, rfl⟩ := q
      rw [zset_s, hk]; exact hv
    · have : zset s a j v b i = s b i := by simp [zset, q]
      rw [this]; exact a5 b h1 h2 i
theorem zCs_sub {σ s s' : zSto} {k m n n' : Nat} (h : zCs σ s k m n) (hp : zCp s s' n n') (hn : n < n') : zCs σ s' k m n' := by
  obtain ⟨a1, a2, a3, a4, a5, a6⟩ := h
  obtain ⟨b1, b2, b3, b4⟩ := hp
  refine ⟨b1, b2, fun a ha => (b3 a (by omega)).trans (a3 a ha), fun i hi hd => ?_, fun a h1 h2 i => ?_, by omega⟩
  · rw [b3 k a6]; exact a4 i hi hd
  · rcases Nat.lt_or_ge a n with q | q
    · rw [b3 a q]; exact a5 a h1 q i
    · exact b4 a q h2 i
theorem zCs_end {σ s : zSto} {k m n r c N : Nat} (h : zCs σ s k m n) (hk : zro k = r) (hs : zrs r = .inl c) (hm : ∀ i, i < N → m ≤ i → zdv (zft c i) ≠ -1) (hN : ∀ (i : Nat) (v : Int), zP r k (i + N) v) : zCp σ s k n := by
  obtain ⟨a1, a2, a3, a4, a5, a6⟩ := h
  refine ⟨a1, a2, a3, fun a h1 h2 i => ?_⟩
  rcases Nat.lt_or_ge k a with q | q
  · exact a5 a q h2 i
  · have : a = k := by omega
    subst this
    rcases Nat.lt_or_ge i N with g2 | g2
    · rcases a1 a i with p | ⟨p1, p2⟩
      · exact p
      · refine absurd p2 ?_
        rcases Nat.lt_or_ge i m with g | g
        · exact a4 i g p1
        · rw [zdef_o hk hs] at p1
          exact absurd p1 (hm i g2 g)
    · obtain ⟨u, rfl⟩ := Nat.exists_eq_add_of_le' g2
      rw [hk]
      exact hN u _
theorem zCs_nx {σ s : zSto} {k m n : Nat} (h : zCs σ s k m n) : s n = zdef n := h.2.1 n (Nat.le_refl n)
theorem zCp_e {σ s : zSto} {k n a : Nat} (h : zCp σ s k n) (ha : a < k) (j : Nat) : s a j = σ a j := congrFun (h.2.2.1 a ha) j
theorem zInv_of {s : zSto} (h : zOk s 0 zNC) : zInv s := by
  intro k j
  rcases Nat.lt_or_ge k zNC with q | q
  · exact h k (Nat.zero_le k) q j
  · have e : zro k = 0 := by
      by_cases h : zro k = 0
      · exact h
      · exact absurd (zro_lt rfl h) (Nat.not_lt.mpr q)
    rw [e]
    exact trivial
