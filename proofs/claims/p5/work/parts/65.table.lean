def ybyt : List Int := [112, 97, 110, 101, 32, 98, 121, 32, 116, 111, 117, 103, 104, 32, 104, 101, 97, 118, 121, 32, 112, 111, 108, 101, 32, 97, 116, 32, 108, 105, 102, 116, 115, 32, 97, 100, 100, 115, 32, 104, 111, 108, 100, 115, 32, 102, 97, 100, 101, 115, 32, 115, 116, 111, 110, 101, 32, 104, 97, 105, 108, 32, 104, 111, 117, 114, 32, 99, 114, 97, 99, 107, 115, 32, 119, 101, 105, 103, 104, 116, 32, 116, 105, 114, 101, 100, 32, 110, 101, 97, 114, 32, 110, 117, 109, 98, 101, 114, 32, 99, 111, 108, 117, 109, 110, 32, 114, 111, 119, 32, 102, 97, 114, 32, 111, 114, 32, 97, 110, 100, 32, 110, 111, 116, 32, 97, 108, 108, 32, 109, 105, 110, 32, 109, 97, 120, 32, 102, 105, 114, 115, 116, 32, 108, 97, 115, 116, 32, 111, 102, 116, 101, 110, 32, 116, 111, 116, 97, 108, 32, 109, 111, 115, 116, 32, 108, 101, 97, 115, 116, 32]
def ystep (c : Int) (q : Int × Int × List Int) : Int × Int × List Int :=
  if c = 32 then (q.1 + 1, 0, q.2.2)
  else if q.1 < 33 ∧ q.2.1 < 6 then (q.1, q.2.1 + 1, q.2.2.set q.1.toNat ((zI (q.2.2.getD q.1.toNat 0 + (c - 96) * zlw q.2.1.toNat)).toInt))
  else q
def yrs : Nat → Int × Int × List Int
  | 0 => (0, 0, List.replicate 33 0)
  | k + 1 => ystep (ybyt.getD k 0) (yrs k)
theorem yrs_len : ∀ k, (yrs k).2.2.length = 33 := by
  intro k
  induction k with
  | zero => rfl
  | succ k ih =>
    show (ystep (ybyt.getD k 0) (yrs k)).2.2.length = 33
    unfold ystep
    repeat' split
    · exact ih
    · rw [List.length_set]; exact ih
    · exact ih
set_option maxRecDepth 100000 in
theorem yrs_end : ∀ i, i < 33 → (yrs 171).2.2.getD i 0 = yWc i := by decide +kernel
def yrI (k w p : Int) (s : zSto) : Prop := w = (yrs k.toNat).1 ∧ p = (yrs k.toNat).2.1 ∧ ∀ i : Nat, i < 33 → s 28 i = (yrs k.toNat).2.2.getD i 0
def yzs (z : zST) : Prop := z.2.2.1 = 171 ∧ ∀ j, j < 171 → (z.2.2.2 j &&& zI 255).toInt = ybyt.getD j 0
theorem yrI_a {k w p c : Int} {s : zSto} (h : yrI k w p s) (hk : 0 ≤ k) (hc : c = ybyt.getD k.toNat 0) (c2 : c = 32) : yrI (k + 1) (w + 1) 0 s := by
  obtain ⟨h1, h2, h3⟩ := h
  have e : (k + 1).toNat = k.toNat + 1 := by omega
  unfold yrI
  rw [e]
  show w + 1 = (ystep (ybyt.getD k.toNat 0) (yrs k.toNat)).1 ∧ 0 = (ystep (ybyt.getD k.toNat 0) (yrs k.toNat)).2.1 ∧ ∀ i : Nat, i < 33 → s 28 i = (ystep (ybyt.getD k.toNat 0) (yrs k.toNat)).2.2.getD i 0
  unfold ystep
  rw [← hc, if_pos c2]
  exact ⟨by rw [h1], rfl, h3⟩
theorem yrI_b {k w p c : Int} {s : zSto} (h : yrI k w p s) (hk : 0 ≤ k) (hc : c = ybyt.getD k.toNat 0) (c2 : c ≠ 32) (g : ¬ (w < 33 ∧ p < 6)) : yrI (k + 1) w p s := by
  obtain ⟨h1, h2, h3⟩ := h
  have e : (k + 1).toNat = k.toNat + 1 := by omega
  unfold yrI
  rw [e]
  show w = (ystep (ybyt.getD k.toNat 0) (yrs k.toNat)).1 ∧ p = (ystep (ybyt.getD k.toNat 0) (yrs k.toNat)).2.1 ∧ ∀ i : Nat, i < 33 → s 28 i = (ystep (ybyt.getD k.toNat 0) (yrs k.toNat)).2.2.getD i 0
  unfold ystep
  rw [← hc, if_neg c2, if_neg (by rw [← h1, ← h2]; exact g)]
  exact ⟨h1, h2, h3⟩
theorem yrI_c {k w p c v r : Int} {s s9 : zSto} (h : yrI k w p s) (hk : 0 ≤ k) (hc : c = ybyt.getD k.toNat 0) (c2 : c ≠ 32) (g : w < 33 ∧ p < 6) (hw : 0 ≤ w) (hv : s 28 w.toNat = v) (hr : r = (zI (v + (c - 96) * zlw p.toNat)).toInt) (e9 : zset s 28 w.toNat r = s9) : yrI (k + 1) w (p + 1) s9 := by
  obtain ⟨h1, h2, h3⟩ := h
  have e : (k + 1).toNat = k.toNat + 1 := by omega
  unfold yrI
  rw [e]
  show w = (ystep (ybyt.getD k.toNat 0) (yrs k.toNat)).1 ∧ p + 1 = (ystep (ybyt.getD k.toNat 0) (yrs k.toNat)).2.1 ∧ ∀ i : Nat, i < 33 → s9 28 i = (ystep (ybyt.getD k.toNat 0) (yrs k.toNat)).2.2.getD i 0
  unfold ystep
  rw [← hc, if_neg c2, if_pos (by rw [← h1, ← h2]; exact g)]
  refine ⟨h1, by rw [h2], fun i hi => ?_⟩
  show s9 28 i = ((yrs k.toNat).2.2.set (yrs k.toNat).1.toNat _).getD i 0
  have ln := yrs_len k.toNat
  rw [← h1, ← h2, List.getD_eq_getElem?_getD, List.getElem?_set]
  by_cases z : w.toNat = i
  · rw [if_pos z, if_pos (by omega)]
    show s9 28 i = _
    rw [← z, ← e9, zset_s, hr, ← hv, h3 w.toNat (by omega)]
    rfl
  · rw [if_neg z, ← e9, zset_j (fun x => z x.symm), h3 i hi, List.getD_eq_getElem?_getD]
