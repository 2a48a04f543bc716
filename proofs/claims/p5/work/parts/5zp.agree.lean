theorem zag_o {E : zEN} {n k j r c : Nat} {s1 s2 : zSto} {t : State} (u1 : zU E n s1 t) (u2 : zU E n s2 t) (hn : k < n) (hk : zro k = r) (hs : zrs r = .inl c) (hj : j < znf c) : zfv E.1 (zft c j) (s1 k j) = zfv E.1 (zft c j) (s2 k j) := by
  have h1 := u1.1.2 k _ (zws_at hn)
  have h2 := u2.1.2 k _ (zws_at hn)
  rw [zen_o hk hs] at h1 h2
  obtain ⟨q1, a1, cell1, b1, -, -, d1⟩ := h1
  obtain ⟨q2, a2, cell2, b2, -, -, d2⟩ := h2
  cases a1.symm.trans a2
  cases b1.symm.trans b2
  have hN : znf c = q1.2.2 := by unfold znf; rw [a1]; rfl
  have e1 := d1 j (by rw [← hN]; exact hj)
  have e2 := d2 j (by rw [← hN]; exact hj)
  have e := Option.some.inj (e1.symm.trans e2)
  have v : ∀ s : zSto, vp_V ((List.range (znf c)).map (fun j => zfv E.1 (zft c j) (s k j))) j = zfv E.1 (zft c j) (s k j) := by
    intro s
    unfold vp_V
    rw [List.getD_eq_getElem?_getD, List.getElem?_map, List.getElem?_range hj]; rfl
  rw [v s1, v s2] at e
  exact e
theorem zI_inj {x y : Int} (hx : -2147483648 ≤ x ∧ x ≤ 2147483647) (hy : -2147483648 ≤ y ∧ y ≤ 2147483647) (h : zI x = zI y) : x = y := by
  have e := congrArg Int32.toInt h
  rw [zI_t hx.1 hx.2, zI_t hy.1 hy.2] at e
  exact e
theorem zJ_inj {x y : Int} (hx : -9223372036854775808 ≤ x ∧ x ≤ 9223372036854775807) (hy : -9223372036854775808 ≤ y ∧ y ≤ 9223372036854775807) (h : zJ x = zJ y) : x = y := by
  have e := congrArg Int64.toInt h
  rw [zJ_t hx.1 hx.2, zJ_t hy.1 hy.2] at e
  exact e
theorem zag_f {E : zEN} {n k j r c : Nat} {s1 s2 : zSto} {t : State} (u1 : zU E n s1 t) (u2 : zU E n s2 t) (hn : k < n) (hk : zro k = r) (hs : zrs r = .inl c) (hj : j < znf c) (ht : ∀ x, zfv E.1 (zft c j) x = .int (zI x)) (h1 : -2147483648 ≤ s1 k j ∧ s1 k j ≤ 2147483647) (h2 : -2147483648 ≤ s2 k j ∧ s2 k j ≤ 2147483647) : s1 k j = s2 k j := by
  have e := zag_o u1 u2 hn hk hs hj
  rw [ht, ht] at e
  injection e with e
  exact zI_inj h1 h2 e
theorem zag_i {E : zEN} {n k j r t m : Nat} {s1 s2 : zSto} {T : State} (u1 : zU E n s1 T) (u2 : zU E n s2 T) (hn : k < n) (hk : zro k = r) (hs : zrs r = .inr (t, m)) (hj : j < m) (ht : t ≠ 4 ∧ t ≠ 5) (h1 : -2147483648 ≤ s1 k j ∧ s1 k j ≤ 2147483647) (h2 : -2147483648 ≤ s2 k j ∧ s2 k j ≤ 2147483647) : s1 k j = s2 k j := by
  have g1 := u1.1.2 k _ (zws_at hn)
  have g2 := u2.1.2 k _ (zws_at hn)
  rw [zen_a hk hs] at g1 g2
  have z : ∀ s : zSto, zarr E.1 t (s k) = .inl (fun j => zI (s k j)) := by
    intro s
    unfold zarr
    split
    · exact absurd rfl ht.1
    · exact absurd rfl ht.2
    · rfl
  have g1 : T.heap[E.1 + k]? = some (vp_cell (E.2.2 t) (m, zarr E.1 t (s1 k))) := g1
  have g2 : T.heap[E.1 + k]? = some (vp_cell (E.2.2 t) (m, zarr E.1 t (s2 k))) := g2
  rw [z s1, vp_cell_i] at g1
  rw [z s2, vp_cell_i] at g2
  have e := Option.some.inj (g1.symm.trans g2)
  have a := arrV_read (E.2.2 t) (fun j => .int (zI (s1 k j))) hj
  have b := arrV_read (E.2.2 t) (fun j => .int (zI (s2 k j))) hj
  rw [e] at a
  have x := Option.some.inj (a.symm.trans b)
  injection x with x
  exact zI_inj h1 h2 x
theorem zag_l {E : zEN} {n k j r m : Nat} {s1 s2 : zSto} {T : State} (u1 : zU E n s1 T) (u2 : zU E n s2 T) (hn : k < n) (hk : zro k = r) (hs : zrs r = .inr (4, m)) (hj : j < m) (h1 : -9223372036854775808 ≤ s1 k j ∧ s1 k j ≤ 9223372036854775807) (h2 : -9223372036854775808 ≤ s2 k j ∧ s2 k j ≤ 9223372036854775807) : s1 k j = s2 k j := by
  have g1 := u1.1.2 k _ (zws_at hn)
  have g2 := u2.1.2 k _ (zws_at hn)
  rw [zen_a hk hs] at g1 g2
  have g1 : T.heap[E.1 + k]? = some (vp_cell (E.2.2 4) (m, .inr (.inl (fun j => zJ (s1 k j))))) := g1
  have g2 : T.heap[E.1 + k]? = some (vp_cell (E.2.2 4) (m, .inr (.inl (fun j => zJ (s2 k j))))) := g2
  rw [vp_cell_l] at g1 g2
  have e := Option.some.inj (g1.symm.trans g2)
  have a := arrV_read (E.2.2 4) (fun j => .long (zJ (s1 k j))) hj
  have b := arrV_read (E.2.2 4) (fun j => .long (zJ (s2 k j))) hj
  rw [e] at a
  have x := Option.some.inj (a.symm.trans b)
  injection x with x
  exact zJ_inj h1 h2 x
theorem zrv_i {x y : Int} (hx : -2147483648 ≤ x ∧ x ≤ 2147483647) (hy : -2147483648 ≤ y ∧ y ≤ 2147483647) (h : zrv (some .int) x = zrv (some .int) y) : x = y := by
  have h : some (Value.int (zI x)) = some (Value.int (zI y)) := h
  injection h with h
  injection h with h
  exact zI_inj hx hy h
