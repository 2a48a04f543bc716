theorem zn_b {x : Int} (h : -128 ≤ x) (h' : x ≤ 127) : vp_nar .byte (zI x) = zI x := by
  rw [vp_nar_byte, ← Int32.toInt_inj, Int8.toInt_toInt32, Int32.toInt_toInt8, zI_t (by omega) (by omega)]
  show Int.bmod x 256 = x
  exact Int.bmod_eq_of_le (by omega) (by omega)
theorem zn_z {x : Int} (h : 0 ≤ x) (h' : x ≤ 1) : vp_nar .boolean (zI x) = zI x := by
  rcases (show x = 0 ∨ x = 1 by omega) with rfl | rfl <;> decide +kernel
theorem zfit_z {x : Int} (h : 0 ≤ x) (h' : x ≤ 1) : narrow .boolean (.int (zI x)) = .int (zI x) ∧ fits .boolean (.int (zI x)) = true := by
  rcases (show x = 0 ∨ x = 1 by omega) with rfl | rfl <;> decide +kernel
theorem zup_i {σ : zSto} {k i : Nat} {x : Int} : upd (fun j => zI (σ k j)) i (zI x) = fun j => zI (zset σ k i x k j) := by
  funext q
  by_cases hq : q = i
  · subst hq
    simp [upd, zset_s]
  · simp [upd, hq, zset_j hq]
theorem zup_l {σ : zSto} {k i : Nat} {x : Int} : vp_updL (fun j => zJ (σ k j)) i (zJ x) = fun j => zJ (zset σ k i x k j) := by
  funext q
  by_cases hq : q = i
  · subst hq
    simp [vp_updL, zset_s]
  · simp [vp_updL, hq, zset_j hq]
theorem zcell_i {cA : ClassId} {m i : Nat} {f : Nat → Int32} {x : Int32} : (vp_cell cA (m, .inl f)).setSlot i (.int x) = vp_cell cA (m, .inl (upd f i x)) := by
  rw [vp_cell_i, vp_cell_i, arrV_store]
  congr 2
  funext q
  by_cases hq : q = i
  · subst hq
    simp [updV, upd]
  · simp [updV, upd, hq]
theorem zcell_l {cA : ClassId} {m i : Nat} {f : Nat → Int64} {x : Int64} : (vp_cell cA (m, .inr (.inl f))).setSlot i (.long x) = vp_cell cA (m, .inr (.inl (vp_updL f i x))) := by
  rw [vp_cell_l, vp_cell_l, arrV_store]
  congr 2
  funext q
  by_cases hq : q = i
  · subst hq
    simp [updV, vp_updL]
  · simp [updV, vp_updL, hq]
theorem zrf_of {B k : Nat} {x : Int} (h : x = (k : Int)) : va_rf (zrf B x) = .ref (B + k) := by
  subst h
  have h1 : ¬ ((k : Int) < 0) := by omega
  unfold zrf
  rw [if_neg h1]
  simp [va_rf]
section ZA
variable {X : zCX} {cc : ByteArray} {own : String} {d n cs ss pc pc' : Nat} {σ : zSto} {lv : List (Option Value)} {st : List Value}
theorem zt_iald {k r N : Nat} {x : Int} (hX : zok X cc own d) (hd : decode cc pc = .ok (.iaload, 1)) (hp : pc + 1 = pc') (hn : k < n) (hk : zro k = r) (hs : zrs r = .inr (0, N)) (hN : N ≤ 2147483647) (h0 : 0 ≤ x ∧ x < (N : Int)) (kk : zZ X n cs ss σ pc' lv (.int (zI (σ k x.toNat)) :: st)) : zZ X n cs ss σ pc lv (.int (zI x) :: .ref (X.1.1 + k) :: st) := by
  subst hp
  obtain ⟨E, p, l, e, R, s, m, args, below, meth, c0, Q, nL⟩ := X
  obtain ⟨hx, hb, hml, ho, ⟨w0, ht⟩, hlk, hK, hst, -⟩ := hX
  intro H locs ls hG hS hl
  have he : (zws E n σ)[k]? = some (E.1 + k, .inl (E.2.2 0, N, zarr E.1 0 (σ k))) := by rw [zws_at hn, zen_a hk hs]
  have h := kk H locs ls hG hS hl
  rw [← zI_cl h0.1 (by omega)] at h
  exact va_iald hx hb hK hG.2 k 0 he (ztys_at E (by decide)) (zI_in h0.1 h0.2 (by omega)) hd h
theorem zt_bald {k r N : Nat} {x : Int} (hX : zok X cc own d) (hd : decode cc pc = .ok (.baload, 1)) (hp : pc + 1 = pc') (hn : k < n) (hk : zro k = r) (hs : zrs r = .inr (1, N)) (hN : N ≤ 2147483647) (h0 : 0 ≤ x ∧ x < (N : Int)) (kk : zZ X n cs ss σ pc' lv (.int (zI (σ k x.toNat)) :: st)) : zZ X n cs ss σ pc lv (.int (zI x) :: .ref (X.1.1 + k) :: st) := by
  subst hp
  obtain ⟨E, p, l, e, R, s, m, args, below, meth, c0, Q, nL⟩ := X
  obtain ⟨hx, hb, hml, ho, ⟨w0, ht⟩, hlk, hK, hst, -⟩ := hX
  intro H locs ls hG hS hl
  have he : (zws E n σ)[k]? = some (E.1 + k, .inl (E.2.2 1, N, zarr E.1 1 (σ k))) := by rw [zws_at hn, zen_a hk hs]
  have h := kk H locs ls hG hS hl
  rw [← zI_cl h0.1 (by omega)] at h
  exact va_bald hx hb hK hG.2 k 1 he (ztys_at E (by decide)) (zI_in h0.1 h0.2 (by omega)) hd h
theorem zt_zald {k r N : Nat} {x : Int} (hX : zok X cc own d) (hd : decode cc pc = .ok (.baload, 1)) (hp : pc + 1 = pc') (hn : k < n) (hk : zro k = r) (hs : zrs r = .inr (2, N)) (hN : N ≤ 2147483647) (h0 : 0 ≤ x ∧ x < (N : Int)) (kk : zZ X n cs ss σ pc' lv (.int (zI (σ k x.toNat)) :: st)) : zZ X n cs ss σ pc lv (.int (zI x) :: .ref (X.1.1 + k) :: st) := by
  subst hp
  obtain ⟨E, p, l, e, R, s, m, args, below, meth, c0, Q, nL⟩ := X
  obtain ⟨hx, hb, hml, ho, ⟨w0, ht⟩, hlk, hK, hst, -⟩ := hX
  intro H locs ls hG hS hl
  have he : (zws E n σ)[k]? = some (E.1 + k, .inl (E.2.2 2, N, zarr E.1 2 (σ k))) := by rw [zws_at hn, zen_a hk hs]
  have h := kk H locs ls hG hS hl
  rw [← zI_cl h0.1 (by omega)] at h
  exact va_zald hx hb hK hG.2 k 2 he (ztys_at E (by decide)) (zI_in h0.1 h0.2 (by omega)) hd h
theorem zt_cald {k r N : Nat} {x : Int} (hX : zok X cc own d) (hd : decode cc pc = .ok (.caload, 1)) (hp : pc + 1 = pc') (hn : k < n) (hk : zro k = r) (hs : zrs r = .inr (3, N)) (hN : N ≤ 2147483647) (h0 : 0 ≤ x ∧ x < (N : Int)) (kk : zZ X n cs ss σ pc' lv (.int (zI (σ k x.toNat)) :: st)) : zZ X n cs ss σ pc lv (.int (zI x) :: .ref (X.1.1 + k) :: st) := by
  subst hp
  obtain ⟨E, p, l, e, R, s, m, args, below, meth, c0, Q, nL⟩ := X
  obtain ⟨hx, hb, hml, ho, ⟨w0, ht⟩, hlk, hK, hst, -⟩ := hX
  intro H locs ls hG hS hl
  have he : (zws E n σ)[k]? = some (E.1 + k, .inl (E.2.2 3, N, zarr E.1 3 (σ k))) := by rw [zws_at hn, zen_a hk hs]
  have h := kk H locs ls hG hS hl
  rw [← zI_cl h0.1 (by omega)] at h
  exact va_cald hx hb hK hG.2 k 3 he (ztys_at E (by decide)) (zI_in h0.1 h0.2 (by omega)) hd h
theorem zt_lald {k r N : Nat} {x : Int} (hX : zok X cc own d) (hd : decode cc pc = .ok (.laload, 1)) (hp : pc + 1 = pc') (hn : k < n) (hk : zro k = r) (hs : zrs r = .inr (4, N)) (hN : N ≤ 2147483647) (h0 : 0 ≤ x ∧ x < (N : Int)) (kk : zZ X n cs ss σ pc' lv (.long (zJ (σ k x.toNat)) :: st)) : zZ X n cs ss σ pc lv (.int (zI x) :: .ref (X.1.1 + k) :: st) := by
  subst hp
  obtain ⟨E, p, l, e, R, s, m, args, below, meth, c0, Q, nL⟩ := X
  obtain ⟨hx, hb, hml, ho, ⟨w0, ht⟩, hlk, hK, hst, -⟩ := hX
  intro H locs ls hG hS hl
  have he : (zws E n σ)[k]? = some (E.1 + k, .inl (E.2.2 4, N, zarr E.1 4 (σ k))) := by rw [zws_at hn, zen_a hk hs]
  have h := kk H locs ls hG hS hl
  rw [← zI_cl h0.1 (by omega)] at h
  exact va_lald hx hb hK hG.2 k 4 he (ztys_at E (by decide)) (zI_in h0.1 h0.2 (by omega)) hd h
theorem zt_aald {k r N a : Nat} {x : Int} (hX : zok X cc own d) (hd : decode cc pc = .ok (.aaload, 1)) (hp : pc + 1 = pc') (hn : k < n) (hk : zro k = r) (hs : zrs r = .inr (5, N)) (hN : N ≤ 2147483647) (h0 : 0 ≤ x ∧ x < (N : Int)) (ha : σ k x.toNat = (a : Int)) (kk : zZ X n cs ss σ pc' lv (.ref (X.1.1 + a) :: st)) : zZ X n cs ss σ pc lv (.int (zI x) :: .ref (X.1.1 + k) :: st) := by
  subst hp
  obtain ⟨E, p, l, e, R, s, m, args, below, meth, c0, Q, nL⟩ := X
  obtain ⟨hx, hb, hml, ho, ⟨w0, ht⟩, hlk, hK, hst, -⟩ := hX
  intro H locs ls hG hS hl
  have he : (zws E n σ)[k]? = some (E.1 + k, .inl (E.2.2 5, N, zarr E.1 5 (σ k))) := by rw [zws_at hn, zen_a hk hs]
  have h := kk H locs ls hG hS hl
  have e2 : va_rf (zrf E.1 (σ k (zI x).toNatClampNeg)) = .ref (E.1 + a) := by rw [zI_cl h0.1 (by omega)]; exact zrf_of ha
  refine va_aldq (C := "OnePane$Town") hx hb hK hG.2 k 5 he (ztys_at E (by decide)) (zI_in h0.1 h0.2 (by omega)) hd ?_
  rw [e2]
  exact h
theorem zt_iast {k r N : Nat} {x v : Int} (hX : zok X cc own d) (hd : decode cc pc = .ok (.iastore, 1)) (hp : pc + 1 = pc') (hn : k < n) (hk : zro k = r) (hs : zrs r = .inr (0, N)) (hN : N ≤ 2147483647) (h0 : 0 ≤ x ∧ x < (N : Int))  (kk : zZ X n cs ss (zset σ k x.toNat v) pc' lv st) : zZ X n cs ss σ pc lv (.int (zI v) :: .int (zI x) :: .ref (X.1.1 + k) :: st) := by
  subst hp
  obtain ⟨E, p, l, e, R, s, m, args, below, meth, c0, Q, nL⟩ := X
  obtain ⟨hx, hb, hml, ho, ⟨w0, ht⟩, hlk, hK, hst, -⟩ := hX
  intro H locs ls hG hS hl
  have he : (zws E n σ)[k]? = some (E.1 + k, .inl (E.2.2 0, N, zarr E.1 0 (σ k))) := by rw [zws_at hn, zen_a hk hs]
  have hc : H[E.1 + k]? = some (vp_cell (E.2.2 0) (N, .inl (fun j => zI (σ k j)))) := hG.2 k _ he
  refine W.iast hx hb hc ((hK.2 0 _ (ztys_at E (by decide))).1 N (fun j => .int (zI (σ k j)))) (fun q => by cases q) (by show ¬ (zI x < 0 ∨ (arrV _ _ _).slots.size ≤ _); rw [arrV_size]; exact zI_in h0.1 h0.2 (by omega)) rfl rfl hd fun H1 e1 z oq => ?_
  refine kk H1 _ ls (zG_put hG hn (zen_a hk hs) ?_ z oq) (hS.put z oq (Nat.le_add_right _ _)) hl
  show H1[E.1 + k]? = some (vp_cell (E.2.2 0) (N, .inl (fun j => zI (zset σ k x.toNat v k j))))
  rw [e1, zcell_i, zI_cl h0.1 (by omega), zup_i]
theorem zt_bast {k r N : Nat} {x v : Int} (hX : zok X cc own d) (hd : decode cc pc = .ok (.bastore, 1)) (hp : pc + 1 = pc') (hn : k < n) (hk : zro k = r) (hs : zrs r = .inr (1, N)) (hN : N ≤ 2147483647) (h0 : 0 ≤ x ∧ x < (N : Int)) (hr : -128 ≤ v ∧ v ≤ 127) (kk : zZ X n cs ss (zset σ k x.toNat v) pc' lv st) : zZ X n cs ss σ pc lv (.int (zI v) :: .int (zI x) :: .ref (X.1.1 + k) :: st) := by
  subst hp
  obtain ⟨E, p, l, e, R, s, m, args, below, meth, c0, Q, nL⟩ := X
  obtain ⟨hx, hb, hml, ho, ⟨w0, ht⟩, hlk, hK, hst, -⟩ := hX
  intro H locs ls hG hS hl
  have he : (zws E n σ)[k]? = some (E.1 + k, .inl (E.2.2 1, N, zarr E.1 1 (σ k))) := by rw [zws_at hn, zen_a hk hs]
  have hc : H[E.1 + k]? = some (vp_cell (E.2.2 1) (N, .inl (fun j => zI (σ k j)))) := hG.2 k _ he
  refine W.bast hx hb hc ((hK.2 1 _ (ztys_at E (by decide))).1 N (fun j => .int (zI (σ k j)))) (fun q => by cases q) (by show ¬ (zI x < 0 ∨ (arrV _ _ _).slots.size ≤ _); rw [arrV_size]; exact zI_in h0.1 h0.2 (by omega)) rfl rfl hd fun H1 e1 z oq => ?_
  refine kk H1 _ ls (zG_put hG hn (zen_a hk hs) ?_ z oq) (hS.put z oq (Nat.le_add_right _ _)) hl
  show H1[E.1 + k]? = some (vp_cell (E.2.2 1) (N, .inl (fun j => zI (zset σ k x.toNat v k j))))
  have en : narrow .byte (.int (zI v)) = .int (zI v) := by
    have := zn_b hr.1 hr.2
    unfold vp_nar at this
    split at this
    · rename_i z hz
      rw [hz, this]
    · rename_i hz
      exact absurd rfl (hz _)
  first
  | (rw [e1, zcell_i, zI_cl h0.1 (by omega), zup_i]; done)
  | (rw [e1]; simp only [en]; rw [zcell_i, zI_cl h0.1 (by omega), zup_i]; done)
  | (rw [e1, en, zcell_i, zI_cl h0.1 (by omega), zup_i]; done)
theorem zt_zast {k r N : Nat} {x v : Int} (hX : zok X cc own d) (hd : decode cc pc = .ok (.bastore, 1)) (hp : pc + 1 = pc') (hn : k < n) (hk : zro k = r) (hs : zrs r = .inr (2, N)) (hN : N ≤ 2147483647) (h0 : 0 ≤ x ∧ x < (N : Int)) (hr : 0 ≤ v ∧ v ≤ 1) (kk : zZ X n cs ss (zset σ k x.toNat v) pc' lv st) : zZ X n cs ss σ pc lv (.int (zI v) :: .int (zI x) :: .ref (X.1.1 + k) :: st) := by
  subst hp
  obtain ⟨E, p, l, e, R, s, m, args, below, meth, c0, Q, nL⟩ := X
  obtain ⟨hx, hb, hml, ho, ⟨w0, ht⟩, hlk, hK, hst, -⟩ := hX
  intro H locs ls hG hS hl
  have he : (zws E n σ)[k]? = some (E.1 + k, .inl (E.2.2 2, N, zarr E.1 2 (σ k))) := by rw [zws_at hn, zen_a hk hs]
  have hc : H[E.1 + k]? = some (vp_cell (E.2.2 2) (N, .inl (fun j => zI (σ k j)))) := hG.2 k _ he
  refine W.zast hx hb hc ((hK.2 2 _ (ztys_at E (by decide))).1 N (fun j => .int (zI (σ k j)))) (fun q => by cases q) (by show ¬ (zI x < 0 ∨ (arrV _ _ _).slots.size ≤ _); rw [arrV_size]; exact zI_in h0.1 h0.2 (by omega)) rfl rfl hd fun H1 e1 z oq => ?_
  refine kk H1 _ ls (zG_put hG hn (zen_a hk hs) ?_ z oq) (hS.put z oq (Nat.le_add_right _ _)) hl
  show H1[E.1 + k]? = some (vp_cell (E.2.2 2) (N, .inl (fun j => zI (zset σ k x.toNat v k j))))
  have en : narrow .boolean (.int (zI v)) = .int (zI v) := by
    have := zn_z hr.1 hr.2
    unfold vp_nar at this
    split at this
    · rename_i z hz
      rw [hz, this]
    · rename_i hz
      exact absurd rfl (hz _)
  first
  | (rw [e1, zcell_i, zI_cl h0.1 (by omega), zup_i]; done)
  | (rw [e1]; simp only [en]; rw [zcell_i, zI_cl h0.1 (by omega), zup_i]; done)
  | (rw [e1, en, zcell_i, zI_cl h0.1 (by omega), zup_i]; done)
theorem zt_cast {k r N : Nat} {x v : Int} (hX : zok X cc own d) (hd : decode cc pc = .ok (.castore, 1)) (hp : pc + 1 = pc') (hn : k < n) (hk : zro k = r) (hs : zrs r = .inr (3, N)) (hN : N ≤ 2147483647) (h0 : 0 ≤ x ∧ x < (N : Int)) (hr : vp_nar .char (zI v) = zI v) (kk : zZ X n cs ss (zset σ k x.toNat v) pc' lv st) : zZ X n cs ss σ pc lv (.int (zI v) :: .int (zI x) :: .ref (X.1.1 + k) :: st) := by
  subst hp
  obtain ⟨E, p, l, e, R, s, m, args, below, meth, c0, Q, nL⟩ := X
  obtain ⟨hx, hb, hml, ho, ⟨w0, ht⟩, hlk, hK, hst, -⟩ := hX
  intro H locs ls hG hS hl
  have he : (zws E n σ)[k]? = some (E.1 + k, .inl (E.2.2 3, N, zarr E.1 3 (σ k))) := by rw [zws_at hn, zen_a hk hs]
  have hc : H[E.1 + k]? = some (vp_cell (E.2.2 3) (N, .inl (fun j => zI (σ k j)))) := hG.2 k _ he
  refine W.cast hx hb hc ((hK.2 3 _ (ztys_at E (by decide))).1 N (fun j => .int (zI (σ k j)))) (fun q => by cases q) (by show ¬ (zI x < 0 ∨ (arrV _ _ _).slots.size ≤ _); rw [arrV_size]; exact zI_in h0.1 h0.2 (by omega)) rfl rfl hd fun H1 e1 z oq => ?_
  refine kk H1 _ ls (zG_put hG hn (zen_a hk hs) ?_ z oq) (hS.put z oq (Nat.le_add_right _ _)) hl
  show H1[E.1 + k]? = some (vp_cell (E.2.2 3) (N, .inl (fun j => zI (zset σ k x.toNat v k j))))
  have en : narrow .char (.int (zI v)) = .int (zI v) := by
    have := hr
    unfold vp_nar at this
    split at this
    · rename_i z hz
      rw [hz, this]
    · rename_i hz
      exact absurd rfl (hz _)
  first
  | (rw [e1, zcell_i, zI_cl h0.1 (by omega), zup_i]; done)
  | (rw [e1]; simp only [en]; rw [zcell_i, zI_cl h0.1 (by omega), zup_i]; done)
  | (rw [e1, en, zcell_i, zI_cl h0.1 (by omega), zup_i]; done)
theorem zt_last {k r N : Nat} {x v : Int} (hX : zok X cc own d) (hd : decode cc pc = .ok (.lastore, 1)) (hp : pc + 1 = pc') (hn : k < n) (hk : zro k = r) (hs : zrs r = .inr (4, N)) (hN : N ≤ 2147483647) (h0 : 0 ≤ x ∧ x < (N : Int)) (kk : zZ X n cs ss (zset σ k x.toNat v) pc' lv st) : zZ X n cs ss σ pc lv (.long (zJ v) :: .int (zI x) :: .ref (X.1.1 + k) :: st) := by
  subst hp
  obtain ⟨E, p, l, e, R, s, m, args, below, meth, c0, Q, nL⟩ := X
  obtain ⟨hx, hb, hml, ho, ⟨w0, ht⟩, hlk, hK, hst, -⟩ := hX
  intro H locs ls hG hS hl
  have he : (zws E n σ)[k]? = some (E.1 + k, .inl (E.2.2 4, N, zarr E.1 4 (σ k))) := by rw [zws_at hn, zen_a hk hs]
  have hc : H[E.1 + k]? = some (vp_cell (E.2.2 4) (N, .inr (.inl (fun j => zJ (σ k j))))) := hG.2 k _ he
  refine W.last hx hb hc ((hK.2 4 _ (ztys_at E (by decide))).1 N (fun j => .long (zJ (σ k j)))) (fun q => by cases q) (by show ¬ (zI x < 0 ∨ (arrV _ _ _).slots.size ≤ _); rw [arrV_size]; exact zI_in h0.1 h0.2 (by omega)) rfl rfl hd fun H1 e1 z oq => ?_
  refine kk H1 _ ls (zG_put hG hn (zen_a hk hs) ?_ z oq) (hS.put z oq (Nat.le_add_right _ _)) hl
  show H1[E.1 + k]? = some (vp_cell (E.2.2 4) (N, .inr (.inl (fun j => zJ (zset σ k x.toNat v k j)))))
  rw [e1, zcell_l, zI_cl h0.1 (by omega), zup_l]
theorem zt_alen {k r t N : Nat} (hX : zok X cc own d) (hd : decode cc pc = .ok (.arraylength, 1)) (hp : pc + 1 = pc') (hn : k < n) (hk : zro k = r) (hs : zrs r = .inr (t, N)) (ht6 : t < 6) (kk : zZ X n cs ss σ pc' lv (.int (zI (N : Int)) :: st)) : zZ X n cs ss σ pc lv (.ref (X.1.1 + k) :: st) := by
  subst hp
  obtain ⟨E, p, l, e, R, s, m, args, below, meth, c0, Q, nL⟩ := X
  obtain ⟨hx, hb, hml, ho, ⟨w0, ht⟩, hlk, hK, hst, -⟩ := hX
  intro H locs ls hG hS hl
  have he : (zws E n σ)[k]? = some (E.1 + k, .inl (E.2.2 t, N, zarr E.1 t (σ k))) := by rw [zws_at hn, zen_a hk hs]
  exact va_alen hx hb hK hG.2 k t he (ztys_at E ht6) (zI_ofNat N) hd (kk H locs ls hG hS hl)
end ZA
