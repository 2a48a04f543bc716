/-! rows that read and write the store -/
theorem znf_of {c : Nat} {q : vw_C} (h : zcl[c]? = some q) : znf c = q.2.2 := by unfold znf; rw [h]; rfl
theorem zfs_at {E : zEN} {σ : zSto} {k c N j : Nat} (hj : j < N) : ((List.range N).map (fun i => zfv E.1 (zft c i) (σ k i)))[j]? = some (zfv E.1 (zft c j) (σ k j)) := by
  rw [List.getElem?_map, List.getElem?_range hj]
  rfl
theorem zfs_set {E : zEN} {σ : zSto} {k c N j : Nat} {x : Int} : (List.range N).map (fun i => zfv E.1 (zft c i) (zset σ k j x k i)) = ((List.range N).map (fun i => zfv E.1 (zft c i) (σ k i))).set j (zfv E.1 (zft c j) x) := by
  apply List.ext_getElem?
  intro i
  by_cases hi : i < N
  · by_cases hij : j = i
    · subst hij
      rw [List.getElem?_set_self (by simpa using hi), List.getElem?_map, List.getElem?_range hi]
      simp [zset_s]
    · rw [List.getElem?_set_ne hij, List.getElem?_map, List.getElem?_range hi, List.getElem?_map, List.getElem?_range hi]
      simp [zset_j (fun q => hij q.symm)]
  · rw [List.getElem?_eq_none (by simpa using Nat.le_of_not_lt hi), List.getElem?_eq_none (by simpa using Nat.le_of_not_lt hi)]
theorem ztys_at (E : zEN) {t : Nat} (ht : t < 6) : (ztys E)[t]? = some (E.2.2 t, zty t) := by
  unfold ztys
  rw [List.getElem?_map, List.getElem?_range ht]
  rfl
theorem zG_put {E : zEN} {n k j : Nat} {σ : zSto} {x : Int} {e : va_E} {H H1 : Heap} (hG : zG E n σ H) (hk : k < n) (he : zen E (zset σ k j x) k = e) (ha : va_at E.2.1 zcl (E.1 + k, e) H1) (hz : H1.size = H.size) (oq : ∀ q : Nat, q ≠ E.1 + k → H1[q]? = H[q]?) : zG E n (zset σ k j x) H1 := by
  refine ⟨hG.1.imp (fun h => h) (fun h => hz.trans h), ?_⟩
  rw [← zws_set hk he]
  exact hG.2.set (zws_D E n σ) (zws_at hk) ha oq
section ZR
variable {X : zCX} {cc : ByteArray} {own : String} {d n cs ss pc pc' : Nat} {σ : zSto} {lv : List (Option Value)} {st : List Value}
theorem zt_get {idx k c j r : Nat} {v : Value} (hX : zok X cc own d) (hd : decode cc pc = .ok (.getfield idx, 3)) (hp : pc + 3 = pc') (hf : zFL own idx c j) (hn : k < n) (hk : zro k = r) (hs : zrs r = .inl c) (hv : zfv X.1.1 (zft c j) (σ k j) = v) (kk : zZ X n cs ss σ pc' lv (v :: st)) : zZ X n cs ss σ pc lv (.ref (X.1.1 + k) :: st) := by
  subst hp
  obtain ⟨E, p, l, e, R, s, m, args, below, meth, c0, Q, nL⟩ := X
  obtain ⟨hx, hb, hml, ho, ⟨w0, ht⟩, hlk, hK, hst, -⟩ := hX
  obtain ⟨q, hq, hj, hw⟩ := hf
  intro H locs ls hG hS hl
  have he : (zws E n σ)[k]? = some (E.1 + k, .inr (c, (List.range (znf c)).map (fun j => zfv E.1 (zft c j) (σ k j)))) := by rw [zws_at hn, zen_o hk hs]
  exact va_get (D := E.2.1) (ci := c) (v := v) (C := q.1) (T := q.2.1) (N := q.2.2) (ref := (q.2.1 j).1) hx hb ht (fun w h => List.mem_cons_of_mem _ (zw_cl hq w h)) ho hK hG.2 k he hq j hj (ht _ (List.mem_cons_of_mem _ hw)) (fun _ h => h) (by rw [zfs_at (by rw [znf_of hq]; exact hj)]; exact congrArg some hv) hd (kk H locs ls hG hS hl)
theorem zt_put {idx k c j r : Nat} {x : Int} {v : Value} (hX : zok X cc own d) (hd : decode cc pc = .ok (.putfield idx, 3)) (hp : pc + 3 = pc') (hf : zFL own idx c j) (hn : k < n) (hk : zro k = r) (hs : zrs r = .inl c) (hfin : ∀ q : vw_C, zcl[c]? = some q → (q.2.1 j).2.2.2 = false) (hv : zfv X.1.1 (zft c j) x = v) (hna : narrow (zft c j) v = v) (hfi : fits (zft c j) v = true)
    (kk : zZ X n cs ss (zset σ k j x) pc' lv st) : zZ X n cs ss σ pc lv (v :: .ref (X.1.1 + k) :: st) := by
  subst hp
  obtain ⟨E, p, l, e, R, s, m, args, below, meth, c0, Q, nL⟩ := X
  obtain ⟨hx, hb, hml, ho, ⟨w0, ht⟩, hlk, hK, hst, -⟩ := hX
  obtain ⟨q, hq, hj, hw⟩ := hf
  subst hv
  intro H locs ls hG hS hl
  have hts : ∀ w ∈ u_ws q.1 q.2.1 q.2.2, w ∈ w0 :: wsL_law := fun w h => List.mem_cons_of_mem _ (zw_cl hq w h)
  have he : (zws E n σ)[k]? = some (E.1 + k, .inr (c, (List.range (znf c)).map (fun j => zfv E.1 (zft c j) (σ k j)))) := by rw [zws_at hn, zen_o hk hs]
  have hap := va_apart (own := own) (C := q.1) (T := q.2.1) (N := q.2.2) ht hts (zft c) (zty_ok hq) (znm_ok hq) hK hq
  obtain ⟨r1, h1, cell, q1, q2, q3, q4⟩ := hG.2 k _ he
  have hr : r1 = q := Option.some.inj (h1.symm.trans hq)
  subst hr
  obtain ⟨hSl, hfc, kC, hkC, hkind⟩ := hK.1 c _ hq
  obtain ⟨cf, kf, fi, f, hi, hsl⟩ := hSl j hj
  have hlay := ht _ (hts _ (u_in_lay hj))
  unfold u_lay at hlay
  rw [if_neg (by rw [hfin r1 hq]; decide)] at hlay
  have hsf := (u_facts hfc hkC (u_lays ht hts hj) hi).1
  have h6 := u_store hfc hkC hkind hlay hi (zty_ok hq j hj) hna hfi
  refine W.putK hx hb (f := f) ⟨ho, ht _ (List.mem_cons_of_mem _ hw), ⟨_, _, _, hi⟩, hsf⟩ (by rw [q2]; exact h6) q1 q3 (by rw [hsl]; exact k2_hasslot (q4 j hj)) rfl rfl hd fun H' e1 e2 e3 => ?_
  rw [hsl] at e1 ⊢
  refine kk H' _ ls (zG_put hG hn ?_ (e := .inr (c, ((List.range (znf c)).map (fun j => zfv E.1 (zft c j) (σ k j))).set j (zfv E.1 (zft c j) x))) ?_ e2 e3) (hS.put e2 e3 (Nat.le_add_right _ _)) hl
  · rw [zen_o hk hs, zfs_set]
  · exact ⟨_, hq, t_OB.to (V := updV (vp_V ((List.range (znf c)).map (fun j => zfv E.1 (zft c j) (σ k j)))) j (zfv E.1 (zft c j) x)) ⟨_, e1, q2, q3, t_set q4 hap hj _⟩ (fun i _ => vp_updV_set (by simpa [znf_of hq] using hj) _ i)⟩
theorem zt_putF {idx k c j r : Nat} {x : Int} {v : Value} (hX : zok X cc own d) (hd : decode cc pc = .ok (.putfield idx, 3)) (hp : pc + 3 = pc') (hin2 : X.2.2.2.2.2.2.2.2.2.1.name = "<init>") (hf : zFL own idx c j) (hn : k < n) (hk : zro k = r) (hs : zrs r = .inl c) (hfin : ∀ q : vw_C, zcl[c]? = some q → (q.2.1 j).2.2.2 = true ∧ (q.2.1 j).1 = own) (hv : zfv X.1.1 (zft c j) x = v) (hna : narrow (zft c j) v = v) (hfi : fits (zft c j) v = true)
    (kk : zZ X n cs ss (zset σ k j x) pc' lv st) : zZ X n cs ss σ pc lv (v :: .ref (X.1.1 + k) :: st) := by
  subst hp
  obtain ⟨E, p, l, e, R, s, m, args, below, meth, c0, Q, nL⟩ := X
  obtain ⟨hx, hb, hml, ho, ⟨w0, ht⟩, hlk, hK, hst, -⟩ := hX
  obtain ⟨q, hq, hj, hw⟩ := hf
  subst hv
  intro H locs ls hG hS hl
  have hts : ∀ w ∈ u_ws q.1 q.2.1 q.2.2, w ∈ w0 :: wsL_law := fun w h => List.mem_cons_of_mem _ (zw_cl hq w h)
  have he : (zws E n σ)[k]? = some (E.1 + k, .inr (c, (List.range (znf c)).map (fun j => zfv E.1 (zft c j) (σ k j)))) := by rw [zws_at hn, zen_o hk hs]
  have hap := va_apart (own := own) (C := q.1) (T := q.2.1) (N := q.2.2) ht hts (zft c) (zty_ok hq) (znm_ok hq) hK hq
  obtain ⟨r1, h1, cell, q1, q2, q3, q4⟩ := hG.2 k _ he
  have hr : r1 = q := Option.some.inj (h1.symm.trans hq)
  subst hr
  obtain ⟨hSl, hfc, kC, hkC, hkind⟩ := hK.1 c _ hq
  obtain ⟨cf, kf, fi, f, hi, hsl⟩ := hSl j hj
  have hlay := ht _ (hts _ (u_in_lay hj))
  unfold u_lay at hlay
  rw [if_pos (hfin r1 hq).1] at hlay
  have hsf := (u_facts hfc hkC (u_lays ht hts hj) hi).1
  have hcf : m.cls = cf := by
    obtain ⟨_, _, c', _, _, _, -, -, hf', -, -, -, hown2, -⟩ := Cond.laysFinal_spec hlay
    have e1 : c' = cf := by have := hi.symm.trans hf'; simp at this; exact this.1.symm
    rw [(hfin r1 hq).2] at hown2
    rw [← e1]; exact Option.some.inj (ho.symm.trans hown2)
  have h6 := u_fits hfc hkC hkind (Or.inr hlay) hi (zty_ok hq j hj) hna hfi
  refine W.putFinK hx hb ho (ht _ (List.mem_cons_of_mem _ hw)) hi hsf hcf hin2 (by rw [q2]; exact h6) q1 q3 (by rw [hsl]; exact k2_hasslot (q4 j hj)) rfl rfl hd fun H' e1 e2 e3 => ?_
  rw [hsl] at e1 ⊢
  refine kk H' _ ls (zG_put hG hn ?_ (e := .inr (c, ((List.range (znf c)).map (fun j => zfv E.1 (zft c j) (σ k j))).set j (zfv E.1 (zft c j) x))) ?_ e2 e3) (hS.put e2 e3 (Nat.le_add_right _ _)) hl
  · rw [zen_o hk hs, zfs_set]
  · exact ⟨_, hq, t_OB.to (V := updV (vp_V ((List.range (znf c)).map (fun j => zfv E.1 (zft c j) (σ k j)))) j (zfv E.1 (zft c j) x)) ⟨_, e1, q2, q3, t_set q4 hap hj _⟩ (fun i _ => vp_updV_set (by simpa [znf_of hq] using hj) _ i)⟩
end ZR
