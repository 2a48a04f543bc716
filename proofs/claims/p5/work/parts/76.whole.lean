/-! the law: two objects made, the loop, its end -/
set_option maxRecDepth 100000 in
theorem zsplit (k : Nat) (h : k < 34) : k = 0 ∨ k = 1 ∨ k = 2 ∨ k = 3 ∨ k = 4 ∨ k = 5 ∨ k = 6 ∨ k = 7 ∨ k = 8 ∨ k = 9 ∨ k = 10 ∨ k = 11 ∨ k = 12 ∨ k = 13 ∨ k = 14 ∨ k = 15 ∨ k = 16 ∨ k = 17 ∨ k = 18 ∨ k = 19 ∨ k = 20 ∨ k = 21 ∨ k = 22 ∨ k = 23 ∨ k = 24 ∨ k = 25 ∨ k = 26 ∨ k = 27 ∨ k = 28 ∨ k = 29 ∨ k = 30 ∨ k = 31 ∨ k = 32 ∨ k = 33 := by omega
theorem zt_lawret {X : zCX} {n cs ss : Nat} {σ : zSto} {lv : List (Option Value)} {b : Nat} (hX : zok X cL_law RL zLd) (hr : X.2.2.2.2.2.2.2.2.2.1.sig.returnType = ret) (hR : X.2.2.2.2.1 = room_1) (hag : X.2.2.2.2.2.2.2.1 = #[Value.ref b]) (hQ : X.2.2.2.2.2.2.2.2.2.2.2.1 = lw_Z X.2.2.2.2.2.2.2.2.1 #[Value.ref b] X.2.2.2.2.2.1) (hE : X.1.1 = X.2.2.2.2.2.1.heap.size) (hc : cs ≤ 600000) (hss : ss ≤ 7302250) : zZ X n cs ss σ 1073 lv [.int (zI 1)] := by
  obtain ⟨E, p, l, e, R, s, m, args, below, meth, c, Q, nL⟩ := X
  obtain ⟨hx, hb, -, -, -, hlo, -⟩ := hX
  replace hr : meth.sig.returnType = ret := hr
  replace hR : R = room_1 := hR
  replace hag : args = #[Value.ref b] := hag
  replace hQ : Q = lw_Z below #[Value.ref b] s := hQ
  replace hE : E.1 = s.heap.size := hE
  subst hR hag hQ
  intro H locs ls hG hS hl
  refine va_forget (fun q hq => by have h : E.1 ≤ q.base := hS.2.2 q hq; omega) ?_
  refine W.widen (k := 600000) (n := 7302250) hc hss ?_
  rw [show zI 1 = 1 by decide +kernel]
  exact lw_ret hx hb hr hlo dL_law_1073
set_option maxRecDepth 100000 in
set_option maxHeartbeats 4000000 in
theorem zloop {X : zCX} {cs ss b L : Nat} {xs : Nat → Int32} (hX : zok X cL_law RL zLd) (hs : va_X b L xs X.2.2.2.2.2.1 X.2.2.2.2.2.1.heap) (hbl : b < X.2.2.2.2.2.1.heap.size) (hE : X.1.1 = X.2.2.2.2.2.1.heap.size) (hL : L ≤ 3072) (hrc : cs ≤ X.2.2.2.2.1.cells) (hrs : ss ≤ X.2.2.2.2.1.slots) (hnL : X.2.2.2.2.2.2.2.2.2.2.2.2 = 4) (F : ∀ (s : zSto) (x : Int), zZ X zNC cs ss s 1072 [some (.ref b), some (.ref (X.1.1 + 0)), some (.ref (X.1.1 + 164)), some (.int (zI x))] []) :
    ∀ (N : Nat) (x : Int) (s : zSto), 0 ≤ x → x ≤ 4000 → zInv s → zWF s → s 164 54 = 0 → s 1 1 = s 164 1 → yTi s → yTz s → yFtq s → (4000 - x).toNat < N → zZ X zNC cs ss s 18 [some (.ref b), some (.ref (X.1.1 + 0)), some (.ref (X.1.1 + 164)), some (.int (zI x))] [] := by
  intro N
  induction N with
  | zero =>
    intro x s h0 hx hI hW hS hT hY hZ hG hm
    exact absurd hm (Nat.not_lt_zero _)
  | succ N ih =>
    intro x s h0 hx hI hW hS hT hY hZ hG hm
    refine zt_iload_n (pc' := 19) hX dL_law_18 rfl rfl ?_
    refine zt_aload_n (pc' := 20) hX dL_law_19 rfl rfl ?_
    refine zt_slenL (pc' := 21) hX hs hbl hE dL_law_20 rfl ?_
    refine zt_bipush (pc' := 23) hX dL_law_21 rfl (by decide) (by decide) ?_
    refine zt_isub (pc' := 24) hX dL_law_23 rfl ?_
    refine zt_icgt (pc' := 27) (tgt := 1072) hX dL_law_24 rfl (by decide) ⟨by omega, by omega⟩ ⟨by omega, by omega⟩ (fun c1 => ?_) (fun c1 => ?_)
    · exact F s x
    · have h6 : x + 6 ≤ (L : Int) := by omega
      have NX : ∀ s : zSto, zInv s → zWF s → s 164 54 = 0 → s 1 1 = s 164 1 → yTi s → yTz s → yFtq s → zZ X zNC cs ss s 1066 [some (.ref b), some (.ref (X.1.1 + 0)), some (.ref (X.1.1 + 164)), some (.int (zI x))] [] := by
        intro s hI hW hS hT hY hZ hG
        refine zt_iinc (pc' := 1069) (lv' := [some (.ref b), some (.ref (X.1.1 + 0)), some (.ref (X.1.1 + 164)), some (.int (zI (x + 6)))]) hX dL_law_1066 rfl rfl hnL (by decide) rfl ?_
        refine zt_goto (tgt := 18) hX dL_law_1069 (by decide) ?_
        exact ih (x + 6) s (by omega) (by omega) hI hW hS hT hY hZ hG (by omega)
      refine zt_aload_n (pc' := 28) hX dL_law_27 rfl rfl ?_
      refine zt_iload_n (pc' := 29) hX dL_law_28 rfl rfl ?_
      refine zt_sld (pc' := 30) hX hs hbl hE dL_law_29 rfl hL ⟨by omega, by omega⟩ (fun v0 ev0 lv0 uv0 => ?_)
      clear ev0
      refine zt_bipush (pc' := 32) hX dL_law_30 rfl (by decide) (by decide) ?_
      refine zt_iandm (pc' := 33) hX dL_law_32 rfl 6 (by decide +kernel) (by decide) (fun v ev lov uv => ?_)
      clear ev
      have uv : v < 64 := Int.lt_of_lt_of_le uv (by decide)
      obtain ⟨k, rfl⟩ := Int.eq_ofNat_of_zero_le lov
      by_cases hv : k < 34
      · rcases zsplit k hv with rfl | rfl | rfl | rfl | rfl | rfl | rfl | rfl | rfl | rfl | rfl | rfl | rfl | rfl | rfl | rfl | rfl | rfl | rfl | rfl | rfl | rfl | rfl | rfl | rfl | rfl | rfl | rfl | rfl | rfl | rfl | rfl | rfl | rfl
        · refine zt_tsIn (v := 0) (off := 151) (tgt := 184) hX dL_law_33 rfl (by decide) (by decide) (by decide) (by decide +kernel) (by decide) ?_
          exact zl_0 hX hs hbl hE hL h0 h6 hrc hrs hI hW hS hT hY hZ hG NX
        · refine zt_tsIn (v := 1) (off := 214) (tgt := 247) hX dL_law_33 rfl (by decide) (by decide) (by decide) (by decide +kernel) (by decide) ?_
          exact zl_1 hX hs hbl hE hL h0 h6 hrc hrs hI hW hS hT hY hZ hG NX
        · refine zt_tsIn (v := 2) (off := 237) (tgt := 270) hX dL_law_33 rfl (by decide) (by decide) (by decide) (by decide +kernel) (by decide) ?_
          exact zl_2 hX hs hbl hE hL h0 h6 hrc hrs hI hW hS hT hY hZ hG NX
        · refine zt_tsIn (v := 3) (off := 250) (tgt := 283) hX dL_law_33 rfl (by decide) (by decide) (by decide) (by decide +kernel) (by decide) ?_
          exact zl_3 hX hs hbl hE hL h0 h6 hrc hrs hI hW hS hT hY hZ hG NX
        · refine zt_tsIn (v := 4) (off := 273) (tgt := 306) hX dL_law_33 rfl (by decide) (by decide) (by decide) (by decide +kernel) (by decide) ?_
          exact zl_4 hX hs hbl hE hL h0 h6 hrc hrs hI hW hS hT hY hZ hG NX
        · refine zt_tsIn (v := 5) (off := 296) (tgt := 329) hX dL_law_33 rfl (by decide) (by decide) (by decide) (by decide +kernel) (by decide) ?_
          exact zl_5 hX hs hbl hE hL h0 h6 hrc hrs hI hW hS hT hY hZ hG NX
        · refine zt_tsIn (v := 6) (off := 329) (tgt := 362) hX dL_law_33 rfl (by decide) (by decide) (by decide) (by decide +kernel) (by decide) ?_
          exact zl_6 hX hs hbl hE hL h0 h6 hrc hrs hI hW hS hT hY hZ hG NX
        · refine zt_tsIn (v := 7) (off := 372) (tgt := 405) hX dL_law_33 rfl (by decide) (by decide) (by decide) (by decide +kernel) (by decide) ?_
          exact zl_7 hX hs hbl hE hL h0 h6 hrc hrs hI hW hS hT hY hZ hG NX
        · refine zt_tsIn (v := 8) (off := 405) (tgt := 438) hX dL_law_33 rfl (by decide) (by decide) (by decide) (by decide +kernel) (by decide) ?_
          exact zl_8 hX hs hbl hE hL h0 h6 hrc hrs hI hW hS hT hY hZ hG NX
        · refine zt_tsIn (v := 9) (off := 438) (tgt := 471) hX dL_law_33 rfl (by decide) (by decide) (by decide) (by decide +kernel) (by decide) ?_
          exact zl_9 hX hs hbl hE hL h0 h6 hrc hrs hI hW hS hT hY hZ hG NX
        · refine zt_tsIn (v := 10) (off := 481) (tgt := 514) hX dL_law_33 rfl (by decide) (by decide) (by decide) (by decide +kernel) (by decide) ?_
          exact zl_10 hX hs hbl hE hL h0 h6 hrc hrs hI hW hS hT hY hZ hG NX
        · refine zt_tsIn (v := 11) (off := 514) (tgt := 547) hX dL_law_33 rfl (by decide) (by decide) (by decide) (by decide +kernel) (by decide) ?_
          exact zl_11 hX hs hbl hE hL h0 h6 hrc hrs hI hW hS hT hY hZ hG NX
        · refine zt_tsIn (v := 12) (off := 547) (tgt := 580) hX dL_law_33 rfl (by decide) (by decide) (by decide) (by decide +kernel) (by decide) ?_
          exact zl_12 hX hs hbl hE hL h0 h6 hrc hrs hI hW hS hT hY hZ hG NX
        · refine zt_tsIn (v := 13) (off := 560) (tgt := 593) hX dL_law_33 rfl (by decide) (by decide) (by decide) (by decide +kernel) (by decide) ?_
          exact zl_13 hX hs hbl hE hL h0 h6 hrc hrs hI hW hS hT hY hZ hG NX
        · refine zt_tsIn (v := 14) (off := 583) (tgt := 616) hX dL_law_33 rfl (by decide) (by decide) (by decide) (by decide +kernel) (by decide) ?_
          exact zl_14 hX hs hbl hE hL h0 h6 hrc hrs hI hW hS hT hY hZ hG NX
        · refine zt_tsIn (v := 15) (off := 596) (tgt := 629) hX dL_law_33 rfl (by decide) (by decide) (by decide) (by decide +kernel) (by decide) ?_
          exact zl_15 hX hs hbl hE hL h0 h6 hrc hrs hI hW hS hT hY hZ hG NX
        · refine zt_tsIn (v := 16) (off := 609) (tgt := 642) hX dL_law_33 rfl (by decide) (by decide) (by decide) (by decide +kernel) (by decide) ?_
          exact zl_16 hX hs hbl hE hL h0 h6 hrc hrs hI hW hS hT hY hZ hG NX
        · refine zt_tsIn (v := 17) (off := 642) (tgt := 675) hX dL_law_33 rfl (by decide) (by decide) (by decide) (by decide +kernel) (by decide) ?_
          exact zl_17 hX hs hbl hE hL h0 h6 hrc hrs hI hW hS hT hY hZ hG NX
        · refine zt_tsIn (v := 18) (off := 665) (tgt := 698) hX dL_law_33 rfl (by decide) (by decide) (by decide) (by decide +kernel) (by decide) ?_
          exact zl_18 hX hs hbl hE hL h0 h6 hrc hrs hI hW hS hT hY hZ hG NX
        · refine zt_tsIn (v := 19) (off := 698) (tgt := 731) hX dL_law_33 rfl (by decide) (by decide) (by decide) (by decide +kernel) (by decide) ?_
          exact zl_19 hX hs hbl hE hL h0 h6 hrc hrs hI hW hS hT hY hZ hG NX
        · refine zt_tsIn (v := 20) (off := 711) (tgt := 744) hX dL_law_33 rfl (by decide) (by decide) (by decide) (by decide +kernel) (by decide) ?_
          exact zl_20 hX hs hbl hE hL h0 h6 hrc hrs hI hW hS hT hY hZ hG NX
        · refine zt_tsIn (v := 21) (off := 734) (tgt := 767) hX dL_law_33 rfl (by decide) (by decide) (by decide) (by decide +kernel) (by decide) ?_
          exact zl_21 hX hs hbl hE hL h0 h6 hrc hrs hI hW hS hT hY hZ hG NX
        · refine zt_tsIn (v := 22) (off := 757) (tgt := 790) hX dL_law_33 rfl (by decide) (by decide) (by decide) (by decide +kernel) (by decide) ?_
          exact zl_22 hX hs hbl hE hL h0 h6 hrc hrs hI hW hS hT hY hZ hG NX
        · refine zt_tsIn (v := 23) (off := 790) (tgt := 823) hX dL_law_33 rfl (by decide) (by decide) (by decide) (by decide +kernel) (by decide) ?_
          exact zl_23 hX hs hbl hE hL h0 h6 hrc hrs hI hW hS hT hY hZ hG NX
        · refine zt_tsIn (v := 24) (off := 833) (tgt := 866) hX dL_law_33 rfl (by decide) (by decide) (by decide) (by decide +kernel) (by decide) ?_
          exact zl_24 hX hs hbl hE hL h0 h6 hrc hrs hI hW hS hT hY hZ hG NX
        · refine zt_tsIn (v := 25) (off := 866) (tgt := 899) hX dL_law_33 rfl (by decide) (by decide) (by decide) (by decide +kernel) (by decide) ?_
          exact zl_25 hX hs hbl hE hL h0 h6 hrc hrs hI hW hS hT hY hZ hG NX
        · refine zt_tsIn (v := 26) (off := 889) (tgt := 922) hX dL_law_33 rfl (by decide) (by decide) (by decide) (by decide +kernel) (by decide) ?_
          exact zl_26 hX hs hbl hE hL h0 h6 hrc hrs hI hW hS hT hY hZ hG NX
        · refine zt_tsIn (v := 27) (off := 912) (tgt := 945) hX dL_law_33 rfl (by decide) (by decide) (by decide) (by decide +kernel) (by decide) ?_
          exact zl_27 hX hs hbl hE hL h0 h6 hrc hrs hI hW hS hT hY hZ hG NX
        · refine zt_tsIn (v := 28) (off := 925) (tgt := 958) hX dL_law_33 rfl (by decide) (by decide) (by decide) (by decide +kernel) (by decide) ?_
          exact zl_28 hX hs hbl hE hL h0 h6 hrc hrs hI hW hS hT hY hZ hG NX
        · refine zt_tsIn (v := 29) (off := 948) (tgt := 981) hX dL_law_33 rfl (by decide) (by decide) (by decide) (by decide +kernel) (by decide) ?_
          exact zl_29 hX hs hbl hE hL h0 h6 hrc hrs hI hW hS hT hY hZ hG NX
        · refine zt_tsIn (v := 30) (off := 961) (tgt := 994) hX dL_law_33 rfl (by decide) (by decide) (by decide) (by decide +kernel) (by decide) ?_
          exact zl_30 hX hs hbl hE hL h0 h6 hrc hrs hI hW hS hT hY hZ hG NX
        · refine zt_tsIn (v := 31) (off := 974) (tgt := 1007) hX dL_law_33 rfl (by decide) (by decide) (by decide) (by decide +kernel) (by decide) ?_
          exact zl_31 hX hs hbl hE hL h0 h6 hrc hrs hI hW hS hT hY hZ hG NX
        · refine zt_tsIn (v := 32) (off := 997) (tgt := 1030) hX dL_law_33 rfl (by decide) (by decide) (by decide) (by decide +kernel) (by decide) ?_
          exact zl_32 hX hs hbl hE hL h0 h6 hrc hrs hI hW hS hT hY hZ hG NX
        · refine zt_tsIn (v := 33) (off := 1010) (tgt := 1043) hX dL_law_33 rfl (by decide) (by decide) (by decide) (by decide +kernel) (by decide) ?_
          exact zl_33 hX hs hbl hE hL h0 h6 hrc hrs hI hW hS hT hY hZ hG NX
      · refine zt_tsOut (tgt := 1066) hX dL_law_33 ⟨by omega, by omega⟩ (Or.inr (by omega)) (by decide) ?_
        exact NX s hI hW hS hT hY hZ hG
set_option maxRecDepth 100000 in
set_option maxHeartbeats 4000000 in
theorem zstart {X : zCX} {z : zST} {b L : Nat} {xs : Nat → Int32} (hX : zok X cL_law RL zLd) (hxs : zxs X.1 z X.2.2.2.2.2.1) (hz : yzs z) (hs : va_X b L xs X.2.2.2.2.2.1 X.2.2.2.2.2.1.heap) (hbl : b < X.2.2.2.2.2.1.heap.size) (hE : X.1.1 = X.2.2.2.2.2.1.heap.size) (hL : L ≤ 3072) (hnL : X.2.2.2.2.2.2.2.2.2.2.2.2 = 4) (hr : X.2.2.2.2.2.2.2.2.2.1.sig.returnType = ret) (hR : X.2.2.2.2.1 = room_1) (hag : X.2.2.2.2.2.2.2.1 = #[Value.ref b]) (hQ : X.2.2.2.2.2.2.2.2.2.2.2.1 = lw_Z X.2.2.2.2.2.2.2.2.1 #[Value.ref b] X.2.2.2.2.2.1) : zZ X 0 0 0 zdef 0 [some (.ref b), none, none, none] [] := by
  have hD0 : zDf zdef 0 := fun a _ => rfl
  refine zt_new (pc' := 3) (c := 11) (q := (RX11, TX11, 17)) hX dL_law_0 rfl rfl zw_1_0 zw_1_1 zw_1_2 (by decide) zc_0 zs_1 (by decide) rfl ⟨by rw [hR]; exact Nat.le_of_ble_eq_true rfl, by rw [hR]; exact Nat.le_of_ble_eq_true rfl⟩ ?_
  refine zt_dup (pc' := 4) hX dL_law_3 rfl rfl ?_
  refine zt_callI2 (pc' := 7) (As := []) (k := 0) (rest := [.ref (X.1.1 + 0)]) hX hxs (zn_X11 _ _ z zdef zIR_def hD0 hz) zm_yX11_init dL_law_4 rfl zw_1_6 rfl rfl (Nat.le_of_ble_eq_true rfl) (by decide) ⟨by rw [hR]; exact Nat.le_of_ble_eq_true rfl, by rw [hR]; exact Nat.le_of_ble_eq_true rfl⟩ (fun _ s1 hp1 => ?_)
  obtain ⟨hp1, hx1, hy1, hn1, ha1, hb1, hf1, hg1⟩ := hp1
  refine zt_astore_n (pc' := 8) (lv' := [some (.ref b), some (.ref (X.1.1 + 0)), none, none]) hX dL_law_7 rfl hnL (by decide) rfl ?_
  refine zt_new (pc' := 11) (c := 12) (q := (RX12, TX12, 108)) hX dL_law_8 rfl rfl zw_1_3 zw_1_4 zw_1_5 (by decide) zc_164 zs_46 (by decide) (hp1.2.1 164 (Nat.le_refl _)) ⟨by rw [hR]; exact Nat.le_of_ble_eq_true rfl, by rw [hR]; exact Nat.le_of_ble_eq_true rfl⟩ ?_
  refine zt_dup (pc' := 12) hX dL_law_11 rfl rfl ?_
  refine zt_callI (pc' := 15) (As := []) (k := 164) (rest := [.ref (X.1.1 + 164)]) hX (zn_X12 _ _ s1 hp1.1 hp1.2.1) zm_yX12_init dL_law_12 rfl zw_10_12 rfl rfl (Nat.le_of_ble_eq_true rfl) (by decide) ⟨by rw [hR]; exact Nat.le_of_ble_eq_true rfl, by rw [hR]; exact Nat.le_of_ble_eq_true rfl⟩ (fun _ s2 hp2 => ?_)
  refine zt_astore_n (pc' := 16) (lv' := [some (.ref b), some (.ref (X.1.1 + 0)), some (.ref (X.1.1 + 164)), none]) hX dL_law_15 rfl hnL (by decide) rfl ?_
  refine zt_iconst (pc' := 17) hX dL_law_16 rfl ?_
  refine zt_istore_n (pc' := 18) (lv' := [some (.ref b), some (.ref (X.1.1 + 0)), some (.ref (X.1.1 + 164)), some (.int (zI 0))]) hX dL_law_17 rfl hnL (by decide) rfl ?_
  obtain ⟨hp2, t1, t2, t3, t4, t5, t6, t7, t8, t9⟩ := hp2
  have hI : zInv s2 := zInv_of (fun a h1 h2 j => by
    rcases Nat.lt_or_ge a 164 with g | g
    · rw [hp2.2.2.1 a g]
      exact hp1.2.2.2 a h1 g j
    · exact hp2.2.2.2 a g h2 j)
  have hW : zWF s2 := ⟨Or.inl t1, Or.inl t2, fun h => by rw [t3] at h; exact absurd h (by decide)⟩
  refine zloop hX hs hbl hE hL (by rw [hR]; exact Nat.le_of_ble_eq_true rfl) (by rw [hR]; exact Nat.le_of_ble_eq_true rfl) hnL (fun s x => ?_) 4001 0 s2 (by decide) (by decide) hI hW t4 ((congrFun (hp2.2.2.1 1 (by decide)) 1).trans (hx1.trans t5.symm)) ⟨fun i hi => (congrFun (hp2.2.2.1 28 (by decide)) i).trans (hy1 i hi), t6, fun j hj => absurd hj (by omega)⟩ (Or.inl ⟨(congrFun (hp2.2.2.1 0 (by decide)) 3).trans ha1, (congrFun (hp2.2.2.1 0 (by decide)) 4).trans hb1, (congrFun (hp2.2.2.1 7 (by decide)) 10).trans (hn1.1.trans t7.1.symm), (congrFun (hp2.2.2.1 7 (by decide)) 11).trans (hn1.2.1.trans t7.2.1.symm), (congrFun (hp2.2.2.1 7 (by decide)) 12).trans (hn1.2.2.trans t7.2.2.symm), Or.inr ⟨t3, t7.1, t7.2.1, t7.2.2⟩⟩) ⟨(congrFun (hp2.2.2.1 0 (by decide)) 15).trans (hf1.trans t8.symm), (congrFun (hp2.2.2.1 0 (by decide)) 16).trans (hg1.trans t9.symm)⟩ (by decide)
  refine zt_iconst (pc' := 1073) hX dL_law_1072 rfl ?_
  exact zt_lawret hX hr hR hag hQ hE (Nat.le_of_ble_eq_true rfl) (Nat.le_of_ble_eq_true rfl)
/-- from the entry, for every script of at most 3072 ints, the law comes to its end with true -/
theorem whole_start {p : Program} {e : Env} {s : State} {m : MethodId} {below : List Frame} {meth : Method} {c : Code} (l : Launch) {b L : Nat} {xs : Nat → Int32} (hL : L ≤ 3072) (C0 : lw_At p s m meth c b L xs) : W p l e room_1 s m #[Value.ref b] below meth c s.heap [] 0 0 (lw_Z below #[Value.ref b] s) (entryFrame m ([Value.ref b] : List Value).toArray 4) := by
  obtain ⟨hx, hb, hr, hml, hown, hts, hXs, hbl, hlocks, hgv⟩ := id C0
  have htw : ∀ w ∈ wsL_law, w.before #[Value.ref b] s = true := fun w h => hts w (zin_all w h)
  obtain ⟨D, hD⟩ := zknow htw
  obtain ⟨f, hf⟩ := zarr6 htw (hts _ zib_16)
  have hE : ((s.heap.size, D, f) : zEN).1 = s.heap.size := rfl
  have hst := zst_of (E := (s.heap.size, D, f)) hE hts hgv
  obtain ⟨z, hxs, hz⟩ := zxs_of (E := (s.heap.size, D, f)) hE hts hgv
  have hX : zok ((s.heap.size, D, f), p, l, e, room_1, s, m, #[Value.ref b], below, meth, c, lw_Z below #[Value.ref b] s, 4) cL_law RL zLd := ⟨hx, hb, hml, hown, ⟨_, List.forall_mem_cons.mpr ⟨htw _ zw_1_2, htw⟩⟩, hlocks, ⟨hD, hf⟩, hst, by decide, by decide⟩
  have hZ := zstart (z := z) hX hxs hz hXs hbl hE hL rfl hr rfl rfl rfl
  have hl := lv_entry ([.ref b]) (n := 4) (Nat.le_of_ble_eq_true rfl)
  rw [lg_entry_eq]
  refine hZ s.heap [] _ ⟨Or.inr rfl, fun k q h => by simp [zws] at h⟩ va_S.rf (zlv_of hl fun i v h => ?_)
  match i, h with
  | 0, h => cases h; exact List.mem_cons_self
  | 1, h => cases h
  | 2, h => cases h
  | 3, h => cases h
  | i + 4, h => simp at h
