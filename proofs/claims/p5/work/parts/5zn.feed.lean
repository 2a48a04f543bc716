set_option maxRecDepth 100000 in
set_option maxHeartbeats 4000000 in
theorem yc_X9_addByte (l : Launch) (E : zEN) (σ : zSto) (hI : zInv σ) (a1_ : Int) (ha1_ : -2147483648 ≤ a1_ ∧ a1_ ≤ 2147483647) (hpre0 : σ 1 1 ≤ 1599) : zCt l E yX9_addByte cX9_addByte 2 none 0 zNC zNC 0 0 σ [.ref (E.1 + 1), .int (zI a1_)] (fun r σ' => zInv σ' ∧ zOn zF1 σ σ' ∧ (yB1 σ σ' a1_)) := by
  refine zCt_of2 [some (.ref (E.1 + 1)), some (.int (zI a1_))] (by decide +kernel) (Nat.le_of_ble_eq_true rfl) rfl ?_
  intro X hE_ hX hR hL hN
  subst hE_
  have hX : zok X cX9_addByte RX9 0 := hX
  have hF := zOn_rf zF1 σ
  have b1 := zv_2_1 hI zc_1
  refine zt_aload_n (pc' := 1) hX dX9_addByte_0 rfl rfl ?_
  have b2 := zv_2_1 hI zc_1
  refine zt_get (pc' := 4) (v := .int (zI (σ 1 1))) hX dX9_addByte_1 rfl zf_X9_9 (by decide) zc_1 zs_2 rfl ?_
  refine zt_aload_n (pc' := 5) hX dX9_addByte_4 rfl rfl ?_
  refine zt_get (pc' := 8) (v := .ref (X.1.1 + 2)) hX dX9_addByte_5 rfl zf_X9_15 (by decide) zc_1 zs_2 (zrf_of (zv_2_0 hI zc_1)) ?_
  refine zt_alen (pc' := 9) hX dX9_addByte_8 rfl (by decide) zc_2 zs_3 (by decide) ?_
  rw [show ((1600 : Nat) : Int) = 1600 from rfl]
  refine zt_icge (pc' := 12) (tgt := 33) hX dX9_addByte_9 rfl (by decide) ⟨by omega, by omega⟩ ⟨by omega, by omega⟩ (fun c3 => ?_) (fun c3 => ?_)
  · exact zt_vret hX hR dX9_addByte_33 ⟨hI, hF, (by exfalso; omega)⟩
  · refine zt_aload_n (pc' := 13) hX dX9_addByte_12 rfl rfl ?_
    refine zt_get (pc' := 16) (v := .ref (X.1.1 + 2)) hX dX9_addByte_13 rfl zf_X9_15 (by decide) zc_1 zs_2 (zrf_of (zv_2_0 hI zc_1)) ?_
    refine zt_aload_n (pc' := 17) hX dX9_addByte_16 rfl rfl ?_
    refine zt_get (pc' := 20) (v := .int (zI (σ 1 1))) hX dX9_addByte_17 rfl zf_X9_9 (by decide) zc_1 zs_2 rfl ?_
    refine zt_iload_n (pc' := 21) hX dX9_addByte_20 rfl rfl ?_
    refine zt_i2b (pc' := 22) hX dX9_addByte_21 rfl (fun r4 er4 lr4 ur4 => ?_)
    refine zt_bast (pc' := 23) hX dX9_addByte_22 rfl (by decide) zc_2 zs_3 (by decide) ⟨by omega, by omega⟩ ⟨by omega, by omega⟩ ?_
    generalize hs6 : zset σ 2 ((σ 1 1).toNat) r4 = s5
    have hI7 : zInv s5 := hs6 ▸ zp_3 hI zc_2 ((σ 1 1).toNat) ⟨by omega, by omega⟩
    have hF8 : zOn zF1 σ s5 := hs6 ▸ zOn_set hF rfl
    have e9 : s5 1 1 = σ 1 1 := by rw [← hs6]; exact zset_k (zne_r zc_1 zc_2 (by decide))
    refine zt_aload_n (pc' := 24) hX dX9_addByte_23 rfl rfl ?_
    refine zt_dup (pc' := 25) hX dX9_addByte_24 rfl rfl ?_
    have b10 := zv_2_1 hI7 zc_1
    refine zt_get (pc' := 28) (v := .int (zI (s5 1 1))) hX dX9_addByte_25 rfl zf_X9_9 (by decide) zc_1 zs_2 rfl ?_
    refine zt_iconst (pc' := 29) hX dX9_addByte_28 rfl ?_
    refine zt_iadd (pc' := 30) hX dX9_addByte_29 rfl ?_
    refine zt_put (pc' := 33) (x := ((s5 1 1) + 1)) hX dX9_addByte_30 rfl zf_X9_9 (by decide) zc_1 zs_2 (fun q hq => by cases hq; rfl) rfl rfl rfl ?_
    generalize hs12 : zset s5 1 1 ((s5 1 1) + 1) = s11
    have hI13 : zInv s11 := hs12 ▸ zp_2_1 hI7 zc_1 ⟨by omega, by omega⟩
    have hF14 : zOn zF1 σ s11 := hs12 ▸ zOn_set hF8 rfl
    have e15 : s11 1 1 = ((s5 1 1) + 1) := by rw [← hs12]; exact zset_s
    exact zt_vret hX hR dX9_addByte_33 ⟨hI13, hF14, yB1_of hs6 hs12 rfl (by omega) (yi2b er4 ⟨by omega, by omega⟩) (by omega)⟩
set_option maxRecDepth 100000 in
set_option maxHeartbeats 4000000 in
theorem yc_X9_addNumber (l : Launch) (E : zEN) (σ : zSto) (hI : zInv σ) (a1_ : Int) (ha1_ : -2147483648 ≤ a1_ ∧ a1_ ≤ 2147483647) (hpre0 : σ 1 1 ≤ 1596) : zCt l E yX9_addNumber cX9_addNumber 2 none 1 zNC zNC 0 0 σ [.ref (E.1 + 1), .int (zI a1_)] (fun r σ' => zInv σ' ∧ zOn zF1 σ σ' ∧ (yBk σ σ' a1_)) := by
  refine zCt_of2 [some (.ref (E.1 + 1)), some (.int (zI a1_))] (by decide +kernel) (Nat.le_of_ble_eq_true rfl) rfl ?_
  intro X hE_ hX hR hL hN
  subst hE_
  have hX : zok X cX9_addNumber RX9 1 := hX
  have hF := zOn_rf zF1 σ
  have b1 := zv_2_1 hI zc_1
  refine zt_aload_n (pc' := 1) hX dX9_addNumber_0 rfl rfl ?_
  refine zt_iload_n (pc' := 2) hX dX9_addNumber_1 rfl rfl ?_
  refine zt_bipush (pc' := 4) hX dX9_addNumber_2 rfl (by decide) (by decide) ?_
  refine zt_ishr (pc' := 5) hX dX9_addNumber_4 rfl (fun r2 zr2 lr2 ur2 => ?_)
  replace zr2 : r2 = ysr a1_ 24 := zr2
  refine zt_cVv (pc' := 8) hX dX9_addNumber_5 rfl zm_yX9_addByte zw_14_11 zc_1 (by decide) zs_2 (q := (RX9, TX9, 2)) rfl rfl (yc_X9_addByte _ _ σ hI r2 ⟨by omega, by omega⟩ (by omega)) rfl rfl (Nat.le_of_ble_eq_true rfl) (by decide) (fun r3 s4 hr5 hp6 => ?_)
  obtain ⟨hI7, hF8, z9⟩ := hp6
  have hF10 := zOn_tr hF hF8 zi_id
  have b11 := zv_2_1 hI7 zc_1
  rw [zr2] at z9
  have u12 := z9.1
  refine zt_aload_n (pc' := 9) hX dX9_addNumber_8 rfl rfl ?_
  refine zt_iload_n (pc' := 10) hX dX9_addNumber_9 rfl rfl ?_
  refine zt_bipush (pc' := 12) hX dX9_addNumber_10 rfl (by decide) (by decide) ?_
  refine zt_ishr (pc' := 13) hX dX9_addNumber_12 rfl (fun r13 zr13 lr13 ur13 => ?_)
  replace zr13 : r13 = ysr a1_ 16 := zr13
  refine zt_cVv (pc' := 16) hX dX9_addNumber_13 rfl zm_yX9_addByte zw_14_11 zc_1 (by decide) zs_2 (q := (RX9, TX9, 2)) rfl rfl (yc_X9_addByte _ _ s4 hI7 r13 ⟨by omega, by omega⟩ (by omega)) rfl rfl (Nat.le_of_ble_eq_true rfl) (by decide) (fun r14 s15 hr16 hp17 => ?_)
  obtain ⟨hI18, hF19, z20⟩ := hp17
  have hF21 := zOn_tr hF10 hF19 zi_id
  have b22 := zv_2_1 hI18 zc_1
  rw [zr13] at z20
  have u23 := z20.1
  refine zt_aload_n (pc' := 17) hX dX9_addNumber_16 rfl rfl ?_
  refine zt_iload_n (pc' := 18) hX dX9_addNumber_17 rfl rfl ?_
  refine zt_bipush (pc' := 20) hX dX9_addNumber_18 rfl (by decide) (by decide) ?_
  refine zt_ishr (pc' := 21) hX dX9_addNumber_20 rfl (fun r24 zr24 lr24 ur24 => ?_)
  replace zr24 : r24 = ysr a1_ 8 := zr24
  refine zt_cVv (pc' := 24) hX dX9_addNumber_21 rfl zm_yX9_addByte zw_14_11 zc_1 (by decide) zs_2 (q := (RX9, TX9, 2)) rfl rfl (yc_X9_addByte _ _ s15 hI18 r24 ⟨by omega, by omega⟩ (by omega)) rfl rfl (Nat.le_of_ble_eq_true rfl) (by decide) (fun r25 s26 hr27 hp28 => ?_)
  obtain ⟨hI29, hF30, z31⟩ := hp28
  have hF32 := zOn_tr hF21 hF30 zi_id
  have b33 := zv_2_1 hI29 zc_1
  rw [zr24] at z31
  have u34 := z31.1
  refine zt_aload_n (pc' := 25) hX dX9_addNumber_24 rfl rfl ?_
  refine zt_iload_n (pc' := 26) hX dX9_addNumber_25 rfl rfl ?_
  refine zt_cVv (pc' := 29) hX dX9_addNumber_26 rfl zm_yX9_addByte zw_14_11 zc_1 (by decide) zs_2 (q := (RX9, TX9, 2)) rfl rfl (yc_X9_addByte _ _ s26 hI29 a1_ ⟨by omega, by omega⟩ (by omega)) rfl rfl (Nat.le_of_ble_eq_true rfl) (by decide) (fun r35 s36 hr37 hp38 => ?_)
  obtain ⟨hI39, hF40, z41⟩ := hp38
  have hF42 := zOn_tr hF32 hF40 zi_id
  have b43 := zv_2_1 hI39 zc_1
  have u44 := z41.1
  exact zt_vret hX hR dX9_addNumber_29 ⟨hI39, hF42, yBk_of (by omega) ⟨by omega, by omega⟩ z9 z20 z31 z41⟩
set_option maxRecDepth 100000 in
set_option maxHeartbeats 4000000 in
theorem yc_X11_feed (l : Launch) (E : zEN) (σ : zSto) (hI : zInv σ) (a1_ : Int) (ha1_ : -2147483648 ≤ a1_ ∧ a1_ ≤ 2147483647) (a2_ : Int) (ha2_ : -2147483648 ≤ a2_ ∧ a2_ ≤ 2147483647) (a3_ : Int) (ha3_ : -2147483648 ≤ a3_ ∧ a3_ ≤ 2147483647) (a4_ : Int) (ha4_ : -2147483648 ≤ a4_ ∧ a4_ ≤ 2147483647) (a5_ : Int) (ha5_ : -2147483648 ≤ a5_ ∧ a5_ ≤ 2147483647) : zCt l E yX11_feed cX11_feed 6 (some .int) 2 zNC zNC 0 0 σ [.ref (E.1 + 0), .int (zI a1_), .int (zI a2_), .int (zI a3_), .int (zI a4_), .int (zI a5_)] (fun r σ' => zInv σ' ∧ zOn zCc σ σ' ∧ -1 ≤ r ∧ r ≤ 1600 ∧ ((σ 1 1 > 1580 → r = -1 ∧ σ' 1 1 = σ 1 1) ∧ (σ 1 1 ≤ 1580 → r = σ 1 1 + 20 ∧ σ' 1 1 = σ 1 1 + 20)) ∧ (yFd1 σ σ' a1_ a2_ a3_ a4_ a5_)) := by
  refine zCt_of2 [some (.ref (E.1 + 0)), some (.int (zI a1_)), some (.int (zI a2_)), some (.int (zI a3_)), some (.int (zI a4_)), some (.int (zI a5_))] (by decide +kernel) (Nat.le_of_ble_eq_true rfl) rfl ?_
  intro X hE_ hX hR hL hN
  subst hE_
  have hX : zok X cX11_feed RX11 2 := hX
  have hF := zOn_rf zCc σ
  have b1 := zv_2_1 hI zc_1
  refine zt_aload_n (pc' := 1) hX dX11_feed_0 rfl rfl ?_
  refine zt_get (pc' := 4) (v := .ref (X.1.1 + 1)) hX dX11_feed_1 rfl zf_X11_14 (by decide) zc_0 zs_1 (zrf_of (zv_1_0 hI zc_0)) ?_
  have b2 := zv_2_1 hI zc_1
  refine zt_get (pc' := 7) (v := .int (zI (σ 1 1))) hX dX11_feed_4 rfl zf_X11_110 (by decide) zc_1 zs_2 rfl ?_
  refine zt_bipush (pc' := 9) hX dX11_feed_7 rfl (by decide) (by decide) ?_
  refine zt_iadd (pc' := 10) hX dX11_feed_9 rfl ?_
  refine zt_sipush (pc' := 13) hX dX11_feed_10 rfl (by decide) (by decide) ?_
  refine zt_icle (pc' := 16) (tgt := 22) hX dX11_feed_13 rfl (by decide) ⟨by omega, by omega⟩ ⟨by omega, by omega⟩ (fun c3 => ?_) (fun c3 => ?_)
  · refine zt_aload_n (pc' := 23) hX dX11_feed_22 rfl rfl ?_
    refine zt_get (pc' := 26) (v := .ref (X.1.1 + 1)) hX dX11_feed_23 rfl zf_X11_14 (by decide) zc_0 zs_1 (zrf_of (zv_1_0 hI zc_0)) ?_
    refine zt_iload_n (pc' := 27) hX dX11_feed_26 rfl rfl ?_
    refine zt_cVv (pc' := 30) hX dX11_feed_27 rfl zm_yX9_addNumber zw_14_7 zc_1 (by decide) zs_2 (q := (RX9, TX9, 2)) rfl rfl (yc_X9_addNumber _ _ σ hI a1_ ⟨by omega, by omega⟩ (by omega)) rfl rfl (Nat.le_of_ble_eq_true rfl) (by decide) (fun r4 s5 hr6 hp7 => ?_)
    obtain ⟨hI8, hF9, z10⟩ := hp7
    have hF11 := zOn_tr hF hF9 zi_f1c
    have b12 := zv_2_1 hI8 zc_1
    have u13 := z10.1
    refine zt_aload_n (pc' := 31) hX dX11_feed_30 rfl rfl ?_
    refine zt_get (pc' := 34) (v := .ref (X.1.1 + 1)) hX dX11_feed_31 rfl zf_X11_14 (by decide) zc_0 zs_1 (zrf_of (zv_1_0 hI8 zc_0)) ?_
    refine zt_iload_n (pc' := 35) hX dX11_feed_34 rfl rfl ?_
    refine zt_cVv (pc' := 38) hX dX11_feed_35 rfl zm_yX9_addNumber zw_14_7 zc_1 (by decide) zs_2 (q := (RX9, TX9, 2)) rfl rfl (yc_X9_addNumber _ _ s5 hI8 a2_ ⟨by omega, by omega⟩ (by omega)) rfl rfl (Nat.le_of_ble_eq_true rfl) (by decide) (fun r14 s15 hr16 hp17 => ?_)
    obtain ⟨hI18, hF19, z20⟩ := hp17
    have hF21 := zOn_tr hF11 hF19 zi_f1c
    have b22 := zv_2_1 hI18 zc_1
    have u23 := z20.1
    refine zt_aload_n (pc' := 39) hX dX11_feed_38 rfl rfl ?_
    refine zt_get (pc' := 42) (v := .ref (X.1.1 + 1)) hX dX11_feed_39 rfl zf_X11_14 (by decide) zc_0 zs_1 (zrf_of (zv_1_0 hI18 zc_0)) ?_
    refine zt_iload_n (pc' := 43) hX dX11_feed_42 rfl rfl ?_
    refine zt_cVv (pc' := 46) hX dX11_feed_43 rfl zm_yX9_addNumber zw_14_7 zc_1 (by decide) zs_2 (q := (RX9, TX9, 2)) rfl rfl (yc_X9_addNumber _ _ s15 hI18 a3_ ⟨by omega, by omega⟩ (by omega)) rfl rfl (Nat.le_of_ble_eq_true rfl) (by decide) (fun r24 s25 hr26 hp27 => ?_)
    obtain ⟨hI28, hF29, z30⟩ := hp27
    have hF31 := zOn_tr hF21 hF29 zi_f1c
    have b32 := zv_2_1 hI28 zc_1
    have u33 := z30.1
    refine zt_aload_n (pc' := 47) hX dX11_feed_46 rfl rfl ?_
    refine zt_get (pc' := 50) (v := .ref (X.1.1 + 1)) hX dX11_feed_47 rfl zf_X11_14 (by decide) zc_0 zs_1 (zrf_of (zv_1_0 hI28 zc_0)) ?_
    refine zt_iload (pc' := 52) hX dX11_feed_50 rfl rfl ?_
    refine zt_cVv (pc' := 55) hX dX11_feed_52 rfl zm_yX9_addNumber zw_14_7 zc_1 (by decide) zs_2 (q := (RX9, TX9, 2)) rfl rfl (yc_X9_addNumber _ _ s25 hI28 a4_ ⟨by omega, by omega⟩ (by omega)) rfl rfl (Nat.le_of_ble_eq_true rfl) (by decide) (fun r34 s35 hr36 hp37 => ?_)
    obtain ⟨hI38, hF39, z40⟩ := hp37
    have hF41 := zOn_tr hF31 hF39 zi_f1c
    have b42 := zv_2_1 hI38 zc_1
    have u43 := z40.1
    refine zt_aload_n (pc' := 56) hX dX11_feed_55 rfl rfl ?_
    refine zt_get (pc' := 59) (v := .ref (X.1.1 + 1)) hX dX11_feed_56 rfl zf_X11_14 (by decide) zc_0 zs_1 (zrf_of (zv_1_0 hI38 zc_0)) ?_
    refine zt_iload (pc' := 61) hX dX11_feed_59 rfl rfl ?_
    refine zt_cVv (pc' := 64) hX dX11_feed_61 rfl zm_yX9_addNumber zw_14_7 zc_1 (by decide) zs_2 (q := (RX9, TX9, 2)) rfl rfl (yc_X9_addNumber _ _ s35 hI38 a5_ ⟨by omega, by omega⟩ (by omega)) rfl rfl (Nat.le_of_ble_eq_true rfl) (by decide) (fun r44 s45 hr46 hp47 => ?_)
    obtain ⟨hI48, hF49, z50⟩ := hp47
    have hF51 := zOn_tr hF41 hF49 zi_f1c
    have b52 := zv_2_1 hI48 zc_1
    have u53 := z50.1
    refine zt_aload_n (pc' := 65) hX dX11_feed_64 rfl rfl ?_
    refine zt_get (pc' := 68) (v := .ref (X.1.1 + 1)) hX dX11_feed_65 rfl zf_X11_14 (by decide) zc_0 zs_1 (zrf_of (zv_1_0 hI48 zc_0)) ?_
    have b54 := zv_2_1 hI48 zc_1
    refine zt_get (pc' := 71) (v := .int (zI (s45 1 1))) hX dX11_feed_68 rfl zf_X11_110 (by decide) zc_1 zs_2 rfl ?_
    exact zt_iret hX hR dX11_feed_71 ⟨by omega, by omega⟩ ⟨hI48, hF51, by omega, by omega, ⟨fun h => absurd h (by omega), fun _ => ⟨by omega, by omega⟩⟩, ⟨(yfd_of (by omega) z10 z20 z30 z40 z50).1, fun _ => (yfd_of (by omega) z10 z20 z30 z40 z50).2⟩⟩
  · refine zt_aload_n (pc' := 17) hX dX11_feed_16 rfl rfl ?_
    refine zt_iconst (pc' := 18) hX dX11_feed_17 rfl ?_
    refine zt_cVi (pc' := 21) hX dX11_feed_18 rfl zm_yX11_refusal zw_14_3 zc_0 (by decide) zs_1 (q := (RX11, TX11, 17)) rfl rfl (zc_X11_refusal _ _ σ hI 0 ⟨by omega, by omega⟩) rfl rfl (Nat.le_of_ble_eq_true rfl) (by decide) (fun r55 s56 hr57 hp58 => ?_)
    obtain ⟨hI59, hF60, q61, q62⟩ := hp58
    have hF63 := zOn_tr hF (zOn_c hF60) zi_id
    have b64 := zv_2_1 hI59 zc_1
    have u65 := hF60.2
    exact zt_iret hX hR dX11_feed_21 ⟨by omega, by omega⟩ ⟨hI59, hF63, by omega, by omega, ⟨fun _ => ⟨by omega, by omega⟩, fun h => absurd h (by omega)⟩, ⟨fun j _ => congrFun (hF60.1.1 2 (by decide)) j, fun h => absurd h (by omega)⟩⟩
set_option maxRecDepth 100000 in
set_option maxHeartbeats 4000000 in
theorem yc_X12_feed (l : Launch) (E : zEN) (σ : zSto) (hI : zInv σ) (a1_ : Int) (ha1_ : -2147483648 ≤ a1_ ∧ a1_ ≤ 2147483647) (a2_ : Int) (ha2_ : -2147483648 ≤ a2_ ∧ a2_ ≤ 2147483647) (a3_ : Int) (ha3_ : -2147483648 ≤ a3_ ∧ a3_ ≤ 2147483647) (a4_ : Int) (ha4_ : -2147483648 ≤ a4_ ∧ a4_ ≤ 2147483647) (a5_ : Int) (ha5_ : -2147483648 ≤ a5_ ∧ a5_ ≤ 2147483647) : zCt l E yX12_feed cX12_feed 8 (some .int) 0 zNC zNC 0 0 σ [.ref (E.1 + 164), .int (zI a1_), .int (zI a2_), .int (zI a3_), .int (zI a4_), .int (zI a5_)] (fun r σ' => zInv σ' ∧ zOn zF2 σ σ' ∧ -1 ≤ r ∧ r ≤ 1600 ∧ ((σ 164 1 > 1580 → r = -1 ∧ σ' 164 1 = σ 164 1) ∧ (σ 164 1 ≤ 1580 → r = σ 164 1 + 20 ∧ σ' 164 1 = σ 164 1 + 20)) ∧ (yFd2 σ σ' a1_ a2_ a3_ a4_ a5_)) := by
  refine zCt_of2 [some (.ref (E.1 + 164)), some (.int (zI a1_)), some (.int (zI a2_)), some (.int (zI a3_)), some (.int (zI a4_)), some (.int (zI a5_)), none, none] (by decide +kernel) (Nat.le_of_ble_eq_true rfl) rfl ?_
  intro X hE_ hX hR hL hN
  subst hE_
  have hX : zok X cX12_feed RX12 0 := hX
  have hF := zOn_rf zF2 σ
  have b1 := zv_46_1 hI zc_164
  refine zt_aload_n (pc' := 1) hX dX12_feed_0 rfl rfl ?_
  have b2 := zv_46_1 hI zc_164
  refine zt_get (pc' := 4) (v := .int (zI (σ 164 1))) hX dX12_feed_1 rfl zf_X12_243 (by decide) zc_164 zs_46 rfl ?_
  refine zt_bipush (pc' := 6) hX dX12_feed_4 rfl (by decide) (by decide) ?_
  refine zt_iadd (pc' := 7) hX dX12_feed_6 rfl ?_
  refine zt_sipush (pc' := 10) hX dX12_feed_7 rfl (by decide) (by decide) ?_
  refine zt_icle (pc' := 13) (tgt := 25) hX dX12_feed_10 rfl (by decide) ⟨by omega, by omega⟩ ⟨by omega, by omega⟩ (fun c3 => ?_) (fun c3 => ?_)
  · refine zt_iconst (pc' := 26) hX dX12_feed_25 rfl ?_
    refine zt_istore (pc' := 28) (lv' := [some (.ref (X.1.1 + 164)), some (.int (zI a1_)), some (.int (zI a2_)), some (.int (zI a3_)), some (.int (zI a4_)), some (.int (zI a5_)), some (.int (zI 0)), none]) hX dX12_feed_26 rfl hL (by decide) rfl ?_
    have L_28_13 : ∀ (N : Nat) (x4 : Int) (s7 : zSto), 0 ≤ x4 → x4 ≤ 20 → zInv s7 → zOn zF2 σ s7 → s7 164 1 = σ 164 1 + x4 → x4 ≤ 20 → 0 ≤ x4 → yfk s7 σ a1_ a2_ a3_ a4_ a5_ x4 → ((20 - x4).toNat) < N → zF X s7 28 [some (.ref (X.1.1 + 164)), some (.int (zI a1_)), some (.int (zI a2_)), some (.int (zI a3_)), some (.int (zI a4_)), some (.int (zI a5_)), some (.int (zI x4)), none] [] := by
      intro N
      induction N with
      | zero =>
        intro x4 s7 h5 h6 hI8 hF9 g10 g11 g12 g13 hm15
        exact absurd hm15 (Nat.not_lt_zero _)
      | succ N ih16 =>
        intro x4 s7 h5 h6 hI8 hF9 g10 g11 g12 g13 hm15
        have b17 := zv_46_1 hI8 zc_164
        have q18 := 0
        · refine zt_iload (pc' := 30) hX dX12_feed_28 rfl rfl ?_
          refine zt_bipush (pc' := 32) hX dX12_feed_30 rfl (by decide) (by decide) ?_
          refine zt_icge (pc' := 35) (tgt := 124) hX dX12_feed_32 rfl (by decide) ⟨by omega, by omega⟩ ⟨by omega, by omega⟩ (fun c19 => ?_) (fun c19 => ?_)
          · refine zt_aload_n (pc' := 125) hX dX12_feed_124 rfl rfl ?_
            have b20 := zv_46_1 hI8 zc_164
            refine zt_get (pc' := 128) (v := .int (zI (s7 164 1))) hX dX12_feed_125 rfl zf_X12_243 (by decide) zc_164 zs_46 rfl ?_
            exact zt_iret hX hR dX12_feed_128 ⟨by omega, by omega⟩ ⟨hI8, hF9, by omega, by omega, ⟨fun h => absurd h (by omega), fun _ => ⟨by omega, by omega⟩⟩, ⟨g13.1, fun _ i hi => g13.2 i (by omega)⟩⟩
          · refine zt_iload (pc' := 37) hX dX12_feed_35 rfl rfl ?_
            refine zt_iconst (pc' := 38) hX dX12_feed_37 rfl ?_
            refine zt_icge (pc' := 41) (tgt := 45) hX dX12_feed_38 rfl (by decide) ⟨by omega, by omega⟩ ⟨by omega, by omega⟩ (fun c21 => ?_) (fun c21 => ?_)
            · refine zt_iload (pc' := 47) hX dX12_feed_45 rfl rfl ?_
              refine zt_bipush (pc' := 49) hX dX12_feed_47 rfl (by decide) (by decide) ?_
              refine zt_icge (pc' := 52) (tgt := 56) hX dX12_feed_49 rfl (by decide) ⟨by omega, by omega⟩ ⟨by omega, by omega⟩ (fun c22 => ?_) (fun c22 => ?_)
              · refine zt_iload (pc' := 58) hX dX12_feed_56 rfl rfl ?_
                refine zt_bipush (pc' := 60) hX dX12_feed_58 rfl (by decide) (by decide) ?_
                refine zt_icge (pc' := 63) (tgt := 67) hX dX12_feed_60 rfl (by decide) ⟨by omega, by omega⟩ ⟨by omega, by omega⟩ (fun c23 => ?_) (fun c23 => ?_)
                · refine zt_iload (pc' := 69) hX dX12_feed_67 rfl rfl ?_
                  refine zt_bipush (pc' := 71) hX dX12_feed_69 rfl (by decide) (by decide) ?_
                  refine zt_icge (pc' := 74) (tgt := 79) hX dX12_feed_71 rfl (by decide) ⟨by omega, by omega⟩ ⟨by omega, by omega⟩ (fun c24 => ?_) (fun c24 => ?_)
                  · refine zt_iload (pc' := 81) hX dX12_feed_79 rfl rfl ?_
                    refine zt_istore (pc' := 83) (lv' := [some (.ref (X.1.1 + 164)), some (.int (zI a1_)), some (.int (zI a2_)), some (.int (zI a3_)), some (.int (zI a4_)), some (.int (zI a5_)), some (.int (zI x4)), some (.int (zI a5_))]) hX dX12_feed_81 rfl hL (by decide) rfl ?_
                    refine zt_aload_n (pc' := 84) hX dX12_feed_83 rfl rfl ?_
                    refine zt_get (pc' := 87) (v := .ref (X.1.1 + 165)) hX dX12_feed_84 rfl zf_X12_7 (by decide) zc_164 zs_46 (zrf_of (zv_46_0 hI8 zc_164)) ?_
                    refine zt_aload_n (pc' := 88) hX dX12_feed_87 rfl rfl ?_
                    have b25 := zv_46_1 hI8 zc_164
                    refine zt_get (pc' := 91) (v := .int (zI (s7 164 1))) hX dX12_feed_88 rfl zf_X12_243 (by decide) zc_164 zs_46 rfl ?_
                    refine zt_iload (pc' := 93) hX dX12_feed_91 rfl rfl ?_
                    refine zt_bipush (pc' := 95) hX dX12_feed_93 rfl (by decide) (by decide) ?_
                    refine zt_iconst (pc' := 96) hX dX12_feed_95 rfl ?_
                    refine zt_iload (pc' := 98) hX dX12_feed_96 rfl rfl ?_
                    refine zt_iconst (pc' := 99) hX dX12_feed_98 rfl ?_
                    refine zt_irem (pc' := 100) hX dX12_feed_99 rfl ⟨by omega, by omega⟩ ⟨by omega, by omega⟩ (fun r26 er26 br26 nr26 => ?_)
                    rw [ztm_p (by omega)] at er26
                    refine zt_isub (pc' := 101) hX dX12_feed_100 rfl ?_
                    refine zt_imul (pc' := 102) hX dX12_feed_101 rfl ?_
                    refine zt_ishr (pc' := 103) hX dX12_feed_102 rfl (fun r27 zr27 lr27 ur27 => ?_)
                    replace zr27 : r27 = ysr a5_ (8 * (3 - r26)) := zr27
                    refine zt_sipush (pc' := 106) hX dX12_feed_103 rfl (by decide) (by decide) ?_
                    refine zt_iandm (pc' := 107) hX dX12_feed_106 rfl 8 (by decide +kernel) (by decide) (fun r28 er28 lr28 ur28 => ?_)
                    have ur28 : r28 ≤ 255 := by omega
                    refine zt_iast (pc' := 108) hX dX12_feed_107 rfl (by decide) zc_165 zs_47 (by decide) ⟨by omega, by omega⟩ ?_
                    generalize hs30 : zset s7 165 ((s7 164 1).toNat) r28 = s29
                    have hI31 : zInv s29 := hs30 ▸ zp_47 hI8 zc_165 ((s7 164 1).toNat) ⟨by omega, by omega⟩
                    have hF32 : zOn zF2 σ s29 := hs30 ▸ zOn_set hF9 rfl
                    have e33 : s29 164 1 = s7 164 1 := by rw [← hs30]; exact zset_k (zne_r zc_164 zc_165 (by decide))
                    refine zt_aload_n (pc' := 109) hX dX12_feed_108 rfl rfl ?_
                    refine zt_dup (pc' := 110) hX dX12_feed_109 rfl rfl ?_
                    have b34 := zv_46_1 hI31 zc_164
                    refine zt_get (pc' := 113) (v := .int (zI (s29 164 1))) hX dX12_feed_110 rfl zf_X12_243 (by decide) zc_164 zs_46 rfl ?_
                    refine zt_iconst (pc' := 114) hX dX12_feed_113 rfl ?_
                    refine zt_iadd (pc' := 115) hX dX12_feed_114 rfl ?_
                    refine zt_put (pc' := 118) (x := ((s29 164 1) + 1)) hX dX12_feed_115 rfl zf_X12_243 (by decide) zc_164 zs_46 (fun q hq => by cases hq; rfl) rfl rfl rfl ?_
                    generalize hs36 : zset s29 164 1 ((s29 164 1) + 1) = s35
                    have hI37 : zInv s35 := hs36 ▸ zp_46_1 hI31 zc_164 ⟨by omega, by omega⟩
                    have hF38 : zOn zF2 σ s35 := hs36 ▸ zOn_set hF32 rfl
                    have e39 : s35 164 1 = ((s29 164 1) + 1) := by rw [← hs36]; exact zset_s
                    refine zt_iinc (pc' := 121) (lv' := [some (.ref (X.1.1 + 164)), some (.int (zI a1_)), some (.int (zI a2_)), some (.int (zI a3_)), some (.int (zI a4_)), some (.int (zI a5_)), some (.int (zI (x4 + 1))), some (.int (zI a5_))]) hX dX12_feed_118 rfl rfl hL (by decide) rfl ?_
                    refine zt_goto (tgt := 28) hX dX12_feed_121 (by decide) ?_
                    refine zt_mask [true, true, true, true, true, true, true, false] rfl ?_
                    exact ih16 (x4 + 1) s35 (by omega) (by omega) hI37 hF38 (by omega) (by omega) (by omega) (yfk_s g13 (by omega) (by omega) hs30 hs36 (by omega) (by rw [yand_m er28 ⟨by omega, by omega⟩]; exact congrArg (· % 256) zr27) (by first | rw [if_pos (by omega)] | rw [if_neg (by omega), if_pos (by omega)] | rw [if_neg (by omega), if_neg (by omega), if_pos (by omega)] | rw [if_neg (by omega), if_neg (by omega), if_neg (by omega), if_pos (by omega)] | rw [if_neg (by omega), if_neg (by omega), if_neg (by omega), if_neg (by omega)]) (by omega)) (by omega)
                  · refine zt_iload (pc' := 76) hX dX12_feed_74 rfl rfl ?_
                    refine zt_goto (tgt := 81) hX dX12_feed_76 (by decide) ?_
                    refine zt_istore (pc' := 83) (lv' := [some (.ref (X.1.1 + 164)), some (.int (zI a1_)), some (.int (zI a2_)), some (.int (zI a3_)), some (.int (zI a4_)), some (.int (zI a5_)), some (.int (zI x4)), some (.int (zI a4_))]) hX dX12_feed_81 rfl hL (by decide) rfl ?_
                    refine zt_aload_n (pc' := 84) hX dX12_feed_83 rfl rfl ?_
                    refine zt_get (pc' := 87) (v := .ref (X.1.1 + 165)) hX dX12_feed_84 rfl zf_X12_7 (by decide) zc_164 zs_46 (zrf_of (zv_46_0 hI8 zc_164)) ?_
                    refine zt_aload_n (pc' := 88) hX dX12_feed_87 rfl rfl ?_
                    have b40 := zv_46_1 hI8 zc_164
                    refine zt_get (pc' := 91) (v := .int (zI (s7 164 1))) hX dX12_feed_88 rfl zf_X12_243 (by decide) zc_164 zs_46 rfl ?_
                    refine zt_iload (pc' := 93) hX dX12_feed_91 rfl rfl ?_
                    refine zt_bipush (pc' := 95) hX dX12_feed_93 rfl (by decide) (by decide) ?_
                    refine zt_iconst (pc' := 96) hX dX12_feed_95 rfl ?_
                    refine zt_iload (pc' := 98) hX dX12_feed_96 rfl rfl ?_
                    refine zt_iconst (pc' := 99) hX dX12_feed_98 rfl ?_
                    refine zt_irem (pc' := 100) hX dX12_feed_99 rfl ⟨by omega, by omega⟩ ⟨by omega, by omega⟩ (fun r41 er41 br41 nr41 => ?_)
                    rw [ztm_p (by omega)] at er41
                    refine zt_isub (pc' := 101) hX dX12_feed_100 rfl ?_
                    refine zt_imul (pc' := 102) hX dX12_feed_101 rfl ?_
                    refine zt_ishr (pc' := 103) hX dX12_feed_102 rfl (fun r42 zr42 lr42 ur42 => ?_)
                    replace zr42 : r42 = ysr a4_ (8 * (3 - r41)) := zr42
                    refine zt_sipush (pc' := 106) hX dX12_feed_103 rfl (by decide) (by decide) ?_
                    refine zt_iandm (pc' := 107) hX dX12_feed_106 rfl 8 (by decide +kernel) (by decide) (fun r43 er43 lr43 ur43 => ?_)
                    have ur43 : r43 ≤ 255 := by omega
                    refine zt_iast (pc' := 108) hX dX12_feed_107 rfl (by decide) zc_165 zs_47 (by decide) ⟨by omega, by omega⟩ ?_
                    generalize hs45 : zset s7 165 ((s7 164 1).toNat) r43 = s44
                    have hI46 : zInv s44 := hs45 ▸ zp_47 hI8 zc_165 ((s7 164 1).toNat) ⟨by omega, by omega⟩
                    have hF47 : zOn zF2 σ s44 := hs45 ▸ zOn_set hF9 rfl
                    have e48 : s44 164 1 = s7 164 1 := by rw [← hs45]; exact zset_k (zne_r zc_164 zc_165 (by decide))
                    refine zt_aload_n (pc' := 109) hX dX12_feed_108 rfl rfl ?_
                    refine zt_dup (pc' := 110) hX dX12_feed_109 rfl rfl ?_
                    have b49 := zv_46_1 hI46 zc_164
                    refine zt_get (pc' := 113) (v := .int (zI (s44 164 1))) hX dX12_feed_110 rfl zf_X12_243 (by decide) zc_164 zs_46 rfl ?_
                    refine zt_iconst (pc' := 114) hX dX12_feed_113 rfl ?_
                    refine zt_iadd (pc' := 115) hX dX12_feed_114 rfl ?_
                    refine zt_put (pc' := 118) (x := ((s44 164 1) + 1)) hX dX12_feed_115 rfl zf_X12_243 (by decide) zc_164 zs_46 (fun q hq => by cases hq; rfl) rfl rfl rfl ?_
                    generalize hs51 : zset s44 164 1 ((s44 164 1) + 1) = s50
                    have hI52 : zInv s50 := hs51 ▸ zp_46_1 hI46 zc_164 ⟨by omega, by omega⟩
                    have hF53 : zOn zF2 σ s50 := hs51 ▸ zOn_set hF47 rfl
                    have e54 : s50 164 1 = ((s44 164 1) + 1) := by rw [← hs51]; exact zset_s
                    refine zt_iinc (pc' := 121) (lv' := [some (.ref (X.1.1 + 164)), some (.int (zI a1_)), some (.int (zI a2_)), some (.int (zI a3_)), some (.int (zI a4_)), some (.int (zI a5_)), some (.int (zI (x4 + 1))), some (.int (zI a4_))]) hX dX12_feed_118 rfl rfl hL (by decide) rfl ?_
                    refine zt_goto (tgt := 28) hX dX12_feed_121 (by decide) ?_
                    refine zt_mask [true, true, true, true, true, true, true, false] rfl ?_
                    exact ih16 (x4 + 1) s50 (by omega) (by omega) hI52 hF53 (by omega) (by omega) (by omega) (yfk_s g13 (by omega) (by omega) hs45 hs51 (by omega) (by rw [yand_m er43 ⟨by omega, by omega⟩]; exact congrArg (· % 256) zr42) (by first | rw [if_pos (by omega)] | rw [if_neg (by omega), if_pos (by omega)] | rw [if_neg (by omega), if_neg (by omega), if_pos (by omega)] | rw [if_neg (by omega), if_neg (by omega), if_neg (by omega), if_pos (by omega)] | rw [if_neg (by omega), if_neg (by omega), if_neg (by omega), if_neg (by omega)]) (by omega)) (by omega)
                · refine zt_iload_n (pc' := 64) hX dX12_feed_63 rfl rfl ?_
                  refine zt_goto (tgt := 81) hX dX12_feed_64 (by decide) ?_
                  refine zt_istore (pc' := 83) (lv' := [some (.ref (X.1.1 + 164)), some (.int (zI a1_)), some (.int (zI a2_)), some (.int (zI a3_)), some (.int (zI a4_)), some (.int (zI a5_)), some (.int (zI x4)), some (.int (zI a3_))]) hX dX12_feed_81 rfl hL (by decide) rfl ?_
                  refine zt_aload_n (pc' := 84) hX dX12_feed_83 rfl rfl ?_
                  refine zt_get (pc' := 87) (v := .ref (X.1.1 + 165)) hX dX12_feed_84 rfl zf_X12_7 (by decide) zc_164 zs_46 (zrf_of (zv_46_0 hI8 zc_164)) ?_
                  refine zt_aload_n (pc' := 88) hX dX12_feed_87 rfl rfl ?_
                  have b55 := zv_46_1 hI8 zc_164
                  refine zt_get (pc' := 91) (v := .int (zI (s7 164 1))) hX dX12_feed_88 rfl zf_X12_243 (by decide) zc_164 zs_46 rfl ?_
                  refine zt_iload (pc' := 93) hX dX12_feed_91 rfl rfl ?_
                  refine zt_bipush (pc' := 95) hX dX12_feed_93 rfl (by decide) (by decide) ?_
                  refine zt_iconst (pc' := 96) hX dX12_feed_95 rfl ?_
                  refine zt_iload (pc' := 98) hX dX12_feed_96 rfl rfl ?_
                  refine zt_iconst (pc' := 99) hX dX12_feed_98 rfl ?_
                  refine zt_irem (pc' := 100) hX dX12_feed_99 rfl ⟨by omega, by omega⟩ ⟨by omega, by omega⟩ (fun r56 er56 br56 nr56 => ?_)
                  rw [ztm_p (by omega)] at er56
                  refine zt_isub (pc' := 101) hX dX12_feed_100 rfl ?_
                  refine zt_imul (pc' := 102) hX dX12_feed_101 rfl ?_
                  refine zt_ishr (pc' := 103) hX dX12_feed_102 rfl (fun r57 zr57 lr57 ur57 => ?_)
                  replace zr57 : r57 = ysr a3_ (8 * (3 - r56)) := zr57
                  refine zt_sipush (pc' := 106) hX dX12_feed_103 rfl (by decide) (by decide) ?_
                  refine zt_iandm (pc' := 107) hX dX12_feed_106 rfl 8 (by decide +kernel) (by decide) (fun r58 er58 lr58 ur58 => ?_)
                  have ur58 : r58 ≤ 255 := by omega
                  refine zt_iast (pc' := 108) hX dX12_feed_107 rfl (by decide) zc_165 zs_47 (by decide) ⟨by omega, by omega⟩ ?_
                  generalize hs60 : zset s7 165 ((s7 164 1).toNat) r58 = s59
                  have hI61 : zInv s59 := hs60 ▸ zp_47 hI8 zc_165 ((s7 164 1).toNat) ⟨by omega, by omega⟩
                  have hF62 : zOn zF2 σ s59 := hs60 ▸ zOn_set hF9 rfl
                  have e63 : s59 164 1 = s7 164 1 := by rw [← hs60]; exact zset_k (zne_r zc_164 zc_165 (by decide))
                  refine zt_aload_n (pc' := 109) hX dX12_feed_108 rfl rfl ?_
                  refine zt_dup (pc' := 110) hX dX12_feed_109 rfl rfl ?_
                  have b64 := zv_46_1 hI61 zc_164
                  refine zt_get (pc' := 113) (v := .int (zI (s59 164 1))) hX dX12_feed_110 rfl zf_X12_243 (by decide) zc_164 zs_46 rfl ?_
                  refine zt_iconst (pc' := 114) hX dX12_feed_113 rfl ?_
                  refine zt_iadd (pc' := 115) hX dX12_feed_114 rfl ?_
                  refine zt_put (pc' := 118) (x := ((s59 164 1) + 1)) hX dX12_feed_115 rfl zf_X12_243 (by decide) zc_164 zs_46 (fun q hq => by cases hq; rfl) rfl rfl rfl ?_
                  generalize hs66 : zset s59 164 1 ((s59 164 1) + 1) = s65
                  have hI67 : zInv s65 := hs66 ▸ zp_46_1 hI61 zc_164 ⟨by omega, by omega⟩
                  have hF68 : zOn zF2 σ s65 := hs66 ▸ zOn_set hF62 rfl
                  have e69 : s65 164 1 = ((s59 164 1) + 1) := by rw [← hs66]; exact zset_s
                  refine zt_iinc (pc' := 121) (lv' := [some (.ref (X.1.1 + 164)), some (.int (zI a1_)), some (.int (zI a2_)), some (.int (zI a3_)), some (.int (zI a4_)), some (.int (zI a5_)), some (.int (zI (x4 + 1))), some (.int (zI a3_))]) hX dX12_feed_118 rfl rfl hL (by decide) rfl ?_
                  refine zt_goto (tgt := 28) hX dX12_feed_121 (by decide) ?_
                  refine zt_mask [true, true, true, true, true, true, true, false] rfl ?_
                  exact ih16 (x4 + 1) s65 (by omega) (by omega) hI67 hF68 (by omega) (by omega) (by omega) (yfk_s g13 (by omega) (by omega) hs60 hs66 (by omega) (by rw [yand_m er58 ⟨by omega, by omega⟩]; exact congrArg (· % 256) zr57) (by first | rw [if_pos (by omega)] | rw [if_neg (by omega), if_pos (by omega)] | rw [if_neg (by omega), if_neg (by omega), if_pos (by omega)] | rw [if_neg (by omega), if_neg (by omega), if_neg (by omega), if_pos (by omega)] | rw [if_neg (by omega), if_neg (by omega), if_neg (by omega), if_neg (by omega)]) (by omega)) (by omega)
              · refine zt_iload_n (pc' := 53) hX dX12_feed_52 rfl rfl ?_
                refine zt_goto (tgt := 81) hX dX12_feed_53 (by decide) ?_
                refine zt_istore (pc' := 83) (lv' := [some (.ref (X.1.1 + 164)), some (.int (zI a1_)), some (.int (zI a2_)), some (.int (zI a3_)), some (.int (zI a4_)), some (.int (zI a5_)), some (.int (zI x4)), some (.int (zI a2_))]) hX dX12_feed_81 rfl hL (by decide) rfl ?_
                refine zt_aload_n (pc' := 84) hX dX12_feed_83 rfl rfl ?_
                refine zt_get (pc' := 87) (v := .ref (X.1.1 + 165)) hX dX12_feed_84 rfl zf_X12_7 (by decide) zc_164 zs_46 (zrf_of (zv_46_0 hI8 zc_164)) ?_
                refine zt_aload_n (pc' := 88) hX dX12_feed_87 rfl rfl ?_
                have b70 := zv_46_1 hI8 zc_164
                refine zt_get (pc' := 91) (v := .int (zI (s7 164 1))) hX dX12_feed_88 rfl zf_X12_243 (by decide) zc_164 zs_46 rfl ?_
                refine zt_iload (pc' := 93) hX dX12_feed_91 rfl rfl ?_
                refine zt_bipush (pc' := 95) hX dX12_feed_93 rfl (by decide) (by decide) ?_
                refine zt_iconst (pc' := 96) hX dX12_feed_95 rfl ?_
                refine zt_iload (pc' := 98) hX dX12_feed_96 rfl rfl ?_
                refine zt_iconst (pc' := 99) hX dX12_feed_98 rfl ?_
                refine zt_irem (pc' := 100) hX dX12_feed_99 rfl ⟨by omega, by omega⟩ ⟨by omega, by omega⟩ (fun r71 er71 br71 nr71 => ?_)
                rw [ztm_p (by omega)] at er71
                refine zt_isub (pc' := 101) hX dX12_feed_100 rfl ?_
                refine zt_imul (pc' := 102) hX dX12_feed_101 rfl ?_
                refine zt_ishr (pc' := 103) hX dX12_feed_102 rfl (fun r72 zr72 lr72 ur72 => ?_)
                replace zr72 : r72 = ysr a2_ (8 * (3 - r71)) := zr72
                refine zt_sipush (pc' := 106) hX dX12_feed_103 rfl (by decide) (by decide) ?_
                refine zt_iandm (pc' := 107) hX dX12_feed_106 rfl 8 (by decide +kernel) (by decide) (fun r73 er73 lr73 ur73 => ?_)
                have ur73 : r73 ≤ 255 := by omega
                refine zt_iast (pc' := 108) hX dX12_feed_107 rfl (by decide) zc_165 zs_47 (by decide) ⟨by omega, by omega⟩ ?_
                generalize hs75 : zset s7 165 ((s7 164 1).toNat) r73 = s74
                have hI76 : zInv s74 := hs75 ▸ zp_47 hI8 zc_165 ((s7 164 1).toNat) ⟨by omega, by omega⟩
                have hF77 : zOn zF2 σ s74 := hs75 ▸ zOn_set hF9 rfl
                have e78 : s74 164 1 = s7 164 1 := by rw [← hs75]; exact zset_k (zne_r zc_164 zc_165 (by decide))
                refine zt_aload_n (pc' := 109) hX dX12_feed_108 rfl rfl ?_
                refine zt_dup (pc' := 110) hX dX12_feed_109 rfl rfl ?_
                have b79 := zv_46_1 hI76 zc_164
                refine zt_get (pc' := 113) (v := .int (zI (s74 164 1))) hX dX12_feed_110 rfl zf_X12_243 (by decide) zc_164 zs_46 rfl ?_
                refine zt_iconst (pc' := 114) hX dX12_feed_113 rfl ?_
                refine zt_iadd (pc' := 115) hX dX12_feed_114 rfl ?_
                refine zt_put (pc' := 118) (x := ((s74 164 1) + 1)) hX dX12_feed_115 rfl zf_X12_243 (by decide) zc_164 zs_46 (fun q hq => by cases hq; rfl) rfl rfl rfl ?_
                generalize hs81 : zset s74 164 1 ((s74 164 1) + 1) = s80
                have hI82 : zInv s80 := hs81 ▸ zp_46_1 hI76 zc_164 ⟨by omega, by omega⟩
                have hF83 : zOn zF2 σ s80 := hs81 ▸ zOn_set hF77 rfl
                have e84 : s80 164 1 = ((s74 164 1) + 1) := by rw [← hs81]; exact zset_s
                refine zt_iinc (pc' := 121) (lv' := [some (.ref (X.1.1 + 164)), some (.int (zI a1_)), some (.int (zI a2_)), some (.int (zI a3_)), some (.int (zI a4_)), some (.int (zI a5_)), some (.int (zI (x4 + 1))), some (.int (zI a2_))]) hX dX12_feed_118 rfl rfl hL (by decide) rfl ?_
                refine zt_goto (tgt := 28) hX dX12_feed_121 (by decide) ?_
                refine zt_mask [true, true, true, true, true, true, true, false] rfl ?_
                exact ih16 (x4 + 1) s80 (by omega) (by omega) hI82 hF83 (by omega) (by omega) (by omega) (yfk_s g13 (by omega) (by omega) hs75 hs81 (by omega) (by rw [yand_m er73 ⟨by omega, by omega⟩]; exact congrArg (· % 256) zr72) (by first | rw [if_pos (by omega)] | rw [if_neg (by omega), if_pos (by omega)] | rw [if_neg (by omega), if_neg (by omega), if_pos (by omega)] | rw [if_neg (by omega), if_neg (by omega), if_neg (by omega), if_pos (by omega)] | rw [if_neg (by omega), if_neg (by omega), if_neg (by omega), if_neg (by omega)]) (by omega)) (by omega)
            · refine zt_iload_n (pc' := 42) hX dX12_feed_41 rfl rfl ?_
              refine zt_goto (tgt := 81) hX dX12_feed_42 (by decide) ?_
              refine zt_istore (pc' := 83) (lv' := [some (.ref (X.1.1 + 164)), some (.int (zI a1_)), some (.int (zI a2_)), some (.int (zI a3_)), some (.int (zI a4_)), some (.int (zI a5_)), some (.int (zI x4)), some (.int (zI a1_))]) hX dX12_feed_81 rfl hL (by decide) rfl ?_
              refine zt_aload_n (pc' := 84) hX dX12_feed_83 rfl rfl ?_
              refine zt_get (pc' := 87) (v := .ref (X.1.1 + 165)) hX dX12_feed_84 rfl zf_X12_7 (by decide) zc_164 zs_46 (zrf_of (zv_46_0 hI8 zc_164)) ?_
              refine zt_aload_n (pc' := 88) hX dX12_feed_87 rfl rfl ?_
              have b85 := zv_46_1 hI8 zc_164
              refine zt_get (pc' := 91) (v := .int (zI (s7 164 1))) hX dX12_feed_88 rfl zf_X12_243 (by decide) zc_164 zs_46 rfl ?_
              refine zt_iload (pc' := 93) hX dX12_feed_91 rfl rfl ?_
              refine zt_bipush (pc' := 95) hX dX12_feed_93 rfl (by decide) (by decide) ?_
              refine zt_iconst (pc' := 96) hX dX12_feed_95 rfl ?_
              refine zt_iload (pc' := 98) hX dX12_feed_96 rfl rfl ?_
              refine zt_iconst (pc' := 99) hX dX12_feed_98 rfl ?_
              refine zt_irem (pc' := 100) hX dX12_feed_99 rfl ⟨by omega, by omega⟩ ⟨by omega, by omega⟩ (fun r86 er86 br86 nr86 => ?_)
              rw [ztm_p (by omega)] at er86
              refine zt_isub (pc' := 101) hX dX12_feed_100 rfl ?_
              refine zt_imul (pc' := 102) hX dX12_feed_101 rfl ?_
              refine zt_ishr (pc' := 103) hX dX12_feed_102 rfl (fun r87 zr87 lr87 ur87 => ?_)
              replace zr87 : r87 = ysr a1_ (8 * (3 - r86)) := zr87
              refine zt_sipush (pc' := 106) hX dX12_feed_103 rfl (by decide) (by decide) ?_
              refine zt_iandm (pc' := 107) hX dX12_feed_106 rfl 8 (by decide +kernel) (by decide) (fun r88 er88 lr88 ur88 => ?_)
              have ur88 : r88 ≤ 255 := by omega
              refine zt_iast (pc' := 108) hX dX12_feed_107 rfl (by decide) zc_165 zs_47 (by decide) ⟨by omega, by omega⟩ ?_
              generalize hs90 : zset s7 165 ((s7 164 1).toNat) r88 = s89
              have hI91 : zInv s89 := hs90 ▸ zp_47 hI8 zc_165 ((s7 164 1).toNat) ⟨by omega, by omega⟩
              have hF92 : zOn zF2 σ s89 := hs90 ▸ zOn_set hF9 rfl
              have e93 : s89 164 1 = s7 164 1 := by rw [← hs90]; exact zset_k (zne_r zc_164 zc_165 (by decide))
              refine zt_aload_n (pc' := 109) hX dX12_feed_108 rfl rfl ?_
              refine zt_dup (pc' := 110) hX dX12_feed_109 rfl rfl ?_
              have b94 := zv_46_1 hI91 zc_164
              refine zt_get (pc' := 113) (v := .int (zI (s89 164 1))) hX dX12_feed_110 rfl zf_X12_243 (by decide) zc_164 zs_46 rfl ?_
              refine zt_iconst (pc' := 114) hX dX12_feed_113 rfl ?_
              refine zt_iadd (pc' := 115) hX dX12_feed_114 rfl ?_
              refine zt_put (pc' := 118) (x := ((s89 164 1) + 1)) hX dX12_feed_115 rfl zf_X12_243 (by decide) zc_164 zs_46 (fun q hq => by cases hq; rfl) rfl rfl rfl ?_
              generalize hs96 : zset s89 164 1 ((s89 164 1) + 1) = s95
              have hI97 : zInv s95 := hs96 ▸ zp_46_1 hI91 zc_164 ⟨by omega, by omega⟩
              have hF98 : zOn zF2 σ s95 := hs96 ▸ zOn_set hF92 rfl
              have e99 : s95 164 1 = ((s89 164 1) + 1) := by rw [← hs96]; exact zset_s
              refine zt_iinc (pc' := 121) (lv' := [some (.ref (X.1.1 + 164)), some (.int (zI a1_)), some (.int (zI a2_)), some (.int (zI a3_)), some (.int (zI a4_)), some (.int (zI a5_)), some (.int (zI (x4 + 1))), some (.int (zI a1_))]) hX dX12_feed_118 rfl rfl hL (by decide) rfl ?_
              refine zt_goto (tgt := 28) hX dX12_feed_121 (by decide) ?_
              refine zt_mask [true, true, true, true, true, true, true, false] rfl ?_
              exact ih16 (x4 + 1) s95 (by omega) (by omega) hI97 hF98 (by omega) (by omega) (by omega) (yfk_s g13 (by omega) (by omega) hs90 hs96 (by omega) (by rw [yand_m er88 ⟨by omega, by omega⟩]; exact congrArg (· % 256) zr87) (by first | rw [if_pos (by omega)] | rw [if_neg (by omega), if_pos (by omega)] | rw [if_neg (by omega), if_neg (by omega), if_pos (by omega)] | rw [if_neg (by omega), if_neg (by omega), if_neg (by omega), if_pos (by omega)] | rw [if_neg (by omega), if_neg (by omega), if_neg (by omega), if_neg (by omega)]) (by omega)) (by omega)
    exact L_28_13 _ 0 σ (by omega) (by omega) hI hF (by omega) (by omega) (by omega) yfk_0 (Nat.lt_succ_self _)
  · refine zt_aload_n (pc' := 14) hX dX12_feed_13 rfl rfl ?_
    refine zt_get (pc' := 17) (v := .ref (X.1.1 + 166)) hX dX12_feed_14 rfl zf_X12_17 (by decide) zc_164 zs_46 (zrf_of (zv_46_9 hI zc_164)) ?_
    refine zt_iconst (pc' := 18) hX dX12_feed_17 rfl ?_
    refine zt_dup2 (pc' := 19) hX dX12_feed_18 rfl rfl rfl ?_
    refine zt_iald (pc' := 20) hX dX12_feed_19 rfl (by decide) zc_166 zs_48 (by decide) ⟨by omega, by omega⟩ ?_
    rw [show Int.toNat 0 = 0 from rfl]
    have b101 := zv_48 hI zc_166 0
    refine zt_iconst (pc' := 21) hX dX12_feed_20 rfl ?_
    refine zt_iadd (pc' := 22) hX dX12_feed_21 rfl ?_
    refine zt_wrap (fun r102 zr102 lr102 ur102 => ?_)
    clear zr102
    refine zt_iast (pc' := 23) hX dX12_feed_22 rfl (by decide) zc_166 zs_48 (by decide) ⟨by omega, by omega⟩ ?_
    rw [show Int.toNat 0 = 0 from rfl]
    generalize hs104 : zset σ 166 0 r102 = s103
    have hI105 : zInv s103 := hs104 ▸ zp_48 hI zc_166 0 ⟨by omega, by omega⟩
    have hF106 : zOn zF2 σ s103 := hs104 ▸ zOn_set hF rfl
    have e107 : s103 164 1 = σ 164 1 := by rw [← hs104]; exact zset_k (zne_r zc_164 zc_166 (by decide))
    refine zt_iconst (pc' := 24) hX dX12_feed_23 rfl ?_
    exact zt_iret hX hR dX12_feed_24 ⟨by omega, by omega⟩ ⟨hI105, hF106, by omega, by omega, ⟨fun _ => ⟨by omega, by omega⟩, fun h => absurd h (by omega)⟩, ⟨fun j _ => by rw [← hs104]; exact zset_k (by decide), fun h => absurd h (by omega)⟩⟩
