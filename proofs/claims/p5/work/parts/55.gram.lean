set_option maxRecDepth 100000 in
set_option maxHeartbeats 4000000 in
theorem yc_X4_addNumber (l : Launch) (E : zEN) (σ : zSto) (hI : zInv σ) (k0_ : Nat) (hk0_ : zro k0_ = 6) (a1_ : Int) (ha1_ : -2147483648 ≤ a1_ ∧ a1_ ≤ 2147483647) : zCt l E yX4_addNumber cX4_addNumber 2 none 0 zNC zNC 0 0 σ [.ref (E.1 + k0_), .int (zI a1_)] (fun r σ' => zInv σ' ∧ zOn zRp σ σ') := by
  refine zCt_of2 [some (.ref (E.1 + k0_)), some (.int (zI a1_))] (by decide +kernel) (Nat.le_of_ble_eq_true rfl) rfl ?_
  intro X hE_ hX hR hL hN
  subst hE_
  have hX : zok X cX4_addNumber RX4 0 := hX
  have hF := zOn_rf zRp σ
  refine zt_aload_n (pc' := 1) hX dX4_addNumber_0 rfl rfl ?_
  have b1 := zv_6_1 hI hk0_
  refine zt_get (pc' := 4) (v := .int (zI (σ k0_ 1))) hX dX4_addNumber_1 rfl zf_X4_15 (zro_lt hk0_ (by decide)) hk0_ zs_6 rfl ?_
  refine zt_aload_n (pc' := 5) hX dX4_addNumber_4 rfl rfl ?_
  refine zt_get (pc' := 8) (v := .ref (X.1.1 + (k0_ + 1))) hX dX4_addNumber_5 rfl zf_X4_9 (zro_lt hk0_ (by decide)) hk0_ zs_6 (zrf_of (zv_6_0 hI hk0_)) ?_
  refine zt_alen (pc' := 9) hX dX4_addNumber_8 rfl (zro_lt (zo_6_0 hk0_) (by decide)) (zo_6_0 hk0_) zs_7 (by decide) ?_
  rw [show ((1600 : Nat) : Int) = 1600 from rfl]
  refine zt_icge (pc' := 12) (tgt := 32) hX dX4_addNumber_9 rfl (by decide) ⟨by omega, by omega⟩ ⟨by omega, by omega⟩ (fun c2 => ?_) (fun c2 => ?_)
  · exact zt_vret hX hR dX4_addNumber_32 ⟨hI, hF⟩
  · refine zt_aload_n (pc' := 13) hX dX4_addNumber_12 rfl rfl ?_
    refine zt_get (pc' := 16) (v := .ref (X.1.1 + (k0_ + 1))) hX dX4_addNumber_13 rfl zf_X4_9 (zro_lt hk0_ (by decide)) hk0_ zs_6 (zrf_of (zv_6_0 hI hk0_)) ?_
    refine zt_aload_n (pc' := 17) hX dX4_addNumber_16 rfl rfl ?_
    refine zt_get (pc' := 20) (v := .int (zI (σ k0_ 1))) hX dX4_addNumber_17 rfl zf_X4_15 (zro_lt hk0_ (by decide)) hk0_ zs_6 rfl ?_
    refine zt_iload_n (pc' := 21) hX dX4_addNumber_20 rfl rfl ?_
    refine zt_iast (pc' := 22) hX dX4_addNumber_21 rfl (zro_lt (zo_6_0 hk0_) (by decide)) (zo_6_0 hk0_) zs_7 (by decide) ⟨by omega, by omega⟩ ?_
    generalize hs4 : zset σ (k0_ + 1) ((σ k0_ 1).toNat) a1_ = s3
    have hI5 : zInv s3 := hs4 ▸ zp_7 hI (zo_6_0 hk0_) ((σ k0_ 1).toNat) ⟨by omega, by omega⟩
    have hF6 : zOn zRp σ s3 := hs4 ▸ zOn_set hF (zRp_7 (zo_6_0 hk0_))
    refine zt_aload_n (pc' := 23) hX dX4_addNumber_22 rfl rfl ?_
    refine zt_dup (pc' := 24) hX dX4_addNumber_23 rfl rfl ?_
    have b7 := zv_6_1 hI5 hk0_
    have e8 : s3 k0_ 1 = σ k0_ 1 := by rw [← hs4]; exact zset_k (zne_r hk0_ (zo_6_0 hk0_) (by decide))
    refine zt_get (pc' := 27) (v := .int (zI (s3 k0_ 1))) hX dX4_addNumber_24 rfl zf_X4_15 (zro_lt hk0_ (by decide)) hk0_ zs_6 rfl ?_
    refine zt_iconst (pc' := 28) hX dX4_addNumber_27 rfl ?_
    refine zt_iadd (pc' := 29) hX dX4_addNumber_28 rfl ?_
    refine zt_put (pc' := 32) (x := ((s3 k0_ 1) + 1)) hX dX4_addNumber_29 rfl zf_X4_15 (zro_lt hk0_ (by decide)) hk0_ zs_6 (fun q hq => by cases hq; rfl) rfl rfl rfl ?_
    generalize hs10 : zset s3 k0_ 1 ((s3 k0_ 1) + 1) = s9
    have hI11 : zInv s9 := hs10 ▸ zp_6_1 hI5 hk0_ ⟨by omega, by omega⟩
    have hF12 : zOn zRp σ s9 := hs10 ▸ zOn_set hF6 (zRp_6 hk0_)
    exact zt_vret hX hR dX4_addNumber_32 ⟨hI11, hF12⟩
set_option maxRecDepth 100000 in
set_option maxHeartbeats 4000000 in
theorem yc_X4_addStep (l : Launch) (E : zEN) (σ : zSto) (hI : zInv σ) (k0_ : Nat) (hk0_ : zro k0_ = 6) (a1_ : Int) (ha1_ : -2147483648 ≤ a1_ ∧ a1_ ≤ 2147483647) : zCt l E yX4_addStep cX4_addStep 2 none 1 zNC zNC 0 0 σ [.ref (E.1 + k0_), .int (zI a1_)] (fun r σ' => zInv σ' ∧ zOn zRp σ σ') := by
  refine zCt_of2 [some (.ref (E.1 + k0_)), some (.int (zI a1_))] (by decide +kernel) (Nat.le_of_ble_eq_true rfl) rfl ?_
  intro X hE_ hX hR hL hN
  subst hE_
  have hX : zok X cX4_addStep RX4 1 := hX
  have hF := zOn_rf zRp σ
  refine zt_aload_n (pc' := 1) hX dX4_addStep_0 rfl rfl ?_
  refine zt_iload_n (pc' := 2) hX dX4_addStep_1 rfl rfl ?_
  refine zt_iconst (pc' := 3) hX dX4_addStep_2 rfl ?_
  refine zt_ixor (pc' := 4) hX dX4_addStep_3 rfl (fun r1 zr1 lr1 ur1 => ?_)
  clear zr1
  refine zt_cVv (pc' := 7) hX dX4_addStep_4 rfl zm_yX4_addNumber zw_16_6 hk0_ (by decide) zs_6 (q := (RX4, TX4, 2)) rfl rfl (yc_X4_addNumber _ _ σ hI k0_ hk0_ r1 ⟨by omega, by omega⟩) rfl rfl (Nat.le_of_ble_eq_true rfl) (by decide) (fun r2 s3 hr4 hp5 => ?_)
  obtain ⟨hI6, hF7⟩ := hp5
  have hF8 := zOn_tr hF hF7 zi_id
  exact zt_vret hX hR dX4_addStep_7 ⟨hI6, hF8⟩
set_option maxRecDepth 100000 in
set_option maxHeartbeats 4000000 in
theorem yc_X4_setStep (l : Launch) (E : zEN) (σ : zSto) (hI : zInv σ) (k0_ : Nat) (hk0_ : zro k0_ = 6) (a1_ : Int) (ha1_ : -2147483648 ≤ a1_ ∧ a1_ ≤ 2147483647) : zCt l E yX4_setStep cX4_setStep 2 none 2 zNC zNC 0 0 σ [.ref (E.1 + k0_), .int (zI a1_)] (fun r σ' => zInv σ' ∧ zOn zRp σ σ') := by
  refine zCt_of2 [some (.ref (E.1 + k0_)), some (.int (zI a1_))] (by decide +kernel) (Nat.le_of_ble_eq_true rfl) rfl ?_
  intro X hE_ hX hR hL hN
  subst hE_
  have hX : zok X cX4_setStep RX4 2 := hX
  have hF := zOn_rf zRp σ
  refine zt_aload_n (pc' := 1) hX dX4_setStep_0 rfl rfl ?_
  refine zt_iconst (pc' := 2) hX dX4_setStep_1 rfl ?_
  refine zt_put (pc' := 5) (x := 0) hX dX4_setStep_2 rfl zf_X4_15 (zro_lt hk0_ (by decide)) hk0_ zs_6 (fun q hq => by cases hq; rfl) rfl rfl rfl ?_
  generalize hs2 : zset σ k0_ 1 0 = s1
  have hI3 : zInv s1 := hs2 ▸ zp_6_1 hI hk0_ ⟨by omega, by omega⟩
  have hF4 : zOn zRp σ s1 := hs2 ▸ zOn_set hF (zRp_6 hk0_)
  refine zt_aload_n (pc' := 6) hX dX4_setStep_5 rfl rfl ?_
  refine zt_iload_n (pc' := 7) hX dX4_setStep_6 rfl rfl ?_
  refine zt_cVv (pc' := 10) hX dX4_setStep_7 rfl zm_yX4_addStep zw_16_2 hk0_ (by decide) zs_6 (q := (RX4, TX4, 2)) rfl rfl (yc_X4_addStep _ _ s1 hI3 k0_ hk0_ a1_ ⟨by omega, by omega⟩) rfl rfl (Nat.le_of_ble_eq_true rfl) (by decide) (fun r5 s6 hr7 hp8 => ?_)
  obtain ⟨hI9, hF10⟩ := hp8
  have hF11 := zOn_tr hF4 hF10 zi_id
  exact zt_vret hX hR dX4_setStep_10 ⟨hI9, hF11⟩
set_option maxRecDepth 100000 in
set_option maxHeartbeats 4000000 in
theorem yc_X4_hasStep (l : Launch) (E : zEN) (σ : zSto) (hI : zInv σ) (k0_ : Nat) (hk0_ : zro k0_ = 6) (a1_ : Int) (ha1_ : -2147483648 ≤ a1_ ∧ a1_ ≤ 2147483647) : zCt l E yX4_hasStep cX4_hasStep 3 (some .boolean) 0 zNC zNC 0 0 σ [.ref (E.1 + k0_), .int (zI a1_)] (fun r σ' => σ = σ' ∧ 0 ≤ r ∧ r ≤ 1) := by
  refine zCt_of2 [some (.ref (E.1 + k0_)), some (.int (zI a1_)), none] (by decide +kernel) (Nat.le_of_ble_eq_true rfl) rfl ?_
  intro X hE_ hX hR hL hN
  subst hE_
  have hX : zok X cX4_hasStep RX4 0 := hX
  refine zt_iconst (pc' := 1) hX dX4_hasStep_0 rfl ?_
  refine zt_istore_n (pc' := 2) (lv' := [some (.ref (X.1.1 + k0_)), some (.int (zI a1_)), some (.int (zI 0))]) hX dX4_hasStep_1 rfl hL (by decide) rfl ?_
  have L_2_3 : ∀ (N : Nat) (x1 : Int), 0 ≤ x1 → x1 ≤ 1600 → ((1601 - x1).toNat) < N → zF X σ 2 [some (.ref (X.1.1 + k0_)), some (.int (zI a1_)), some (.int (zI x1))] [] := by
    intro N
    induction N with
    | zero =>
      intro x1 h2 h3 hm5
      exact absurd hm5 (Nat.not_lt_zero _)
    | succ N ih6 =>
      intro x1 h2 h3 hm5
      refine zt_iload_n (pc' := 3) hX dX4_hasStep_2 rfl rfl ?_
      refine zt_aload_n (pc' := 4) hX dX4_hasStep_3 rfl rfl ?_
      have b7 := zv_6_1 hI hk0_
      refine zt_get (pc' := 7) (v := .int (zI (σ k0_ 1))) hX dX4_hasStep_4 rfl zf_X4_15 (zro_lt hk0_ (by decide)) hk0_ zs_6 rfl ?_
      refine zt_icge (pc' := 10) (tgt := 30) hX dX4_hasStep_7 rfl (by decide) ⟨by omega, by omega⟩ ⟨by omega, by omega⟩ (fun c8 => ?_) (fun c8 => ?_)
      · refine zt_iconst (pc' := 31) hX dX4_hasStep_30 rfl ?_
        exact zt_zret hX hR dX4_hasStep_31 ⟨by omega, by omega⟩ ⟨rfl, by omega, by omega⟩
      · refine zt_aload_n (pc' := 11) hX dX4_hasStep_10 rfl rfl ?_
        refine zt_get (pc' := 14) (v := .ref (X.1.1 + (k0_ + 1))) hX dX4_hasStep_11 rfl zf_X4_9 (zro_lt hk0_ (by decide)) hk0_ zs_6 (zrf_of (zv_6_0 hI hk0_)) ?_
        refine zt_iload_n (pc' := 15) hX dX4_hasStep_14 rfl rfl ?_
        refine zt_iald (pc' := 16) hX dX4_hasStep_15 rfl (zro_lt (zo_6_0 hk0_) (by decide)) (zo_6_0 hk0_) zs_7 (by decide) ⟨by omega, by omega⟩ ?_
        generalize hv9 : σ (k0_ + 1) (x1.toNat) = v9
        have bv9 : -2147483648 ≤ v9 ∧ v9 ≤ 2147483647 := hv9 ▸ zv_7 hI (zo_6_0 hk0_) _
        refine zt_iload_n (pc' := 17) hX dX4_hasStep_16 rfl rfl ?_
        refine zt_iconst (pc' := 18) hX dX4_hasStep_17 rfl ?_
        refine zt_ixor (pc' := 19) hX dX4_hasStep_18 rfl (fun r10 zr10 lr10 ur10 => ?_)
        clear zr10
        refine zt_icne (pc' := 22) (tgt := 24) hX dX4_hasStep_19 rfl (by decide) ⟨by omega, by omega⟩ ⟨by omega, by omega⟩ (fun c11 => ?_) (fun c11 => ?_)
        · refine zt_iinc (pc' := 27) (lv' := [some (.ref (X.1.1 + k0_)), some (.int (zI a1_)), some (.int (zI (x1 + 1)))]) hX dX4_hasStep_24 rfl rfl hL (by decide) rfl ?_
          refine zt_goto (tgt := 2) hX dX4_hasStep_27 (by decide) ?_
          exact ih6 (x1 + 1) (by omega) (by omega) (by omega)
        · refine zt_iconst (pc' := 23) hX dX4_hasStep_22 rfl ?_
          exact zt_zret hX hR dX4_hasStep_23 ⟨by omega, by omega⟩ ⟨rfl, by omega, by omega⟩
  exact L_2_3 _ 0 (by omega) (by omega) (Nat.lt_succ_self _)
set_option maxRecDepth 100000 in
set_option maxHeartbeats 4000000 in
theorem yc_X1_isValue (l : Launch) (E : zEN) (σ : zSto) (hI : zInv σ) (a1_ : Int) (ha1_ : -2147483648 ≤ a1_ ∧ a1_ ≤ 2147483647) : zCt l E yX1_isValue cX1_isValue 2 (some .boolean) 0 zNC zNC 0 0 σ [.ref (E.1 + 33), .int (zI a1_)] (fun r σ' => σ = σ' ∧ 0 ≤ r ∧ r ≤ 1 ∧ (r = yVi (σ 33 2) a1_)) := by
  refine zCt_of2 [some (.ref (E.1 + 33)), some (.int (zI a1_))] (by decide +kernel) (Nat.le_of_ble_eq_true rfl) rfl ?_
  intro X hE_ hX hR hL hN
  subst hE_
  have hX : zok X cX1_isValue RX1 0 := hX
  have hv := yVi_c (σ 33 2) a1_
  refine zt_iload_n (pc' := 1) hX dX1_isValue_0 rfl rfl ?_
  rcases (show a1_ = 6 ∨ a1_ = 7 ∨ a1_ = 8 ∨ a1_ = 9 ∨ a1_ = 10 ∨ a1_ = 11 ∨ a1_ = 12 ∨ a1_ = 13 ∨ a1_ = 14 ∨ a1_ = 15 ∨ a1_ = 16 ∨ a1_ = 17 ∨ a1_ = 18 ∨ a1_ = 19 ∨ (a1_ < 6 ∨ 19 < a1_) by omega) with c1 | c1 | c1 | c1 | c1 | c1 | c1 | c1 | c1 | c1 | c1 | c1 | c1 | c1 | c1
  · refine zt_tsIn (v := 6) (tgt := 87) hX dX1_isValue_1 c1 (by decide) (by decide) (by decide) rfl (by decide) ?_
    refine zt_aload_n (pc' := 88) hX dX1_isValue_87 rfl rfl ?_
    have b2 := zv_20_2 hI zc_33
    refine zt_get (pc' := 91) (v := .int (zI (σ 33 2))) hX dX1_isValue_88 rfl zf_X1_9 (by decide) zc_33 zs_20 rfl ?_
    refine zt_ifeq (pc' := 94) (tgt := 98) hX dX1_isValue_91 rfl (by decide) ⟨by omega, by omega⟩ (fun c3 => ?_) (fun c3 => ?_)
    · refine zt_iconst (pc' := 99) hX dX1_isValue_98 rfl ?_
      exact zt_zret hX hR dX1_isValue_99 ⟨by omega, by omega⟩ ⟨rfl, by omega, by omega, by omega⟩
    · refine zt_iconst (pc' := 95) hX dX1_isValue_94 rfl ?_
      refine zt_goto (tgt := 99) hX dX1_isValue_95 (by decide) ?_
      exact zt_zret hX hR dX1_isValue_99 ⟨by omega, by omega⟩ ⟨rfl, by omega, by omega, by omega⟩
  · refine zt_tsIn (v := 7) (tgt := 114) hX dX1_isValue_1 c1 (by decide) (by decide) (by decide) rfl (by decide) ?_
    refine zt_iconst (pc' := 115) hX dX1_isValue_114 rfl ?_
    exact zt_zret hX hR dX1_isValue_115 ⟨by omega, by omega⟩ ⟨rfl, by omega, by omega, by omega⟩
  · refine zt_tsIn (v := 8) (tgt := 100) hX dX1_isValue_1 c1 (by decide) (by decide) (by decide) rfl (by decide) ?_
    refine zt_aload_n (pc' := 101) hX dX1_isValue_100 rfl rfl ?_
    have b4 := zv_20_2 hI zc_33
    refine zt_get (pc' := 104) (v := .int (zI (σ 33 2))) hX dX1_isValue_101 rfl zf_X1_9 (by decide) zc_33 zs_20 rfl ?_
    refine zt_iconst (pc' := 105) hX dX1_isValue_104 rfl ?_
    refine zt_icne (pc' := 108) (tgt := 112) hX dX1_isValue_105 rfl (by decide) ⟨by omega, by omega⟩ ⟨by omega, by omega⟩ (fun c5 => ?_) (fun c5 => ?_)
    · refine zt_iconst (pc' := 113) hX dX1_isValue_112 rfl ?_
      exact zt_zret hX hR dX1_isValue_113 ⟨by omega, by omega⟩ ⟨rfl, by omega, by omega, by omega⟩
    · refine zt_iconst (pc' := 109) hX dX1_isValue_108 rfl ?_
      refine zt_goto (tgt := 113) hX dX1_isValue_109 (by decide) ?_
      exact zt_zret hX hR dX1_isValue_113 ⟨by omega, by omega⟩ ⟨rfl, by omega, by omega, by omega⟩
  · refine zt_tsIn (v := 9) (tgt := 114) hX dX1_isValue_1 c1 (by decide) (by decide) (by decide) rfl (by decide) ?_
    refine zt_iconst (pc' := 115) hX dX1_isValue_114 rfl ?_
    exact zt_zret hX hR dX1_isValue_115 ⟨by omega, by omega⟩ ⟨rfl, by omega, by omega, by omega⟩
  · refine zt_tsIn (v := 10) (tgt := 114) hX dX1_isValue_1 c1 (by decide) (by decide) (by decide) rfl (by decide) ?_
    refine zt_iconst (pc' := 115) hX dX1_isValue_114 rfl ?_
    exact zt_zret hX hR dX1_isValue_115 ⟨by omega, by omega⟩ ⟨rfl, by omega, by omega, by omega⟩
  · refine zt_tsIn (v := 11) (tgt := 114) hX dX1_isValue_1 c1 (by decide) (by decide) (by decide) rfl (by decide) ?_
    refine zt_iconst (pc' := 115) hX dX1_isValue_114 rfl ?_
    exact zt_zret hX hR dX1_isValue_115 ⟨by omega, by omega⟩ ⟨rfl, by omega, by omega, by omega⟩
  · refine zt_tsIn (v := 12) (tgt := 72) hX dX1_isValue_1 c1 (by decide) (by decide) (by decide) rfl (by decide) ?_
    refine zt_iconst (pc' := 73) hX dX1_isValue_72 rfl ?_
    exact zt_zret hX hR dX1_isValue_73 ⟨by omega, by omega⟩ ⟨rfl, by omega, by omega, by omega⟩
  · refine zt_tsIn (v := 13) (tgt := 72) hX dX1_isValue_1 c1 (by decide) (by decide) (by decide) rfl (by decide) ?_
    refine zt_iconst (pc' := 73) hX dX1_isValue_72 rfl ?_
    exact zt_zret hX hR dX1_isValue_73 ⟨by omega, by omega⟩ ⟨rfl, by omega, by omega, by omega⟩
  · refine zt_tsIn (v := 14) (tgt := 74) hX dX1_isValue_1 c1 (by decide) (by decide) (by decide) rfl (by decide) ?_
    refine zt_aload_n (pc' := 75) hX dX1_isValue_74 rfl rfl ?_
    have b6 := zv_20_2 hI zc_33
    refine zt_get (pc' := 78) (v := .int (zI (σ 33 2))) hX dX1_isValue_75 rfl zf_X1_9 (by decide) zc_33 zs_20 rfl ?_
    refine zt_ifne (pc' := 81) (tgt := 85) hX dX1_isValue_78 rfl (by decide) ⟨by omega, by omega⟩ (fun c7 => ?_) (fun c7 => ?_)
    · refine zt_iconst (pc' := 86) hX dX1_isValue_85 rfl ?_
      exact zt_zret hX hR dX1_isValue_86 ⟨by omega, by omega⟩ ⟨rfl, by omega, by omega, by omega⟩
    · refine zt_iconst (pc' := 82) hX dX1_isValue_81 rfl ?_
      refine zt_goto (tgt := 86) hX dX1_isValue_82 (by decide) ?_
      exact zt_zret hX hR dX1_isValue_86 ⟨by omega, by omega⟩ ⟨rfl, by omega, by omega, by omega⟩
  · refine zt_tsIn (v := 15) (tgt := 87) hX dX1_isValue_1 c1 (by decide) (by decide) (by decide) rfl (by decide) ?_
    refine zt_aload_n (pc' := 88) hX dX1_isValue_87 rfl rfl ?_
    have b8 := zv_20_2 hI zc_33
    refine zt_get (pc' := 91) (v := .int (zI (σ 33 2))) hX dX1_isValue_88 rfl zf_X1_9 (by decide) zc_33 zs_20 rfl ?_
    refine zt_ifeq (pc' := 94) (tgt := 98) hX dX1_isValue_91 rfl (by decide) ⟨by omega, by omega⟩ (fun c9 => ?_) (fun c9 => ?_)
    · refine zt_iconst (pc' := 99) hX dX1_isValue_98 rfl ?_
      exact zt_zret hX hR dX1_isValue_99 ⟨by omega, by omega⟩ ⟨rfl, by omega, by omega, by omega⟩
    · refine zt_iconst (pc' := 95) hX dX1_isValue_94 rfl ?_
      refine zt_goto (tgt := 99) hX dX1_isValue_95 (by decide) ?_
      exact zt_zret hX hR dX1_isValue_99 ⟨by omega, by omega⟩ ⟨rfl, by omega, by omega, by omega⟩
  · refine zt_tsIn (v := 16) (tgt := 87) hX dX1_isValue_1 c1 (by decide) (by decide) (by decide) rfl (by decide) ?_
    refine zt_aload_n (pc' := 88) hX dX1_isValue_87 rfl rfl ?_
    have b10 := zv_20_2 hI zc_33
    refine zt_get (pc' := 91) (v := .int (zI (σ 33 2))) hX dX1_isValue_88 rfl zf_X1_9 (by decide) zc_33 zs_20 rfl ?_
    refine zt_ifeq (pc' := 94) (tgt := 98) hX dX1_isValue_91 rfl (by decide) ⟨by omega, by omega⟩ (fun c11 => ?_) (fun c11 => ?_)
    · refine zt_iconst (pc' := 99) hX dX1_isValue_98 rfl ?_
      exact zt_zret hX hR dX1_isValue_99 ⟨by omega, by omega⟩ ⟨rfl, by omega, by omega, by omega⟩
    · refine zt_iconst (pc' := 95) hX dX1_isValue_94 rfl ?_
      refine zt_goto (tgt := 99) hX dX1_isValue_95 (by decide) ?_
      exact zt_zret hX hR dX1_isValue_99 ⟨by omega, by omega⟩ ⟨rfl, by omega, by omega, by omega⟩
  · refine zt_tsIn (v := 17) (tgt := 100) hX dX1_isValue_1 c1 (by decide) (by decide) (by decide) rfl (by decide) ?_
    refine zt_aload_n (pc' := 101) hX dX1_isValue_100 rfl rfl ?_
    have b12 := zv_20_2 hI zc_33
    refine zt_get (pc' := 104) (v := .int (zI (σ 33 2))) hX dX1_isValue_101 rfl zf_X1_9 (by decide) zc_33 zs_20 rfl ?_
    refine zt_iconst (pc' := 105) hX dX1_isValue_104 rfl ?_
    refine zt_icne (pc' := 108) (tgt := 112) hX dX1_isValue_105 rfl (by decide) ⟨by omega, by omega⟩ ⟨by omega, by omega⟩ (fun c13 => ?_) (fun c13 => ?_)
    · refine zt_iconst (pc' := 113) hX dX1_isValue_112 rfl ?_
      exact zt_zret hX hR dX1_isValue_113 ⟨by omega, by omega⟩ ⟨rfl, by omega, by omega, by omega⟩
    · refine zt_iconst (pc' := 109) hX dX1_isValue_108 rfl ?_
      refine zt_goto (tgt := 113) hX dX1_isValue_109 (by decide) ?_
      exact zt_zret hX hR dX1_isValue_113 ⟨by omega, by omega⟩ ⟨rfl, by omega, by omega, by omega⟩
  · refine zt_tsIn (v := 18) (tgt := 100) hX dX1_isValue_1 c1 (by decide) (by decide) (by decide) rfl (by decide) ?_
    refine zt_aload_n (pc' := 101) hX dX1_isValue_100 rfl rfl ?_
    have b14 := zv_20_2 hI zc_33
    refine zt_get (pc' := 104) (v := .int (zI (σ 33 2))) hX dX1_isValue_101 rfl zf_X1_9 (by decide) zc_33 zs_20 rfl ?_
    refine zt_iconst (pc' := 105) hX dX1_isValue_104 rfl ?_
    refine zt_icne (pc' := 108) (tgt := 112) hX dX1_isValue_105 rfl (by decide) ⟨by omega, by omega⟩ ⟨by omega, by omega⟩ (fun c15 => ?_) (fun c15 => ?_)
    · refine zt_iconst (pc' := 113) hX dX1_isValue_112 rfl ?_
      exact zt_zret hX hR dX1_isValue_113 ⟨by omega, by omega⟩ ⟨rfl, by omega, by omega, by omega⟩
    · refine zt_iconst (pc' := 109) hX dX1_isValue_108 rfl ?_
      refine zt_goto (tgt := 113) hX dX1_isValue_109 (by decide) ?_
      exact zt_zret hX hR dX1_isValue_113 ⟨by omega, by omega⟩ ⟨rfl, by omega, by omega, by omega⟩
  · refine zt_tsIn (v := 19) (tgt := 100) hX dX1_isValue_1 c1 (by decide) (by decide) (by decide) rfl (by decide) ?_
    refine zt_aload_n (pc' := 101) hX dX1_isValue_100 rfl rfl ?_
    have b16 := zv_20_2 hI zc_33
    refine zt_get (pc' := 104) (v := .int (zI (σ 33 2))) hX dX1_isValue_101 rfl zf_X1_9 (by decide) zc_33 zs_20 rfl ?_
    refine zt_iconst (pc' := 105) hX dX1_isValue_104 rfl ?_
    refine zt_icne (pc' := 108) (tgt := 112) hX dX1_isValue_105 rfl (by decide) ⟨by omega, by omega⟩ ⟨by omega, by omega⟩ (fun c17 => ?_) (fun c17 => ?_)
    · refine zt_iconst (pc' := 113) hX dX1_isValue_112 rfl ?_
      exact zt_zret hX hR dX1_isValue_113 ⟨by omega, by omega⟩ ⟨rfl, by omega, by omega, by omega⟩
    · refine zt_iconst (pc' := 109) hX dX1_isValue_108 rfl ?_
      refine zt_goto (tgt := 113) hX dX1_isValue_109 (by decide) ?_
      exact zt_zret hX hR dX1_isValue_113 ⟨by omega, by omega⟩ ⟨rfl, by omega, by omega, by omega⟩
  · refine zt_tsOut (tgt := 114) hX dX1_isValue_1 ⟨by omega, by omega⟩ c1 (by decide) ?_
    refine zt_iconst (pc' := 115) hX dX1_isValue_114 rfl ?_
    exact zt_zret hX hR dX1_isValue_115 ⟨by omega, by omega⟩ ⟨rfl, by omega, by omega, by omega⟩
set_option maxRecDepth 100000 in
set_option maxHeartbeats 4000000 in
theorem yc_X1_opens_o6 (l : Launch) (E : zEN) (σ : zSto) (hI : zInv σ) (f : Int → Int) (hT : yTk f σ) : zCt l E yX1_opens cX1_opens 2 (some .boolean) 1 zNC zNC 0 0 σ [.ref (E.1 + 33), .int (zI 6)] (fun r σ' => zInv σ' ∧ zOn zR1 σ σ' ∧ 0 ≤ r ∧ r ≤ 0 ∧ yTk f σ' ∧ ((yst σ') = yPf 4 0 (yst σ))) := by
  refine zCt_of2 [some (.ref (E.1 + 33)), some (.int (zI 6))] (by decide +kernel) (Nat.le_of_ble_eq_true rfl) rfl ?_
  intro X hE_ hX hR hL hN
  subst hE_
  have hX : zok X cX1_opens RX1 1 := hX
  have hF := zOn_rf zR1 σ
  have hE0 : yst σ = yst σ := rfl
  have L0 := yle_rf (yst σ)
  refine zt_iload_n (pc' := 1) hX dX1_opens_0 rfl rfl ?_
  refine zt_bipush (pc' := 3) hX dX1_opens_1 rfl (by decide) (by decide) ?_
  refine zt_iclt (pc' := 6) (tgt := 23) hX dX1_opens_3 rfl (by decide) ⟨by omega, by omega⟩ ⟨by omega, by omega⟩ (fun c1 => ?_) (fun c1 => ?_)
  · exact absurd c1 (by omega)
  · refine zt_aload_n (pc' := 7) hX dX1_opens_6 rfl rfl ?_
    refine zt_get (pc' := 10) (v := .ref (X.1.1 + 27)) hX dX1_opens_7 rfl zf_X1_15 (by decide) zc_33 zs_20 (zrf_of (zv_20_0 hI zc_33)) ?_
    refine zt_iconst (pc' := 11) hX dX1_opens_10 rfl ?_
    refine zt_aload_n (pc' := 12) hX dX1_opens_11 rfl rfl ?_
    refine zt_get (pc' := 15) (v := .ref (X.1.1 + 27)) hX dX1_opens_12 rfl zf_X1_15 (by decide) zc_33 zs_20 (zrf_of (zv_20_0 hI zc_33)) ?_
    refine zt_cVi (pc' := 18) hX dX1_opens_15 rfl zm_yX5_placeHere zw_22_9 zc_27 (by decide) zs_14 (q := (RX5, TX5, 9)) rfl rfl (yc_X5_placeHere _ _ σ hI f hT) rfl rfl (Nat.le_of_ble_eq_true rfl) (by decide) (fun r2 s3 hr4 hp5 => ?_)
    obtain ⟨rfl, q6, q7, z8⟩ := hp5
    refine zt_cVv (pc' := 21) hX dX1_opens_18 rfl zm_yX5_refuse zw_22_10 zc_27 (by decide) zs_14 (q := (RX5, TX5, 9)) rfl rfl (yc_X5_refuse _ _ σ hI 4 ⟨by omega, by omega⟩ r2 ⟨by omega, by omega⟩ (by omega) f hT) rfl rfl (Nat.le_of_ble_eq_true rfl) (by decide) (fun r9 s10 hr11 hp12 => ?_)
    obtain ⟨hI13, hF14, hT15, z16⟩ := hp12
    have hE17 : yst s10 = yPno 4 r2 (yst σ) := z16
    have hF18 := zOn_tr hF hF14 zi_id
    have L19 : yle (yst σ) (yPno 4 r2 (yst σ)) := yle_tr L0 yle_no
    refine zt_iconst (pc' := 22) hX dX1_opens_21 rfl ?_
    exact zt_zret hX hR dX1_opens_22 ⟨by omega, by omega⟩ ⟨hI13, hF18, by omega, by omega, hT15, hE17.trans (yPno_f (fun o => by omega))⟩
set_option maxRecDepth 100000 in
set_option maxHeartbeats 4000000 in
theorem yc_X1_pair_o6 (l : Launch) (E : zEN) (σ : zSto) (hI : zInv σ) (f : Int → Int) (hT : yTk f σ) (rl : Int) (hrl : σ 33 2 = rl) (k : List Nat) (hk : ydep k = 6) : zCt l E yX1_pair cX1_pair 2 none 2 zNC zNC 0 0 σ [.ref (E.1 + 33), .int (zI 6)] (fun r σ' => zInv σ' ∧ zOn zR2 σ σ' ∧ yTk f σ' ∧ (yJ rl f (3, k, (yst σ)) (2, k, (yst σ'))) ∧ (yle (yst σ) (yst σ'))) := by
  refine zCt_of2 [some (.ref (E.1 + 33)), some (.int (zI 6))] (by decide +kernel) (Nat.le_of_ble_eq_true rfl) rfl ?_
  intro X hE_ hX hR hL hN
  subst hE_
  have hX : zok X cX1_pair RX1 2 := hX
  have hF := zOn_rf zR2 σ
  have hE0 : yst σ = yst σ := rfl
  have L0 := yle_rf (yst σ)
  have b1 := zv_20_2 hI zc_33
  refine zt_aload_n (pc' := 1) hX dX1_pair_0 rfl rfl ?_
  refine zt_get (pc' := 4) (v := .ref (X.1.1 + 27)) hX dX1_pair_1 rfl zf_X1_15 (by decide) zc_33 zs_20 (zrf_of (zv_20_0 hI zc_33)) ?_
  refine zt_cVi (pc' := 7) hX dX1_pair_4 rfl zm_yX5_signHere zw_22_2 zc_27 (by decide) zs_14 (q := (RX5, TX5, 9)) rfl rfl (yc_X5_signHere _ _ σ hI f hT) rfl rfl (Nat.le_of_ble_eq_true rfl) (by decide) (fun r2 s3 hr4 hp5 => ?_)
  obtain ⟨rfl, q6, q7, z8⟩ := hp5
  refine zt_bipush (pc' := 9) hX dX1_pair_7 rfl (by decide) (by decide) ?_
  refine zt_iceq (pc' := 12) (tgt := 30) hX dX1_pair_9 rfl (by decide) ⟨by omega, by omega⟩ ⟨by omega, by omega⟩ (fun c9 => ?_) (fun c9 => ?_)
  · refine zt_aload_n (pc' := 31) hX dX1_pair_30 rfl rfl ?_
    refine zt_iload_n (pc' := 32) hX dX1_pair_31 rfl rfl ?_
    refine zt_cVz (pc' := 35) hX dX1_pair_32 rfl zm_yX1_opens zw_22_11 zc_33 (by decide) zs_20 (q := (RX1, TX1, 3)) rfl rfl (yc_X1_opens_o6 _ _ σ hI f hT) rfl rfl (Nat.le_of_ble_eq_true rfl) (by decide) (fun r10 s11 hr12 hp13 => ?_)
    obtain ⟨hI14, hF15, q16, q17, hT18, z19⟩ := hp13
    have hE20 : yst s11 = yPf 4 0 (yst σ) := z19
    have hF21 := zOn_tr hF hF15 zi_r12
    have L22 : yle (yst σ) (yPf 4 0 (yst σ)) := yle_tr L0 yle_f
    have b23 := zv_20_2 hI14 zc_33
    have e24 := hF15 33 2 rfl
    refine zt_ifeq (pc' := 38) (tgt := 70) hX dX1_pair_35 rfl (by decide) ⟨by omega, by omega⟩ (fun c25 => ?_) (fun c25 => ?_)
    · exact zt_vret hX hR dX1_pair_70 ⟨hI14, hF21, hT18, (by rw [hE20]; exact yJ_pr6 (by omega) hk), (by rw [hE20]; exact L22)⟩
    · exact absurd c25 (by omega)
  · refine zt_aload_n (pc' := 13) hX dX1_pair_12 rfl rfl ?_
    refine zt_get (pc' := 16) (v := .ref (X.1.1 + 27)) hX dX1_pair_13 rfl zf_X1_15 (by decide) zc_33 zs_20 (zrf_of (zv_20_0 hI zc_33)) ?_
    refine zt_iconst (pc' := 17) hX dX1_pair_16 rfl ?_
    refine zt_aload_n (pc' := 18) hX dX1_pair_17 rfl rfl ?_
    refine zt_get (pc' := 21) (v := .ref (X.1.1 + 27)) hX dX1_pair_18 rfl zf_X1_15 (by decide) zc_33 zs_20 (zrf_of (zv_20_0 hI zc_33)) ?_
    refine zt_cVi (pc' := 24) hX dX1_pair_21 rfl zm_yX5_placeHere zw_22_9 zc_27 (by decide) zs_14 (q := (RX5, TX5, 9)) rfl rfl (yc_X5_placeHere _ _ σ hI f hT) rfl rfl (Nat.le_of_ble_eq_true rfl) (by decide) (fun r26 s27 hr28 hp29 => ?_)
    obtain ⟨rfl, q30, q31, z32⟩ := hp29
    refine zt_cVv (pc' := 27) hX dX1_pair_24 rfl zm_yX5_refuse zw_22_10 zc_27 (by decide) zs_14 (q := (RX5, TX5, 9)) rfl rfl (yc_X5_refuse _ _ σ hI 1 ⟨by omega, by omega⟩ r26 ⟨by omega, by omega⟩ (by omega) f hT) rfl rfl (Nat.le_of_ble_eq_true rfl) (by decide) (fun r33 s34 hr35 hp36 => ?_)
    obtain ⟨hI37, hF38, hT39, z40⟩ := hp36
    have hE41 : yst s34 = yPno 1 r26 (yst σ) := z40
    have hF42 := zOn_tr hF hF38 zi_r12
    have L43 : yle (yst σ) (yPno 1 r26 (yst σ)) := yle_tr L0 yle_no
    have b44 := zv_20_2 hI37 zc_33
    have e45 := hF38 33 2 rfl
    refine zt_goto (tgt := 70) hX dX1_pair_27 (by decide) ?_
    exact zt_vret hX hR dX1_pair_70 ⟨hI37, hF42, hT39, (by rw [hE41, yPno_f (p := r26) (d := 0) (fun o => by omega)]; exact yJ_prn (by omega)), (by rw [hE41]; exact L43)⟩
set_option maxRecDepth 100000 in
set_option maxHeartbeats 4000000 in
theorem yc_X1_part_o6 (l : Launch) (E : zEN) (σ : zSto) (hI : zInv σ) (f : Int → Int) (hT : yTk f σ) (rl : Int) (hrl : σ 33 2 = rl) (k : List Nat) (hk : ydep k = 6) : zCt l E yX1_part cX1_part 4 none 3 zNC zNC 0 0 σ [.ref (E.1 + 33), .int (zI 6)] (fun r σ' => zInv σ' ∧ zOn zR2 σ σ' ∧ yTk f σ' ∧ (yJ rl f (1, k, (yst σ)) (2, k, (yst σ'))) ∧ (yle (yst σ) (yst σ'))) := by
  refine zCt_of2 [some (.ref (E.1 + 33)), some (.int (zI 6)), none, none] (by decide +kernel) (Nat.le_of_ble_eq_true rfl) rfl ?_
  intro X hE_ hX hR hL hN
  subst hE_
  have hX : zok X cX1_part RX1 3 := hX
  have hF := zOn_rf zR2 σ
  have hE0 : yst σ = yst σ := rfl
  have L0 := yle_rf (yst σ)
  have b1 := zv_20_2 hI zc_33
  refine zt_aload_n (pc' := 1) hX dX1_part_0 rfl rfl ?_
  refine zt_get (pc' := 4) (v := .ref (X.1.1 + 27)) hX dX1_part_1 rfl zf_X1_15 (by decide) zc_33 zs_20 (zrf_of (zv_20_0 hI zc_33)) ?_
  refine zt_cVi (pc' := 7) hX dX1_part_4 rfl zm_yX5_wordHere zw_22_21 zc_27 (by decide) zs_14 (q := (RX5, TX5, 9)) rfl rfl (yc_X5_wordHere _ _ σ hI f hT) rfl rfl (Nat.le_of_ble_eq_true rfl) (by decide) (fun r2 s3 hr4 hp5 => ?_)
  obtain ⟨rfl, q6, q7, z8⟩ := hp5
  refine zt_istore_n (pc' := 8) (lv' := [some (.ref (X.1.1 + 33)), some (.int (zI 6)), some (.int (zI r2)), none]) hX dX1_part_7 rfl hL (by decide) rfl ?_
  refine zt_aload_n (pc' := 9) hX dX1_part_8 rfl rfl ?_
  refine zt_get (pc' := 12) (v := .ref (X.1.1 + 27)) hX dX1_part_9 rfl zf_X1_15 (by decide) zc_33 zs_20 (zrf_of (zv_20_0 hI zc_33)) ?_
  refine zt_cVi (pc' := 15) hX dX1_part_12 rfl zm_yX5_kindHere zw_22_22 zc_27 (by decide) zs_14 (q := (RX5, TX5, 9)) rfl rfl (yc_X5_kindHere _ _ σ hI f hT) rfl rfl (Nat.le_of_ble_eq_true rfl) (by decide) (fun r9 s10 hr11 hp12 => ?_)
  obtain ⟨rfl, q13, q14, z15⟩ := hp12
  refine zt_istore_n (pc' := 16) (lv' := [some (.ref (X.1.1 + 33)), some (.int (zI 6)), some (.int (zI r2)), some (.int (zI r9))]) hX dX1_part_15 rfl hL (by decide) rfl ?_
  refine zt_iload_n (pc' := 17) hX dX1_part_16 rfl rfl ?_
  refine zt_iconst (pc' := 18) hX dX1_part_17 rfl ?_
  refine zt_iceq (pc' := 21) (tgt := 26) hX dX1_part_18 rfl (by decide) ⟨by omega, by omega⟩ ⟨by omega, by omega⟩ (fun c16 => ?_) (fun c16 => ?_)
  · refine zt_aload_n (pc' := 27) hX dX1_part_26 rfl rfl ?_
    obtain ⟨k17, ek18, hk19⟩ := zv_20_1 hI zc_33
    refine zt_get (pc' := 30) (v := .ref (X.1.1 + k17)) hX dX1_part_27 rfl zf_X1_19 (by decide) zc_33 zs_20 (zrf_of ek18) ?_
    refine zt_aload_n (pc' := 31) hX dX1_part_30 rfl rfl ?_
    refine zt_get (pc' := 34) (v := .ref (X.1.1 + 27)) hX dX1_part_31 rfl zf_X1_15 (by decide) zc_33 zs_20 (zrf_of (zv_20_0 hI zc_33)) ?_
    refine zt_iconst (pc' := 35) hX dX1_part_34 rfl ?_
    refine zt_sipush (pc' := 38) hX dX1_part_35 rfl (by decide) (by decide) ?_
    refine zt_cVi (pc' := 41) hX dX1_part_38 rfl zm_yX5_takeNumber zw_22_23 zc_27 (by decide) zs_14 (q := (RX5, TX5, 9)) rfl rfl (yc_X5_takeNumber _ _ σ hI 0 ⟨by omega, by omega⟩ 9999 ⟨by omega, by omega⟩ f hT) rfl rfl (Nat.le_of_ble_eq_true rfl) (by decide) (fun r20 s21 hr22 hp23 => ?_)
    obtain ⟨hI24, hF25, q26, q27, hT28, z29, z30, z31⟩ := hp23
    have hE32 : yst s21 = yPn f 0 9999 (yst σ) := z29
    have hF33 := zOn_tr hF hF25 zi_r12
    rw [hE32] at z30
    have L34 : yle (yst σ) (yPn f 0 9999 (yst σ)) := yle_tr L0 (yle_n hT hE0)
    have b35 := zv_20_2 hI24 zc_33
    have e36 := hF25 33 2 rfl
    refine zt_cVv (pc' := 44) hX dX1_part_41 rfl zm_yX4_addNumber zw_23_0 hk19 (by decide) zs_6 (q := (RX4, TX4, 2)) rfl rfl (yc_X4_addNumber _ _ s21 hI24 k17 hk19 r20 ⟨by omega, by omega⟩) rfl rfl (Nat.le_of_ble_eq_true rfl) (by decide) (fun r37 s38 hr39 hp40 => ?_)
    obtain ⟨hI41, hF42⟩ := hp40
    have hF43 := zOn_tr hF33 hF42 zi_rp2
    have hT44 := yTk_rk hT28 (yRk_p hF42)
    have hE45 : yst s38 = yPn f 0 9999 (yst σ) := (yst_rk (yRk_p hF42)).trans hE32
    have b46 := zv_20_2 hI41 zc_33
    have e47 := hF42 33 2 rfl
    refine zt_goto (tgt := 203) hX dX1_part_44 (by decide) ?_
    exact zt_vret hX hR dX1_part_203 ⟨hI41, hF43, hT44, (by rw [hE45]; exact yJ_num (by omega)), (by rw [hE45]; exact L34)⟩
  · refine zt_iload_n (pc' := 22) hX dX1_part_21 rfl rfl ?_
    refine zt_iconst (pc' := 23) hX dX1_part_22 rfl ?_
    refine zt_icne (pc' := 26) (tgt := 47) hX dX1_part_23 rfl (by decide) ⟨by omega, by omega⟩ ⟨by omega, by omega⟩ (fun c48 => ?_) (fun c48 => ?_)
    · refine zt_aload_n (pc' := 48) hX dX1_part_47 rfl rfl ?_
      refine zt_get (pc' := 51) (v := .ref (X.1.1 + 27)) hX dX1_part_48 rfl zf_X1_15 (by decide) zc_33 zs_20 (zrf_of (zv_20_0 hI zc_33)) ?_
      refine zt_cVi (pc' := 54) hX dX1_part_51 rfl zm_yX5_signHere zw_22_2 zc_27 (by decide) zs_14 (q := (RX5, TX5, 9)) rfl rfl (yc_X5_signHere _ _ σ hI f hT) rfl rfl (Nat.le_of_ble_eq_true rfl) (by decide) (fun r49 s50 hr51 hp52 => ?_)
      obtain ⟨rfl, q53, q54, z55⟩ := hp52
      refine zt_bipush (pc' := 56) hX dX1_part_54 rfl (by decide) (by decide) ?_
      refine zt_icne (pc' := 59) (tgt := 86) hX dX1_part_56 rfl (by decide) ⟨by omega, by omega⟩ ⟨by omega, by omega⟩ (fun c56 => ?_) (fun c56 => ?_)
      · refine zt_iload_n (pc' := 87) hX dX1_part_86 rfl rfl ?_
        refine zt_bipush (pc' := 89) hX dX1_part_87 rfl (by decide) (by decide) ?_
        refine zt_iceq (pc' := 92) (tgt := 98) hX dX1_part_89 rfl (by decide) ⟨by omega, by omega⟩ ⟨by omega, by omega⟩ (fun c57 => ?_) (fun c57 => ?_)
        · refine zt_aload_n (pc' := 99) hX dX1_part_98 rfl rfl ?_
          refine zt_get (pc' := 102) (v := .ref (X.1.1 + 27)) hX dX1_part_99 rfl zf_X1_15 (by decide) zc_33 zs_20 (zrf_of (zv_20_0 hI zc_33)) ?_
          refine zt_cVv (pc' := 105) hX dX1_part_102 rfl zm_yX5_step zw_22_6 zc_27 (by decide) zs_14 (q := (RX5, TX5, 9)) rfl rfl (yc_X5_step _ _ σ hI f hT) rfl rfl (Nat.le_of_ble_eq_true rfl) (by decide) (fun r58 s59 hr60 hp61 => ?_)
          obtain ⟨hI62, hF63, hT64, z65⟩ := hp61
          have hE66 : yst s59 = yPx f (yst σ) := z65
          have hF67 := zOn_tr hF hF63 zi_r12
          have L68 : yle (yst σ) (yPx f (yst σ)) := yle_tr L0 (yle_x hT hE0)
          have b69 := zv_20_2 hI62 zc_33
          have e70 := hF63 33 2 rfl
          refine zt_aload_n (pc' := 106) hX dX1_part_105 rfl rfl ?_
          refine zt_iload_n (pc' := 107) hX dX1_part_106 rfl rfl ?_
          refine zt_cVv (pc' := 110) hX dX1_part_107 rfl zm_yX1_pair zw_23_1 zc_33 (by decide) zs_20 (q := (RX1, TX1, 3)) rfl rfl (yc_X1_pair_o6 _ _ s59 hI62 f hT64 rl (by omega) k hk) rfl rfl (Nat.le_of_ble_eq_true rfl) (by decide) (fun r71 s72 hr73 hp74 => ?_)
          obtain ⟨hI75, hF76, hT77, z78, z79⟩ := hp74
          rw [hE66] at z78
          rw [hE66] at z79
          have hF80 := zOn_tr hF67 hF76 zi_id
          obtain ⟨p81, hE82⟩ : ∃ p, yst s72 = p := ⟨_, rfl⟩
          rw [hE82] at z78
          rw [hE82] at z79
          have L83 := yle_tr L68 z79
          have b84 := zv_20_2 hI75 zc_33
          have e85 := hF76 33 2 rfl
          refine zt_aload_n (pc' := 111) hX dX1_part_110 rfl rfl ?_
          obtain ⟨k86, ek87, hk88⟩ := zv_20_1 hI75 zc_33
          refine zt_get (pc' := 114) (v := .ref (X.1.1 + k86)) hX dX1_part_111 rfl zf_X1_19 (by decide) zc_33 zs_20 (zrf_of ek87) ?_
          refine zt_iload_n (pc' := 115) hX dX1_part_114 rfl rfl ?_
          refine zt_cVv (pc' := 118) hX dX1_part_115 rfl zm_yX4_addStep zw_22_7 hk88 (by decide) zs_6 (q := (RX4, TX4, 2)) rfl rfl (yc_X4_addStep _ _ s72 hI75 k86 hk88 r2 ⟨by omega, by omega⟩) rfl rfl (Nat.le_of_ble_eq_true rfl) (by decide) (fun r89 s90 hr91 hp92 => ?_)
          obtain ⟨hI93, hF94⟩ := hp92
          have hF95 := zOn_tr hF80 hF94 zi_rp2
          have hT96 := yTk_rk hT77 (yRk_p hF94)
          have hE97 : yst s90 = p81 := (yst_rk (yRk_p hF94)).trans hE82
          have b98 := zv_20_2 hI93 zc_33
          have e99 := hF94 33 2 rfl
          refine zt_goto (tgt := 203) hX dX1_part_118 (by decide) ?_
          exact zt_vret hX hR dX1_part_203 ⟨hI93, hF95, hT96, (by rw [hE97]; exact yJ_tr (yJ_mm (by omega)) z78), (by rw [hE97]; exact L83)⟩
        · refine zt_iload_n (pc' := 93) hX dX1_part_92 rfl rfl ?_
          refine zt_bipush (pc' := 95) hX dX1_part_93 rfl (by decide) (by decide) ?_
          refine zt_icne (pc' := 98) (tgt := 121) hX dX1_part_95 rfl (by decide) ⟨by omega, by omega⟩ ⟨by omega, by omega⟩ (fun c100 => ?_) (fun c100 => ?_)
          · refine zt_iload_n (pc' := 122) hX dX1_part_121 rfl rfl ?_
            refine zt_bipush (pc' := 124) hX dX1_part_122 rfl (by decide) (by decide) ?_
            refine zt_icne (pc' := 127) (tgt := 162) hX dX1_part_124 rfl (by decide) ⟨by omega, by omega⟩ ⟨by omega, by omega⟩ (fun c101 => ?_) (fun c101 => ?_)
            · refine zt_aload_n (pc' := 163) hX dX1_part_162 rfl rfl ?_
              refine zt_iload_n (pc' := 164) hX dX1_part_163 rfl rfl ?_
              refine zt_cVz (pc' := 167) hX dX1_part_164 rfl zm_yX1_isValue zw_23_7 zc_33 (by decide) zs_20 (q := (RX1, TX1, 3)) rfl rfl (yc_X1_isValue _ _ σ hI r2 ⟨by omega, by omega⟩) rfl rfl (Nat.le_of_ble_eq_true rfl) (by decide) (fun r102 s103 hr104 hp105 => ?_)
              obtain ⟨rfl, q106, q107, z108⟩ := hp105
              rw [hrl, z8] at z108
              refine zt_ifeq (pc' := 170) (tgt := 188) hX dX1_part_167 rfl (by decide) ⟨by omega, by omega⟩ (fun c109 => ?_) (fun c109 => ?_)
              · refine zt_aload_n (pc' := 189) hX dX1_part_188 rfl rfl ?_
                refine zt_get (pc' := 192) (v := .ref (X.1.1 + 27)) hX dX1_part_189 rfl zf_X1_15 (by decide) zc_33 zs_20 (zrf_of (zv_20_0 hI zc_33)) ?_
                refine zt_iconst (pc' := 193) hX dX1_part_192 rfl ?_
                refine zt_aload_n (pc' := 194) hX dX1_part_193 rfl rfl ?_
                refine zt_get (pc' := 197) (v := .ref (X.1.1 + 27)) hX dX1_part_194 rfl zf_X1_15 (by decide) zc_33 zs_20 (zrf_of (zv_20_0 hI zc_33)) ?_
                refine zt_cVi (pc' := 200) hX dX1_part_197 rfl zm_yX5_placeHere zw_22_9 zc_27 (by decide) zs_14 (q := (RX5, TX5, 9)) rfl rfl (yc_X5_placeHere _ _ σ hI f hT) rfl rfl (Nat.le_of_ble_eq_true rfl) (by decide) (fun r110 s111 hr112 hp113 => ?_)
                obtain ⟨rfl, q114, q115, z116⟩ := hp113
                refine zt_cVv (pc' := 203) hX dX1_part_200 rfl zm_yX5_refuse zw_22_10 zc_27 (by decide) zs_14 (q := (RX5, TX5, 9)) rfl rfl (yc_X5_refuse _ _ σ hI 1 ⟨by omega, by omega⟩ r110 ⟨by omega, by omega⟩ (by omega) f hT) rfl rfl (Nat.le_of_ble_eq_true rfl) (by decide) (fun r117 s118 hr119 hp120 => ?_)
                obtain ⟨hI121, hF122, hT123, z124⟩ := hp120
                have hE125 : yst s118 = yPno 1 r110 (yst σ) := z124
                have hF126 := zOn_tr hF hF122 zi_r12
                have L127 : yle (yst σ) (yPno 1 r110 (yst σ)) := yle_tr L0 yle_no
                have b128 := zv_20_2 hI121 zc_33
                have e129 := hF122 33 2 rfl
                exact zt_vret hX hR dX1_part_203 ⟨hI121, hF126, hT123, (by rw [hE125, yPno_f (p := r110) (d := 0) (fun o => by omega)]; exact yJ_bad (by omega) (by omega) (by omega) (by omega) (yVi_0 (by omega))), (by rw [hE125]; exact L127)⟩
              · refine zt_aload_n (pc' := 171) hX dX1_part_170 rfl rfl ?_
                refine zt_get (pc' := 174) (v := .ref (X.1.1 + 27)) hX dX1_part_171 rfl zf_X1_15 (by decide) zc_33 zs_20 (zrf_of (zv_20_0 hI zc_33)) ?_
                refine zt_cVv (pc' := 177) hX dX1_part_174 rfl zm_yX5_step zw_22_6 zc_27 (by decide) zs_14 (q := (RX5, TX5, 9)) rfl rfl (yc_X5_step _ _ σ hI f hT) rfl rfl (Nat.le_of_ble_eq_true rfl) (by decide) (fun r130 s131 hr132 hp133 => ?_)
                obtain ⟨hI134, hF135, hT136, z137⟩ := hp133
                have hE138 : yst s131 = yPx f (yst σ) := z137
                have hF139 := zOn_tr hF hF135 zi_r12
                have L140 : yle (yst σ) (yPx f (yst σ)) := yle_tr L0 (yle_x hT hE0)
                have b141 := zv_20_2 hI134 zc_33
                have e142 := hF135 33 2 rfl
                refine zt_aload_n (pc' := 178) hX dX1_part_177 rfl rfl ?_
                obtain ⟨k143, ek144, hk145⟩ := zv_20_1 hI134 zc_33
                refine zt_get (pc' := 181) (v := .ref (X.1.1 + k143)) hX dX1_part_178 rfl zf_X1_19 (by decide) zc_33 zs_20 (zrf_of ek144) ?_
                refine zt_iload_n (pc' := 182) hX dX1_part_181 rfl rfl ?_
                refine zt_cVv (pc' := 185) hX dX1_part_182 rfl zm_yX4_addStep zw_22_7 hk145 (by decide) zs_6 (q := (RX4, TX4, 2)) rfl rfl (yc_X4_addStep _ _ s131 hI134 k143 hk145 r2 ⟨by omega, by omega⟩) rfl rfl (Nat.le_of_ble_eq_true rfl) (by decide) (fun r146 s147 hr148 hp149 => ?_)
                obtain ⟨hI150, hF151⟩ := hp149
                have hF152 := zOn_tr hF139 hF151 zi_rp2
                have hT153 := yTk_rk hT136 (yRk_p hF151)
                have hE154 : yst s147 = yPx f (yst σ) := (yst_rk (yRk_p hF151)).trans hE138
                have b155 := zv_20_2 hI150 zc_33
                have e156 := hF151 33 2 rfl
                refine zt_goto (tgt := 203) hX dX1_part_185 (by decide) ?_
                exact zt_vret hX hR dX1_part_203 ⟨hI150, hF152, hT153, (by rw [hE154]; exact yJ_val (yVi_1 (by omega))), (by rw [hE154]; exact L140)⟩
            · refine zt_aload_n (pc' := 128) hX dX1_part_127 rfl rfl ?_
              have b157 := zv_20_2 hI zc_33
              refine zt_get (pc' := 131) (v := .int (zI (σ 33 2))) hX dX1_part_128 rfl zf_X1_9 (by decide) zc_33 zs_20 rfl ?_
              refine zt_iconst (pc' := 132) hX dX1_part_131 rfl ?_
              refine zt_icne (pc' := 135) (tgt := 162) hX dX1_part_132 rfl (by decide) ⟨by omega, by omega⟩ ⟨by omega, by omega⟩ (fun c158 => ?_) (fun c158 => ?_)
              · refine zt_aload_n (pc' := 163) hX dX1_part_162 rfl rfl ?_
                refine zt_iload_n (pc' := 164) hX dX1_part_163 rfl rfl ?_
                refine zt_cVz (pc' := 167) hX dX1_part_164 rfl zm_yX1_isValue zw_23_7 zc_33 (by decide) zs_20 (q := (RX1, TX1, 3)) rfl rfl (yc_X1_isValue _ _ σ hI r2 ⟨by omega, by omega⟩) rfl rfl (Nat.le_of_ble_eq_true rfl) (by decide) (fun r159 s160 hr161 hp162 => ?_)
                obtain ⟨rfl, q163, q164, z165⟩ := hp162
                rw [hrl, z8] at z165
                refine zt_ifeq (pc' := 170) (tgt := 188) hX dX1_part_167 rfl (by decide) ⟨by omega, by omega⟩ (fun c166 => ?_) (fun c166 => ?_)
                · refine zt_aload_n (pc' := 189) hX dX1_part_188 rfl rfl ?_
                  refine zt_get (pc' := 192) (v := .ref (X.1.1 + 27)) hX dX1_part_189 rfl zf_X1_15 (by decide) zc_33 zs_20 (zrf_of (zv_20_0 hI zc_33)) ?_
                  refine zt_iconst (pc' := 193) hX dX1_part_192 rfl ?_
                  refine zt_aload_n (pc' := 194) hX dX1_part_193 rfl rfl ?_
                  refine zt_get (pc' := 197) (v := .ref (X.1.1 + 27)) hX dX1_part_194 rfl zf_X1_15 (by decide) zc_33 zs_20 (zrf_of (zv_20_0 hI zc_33)) ?_
                  refine zt_cVi (pc' := 200) hX dX1_part_197 rfl zm_yX5_placeHere zw_22_9 zc_27 (by decide) zs_14 (q := (RX5, TX5, 9)) rfl rfl (yc_X5_placeHere _ _ σ hI f hT) rfl rfl (Nat.le_of_ble_eq_true rfl) (by decide) (fun r167 s168 hr169 hp170 => ?_)
                  obtain ⟨rfl, q171, q172, z173⟩ := hp170
                  refine zt_cVv (pc' := 203) hX dX1_part_200 rfl zm_yX5_refuse zw_22_10 zc_27 (by decide) zs_14 (q := (RX5, TX5, 9)) rfl rfl (yc_X5_refuse _ _ σ hI 1 ⟨by omega, by omega⟩ r167 ⟨by omega, by omega⟩ (by omega) f hT) rfl rfl (Nat.le_of_ble_eq_true rfl) (by decide) (fun r174 s175 hr176 hp177 => ?_)
                  obtain ⟨hI178, hF179, hT180, z181⟩ := hp177
                  have hE182 : yst s175 = yPno 1 r167 (yst σ) := z181
                  have hF183 := zOn_tr hF hF179 zi_r12
                  have L184 : yle (yst σ) (yPno 1 r167 (yst σ)) := yle_tr L0 yle_no
                  have b185 := zv_20_2 hI178 zc_33
                  have e186 := hF179 33 2 rfl
                  exact zt_vret hX hR dX1_part_203 ⟨hI178, hF183, hT180, (by rw [hE182, yPno_f (p := r167) (d := 0) (fun o => by omega)]; exact yJ_bad (by omega) (by omega) (by omega) (by omega) (yVi_0 (by omega))), (by rw [hE182]; exact L184)⟩
                · refine zt_aload_n (pc' := 171) hX dX1_part_170 rfl rfl ?_
                  refine zt_get (pc' := 174) (v := .ref (X.1.1 + 27)) hX dX1_part_171 rfl zf_X1_15 (by decide) zc_33 zs_20 (zrf_of (zv_20_0 hI zc_33)) ?_
                  refine zt_cVv (pc' := 177) hX dX1_part_174 rfl zm_yX5_step zw_22_6 zc_27 (by decide) zs_14 (q := (RX5, TX5, 9)) rfl rfl (yc_X5_step _ _ σ hI f hT) rfl rfl (Nat.le_of_ble_eq_true rfl) (by decide) (fun r187 s188 hr189 hp190 => ?_)
                  obtain ⟨hI191, hF192, hT193, z194⟩ := hp190
                  have hE195 : yst s188 = yPx f (yst σ) := z194
                  have hF196 := zOn_tr hF hF192 zi_r12
                  have L197 : yle (yst σ) (yPx f (yst σ)) := yle_tr L0 (yle_x hT hE0)
                  have b198 := zv_20_2 hI191 zc_33
                  have e199 := hF192 33 2 rfl
                  refine zt_aload_n (pc' := 178) hX dX1_part_177 rfl rfl ?_
                  obtain ⟨k200, ek201, hk202⟩ := zv_20_1 hI191 zc_33
                  refine zt_get (pc' := 181) (v := .ref (X.1.1 + k200)) hX dX1_part_178 rfl zf_X1_19 (by decide) zc_33 zs_20 (zrf_of ek201) ?_
                  refine zt_iload_n (pc' := 182) hX dX1_part_181 rfl rfl ?_
                  refine zt_cVv (pc' := 185) hX dX1_part_182 rfl zm_yX4_addStep zw_22_7 hk202 (by decide) zs_6 (q := (RX4, TX4, 2)) rfl rfl (yc_X4_addStep _ _ s188 hI191 k200 hk202 r2 ⟨by omega, by omega⟩) rfl rfl (Nat.le_of_ble_eq_true rfl) (by decide) (fun r203 s204 hr205 hp206 => ?_)
                  obtain ⟨hI207, hF208⟩ := hp206
                  have hF209 := zOn_tr hF196 hF208 zi_rp2
                  have hT210 := yTk_rk hT193 (yRk_p hF208)
                  have hE211 : yst s204 = yPx f (yst σ) := (yst_rk (yRk_p hF208)).trans hE195
                  have b212 := zv_20_2 hI207 zc_33
                  have e213 := hF208 33 2 rfl
                  refine zt_goto (tgt := 203) hX dX1_part_185 (by decide) ?_
                  exact zt_vret hX hR dX1_part_203 ⟨hI207, hF209, hT210, (by rw [hE211]; exact yJ_val (yVi_1 (by omega))), (by rw [hE211]; exact L197)⟩
              · refine zt_aload_n (pc' := 136) hX dX1_part_135 rfl rfl ?_
                refine zt_iload_n (pc' := 137) hX dX1_part_136 rfl rfl ?_
                refine zt_cVz (pc' := 140) hX dX1_part_137 rfl zm_yX1_opens zw_22_11 zc_33 (by decide) zs_20 (q := (RX1, TX1, 3)) rfl rfl (yc_X1_opens_o6 _ _ σ hI f hT) rfl rfl (Nat.le_of_ble_eq_true rfl) (by decide) (fun r214 s215 hr216 hp217 => ?_)
                obtain ⟨hI218, hF219, q220, q221, hT222, z223⟩ := hp217
                have hE224 : yst s215 = yPf 4 0 (yst σ) := z223
                have hF225 := zOn_tr hF hF219 zi_r12
                have L226 : yle (yst σ) (yPf 4 0 (yst σ)) := yle_tr L0 yle_f
                have b227 := zv_20_2 hI218 zc_33
                have e228 := hF219 33 2 rfl
                refine zt_ifeq (pc' := 143) (tgt := 203) hX dX1_part_140 rfl (by decide) ⟨by omega, by omega⟩ (fun c229 => ?_) (fun c229 => ?_)
                · exact zt_vret hX hR dX1_part_203 ⟨hI218, hF225, hT222, (by rw [hE224]; exact (by first | exact yJ_op6 (by omega) hk | exact yJ_far6 (by omega) (by omega) hk)), (by rw [hE224]; exact L226)⟩
                · exact absurd c229 (by omega)
          · refine zt_aload_n (pc' := 99) hX dX1_part_98 rfl rfl ?_
            refine zt_get (pc' := 102) (v := .ref (X.1.1 + 27)) hX dX1_part_99 rfl zf_X1_15 (by decide) zc_33 zs_20 (zrf_of (zv_20_0 hI zc_33)) ?_
            refine zt_cVv (pc' := 105) hX dX1_part_102 rfl zm_yX5_step zw_22_6 zc_27 (by decide) zs_14 (q := (RX5, TX5, 9)) rfl rfl (yc_X5_step _ _ σ hI f hT) rfl rfl (Nat.le_of_ble_eq_true rfl) (by decide) (fun r230 s231 hr232 hp233 => ?_)
            obtain ⟨hI234, hF235, hT236, z237⟩ := hp233
            have hE238 : yst s231 = yPx f (yst σ) := z237
            have hF239 := zOn_tr hF hF235 zi_r12
            have L240 : yle (yst σ) (yPx f (yst σ)) := yle_tr L0 (yle_x hT hE0)
            have b241 := zv_20_2 hI234 zc_33
            have e242 := hF235 33 2 rfl
            refine zt_aload_n (pc' := 106) hX dX1_part_105 rfl rfl ?_
            refine zt_iload_n (pc' := 107) hX dX1_part_106 rfl rfl ?_
            refine zt_cVv (pc' := 110) hX dX1_part_107 rfl zm_yX1_pair zw_23_1 zc_33 (by decide) zs_20 (q := (RX1, TX1, 3)) rfl rfl (yc_X1_pair_o6 _ _ s231 hI234 f hT236 rl (by omega) k hk) rfl rfl (Nat.le_of_ble_eq_true rfl) (by decide) (fun r243 s244 hr245 hp246 => ?_)
            obtain ⟨hI247, hF248, hT249, z250, z251⟩ := hp246
            rw [hE238] at z250
            rw [hE238] at z251
            have hF252 := zOn_tr hF239 hF248 zi_id
            obtain ⟨p253, hE254⟩ : ∃ p, yst s244 = p := ⟨_, rfl⟩
            rw [hE254] at z250
            rw [hE254] at z251
            have L255 := yle_tr L240 z251
            have b256 := zv_20_2 hI247 zc_33
            have e257 := hF248 33 2 rfl
            refine zt_aload_n (pc' := 111) hX dX1_part_110 rfl rfl ?_
            obtain ⟨k258, ek259, hk260⟩ := zv_20_1 hI247 zc_33
            refine zt_get (pc' := 114) (v := .ref (X.1.1 + k258)) hX dX1_part_111 rfl zf_X1_19 (by decide) zc_33 zs_20 (zrf_of ek259) ?_
            refine zt_iload_n (pc' := 115) hX dX1_part_114 rfl rfl ?_
            refine zt_cVv (pc' := 118) hX dX1_part_115 rfl zm_yX4_addStep zw_22_7 hk260 (by decide) zs_6 (q := (RX4, TX4, 2)) rfl rfl (yc_X4_addStep _ _ s244 hI247 k258 hk260 r2 ⟨by omega, by omega⟩) rfl rfl (Nat.le_of_ble_eq_true rfl) (by decide) (fun r261 s262 hr263 hp264 => ?_)
            obtain ⟨hI265, hF266⟩ := hp264
            have hF267 := zOn_tr hF252 hF266 zi_rp2
            have hT268 := yTk_rk hT249 (yRk_p hF266)
            have hE269 : yst s262 = p253 := (yst_rk (yRk_p hF266)).trans hE254
            have b270 := zv_20_2 hI265 zc_33
            have e271 := hF266 33 2 rfl
            refine zt_goto (tgt := 203) hX dX1_part_118 (by decide) ?_
            exact zt_vret hX hR dX1_part_203 ⟨hI265, hF267, hT268, (by rw [hE269]; exact yJ_tr (yJ_mm (by omega)) z250), (by rw [hE269]; exact L255)⟩
      · refine zt_aload_n (pc' := 60) hX dX1_part_59 rfl rfl ?_
        refine zt_iload_n (pc' := 61) hX dX1_part_60 rfl rfl ?_
        refine zt_cVz (pc' := 64) hX dX1_part_61 rfl zm_yX1_opens zw_22_11 zc_33 (by decide) zs_20 (q := (RX1, TX1, 3)) rfl rfl (yc_X1_opens_o6 _ _ σ hI f hT) rfl rfl (Nat.le_of_ble_eq_true rfl) (by decide) (fun r272 s273 hr274 hp275 => ?_)
        obtain ⟨hI276, hF277, q278, q279, hT280, z281⟩ := hp275
        have hE282 : yst s273 = yPf 4 0 (yst σ) := z281
        have hF283 := zOn_tr hF hF277 zi_r12
        have L284 : yle (yst σ) (yPf 4 0 (yst σ)) := yle_tr L0 yle_f
        have b285 := zv_20_2 hI276 zc_33
        have e286 := hF277 33 2 rfl
        refine zt_ifeq (pc' := 67) (tgt := 203) hX dX1_part_64 rfl (by decide) ⟨by omega, by omega⟩ (fun c287 => ?_) (fun c287 => ?_)
        · exact zt_vret hX hR dX1_part_203 ⟨hI276, hF283, hT280, (by rw [hE282]; exact (by first | exact yJ_op6 (by omega) hk | exact yJ_far6 (by omega) (by omega) hk)), (by rw [hE282]; exact L284)⟩
        · exact absurd c287 (by omega)
    · refine zt_aload_n (pc' := 27) hX dX1_part_26 rfl rfl ?_
      obtain ⟨k288, ek289, hk290⟩ := zv_20_1 hI zc_33
      refine zt_get (pc' := 30) (v := .ref (X.1.1 + k288)) hX dX1_part_27 rfl zf_X1_19 (by decide) zc_33 zs_20 (zrf_of ek289) ?_
      refine zt_aload_n (pc' := 31) hX dX1_part_30 rfl rfl ?_
      refine zt_get (pc' := 34) (v := .ref (X.1.1 + 27)) hX dX1_part_31 rfl zf_X1_15 (by decide) zc_33 zs_20 (zrf_of (zv_20_0 hI zc_33)) ?_
      refine zt_iconst (pc' := 35) hX dX1_part_34 rfl ?_
      refine zt_sipush (pc' := 38) hX dX1_part_35 rfl (by decide) (by decide) ?_
      refine zt_cVi (pc' := 41) hX dX1_part_38 rfl zm_yX5_takeNumber zw_22_23 zc_27 (by decide) zs_14 (q := (RX5, TX5, 9)) rfl rfl (yc_X5_takeNumber _ _ σ hI 0 ⟨by omega, by omega⟩ 9999 ⟨by omega, by omega⟩ f hT) rfl rfl (Nat.le_of_ble_eq_true rfl) (by decide) (fun r291 s292 hr293 hp294 => ?_)
      obtain ⟨hI295, hF296, q297, q298, hT299, z300, z301, z302⟩ := hp294
      have hE303 : yst s292 = yPn f 0 9999 (yst σ) := z300
      have hF304 := zOn_tr hF hF296 zi_r12
      rw [hE303] at z301
      have L305 : yle (yst σ) (yPn f 0 9999 (yst σ)) := yle_tr L0 (yle_n hT hE0)
      have b306 := zv_20_2 hI295 zc_33
      have e307 := hF296 33 2 rfl
      refine zt_cVv (pc' := 44) hX dX1_part_41 rfl zm_yX4_addNumber zw_23_0 hk290 (by decide) zs_6 (q := (RX4, TX4, 2)) rfl rfl (yc_X4_addNumber _ _ s292 hI295 k288 hk290 r291 ⟨by omega, by omega⟩) rfl rfl (Nat.le_of_ble_eq_true rfl) (by decide) (fun r308 s309 hr310 hp311 => ?_)
      obtain ⟨hI312, hF313⟩ := hp311
      have hF314 := zOn_tr hF304 hF313 zi_rp2
      have hT315 := yTk_rk hT299 (yRk_p hF313)
      have hE316 : yst s309 = yPn f 0 9999 (yst σ) := (yst_rk (yRk_p hF313)).trans hE303
      have b317 := zv_20_2 hI312 zc_33
      have e318 := hF313 33 2 rfl
      refine zt_goto (tgt := 203) hX dX1_part_44 (by decide) ?_
      exact zt_vret hX hR dX1_part_203 ⟨hI312, hF314, hT315, (by rw [hE316]; exact yJ_num (by omega)), (by rw [hE316]; exact L305)⟩
set_option maxRecDepth 100000 in
set_option maxHeartbeats 4000000 in
theorem yc_X1_product_o6 (l : Launch) (E : zEN) (σ : zSto) (hI : zInv σ) (f : Int → Int) (hT : yTk f σ) (rl : Int) (hrl : σ 33 2 = rl) (k : List Nat) (hk : ydep k = 6) (ht : ytop k ≠ 4) : zCt l E yX1_product cX1_product 4 none 4 zNC zNC 0 0 σ [.ref (E.1 + 33), .int (zI 6)] (fun r σ' => zInv σ' ∧ zOn zR2 σ σ' ∧ yTk f σ' ∧ (yJ rl f (1, k, (yst σ)) (2, k, (yst σ'))) ∧ (yle (yst σ) (yst σ')) ∧ (yPg f (yst σ') ≠ 42 ∧ yPg f (yst σ') ≠ 47)) := by
  refine zCt_of2 [some (.ref (E.1 + 33)), some (.int (zI 6)), none, none] (by decide +kernel) (Nat.le_of_ble_eq_true rfl) rfl ?_
  intro X hE_ hX hR hL hN
  subst hE_
  have hX : zok X cX1_product RX1 4 := hX
  have hF := zOn_rf zR2 σ
  have hE0 : yst σ = yst σ := rfl
  have L0 := yle_rf (yst σ)
  have b1 := zv_20_2 hI zc_33
  refine zt_aload_n (pc' := 1) hX dX1_product_0 rfl rfl ?_
  refine zt_iload_n (pc' := 2) hX dX1_product_1 rfl rfl ?_
  refine zt_cVv (pc' := 5) hX dX1_product_2 rfl zm_yX1_part zw_23_4 zc_33 (by decide) zs_20 (q := (RX1, TX1, 3)) rfl rfl (yc_X1_part_o6 _ _ σ hI f hT rl (by omega) k hk) rfl rfl (Nat.le_of_ble_eq_true rfl) (by decide) (fun r2 s3 hr4 hp5 => ?_)
  obtain ⟨hI6, hF7, hT8, z9, z10⟩ := hp5
  have hF11 := zOn_tr hF hF7 zi_id
  obtain ⟨p12, hE13⟩ : ∃ p, yst s3 = p := ⟨_, rfl⟩
  rw [hE13] at z9
  rw [hE13] at z10
  have L14 := yle_tr L0 z10
  have b15 := zv_20_2 hI6 zc_33
  have e16 := hF7 33 2 rfl
  have g17 := z9
  refine zt_iconst (pc' := 6) hX dX1_product_5 rfl ?_
  refine zt_istore_n (pc' := 7) (lv' := [some (.ref (X.1.1 + 33)), some (.int (zI 6)), some (.int (zI 0)), none]) hX dX1_product_6 rfl hL (by decide) rfl ?_
  have L_7_30 : ∀ (N : Nat) (x18 : Int) (s21 : zSto) (p24 : yP), 0 ≤ x18 → x18 ≤ 1600 → zInv s21 → zOn zR2 σ s21 → yTk f s21 → yst s21 = p24 → s21 33 2 = σ 33 2 → yJ rl f (1, k, yst σ) (2, k, p24) → yle (yst σ) p24 → yge x18 p24 → ((1601 - x18).toNat) < N → zF X s21 7 [some (.ref (X.1.1 + 33)), some (.int (zI 6)), some (.int (zI x18)), none] [] := by
    intro N
    induction N with
    | zero =>
      intro x18 s21 p24 h19 h20 hI22 hF23 hT25 hE26 g27 g28 g29 g30 hm32
      exact absurd hm32 (Nat.not_lt_zero _)
    | succ N ih33 =>
      intro x18 s21 p24 h19 h20 hI22 hF23 hT25 hE26 g27 g28 g29 g30 hm32
      have b34 := zv_20_2 hI22 zc_33
      have hx := yge_x hT25 hE26 g30
      refine zt_iload_n (pc' := 8) hX dX1_product_7 rfl rfl ?_
      refine zt_sipush (pc' := 11) hX dX1_product_8 rfl (by decide) (by decide) ?_
      refine zt_icge (pc' := 14) (tgt := 72) hX dX1_product_11 rfl (by decide) ⟨by omega, by omega⟩ ⟨by omega, by omega⟩ (fun c35 => ?_) (fun c35 => ?_)
      · exact zt_vret hX hR dX1_product_72 ⟨hI22, hF23, hT25, (by rw [hE26]; exact g28), (by rw [hE26]; exact g29), (by rw [hE26]; omega)⟩
      · refine zt_aload_n (pc' := 15) hX dX1_product_14 rfl rfl ?_
        refine zt_get (pc' := 18) (v := .ref (X.1.1 + 27)) hX dX1_product_15 rfl zf_X1_15 (by decide) zc_33 zs_20 (zrf_of (zv_20_0 hI22 zc_33)) ?_
        refine zt_cVi (pc' := 21) hX dX1_product_18 rfl zm_yX5_signHere zw_22_2 zc_27 (by decide) zs_14 (q := (RX5, TX5, 9)) rfl rfl (yc_X5_signHere _ _ s21 hI22 f hT25) rfl rfl (Nat.le_of_ble_eq_true rfl) (by decide) (fun r36 s37 hr38 hp39 => ?_)
        obtain ⟨rfl, q40, q41, z42⟩ := hp39
        rw [hE26] at z42
        refine zt_bipush (pc' := 23) hX dX1_product_21 rfl (by decide) (by decide) ?_
        refine zt_iceq (pc' := 26) (tgt := 38) hX dX1_product_23 rfl (by decide) ⟨by omega, by omega⟩ ⟨by omega, by omega⟩ (fun c43 => ?_) (fun c43 => ?_)
        · refine zt_aload_n (pc' := 39) hX dX1_product_38 rfl rfl ?_
          refine zt_get (pc' := 42) (v := .ref (X.1.1 + 27)) hX dX1_product_39 rfl zf_X1_15 (by decide) zc_33 zs_20 (zrf_of (zv_20_0 hI22 zc_33)) ?_
          refine zt_cVi (pc' := 45) hX dX1_product_42 rfl zm_yX5_signHere zw_22_2 zc_27 (by decide) zs_14 (q := (RX5, TX5, 9)) rfl rfl (yc_X5_signHere _ _ s21 hI22 f hT25) rfl rfl (Nat.le_of_ble_eq_true rfl) (by decide) (fun r44 s45 hr46 hp47 => ?_)
          obtain ⟨rfl, q48, q49, z50⟩ := hp47
          rw [hE26] at z50
          refine zt_istore_n (pc' := 46) (lv' := [some (.ref (X.1.1 + 33)), some (.int (zI 6)), some (.int (zI x18)), some (.int (zI r44))]) hX dX1_product_45 rfl hL (by decide) rfl ?_
          refine zt_aload_n (pc' := 47) hX dX1_product_46 rfl rfl ?_
          refine zt_get (pc' := 50) (v := .ref (X.1.1 + 27)) hX dX1_product_47 rfl zf_X1_15 (by decide) zc_33 zs_20 (zrf_of (zv_20_0 hI22 zc_33)) ?_
          refine zt_cVv (pc' := 53) hX dX1_product_50 rfl zm_yX5_step zw_22_6 zc_27 (by decide) zs_14 (q := (RX5, TX5, 9)) rfl rfl (yc_X5_step _ _ s21 hI22 f hT25) rfl rfl (Nat.le_of_ble_eq_true rfl) (by decide) (fun r51 s52 hr53 hp54 => ?_)
          obtain ⟨hI55, hF56, hT57, z58⟩ := hp54
          have hE59 : yst s52 = yPx f p24 := by rw [z58, hE26]
          have hF60 := zOn_tr hF23 hF56 zi_r12
          have L61 : yle (yst σ) (yPx f p24) := yle_tr g29 (yle_x hT25 hE26)
          have b62 := zv_20_2 hI55 zc_33
          have e63 := hF56 33 2 rfl
          have g64 := yJ_tr g28 (yJ_o ht (by omega))
          have I65 := yge_1 hT25 hE26 g30 (by omega)
          refine zt_aload_n (pc' := 54) hX dX1_product_53 rfl rfl ?_
          refine zt_iload_n (pc' := 55) hX dX1_product_54 rfl rfl ?_
          refine zt_cVv (pc' := 58) hX dX1_product_55 rfl zm_yX1_part zw_23_4 zc_33 (by decide) zs_20 (q := (RX1, TX1, 3)) rfl rfl (yc_X1_part_o6 _ _ s52 hI55 f hT57 rl (by omega) k hk) rfl rfl (Nat.le_of_ble_eq_true rfl) (by decide) (fun r66 s67 hr68 hp69 => ?_)
          obtain ⟨hI70, hF71, hT72, z73, z74⟩ := hp69
          rw [hE59] at z73
          rw [hE59] at z74
          have hF75 := zOn_tr hF60 hF71 zi_id
          obtain ⟨p76, hE77⟩ : ∃ p, yst s67 = p := ⟨_, rfl⟩
          rw [hE77] at z73
          rw [hE77] at z74
          have L78 := yle_tr L61 z74
          have b79 := zv_20_2 hI70 zc_33
          have e80 := hF71 33 2 rfl
          have g81 := yJ_tr g64 z73
          have I82 := yge_l I65 z74
          refine zt_aload_n (pc' := 59) hX dX1_product_58 rfl rfl ?_
          obtain ⟨k83, ek84, hk85⟩ := zv_20_1 hI70 zc_33
          refine zt_get (pc' := 62) (v := .ref (X.1.1 + k83)) hX dX1_product_59 rfl zf_X1_19 (by decide) zc_33 zs_20 (zrf_of ek84) ?_
          refine zt_iload_n (pc' := 63) hX dX1_product_62 rfl rfl ?_
          refine zt_cVv (pc' := 66) hX dX1_product_63 rfl zm_yX4_addStep zw_22_7 hk85 (by decide) zs_6 (q := (RX4, TX4, 2)) rfl rfl (yc_X4_addStep _ _ s67 hI70 k83 hk85 r44 ⟨by omega, by omega⟩) rfl rfl (Nat.le_of_ble_eq_true rfl) (by decide) (fun r86 s87 hr88 hp89 => ?_)
          obtain ⟨hI90, hF91⟩ := hp89
          have hF92 := zOn_tr hF75 hF91 zi_rp2
          have hT93 := yTk_rk hT72 (yRk_p hF91)
          have hE94 : yst s87 = p76 := (yst_rk (yRk_p hF91)).trans hE77
          have b95 := zv_20_2 hI90 zc_33
          have e96 := hF91 33 2 rfl
          refine zt_iinc (pc' := 69) (lv' := [some (.ref (X.1.1 + 33)), some (.int (zI 6)), some (.int (zI (x18 + 1))), some (.int (zI r44))]) hX dX1_product_66 rfl rfl hL (by decide) rfl ?_
          refine zt_goto (tgt := 7) hX dX1_product_69 (by decide) ?_
          refine zt_mask [true, true, true, false] rfl ?_
          exact ih33 (x18 + 1) s87 p76 (by omega) (by omega) hI90 hF92 hT93 hE94 (by omega) g81 L78 I82 (by omega)
        · refine zt_aload_n (pc' := 27) hX dX1_product_26 rfl rfl ?_
          refine zt_get (pc' := 30) (v := .ref (X.1.1 + 27)) hX dX1_product_27 rfl zf_X1_15 (by decide) zc_33 zs_20 (zrf_of (zv_20_0 hI22 zc_33)) ?_
          refine zt_cVi (pc' := 33) hX dX1_product_30 rfl zm_yX5_signHere zw_22_2 zc_27 (by decide) zs_14 (q := (RX5, TX5, 9)) rfl rfl (yc_X5_signHere _ _ s21 hI22 f hT25) rfl rfl (Nat.le_of_ble_eq_true rfl) (by decide) (fun r97 s98 hr99 hp100 => ?_)
          obtain ⟨rfl, q101, q102, z103⟩ := hp100
          rw [hE26] at z103
          refine zt_bipush (pc' := 35) hX dX1_product_33 rfl (by decide) (by decide) ?_
          refine zt_icne (pc' := 38) (tgt := 72) hX dX1_product_35 rfl (by decide) ⟨by omega, by omega⟩ ⟨by omega, by omega⟩ (fun c104 => ?_) (fun c104 => ?_)
          · exact zt_vret hX hR dX1_product_72 ⟨hI22, hF23, hT25, (by rw [hE26]; exact g28), (by rw [hE26]; exact g29), (by rw [hE26]; omega)⟩
          · refine zt_aload_n (pc' := 39) hX dX1_product_38 rfl rfl ?_
            refine zt_get (pc' := 42) (v := .ref (X.1.1 + 27)) hX dX1_product_39 rfl zf_X1_15 (by decide) zc_33 zs_20 (zrf_of (zv_20_0 hI22 zc_33)) ?_
            refine zt_cVi (pc' := 45) hX dX1_product_42 rfl zm_yX5_signHere zw_22_2 zc_27 (by decide) zs_14 (q := (RX5, TX5, 9)) rfl rfl (yc_X5_signHere _ _ s21 hI22 f hT25) rfl rfl (Nat.le_of_ble_eq_true rfl) (by decide) (fun r105 s106 hr107 hp108 => ?_)
            obtain ⟨rfl, q109, q110, z111⟩ := hp108
            rw [hE26] at z111
            refine zt_istore_n (pc' := 46) (lv' := [some (.ref (X.1.1 + 33)), some (.int (zI 6)), some (.int (zI x18)), some (.int (zI r105))]) hX dX1_product_45 rfl hL (by decide) rfl ?_
            refine zt_aload_n (pc' := 47) hX dX1_product_46 rfl rfl ?_
            refine zt_get (pc' := 50) (v := .ref (X.1.1 + 27)) hX dX1_product_47 rfl zf_X1_15 (by decide) zc_33 zs_20 (zrf_of (zv_20_0 hI22 zc_33)) ?_
            refine zt_cVv (pc' := 53) hX dX1_product_50 rfl zm_yX5_step zw_22_6 zc_27 (by decide) zs_14 (q := (RX5, TX5, 9)) rfl rfl (yc_X5_step _ _ s21 hI22 f hT25) rfl rfl (Nat.le_of_ble_eq_true rfl) (by decide) (fun r112 s113 hr114 hp115 => ?_)
            obtain ⟨hI116, hF117, hT118, z119⟩ := hp115
            have hE120 : yst s113 = yPx f p24 := by rw [z119, hE26]
            have hF121 := zOn_tr hF23 hF117 zi_r12
            have L122 : yle (yst σ) (yPx f p24) := yle_tr g29 (yle_x hT25 hE26)
            have b123 := zv_20_2 hI116 zc_33
            have e124 := hF117 33 2 rfl
            have g125 := yJ_tr g28 (yJ_o ht (by omega))
            have I126 := yge_1 hT25 hE26 g30 (by omega)
            refine zt_aload_n (pc' := 54) hX dX1_product_53 rfl rfl ?_
            refine zt_iload_n (pc' := 55) hX dX1_product_54 rfl rfl ?_
            refine zt_cVv (pc' := 58) hX dX1_product_55 rfl zm_yX1_part zw_23_4 zc_33 (by decide) zs_20 (q := (RX1, TX1, 3)) rfl rfl (yc_X1_part_o6 _ _ s113 hI116 f hT118 rl (by omega) k hk) rfl rfl (Nat.le_of_ble_eq_true rfl) (by decide) (fun r127 s128 hr129 hp130 => ?_)
            obtain ⟨hI131, hF132, hT133, z134, z135⟩ := hp130
            rw [hE120] at z134
            rw [hE120] at z135
            have hF136 := zOn_tr hF121 hF132 zi_id
            obtain ⟨p137, hE138⟩ : ∃ p, yst s128 = p := ⟨_, rfl⟩
            rw [hE138] at z134
            rw [hE138] at z135
            have L139 := yle_tr L122 z135
            have b140 := zv_20_2 hI131 zc_33
            have e141 := hF132 33 2 rfl
            have g142 := yJ_tr g125 z134
            have I143 := yge_l I126 z135
            refine zt_aload_n (pc' := 59) hX dX1_product_58 rfl rfl ?_
            obtain ⟨k144, ek145, hk146⟩ := zv_20_1 hI131 zc_33
            refine zt_get (pc' := 62) (v := .ref (X.1.1 + k144)) hX dX1_product_59 rfl zf_X1_19 (by decide) zc_33 zs_20 (zrf_of ek145) ?_
            refine zt_iload_n (pc' := 63) hX dX1_product_62 rfl rfl ?_
            refine zt_cVv (pc' := 66) hX dX1_product_63 rfl zm_yX4_addStep zw_22_7 hk146 (by decide) zs_6 (q := (RX4, TX4, 2)) rfl rfl (yc_X4_addStep _ _ s128 hI131 k144 hk146 r105 ⟨by omega, by omega⟩) rfl rfl (Nat.le_of_ble_eq_true rfl) (by decide) (fun r147 s148 hr149 hp150 => ?_)
            obtain ⟨hI151, hF152⟩ := hp150
            have hF153 := zOn_tr hF136 hF152 zi_rp2
            have hT154 := yTk_rk hT133 (yRk_p hF152)
            have hE155 : yst s148 = p137 := (yst_rk (yRk_p hF152)).trans hE138
            have b156 := zv_20_2 hI151 zc_33
            have e157 := hF152 33 2 rfl
            refine zt_iinc (pc' := 69) (lv' := [some (.ref (X.1.1 + 33)), some (.int (zI 6)), some (.int (zI (x18 + 1))), some (.int (zI r105))]) hX dX1_product_66 rfl rfl hL (by decide) rfl ?_
            refine zt_goto (tgt := 7) hX dX1_product_69 (by decide) ?_
            refine zt_mask [true, true, true, false] rfl ?_
            exact ih33 (x18 + 1) s148 p137 (by omega) (by omega) hI151 hF153 hT154 hE155 (by omega) g142 L139 I143 (by omega)
  exact L_7_30 _ 0 s3 p12 (by omega) (by omega) hI6 hF11 hT8 hE13 (by omega) g17 L14 (yge_0 hT8 hE13) (Nat.lt_succ_self _)
set_option maxRecDepth 100000 in
set_option maxHeartbeats 4000000 in
theorem yc_X1_sum_o6 (l : Launch) (E : zEN) (σ : zSto) (hI : zInv σ) (f : Int → Int) (hT : yTk f σ) (rl : Int) (hrl : σ 33 2 = rl) (k : List Nat) (hk : ydep k = 6) (ht : ytop k ≠ 4) : zCt l E yX1_sum cX1_sum 4 none 5 zNC zNC 0 0 σ [.ref (E.1 + 33), .int (zI 6)] (fun r σ' => zInv σ' ∧ zOn zR2 σ σ' ∧ yTk f σ' ∧ (yJ rl f (1, k, (yst σ)) (2, k, (yst σ'))) ∧ (yle (yst σ) (yst σ')) ∧ (yPg f (yst σ') ≠ 42 ∧ yPg f (yst σ') ≠ 47 ∧ yPg f (yst σ') ≠ 43 ∧ yPg f (yst σ') ≠ 45)) := by
  refine zCt_of2 [some (.ref (E.1 + 33)), some (.int (zI 6)), none, none] (by decide +kernel) (Nat.le_of_ble_eq_true rfl) rfl ?_
  intro X hE_ hX hR hL hN
  subst hE_
  have hX : zok X cX1_sum RX1 5 := hX
  have hF := zOn_rf zR2 σ
  have hE0 : yst σ = yst σ := rfl
  have L0 := yle_rf (yst σ)
  have b1 := zv_20_2 hI zc_33
  refine zt_aload_n (pc' := 1) hX dX1_sum_0 rfl rfl ?_
  refine zt_iload_n (pc' := 2) hX dX1_sum_1 rfl rfl ?_
  refine zt_cVv (pc' := 5) hX dX1_sum_2 rfl zm_yX1_product zw_21_23 zc_33 (by decide) zs_20 (q := (RX1, TX1, 3)) rfl rfl (yc_X1_product_o6 _ _ σ hI f hT rl (by omega) k hk ht) rfl rfl (Nat.le_of_ble_eq_true rfl) (by decide) (fun r2 s3 hr4 hp5 => ?_)
  obtain ⟨hI6, hF7, hT8, z9, z10, z11⟩ := hp5
  have hF12 := zOn_tr hF hF7 zi_id
  obtain ⟨p13, hE14⟩ : ∃ p, yst s3 = p := ⟨_, rfl⟩
  rw [hE14] at z9
  rw [hE14] at z10
  have L15 := yle_tr L0 z10
  rw [hE14] at z11
  have b16 := zv_20_2 hI6 zc_33
  have e17 := hF7 33 2 rfl
  have g18 := z9
  refine zt_iconst (pc' := 6) hX dX1_sum_5 rfl ?_
  refine zt_istore_n (pc' := 7) (lv' := [some (.ref (X.1.1 + 33)), some (.int (zI 6)), some (.int (zI 0)), none]) hX dX1_sum_6 rfl hL (by decide) rfl ?_
  have L_7_32 : ∀ (N : Nat) (x19 : Int) (s22 : zSto) (p25 : yP), 0 ≤ x19 → x19 ≤ 1600 → zInv s22 → zOn zR2 σ s22 → yTk f s22 → yst s22 = p25 → (yPg f p25 ≠ 42 ∧ yPg f p25 ≠ 47) → s22 33 2 = σ 33 2 → yJ rl f (1, k, yst σ) (2, k, p25) → yle (yst σ) p25 → yge x19 p25 → ((1601 - x19).toNat) < N → zF X s22 7 [some (.ref (X.1.1 + 33)), some (.int (zI 6)), some (.int (zI x19)), none] [] := by
    intro N
    induction N with
    | zero =>
      intro x19 s22 p25 h20 h21 hI23 hF24 hT26 hE27 g28 g29 g30 g31 g32 hm34
      exact absurd hm34 (Nat.not_lt_zero _)
    | succ N ih35 =>
      intro x19 s22 p25 h20 h21 hI23 hF24 hT26 hE27 g28 g29 g30 g31 g32 hm34
      have b36 := zv_20_2 hI23 zc_33
      have hx := yge_x hT26 hE27 g32
      refine zt_iload_n (pc' := 8) hX dX1_sum_7 rfl rfl ?_
      refine zt_sipush (pc' := 11) hX dX1_sum_8 rfl (by decide) (by decide) ?_
      refine zt_icge (pc' := 14) (tgt := 72) hX dX1_sum_11 rfl (by decide) ⟨by omega, by omega⟩ ⟨by omega, by omega⟩ (fun c37 => ?_) (fun c37 => ?_)
      · exact zt_vret hX hR dX1_sum_72 ⟨hI23, hF24, hT26, (by rw [hE27]; exact g30), (by rw [hE27]; exact g31), (by rw [hE27]; omega)⟩
      · refine zt_aload_n (pc' := 15) hX dX1_sum_14 rfl rfl ?_
        refine zt_get (pc' := 18) (v := .ref (X.1.1 + 27)) hX dX1_sum_15 rfl zf_X1_15 (by decide) zc_33 zs_20 (zrf_of (zv_20_0 hI23 zc_33)) ?_
        refine zt_cVi (pc' := 21) hX dX1_sum_18 rfl zm_yX5_signHere zw_22_2 zc_27 (by decide) zs_14 (q := (RX5, TX5, 9)) rfl rfl (yc_X5_signHere _ _ s22 hI23 f hT26) rfl rfl (Nat.le_of_ble_eq_true rfl) (by decide) (fun r38 s39 hr40 hp41 => ?_)
        obtain ⟨rfl, q42, q43, z44⟩ := hp41
        rw [hE27] at z44
        refine zt_bipush (pc' := 23) hX dX1_sum_21 rfl (by decide) (by decide) ?_
        refine zt_iceq (pc' := 26) (tgt := 38) hX dX1_sum_23 rfl (by decide) ⟨by omega, by omega⟩ ⟨by omega, by omega⟩ (fun c45 => ?_) (fun c45 => ?_)
        · refine zt_aload_n (pc' := 39) hX dX1_sum_38 rfl rfl ?_
          refine zt_get (pc' := 42) (v := .ref (X.1.1 + 27)) hX dX1_sum_39 rfl zf_X1_15 (by decide) zc_33 zs_20 (zrf_of (zv_20_0 hI23 zc_33)) ?_
          refine zt_cVi (pc' := 45) hX dX1_sum_42 rfl zm_yX5_signHere zw_22_2 zc_27 (by decide) zs_14 (q := (RX5, TX5, 9)) rfl rfl (yc_X5_signHere _ _ s22 hI23 f hT26) rfl rfl (Nat.le_of_ble_eq_true rfl) (by decide) (fun r46 s47 hr48 hp49 => ?_)
          obtain ⟨rfl, q50, q51, z52⟩ := hp49
          rw [hE27] at z52
          refine zt_istore_n (pc' := 46) (lv' := [some (.ref (X.1.1 + 33)), some (.int (zI 6)), some (.int (zI x19)), some (.int (zI r46))]) hX dX1_sum_45 rfl hL (by decide) rfl ?_
          refine zt_aload_n (pc' := 47) hX dX1_sum_46 rfl rfl ?_
          refine zt_get (pc' := 50) (v := .ref (X.1.1 + 27)) hX dX1_sum_47 rfl zf_X1_15 (by decide) zc_33 zs_20 (zrf_of (zv_20_0 hI23 zc_33)) ?_
          refine zt_cVv (pc' := 53) hX dX1_sum_50 rfl zm_yX5_step zw_22_6 zc_27 (by decide) zs_14 (q := (RX5, TX5, 9)) rfl rfl (yc_X5_step _ _ s22 hI23 f hT26) rfl rfl (Nat.le_of_ble_eq_true rfl) (by decide) (fun r53 s54 hr55 hp56 => ?_)
          obtain ⟨hI57, hF58, hT59, z60⟩ := hp56
          have hE61 : yst s54 = yPx f p25 := by rw [z60, hE27]
          have hF62 := zOn_tr hF24 hF58 zi_r12
          have L63 : yle (yst σ) (yPx f p25) := yle_tr g31 (yle_x hT26 hE27)
          have b64 := zv_20_2 hI57 zc_33
          have e65 := hF58 33 2 rfl
          have g66 := yJ_tr g30 (yJ_o ht (by omega))
          have I67 := yge_1 hT26 hE27 g32 (by omega)
          refine zt_aload_n (pc' := 54) hX dX1_sum_53 rfl rfl ?_
          refine zt_iload_n (pc' := 55) hX dX1_sum_54 rfl rfl ?_
          refine zt_cVv (pc' := 58) hX dX1_sum_55 rfl zm_yX1_product zw_21_23 zc_33 (by decide) zs_20 (q := (RX1, TX1, 3)) rfl rfl (yc_X1_product_o6 _ _ s54 hI57 f hT59 rl (by omega) k hk ht) rfl rfl (Nat.le_of_ble_eq_true rfl) (by decide) (fun r68 s69 hr70 hp71 => ?_)
          obtain ⟨hI72, hF73, hT74, z75, z76, z77⟩ := hp71
          rw [hE61] at z75
          rw [hE61] at z76
          have hF78 := zOn_tr hF62 hF73 zi_id
          obtain ⟨p79, hE80⟩ : ∃ p, yst s69 = p := ⟨_, rfl⟩
          rw [hE80] at z75
          rw [hE80] at z76
          have L81 := yle_tr L63 z76
          rw [hE80] at z77
          have b82 := zv_20_2 hI72 zc_33
          have e83 := hF73 33 2 rfl
          have g84 := yJ_tr g66 z75
          have I85 := yge_l I67 z76
          refine zt_aload_n (pc' := 59) hX dX1_sum_58 rfl rfl ?_
          obtain ⟨k86, ek87, hk88⟩ := zv_20_1 hI72 zc_33
          refine zt_get (pc' := 62) (v := .ref (X.1.1 + k86)) hX dX1_sum_59 rfl zf_X1_19 (by decide) zc_33 zs_20 (zrf_of ek87) ?_
          refine zt_iload_n (pc' := 63) hX dX1_sum_62 rfl rfl ?_
          refine zt_cVv (pc' := 66) hX dX1_sum_63 rfl zm_yX4_addStep zw_22_7 hk88 (by decide) zs_6 (q := (RX4, TX4, 2)) rfl rfl (yc_X4_addStep _ _ s69 hI72 k86 hk88 r46 ⟨by omega, by omega⟩) rfl rfl (Nat.le_of_ble_eq_true rfl) (by decide) (fun r89 s90 hr91 hp92 => ?_)
          obtain ⟨hI93, hF94⟩ := hp92
          have hF95 := zOn_tr hF78 hF94 zi_rp2
          have hT96 := yTk_rk hT74 (yRk_p hF94)
          have hE97 : yst s90 = p79 := (yst_rk (yRk_p hF94)).trans hE80
          have b98 := zv_20_2 hI93 zc_33
          have e99 := hF94 33 2 rfl
          refine zt_iinc (pc' := 69) (lv' := [some (.ref (X.1.1 + 33)), some (.int (zI 6)), some (.int (zI (x19 + 1))), some (.int (zI r46))]) hX dX1_sum_66 rfl rfl hL (by decide) rfl ?_
          refine zt_goto (tgt := 7) hX dX1_sum_69 (by decide) ?_
          refine zt_mask [true, true, true, false] rfl ?_
          exact ih35 (x19 + 1) s90 p79 (by omega) (by omega) hI93 hF95 hT96 hE97 (by omega) (by omega) g84 L81 I85 (by omega)
        · refine zt_aload_n (pc' := 27) hX dX1_sum_26 rfl rfl ?_
          refine zt_get (pc' := 30) (v := .ref (X.1.1 + 27)) hX dX1_sum_27 rfl zf_X1_15 (by decide) zc_33 zs_20 (zrf_of (zv_20_0 hI23 zc_33)) ?_
          refine zt_cVi (pc' := 33) hX dX1_sum_30 rfl zm_yX5_signHere zw_22_2 zc_27 (by decide) zs_14 (q := (RX5, TX5, 9)) rfl rfl (yc_X5_signHere _ _ s22 hI23 f hT26) rfl rfl (Nat.le_of_ble_eq_true rfl) (by decide) (fun r100 s101 hr102 hp103 => ?_)
          obtain ⟨rfl, q104, q105, z106⟩ := hp103
          rw [hE27] at z106
          refine zt_bipush (pc' := 35) hX dX1_sum_33 rfl (by decide) (by decide) ?_
          refine zt_icne (pc' := 38) (tgt := 72) hX dX1_sum_35 rfl (by decide) ⟨by omega, by omega⟩ ⟨by omega, by omega⟩ (fun c107 => ?_) (fun c107 => ?_)
          · exact zt_vret hX hR dX1_sum_72 ⟨hI23, hF24, hT26, (by rw [hE27]; exact g30), (by rw [hE27]; exact g31), (by rw [hE27]; omega)⟩
          · refine zt_aload_n (pc' := 39) hX dX1_sum_38 rfl rfl ?_
            refine zt_get (pc' := 42) (v := .ref (X.1.1 + 27)) hX dX1_sum_39 rfl zf_X1_15 (by decide) zc_33 zs_20 (zrf_of (zv_20_0 hI23 zc_33)) ?_
            refine zt_cVi (pc' := 45) hX dX1_sum_42 rfl zm_yX5_signHere zw_22_2 zc_27 (by decide) zs_14 (q := (RX5, TX5, 9)) rfl rfl (yc_X5_signHere _ _ s22 hI23 f hT26) rfl rfl (Nat.le_of_ble_eq_true rfl) (by decide) (fun r108 s109 hr110 hp111 => ?_)
            obtain ⟨rfl, q112, q113, z114⟩ := hp111
            rw [hE27] at z114
            refine zt_istore_n (pc' := 46) (lv' := [some (.ref (X.1.1 + 33)), some (.int (zI 6)), some (.int (zI x19)), some (.int (zI r108))]) hX dX1_sum_45 rfl hL (by decide) rfl ?_
            refine zt_aload_n (pc' := 47) hX dX1_sum_46 rfl rfl ?_
            refine zt_get (pc' := 50) (v := .ref (X.1.1 + 27)) hX dX1_sum_47 rfl zf_X1_15 (by decide) zc_33 zs_20 (zrf_of (zv_20_0 hI23 zc_33)) ?_
            refine zt_cVv (pc' := 53) hX dX1_sum_50 rfl zm_yX5_step zw_22_6 zc_27 (by decide) zs_14 (q := (RX5, TX5, 9)) rfl rfl (yc_X5_step _ _ s22 hI23 f hT26) rfl rfl (Nat.le_of_ble_eq_true rfl) (by decide) (fun r115 s116 hr117 hp118 => ?_)
            obtain ⟨hI119, hF120, hT121, z122⟩ := hp118
            have hE123 : yst s116 = yPx f p25 := by rw [z122, hE27]
            have hF124 := zOn_tr hF24 hF120 zi_r12
            have L125 : yle (yst σ) (yPx f p25) := yle_tr g31 (yle_x hT26 hE27)
            have b126 := zv_20_2 hI119 zc_33
            have e127 := hF120 33 2 rfl
            have g128 := yJ_tr g30 (yJ_o ht (by omega))
            have I129 := yge_1 hT26 hE27 g32 (by omega)
            refine zt_aload_n (pc' := 54) hX dX1_sum_53 rfl rfl ?_
            refine zt_iload_n (pc' := 55) hX dX1_sum_54 rfl rfl ?_
            refine zt_cVv (pc' := 58) hX dX1_sum_55 rfl zm_yX1_product zw_21_23 zc_33 (by decide) zs_20 (q := (RX1, TX1, 3)) rfl rfl (yc_X1_product_o6 _ _ s116 hI119 f hT121 rl (by omega) k hk ht) rfl rfl (Nat.le_of_ble_eq_true rfl) (by decide) (fun r130 s131 hr132 hp133 => ?_)
            obtain ⟨hI134, hF135, hT136, z137, z138, z139⟩ := hp133
            rw [hE123] at z137
            rw [hE123] at z138
            have hF140 := zOn_tr hF124 hF135 zi_id
            obtain ⟨p141, hE142⟩ : ∃ p, yst s131 = p := ⟨_, rfl⟩
            rw [hE142] at z137
            rw [hE142] at z138
            have L143 := yle_tr L125 z138
            rw [hE142] at z139
            have b144 := zv_20_2 hI134 zc_33
            have e145 := hF135 33 2 rfl
            have g146 := yJ_tr g128 z137
            have I147 := yge_l I129 z138
            refine zt_aload_n (pc' := 59) hX dX1_sum_58 rfl rfl ?_
            obtain ⟨k148, ek149, hk150⟩ := zv_20_1 hI134 zc_33
            refine zt_get (pc' := 62) (v := .ref (X.1.1 + k148)) hX dX1_sum_59 rfl zf_X1_19 (by decide) zc_33 zs_20 (zrf_of ek149) ?_
            refine zt_iload_n (pc' := 63) hX dX1_sum_62 rfl rfl ?_
            refine zt_cVv (pc' := 66) hX dX1_sum_63 rfl zm_yX4_addStep zw_22_7 hk150 (by decide) zs_6 (q := (RX4, TX4, 2)) rfl rfl (yc_X4_addStep _ _ s131 hI134 k148 hk150 r108 ⟨by omega, by omega⟩) rfl rfl (Nat.le_of_ble_eq_true rfl) (by decide) (fun r151 s152 hr153 hp154 => ?_)
            obtain ⟨hI155, hF156⟩ := hp154
            have hF157 := zOn_tr hF140 hF156 zi_rp2
            have hT158 := yTk_rk hT136 (yRk_p hF156)
            have hE159 : yst s152 = p141 := (yst_rk (yRk_p hF156)).trans hE142
            have b160 := zv_20_2 hI155 zc_33
            have e161 := hF156 33 2 rfl
            refine zt_iinc (pc' := 69) (lv' := [some (.ref (X.1.1 + 33)), some (.int (zI 6)), some (.int (zI (x19 + 1))), some (.int (zI r108))]) hX dX1_sum_66 rfl rfl hL (by decide) rfl ?_
            refine zt_goto (tgt := 7) hX dX1_sum_69 (by decide) ?_
            refine zt_mask [true, true, true, false] rfl ?_
            exact ih35 (x19 + 1) s152 p141 (by omega) (by omega) hI155 hF157 hT158 hE159 (by omega) (by omega) g146 L143 I147 (by omega)
  exact L_7_32 _ 0 s3 p13 (by omega) (by omega) hI6 hF12 hT8 hE14 (by omega) (by omega) g18 L15 (yge_0 hT8 hE14) (Nat.lt_succ_self _)
set_option maxRecDepth 100000 in
set_option maxHeartbeats 4000000 in
theorem yc_X1_comparison_o6 (l : Launch) (E : zEN) (σ : zSto) (hI : zInv σ) (f : Int → Int) (hT : yTk f σ) (rl : Int) (hrl : σ 33 2 = rl) (k : List Nat) (hk : ydep k = 6) : zCt l E yX1_comparison cX1_comparison 3 none 6 zNC zNC 0 0 σ [.ref (E.1 + 33), .int (zI 6)] (fun r σ' => zInv σ' ∧ zOn zR2 σ σ' ∧ yTk f σ' ∧ (yJ rl f (1, 5 :: k, (yst σ)) (5, k, (yst σ'))) ∧ (yle (yst σ) (yst σ'))) := by
  refine zCt_of2 [some (.ref (E.1 + 33)), some (.int (zI 6)), none] (by decide +kernel) (Nat.le_of_ble_eq_true rfl) rfl ?_
  intro X hE_ hX hR hL hN
  subst hE_
  have hX : zok X cX1_comparison RX1 6 := hX
  have hF := zOn_rf zR2 σ
  have hE0 : yst σ = yst σ := rfl
  have L0 := yle_rf (yst σ)
  have b1 := zv_20_2 hI zc_33
  refine zt_aload_n (pc' := 1) hX dX1_comparison_0 rfl rfl ?_
  refine zt_iload_n (pc' := 2) hX dX1_comparison_1 rfl rfl ?_
  refine zt_cVv (pc' := 5) hX dX1_comparison_2 rfl zm_yX1_sum zw_21_19 zc_33 (by decide) zs_20 (q := (RX1, TX1, 3)) rfl rfl (yc_X1_sum_o6 _ _ σ hI f hT rl (by omega) (5 :: k) hk (Nat.ne_of_beq_eq_false rfl)) rfl rfl (Nat.le_of_ble_eq_true rfl) (by decide) (fun r2 s3 hr4 hp5 => ?_)
  obtain ⟨hI6, hF7, hT8, z9, z10, z11⟩ := hp5
  have hF12 := zOn_tr hF hF7 zi_id
  obtain ⟨p13, hE14⟩ : ∃ p, yst s3 = p := ⟨_, rfl⟩
  rw [hE14] at z9
  rw [hE14] at z10
  have L15 := yle_tr L0 z10
  rw [hE14] at z11
  have b16 := zv_20_2 hI6 zc_33
  have e17 := hF7 33 2 rfl
  refine zt_aload_n (pc' := 6) hX dX1_comparison_5 rfl rfl ?_
  refine zt_get (pc' := 9) (v := .ref (X.1.1 + 27)) hX dX1_comparison_6 rfl zf_X1_15 (by decide) zc_33 zs_20 (zrf_of (zv_20_0 hI6 zc_33)) ?_
  refine zt_cVi (pc' := 12) hX dX1_comparison_9 rfl zm_yX5_signHere zw_22_2 zc_27 (by decide) zs_14 (q := (RX5, TX5, 9)) rfl rfl (yc_X5_signHere _ _ s3 hI6 f hT8) rfl rfl (Nat.le_of_ble_eq_true rfl) (by decide) (fun r18 s19 hr20 hp21 => ?_)
  obtain ⟨rfl, q22, q23, z24⟩ := hp21
  rw [hE14] at z24
  refine zt_istore_n (pc' := 13) (lv' := [some (.ref (X.1.1 + 33)), some (.int (zI 6)), some (.int (zI r18))]) hX dX1_comparison_12 rfl hL (by decide) rfl ?_
  refine zt_iload_n (pc' := 14) hX dX1_comparison_13 rfl rfl ?_
  refine zt_bipush (pc' := 16) hX dX1_comparison_14 rfl (by decide) (by decide) ?_
  refine zt_iceq (pc' := 19) (tgt := 31) hX dX1_comparison_16 rfl (by decide) ⟨by omega, by omega⟩ ⟨by omega, by omega⟩ (fun c25 => ?_) (fun c25 => ?_)
  · refine zt_aload_n (pc' := 32) hX dX1_comparison_31 rfl rfl ?_
    refine zt_get (pc' := 35) (v := .ref (X.1.1 + 27)) hX dX1_comparison_32 rfl zf_X1_15 (by decide) zc_33 zs_20 (zrf_of (zv_20_0 hI6 zc_33)) ?_
    refine zt_cVv (pc' := 38) hX dX1_comparison_35 rfl zm_yX5_step zw_22_6 zc_27 (by decide) zs_14 (q := (RX5, TX5, 9)) rfl rfl (yc_X5_step _ _ s3 hI6 f hT8) rfl rfl (Nat.le_of_ble_eq_true rfl) (by decide) (fun r26 s27 hr28 hp29 => ?_)
    obtain ⟨hI30, hF31, hT32, z33⟩ := hp29
    have hE34 : yst s27 = yPx f p13 := by rw [z33, hE14]
    have hF35 := zOn_tr hF12 hF31 zi_r12
    have L36 : yle (yst σ) (yPx f p13) := yle_tr L15 (yle_x hT8 hE14)
    have b37 := zv_20_2 hI30 zc_33
    have e38 := hF31 33 2 rfl
    refine zt_aload_n (pc' := 39) hX dX1_comparison_38 rfl rfl ?_
    refine zt_iload_n (pc' := 40) hX dX1_comparison_39 rfl rfl ?_
    refine zt_cVv (pc' := 43) hX dX1_comparison_40 rfl zm_yX1_sum zw_21_19 zc_33 (by decide) zs_20 (q := (RX1, TX1, 3)) rfl rfl (yc_X1_sum_o6 _ _ s27 hI30 f hT32 rl (by omega) (6 :: k) hk (Nat.ne_of_beq_eq_false rfl)) rfl rfl (Nat.le_of_ble_eq_true rfl) (by decide) (fun r39 s40 hr41 hp42 => ?_)
    obtain ⟨hI43, hF44, hT45, z46, z47, z48⟩ := hp42
    rw [hE34] at z46
    rw [hE34] at z47
    have hF49 := zOn_tr hF35 hF44 zi_id
    obtain ⟨p50, hE51⟩ : ∃ p, yst s40 = p := ⟨_, rfl⟩
    rw [hE51] at z46
    rw [hE51] at z47
    have L52 := yle_tr L36 z47
    rw [hE51] at z48
    have b53 := zv_20_2 hI43 zc_33
    have e54 := hF44 33 2 rfl
    refine zt_aload_n (pc' := 44) hX dX1_comparison_43 rfl rfl ?_
    obtain ⟨k55, ek56, hk57⟩ := zv_20_1 hI43 zc_33
    refine zt_get (pc' := 47) (v := .ref (X.1.1 + k55)) hX dX1_comparison_44 rfl zf_X1_19 (by decide) zc_33 zs_20 (zrf_of ek56) ?_
    refine zt_iload_n (pc' := 48) hX dX1_comparison_47 rfl rfl ?_
    refine zt_cVv (pc' := 51) hX dX1_comparison_48 rfl zm_yX4_addStep zw_22_7 hk57 (by decide) zs_6 (q := (RX4, TX4, 2)) rfl rfl (yc_X4_addStep _ _ s40 hI43 k55 hk57 r18 ⟨by omega, by omega⟩) rfl rfl (Nat.le_of_ble_eq_true rfl) (by decide) (fun r58 s59 hr60 hp61 => ?_)
    obtain ⟨hI62, hF63⟩ := hp61
    have hF64 := zOn_tr hF49 hF63 zi_rp2
    have hT65 := yTk_rk hT45 (yRk_p hF63)
    have hE66 : yst s59 = p50 := (yst_rk (yRk_p hF63)).trans hE51
    have b67 := zv_20_2 hI62 zc_33
    have e68 := hF63 33 2 rfl
    refine zt_goto (tgt := 69) hX dX1_comparison_51 (by decide) ?_
    exact zt_vret hX hR dX1_comparison_69 ⟨hI62, hF64, hT65, (by rw [hE66]; exact yJ_tr z9 (yJ_tr (yJ_cs (by omega)) (yJ_tr z46 (yJ_ce z48)))), (by rw [hE66]; exact L52)⟩
  · refine zt_iload_n (pc' := 20) hX dX1_comparison_19 rfl rfl ?_
    refine zt_bipush (pc' := 22) hX dX1_comparison_20 rfl (by decide) (by decide) ?_
    refine zt_iceq (pc' := 25) (tgt := 31) hX dX1_comparison_22 rfl (by decide) ⟨by omega, by omega⟩ ⟨by omega, by omega⟩ (fun c69 => ?_) (fun c69 => ?_)
    · refine zt_aload_n (pc' := 32) hX dX1_comparison_31 rfl rfl ?_
      refine zt_get (pc' := 35) (v := .ref (X.1.1 + 27)) hX dX1_comparison_32 rfl zf_X1_15 (by decide) zc_33 zs_20 (zrf_of (zv_20_0 hI6 zc_33)) ?_
      refine zt_cVv (pc' := 38) hX dX1_comparison_35 rfl zm_yX5_step zw_22_6 zc_27 (by decide) zs_14 (q := (RX5, TX5, 9)) rfl rfl (yc_X5_step _ _ s3 hI6 f hT8) rfl rfl (Nat.le_of_ble_eq_true rfl) (by decide) (fun r70 s71 hr72 hp73 => ?_)
      obtain ⟨hI74, hF75, hT76, z77⟩ := hp73
      have hE78 : yst s71 = yPx f p13 := by rw [z77, hE14]
      have hF79 := zOn_tr hF12 hF75 zi_r12
      have L80 : yle (yst σ) (yPx f p13) := yle_tr L15 (yle_x hT8 hE14)
      have b81 := zv_20_2 hI74 zc_33
      have e82 := hF75 33 2 rfl
      refine zt_aload_n (pc' := 39) hX dX1_comparison_38 rfl rfl ?_
      refine zt_iload_n (pc' := 40) hX dX1_comparison_39 rfl rfl ?_
      refine zt_cVv (pc' := 43) hX dX1_comparison_40 rfl zm_yX1_sum zw_21_19 zc_33 (by decide) zs_20 (q := (RX1, TX1, 3)) rfl rfl (yc_X1_sum_o6 _ _ s71 hI74 f hT76 rl (by omega) (6 :: k) hk (Nat.ne_of_beq_eq_false rfl)) rfl rfl (Nat.le_of_ble_eq_true rfl) (by decide) (fun r83 s84 hr85 hp86 => ?_)
      obtain ⟨hI87, hF88, hT89, z90, z91, z92⟩ := hp86
      rw [hE78] at z90
      rw [hE78] at z91
      have hF93 := zOn_tr hF79 hF88 zi_id
      obtain ⟨p94, hE95⟩ : ∃ p, yst s84 = p := ⟨_, rfl⟩
      rw [hE95] at z90
      rw [hE95] at z91
      have L96 := yle_tr L80 z91
      rw [hE95] at z92
      have b97 := zv_20_2 hI87 zc_33
      have e98 := hF88 33 2 rfl
      refine zt_aload_n (pc' := 44) hX dX1_comparison_43 rfl rfl ?_
      obtain ⟨k99, ek100, hk101⟩ := zv_20_1 hI87 zc_33
      refine zt_get (pc' := 47) (v := .ref (X.1.1 + k99)) hX dX1_comparison_44 rfl zf_X1_19 (by decide) zc_33 zs_20 (zrf_of ek100) ?_
      refine zt_iload_n (pc' := 48) hX dX1_comparison_47 rfl rfl ?_
      refine zt_cVv (pc' := 51) hX dX1_comparison_48 rfl zm_yX4_addStep zw_22_7 hk101 (by decide) zs_6 (q := (RX4, TX4, 2)) rfl rfl (yc_X4_addStep _ _ s84 hI87 k99 hk101 r18 ⟨by omega, by omega⟩) rfl rfl (Nat.le_of_ble_eq_true rfl) (by decide) (fun r102 s103 hr104 hp105 => ?_)
      obtain ⟨hI106, hF107⟩ := hp105
      have hF108 := zOn_tr hF93 hF107 zi_rp2
      have hT109 := yTk_rk hT89 (yRk_p hF107)
      have hE110 : yst s103 = p94 := (yst_rk (yRk_p hF107)).trans hE95
      have b111 := zv_20_2 hI106 zc_33
      have e112 := hF107 33 2 rfl
      refine zt_goto (tgt := 69) hX dX1_comparison_51 (by decide) ?_
      exact zt_vret hX hR dX1_comparison_69 ⟨hI106, hF108, hT109, (by rw [hE110]; exact yJ_tr z9 (yJ_tr (yJ_cs (by omega)) (yJ_tr z90 (yJ_ce z92)))), (by rw [hE110]; exact L96)⟩
    · refine zt_iload_n (pc' := 26) hX dX1_comparison_25 rfl rfl ?_
      refine zt_bipush (pc' := 28) hX dX1_comparison_26 rfl (by decide) (by decide) ?_
      refine zt_icne (pc' := 31) (tgt := 54) hX dX1_comparison_28 rfl (by decide) ⟨by omega, by omega⟩ ⟨by omega, by omega⟩ (fun c113 => ?_) (fun c113 => ?_)
      · refine zt_aload_n (pc' := 55) hX dX1_comparison_54 rfl rfl ?_
        refine zt_get (pc' := 58) (v := .ref (X.1.1 + 27)) hX dX1_comparison_55 rfl zf_X1_15 (by decide) zc_33 zs_20 (zrf_of (zv_20_0 hI6 zc_33)) ?_
        refine zt_iconst (pc' := 59) hX dX1_comparison_58 rfl ?_
        refine zt_aload_n (pc' := 60) hX dX1_comparison_59 rfl rfl ?_
        refine zt_get (pc' := 63) (v := .ref (X.1.1 + 27)) hX dX1_comparison_60 rfl zf_X1_15 (by decide) zc_33 zs_20 (zrf_of (zv_20_0 hI6 zc_33)) ?_
        refine zt_cVi (pc' := 66) hX dX1_comparison_63 rfl zm_yX5_placeHere zw_22_9 zc_27 (by decide) zs_14 (q := (RX5, TX5, 9)) rfl rfl (yc_X5_placeHere _ _ s3 hI6 f hT8) rfl rfl (Nat.le_of_ble_eq_true rfl) (by decide) (fun r114 s115 hr116 hp117 => ?_)
        obtain ⟨rfl, q118, q119, z120⟩ := hp117
        rw [hE14] at z120
        refine zt_cVv (pc' := 69) hX dX1_comparison_66 rfl zm_yX5_refuse zw_22_10 zc_27 (by decide) zs_14 (q := (RX5, TX5, 9)) rfl rfl (yc_X5_refuse _ _ s3 hI6 1 ⟨by omega, by omega⟩ r114 ⟨by omega, by omega⟩ (by omega) f hT8) rfl rfl (Nat.le_of_ble_eq_true rfl) (by decide) (fun r121 s122 hr123 hp124 => ?_)
        obtain ⟨hI125, hF126, hT127, z128⟩ := hp124
        have hE129 : yst s122 = yPno 1 r114 p13 := by rw [z128, hE14]
        have hF130 := zOn_tr hF12 hF126 zi_r12
        have L131 : yle (yst σ) (yPno 1 r114 p13) := yle_tr L15 yle_no
        have b132 := zv_20_2 hI125 zc_33
        have e133 := hF126 33 2 rfl
        exact zt_vret hX hR dX1_comparison_69 ⟨hI125, hF130, hT127, (by rw [hE129, yPno_f (p := r114) (d := 0) (fun o => by omega)]; exact yJ_tr z9 (yJ_cb z11 (by omega))), (by rw [hE129]; exact L131)⟩
      · refine zt_aload_n (pc' := 32) hX dX1_comparison_31 rfl rfl ?_
        refine zt_get (pc' := 35) (v := .ref (X.1.1 + 27)) hX dX1_comparison_32 rfl zf_X1_15 (by decide) zc_33 zs_20 (zrf_of (zv_20_0 hI6 zc_33)) ?_
        refine zt_cVv (pc' := 38) hX dX1_comparison_35 rfl zm_yX5_step zw_22_6 zc_27 (by decide) zs_14 (q := (RX5, TX5, 9)) rfl rfl (yc_X5_step _ _ s3 hI6 f hT8) rfl rfl (Nat.le_of_ble_eq_true rfl) (by decide) (fun r134 s135 hr136 hp137 => ?_)
        obtain ⟨hI138, hF139, hT140, z141⟩ := hp137
        have hE142 : yst s135 = yPx f p13 := by rw [z141, hE14]
        have hF143 := zOn_tr hF12 hF139 zi_r12
        have L144 : yle (yst σ) (yPx f p13) := yle_tr L15 (yle_x hT8 hE14)
        have b145 := zv_20_2 hI138 zc_33
        have e146 := hF139 33 2 rfl
        refine zt_aload_n (pc' := 39) hX dX1_comparison_38 rfl rfl ?_
        refine zt_iload_n (pc' := 40) hX dX1_comparison_39 rfl rfl ?_
        refine zt_cVv (pc' := 43) hX dX1_comparison_40 rfl zm_yX1_sum zw_21_19 zc_33 (by decide) zs_20 (q := (RX1, TX1, 3)) rfl rfl (yc_X1_sum_o6 _ _ s135 hI138 f hT140 rl (by omega) (6 :: k) hk (Nat.ne_of_beq_eq_false rfl)) rfl rfl (Nat.le_of_ble_eq_true rfl) (by decide) (fun r147 s148 hr149 hp150 => ?_)
        obtain ⟨hI151, hF152, hT153, z154, z155, z156⟩ := hp150
        rw [hE142] at z154
        rw [hE142] at z155
        have hF157 := zOn_tr hF143 hF152 zi_id
        obtain ⟨p158, hE159⟩ : ∃ p, yst s148 = p := ⟨_, rfl⟩
        rw [hE159] at z154
        rw [hE159] at z155
        have L160 := yle_tr L144 z155
        rw [hE159] at z156
        have b161 := zv_20_2 hI151 zc_33
        have e162 := hF152 33 2 rfl
        refine zt_aload_n (pc' := 44) hX dX1_comparison_43 rfl rfl ?_
        obtain ⟨k163, ek164, hk165⟩ := zv_20_1 hI151 zc_33
        refine zt_get (pc' := 47) (v := .ref (X.1.1 + k163)) hX dX1_comparison_44 rfl zf_X1_19 (by decide) zc_33 zs_20 (zrf_of ek164) ?_
        refine zt_iload_n (pc' := 48) hX dX1_comparison_47 rfl rfl ?_
        refine zt_cVv (pc' := 51) hX dX1_comparison_48 rfl zm_yX4_addStep zw_22_7 hk165 (by decide) zs_6 (q := (RX4, TX4, 2)) rfl rfl (yc_X4_addStep _ _ s148 hI151 k163 hk165 r18 ⟨by omega, by omega⟩) rfl rfl (Nat.le_of_ble_eq_true rfl) (by decide) (fun r166 s167 hr168 hp169 => ?_)
        obtain ⟨hI170, hF171⟩ := hp169
        have hF172 := zOn_tr hF157 hF171 zi_rp2
        have hT173 := yTk_rk hT153 (yRk_p hF171)
        have hE174 : yst s167 = p158 := (yst_rk (yRk_p hF171)).trans hE159
        have b175 := zv_20_2 hI170 zc_33
        have e176 := hF171 33 2 rfl
        refine zt_goto (tgt := 69) hX dX1_comparison_51 (by decide) ?_
        exact zt_vret hX hR dX1_comparison_69 ⟨hI170, hF172, hT173, (by rw [hE174]; exact yJ_tr z9 (yJ_tr (yJ_cs (by omega)) (yJ_tr z154 (yJ_ce z156)))), (by rw [hE174]; exact L160)⟩
set_option maxRecDepth 100000 in
set_option maxHeartbeats 4000000 in
theorem yc_X1_fact_o6 (l : Launch) (E : zEN) (σ : zSto) (hI : zInv σ) (f : Int → Int) (hT : yTk f σ) (rl : Int) (hrl : σ 33 2 = rl) (k : List Nat) (hk : ydep k = 6) : zCt l E yX1_fact cX1_fact 2 none 7 zNC zNC 0 0 σ [.ref (E.1 + 33), .int (zI 6)] (fun r σ' => zInv σ' ∧ zOn zR2 σ σ' ∧ yTk f σ' ∧ (yJ rl f (4, k, (yst σ)) (5, k, (yst σ'))) ∧ (yle (yst σ) (yst σ'))) := by
  refine zCt_of2 [some (.ref (E.1 + 33)), some (.int (zI 6))] (by decide +kernel) (Nat.le_of_ble_eq_true rfl) rfl ?_
  intro X hE_ hX hR hL hN
  subst hE_
  have hX : zok X cX1_fact RX1 7 := hX
  have hF := zOn_rf zR2 σ
  have hE0 : yst σ = yst σ := rfl
  have L0 := yle_rf (yst σ)
  have b1 := zv_20_2 hI zc_33
  refine zt_aload_n (pc' := 1) hX dX1_fact_0 rfl rfl ?_
  refine zt_get (pc' := 4) (v := .ref (X.1.1 + 27)) hX dX1_fact_1 rfl zf_X1_15 (by decide) zc_33 zs_20 (zrf_of (zv_20_0 hI zc_33)) ?_
  refine zt_cVi (pc' := 7) hX dX1_fact_4 rfl zm_yX5_wordHere zw_22_21 zc_27 (by decide) zs_14 (q := (RX5, TX5, 9)) rfl rfl (yc_X5_wordHere _ _ σ hI f hT) rfl rfl (Nat.le_of_ble_eq_true rfl) (by decide) (fun r2 s3 hr4 hp5 => ?_)
  obtain ⟨rfl, q6, q7, z8⟩ := hp5
  refine zt_bipush (pc' := 9) hX dX1_fact_7 rfl (by decide) (by decide) ?_
  refine zt_icne (pc' := 12) (tgt := 39) hX dX1_fact_9 rfl (by decide) ⟨by omega, by omega⟩ ⟨by omega, by omega⟩ (fun c9 => ?_) (fun c9 => ?_)
  · refine zt_aload_n (pc' := 40) hX dX1_fact_39 rfl rfl ?_
    refine zt_get (pc' := 43) (v := .ref (X.1.1 + 27)) hX dX1_fact_40 rfl zf_X1_15 (by decide) zc_33 zs_20 (zrf_of (zv_20_0 hI zc_33)) ?_
    refine zt_cVi (pc' := 46) hX dX1_fact_43 rfl zm_yX5_signHere zw_22_2 zc_27 (by decide) zs_14 (q := (RX5, TX5, 9)) rfl rfl (yc_X5_signHere _ _ σ hI f hT) rfl rfl (Nat.le_of_ble_eq_true rfl) (by decide) (fun r10 s11 hr12 hp13 => ?_)
    obtain ⟨rfl, q14, q15, z16⟩ := hp13
    refine zt_bipush (pc' := 48) hX dX1_fact_46 rfl (by decide) (by decide) ?_
    refine zt_icne (pc' := 51) (tgt := 78) hX dX1_fact_48 rfl (by decide) ⟨by omega, by omega⟩ ⟨by omega, by omega⟩ (fun c17 => ?_) (fun c17 => ?_)
    · refine zt_aload_n (pc' := 79) hX dX1_fact_78 rfl rfl ?_
      refine zt_get (pc' := 82) (v := .ref (X.1.1 + 27)) hX dX1_fact_79 rfl zf_X1_15 (by decide) zc_33 zs_20 (zrf_of (zv_20_0 hI zc_33)) ?_
      refine zt_cVi (pc' := 85) hX dX1_fact_82 rfl zm_yX5_wordHere zw_22_21 zc_27 (by decide) zs_14 (q := (RX5, TX5, 9)) rfl rfl (yc_X5_wordHere _ _ σ hI f hT) rfl rfl (Nat.le_of_ble_eq_true rfl) (by decide) (fun r18 s19 hr20 hp21 => ?_)
      obtain ⟨rfl, q22, q23, z24⟩ := hp21
      refine zt_bipush (pc' := 87) hX dX1_fact_85 rfl (by decide) (by decide) ?_
      refine zt_icne (pc' := 90) (tgt := 109) hX dX1_fact_87 rfl (by decide) ⟨by omega, by omega⟩ ⟨by omega, by omega⟩ (fun c25 => ?_) (fun c25 => ?_)
      · refine zt_aload_n (pc' := 110) hX dX1_fact_109 rfl rfl ?_
        refine zt_iload_n (pc' := 111) hX dX1_fact_110 rfl rfl ?_
        refine zt_cVv (pc' := 114) hX dX1_fact_111 rfl zm_yX1_comparison zw_24_14 zc_33 (by decide) zs_20 (q := (RX1, TX1, 3)) rfl rfl (yc_X1_comparison_o6 _ _ σ hI f hT rl (by omega) k hk) rfl rfl (Nat.le_of_ble_eq_true rfl) (by decide) (fun r26 s27 hr28 hp29 => ?_)
        obtain ⟨hI30, hF31, hT32, z33, z34⟩ := hp29
        have hF35 := zOn_tr hF hF31 zi_id
        obtain ⟨p36, hE37⟩ : ∃ p, yst s27 = p := ⟨_, rfl⟩
        rw [hE37] at z33
        rw [hE37] at z34
        have L38 := yle_tr L0 z34
        have b39 := zv_20_2 hI30 zc_33
        have e40 := hF31 33 2 rfl
        exact zt_vret hX hR dX1_fact_114 ⟨hI30, hF35, hT32, (by rw [hE37]; exact yJ_tr (yJ_cmp (by omega) (by omega) (by omega)) z33), (by rw [hE37]; exact L38)⟩
      · refine zt_aload_n (pc' := 91) hX dX1_fact_90 rfl rfl ?_
        refine zt_get (pc' := 94) (v := .ref (X.1.1 + 27)) hX dX1_fact_91 rfl zf_X1_15 (by decide) zc_33 zs_20 (zrf_of (zv_20_0 hI zc_33)) ?_
        refine zt_cVv (pc' := 97) hX dX1_fact_94 rfl zm_yX5_step zw_22_6 zc_27 (by decide) zs_14 (q := (RX5, TX5, 9)) rfl rfl (yc_X5_step _ _ σ hI f hT) rfl rfl (Nat.le_of_ble_eq_true rfl) (by decide) (fun r41 s42 hr43 hp44 => ?_)
        obtain ⟨hI45, hF46, hT47, z48⟩ := hp44
        have hE49 : yst s42 = yPx f (yst σ) := z48
        have hF50 := zOn_tr hF hF46 zi_r12
        have L51 : yle (yst σ) (yPx f (yst σ)) := yle_tr L0 (yle_x hT hE0)
        have b52 := zv_20_2 hI45 zc_33
        have e53 := hF46 33 2 rfl
        refine zt_aload_n (pc' := 98) hX dX1_fact_97 rfl rfl ?_
        obtain ⟨k54, ek55, hk56⟩ := zv_20_1 hI45 zc_33
        refine zt_get (pc' := 101) (v := .ref (X.1.1 + k54)) hX dX1_fact_98 rfl zf_X1_19 (by decide) zc_33 zs_20 (zrf_of ek55) ?_
        refine zt_bipush (pc' := 103) hX dX1_fact_101 rfl (by decide) (by decide) ?_
        refine zt_cVv (pc' := 106) hX dX1_fact_103 rfl zm_yX4_addStep zw_22_7 hk56 (by decide) zs_6 (q := (RX4, TX4, 2)) rfl rfl (yc_X4_addStep _ _ s42 hI45 k54 hk56 24 ⟨by omega, by omega⟩) rfl rfl (Nat.le_of_ble_eq_true rfl) (by decide) (fun r57 s58 hr59 hp60 => ?_)
        obtain ⟨hI61, hF62⟩ := hp60
        have hF63 := zOn_tr hF50 hF62 zi_rp2
        have hT64 := yTk_rk hT47 (yRk_p hF62)
        have hE65 : yst s58 = yPx f (yst σ) := (yst_rk (yRk_p hF62)).trans hE49
        have b66 := zv_20_2 hI61 zc_33
        have e67 := hF62 33 2 rfl
        refine zt_goto (tgt := 114) hX dX1_fact_106 (by decide) ?_
        exact zt_vret hX hR dX1_fact_114 ⟨hI61, hF63, hT64, (by rw [hE65]; exact yJ_all (by omega)), (by rw [hE65]; exact L51)⟩
    · refine zt_aload_n (pc' := 52) hX dX1_fact_51 rfl rfl ?_
      refine zt_iload_n (pc' := 53) hX dX1_fact_52 rfl rfl ?_
      refine zt_cVz (pc' := 56) hX dX1_fact_53 rfl zm_yX1_opens zw_22_11 zc_33 (by decide) zs_20 (q := (RX1, TX1, 3)) rfl rfl (yc_X1_opens_o6 _ _ σ hI f hT) rfl rfl (Nat.le_of_ble_eq_true rfl) (by decide) (fun r68 s69 hr70 hp71 => ?_)
      obtain ⟨hI72, hF73, q74, q75, hT76, z77⟩ := hp71
      have hE78 : yst s69 = yPf 4 0 (yst σ) := z77
      have hF79 := zOn_tr hF hF73 zi_r12
      have L80 : yle (yst σ) (yPf 4 0 (yst σ)) := yle_tr L0 yle_f
      have b81 := zv_20_2 hI72 zc_33
      have e82 := hF73 33 2 rfl
      refine zt_ifeq (pc' := 59) (tgt := 114) hX dX1_fact_56 rfl (by decide) ⟨by omega, by omega⟩ (fun c83 => ?_) (fun c83 => ?_)
      · exact zt_vret hX hR dX1_fact_114 ⟨hI72, hF79, hT76, (by rw [hE78]; exact yJ_sq6 (by omega) hk), (by rw [hE78]; exact L80)⟩
      · exact absurd c83 (by omega)
  · refine zt_aload_n (pc' := 13) hX dX1_fact_12 rfl rfl ?_
    refine zt_iload_n (pc' := 14) hX dX1_fact_13 rfl rfl ?_
    refine zt_cVz (pc' := 17) hX dX1_fact_14 rfl zm_yX1_opens zw_22_11 zc_33 (by decide) zs_20 (q := (RX1, TX1, 3)) rfl rfl (yc_X1_opens_o6 _ _ σ hI f hT) rfl rfl (Nat.le_of_ble_eq_true rfl) (by decide) (fun r84 s85 hr86 hp87 => ?_)
    obtain ⟨hI88, hF89, q90, q91, hT92, z93⟩ := hp87
    have hE94 : yst s85 = yPf 4 0 (yst σ) := z93
    have hF95 := zOn_tr hF hF89 zi_r12
    have L96 : yle (yst σ) (yPf 4 0 (yst σ)) := yle_tr L0 yle_f
    have b97 := zv_20_2 hI88 zc_33
    have e98 := hF89 33 2 rfl
    refine zt_ifeq (pc' := 20) (tgt := 114) hX dX1_fact_17 rfl (by decide) ⟨by omega, by omega⟩ (fun c99 => ?_) (fun c99 => ?_)
    · exact zt_vret hX hR dX1_fact_114 ⟨hI88, hF95, hT92, (by rw [hE94]; exact yJ_not6 (by omega) hk), (by rw [hE94]; exact L96)⟩
    · exact absurd c99 (by omega)
set_option maxRecDepth 100000 in
set_option maxHeartbeats 4000000 in
theorem yc_X1_both_o6 (l : Launch) (E : zEN) (σ : zSto) (hI : zInv σ) (f : Int → Int) (hT : yTk f σ) (rl : Int) (hrl : σ 33 2 = rl) (k : List Nat) (hk : ydep k = 6) (ht : ytop k ≠ 8) : zCt l E yX1_both cX1_both 3 none 8 zNC zNC 0 0 σ [.ref (E.1 + 33), .int (zI 6)] (fun r σ' => zInv σ' ∧ zOn zR2 σ σ' ∧ yTk f σ' ∧ (yJ rl f (4, k, (yst σ)) (5, k, (yst σ'))) ∧ (yle (yst σ) (yst σ')) ∧ (yPi f (yst σ') ≠ 22)) := by
  refine zCt_of2 [some (.ref (E.1 + 33)), some (.int (zI 6)), none] (by decide +kernel) (Nat.le_of_ble_eq_true rfl) rfl ?_
  intro X hE_ hX hR hL hN
  subst hE_
  have hX : zok X cX1_both RX1 8 := hX
  have hF := zOn_rf zR2 σ
  have hE0 : yst σ = yst σ := rfl
  have L0 := yle_rf (yst σ)
  have b1 := zv_20_2 hI zc_33
  refine zt_aload_n (pc' := 1) hX dX1_both_0 rfl rfl ?_
  refine zt_iload_n (pc' := 2) hX dX1_both_1 rfl rfl ?_
  refine zt_cVv (pc' := 5) hX dX1_both_2 rfl zm_yX1_fact zw_24_10 zc_33 (by decide) zs_20 (q := (RX1, TX1, 3)) rfl rfl (yc_X1_fact_o6 _ _ σ hI f hT rl (by omega) k hk) rfl rfl (Nat.le_of_ble_eq_true rfl) (by decide) (fun r2 s3 hr4 hp5 => ?_)
  obtain ⟨hI6, hF7, hT8, z9, z10⟩ := hp5
  have hF11 := zOn_tr hF hF7 zi_id
  obtain ⟨p12, hE13⟩ : ∃ p, yst s3 = p := ⟨_, rfl⟩
  rw [hE13] at z9
  rw [hE13] at z10
  have L14 := yle_tr L0 z10
  have b15 := zv_20_2 hI6 zc_33
  have e16 := hF7 33 2 rfl
  have g17 := z9
  refine zt_iconst (pc' := 6) hX dX1_both_5 rfl ?_
  refine zt_istore_n (pc' := 7) (lv' := [some (.ref (X.1.1 + 33)), some (.int (zI 6)), some (.int (zI 0))]) hX dX1_both_6 rfl hL (by decide) rfl ?_
  have L_7_30 : ∀ (N : Nat) (x18 : Int) (s21 : zSto) (p24 : yP), 0 ≤ x18 → x18 ≤ 1600 → zInv s21 → zOn zR2 σ s21 → yTk f s21 → yst s21 = p24 → s21 33 2 = σ 33 2 → yJ rl f (4, k, yst σ) (5, k, p24) → yle (yst σ) p24 → yge x18 p24 → ((1601 - x18).toNat) < N → zF X s21 7 [some (.ref (X.1.1 + 33)), some (.int (zI 6)), some (.int (zI x18))] [] := by
    intro N
    induction N with
    | zero =>
      intro x18 s21 p24 h19 h20 hI22 hF23 hT25 hE26 g27 g28 g29 g30 hm32
      exact absurd hm32 (Nat.not_lt_zero _)
    | succ N ih33 =>
      intro x18 s21 p24 h19 h20 hI22 hF23 hT25 hE26 g27 g28 g29 g30 hm32
      have b34 := zv_20_2 hI22 zc_33
      have hx := yge_x hT25 hE26 g30
      refine zt_iload_n (pc' := 8) hX dX1_both_7 rfl rfl ?_
      refine zt_sipush (pc' := 11) hX dX1_both_8 rfl (by decide) (by decide) ?_
      refine zt_icge (pc' := 14) (tgt := 53) hX dX1_both_11 rfl (by decide) ⟨by omega, by omega⟩ ⟨by omega, by omega⟩ (fun c35 => ?_) (fun c35 => ?_)
      · exact zt_vret hX hR dX1_both_53 ⟨hI22, hF23, hT25, (by rw [hE26]; exact g28), (by rw [hE26]; exact g29), (by rw [hE26]; omega)⟩
      · refine zt_aload_n (pc' := 15) hX dX1_both_14 rfl rfl ?_
        refine zt_get (pc' := 18) (v := .ref (X.1.1 + 27)) hX dX1_both_15 rfl zf_X1_15 (by decide) zc_33 zs_20 (zrf_of (zv_20_0 hI22 zc_33)) ?_
        refine zt_cVi (pc' := 21) hX dX1_both_18 rfl zm_yX5_wordHere zw_22_21 zc_27 (by decide) zs_14 (q := (RX5, TX5, 9)) rfl rfl (yc_X5_wordHere _ _ s21 hI22 f hT25) rfl rfl (Nat.le_of_ble_eq_true rfl) (by decide) (fun r36 s37 hr38 hp39 => ?_)
        obtain ⟨rfl, q40, q41, z42⟩ := hp39
        rw [hE26] at z42
        refine zt_bipush (pc' := 23) hX dX1_both_21 rfl (by decide) (by decide) ?_
        refine zt_icne (pc' := 26) (tgt := 53) hX dX1_both_23 rfl (by decide) ⟨by omega, by omega⟩ ⟨by omega, by omega⟩ (fun c43 => ?_) (fun c43 => ?_)
        · exact zt_vret hX hR dX1_both_53 ⟨hI22, hF23, hT25, (by rw [hE26]; exact g28), (by rw [hE26]; exact g29), (by rw [hE26]; omega)⟩
        · refine zt_aload_n (pc' := 27) hX dX1_both_26 rfl rfl ?_
          refine zt_get (pc' := 30) (v := .ref (X.1.1 + 27)) hX dX1_both_27 rfl zf_X1_15 (by decide) zc_33 zs_20 (zrf_of (zv_20_0 hI22 zc_33)) ?_
          refine zt_cVv (pc' := 33) hX dX1_both_30 rfl zm_yX5_step zw_22_6 zc_27 (by decide) zs_14 (q := (RX5, TX5, 9)) rfl rfl (yc_X5_step _ _ s21 hI22 f hT25) rfl rfl (Nat.le_of_ble_eq_true rfl) (by decide) (fun r44 s45 hr46 hp47 => ?_)
          obtain ⟨hI48, hF49, hT50, z51⟩ := hp47
          have hE52 : yst s45 = yPx f p24 := by rw [z51, hE26]
          have hF53 := zOn_tr hF23 hF49 zi_r12
          have L54 : yle (yst σ) (yPx f p24) := yle_tr g29 (yle_x hT25 hE26)
          have b55 := zv_20_2 hI48 zc_33
          have e56 := hF49 33 2 rfl
          have g57 := yJ_tr g28 (yJ_ao ht (by omega))
          have I58 := yge_1 hT25 hE26 g30 (by omega)
          refine zt_aload_n (pc' := 34) hX dX1_both_33 rfl rfl ?_
          refine zt_iload_n (pc' := 35) hX dX1_both_34 rfl rfl ?_
          refine zt_cVv (pc' := 38) hX dX1_both_35 rfl zm_yX1_fact zw_24_10 zc_33 (by decide) zs_20 (q := (RX1, TX1, 3)) rfl rfl (yc_X1_fact_o6 _ _ s45 hI48 f hT50 rl (by omega) k hk) rfl rfl (Nat.le_of_ble_eq_true rfl) (by decide) (fun r59 s60 hr61 hp62 => ?_)
          obtain ⟨hI63, hF64, hT65, z66, z67⟩ := hp62
          rw [hE52] at z66
          rw [hE52] at z67
          have hF68 := zOn_tr hF53 hF64 zi_id
          obtain ⟨p69, hE70⟩ : ∃ p, yst s60 = p := ⟨_, rfl⟩
          rw [hE70] at z66
          rw [hE70] at z67
          have L71 := yle_tr L54 z67
          have b72 := zv_20_2 hI63 zc_33
          have e73 := hF64 33 2 rfl
          have g74 := yJ_tr g57 z66
          have I75 := yge_l I58 z67
          refine zt_aload_n (pc' := 39) hX dX1_both_38 rfl rfl ?_
          obtain ⟨k76, ek77, hk78⟩ := zv_20_1 hI63 zc_33
          refine zt_get (pc' := 42) (v := .ref (X.1.1 + k76)) hX dX1_both_39 rfl zf_X1_19 (by decide) zc_33 zs_20 (zrf_of ek77) ?_
          refine zt_bipush (pc' := 44) hX dX1_both_42 rfl (by decide) (by decide) ?_
          refine zt_cVv (pc' := 47) hX dX1_both_44 rfl zm_yX4_addStep zw_22_7 hk78 (by decide) zs_6 (q := (RX4, TX4, 2)) rfl rfl (yc_X4_addStep _ _ s60 hI63 k76 hk78 22 ⟨by omega, by omega⟩) rfl rfl (Nat.le_of_ble_eq_true rfl) (by decide) (fun r79 s80 hr81 hp82 => ?_)
          obtain ⟨hI83, hF84⟩ := hp82
          have hF85 := zOn_tr hF68 hF84 zi_rp2
          have hT86 := yTk_rk hT65 (yRk_p hF84)
          have hE87 : yst s80 = p69 := (yst_rk (yRk_p hF84)).trans hE70
          have b88 := zv_20_2 hI83 zc_33
          have e89 := hF84 33 2 rfl
          refine zt_iinc (pc' := 50) (lv' := [some (.ref (X.1.1 + 33)), some (.int (zI 6)), some (.int (zI (x18 + 1)))]) hX dX1_both_47 rfl rfl hL (by decide) rfl ?_
          refine zt_goto (tgt := 7) hX dX1_both_50 (by decide) ?_
          exact ih33 (x18 + 1) s80 p69 (by omega) (by omega) hI83 hF85 hT86 hE87 (by omega) g74 L71 I75 (by omega)
  exact L_7_30 _ 0 s3 p12 (by omega) (by omega) hI6 hF11 hT8 hE13 (by omega) g17 L14 (yge_0 hT8 hE13) (Nat.lt_succ_self _)
set_option maxRecDepth 100000 in
set_option maxHeartbeats 4000000 in
theorem yc_X1_test_o6 (l : Launch) (E : zEN) (σ : zSto) (hI : zInv σ) (f : Int → Int) (hT : yTk f σ) (rl : Int) (hrl : σ 33 2 = rl) (k : List Nat) (hk : ydep k = 6) (ht : ytop k ≠ 8) : zCt l E yX1_test cX1_test 3 none 9 zNC zNC 0 0 σ [.ref (E.1 + 33), .int (zI 6)] (fun r σ' => zInv σ' ∧ zOn zR2 σ σ' ∧ yTk f σ' ∧ (yJ rl f (4, k, (yst σ)) (5, k, (yst σ'))) ∧ (yle (yst σ) (yst σ')) ∧ (yPi f (yst σ') ≠ 22 ∧ yPi f (yst σ') ≠ 21)) := by
  refine zCt_of2 [some (.ref (E.1 + 33)), some (.int (zI 6)), none] (by decide +kernel) (Nat.le_of_ble_eq_true rfl) rfl ?_
  intro X hE_ hX hR hL hN
  subst hE_
  have hX : zok X cX1_test RX1 9 := hX
  have hF := zOn_rf zR2 σ
  have hE0 : yst σ = yst σ := rfl
  have L0 := yle_rf (yst σ)
  have b1 := zv_20_2 hI zc_33
  refine zt_aload_n (pc' := 1) hX dX1_test_0 rfl rfl ?_
  refine zt_iload_n (pc' := 2) hX dX1_test_1 rfl rfl ?_
  refine zt_cVv (pc' := 5) hX dX1_test_2 rfl zm_yX1_both zw_24_6 zc_33 (by decide) zs_20 (q := (RX1, TX1, 3)) rfl rfl (yc_X1_both_o6 _ _ σ hI f hT rl (by omega) k hk ht) rfl rfl (Nat.le_of_ble_eq_true rfl) (by decide) (fun r2 s3 hr4 hp5 => ?_)
  obtain ⟨hI6, hF7, hT8, z9, z10, z11⟩ := hp5
  have hF12 := zOn_tr hF hF7 zi_id
  obtain ⟨p13, hE14⟩ : ∃ p, yst s3 = p := ⟨_, rfl⟩
  rw [hE14] at z9
  rw [hE14] at z10
  have L15 := yle_tr L0 z10
  rw [hE14] at z11
  have b16 := zv_20_2 hI6 zc_33
  have e17 := hF7 33 2 rfl
  have g18 := z9
  refine zt_iconst (pc' := 6) hX dX1_test_5 rfl ?_
  refine zt_istore_n (pc' := 7) (lv' := [some (.ref (X.1.1 + 33)), some (.int (zI 6)), some (.int (zI 0))]) hX dX1_test_6 rfl hL (by decide) rfl ?_
  have L_7_32 : ∀ (N : Nat) (x19 : Int) (s22 : zSto) (p25 : yP), 0 ≤ x19 → x19 ≤ 1600 → zInv s22 → zOn zR2 σ s22 → yTk f s22 → yst s22 = p25 → yPi f p25 ≠ 22 → s22 33 2 = σ 33 2 → yJ rl f (4, k, yst σ) (5, k, p25) → yle (yst σ) p25 → yge x19 p25 → ((1601 - x19).toNat) < N → zF X s22 7 [some (.ref (X.1.1 + 33)), some (.int (zI 6)), some (.int (zI x19))] [] := by
    intro N
    induction N with
    | zero =>
      intro x19 s22 p25 h20 h21 hI23 hF24 hT26 hE27 g28 g29 g30 g31 g32 hm34
      exact absurd hm34 (Nat.not_lt_zero _)
    | succ N ih35 =>
      intro x19 s22 p25 h20 h21 hI23 hF24 hT26 hE27 g28 g29 g30 g31 g32 hm34
      have b36 := zv_20_2 hI23 zc_33
      have hx := yge_x hT26 hE27 g32
      refine zt_iload_n (pc' := 8) hX dX1_test_7 rfl rfl ?_
      refine zt_sipush (pc' := 11) hX dX1_test_8 rfl (by decide) (by decide) ?_
      refine zt_icge (pc' := 14) (tgt := 53) hX dX1_test_11 rfl (by decide) ⟨by omega, by omega⟩ ⟨by omega, by omega⟩ (fun c37 => ?_) (fun c37 => ?_)
      · exact zt_vret hX hR dX1_test_53 ⟨hI23, hF24, hT26, (by rw [hE27]; exact g30), (by rw [hE27]; exact g31), (by rw [hE27]; omega)⟩
      · refine zt_aload_n (pc' := 15) hX dX1_test_14 rfl rfl ?_
        refine zt_get (pc' := 18) (v := .ref (X.1.1 + 27)) hX dX1_test_15 rfl zf_X1_15 (by decide) zc_33 zs_20 (zrf_of (zv_20_0 hI23 zc_33)) ?_
        refine zt_cVi (pc' := 21) hX dX1_test_18 rfl zm_yX5_wordHere zw_22_21 zc_27 (by decide) zs_14 (q := (RX5, TX5, 9)) rfl rfl (yc_X5_wordHere _ _ s22 hI23 f hT26) rfl rfl (Nat.le_of_ble_eq_true rfl) (by decide) (fun r38 s39 hr40 hp41 => ?_)
        obtain ⟨rfl, q42, q43, z44⟩ := hp41
        rw [hE27] at z44
        refine zt_bipush (pc' := 23) hX dX1_test_21 rfl (by decide) (by decide) ?_
        refine zt_icne (pc' := 26) (tgt := 53) hX dX1_test_23 rfl (by decide) ⟨by omega, by omega⟩ ⟨by omega, by omega⟩ (fun c45 => ?_) (fun c45 => ?_)
        · exact zt_vret hX hR dX1_test_53 ⟨hI23, hF24, hT26, (by rw [hE27]; exact g30), (by rw [hE27]; exact g31), (by rw [hE27]; omega)⟩
        · refine zt_aload_n (pc' := 27) hX dX1_test_26 rfl rfl ?_
          refine zt_get (pc' := 30) (v := .ref (X.1.1 + 27)) hX dX1_test_27 rfl zf_X1_15 (by decide) zc_33 zs_20 (zrf_of (zv_20_0 hI23 zc_33)) ?_
          refine zt_cVv (pc' := 33) hX dX1_test_30 rfl zm_yX5_step zw_22_6 zc_27 (by decide) zs_14 (q := (RX5, TX5, 9)) rfl rfl (yc_X5_step _ _ s22 hI23 f hT26) rfl rfl (Nat.le_of_ble_eq_true rfl) (by decide) (fun r46 s47 hr48 hp49 => ?_)
          obtain ⟨hI50, hF51, hT52, z53⟩ := hp49
          have hE54 : yst s47 = yPx f p25 := by rw [z53, hE27]
          have hF55 := zOn_tr hF24 hF51 zi_r12
          have L56 : yle (yst σ) (yPx f p25) := yle_tr g31 (yle_x hT26 hE27)
          have b57 := zv_20_2 hI50 zc_33
          have e58 := hF51 33 2 rfl
          have g59 := yJ_tr g30 (yJ_ao ht (by omega))
          have I60 := yge_1 hT26 hE27 g32 (by omega)
          refine zt_aload_n (pc' := 34) hX dX1_test_33 rfl rfl ?_
          refine zt_iload_n (pc' := 35) hX dX1_test_34 rfl rfl ?_
          refine zt_cVv (pc' := 38) hX dX1_test_35 rfl zm_yX1_both zw_24_6 zc_33 (by decide) zs_20 (q := (RX1, TX1, 3)) rfl rfl (yc_X1_both_o6 _ _ s47 hI50 f hT52 rl (by omega) k hk ht) rfl rfl (Nat.le_of_ble_eq_true rfl) (by decide) (fun r61 s62 hr63 hp64 => ?_)
          obtain ⟨hI65, hF66, hT67, z68, z69, z70⟩ := hp64
          rw [hE54] at z68
          rw [hE54] at z69
          have hF71 := zOn_tr hF55 hF66 zi_id
          obtain ⟨p72, hE73⟩ : ∃ p, yst s62 = p := ⟨_, rfl⟩
          rw [hE73] at z68
          rw [hE73] at z69
          have L74 := yle_tr L56 z69
          rw [hE73] at z70
          have b75 := zv_20_2 hI65 zc_33
          have e76 := hF66 33 2 rfl
          have g77 := yJ_tr g59 z68
          have I78 := yge_l I60 z69
          refine zt_aload_n (pc' := 39) hX dX1_test_38 rfl rfl ?_
          obtain ⟨k79, ek80, hk81⟩ := zv_20_1 hI65 zc_33
          refine zt_get (pc' := 42) (v := .ref (X.1.1 + k79)) hX dX1_test_39 rfl zf_X1_19 (by decide) zc_33 zs_20 (zrf_of ek80) ?_
          refine zt_bipush (pc' := 44) hX dX1_test_42 rfl (by decide) (by decide) ?_
          refine zt_cVv (pc' := 47) hX dX1_test_44 rfl zm_yX4_addStep zw_22_7 hk81 (by decide) zs_6 (q := (RX4, TX4, 2)) rfl rfl (yc_X4_addStep _ _ s62 hI65 k79 hk81 21 ⟨by omega, by omega⟩) rfl rfl (Nat.le_of_ble_eq_true rfl) (by decide) (fun r82 s83 hr84 hp85 => ?_)
          obtain ⟨hI86, hF87⟩ := hp85
          have hF88 := zOn_tr hF71 hF87 zi_rp2
          have hT89 := yTk_rk hT67 (yRk_p hF87)
          have hE90 : yst s83 = p72 := (yst_rk (yRk_p hF87)).trans hE73
          have b91 := zv_20_2 hI86 zc_33
          have e92 := hF87 33 2 rfl
          refine zt_iinc (pc' := 50) (lv' := [some (.ref (X.1.1 + 33)), some (.int (zI 6)), some (.int (zI (x19 + 1)))]) hX dX1_test_47 rfl rfl hL (by decide) rfl ?_
          refine zt_goto (tgt := 7) hX dX1_test_50 (by decide) ?_
          exact ih35 (x19 + 1) s83 p72 (by omega) (by omega) hI86 hF88 hT89 hE90 (by omega) (by omega) g77 L74 I78 (by omega)
  exact L_7_32 _ 0 s3 p13 (by omega) (by omega) hI6 hF12 hT8 hE14 (by omega) (by omega) g18 L15 (yge_0 hT8 hE14) (Nat.lt_succ_self _)
set_option maxRecDepth 100000 in
set_option maxHeartbeats 4000000 in
theorem yc_X1_opens_o5 (l : Launch) (E : zEN) (σ : zSto) (hI : zInv σ) (f : Int → Int) (hT : yTk f σ) : zCt l E yX1_opens cX1_opens 2 (some .boolean) 1 zNC zNC 0 0 σ [.ref (E.1 + 33), .int (zI 5)] (fun r σ' => zInv σ' ∧ zOn zR1 σ σ' ∧ 1 ≤ r ∧ r ≤ 1 ∧ yTk f σ' ∧ ((yst σ') = yPx f (yst σ))) := by
  refine zCt_of2 [some (.ref (E.1 + 33)), some (.int (zI 5))] (by decide +kernel) (Nat.le_of_ble_eq_true rfl) rfl ?_
  intro X hE_ hX hR hL hN
  subst hE_
  have hX : zok X cX1_opens RX1 1 := hX
  have hF := zOn_rf zR1 σ
  have hE0 : yst σ = yst σ := rfl
  have L0 := yle_rf (yst σ)
  refine zt_iload_n (pc' := 1) hX dX1_opens_0 rfl rfl ?_
  refine zt_bipush (pc' := 3) hX dX1_opens_1 rfl (by decide) (by decide) ?_
  refine zt_iclt (pc' := 6) (tgt := 23) hX dX1_opens_3 rfl (by decide) ⟨by omega, by omega⟩ ⟨by omega, by omega⟩ (fun c1 => ?_) (fun c1 => ?_)
  · refine zt_aload_n (pc' := 24) hX dX1_opens_23 rfl rfl ?_
    refine zt_get (pc' := 27) (v := .ref (X.1.1 + 27)) hX dX1_opens_24 rfl zf_X1_15 (by decide) zc_33 zs_20 (zrf_of (zv_20_0 hI zc_33)) ?_
    refine zt_cVv (pc' := 30) hX dX1_opens_27 rfl zm_yX5_step zw_22_6 zc_27 (by decide) zs_14 (q := (RX5, TX5, 9)) rfl rfl (yc_X5_step _ _ σ hI f hT) rfl rfl (Nat.le_of_ble_eq_true rfl) (by decide) (fun r2 s3 hr4 hp5 => ?_)
    obtain ⟨hI6, hF7, hT8, z9⟩ := hp5
    have hE10 : yst s3 = yPx f (yst σ) := z9
    have hF11 := zOn_tr hF hF7 zi_id
    have L12 : yle (yst σ) (yPx f (yst σ)) := yle_tr L0 (yle_x hT hE0)
    refine zt_iconst (pc' := 31) hX dX1_opens_30 rfl ?_
    exact zt_zret hX hR dX1_opens_31 ⟨by omega, by omega⟩ ⟨hI6, hF11, by omega, by omega, hT8, hE10⟩
  · exact absurd c1 (by omega)
set_option maxRecDepth 100000 in
set_option maxHeartbeats 4000000 in
theorem yc_X1_pair_o5 (l : Launch) (E : zEN) (σ : zSto) (hI : zInv σ) (f : Int → Int) (hT : yTk f σ) (rl : Int) (hrl : σ 33 2 = rl) (k : List Nat) (hk : ydep k = 5) : zCt l E yX1_pair cX1_pair 2 none 6 zNC zNC 0 0 σ [.ref (E.1 + 33), .int (zI 5)] (fun r σ' => zInv σ' ∧ zOn zR2 σ σ' ∧ yTk f σ' ∧ (yJ rl f (3, k, (yst σ)) (2, k, (yst σ'))) ∧ (yle (yst σ) (yst σ'))) := by
  refine zCt_of2 [some (.ref (E.1 + 33)), some (.int (zI 5))] (by decide +kernel) (Nat.le_of_ble_eq_true rfl) rfl ?_
  intro X hE_ hX hR hL hN
  subst hE_
  have hX : zok X cX1_pair RX1 6 := hX
  have hF := zOn_rf zR2 σ
  have hE0 : yst σ = yst σ := rfl
  have L0 := yle_rf (yst σ)
  have b1 := zv_20_2 hI zc_33
  refine zt_aload_n (pc' := 1) hX dX1_pair_0 rfl rfl ?_
  refine zt_get (pc' := 4) (v := .ref (X.1.1 + 27)) hX dX1_pair_1 rfl zf_X1_15 (by decide) zc_33 zs_20 (zrf_of (zv_20_0 hI zc_33)) ?_
  refine zt_cVi (pc' := 7) hX dX1_pair_4 rfl zm_yX5_signHere zw_22_2 zc_27 (by decide) zs_14 (q := (RX5, TX5, 9)) rfl rfl (yc_X5_signHere _ _ σ hI f hT) rfl rfl (Nat.le_of_ble_eq_true rfl) (by decide) (fun r2 s3 hr4 hp5 => ?_)
  obtain ⟨rfl, q6, q7, z8⟩ := hp5
  refine zt_bipush (pc' := 9) hX dX1_pair_7 rfl (by decide) (by decide) ?_
  refine zt_iceq (pc' := 12) (tgt := 30) hX dX1_pair_9 rfl (by decide) ⟨by omega, by omega⟩ ⟨by omega, by omega⟩ (fun c9 => ?_) (fun c9 => ?_)
  · refine zt_aload_n (pc' := 31) hX dX1_pair_30 rfl rfl ?_
    refine zt_iload_n (pc' := 32) hX dX1_pair_31 rfl rfl ?_
    refine zt_cVz (pc' := 35) hX dX1_pair_32 rfl zm_yX1_opens zw_22_11 zc_33 (by decide) zs_20 (q := (RX1, TX1, 3)) rfl rfl (yc_X1_opens_o5 _ _ σ hI f hT) rfl rfl (Nat.le_of_ble_eq_true rfl) (by decide) (fun r10 s11 hr12 hp13 => ?_)
    obtain ⟨hI14, hF15, q16, q17, hT18, z19⟩ := hp13
    have hE20 : yst s11 = yPx f (yst σ) := z19
    have hF21 := zOn_tr hF hF15 zi_r12
    have L22 : yle (yst σ) (yPx f (yst σ)) := yle_tr L0 (yle_x hT hE0)
    have b23 := zv_20_2 hI14 zc_33
    have e24 := hF15 33 2 rfl
    refine zt_ifeq (pc' := 38) (tgt := 70) hX dX1_pair_35 rfl (by decide) ⟨by omega, by omega⟩ (fun c25 => ?_) (fun c25 => ?_)
    · exact absurd c25 (by omega)
    · refine zt_aload_n (pc' := 39) hX dX1_pair_38 rfl rfl ?_
      refine zt_iload_n (pc' := 40) hX dX1_pair_39 rfl rfl ?_
      refine zt_iconst (pc' := 41) hX dX1_pair_40 rfl ?_
      refine zt_iadd (pc' := 42) hX dX1_pair_41 rfl ?_
      rw [show (5 + 1 : Int) = 6 from rfl]
      refine zt_cVv (pc' := 45) hX dX1_pair_42 rfl zm_yX1_sum zw_21_19 zc_33 (by decide) zs_20 (q := (RX1, TX1, 3)) rfl rfl (yc_X1_sum_o6 _ _ s11 hI14 f hT18 rl (by omega) (2 :: k) (by show ydep k + 1 = _; omega) (Nat.ne_of_beq_eq_false rfl)) rfl rfl (Nat.le_of_ble_eq_true rfl) (by decide) (fun r26 s27 hr28 hp29 => ?_)
      obtain ⟨hI30, hF31, hT32, z33, z34, z35⟩ := hp29
      rw [hE20] at z33
      rw [hE20] at z34
      have hF36 := zOn_tr hF21 hF31 zi_id
      obtain ⟨p37, hE38⟩ : ∃ p, yst s27 = p := ⟨_, rfl⟩
      rw [hE38] at z33
      rw [hE38] at z34
      have L39 := yle_tr L22 z34
      rw [hE38] at z35
      have b40 := zv_20_2 hI30 zc_33
      have e41 := hF31 33 2 rfl
      refine zt_aload_n (pc' := 46) hX dX1_pair_45 rfl rfl ?_
      refine zt_get (pc' := 49) (v := .ref (X.1.1 + 27)) hX dX1_pair_46 rfl zf_X1_15 (by decide) zc_33 zs_20 (zrf_of (zv_20_0 hI30 zc_33)) ?_
      refine zt_bipush (pc' := 51) hX dX1_pair_49 rfl (by decide) (by decide) ?_
      refine zt_cVv (pc' := 54) hX dX1_pair_51 rfl zm_yX5_takeSign zw_22_15 zc_27 (by decide) zs_14 (q := (RX5, TX5, 9)) rfl rfl (yc_X5_takeSign _ _ s27 hI30 44 ⟨by omega, by omega⟩ f hT32) rfl rfl (Nat.le_of_ble_eq_true rfl) (by decide) (fun r42 s43 hr44 hp45 => ?_)
      obtain ⟨hI46, hF47, hT48, z49⟩ := hp45
      have hE50 : yst s43 = yPs f 44 p37 := by rw [z49, hE38]
      have hF51 := zOn_tr hF36 hF47 zi_r12
      have L52 : yle (yst σ) (yPs f 44 p37) := yle_tr L39 (yle_s hT32 hE38)
      have b53 := zv_20_2 hI46 zc_33
      have e54 := hF47 33 2 rfl
      refine zt_aload_n (pc' := 55) hX dX1_pair_54 rfl rfl ?_
      refine zt_iload_n (pc' := 56) hX dX1_pair_55 rfl rfl ?_
      refine zt_iconst (pc' := 57) hX dX1_pair_56 rfl ?_
      refine zt_iadd (pc' := 58) hX dX1_pair_57 rfl ?_
      rw [show (5 + 1 : Int) = 6 from rfl]
      refine zt_cVv (pc' := 61) hX dX1_pair_58 rfl zm_yX1_sum zw_21_19 zc_33 (by decide) zs_20 (q := (RX1, TX1, 3)) rfl rfl (yc_X1_sum_o6 _ _ s43 hI46 f hT48 rl (by omega) (3 :: k) (by show ydep k + 1 = _; omega) (Nat.ne_of_beq_eq_false rfl)) rfl rfl (Nat.le_of_ble_eq_true rfl) (by decide) (fun r55 s56 hr57 hp58 => ?_)
      obtain ⟨hI59, hF60, hT61, z62, z63, z64⟩ := hp58
      rw [hE50] at z62
      rw [hE50] at z63
      have hF65 := zOn_tr hF51 hF60 zi_id
      obtain ⟨p66, hE67⟩ : ∃ p, yst s56 = p := ⟨_, rfl⟩
      rw [hE67] at z62
      rw [hE67] at z63
      have L68 := yle_tr L52 z63
      rw [hE67] at z64
      have b69 := zv_20_2 hI59 zc_33
      have e70 := hF60 33 2 rfl
      refine zt_aload_n (pc' := 62) hX dX1_pair_61 rfl rfl ?_
      refine zt_get (pc' := 65) (v := .ref (X.1.1 + 27)) hX dX1_pair_62 rfl zf_X1_15 (by decide) zc_33 zs_20 (zrf_of (zv_20_0 hI59 zc_33)) ?_
      refine zt_bipush (pc' := 67) hX dX1_pair_65 rfl (by decide) (by decide) ?_
      refine zt_cVv (pc' := 70) hX dX1_pair_67 rfl zm_yX5_takeSign zw_22_15 zc_27 (by decide) zs_14 (q := (RX5, TX5, 9)) rfl rfl (yc_X5_takeSign _ _ s56 hI59 41 ⟨by omega, by omega⟩ f hT61) rfl rfl (Nat.le_of_ble_eq_true rfl) (by decide) (fun r71 s72 hr73 hp74 => ?_)
      obtain ⟨hI75, hF76, hT77, z78⟩ := hp74
      have hE79 : yst s72 = yPs f 41 p66 := by rw [z78, hE67]
      have hF80 := zOn_tr hF65 hF76 zi_r12
      have L81 : yle (yst σ) (yPs f 41 p66) := yle_tr L68 (yle_s hT61 hE67)
      have b82 := zv_20_2 hI75 zc_33
      have e83 := hF76 33 2 rfl
      exact zt_vret hX hR dX1_pair_70 ⟨hI75, hF80, hT77, (by rw [hE79]; exact yJ_tr (yJ_pr (by omega) (by omega)) (yJ_tr z33 (yJ_tr (yJ_cm z35) (yJ_tr z62 (yJ_cl (Or.inr rfl) z64))))), (by rw [hE79]; exact L81)⟩
  · refine zt_aload_n (pc' := 13) hX dX1_pair_12 rfl rfl ?_
    refine zt_get (pc' := 16) (v := .ref (X.1.1 + 27)) hX dX1_pair_13 rfl zf_X1_15 (by decide) zc_33 zs_20 (zrf_of (zv_20_0 hI zc_33)) ?_
    refine zt_iconst (pc' := 17) hX dX1_pair_16 rfl ?_
    refine zt_aload_n (pc' := 18) hX dX1_pair_17 rfl rfl ?_
    refine zt_get (pc' := 21) (v := .ref (X.1.1 + 27)) hX dX1_pair_18 rfl zf_X1_15 (by decide) zc_33 zs_20 (zrf_of (zv_20_0 hI zc_33)) ?_
    refine zt_cVi (pc' := 24) hX dX1_pair_21 rfl zm_yX5_placeHere zw_22_9 zc_27 (by decide) zs_14 (q := (RX5, TX5, 9)) rfl rfl (yc_X5_placeHere _ _ σ hI f hT) rfl rfl (Nat.le_of_ble_eq_true rfl) (by decide) (fun r84 s85 hr86 hp87 => ?_)
    obtain ⟨rfl, q88, q89, z90⟩ := hp87
    refine zt_cVv (pc' := 27) hX dX1_pair_24 rfl zm_yX5_refuse zw_22_10 zc_27 (by decide) zs_14 (q := (RX5, TX5, 9)) rfl rfl (yc_X5_refuse _ _ σ hI 1 ⟨by omega, by omega⟩ r84 ⟨by omega, by omega⟩ (by omega) f hT) rfl rfl (Nat.le_of_ble_eq_true rfl) (by decide) (fun r91 s92 hr93 hp94 => ?_)
    obtain ⟨hI95, hF96, hT97, z98⟩ := hp94
    have hE99 : yst s92 = yPno 1 r84 (yst σ) := z98
    have hF100 := zOn_tr hF hF96 zi_r12
    have L101 : yle (yst σ) (yPno 1 r84 (yst σ)) := yle_tr L0 yle_no
    have b102 := zv_20_2 hI95 zc_33
    have e103 := hF96 33 2 rfl
    refine zt_goto (tgt := 70) hX dX1_pair_27 (by decide) ?_
    exact zt_vret hX hR dX1_pair_70 ⟨hI95, hF100, hT97, (by rw [hE99, yPno_f (p := r84) (d := 0) (fun o => by omega)]; exact yJ_prn (by omega)), (by rw [hE99]; exact L101)⟩
set_option maxRecDepth 100000 in
set_option maxHeartbeats 4000000 in
theorem yc_X1_part_o5 (l : Launch) (E : zEN) (σ : zSto) (hI : zInv σ) (f : Int → Int) (hT : yTk f σ) (rl : Int) (hrl : σ 33 2 = rl) (k : List Nat) (hk : ydep k = 5) : zCt l E yX1_part cX1_part 4 none 7 zNC zNC 0 0 σ [.ref (E.1 + 33), .int (zI 5)] (fun r σ' => zInv σ' ∧ zOn zR2 σ σ' ∧ yTk f σ' ∧ (yJ rl f (1, k, (yst σ)) (2, k, (yst σ'))) ∧ (yle (yst σ) (yst σ'))) := by
  refine zCt_of2 [some (.ref (E.1 + 33)), some (.int (zI 5)), none, none] (by decide +kernel) (Nat.le_of_ble_eq_true rfl) rfl ?_
  intro X hE_ hX hR hL hN
  subst hE_
  have hX : zok X cX1_part RX1 7 := hX
  have hF := zOn_rf zR2 σ
  have hE0 : yst σ = yst σ := rfl
  have L0 := yle_rf (yst σ)
  have b1 := zv_20_2 hI zc_33
  refine zt_aload_n (pc' := 1) hX dX1_part_0 rfl rfl ?_
  refine zt_get (pc' := 4) (v := .ref (X.1.1 + 27)) hX dX1_part_1 rfl zf_X1_15 (by decide) zc_33 zs_20 (zrf_of (zv_20_0 hI zc_33)) ?_
  refine zt_cVi (pc' := 7) hX dX1_part_4 rfl zm_yX5_wordHere zw_22_21 zc_27 (by decide) zs_14 (q := (RX5, TX5, 9)) rfl rfl (yc_X5_wordHere _ _ σ hI f hT) rfl rfl (Nat.le_of_ble_eq_true rfl) (by decide) (fun r2 s3 hr4 hp5 => ?_)
  obtain ⟨rfl, q6, q7, z8⟩ := hp5
  refine zt_istore_n (pc' := 8) (lv' := [some (.ref (X.1.1 + 33)), some (.int (zI 5)), some (.int (zI r2)), none]) hX dX1_part_7 rfl hL (by decide) rfl ?_
  refine zt_aload_n (pc' := 9) hX dX1_part_8 rfl rfl ?_
  refine zt_get (pc' := 12) (v := .ref (X.1.1 + 27)) hX dX1_part_9 rfl zf_X1_15 (by decide) zc_33 zs_20 (zrf_of (zv_20_0 hI zc_33)) ?_
  refine zt_cVi (pc' := 15) hX dX1_part_12 rfl zm_yX5_kindHere zw_22_22 zc_27 (by decide) zs_14 (q := (RX5, TX5, 9)) rfl rfl (yc_X5_kindHere _ _ σ hI f hT) rfl rfl (Nat.le_of_ble_eq_true rfl) (by decide) (fun r9 s10 hr11 hp12 => ?_)
  obtain ⟨rfl, q13, q14, z15⟩ := hp12
  refine zt_istore_n (pc' := 16) (lv' := [some (.ref (X.1.1 + 33)), some (.int (zI 5)), some (.int (zI r2)), some (.int (zI r9))]) hX dX1_part_15 rfl hL (by decide) rfl ?_
  refine zt_iload_n (pc' := 17) hX dX1_part_16 rfl rfl ?_
  refine zt_iconst (pc' := 18) hX dX1_part_17 rfl ?_
  refine zt_iceq (pc' := 21) (tgt := 26) hX dX1_part_18 rfl (by decide) ⟨by omega, by omega⟩ ⟨by omega, by omega⟩ (fun c16 => ?_) (fun c16 => ?_)
  · refine zt_aload_n (pc' := 27) hX dX1_part_26 rfl rfl ?_
    obtain ⟨k17, ek18, hk19⟩ := zv_20_1 hI zc_33
    refine zt_get (pc' := 30) (v := .ref (X.1.1 + k17)) hX dX1_part_27 rfl zf_X1_19 (by decide) zc_33 zs_20 (zrf_of ek18) ?_
    refine zt_aload_n (pc' := 31) hX dX1_part_30 rfl rfl ?_
    refine zt_get (pc' := 34) (v := .ref (X.1.1 + 27)) hX dX1_part_31 rfl zf_X1_15 (by decide) zc_33 zs_20 (zrf_of (zv_20_0 hI zc_33)) ?_
    refine zt_iconst (pc' := 35) hX dX1_part_34 rfl ?_
    refine zt_sipush (pc' := 38) hX dX1_part_35 rfl (by decide) (by decide) ?_
    refine zt_cVi (pc' := 41) hX dX1_part_38 rfl zm_yX5_takeNumber zw_22_23 zc_27 (by decide) zs_14 (q := (RX5, TX5, 9)) rfl rfl (yc_X5_takeNumber _ _ σ hI 0 ⟨by omega, by omega⟩ 9999 ⟨by omega, by omega⟩ f hT) rfl rfl (Nat.le_of_ble_eq_true rfl) (by decide) (fun r20 s21 hr22 hp23 => ?_)
    obtain ⟨hI24, hF25, q26, q27, hT28, z29, z30, z31⟩ := hp23
    have hE32 : yst s21 = yPn f 0 9999 (yst σ) := z29
    have hF33 := zOn_tr hF hF25 zi_r12
    rw [hE32] at z30
    have L34 : yle (yst σ) (yPn f 0 9999 (yst σ)) := yle_tr L0 (yle_n hT hE0)
    have b35 := zv_20_2 hI24 zc_33
    have e36 := hF25 33 2 rfl
    refine zt_cVv (pc' := 44) hX dX1_part_41 rfl zm_yX4_addNumber zw_23_0 hk19 (by decide) zs_6 (q := (RX4, TX4, 2)) rfl rfl (yc_X4_addNumber _ _ s21 hI24 k17 hk19 r20 ⟨by omega, by omega⟩) rfl rfl (Nat.le_of_ble_eq_true rfl) (by decide) (fun r37 s38 hr39 hp40 => ?_)
    obtain ⟨hI41, hF42⟩ := hp40
    have hF43 := zOn_tr hF33 hF42 zi_rp2
    have hT44 := yTk_rk hT28 (yRk_p hF42)
    have hE45 : yst s38 = yPn f 0 9999 (yst σ) := (yst_rk (yRk_p hF42)).trans hE32
    have b46 := zv_20_2 hI41 zc_33
    have e47 := hF42 33 2 rfl
    refine zt_goto (tgt := 203) hX dX1_part_44 (by decide) ?_
    exact zt_vret hX hR dX1_part_203 ⟨hI41, hF43, hT44, (by rw [hE45]; exact yJ_num (by omega)), (by rw [hE45]; exact L34)⟩
  · refine zt_iload_n (pc' := 22) hX dX1_part_21 rfl rfl ?_
    refine zt_iconst (pc' := 23) hX dX1_part_22 rfl ?_
    refine zt_icne (pc' := 26) (tgt := 47) hX dX1_part_23 rfl (by decide) ⟨by omega, by omega⟩ ⟨by omega, by omega⟩ (fun c48 => ?_) (fun c48 => ?_)
    · refine zt_aload_n (pc' := 48) hX dX1_part_47 rfl rfl ?_
      refine zt_get (pc' := 51) (v := .ref (X.1.1 + 27)) hX dX1_part_48 rfl zf_X1_15 (by decide) zc_33 zs_20 (zrf_of (zv_20_0 hI zc_33)) ?_
      refine zt_cVi (pc' := 54) hX dX1_part_51 rfl zm_yX5_signHere zw_22_2 zc_27 (by decide) zs_14 (q := (RX5, TX5, 9)) rfl rfl (yc_X5_signHere _ _ σ hI f hT) rfl rfl (Nat.le_of_ble_eq_true rfl) (by decide) (fun r49 s50 hr51 hp52 => ?_)
      obtain ⟨rfl, q53, q54, z55⟩ := hp52
      refine zt_bipush (pc' := 56) hX dX1_part_54 rfl (by decide) (by decide) ?_
      refine zt_icne (pc' := 59) (tgt := 86) hX dX1_part_56 rfl (by decide) ⟨by omega, by omega⟩ ⟨by omega, by omega⟩ (fun c56 => ?_) (fun c56 => ?_)
      · refine zt_iload_n (pc' := 87) hX dX1_part_86 rfl rfl ?_
        refine zt_bipush (pc' := 89) hX dX1_part_87 rfl (by decide) (by decide) ?_
        refine zt_iceq (pc' := 92) (tgt := 98) hX dX1_part_89 rfl (by decide) ⟨by omega, by omega⟩ ⟨by omega, by omega⟩ (fun c57 => ?_) (fun c57 => ?_)
        · refine zt_aload_n (pc' := 99) hX dX1_part_98 rfl rfl ?_
          refine zt_get (pc' := 102) (v := .ref (X.1.1 + 27)) hX dX1_part_99 rfl zf_X1_15 (by decide) zc_33 zs_20 (zrf_of (zv_20_0 hI zc_33)) ?_
          refine zt_cVv (pc' := 105) hX dX1_part_102 rfl zm_yX5_step zw_22_6 zc_27 (by decide) zs_14 (q := (RX5, TX5, 9)) rfl rfl (yc_X5_step _ _ σ hI f hT) rfl rfl (Nat.le_of_ble_eq_true rfl) (by decide) (fun r58 s59 hr60 hp61 => ?_)
          obtain ⟨hI62, hF63, hT64, z65⟩ := hp61
          have hE66 : yst s59 = yPx f (yst σ) := z65
          have hF67 := zOn_tr hF hF63 zi_r12
          have L68 : yle (yst σ) (yPx f (yst σ)) := yle_tr L0 (yle_x hT hE0)
          have b69 := zv_20_2 hI62 zc_33
          have e70 := hF63 33 2 rfl
          refine zt_aload_n (pc' := 106) hX dX1_part_105 rfl rfl ?_
          refine zt_iload_n (pc' := 107) hX dX1_part_106 rfl rfl ?_
          refine zt_cVv (pc' := 110) hX dX1_part_107 rfl zm_yX1_pair zw_23_1 zc_33 (by decide) zs_20 (q := (RX1, TX1, 3)) rfl rfl (yc_X1_pair_o5 _ _ s59 hI62 f hT64 rl (by omega) k hk) rfl rfl (Nat.le_of_ble_eq_true rfl) (by decide) (fun r71 s72 hr73 hp74 => ?_)
          obtain ⟨hI75, hF76, hT77, z78, z79⟩ := hp74
          rw [hE66] at z78
          rw [hE66] at z79
          have hF80 := zOn_tr hF67 hF76 zi_id
          obtain ⟨p81, hE82⟩ : ∃ p, yst s72 = p := ⟨_, rfl⟩
          rw [hE82] at z78
          rw [hE82] at z79
          have L83 := yle_tr L68 z79
          have b84 := zv_20_2 hI75 zc_33
          have e85 := hF76 33 2 rfl
          refine zt_aload_n (pc' := 111) hX dX1_part_110 rfl rfl ?_
          obtain ⟨k86, ek87, hk88⟩ := zv_20_1 hI75 zc_33
          refine zt_get (pc' := 114) (v := .ref (X.1.1 + k86)) hX dX1_part_111 rfl zf_X1_19 (by decide) zc_33 zs_20 (zrf_of ek87) ?_
          refine zt_iload_n (pc' := 115) hX dX1_part_114 rfl rfl ?_
          refine zt_cVv (pc' := 118) hX dX1_part_115 rfl zm_yX4_addStep zw_22_7 hk88 (by decide) zs_6 (q := (RX4, TX4, 2)) rfl rfl (yc_X4_addStep _ _ s72 hI75 k86 hk88 r2 ⟨by omega, by omega⟩) rfl rfl (Nat.le_of_ble_eq_true rfl) (by decide) (fun r89 s90 hr91 hp92 => ?_)
          obtain ⟨hI93, hF94⟩ := hp92
          have hF95 := zOn_tr hF80 hF94 zi_rp2
          have hT96 := yTk_rk hT77 (yRk_p hF94)
          have hE97 : yst s90 = p81 := (yst_rk (yRk_p hF94)).trans hE82
          have b98 := zv_20_2 hI93 zc_33
          have e99 := hF94 33 2 rfl
          refine zt_goto (tgt := 203) hX dX1_part_118 (by decide) ?_
          exact zt_vret hX hR dX1_part_203 ⟨hI93, hF95, hT96, (by rw [hE97]; exact yJ_tr (yJ_mm (by omega)) z78), (by rw [hE97]; exact L83)⟩
        · refine zt_iload_n (pc' := 93) hX dX1_part_92 rfl rfl ?_
          refine zt_bipush (pc' := 95) hX dX1_part_93 rfl (by decide) (by decide) ?_
          refine zt_icne (pc' := 98) (tgt := 121) hX dX1_part_95 rfl (by decide) ⟨by omega, by omega⟩ ⟨by omega, by omega⟩ (fun c100 => ?_) (fun c100 => ?_)
          · refine zt_iload_n (pc' := 122) hX dX1_part_121 rfl rfl ?_
            refine zt_bipush (pc' := 124) hX dX1_part_122 rfl (by decide) (by decide) ?_
            refine zt_icne (pc' := 127) (tgt := 162) hX dX1_part_124 rfl (by decide) ⟨by omega, by omega⟩ ⟨by omega, by omega⟩ (fun c101 => ?_) (fun c101 => ?_)
            · refine zt_aload_n (pc' := 163) hX dX1_part_162 rfl rfl ?_
              refine zt_iload_n (pc' := 164) hX dX1_part_163 rfl rfl ?_
              refine zt_cVz (pc' := 167) hX dX1_part_164 rfl zm_yX1_isValue zw_23_7 zc_33 (by decide) zs_20 (q := (RX1, TX1, 3)) rfl rfl (yc_X1_isValue _ _ σ hI r2 ⟨by omega, by omega⟩) rfl rfl (Nat.le_of_ble_eq_true rfl) (by decide) (fun r102 s103 hr104 hp105 => ?_)
              obtain ⟨rfl, q106, q107, z108⟩ := hp105
              rw [hrl, z8] at z108
              refine zt_ifeq (pc' := 170) (tgt := 188) hX dX1_part_167 rfl (by decide) ⟨by omega, by omega⟩ (fun c109 => ?_) (fun c109 => ?_)
              · refine zt_aload_n (pc' := 189) hX dX1_part_188 rfl rfl ?_
                refine zt_get (pc' := 192) (v := .ref (X.1.1 + 27)) hX dX1_part_189 rfl zf_X1_15 (by decide) zc_33 zs_20 (zrf_of (zv_20_0 hI zc_33)) ?_
                refine zt_iconst (pc' := 193) hX dX1_part_192 rfl ?_
                refine zt_aload_n (pc' := 194) hX dX1_part_193 rfl rfl ?_
                refine zt_get (pc' := 197) (v := .ref (X.1.1 + 27)) hX dX1_part_194 rfl zf_X1_15 (by decide) zc_33 zs_20 (zrf_of (zv_20_0 hI zc_33)) ?_
                refine zt_cVi (pc' := 200) hX dX1_part_197 rfl zm_yX5_placeHere zw_22_9 zc_27 (by decide) zs_14 (q := (RX5, TX5, 9)) rfl rfl (yc_X5_placeHere _ _ σ hI f hT) rfl rfl (Nat.le_of_ble_eq_true rfl) (by decide) (fun r110 s111 hr112 hp113 => ?_)
                obtain ⟨rfl, q114, q115, z116⟩ := hp113
                refine zt_cVv (pc' := 203) hX dX1_part_200 rfl zm_yX5_refuse zw_22_10 zc_27 (by decide) zs_14 (q := (RX5, TX5, 9)) rfl rfl (yc_X5_refuse _ _ σ hI 1 ⟨by omega, by omega⟩ r110 ⟨by omega, by omega⟩ (by omega) f hT) rfl rfl (Nat.le_of_ble_eq_true rfl) (by decide) (fun r117 s118 hr119 hp120 => ?_)
                obtain ⟨hI121, hF122, hT123, z124⟩ := hp120
                have hE125 : yst s118 = yPno 1 r110 (yst σ) := z124
                have hF126 := zOn_tr hF hF122 zi_r12
                have L127 : yle (yst σ) (yPno 1 r110 (yst σ)) := yle_tr L0 yle_no
                have b128 := zv_20_2 hI121 zc_33
                have e129 := hF122 33 2 rfl
                exact zt_vret hX hR dX1_part_203 ⟨hI121, hF126, hT123, (by rw [hE125, yPno_f (p := r110) (d := 0) (fun o => by omega)]; exact yJ_bad (by omega) (by omega) (by omega) (by omega) (yVi_0 (by omega))), (by rw [hE125]; exact L127)⟩
              · refine zt_aload_n (pc' := 171) hX dX1_part_170 rfl rfl ?_
                refine zt_get (pc' := 174) (v := .ref (X.1.1 + 27)) hX dX1_part_171 rfl zf_X1_15 (by decide) zc_33 zs_20 (zrf_of (zv_20_0 hI zc_33)) ?_
                refine zt_cVv (pc' := 177) hX dX1_part_174 rfl zm_yX5_step zw_22_6 zc_27 (by decide) zs_14 (q := (RX5, TX5, 9)) rfl rfl (yc_X5_step _ _ σ hI f hT) rfl rfl (Nat.le_of_ble_eq_true rfl) (by decide) (fun r130 s131 hr132 hp133 => ?_)
                obtain ⟨hI134, hF135, hT136, z137⟩ := hp133
                have hE138 : yst s131 = yPx f (yst σ) := z137
                have hF139 := zOn_tr hF hF135 zi_r12
                have L140 : yle (yst σ) (yPx f (yst σ)) := yle_tr L0 (yle_x hT hE0)
                have b141 := zv_20_2 hI134 zc_33
                have e142 := hF135 33 2 rfl
                refine zt_aload_n (pc' := 178) hX dX1_part_177 rfl rfl ?_
                obtain ⟨k143, ek144, hk145⟩ := zv_20_1 hI134 zc_33
                refine zt_get (pc' := 181) (v := .ref (X.1.1 + k143)) hX dX1_part_178 rfl zf_X1_19 (by decide) zc_33 zs_20 (zrf_of ek144) ?_
                refine zt_iload_n (pc' := 182) hX dX1_part_181 rfl rfl ?_
                refine zt_cVv (pc' := 185) hX dX1_part_182 rfl zm_yX4_addStep zw_22_7 hk145 (by decide) zs_6 (q := (RX4, TX4, 2)) rfl rfl (yc_X4_addStep _ _ s131 hI134 k143 hk145 r2 ⟨by omega, by omega⟩) rfl rfl (Nat.le_of_ble_eq_true rfl) (by decide) (fun r146 s147 hr148 hp149 => ?_)
                obtain ⟨hI150, hF151⟩ := hp149
                have hF152 := zOn_tr hF139 hF151 zi_rp2
                have hT153 := yTk_rk hT136 (yRk_p hF151)
                have hE154 : yst s147 = yPx f (yst σ) := (yst_rk (yRk_p hF151)).trans hE138
                have b155 := zv_20_2 hI150 zc_33
                have e156 := hF151 33 2 rfl
                refine zt_goto (tgt := 203) hX dX1_part_185 (by decide) ?_
                exact zt_vret hX hR dX1_part_203 ⟨hI150, hF152, hT153, (by rw [hE154]; exact yJ_val (yVi_1 (by omega))), (by rw [hE154]; exact L140)⟩
            · refine zt_aload_n (pc' := 128) hX dX1_part_127 rfl rfl ?_
              have b157 := zv_20_2 hI zc_33
              refine zt_get (pc' := 131) (v := .int (zI (σ 33 2))) hX dX1_part_128 rfl zf_X1_9 (by decide) zc_33 zs_20 rfl ?_
              refine zt_iconst (pc' := 132) hX dX1_part_131 rfl ?_
              refine zt_icne (pc' := 135) (tgt := 162) hX dX1_part_132 rfl (by decide) ⟨by omega, by omega⟩ ⟨by omega, by omega⟩ (fun c158 => ?_) (fun c158 => ?_)
              · refine zt_aload_n (pc' := 163) hX dX1_part_162 rfl rfl ?_
                refine zt_iload_n (pc' := 164) hX dX1_part_163 rfl rfl ?_
                refine zt_cVz (pc' := 167) hX dX1_part_164 rfl zm_yX1_isValue zw_23_7 zc_33 (by decide) zs_20 (q := (RX1, TX1, 3)) rfl rfl (yc_X1_isValue _ _ σ hI r2 ⟨by omega, by omega⟩) rfl rfl (Nat.le_of_ble_eq_true rfl) (by decide) (fun r159 s160 hr161 hp162 => ?_)
                obtain ⟨rfl, q163, q164, z165⟩ := hp162
                rw [hrl, z8] at z165
                refine zt_ifeq (pc' := 170) (tgt := 188) hX dX1_part_167 rfl (by decide) ⟨by omega, by omega⟩ (fun c166 => ?_) (fun c166 => ?_)
                · refine zt_aload_n (pc' := 189) hX dX1_part_188 rfl rfl ?_
                  refine zt_get (pc' := 192) (v := .ref (X.1.1 + 27)) hX dX1_part_189 rfl zf_X1_15 (by decide) zc_33 zs_20 (zrf_of (zv_20_0 hI zc_33)) ?_
                  refine zt_iconst (pc' := 193) hX dX1_part_192 rfl ?_
                  refine zt_aload_n (pc' := 194) hX dX1_part_193 rfl rfl ?_
                  refine zt_get (pc' := 197) (v := .ref (X.1.1 + 27)) hX dX1_part_194 rfl zf_X1_15 (by decide) zc_33 zs_20 (zrf_of (zv_20_0 hI zc_33)) ?_
                  refine zt_cVi (pc' := 200) hX dX1_part_197 rfl zm_yX5_placeHere zw_22_9 zc_27 (by decide) zs_14 (q := (RX5, TX5, 9)) rfl rfl (yc_X5_placeHere _ _ σ hI f hT) rfl rfl (Nat.le_of_ble_eq_true rfl) (by decide) (fun r167 s168 hr169 hp170 => ?_)
                  obtain ⟨rfl, q171, q172, z173⟩ := hp170
                  refine zt_cVv (pc' := 203) hX dX1_part_200 rfl zm_yX5_refuse zw_22_10 zc_27 (by decide) zs_14 (q := (RX5, TX5, 9)) rfl rfl (yc_X5_refuse _ _ σ hI 1 ⟨by omega, by omega⟩ r167 ⟨by omega, by omega⟩ (by omega) f hT) rfl rfl (Nat.le_of_ble_eq_true rfl) (by decide) (fun r174 s175 hr176 hp177 => ?_)
                  obtain ⟨hI178, hF179, hT180, z181⟩ := hp177
                  have hE182 : yst s175 = yPno 1 r167 (yst σ) := z181
                  have hF183 := zOn_tr hF hF179 zi_r12
                  have L184 : yle (yst σ) (yPno 1 r167 (yst σ)) := yle_tr L0 yle_no
                  have b185 := zv_20_2 hI178 zc_33
                  have e186 := hF179 33 2 rfl
                  exact zt_vret hX hR dX1_part_203 ⟨hI178, hF183, hT180, (by rw [hE182, yPno_f (p := r167) (d := 0) (fun o => by omega)]; exact yJ_bad (by omega) (by omega) (by omega) (by omega) (yVi_0 (by omega))), (by rw [hE182]; exact L184)⟩
                · refine zt_aload_n (pc' := 171) hX dX1_part_170 rfl rfl ?_
                  refine zt_get (pc' := 174) (v := .ref (X.1.1 + 27)) hX dX1_part_171 rfl zf_X1_15 (by decide) zc_33 zs_20 (zrf_of (zv_20_0 hI zc_33)) ?_
                  refine zt_cVv (pc' := 177) hX dX1_part_174 rfl zm_yX5_step zw_22_6 zc_27 (by decide) zs_14 (q := (RX5, TX5, 9)) rfl rfl (yc_X5_step _ _ σ hI f hT) rfl rfl (Nat.le_of_ble_eq_true rfl) (by decide) (fun r187 s188 hr189 hp190 => ?_)
                  obtain ⟨hI191, hF192, hT193, z194⟩ := hp190
                  have hE195 : yst s188 = yPx f (yst σ) := z194
                  have hF196 := zOn_tr hF hF192 zi_r12
                  have L197 : yle (yst σ) (yPx f (yst σ)) := yle_tr L0 (yle_x hT hE0)
                  have b198 := zv_20_2 hI191 zc_33
                  have e199 := hF192 33 2 rfl
                  refine zt_aload_n (pc' := 178) hX dX1_part_177 rfl rfl ?_
                  obtain ⟨k200, ek201, hk202⟩ := zv_20_1 hI191 zc_33
                  refine zt_get (pc' := 181) (v := .ref (X.1.1 + k200)) hX dX1_part_178 rfl zf_X1_19 (by decide) zc_33 zs_20 (zrf_of ek201) ?_
                  refine zt_iload_n (pc' := 182) hX dX1_part_181 rfl rfl ?_
                  refine zt_cVv (pc' := 185) hX dX1_part_182 rfl zm_yX4_addStep zw_22_7 hk202 (by decide) zs_6 (q := (RX4, TX4, 2)) rfl rfl (yc_X4_addStep _ _ s188 hI191 k200 hk202 r2 ⟨by omega, by omega⟩) rfl rfl (Nat.le_of_ble_eq_true rfl) (by decide) (fun r203 s204 hr205 hp206 => ?_)
                  obtain ⟨hI207, hF208⟩ := hp206
                  have hF209 := zOn_tr hF196 hF208 zi_rp2
                  have hT210 := yTk_rk hT193 (yRk_p hF208)
                  have hE211 : yst s204 = yPx f (yst σ) := (yst_rk (yRk_p hF208)).trans hE195
                  have b212 := zv_20_2 hI207 zc_33
                  have e213 := hF208 33 2 rfl
                  refine zt_goto (tgt := 203) hX dX1_part_185 (by decide) ?_
                  exact zt_vret hX hR dX1_part_203 ⟨hI207, hF209, hT210, (by rw [hE211]; exact yJ_val (yVi_1 (by omega))), (by rw [hE211]; exact L197)⟩
              · refine zt_aload_n (pc' := 136) hX dX1_part_135 rfl rfl ?_
                refine zt_iload_n (pc' := 137) hX dX1_part_136 rfl rfl ?_
                refine zt_cVz (pc' := 140) hX dX1_part_137 rfl zm_yX1_opens zw_22_11 zc_33 (by decide) zs_20 (q := (RX1, TX1, 3)) rfl rfl (yc_X1_opens_o5 _ _ σ hI f hT) rfl rfl (Nat.le_of_ble_eq_true rfl) (by decide) (fun r214 s215 hr216 hp217 => ?_)
                obtain ⟨hI218, hF219, q220, q221, hT222, z223⟩ := hp217
                have hE224 : yst s215 = yPx f (yst σ) := z223
                have hF225 := zOn_tr hF hF219 zi_r12
                have L226 : yle (yst σ) (yPx f (yst σ)) := yle_tr L0 (yle_x hT hE0)
                have b227 := zv_20_2 hI218 zc_33
                have e228 := hF219 33 2 rfl
                refine zt_ifeq (pc' := 143) (tgt := 203) hX dX1_part_140 rfl (by decide) ⟨by omega, by omega⟩ (fun c229 => ?_) (fun c229 => ?_)
                · exact absurd c229 (by omega)
                · refine zt_aload_n (pc' := 144) hX dX1_part_143 rfl rfl ?_
                  refine zt_iload_n (pc' := 145) hX dX1_part_144 rfl rfl ?_
                  refine zt_iconst (pc' := 146) hX dX1_part_145 rfl ?_
                  refine zt_iadd (pc' := 147) hX dX1_part_146 rfl ?_
                  rw [show (5 + 1 : Int) = 6 from rfl]
                  refine zt_cVv (pc' := 150) hX dX1_part_147 rfl zm_yX1_part zw_23_4 zc_33 (by decide) zs_20 (q := (RX1, TX1, 3)) rfl rfl (yc_X1_part_o6 _ _ s215 hI218 f hT222 rl (by omega) (4 :: k) (by show ydep k + 1 = _; omega)) rfl rfl (Nat.le_of_ble_eq_true rfl) (by decide) (fun r230 s231 hr232 hp233 => ?_)
                  obtain ⟨hI234, hF235, hT236, z237, z238⟩ := hp233
                  rw [hE224] at z237
                  rw [hE224] at z238
                  have hF239 := zOn_tr hF225 hF235 zi_id
                  obtain ⟨p240, hE241⟩ : ∃ p, yst s231 = p := ⟨_, rfl⟩
                  rw [hE241] at z237
                  rw [hE241] at z238
                  have L242 := yle_tr L226 z238
                  have b243 := zv_20_2 hI234 zc_33
                  have e244 := hF235 33 2 rfl
                  refine zt_aload_n (pc' := 151) hX dX1_part_150 rfl rfl ?_
                  obtain ⟨k245, ek246, hk247⟩ := zv_20_1 hI234 zc_33
                  refine zt_get (pc' := 154) (v := .ref (X.1.1 + k245)) hX dX1_part_151 rfl zf_X1_19 (by decide) zc_33 zs_20 (zrf_of ek246) ?_
                  refine zt_bipush (pc' := 156) hX dX1_part_154 rfl (by decide) (by decide) ?_
                  refine zt_cVv (pc' := 159) hX dX1_part_156 rfl zm_yX4_addStep zw_22_7 hk247 (by decide) zs_6 (q := (RX4, TX4, 2)) rfl rfl (yc_X4_addStep _ _ s231 hI234 k245 hk247 20 ⟨by omega, by omega⟩) rfl rfl (Nat.le_of_ble_eq_true rfl) (by decide) (fun r248 s249 hr250 hp251 => ?_)
                  obtain ⟨hI252, hF253⟩ := hp251
                  have hF254 := zOn_tr hF239 hF253 zi_rp2
                  have hT255 := yTk_rk hT236 (yRk_p hF253)
                  have hE256 : yst s249 = p240 := (yst_rk (yRk_p hF253)).trans hE241
                  have b257 := zv_20_2 hI252 zc_33
                  have e258 := hF253 33 2 rfl
                  refine zt_goto (tgt := 203) hX dX1_part_159 (by decide) ?_
                  exact zt_vret hX hR dX1_part_203 ⟨hI252, hF254, hT255, (by rw [hE256]; exact yJ_tr (yJ_far (by omega) (by omega) (by omega)) (yJ_tr z237 yJ_of)), (by rw [hE256]; exact L242)⟩
          · refine zt_aload_n (pc' := 99) hX dX1_part_98 rfl rfl ?_
            refine zt_get (pc' := 102) (v := .ref (X.1.1 + 27)) hX dX1_part_99 rfl zf_X1_15 (by decide) zc_33 zs_20 (zrf_of (zv_20_0 hI zc_33)) ?_
            refine zt_cVv (pc' := 105) hX dX1_part_102 rfl zm_yX5_step zw_22_6 zc_27 (by decide) zs_14 (q := (RX5, TX5, 9)) rfl rfl (yc_X5_step _ _ σ hI f hT) rfl rfl (Nat.le_of_ble_eq_true rfl) (by decide) (fun r259 s260 hr261 hp262 => ?_)
            obtain ⟨hI263, hF264, hT265, z266⟩ := hp262
            have hE267 : yst s260 = yPx f (yst σ) := z266
            have hF268 := zOn_tr hF hF264 zi_r12
            have L269 : yle (yst σ) (yPx f (yst σ)) := yle_tr L0 (yle_x hT hE0)
            have b270 := zv_20_2 hI263 zc_33
            have e271 := hF264 33 2 rfl
            refine zt_aload_n (pc' := 106) hX dX1_part_105 rfl rfl ?_
            refine zt_iload_n (pc' := 107) hX dX1_part_106 rfl rfl ?_
            refine zt_cVv (pc' := 110) hX dX1_part_107 rfl zm_yX1_pair zw_23_1 zc_33 (by decide) zs_20 (q := (RX1, TX1, 3)) rfl rfl (yc_X1_pair_o5 _ _ s260 hI263 f hT265 rl (by omega) k hk) rfl rfl (Nat.le_of_ble_eq_true rfl) (by decide) (fun r272 s273 hr274 hp275 => ?_)
            obtain ⟨hI276, hF277, hT278, z279, z280⟩ := hp275
            rw [hE267] at z279
            rw [hE267] at z280
            have hF281 := zOn_tr hF268 hF277 zi_id
            obtain ⟨p282, hE283⟩ : ∃ p, yst s273 = p := ⟨_, rfl⟩
            rw [hE283] at z279
            rw [hE283] at z280
            have L284 := yle_tr L269 z280
            have b285 := zv_20_2 hI276 zc_33
            have e286 := hF277 33 2 rfl
            refine zt_aload_n (pc' := 111) hX dX1_part_110 rfl rfl ?_
            obtain ⟨k287, ek288, hk289⟩ := zv_20_1 hI276 zc_33
            refine zt_get (pc' := 114) (v := .ref (X.1.1 + k287)) hX dX1_part_111 rfl zf_X1_19 (by decide) zc_33 zs_20 (zrf_of ek288) ?_
            refine zt_iload_n (pc' := 115) hX dX1_part_114 rfl rfl ?_
            refine zt_cVv (pc' := 118) hX dX1_part_115 rfl zm_yX4_addStep zw_22_7 hk289 (by decide) zs_6 (q := (RX4, TX4, 2)) rfl rfl (yc_X4_addStep _ _ s273 hI276 k287 hk289 r2 ⟨by omega, by omega⟩) rfl rfl (Nat.le_of_ble_eq_true rfl) (by decide) (fun r290 s291 hr292 hp293 => ?_)
            obtain ⟨hI294, hF295⟩ := hp293
            have hF296 := zOn_tr hF281 hF295 zi_rp2
            have hT297 := yTk_rk hT278 (yRk_p hF295)
            have hE298 : yst s291 = p282 := (yst_rk (yRk_p hF295)).trans hE283
            have b299 := zv_20_2 hI294 zc_33
            have e300 := hF295 33 2 rfl
            refine zt_goto (tgt := 203) hX dX1_part_118 (by decide) ?_
            exact zt_vret hX hR dX1_part_203 ⟨hI294, hF296, hT297, (by rw [hE298]; exact yJ_tr (yJ_mm (by omega)) z279), (by rw [hE298]; exact L284)⟩
      · refine zt_aload_n (pc' := 60) hX dX1_part_59 rfl rfl ?_
        refine zt_iload_n (pc' := 61) hX dX1_part_60 rfl rfl ?_
        refine zt_cVz (pc' := 64) hX dX1_part_61 rfl zm_yX1_opens zw_22_11 zc_33 (by decide) zs_20 (q := (RX1, TX1, 3)) rfl rfl (yc_X1_opens_o5 _ _ σ hI f hT) rfl rfl (Nat.le_of_ble_eq_true rfl) (by decide) (fun r301 s302 hr303 hp304 => ?_)
        obtain ⟨hI305, hF306, q307, q308, hT309, z310⟩ := hp304
        have hE311 : yst s302 = yPx f (yst σ) := z310
        have hF312 := zOn_tr hF hF306 zi_r12
        have L313 : yle (yst σ) (yPx f (yst σ)) := yle_tr L0 (yle_x hT hE0)
        have b314 := zv_20_2 hI305 zc_33
        have e315 := hF306 33 2 rfl
        refine zt_ifeq (pc' := 67) (tgt := 203) hX dX1_part_64 rfl (by decide) ⟨by omega, by omega⟩ (fun c316 => ?_) (fun c316 => ?_)
        · exact absurd c316 (by omega)
        · refine zt_aload_n (pc' := 68) hX dX1_part_67 rfl rfl ?_
          refine zt_iload_n (pc' := 69) hX dX1_part_68 rfl rfl ?_
          refine zt_iconst (pc' := 70) hX dX1_part_69 rfl ?_
          refine zt_iadd (pc' := 71) hX dX1_part_70 rfl ?_
          rw [show (5 + 1 : Int) = 6 from rfl]
          refine zt_cVv (pc' := 74) hX dX1_part_71 rfl zm_yX1_sum zw_21_19 zc_33 (by decide) zs_20 (q := (RX1, TX1, 3)) rfl rfl (yc_X1_sum_o6 _ _ s302 hI305 f hT309 rl (by omega) (1 :: k) (by show ydep k + 1 = _; omega) (Nat.ne_of_beq_eq_false rfl)) rfl rfl (Nat.le_of_ble_eq_true rfl) (by decide) (fun r317 s318 hr319 hp320 => ?_)
          obtain ⟨hI321, hF322, hT323, z324, z325, z326⟩ := hp320
          rw [hE311] at z324
          rw [hE311] at z325
          have hF327 := zOn_tr hF312 hF322 zi_id
          obtain ⟨p328, hE329⟩ : ∃ p, yst s318 = p := ⟨_, rfl⟩
          rw [hE329] at z324
          rw [hE329] at z325
          have L330 := yle_tr L313 z325
          rw [hE329] at z326
          have b331 := zv_20_2 hI321 zc_33
          have e332 := hF322 33 2 rfl
          refine zt_aload_n (pc' := 75) hX dX1_part_74 rfl rfl ?_
          refine zt_get (pc' := 78) (v := .ref (X.1.1 + 27)) hX dX1_part_75 rfl zf_X1_15 (by decide) zc_33 zs_20 (zrf_of (zv_20_0 hI321 zc_33)) ?_
          refine zt_bipush (pc' := 80) hX dX1_part_78 rfl (by decide) (by decide) ?_
          refine zt_cVv (pc' := 83) hX dX1_part_80 rfl zm_yX5_takeSign zw_22_15 zc_27 (by decide) zs_14 (q := (RX5, TX5, 9)) rfl rfl (yc_X5_takeSign _ _ s318 hI321 41 ⟨by omega, by omega⟩ f hT323) rfl rfl (Nat.le_of_ble_eq_true rfl) (by decide) (fun r333 s334 hr335 hp336 => ?_)
          obtain ⟨hI337, hF338, hT339, z340⟩ := hp336
          have hE341 : yst s334 = yPs f 41 p328 := by rw [z340, hE329]
          have hF342 := zOn_tr hF327 hF338 zi_r12
          have L343 : yle (yst σ) (yPs f 41 p328) := yle_tr L330 (yle_s hT323 hE329)
          have b344 := zv_20_2 hI337 zc_33
          have e345 := hF338 33 2 rfl
          refine zt_goto (tgt := 203) hX dX1_part_83 (by decide) ?_
          exact zt_vret hX hR dX1_part_203 ⟨hI337, hF342, hT339, (by rw [hE341]; exact yJ_tr (yJ_op1 (by omega) (by omega)) (yJ_tr z324 (yJ_cl (Or.inl rfl) z326))), (by rw [hE341]; exact L343)⟩
    · refine zt_aload_n (pc' := 27) hX dX1_part_26 rfl rfl ?_
      obtain ⟨k346, ek347, hk348⟩ := zv_20_1 hI zc_33
      refine zt_get (pc' := 30) (v := .ref (X.1.1 + k346)) hX dX1_part_27 rfl zf_X1_19 (by decide) zc_33 zs_20 (zrf_of ek347) ?_
      refine zt_aload_n (pc' := 31) hX dX1_part_30 rfl rfl ?_
      refine zt_get (pc' := 34) (v := .ref (X.1.1 + 27)) hX dX1_part_31 rfl zf_X1_15 (by decide) zc_33 zs_20 (zrf_of (zv_20_0 hI zc_33)) ?_
      refine zt_iconst (pc' := 35) hX dX1_part_34 rfl ?_
      refine zt_sipush (pc' := 38) hX dX1_part_35 rfl (by decide) (by decide) ?_
      refine zt_cVi (pc' := 41) hX dX1_part_38 rfl zm_yX5_takeNumber zw_22_23 zc_27 (by decide) zs_14 (q := (RX5, TX5, 9)) rfl rfl (yc_X5_takeNumber _ _ σ hI 0 ⟨by omega, by omega⟩ 9999 ⟨by omega, by omega⟩ f hT) rfl rfl (Nat.le_of_ble_eq_true rfl) (by decide) (fun r349 s350 hr351 hp352 => ?_)
      obtain ⟨hI353, hF354, q355, q356, hT357, z358, z359, z360⟩ := hp352
      have hE361 : yst s350 = yPn f 0 9999 (yst σ) := z358
      have hF362 := zOn_tr hF hF354 zi_r12
      rw [hE361] at z359
      have L363 : yle (yst σ) (yPn f 0 9999 (yst σ)) := yle_tr L0 (yle_n hT hE0)
      have b364 := zv_20_2 hI353 zc_33
      have e365 := hF354 33 2 rfl
      refine zt_cVv (pc' := 44) hX dX1_part_41 rfl zm_yX4_addNumber zw_23_0 hk348 (by decide) zs_6 (q := (RX4, TX4, 2)) rfl rfl (yc_X4_addNumber _ _ s350 hI353 k346 hk348 r349 ⟨by omega, by omega⟩) rfl rfl (Nat.le_of_ble_eq_true rfl) (by decide) (fun r366 s367 hr368 hp369 => ?_)
      obtain ⟨hI370, hF371⟩ := hp369
      have hF372 := zOn_tr hF362 hF371 zi_rp2
      have hT373 := yTk_rk hT357 (yRk_p hF371)
      have hE374 : yst s367 = yPn f 0 9999 (yst σ) := (yst_rk (yRk_p hF371)).trans hE361
      have b375 := zv_20_2 hI370 zc_33
      have e376 := hF371 33 2 rfl
      refine zt_goto (tgt := 203) hX dX1_part_44 (by decide) ?_
      exact zt_vret hX hR dX1_part_203 ⟨hI370, hF372, hT373, (by rw [hE374]; exact yJ_num (by omega)), (by rw [hE374]; exact L363)⟩
set_option maxRecDepth 100000 in
set_option maxHeartbeats 4000000 in
theorem yc_X1_product_o5 (l : Launch) (E : zEN) (σ : zSto) (hI : zInv σ) (f : Int → Int) (hT : yTk f σ) (rl : Int) (hrl : σ 33 2 = rl) (k : List Nat) (hk : ydep k = 5) (ht : ytop k ≠ 4) : zCt l E yX1_product cX1_product 4 none 8 zNC zNC 0 0 σ [.ref (E.1 + 33), .int (zI 5)] (fun r σ' => zInv σ' ∧ zOn zR2 σ σ' ∧ yTk f σ' ∧ (yJ rl f (1, k, (yst σ)) (2, k, (yst σ'))) ∧ (yle (yst σ) (yst σ')) ∧ (yPg f (yst σ') ≠ 42 ∧ yPg f (yst σ') ≠ 47)) := by
  refine zCt_of2 [some (.ref (E.1 + 33)), some (.int (zI 5)), none, none] (by decide +kernel) (Nat.le_of_ble_eq_true rfl) rfl ?_
  intro X hE_ hX hR hL hN
  subst hE_
  have hX : zok X cX1_product RX1 8 := hX
  have hF := zOn_rf zR2 σ
  have hE0 : yst σ = yst σ := rfl
  have L0 := yle_rf (yst σ)
  have b1 := zv_20_2 hI zc_33
  refine zt_aload_n (pc' := 1) hX dX1_product_0 rfl rfl ?_
  refine zt_iload_n (pc' := 2) hX dX1_product_1 rfl rfl ?_
  refine zt_cVv (pc' := 5) hX dX1_product_2 rfl zm_yX1_part zw_23_4 zc_33 (by decide) zs_20 (q := (RX1, TX1, 3)) rfl rfl (yc_X1_part_o5 _ _ σ hI f hT rl (by omega) k hk) rfl rfl (Nat.le_of_ble_eq_true rfl) (by decide) (fun r2 s3 hr4 hp5 => ?_)
  obtain ⟨hI6, hF7, hT8, z9, z10⟩ := hp5
  have hF11 := zOn_tr hF hF7 zi_id
  obtain ⟨p12, hE13⟩ : ∃ p, yst s3 = p := ⟨_, rfl⟩
  rw [hE13] at z9
  rw [hE13] at z10
  have L14 := yle_tr L0 z10
  have b15 := zv_20_2 hI6 zc_33
  have e16 := hF7 33 2 rfl
  have g17 := z9
  refine zt_iconst (pc' := 6) hX dX1_product_5 rfl ?_
  refine zt_istore_n (pc' := 7) (lv' := [some (.ref (X.1.1 + 33)), some (.int (zI 5)), some (.int (zI 0)), none]) hX dX1_product_6 rfl hL (by decide) rfl ?_
  have L_7_30 : ∀ (N : Nat) (x18 : Int) (s21 : zSto) (p24 : yP), 0 ≤ x18 → x18 ≤ 1600 → zInv s21 → zOn zR2 σ s21 → yTk f s21 → yst s21 = p24 → s21 33 2 = σ 33 2 → yJ rl f (1, k, yst σ) (2, k, p24) → yle (yst σ) p24 → yge x18 p24 → ((1601 - x18).toNat) < N → zF X s21 7 [some (.ref (X.1.1 + 33)), some (.int (zI 5)), some (.int (zI x18)), none] [] := by
    intro N
    induction N with
    | zero =>
      intro x18 s21 p24 h19 h20 hI22 hF23 hT25 hE26 g27 g28 g29 g30 hm32
      exact absurd hm32 (Nat.not_lt_zero _)
    | succ N ih33 =>
      intro x18 s21 p24 h19 h20 hI22 hF23 hT25 hE26 g27 g28 g29 g30 hm32
      have b34 := zv_20_2 hI22 zc_33
      have hx := yge_x hT25 hE26 g30
      refine zt_iload_n (pc' := 8) hX dX1_product_7 rfl rfl ?_
      refine zt_sipush (pc' := 11) hX dX1_product_8 rfl (by decide) (by decide) ?_
      refine zt_icge (pc' := 14) (tgt := 72) hX dX1_product_11 rfl (by decide) ⟨by omega, by omega⟩ ⟨by omega, by omega⟩ (fun c35 => ?_) (fun c35 => ?_)
      · exact zt_vret hX hR dX1_product_72 ⟨hI22, hF23, hT25, (by rw [hE26]; exact g28), (by rw [hE26]; exact g29), (by rw [hE26]; omega)⟩
      · refine zt_aload_n (pc' := 15) hX dX1_product_14 rfl rfl ?_
        refine zt_get (pc' := 18) (v := .ref (X.1.1 + 27)) hX dX1_product_15 rfl zf_X1_15 (by decide) zc_33 zs_20 (zrf_of (zv_20_0 hI22 zc_33)) ?_
        refine zt_cVi (pc' := 21) hX dX1_product_18 rfl zm_yX5_signHere zw_22_2 zc_27 (by decide) zs_14 (q := (RX5, TX5, 9)) rfl rfl (yc_X5_signHere _ _ s21 hI22 f hT25) rfl rfl (Nat.le_of_ble_eq_true rfl) (by decide) (fun r36 s37 hr38 hp39 => ?_)
        obtain ⟨rfl, q40, q41, z42⟩ := hp39
        rw [hE26] at z42
        refine zt_bipush (pc' := 23) hX dX1_product_21 rfl (by decide) (by decide) ?_
        refine zt_iceq (pc' := 26) (tgt := 38) hX dX1_product_23 rfl (by decide) ⟨by omega, by omega⟩ ⟨by omega, by omega⟩ (fun c43 => ?_) (fun c43 => ?_)
        · refine zt_aload_n (pc' := 39) hX dX1_product_38 rfl rfl ?_
          refine zt_get (pc' := 42) (v := .ref (X.1.1 + 27)) hX dX1_product_39 rfl zf_X1_15 (by decide) zc_33 zs_20 (zrf_of (zv_20_0 hI22 zc_33)) ?_
          refine zt_cVi (pc' := 45) hX dX1_product_42 rfl zm_yX5_signHere zw_22_2 zc_27 (by decide) zs_14 (q := (RX5, TX5, 9)) rfl rfl (yc_X5_signHere _ _ s21 hI22 f hT25) rfl rfl (Nat.le_of_ble_eq_true rfl) (by decide) (fun r44 s45 hr46 hp47 => ?_)
          obtain ⟨rfl, q48, q49, z50⟩ := hp47
          rw [hE26] at z50
          refine zt_istore_n (pc' := 46) (lv' := [some (.ref (X.1.1 + 33)), some (.int (zI 5)), some (.int (zI x18)), some (.int (zI r44))]) hX dX1_product_45 rfl hL (by decide) rfl ?_
          refine zt_aload_n (pc' := 47) hX dX1_product_46 rfl rfl ?_
          refine zt_get (pc' := 50) (v := .ref (X.1.1 + 27)) hX dX1_product_47 rfl zf_X1_15 (by decide) zc_33 zs_20 (zrf_of (zv_20_0 hI22 zc_33)) ?_
          refine zt_cVv (pc' := 53) hX dX1_product_50 rfl zm_yX5_step zw_22_6 zc_27 (by decide) zs_14 (q := (RX5, TX5, 9)) rfl rfl (yc_X5_step _ _ s21 hI22 f hT25) rfl rfl (Nat.le_of_ble_eq_true rfl) (by decide) (fun r51 s52 hr53 hp54 => ?_)
          obtain ⟨hI55, hF56, hT57, z58⟩ := hp54
          have hE59 : yst s52 = yPx f p24 := by rw [z58, hE26]
          have hF60 := zOn_tr hF23 hF56 zi_r12
          have L61 : yle (yst σ) (yPx f p24) := yle_tr g29 (yle_x hT25 hE26)
          have b62 := zv_20_2 hI55 zc_33
          have e63 := hF56 33 2 rfl
          have g64 := yJ_tr g28 (yJ_o ht (by omega))
          have I65 := yge_1 hT25 hE26 g30 (by omega)
          refine zt_aload_n (pc' := 54) hX dX1_product_53 rfl rfl ?_
          refine zt_iload_n (pc' := 55) hX dX1_product_54 rfl rfl ?_
          refine zt_cVv (pc' := 58) hX dX1_product_55 rfl zm_yX1_part zw_23_4 zc_33 (by decide) zs_20 (q := (RX1, TX1, 3)) rfl rfl (yc_X1_part_o5 _ _ s52 hI55 f hT57 rl (by omega) k hk) rfl rfl (Nat.le_of_ble_eq_true rfl) (by decide) (fun r66 s67 hr68 hp69 => ?_)
          obtain ⟨hI70, hF71, hT72, z73, z74⟩ := hp69
          rw [hE59] at z73
          rw [hE59] at z74
          have hF75 := zOn_tr hF60 hF71 zi_id
          obtain ⟨p76, hE77⟩ : ∃ p, yst s67 = p := ⟨_, rfl⟩
          rw [hE77] at z73
          rw [hE77] at z74
          have L78 := yle_tr L61 z74
          have b79 := zv_20_2 hI70 zc_33
          have e80 := hF71 33 2 rfl
          have g81 := yJ_tr g64 z73
          have I82 := yge_l I65 z74
          refine zt_aload_n (pc' := 59) hX dX1_product_58 rfl rfl ?_
          obtain ⟨k83, ek84, hk85⟩ := zv_20_1 hI70 zc_33
          refine zt_get (pc' := 62) (v := .ref (X.1.1 + k83)) hX dX1_product_59 rfl zf_X1_19 (by decide) zc_33 zs_20 (zrf_of ek84) ?_
          refine zt_iload_n (pc' := 63) hX dX1_product_62 rfl rfl ?_
          refine zt_cVv (pc' := 66) hX dX1_product_63 rfl zm_yX4_addStep zw_22_7 hk85 (by decide) zs_6 (q := (RX4, TX4, 2)) rfl rfl (yc_X4_addStep _ _ s67 hI70 k83 hk85 r44 ⟨by omega, by omega⟩) rfl rfl (Nat.le_of_ble_eq_true rfl) (by decide) (fun r86 s87 hr88 hp89 => ?_)
          obtain ⟨hI90, hF91⟩ := hp89
          have hF92 := zOn_tr hF75 hF91 zi_rp2
          have hT93 := yTk_rk hT72 (yRk_p hF91)
          have hE94 : yst s87 = p76 := (yst_rk (yRk_p hF91)).trans hE77
          have b95 := zv_20_2 hI90 zc_33
          have e96 := hF91 33 2 rfl
          refine zt_iinc (pc' := 69) (lv' := [some (.ref (X.1.1 + 33)), some (.int (zI 5)), some (.int (zI (x18 + 1))), some (.int (zI r44))]) hX dX1_product_66 rfl rfl hL (by decide) rfl ?_
          refine zt_goto (tgt := 7) hX dX1_product_69 (by decide) ?_
          refine zt_mask [true, true, true, false] rfl ?_
          exact ih33 (x18 + 1) s87 p76 (by omega) (by omega) hI90 hF92 hT93 hE94 (by omega) g81 L78 I82 (by omega)
        · refine zt_aload_n (pc' := 27) hX dX1_product_26 rfl rfl ?_
          refine zt_get (pc' := 30) (v := .ref (X.1.1 + 27)) hX dX1_product_27 rfl zf_X1_15 (by decide) zc_33 zs_20 (zrf_of (zv_20_0 hI22 zc_33)) ?_
          refine zt_cVi (pc' := 33) hX dX1_product_30 rfl zm_yX5_signHere zw_22_2 zc_27 (by decide) zs_14 (q := (RX5, TX5, 9)) rfl rfl (yc_X5_signHere _ _ s21 hI22 f hT25) rfl rfl (Nat.le_of_ble_eq_true rfl) (by decide) (fun r97 s98 hr99 hp100 => ?_)
          obtain ⟨rfl, q101, q102, z103⟩ := hp100
          rw [hE26] at z103
          refine zt_bipush (pc' := 35) hX dX1_product_33 rfl (by decide) (by decide) ?_
          refine zt_icne (pc' := 38) (tgt := 72) hX dX1_product_35 rfl (by decide) ⟨by omega, by omega⟩ ⟨by omega, by omega⟩ (fun c104 => ?_) (fun c104 => ?_)
          · exact zt_vret hX hR dX1_product_72 ⟨hI22, hF23, hT25, (by rw [hE26]; exact g28), (by rw [hE26]; exact g29), (by rw [hE26]; omega)⟩
          · refine zt_aload_n (pc' := 39) hX dX1_product_38 rfl rfl ?_
            refine zt_get (pc' := 42) (v := .ref (X.1.1 + 27)) hX dX1_product_39 rfl zf_X1_15 (by decide) zc_33 zs_20 (zrf_of (zv_20_0 hI22 zc_33)) ?_
            refine zt_cVi (pc' := 45) hX dX1_product_42 rfl zm_yX5_signHere zw_22_2 zc_27 (by decide) zs_14 (q := (RX5, TX5, 9)) rfl rfl (yc_X5_signHere _ _ s21 hI22 f hT25) rfl rfl (Nat.le_of_ble_eq_true rfl) (by decide) (fun r105 s106 hr107 hp108 => ?_)
            obtain ⟨rfl, q109, q110, z111⟩ := hp108
            rw [hE26] at z111
            refine zt_istore_n (pc' := 46) (lv' := [some (.ref (X.1.1 + 33)), some (.int (zI 5)), some (.int (zI x18)), some (.int (zI r105))]) hX dX1_product_45 rfl hL (by decide) rfl ?_
            refine zt_aload_n (pc' := 47) hX dX1_product_46 rfl rfl ?_
            refine zt_get (pc' := 50) (v := .ref (X.1.1 + 27)) hX dX1_product_47 rfl zf_X1_15 (by decide) zc_33 zs_20 (zrf_of (zv_20_0 hI22 zc_33)) ?_
            refine zt_cVv (pc' := 53) hX dX1_product_50 rfl zm_yX5_step zw_22_6 zc_27 (by decide) zs_14 (q := (RX5, TX5, 9)) rfl rfl (yc_X5_step _ _ s21 hI22 f hT25) rfl rfl (Nat.le_of_ble_eq_true rfl) (by decide) (fun r112 s113 hr114 hp115 => ?_)
            obtain ⟨hI116, hF117, hT118, z119⟩ := hp115
            have hE120 : yst s113 = yPx f p24 := by rw [z119, hE26]
            have hF121 := zOn_tr hF23 hF117 zi_r12
            have L122 : yle (yst σ) (yPx f p24) := yle_tr g29 (yle_x hT25 hE26)
            have b123 := zv_20_2 hI116 zc_33
            have e124 := hF117 33 2 rfl
            have g125 := yJ_tr g28 (yJ_o ht (by omega))
            have I126 := yge_1 hT25 hE26 g30 (by omega)
            refine zt_aload_n (pc' := 54) hX dX1_product_53 rfl rfl ?_
            refine zt_iload_n (pc' := 55) hX dX1_product_54 rfl rfl ?_
            refine zt_cVv (pc' := 58) hX dX1_product_55 rfl zm_yX1_part zw_23_4 zc_33 (by decide) zs_20 (q := (RX1, TX1, 3)) rfl rfl (yc_X1_part_o5 _ _ s113 hI116 f hT118 rl (by omega) k hk) rfl rfl (Nat.le_of_ble_eq_true rfl) (by decide) (fun r127 s128 hr129 hp130 => ?_)
            obtain ⟨hI131, hF132, hT133, z134, z135⟩ := hp130
            rw [hE120] at z134
            rw [hE120] at z135
            have hF136 := zOn_tr hF121 hF132 zi_id
            obtain ⟨p137, hE138⟩ : ∃ p, yst s128 = p := ⟨_, rfl⟩
            rw [hE138] at z134
            rw [hE138] at z135
            have L139 := yle_tr L122 z135
            have b140 := zv_20_2 hI131 zc_33
            have e141 := hF132 33 2 rfl
            have g142 := yJ_tr g125 z134
            have I143 := yge_l I126 z135
            refine zt_aload_n (pc' := 59) hX dX1_product_58 rfl rfl ?_
            obtain ⟨k144, ek145, hk146⟩ := zv_20_1 hI131 zc_33
            refine zt_get (pc' := 62) (v := .ref (X.1.1 + k144)) hX dX1_product_59 rfl zf_X1_19 (by decide) zc_33 zs_20 (zrf_of ek145) ?_
            refine zt_iload_n (pc' := 63) hX dX1_product_62 rfl rfl ?_
            refine zt_cVv (pc' := 66) hX dX1_product_63 rfl zm_yX4_addStep zw_22_7 hk146 (by decide) zs_6 (q := (RX4, TX4, 2)) rfl rfl (yc_X4_addStep _ _ s128 hI131 k144 hk146 r105 ⟨by omega, by omega⟩) rfl rfl (Nat.le_of_ble_eq_true rfl) (by decide) (fun r147 s148 hr149 hp150 => ?_)
            obtain ⟨hI151, hF152⟩ := hp150
            have hF153 := zOn_tr hF136 hF152 zi_rp2
            have hT154 := yTk_rk hT133 (yRk_p hF152)
            have hE155 : yst s148 = p137 := (yst_rk (yRk_p hF152)).trans hE138
            have b156 := zv_20_2 hI151 zc_33
            have e157 := hF152 33 2 rfl
            refine zt_iinc (pc' := 69) (lv' := [some (.ref (X.1.1 + 33)), some (.int (zI 5)), some (.int (zI (x18 + 1))), some (.int (zI r105))]) hX dX1_product_66 rfl rfl hL (by decide) rfl ?_
            refine zt_goto (tgt := 7) hX dX1_product_69 (by decide) ?_
            refine zt_mask [true, true, true, false] rfl ?_
            exact ih33 (x18 + 1) s148 p137 (by omega) (by omega) hI151 hF153 hT154 hE155 (by omega) g142 L139 I143 (by omega)
  exact L_7_30 _ 0 s3 p12 (by omega) (by omega) hI6 hF11 hT8 hE13 (by omega) g17 L14 (yge_0 hT8 hE13) (Nat.lt_succ_self _)
set_option maxRecDepth 100000 in
set_option maxHeartbeats 4000000 in
theorem yc_X1_sum_o5 (l : Launch) (E : zEN) (σ : zSto) (hI : zInv σ) (f : Int → Int) (hT : yTk f σ) (rl : Int) (hrl : σ 33 2 = rl) (k : List Nat) (hk : ydep k = 5) (ht : ytop k ≠ 4) : zCt l E yX1_sum cX1_sum 4 none 9 zNC zNC 0 0 σ [.ref (E.1 + 33), .int (zI 5)] (fun r σ' => zInv σ' ∧ zOn zR2 σ σ' ∧ yTk f σ' ∧ (yJ rl f (1, k, (yst σ)) (2, k, (yst σ'))) ∧ (yle (yst σ) (yst σ')) ∧ (yPg f (yst σ') ≠ 42 ∧ yPg f (yst σ') ≠ 47 ∧ yPg f (yst σ') ≠ 43 ∧ yPg f (yst σ') ≠ 45)) := by
  refine zCt_of2 [some (.ref (E.1 + 33)), some (.int (zI 5)), none, none] (by decide +kernel) (Nat.le_of_ble_eq_true rfl) rfl ?_
  intro X hE_ hX hR hL hN
  subst hE_
  have hX : zok X cX1_sum RX1 9 := hX
  have hF := zOn_rf zR2 σ
  have hE0 : yst σ = yst σ := rfl
  have L0 := yle_rf (yst σ)
  have b1 := zv_20_2 hI zc_33
  refine zt_aload_n (pc' := 1) hX dX1_sum_0 rfl rfl ?_
  refine zt_iload_n (pc' := 2) hX dX1_sum_1 rfl rfl ?_
  refine zt_cVv (pc' := 5) hX dX1_sum_2 rfl zm_yX1_product zw_21_23 zc_33 (by decide) zs_20 (q := (RX1, TX1, 3)) rfl rfl (yc_X1_product_o5 _ _ σ hI f hT rl (by omega) k hk ht) rfl rfl (Nat.le_of_ble_eq_true rfl) (by decide) (fun r2 s3 hr4 hp5 => ?_)
  obtain ⟨hI6, hF7, hT8, z9, z10, z11⟩ := hp5
  have hF12 := zOn_tr hF hF7 zi_id
  obtain ⟨p13, hE14⟩ : ∃ p, yst s3 = p := ⟨_, rfl⟩
  rw [hE14] at z9
  rw [hE14] at z10
  have L15 := yle_tr L0 z10
  rw [hE14] at z11
  have b16 := zv_20_2 hI6 zc_33
  have e17 := hF7 33 2 rfl
  have g18 := z9
  refine zt_iconst (pc' := 6) hX dX1_sum_5 rfl ?_
  refine zt_istore_n (pc' := 7) (lv' := [some (.ref (X.1.1 + 33)), some (.int (zI 5)), some (.int (zI 0)), none]) hX dX1_sum_6 rfl hL (by decide) rfl ?_
  have L_7_32 : ∀ (N : Nat) (x19 : Int) (s22 : zSto) (p25 : yP), 0 ≤ x19 → x19 ≤ 1600 → zInv s22 → zOn zR2 σ s22 → yTk f s22 → yst s22 = p25 → (yPg f p25 ≠ 42 ∧ yPg f p25 ≠ 47) → s22 33 2 = σ 33 2 → yJ rl f (1, k, yst σ) (2, k, p25) → yle (yst σ) p25 → yge x19 p25 → ((1601 - x19).toNat) < N → zF X s22 7 [some (.ref (X.1.1 + 33)), some (.int (zI 5)), some (.int (zI x19)), none] [] := by
    intro N
    induction N with
    | zero =>
      intro x19 s22 p25 h20 h21 hI23 hF24 hT26 hE27 g28 g29 g30 g31 g32 hm34
      exact absurd hm34 (Nat.not_lt_zero _)
    | succ N ih35 =>
      intro x19 s22 p25 h20 h21 hI23 hF24 hT26 hE27 g28 g29 g30 g31 g32 hm34
      have b36 := zv_20_2 hI23 zc_33
      have hx := yge_x hT26 hE27 g32
      refine zt_iload_n (pc' := 8) hX dX1_sum_7 rfl rfl ?_
      refine zt_sipush (pc' := 11) hX dX1_sum_8 rfl (by decide) (by decide) ?_
      refine zt_icge (pc' := 14) (tgt := 72) hX dX1_sum_11 rfl (by decide) ⟨by omega, by omega⟩ ⟨by omega, by omega⟩ (fun c37 => ?_) (fun c37 => ?_)
      · exact zt_vret hX hR dX1_sum_72 ⟨hI23, hF24, hT26, (by rw [hE27]; exact g30), (by rw [hE27]; exact g31), (by rw [hE27]; omega)⟩
      · refine zt_aload_n (pc' := 15) hX dX1_sum_14 rfl rfl ?_
        refine zt_get (pc' := 18) (v := .ref (X.1.1 + 27)) hX dX1_sum_15 rfl zf_X1_15 (by decide) zc_33 zs_20 (zrf_of (zv_20_0 hI23 zc_33)) ?_
        refine zt_cVi (pc' := 21) hX dX1_sum_18 rfl zm_yX5_signHere zw_22_2 zc_27 (by decide) zs_14 (q := (RX5, TX5, 9)) rfl rfl (yc_X5_signHere _ _ s22 hI23 f hT26) rfl rfl (Nat.le_of_ble_eq_true rfl) (by decide) (fun r38 s39 hr40 hp41 => ?_)
        obtain ⟨rfl, q42, q43, z44⟩ := hp41
        rw [hE27] at z44
        refine zt_bipush (pc' := 23) hX dX1_sum_21 rfl (by decide) (by decide) ?_
        refine zt_iceq (pc' := 26) (tgt := 38) hX dX1_sum_23 rfl (by decide) ⟨by omega, by omega⟩ ⟨by omega, by omega⟩ (fun c45 => ?_) (fun c45 => ?_)
        · refine zt_aload_n (pc' := 39) hX dX1_sum_38 rfl rfl ?_
          refine zt_get (pc' := 42) (v := .ref (X.1.1 + 27)) hX dX1_sum_39 rfl zf_X1_15 (by decide) zc_33 zs_20 (zrf_of (zv_20_0 hI23 zc_33)) ?_
          refine zt_cVi (pc' := 45) hX dX1_sum_42 rfl zm_yX5_signHere zw_22_2 zc_27 (by decide) zs_14 (q := (RX5, TX5, 9)) rfl rfl (yc_X5_signHere _ _ s22 hI23 f hT26) rfl rfl (Nat.le_of_ble_eq_true rfl) (by decide) (fun r46 s47 hr48 hp49 => ?_)
          obtain ⟨rfl, q50, q51, z52⟩ := hp49
          rw [hE27] at z52
          refine zt_istore_n (pc' := 46) (lv' := [some (.ref (X.1.1 + 33)), some (.int (zI 5)), some (.int (zI x19)), some (.int (zI r46))]) hX dX1_sum_45 rfl hL (by decide) rfl ?_
          refine zt_aload_n (pc' := 47) hX dX1_sum_46 rfl rfl ?_
          refine zt_get (pc' := 50) (v := .ref (X.1.1 + 27)) hX dX1_sum_47 rfl zf_X1_15 (by decide) zc_33 zs_20 (zrf_of (zv_20_0 hI23 zc_33)) ?_
          refine zt_cVv (pc' := 53) hX dX1_sum_50 rfl zm_yX5_step zw_22_6 zc_27 (by decide) zs_14 (q := (RX5, TX5, 9)) rfl rfl (yc_X5_step _ _ s22 hI23 f hT26) rfl rfl (Nat.le_of_ble_eq_true rfl) (by decide) (fun r53 s54 hr55 hp56 => ?_)
          obtain ⟨hI57, hF58, hT59, z60⟩ := hp56
          have hE61 : yst s54 = yPx f p25 := by rw [z60, hE27]
          have hF62 := zOn_tr hF24 hF58 zi_r12
          have L63 : yle (yst σ) (yPx f p25) := yle_tr g31 (yle_x hT26 hE27)
          have b64 := zv_20_2 hI57 zc_33
          have e65 := hF58 33 2 rfl
          have g66 := yJ_tr g30 (yJ_o ht (by omega))
          have I67 := yge_1 hT26 hE27 g32 (by omega)
          refine zt_aload_n (pc' := 54) hX dX1_sum_53 rfl rfl ?_
          refine zt_iload_n (pc' := 55) hX dX1_sum_54 rfl rfl ?_
          refine zt_cVv (pc' := 58) hX dX1_sum_55 rfl zm_yX1_product zw_21_23 zc_33 (by decide) zs_20 (q := (RX1, TX1, 3)) rfl rfl (yc_X1_product_o5 _ _ s54 hI57 f hT59 rl (by omega) k hk ht) rfl rfl (Nat.le_of_ble_eq_true rfl) (by decide) (fun r68 s69 hr70 hp71 => ?_)
          obtain ⟨hI72, hF73, hT74, z75, z76, z77⟩ := hp71
          rw [hE61] at z75
          rw [hE61] at z76
          have hF78 := zOn_tr hF62 hF73 zi_id
          obtain ⟨p79, hE80⟩ : ∃ p, yst s69 = p := ⟨_, rfl⟩
          rw [hE80] at z75
          rw [hE80] at z76
          have L81 := yle_tr L63 z76
          rw [hE80] at z77
          have b82 := zv_20_2 hI72 zc_33
          have e83 := hF73 33 2 rfl
          have g84 := yJ_tr g66 z75
          have I85 := yge_l I67 z76
          refine zt_aload_n (pc' := 59) hX dX1_sum_58 rfl rfl ?_
          obtain ⟨k86, ek87, hk88⟩ := zv_20_1 hI72 zc_33
          refine zt_get (pc' := 62) (v := .ref (X.1.1 + k86)) hX dX1_sum_59 rfl zf_X1_19 (by decide) zc_33 zs_20 (zrf_of ek87) ?_
          refine zt_iload_n (pc' := 63) hX dX1_sum_62 rfl rfl ?_
          refine zt_cVv (pc' := 66) hX dX1_sum_63 rfl zm_yX4_addStep zw_22_7 hk88 (by decide) zs_6 (q := (RX4, TX4, 2)) rfl rfl (yc_X4_addStep _ _ s69 hI72 k86 hk88 r46 ⟨by omega, by omega⟩) rfl rfl (Nat.le_of_ble_eq_true rfl) (by decide) (fun r89 s90 hr91 hp92 => ?_)
          obtain ⟨hI93, hF94⟩ := hp92
          have hF95 := zOn_tr hF78 hF94 zi_rp2
          have hT96 := yTk_rk hT74 (yRk_p hF94)
          have hE97 : yst s90 = p79 := (yst_rk (yRk_p hF94)).trans hE80
          have b98 := zv_20_2 hI93 zc_33
          have e99 := hF94 33 2 rfl
          refine zt_iinc (pc' := 69) (lv' := [some (.ref (X.1.1 + 33)), some (.int (zI 5)), some (.int (zI (x19 + 1))), some (.int (zI r46))]) hX dX1_sum_66 rfl rfl hL (by decide) rfl ?_
          refine zt_goto (tgt := 7) hX dX1_sum_69 (by decide) ?_
          refine zt_mask [true, true, true, false] rfl ?_
          exact ih35 (x19 + 1) s90 p79 (by omega) (by omega) hI93 hF95 hT96 hE97 (by omega) (by omega) g84 L81 I85 (by omega)
        · refine zt_aload_n (pc' := 27) hX dX1_sum_26 rfl rfl ?_
          refine zt_get (pc' := 30) (v := .ref (X.1.1 + 27)) hX dX1_sum_27 rfl zf_X1_15 (by decide) zc_33 zs_20 (zrf_of (zv_20_0 hI23 zc_33)) ?_
          refine zt_cVi (pc' := 33) hX dX1_sum_30 rfl zm_yX5_signHere zw_22_2 zc_27 (by decide) zs_14 (q := (RX5, TX5, 9)) rfl rfl (yc_X5_signHere _ _ s22 hI23 f hT26) rfl rfl (Nat.le_of_ble_eq_true rfl) (by decide) (fun r100 s101 hr102 hp103 => ?_)
          obtain ⟨rfl, q104, q105, z106⟩ := hp103
          rw [hE27] at z106
          refine zt_bipush (pc' := 35) hX dX1_sum_33 rfl (by decide) (by decide) ?_
          refine zt_icne (pc' := 38) (tgt := 72) hX dX1_sum_35 rfl (by decide) ⟨by omega, by omega⟩ ⟨by omega, by omega⟩ (fun c107 => ?_) (fun c107 => ?_)
          · exact zt_vret hX hR dX1_sum_72 ⟨hI23, hF24, hT26, (by rw [hE27]; exact g30), (by rw [hE27]; exact g31), (by rw [hE27]; omega)⟩
          · refine zt_aload_n (pc' := 39) hX dX1_sum_38 rfl rfl ?_
            refine zt_get (pc' := 42) (v := .ref (X.1.1 + 27)) hX dX1_sum_39 rfl zf_X1_15 (by decide) zc_33 zs_20 (zrf_of (zv_20_0 hI23 zc_33)) ?_
            refine zt_cVi (pc' := 45) hX dX1_sum_42 rfl zm_yX5_signHere zw_22_2 zc_27 (by decide) zs_14 (q := (RX5, TX5, 9)) rfl rfl (yc_X5_signHere _ _ s22 hI23 f hT26) rfl rfl (Nat.le_of_ble_eq_true rfl) (by decide) (fun r108 s109 hr110 hp111 => ?_)
            obtain ⟨rfl, q112, q113, z114⟩ := hp111
            rw [hE27] at z114
            refine zt_istore_n (pc' := 46) (lv' := [some (.ref (X.1.1 + 33)), some (.int (zI 5)), some (.int (zI x19)), some (.int (zI r108))]) hX dX1_sum_45 rfl hL (by decide) rfl ?_
            refine zt_aload_n (pc' := 47) hX dX1_sum_46 rfl rfl ?_
            refine zt_get (pc' := 50) (v := .ref (X.1.1 + 27)) hX dX1_sum_47 rfl zf_X1_15 (by decide) zc_33 zs_20 (zrf_of (zv_20_0 hI23 zc_33)) ?_
            refine zt_cVv (pc' := 53) hX dX1_sum_50 rfl zm_yX5_step zw_22_6 zc_27 (by decide) zs_14 (q := (RX5, TX5, 9)) rfl rfl (yc_X5_step _ _ s22 hI23 f hT26) rfl rfl (Nat.le_of_ble_eq_true rfl) (by decide) (fun r115 s116 hr117 hp118 => ?_)
            obtain ⟨hI119, hF120, hT121, z122⟩ := hp118
            have hE123 : yst s116 = yPx f p25 := by rw [z122, hE27]
            have hF124 := zOn_tr hF24 hF120 zi_r12
            have L125 : yle (yst σ) (yPx f p25) := yle_tr g31 (yle_x hT26 hE27)
            have b126 := zv_20_2 hI119 zc_33
            have e127 := hF120 33 2 rfl
            have g128 := yJ_tr g30 (yJ_o ht (by omega))
            have I129 := yge_1 hT26 hE27 g32 (by omega)
            refine zt_aload_n (pc' := 54) hX dX1_sum_53 rfl rfl ?_
            refine zt_iload_n (pc' := 55) hX dX1_sum_54 rfl rfl ?_
            refine zt_cVv (pc' := 58) hX dX1_sum_55 rfl zm_yX1_product zw_21_23 zc_33 (by decide) zs_20 (q := (RX1, TX1, 3)) rfl rfl (yc_X1_product_o5 _ _ s116 hI119 f hT121 rl (by omega) k hk ht) rfl rfl (Nat.le_of_ble_eq_true rfl) (by decide) (fun r130 s131 hr132 hp133 => ?_)
            obtain ⟨hI134, hF135, hT136, z137, z138, z139⟩ := hp133
            rw [hE123] at z137
            rw [hE123] at z138
            have hF140 := zOn_tr hF124 hF135 zi_id
            obtain ⟨p141, hE142⟩ : ∃ p, yst s131 = p := ⟨_, rfl⟩
            rw [hE142] at z137
            rw [hE142] at z138
            have L143 := yle_tr L125 z138
            rw [hE142] at z139
            have b144 := zv_20_2 hI134 zc_33
            have e145 := hF135 33 2 rfl
            have g146 := yJ_tr g128 z137
            have I147 := yge_l I129 z138
            refine zt_aload_n (pc' := 59) hX dX1_sum_58 rfl rfl ?_
            obtain ⟨k148, ek149, hk150⟩ := zv_20_1 hI134 zc_33
            refine zt_get (pc' := 62) (v := .ref (X.1.1 + k148)) hX dX1_sum_59 rfl zf_X1_19 (by decide) zc_33 zs_20 (zrf_of ek149) ?_
            refine zt_iload_n (pc' := 63) hX dX1_sum_62 rfl rfl ?_
            refine zt_cVv (pc' := 66) hX dX1_sum_63 rfl zm_yX4_addStep zw_22_7 hk150 (by decide) zs_6 (q := (RX4, TX4, 2)) rfl rfl (yc_X4_addStep _ _ s131 hI134 k148 hk150 r108 ⟨by omega, by omega⟩) rfl rfl (Nat.le_of_ble_eq_true rfl) (by decide) (fun r151 s152 hr153 hp154 => ?_)
            obtain ⟨hI155, hF156⟩ := hp154
            have hF157 := zOn_tr hF140 hF156 zi_rp2
            have hT158 := yTk_rk hT136 (yRk_p hF156)
            have hE159 : yst s152 = p141 := (yst_rk (yRk_p hF156)).trans hE142
            have b160 := zv_20_2 hI155 zc_33
            have e161 := hF156 33 2 rfl
            refine zt_iinc (pc' := 69) (lv' := [some (.ref (X.1.1 + 33)), some (.int (zI 5)), some (.int (zI (x19 + 1))), some (.int (zI r108))]) hX dX1_sum_66 rfl rfl hL (by decide) rfl ?_
            refine zt_goto (tgt := 7) hX dX1_sum_69 (by decide) ?_
            refine zt_mask [true, true, true, false] rfl ?_
            exact ih35 (x19 + 1) s152 p141 (by omega) (by omega) hI155 hF157 hT158 hE159 (by omega) (by omega) g146 L143 I147 (by omega)
  exact L_7_32 _ 0 s3 p13 (by omega) (by omega) hI6 hF12 hT8 hE14 (by omega) (by omega) g18 L15 (yge_0 hT8 hE14) (Nat.lt_succ_self _)
set_option maxRecDepth 100000 in
set_option maxHeartbeats 4000000 in
theorem yc_X1_comparison_o5 (l : Launch) (E : zEN) (σ : zSto) (hI : zInv σ) (f : Int → Int) (hT : yTk f σ) (rl : Int) (hrl : σ 33 2 = rl) (k : List Nat) (hk : ydep k = 5) : zCt l E yX1_comparison cX1_comparison 3 none 10 zNC zNC 0 0 σ [.ref (E.1 + 33), .int (zI 5)] (fun r σ' => zInv σ' ∧ zOn zR2 σ σ' ∧ yTk f σ' ∧ (yJ rl f (1, 5 :: k, (yst σ)) (5, k, (yst σ'))) ∧ (yle (yst σ) (yst σ'))) := by
  refine zCt_of2 [some (.ref (E.1 + 33)), some (.int (zI 5)), none] (by decide +kernel) (Nat.le_of_ble_eq_true rfl) rfl ?_
  intro X hE_ hX hR hL hN
  subst hE_
  have hX : zok X cX1_comparison RX1 10 := hX
  have hF := zOn_rf zR2 σ
  have hE0 : yst σ = yst σ := rfl
  have L0 := yle_rf (yst σ)
  have b1 := zv_20_2 hI zc_33
  refine zt_aload_n (pc' := 1) hX dX1_comparison_0 rfl rfl ?_
  refine zt_iload_n (pc' := 2) hX dX1_comparison_1 rfl rfl ?_
  refine zt_cVv (pc' := 5) hX dX1_comparison_2 rfl zm_yX1_sum zw_21_19 zc_33 (by decide) zs_20 (q := (RX1, TX1, 3)) rfl rfl (yc_X1_sum_o5 _ _ σ hI f hT rl (by omega) (5 :: k) hk (Nat.ne_of_beq_eq_false rfl)) rfl rfl (Nat.le_of_ble_eq_true rfl) (by decide) (fun r2 s3 hr4 hp5 => ?_)
  obtain ⟨hI6, hF7, hT8, z9, z10, z11⟩ := hp5
  have hF12 := zOn_tr hF hF7 zi_id
  obtain ⟨p13, hE14⟩ : ∃ p, yst s3 = p := ⟨_, rfl⟩
  rw [hE14] at z9
  rw [hE14] at z10
  have L15 := yle_tr L0 z10
  rw [hE14] at z11
  have b16 := zv_20_2 hI6 zc_33
  have e17 := hF7 33 2 rfl
  refine zt_aload_n (pc' := 6) hX dX1_comparison_5 rfl rfl ?_
  refine zt_get (pc' := 9) (v := .ref (X.1.1 + 27)) hX dX1_comparison_6 rfl zf_X1_15 (by decide) zc_33 zs_20 (zrf_of (zv_20_0 hI6 zc_33)) ?_
  refine zt_cVi (pc' := 12) hX dX1_comparison_9 rfl zm_yX5_signHere zw_22_2 zc_27 (by decide) zs_14 (q := (RX5, TX5, 9)) rfl rfl (yc_X5_signHere _ _ s3 hI6 f hT8) rfl rfl (Nat.le_of_ble_eq_true rfl) (by decide) (fun r18 s19 hr20 hp21 => ?_)
  obtain ⟨rfl, q22, q23, z24⟩ := hp21
  rw [hE14] at z24
  refine zt_istore_n (pc' := 13) (lv' := [some (.ref (X.1.1 + 33)), some (.int (zI 5)), some (.int (zI r18))]) hX dX1_comparison_12 rfl hL (by decide) rfl ?_
  refine zt_iload_n (pc' := 14) hX dX1_comparison_13 rfl rfl ?_
  refine zt_bipush (pc' := 16) hX dX1_comparison_14 rfl (by decide) (by decide) ?_
  refine zt_iceq (pc' := 19) (tgt := 31) hX dX1_comparison_16 rfl (by decide) ⟨by omega, by omega⟩ ⟨by omega, by omega⟩ (fun c25 => ?_) (fun c25 => ?_)
  · refine zt_aload_n (pc' := 32) hX dX1_comparison_31 rfl rfl ?_
    refine zt_get (pc' := 35) (v := .ref (X.1.1 + 27)) hX dX1_comparison_32 rfl zf_X1_15 (by decide) zc_33 zs_20 (zrf_of (zv_20_0 hI6 zc_33)) ?_
    refine zt_cVv (pc' := 38) hX dX1_comparison_35 rfl zm_yX5_step zw_22_6 zc_27 (by decide) zs_14 (q := (RX5, TX5, 9)) rfl rfl (yc_X5_step _ _ s3 hI6 f hT8) rfl rfl (Nat.le_of_ble_eq_true rfl) (by decide) (fun r26 s27 hr28 hp29 => ?_)
    obtain ⟨hI30, hF31, hT32, z33⟩ := hp29
    have hE34 : yst s27 = yPx f p13 := by rw [z33, hE14]
    have hF35 := zOn_tr hF12 hF31 zi_r12
    have L36 : yle (yst σ) (yPx f p13) := yle_tr L15 (yle_x hT8 hE14)
    have b37 := zv_20_2 hI30 zc_33
    have e38 := hF31 33 2 rfl
    refine zt_aload_n (pc' := 39) hX dX1_comparison_38 rfl rfl ?_
    refine zt_iload_n (pc' := 40) hX dX1_comparison_39 rfl rfl ?_
    refine zt_cVv (pc' := 43) hX dX1_comparison_40 rfl zm_yX1_sum zw_21_19 zc_33 (by decide) zs_20 (q := (RX1, TX1, 3)) rfl rfl (yc_X1_sum_o5 _ _ s27 hI30 f hT32 rl (by omega) (6 :: k) hk (Nat.ne_of_beq_eq_false rfl)) rfl rfl (Nat.le_of_ble_eq_true rfl) (by decide) (fun r39 s40 hr41 hp42 => ?_)
    obtain ⟨hI43, hF44, hT45, z46, z47, z48⟩ := hp42
    rw [hE34] at z46
    rw [hE34] at z47
    have hF49 := zOn_tr hF35 hF44 zi_id
    obtain ⟨p50, hE51⟩ : ∃ p, yst s40 = p := ⟨_, rfl⟩
    rw [hE51] at z46
    rw [hE51] at z47
    have L52 := yle_tr L36 z47
    rw [hE51] at z48
    have b53 := zv_20_2 hI43 zc_33
    have e54 := hF44 33 2 rfl
    refine zt_aload_n (pc' := 44) hX dX1_comparison_43 rfl rfl ?_
    obtain ⟨k55, ek56, hk57⟩ := zv_20_1 hI43 zc_33
    refine zt_get (pc' := 47) (v := .ref (X.1.1 + k55)) hX dX1_comparison_44 rfl zf_X1_19 (by decide) zc_33 zs_20 (zrf_of ek56) ?_
    refine zt_iload_n (pc' := 48) hX dX1_comparison_47 rfl rfl ?_
    refine zt_cVv (pc' := 51) hX dX1_comparison_48 rfl zm_yX4_addStep zw_22_7 hk57 (by decide) zs_6 (q := (RX4, TX4, 2)) rfl rfl (yc_X4_addStep _ _ s40 hI43 k55 hk57 r18 ⟨by omega, by omega⟩) rfl rfl (Nat.le_of_ble_eq_true rfl) (by decide) (fun r58 s59 hr60 hp61 => ?_)
    obtain ⟨hI62, hF63⟩ := hp61
    have hF64 := zOn_tr hF49 hF63 zi_rp2
    have hT65 := yTk_rk hT45 (yRk_p hF63)
    have hE66 : yst s59 = p50 := (yst_rk (yRk_p hF63)).trans hE51
    have b67 := zv_20_2 hI62 zc_33
    have e68 := hF63 33 2 rfl
    refine zt_goto (tgt := 69) hX dX1_comparison_51 (by decide) ?_
    exact zt_vret hX hR dX1_comparison_69 ⟨hI62, hF64, hT65, (by rw [hE66]; exact yJ_tr z9 (yJ_tr (yJ_cs (by omega)) (yJ_tr z46 (yJ_ce z48)))), (by rw [hE66]; exact L52)⟩
  · refine zt_iload_n (pc' := 20) hX dX1_comparison_19 rfl rfl ?_
    refine zt_bipush (pc' := 22) hX dX1_comparison_20 rfl (by decide) (by decide) ?_
    refine zt_iceq (pc' := 25) (tgt := 31) hX dX1_comparison_22 rfl (by decide) ⟨by omega, by omega⟩ ⟨by omega, by omega⟩ (fun c69 => ?_) (fun c69 => ?_)
    · refine zt_aload_n (pc' := 32) hX dX1_comparison_31 rfl rfl ?_
      refine zt_get (pc' := 35) (v := .ref (X.1.1 + 27)) hX dX1_comparison_32 rfl zf_X1_15 (by decide) zc_33 zs_20 (zrf_of (zv_20_0 hI6 zc_33)) ?_
      refine zt_cVv (pc' := 38) hX dX1_comparison_35 rfl zm_yX5_step zw_22_6 zc_27 (by decide) zs_14 (q := (RX5, TX5, 9)) rfl rfl (yc_X5_step _ _ s3 hI6 f hT8) rfl rfl (Nat.le_of_ble_eq_true rfl) (by decide) (fun r70 s71 hr72 hp73 => ?_)
      obtain ⟨hI74, hF75, hT76, z77⟩ := hp73
      have hE78 : yst s71 = yPx f p13 := by rw [z77, hE14]
      have hF79 := zOn_tr hF12 hF75 zi_r12
      have L80 : yle (yst σ) (yPx f p13) := yle_tr L15 (yle_x hT8 hE14)
      have b81 := zv_20_2 hI74 zc_33
      have e82 := hF75 33 2 rfl
      refine zt_aload_n (pc' := 39) hX dX1_comparison_38 rfl rfl ?_
      refine zt_iload_n (pc' := 40) hX dX1_comparison_39 rfl rfl ?_
      refine zt_cVv (pc' := 43) hX dX1_comparison_40 rfl zm_yX1_sum zw_21_19 zc_33 (by decide) zs_20 (q := (RX1, TX1, 3)) rfl rfl (yc_X1_sum_o5 _ _ s71 hI74 f hT76 rl (by omega) (6 :: k) hk (Nat.ne_of_beq_eq_false rfl)) rfl rfl (Nat.le_of_ble_eq_true rfl) (by decide) (fun r83 s84 hr85 hp86 => ?_)
      obtain ⟨hI87, hF88, hT89, z90, z91, z92⟩ := hp86
      rw [hE78] at z90
      rw [hE78] at z91
      have hF93 := zOn_tr hF79 hF88 zi_id
      obtain ⟨p94, hE95⟩ : ∃ p, yst s84 = p := ⟨_, rfl⟩
      rw [hE95] at z90
      rw [hE95] at z91
      have L96 := yle_tr L80 z91
      rw [hE95] at z92
      have b97 := zv_20_2 hI87 zc_33
      have e98 := hF88 33 2 rfl
      refine zt_aload_n (pc' := 44) hX dX1_comparison_43 rfl rfl ?_
      obtain ⟨k99, ek100, hk101⟩ := zv_20_1 hI87 zc_33
      refine zt_get (pc' := 47) (v := .ref (X.1.1 + k99)) hX dX1_comparison_44 rfl zf_X1_19 (by decide) zc_33 zs_20 (zrf_of ek100) ?_
      refine zt_iload_n (pc' := 48) hX dX1_comparison_47 rfl rfl ?_
      refine zt_cVv (pc' := 51) hX dX1_comparison_48 rfl zm_yX4_addStep zw_22_7 hk101 (by decide) zs_6 (q := (RX4, TX4, 2)) rfl rfl (yc_X4_addStep _ _ s84 hI87 k99 hk101 r18 ⟨by omega, by omega⟩) rfl rfl (Nat.le_of_ble_eq_true rfl) (by decide) (fun r102 s103 hr104 hp105 => ?_)
      obtain ⟨hI106, hF107⟩ := hp105
      have hF108 := zOn_tr hF93 hF107 zi_rp2
      have hT109 := yTk_rk hT89 (yRk_p hF107)
      have hE110 : yst s103 = p94 := (yst_rk (yRk_p hF107)).trans hE95
      have b111 := zv_20_2 hI106 zc_33
      have e112 := hF107 33 2 rfl
      refine zt_goto (tgt := 69) hX dX1_comparison_51 (by decide) ?_
      exact zt_vret hX hR dX1_comparison_69 ⟨hI106, hF108, hT109, (by rw [hE110]; exact yJ_tr z9 (yJ_tr (yJ_cs (by omega)) (yJ_tr z90 (yJ_ce z92)))), (by rw [hE110]; exact L96)⟩
    · refine zt_iload_n (pc' := 26) hX dX1_comparison_25 rfl rfl ?_
      refine zt_bipush (pc' := 28) hX dX1_comparison_26 rfl (by decide) (by decide) ?_
      refine zt_icne (pc' := 31) (tgt := 54) hX dX1_comparison_28 rfl (by decide) ⟨by omega, by omega⟩ ⟨by omega, by omega⟩ (fun c113 => ?_) (fun c113 => ?_)
      · refine zt_aload_n (pc' := 55) hX dX1_comparison_54 rfl rfl ?_
        refine zt_get (pc' := 58) (v := .ref (X.1.1 + 27)) hX dX1_comparison_55 rfl zf_X1_15 (by decide) zc_33 zs_20 (zrf_of (zv_20_0 hI6 zc_33)) ?_
        refine zt_iconst (pc' := 59) hX dX1_comparison_58 rfl ?_
        refine zt_aload_n (pc' := 60) hX dX1_comparison_59 rfl rfl ?_
        refine zt_get (pc' := 63) (v := .ref (X.1.1 + 27)) hX dX1_comparison_60 rfl zf_X1_15 (by decide) zc_33 zs_20 (zrf_of (zv_20_0 hI6 zc_33)) ?_
        refine zt_cVi (pc' := 66) hX dX1_comparison_63 rfl zm_yX5_placeHere zw_22_9 zc_27 (by decide) zs_14 (q := (RX5, TX5, 9)) rfl rfl (yc_X5_placeHere _ _ s3 hI6 f hT8) rfl rfl (Nat.le_of_ble_eq_true rfl) (by decide) (fun r114 s115 hr116 hp117 => ?_)
        obtain ⟨rfl, q118, q119, z120⟩ := hp117
        rw [hE14] at z120
        refine zt_cVv (pc' := 69) hX dX1_comparison_66 rfl zm_yX5_refuse zw_22_10 zc_27 (by decide) zs_14 (q := (RX5, TX5, 9)) rfl rfl (yc_X5_refuse _ _ s3 hI6 1 ⟨by omega, by omega⟩ r114 ⟨by omega, by omega⟩ (by omega) f hT8) rfl rfl (Nat.le_of_ble_eq_true rfl) (by decide) (fun r121 s122 hr123 hp124 => ?_)
        obtain ⟨hI125, hF126, hT127, z128⟩ := hp124
        have hE129 : yst s122 = yPno 1 r114 p13 := by rw [z128, hE14]
        have hF130 := zOn_tr hF12 hF126 zi_r12
        have L131 : yle (yst σ) (yPno 1 r114 p13) := yle_tr L15 yle_no
        have b132 := zv_20_2 hI125 zc_33
        have e133 := hF126 33 2 rfl
        exact zt_vret hX hR dX1_comparison_69 ⟨hI125, hF130, hT127, (by rw [hE129, yPno_f (p := r114) (d := 0) (fun o => by omega)]; exact yJ_tr z9 (yJ_cb z11 (by omega))), (by rw [hE129]; exact L131)⟩
      · refine zt_aload_n (pc' := 32) hX dX1_comparison_31 rfl rfl ?_
        refine zt_get (pc' := 35) (v := .ref (X.1.1 + 27)) hX dX1_comparison_32 rfl zf_X1_15 (by decide) zc_33 zs_20 (zrf_of (zv_20_0 hI6 zc_33)) ?_
        refine zt_cVv (pc' := 38) hX dX1_comparison_35 rfl zm_yX5_step zw_22_6 zc_27 (by decide) zs_14 (q := (RX5, TX5, 9)) rfl rfl (yc_X5_step _ _ s3 hI6 f hT8) rfl rfl (Nat.le_of_ble_eq_true rfl) (by decide) (fun r134 s135 hr136 hp137 => ?_)
        obtain ⟨hI138, hF139, hT140, z141⟩ := hp137
        have hE142 : yst s135 = yPx f p13 := by rw [z141, hE14]
        have hF143 := zOn_tr hF12 hF139 zi_r12
        have L144 : yle (yst σ) (yPx f p13) := yle_tr L15 (yle_x hT8 hE14)
        have b145 := zv_20_2 hI138 zc_33
        have e146 := hF139 33 2 rfl
        refine zt_aload_n (pc' := 39) hX dX1_comparison_38 rfl rfl ?_
        refine zt_iload_n (pc' := 40) hX dX1_comparison_39 rfl rfl ?_
        refine zt_cVv (pc' := 43) hX dX1_comparison_40 rfl zm_yX1_sum zw_21_19 zc_33 (by decide) zs_20 (q := (RX1, TX1, 3)) rfl rfl (yc_X1_sum_o5 _ _ s135 hI138 f hT140 rl (by omega) (6 :: k) hk (Nat.ne_of_beq_eq_false rfl)) rfl rfl (Nat.le_of_ble_eq_true rfl) (by decide) (fun r147 s148 hr149 hp150 => ?_)
        obtain ⟨hI151, hF152, hT153, z154, z155, z156⟩ := hp150
        rw [hE142] at z154
        rw [hE142] at z155
        have hF157 := zOn_tr hF143 hF152 zi_id
        obtain ⟨p158, hE159⟩ : ∃ p, yst s148 = p := ⟨_, rfl⟩
        rw [hE159] at z154
        rw [hE159] at z155
        have L160 := yle_tr L144 z155
        rw [hE159] at z156
        have b161 := zv_20_2 hI151 zc_33
        have e162 := hF152 33 2 rfl
        refine zt_aload_n (pc' := 44) hX dX1_comparison_43 rfl rfl ?_
        obtain ⟨k163, ek164, hk165⟩ := zv_20_1 hI151 zc_33
        refine zt_get (pc' := 47) (v := .ref (X.1.1 + k163)) hX dX1_comparison_44 rfl zf_X1_19 (by decide) zc_33 zs_20 (zrf_of ek164) ?_
        refine zt_iload_n (pc' := 48) hX dX1_comparison_47 rfl rfl ?_
        refine zt_cVv (pc' := 51) hX dX1_comparison_48 rfl zm_yX4_addStep zw_22_7 hk165 (by decide) zs_6 (q := (RX4, TX4, 2)) rfl rfl (yc_X4_addStep _ _ s148 hI151 k163 hk165 r18 ⟨by omega, by omega⟩) rfl rfl (Nat.le_of_ble_eq_true rfl) (by decide) (fun r166 s167 hr168 hp169 => ?_)
        obtain ⟨hI170, hF171⟩ := hp169
        have hF172 := zOn_tr hF157 hF171 zi_rp2
        have hT173 := yTk_rk hT153 (yRk_p hF171)
        have hE174 : yst s167 = p158 := (yst_rk (yRk_p hF171)).trans hE159
        have b175 := zv_20_2 hI170 zc_33
        have e176 := hF171 33 2 rfl
        refine zt_goto (tgt := 69) hX dX1_comparison_51 (by decide) ?_
        exact zt_vret hX hR dX1_comparison_69 ⟨hI170, hF172, hT173, (by rw [hE174]; exact yJ_tr z9 (yJ_tr (yJ_cs (by omega)) (yJ_tr z154 (yJ_ce z156)))), (by rw [hE174]; exact L160)⟩
set_option maxRecDepth 100000 in
set_option maxHeartbeats 4000000 in
theorem yc_X1_fact_o5 (l : Launch) (E : zEN) (σ : zSto) (hI : zInv σ) (f : Int → Int) (hT : yTk f σ) (rl : Int) (hrl : σ 33 2 = rl) (k : List Nat) (hk : ydep k = 5) : zCt l E yX1_fact cX1_fact 2 none 11 zNC zNC 0 0 σ [.ref (E.1 + 33), .int (zI 5)] (fun r σ' => zInv σ' ∧ zOn zR2 σ σ' ∧ yTk f σ' ∧ (yJ rl f (4, k, (yst σ)) (5, k, (yst σ'))) ∧ (yle (yst σ) (yst σ'))) := by
  refine zCt_of2 [some (.ref (E.1 + 33)), some (.int (zI 5))] (by decide +kernel) (Nat.le_of_ble_eq_true rfl) rfl ?_
  intro X hE_ hX hR hL hN
  subst hE_
  have hX : zok X cX1_fact RX1 11 := hX
  have hF := zOn_rf zR2 σ
  have hE0 : yst σ = yst σ := rfl
  have L0 := yle_rf (yst σ)
  have b1 := zv_20_2 hI zc_33
  refine zt_aload_n (pc' := 1) hX dX1_fact_0 rfl rfl ?_
  refine zt_get (pc' := 4) (v := .ref (X.1.1 + 27)) hX dX1_fact_1 rfl zf_X1_15 (by decide) zc_33 zs_20 (zrf_of (zv_20_0 hI zc_33)) ?_
  refine zt_cVi (pc' := 7) hX dX1_fact_4 rfl zm_yX5_wordHere zw_22_21 zc_27 (by decide) zs_14 (q := (RX5, TX5, 9)) rfl rfl (yc_X5_wordHere _ _ σ hI f hT) rfl rfl (Nat.le_of_ble_eq_true rfl) (by decide) (fun r2 s3 hr4 hp5 => ?_)
  obtain ⟨rfl, q6, q7, z8⟩ := hp5
  refine zt_bipush (pc' := 9) hX dX1_fact_7 rfl (by decide) (by decide) ?_
  refine zt_icne (pc' := 12) (tgt := 39) hX dX1_fact_9 rfl (by decide) ⟨by omega, by omega⟩ ⟨by omega, by omega⟩ (fun c9 => ?_) (fun c9 => ?_)
  · refine zt_aload_n (pc' := 40) hX dX1_fact_39 rfl rfl ?_
    refine zt_get (pc' := 43) (v := .ref (X.1.1 + 27)) hX dX1_fact_40 rfl zf_X1_15 (by decide) zc_33 zs_20 (zrf_of (zv_20_0 hI zc_33)) ?_
    refine zt_cVi (pc' := 46) hX dX1_fact_43 rfl zm_yX5_signHere zw_22_2 zc_27 (by decide) zs_14 (q := (RX5, TX5, 9)) rfl rfl (yc_X5_signHere _ _ σ hI f hT) rfl rfl (Nat.le_of_ble_eq_true rfl) (by decide) (fun r10 s11 hr12 hp13 => ?_)
    obtain ⟨rfl, q14, q15, z16⟩ := hp13
    refine zt_bipush (pc' := 48) hX dX1_fact_46 rfl (by decide) (by decide) ?_
    refine zt_icne (pc' := 51) (tgt := 78) hX dX1_fact_48 rfl (by decide) ⟨by omega, by omega⟩ ⟨by omega, by omega⟩ (fun c17 => ?_) (fun c17 => ?_)
    · refine zt_aload_n (pc' := 79) hX dX1_fact_78 rfl rfl ?_
      refine zt_get (pc' := 82) (v := .ref (X.1.1 + 27)) hX dX1_fact_79 rfl zf_X1_15 (by decide) zc_33 zs_20 (zrf_of (zv_20_0 hI zc_33)) ?_
      refine zt_cVi (pc' := 85) hX dX1_fact_82 rfl zm_yX5_wordHere zw_22_21 zc_27 (by decide) zs_14 (q := (RX5, TX5, 9)) rfl rfl (yc_X5_wordHere _ _ σ hI f hT) rfl rfl (Nat.le_of_ble_eq_true rfl) (by decide) (fun r18 s19 hr20 hp21 => ?_)
      obtain ⟨rfl, q22, q23, z24⟩ := hp21
      refine zt_bipush (pc' := 87) hX dX1_fact_85 rfl (by decide) (by decide) ?_
      refine zt_icne (pc' := 90) (tgt := 109) hX dX1_fact_87 rfl (by decide) ⟨by omega, by omega⟩ ⟨by omega, by omega⟩ (fun c25 => ?_) (fun c25 => ?_)
      · refine zt_aload_n (pc' := 110) hX dX1_fact_109 rfl rfl ?_
        refine zt_iload_n (pc' := 111) hX dX1_fact_110 rfl rfl ?_
        refine zt_cVv (pc' := 114) hX dX1_fact_111 rfl zm_yX1_comparison zw_24_14 zc_33 (by decide) zs_20 (q := (RX1, TX1, 3)) rfl rfl (yc_X1_comparison_o5 _ _ σ hI f hT rl (by omega) k hk) rfl rfl (Nat.le_of_ble_eq_true rfl) (by decide) (fun r26 s27 hr28 hp29 => ?_)
        obtain ⟨hI30, hF31, hT32, z33, z34⟩ := hp29
        have hF35 := zOn_tr hF hF31 zi_id
        obtain ⟨p36, hE37⟩ : ∃ p, yst s27 = p := ⟨_, rfl⟩
        rw [hE37] at z33
        rw [hE37] at z34
        have L38 := yle_tr L0 z34
        have b39 := zv_20_2 hI30 zc_33
        have e40 := hF31 33 2 rfl
        exact zt_vret hX hR dX1_fact_114 ⟨hI30, hF35, hT32, (by rw [hE37]; exact yJ_tr (yJ_cmp (by omega) (by omega) (by omega)) z33), (by rw [hE37]; exact L38)⟩
      · refine zt_aload_n (pc' := 91) hX dX1_fact_90 rfl rfl ?_
        refine zt_get (pc' := 94) (v := .ref (X.1.1 + 27)) hX dX1_fact_91 rfl zf_X1_15 (by decide) zc_33 zs_20 (zrf_of (zv_20_0 hI zc_33)) ?_
        refine zt_cVv (pc' := 97) hX dX1_fact_94 rfl zm_yX5_step zw_22_6 zc_27 (by decide) zs_14 (q := (RX5, TX5, 9)) rfl rfl (yc_X5_step _ _ σ hI f hT) rfl rfl (Nat.le_of_ble_eq_true rfl) (by decide) (fun r41 s42 hr43 hp44 => ?_)
        obtain ⟨hI45, hF46, hT47, z48⟩ := hp44
        have hE49 : yst s42 = yPx f (yst σ) := z48
        have hF50 := zOn_tr hF hF46 zi_r12
        have L51 : yle (yst σ) (yPx f (yst σ)) := yle_tr L0 (yle_x hT hE0)
        have b52 := zv_20_2 hI45 zc_33
        have e53 := hF46 33 2 rfl
        refine zt_aload_n (pc' := 98) hX dX1_fact_97 rfl rfl ?_
        obtain ⟨k54, ek55, hk56⟩ := zv_20_1 hI45 zc_33
        refine zt_get (pc' := 101) (v := .ref (X.1.1 + k54)) hX dX1_fact_98 rfl zf_X1_19 (by decide) zc_33 zs_20 (zrf_of ek55) ?_
        refine zt_bipush (pc' := 103) hX dX1_fact_101 rfl (by decide) (by decide) ?_
        refine zt_cVv (pc' := 106) hX dX1_fact_103 rfl zm_yX4_addStep zw_22_7 hk56 (by decide) zs_6 (q := (RX4, TX4, 2)) rfl rfl (yc_X4_addStep _ _ s42 hI45 k54 hk56 24 ⟨by omega, by omega⟩) rfl rfl (Nat.le_of_ble_eq_true rfl) (by decide) (fun r57 s58 hr59 hp60 => ?_)
        obtain ⟨hI61, hF62⟩ := hp60
        have hF63 := zOn_tr hF50 hF62 zi_rp2
        have hT64 := yTk_rk hT47 (yRk_p hF62)
        have hE65 : yst s58 = yPx f (yst σ) := (yst_rk (yRk_p hF62)).trans hE49
        have b66 := zv_20_2 hI61 zc_33
        have e67 := hF62 33 2 rfl
        refine zt_goto (tgt := 114) hX dX1_fact_106 (by decide) ?_
        exact zt_vret hX hR dX1_fact_114 ⟨hI61, hF63, hT64, (by rw [hE65]; exact yJ_all (by omega)), (by rw [hE65]; exact L51)⟩
    · refine zt_aload_n (pc' := 52) hX dX1_fact_51 rfl rfl ?_
      refine zt_iload_n (pc' := 53) hX dX1_fact_52 rfl rfl ?_
      refine zt_cVz (pc' := 56) hX dX1_fact_53 rfl zm_yX1_opens zw_22_11 zc_33 (by decide) zs_20 (q := (RX1, TX1, 3)) rfl rfl (yc_X1_opens_o5 _ _ σ hI f hT) rfl rfl (Nat.le_of_ble_eq_true rfl) (by decide) (fun r68 s69 hr70 hp71 => ?_)
      obtain ⟨hI72, hF73, q74, q75, hT76, z77⟩ := hp71
      have hE78 : yst s69 = yPx f (yst σ) := z77
      have hF79 := zOn_tr hF hF73 zi_r12
      have L80 : yle (yst σ) (yPx f (yst σ)) := yle_tr L0 (yle_x hT hE0)
      have b81 := zv_20_2 hI72 zc_33
      have e82 := hF73 33 2 rfl
      refine zt_ifeq (pc' := 59) (tgt := 114) hX dX1_fact_56 rfl (by decide) ⟨by omega, by omega⟩ (fun c83 => ?_) (fun c83 => ?_)
      · exact absurd c83 (by omega)
      · refine zt_aload_n (pc' := 60) hX dX1_fact_59 rfl rfl ?_
        refine zt_iload_n (pc' := 61) hX dX1_fact_60 rfl rfl ?_
        refine zt_iconst (pc' := 62) hX dX1_fact_61 rfl ?_
        refine zt_iadd (pc' := 63) hX dX1_fact_62 rfl ?_
        rw [show (5 + 1 : Int) = 6 from rfl]
        refine zt_cVv (pc' := 66) hX dX1_fact_63 rfl zm_yX1_test zw_24_2 zc_33 (by decide) zs_20 (q := (RX1, TX1, 3)) rfl rfl (yc_X1_test_o6 _ _ s69 hI72 f hT76 rl (by omega) (7 :: k) (by show ydep k + 1 = _; omega) (Nat.ne_of_beq_eq_false rfl)) rfl rfl (Nat.le_of_ble_eq_true rfl) (by decide) (fun r84 s85 hr86 hp87 => ?_)
        obtain ⟨hI88, hF89, hT90, z91, z92, z93⟩ := hp87
        rw [hE78] at z91
        rw [hE78] at z92
        have hF94 := zOn_tr hF79 hF89 zi_id
        obtain ⟨p95, hE96⟩ : ∃ p, yst s85 = p := ⟨_, rfl⟩
        rw [hE96] at z91
        rw [hE96] at z92
        have L97 := yle_tr L80 z92
        rw [hE96] at z93
        have b98 := zv_20_2 hI88 zc_33
        have e99 := hF89 33 2 rfl
        refine zt_aload_n (pc' := 67) hX dX1_fact_66 rfl rfl ?_
        refine zt_get (pc' := 70) (v := .ref (X.1.1 + 27)) hX dX1_fact_67 rfl zf_X1_15 (by decide) zc_33 zs_20 (zrf_of (zv_20_0 hI88 zc_33)) ?_
        refine zt_bipush (pc' := 72) hX dX1_fact_70 rfl (by decide) (by decide) ?_
        refine zt_cVv (pc' := 75) hX dX1_fact_72 rfl zm_yX5_takeSign zw_22_15 zc_27 (by decide) zs_14 (q := (RX5, TX5, 9)) rfl rfl (yc_X5_takeSign _ _ s85 hI88 93 ⟨by omega, by omega⟩ f hT90) rfl rfl (Nat.le_of_ble_eq_true rfl) (by decide) (fun r100 s101 hr102 hp103 => ?_)
        obtain ⟨hI104, hF105, hT106, z107⟩ := hp103
        have hE108 : yst s101 = yPs f 93 p95 := by rw [z107, hE96]
        have hF109 := zOn_tr hF94 hF105 zi_r12
        have L110 : yle (yst σ) (yPs f 93 p95) := yle_tr L97 (yle_s hT90 hE96)
        have b111 := zv_20_2 hI104 zc_33
        have e112 := hF105 33 2 rfl
        refine zt_goto (tgt := 114) hX dX1_fact_75 (by decide) ?_
        exact zt_vret hX hR dX1_fact_114 ⟨hI104, hF109, hT106, (by rw [hE108]; exact yJ_tr (yJ_sq (by omega) (by omega)) (yJ_tr z91 (yJ_qc z93))), (by rw [hE108]; exact L110)⟩
  · refine zt_aload_n (pc' := 13) hX dX1_fact_12 rfl rfl ?_
    refine zt_iload_n (pc' := 14) hX dX1_fact_13 rfl rfl ?_
    refine zt_cVz (pc' := 17) hX dX1_fact_14 rfl zm_yX1_opens zw_22_11 zc_33 (by decide) zs_20 (q := (RX1, TX1, 3)) rfl rfl (yc_X1_opens_o5 _ _ σ hI f hT) rfl rfl (Nat.le_of_ble_eq_true rfl) (by decide) (fun r113 s114 hr115 hp116 => ?_)
    obtain ⟨hI117, hF118, q119, q120, hT121, z122⟩ := hp116
    have hE123 : yst s114 = yPx f (yst σ) := z122
    have hF124 := zOn_tr hF hF118 zi_r12
    have L125 : yle (yst σ) (yPx f (yst σ)) := yle_tr L0 (yle_x hT hE0)
    have b126 := zv_20_2 hI117 zc_33
    have e127 := hF118 33 2 rfl
    refine zt_ifeq (pc' := 20) (tgt := 114) hX dX1_fact_17 rfl (by decide) ⟨by omega, by omega⟩ (fun c128 => ?_) (fun c128 => ?_)
    · exact absurd c128 (by omega)
    · refine zt_aload_n (pc' := 21) hX dX1_fact_20 rfl rfl ?_
      refine zt_iload_n (pc' := 22) hX dX1_fact_21 rfl rfl ?_
      refine zt_iconst (pc' := 23) hX dX1_fact_22 rfl ?_
      refine zt_iadd (pc' := 24) hX dX1_fact_23 rfl ?_
      rw [show (5 + 1 : Int) = 6 from rfl]
      refine zt_cVv (pc' := 27) hX dX1_fact_24 rfl zm_yX1_fact zw_24_10 zc_33 (by decide) zs_20 (q := (RX1, TX1, 3)) rfl rfl (yc_X1_fact_o6 _ _ s114 hI117 f hT121 rl (by omega) (8 :: k) (by show ydep k + 1 = _; omega)) rfl rfl (Nat.le_of_ble_eq_true rfl) (by decide) (fun r129 s130 hr131 hp132 => ?_)
      obtain ⟨hI133, hF134, hT135, z136, z137⟩ := hp132
      rw [hE123] at z136
      rw [hE123] at z137
      have hF138 := zOn_tr hF124 hF134 zi_id
      obtain ⟨p139, hE140⟩ : ∃ p, yst s130 = p := ⟨_, rfl⟩
      rw [hE140] at z136
      rw [hE140] at z137
      have L141 := yle_tr L125 z137
      have b142 := zv_20_2 hI133 zc_33
      have e143 := hF134 33 2 rfl
      refine zt_aload_n (pc' := 28) hX dX1_fact_27 rfl rfl ?_
      obtain ⟨k144, ek145, hk146⟩ := zv_20_1 hI133 zc_33
      refine zt_get (pc' := 31) (v := .ref (X.1.1 + k144)) hX dX1_fact_28 rfl zf_X1_19 (by decide) zc_33 zs_20 (zrf_of ek145) ?_
      refine zt_bipush (pc' := 33) hX dX1_fact_31 rfl (by decide) (by decide) ?_
      refine zt_cVv (pc' := 36) hX dX1_fact_33 rfl zm_yX4_addStep zw_22_7 hk146 (by decide) zs_6 (q := (RX4, TX4, 2)) rfl rfl (yc_X4_addStep _ _ s130 hI133 k144 hk146 23 ⟨by omega, by omega⟩) rfl rfl (Nat.le_of_ble_eq_true rfl) (by decide) (fun r147 s148 hr149 hp150 => ?_)
      obtain ⟨hI151, hF152⟩ := hp150
      have hF153 := zOn_tr hF138 hF152 zi_rp2
      have hT154 := yTk_rk hT135 (yRk_p hF152)
      have hE155 : yst s148 = p139 := (yst_rk (yRk_p hF152)).trans hE140
      have b156 := zv_20_2 hI151 zc_33
      have e157 := hF152 33 2 rfl
      refine zt_goto (tgt := 114) hX dX1_fact_36 (by decide) ?_
      exact zt_vret hX hR dX1_fact_114 ⟨hI151, hF153, hT154, (by rw [hE155]; exact yJ_tr (yJ_not (by omega) (by omega)) (yJ_tr z136 yJ_nt)), (by rw [hE155]; exact L141)⟩
set_option maxRecDepth 100000 in
set_option maxHeartbeats 4000000 in
theorem yc_X1_both_o5 (l : Launch) (E : zEN) (σ : zSto) (hI : zInv σ) (f : Int → Int) (hT : yTk f σ) (rl : Int) (hrl : σ 33 2 = rl) (k : List Nat) (hk : ydep k = 5) (ht : ytop k ≠ 8) : zCt l E yX1_both cX1_both 3 none 12 zNC zNC 0 0 σ [.ref (E.1 + 33), .int (zI 5)] (fun r σ' => zInv σ' ∧ zOn zR2 σ σ' ∧ yTk f σ' ∧ (yJ rl f (4, k, (yst σ)) (5, k, (yst σ'))) ∧ (yle (yst σ) (yst σ')) ∧ (yPi f (yst σ') ≠ 22)) := by
  refine zCt_of2 [some (.ref (E.1 + 33)), some (.int (zI 5)), none] (by decide +kernel) (Nat.le_of_ble_eq_true rfl) rfl ?_
  intro X hE_ hX hR hL hN
  subst hE_
  have hX : zok X cX1_both RX1 12 := hX
  have hF := zOn_rf zR2 σ
  have hE0 : yst σ = yst σ := rfl
  have L0 := yle_rf (yst σ)
  have b1 := zv_20_2 hI zc_33
  refine zt_aload_n (pc' := 1) hX dX1_both_0 rfl rfl ?_
  refine zt_iload_n (pc' := 2) hX dX1_both_1 rfl rfl ?_
  refine zt_cVv (pc' := 5) hX dX1_both_2 rfl zm_yX1_fact zw_24_10 zc_33 (by decide) zs_20 (q := (RX1, TX1, 3)) rfl rfl (yc_X1_fact_o5 _ _ σ hI f hT rl (by omega) k hk) rfl rfl (Nat.le_of_ble_eq_true rfl) (by decide) (fun r2 s3 hr4 hp5 => ?_)
  obtain ⟨hI6, hF7, hT8, z9, z10⟩ := hp5
  have hF11 := zOn_tr hF hF7 zi_id
  obtain ⟨p12, hE13⟩ : ∃ p, yst s3 = p := ⟨_, rfl⟩
  rw [hE13] at z9
  rw [hE13] at z10
  have L14 := yle_tr L0 z10
  have b15 := zv_20_2 hI6 zc_33
  have e16 := hF7 33 2 rfl
  have g17 := z9
  refine zt_iconst (pc' := 6) hX dX1_both_5 rfl ?_
  refine zt_istore_n (pc' := 7) (lv' := [some (.ref (X.1.1 + 33)), some (.int (zI 5)), some (.int (zI 0))]) hX dX1_both_6 rfl hL (by decide) rfl ?_
  have L_7_30 : ∀ (N : Nat) (x18 : Int) (s21 : zSto) (p24 : yP), 0 ≤ x18 → x18 ≤ 1600 → zInv s21 → zOn zR2 σ s21 → yTk f s21 → yst s21 = p24 → s21 33 2 = σ 33 2 → yJ rl f (4, k, yst σ) (5, k, p24) → yle (yst σ) p24 → yge x18 p24 → ((1601 - x18).toNat) < N → zF X s21 7 [some (.ref (X.1.1 + 33)), some (.int (zI 5)), some (.int (zI x18))] [] := by
    intro N
    induction N with
    | zero =>
      intro x18 s21 p24 h19 h20 hI22 hF23 hT25 hE26 g27 g28 g29 g30 hm32
      exact absurd hm32 (Nat.not_lt_zero _)
    | succ N ih33 =>
      intro x18 s21 p24 h19 h20 hI22 hF23 hT25 hE26 g27 g28 g29 g30 hm32
      have b34 := zv_20_2 hI22 zc_33
      have hx := yge_x hT25 hE26 g30
      refine zt_iload_n (pc' := 8) hX dX1_both_7 rfl rfl ?_
      refine zt_sipush (pc' := 11) hX dX1_both_8 rfl (by decide) (by decide) ?_
      refine zt_icge (pc' := 14) (tgt := 53) hX dX1_both_11 rfl (by decide) ⟨by omega, by omega⟩ ⟨by omega, by omega⟩ (fun c35 => ?_) (fun c35 => ?_)
      · exact zt_vret hX hR dX1_both_53 ⟨hI22, hF23, hT25, (by rw [hE26]; exact g28), (by rw [hE26]; exact g29), (by rw [hE26]; omega)⟩
      · refine zt_aload_n (pc' := 15) hX dX1_both_14 rfl rfl ?_
        refine zt_get (pc' := 18) (v := .ref (X.1.1 + 27)) hX dX1_both_15 rfl zf_X1_15 (by decide) zc_33 zs_20 (zrf_of (zv_20_0 hI22 zc_33)) ?_
        refine zt_cVi (pc' := 21) hX dX1_both_18 rfl zm_yX5_wordHere zw_22_21 zc_27 (by decide) zs_14 (q := (RX5, TX5, 9)) rfl rfl (yc_X5_wordHere _ _ s21 hI22 f hT25) rfl rfl (Nat.le_of_ble_eq_true rfl) (by decide) (fun r36 s37 hr38 hp39 => ?_)
        obtain ⟨rfl, q40, q41, z42⟩ := hp39
        rw [hE26] at z42
        refine zt_bipush (pc' := 23) hX dX1_both_21 rfl (by decide) (by decide) ?_
        refine zt_icne (pc' := 26) (tgt := 53) hX dX1_both_23 rfl (by decide) ⟨by omega, by omega⟩ ⟨by omega, by omega⟩ (fun c43 => ?_) (fun c43 => ?_)
        · exact zt_vret hX hR dX1_both_53 ⟨hI22, hF23, hT25, (by rw [hE26]; exact g28), (by rw [hE26]; exact g29), (by rw [hE26]; omega)⟩
        · refine zt_aload_n (pc' := 27) hX dX1_both_26 rfl rfl ?_
          refine zt_get (pc' := 30) (v := .ref (X.1.1 + 27)) hX dX1_both_27 rfl zf_X1_15 (by decide) zc_33 zs_20 (zrf_of (zv_20_0 hI22 zc_33)) ?_
          refine zt_cVv (pc' := 33) hX dX1_both_30 rfl zm_yX5_step zw_22_6 zc_27 (by decide) zs_14 (q := (RX5, TX5, 9)) rfl rfl (yc_X5_step _ _ s21 hI22 f hT25) rfl rfl (Nat.le_of_ble_eq_true rfl) (by decide) (fun r44 s45 hr46 hp47 => ?_)
          obtain ⟨hI48, hF49, hT50, z51⟩ := hp47
          have hE52 : yst s45 = yPx f p24 := by rw [z51, hE26]
          have hF53 := zOn_tr hF23 hF49 zi_r12
          have L54 : yle (yst σ) (yPx f p24) := yle_tr g29 (yle_x hT25 hE26)
          have b55 := zv_20_2 hI48 zc_33
          have e56 := hF49 33 2 rfl
          have g57 := yJ_tr g28 (yJ_ao ht (by omega))
          have I58 := yge_1 hT25 hE26 g30 (by omega)
          refine zt_aload_n (pc' := 34) hX dX1_both_33 rfl rfl ?_
          refine zt_iload_n (pc' := 35) hX dX1_both_34 rfl rfl ?_
          refine zt_cVv (pc' := 38) hX dX1_both_35 rfl zm_yX1_fact zw_24_10 zc_33 (by decide) zs_20 (q := (RX1, TX1, 3)) rfl rfl (yc_X1_fact_o5 _ _ s45 hI48 f hT50 rl (by omega) k hk) rfl rfl (Nat.le_of_ble_eq_true rfl) (by decide) (fun r59 s60 hr61 hp62 => ?_)
          obtain ⟨hI63, hF64, hT65, z66, z67⟩ := hp62
          rw [hE52] at z66
          rw [hE52] at z67
          have hF68 := zOn_tr hF53 hF64 zi_id
          obtain ⟨p69, hE70⟩ : ∃ p, yst s60 = p := ⟨_, rfl⟩
          rw [hE70] at z66
          rw [hE70] at z67
          have L71 := yle_tr L54 z67
          have b72 := zv_20_2 hI63 zc_33
          have e73 := hF64 33 2 rfl
          have g74 := yJ_tr g57 z66
          have I75 := yge_l I58 z67
          refine zt_aload_n (pc' := 39) hX dX1_both_38 rfl rfl ?_
          obtain ⟨k76, ek77, hk78⟩ := zv_20_1 hI63 zc_33
          refine zt_get (pc' := 42) (v := .ref (X.1.1 + k76)) hX dX1_both_39 rfl zf_X1_19 (by decide) zc_33 zs_20 (zrf_of ek77) ?_
          refine zt_bipush (pc' := 44) hX dX1_both_42 rfl (by decide) (by decide) ?_
          refine zt_cVv (pc' := 47) hX dX1_both_44 rfl zm_yX4_addStep zw_22_7 hk78 (by decide) zs_6 (q := (RX4, TX4, 2)) rfl rfl (yc_X4_addStep _ _ s60 hI63 k76 hk78 22 ⟨by omega, by omega⟩) rfl rfl (Nat.le_of_ble_eq_true rfl) (by decide) (fun r79 s80 hr81 hp82 => ?_)
          obtain ⟨hI83, hF84⟩ := hp82
          have hF85 := zOn_tr hF68 hF84 zi_rp2
          have hT86 := yTk_rk hT65 (yRk_p hF84)
          have hE87 : yst s80 = p69 := (yst_rk (yRk_p hF84)).trans hE70
          have b88 := zv_20_2 hI83 zc_33
          have e89 := hF84 33 2 rfl
          refine zt_iinc (pc' := 50) (lv' := [some (.ref (X.1.1 + 33)), some (.int (zI 5)), some (.int (zI (x18 + 1)))]) hX dX1_both_47 rfl rfl hL (by decide) rfl ?_
          refine zt_goto (tgt := 7) hX dX1_both_50 (by decide) ?_
          exact ih33 (x18 + 1) s80 p69 (by omega) (by omega) hI83 hF85 hT86 hE87 (by omega) g74 L71 I75 (by omega)
  exact L_7_30 _ 0 s3 p12 (by omega) (by omega) hI6 hF11 hT8 hE13 (by omega) g17 L14 (yge_0 hT8 hE13) (Nat.lt_succ_self _)
set_option maxRecDepth 100000 in
set_option maxHeartbeats 4000000 in
theorem yc_X1_test_o5 (l : Launch) (E : zEN) (σ : zSto) (hI : zInv σ) (f : Int → Int) (hT : yTk f σ) (rl : Int) (hrl : σ 33 2 = rl) (k : List Nat) (hk : ydep k = 5) (ht : ytop k ≠ 8) : zCt l E yX1_test cX1_test 3 none 13 zNC zNC 0 0 σ [.ref (E.1 + 33), .int (zI 5)] (fun r σ' => zInv σ' ∧ zOn zR2 σ σ' ∧ yTk f σ' ∧ (yJ rl f (4, k, (yst σ)) (5, k, (yst σ'))) ∧ (yle (yst σ) (yst σ')) ∧ (yPi f (yst σ') ≠ 22 ∧ yPi f (yst σ') ≠ 21)) := by
  refine zCt_of2 [some (.ref (E.1 + 33)), some (.int (zI 5)), none] (by decide +kernel) (Nat.le_of_ble_eq_true rfl) rfl ?_
  intro X hE_ hX hR hL hN
  subst hE_
  have hX : zok X cX1_test RX1 13 := hX
  have hF := zOn_rf zR2 σ
  have hE0 : yst σ = yst σ := rfl
  have L0 := yle_rf (yst σ)
  have b1 := zv_20_2 hI zc_33
  refine zt_aload_n (pc' := 1) hX dX1_test_0 rfl rfl ?_
  refine zt_iload_n (pc' := 2) hX dX1_test_1 rfl rfl ?_
  refine zt_cVv (pc' := 5) hX dX1_test_2 rfl zm_yX1_both zw_24_6 zc_33 (by decide) zs_20 (q := (RX1, TX1, 3)) rfl rfl (yc_X1_both_o5 _ _ σ hI f hT rl (by omega) k hk ht) rfl rfl (Nat.le_of_ble_eq_true rfl) (by decide) (fun r2 s3 hr4 hp5 => ?_)
  obtain ⟨hI6, hF7, hT8, z9, z10, z11⟩ := hp5
  have hF12 := zOn_tr hF hF7 zi_id
  obtain ⟨p13, hE14⟩ : ∃ p, yst s3 = p := ⟨_, rfl⟩
  rw [hE14] at z9
  rw [hE14] at z10
  have L15 := yle_tr L0 z10
  rw [hE14] at z11
  have b16 := zv_20_2 hI6 zc_33
  have e17 := hF7 33 2 rfl
  have g18 := z9
  refine zt_iconst (pc' := 6) hX dX1_test_5 rfl ?_
  refine zt_istore_n (pc' := 7) (lv' := [some (.ref (X.1.1 + 33)), some (.int (zI 5)), some (.int (zI 0))]) hX dX1_test_6 rfl hL (by decide) rfl ?_
  have L_7_32 : ∀ (N : Nat) (x19 : Int) (s22 : zSto) (p25 : yP), 0 ≤ x19 → x19 ≤ 1600 → zInv s22 → zOn zR2 σ s22 → yTk f s22 → yst s22 = p25 → yPi f p25 ≠ 22 → s22 33 2 = σ 33 2 → yJ rl f (4, k, yst σ) (5, k, p25) → yle (yst σ) p25 → yge x19 p25 → ((1601 - x19).toNat) < N → zF X s22 7 [some (.ref (X.1.1 + 33)), some (.int (zI 5)), some (.int (zI x19))] [] := by
    intro N
    induction N with
    | zero =>
      intro x19 s22 p25 h20 h21 hI23 hF24 hT26 hE27 g28 g29 g30 g31 g32 hm34
      exact absurd hm34 (Nat.not_lt_zero _)
    | succ N ih35 =>
      intro x19 s22 p25 h20 h21 hI23 hF24 hT26 hE27 g28 g29 g30 g31 g32 hm34
      have b36 := zv_20_2 hI23 zc_33
      have hx := yge_x hT26 hE27 g32
      refine zt_iload_n (pc' := 8) hX dX1_test_7 rfl rfl ?_
      refine zt_sipush (pc' := 11) hX dX1_test_8 rfl (by decide) (by decide) ?_
      refine zt_icge (pc' := 14) (tgt := 53) hX dX1_test_11 rfl (by decide) ⟨by omega, by omega⟩ ⟨by omega, by omega⟩ (fun c37 => ?_) (fun c37 => ?_)
      · exact zt_vret hX hR dX1_test_53 ⟨hI23, hF24, hT26, (by rw [hE27]; exact g30), (by rw [hE27]; exact g31), (by rw [hE27]; omega)⟩
      · refine zt_aload_n (pc' := 15) hX dX1_test_14 rfl rfl ?_
        refine zt_get (pc' := 18) (v := .ref (X.1.1 + 27)) hX dX1_test_15 rfl zf_X1_15 (by decide) zc_33 zs_20 (zrf_of (zv_20_0 hI23 zc_33)) ?_
        refine zt_cVi (pc' := 21) hX dX1_test_18 rfl zm_yX5_wordHere zw_22_21 zc_27 (by decide) zs_14 (q := (RX5, TX5, 9)) rfl rfl (yc_X5_wordHere _ _ s22 hI23 f hT26) rfl rfl (Nat.le_of_ble_eq_true rfl) (by decide) (fun r38 s39 hr40 hp41 => ?_)
        obtain ⟨rfl, q42, q43, z44⟩ := hp41
        rw [hE27] at z44
        refine zt_bipush (pc' := 23) hX dX1_test_21 rfl (by decide) (by decide) ?_
        refine zt_icne (pc' := 26) (tgt := 53) hX dX1_test_23 rfl (by decide) ⟨by omega, by omega⟩ ⟨by omega, by omega⟩ (fun c45 => ?_) (fun c45 => ?_)
        · exact zt_vret hX hR dX1_test_53 ⟨hI23, hF24, hT26, (by rw [hE27]; exact g30), (by rw [hE27]; exact g31), (by rw [hE27]; omega)⟩
        · refine zt_aload_n (pc' := 27) hX dX1_test_26 rfl rfl ?_
          refine zt_get (pc' := 30) (v := .ref (X.1.1 + 27)) hX dX1_test_27 rfl zf_X1_15 (by decide) zc_33 zs_20 (zrf_of (zv_20_0 hI23 zc_33)) ?_
          refine zt_cVv (pc' := 33) hX dX1_test_30 rfl zm_yX5_step zw_22_6 zc_27 (by decide) zs_14 (q := (RX5, TX5, 9)) rfl rfl (yc_X5_step _ _ s22 hI23 f hT26) rfl rfl (Nat.le_of_ble_eq_true rfl) (by decide) (fun r46 s47 hr48 hp49 => ?_)
          obtain ⟨hI50, hF51, hT52, z53⟩ := hp49
          have hE54 : yst s47 = yPx f p25 := by rw [z53, hE27]
          have hF55 := zOn_tr hF24 hF51 zi_r12
          have L56 : yle (yst σ) (yPx f p25) := yle_tr g31 (yle_x hT26 hE27)
          have b57 := zv_20_2 hI50 zc_33
          have e58 := hF51 33 2 rfl
          have g59 := yJ_tr g30 (yJ_ao ht (by omega))
          have I60 := yge_1 hT26 hE27 g32 (by omega)
          refine zt_aload_n (pc' := 34) hX dX1_test_33 rfl rfl ?_
          refine zt_iload_n (pc' := 35) hX dX1_test_34 rfl rfl ?_
          refine zt_cVv (pc' := 38) hX dX1_test_35 rfl zm_yX1_both zw_24_6 zc_33 (by decide) zs_20 (q := (RX1, TX1, 3)) rfl rfl (yc_X1_both_o5 _ _ s47 hI50 f hT52 rl (by omega) k hk ht) rfl rfl (Nat.le_of_ble_eq_true rfl) (by decide) (fun r61 s62 hr63 hp64 => ?_)
          obtain ⟨hI65, hF66, hT67, z68, z69, z70⟩ := hp64
          rw [hE54] at z68
          rw [hE54] at z69
          have hF71 := zOn_tr hF55 hF66 zi_id
          obtain ⟨p72, hE73⟩ : ∃ p, yst s62 = p := ⟨_, rfl⟩
          rw [hE73] at z68
          rw [hE73] at z69
          have L74 := yle_tr L56 z69
          rw [hE73] at z70
          have b75 := zv_20_2 hI65 zc_33
          have e76 := hF66 33 2 rfl
          have g77 := yJ_tr g59 z68
          have I78 := yge_l I60 z69
          refine zt_aload_n (pc' := 39) hX dX1_test_38 rfl rfl ?_
          obtain ⟨k79, ek80, hk81⟩ := zv_20_1 hI65 zc_33
          refine zt_get (pc' := 42) (v := .ref (X.1.1 + k79)) hX dX1_test_39 rfl zf_X1_19 (by decide) zc_33 zs_20 (zrf_of ek80) ?_
          refine zt_bipush (pc' := 44) hX dX1_test_42 rfl (by decide) (by decide) ?_
          refine zt_cVv (pc' := 47) hX dX1_test_44 rfl zm_yX4_addStep zw_22_7 hk81 (by decide) zs_6 (q := (RX4, TX4, 2)) rfl rfl (yc_X4_addStep _ _ s62 hI65 k79 hk81 21 ⟨by omega, by omega⟩) rfl rfl (Nat.le_of_ble_eq_true rfl) (by decide) (fun r82 s83 hr84 hp85 => ?_)
          obtain ⟨hI86, hF87⟩ := hp85
          have hF88 := zOn_tr hF71 hF87 zi_rp2
          have hT89 := yTk_rk hT67 (yRk_p hF87)
          have hE90 : yst s83 = p72 := (yst_rk (yRk_p hF87)).trans hE73
          have b91 := zv_20_2 hI86 zc_33
          have e92 := hF87 33 2 rfl
          refine zt_iinc (pc' := 50) (lv' := [some (.ref (X.1.1 + 33)), some (.int (zI 5)), some (.int (zI (x19 + 1)))]) hX dX1_test_47 rfl rfl hL (by decide) rfl ?_
          refine zt_goto (tgt := 7) hX dX1_test_50 (by decide) ?_
          exact ih35 (x19 + 1) s83 p72 (by omega) (by omega) hI86 hF88 hT89 hE90 (by omega) (by omega) g77 L74 I78 (by omega)
  exact L_7_32 _ 0 s3 p13 (by omega) (by omega) hI6 hF12 hT8 hE14 (by omega) (by omega) g18 L15 (yge_0 hT8 hE14) (Nat.lt_succ_self _)
set_option maxRecDepth 100000 in
set_option maxHeartbeats 4000000 in
theorem yc_X1_opens_o4 (l : Launch) (E : zEN) (σ : zSto) (hI : zInv σ) (f : Int → Int) (hT : yTk f σ) : zCt l E yX1_opens cX1_opens 2 (some .boolean) 1 zNC zNC 0 0 σ [.ref (E.1 + 33), .int (zI 4)] (fun r σ' => zInv σ' ∧ zOn zR1 σ σ' ∧ 1 ≤ r ∧ r ≤ 1 ∧ yTk f σ' ∧ ((yst σ') = yPx f (yst σ))) := by
  refine zCt_of2 [some (.ref (E.1 + 33)), some (.int (zI 4))] (by decide +kernel) (Nat.le_of_ble_eq_true rfl) rfl ?_
  intro X hE_ hX hR hL hN
  subst hE_
  have hX : zok X cX1_opens RX1 1 := hX
  have hF := zOn_rf zR1 σ
  have hE0 : yst σ = yst σ := rfl
  have L0 := yle_rf (yst σ)
  refine zt_iload_n (pc' := 1) hX dX1_opens_0 rfl rfl ?_
  refine zt_bipush (pc' := 3) hX dX1_opens_1 rfl (by decide) (by decide) ?_
  refine zt_iclt (pc' := 6) (tgt := 23) hX dX1_opens_3 rfl (by decide) ⟨by omega, by omega⟩ ⟨by omega, by omega⟩ (fun c1 => ?_) (fun c1 => ?_)
  · refine zt_aload_n (pc' := 24) hX dX1_opens_23 rfl rfl ?_
    refine zt_get (pc' := 27) (v := .ref (X.1.1 + 27)) hX dX1_opens_24 rfl zf_X1_15 (by decide) zc_33 zs_20 (zrf_of (zv_20_0 hI zc_33)) ?_
    refine zt_cVv (pc' := 30) hX dX1_opens_27 rfl zm_yX5_step zw_22_6 zc_27 (by decide) zs_14 (q := (RX5, TX5, 9)) rfl rfl (yc_X5_step _ _ σ hI f hT) rfl rfl (Nat.le_of_ble_eq_true rfl) (by decide) (fun r2 s3 hr4 hp5 => ?_)
    obtain ⟨hI6, hF7, hT8, z9⟩ := hp5
    have hE10 : yst s3 = yPx f (yst σ) := z9
    have hF11 := zOn_tr hF hF7 zi_id
    have L12 : yle (yst σ) (yPx f (yst σ)) := yle_tr L0 (yle_x hT hE0)
    refine zt_iconst (pc' := 31) hX dX1_opens_30 rfl ?_
    exact zt_zret hX hR dX1_opens_31 ⟨by omega, by omega⟩ ⟨hI6, hF11, by omega, by omega, hT8, hE10⟩
  · exact absurd c1 (by omega)
set_option maxRecDepth 100000 in
set_option maxHeartbeats 4000000 in
theorem yc_X1_pair_o4 (l : Launch) (E : zEN) (σ : zSto) (hI : zInv σ) (f : Int → Int) (hT : yTk f σ) (rl : Int) (hrl : σ 33 2 = rl) (k : List Nat) (hk : ydep k = 4) : zCt l E yX1_pair cX1_pair 2 none 10 zNC zNC 0 0 σ [.ref (E.1 + 33), .int (zI 4)] (fun r σ' => zInv σ' ∧ zOn zR2 σ σ' ∧ yTk f σ' ∧ (yJ rl f (3, k, (yst σ)) (2, k, (yst σ'))) ∧ (yle (yst σ) (yst σ'))) := by
  refine zCt_of2 [some (.ref (E.1 + 33)), some (.int (zI 4))] (by decide +kernel) (Nat.le_of_ble_eq_true rfl) rfl ?_
  intro X hE_ hX hR hL hN
  subst hE_
  have hX : zok X cX1_pair RX1 10 := hX
  have hF := zOn_rf zR2 σ
  have hE0 : yst σ = yst σ := rfl
  have L0 := yle_rf (yst σ)
  have b1 := zv_20_2 hI zc_33
  refine zt_aload_n (pc' := 1) hX dX1_pair_0 rfl rfl ?_
  refine zt_get (pc' := 4) (v := .ref (X.1.1 + 27)) hX dX1_pair_1 rfl zf_X1_15 (by decide) zc_33 zs_20 (zrf_of (zv_20_0 hI zc_33)) ?_
  refine zt_cVi (pc' := 7) hX dX1_pair_4 rfl zm_yX5_signHere zw_22_2 zc_27 (by decide) zs_14 (q := (RX5, TX5, 9)) rfl rfl (yc_X5_signHere _ _ σ hI f hT) rfl rfl (Nat.le_of_ble_eq_true rfl) (by decide) (fun r2 s3 hr4 hp5 => ?_)
  obtain ⟨rfl, q6, q7, z8⟩ := hp5
  refine zt_bipush (pc' := 9) hX dX1_pair_7 rfl (by decide) (by decide) ?_
  refine zt_iceq (pc' := 12) (tgt := 30) hX dX1_pair_9 rfl (by decide) ⟨by omega, by omega⟩ ⟨by omega, by omega⟩ (fun c9 => ?_) (fun c9 => ?_)
  · refine zt_aload_n (pc' := 31) hX dX1_pair_30 rfl rfl ?_
    refine zt_iload_n (pc' := 32) hX dX1_pair_31 rfl rfl ?_
    refine zt_cVz (pc' := 35) hX dX1_pair_32 rfl zm_yX1_opens zw_22_11 zc_33 (by decide) zs_20 (q := (RX1, TX1, 3)) rfl rfl (yc_X1_opens_o4 _ _ σ hI f hT) rfl rfl (Nat.le_of_ble_eq_true rfl) (by decide) (fun r10 s11 hr12 hp13 => ?_)
    obtain ⟨hI14, hF15, q16, q17, hT18, z19⟩ := hp13
    have hE20 : yst s11 = yPx f (yst σ) := z19
    have hF21 := zOn_tr hF hF15 zi_r12
    have L22 : yle (yst σ) (yPx f (yst σ)) := yle_tr L0 (yle_x hT hE0)
    have b23 := zv_20_2 hI14 zc_33
    have e24 := hF15 33 2 rfl
    refine zt_ifeq (pc' := 38) (tgt := 70) hX dX1_pair_35 rfl (by decide) ⟨by omega, by omega⟩ (fun c25 => ?_) (fun c25 => ?_)
    · exact absurd c25 (by omega)
    · refine zt_aload_n (pc' := 39) hX dX1_pair_38 rfl rfl ?_
      refine zt_iload_n (pc' := 40) hX dX1_pair_39 rfl rfl ?_
      refine zt_iconst (pc' := 41) hX dX1_pair_40 rfl ?_
      refine zt_iadd (pc' := 42) hX dX1_pair_41 rfl ?_
      rw [show (4 + 1 : Int) = 5 from rfl]
      refine zt_cVv (pc' := 45) hX dX1_pair_42 rfl zm_yX1_sum zw_21_19 zc_33 (by decide) zs_20 (q := (RX1, TX1, 3)) rfl rfl (yc_X1_sum_o5 _ _ s11 hI14 f hT18 rl (by omega) (2 :: k) (by show ydep k + 1 = _; omega) (Nat.ne_of_beq_eq_false rfl)) rfl rfl (Nat.le_of_ble_eq_true rfl) (by decide) (fun r26 s27 hr28 hp29 => ?_)
      obtain ⟨hI30, hF31, hT32, z33, z34, z35⟩ := hp29
      rw [hE20] at z33
      rw [hE20] at z34
      have hF36 := zOn_tr hF21 hF31 zi_id
      obtain ⟨p37, hE38⟩ : ∃ p, yst s27 = p := ⟨_, rfl⟩
      rw [hE38] at z33
      rw [hE38] at z34
      have L39 := yle_tr L22 z34
      rw [hE38] at z35
      have b40 := zv_20_2 hI30 zc_33
      have e41 := hF31 33 2 rfl
      refine zt_aload_n (pc' := 46) hX dX1_pair_45 rfl rfl ?_
      refine zt_get (pc' := 49) (v := .ref (X.1.1 + 27)) hX dX1_pair_46 rfl zf_X1_15 (by decide) zc_33 zs_20 (zrf_of (zv_20_0 hI30 zc_33)) ?_
      refine zt_bipush (pc' := 51) hX dX1_pair_49 rfl (by decide) (by decide) ?_
      refine zt_cVv (pc' := 54) hX dX1_pair_51 rfl zm_yX5_takeSign zw_22_15 zc_27 (by decide) zs_14 (q := (RX5, TX5, 9)) rfl rfl (yc_X5_takeSign _ _ s27 hI30 44 ⟨by omega, by omega⟩ f hT32) rfl rfl (Nat.le_of_ble_eq_true rfl) (by decide) (fun r42 s43 hr44 hp45 => ?_)
      obtain ⟨hI46, hF47, hT48, z49⟩ := hp45
      have hE50 : yst s43 = yPs f 44 p37 := by rw [z49, hE38]
      have hF51 := zOn_tr hF36 hF47 zi_r12
      have L52 : yle (yst σ) (yPs f 44 p37) := yle_tr L39 (yle_s hT32 hE38)
      have b53 := zv_20_2 hI46 zc_33
      have e54 := hF47 33 2 rfl
      refine zt_aload_n (pc' := 55) hX dX1_pair_54 rfl rfl ?_
      refine zt_iload_n (pc' := 56) hX dX1_pair_55 rfl rfl ?_
      refine zt_iconst (pc' := 57) hX dX1_pair_56 rfl ?_
      refine zt_iadd (pc' := 58) hX dX1_pair_57 rfl ?_
      rw [show (4 + 1 : Int) = 5 from rfl]
      refine zt_cVv (pc' := 61) hX dX1_pair_58 rfl zm_yX1_sum zw_21_19 zc_33 (by decide) zs_20 (q := (RX1, TX1, 3)) rfl rfl (yc_X1_sum_o5 _ _ s43 hI46 f hT48 rl (by omega) (3 :: k) (by show ydep k + 1 = _; omega) (Nat.ne_of_beq_eq_false rfl)) rfl rfl (Nat.le_of_ble_eq_true rfl) (by decide) (fun r55 s56 hr57 hp58 => ?_)
      obtain ⟨hI59, hF60, hT61, z62, z63, z64⟩ := hp58
      rw [hE50] at z62
      rw [hE50] at z63
      have hF65 := zOn_tr hF51 hF60 zi_id
      obtain ⟨p66, hE67⟩ : ∃ p, yst s56 = p := ⟨_, rfl⟩
      rw [hE67] at z62
      rw [hE67] at z63
      have L68 := yle_tr L52 z63
      rw [hE67] at z64
      have b69 := zv_20_2 hI59 zc_33
      have e70 := hF60 33 2 rfl
      refine zt_aload_n (pc' := 62) hX dX1_pair_61 rfl rfl ?_
      refine zt_get (pc' := 65) (v := .ref (X.1.1 + 27)) hX dX1_pair_62 rfl zf_X1_15 (by decide) zc_33 zs_20 (zrf_of (zv_20_0 hI59 zc_33)) ?_
      refine zt_bipush (pc' := 67) hX dX1_pair_65 rfl (by decide) (by decide) ?_
      refine zt_cVv (pc' := 70) hX dX1_pair_67 rfl zm_yX5_takeSign zw_22_15 zc_27 (by decide) zs_14 (q := (RX5, TX5, 9)) rfl rfl (yc_X5_takeSign _ _ s56 hI59 41 ⟨by omega, by omega⟩ f hT61) rfl rfl (Nat.le_of_ble_eq_true rfl) (by decide) (fun r71 s72 hr73 hp74 => ?_)
      obtain ⟨hI75, hF76, hT77, z78⟩ := hp74
      have hE79 : yst s72 = yPs f 41 p66 := by rw [z78, hE67]
      have hF80 := zOn_tr hF65 hF76 zi_r12
      have L81 : yle (yst σ) (yPs f 41 p66) := yle_tr L68 (yle_s hT61 hE67)
      have b82 := zv_20_2 hI75 zc_33
      have e83 := hF76 33 2 rfl
      exact zt_vret hX hR dX1_pair_70 ⟨hI75, hF80, hT77, (by rw [hE79]; exact yJ_tr (yJ_pr (by omega) (by omega)) (yJ_tr z33 (yJ_tr (yJ_cm z35) (yJ_tr z62 (yJ_cl (Or.inr rfl) z64))))), (by rw [hE79]; exact L81)⟩
  · refine zt_aload_n (pc' := 13) hX dX1_pair_12 rfl rfl ?_
    refine zt_get (pc' := 16) (v := .ref (X.1.1 + 27)) hX dX1_pair_13 rfl zf_X1_15 (by decide) zc_33 zs_20 (zrf_of (zv_20_0 hI zc_33)) ?_
    refine zt_iconst (pc' := 17) hX dX1_pair_16 rfl ?_
    refine zt_aload_n (pc' := 18) hX dX1_pair_17 rfl rfl ?_
    refine zt_get (pc' := 21) (v := .ref (X.1.1 + 27)) hX dX1_pair_18 rfl zf_X1_15 (by decide) zc_33 zs_20 (zrf_of (zv_20_0 hI zc_33)) ?_
    refine zt_cVi (pc' := 24) hX dX1_pair_21 rfl zm_yX5_placeHere zw_22_9 zc_27 (by decide) zs_14 (q := (RX5, TX5, 9)) rfl rfl (yc_X5_placeHere _ _ σ hI f hT) rfl rfl (Nat.le_of_ble_eq_true rfl) (by decide) (fun r84 s85 hr86 hp87 => ?_)
    obtain ⟨rfl, q88, q89, z90⟩ := hp87
    refine zt_cVv (pc' := 27) hX dX1_pair_24 rfl zm_yX5_refuse zw_22_10 zc_27 (by decide) zs_14 (q := (RX5, TX5, 9)) rfl rfl (yc_X5_refuse _ _ σ hI 1 ⟨by omega, by omega⟩ r84 ⟨by omega, by omega⟩ (by omega) f hT) rfl rfl (Nat.le_of_ble_eq_true rfl) (by decide) (fun r91 s92 hr93 hp94 => ?_)
    obtain ⟨hI95, hF96, hT97, z98⟩ := hp94
    have hE99 : yst s92 = yPno 1 r84 (yst σ) := z98
    have hF100 := zOn_tr hF hF96 zi_r12
    have L101 : yle (yst σ) (yPno 1 r84 (yst σ)) := yle_tr L0 yle_no
    have b102 := zv_20_2 hI95 zc_33
    have e103 := hF96 33 2 rfl
    refine zt_goto (tgt := 70) hX dX1_pair_27 (by decide) ?_
    exact zt_vret hX hR dX1_pair_70 ⟨hI95, hF100, hT97, (by rw [hE99, yPno_f (p := r84) (d := 0) (fun o => by omega)]; exact yJ_prn (by omega)), (by rw [hE99]; exact L101)⟩
set_option maxRecDepth 100000 in
set_option maxHeartbeats 4000000 in
theorem yc_X1_part_o4 (l : Launch) (E : zEN) (σ : zSto) (hI : zInv σ) (f : Int → Int) (hT : yTk f σ) (rl : Int) (hrl : σ 33 2 = rl) (k : List Nat) (hk : ydep k = 4) : zCt l E yX1_part cX1_part 4 none 11 zNC zNC 0 0 σ [.ref (E.1 + 33), .int (zI 4)] (fun r σ' => zInv σ' ∧ zOn zR2 σ σ' ∧ yTk f σ' ∧ (yJ rl f (1, k, (yst σ)) (2, k, (yst σ'))) ∧ (yle (yst σ) (yst σ'))) := by
  refine zCt_of2 [some (.ref (E.1 + 33)), some (.int (zI 4)), none, none] (by decide +kernel) (Nat.le_of_ble_eq_true rfl) rfl ?_
  intro X hE_ hX hR hL hN
  subst hE_
  have hX : zok X cX1_part RX1 11 := hX
  have hF := zOn_rf zR2 σ
  have hE0 : yst σ = yst σ := rfl
  have L0 := yle_rf (yst σ)
  have b1 := zv_20_2 hI zc_33
  refine zt_aload_n (pc' := 1) hX dX1_part_0 rfl rfl ?_
  refine zt_get (pc' := 4) (v := .ref (X.1.1 + 27)) hX dX1_part_1 rfl zf_X1_15 (by decide) zc_33 zs_20 (zrf_of (zv_20_0 hI zc_33)) ?_
  refine zt_cVi (pc' := 7) hX dX1_part_4 rfl zm_yX5_wordHere zw_22_21 zc_27 (by decide) zs_14 (q := (RX5, TX5, 9)) rfl rfl (yc_X5_wordHere _ _ σ hI f hT) rfl rfl (Nat.le_of_ble_eq_true rfl) (by decide) (fun r2 s3 hr4 hp5 => ?_)
  obtain ⟨rfl, q6, q7, z8⟩ := hp5
  refine zt_istore_n (pc' := 8) (lv' := [some (.ref (X.1.1 + 33)), some (.int (zI 4)), some (.int (zI r2)), none]) hX dX1_part_7 rfl hL (by decide) rfl ?_
  refine zt_aload_n (pc' := 9) hX dX1_part_8 rfl rfl ?_
  refine zt_get (pc' := 12) (v := .ref (X.1.1 + 27)) hX dX1_part_9 rfl zf_X1_15 (by decide) zc_33 zs_20 (zrf_of (zv_20_0 hI zc_33)) ?_
  refine zt_cVi (pc' := 15) hX dX1_part_12 rfl zm_yX5_kindHere zw_22_22 zc_27 (by decide) zs_14 (q := (RX5, TX5, 9)) rfl rfl (yc_X5_kindHere _ _ σ hI f hT) rfl rfl (Nat.le_of_ble_eq_true rfl) (by decide) (fun r9 s10 hr11 hp12 => ?_)
  obtain ⟨rfl, q13, q14, z15⟩ := hp12
  refine zt_istore_n (pc' := 16) (lv' := [some (.ref (X.1.1 + 33)), some (.int (zI 4)), some (.int (zI r2)), some (.int (zI r9))]) hX dX1_part_15 rfl hL (by decide) rfl ?_
  refine zt_iload_n (pc' := 17) hX dX1_part_16 rfl rfl ?_
  refine zt_iconst (pc' := 18) hX dX1_part_17 rfl ?_
  refine zt_iceq (pc' := 21) (tgt := 26) hX dX1_part_18 rfl (by decide) ⟨by omega, by omega⟩ ⟨by omega, by omega⟩ (fun c16 => ?_) (fun c16 => ?_)
  · refine zt_aload_n (pc' := 27) hX dX1_part_26 rfl rfl ?_
    obtain ⟨k17, ek18, hk19⟩ := zv_20_1 hI zc_33
    refine zt_get (pc' := 30) (v := .ref (X.1.1 + k17)) hX dX1_part_27 rfl zf_X1_19 (by decide) zc_33 zs_20 (zrf_of ek18) ?_
    refine zt_aload_n (pc' := 31) hX dX1_part_30 rfl rfl ?_
    refine zt_get (pc' := 34) (v := .ref (X.1.1 + 27)) hX dX1_part_31 rfl zf_X1_15 (by decide) zc_33 zs_20 (zrf_of (zv_20_0 hI zc_33)) ?_
    refine zt_iconst (pc' := 35) hX dX1_part_34 rfl ?_
    refine zt_sipush (pc' := 38) hX dX1_part_35 rfl (by decide) (by decide) ?_
    refine zt_cVi (pc' := 41) hX dX1_part_38 rfl zm_yX5_takeNumber zw_22_23 zc_27 (by decide) zs_14 (q := (RX5, TX5, 9)) rfl rfl (yc_X5_takeNumber _ _ σ hI 0 ⟨by omega, by omega⟩ 9999 ⟨by omega, by omega⟩ f hT) rfl rfl (Nat.le_of_ble_eq_true rfl) (by decide) (fun r20 s21 hr22 hp23 => ?_)
    obtain ⟨hI24, hF25, q26, q27, hT28, z29, z30, z31⟩ := hp23
    have hE32 : yst s21 = yPn f 0 9999 (yst σ) := z29
    have hF33 := zOn_tr hF hF25 zi_r12
    rw [hE32] at z30
    have L34 : yle (yst σ) (yPn f 0 9999 (yst σ)) := yle_tr L0 (yle_n hT hE0)
    have b35 := zv_20_2 hI24 zc_33
    have e36 := hF25 33 2 rfl
    refine zt_cVv (pc' := 44) hX dX1_part_41 rfl zm_yX4_addNumber zw_23_0 hk19 (by decide) zs_6 (q := (RX4, TX4, 2)) rfl rfl (yc_X4_addNumber _ _ s21 hI24 k17 hk19 r20 ⟨by omega, by omega⟩) rfl rfl (Nat.le_of_ble_eq_true rfl) (by decide) (fun r37 s38 hr39 hp40 => ?_)
    obtain ⟨hI41, hF42⟩ := hp40
    have hF43 := zOn_tr hF33 hF42 zi_rp2
    have hT44 := yTk_rk hT28 (yRk_p hF42)
    have hE45 : yst s38 = yPn f 0 9999 (yst σ) := (yst_rk (yRk_p hF42)).trans hE32
    have b46 := zv_20_2 hI41 zc_33
    have e47 := hF42 33 2 rfl
    refine zt_goto (tgt := 203) hX dX1_part_44 (by decide) ?_
    exact zt_vret hX hR dX1_part_203 ⟨hI41, hF43, hT44, (by rw [hE45]; exact yJ_num (by omega)), (by rw [hE45]; exact L34)⟩
  · refine zt_iload_n (pc' := 22) hX dX1_part_21 rfl rfl ?_
    refine zt_iconst (pc' := 23) hX dX1_part_22 rfl ?_
    refine zt_icne (pc' := 26) (tgt := 47) hX dX1_part_23 rfl (by decide) ⟨by omega, by omega⟩ ⟨by omega, by omega⟩ (fun c48 => ?_) (fun c48 => ?_)
    · refine zt_aload_n (pc' := 48) hX dX1_part_47 rfl rfl ?_
      refine zt_get (pc' := 51) (v := .ref (X.1.1 + 27)) hX dX1_part_48 rfl zf_X1_15 (by decide) zc_33 zs_20 (zrf_of (zv_20_0 hI zc_33)) ?_
      refine zt_cVi (pc' := 54) hX dX1_part_51 rfl zm_yX5_signHere zw_22_2 zc_27 (by decide) zs_14 (q := (RX5, TX5, 9)) rfl rfl (yc_X5_signHere _ _ σ hI f hT) rfl rfl (Nat.le_of_ble_eq_true rfl) (by decide) (fun r49 s50 hr51 hp52 => ?_)
      obtain ⟨rfl, q53, q54, z55⟩ := hp52
      refine zt_bipush (pc' := 56) hX dX1_part_54 rfl (by decide) (by decide) ?_
      refine zt_icne (pc' := 59) (tgt := 86) hX dX1_part_56 rfl (by decide) ⟨by omega, by omega⟩ ⟨by omega, by omega⟩ (fun c56 => ?_) (fun c56 => ?_)
      · refine zt_iload_n (pc' := 87) hX dX1_part_86 rfl rfl ?_
        refine zt_bipush (pc' := 89) hX dX1_part_87 rfl (by decide) (by decide) ?_
        refine zt_iceq (pc' := 92) (tgt := 98) hX dX1_part_89 rfl (by decide) ⟨by omega, by omega⟩ ⟨by omega, by omega⟩ (fun c57 => ?_) (fun c57 => ?_)
        · refine zt_aload_n (pc' := 99) hX dX1_part_98 rfl rfl ?_
          refine zt_get (pc' := 102) (v := .ref (X.1.1 + 27)) hX dX1_part_99 rfl zf_X1_15 (by decide) zc_33 zs_20 (zrf_of (zv_20_0 hI zc_33)) ?_
          refine zt_cVv (pc' := 105) hX dX1_part_102 rfl zm_yX5_step zw_22_6 zc_27 (by decide) zs_14 (q := (RX5, TX5, 9)) rfl rfl (yc_X5_step _ _ σ hI f hT) rfl rfl (Nat.le_of_ble_eq_true rfl) (by decide) (fun r58 s59 hr60 hp61 => ?_)
          obtain ⟨hI62, hF63, hT64, z65⟩ := hp61
          have hE66 : yst s59 = yPx f (yst σ) := z65
          have hF67 := zOn_tr hF hF63 zi_r12
          have L68 : yle (yst σ) (yPx f (yst σ)) := yle_tr L0 (yle_x hT hE0)
          have b69 := zv_20_2 hI62 zc_33
          have e70 := hF63 33 2 rfl
          refine zt_aload_n (pc' := 106) hX dX1_part_105 rfl rfl ?_
          refine zt_iload_n (pc' := 107) hX dX1_part_106 rfl rfl ?_
          refine zt_cVv (pc' := 110) hX dX1_part_107 rfl zm_yX1_pair zw_23_1 zc_33 (by decide) zs_20 (q := (RX1, TX1, 3)) rfl rfl (yc_X1_pair_o4 _ _ s59 hI62 f hT64 rl (by omega) k hk) rfl rfl (Nat.le_of_ble_eq_true rfl) (by decide) (fun r71 s72 hr73 hp74 => ?_)
          obtain ⟨hI75, hF76, hT77, z78, z79⟩ := hp74
          rw [hE66] at z78
          rw [hE66] at z79
          have hF80 := zOn_tr hF67 hF76 zi_id
          obtain ⟨p81, hE82⟩ : ∃ p, yst s72 = p := ⟨_, rfl⟩
          rw [hE82] at z78
          rw [hE82] at z79
          have L83 := yle_tr L68 z79
          have b84 := zv_20_2 hI75 zc_33
          have e85 := hF76 33 2 rfl
          refine zt_aload_n (pc' := 111) hX dX1_part_110 rfl rfl ?_
          obtain ⟨k86, ek87, hk88⟩ := zv_20_1 hI75 zc_33
          refine zt_get (pc' := 114) (v := .ref (X.1.1 + k86)) hX dX1_part_111 rfl zf_X1_19 (by decide) zc_33 zs_20 (zrf_of ek87) ?_
          refine zt_iload_n (pc' := 115) hX dX1_part_114 rfl rfl ?_
          refine zt_cVv (pc' := 118) hX dX1_part_115 rfl zm_yX4_addStep zw_22_7 hk88 (by decide) zs_6 (q := (RX4, TX4, 2)) rfl rfl (yc_X4_addStep _ _ s72 hI75 k86 hk88 r2 ⟨by omega, by omega⟩) rfl rfl (Nat.le_of_ble_eq_true rfl) (by decide) (fun r89 s90 hr91 hp92 => ?_)
          obtain ⟨hI93, hF94⟩ := hp92
          have hF95 := zOn_tr hF80 hF94 zi_rp2
          have hT96 := yTk_rk hT77 (yRk_p hF94)
          have hE97 : yst s90 = p81 := (yst_rk (yRk_p hF94)).trans hE82
          have b98 := zv_20_2 hI93 zc_33
          have e99 := hF94 33 2 rfl
          refine zt_goto (tgt := 203) hX dX1_part_118 (by decide) ?_
          exact zt_vret hX hR dX1_part_203 ⟨hI93, hF95, hT96, (by rw [hE97]; exact yJ_tr (yJ_mm (by omega)) z78), (by rw [hE97]; exact L83)⟩
        · refine zt_iload_n (pc' := 93) hX dX1_part_92 rfl rfl ?_
          refine zt_bipush (pc' := 95) hX dX1_part_93 rfl (by decide) (by decide) ?_
          refine zt_icne (pc' := 98) (tgt := 121) hX dX1_part_95 rfl (by decide) ⟨by omega, by omega⟩ ⟨by omega, by omega⟩ (fun c100 => ?_) (fun c100 => ?_)
          · refine zt_iload_n (pc' := 122) hX dX1_part_121 rfl rfl ?_
            refine zt_bipush (pc' := 124) hX dX1_part_122 rfl (by decide) (by decide) ?_
            refine zt_icne (pc' := 127) (tgt := 162) hX dX1_part_124 rfl (by decide) ⟨by omega, by omega⟩ ⟨by omega, by omega⟩ (fun c101 => ?_) (fun c101 => ?_)
            · refine zt_aload_n (pc' := 163) hX dX1_part_162 rfl rfl ?_
              refine zt_iload_n (pc' := 164) hX dX1_part_163 rfl rfl ?_
              refine zt_cVz (pc' := 167) hX dX1_part_164 rfl zm_yX1_isValue zw_23_7 zc_33 (by decide) zs_20 (q := (RX1, TX1, 3)) rfl rfl (yc_X1_isValue _ _ σ hI r2 ⟨by omega, by omega⟩) rfl rfl (Nat.le_of_ble_eq_true rfl) (by decide) (fun r102 s103 hr104 hp105 => ?_)
              obtain ⟨rfl, q106, q107, z108⟩ := hp105
              rw [hrl, z8] at z108
              refine zt_ifeq (pc' := 170) (tgt := 188) hX dX1_part_167 rfl (by decide) ⟨by omega, by omega⟩ (fun c109 => ?_) (fun c109 => ?_)
              · refine zt_aload_n (pc' := 189) hX dX1_part_188 rfl rfl ?_
                refine zt_get (pc' := 192) (v := .ref (X.1.1 + 27)) hX dX1_part_189 rfl zf_X1_15 (by decide) zc_33 zs_20 (zrf_of (zv_20_0 hI zc_33)) ?_
                refine zt_iconst (pc' := 193) hX dX1_part_192 rfl ?_
                refine zt_aload_n (pc' := 194) hX dX1_part_193 rfl rfl ?_
                refine zt_get (pc' := 197) (v := .ref (X.1.1 + 27)) hX dX1_part_194 rfl zf_X1_15 (by decide) zc_33 zs_20 (zrf_of (zv_20_0 hI zc_33)) ?_
                refine zt_cVi (pc' := 200) hX dX1_part_197 rfl zm_yX5_placeHere zw_22_9 zc_27 (by decide) zs_14 (q := (RX5, TX5, 9)) rfl rfl (yc_X5_placeHere _ _ σ hI f hT) rfl rfl (Nat.le_of_ble_eq_true rfl) (by decide) (fun r110 s111 hr112 hp113 => ?_)
                obtain ⟨rfl, q114, q115, z116⟩ := hp113
                refine zt_cVv (pc' := 203) hX dX1_part_200 rfl zm_yX5_refuse zw_22_10 zc_27 (by decide) zs_14 (q := (RX5, TX5, 9)) rfl rfl (yc_X5_refuse _ _ σ hI 1 ⟨by omega, by omega⟩ r110 ⟨by omega, by omega⟩ (by omega) f hT) rfl rfl (Nat.le_of_ble_eq_true rfl) (by decide) (fun r117 s118 hr119 hp120 => ?_)
                obtain ⟨hI121, hF122, hT123, z124⟩ := hp120
                have hE125 : yst s118 = yPno 1 r110 (yst σ) := z124
                have hF126 := zOn_tr hF hF122 zi_r12
                have L127 : yle (yst σ) (yPno 1 r110 (yst σ)) := yle_tr L0 yle_no
                have b128 := zv_20_2 hI121 zc_33
                have e129 := hF122 33 2 rfl
                exact zt_vret hX hR dX1_part_203 ⟨hI121, hF126, hT123, (by rw [hE125, yPno_f (p := r110) (d := 0) (fun o => by omega)]; exact yJ_bad (by omega) (by omega) (by omega) (by omega) (yVi_0 (by omega))), (by rw [hE125]; exact L127)⟩
              · refine zt_aload_n (pc' := 171) hX dX1_part_170 rfl rfl ?_
                refine zt_get (pc' := 174) (v := .ref (X.1.1 + 27)) hX dX1_part_171 rfl zf_X1_15 (by decide) zc_33 zs_20 (zrf_of (zv_20_0 hI zc_33)) ?_
                refine zt_cVv (pc' := 177) hX dX1_part_174 rfl zm_yX5_step zw_22_6 zc_27 (by decide) zs_14 (q := (RX5, TX5, 9)) rfl rfl (yc_X5_step _ _ σ hI f hT) rfl rfl (Nat.le_of_ble_eq_true rfl) (by decide) (fun r130 s131 hr132 hp133 => ?_)
                obtain ⟨hI134, hF135, hT136, z137⟩ := hp133
                have hE138 : yst s131 = yPx f (yst σ) := z137
                have hF139 := zOn_tr hF hF135 zi_r12
                have L140 : yle (yst σ) (yPx f (yst σ)) := yle_tr L0 (yle_x hT hE0)
                have b141 := zv_20_2 hI134 zc_33
                have e142 := hF135 33 2 rfl
                refine zt_aload_n (pc' := 178) hX dX1_part_177 rfl rfl ?_
                obtain ⟨k143, ek144, hk145⟩ := zv_20_1 hI134 zc_33
                refine zt_get (pc' := 181) (v := .ref (X.1.1 + k143)) hX dX1_part_178 rfl zf_X1_19 (by decide) zc_33 zs_20 (zrf_of ek144) ?_
                refine zt_iload_n (pc' := 182) hX dX1_part_181 rfl rfl ?_
                refine zt_cVv (pc' := 185) hX dX1_part_182 rfl zm_yX4_addStep zw_22_7 hk145 (by decide) zs_6 (q := (RX4, TX4, 2)) rfl rfl (yc_X4_addStep _ _ s131 hI134 k143 hk145 r2 ⟨by omega, by omega⟩) rfl rfl (Nat.le_of_ble_eq_true rfl) (by decide) (fun r146 s147 hr148 hp149 => ?_)
                obtain ⟨hI150, hF151⟩ := hp149
                have hF152 := zOn_tr hF139 hF151 zi_rp2
                have hT153 := yTk_rk hT136 (yRk_p hF151)
                have hE154 : yst s147 = yPx f (yst σ) := (yst_rk (yRk_p hF151)).trans hE138
                have b155 := zv_20_2 hI150 zc_33
                have e156 := hF151 33 2 rfl
                refine zt_goto (tgt := 203) hX dX1_part_185 (by decide) ?_
                exact zt_vret hX hR dX1_part_203 ⟨hI150, hF152, hT153, (by rw [hE154]; exact yJ_val (yVi_1 (by omega))), (by rw [hE154]; exact L140)⟩
            · refine zt_aload_n (pc' := 128) hX dX1_part_127 rfl rfl ?_
              have b157 := zv_20_2 hI zc_33
              refine zt_get (pc' := 131) (v := .int (zI (σ 33 2))) hX dX1_part_128 rfl zf_X1_9 (by decide) zc_33 zs_20 rfl ?_
              refine zt_iconst (pc' := 132) hX dX1_part_131 rfl ?_
              refine zt_icne (pc' := 135) (tgt := 162) hX dX1_part_132 rfl (by decide) ⟨by omega, by omega⟩ ⟨by omega, by omega⟩ (fun c158 => ?_) (fun c158 => ?_)
              · refine zt_aload_n (pc' := 163) hX dX1_part_162 rfl rfl ?_
                refine zt_iload_n (pc' := 164) hX dX1_part_163 rfl rfl ?_
                refine zt_cVz (pc' := 167) hX dX1_part_164 rfl zm_yX1_isValue zw_23_7 zc_33 (by decide) zs_20 (q := (RX1, TX1, 3)) rfl rfl (yc_X1_isValue _ _ σ hI r2 ⟨by omega, by omega⟩) rfl rfl (Nat.le_of_ble_eq_true rfl) (by decide) (fun r159 s160 hr161 hp162 => ?_)
                obtain ⟨rfl, q163, q164, z165⟩ := hp162
                rw [hrl, z8] at z165
                refine zt_ifeq (pc' := 170) (tgt := 188) hX dX1_part_167 rfl (by decide) ⟨by omega, by omega⟩ (fun c166 => ?_) (fun c166 => ?_)
                · refine zt_aload_n (pc' := 189) hX dX1_part_188 rfl rfl ?_
                  refine zt_get (pc' := 192) (v := .ref (X.1.1 + 27)) hX dX1_part_189 rfl zf_X1_15 (by decide) zc_33 zs_20 (zrf_of (zv_20_0 hI zc_33)) ?_
                  refine zt_iconst (pc' := 193) hX dX1_part_192 rfl ?_
                  refine zt_aload_n (pc' := 194) hX dX1_part_193 rfl rfl ?_
                  refine zt_get (pc' := 197) (v := .ref (X.1.1 + 27)) hX dX1_part_194 rfl zf_X1_15 (by decide) zc_33 zs_20 (zrf_of (zv_20_0 hI zc_33)) ?_
                  refine zt_cVi (pc' := 200) hX dX1_part_197 rfl zm_yX5_placeHere zw_22_9 zc_27 (by decide) zs_14 (q := (RX5, TX5, 9)) rfl rfl (yc_X5_placeHere _ _ σ hI f hT) rfl rfl (Nat.le_of_ble_eq_true rfl) (by decide) (fun r167 s168 hr169 hp170 => ?_)
                  obtain ⟨rfl, q171, q172, z173⟩ := hp170
                  refine zt_cVv (pc' := 203) hX dX1_part_200 rfl zm_yX5_refuse zw_22_10 zc_27 (by decide) zs_14 (q := (RX5, TX5, 9)) rfl rfl (yc_X5_refuse _ _ σ hI 1 ⟨by omega, by omega⟩ r167 ⟨by omega, by omega⟩ (by omega) f hT) rfl rfl (Nat.le_of_ble_eq_true rfl) (by decide) (fun r174 s175 hr176 hp177 => ?_)
                  obtain ⟨hI178, hF179, hT180, z181⟩ := hp177
                  have hE182 : yst s175 = yPno 1 r167 (yst σ) := z181
                  have hF183 := zOn_tr hF hF179 zi_r12
                  have L184 : yle (yst σ) (yPno 1 r167 (yst σ)) := yle_tr L0 yle_no
                  have b185 := zv_20_2 hI178 zc_33
                  have e186 := hF179 33 2 rfl
                  exact zt_vret hX hR dX1_part_203 ⟨hI178, hF183, hT180, (by rw [hE182, yPno_f (p := r167) (d := 0) (fun o => by omega)]; exact yJ_bad (by omega) (by omega) (by omega) (by omega) (yVi_0 (by omega))), (by rw [hE182]; exact L184)⟩
                · refine zt_aload_n (pc' := 171) hX dX1_part_170 rfl rfl ?_
                  refine zt_get (pc' := 174) (v := .ref (X.1.1 + 27)) hX dX1_part_171 rfl zf_X1_15 (by decide) zc_33 zs_20 (zrf_of (zv_20_0 hI zc_33)) ?_
                  refine zt_cVv (pc' := 177) hX dX1_part_174 rfl zm_yX5_step zw_22_6 zc_27 (by decide) zs_14 (q := (RX5, TX5, 9)) rfl rfl (yc_X5_step _ _ σ hI f hT) rfl rfl (Nat.le_of_ble_eq_true rfl) (by decide) (fun r187 s188 hr189 hp190 => ?_)
                  obtain ⟨hI191, hF192, hT193, z194⟩ := hp190
                  have hE195 : yst s188 = yPx f (yst σ) := z194
                  have hF196 := zOn_tr hF hF192 zi_r12
                  have L197 : yle (yst σ) (yPx f (yst σ)) := yle_tr L0 (yle_x hT hE0)
                  have b198 := zv_20_2 hI191 zc_33
                  have e199 := hF192 33 2 rfl
                  refine zt_aload_n (pc' := 178) hX dX1_part_177 rfl rfl ?_
                  obtain ⟨k200, ek201, hk202⟩ := zv_20_1 hI191 zc_33
                  refine zt_get (pc' := 181) (v := .ref (X.1.1 + k200)) hX dX1_part_178 rfl zf_X1_19 (by decide) zc_33 zs_20 (zrf_of ek201) ?_
                  refine zt_iload_n (pc' := 182) hX dX1_part_181 rfl rfl ?_
                  refine zt_cVv (pc' := 185) hX dX1_part_182 rfl zm_yX4_addStep zw_22_7 hk202 (by decide) zs_6 (q := (RX4, TX4, 2)) rfl rfl (yc_X4_addStep _ _ s188 hI191 k200 hk202 r2 ⟨by omega, by omega⟩) rfl rfl (Nat.le_of_ble_eq_true rfl) (by decide) (fun r203 s204 hr205 hp206 => ?_)
                  obtain ⟨hI207, hF208⟩ := hp206
                  have hF209 := zOn_tr hF196 hF208 zi_rp2
                  have hT210 := yTk_rk hT193 (yRk_p hF208)
                  have hE211 : yst s204 = yPx f (yst σ) := (yst_rk (yRk_p hF208)).trans hE195
                  have b212 := zv_20_2 hI207 zc_33
                  have e213 := hF208 33 2 rfl
                  refine zt_goto (tgt := 203) hX dX1_part_185 (by decide) ?_
                  exact zt_vret hX hR dX1_part_203 ⟨hI207, hF209, hT210, (by rw [hE211]; exact yJ_val (yVi_1 (by omega))), (by rw [hE211]; exact L197)⟩
              · refine zt_aload_n (pc' := 136) hX dX1_part_135 rfl rfl ?_
                refine zt_iload_n (pc' := 137) hX dX1_part_136 rfl rfl ?_
                refine zt_cVz (pc' := 140) hX dX1_part_137 rfl zm_yX1_opens zw_22_11 zc_33 (by decide) zs_20 (q := (RX1, TX1, 3)) rfl rfl (yc_X1_opens_o4 _ _ σ hI f hT) rfl rfl (Nat.le_of_ble_eq_true rfl) (by decide) (fun r214 s215 hr216 hp217 => ?_)
                obtain ⟨hI218, hF219, q220, q221, hT222, z223⟩ := hp217
                have hE224 : yst s215 = yPx f (yst σ) := z223
                have hF225 := zOn_tr hF hF219 zi_r12
                have L226 : yle (yst σ) (yPx f (yst σ)) := yle_tr L0 (yle_x hT hE0)
                have b227 := zv_20_2 hI218 zc_33
                have e228 := hF219 33 2 rfl
                refine zt_ifeq (pc' := 143) (tgt := 203) hX dX1_part_140 rfl (by decide) ⟨by omega, by omega⟩ (fun c229 => ?_) (fun c229 => ?_)
                · exact absurd c229 (by omega)
                · refine zt_aload_n (pc' := 144) hX dX1_part_143 rfl rfl ?_
                  refine zt_iload_n (pc' := 145) hX dX1_part_144 rfl rfl ?_
                  refine zt_iconst (pc' := 146) hX dX1_part_145 rfl ?_
                  refine zt_iadd (pc' := 147) hX dX1_part_146 rfl ?_
                  rw [show (4 + 1 : Int) = 5 from rfl]
                  refine zt_cVv (pc' := 150) hX dX1_part_147 rfl zm_yX1_part zw_23_4 zc_33 (by decide) zs_20 (q := (RX1, TX1, 3)) rfl rfl (yc_X1_part_o5 _ _ s215 hI218 f hT222 rl (by omega) (4 :: k) (by show ydep k + 1 = _; omega)) rfl rfl (Nat.le_of_ble_eq_true rfl) (by decide) (fun r230 s231 hr232 hp233 => ?_)
                  obtain ⟨hI234, hF235, hT236, z237, z238⟩ := hp233
                  rw [hE224] at z237
                  rw [hE224] at z238
                  have hF239 := zOn_tr hF225 hF235 zi_id
                  obtain ⟨p240, hE241⟩ : ∃ p, yst s231 = p := ⟨_, rfl⟩
                  rw [hE241] at z237
                  rw [hE241] at z238
                  have L242 := yle_tr L226 z238
                  have b243 := zv_20_2 hI234 zc_33
                  have e244 := hF235 33 2 rfl
                  refine zt_aload_n (pc' := 151) hX dX1_part_150 rfl rfl ?_
                  obtain ⟨k245, ek246, hk247⟩ := zv_20_1 hI234 zc_33
                  refine zt_get (pc' := 154) (v := .ref (X.1.1 + k245)) hX dX1_part_151 rfl zf_X1_19 (by decide) zc_33 zs_20 (zrf_of ek246) ?_
                  refine zt_bipush (pc' := 156) hX dX1_part_154 rfl (by decide) (by decide) ?_
                  refine zt_cVv (pc' := 159) hX dX1_part_156 rfl zm_yX4_addStep zw_22_7 hk247 (by decide) zs_6 (q := (RX4, TX4, 2)) rfl rfl (yc_X4_addStep _ _ s231 hI234 k245 hk247 20 ⟨by omega, by omega⟩) rfl rfl (Nat.le_of_ble_eq_true rfl) (by decide) (fun r248 s249 hr250 hp251 => ?_)
                  obtain ⟨hI252, hF253⟩ := hp251
                  have hF254 := zOn_tr hF239 hF253 zi_rp2
                  have hT255 := yTk_rk hT236 (yRk_p hF253)
                  have hE256 : yst s249 = p240 := (yst_rk (yRk_p hF253)).trans hE241
                  have b257 := zv_20_2 hI252 zc_33
                  have e258 := hF253 33 2 rfl
                  refine zt_goto (tgt := 203) hX dX1_part_159 (by decide) ?_
                  exact zt_vret hX hR dX1_part_203 ⟨hI252, hF254, hT255, (by rw [hE256]; exact yJ_tr (yJ_far (by omega) (by omega) (by omega)) (yJ_tr z237 yJ_of)), (by rw [hE256]; exact L242)⟩
          · refine zt_aload_n (pc' := 99) hX dX1_part_98 rfl rfl ?_
            refine zt_get (pc' := 102) (v := .ref (X.1.1 + 27)) hX dX1_part_99 rfl zf_X1_15 (by decide) zc_33 zs_20 (zrf_of (zv_20_0 hI zc_33)) ?_
            refine zt_cVv (pc' := 105) hX dX1_part_102 rfl zm_yX5_step zw_22_6 zc_27 (by decide) zs_14 (q := (RX5, TX5, 9)) rfl rfl (yc_X5_step _ _ σ hI f hT) rfl rfl (Nat.le_of_ble_eq_true rfl) (by decide) (fun r259 s260 hr261 hp262 => ?_)
            obtain ⟨hI263, hF264, hT265, z266⟩ := hp262
            have hE267 : yst s260 = yPx f (yst σ) := z266
            have hF268 := zOn_tr hF hF264 zi_r12
            have L269 : yle (yst σ) (yPx f (yst σ)) := yle_tr L0 (yle_x hT hE0)
            have b270 := zv_20_2 hI263 zc_33
            have e271 := hF264 33 2 rfl
            refine zt_aload_n (pc' := 106) hX dX1_part_105 rfl rfl ?_
            refine zt_iload_n (pc' := 107) hX dX1_part_106 rfl rfl ?_
            refine zt_cVv (pc' := 110) hX dX1_part_107 rfl zm_yX1_pair zw_23_1 zc_33 (by decide) zs_20 (q := (RX1, TX1, 3)) rfl rfl (yc_X1_pair_o4 _ _ s260 hI263 f hT265 rl (by omega) k hk) rfl rfl (Nat.le_of_ble_eq_true rfl) (by decide) (fun r272 s273 hr274 hp275 => ?_)
            obtain ⟨hI276, hF277, hT278, z279, z280⟩ := hp275
            rw [hE267] at z279
            rw [hE267] at z280
            have hF281 := zOn_tr hF268 hF277 zi_id
            obtain ⟨p282, hE283⟩ : ∃ p, yst s273 = p := ⟨_, rfl⟩
            rw [hE283] at z279
            rw [hE283] at z280
            have L284 := yle_tr L269 z280
            have b285 := zv_20_2 hI276 zc_33
            have e286 := hF277 33 2 rfl
            refine zt_aload_n (pc' := 111) hX dX1_part_110 rfl rfl ?_
            obtain ⟨k287, ek288, hk289⟩ := zv_20_1 hI276 zc_33
            refine zt_get (pc' := 114) (v := .ref (X.1.1 + k287)) hX dX1_part_111 rfl zf_X1_19 (by decide) zc_33 zs_20 (zrf_of ek288) ?_
            refine zt_iload_n (pc' := 115) hX dX1_part_114 rfl rfl ?_
            refine zt_cVv (pc' := 118) hX dX1_part_115 rfl zm_yX4_addStep zw_22_7 hk289 (by decide) zs_6 (q := (RX4, TX4, 2)) rfl rfl (yc_X4_addStep _ _ s273 hI276 k287 hk289 r2 ⟨by omega, by omega⟩) rfl rfl (Nat.le_of_ble_eq_true rfl) (by decide) (fun r290 s291 hr292 hp293 => ?_)
            obtain ⟨hI294, hF295⟩ := hp293
            have hF296 := zOn_tr hF281 hF295 zi_rp2
            have hT297 := yTk_rk hT278 (yRk_p hF295)
            have hE298 : yst s291 = p282 := (yst_rk (yRk_p hF295)).trans hE283
            have b299 := zv_20_2 hI294 zc_33
            have e300 := hF295 33 2 rfl
            refine zt_goto (tgt := 203) hX dX1_part_118 (by decide) ?_
            exact zt_vret hX hR dX1_part_203 ⟨hI294, hF296, hT297, (by rw [hE298]; exact yJ_tr (yJ_mm (by omega)) z279), (by rw [hE298]; exact L284)⟩
      · refine zt_aload_n (pc' := 60) hX dX1_part_59 rfl rfl ?_
        refine zt_iload_n (pc' := 61) hX dX1_part_60 rfl rfl ?_
        refine zt_cVz (pc' := 64) hX dX1_part_61 rfl zm_yX1_opens zw_22_11 zc_33 (by decide) zs_20 (q := (RX1, TX1, 3)) rfl rfl (yc_X1_opens_o4 _ _ σ hI f hT) rfl rfl (Nat.le_of_ble_eq_true rfl) (by decide) (fun r301 s302 hr303 hp304 => ?_)
        obtain ⟨hI305, hF306, q307, q308, hT309, z310⟩ := hp304
        have hE311 : yst s302 = yPx f (yst σ) := z310
        have hF312 := zOn_tr hF hF306 zi_r12
        have L313 : yle (yst σ) (yPx f (yst σ)) := yle_tr L0 (yle_x hT hE0)
        have b314 := zv_20_2 hI305 zc_33
        have e315 := hF306 33 2 rfl
        refine zt_ifeq (pc' := 67) (tgt := 203) hX dX1_part_64 rfl (by decide) ⟨by omega, by omega⟩ (fun c316 => ?_) (fun c316 => ?_)
        · exact absurd c316 (by omega)
        · refine zt_aload_n (pc' := 68) hX dX1_part_67 rfl rfl ?_
          refine zt_iload_n (pc' := 69) hX dX1_part_68 rfl rfl ?_
          refine zt_iconst (pc' := 70) hX dX1_part_69 rfl ?_
          refine zt_iadd (pc' := 71) hX dX1_part_70 rfl ?_
          rw [show (4 + 1 : Int) = 5 from rfl]
          refine zt_cVv (pc' := 74) hX dX1_part_71 rfl zm_yX1_sum zw_21_19 zc_33 (by decide) zs_20 (q := (RX1, TX1, 3)) rfl rfl (yc_X1_sum_o5 _ _ s302 hI305 f hT309 rl (by omega) (1 :: k) (by show ydep k + 1 = _; omega) (Nat.ne_of_beq_eq_false rfl)) rfl rfl (Nat.le_of_ble_eq_true rfl) (by decide) (fun r317 s318 hr319 hp320 => ?_)
          obtain ⟨hI321, hF322, hT323, z324, z325, z326⟩ := hp320
          rw [hE311] at z324
          rw [hE311] at z325
          have hF327 := zOn_tr hF312 hF322 zi_id
          obtain ⟨p328, hE329⟩ : ∃ p, yst s318 = p := ⟨_, rfl⟩
          rw [hE329] at z324
          rw [hE329] at z325
          have L330 := yle_tr L313 z325
          rw [hE329] at z326
          have b331 := zv_20_2 hI321 zc_33
          have e332 := hF322 33 2 rfl
          refine zt_aload_n (pc' := 75) hX dX1_part_74 rfl rfl ?_
          refine zt_get (pc' := 78) (v := .ref (X.1.1 + 27)) hX dX1_part_75 rfl zf_X1_15 (by decide) zc_33 zs_20 (zrf_of (zv_20_0 hI321 zc_33)) ?_
          refine zt_bipush (pc' := 80) hX dX1_part_78 rfl (by decide) (by decide) ?_
          refine zt_cVv (pc' := 83) hX dX1_part_80 rfl zm_yX5_takeSign zw_22_15 zc_27 (by decide) zs_14 (q := (RX5, TX5, 9)) rfl rfl (yc_X5_takeSign _ _ s318 hI321 41 ⟨by omega, by omega⟩ f hT323) rfl rfl (Nat.le_of_ble_eq_true rfl) (by decide) (fun r333 s334 hr335 hp336 => ?_)
          obtain ⟨hI337, hF338, hT339, z340⟩ := hp336
          have hE341 : yst s334 = yPs f 41 p328 := by rw [z340, hE329]
          have hF342 := zOn_tr hF327 hF338 zi_r12
          have L343 : yle (yst σ) (yPs f 41 p328) := yle_tr L330 (yle_s hT323 hE329)
          have b344 := zv_20_2 hI337 zc_33
          have e345 := hF338 33 2 rfl
          refine zt_goto (tgt := 203) hX dX1_part_83 (by decide) ?_
          exact zt_vret hX hR dX1_part_203 ⟨hI337, hF342, hT339, (by rw [hE341]; exact yJ_tr (yJ_op1 (by omega) (by omega)) (yJ_tr z324 (yJ_cl (Or.inl rfl) z326))), (by rw [hE341]; exact L343)⟩
    · refine zt_aload_n (pc' := 27) hX dX1_part_26 rfl rfl ?_
      obtain ⟨k346, ek347, hk348⟩ := zv_20_1 hI zc_33
      refine zt_get (pc' := 30) (v := .ref (X.1.1 + k346)) hX dX1_part_27 rfl zf_X1_19 (by decide) zc_33 zs_20 (zrf_of ek347) ?_
      refine zt_aload_n (pc' := 31) hX dX1_part_30 rfl rfl ?_
      refine zt_get (pc' := 34) (v := .ref (X.1.1 + 27)) hX dX1_part_31 rfl zf_X1_15 (by decide) zc_33 zs_20 (zrf_of (zv_20_0 hI zc_33)) ?_
      refine zt_iconst (pc' := 35) hX dX1_part_34 rfl ?_
      refine zt_sipush (pc' := 38) hX dX1_part_35 rfl (by decide) (by decide) ?_
      refine zt_cVi (pc' := 41) hX dX1_part_38 rfl zm_yX5_takeNumber zw_22_23 zc_27 (by decide) zs_14 (q := (RX5, TX5, 9)) rfl rfl (yc_X5_takeNumber _ _ σ hI 0 ⟨by omega, by omega⟩ 9999 ⟨by omega, by omega⟩ f hT) rfl rfl (Nat.le_of_ble_eq_true rfl) (by decide) (fun r349 s350 hr351 hp352 => ?_)
      obtain ⟨hI353, hF354, q355, q356, hT357, z358, z359, z360⟩ := hp352
      have hE361 : yst s350 = yPn f 0 9999 (yst σ) := z358
      have hF362 := zOn_tr hF hF354 zi_r12
      rw [hE361] at z359
      have L363 : yle (yst σ) (yPn f 0 9999 (yst σ)) := yle_tr L0 (yle_n hT hE0)
      have b364 := zv_20_2 hI353 zc_33
      have e365 := hF354 33 2 rfl
      refine zt_cVv (pc' := 44) hX dX1_part_41 rfl zm_yX4_addNumber zw_23_0 hk348 (by decide) zs_6 (q := (RX4, TX4, 2)) rfl rfl (yc_X4_addNumber _ _ s350 hI353 k346 hk348 r349 ⟨by omega, by omega⟩) rfl rfl (Nat.le_of_ble_eq_true rfl) (by decide) (fun r366 s367 hr368 hp369 => ?_)
      obtain ⟨hI370, hF371⟩ := hp369
      have hF372 := zOn_tr hF362 hF371 zi_rp2
      have hT373 := yTk_rk hT357 (yRk_p hF371)
      have hE374 : yst s367 = yPn f 0 9999 (yst σ) := (yst_rk (yRk_p hF371)).trans hE361
      have b375 := zv_20_2 hI370 zc_33
      have e376 := hF371 33 2 rfl
      refine zt_goto (tgt := 203) hX dX1_part_44 (by decide) ?_
      exact zt_vret hX hR dX1_part_203 ⟨hI370, hF372, hT373, (by rw [hE374]; exact yJ_num (by omega)), (by rw [hE374]; exact L363)⟩
set_option maxRecDepth 100000 in
set_option maxHeartbeats 4000000 in
theorem yc_X1_product_o4 (l : Launch) (E : zEN) (σ : zSto) (hI : zInv σ) (f : Int → Int) (hT : yTk f σ) (rl : Int) (hrl : σ 33 2 = rl) (k : List Nat) (hk : ydep k = 4) (ht : ytop k ≠ 4) : zCt l E yX1_product cX1_product 4 none 12 zNC zNC 0 0 σ [.ref (E.1 + 33), .int (zI 4)] (fun r σ' => zInv σ' ∧ zOn zR2 σ σ' ∧ yTk f σ' ∧ (yJ rl f (1, k, (yst σ)) (2, k, (yst σ'))) ∧ (yle (yst σ) (yst σ')) ∧ (yPg f (yst σ') ≠ 42 ∧ yPg f (yst σ') ≠ 47)) := by
  refine zCt_of2 [some (.ref (E.1 + 33)), some (.int (zI 4)), none, none] (by decide +kernel) (Nat.le_of_ble_eq_true rfl) rfl ?_
  intro X hE_ hX hR hL hN
  subst hE_
  have hX : zok X cX1_product RX1 12 := hX
  have hF := zOn_rf zR2 σ
  have hE0 : yst σ = yst σ := rfl
  have L0 := yle_rf (yst σ)
  have b1 := zv_20_2 hI zc_33
  refine zt_aload_n (pc' := 1) hX dX1_product_0 rfl rfl ?_
  refine zt_iload_n (pc' := 2) hX dX1_product_1 rfl rfl ?_
  refine zt_cVv (pc' := 5) hX dX1_product_2 rfl zm_yX1_part zw_23_4 zc_33 (by decide) zs_20 (q := (RX1, TX1, 3)) rfl rfl (yc_X1_part_o4 _ _ σ hI f hT rl (by omega) k hk) rfl rfl (Nat.le_of_ble_eq_true rfl) (by decide) (fun r2 s3 hr4 hp5 => ?_)
  obtain ⟨hI6, hF7, hT8, z9, z10⟩ := hp5
  have hF11 := zOn_tr hF hF7 zi_id
  obtain ⟨p12, hE13⟩ : ∃ p, yst s3 = p := ⟨_, rfl⟩
  rw [hE13] at z9
  rw [hE13] at z10
  have L14 := yle_tr L0 z10
  have b15 := zv_20_2 hI6 zc_33
  have e16 := hF7 33 2 rfl
  have g17 := z9
  refine zt_iconst (pc' := 6) hX dX1_product_5 rfl ?_
  refine zt_istore_n (pc' := 7) (lv' := [some (.ref (X.1.1 + 33)), some (.int (zI 4)), some (.int (zI 0)), none]) hX dX1_product_6 rfl hL (by decide) rfl ?_
  have L_7_30 : ∀ (N : Nat) (x18 : Int) (s21 : zSto) (p24 : yP), 0 ≤ x18 → x18 ≤ 1600 → zInv s21 → zOn zR2 σ s21 → yTk f s21 → yst s21 = p24 → s21 33 2 = σ 33 2 → yJ rl f (1, k, yst σ) (2, k, p24) → yle (yst σ) p24 → yge x18 p24 → ((1601 - x18).toNat) < N → zF X s21 7 [some (.ref (X.1.1 + 33)), some (.int (zI 4)), some (.int (zI x18)), none] [] := by
    intro N
    induction N with
    | zero =>
      intro x18 s21 p24 h19 h20 hI22 hF23 hT25 hE26 g27 g28 g29 g30 hm32
      exact absurd hm32 (Nat.not_lt_zero _)
    | succ N ih33 =>
      intro x18 s21 p24 h19 h20 hI22 hF23 hT25 hE26 g27 g28 g29 g30 hm32
      have b34 := zv_20_2 hI22 zc_33
      have hx := yge_x hT25 hE26 g30
      refine zt_iload_n (pc' := 8) hX dX1_product_7 rfl rfl ?_
      refine zt_sipush (pc' := 11) hX dX1_product_8 rfl (by decide) (by decide) ?_
      refine zt_icge (pc' := 14) (tgt := 72) hX dX1_product_11 rfl (by decide) ⟨by omega, by omega⟩ ⟨by omega, by omega⟩ (fun c35 => ?_) (fun c35 => ?_)
      · exact zt_vret hX hR dX1_product_72 ⟨hI22, hF23, hT25, (by rw [hE26]; exact g28), (by rw [hE26]; exact g29), (by rw [hE26]; omega)⟩
      · refine zt_aload_n (pc' := 15) hX dX1_product_14 rfl rfl ?_
        refine zt_get (pc' := 18) (v := .ref (X.1.1 + 27)) hX dX1_product_15 rfl zf_X1_15 (by decide) zc_33 zs_20 (zrf_of (zv_20_0 hI22 zc_33)) ?_
        refine zt_cVi (pc' := 21) hX dX1_product_18 rfl zm_yX5_signHere zw_22_2 zc_27 (by decide) zs_14 (q := (RX5, TX5, 9)) rfl rfl (yc_X5_signHere _ _ s21 hI22 f hT25) rfl rfl (Nat.le_of_ble_eq_true rfl) (by decide) (fun r36 s37 hr38 hp39 => ?_)
        obtain ⟨rfl, q40, q41, z42⟩ := hp39
        rw [hE26] at z42
        refine zt_bipush (pc' := 23) hX dX1_product_21 rfl (by decide) (by decide) ?_
        refine zt_iceq (pc' := 26) (tgt := 38) hX dX1_product_23 rfl (by decide) ⟨by omega, by omega⟩ ⟨by omega, by omega⟩ (fun c43 => ?_) (fun c43 => ?_)
        · refine zt_aload_n (pc' := 39) hX dX1_product_38 rfl rfl ?_
          refine zt_get (pc' := 42) (v := .ref (X.1.1 + 27)) hX dX1_product_39 rfl zf_X1_15 (by decide) zc_33 zs_20 (zrf_of (zv_20_0 hI22 zc_33)) ?_
          refine zt_cVi (pc' := 45) hX dX1_product_42 rfl zm_yX5_signHere zw_22_2 zc_27 (by decide) zs_14 (q := (RX5, TX5, 9)) rfl rfl (yc_X5_signHere _ _ s21 hI22 f hT25) rfl rfl (Nat.le_of_ble_eq_true rfl) (by decide) (fun r44 s45 hr46 hp47 => ?_)
          obtain ⟨rfl, q48, q49, z50⟩ := hp47
          rw [hE26] at z50
          refine zt_istore_n (pc' := 46) (lv' := [some (.ref (X.1.1 + 33)), some (.int (zI 4)), some (.int (zI x18)), some (.int (zI r44))]) hX dX1_product_45 rfl hL (by decide) rfl ?_
          refine zt_aload_n (pc' := 47) hX dX1_product_46 rfl rfl ?_
          refine zt_get (pc' := 50) (v := .ref (X.1.1 + 27)) hX dX1_product_47 rfl zf_X1_15 (by decide) zc_33 zs_20 (zrf_of (zv_20_0 hI22 zc_33)) ?_
          refine zt_cVv (pc' := 53) hX dX1_product_50 rfl zm_yX5_step zw_22_6 zc_27 (by decide) zs_14 (q := (RX5, TX5, 9)) rfl rfl (yc_X5_step _ _ s21 hI22 f hT25) rfl rfl (Nat.le_of_ble_eq_true rfl) (by decide) (fun r51 s52 hr53 hp54 => ?_)
          obtain ⟨hI55, hF56, hT57, z58⟩ := hp54
          have hE59 : yst s52 = yPx f p24 := by rw [z58, hE26]
          have hF60 := zOn_tr hF23 hF56 zi_r12
          have L61 : yle (yst σ) (yPx f p24) := yle_tr g29 (yle_x hT25 hE26)
          have b62 := zv_20_2 hI55 zc_33
          have e63 := hF56 33 2 rfl
          have g64 := yJ_tr g28 (yJ_o ht (by omega))
          have I65 := yge_1 hT25 hE26 g30 (by omega)
          refine zt_aload_n (pc' := 54) hX dX1_product_53 rfl rfl ?_
          refine zt_iload_n (pc' := 55) hX dX1_product_54 rfl rfl ?_
          refine zt_cVv (pc' := 58) hX dX1_product_55 rfl zm_yX1_part zw_23_4 zc_33 (by decide) zs_20 (q := (RX1, TX1, 3)) rfl rfl (yc_X1_part_o4 _ _ s52 hI55 f hT57 rl (by omega) k hk) rfl rfl (Nat.le_of_ble_eq_true rfl) (by decide) (fun r66 s67 hr68 hp69 => ?_)
          obtain ⟨hI70, hF71, hT72, z73, z74⟩ := hp69
          rw [hE59] at z73
          rw [hE59] at z74
          have hF75 := zOn_tr hF60 hF71 zi_id
          obtain ⟨p76, hE77⟩ : ∃ p, yst s67 = p := ⟨_, rfl⟩
          rw [hE77] at z73
          rw [hE77] at z74
          have L78 := yle_tr L61 z74
          have b79 := zv_20_2 hI70 zc_33
          have e80 := hF71 33 2 rfl
          have g81 := yJ_tr g64 z73
          have I82 := yge_l I65 z74
          refine zt_aload_n (pc' := 59) hX dX1_product_58 rfl rfl ?_
          obtain ⟨k83, ek84, hk85⟩ := zv_20_1 hI70 zc_33
          refine zt_get (pc' := 62) (v := .ref (X.1.1 + k83)) hX dX1_product_59 rfl zf_X1_19 (by decide) zc_33 zs_20 (zrf_of ek84) ?_
          refine zt_iload_n (pc' := 63) hX dX1_product_62 rfl rfl ?_
          refine zt_cVv (pc' := 66) hX dX1_product_63 rfl zm_yX4_addStep zw_22_7 hk85 (by decide) zs_6 (q := (RX4, TX4, 2)) rfl rfl (yc_X4_addStep _ _ s67 hI70 k83 hk85 r44 ⟨by omega, by omega⟩) rfl rfl (Nat.le_of_ble_eq_true rfl) (by decide) (fun r86 s87 hr88 hp89 => ?_)
          obtain ⟨hI90, hF91⟩ := hp89
          have hF92 := zOn_tr hF75 hF91 zi_rp2
          have hT93 := yTk_rk hT72 (yRk_p hF91)
          have hE94 : yst s87 = p76 := (yst_rk (yRk_p hF91)).trans hE77
          have b95 := zv_20_2 hI90 zc_33
          have e96 := hF91 33 2 rfl
          refine zt_iinc (pc' := 69) (lv' := [some (.ref (X.1.1 + 33)), some (.int (zI 4)), some (.int (zI (x18 + 1))), some (.int (zI r44))]) hX dX1_product_66 rfl rfl hL (by decide) rfl ?_
          refine zt_goto (tgt := 7) hX dX1_product_69 (by decide) ?_
          refine zt_mask [true, true, true, false] rfl ?_
          exact ih33 (x18 + 1) s87 p76 (by omega) (by omega) hI90 hF92 hT93 hE94 (by omega) g81 L78 I82 (by omega)
        · refine zt_aload_n (pc' := 27) hX dX1_product_26 rfl rfl ?_
          refine zt_get (pc' := 30) (v := .ref (X.1.1 + 27)) hX dX1_product_27 rfl zf_X1_15 (by decide) zc_33 zs_20 (zrf_of (zv_20_0 hI22 zc_33)) ?_
          refine zt_cVi (pc' := 33) hX dX1_product_30 rfl zm_yX5_signHere zw_22_2 zc_27 (by decide) zs_14 (q := (RX5, TX5, 9)) rfl rfl (yc_X5_signHere _ _ s21 hI22 f hT25) rfl rfl (Nat.le_of_ble_eq_true rfl) (by decide) (fun r97 s98 hr99 hp100 => ?_)
          obtain ⟨rfl, q101, q102, z103⟩ := hp100
          rw [hE26] at z103
          refine zt_bipush (pc' := 35) hX dX1_product_33 rfl (by decide) (by decide) ?_
          refine zt_icne (pc' := 38) (tgt := 72) hX dX1_product_35 rfl (by decide) ⟨by omega, by omega⟩ ⟨by omega, by omega⟩ (fun c104 => ?_) (fun c104 => ?_)
          · exact zt_vret hX hR dX1_product_72 ⟨hI22, hF23, hT25, (by rw [hE26]; exact g28), (by rw [hE26]; exact g29), (by rw [hE26]; omega)⟩
          · refine zt_aload_n (pc' := 39) hX dX1_product_38 rfl rfl ?_
            refine zt_get (pc' := 42) (v := .ref (X.1.1 + 27)) hX dX1_product_39 rfl zf_X1_15 (by decide) zc_33 zs_20 (zrf_of (zv_20_0 hI22 zc_33)) ?_
            refine zt_cVi (pc' := 45) hX dX1_product_42 rfl zm_yX5_signHere zw_22_2 zc_27 (by decide) zs_14 (q := (RX5, TX5, 9)) rfl rfl (yc_X5_signHere _ _ s21 hI22 f hT25) rfl rfl (Nat.le_of_ble_eq_true rfl) (by decide) (fun r105 s106 hr107 hp108 => ?_)
            obtain ⟨rfl, q109, q110, z111⟩ := hp108
            rw [hE26] at z111
            refine zt_istore_n (pc' := 46) (lv' := [some (.ref (X.1.1 + 33)), some (.int (zI 4)), some (.int (zI x18)), some (.int (zI r105))]) hX dX1_product_45 rfl hL (by decide) rfl ?_
            refine zt_aload_n (pc' := 47) hX dX1_product_46 rfl rfl ?_
            refine zt_get (pc' := 50) (v := .ref (X.1.1 + 27)) hX dX1_product_47 rfl zf_X1_15 (by decide) zc_33 zs_20 (zrf_of (zv_20_0 hI22 zc_33)) ?_
            refine zt_cVv (pc' := 53) hX dX1_product_50 rfl zm_yX5_step zw_22_6 zc_27 (by decide) zs_14 (q := (RX5, TX5, 9)) rfl rfl (yc_X5_step _ _ s21 hI22 f hT25) rfl rfl (Nat.le_of_ble_eq_true rfl) (by decide) (fun r112 s113 hr114 hp115 => ?_)
            obtain ⟨hI116, hF117, hT118, z119⟩ := hp115
            have hE120 : yst s113 = yPx f p24 := by rw [z119, hE26]
            have hF121 := zOn_tr hF23 hF117 zi_r12
            have L122 : yle (yst σ) (yPx f p24) := yle_tr g29 (yle_x hT25 hE26)
            have b123 := zv_20_2 hI116 zc_33
            have e124 := hF117 33 2 rfl
            have g125 := yJ_tr g28 (yJ_o ht (by omega))
            have I126 := yge_1 hT25 hE26 g30 (by omega)
            refine zt_aload_n (pc' := 54) hX dX1_product_53 rfl rfl ?_
            refine zt_iload_n (pc' := 55) hX dX1_product_54 rfl rfl ?_
            refine zt_cVv (pc' := 58) hX dX1_product_55 rfl zm_yX1_part zw_23_4 zc_33 (by decide) zs_20 (q := (RX1, TX1, 3)) rfl rfl (yc_X1_part_o4 _ _ s113 hI116 f hT118 rl (by omega) k hk) rfl rfl (Nat.le_of_ble_eq_true rfl) (by decide) (fun r127 s128 hr129 hp130 => ?_)
            obtain ⟨hI131, hF132, hT133, z134, z135⟩ := hp130
            rw [hE120] at z134
            rw [hE120] at z135
            have hF136 := zOn_tr hF121 hF132 zi_id
            obtain ⟨p137, hE138⟩ : ∃ p, yst s128 = p := ⟨_, rfl⟩
            rw [hE138] at z134
            rw [hE138] at z135
            have L139 := yle_tr L122 z135
            have b140 := zv_20_2 hI131 zc_33
            have e141 := hF132 33 2 rfl
            have g142 := yJ_tr g125 z134
            have I143 := yge_l I126 z135
            refine zt_aload_n (pc' := 59) hX dX1_product_58 rfl rfl ?_
            obtain ⟨k144, ek145, hk146⟩ := zv_20_1 hI131 zc_33
            refine zt_get (pc' := 62) (v := .ref (X.1.1 + k144)) hX dX1_product_59 rfl zf_X1_19 (by decide) zc_33 zs_20 (zrf_of ek145) ?_
            refine zt_iload_n (pc' := 63) hX dX1_product_62 rfl rfl ?_
            refine zt_cVv (pc' := 66) hX dX1_product_63 rfl zm_yX4_addStep zw_22_7 hk146 (by decide) zs_6 (q := (RX4, TX4, 2)) rfl rfl (yc_X4_addStep _ _ s128 hI131 k144 hk146 r105 ⟨by omega, by omega⟩) rfl rfl (Nat.le_of_ble_eq_true rfl) (by decide) (fun r147 s148 hr149 hp150 => ?_)
            obtain ⟨hI151, hF152⟩ := hp150
            have hF153 := zOn_tr hF136 hF152 zi_rp2
            have hT154 := yTk_rk hT133 (yRk_p hF152)
            have hE155 : yst s148 = p137 := (yst_rk (yRk_p hF152)).trans hE138
            have b156 := zv_20_2 hI151 zc_33
            have e157 := hF152 33 2 rfl
            refine zt_iinc (pc' := 69) (lv' := [some (.ref (X.1.1 + 33)), some (.int (zI 4)), some (.int (zI (x18 + 1))), some (.int (zI r105))]) hX dX1_product_66 rfl rfl hL (by decide) rfl ?_
            refine zt_goto (tgt := 7) hX dX1_product_69 (by decide) ?_
            refine zt_mask [true, true, true, false] rfl ?_
            exact ih33 (x18 + 1) s148 p137 (by omega) (by omega) hI151 hF153 hT154 hE155 (by omega) g142 L139 I143 (by omega)
  exact L_7_30 _ 0 s3 p12 (by omega) (by omega) hI6 hF11 hT8 hE13 (by omega) g17 L14 (yge_0 hT8 hE13) (Nat.lt_succ_self _)
set_option maxRecDepth 100000 in
set_option maxHeartbeats 4000000 in
theorem yc_X1_sum_o4 (l : Launch) (E : zEN) (σ : zSto) (hI : zInv σ) (f : Int → Int) (hT : yTk f σ) (rl : Int) (hrl : σ 33 2 = rl) (k : List Nat) (hk : ydep k = 4) (ht : ytop k ≠ 4) : zCt l E yX1_sum cX1_sum 4 none 13 zNC zNC 0 0 σ [.ref (E.1 + 33), .int (zI 4)] (fun r σ' => zInv σ' ∧ zOn zR2 σ σ' ∧ yTk f σ' ∧ (yJ rl f (1, k, (yst σ)) (2, k, (yst σ'))) ∧ (yle (yst σ) (yst σ')) ∧ (yPg f (yst σ') ≠ 42 ∧ yPg f (yst σ') ≠ 47 ∧ yPg f (yst σ') ≠ 43 ∧ yPg f (yst σ') ≠ 45)) := by
  refine zCt_of2 [some (.ref (E.1 + 33)), some (.int (zI 4)), none, none] (by decide +kernel) (Nat.le_of_ble_eq_true rfl) rfl ?_
  intro X hE_ hX hR hL hN
  subst hE_
  have hX : zok X cX1_sum RX1 13 := hX
  have hF := zOn_rf zR2 σ
  have hE0 : yst σ = yst σ := rfl
  have L0 := yle_rf (yst σ)
  have b1 := zv_20_2 hI zc_33
  refine zt_aload_n (pc' := 1) hX dX1_sum_0 rfl rfl ?_
  refine zt_iload_n (pc' := 2) hX dX1_sum_1 rfl rfl ?_
  refine zt_cVv (pc' := 5) hX dX1_sum_2 rfl zm_yX1_product zw_21_23 zc_33 (by decide) zs_20 (q := (RX1, TX1, 3)) rfl rfl (yc_X1_product_o4 _ _ σ hI f hT rl (by omega) k hk ht) rfl rfl (Nat.le_of_ble_eq_true rfl) (by decide) (fun r2 s3 hr4 hp5 => ?_)
  obtain ⟨hI6, hF7, hT8, z9, z10, z11⟩ := hp5
  have hF12 := zOn_tr hF hF7 zi_id
  obtain ⟨p13, hE14⟩ : ∃ p, yst s3 = p := ⟨_, rfl⟩
  rw [hE14] at z9
  rw [hE14] at z10
  have L15 := yle_tr L0 z10
  rw [hE14] at z11
  have b16 := zv_20_2 hI6 zc_33
  have e17 := hF7 33 2 rfl
  have g18 := z9
  refine zt_iconst (pc' := 6) hX dX1_sum_5 rfl ?_
  refine zt_istore_n (pc' := 7) (lv' := [some (.ref (X.1.1 + 33)), some (.int (zI 4)), some (.int (zI 0)), none]) hX dX1_sum_6 rfl hL (by decide) rfl ?_
  have L_7_32 : ∀ (N : Nat) (x19 : Int) (s22 : zSto) (p25 : yP), 0 ≤ x19 → x19 ≤ 1600 → zInv s22 → zOn zR2 σ s22 → yTk f s22 → yst s22 = p25 → (yPg f p25 ≠ 42 ∧ yPg f p25 ≠ 47) → s22 33 2 = σ 33 2 → yJ rl f (1, k, yst σ) (2, k, p25) → yle (yst σ) p25 → yge x19 p25 → ((1601 - x19).toNat) < N → zF X s22 7 [some (.ref (X.1.1 + 33)), some (.int (zI 4)), some (.int (zI x19)), none] [] := by
    intro N
    induction N with
    | zero =>
      intro x19 s22 p25 h20 h21 hI23 hF24 hT26 hE27 g28 g29 g30 g31 g32 hm34
      exact absurd hm34 (Nat.not_lt_zero _)
    | succ N ih35 =>
      intro x19 s22 p25 h20 h21 hI23 hF24 hT26 hE27 g28 g29 g30 g31 g32 hm34
      have b36 := zv_20_2 hI23 zc_33
      have hx := yge_x hT26 hE27 g32
      refine zt_iload_n (pc' := 8) hX dX1_sum_7 rfl rfl ?_
      refine zt_sipush (pc' := 11) hX dX1_sum_8 rfl (by decide) (by decide) ?_
      refine zt_icge (pc' := 14) (tgt := 72) hX dX1_sum_11 rfl (by decide) ⟨by omega, by omega⟩ ⟨by omega, by omega⟩ (fun c37 => ?_) (fun c37 => ?_)
      · exact zt_vret hX hR dX1_sum_72 ⟨hI23, hF24, hT26, (by rw [hE27]; exact g30), (by rw [hE27]; exact g31), (by rw [hE27]; omega)⟩
      · refine zt_aload_n (pc' := 15) hX dX1_sum_14 rfl rfl ?_
        refine zt_get (pc' := 18) (v := .ref (X.1.1 + 27)) hX dX1_sum_15 rfl zf_X1_15 (by decide) zc_33 zs_20 (zrf_of (zv_20_0 hI23 zc_33)) ?_
        refine zt_cVi (pc' := 21) hX dX1_sum_18 rfl zm_yX5_signHere zw_22_2 zc_27 (by decide) zs_14 (q := (RX5, TX5, 9)) rfl rfl (yc_X5_signHere _ _ s22 hI23 f hT26) rfl rfl (Nat.le_of_ble_eq_true rfl) (by decide) (fun r38 s39 hr40 hp41 => ?_)
        obtain ⟨rfl, q42, q43, z44⟩ := hp41
        rw [hE27] at z44
        refine zt_bipush (pc' := 23) hX dX1_sum_21 rfl (by decide) (by decide) ?_
        refine zt_iceq (pc' := 26) (tgt := 38) hX dX1_sum_23 rfl (by decide) ⟨by omega, by omega⟩ ⟨by omega, by omega⟩ (fun c45 => ?_) (fun c45 => ?_)
        · refine zt_aload_n (pc' := 39) hX dX1_sum_38 rfl rfl ?_
          refine zt_get (pc' := 42) (v := .ref (X.1.1 + 27)) hX dX1_sum_39 rfl zf_X1_15 (by decide) zc_33 zs_20 (zrf_of (zv_20_0 hI23 zc_33)) ?_
          refine zt_cVi (pc' := 45) hX dX1_sum_42 rfl zm_yX5_signHere zw_22_2 zc_27 (by decide) zs_14 (q := (RX5, TX5, 9)) rfl rfl (yc_X5_signHere _ _ s22 hI23 f hT26) rfl rfl (Nat.le_of_ble_eq_true rfl) (by decide) (fun r46 s47 hr48 hp49 => ?_)
          obtain ⟨rfl, q50, q51, z52⟩ := hp49
          rw [hE27] at z52
          refine zt_istore_n (pc' := 46) (lv' := [some (.ref (X.1.1 + 33)), some (.int (zI 4)), some (.int (zI x19)), some (.int (zI r46))]) hX dX1_sum_45 rfl hL (by decide) rfl ?_
          refine zt_aload_n (pc' := 47) hX dX1_sum_46 rfl rfl ?_
          refine zt_get (pc' := 50) (v := .ref (X.1.1 + 27)) hX dX1_sum_47 rfl zf_X1_15 (by decide) zc_33 zs_20 (zrf_of (zv_20_0 hI23 zc_33)) ?_
          refine zt_cVv (pc' := 53) hX dX1_sum_50 rfl zm_yX5_step zw_22_6 zc_27 (by decide) zs_14 (q := (RX5, TX5, 9)) rfl rfl (yc_X5_step _ _ s22 hI23 f hT26) rfl rfl (Nat.le_of_ble_eq_true rfl) (by decide) (fun r53 s54 hr55 hp56 => ?_)
          obtain ⟨hI57, hF58, hT59, z60⟩ := hp56
          have hE61 : yst s54 = yPx f p25 := by rw [z60, hE27]
          have hF62 := zOn_tr hF24 hF58 zi_r12
          have L63 : yle (yst σ) (yPx f p25) := yle_tr g31 (yle_x hT26 hE27)
          have b64 := zv_20_2 hI57 zc_33
          have e65 := hF58 33 2 rfl
          have g66 := yJ_tr g30 (yJ_o ht (by omega))
          have I67 := yge_1 hT26 hE27 g32 (by omega)
          refine zt_aload_n (pc' := 54) hX dX1_sum_53 rfl rfl ?_
          refine zt_iload_n (pc' := 55) hX dX1_sum_54 rfl rfl ?_
          refine zt_cVv (pc' := 58) hX dX1_sum_55 rfl zm_yX1_product zw_21_23 zc_33 (by decide) zs_20 (q := (RX1, TX1, 3)) rfl rfl (yc_X1_product_o4 _ _ s54 hI57 f hT59 rl (by omega) k hk ht) rfl rfl (Nat.le_of_ble_eq_true rfl) (by decide) (fun r68 s69 hr70 hp71 => ?_)
          obtain ⟨hI72, hF73, hT74, z75, z76, z77⟩ := hp71
          rw [hE61] at z75
          rw [hE61] at z76
          have hF78 := zOn_tr hF62 hF73 zi_id
          obtain ⟨p79, hE80⟩ : ∃ p, yst s69 = p := ⟨_, rfl⟩
          rw [hE80] at z75
          rw [hE80] at z76
          have L81 := yle_tr L63 z76
          rw [hE80] at z77
          have b82 := zv_20_2 hI72 zc_33
          have e83 := hF73 33 2 rfl
          have g84 := yJ_tr g66 z75
          have I85 := yge_l I67 z76
          refine zt_aload_n (pc' := 59) hX dX1_sum_58 rfl rfl ?_
          obtain ⟨k86, ek87, hk88⟩ := zv_20_1 hI72 zc_33
          refine zt_get (pc' := 62) (v := .ref (X.1.1 + k86)) hX dX1_sum_59 rfl zf_X1_19 (by decide) zc_33 zs_20 (zrf_of ek87) ?_
          refine zt_iload_n (pc' := 63) hX dX1_sum_62 rfl rfl ?_
          refine zt_cVv (pc' := 66) hX dX1_sum_63 rfl zm_yX4_addStep zw_22_7 hk88 (by decide) zs_6 (q := (RX4, TX4, 2)) rfl rfl (yc_X4_addStep _ _ s69 hI72 k86 hk88 r46 ⟨by omega, by omega⟩) rfl rfl (Nat.le_of_ble_eq_true rfl) (by decide) (fun r89 s90 hr91 hp92 => ?_)
          obtain ⟨hI93, hF94⟩ := hp92
          have hF95 := zOn_tr hF78 hF94 zi_rp2
          have hT96 := yTk_rk hT74 (yRk_p hF94)
          have hE97 : yst s90 = p79 := (yst_rk (yRk_p hF94)).trans hE80
          have b98 := zv_20_2 hI93 zc_33
          have e99 := hF94 33 2 rfl
          refine zt_iinc (pc' := 69) (lv' := [some (.ref (X.1.1 + 33)), some (.int (zI 4)), some (.int (zI (x19 + 1))), some (.int (zI r46))]) hX dX1_sum_66 rfl rfl hL (by decide) rfl ?_
          refine zt_goto (tgt := 7) hX dX1_sum_69 (by decide) ?_
          refine zt_mask [true, true, true, false] rfl ?_
          exact ih35 (x19 + 1) s90 p79 (by omega) (by omega) hI93 hF95 hT96 hE97 (by omega) (by omega) g84 L81 I85 (by omega)
        · refine zt_aload_n (pc' := 27) hX dX1_sum_26 rfl rfl ?_
          refine zt_get (pc' := 30) (v := .ref (X.1.1 + 27)) hX dX1_sum_27 rfl zf_X1_15 (by decide) zc_33 zs_20 (zrf_of (zv_20_0 hI23 zc_33)) ?_
          refine zt_cVi (pc' := 33) hX dX1_sum_30 rfl zm_yX5_signHere zw_22_2 zc_27 (by decide) zs_14 (q := (RX5, TX5, 9)) rfl rfl (yc_X5_signHere _ _ s22 hI23 f hT26) rfl rfl (Nat.le_of_ble_eq_true rfl) (by decide) (fun r100 s101 hr102 hp103 => ?_)
          obtain ⟨rfl, q104, q105, z106⟩ := hp103
          rw [hE27] at z106
          refine zt_bipush (pc' := 35) hX dX1_sum_33 rfl (by decide) (by decide) ?_
          refine zt_icne (pc' := 38) (tgt := 72) hX dX1_sum_35 rfl (by decide) ⟨by omega, by omega⟩ ⟨by omega, by omega⟩ (fun c107 => ?_) (fun c107 => ?_)
          · exact zt_vret hX hR dX1_sum_72 ⟨hI23, hF24, hT26, (by rw [hE27]; exact g30), (by rw [hE27]; exact g31), (by rw [hE27]; omega)⟩
          · refine zt_aload_n (pc' := 39) hX dX1_sum_38 rfl rfl ?_
            refine zt_get (pc' := 42) (v := .ref (X.1.1 + 27)) hX dX1_sum_39 rfl zf_X1_15 (by decide) zc_33 zs_20 (zrf_of (zv_20_0 hI23 zc_33)) ?_
            refine zt_cVi (pc' := 45) hX dX1_sum_42 rfl zm_yX5_signHere zw_22_2 zc_27 (by decide) zs_14 (q := (RX5, TX5, 9)) rfl rfl (yc_X5_signHere _ _ s22 hI23 f hT26) rfl rfl (Nat.le_of_ble_eq_true rfl) (by decide) (fun r108 s109 hr110 hp111 => ?_)
            obtain ⟨rfl, q112, q113, z114⟩ := hp111
            rw [hE27] at z114
            refine zt_istore_n (pc' := 46) (lv' := [some (.ref (X.1.1 + 33)), some (.int (zI 4)), some (.int (zI x19)), some (.int (zI r108))]) hX dX1_sum_45 rfl hL (by decide) rfl ?_
            refine zt_aload_n (pc' := 47) hX dX1_sum_46 rfl rfl ?_
            refine zt_get (pc' := 50) (v := .ref (X.1.1 + 27)) hX dX1_sum_47 rfl zf_X1_15 (by decide) zc_33 zs_20 (zrf_of (zv_20_0 hI23 zc_33)) ?_
            refine zt_cVv (pc' := 53) hX dX1_sum_50 rfl zm_yX5_step zw_22_6 zc_27 (by decide) zs_14 (q := (RX5, TX5, 9)) rfl rfl (yc_X5_step _ _ s22 hI23 f hT26) rfl rfl (Nat.le_of_ble_eq_true rfl) (by decide) (fun r115 s116 hr117 hp118 => ?_)
            obtain ⟨hI119, hF120, hT121, z122⟩ := hp118
            have hE123 : yst s116 = yPx f p25 := by rw [z122, hE27]
            have hF124 := zOn_tr hF24 hF120 zi_r12
            have L125 : yle (yst σ) (yPx f p25) := yle_tr g31 (yle_x hT26 hE27)
            have b126 := zv_20_2 hI119 zc_33
            have e127 := hF120 33 2 rfl
            have g128 := yJ_tr g30 (yJ_o ht (by omega))
            have I129 := yge_1 hT26 hE27 g32 (by omega)
            refine zt_aload_n (pc' := 54) hX dX1_sum_53 rfl rfl ?_
            refine zt_iload_n (pc' := 55) hX dX1_sum_54 rfl rfl ?_
            refine zt_cVv (pc' := 58) hX dX1_sum_55 rfl zm_yX1_product zw_21_23 zc_33 (by decide) zs_20 (q := (RX1, TX1, 3)) rfl rfl (yc_X1_product_o4 _ _ s116 hI119 f hT121 rl (by omega) k hk ht) rfl rfl (Nat.le_of_ble_eq_true rfl) (by decide) (fun r130 s131 hr132 hp133 => ?_)
            obtain ⟨hI134, hF135, hT136, z137, z138, z139⟩ := hp133
            rw [hE123] at z137
            rw [hE123] at z138
            have hF140 := zOn_tr hF124 hF135 zi_id
            obtain ⟨p141, hE142⟩ : ∃ p, yst s131 = p := ⟨_, rfl⟩
            rw [hE142] at z137
            rw [hE142] at z138
            have L143 := yle_tr L125 z138
            rw [hE142] at z139
            have b144 := zv_20_2 hI134 zc_33
            have e145 := hF135 33 2 rfl
            have g146 := yJ_tr g128 z137
            have I147 := yge_l I129 z138
            refine zt_aload_n (pc' := 59) hX dX1_sum_58 rfl rfl ?_
            obtain ⟨k148, ek149, hk150⟩ := zv_20_1 hI134 zc_33
            refine zt_get (pc' := 62) (v := .ref (X.1.1 + k148)) hX dX1_sum_59 rfl zf_X1_19 (by decide) zc_33 zs_20 (zrf_of ek149) ?_
            refine zt_iload_n (pc' := 63) hX dX1_sum_62 rfl rfl ?_
            refine zt_cVv (pc' := 66) hX dX1_sum_63 rfl zm_yX4_addStep zw_22_7 hk150 (by decide) zs_6 (q := (RX4, TX4, 2)) rfl rfl (yc_X4_addStep _ _ s131 hI134 k148 hk150 r108 ⟨by omega, by omega⟩) rfl rfl (Nat.le_of_ble_eq_true rfl) (by decide) (fun r151 s152 hr153 hp154 => ?_)
            obtain ⟨hI155, hF156⟩ := hp154
            have hF157 := zOn_tr hF140 hF156 zi_rp2
            have hT158 := yTk_rk hT136 (yRk_p hF156)
            have hE159 : yst s152 = p141 := (yst_rk (yRk_p hF156)).trans hE142
            have b160 := zv_20_2 hI155 zc_33
            have e161 := hF156 33 2 rfl
            refine zt_iinc (pc' := 69) (lv' := [some (.ref (X.1.1 + 33)), some (.int (zI 4)), some (.int (zI (x19 + 1))), some (.int (zI r108))]) hX dX1_sum_66 rfl rfl hL (by decide) rfl ?_
            refine zt_goto (tgt := 7) hX dX1_sum_69 (by decide) ?_
            refine zt_mask [true, true, true, false] rfl ?_
            exact ih35 (x19 + 1) s152 p141 (by omega) (by omega) hI155 hF157 hT158 hE159 (by omega) (by omega) g146 L143 I147 (by omega)
  exact L_7_32 _ 0 s3 p13 (by omega) (by omega) hI6 hF12 hT8 hE14 (by omega) (by omega) g18 L15 (yge_0 hT8 hE14) (Nat.lt_succ_self _)
set_option maxRecDepth 100000 in
set_option maxHeartbeats 4000000 in
theorem yc_X1_comparison_o4 (l : Launch) (E : zEN) (σ : zSto) (hI : zInv σ) (f : Int → Int) (hT : yTk f σ) (rl : Int) (hrl : σ 33 2 = rl) (k : List Nat) (hk : ydep k = 4) : zCt l E yX1_comparison cX1_comparison 3 none 14 zNC zNC 0 0 σ [.ref (E.1 + 33), .int (zI 4)] (fun r σ' => zInv σ' ∧ zOn zR2 σ σ' ∧ yTk f σ' ∧ (yJ rl f (1, 5 :: k, (yst σ)) (5, k, (yst σ'))) ∧ (yle (yst σ) (yst σ'))) := by
  refine zCt_of2 [some (.ref (E.1 + 33)), some (.int (zI 4)), none] (by decide +kernel) (Nat.le_of_ble_eq_true rfl) rfl ?_
  intro X hE_ hX hR hL hN
  subst hE_
  have hX : zok X cX1_comparison RX1 14 := hX
  have hF := zOn_rf zR2 σ
  have hE0 : yst σ = yst σ := rfl
  have L0 := yle_rf (yst σ)
  have b1 := zv_20_2 hI zc_33
  refine zt_aload_n (pc' := 1) hX dX1_comparison_0 rfl rfl ?_
  refine zt_iload_n (pc' := 2) hX dX1_comparison_1 rfl rfl ?_
  refine zt_cVv (pc' := 5) hX dX1_comparison_2 rfl zm_yX1_sum zw_21_19 zc_33 (by decide) zs_20 (q := (RX1, TX1, 3)) rfl rfl (yc_X1_sum_o4 _ _ σ hI f hT rl (by omega) (5 :: k) hk (Nat.ne_of_beq_eq_false rfl)) rfl rfl (Nat.le_of_ble_eq_true rfl) (by decide) (fun r2 s3 hr4 hp5 => ?_)
  obtain ⟨hI6, hF7, hT8, z9, z10, z11⟩ := hp5
  have hF12 := zOn_tr hF hF7 zi_id
  obtain ⟨p13, hE14⟩ : ∃ p, yst s3 = p := ⟨_, rfl⟩
  rw [hE14] at z9
  rw [hE14] at z10
  have L15 := yle_tr L0 z10
  rw [hE14] at z11
  have b16 := zv_20_2 hI6 zc_33
  have e17 := hF7 33 2 rfl
  refine zt_aload_n (pc' := 6) hX dX1_comparison_5 rfl rfl ?_
  refine zt_get (pc' := 9) (v := .ref (X.1.1 + 27)) hX dX1_comparison_6 rfl zf_X1_15 (by decide) zc_33 zs_20 (zrf_of (zv_20_0 hI6 zc_33)) ?_
  refine zt_cVi (pc' := 12) hX dX1_comparison_9 rfl zm_yX5_signHere zw_22_2 zc_27 (by decide) zs_14 (q := (RX5, TX5, 9)) rfl rfl (yc_X5_signHere _ _ s3 hI6 f hT8) rfl rfl (Nat.le_of_ble_eq_true rfl) (by decide) (fun r18 s19 hr20 hp21 => ?_)
  obtain ⟨rfl, q22, q23, z24⟩ := hp21
  rw [hE14] at z24
  refine zt_istore_n (pc' := 13) (lv' := [some (.ref (X.1.1 + 33)), some (.int (zI 4)), some (.int (zI r18))]) hX dX1_comparison_12 rfl hL (by decide) rfl ?_
  refine zt_iload_n (pc' := 14) hX dX1_comparison_13 rfl rfl ?_
  refine zt_bipush (pc' := 16) hX dX1_comparison_14 rfl (by decide) (by decide) ?_
  refine zt_iceq (pc' := 19) (tgt := 31) hX dX1_comparison_16 rfl (by decide) ⟨by omega, by omega⟩ ⟨by omega, by omega⟩ (fun c25 => ?_) (fun c25 => ?_)
  · refine zt_aload_n (pc' := 32) hX dX1_comparison_31 rfl rfl ?_
    refine zt_get (pc' := 35) (v := .ref (X.1.1 + 27)) hX dX1_comparison_32 rfl zf_X1_15 (by decide) zc_33 zs_20 (zrf_of (zv_20_0 hI6 zc_33)) ?_
    refine zt_cVv (pc' := 38) hX dX1_comparison_35 rfl zm_yX5_step zw_22_6 zc_27 (by decide) zs_14 (q := (RX5, TX5, 9)) rfl rfl (yc_X5_step _ _ s3 hI6 f hT8) rfl rfl (Nat.le_of_ble_eq_true rfl) (by decide) (fun r26 s27 hr28 hp29 => ?_)
    obtain ⟨hI30, hF31, hT32, z33⟩ := hp29
    have hE34 : yst s27 = yPx f p13 := by rw [z33, hE14]
    have hF35 := zOn_tr hF12 hF31 zi_r12
    have L36 : yle (yst σ) (yPx f p13) := yle_tr L15 (yle_x hT8 hE14)
    have b37 := zv_20_2 hI30 zc_33
    have e38 := hF31 33 2 rfl
    refine zt_aload_n (pc' := 39) hX dX1_comparison_38 rfl rfl ?_
    refine zt_iload_n (pc' := 40) hX dX1_comparison_39 rfl rfl ?_
    refine zt_cVv (pc' := 43) hX dX1_comparison_40 rfl zm_yX1_sum zw_21_19 zc_33 (by decide) zs_20 (q := (RX1, TX1, 3)) rfl rfl (yc_X1_sum_o4 _ _ s27 hI30 f hT32 rl (by omega) (6 :: k) hk (Nat.ne_of_beq_eq_false rfl)) rfl rfl (Nat.le_of_ble_eq_true rfl) (by decide) (fun r39 s40 hr41 hp42 => ?_)
    obtain ⟨hI43, hF44, hT45, z46, z47, z48⟩ := hp42
    rw [hE34] at z46
    rw [hE34] at z47
    have hF49 := zOn_tr hF35 hF44 zi_id
    obtain ⟨p50, hE51⟩ : ∃ p, yst s40 = p := ⟨_, rfl⟩
    rw [hE51] at z46
    rw [hE51] at z47
    have L52 := yle_tr L36 z47
    rw [hE51] at z48
    have b53 := zv_20_2 hI43 zc_33
    have e54 := hF44 33 2 rfl
    refine zt_aload_n (pc' := 44) hX dX1_comparison_43 rfl rfl ?_
    obtain ⟨k55, ek56, hk57⟩ := zv_20_1 hI43 zc_33
    refine zt_get (pc' := 47) (v := .ref (X.1.1 + k55)) hX dX1_comparison_44 rfl zf_X1_19 (by decide) zc_33 zs_20 (zrf_of ek56) ?_
    refine zt_iload_n (pc' := 48) hX dX1_comparison_47 rfl rfl ?_
    refine zt_cVv (pc' := 51) hX dX1_comparison_48 rfl zm_yX4_addStep zw_22_7 hk57 (by decide) zs_6 (q := (RX4, TX4, 2)) rfl rfl (yc_X4_addStep _ _ s40 hI43 k55 hk57 r18 ⟨by omega, by omega⟩) rfl rfl (Nat.le_of_ble_eq_true rfl) (by decide) (fun r58 s59 hr60 hp61 => ?_)
    obtain ⟨hI62, hF63⟩ := hp61
    have hF64 := zOn_tr hF49 hF63 zi_rp2
    have hT65 := yTk_rk hT45 (yRk_p hF63)
    have hE66 : yst s59 = p50 := (yst_rk (yRk_p hF63)).trans hE51
    have b67 := zv_20_2 hI62 zc_33
    have e68 := hF63 33 2 rfl
    refine zt_goto (tgt := 69) hX dX1_comparison_51 (by decide) ?_
    exact zt_vret hX hR dX1_comparison_69 ⟨hI62, hF64, hT65, (by rw [hE66]; exact yJ_tr z9 (yJ_tr (yJ_cs (by omega)) (yJ_tr z46 (yJ_ce z48)))), (by rw [hE66]; exact L52)⟩
  · refine zt_iload_n (pc' := 20) hX dX1_comparison_19 rfl rfl ?_
    refine zt_bipush (pc' := 22) hX dX1_comparison_20 rfl (by decide) (by decide) ?_
    refine zt_iceq (pc' := 25) (tgt := 31) hX dX1_comparison_22 rfl (by decide) ⟨by omega, by omega⟩ ⟨by omega, by omega⟩ (fun c69 => ?_) (fun c69 => ?_)
    · refine zt_aload_n (pc' := 32) hX dX1_comparison_31 rfl rfl ?_
      refine zt_get (pc' := 35) (v := .ref (X.1.1 + 27)) hX dX1_comparison_32 rfl zf_X1_15 (by decide) zc_33 zs_20 (zrf_of (zv_20_0 hI6 zc_33)) ?_
      refine zt_cVv (pc' := 38) hX dX1_comparison_35 rfl zm_yX5_step zw_22_6 zc_27 (by decide) zs_14 (q := (RX5, TX5, 9)) rfl rfl (yc_X5_step _ _ s3 hI6 f hT8) rfl rfl (Nat.le_of_ble_eq_true rfl) (by decide) (fun r70 s71 hr72 hp73 => ?_)
      obtain ⟨hI74, hF75, hT76, z77⟩ := hp73
      have hE78 : yst s71 = yPx f p13 := by rw [z77, hE14]
      have hF79 := zOn_tr hF12 hF75 zi_r12
      have L80 : yle (yst σ) (yPx f p13) := yle_tr L15 (yle_x hT8 hE14)
      have b81 := zv_20_2 hI74 zc_33
      have e82 := hF75 33 2 rfl
      refine zt_aload_n (pc' := 39) hX dX1_comparison_38 rfl rfl ?_
      refine zt_iload_n (pc' := 40) hX dX1_comparison_39 rfl rfl ?_
      refine zt_cVv (pc' := 43) hX dX1_comparison_40 rfl zm_yX1_sum zw_21_19 zc_33 (by decide) zs_20 (q := (RX1, TX1, 3)) rfl rfl (yc_X1_sum_o4 _ _ s71 hI74 f hT76 rl (by omega) (6 :: k) hk (Nat.ne_of_beq_eq_false rfl)) rfl rfl (Nat.le_of_ble_eq_true rfl) (by decide) (fun r83 s84 hr85 hp86 => ?_)
      obtain ⟨hI87, hF88, hT89, z90, z91, z92⟩ := hp86
      rw [hE78] at z90
      rw [hE78] at z91
      have hF93 := zOn_tr hF79 hF88 zi_id
      obtain ⟨p94, hE95⟩ : ∃ p, yst s84 = p := ⟨_, rfl⟩
      rw [hE95] at z90
      rw [hE95] at z91
      have L96 := yle_tr L80 z91
      rw [hE95] at z92
      have b97 := zv_20_2 hI87 zc_33
      have e98 := hF88 33 2 rfl
      refine zt_aload_n (pc' := 44) hX dX1_comparison_43 rfl rfl ?_
      obtain ⟨k99, ek100, hk101⟩ := zv_20_1 hI87 zc_33
      refine zt_get (pc' := 47) (v := .ref (X.1.1 + k99)) hX dX1_comparison_44 rfl zf_X1_19 (by decide) zc_33 zs_20 (zrf_of ek100) ?_
      refine zt_iload_n (pc' := 48) hX dX1_comparison_47 rfl rfl ?_
      refine zt_cVv (pc' := 51) hX dX1_comparison_48 rfl zm_yX4_addStep zw_22_7 hk101 (by decide) zs_6 (q := (RX4, TX4, 2)) rfl rfl (yc_X4_addStep _ _ s84 hI87 k99 hk101 r18 ⟨by omega, by omega⟩) rfl rfl (Nat.le_of_ble_eq_true rfl) (by decide) (fun r102 s103 hr104 hp105 => ?_)
      obtain ⟨hI106, hF107⟩ := hp105
      have hF108 := zOn_tr hF93 hF107 zi_rp2
      have hT109 := yTk_rk hT89 (yRk_p hF107)
      have hE110 : yst s103 = p94 := (yst_rk (yRk_p hF107)).trans hE95
      have b111 := zv_20_2 hI106 zc_33
      have e112 := hF107 33 2 rfl
      refine zt_goto (tgt := 69) hX dX1_comparison_51 (by decide) ?_
      exact zt_vret hX hR dX1_comparison_69 ⟨hI106, hF108, hT109, (by rw [hE110]; exact yJ_tr z9 (yJ_tr (yJ_cs (by omega)) (yJ_tr z90 (yJ_ce z92)))), (by rw [hE110]; exact L96)⟩
    · refine zt_iload_n (pc' := 26) hX dX1_comparison_25 rfl rfl ?_
      refine zt_bipush (pc' := 28) hX dX1_comparison_26 rfl (by decide) (by decide) ?_
      refine zt_icne (pc' := 31) (tgt := 54) hX dX1_comparison_28 rfl (by decide) ⟨by omega, by omega⟩ ⟨by omega, by omega⟩ (fun c113 => ?_) (fun c113 => ?_)
      · refine zt_aload_n (pc' := 55) hX dX1_comparison_54 rfl rfl ?_
        refine zt_get (pc' := 58) (v := .ref (X.1.1 + 27)) hX dX1_comparison_55 rfl zf_X1_15 (by decide) zc_33 zs_20 (zrf_of (zv_20_0 hI6 zc_33)) ?_
        refine zt_iconst (pc' := 59) hX dX1_comparison_58 rfl ?_
        refine zt_aload_n (pc' := 60) hX dX1_comparison_59 rfl rfl ?_
        refine zt_get (pc' := 63) (v := .ref (X.1.1 + 27)) hX dX1_comparison_60 rfl zf_X1_15 (by decide) zc_33 zs_20 (zrf_of (zv_20_0 hI6 zc_33)) ?_
        refine zt_cVi (pc' := 66) hX dX1_comparison_63 rfl zm_yX5_placeHere zw_22_9 zc_27 (by decide) zs_14 (q := (RX5, TX5, 9)) rfl rfl (yc_X5_placeHere _ _ s3 hI6 f hT8) rfl rfl (Nat.le_of_ble_eq_true rfl) (by decide) (fun r114 s115 hr116 hp117 => ?_)
        obtain ⟨rfl, q118, q119, z120⟩ := hp117
        rw [hE14] at z120
        refine zt_cVv (pc' := 69) hX dX1_comparison_66 rfl zm_yX5_refuse zw_22_10 zc_27 (by decide) zs_14 (q := (RX5, TX5, 9)) rfl rfl (yc_X5_refuse _ _ s3 hI6 1 ⟨by omega, by omega⟩ r114 ⟨by omega, by omega⟩ (by omega) f hT8) rfl rfl (Nat.le_of_ble_eq_true rfl) (by decide) (fun r121 s122 hr123 hp124 => ?_)
        obtain ⟨hI125, hF126, hT127, z128⟩ := hp124
        have hE129 : yst s122 = yPno 1 r114 p13 := by rw [z128, hE14]
        have hF130 := zOn_tr hF12 hF126 zi_r12
        have L131 : yle (yst σ) (yPno 1 r114 p13) := yle_tr L15 yle_no
        have b132 := zv_20_2 hI125 zc_33
        have e133 := hF126 33 2 rfl
        exact zt_vret hX hR dX1_comparison_69 ⟨hI125, hF130, hT127, (by rw [hE129, yPno_f (p := r114) (d := 0) (fun o => by omega)]; exact yJ_tr z9 (yJ_cb z11 (by omega))), (by rw [hE129]; exact L131)⟩
      · refine zt_aload_n (pc' := 32) hX dX1_comparison_31 rfl rfl ?_
        refine zt_get (pc' := 35) (v := .ref (X.1.1 + 27)) hX dX1_comparison_32 rfl zf_X1_15 (by decide) zc_33 zs_20 (zrf_of (zv_20_0 hI6 zc_33)) ?_
        refine zt_cVv (pc' := 38) hX dX1_comparison_35 rfl zm_yX5_step zw_22_6 zc_27 (by decide) zs_14 (q := (RX5, TX5, 9)) rfl rfl (yc_X5_step _ _ s3 hI6 f hT8) rfl rfl (Nat.le_of_ble_eq_true rfl) (by decide) (fun r134 s135 hr136 hp137 => ?_)
        obtain ⟨hI138, hF139, hT140, z141⟩ := hp137
        have hE142 : yst s135 = yPx f p13 := by rw [z141, hE14]
        have hF143 := zOn_tr hF12 hF139 zi_r12
        have L144 : yle (yst σ) (yPx f p13) := yle_tr L15 (yle_x hT8 hE14)
        have b145 := zv_20_2 hI138 zc_33
        have e146 := hF139 33 2 rfl
        refine zt_aload_n (pc' := 39) hX dX1_comparison_38 rfl rfl ?_
        refine zt_iload_n (pc' := 40) hX dX1_comparison_39 rfl rfl ?_
        refine zt_cVv (pc' := 43) hX dX1_comparison_40 rfl zm_yX1_sum zw_21_19 zc_33 (by decide) zs_20 (q := (RX1, TX1, 3)) rfl rfl (yc_X1_sum_o4 _ _ s135 hI138 f hT140 rl (by omega) (6 :: k) hk (Nat.ne_of_beq_eq_false rfl)) rfl rfl (Nat.le_of_ble_eq_true rfl) (by decide) (fun r147 s148 hr149 hp150 => ?_)
        obtain ⟨hI151, hF152, hT153, z154, z155, z156⟩ := hp150
        rw [hE142] at z154
        rw [hE142] at z155
        have hF157 := zOn_tr hF143 hF152 zi_id
        obtain ⟨p158, hE159⟩ : ∃ p, yst s148 = p := ⟨_, rfl⟩
        rw [hE159] at z154
        rw [hE159] at z155
        have L160 := yle_tr L144 z155
        rw [hE159] at z156
        have b161 := zv_20_2 hI151 zc_33
        have e162 := hF152 33 2 rfl
        refine zt_aload_n (pc' := 44) hX dX1_comparison_43 rfl rfl ?_
        obtain ⟨k163, ek164, hk165⟩ := zv_20_1 hI151 zc_33
        refine zt_get (pc' := 47) (v := .ref (X.1.1 + k163)) hX dX1_comparison_44 rfl zf_X1_19 (by decide) zc_33 zs_20 (zrf_of ek164) ?_
        refine zt_iload_n (pc' := 48) hX dX1_comparison_47 rfl rfl ?_
        refine zt_cVv (pc' := 51) hX dX1_comparison_48 rfl zm_yX4_addStep zw_22_7 hk165 (by decide) zs_6 (q := (RX4, TX4, 2)) rfl rfl (yc_X4_addStep _ _ s148 hI151 k163 hk165 r18 ⟨by omega, by omega⟩) rfl rfl (Nat.le_of_ble_eq_true rfl) (by decide) (fun r166 s167 hr168 hp169 => ?_)
        obtain ⟨hI170, hF171⟩ := hp169
        have hF172 := zOn_tr hF157 hF171 zi_rp2
        have hT173 := yTk_rk hT153 (yRk_p hF171)
        have hE174 : yst s167 = p158 := (yst_rk (yRk_p hF171)).trans hE159
        have b175 := zv_20_2 hI170 zc_33
        have e176 := hF171 33 2 rfl
        refine zt_goto (tgt := 69) hX dX1_comparison_51 (by decide) ?_
        exact zt_vret hX hR dX1_comparison_69 ⟨hI170, hF172, hT173, (by rw [hE174]; exact yJ_tr z9 (yJ_tr (yJ_cs (by omega)) (yJ_tr z154 (yJ_ce z156)))), (by rw [hE174]; exact L160)⟩
set_option maxRecDepth 100000 in
set_option maxHeartbeats 4000000 in
theorem yc_X1_fact_o4 (l : Launch) (E : zEN) (σ : zSto) (hI : zInv σ) (f : Int → Int) (hT : yTk f σ) (rl : Int) (hrl : σ 33 2 = rl) (k : List Nat) (hk : ydep k = 4) : zCt l E yX1_fact cX1_fact 2 none 15 zNC zNC 0 0 σ [.ref (E.1 + 33), .int (zI 4)] (fun r σ' => zInv σ' ∧ zOn zR2 σ σ' ∧ yTk f σ' ∧ (yJ rl f (4, k, (yst σ)) (5, k, (yst σ'))) ∧ (yle (yst σ) (yst σ'))) := by
  refine zCt_of2 [some (.ref (E.1 + 33)), some (.int (zI 4))] (by decide +kernel) (Nat.le_of_ble_eq_true rfl) rfl ?_
  intro X hE_ hX hR hL hN
  subst hE_
  have hX : zok X cX1_fact RX1 15 := hX
  have hF := zOn_rf zR2 σ
  have hE0 : yst σ = yst σ := rfl
  have L0 := yle_rf (yst σ)
  have b1 := zv_20_2 hI zc_33
  refine zt_aload_n (pc' := 1) hX dX1_fact_0 rfl rfl ?_
  refine zt_get (pc' := 4) (v := .ref (X.1.1 + 27)) hX dX1_fact_1 rfl zf_X1_15 (by decide) zc_33 zs_20 (zrf_of (zv_20_0 hI zc_33)) ?_
  refine zt_cVi (pc' := 7) hX dX1_fact_4 rfl zm_yX5_wordHere zw_22_21 zc_27 (by decide) zs_14 (q := (RX5, TX5, 9)) rfl rfl (yc_X5_wordHere _ _ σ hI f hT) rfl rfl (Nat.le_of_ble_eq_true rfl) (by decide) (fun r2 s3 hr4 hp5 => ?_)
  obtain ⟨rfl, q6, q7, z8⟩ := hp5
  refine zt_bipush (pc' := 9) hX dX1_fact_7 rfl (by decide) (by decide) ?_
  refine zt_icne (pc' := 12) (tgt := 39) hX dX1_fact_9 rfl (by decide) ⟨by omega, by omega⟩ ⟨by omega, by omega⟩ (fun c9 => ?_) (fun c9 => ?_)
  · refine zt_aload_n (pc' := 40) hX dX1_fact_39 rfl rfl ?_
    refine zt_get (pc' := 43) (v := .ref (X.1.1 + 27)) hX dX1_fact_40 rfl zf_X1_15 (by decide) zc_33 zs_20 (zrf_of (zv_20_0 hI zc_33)) ?_
    refine zt_cVi (pc' := 46) hX dX1_fact_43 rfl zm_yX5_signHere zw_22_2 zc_27 (by decide) zs_14 (q := (RX5, TX5, 9)) rfl rfl (yc_X5_signHere _ _ σ hI f hT) rfl rfl (Nat.le_of_ble_eq_true rfl) (by decide) (fun r10 s11 hr12 hp13 => ?_)
    obtain ⟨rfl, q14, q15, z16⟩ := hp13
    refine zt_bipush (pc' := 48) hX dX1_fact_46 rfl (by decide) (by decide) ?_
    refine zt_icne (pc' := 51) (tgt := 78) hX dX1_fact_48 rfl (by decide) ⟨by omega, by omega⟩ ⟨by omega, by omega⟩ (fun c17 => ?_) (fun c17 => ?_)
    · refine zt_aload_n (pc' := 79) hX dX1_fact_78 rfl rfl ?_
      refine zt_get (pc' := 82) (v := .ref (X.1.1 + 27)) hX dX1_fact_79 rfl zf_X1_15 (by decide) zc_33 zs_20 (zrf_of (zv_20_0 hI zc_33)) ?_
      refine zt_cVi (pc' := 85) hX dX1_fact_82 rfl zm_yX5_wordHere zw_22_21 zc_27 (by decide) zs_14 (q := (RX5, TX5, 9)) rfl rfl (yc_X5_wordHere _ _ σ hI f hT) rfl rfl (Nat.le_of_ble_eq_true rfl) (by decide) (fun r18 s19 hr20 hp21 => ?_)
      obtain ⟨rfl, q22, q23, z24⟩ := hp21
      refine zt_bipush (pc' := 87) hX dX1_fact_85 rfl (by decide) (by decide) ?_
      refine zt_icne (pc' := 90) (tgt := 109) hX dX1_fact_87 rfl (by decide) ⟨by omega, by omega⟩ ⟨by omega, by omega⟩ (fun c25 => ?_) (fun c25 => ?_)
      · refine zt_aload_n (pc' := 110) hX dX1_fact_109 rfl rfl ?_
        refine zt_iload_n (pc' := 111) hX dX1_fact_110 rfl rfl ?_
        refine zt_cVv (pc' := 114) hX dX1_fact_111 rfl zm_yX1_comparison zw_24_14 zc_33 (by decide) zs_20 (q := (RX1, TX1, 3)) rfl rfl (yc_X1_comparison_o4 _ _ σ hI f hT rl (by omega) k hk) rfl rfl (Nat.le_of_ble_eq_true rfl) (by decide) (fun r26 s27 hr28 hp29 => ?_)
        obtain ⟨hI30, hF31, hT32, z33, z34⟩ := hp29
        have hF35 := zOn_tr hF hF31 zi_id
        obtain ⟨p36, hE37⟩ : ∃ p, yst s27 = p := ⟨_, rfl⟩
        rw [hE37] at z33
        rw [hE37] at z34
        have L38 := yle_tr L0 z34
        have b39 := zv_20_2 hI30 zc_33
        have e40 := hF31 33 2 rfl
        exact zt_vret hX hR dX1_fact_114 ⟨hI30, hF35, hT32, (by rw [hE37]; exact yJ_tr (yJ_cmp (by omega) (by omega) (by omega)) z33), (by rw [hE37]; exact L38)⟩
      · refine zt_aload_n (pc' := 91) hX dX1_fact_90 rfl rfl ?_
        refine zt_get (pc' := 94) (v := .ref (X.1.1 + 27)) hX dX1_fact_91 rfl zf_X1_15 (by decide) zc_33 zs_20 (zrf_of (zv_20_0 hI zc_33)) ?_
        refine zt_cVv (pc' := 97) hX dX1_fact_94 rfl zm_yX5_step zw_22_6 zc_27 (by decide) zs_14 (q := (RX5, TX5, 9)) rfl rfl (yc_X5_step _ _ σ hI f hT) rfl rfl (Nat.le_of_ble_eq_true rfl) (by decide) (fun r41 s42 hr43 hp44 => ?_)
        obtain ⟨hI45, hF46, hT47, z48⟩ := hp44
        have hE49 : yst s42 = yPx f (yst σ) := z48
        have hF50 := zOn_tr hF hF46 zi_r12
        have L51 : yle (yst σ) (yPx f (yst σ)) := yle_tr L0 (yle_x hT hE0)
        have b52 := zv_20_2 hI45 zc_33
        have e53 := hF46 33 2 rfl
        refine zt_aload_n (pc' := 98) hX dX1_fact_97 rfl rfl ?_
        obtain ⟨k54, ek55, hk56⟩ := zv_20_1 hI45 zc_33
        refine zt_get (pc' := 101) (v := .ref (X.1.1 + k54)) hX dX1_fact_98 rfl zf_X1_19 (by decide) zc_33 zs_20 (zrf_of ek55) ?_
        refine zt_bipush (pc' := 103) hX dX1_fact_101 rfl (by decide) (by decide) ?_
        refine zt_cVv (pc' := 106) hX dX1_fact_103 rfl zm_yX4_addStep zw_22_7 hk56 (by decide) zs_6 (q := (RX4, TX4, 2)) rfl rfl (yc_X4_addStep _ _ s42 hI45 k54 hk56 24 ⟨by omega, by omega⟩) rfl rfl (Nat.le_of_ble_eq_true rfl) (by decide) (fun r57 s58 hr59 hp60 => ?_)
        obtain ⟨hI61, hF62⟩ := hp60
        have hF63 := zOn_tr hF50 hF62 zi_rp2
        have hT64 := yTk_rk hT47 (yRk_p hF62)
        have hE65 : yst s58 = yPx f (yst σ) := (yst_rk (yRk_p hF62)).trans hE49
        have b66 := zv_20_2 hI61 zc_33
        have e67 := hF62 33 2 rfl
        refine zt_goto (tgt := 114) hX dX1_fact_106 (by decide) ?_
        exact zt_vret hX hR dX1_fact_114 ⟨hI61, hF63, hT64, (by rw [hE65]; exact yJ_all (by omega)), (by rw [hE65]; exact L51)⟩
    · refine zt_aload_n (pc' := 52) hX dX1_fact_51 rfl rfl ?_
      refine zt_iload_n (pc' := 53) hX dX1_fact_52 rfl rfl ?_
      refine zt_cVz (pc' := 56) hX dX1_fact_53 rfl zm_yX1_opens zw_22_11 zc_33 (by decide) zs_20 (q := (RX1, TX1, 3)) rfl rfl (yc_X1_opens_o4 _ _ σ hI f hT) rfl rfl (Nat.le_of_ble_eq_true rfl) (by decide) (fun r68 s69 hr70 hp71 => ?_)
      obtain ⟨hI72, hF73, q74, q75, hT76, z77⟩ := hp71
      have hE78 : yst s69 = yPx f (yst σ) := z77
      have hF79 := zOn_tr hF hF73 zi_r12
      have L80 : yle (yst σ) (yPx f (yst σ)) := yle_tr L0 (yle_x hT hE0)
      have b81 := zv_20_2 hI72 zc_33
      have e82 := hF73 33 2 rfl
      refine zt_ifeq (pc' := 59) (tgt := 114) hX dX1_fact_56 rfl (by decide) ⟨by omega, by omega⟩ (fun c83 => ?_) (fun c83 => ?_)
      · exact absurd c83 (by omega)
      · refine zt_aload_n (pc' := 60) hX dX1_fact_59 rfl rfl ?_
        refine zt_iload_n (pc' := 61) hX dX1_fact_60 rfl rfl ?_
        refine zt_iconst (pc' := 62) hX dX1_fact_61 rfl ?_
        refine zt_iadd (pc' := 63) hX dX1_fact_62 rfl ?_
        rw [show (4 + 1 : Int) = 5 from rfl]
        refine zt_cVv (pc' := 66) hX dX1_fact_63 rfl zm_yX1_test zw_24_2 zc_33 (by decide) zs_20 (q := (RX1, TX1, 3)) rfl rfl (yc_X1_test_o5 _ _ s69 hI72 f hT76 rl (by omega) (7 :: k) (by show ydep k + 1 = _; omega) (Nat.ne_of_beq_eq_false rfl)) rfl rfl (Nat.le_of_ble_eq_true rfl) (by decide) (fun r84 s85 hr86 hp87 => ?_)
        obtain ⟨hI88, hF89, hT90, z91, z92, z93⟩ := hp87
        rw [hE78] at z91
        rw [hE78] at z92
        have hF94 := zOn_tr hF79 hF89 zi_id
        obtain ⟨p95, hE96⟩ : ∃ p, yst s85 = p := ⟨_, rfl⟩
        rw [hE96] at z91
        rw [hE96] at z92
        have L97 := yle_tr L80 z92
        rw [hE96] at z93
        have b98 := zv_20_2 hI88 zc_33
        have e99 := hF89 33 2 rfl
        refine zt_aload_n (pc' := 67) hX dX1_fact_66 rfl rfl ?_
        refine zt_get (pc' := 70) (v := .ref (X.1.1 + 27)) hX dX1_fact_67 rfl zf_X1_15 (by decide) zc_33 zs_20 (zrf_of (zv_20_0 hI88 zc_33)) ?_
        refine zt_bipush (pc' := 72) hX dX1_fact_70 rfl (by decide) (by decide) ?_
        refine zt_cVv (pc' := 75) hX dX1_fact_72 rfl zm_yX5_takeSign zw_22_15 zc_27 (by decide) zs_14 (q := (RX5, TX5, 9)) rfl rfl (yc_X5_takeSign _ _ s85 hI88 93 ⟨by omega, by omega⟩ f hT90) rfl rfl (Nat.le_of_ble_eq_true rfl) (by decide) (fun r100 s101 hr102 hp103 => ?_)
        obtain ⟨hI104, hF105, hT106, z107⟩ := hp103
        have hE108 : yst s101 = yPs f 93 p95 := by rw [z107, hE96]
        have hF109 := zOn_tr hF94 hF105 zi_r12
        have L110 : yle (yst σ) (yPs f 93 p95) := yle_tr L97 (yle_s hT90 hE96)
        have b111 := zv_20_2 hI104 zc_33
        have e112 := hF105 33 2 rfl
        refine zt_goto (tgt := 114) hX dX1_fact_75 (by decide) ?_
        exact zt_vret hX hR dX1_fact_114 ⟨hI104, hF109, hT106, (by rw [hE108]; exact yJ_tr (yJ_sq (by omega) (by omega)) (yJ_tr z91 (yJ_qc z93))), (by rw [hE108]; exact L110)⟩
  · refine zt_aload_n (pc' := 13) hX dX1_fact_12 rfl rfl ?_
    refine zt_iload_n (pc' := 14) hX dX1_fact_13 rfl rfl ?_
    refine zt_cVz (pc' := 17) hX dX1_fact_14 rfl zm_yX1_opens zw_22_11 zc_33 (by decide) zs_20 (q := (RX1, TX1, 3)) rfl rfl (yc_X1_opens_o4 _ _ σ hI f hT) rfl rfl (Nat.le_of_ble_eq_true rfl) (by decide) (fun r113 s114 hr115 hp116 => ?_)
    obtain ⟨hI117, hF118, q119, q120, hT121, z122⟩ := hp116
    have hE123 : yst s114 = yPx f (yst σ) := z122
    have hF124 := zOn_tr hF hF118 zi_r12
    have L125 : yle (yst σ) (yPx f (yst σ)) := yle_tr L0 (yle_x hT hE0)
    have b126 := zv_20_2 hI117 zc_33
    have e127 := hF118 33 2 rfl
    refine zt_ifeq (pc' := 20) (tgt := 114) hX dX1_fact_17 rfl (by decide) ⟨by omega, by omega⟩ (fun c128 => ?_) (fun c128 => ?_)
    · exact absurd c128 (by omega)
    · refine zt_aload_n (pc' := 21) hX dX1_fact_20 rfl rfl ?_
      refine zt_iload_n (pc' := 22) hX dX1_fact_21 rfl rfl ?_
      refine zt_iconst (pc' := 23) hX dX1_fact_22 rfl ?_
      refine zt_iadd (pc' := 24) hX dX1_fact_23 rfl ?_
      rw [show (4 + 1 : Int) = 5 from rfl]
      refine zt_cVv (pc' := 27) hX dX1_fact_24 rfl zm_yX1_fact zw_24_10 zc_33 (by decide) zs_20 (q := (RX1, TX1, 3)) rfl rfl (yc_X1_fact_o5 _ _ s114 hI117 f hT121 rl (by omega) (8 :: k) (by show ydep k + 1 = _; omega)) rfl rfl (Nat.le_of_ble_eq_true rfl) (by decide) (fun r129 s130 hr131 hp132 => ?_)
      obtain ⟨hI133, hF134, hT135, z136, z137⟩ := hp132
      rw [hE123] at z136
      rw [hE123] at z137
      have hF138 := zOn_tr hF124 hF134 zi_id
      obtain ⟨p139, hE140⟩ : ∃ p, yst s130 = p := ⟨_, rfl⟩
      rw [hE140] at z136
      rw [hE140] at z137
      have L141 := yle_tr L125 z137
      have b142 := zv_20_2 hI133 zc_33
      have e143 := hF134 33 2 rfl
      refine zt_aload_n (pc' := 28) hX dX1_fact_27 rfl rfl ?_
      obtain ⟨k144, ek145, hk146⟩ := zv_20_1 hI133 zc_33
      refine zt_get (pc' := 31) (v := .ref (X.1.1 + k144)) hX dX1_fact_28 rfl zf_X1_19 (by decide) zc_33 zs_20 (zrf_of ek145) ?_
      refine zt_bipush (pc' := 33) hX dX1_fact_31 rfl (by decide) (by decide) ?_
      refine zt_cVv (pc' := 36) hX dX1_fact_33 rfl zm_yX4_addStep zw_22_7 hk146 (by decide) zs_6 (q := (RX4, TX4, 2)) rfl rfl (yc_X4_addStep _ _ s130 hI133 k144 hk146 23 ⟨by omega, by omega⟩) rfl rfl (Nat.le_of_ble_eq_true rfl) (by decide) (fun r147 s148 hr149 hp150 => ?_)
      obtain ⟨hI151, hF152⟩ := hp150
      have hF153 := zOn_tr hF138 hF152 zi_rp2
      have hT154 := yTk_rk hT135 (yRk_p hF152)
      have hE155 : yst s148 = p139 := (yst_rk (yRk_p hF152)).trans hE140
      have b156 := zv_20_2 hI151 zc_33
      have e157 := hF152 33 2 rfl
      refine zt_goto (tgt := 114) hX dX1_fact_36 (by decide) ?_
      exact zt_vret hX hR dX1_fact_114 ⟨hI151, hF153, hT154, (by rw [hE155]; exact yJ_tr (yJ_not (by omega) (by omega)) (yJ_tr z136 yJ_nt)), (by rw [hE155]; exact L141)⟩
set_option maxRecDepth 100000 in
set_option maxHeartbeats 4000000 in
theorem yc_X1_both_o4 (l : Launch) (E : zEN) (σ : zSto) (hI : zInv σ) (f : Int → Int) (hT : yTk f σ) (rl : Int) (hrl : σ 33 2 = rl) (k : List Nat) (hk : ydep k = 4) (ht : ytop k ≠ 8) : zCt l E yX1_both cX1_both 3 none 16 zNC zNC 0 0 σ [.ref (E.1 + 33), .int (zI 4)] (fun r σ' => zInv σ' ∧ zOn zR2 σ σ' ∧ yTk f σ' ∧ (yJ rl f (4, k, (yst σ)) (5, k, (yst σ'))) ∧ (yle (yst σ) (yst σ')) ∧ (yPi f (yst σ') ≠ 22)) := by
  refine zCt_of2 [some (.ref (E.1 + 33)), some (.int (zI 4)), none] (by decide +kernel) (Nat.le_of_ble_eq_true rfl) rfl ?_
  intro X hE_ hX hR hL hN
  subst hE_
  have hX : zok X cX1_both RX1 16 := hX
  have hF := zOn_rf zR2 σ
  have hE0 : yst σ = yst σ := rfl
  have L0 := yle_rf (yst σ)
  have b1 := zv_20_2 hI zc_33
  refine zt_aload_n (pc' := 1) hX dX1_both_0 rfl rfl ?_
  refine zt_iload_n (pc' := 2) hX dX1_both_1 rfl rfl ?_
  refine zt_cVv (pc' := 5) hX dX1_both_2 rfl zm_yX1_fact zw_24_10 zc_33 (by decide) zs_20 (q := (RX1, TX1, 3)) rfl rfl (yc_X1_fact_o4 _ _ σ hI f hT rl (by omega) k hk) rfl rfl (Nat.le_of_ble_eq_true rfl) (by decide) (fun r2 s3 hr4 hp5 => ?_)
  obtain ⟨hI6, hF7, hT8, z9, z10⟩ := hp5
  have hF11 := zOn_tr hF hF7 zi_id
  obtain ⟨p12, hE13⟩ : ∃ p, yst s3 = p := ⟨_, rfl⟩
  rw [hE13] at z9
  rw [hE13] at z10
  have L14 := yle_tr L0 z10
  have b15 := zv_20_2 hI6 zc_33
  have e16 := hF7 33 2 rfl
  have g17 := z9
  refine zt_iconst (pc' := 6) hX dX1_both_5 rfl ?_
  refine zt_istore_n (pc' := 7) (lv' := [some (.ref (X.1.1 + 33)), some (.int (zI 4)), some (.int (zI 0))]) hX dX1_both_6 rfl hL (by decide) rfl ?_
  have L_7_30 : ∀ (N : Nat) (x18 : Int) (s21 : zSto) (p24 : yP), 0 ≤ x18 → x18 ≤ 1600 → zInv s21 → zOn zR2 σ s21 → yTk f s21 → yst s21 = p24 → s21 33 2 = σ 33 2 → yJ rl f (4, k, yst σ) (5, k, p24) → yle (yst σ) p24 → yge x18 p24 → ((1601 - x18).toNat) < N → zF X s21 7 [some (.ref (X.1.1 + 33)), some (.int (zI 4)), some (.int (zI x18))] [] := by
    intro N
    induction N with
    | zero =>
      intro x18 s21 p24 h19 h20 hI22 hF23 hT25 hE26 g27 g28 g29 g30 hm32
      exact absurd hm32 (Nat.not_lt_zero _)
    | succ N ih33 =>
      intro x18 s21 p24 h19 h20 hI22 hF23 hT25 hE26 g27 g28 g29 g30 hm32
      have b34 := zv_20_2 hI22 zc_33
      have hx := yge_x hT25 hE26 g30
      refine zt_iload_n (pc' := 8) hX dX1_both_7 rfl rfl ?_
      refine zt_sipush (pc' := 11) hX dX1_both_8 rfl (by decide) (by decide) ?_
      refine zt_icge (pc' := 14) (tgt := 53) hX dX1_both_11 rfl (by decide) ⟨by omega, by omega⟩ ⟨by omega, by omega⟩ (fun c35 => ?_) (fun c35 => ?_)
      · exact zt_vret hX hR dX1_both_53 ⟨hI22, hF23, hT25, (by rw [hE26]; exact g28), (by rw [hE26]; exact g29), (by rw [hE26]; omega)⟩
      · refine zt_aload_n (pc' := 15) hX dX1_both_14 rfl rfl ?_
        refine zt_get (pc' := 18) (v := .ref (X.1.1 + 27)) hX dX1_both_15 rfl zf_X1_15 (by decide) zc_33 zs_20 (zrf_of (zv_20_0 hI22 zc_33)) ?_
        refine zt_cVi (pc' := 21) hX dX1_both_18 rfl zm_yX5_wordHere zw_22_21 zc_27 (by decide) zs_14 (q := (RX5, TX5, 9)) rfl rfl (yc_X5_wordHere _ _ s21 hI22 f hT25) rfl rfl (Nat.le_of_ble_eq_true rfl) (by decide) (fun r36 s37 hr38 hp39 => ?_)
        obtain ⟨rfl, q40, q41, z42⟩ := hp39
        rw [hE26] at z42
        refine zt_bipush (pc' := 23) hX dX1_both_21 rfl (by decide) (by decide) ?_
        refine zt_icne (pc' := 26) (tgt := 53) hX dX1_both_23 rfl (by decide) ⟨by omega, by omega⟩ ⟨by omega, by omega⟩ (fun c43 => ?_) (fun c43 => ?_)
        · exact zt_vret hX hR dX1_both_53 ⟨hI22, hF23, hT25, (by rw [hE26]; exact g28), (by rw [hE26]; exact g29), (by rw [hE26]; omega)⟩
        · refine zt_aload_n (pc' := 27) hX dX1_both_26 rfl rfl ?_
          refine zt_get (pc' := 30) (v := .ref (X.1.1 + 27)) hX dX1_both_27 rfl zf_X1_15 (by decide) zc_33 zs_20 (zrf_of (zv_20_0 hI22 zc_33)) ?_
          refine zt_cVv (pc' := 33) hX dX1_both_30 rfl zm_yX5_step zw_22_6 zc_27 (by decide) zs_14 (q := (RX5, TX5, 9)) rfl rfl (yc_X5_step _ _ s21 hI22 f hT25) rfl rfl (Nat.le_of_ble_eq_true rfl) (by decide) (fun r44 s45 hr46 hp47 => ?_)
          obtain ⟨hI48, hF49, hT50, z51⟩ := hp47
          have hE52 : yst s45 = yPx f p24 := by rw [z51, hE26]
          have hF53 := zOn_tr hF23 hF49 zi_r12
          have L54 : yle (yst σ) (yPx f p24) := yle_tr g29 (yle_x hT25 hE26)
          have b55 := zv_20_2 hI48 zc_33
          have e56 := hF49 33 2 rfl
          have g57 := yJ_tr g28 (yJ_ao ht (by omega))
          have I58 := yge_1 hT25 hE26 g30 (by omega)
          refine zt_aload_n (pc' := 34) hX dX1_both_33 rfl rfl ?_
          refine zt_iload_n (pc' := 35) hX dX1_both_34 rfl rfl ?_
          refine zt_cVv (pc' := 38) hX dX1_both_35 rfl zm_yX1_fact zw_24_10 zc_33 (by decide) zs_20 (q := (RX1, TX1, 3)) rfl rfl (yc_X1_fact_o4 _ _ s45 hI48 f hT50 rl (by omega) k hk) rfl rfl (Nat.le_of_ble_eq_true rfl) (by decide) (fun r59 s60 hr61 hp62 => ?_)
          obtain ⟨hI63, hF64, hT65, z66, z67⟩ := hp62
          rw [hE52] at z66
          rw [hE52] at z67
          have hF68 := zOn_tr hF53 hF64 zi_id
          obtain ⟨p69, hE70⟩ : ∃ p, yst s60 = p := ⟨_, rfl⟩
          rw [hE70] at z66
          rw [hE70] at z67
          have L71 := yle_tr L54 z67
          have b72 := zv_20_2 hI63 zc_33
          have e73 := hF64 33 2 rfl
          have g74 := yJ_tr g57 z66
          have I75 := yge_l I58 z67
          refine zt_aload_n (pc' := 39) hX dX1_both_38 rfl rfl ?_
          obtain ⟨k76, ek77, hk78⟩ := zv_20_1 hI63 zc_33
          refine zt_get (pc' := 42) (v := .ref (X.1.1 + k76)) hX dX1_both_39 rfl zf_X1_19 (by decide) zc_33 zs_20 (zrf_of ek77) ?_
          refine zt_bipush (pc' := 44) hX dX1_both_42 rfl (by decide) (by decide) ?_
          refine zt_cVv (pc' := 47) hX dX1_both_44 rfl zm_yX4_addStep zw_22_7 hk78 (by decide) zs_6 (q := (RX4, TX4, 2)) rfl rfl (yc_X4_addStep _ _ s60 hI63 k76 hk78 22 ⟨by omega, by omega⟩) rfl rfl (Nat.le_of_ble_eq_true rfl) (by decide) (fun r79 s80 hr81 hp82 => ?_)
          obtain ⟨hI83, hF84⟩ := hp82
          have hF85 := zOn_tr hF68 hF84 zi_rp2
          have hT86 := yTk_rk hT65 (yRk_p hF84)
          have hE87 : yst s80 = p69 := (yst_rk (yRk_p hF84)).trans hE70
          have b88 := zv_20_2 hI83 zc_33
          have e89 := hF84 33 2 rfl
          refine zt_iinc (pc' := 50) (lv' := [some (.ref (X.1.1 + 33)), some (.int (zI 4)), some (.int (zI (x18 + 1)))]) hX dX1_both_47 rfl rfl hL (by decide) rfl ?_
          refine zt_goto (tgt := 7) hX dX1_both_50 (by decide) ?_
          exact ih33 (x18 + 1) s80 p69 (by omega) (by omega) hI83 hF85 hT86 hE87 (by omega) g74 L71 I75 (by omega)
  exact L_7_30 _ 0 s3 p12 (by omega) (by omega) hI6 hF11 hT8 hE13 (by omega) g17 L14 (yge_0 hT8 hE13) (Nat.lt_succ_self _)
set_option maxRecDepth 100000 in
set_option maxHeartbeats 4000000 in
theorem yc_X1_test_o4 (l : Launch) (E : zEN) (σ : zSto) (hI : zInv σ) (f : Int → Int) (hT : yTk f σ) (rl : Int) (hrl : σ 33 2 = rl) (k : List Nat) (hk : ydep k = 4) (ht : ytop k ≠ 8) : zCt l E yX1_test cX1_test 3 none 17 zNC zNC 0 0 σ [.ref (E.1 + 33), .int (zI 4)] (fun r σ' => zInv σ' ∧ zOn zR2 σ σ' ∧ yTk f σ' ∧ (yJ rl f (4, k, (yst σ)) (5, k, (yst σ'))) ∧ (yle (yst σ) (yst σ')) ∧ (yPi f (yst σ') ≠ 22 ∧ yPi f (yst σ') ≠ 21)) := by
  refine zCt_of2 [some (.ref (E.1 + 33)), some (.int (zI 4)), none] (by decide +kernel) (Nat.le_of_ble_eq_true rfl) rfl ?_
  intro X hE_ hX hR hL hN
  subst hE_
  have hX : zok X cX1_test RX1 17 := hX
  have hF := zOn_rf zR2 σ
  have hE0 : yst σ = yst σ := rfl
  have L0 := yle_rf (yst σ)
  have b1 := zv_20_2 hI zc_33
  refine zt_aload_n (pc' := 1) hX dX1_test_0 rfl rfl ?_
  refine zt_iload_n (pc' := 2) hX dX1_test_1 rfl rfl ?_
  refine zt_cVv (pc' := 5) hX dX1_test_2 rfl zm_yX1_both zw_24_6 zc_33 (by decide) zs_20 (q := (RX1, TX1, 3)) rfl rfl (yc_X1_both_o4 _ _ σ hI f hT rl (by omega) k hk ht) rfl rfl (Nat.le_of_ble_eq_true rfl) (by decide) (fun r2 s3 hr4 hp5 => ?_)
  obtain ⟨hI6, hF7, hT8, z9, z10, z11⟩ := hp5
  have hF12 := zOn_tr hF hF7 zi_id
  obtain ⟨p13, hE14⟩ : ∃ p, yst s3 = p := ⟨_, rfl⟩
  rw [hE14] at z9
  rw [hE14] at z10
  have L15 := yle_tr L0 z10
  rw [hE14] at z11
  have b16 := zv_20_2 hI6 zc_33
  have e17 := hF7 33 2 rfl
  have g18 := z9
  refine zt_iconst (pc' := 6) hX dX1_test_5 rfl ?_
  refine zt_istore_n (pc' := 7) (lv' := [some (.ref (X.1.1 + 33)), some (.int (zI 4)), some (.int (zI 0))]) hX dX1_test_6 rfl hL (by decide) rfl ?_
  have L_7_32 : ∀ (N : Nat) (x19 : Int) (s22 : zSto) (p25 : yP), 0 ≤ x19 → x19 ≤ 1600 → zInv s22 → zOn zR2 σ s22 → yTk f s22 → yst s22 = p25 → yPi f p25 ≠ 22 → s22 33 2 = σ 33 2 → yJ rl f (4, k, yst σ) (5, k, p25) → yle (yst σ) p25 → yge x19 p25 → ((1601 - x19).toNat) < N → zF X s22 7 [some (.ref (X.1.1 + 33)), some (.int (zI 4)), some (.int (zI x19))] [] := by
    intro N
    induction N with
    | zero =>
      intro x19 s22 p25 h20 h21 hI23 hF24 hT26 hE27 g28 g29 g30 g31 g32 hm34
      exact absurd hm34 (Nat.not_lt_zero _)
    | succ N ih35 =>
      intro x19 s22 p25 h20 h21 hI23 hF24 hT26 hE27 g28 g29 g30 g31 g32 hm34
      have b36 := zv_20_2 hI23 zc_33
      have hx := yge_x hT26 hE27 g32
      refine zt_iload_n (pc' := 8) hX dX1_test_7 rfl rfl ?_
      refine zt_sipush (pc' := 11) hX dX1_test_8 rfl (by decide) (by decide) ?_
      refine zt_icge (pc' := 14) (tgt := 53) hX dX1_test_11 rfl (by decide) ⟨by omega, by omega⟩ ⟨by omega, by omega⟩ (fun c37 => ?_) (fun c37 => ?_)
      · exact zt_vret hX hR dX1_test_53 ⟨hI23, hF24, hT26, (by rw [hE27]; exact g30), (by rw [hE27]; exact g31), (by rw [hE27]; omega)⟩
      · refine zt_aload_n (pc' := 15) hX dX1_test_14 rfl rfl ?_
        refine zt_get (pc' := 18) (v := .ref (X.1.1 + 27)) hX dX1_test_15 rfl zf_X1_15 (by decide) zc_33 zs_20 (zrf_of (zv_20_0 hI23 zc_33)) ?_
        refine zt_cVi (pc' := 21) hX dX1_test_18 rfl zm_yX5_wordHere zw_22_21 zc_27 (by decide) zs_14 (q := (RX5, TX5, 9)) rfl rfl (yc_X5_wordHere _ _ s22 hI23 f hT26) rfl rfl (Nat.le_of_ble_eq_true rfl) (by decide) (fun r38 s39 hr40 hp41 => ?_)
        obtain ⟨rfl, q42, q43, z44⟩ := hp41
        rw [hE27] at z44
        refine zt_bipush (pc' := 23) hX dX1_test_21 rfl (by decide) (by decide) ?_
        refine zt_icne (pc' := 26) (tgt := 53) hX dX1_test_23 rfl (by decide) ⟨by omega, by omega⟩ ⟨by omega, by omega⟩ (fun c45 => ?_) (fun c45 => ?_)
        · exact zt_vret hX hR dX1_test_53 ⟨hI23, hF24, hT26, (by rw [hE27]; exact g30), (by rw [hE27]; exact g31), (by rw [hE27]; omega)⟩
        · refine zt_aload_n (pc' := 27) hX dX1_test_26 rfl rfl ?_
          refine zt_get (pc' := 30) (v := .ref (X.1.1 + 27)) hX dX1_test_27 rfl zf_X1_15 (by decide) zc_33 zs_20 (zrf_of (zv_20_0 hI23 zc_33)) ?_
          refine zt_cVv (pc' := 33) hX dX1_test_30 rfl zm_yX5_step zw_22_6 zc_27 (by decide) zs_14 (q := (RX5, TX5, 9)) rfl rfl (yc_X5_step _ _ s22 hI23 f hT26) rfl rfl (Nat.le_of_ble_eq_true rfl) (by decide) (fun r46 s47 hr48 hp49 => ?_)
          obtain ⟨hI50, hF51, hT52, z53⟩ := hp49
          have hE54 : yst s47 = yPx f p25 := by rw [z53, hE27]
          have hF55 := zOn_tr hF24 hF51 zi_r12
          have L56 : yle (yst σ) (yPx f p25) := yle_tr g31 (yle_x hT26 hE27)
          have b57 := zv_20_2 hI50 zc_33
          have e58 := hF51 33 2 rfl
          have g59 := yJ_tr g30 (yJ_ao ht (by omega))
          have I60 := yge_1 hT26 hE27 g32 (by omega)
          refine zt_aload_n (pc' := 34) hX dX1_test_33 rfl rfl ?_
          refine zt_iload_n (pc' := 35) hX dX1_test_34 rfl rfl ?_
          refine zt_cVv (pc' := 38) hX dX1_test_35 rfl zm_yX1_both zw_24_6 zc_33 (by decide) zs_20 (q := (RX1, TX1, 3)) rfl rfl (yc_X1_both_o4 _ _ s47 hI50 f hT52 rl (by omega) k hk ht) rfl rfl (Nat.le_of_ble_eq_true rfl) (by decide) (fun r61 s62 hr63 hp64 => ?_)
          obtain ⟨hI65, hF66, hT67, z68, z69, z70⟩ := hp64
          rw [hE54] at z68
          rw [hE54] at z69
          have hF71 := zOn_tr hF55 hF66 zi_id
          obtain ⟨p72, hE73⟩ : ∃ p, yst s62 = p := ⟨_, rfl⟩
          rw [hE73] at z68
          rw [hE73] at z69
          have L74 := yle_tr L56 z69
          rw [hE73] at z70
          have b75 := zv_20_2 hI65 zc_33
          have e76 := hF66 33 2 rfl
          have g77 := yJ_tr g59 z68
          have I78 := yge_l I60 z69
          refine zt_aload_n (pc' := 39) hX dX1_test_38 rfl rfl ?_
          obtain ⟨k79, ek80, hk81⟩ := zv_20_1 hI65 zc_33
          refine zt_get (pc' := 42) (v := .ref (X.1.1 + k79)) hX dX1_test_39 rfl zf_X1_19 (by decide) zc_33 zs_20 (zrf_of ek80) ?_
          refine zt_bipush (pc' := 44) hX dX1_test_42 rfl (by decide) (by decide) ?_
          refine zt_cVv (pc' := 47) hX dX1_test_44 rfl zm_yX4_addStep zw_22_7 hk81 (by decide) zs_6 (q := (RX4, TX4, 2)) rfl rfl (yc_X4_addStep _ _ s62 hI65 k79 hk81 21 ⟨by omega, by omega⟩) rfl rfl (Nat.le_of_ble_eq_true rfl) (by decide) (fun r82 s83 hr84 hp85 => ?_)
          obtain ⟨hI86, hF87⟩ := hp85
          have hF88 := zOn_tr hF71 hF87 zi_rp2
          have hT89 := yTk_rk hT67 (yRk_p hF87)
          have hE90 : yst s83 = p72 := (yst_rk (yRk_p hF87)).trans hE73
          have b91 := zv_20_2 hI86 zc_33
          have e92 := hF87 33 2 rfl
          refine zt_iinc (pc' := 50) (lv' := [some (.ref (X.1.1 + 33)), some (.int (zI 4)), some (.int (zI (x19 + 1)))]) hX dX1_test_47 rfl rfl hL (by decide) rfl ?_
          refine zt_goto (tgt := 7) hX dX1_test_50 (by decide) ?_
          exact ih35 (x19 + 1) s83 p72 (by omega) (by omega) hI86 hF88 hT89 hE90 (by omega) (by omega) g77 L74 I78 (by omega)
  exact L_7_32 _ 0 s3 p13 (by omega) (by omega) hI6 hF12 hT8 hE14 (by omega) (by omega) g18 L15 (yge_0 hT8 hE14) (Nat.lt_succ_self _)
set_option maxRecDepth 100000 in
set_option maxHeartbeats 4000000 in
theorem yc_X1_opens_o3 (l : Launch) (E : zEN) (σ : zSto) (hI : zInv σ) (f : Int → Int) (hT : yTk f σ) : zCt l E yX1_opens cX1_opens 2 (some .boolean) 1 zNC zNC 0 0 σ [.ref (E.1 + 33), .int (zI 3)] (fun r σ' => zInv σ' ∧ zOn zR1 σ σ' ∧ 1 ≤ r ∧ r ≤ 1 ∧ yTk f σ' ∧ ((yst σ') = yPx f (yst σ))) := by
  refine zCt_of2 [some (.ref (E.1 + 33)), some (.int (zI 3))] (by decide +kernel) (Nat.le_of_ble_eq_true rfl) rfl ?_
  intro X hE_ hX hR hL hN
  subst hE_
  have hX : zok X cX1_opens RX1 1 := hX
  have hF := zOn_rf zR1 σ
  have hE0 : yst σ = yst σ := rfl
  have L0 := yle_rf (yst σ)
  refine zt_iload_n (pc' := 1) hX dX1_opens_0 rfl rfl ?_
  refine zt_bipush (pc' := 3) hX dX1_opens_1 rfl (by decide) (by decide) ?_
  refine zt_iclt (pc' := 6) (tgt := 23) hX dX1_opens_3 rfl (by decide) ⟨by omega, by omega⟩ ⟨by omega, by omega⟩ (fun c1 => ?_) (fun c1 => ?_)
  · refine zt_aload_n (pc' := 24) hX dX1_opens_23 rfl rfl ?_
    refine zt_get (pc' := 27) (v := .ref (X.1.1 + 27)) hX dX1_opens_24 rfl zf_X1_15 (by decide) zc_33 zs_20 (zrf_of (zv_20_0 hI zc_33)) ?_
    refine zt_cVv (pc' := 30) hX dX1_opens_27 rfl zm_yX5_step zw_22_6 zc_27 (by decide) zs_14 (q := (RX5, TX5, 9)) rfl rfl (yc_X5_step _ _ σ hI f hT) rfl rfl (Nat.le_of_ble_eq_true rfl) (by decide) (fun r2 s3 hr4 hp5 => ?_)
    obtain ⟨hI6, hF7, hT8, z9⟩ := hp5
    have hE10 : yst s3 = yPx f (yst σ) := z9
    have hF11 := zOn_tr hF hF7 zi_id
    have L12 : yle (yst σ) (yPx f (yst σ)) := yle_tr L0 (yle_x hT hE0)
    refine zt_iconst (pc' := 31) hX dX1_opens_30 rfl ?_
    exact zt_zret hX hR dX1_opens_31 ⟨by omega, by omega⟩ ⟨hI6, hF11, by omega, by omega, hT8, hE10⟩
  · exact absurd c1 (by omega)
set_option maxRecDepth 100000 in
set_option maxHeartbeats 4000000 in
theorem yc_X1_pair_o3 (l : Launch) (E : zEN) (σ : zSto) (hI : zInv σ) (f : Int → Int) (hT : yTk f σ) (rl : Int) (hrl : σ 33 2 = rl) (k : List Nat) (hk : ydep k = 3) : zCt l E yX1_pair cX1_pair 2 none 14 zNC zNC 0 0 σ [.ref (E.1 + 33), .int (zI 3)] (fun r σ' => zInv σ' ∧ zOn zR2 σ σ' ∧ yTk f σ' ∧ (yJ rl f (3, k, (yst σ)) (2, k, (yst σ'))) ∧ (yle (yst σ) (yst σ'))) := by
  refine zCt_of2 [some (.ref (E.1 + 33)), some (.int (zI 3))] (by decide +kernel) (Nat.le_of_ble_eq_true rfl) rfl ?_
  intro X hE_ hX hR hL hN
  subst hE_
  have hX : zok X cX1_pair RX1 14 := hX
  have hF := zOn_rf zR2 σ
  have hE0 : yst σ = yst σ := rfl
  have L0 := yle_rf (yst σ)
  have b1 := zv_20_2 hI zc_33
  refine zt_aload_n (pc' := 1) hX dX1_pair_0 rfl rfl ?_
  refine zt_get (pc' := 4) (v := .ref (X.1.1 + 27)) hX dX1_pair_1 rfl zf_X1_15 (by decide) zc_33 zs_20 (zrf_of (zv_20_0 hI zc_33)) ?_
  refine zt_cVi (pc' := 7) hX dX1_pair_4 rfl zm_yX5_signHere zw_22_2 zc_27 (by decide) zs_14 (q := (RX5, TX5, 9)) rfl rfl (yc_X5_signHere _ _ σ hI f hT) rfl rfl (Nat.le_of_ble_eq_true rfl) (by decide) (fun r2 s3 hr4 hp5 => ?_)
  obtain ⟨rfl, q6, q7, z8⟩ := hp5
  refine zt_bipush (pc' := 9) hX dX1_pair_7 rfl (by decide) (by decide) ?_
  refine zt_iceq (pc' := 12) (tgt := 30) hX dX1_pair_9 rfl (by decide) ⟨by omega, by omega⟩ ⟨by omega, by omega⟩ (fun c9 => ?_) (fun c9 => ?_)
  · refine zt_aload_n (pc' := 31) hX dX1_pair_30 rfl rfl ?_
    refine zt_iload_n (pc' := 32) hX dX1_pair_31 rfl rfl ?_
    refine zt_cVz (pc' := 35) hX dX1_pair_32 rfl zm_yX1_opens zw_22_11 zc_33 (by decide) zs_20 (q := (RX1, TX1, 3)) rfl rfl (yc_X1_opens_o3 _ _ σ hI f hT) rfl rfl (Nat.le_of_ble_eq_true rfl) (by decide) (fun r10 s11 hr12 hp13 => ?_)
    obtain ⟨hI14, hF15, q16, q17, hT18, z19⟩ := hp13
    have hE20 : yst s11 = yPx f (yst σ) := z19
    have hF21 := zOn_tr hF hF15 zi_r12
    have L22 : yle (yst σ) (yPx f (yst σ)) := yle_tr L0 (yle_x hT hE0)
    have b23 := zv_20_2 hI14 zc_33
    have e24 := hF15 33 2 rfl
    refine zt_ifeq (pc' := 38) (tgt := 70) hX dX1_pair_35 rfl (by decide) ⟨by omega, by omega⟩ (fun c25 => ?_) (fun c25 => ?_)
    · exact absurd c25 (by omega)
    · refine zt_aload_n (pc' := 39) hX dX1_pair_38 rfl rfl ?_
      refine zt_iload_n (pc' := 40) hX dX1_pair_39 rfl rfl ?_
      refine zt_iconst (pc' := 41) hX dX1_pair_40 rfl ?_
      refine zt_iadd (pc' := 42) hX dX1_pair_41 rfl ?_
      rw [show (3 + 1 : Int) = 4 from rfl]
      refine zt_cVv (pc' := 45) hX dX1_pair_42 rfl zm_yX1_sum zw_21_19 zc_33 (by decide) zs_20 (q := (RX1, TX1, 3)) rfl rfl (yc_X1_sum_o4 _ _ s11 hI14 f hT18 rl (by omega) (2 :: k) (by show ydep k + 1 = _; omega) (Nat.ne_of_beq_eq_false rfl)) rfl rfl (Nat.le_of_ble_eq_true rfl) (by decide) (fun r26 s27 hr28 hp29 => ?_)
      obtain ⟨hI30, hF31, hT32, z33, z34, z35⟩ := hp29
      rw [hE20] at z33
      rw [hE20] at z34
      have hF36 := zOn_tr hF21 hF31 zi_id
      obtain ⟨p37, hE38⟩ : ∃ p, yst s27 = p := ⟨_, rfl⟩
      rw [hE38] at z33
      rw [hE38] at z34
      have L39 := yle_tr L22 z34
      rw [hE38] at z35
      have b40 := zv_20_2 hI30 zc_33
      have e41 := hF31 33 2 rfl
      refine zt_aload_n (pc' := 46) hX dX1_pair_45 rfl rfl ?_
      refine zt_get (pc' := 49) (v := .ref (X.1.1 + 27)) hX dX1_pair_46 rfl zf_X1_15 (by decide) zc_33 zs_20 (zrf_of (zv_20_0 hI30 zc_33)) ?_
      refine zt_bipush (pc' := 51) hX dX1_pair_49 rfl (by decide) (by decide) ?_
      refine zt_cVv (pc' := 54) hX dX1_pair_51 rfl zm_yX5_takeSign zw_22_15 zc_27 (by decide) zs_14 (q := (RX5, TX5, 9)) rfl rfl (yc_X5_takeSign _ _ s27 hI30 44 ⟨by omega, by omega⟩ f hT32) rfl rfl (Nat.le_of_ble_eq_true rfl) (by decide) (fun r42 s43 hr44 hp45 => ?_)
      obtain ⟨hI46, hF47, hT48, z49⟩ := hp45
      have hE50 : yst s43 = yPs f 44 p37 := by rw [z49, hE38]
      have hF51 := zOn_tr hF36 hF47 zi_r12
      have L52 : yle (yst σ) (yPs f 44 p37) := yle_tr L39 (yle_s hT32 hE38)
      have b53 := zv_20_2 hI46 zc_33
      have e54 := hF47 33 2 rfl
      refine zt_aload_n (pc' := 55) hX dX1_pair_54 rfl rfl ?_
      refine zt_iload_n (pc' := 56) hX dX1_pair_55 rfl rfl ?_
      refine zt_iconst (pc' := 57) hX dX1_pair_56 rfl ?_
      refine zt_iadd (pc' := 58) hX dX1_pair_57 rfl ?_
      rw [show (3 + 1 : Int) = 4 from rfl]
      refine zt_cVv (pc' := 61) hX dX1_pair_58 rfl zm_yX1_sum zw_21_19 zc_33 (by decide) zs_20 (q := (RX1, TX1, 3)) rfl rfl (yc_X1_sum_o4 _ _ s43 hI46 f hT48 rl (by omega) (3 :: k) (by show ydep k + 1 = _; omega) (Nat.ne_of_beq_eq_false rfl)) rfl rfl (Nat.le_of_ble_eq_true rfl) (by decide) (fun r55 s56 hr57 hp58 => ?_)
      obtain ⟨hI59, hF60, hT61, z62, z63, z64⟩ := hp58
      rw [hE50] at z62
      rw [hE50] at z63
      have hF65 := zOn_tr hF51 hF60 zi_id
      obtain ⟨p66, hE67⟩ : ∃ p, yst s56 = p := ⟨_, rfl⟩
      rw [hE67] at z62
      rw [hE67] at z63
      have L68 := yle_tr L52 z63
      rw [hE67] at z64
      have b69 := zv_20_2 hI59 zc_33
      have e70 := hF60 33 2 rfl
      refine zt_aload_n (pc' := 62) hX dX1_pair_61 rfl rfl ?_
      refine zt_get (pc' := 65) (v := .ref (X.1.1 + 27)) hX dX1_pair_62 rfl zf_X1_15 (by decide) zc_33 zs_20 (zrf_of (zv_20_0 hI59 zc_33)) ?_
      refine zt_bipush (pc' := 67) hX dX1_pair_65 rfl (by decide) (by decide) ?_
      refine zt_cVv (pc' := 70) hX dX1_pair_67 rfl zm_yX5_takeSign zw_22_15 zc_27 (by decide) zs_14 (q := (RX5, TX5, 9)) rfl rfl (yc_X5_takeSign _ _ s56 hI59 41 ⟨by omega, by omega⟩ f hT61) rfl rfl (Nat.le_of_ble_eq_true rfl) (by decide) (fun r71 s72 hr73 hp74 => ?_)
      obtain ⟨hI75, hF76, hT77, z78⟩ := hp74
      have hE79 : yst s72 = yPs f 41 p66 := by rw [z78, hE67]
      have hF80 := zOn_tr hF65 hF76 zi_r12
      have L81 : yle (yst σ) (yPs f 41 p66) := yle_tr L68 (yle_s hT61 hE67)
      have b82 := zv_20_2 hI75 zc_33
      have e83 := hF76 33 2 rfl
      exact zt_vret hX hR dX1_pair_70 ⟨hI75, hF80, hT77, (by rw [hE79]; exact yJ_tr (yJ_pr (by omega) (by omega)) (yJ_tr z33 (yJ_tr (yJ_cm z35) (yJ_tr z62 (yJ_cl (Or.inr rfl) z64))))), (by rw [hE79]; exact L81)⟩
  · refine zt_aload_n (pc' := 13) hX dX1_pair_12 rfl rfl ?_
    refine zt_get (pc' := 16) (v := .ref (X.1.1 + 27)) hX dX1_pair_13 rfl zf_X1_15 (by decide) zc_33 zs_20 (zrf_of (zv_20_0 hI zc_33)) ?_
    refine zt_iconst (pc' := 17) hX dX1_pair_16 rfl ?_
    refine zt_aload_n (pc' := 18) hX dX1_pair_17 rfl rfl ?_
    refine zt_get (pc' := 21) (v := .ref (X.1.1 + 27)) hX dX1_pair_18 rfl zf_X1_15 (by decide) zc_33 zs_20 (zrf_of (zv_20_0 hI zc_33)) ?_
    refine zt_cVi (pc' := 24) hX dX1_pair_21 rfl zm_yX5_placeHere zw_22_9 zc_27 (by decide) zs_14 (q := (RX5, TX5, 9)) rfl rfl (yc_X5_placeHere _ _ σ hI f hT) rfl rfl (Nat.le_of_ble_eq_true rfl) (by decide) (fun r84 s85 hr86 hp87 => ?_)
    obtain ⟨rfl, q88, q89, z90⟩ := hp87
    refine zt_cVv (pc' := 27) hX dX1_pair_24 rfl zm_yX5_refuse zw_22_10 zc_27 (by decide) zs_14 (q := (RX5, TX5, 9)) rfl rfl (yc_X5_refuse _ _ σ hI 1 ⟨by omega, by omega⟩ r84 ⟨by omega, by omega⟩ (by omega) f hT) rfl rfl (Nat.le_of_ble_eq_true rfl) (by decide) (fun r91 s92 hr93 hp94 => ?_)
    obtain ⟨hI95, hF96, hT97, z98⟩ := hp94
    have hE99 : yst s92 = yPno 1 r84 (yst σ) := z98
    have hF100 := zOn_tr hF hF96 zi_r12
    have L101 : yle (yst σ) (yPno 1 r84 (yst σ)) := yle_tr L0 yle_no
    have b102 := zv_20_2 hI95 zc_33
    have e103 := hF96 33 2 rfl
    refine zt_goto (tgt := 70) hX dX1_pair_27 (by decide) ?_
    exact zt_vret hX hR dX1_pair_70 ⟨hI95, hF100, hT97, (by rw [hE99, yPno_f (p := r84) (d := 0) (fun o => by omega)]; exact yJ_prn (by omega)), (by rw [hE99]; exact L101)⟩
set_option maxRecDepth 100000 in
set_option maxHeartbeats 4000000 in
theorem yc_X1_part_o3 (l : Launch) (E : zEN) (σ : zSto) (hI : zInv σ) (f : Int → Int) (hT : yTk f σ) (rl : Int) (hrl : σ 33 2 = rl) (k : List Nat) (hk : ydep k = 3) : zCt l E yX1_part cX1_part 4 none 15 zNC zNC 0 0 σ [.ref (E.1 + 33), .int (zI 3)] (fun r σ' => zInv σ' ∧ zOn zR2 σ σ' ∧ yTk f σ' ∧ (yJ rl f (1, k, (yst σ)) (2, k, (yst σ'))) ∧ (yle (yst σ) (yst σ'))) := by
  refine zCt_of2 [some (.ref (E.1 + 33)), some (.int (zI 3)), none, none] (by decide +kernel) (Nat.le_of_ble_eq_true rfl) rfl ?_
  intro X hE_ hX hR hL hN
  subst hE_
  have hX : zok X cX1_part RX1 15 := hX
  have hF := zOn_rf zR2 σ
  have hE0 : yst σ = yst σ := rfl
  have L0 := yle_rf (yst σ)
  have b1 := zv_20_2 hI zc_33
  refine zt_aload_n (pc' := 1) hX dX1_part_0 rfl rfl ?_
  refine zt_get (pc' := 4) (v := .ref (X.1.1 + 27)) hX dX1_part_1 rfl zf_X1_15 (by decide) zc_33 zs_20 (zrf_of (zv_20_0 hI zc_33)) ?_
  refine zt_cVi (pc' := 7) hX dX1_part_4 rfl zm_yX5_wordHere zw_22_21 zc_27 (by decide) zs_14 (q := (RX5, TX5, 9)) rfl rfl (yc_X5_wordHere _ _ σ hI f hT) rfl rfl (Nat.le_of_ble_eq_true rfl) (by decide) (fun r2 s3 hr4 hp5 => ?_)
  obtain ⟨rfl, q6, q7, z8⟩ := hp5
  refine zt_istore_n (pc' := 8) (lv' := [some (.ref (X.1.1 + 33)), some (.int (zI 3)), some (.int (zI r2)), none]) hX dX1_part_7 rfl hL (by decide) rfl ?_
  refine zt_aload_n (pc' := 9) hX dX1_part_8 rfl rfl ?_
  refine zt_get (pc' := 12) (v := .ref (X.1.1 + 27)) hX dX1_part_9 rfl zf_X1_15 (by decide) zc_33 zs_20 (zrf_of (zv_20_0 hI zc_33)) ?_
  refine zt_cVi (pc' := 15) hX dX1_part_12 rfl zm_yX5_kindHere zw_22_22 zc_27 (by decide) zs_14 (q := (RX5, TX5, 9)) rfl rfl (yc_X5_kindHere _ _ σ hI f hT) rfl rfl (Nat.le_of_ble_eq_true rfl) (by decide) (fun r9 s10 hr11 hp12 => ?_)
  obtain ⟨rfl, q13, q14, z15⟩ := hp12
  refine zt_istore_n (pc' := 16) (lv' := [some (.ref (X.1.1 + 33)), some (.int (zI 3)), some (.int (zI r2)), some (.int (zI r9))]) hX dX1_part_15 rfl hL (by decide) rfl ?_
  refine zt_iload_n (pc' := 17) hX dX1_part_16 rfl rfl ?_
  refine zt_iconst (pc' := 18) hX dX1_part_17 rfl ?_
  refine zt_iceq (pc' := 21) (tgt := 26) hX dX1_part_18 rfl (by decide) ⟨by omega, by omega⟩ ⟨by omega, by omega⟩ (fun c16 => ?_) (fun c16 => ?_)
  · refine zt_aload_n (pc' := 27) hX dX1_part_26 rfl rfl ?_
    obtain ⟨k17, ek18, hk19⟩ := zv_20_1 hI zc_33
    refine zt_get (pc' := 30) (v := .ref (X.1.1 + k17)) hX dX1_part_27 rfl zf_X1_19 (by decide) zc_33 zs_20 (zrf_of ek18) ?_
    refine zt_aload_n (pc' := 31) hX dX1_part_30 rfl rfl ?_
    refine zt_get (pc' := 34) (v := .ref (X.1.1 + 27)) hX dX1_part_31 rfl zf_X1_15 (by decide) zc_33 zs_20 (zrf_of (zv_20_0 hI zc_33)) ?_
    refine zt_iconst (pc' := 35) hX dX1_part_34 rfl ?_
    refine zt_sipush (pc' := 38) hX dX1_part_35 rfl (by decide) (by decide) ?_
    refine zt_cVi (pc' := 41) hX dX1_part_38 rfl zm_yX5_takeNumber zw_22_23 zc_27 (by decide) zs_14 (q := (RX5, TX5, 9)) rfl rfl (yc_X5_takeNumber _ _ σ hI 0 ⟨by omega, by omega⟩ 9999 ⟨by omega, by omega⟩ f hT) rfl rfl (Nat.le_of_ble_eq_true rfl) (by decide) (fun r20 s21 hr22 hp23 => ?_)
    obtain ⟨hI24, hF25, q26, q27, hT28, z29, z30, z31⟩ := hp23
    have hE32 : yst s21 = yPn f 0 9999 (yst σ) := z29
    have hF33 := zOn_tr hF hF25 zi_r12
    rw [hE32] at z30
    have L34 : yle (yst σ) (yPn f 0 9999 (yst σ)) := yle_tr L0 (yle_n hT hE0)
    have b35 := zv_20_2 hI24 zc_33
    have e36 := hF25 33 2 rfl
    refine zt_cVv (pc' := 44) hX dX1_part_41 rfl zm_yX4_addNumber zw_23_0 hk19 (by decide) zs_6 (q := (RX4, TX4, 2)) rfl rfl (yc_X4_addNumber _ _ s21 hI24 k17 hk19 r20 ⟨by omega, by omega⟩) rfl rfl (Nat.le_of_ble_eq_true rfl) (by decide) (fun r37 s38 hr39 hp40 => ?_)
    obtain ⟨hI41, hF42⟩ := hp40
    have hF43 := zOn_tr hF33 hF42 zi_rp2
    have hT44 := yTk_rk hT28 (yRk_p hF42)
    have hE45 : yst s38 = yPn f 0 9999 (yst σ) := (yst_rk (yRk_p hF42)).trans hE32
    have b46 := zv_20_2 hI41 zc_33
    have e47 := hF42 33 2 rfl
    refine zt_goto (tgt := 203) hX dX1_part_44 (by decide) ?_
    exact zt_vret hX hR dX1_part_203 ⟨hI41, hF43, hT44, (by rw [hE45]; exact yJ_num (by omega)), (by rw [hE45]; exact L34)⟩
  · refine zt_iload_n (pc' := 22) hX dX1_part_21 rfl rfl ?_
    refine zt_iconst (pc' := 23) hX dX1_part_22 rfl ?_
    refine zt_icne (pc' := 26) (tgt := 47) hX dX1_part_23 rfl (by decide) ⟨by omega, by omega⟩ ⟨by omega, by omega⟩ (fun c48 => ?_) (fun c48 => ?_)
    · refine zt_aload_n (pc' := 48) hX dX1_part_47 rfl rfl ?_
      refine zt_get (pc' := 51) (v := .ref (X.1.1 + 27)) hX dX1_part_48 rfl zf_X1_15 (by decide) zc_33 zs_20 (zrf_of (zv_20_0 hI zc_33)) ?_
      refine zt_cVi (pc' := 54) hX dX1_part_51 rfl zm_yX5_signHere zw_22_2 zc_27 (by decide) zs_14 (q := (RX5, TX5, 9)) rfl rfl (yc_X5_signHere _ _ σ hI f hT) rfl rfl (Nat.le_of_ble_eq_true rfl) (by decide) (fun r49 s50 hr51 hp52 => ?_)
      obtain ⟨rfl, q53, q54, z55⟩ := hp52
      refine zt_bipush (pc' := 56) hX dX1_part_54 rfl (by decide) (by decide) ?_
      refine zt_icne (pc' := 59) (tgt := 86) hX dX1_part_56 rfl (by decide) ⟨by omega, by omega⟩ ⟨by omega, by omega⟩ (fun c56 => ?_) (fun c56 => ?_)
      · refine zt_iload_n (pc' := 87) hX dX1_part_86 rfl rfl ?_
        refine zt_bipush (pc' := 89) hX dX1_part_87 rfl (by decide) (by decide) ?_
        refine zt_iceq (pc' := 92) (tgt := 98) hX dX1_part_89 rfl (by decide) ⟨by omega, by omega⟩ ⟨by omega, by omega⟩ (fun c57 => ?_) (fun c57 => ?_)
        · refine zt_aload_n (pc' := 99) hX dX1_part_98 rfl rfl ?_
          refine zt_get (pc' := 102) (v := .ref (X.1.1 + 27)) hX dX1_part_99 rfl zf_X1_15 (by decide) zc_33 zs_20 (zrf_of (zv_20_0 hI zc_33)) ?_
          refine zt_cVv (pc' := 105) hX dX1_part_102 rfl zm_yX5_step zw_22_6 zc_27 (by decide) zs_14 (q := (RX5, TX5, 9)) rfl rfl (yc_X5_step _ _ σ hI f hT) rfl rfl (Nat.le_of_ble_eq_true rfl) (by decide) (fun r58 s59 hr60 hp61 => ?_)
          obtain ⟨hI62, hF63, hT64, z65⟩ := hp61
          have hE66 : yst s59 = yPx f (yst σ) := z65
          have hF67 := zOn_tr hF hF63 zi_r12
          have L68 : yle (yst σ) (yPx f (yst σ)) := yle_tr L0 (yle_x hT hE0)
          have b69 := zv_20_2 hI62 zc_33
          have e70 := hF63 33 2 rfl
          refine zt_aload_n (pc' := 106) hX dX1_part_105 rfl rfl ?_
          refine zt_iload_n (pc' := 107) hX dX1_part_106 rfl rfl ?_
          refine zt_cVv (pc' := 110) hX dX1_part_107 rfl zm_yX1_pair zw_23_1 zc_33 (by decide) zs_20 (q := (RX1, TX1, 3)) rfl rfl (yc_X1_pair_o3 _ _ s59 hI62 f hT64 rl (by omega) k hk) rfl rfl (Nat.le_of_ble_eq_true rfl) (by decide) (fun r71 s72 hr73 hp74 => ?_)
          obtain ⟨hI75, hF76, hT77, z78, z79⟩ := hp74
          rw [hE66] at z78
          rw [hE66] at z79
          have hF80 := zOn_tr hF67 hF76 zi_id
          obtain ⟨p81, hE82⟩ : ∃ p, yst s72 = p := ⟨_, rfl⟩
          rw [hE82] at z78
          rw [hE82] at z79
          have L83 := yle_tr L68 z79
          have b84 := zv_20_2 hI75 zc_33
          have e85 := hF76 33 2 rfl
          refine zt_aload_n (pc' := 111) hX dX1_part_110 rfl rfl ?_
          obtain ⟨k86, ek87, hk88⟩ := zv_20_1 hI75 zc_33
          refine zt_get (pc' := 114) (v := .ref (X.1.1 + k86)) hX dX1_part_111 rfl zf_X1_19 (by decide) zc_33 zs_20 (zrf_of ek87) ?_
          refine zt_iload_n (pc' := 115) hX dX1_part_114 rfl rfl ?_
          refine zt_cVv (pc' := 118) hX dX1_part_115 rfl zm_yX4_addStep zw_22_7 hk88 (by decide) zs_6 (q := (RX4, TX4, 2)) rfl rfl (yc_X4_addStep _ _ s72 hI75 k86 hk88 r2 ⟨by omega, by omega⟩) rfl rfl (Nat.le_of_ble_eq_true rfl) (by decide) (fun r89 s90 hr91 hp92 => ?_)
          obtain ⟨hI93, hF94⟩ := hp92
          have hF95 := zOn_tr hF80 hF94 zi_rp2
          have hT96 := yTk_rk hT77 (yRk_p hF94)
          have hE97 : yst s90 = p81 := (yst_rk (yRk_p hF94)).trans hE82
          have b98 := zv_20_2 hI93 zc_33
          have e99 := hF94 33 2 rfl
          refine zt_goto (tgt := 203) hX dX1_part_118 (by decide) ?_
          exact zt_vret hX hR dX1_part_203 ⟨hI93, hF95, hT96, (by rw [hE97]; exact yJ_tr (yJ_mm (by omega)) z78), (by rw [hE97]; exact L83)⟩
        · refine zt_iload_n (pc' := 93) hX dX1_part_92 rfl rfl ?_
          refine zt_bipush (pc' := 95) hX dX1_part_93 rfl (by decide) (by decide) ?_
          refine zt_icne (pc' := 98) (tgt := 121) hX dX1_part_95 rfl (by decide) ⟨by omega, by omega⟩ ⟨by omega, by omega⟩ (fun c100 => ?_) (fun c100 => ?_)
          · refine zt_iload_n (pc' := 122) hX dX1_part_121 rfl rfl ?_
            refine zt_bipush (pc' := 124) hX dX1_part_122 rfl (by decide) (by decide) ?_
            refine zt_icne (pc' := 127) (tgt := 162) hX dX1_part_124 rfl (by decide) ⟨by omega, by omega⟩ ⟨by omega, by omega⟩ (fun c101 => ?_) (fun c101 => ?_)
            · refine zt_aload_n (pc' := 163) hX dX1_part_162 rfl rfl ?_
              refine zt_iload_n (pc' := 164) hX dX1_part_163 rfl rfl ?_
              refine zt_cVz (pc' := 167) hX dX1_part_164 rfl zm_yX1_isValue zw_23_7 zc_33 (by decide) zs_20 (q := (RX1, TX1, 3)) rfl rfl (yc_X1_isValue _ _ σ hI r2 ⟨by omega, by omega⟩) rfl rfl (Nat.le_of_ble_eq_true rfl) (by decide) (fun r102 s103 hr104 hp105 => ?_)
              obtain ⟨rfl, q106, q107, z108⟩ := hp105
              rw [hrl, z8] at z108
              refine zt_ifeq (pc' := 170) (tgt := 188) hX dX1_part_167 rfl (by decide) ⟨by omega, by omega⟩ (fun c109 => ?_) (fun c109 => ?_)
              · refine zt_aload_n (pc' := 189) hX dX1_part_188 rfl rfl ?_
                refine zt_get (pc' := 192) (v := .ref (X.1.1 + 27)) hX dX1_part_189 rfl zf_X1_15 (by decide) zc_33 zs_20 (zrf_of (zv_20_0 hI zc_33)) ?_
                refine zt_iconst (pc' := 193) hX dX1_part_192 rfl ?_
                refine zt_aload_n (pc' := 194) hX dX1_part_193 rfl rfl ?_
                refine zt_get (pc' := 197) (v := .ref (X.1.1 + 27)) hX dX1_part_194 rfl zf_X1_15 (by decide) zc_33 zs_20 (zrf_of (zv_20_0 hI zc_33)) ?_
                refine zt_cVi (pc' := 200) hX dX1_part_197 rfl zm_yX5_placeHere zw_22_9 zc_27 (by decide) zs_14 (q := (RX5, TX5, 9)) rfl rfl (yc_X5_placeHere _ _ σ hI f hT) rfl rfl (Nat.le_of_ble_eq_true rfl) (by decide) (fun r110 s111 hr112 hp113 => ?_)
                obtain ⟨rfl, q114, q115, z116⟩ := hp113
                refine zt_cVv (pc' := 203) hX dX1_part_200 rfl zm_yX5_refuse zw_22_10 zc_27 (by decide) zs_14 (q := (RX5, TX5, 9)) rfl rfl (yc_X5_refuse _ _ σ hI 1 ⟨by omega, by omega⟩ r110 ⟨by omega, by omega⟩ (by omega) f hT) rfl rfl (Nat.le_of_ble_eq_true rfl) (by decide) (fun r117 s118 hr119 hp120 => ?_)
                obtain ⟨hI121, hF122, hT123, z124⟩ := hp120
                have hE125 : yst s118 = yPno 1 r110 (yst σ) := z124
                have hF126 := zOn_tr hF hF122 zi_r12
                have L127 : yle (yst σ) (yPno 1 r110 (yst σ)) := yle_tr L0 yle_no
                have b128 := zv_20_2 hI121 zc_33
                have e129 := hF122 33 2 rfl
                exact zt_vret hX hR dX1_part_203 ⟨hI121, hF126, hT123, (by rw [hE125, yPno_f (p := r110) (d := 0) (fun o => by omega)]; exact yJ_bad (by omega) (by omega) (by omega) (by omega) (yVi_0 (by omega))), (by rw [hE125]; exact L127)⟩
              · refine zt_aload_n (pc' := 171) hX dX1_part_170 rfl rfl ?_
                refine zt_get (pc' := 174) (v := .ref (X.1.1 + 27)) hX dX1_part_171 rfl zf_X1_15 (by decide) zc_33 zs_20 (zrf_of (zv_20_0 hI zc_33)) ?_
                refine zt_cVv (pc' := 177) hX dX1_part_174 rfl zm_yX5_step zw_22_6 zc_27 (by decide) zs_14 (q := (RX5, TX5, 9)) rfl rfl (yc_X5_step _ _ σ hI f hT) rfl rfl (Nat.le_of_ble_eq_true rfl) (by decide) (fun r130 s131 hr132 hp133 => ?_)
                obtain ⟨hI134, hF135, hT136, z137⟩ := hp133
                have hE138 : yst s131 = yPx f (yst σ) := z137
                have hF139 := zOn_tr hF hF135 zi_r12
                have L140 : yle (yst σ) (yPx f (yst σ)) := yle_tr L0 (yle_x hT hE0)
                have b141 := zv_20_2 hI134 zc_33
                have e142 := hF135 33 2 rfl
                refine zt_aload_n (pc' := 178) hX dX1_part_177 rfl rfl ?_
                obtain ⟨k143, ek144, hk145⟩ := zv_20_1 hI134 zc_33
                refine zt_get (pc' := 181) (v := .ref (X.1.1 + k143)) hX dX1_part_178 rfl zf_X1_19 (by decide) zc_33 zs_20 (zrf_of ek144) ?_
                refine zt_iload_n (pc' := 182) hX dX1_part_181 rfl rfl ?_
                refine zt_cVv (pc' := 185) hX dX1_part_182 rfl zm_yX4_addStep zw_22_7 hk145 (by decide) zs_6 (q := (RX4, TX4, 2)) rfl rfl (yc_X4_addStep _ _ s131 hI134 k143 hk145 r2 ⟨by omega, by omega⟩) rfl rfl (Nat.le_of_ble_eq_true rfl) (by decide) (fun r146 s147 hr148 hp149 => ?_)
                obtain ⟨hI150, hF151⟩ := hp149
                have hF152 := zOn_tr hF139 hF151 zi_rp2
                have hT153 := yTk_rk hT136 (yRk_p hF151)
                have hE154 : yst s147 = yPx f (yst σ) := (yst_rk (yRk_p hF151)).trans hE138
                have b155 := zv_20_2 hI150 zc_33
                have e156 := hF151 33 2 rfl
                refine zt_goto (tgt := 203) hX dX1_part_185 (by decide) ?_
                exact zt_vret hX hR dX1_part_203 ⟨hI150, hF152, hT153, (by rw [hE154]; exact yJ_val (yVi_1 (by omega))), (by rw [hE154]; exact L140)⟩
            · refine zt_aload_n (pc' := 128) hX dX1_part_127 rfl rfl ?_
              have b157 := zv_20_2 hI zc_33
              refine zt_get (pc' := 131) (v := .int (zI (σ 33 2))) hX dX1_part_128 rfl zf_X1_9 (by decide) zc_33 zs_20 rfl ?_
              refine zt_iconst (pc' := 132) hX dX1_part_131 rfl ?_
              refine zt_icne (pc' := 135) (tgt := 162) hX dX1_part_132 rfl (by decide) ⟨by omega, by omega⟩ ⟨by omega, by omega⟩ (fun c158 => ?_) (fun c158 => ?_)
              · refine zt_aload_n (pc' := 163) hX dX1_part_162 rfl rfl ?_
                refine zt_iload_n (pc' := 164) hX dX1_part_163 rfl rfl ?_
                refine zt_cVz (pc' := 167) hX dX1_part_164 rfl zm_yX1_isValue zw_23_7 zc_33 (by decide) zs_20 (q := (RX1, TX1, 3)) rfl rfl (yc_X1_isValue _ _ σ hI r2 ⟨by omega, by omega⟩) rfl rfl (Nat.le_of_ble_eq_true rfl) (by decide) (fun r159 s160 hr161 hp162 => ?_)
                obtain ⟨rfl, q163, q164, z165⟩ := hp162
                rw [hrl, z8] at z165
                refine zt_ifeq (pc' := 170) (tgt := 188) hX dX1_part_167 rfl (by decide) ⟨by omega, by omega⟩ (fun c166 => ?_) (fun c166 => ?_)
                · refine zt_aload_n (pc' := 189) hX dX1_part_188 rfl rfl ?_
                  refine zt_get (pc' := 192) (v := .ref (X.1.1 + 27)) hX dX1_part_189 rfl zf_X1_15 (by decide) zc_33 zs_20 (zrf_of (zv_20_0 hI zc_33)) ?_
                  refine zt_iconst (pc' := 193) hX dX1_part_192 rfl ?_
                  refine zt_aload_n (pc' := 194) hX dX1_part_193 rfl rfl ?_
                  refine zt_get (pc' := 197) (v := .ref (X.1.1 + 27)) hX dX1_part_194 rfl zf_X1_15 (by decide) zc_33 zs_20 (zrf_of (zv_20_0 hI zc_33)) ?_
                  refine zt_cVi (pc' := 200) hX dX1_part_197 rfl zm_yX5_placeHere zw_22_9 zc_27 (by decide) zs_14 (q := (RX5, TX5, 9)) rfl rfl (yc_X5_placeHere _ _ σ hI f hT) rfl rfl (Nat.le_of_ble_eq_true rfl) (by decide) (fun r167 s168 hr169 hp170 => ?_)
                  obtain ⟨rfl, q171, q172, z173⟩ := hp170
                  refine zt_cVv (pc' := 203) hX dX1_part_200 rfl zm_yX5_refuse zw_22_10 zc_27 (by decide) zs_14 (q := (RX5, TX5, 9)) rfl rfl (yc_X5_refuse _ _ σ hI 1 ⟨by omega, by omega⟩ r167 ⟨by omega, by omega⟩ (by omega) f hT) rfl rfl (Nat.le_of_ble_eq_true rfl) (by decide) (fun r174 s175 hr176 hp177 => ?_)
                  obtain ⟨hI178, hF179, hT180, z181⟩ := hp177
                  have hE182 : yst s175 = yPno 1 r167 (yst σ) := z181
                  have hF183 := zOn_tr hF hF179 zi_r12
                  have L184 : yle (yst σ) (yPno 1 r167 (yst σ)) := yle_tr L0 yle_no
                  have b185 := zv_20_2 hI178 zc_33
                  have e186 := hF179 33 2 rfl
                  exact zt_vret hX hR dX1_part_203 ⟨hI178, hF183, hT180, (by rw [hE182, yPno_f (p := r167) (d := 0) (fun o => by omega)]; exact yJ_bad (by omega) (by omega) (by omega) (by omega) (yVi_0 (by omega))), (by rw [hE182]; exact L184)⟩
                · refine zt_aload_n (pc' := 171) hX dX1_part_170 rfl rfl ?_
                  refine zt_get (pc' := 174) (v := .ref (X.1.1 + 27)) hX dX1_part_171 rfl zf_X1_15 (by decide) zc_33 zs_20 (zrf_of (zv_20_0 hI zc_33)) ?_
                  refine zt_cVv (pc' := 177) hX dX1_part_174 rfl zm_yX5_step zw_22_6 zc_27 (by decide) zs_14 (q := (RX5, TX5, 9)) rfl rfl (yc_X5_step _ _ σ hI f hT) rfl rfl (Nat.le_of_ble_eq_true rfl) (by decide) (fun r187 s188 hr189 hp190 => ?_)
                  obtain ⟨hI191, hF192, hT193, z194⟩ := hp190
                  have hE195 : yst s188 = yPx f (yst σ) := z194
                  have hF196 := zOn_tr hF hF192 zi_r12
                  have L197 : yle (yst σ) (yPx f (yst σ)) := yle_tr L0 (yle_x hT hE0)
                  have b198 := zv_20_2 hI191 zc_33
                  have e199 := hF192 33 2 rfl
                  refine zt_aload_n (pc' := 178) hX dX1_part_177 rfl rfl ?_
                  obtain ⟨k200, ek201, hk202⟩ := zv_20_1 hI191 zc_33
                  refine zt_get (pc' := 181) (v := .ref (X.1.1 + k200)) hX dX1_part_178 rfl zf_X1_19 (by decide) zc_33 zs_20 (zrf_of ek201) ?_
                  refine zt_iload_n (pc' := 182) hX dX1_part_181 rfl rfl ?_
                  refine zt_cVv (pc' := 185) hX dX1_part_182 rfl zm_yX4_addStep zw_22_7 hk202 (by decide) zs_6 (q := (RX4, TX4, 2)) rfl rfl (yc_X4_addStep _ _ s188 hI191 k200 hk202 r2 ⟨by omega, by omega⟩) rfl rfl (Nat.le_of_ble_eq_true rfl) (by decide) (fun r203 s204 hr205 hp206 => ?_)
                  obtain ⟨hI207, hF208⟩ := hp206
                  have hF209 := zOn_tr hF196 hF208 zi_rp2
                  have hT210 := yTk_rk hT193 (yRk_p hF208)
                  have hE211 : yst s204 = yPx f (yst σ) := (yst_rk (yRk_p hF208)).trans hE195
                  have b212 := zv_20_2 hI207 zc_33
                  have e213 := hF208 33 2 rfl
                  refine zt_goto (tgt := 203) hX dX1_part_185 (by decide) ?_
                  exact zt_vret hX hR dX1_part_203 ⟨hI207, hF209, hT210, (by rw [hE211]; exact yJ_val (yVi_1 (by omega))), (by rw [hE211]; exact L197)⟩
              · refine zt_aload_n (pc' := 136) hX dX1_part_135 rfl rfl ?_
                refine zt_iload_n (pc' := 137) hX dX1_part_136 rfl rfl ?_
                refine zt_cVz (pc' := 140) hX dX1_part_137 rfl zm_yX1_opens zw_22_11 zc_33 (by decide) zs_20 (q := (RX1, TX1, 3)) rfl rfl (yc_X1_opens_o3 _ _ σ hI f hT) rfl rfl (Nat.le_of_ble_eq_true rfl) (by decide) (fun r214 s215 hr216 hp217 => ?_)
                obtain ⟨hI218, hF219, q220, q221, hT222, z223⟩ := hp217
                have hE224 : yst s215 = yPx f (yst σ) := z223
                have hF225 := zOn_tr hF hF219 zi_r12
                have L226 : yle (yst σ) (yPx f (yst σ)) := yle_tr L0 (yle_x hT hE0)
                have b227 := zv_20_2 hI218 zc_33
                have e228 := hF219 33 2 rfl
                refine zt_ifeq (pc' := 143) (tgt := 203) hX dX1_part_140 rfl (by decide) ⟨by omega, by omega⟩ (fun c229 => ?_) (fun c229 => ?_)
                · exact absurd c229 (by omega)
                · refine zt_aload_n (pc' := 144) hX dX1_part_143 rfl rfl ?_
                  refine zt_iload_n (pc' := 145) hX dX1_part_144 rfl rfl ?_
                  refine zt_iconst (pc' := 146) hX dX1_part_145 rfl ?_
                  refine zt_iadd (pc' := 147) hX dX1_part_146 rfl ?_
                  rw [show (3 + 1 : Int) = 4 from rfl]
                  refine zt_cVv (pc' := 150) hX dX1_part_147 rfl zm_yX1_part zw_23_4 zc_33 (by decide) zs_20 (q := (RX1, TX1, 3)) rfl rfl (yc_X1_part_o4 _ _ s215 hI218 f hT222 rl (by omega) (4 :: k) (by show ydep k + 1 = _; omega)) rfl rfl (Nat.le_of_ble_eq_true rfl) (by decide) (fun r230 s231 hr232 hp233 => ?_)
                  obtain ⟨hI234, hF235, hT236, z237, z238⟩ := hp233
                  rw [hE224] at z237
                  rw [hE224] at z238
                  have hF239 := zOn_tr hF225 hF235 zi_id
                  obtain ⟨p240, hE241⟩ : ∃ p, yst s231 = p := ⟨_, rfl⟩
                  rw [hE241] at z237
                  rw [hE241] at z238
                  have L242 := yle_tr L226 z238
                  have b243 := zv_20_2 hI234 zc_33
                  have e244 := hF235 33 2 rfl
                  refine zt_aload_n (pc' := 151) hX dX1_part_150 rfl rfl ?_
                  obtain ⟨k245, ek246, hk247⟩ := zv_20_1 hI234 zc_33
                  refine zt_get (pc' := 154) (v := .ref (X.1.1 + k245)) hX dX1_part_151 rfl zf_X1_19 (by decide) zc_33 zs_20 (zrf_of ek246) ?_
                  refine zt_bipush (pc' := 156) hX dX1_part_154 rfl (by decide) (by decide) ?_
                  refine zt_cVv (pc' := 159) hX dX1_part_156 rfl zm_yX4_addStep zw_22_7 hk247 (by decide) zs_6 (q := (RX4, TX4, 2)) rfl rfl (yc_X4_addStep _ _ s231 hI234 k245 hk247 20 ⟨by omega, by omega⟩) rfl rfl (Nat.le_of_ble_eq_true rfl) (by decide) (fun r248 s249 hr250 hp251 => ?_)
                  obtain ⟨hI252, hF253⟩ := hp251
                  have hF254 := zOn_tr hF239 hF253 zi_rp2
                  have hT255 := yTk_rk hT236 (yRk_p hF253)
                  have hE256 : yst s249 = p240 := (yst_rk (yRk_p hF253)).trans hE241
                  have b257 := zv_20_2 hI252 zc_33
                  have e258 := hF253 33 2 rfl
                  refine zt_goto (tgt := 203) hX dX1_part_159 (by decide) ?_
                  exact zt_vret hX hR dX1_part_203 ⟨hI252, hF254, hT255, (by rw [hE256]; exact yJ_tr (yJ_far (by omega) (by omega) (by omega)) (yJ_tr z237 yJ_of)), (by rw [hE256]; exact L242)⟩
          · refine zt_aload_n (pc' := 99) hX dX1_part_98 rfl rfl ?_
            refine zt_get (pc' := 102) (v := .ref (X.1.1 + 27)) hX dX1_part_99 rfl zf_X1_15 (by decide) zc_33 zs_20 (zrf_of (zv_20_0 hI zc_33)) ?_
            refine zt_cVv (pc' := 105) hX dX1_part_102 rfl zm_yX5_step zw_22_6 zc_27 (by decide) zs_14 (q := (RX5, TX5, 9)) rfl rfl (yc_X5_step _ _ σ hI f hT) rfl rfl (Nat.le_of_ble_eq_true rfl) (by decide) (fun r259 s260 hr261 hp262 => ?_)
            obtain ⟨hI263, hF264, hT265, z266⟩ := hp262
            have hE267 : yst s260 = yPx f (yst σ) := z266
            have hF268 := zOn_tr hF hF264 zi_r12
            have L269 : yle (yst σ) (yPx f (yst σ)) := yle_tr L0 (yle_x hT hE0)
            have b270 := zv_20_2 hI263 zc_33
            have e271 := hF264 33 2 rfl
            refine zt_aload_n (pc' := 106) hX dX1_part_105 rfl rfl ?_
            refine zt_iload_n (pc' := 107) hX dX1_part_106 rfl rfl ?_
            refine zt_cVv (pc' := 110) hX dX1_part_107 rfl zm_yX1_pair zw_23_1 zc_33 (by decide) zs_20 (q := (RX1, TX1, 3)) rfl rfl (yc_X1_pair_o3 _ _ s260 hI263 f hT265 rl (by omega) k hk) rfl rfl (Nat.le_of_ble_eq_true rfl) (by decide) (fun r272 s273 hr274 hp275 => ?_)
            obtain ⟨hI276, hF277, hT278, z279, z280⟩ := hp275
            rw [hE267] at z279
            rw [hE267] at z280
            have hF281 := zOn_tr hF268 hF277 zi_id
            obtain ⟨p282, hE283⟩ : ∃ p, yst s273 = p := ⟨_, rfl⟩
            rw [hE283] at z279
            rw [hE283] at z280
            have L284 := yle_tr L269 z280
            have b285 := zv_20_2 hI276 zc_33
            have e286 := hF277 33 2 rfl
            refine zt_aload_n (pc' := 111) hX dX1_part_110 rfl rfl ?_
            obtain ⟨k287, ek288, hk289⟩ := zv_20_1 hI276 zc_33
            refine zt_get (pc' := 114) (v := .ref (X.1.1 + k287)) hX dX1_part_111 rfl zf_X1_19 (by decide) zc_33 zs_20 (zrf_of ek288) ?_
            refine zt_iload_n (pc' := 115) hX dX1_part_114 rfl rfl ?_
            refine zt_cVv (pc' := 118) hX dX1_part_115 rfl zm_yX4_addStep zw_22_7 hk289 (by decide) zs_6 (q := (RX4, TX4, 2)) rfl rfl (yc_X4_addStep _ _ s273 hI276 k287 hk289 r2 ⟨by omega, by omega⟩) rfl rfl (Nat.le_of_ble_eq_true rfl) (by decide) (fun r290 s291 hr292 hp293 => ?_)
            obtain ⟨hI294, hF295⟩ := hp293
            have hF296 := zOn_tr hF281 hF295 zi_rp2
            have hT297 := yTk_rk hT278 (yRk_p hF295)
            have hE298 : yst s291 = p282 := (yst_rk (yRk_p hF295)).trans hE283
            have b299 := zv_20_2 hI294 zc_33
            have e300 := hF295 33 2 rfl
            refine zt_goto (tgt := 203) hX dX1_part_118 (by decide) ?_
            exact zt_vret hX hR dX1_part_203 ⟨hI294, hF296, hT297, (by rw [hE298]; exact yJ_tr (yJ_mm (by omega)) z279), (by rw [hE298]; exact L284)⟩
      · refine zt_aload_n (pc' := 60) hX dX1_part_59 rfl rfl ?_
        refine zt_iload_n (pc' := 61) hX dX1_part_60 rfl rfl ?_
        refine zt_cVz (pc' := 64) hX dX1_part_61 rfl zm_yX1_opens zw_22_11 zc_33 (by decide) zs_20 (q := (RX1, TX1, 3)) rfl rfl (yc_X1_opens_o3 _ _ σ hI f hT) rfl rfl (Nat.le_of_ble_eq_true rfl) (by decide) (fun r301 s302 hr303 hp304 => ?_)
        obtain ⟨hI305, hF306, q307, q308, hT309, z310⟩ := hp304
        have hE311 : yst s302 = yPx f (yst σ) := z310
        have hF312 := zOn_tr hF hF306 zi_r12
        have L313 : yle (yst σ) (yPx f (yst σ)) := yle_tr L0 (yle_x hT hE0)
        have b314 := zv_20_2 hI305 zc_33
        have e315 := hF306 33 2 rfl
        refine zt_ifeq (pc' := 67) (tgt := 203) hX dX1_part_64 rfl (by decide) ⟨by omega, by omega⟩ (fun c316 => ?_) (fun c316 => ?_)
        · exact absurd c316 (by omega)
        · refine zt_aload_n (pc' := 68) hX dX1_part_67 rfl rfl ?_
          refine zt_iload_n (pc' := 69) hX dX1_part_68 rfl rfl ?_
          refine zt_iconst (pc' := 70) hX dX1_part_69 rfl ?_
          refine zt_iadd (pc' := 71) hX dX1_part_70 rfl ?_
          rw [show (3 + 1 : Int) = 4 from rfl]
          refine zt_cVv (pc' := 74) hX dX1_part_71 rfl zm_yX1_sum zw_21_19 zc_33 (by decide) zs_20 (q := (RX1, TX1, 3)) rfl rfl (yc_X1_sum_o4 _ _ s302 hI305 f hT309 rl (by omega) (1 :: k) (by show ydep k + 1 = _; omega) (Nat.ne_of_beq_eq_false rfl)) rfl rfl (Nat.le_of_ble_eq_true rfl) (by decide) (fun r317 s318 hr319 hp320 => ?_)
          obtain ⟨hI321, hF322, hT323, z324, z325, z326⟩ := hp320
          rw [hE311] at z324
          rw [hE311] at z325
          have hF327 := zOn_tr hF312 hF322 zi_id
          obtain ⟨p328, hE329⟩ : ∃ p, yst s318 = p := ⟨_, rfl⟩
          rw [hE329] at z324
          rw [hE329] at z325
          have L330 := yle_tr L313 z325
          rw [hE329] at z326
          have b331 := zv_20_2 hI321 zc_33
          have e332 := hF322 33 2 rfl
          refine zt_aload_n (pc' := 75) hX dX1_part_74 rfl rfl ?_
          refine zt_get (pc' := 78) (v := .ref (X.1.1 + 27)) hX dX1_part_75 rfl zf_X1_15 (by decide) zc_33 zs_20 (zrf_of (zv_20_0 hI321 zc_33)) ?_
          refine zt_bipush (pc' := 80) hX dX1_part_78 rfl (by decide) (by decide) ?_
          refine zt_cVv (pc' := 83) hX dX1_part_80 rfl zm_yX5_takeSign zw_22_15 zc_27 (by decide) zs_14 (q := (RX5, TX5, 9)) rfl rfl (yc_X5_takeSign _ _ s318 hI321 41 ⟨by omega, by omega⟩ f hT323) rfl rfl (Nat.le_of_ble_eq_true rfl) (by decide) (fun r333 s334 hr335 hp336 => ?_)
          obtain ⟨hI337, hF338, hT339, z340⟩ := hp336
          have hE341 : yst s334 = yPs f 41 p328 := by rw [z340, hE329]
          have hF342 := zOn_tr hF327 hF338 zi_r12
          have L343 : yle (yst σ) (yPs f 41 p328) := yle_tr L330 (yle_s hT323 hE329)
          have b344 := zv_20_2 hI337 zc_33
          have e345 := hF338 33 2 rfl
          refine zt_goto (tgt := 203) hX dX1_part_83 (by decide) ?_
          exact zt_vret hX hR dX1_part_203 ⟨hI337, hF342, hT339, (by rw [hE341]; exact yJ_tr (yJ_op1 (by omega) (by omega)) (yJ_tr z324 (yJ_cl (Or.inl rfl) z326))), (by rw [hE341]; exact L343)⟩
    · refine zt_aload_n (pc' := 27) hX dX1_part_26 rfl rfl ?_
      obtain ⟨k346, ek347, hk348⟩ := zv_20_1 hI zc_33
      refine zt_get (pc' := 30) (v := .ref (X.1.1 + k346)) hX dX1_part_27 rfl zf_X1_19 (by decide) zc_33 zs_20 (zrf_of ek347) ?_
      refine zt_aload_n (pc' := 31) hX dX1_part_30 rfl rfl ?_
      refine zt_get (pc' := 34) (v := .ref (X.1.1 + 27)) hX dX1_part_31 rfl zf_X1_15 (by decide) zc_33 zs_20 (zrf_of (zv_20_0 hI zc_33)) ?_
      refine zt_iconst (pc' := 35) hX dX1_part_34 rfl ?_
      refine zt_sipush (pc' := 38) hX dX1_part_35 rfl (by decide) (by decide) ?_
      refine zt_cVi (pc' := 41) hX dX1_part_38 rfl zm_yX5_takeNumber zw_22_23 zc_27 (by decide) zs_14 (q := (RX5, TX5, 9)) rfl rfl (yc_X5_takeNumber _ _ σ hI 0 ⟨by omega, by omega⟩ 9999 ⟨by omega, by omega⟩ f hT) rfl rfl (Nat.le_of_ble_eq_true rfl) (by decide) (fun r349 s350 hr351 hp352 => ?_)
      obtain ⟨hI353, hF354, q355, q356, hT357, z358, z359, z360⟩ := hp352
      have hE361 : yst s350 = yPn f 0 9999 (yst σ) := z358
      have hF362 := zOn_tr hF hF354 zi_r12
      rw [hE361] at z359
      have L363 : yle (yst σ) (yPn f 0 9999 (yst σ)) := yle_tr L0 (yle_n hT hE0)
      have b364 := zv_20_2 hI353 zc_33
      have e365 := hF354 33 2 rfl
      refine zt_cVv (pc' := 44) hX dX1_part_41 rfl zm_yX4_addNumber zw_23_0 hk348 (by decide) zs_6 (q := (RX4, TX4, 2)) rfl rfl (yc_X4_addNumber _ _ s350 hI353 k346 hk348 r349 ⟨by omega, by omega⟩) rfl rfl (Nat.le_of_ble_eq_true rfl) (by decide) (fun r366 s367 hr368 hp369 => ?_)
      obtain ⟨hI370, hF371⟩ := hp369
      have hF372 := zOn_tr hF362 hF371 zi_rp2
      have hT373 := yTk_rk hT357 (yRk_p hF371)
      have hE374 : yst s367 = yPn f 0 9999 (yst σ) := (yst_rk (yRk_p hF371)).trans hE361
      have b375 := zv_20_2 hI370 zc_33
      have e376 := hF371 33 2 rfl
      refine zt_goto (tgt := 203) hX dX1_part_44 (by decide) ?_
      exact zt_vret hX hR dX1_part_203 ⟨hI370, hF372, hT373, (by rw [hE374]; exact yJ_num (by omega)), (by rw [hE374]; exact L363)⟩
set_option maxRecDepth 100000 in
set_option maxHeartbeats 4000000 in
theorem yc_X1_product_o3 (l : Launch) (E : zEN) (σ : zSto) (hI : zInv σ) (f : Int → Int) (hT : yTk f σ) (rl : Int) (hrl : σ 33 2 = rl) (k : List Nat) (hk : ydep k = 3) (ht : ytop k ≠ 4) : zCt l E yX1_product cX1_product 4 none 16 zNC zNC 0 0 σ [.ref (E.1 + 33), .int (zI 3)] (fun r σ' => zInv σ' ∧ zOn zR2 σ σ' ∧ yTk f σ' ∧ (yJ rl f (1, k, (yst σ)) (2, k, (yst σ'))) ∧ (yle (yst σ) (yst σ')) ∧ (yPg f (yst σ') ≠ 42 ∧ yPg f (yst σ') ≠ 47)) := by
  refine zCt_of2 [some (.ref (E.1 + 33)), some (.int (zI 3)), none, none] (by decide +kernel) (Nat.le_of_ble_eq_true rfl) rfl ?_
  intro X hE_ hX hR hL hN
  subst hE_
  have hX : zok X cX1_product RX1 16 := hX
  have hF := zOn_rf zR2 σ
  have hE0 : yst σ = yst σ := rfl
  have L0 := yle_rf (yst σ)
  have b1 := zv_20_2 hI zc_33
  refine zt_aload_n (pc' := 1) hX dX1_product_0 rfl rfl ?_
  refine zt_iload_n (pc' := 2) hX dX1_product_1 rfl rfl ?_
  refine zt_cVv (pc' := 5) hX dX1_product_2 rfl zm_yX1_part zw_23_4 zc_33 (by decide) zs_20 (q := (RX1, TX1, 3)) rfl rfl (yc_X1_part_o3 _ _ σ hI f hT rl (by omega) k hk) rfl rfl (Nat.le_of_ble_eq_true rfl) (by decide) (fun r2 s3 hr4 hp5 => ?_)
  obtain ⟨hI6, hF7, hT8, z9, z10⟩ := hp5
  have hF11 := zOn_tr hF hF7 zi_id
  obtain ⟨p12, hE13⟩ : ∃ p, yst s3 = p := ⟨_, rfl⟩
  rw [hE13] at z9
  rw [hE13] at z10
  have L14 := yle_tr L0 z10
  have b15 := zv_20_2 hI6 zc_33
  have e16 := hF7 33 2 rfl
  have g17 := z9
  refine zt_iconst (pc' := 6) hX dX1_product_5 rfl ?_
  refine zt_istore_n (pc' := 7) (lv' := [some (.ref (X.1.1 + 33)), some (.int (zI 3)), some (.int (zI 0)), none]) hX dX1_product_6 rfl hL (by decide) rfl ?_
  have L_7_30 : ∀ (N : Nat) (x18 : Int) (s21 : zSto) (p24 : yP), 0 ≤ x18 → x18 ≤ 1600 → zInv s21 → zOn zR2 σ s21 → yTk f s21 → yst s21 = p24 → s21 33 2 = σ 33 2 → yJ rl f (1, k, yst σ) (2, k, p24) → yle (yst σ) p24 → yge x18 p24 → ((1601 - x18).toNat) < N → zF X s21 7 [some (.ref (X.1.1 + 33)), some (.int (zI 3)), some (.int (zI x18)), none] [] := by
    intro N
    induction N with
    | zero =>
      intro x18 s21 p24 h19 h20 hI22 hF23 hT25 hE26 g27 g28 g29 g30 hm32
      exact absurd hm32 (Nat.not_lt_zero _)
    | succ N ih33 =>
      intro x18 s21 p24 h19 h20 hI22 hF23 hT25 hE26 g27 g28 g29 g30 hm32
      have b34 := zv_20_2 hI22 zc_33
      have hx := yge_x hT25 hE26 g30
      refine zt_iload_n (pc' := 8) hX dX1_product_7 rfl rfl ?_
      refine zt_sipush (pc' := 11) hX dX1_product_8 rfl (by decide) (by decide) ?_
      refine zt_icge (pc' := 14) (tgt := 72) hX dX1_product_11 rfl (by decide) ⟨by omega, by omega⟩ ⟨by omega, by omega⟩ (fun c35 => ?_) (fun c35 => ?_)
      · exact zt_vret hX hR dX1_product_72 ⟨hI22, hF23, hT25, (by rw [hE26]; exact g28), (by rw [hE26]; exact g29), (by rw [hE26]; omega)⟩
      · refine zt_aload_n (pc' := 15) hX dX1_product_14 rfl rfl ?_
        refine zt_get (pc' := 18) (v := .ref (X.1.1 + 27)) hX dX1_product_15 rfl zf_X1_15 (by decide) zc_33 zs_20 (zrf_of (zv_20_0 hI22 zc_33)) ?_
        refine zt_cVi (pc' := 21) hX dX1_product_18 rfl zm_yX5_signHere zw_22_2 zc_27 (by decide) zs_14 (q := (RX5, TX5, 9)) rfl rfl (yc_X5_signHere _ _ s21 hI22 f hT25) rfl rfl (Nat.le_of_ble_eq_true rfl) (by decide) (fun r36 s37 hr38 hp39 => ?_)
        obtain ⟨rfl, q40, q41, z42⟩ := hp39
        rw [hE26] at z42
        refine zt_bipush (pc' := 23) hX dX1_product_21 rfl (by decide) (by decide) ?_
        refine zt_iceq (pc' := 26) (tgt := 38) hX dX1_product_23 rfl (by decide) ⟨by omega, by omega⟩ ⟨by omega, by omega⟩ (fun c43 => ?_) (fun c43 => ?_)
        · refine zt_aload_n (pc' := 39) hX dX1_product_38 rfl rfl ?_
          refine zt_get (pc' := 42) (v := .ref (X.1.1 + 27)) hX dX1_product_39 rfl zf_X1_15 (by decide) zc_33 zs_20 (zrf_of (zv_20_0 hI22 zc_33)) ?_
          refine zt_cVi (pc' := 45) hX dX1_product_42 rfl zm_yX5_signHere zw_22_2 zc_27 (by decide) zs_14 (q := (RX5, TX5, 9)) rfl rfl (yc_X5_signHere _ _ s21 hI22 f hT25) rfl rfl (Nat.le_of_ble_eq_true rfl) (by decide) (fun r44 s45 hr46 hp47 => ?_)
          obtain ⟨rfl, q48, q49, z50⟩ := hp47
          rw [hE26] at z50
          refine zt_istore_n (pc' := 46) (lv' := [some (.ref (X.1.1 + 33)), some (.int (zI 3)), some (.int (zI x18)), some (.int (zI r44))]) hX dX1_product_45 rfl hL (by decide) rfl ?_
          refine zt_aload_n (pc' := 47) hX dX1_product_46 rfl rfl ?_
          refine zt_get (pc' := 50) (v := .ref (X.1.1 + 27)) hX dX1_product_47 rfl zf_X1_15 (by decide) zc_33 zs_20 (zrf_of (zv_20_0 hI22 zc_33)) ?_
          refine zt_cVv (pc' := 53) hX dX1_product_50 rfl zm_yX5_step zw_22_6 zc_27 (by decide) zs_14 (q := (RX5, TX5, 9)) rfl rfl (yc_X5_step _ _ s21 hI22 f hT25) rfl rfl (Nat.le_of_ble_eq_true rfl) (by decide) (fun r51 s52 hr53 hp54 => ?_)
          obtain ⟨hI55, hF56, hT57, z58⟩ := hp54
          have hE59 : yst s52 = yPx f p24 := by rw [z58, hE26]
          have hF60 := zOn_tr hF23 hF56 zi_r12
          have L61 : yle (yst σ) (yPx f p24) := yle_tr g29 (yle_x hT25 hE26)
          have b62 := zv_20_2 hI55 zc_33
          have e63 := hF56 33 2 rfl
          have g64 := yJ_tr g28 (yJ_o ht (by omega))
          have I65 := yge_1 hT25 hE26 g30 (by omega)
          refine zt_aload_n (pc' := 54) hX dX1_product_53 rfl rfl ?_
          refine zt_iload_n (pc' := 55) hX dX1_product_54 rfl rfl ?_
          refine zt_cVv (pc' := 58) hX dX1_product_55 rfl zm_yX1_part zw_23_4 zc_33 (by decide) zs_20 (q := (RX1, TX1, 3)) rfl rfl (yc_X1_part_o3 _ _ s52 hI55 f hT57 rl (by omega) k hk) rfl rfl (Nat.le_of_ble_eq_true rfl) (by decide) (fun r66 s67 hr68 hp69 => ?_)
          obtain ⟨hI70, hF71, hT72, z73, z74⟩ := hp69
          rw [hE59] at z73
          rw [hE59] at z74
          have hF75 := zOn_tr hF60 hF71 zi_id
          obtain ⟨p76, hE77⟩ : ∃ p, yst s67 = p := ⟨_, rfl⟩
          rw [hE77] at z73
          rw [hE77] at z74
          have L78 := yle_tr L61 z74
          have b79 := zv_20_2 hI70 zc_33
          have e80 := hF71 33 2 rfl
          have g81 := yJ_tr g64 z73
          have I82 := yge_l I65 z74
          refine zt_aload_n (pc' := 59) hX dX1_product_58 rfl rfl ?_
          obtain ⟨k83, ek84, hk85⟩ := zv_20_1 hI70 zc_33
          refine zt_get (pc' := 62) (v := .ref (X.1.1 + k83)) hX dX1_product_59 rfl zf_X1_19 (by decide) zc_33 zs_20 (zrf_of ek84) ?_
          refine zt_iload_n (pc' := 63) hX dX1_product_62 rfl rfl ?_
          refine zt_cVv (pc' := 66) hX dX1_product_63 rfl zm_yX4_addStep zw_22_7 hk85 (by decide) zs_6 (q := (RX4, TX4, 2)) rfl rfl (yc_X4_addStep _ _ s67 hI70 k83 hk85 r44 ⟨by omega, by omega⟩) rfl rfl (Nat.le_of_ble_eq_true rfl) (by decide) (fun r86 s87 hr88 hp89 => ?_)
          obtain ⟨hI90, hF91⟩ := hp89
          have hF92 := zOn_tr hF75 hF91 zi_rp2
          have hT93 := yTk_rk hT72 (yRk_p hF91)
          have hE94 : yst s87 = p76 := (yst_rk (yRk_p hF91)).trans hE77
          have b95 := zv_20_2 hI90 zc_33
          have e96 := hF91 33 2 rfl
          refine zt_iinc (pc' := 69) (lv' := [some (.ref (X.1.1 + 33)), some (.int (zI 3)), some (.int (zI (x18 + 1))), some (.int (zI r44))]) hX dX1_product_66 rfl rfl hL (by decide) rfl ?_
          refine zt_goto (tgt := 7) hX dX1_product_69 (by decide) ?_
          refine zt_mask [true, true, true, false] rfl ?_
          exact ih33 (x18 + 1) s87 p76 (by omega) (by omega) hI90 hF92 hT93 hE94 (by omega) g81 L78 I82 (by omega)
        · refine zt_aload_n (pc' := 27) hX dX1_product_26 rfl rfl ?_
          refine zt_get (pc' := 30) (v := .ref (X.1.1 + 27)) hX dX1_product_27 rfl zf_X1_15 (by decide) zc_33 zs_20 (zrf_of (zv_20_0 hI22 zc_33)) ?_
          refine zt_cVi (pc' := 33) hX dX1_product_30 rfl zm_yX5_signHere zw_22_2 zc_27 (by decide) zs_14 (q := (RX5, TX5, 9)) rfl rfl (yc_X5_signHere _ _ s21 hI22 f hT25) rfl rfl (Nat.le_of_ble_eq_true rfl) (by decide) (fun r97 s98 hr99 hp100 => ?_)
          obtain ⟨rfl, q101, q102, z103⟩ := hp100
          rw [hE26] at z103
          refine zt_bipush (pc' := 35) hX dX1_product_33 rfl (by decide) (by decide) ?_
          refine zt_icne (pc' := 38) (tgt := 72) hX dX1_product_35 rfl (by decide) ⟨by omega, by omega⟩ ⟨by omega, by omega⟩ (fun c104 => ?_) (fun c104 => ?_)
          · exact zt_vret hX hR dX1_product_72 ⟨hI22, hF23, hT25, (by rw [hE26]; exact g28), (by rw [hE26]; exact g29), (by rw [hE26]; omega)⟩
          · refine zt_aload_n (pc' := 39) hX dX1_product_38 rfl rfl ?_
            refine zt_get (pc' := 42) (v := .ref (X.1.1 + 27)) hX dX1_product_39 rfl zf_X1_15 (by decide) zc_33 zs_20 (zrf_of (zv_20_0 hI22 zc_33)) ?_
            refine zt_cVi (pc' := 45) hX dX1_product_42 rfl zm_yX5_signHere zw_22_2 zc_27 (by decide) zs_14 (q := (RX5, TX5, 9)) rfl rfl (yc_X5_signHere _ _ s21 hI22 f hT25) rfl rfl (Nat.le_of_ble_eq_true rfl) (by decide) (fun r105 s106 hr107 hp108 => ?_)
            obtain ⟨rfl, q109, q110, z111⟩ := hp108
            rw [hE26] at z111
            refine zt_istore_n (pc' := 46) (lv' := [some (.ref (X.1.1 + 33)), some (.int (zI 3)), some (.int (zI x18)), some (.int (zI r105))]) hX dX1_product_45 rfl hL (by decide) rfl ?_
            refine zt_aload_n (pc' := 47) hX dX1_product_46 rfl rfl ?_
            refine zt_get (pc' := 50) (v := .ref (X.1.1 + 27)) hX dX1_product_47 rfl zf_X1_15 (by decide) zc_33 zs_20 (zrf_of (zv_20_0 hI22 zc_33)) ?_
            refine zt_cVv (pc' := 53) hX dX1_product_50 rfl zm_yX5_step zw_22_6 zc_27 (by decide) zs_14 (q := (RX5, TX5, 9)) rfl rfl (yc_X5_step _ _ s21 hI22 f hT25) rfl rfl (Nat.le_of_ble_eq_true rfl) (by decide) (fun r112 s113 hr114 hp115 => ?_)
            obtain ⟨hI116, hF117, hT118, z119⟩ := hp115
            have hE120 : yst s113 = yPx f p24 := by rw [z119, hE26]
            have hF121 := zOn_tr hF23 hF117 zi_r12
            have L122 : yle (yst σ) (yPx f p24) := yle_tr g29 (yle_x hT25 hE26)
            have b123 := zv_20_2 hI116 zc_33
            have e124 := hF117 33 2 rfl
            have g125 := yJ_tr g28 (yJ_o ht (by omega))
            have I126 := yge_1 hT25 hE26 g30 (by omega)
            refine zt_aload_n (pc' := 54) hX dX1_product_53 rfl rfl ?_
            refine zt_iload_n (pc' := 55) hX dX1_product_54 rfl rfl ?_
            refine zt_cVv (pc' := 58) hX dX1_product_55 rfl zm_yX1_part zw_23_4 zc_33 (by decide) zs_20 (q := (RX1, TX1, 3)) rfl rfl (yc_X1_part_o3 _ _ s113 hI116 f hT118 rl (by omega) k hk) rfl rfl (Nat.le_of_ble_eq_true rfl) (by decide) (fun r127 s128 hr129 hp130 => ?_)
            obtain ⟨hI131, hF132, hT133, z134, z135⟩ := hp130
            rw [hE120] at z134
            rw [hE120] at z135
            have hF136 := zOn_tr hF121 hF132 zi_id
            obtain ⟨p137, hE138⟩ : ∃ p, yst s128 = p := ⟨_, rfl⟩
            rw [hE138] at z134
            rw [hE138] at z135
            have L139 := yle_tr L122 z135
            have b140 := zv_20_2 hI131 zc_33
            have e141 := hF132 33 2 rfl
            have g142 := yJ_tr g125 z134
            have I143 := yge_l I126 z135
            refine zt_aload_n (pc' := 59) hX dX1_product_58 rfl rfl ?_
            obtain ⟨k144, ek145, hk146⟩ := zv_20_1 hI131 zc_33
            refine zt_get (pc' := 62) (v := .ref (X.1.1 + k144)) hX dX1_product_59 rfl zf_X1_19 (by decide) zc_33 zs_20 (zrf_of ek145) ?_
            refine zt_iload_n (pc' := 63) hX dX1_product_62 rfl rfl ?_
            refine zt_cVv (pc' := 66) hX dX1_product_63 rfl zm_yX4_addStep zw_22_7 hk146 (by decide) zs_6 (q := (RX4, TX4, 2)) rfl rfl (yc_X4_addStep _ _ s128 hI131 k144 hk146 r105 ⟨by omega, by omega⟩) rfl rfl (Nat.le_of_ble_eq_true rfl) (by decide) (fun r147 s148 hr149 hp150 => ?_)
            obtain ⟨hI151, hF152⟩ := hp150
            have hF153 := zOn_tr hF136 hF152 zi_rp2
            have hT154 := yTk_rk hT133 (yRk_p hF152)
            have hE155 : yst s148 = p137 := (yst_rk (yRk_p hF152)).trans hE138
            have b156 := zv_20_2 hI151 zc_33
            have e157 := hF152 33 2 rfl
            refine zt_iinc (pc' := 69) (lv' := [some (.ref (X.1.1 + 33)), some (.int (zI 3)), some (.int (zI (x18 + 1))), some (.int (zI r105))]) hX dX1_product_66 rfl rfl hL (by decide) rfl ?_
            refine zt_goto (tgt := 7) hX dX1_product_69 (by decide) ?_
            refine zt_mask [true, true, true, false] rfl ?_
            exact ih33 (x18 + 1) s148 p137 (by omega) (by omega) hI151 hF153 hT154 hE155 (by omega) g142 L139 I143 (by omega)
  exact L_7_30 _ 0 s3 p12 (by omega) (by omega) hI6 hF11 hT8 hE13 (by omega) g17 L14 (yge_0 hT8 hE13) (Nat.lt_succ_self _)
set_option maxRecDepth 100000 in
set_option maxHeartbeats 4000000 in
theorem yc_X1_sum_o3 (l : Launch) (E : zEN) (σ : zSto) (hI : zInv σ) (f : Int → Int) (hT : yTk f σ) (rl : Int) (hrl : σ 33 2 = rl) (k : List Nat) (hk : ydep k = 3) (ht : ytop k ≠ 4) : zCt l E yX1_sum cX1_sum 4 none 17 zNC zNC 0 0 σ [.ref (E.1 + 33), .int (zI 3)] (fun r σ' => zInv σ' ∧ zOn zR2 σ σ' ∧ yTk f σ' ∧ (yJ rl f (1, k, (yst σ)) (2, k, (yst σ'))) ∧ (yle (yst σ) (yst σ')) ∧ (yPg f (yst σ') ≠ 42 ∧ yPg f (yst σ') ≠ 47 ∧ yPg f (yst σ') ≠ 43 ∧ yPg f (yst σ') ≠ 45)) := by
  refine zCt_of2 [some (.ref (E.1 + 33)), some (.int (zI 3)), none, none] (by decide +kernel) (Nat.le_of_ble_eq_true rfl) rfl ?_
  intro X hE_ hX hR hL hN
  subst hE_
  have hX : zok X cX1_sum RX1 17 := hX
  have hF := zOn_rf zR2 σ
  have hE0 : yst σ = yst σ := rfl
  have L0 := yle_rf (yst σ)
  have b1 := zv_20_2 hI zc_33
  refine zt_aload_n (pc' := 1) hX dX1_sum_0 rfl rfl ?_
  refine zt_iload_n (pc' := 2) hX dX1_sum_1 rfl rfl ?_
  refine zt_cVv (pc' := 5) hX dX1_sum_2 rfl zm_yX1_product zw_21_23 zc_33 (by decide) zs_20 (q := (RX1, TX1, 3)) rfl rfl (yc_X1_product_o3 _ _ σ hI f hT rl (by omega) k hk ht) rfl rfl (Nat.le_of_ble_eq_true rfl) (by decide) (fun r2 s3 hr4 hp5 => ?_)
  obtain ⟨hI6, hF7, hT8, z9, z10, z11⟩ := hp5
  have hF12 := zOn_tr hF hF7 zi_id
  obtain ⟨p13, hE14⟩ : ∃ p, yst s3 = p := ⟨_, rfl⟩
  rw [hE14] at z9
  rw [hE14] at z10
  have L15 := yle_tr L0 z10
  rw [hE14] at z11
  have b16 := zv_20_2 hI6 zc_33
  have e17 := hF7 33 2 rfl
  have g18 := z9
  refine zt_iconst (pc' := 6) hX dX1_sum_5 rfl ?_
  refine zt_istore_n (pc' := 7) (lv' := [some (.ref (X.1.1 + 33)), some (.int (zI 3)), some (.int (zI 0)), none]) hX dX1_sum_6 rfl hL (by decide) rfl ?_
  have L_7_32 : ∀ (N : Nat) (x19 : Int) (s22 : zSto) (p25 : yP), 0 ≤ x19 → x19 ≤ 1600 → zInv s22 → zOn zR2 σ s22 → yTk f s22 → yst s22 = p25 → (yPg f p25 ≠ 42 ∧ yPg f p25 ≠ 47) → s22 33 2 = σ 33 2 → yJ rl f (1, k, yst σ) (2, k, p25) → yle (yst σ) p25 → yge x19 p25 → ((1601 - x19).toNat) < N → zF X s22 7 [some (.ref (X.1.1 + 33)), some (.int (zI 3)), some (.int (zI x19)), none] [] := by
    intro N
    induction N with
    | zero =>
      intro x19 s22 p25 h20 h21 hI23 hF24 hT26 hE27 g28 g29 g30 g31 g32 hm34
      exact absurd hm34 (Nat.not_lt_zero _)
    | succ N ih35 =>
      intro x19 s22 p25 h20 h21 hI23 hF24 hT26 hE27 g28 g29 g30 g31 g32 hm34
      have b36 := zv_20_2 hI23 zc_33
      have hx := yge_x hT26 hE27 g32
      refine zt_iload_n (pc' := 8) hX dX1_sum_7 rfl rfl ?_
      refine zt_sipush (pc' := 11) hX dX1_sum_8 rfl (by decide) (by decide) ?_
      refine zt_icge (pc' := 14) (tgt := 72) hX dX1_sum_11 rfl (by decide) ⟨by omega, by omega⟩ ⟨by omega, by omega⟩ (fun c37 => ?_) (fun c37 => ?_)
      · exact zt_vret hX hR dX1_sum_72 ⟨hI23, hF24, hT26, (by rw [hE27]; exact g30), (by rw [hE27]; exact g31), (by rw [hE27]; omega)⟩
      · refine zt_aload_n (pc' := 15) hX dX1_sum_14 rfl rfl ?_
        refine zt_get (pc' := 18) (v := .ref (X.1.1 + 27)) hX dX1_sum_15 rfl zf_X1_15 (by decide) zc_33 zs_20 (zrf_of (zv_20_0 hI23 zc_33)) ?_
        refine zt_cVi (pc' := 21) hX dX1_sum_18 rfl zm_yX5_signHere zw_22_2 zc_27 (by decide) zs_14 (q := (RX5, TX5, 9)) rfl rfl (yc_X5_signHere _ _ s22 hI23 f hT26) rfl rfl (Nat.le_of_ble_eq_true rfl) (by decide) (fun r38 s39 hr40 hp41 => ?_)
        obtain ⟨rfl, q42, q43, z44⟩ := hp41
        rw [hE27] at z44
        refine zt_bipush (pc' := 23) hX dX1_sum_21 rfl (by decide) (by decide) ?_
        refine zt_iceq (pc' := 26) (tgt := 38) hX dX1_sum_23 rfl (by decide) ⟨by omega, by omega⟩ ⟨by omega, by omega⟩ (fun c45 => ?_) (fun c45 => ?_)
        · refine zt_aload_n (pc' := 39) hX dX1_sum_38 rfl rfl ?_
          refine zt_get (pc' := 42) (v := .ref (X.1.1 + 27)) hX dX1_sum_39 rfl zf_X1_15 (by decide) zc_33 zs_20 (zrf_of (zv_20_0 hI23 zc_33)) ?_
          refine zt_cVi (pc' := 45) hX dX1_sum_42 rfl zm_yX5_signHere zw_22_2 zc_27 (by decide) zs_14 (q := (RX5, TX5, 9)) rfl rfl (yc_X5_signHere _ _ s22 hI23 f hT26) rfl rfl (Nat.le_of_ble_eq_true rfl) (by decide) (fun r46 s47 hr48 hp49 => ?_)
          obtain ⟨rfl, q50, q51, z52⟩ := hp49
          rw [hE27] at z52
          refine zt_istore_n (pc' := 46) (lv' := [some (.ref (X.1.1 + 33)), some (.int (zI 3)), some (.int (zI x19)), some (.int (zI r46))]) hX dX1_sum_45 rfl hL (by decide) rfl ?_
          refine zt_aload_n (pc' := 47) hX dX1_sum_46 rfl rfl ?_
          refine zt_get (pc' := 50) (v := .ref (X.1.1 + 27)) hX dX1_sum_47 rfl zf_X1_15 (by decide) zc_33 zs_20 (zrf_of (zv_20_0 hI23 zc_33)) ?_
          refine zt_cVv (pc' := 53) hX dX1_sum_50 rfl zm_yX5_step zw_22_6 zc_27 (by decide) zs_14 (q := (RX5, TX5, 9)) rfl rfl (yc_X5_step _ _ s22 hI23 f hT26) rfl rfl (Nat.le_of_ble_eq_true rfl) (by decide) (fun r53 s54 hr55 hp56 => ?_)
          obtain ⟨hI57, hF58, hT59, z60⟩ := hp56
          have hE61 : yst s54 = yPx f p25 := by rw [z60, hE27]
          have hF62 := zOn_tr hF24 hF58 zi_r12
          have L63 : yle (yst σ) (yPx f p25) := yle_tr g31 (yle_x hT26 hE27)
          have b64 := zv_20_2 hI57 zc_33
          have e65 := hF58 33 2 rfl
          have g66 := yJ_tr g30 (yJ_o ht (by omega))
          have I67 := yge_1 hT26 hE27 g32 (by omega)
          refine zt_aload_n (pc' := 54) hX dX1_sum_53 rfl rfl ?_
          refine zt_iload_n (pc' := 55) hX dX1_sum_54 rfl rfl ?_
          refine zt_cVv (pc' := 58) hX dX1_sum_55 rfl zm_yX1_product zw_21_23 zc_33 (by decide) zs_20 (q := (RX1, TX1, 3)) rfl rfl (yc_X1_product_o3 _ _ s54 hI57 f hT59 rl (by omega) k hk ht) rfl rfl (Nat.le_of_ble_eq_true rfl) (by decide) (fun r68 s69 hr70 hp71 => ?_)
          obtain ⟨hI72, hF73, hT74, z75, z76, z77⟩ := hp71
          rw [hE61] at z75
          rw [hE61] at z76
          have hF78 := zOn_tr hF62 hF73 zi_id
          obtain ⟨p79, hE80⟩ : ∃ p, yst s69 = p := ⟨_, rfl⟩
          rw [hE80] at z75
          rw [hE80] at z76
          have L81 := yle_tr L63 z76
          rw [hE80] at z77
          have b82 := zv_20_2 hI72 zc_33
          have e83 := hF73 33 2 rfl
          have g84 := yJ_tr g66 z75
          have I85 := yge_l I67 z76
          refine zt_aload_n (pc' := 59) hX dX1_sum_58 rfl rfl ?_
          obtain ⟨k86, ek87, hk88⟩ := zv_20_1 hI72 zc_33
          refine zt_get (pc' := 62) (v := .ref (X.1.1 + k86)) hX dX1_sum_59 rfl zf_X1_19 (by decide) zc_33 zs_20 (zrf_of ek87) ?_
          refine zt_iload_n (pc' := 63) hX dX1_sum_62 rfl rfl ?_
          refine zt_cVv (pc' := 66) hX dX1_sum_63 rfl zm_yX4_addStep zw_22_7 hk88 (by decide) zs_6 (q := (RX4, TX4, 2)) rfl rfl (yc_X4_addStep _ _ s69 hI72 k86 hk88 r46 ⟨by omega, by omega⟩) rfl rfl (Nat.le_of_ble_eq_true rfl) (by decide) (fun r89 s90 hr91 hp92 => ?_)
          obtain ⟨hI93, hF94⟩ := hp92
          have hF95 := zOn_tr hF78 hF94 zi_rp2
          have hT96 := yTk_rk hT74 (yRk_p hF94)
          have hE97 : yst s90 = p79 := (yst_rk (yRk_p hF94)).trans hE80
          have b98 := zv_20_2 hI93 zc_33
          have e99 := hF94 33 2 rfl
          refine zt_iinc (pc' := 69) (lv' := [some (.ref (X.1.1 + 33)), some (.int (zI 3)), some (.int (zI (x19 + 1))), some (.int (zI r46))]) hX dX1_sum_66 rfl rfl hL (by decide) rfl ?_
          refine zt_goto (tgt := 7) hX dX1_sum_69 (by decide) ?_
          refine zt_mask [true, true, true, false] rfl ?_
          exact ih35 (x19 + 1) s90 p79 (by omega) (by omega) hI93 hF95 hT96 hE97 (by omega) (by omega) g84 L81 I85 (by omega)
        · refine zt_aload_n (pc' := 27) hX dX1_sum_26 rfl rfl ?_
          refine zt_get (pc' := 30) (v := .ref (X.1.1 + 27)) hX dX1_sum_27 rfl zf_X1_15 (by decide) zc_33 zs_20 (zrf_of (zv_20_0 hI23 zc_33)) ?_
          refine zt_cVi (pc' := 33) hX dX1_sum_30 rfl zm_yX5_signHere zw_22_2 zc_27 (by decide) zs_14 (q := (RX5, TX5, 9)) rfl rfl (yc_X5_signHere _ _ s22 hI23 f hT26) rfl rfl (Nat.le_of_ble_eq_true rfl) (by decide) (fun r100 s101 hr102 hp103 => ?_)
          obtain ⟨rfl, q104, q105, z106⟩ := hp103
          rw [hE27] at z106
          refine zt_bipush (pc' := 35) hX dX1_sum_33 rfl (by decide) (by decide) ?_
          refine zt_icne (pc' := 38) (tgt := 72) hX dX1_sum_35 rfl (by decide) ⟨by omega, by omega⟩ ⟨by omega, by omega⟩ (fun c107 => ?_) (fun c107 => ?_)
          · exact zt_vret hX hR dX1_sum_72 ⟨hI23, hF24, hT26, (by rw [hE27]; exact g30), (by rw [hE27]; exact g31), (by rw [hE27]; omega)⟩
          · refine zt_aload_n (pc' := 39) hX dX1_sum_38 rfl rfl ?_
            refine zt_get (pc' := 42) (v := .ref (X.1.1 + 27)) hX dX1_sum_39 rfl zf_X1_15 (by decide) zc_33 zs_20 (zrf_of (zv_20_0 hI23 zc_33)) ?_
            refine zt_cVi (pc' := 45) hX dX1_sum_42 rfl zm_yX5_signHere zw_22_2 zc_27 (by decide) zs_14 (q := (RX5, TX5, 9)) rfl rfl (yc_X5_signHere _ _ s22 hI23 f hT26) rfl rfl (Nat.le_of_ble_eq_true rfl) (by decide) (fun r108 s109 hr110 hp111 => ?_)
            obtain ⟨rfl, q112, q113, z114⟩ := hp111
            rw [hE27] at z114
            refine zt_istore_n (pc' := 46) (lv' := [some (.ref (X.1.1 + 33)), some (.int (zI 3)), some (.int (zI x19)), some (.int (zI r108))]) hX dX1_sum_45 rfl hL (by decide) rfl ?_
            refine zt_aload_n (pc' := 47) hX dX1_sum_46 rfl rfl ?_
            refine zt_get (pc' := 50) (v := .ref (X.1.1 + 27)) hX dX1_sum_47 rfl zf_X1_15 (by decide) zc_33 zs_20 (zrf_of (zv_20_0 hI23 zc_33)) ?_
            refine zt_cVv (pc' := 53) hX dX1_sum_50 rfl zm_yX5_step zw_22_6 zc_27 (by decide) zs_14 (q := (RX5, TX5, 9)) rfl rfl (yc_X5_step _ _ s22 hI23 f hT26) rfl rfl (Nat.le_of_ble_eq_true rfl) (by decide) (fun r115 s116 hr117 hp118 => ?_)
            obtain ⟨hI119, hF120, hT121, z122⟩ := hp118
            have hE123 : yst s116 = yPx f p25 := by rw [z122, hE27]
            have hF124 := zOn_tr hF24 hF120 zi_r12
            have L125 : yle (yst σ) (yPx f p25) := yle_tr g31 (yle_x hT26 hE27)
            have b126 := zv_20_2 hI119 zc_33
            have e127 := hF120 33 2 rfl
            have g128 := yJ_tr g30 (yJ_o ht (by omega))
            have I129 := yge_1 hT26 hE27 g32 (by omega)
            refine zt_aload_n (pc' := 54) hX dX1_sum_53 rfl rfl ?_
            refine zt_iload_n (pc' := 55) hX dX1_sum_54 rfl rfl ?_
            refine zt_cVv (pc' := 58) hX dX1_sum_55 rfl zm_yX1_product zw_21_23 zc_33 (by decide) zs_20 (q := (RX1, TX1, 3)) rfl rfl (yc_X1_product_o3 _ _ s116 hI119 f hT121 rl (by omega) k hk ht) rfl rfl (Nat.le_of_ble_eq_true rfl) (by decide) (fun r130 s131 hr132 hp133 => ?_)
            obtain ⟨hI134, hF135, hT136, z137, z138, z139⟩ := hp133
            rw [hE123] at z137
            rw [hE123] at z138
            have hF140 := zOn_tr hF124 hF135 zi_id
            obtain ⟨p141, hE142⟩ : ∃ p, yst s131 = p := ⟨_, rfl⟩
            rw [hE142] at z137
            rw [hE142] at z138
            have L143 := yle_tr L125 z138
            rw [hE142] at z139
            have b144 := zv_20_2 hI134 zc_33
            have e145 := hF135 33 2 rfl
            have g146 := yJ_tr g128 z137
            have I147 := yge_l I129 z138
            refine zt_aload_n (pc' := 59) hX dX1_sum_58 rfl rfl ?_
            obtain ⟨k148, ek149, hk150⟩ := zv_20_1 hI134 zc_33
            refine zt_get (pc' := 62) (v := .ref (X.1.1 + k148)) hX dX1_sum_59 rfl zf_X1_19 (by decide) zc_33 zs_20 (zrf_of ek149) ?_
            refine zt_iload_n (pc' := 63) hX dX1_sum_62 rfl rfl ?_
            refine zt_cVv (pc' := 66) hX dX1_sum_63 rfl zm_yX4_addStep zw_22_7 hk150 (by decide) zs_6 (q := (RX4, TX4, 2)) rfl rfl (yc_X4_addStep _ _ s131 hI134 k148 hk150 r108 ⟨by omega, by omega⟩) rfl rfl (Nat.le_of_ble_eq_true rfl) (by decide) (fun r151 s152 hr153 hp154 => ?_)
            obtain ⟨hI155, hF156⟩ := hp154
            have hF157 := zOn_tr hF140 hF156 zi_rp2
            have hT158 := yTk_rk hT136 (yRk_p hF156)
            have hE159 : yst s152 = p141 := (yst_rk (yRk_p hF156)).trans hE142
            have b160 := zv_20_2 hI155 zc_33
            have e161 := hF156 33 2 rfl
            refine zt_iinc (pc' := 69) (lv' := [some (.ref (X.1.1 + 33)), some (.int (zI 3)), some (.int (zI (x19 + 1))), some (.int (zI r108))]) hX dX1_sum_66 rfl rfl hL (by decide) rfl ?_
            refine zt_goto (tgt := 7) hX dX1_sum_69 (by decide) ?_
            refine zt_mask [true, true, true, false] rfl ?_
            exact ih35 (x19 + 1) s152 p141 (by omega) (by omega) hI155 hF157 hT158 hE159 (by omega) (by omega) g146 L143 I147 (by omega)
  exact L_7_32 _ 0 s3 p13 (by omega) (by omega) hI6 hF12 hT8 hE14 (by omega) (by omega) g18 L15 (yge_0 hT8 hE14) (Nat.lt_succ_self _)
set_option maxRecDepth 100000 in
set_option maxHeartbeats 4000000 in
theorem yc_X1_comparison_o3 (l : Launch) (E : zEN) (σ : zSto) (hI : zInv σ) (f : Int → Int) (hT : yTk f σ) (rl : Int) (hrl : σ 33 2 = rl) (k : List Nat) (hk : ydep k = 3) : zCt l E yX1_comparison cX1_comparison 3 none 18 zNC zNC 0 0 σ [.ref (E.1 + 33), .int (zI 3)] (fun r σ' => zInv σ' ∧ zOn zR2 σ σ' ∧ yTk f σ' ∧ (yJ rl f (1, 5 :: k, (yst σ)) (5, k, (yst σ'))) ∧ (yle (yst σ) (yst σ'))) := by
  refine zCt_of2 [some (.ref (E.1 + 33)), some (.int (zI 3)), none] (by decide +kernel) (Nat.le_of_ble_eq_true rfl) rfl ?_
  intro X hE_ hX hR hL hN
  subst hE_
  have hX : zok X cX1_comparison RX1 18 := hX
  have hF := zOn_rf zR2 σ
  have hE0 : yst σ = yst σ := rfl
  have L0 := yle_rf (yst σ)
  have b1 := zv_20_2 hI zc_33
  refine zt_aload_n (pc' := 1) hX dX1_comparison_0 rfl rfl ?_
  refine zt_iload_n (pc' := 2) hX dX1_comparison_1 rfl rfl ?_
  refine zt_cVv (pc' := 5) hX dX1_comparison_2 rfl zm_yX1_sum zw_21_19 zc_33 (by decide) zs_20 (q := (RX1, TX1, 3)) rfl rfl (yc_X1_sum_o3 _ _ σ hI f hT rl (by omega) (5 :: k) hk (Nat.ne_of_beq_eq_false rfl)) rfl rfl (Nat.le_of_ble_eq_true rfl) (by decide) (fun r2 s3 hr4 hp5 => ?_)
  obtain ⟨hI6, hF7, hT8, z9, z10, z11⟩ := hp5
  have hF12 := zOn_tr hF hF7 zi_id
  obtain ⟨p13, hE14⟩ : ∃ p, yst s3 = p := ⟨_, rfl⟩
  rw [hE14] at z9
  rw [hE14] at z10
  have L15 := yle_tr L0 z10
  rw [hE14] at z11
  have b16 := zv_20_2 hI6 zc_33
  have e17 := hF7 33 2 rfl
  refine zt_aload_n (pc' := 6) hX dX1_comparison_5 rfl rfl ?_
  refine zt_get (pc' := 9) (v := .ref (X.1.1 + 27)) hX dX1_comparison_6 rfl zf_X1_15 (by decide) zc_33 zs_20 (zrf_of (zv_20_0 hI6 zc_33)) ?_
  refine zt_cVi (pc' := 12) hX dX1_comparison_9 rfl zm_yX5_signHere zw_22_2 zc_27 (by decide) zs_14 (q := (RX5, TX5, 9)) rfl rfl (yc_X5_signHere _ _ s3 hI6 f hT8) rfl rfl (Nat.le_of_ble_eq_true rfl) (by decide) (fun r18 s19 hr20 hp21 => ?_)
  obtain ⟨rfl, q22, q23, z24⟩ := hp21
  rw [hE14] at z24
  refine zt_istore_n (pc' := 13) (lv' := [some (.ref (X.1.1 + 33)), some (.int (zI 3)), some (.int (zI r18))]) hX dX1_comparison_12 rfl hL (by decide) rfl ?_
  refine zt_iload_n (pc' := 14) hX dX1_comparison_13 rfl rfl ?_
  refine zt_bipush (pc' := 16) hX dX1_comparison_14 rfl (by decide) (by decide) ?_
  refine zt_iceq (pc' := 19) (tgt := 31) hX dX1_comparison_16 rfl (by decide) ⟨by omega, by omega⟩ ⟨by omega, by omega⟩ (fun c25 => ?_) (fun c25 => ?_)
  · refine zt_aload_n (pc' := 32) hX dX1_comparison_31 rfl rfl ?_
    refine zt_get (pc' := 35) (v := .ref (X.1.1 + 27)) hX dX1_comparison_32 rfl zf_X1_15 (by decide) zc_33 zs_20 (zrf_of (zv_20_0 hI6 zc_33)) ?_
    refine zt_cVv (pc' := 38) hX dX1_comparison_35 rfl zm_yX5_step zw_22_6 zc_27 (by decide) zs_14 (q := (RX5, TX5, 9)) rfl rfl (yc_X5_step _ _ s3 hI6 f hT8) rfl rfl (Nat.le_of_ble_eq_true rfl) (by decide) (fun r26 s27 hr28 hp29 => ?_)
    obtain ⟨hI30, hF31, hT32, z33⟩ := hp29
    have hE34 : yst s27 = yPx f p13 := by rw [z33, hE14]
    have hF35 := zOn_tr hF12 hF31 zi_r12
    have L36 : yle (yst σ) (yPx f p13) := yle_tr L15 (yle_x hT8 hE14)
    have b37 := zv_20_2 hI30 zc_33
    have e38 := hF31 33 2 rfl
    refine zt_aload_n (pc' := 39) hX dX1_comparison_38 rfl rfl ?_
    refine zt_iload_n (pc' := 40) hX dX1_comparison_39 rfl rfl ?_
    refine zt_cVv (pc' := 43) hX dX1_comparison_40 rfl zm_yX1_sum zw_21_19 zc_33 (by decide) zs_20 (q := (RX1, TX1, 3)) rfl rfl (yc_X1_sum_o3 _ _ s27 hI30 f hT32 rl (by omega) (6 :: k) hk (Nat.ne_of_beq_eq_false rfl)) rfl rfl (Nat.le_of_ble_eq_true rfl) (by decide) (fun r39 s40 hr41 hp42 => ?_)
    obtain ⟨hI43, hF44, hT45, z46, z47, z48⟩ := hp42
    rw [hE34] at z46
    rw [hE34] at z47
    have hF49 := zOn_tr hF35 hF44 zi_id
    obtain ⟨p50, hE51⟩ : ∃ p, yst s40 = p := ⟨_, rfl⟩
    rw [hE51] at z46
    rw [hE51] at z47
    have L52 := yle_tr L36 z47
    rw [hE51] at z48
    have b53 := zv_20_2 hI43 zc_33
    have e54 := hF44 33 2 rfl
    refine zt_aload_n (pc' := 44) hX dX1_comparison_43 rfl rfl ?_
    obtain ⟨k55, ek56, hk57⟩ := zv_20_1 hI43 zc_33
    refine zt_get (pc' := 47) (v := .ref (X.1.1 + k55)) hX dX1_comparison_44 rfl zf_X1_19 (by decide) zc_33 zs_20 (zrf_of ek56) ?_
    refine zt_iload_n (pc' := 48) hX dX1_comparison_47 rfl rfl ?_
    refine zt_cVv (pc' := 51) hX dX1_comparison_48 rfl zm_yX4_addStep zw_22_7 hk57 (by decide) zs_6 (q := (RX4, TX4, 2)) rfl rfl (yc_X4_addStep _ _ s40 hI43 k55 hk57 r18 ⟨by omega, by omega⟩) rfl rfl (Nat.le_of_ble_eq_true rfl) (by decide) (fun r58 s59 hr60 hp61 => ?_)
    obtain ⟨hI62, hF63⟩ := hp61
    have hF64 := zOn_tr hF49 hF63 zi_rp2
    have hT65 := yTk_rk hT45 (yRk_p hF63)
    have hE66 : yst s59 = p50 := (yst_rk (yRk_p hF63)).trans hE51
    have b67 := zv_20_2 hI62 zc_33
    have e68 := hF63 33 2 rfl
    refine zt_goto (tgt := 69) hX dX1_comparison_51 (by decide) ?_
    exact zt_vret hX hR dX1_comparison_69 ⟨hI62, hF64, hT65, (by rw [hE66]; exact yJ_tr z9 (yJ_tr (yJ_cs (by omega)) (yJ_tr z46 (yJ_ce z48)))), (by rw [hE66]; exact L52)⟩
  · refine zt_iload_n (pc' := 20) hX dX1_comparison_19 rfl rfl ?_
    refine zt_bipush (pc' := 22) hX dX1_comparison_20 rfl (by decide) (by decide) ?_
    refine zt_iceq (pc' := 25) (tgt := 31) hX dX1_comparison_22 rfl (by decide) ⟨by omega, by omega⟩ ⟨by omega, by omega⟩ (fun c69 => ?_) (fun c69 => ?_)
    · refine zt_aload_n (pc' := 32) hX dX1_comparison_31 rfl rfl ?_
      refine zt_get (pc' := 35) (v := .ref (X.1.1 + 27)) hX dX1_comparison_32 rfl zf_X1_15 (by decide) zc_33 zs_20 (zrf_of (zv_20_0 hI6 zc_33)) ?_
      refine zt_cVv (pc' := 38) hX dX1_comparison_35 rfl zm_yX5_step zw_22_6 zc_27 (by decide) zs_14 (q := (RX5, TX5, 9)) rfl rfl (yc_X5_step _ _ s3 hI6 f hT8) rfl rfl (Nat.le_of_ble_eq_true rfl) (by decide) (fun r70 s71 hr72 hp73 => ?_)
      obtain ⟨hI74, hF75, hT76, z77⟩ := hp73
      have hE78 : yst s71 = yPx f p13 := by rw [z77, hE14]
      have hF79 := zOn_tr hF12 hF75 zi_r12
      have L80 : yle (yst σ) (yPx f p13) := yle_tr L15 (yle_x hT8 hE14)
      have b81 := zv_20_2 hI74 zc_33
      have e82 := hF75 33 2 rfl
      refine zt_aload_n (pc' := 39) hX dX1_comparison_38 rfl rfl ?_
      refine zt_iload_n (pc' := 40) hX dX1_comparison_39 rfl rfl ?_
      refine zt_cVv (pc' := 43) hX dX1_comparison_40 rfl zm_yX1_sum zw_21_19 zc_33 (by decide) zs_20 (q := (RX1, TX1, 3)) rfl rfl (yc_X1_sum_o3 _ _ s71 hI74 f hT76 rl (by omega) (6 :: k) hk (Nat.ne_of_beq_eq_false rfl)) rfl rfl (Nat.le_of_ble_eq_true rfl) (by decide) (fun r83 s84 hr85 hp86 => ?_)
      obtain ⟨hI87, hF88, hT89, z90, z91, z92⟩ := hp86
      rw [hE78] at z90
      rw [hE78] at z91
      have hF93 := zOn_tr hF79 hF88 zi_id
      obtain ⟨p94, hE95⟩ : ∃ p, yst s84 = p := ⟨_, rfl⟩
      rw [hE95] at z90
      rw [hE95] at z91
      have L96 := yle_tr L80 z91
      rw [hE95] at z92
      have b97 := zv_20_2 hI87 zc_33
      have e98 := hF88 33 2 rfl
      refine zt_aload_n (pc' := 44) hX dX1_comparison_43 rfl rfl ?_
      obtain ⟨k99, ek100, hk101⟩ := zv_20_1 hI87 zc_33
      refine zt_get (pc' := 47) (v := .ref (X.1.1 + k99)) hX dX1_comparison_44 rfl zf_X1_19 (by decide) zc_33 zs_20 (zrf_of ek100) ?_
      refine zt_iload_n (pc' := 48) hX dX1_comparison_47 rfl rfl ?_
      refine zt_cVv (pc' := 51) hX dX1_comparison_48 rfl zm_yX4_addStep zw_22_7 hk101 (by decide) zs_6 (q := (RX4, TX4, 2)) rfl rfl (yc_X4_addStep _ _ s84 hI87 k99 hk101 r18 ⟨by omega, by omega⟩) rfl rfl (Nat.le_of_ble_eq_true rfl) (by decide) (fun r102 s103 hr104 hp105 => ?_)
      obtain ⟨hI106, hF107⟩ := hp105
      have hF108 := zOn_tr hF93 hF107 zi_rp2
      have hT109 := yTk_rk hT89 (yRk_p hF107)
      have hE110 : yst s103 = p94 := (yst_rk (yRk_p hF107)).trans hE95
      have b111 := zv_20_2 hI106 zc_33
      have e112 := hF107 33 2 rfl
      refine zt_goto (tgt := 69) hX dX1_comparison_51 (by decide) ?_
      exact zt_vret hX hR dX1_comparison_69 ⟨hI106, hF108, hT109, (by rw [hE110]; exact yJ_tr z9 (yJ_tr (yJ_cs (by omega)) (yJ_tr z90 (yJ_ce z92)))), (by rw [hE110]; exact L96)⟩
    · refine zt_iload_n (pc' := 26) hX dX1_comparison_25 rfl rfl ?_
      refine zt_bipush (pc' := 28) hX dX1_comparison_26 rfl (by decide) (by decide) ?_
      refine zt_icne (pc' := 31) (tgt := 54) hX dX1_comparison_28 rfl (by decide) ⟨by omega, by omega⟩ ⟨by omega, by omega⟩ (fun c113 => ?_) (fun c113 => ?_)
      · refine zt_aload_n (pc' := 55) hX dX1_comparison_54 rfl rfl ?_
        refine zt_get (pc' := 58) (v := .ref (X.1.1 + 27)) hX dX1_comparison_55 rfl zf_X1_15 (by decide) zc_33 zs_20 (zrf_of (zv_20_0 hI6 zc_33)) ?_
        refine zt_iconst (pc' := 59) hX dX1_comparison_58 rfl ?_
        refine zt_aload_n (pc' := 60) hX dX1_comparison_59 rfl rfl ?_
        refine zt_get (pc' := 63) (v := .ref (X.1.1 + 27)) hX dX1_comparison_60 rfl zf_X1_15 (by decide) zc_33 zs_20 (zrf_of (zv_20_0 hI6 zc_33)) ?_
        refine zt_cVi (pc' := 66) hX dX1_comparison_63 rfl zm_yX5_placeHere zw_22_9 zc_27 (by decide) zs_14 (q := (RX5, TX5, 9)) rfl rfl (yc_X5_placeHere _ _ s3 hI6 f hT8) rfl rfl (Nat.le_of_ble_eq_true rfl) (by decide) (fun r114 s115 hr116 hp117 => ?_)
        obtain ⟨rfl, q118, q119, z120⟩ := hp117
        rw [hE14] at z120
        refine zt_cVv (pc' := 69) hX dX1_comparison_66 rfl zm_yX5_refuse zw_22_10 zc_27 (by decide) zs_14 (q := (RX5, TX5, 9)) rfl rfl (yc_X5_refuse _ _ s3 hI6 1 ⟨by omega, by omega⟩ r114 ⟨by omega, by omega⟩ (by omega) f hT8) rfl rfl (Nat.le_of_ble_eq_true rfl) (by decide) (fun r121 s122 hr123 hp124 => ?_)
        obtain ⟨hI125, hF126, hT127, z128⟩ := hp124
        have hE129 : yst s122 = yPno 1 r114 p13 := by rw [z128, hE14]
        have hF130 := zOn_tr hF12 hF126 zi_r12
        have L131 : yle (yst σ) (yPno 1 r114 p13) := yle_tr L15 yle_no
        have b132 := zv_20_2 hI125 zc_33
        have e133 := hF126 33 2 rfl
        exact zt_vret hX hR dX1_comparison_69 ⟨hI125, hF130, hT127, (by rw [hE129, yPno_f (p := r114) (d := 0) (fun o => by omega)]; exact yJ_tr z9 (yJ_cb z11 (by omega))), (by rw [hE129]; exact L131)⟩
      · refine zt_aload_n (pc' := 32) hX dX1_comparison_31 rfl rfl ?_
        refine zt_get (pc' := 35) (v := .ref (X.1.1 + 27)) hX dX1_comparison_32 rfl zf_X1_15 (by decide) zc_33 zs_20 (zrf_of (zv_20_0 hI6 zc_33)) ?_
        refine zt_cVv (pc' := 38) hX dX1_comparison_35 rfl zm_yX5_step zw_22_6 zc_27 (by decide) zs_14 (q := (RX5, TX5, 9)) rfl rfl (yc_X5_step _ _ s3 hI6 f hT8) rfl rfl (Nat.le_of_ble_eq_true rfl) (by decide) (fun r134 s135 hr136 hp137 => ?_)
        obtain ⟨hI138, hF139, hT140, z141⟩ := hp137
        have hE142 : yst s135 = yPx f p13 := by rw [z141, hE14]
        have hF143 := zOn_tr hF12 hF139 zi_r12
        have L144 : yle (yst σ) (yPx f p13) := yle_tr L15 (yle_x hT8 hE14)
        have b145 := zv_20_2 hI138 zc_33
        have e146 := hF139 33 2 rfl
        refine zt_aload_n (pc' := 39) hX dX1_comparison_38 rfl rfl ?_
        refine zt_iload_n (pc' := 40) hX dX1_comparison_39 rfl rfl ?_
        refine zt_cVv (pc' := 43) hX dX1_comparison_40 rfl zm_yX1_sum zw_21_19 zc_33 (by decide) zs_20 (q := (RX1, TX1, 3)) rfl rfl (yc_X1_sum_o3 _ _ s135 hI138 f hT140 rl (by omega) (6 :: k) hk (Nat.ne_of_beq_eq_false rfl)) rfl rfl (Nat.le_of_ble_eq_true rfl) (by decide) (fun r147 s148 hr149 hp150 => ?_)
        obtain ⟨hI151, hF152, hT153, z154, z155, z156⟩ := hp150
        rw [hE142] at z154
        rw [hE142] at z155
        have hF157 := zOn_tr hF143 hF152 zi_id
        obtain ⟨p158, hE159⟩ : ∃ p, yst s148 = p := ⟨_, rfl⟩
        rw [hE159] at z154
        rw [hE159] at z155
        have L160 := yle_tr L144 z155
        rw [hE159] at z156
        have b161 := zv_20_2 hI151 zc_33
        have e162 := hF152 33 2 rfl
        refine zt_aload_n (pc' := 44) hX dX1_comparison_43 rfl rfl ?_
        obtain ⟨k163, ek164, hk165⟩ := zv_20_1 hI151 zc_33
        refine zt_get (pc' := 47) (v := .ref (X.1.1 + k163)) hX dX1_comparison_44 rfl zf_X1_19 (by decide) zc_33 zs_20 (zrf_of ek164) ?_
        refine zt_iload_n (pc' := 48) hX dX1_comparison_47 rfl rfl ?_
        refine zt_cVv (pc' := 51) hX dX1_comparison_48 rfl zm_yX4_addStep zw_22_7 hk165 (by decide) zs_6 (q := (RX4, TX4, 2)) rfl rfl (yc_X4_addStep _ _ s148 hI151 k163 hk165 r18 ⟨by omega, by omega⟩) rfl rfl (Nat.le_of_ble_eq_true rfl) (by decide) (fun r166 s167 hr168 hp169 => ?_)
        obtain ⟨hI170, hF171⟩ := hp169
        have hF172 := zOn_tr hF157 hF171 zi_rp2
        have hT173 := yTk_rk hT153 (yRk_p hF171)
        have hE174 : yst s167 = p158 := (yst_rk (yRk_p hF171)).trans hE159
        have b175 := zv_20_2 hI170 zc_33
        have e176 := hF171 33 2 rfl
        refine zt_goto (tgt := 69) hX dX1_comparison_51 (by decide) ?_
        exact zt_vret hX hR dX1_comparison_69 ⟨hI170, hF172, hT173, (by rw [hE174]; exact yJ_tr z9 (yJ_tr (yJ_cs (by omega)) (yJ_tr z154 (yJ_ce z156)))), (by rw [hE174]; exact L160)⟩
set_option maxRecDepth 100000 in
set_option maxHeartbeats 4000000 in
theorem yc_X1_fact_o3 (l : Launch) (E : zEN) (σ : zSto) (hI : zInv σ) (f : Int → Int) (hT : yTk f σ) (rl : Int) (hrl : σ 33 2 = rl) (k : List Nat) (hk : ydep k = 3) : zCt l E yX1_fact cX1_fact 2 none 19 zNC zNC 0 0 σ [.ref (E.1 + 33), .int (zI 3)] (fun r σ' => zInv σ' ∧ zOn zR2 σ σ' ∧ yTk f σ' ∧ (yJ rl f (4, k, (yst σ)) (5, k, (yst σ'))) ∧ (yle (yst σ) (yst σ'))) := by
  refine zCt_of2 [some (.ref (E.1 + 33)), some (.int (zI 3))] (by decide +kernel) (Nat.le_of_ble_eq_true rfl) rfl ?_
  intro X hE_ hX hR hL hN
  subst hE_
  have hX : zok X cX1_fact RX1 19 := hX
  have hF := zOn_rf zR2 σ
  have hE0 : yst σ = yst σ := rfl
  have L0 := yle_rf (yst σ)
  have b1 := zv_20_2 hI zc_33
  refine zt_aload_n (pc' := 1) hX dX1_fact_0 rfl rfl ?_
  refine zt_get (pc' := 4) (v := .ref (X.1.1 + 27)) hX dX1_fact_1 rfl zf_X1_15 (by decide) zc_33 zs_20 (zrf_of (zv_20_0 hI zc_33)) ?_
  refine zt_cVi (pc' := 7) hX dX1_fact_4 rfl zm_yX5_wordHere zw_22_21 zc_27 (by decide) zs_14 (q := (RX5, TX5, 9)) rfl rfl (yc_X5_wordHere _ _ σ hI f hT) rfl rfl (Nat.le_of_ble_eq_true rfl) (by decide) (fun r2 s3 hr4 hp5 => ?_)
  obtain ⟨rfl, q6, q7, z8⟩ := hp5
  refine zt_bipush (pc' := 9) hX dX1_fact_7 rfl (by decide) (by decide) ?_
  refine zt_icne (pc' := 12) (tgt := 39) hX dX1_fact_9 rfl (by decide) ⟨by omega, by omega⟩ ⟨by omega, by omega⟩ (fun c9 => ?_) (fun c9 => ?_)
  · refine zt_aload_n (pc' := 40) hX dX1_fact_39 rfl rfl ?_
    refine zt_get (pc' := 43) (v := .ref (X.1.1 + 27)) hX dX1_fact_40 rfl zf_X1_15 (by decide) zc_33 zs_20 (zrf_of (zv_20_0 hI zc_33)) ?_
    refine zt_cVi (pc' := 46) hX dX1_fact_43 rfl zm_yX5_signHere zw_22_2 zc_27 (by decide) zs_14 (q := (RX5, TX5, 9)) rfl rfl (yc_X5_signHere _ _ σ hI f hT) rfl rfl (Nat.le_of_ble_eq_true rfl) (by decide) (fun r10 s11 hr12 hp13 => ?_)
    obtain ⟨rfl, q14, q15, z16⟩ := hp13
    refine zt_bipush (pc' := 48) hX dX1_fact_46 rfl (by decide) (by decide) ?_
    refine zt_icne (pc' := 51) (tgt := 78) hX dX1_fact_48 rfl (by decide) ⟨by omega, by omega⟩ ⟨by omega, by omega⟩ (fun c17 => ?_) (fun c17 => ?_)
    · refine zt_aload_n (pc' := 79) hX dX1_fact_78 rfl rfl ?_
      refine zt_get (pc' := 82) (v := .ref (X.1.1 + 27)) hX dX1_fact_79 rfl zf_X1_15 (by decide) zc_33 zs_20 (zrf_of (zv_20_0 hI zc_33)) ?_
      refine zt_cVi (pc' := 85) hX dX1_fact_82 rfl zm_yX5_wordHere zw_22_21 zc_27 (by decide) zs_14 (q := (RX5, TX5, 9)) rfl rfl (yc_X5_wordHere _ _ σ hI f hT) rfl rfl (Nat.le_of_ble_eq_true rfl) (by decide) (fun r18 s19 hr20 hp21 => ?_)
      obtain ⟨rfl, q22, q23, z24⟩ := hp21
      refine zt_bipush (pc' := 87) hX dX1_fact_85 rfl (by decide) (by decide) ?_
      refine zt_icne (pc' := 90) (tgt := 109) hX dX1_fact_87 rfl (by decide) ⟨by omega, by omega⟩ ⟨by omega, by omega⟩ (fun c25 => ?_) (fun c25 => ?_)
      · refine zt_aload_n (pc' := 110) hX dX1_fact_109 rfl rfl ?_
        refine zt_iload_n (pc' := 111) hX dX1_fact_110 rfl rfl ?_
        refine zt_cVv (pc' := 114) hX dX1_fact_111 rfl zm_yX1_comparison zw_24_14 zc_33 (by decide) zs_20 (q := (RX1, TX1, 3)) rfl rfl (yc_X1_comparison_o3 _ _ σ hI f hT rl (by omega) k hk) rfl rfl (Nat.le_of_ble_eq_true rfl) (by decide) (fun r26 s27 hr28 hp29 => ?_)
        obtain ⟨hI30, hF31, hT32, z33, z34⟩ := hp29
        have hF35 := zOn_tr hF hF31 zi_id
        obtain ⟨p36, hE37⟩ : ∃ p, yst s27 = p := ⟨_, rfl⟩
        rw [hE37] at z33
        rw [hE37] at z34
        have L38 := yle_tr L0 z34
        have b39 := zv_20_2 hI30 zc_33
        have e40 := hF31 33 2 rfl
        exact zt_vret hX hR dX1_fact_114 ⟨hI30, hF35, hT32, (by rw [hE37]; exact yJ_tr (yJ_cmp (by omega) (by omega) (by omega)) z33), (by rw [hE37]; exact L38)⟩
      · refine zt_aload_n (pc' := 91) hX dX1_fact_90 rfl rfl ?_
        refine zt_get (pc' := 94) (v := .ref (X.1.1 + 27)) hX dX1_fact_91 rfl zf_X1_15 (by decide) zc_33 zs_20 (zrf_of (zv_20_0 hI zc_33)) ?_
        refine zt_cVv (pc' := 97) hX dX1_fact_94 rfl zm_yX5_step zw_22_6 zc_27 (by decide) zs_14 (q := (RX5, TX5, 9)) rfl rfl (yc_X5_step _ _ σ hI f hT) rfl rfl (Nat.le_of_ble_eq_true rfl) (by decide) (fun r41 s42 hr43 hp44 => ?_)
        obtain ⟨hI45, hF46, hT47, z48⟩ := hp44
        have hE49 : yst s42 = yPx f (yst σ) := z48
        have hF50 := zOn_tr hF hF46 zi_r12
        have L51 : yle (yst σ) (yPx f (yst σ)) := yle_tr L0 (yle_x hT hE0)
        have b52 := zv_20_2 hI45 zc_33
        have e53 := hF46 33 2 rfl
        refine zt_aload_n (pc' := 98) hX dX1_fact_97 rfl rfl ?_
        obtain ⟨k54, ek55, hk56⟩ := zv_20_1 hI45 zc_33
        refine zt_get (pc' := 101) (v := .ref (X.1.1 + k54)) hX dX1_fact_98 rfl zf_X1_19 (by decide) zc_33 zs_20 (zrf_of ek55) ?_
        refine zt_bipush (pc' := 103) hX dX1_fact_101 rfl (by decide) (by decide) ?_
        refine zt_cVv (pc' := 106) hX dX1_fact_103 rfl zm_yX4_addStep zw_22_7 hk56 (by decide) zs_6 (q := (RX4, TX4, 2)) rfl rfl (yc_X4_addStep _ _ s42 hI45 k54 hk56 24 ⟨by omega, by omega⟩) rfl rfl (Nat.le_of_ble_eq_true rfl) (by decide) (fun r57 s58 hr59 hp60 => ?_)
        obtain ⟨hI61, hF62⟩ := hp60
        have hF63 := zOn_tr hF50 hF62 zi_rp2
        have hT64 := yTk_rk hT47 (yRk_p hF62)
        have hE65 : yst s58 = yPx f (yst σ) := (yst_rk (yRk_p hF62)).trans hE49
        have b66 := zv_20_2 hI61 zc_33
        have e67 := hF62 33 2 rfl
        refine zt_goto (tgt := 114) hX dX1_fact_106 (by decide) ?_
        exact zt_vret hX hR dX1_fact_114 ⟨hI61, hF63, hT64, (by rw [hE65]; exact yJ_all (by omega)), (by rw [hE65]; exact L51)⟩
    · refine zt_aload_n (pc' := 52) hX dX1_fact_51 rfl rfl ?_
      refine zt_iload_n (pc' := 53) hX dX1_fact_52 rfl rfl ?_
      refine zt_cVz (pc' := 56) hX dX1_fact_53 rfl zm_yX1_opens zw_22_11 zc_33 (by decide) zs_20 (q := (RX1, TX1, 3)) rfl rfl (yc_X1_opens_o3 _ _ σ hI f hT) rfl rfl (Nat.le_of_ble_eq_true rfl) (by decide) (fun r68 s69 hr70 hp71 => ?_)
      obtain ⟨hI72, hF73, q74, q75, hT76, z77⟩ := hp71
      have hE78 : yst s69 = yPx f (yst σ) := z77
      have hF79 := zOn_tr hF hF73 zi_r12
      have L80 : yle (yst σ) (yPx f (yst σ)) := yle_tr L0 (yle_x hT hE0)
      have b81 := zv_20_2 hI72 zc_33
      have e82 := hF73 33 2 rfl
      refine zt_ifeq (pc' := 59) (tgt := 114) hX dX1_fact_56 rfl (by decide) ⟨by omega, by omega⟩ (fun c83 => ?_) (fun c83 => ?_)
      · exact absurd c83 (by omega)
      · refine zt_aload_n (pc' := 60) hX dX1_fact_59 rfl rfl ?_
        refine zt_iload_n (pc' := 61) hX dX1_fact_60 rfl rfl ?_
        refine zt_iconst (pc' := 62) hX dX1_fact_61 rfl ?_
        refine zt_iadd (pc' := 63) hX dX1_fact_62 rfl ?_
        rw [show (3 + 1 : Int) = 4 from rfl]
        refine zt_cVv (pc' := 66) hX dX1_fact_63 rfl zm_yX1_test zw_24_2 zc_33 (by decide) zs_20 (q := (RX1, TX1, 3)) rfl rfl (yc_X1_test_o4 _ _ s69 hI72 f hT76 rl (by omega) (7 :: k) (by show ydep k + 1 = _; omega) (Nat.ne_of_beq_eq_false rfl)) rfl rfl (Nat.le_of_ble_eq_true rfl) (by decide) (fun r84 s85 hr86 hp87 => ?_)
        obtain ⟨hI88, hF89, hT90, z91, z92, z93⟩ := hp87
        rw [hE78] at z91
        rw [hE78] at z92
        have hF94 := zOn_tr hF79 hF89 zi_id
        obtain ⟨p95, hE96⟩ : ∃ p, yst s85 = p := ⟨_, rfl⟩
        rw [hE96] at z91
        rw [hE96] at z92
        have L97 := yle_tr L80 z92
        rw [hE96] at z93
        have b98 := zv_20_2 hI88 zc_33
        have e99 := hF89 33 2 rfl
        refine zt_aload_n (pc' := 67) hX dX1_fact_66 rfl rfl ?_
        refine zt_get (pc' := 70) (v := .ref (X.1.1 + 27)) hX dX1_fact_67 rfl zf_X1_15 (by decide) zc_33 zs_20 (zrf_of (zv_20_0 hI88 zc_33)) ?_
        refine zt_bipush (pc' := 72) hX dX1_fact_70 rfl (by decide) (by decide) ?_
        refine zt_cVv (pc' := 75) hX dX1_fact_72 rfl zm_yX5_takeSign zw_22_15 zc_27 (by decide) zs_14 (q := (RX5, TX5, 9)) rfl rfl (yc_X5_takeSign _ _ s85 hI88 93 ⟨by omega, by omega⟩ f hT90) rfl rfl (Nat.le_of_ble_eq_true rfl) (by decide) (fun r100 s101 hr102 hp103 => ?_)
        obtain ⟨hI104, hF105, hT106, z107⟩ := hp103
        have hE108 : yst s101 = yPs f 93 p95 := by rw [z107, hE96]
        have hF109 := zOn_tr hF94 hF105 zi_r12
        have L110 : yle (yst σ) (yPs f 93 p95) := yle_tr L97 (yle_s hT90 hE96)
        have b111 := zv_20_2 hI104 zc_33
        have e112 := hF105 33 2 rfl
        refine zt_goto (tgt := 114) hX dX1_fact_75 (by decide) ?_
        exact zt_vret hX hR dX1_fact_114 ⟨hI104, hF109, hT106, (by rw [hE108]; exact yJ_tr (yJ_sq (by omega) (by omega)) (yJ_tr z91 (yJ_qc z93))), (by rw [hE108]; exact L110)⟩
  · refine zt_aload_n (pc' := 13) hX dX1_fact_12 rfl rfl ?_
    refine zt_iload_n (pc' := 14) hX dX1_fact_13 rfl rfl ?_
    refine zt_cVz (pc' := 17) hX dX1_fact_14 rfl zm_yX1_opens zw_22_11 zc_33 (by decide) zs_20 (q := (RX1, TX1, 3)) rfl rfl (yc_X1_opens_o3 _ _ σ hI f hT) rfl rfl (Nat.le_of_ble_eq_true rfl) (by decide) (fun r113 s114 hr115 hp116 => ?_)
    obtain ⟨hI117, hF118, q119, q120, hT121, z122⟩ := hp116
    have hE123 : yst s114 = yPx f (yst σ) := z122
    have hF124 := zOn_tr hF hF118 zi_r12
    have L125 : yle (yst σ) (yPx f (yst σ)) := yle_tr L0 (yle_x hT hE0)
    have b126 := zv_20_2 hI117 zc_33
    have e127 := hF118 33 2 rfl
    refine zt_ifeq (pc' := 20) (tgt := 114) hX dX1_fact_17 rfl (by decide) ⟨by omega, by omega⟩ (fun c128 => ?_) (fun c128 => ?_)
    · exact absurd c128 (by omega)
    · refine zt_aload_n (pc' := 21) hX dX1_fact_20 rfl rfl ?_
      refine zt_iload_n (pc' := 22) hX dX1_fact_21 rfl rfl ?_
      refine zt_iconst (pc' := 23) hX dX1_fact_22 rfl ?_
      refine zt_iadd (pc' := 24) hX dX1_fact_23 rfl ?_
      rw [show (3 + 1 : Int) = 4 from rfl]
      refine zt_cVv (pc' := 27) hX dX1_fact_24 rfl zm_yX1_fact zw_24_10 zc_33 (by decide) zs_20 (q := (RX1, TX1, 3)) rfl rfl (yc_X1_fact_o4 _ _ s114 hI117 f hT121 rl (by omega) (8 :: k) (by show ydep k + 1 = _; omega)) rfl rfl (Nat.le_of_ble_eq_true rfl) (by decide) (fun r129 s130 hr131 hp132 => ?_)
      obtain ⟨hI133, hF134, hT135, z136, z137⟩ := hp132
      rw [hE123] at z136
      rw [hE123] at z137
      have hF138 := zOn_tr hF124 hF134 zi_id
      obtain ⟨p139, hE140⟩ : ∃ p, yst s130 = p := ⟨_, rfl⟩
      rw [hE140] at z136
      rw [hE140] at z137
      have L141 := yle_tr L125 z137
      have b142 := zv_20_2 hI133 zc_33
      have e143 := hF134 33 2 rfl
      refine zt_aload_n (pc' := 28) hX dX1_fact_27 rfl rfl ?_
      obtain ⟨k144, ek145, hk146⟩ := zv_20_1 hI133 zc_33
      refine zt_get (pc' := 31) (v := .ref (X.1.1 + k144)) hX dX1_fact_28 rfl zf_X1_19 (by decide) zc_33 zs_20 (zrf_of ek145) ?_
      refine zt_bipush (pc' := 33) hX dX1_fact_31 rfl (by decide) (by decide) ?_
      refine zt_cVv (pc' := 36) hX dX1_fact_33 rfl zm_yX4_addStep zw_22_7 hk146 (by decide) zs_6 (q := (RX4, TX4, 2)) rfl rfl (yc_X4_addStep _ _ s130 hI133 k144 hk146 23 ⟨by omega, by omega⟩) rfl rfl (Nat.le_of_ble_eq_true rfl) (by decide) (fun r147 s148 hr149 hp150 => ?_)
      obtain ⟨hI151, hF152⟩ := hp150
      have hF153 := zOn_tr hF138 hF152 zi_rp2
      have hT154 := yTk_rk hT135 (yRk_p hF152)
      have hE155 : yst s148 = p139 := (yst_rk (yRk_p hF152)).trans hE140
      have b156 := zv_20_2 hI151 zc_33
      have e157 := hF152 33 2 rfl
      refine zt_goto (tgt := 114) hX dX1_fact_36 (by decide) ?_
      exact zt_vret hX hR dX1_fact_114 ⟨hI151, hF153, hT154, (by rw [hE155]; exact yJ_tr (yJ_not (by omega) (by omega)) (yJ_tr z136 yJ_nt)), (by rw [hE155]; exact L141)⟩
set_option maxRecDepth 100000 in
set_option maxHeartbeats 4000000 in
theorem yc_X1_both_o3 (l : Launch) (E : zEN) (σ : zSto) (hI : zInv σ) (f : Int → Int) (hT : yTk f σ) (rl : Int) (hrl : σ 33 2 = rl) (k : List Nat) (hk : ydep k = 3) (ht : ytop k ≠ 8) : zCt l E yX1_both cX1_both 3 none 20 zNC zNC 0 0 σ [.ref (E.1 + 33), .int (zI 3)] (fun r σ' => zInv σ' ∧ zOn zR2 σ σ' ∧ yTk f σ' ∧ (yJ rl f (4, k, (yst σ)) (5, k, (yst σ'))) ∧ (yle (yst σ) (yst σ')) ∧ (yPi f (yst σ') ≠ 22)) := by
  refine zCt_of2 [some (.ref (E.1 + 33)), some (.int (zI 3)), none] (by decide +kernel) (Nat.le_of_ble_eq_true rfl) rfl ?_
  intro X hE_ hX hR hL hN
  subst hE_
  have hX : zok X cX1_both RX1 20 := hX
  have hF := zOn_rf zR2 σ
  have hE0 : yst σ = yst σ := rfl
  have L0 := yle_rf (yst σ)
  have b1 := zv_20_2 hI zc_33
  refine zt_aload_n (pc' := 1) hX dX1_both_0 rfl rfl ?_
  refine zt_iload_n (pc' := 2) hX dX1_both_1 rfl rfl ?_
  refine zt_cVv (pc' := 5) hX dX1_both_2 rfl zm_yX1_fact zw_24_10 zc_33 (by decide) zs_20 (q := (RX1, TX1, 3)) rfl rfl (yc_X1_fact_o3 _ _ σ hI f hT rl (by omega) k hk) rfl rfl (Nat.le_of_ble_eq_true rfl) (by decide) (fun r2 s3 hr4 hp5 => ?_)
  obtain ⟨hI6, hF7, hT8, z9, z10⟩ := hp5
  have hF11 := zOn_tr hF hF7 zi_id
  obtain ⟨p12, hE13⟩ : ∃ p, yst s3 = p := ⟨_, rfl⟩
  rw [hE13] at z9
  rw [hE13] at z10
  have L14 := yle_tr L0 z10
  have b15 := zv_20_2 hI6 zc_33
  have e16 := hF7 33 2 rfl
  have g17 := z9
  refine zt_iconst (pc' := 6) hX dX1_both_5 rfl ?_
  refine zt_istore_n (pc' := 7) (lv' := [some (.ref (X.1.1 + 33)), some (.int (zI 3)), some (.int (zI 0))]) hX dX1_both_6 rfl hL (by decide) rfl ?_
  have L_7_30 : ∀ (N : Nat) (x18 : Int) (s21 : zSto) (p24 : yP), 0 ≤ x18 → x18 ≤ 1600 → zInv s21 → zOn zR2 σ s21 → yTk f s21 → yst s21 = p24 → s21 33 2 = σ 33 2 → yJ rl f (4, k, yst σ) (5, k, p24) → yle (yst σ) p24 → yge x18 p24 → ((1601 - x18).toNat) < N → zF X s21 7 [some (.ref (X.1.1 + 33)), some (.int (zI 3)), some (.int (zI x18))] [] := by
    intro N
    induction N with
    | zero =>
      intro x18 s21 p24 h19 h20 hI22 hF23 hT25 hE26 g27 g28 g29 g30 hm32
      exact absurd hm32 (Nat.not_lt_zero _)
    | succ N ih33 =>
      intro x18 s21 p24 h19 h20 hI22 hF23 hT25 hE26 g27 g28 g29 g30 hm32
      have b34 := zv_20_2 hI22 zc_33
      have hx := yge_x hT25 hE26 g30
      refine zt_iload_n (pc' := 8) hX dX1_both_7 rfl rfl ?_
      refine zt_sipush (pc' := 11) hX dX1_both_8 rfl (by decide) (by decide) ?_
      refine zt_icge (pc' := 14) (tgt := 53) hX dX1_both_11 rfl (by decide) ⟨by omega, by omega⟩ ⟨by omega, by omega⟩ (fun c35 => ?_) (fun c35 => ?_)
      · exact zt_vret hX hR dX1_both_53 ⟨hI22, hF23, hT25, (by rw [hE26]; exact g28), (by rw [hE26]; exact g29), (by rw [hE26]; omega)⟩
      · refine zt_aload_n (pc' := 15) hX dX1_both_14 rfl rfl ?_
        refine zt_get (pc' := 18) (v := .ref (X.1.1 + 27)) hX dX1_both_15 rfl zf_X1_15 (by decide) zc_33 zs_20 (zrf_of (zv_20_0 hI22 zc_33)) ?_
        refine zt_cVi (pc' := 21) hX dX1_both_18 rfl zm_yX5_wordHere zw_22_21 zc_27 (by decide) zs_14 (q := (RX5, TX5, 9)) rfl rfl (yc_X5_wordHere _ _ s21 hI22 f hT25) rfl rfl (Nat.le_of_ble_eq_true rfl) (by decide) (fun r36 s37 hr38 hp39 => ?_)
        obtain ⟨rfl, q40, q41, z42⟩ := hp39
        rw [hE26] at z42
        refine zt_bipush (pc' := 23) hX dX1_both_21 rfl (by decide) (by decide) ?_
        refine zt_icne (pc' := 26) (tgt := 53) hX dX1_both_23 rfl (by decide) ⟨by omega, by omega⟩ ⟨by omega, by omega⟩ (fun c43 => ?_) (fun c43 => ?_)
        · exact zt_vret hX hR dX1_both_53 ⟨hI22, hF23, hT25, (by rw [hE26]; exact g28), (by rw [hE26]; exact g29), (by rw [hE26]; omega)⟩
        · refine zt_aload_n (pc' := 27) hX dX1_both_26 rfl rfl ?_
          refine zt_get (pc' := 30) (v := .ref (X.1.1 + 27)) hX dX1_both_27 rfl zf_X1_15 (by decide) zc_33 zs_20 (zrf_of (zv_20_0 hI22 zc_33)) ?_
          refine zt_cVv (pc' := 33) hX dX1_both_30 rfl zm_yX5_step zw_22_6 zc_27 (by decide) zs_14 (q := (RX5, TX5, 9)) rfl rfl (yc_X5_step _ _ s21 hI22 f hT25) rfl rfl (Nat.le_of_ble_eq_true rfl) (by decide) (fun r44 s45 hr46 hp47 => ?_)
          obtain ⟨hI48, hF49, hT50, z51⟩ := hp47
          have hE52 : yst s45 = yPx f p24 := by rw [z51, hE26]
          have hF53 := zOn_tr hF23 hF49 zi_r12
          have L54 : yle (yst σ) (yPx f p24) := yle_tr g29 (yle_x hT25 hE26)
          have b55 := zv_20_2 hI48 zc_33
          have e56 := hF49 33 2 rfl
          have g57 := yJ_tr g28 (yJ_ao ht (by omega))
          have I58 := yge_1 hT25 hE26 g30 (by omega)
          refine zt_aload_n (pc' := 34) hX dX1_both_33 rfl rfl ?_
          refine zt_iload_n (pc' := 35) hX dX1_both_34 rfl rfl ?_
          refine zt_cVv (pc' := 38) hX dX1_both_35 rfl zm_yX1_fact zw_24_10 zc_33 (by decide) zs_20 (q := (RX1, TX1, 3)) rfl rfl (yc_X1_fact_o3 _ _ s45 hI48 f hT50 rl (by omega) k hk) rfl rfl (Nat.le_of_ble_eq_true rfl) (by decide) (fun r59 s60 hr61 hp62 => ?_)
          obtain ⟨hI63, hF64, hT65, z66, z67⟩ := hp62
          rw [hE52] at z66
          rw [hE52] at z67
          have hF68 := zOn_tr hF53 hF64 zi_id
          obtain ⟨p69, hE70⟩ : ∃ p, yst s60 = p := ⟨_, rfl⟩
          rw [hE70] at z66
          rw [hE70] at z67
          have L71 := yle_tr L54 z67
          have b72 := zv_20_2 hI63 zc_33
          have e73 := hF64 33 2 rfl
          have g74 := yJ_tr g57 z66
          have I75 := yge_l I58 z67
          refine zt_aload_n (pc' := 39) hX dX1_both_38 rfl rfl ?_
          obtain ⟨k76, ek77, hk78⟩ := zv_20_1 hI63 zc_33
          refine zt_get (pc' := 42) (v := .ref (X.1.1 + k76)) hX dX1_both_39 rfl zf_X1_19 (by decide) zc_33 zs_20 (zrf_of ek77) ?_
          refine zt_bipush (pc' := 44) hX dX1_both_42 rfl (by decide) (by decide) ?_
          refine zt_cVv (pc' := 47) hX dX1_both_44 rfl zm_yX4_addStep zw_22_7 hk78 (by decide) zs_6 (q := (RX4, TX4, 2)) rfl rfl (yc_X4_addStep _ _ s60 hI63 k76 hk78 22 ⟨by omega, by omega⟩) rfl rfl (Nat.le_of_ble_eq_true rfl) (by decide) (fun r79 s80 hr81 hp82 => ?_)
          obtain ⟨hI83, hF84⟩ := hp82
          have hF85 := zOn_tr hF68 hF84 zi_rp2
          have hT86 := yTk_rk hT65 (yRk_p hF84)
          have hE87 : yst s80 = p69 := (yst_rk (yRk_p hF84)).trans hE70
          have b88 := zv_20_2 hI83 zc_33
          have e89 := hF84 33 2 rfl
          refine zt_iinc (pc' := 50) (lv' := [some (.ref (X.1.1 + 33)), some (.int (zI 3)), some (.int (zI (x18 + 1)))]) hX dX1_both_47 rfl rfl hL (by decide) rfl ?_
          refine zt_goto (tgt := 7) hX dX1_both_50 (by decide) ?_
          exact ih33 (x18 + 1) s80 p69 (by omega) (by omega) hI83 hF85 hT86 hE87 (by omega) g74 L71 I75 (by omega)
  exact L_7_30 _ 0 s3 p12 (by omega) (by omega) hI6 hF11 hT8 hE13 (by omega) g17 L14 (yge_0 hT8 hE13) (Nat.lt_succ_self _)
set_option maxRecDepth 100000 in
set_option maxHeartbeats 4000000 in
theorem yc_X1_test_o3 (l : Launch) (E : zEN) (σ : zSto) (hI : zInv σ) (f : Int → Int) (hT : yTk f σ) (rl : Int) (hrl : σ 33 2 = rl) (k : List Nat) (hk : ydep k = 3) (ht : ytop k ≠ 8) : zCt l E yX1_test cX1_test 3 none 21 zNC zNC 0 0 σ [.ref (E.1 + 33), .int (zI 3)] (fun r σ' => zInv σ' ∧ zOn zR2 σ σ' ∧ yTk f σ' ∧ (yJ rl f (4, k, (yst σ)) (5, k, (yst σ'))) ∧ (yle (yst σ) (yst σ')) ∧ (yPi f (yst σ') ≠ 22 ∧ yPi f (yst σ') ≠ 21)) := by
  refine zCt_of2 [some (.ref (E.1 + 33)), some (.int (zI 3)), none] (by decide +kernel) (Nat.le_of_ble_eq_true rfl) rfl ?_
  intro X hE_ hX hR hL hN
  subst hE_
  have hX : zok X cX1_test RX1 21 := hX
  have hF := zOn_rf zR2 σ
  have hE0 : yst σ = yst σ := rfl
  have L0 := yle_rf (yst σ)
  have b1 := zv_20_2 hI zc_33
  refine zt_aload_n (pc' := 1) hX dX1_test_0 rfl rfl ?_
  refine zt_iload_n (pc' := 2) hX dX1_test_1 rfl rfl ?_
  refine zt_cVv (pc' := 5) hX dX1_test_2 rfl zm_yX1_both zw_24_6 zc_33 (by decide) zs_20 (q := (RX1, TX1, 3)) rfl rfl (yc_X1_both_o3 _ _ σ hI f hT rl (by omega) k hk ht) rfl rfl (Nat.le_of_ble_eq_true rfl) (by decide) (fun r2 s3 hr4 hp5 => ?_)
  obtain ⟨hI6, hF7, hT8, z9, z10, z11⟩ := hp5
  have hF12 := zOn_tr hF hF7 zi_id
  obtain ⟨p13, hE14⟩ : ∃ p, yst s3 = p := ⟨_, rfl⟩
  rw [hE14] at z9
  rw [hE14] at z10
  have L15 := yle_tr L0 z10
  rw [hE14] at z11
  have b16 := zv_20_2 hI6 zc_33
  have e17 := hF7 33 2 rfl
  have g18 := z9
  refine zt_iconst (pc' := 6) hX dX1_test_5 rfl ?_
  refine zt_istore_n (pc' := 7) (lv' := [some (.ref (X.1.1 + 33)), some (.int (zI 3)), some (.int (zI 0))]) hX dX1_test_6 rfl hL (by decide) rfl ?_
  have L_7_32 : ∀ (N : Nat) (x19 : Int) (s22 : zSto) (p25 : yP), 0 ≤ x19 → x19 ≤ 1600 → zInv s22 → zOn zR2 σ s22 → yTk f s22 → yst s22 = p25 → yPi f p25 ≠ 22 → s22 33 2 = σ 33 2 → yJ rl f (4, k, yst σ) (5, k, p25) → yle (yst σ) p25 → yge x19 p25 → ((1601 - x19).toNat) < N → zF X s22 7 [some (.ref (X.1.1 + 33)), some (.int (zI 3)), some (.int (zI x19))] [] := by
    intro N
    induction N with
    | zero =>
      intro x19 s22 p25 h20 h21 hI23 hF24 hT26 hE27 g28 g29 g30 g31 g32 hm34
      exact absurd hm34 (Nat.not_lt_zero _)
    | succ N ih35 =>
      intro x19 s22 p25 h20 h21 hI23 hF24 hT26 hE27 g28 g29 g30 g31 g32 hm34
      have b36 := zv_20_2 hI23 zc_33
      have hx := yge_x hT26 hE27 g32
      refine zt_iload_n (pc' := 8) hX dX1_test_7 rfl rfl ?_
      refine zt_sipush (pc' := 11) hX dX1_test_8 rfl (by decide) (by decide) ?_
      refine zt_icge (pc' := 14) (tgt := 53) hX dX1_test_11 rfl (by decide) ⟨by omega, by omega⟩ ⟨by omega, by omega⟩ (fun c37 => ?_) (fun c37 => ?_)
      · exact zt_vret hX hR dX1_test_53 ⟨hI23, hF24, hT26, (by rw [hE27]; exact g30), (by rw [hE27]; exact g31), (by rw [hE27]; omega)⟩
      · refine zt_aload_n (pc' := 15) hX dX1_test_14 rfl rfl ?_
        refine zt_get (pc' := 18) (v := .ref (X.1.1 + 27)) hX dX1_test_15 rfl zf_X1_15 (by decide) zc_33 zs_20 (zrf_of (zv_20_0 hI23 zc_33)) ?_
        refine zt_cVi (pc' := 21) hX dX1_test_18 rfl zm_yX5_wordHere zw_22_21 zc_27 (by decide) zs_14 (q := (RX5, TX5, 9)) rfl rfl (yc_X5_wordHere _ _ s22 hI23 f hT26) rfl rfl (Nat.le_of_ble_eq_true rfl) (by decide) (fun r38 s39 hr40 hp41 => ?_)
        obtain ⟨rfl, q42, q43, z44⟩ := hp41
        rw [hE27] at z44
        refine zt_bipush (pc' := 23) hX dX1_test_21 rfl (by decide) (by decide) ?_
        refine zt_icne (pc' := 26) (tgt := 53) hX dX1_test_23 rfl (by decide) ⟨by omega, by omega⟩ ⟨by omega, by omega⟩ (fun c45 => ?_) (fun c45 => ?_)
        · exact zt_vret hX hR dX1_test_53 ⟨hI23, hF24, hT26, (by rw [hE27]; exact g30), (by rw [hE27]; exact g31), (by rw [hE27]; omega)⟩
        · refine zt_aload_n (pc' := 27) hX dX1_test_26 rfl rfl ?_
          refine zt_get (pc' := 30) (v := .ref (X.1.1 + 27)) hX dX1_test_27 rfl zf_X1_15 (by decide) zc_33 zs_20 (zrf_of (zv_20_0 hI23 zc_33)) ?_
          refine zt_cVv (pc' := 33) hX dX1_test_30 rfl zm_yX5_step zw_22_6 zc_27 (by decide) zs_14 (q := (RX5, TX5, 9)) rfl rfl (yc_X5_step _ _ s22 hI23 f hT26) rfl rfl (Nat.le_of_ble_eq_true rfl) (by decide) (fun r46 s47 hr48 hp49 => ?_)
          obtain ⟨hI50, hF51, hT52, z53⟩ := hp49
          have hE54 : yst s47 = yPx f p25 := by rw [z53, hE27]
          have hF55 := zOn_tr hF24 hF51 zi_r12
          have L56 : yle (yst σ) (yPx f p25) := yle_tr g31 (yle_x hT26 hE27)
          have b57 := zv_20_2 hI50 zc_33
          have e58 := hF51 33 2 rfl
          have g59 := yJ_tr g30 (yJ_ao ht (by omega))
          have I60 := yge_1 hT26 hE27 g32 (by omega)
          refine zt_aload_n (pc' := 34) hX dX1_test_33 rfl rfl ?_
          refine zt_iload_n (pc' := 35) hX dX1_test_34 rfl rfl ?_
          refine zt_cVv (pc' := 38) hX dX1_test_35 rfl zm_yX1_both zw_24_6 zc_33 (by decide) zs_20 (q := (RX1, TX1, 3)) rfl rfl (yc_X1_both_o3 _ _ s47 hI50 f hT52 rl (by omega) k hk ht) rfl rfl (Nat.le_of_ble_eq_true rfl) (by decide) (fun r61 s62 hr63 hp64 => ?_)
          obtain ⟨hI65, hF66, hT67, z68, z69, z70⟩ := hp64
          rw [hE54] at z68
          rw [hE54] at z69
          have hF71 := zOn_tr hF55 hF66 zi_id
          obtain ⟨p72, hE73⟩ : ∃ p, yst s62 = p := ⟨_, rfl⟩
          rw [hE73] at z68
          rw [hE73] at z69
          have L74 := yle_tr L56 z69
          rw [hE73] at z70
          have b75 := zv_20_2 hI65 zc_33
          have e76 := hF66 33 2 rfl
          have g77 := yJ_tr g59 z68
          have I78 := yge_l I60 z69
          refine zt_aload_n (pc' := 39) hX dX1_test_38 rfl rfl ?_
          obtain ⟨k79, ek80, hk81⟩ := zv_20_1 hI65 zc_33
          refine zt_get (pc' := 42) (v := .ref (X.1.1 + k79)) hX dX1_test_39 rfl zf_X1_19 (by decide) zc_33 zs_20 (zrf_of ek80) ?_
          refine zt_bipush (pc' := 44) hX dX1_test_42 rfl (by decide) (by decide) ?_
          refine zt_cVv (pc' := 47) hX dX1_test_44 rfl zm_yX4_addStep zw_22_7 hk81 (by decide) zs_6 (q := (RX4, TX4, 2)) rfl rfl (yc_X4_addStep _ _ s62 hI65 k79 hk81 21 ⟨by omega, by omega⟩) rfl rfl (Nat.le_of_ble_eq_true rfl) (by decide) (fun r82 s83 hr84 hp85 => ?_)
          obtain ⟨hI86, hF87⟩ := hp85
          have hF88 := zOn_tr hF71 hF87 zi_rp2
          have hT89 := yTk_rk hT67 (yRk_p hF87)
          have hE90 : yst s83 = p72 := (yst_rk (yRk_p hF87)).trans hE73
          have b91 := zv_20_2 hI86 zc_33
          have e92 := hF87 33 2 rfl
          refine zt_iinc (pc' := 50) (lv' := [some (.ref (X.1.1 + 33)), some (.int (zI 3)), some (.int (zI (x19 + 1)))]) hX dX1_test_47 rfl rfl hL (by decide) rfl ?_
          refine zt_goto (tgt := 7) hX dX1_test_50 (by decide) ?_
          exact ih35 (x19 + 1) s83 p72 (by omega) (by omega) hI86 hF88 hT89 hE90 (by omega) (by omega) g77 L74 I78 (by omega)
  exact L_7_32 _ 0 s3 p13 (by omega) (by omega) hI6 hF12 hT8 hE14 (by omega) (by omega) g18 L15 (yge_0 hT8 hE14) (Nat.lt_succ_self _)
set_option maxRecDepth 100000 in
set_option maxHeartbeats 4000000 in
theorem yc_X1_opens_o2 (l : Launch) (E : zEN) (σ : zSto) (hI : zInv σ) (f : Int → Int) (hT : yTk f σ) : zCt l E yX1_opens cX1_opens 2 (some .boolean) 1 zNC zNC 0 0 σ [.ref (E.1 + 33), .int (zI 2)] (fun r σ' => zInv σ' ∧ zOn zR1 σ σ' ∧ 1 ≤ r ∧ r ≤ 1 ∧ yTk f σ' ∧ ((yst σ') = yPx f (yst σ))) := by
  refine zCt_of2 [some (.ref (E.1 + 33)), some (.int (zI 2))] (by decide +kernel) (Nat.le_of_ble_eq_true rfl) rfl ?_
  intro X hE_ hX hR hL hN
  subst hE_
  have hX : zok X cX1_opens RX1 1 := hX
  have hF := zOn_rf zR1 σ
  have hE0 : yst σ = yst σ := rfl
  have L0 := yle_rf (yst σ)
  refine zt_iload_n (pc' := 1) hX dX1_opens_0 rfl rfl ?_
  refine zt_bipush (pc' := 3) hX dX1_opens_1 rfl (by decide) (by decide) ?_
  refine zt_iclt (pc' := 6) (tgt := 23) hX dX1_opens_3 rfl (by decide) ⟨by omega, by omega⟩ ⟨by omega, by omega⟩ (fun c1 => ?_) (fun c1 => ?_)
  · refine zt_aload_n (pc' := 24) hX dX1_opens_23 rfl rfl ?_
    refine zt_get (pc' := 27) (v := .ref (X.1.1 + 27)) hX dX1_opens_24 rfl zf_X1_15 (by decide) zc_33 zs_20 (zrf_of (zv_20_0 hI zc_33)) ?_
    refine zt_cVv (pc' := 30) hX dX1_opens_27 rfl zm_yX5_step zw_22_6 zc_27 (by decide) zs_14 (q := (RX5, TX5, 9)) rfl rfl (yc_X5_step _ _ σ hI f hT) rfl rfl (Nat.le_of_ble_eq_true rfl) (by decide) (fun r2 s3 hr4 hp5 => ?_)
    obtain ⟨hI6, hF7, hT8, z9⟩ := hp5
    have hE10 : yst s3 = yPx f (yst σ) := z9
    have hF11 := zOn_tr hF hF7 zi_id
    have L12 : yle (yst σ) (yPx f (yst σ)) := yle_tr L0 (yle_x hT hE0)
    refine zt_iconst (pc' := 31) hX dX1_opens_30 rfl ?_
    exact zt_zret hX hR dX1_opens_31 ⟨by omega, by omega⟩ ⟨hI6, hF11, by omega, by omega, hT8, hE10⟩
  · exact absurd c1 (by omega)
set_option maxRecDepth 100000 in
set_option maxHeartbeats 4000000 in
theorem yc_X1_pair_o2 (l : Launch) (E : zEN) (σ : zSto) (hI : zInv σ) (f : Int → Int) (hT : yTk f σ) (rl : Int) (hrl : σ 33 2 = rl) (k : List Nat) (hk : ydep k = 2) : zCt l E yX1_pair cX1_pair 2 none 18 zNC zNC 0 0 σ [.ref (E.1 + 33), .int (zI 2)] (fun r σ' => zInv σ' ∧ zOn zR2 σ σ' ∧ yTk f σ' ∧ (yJ rl f (3, k, (yst σ)) (2, k, (yst σ'))) ∧ (yle (yst σ) (yst σ'))) := by
  refine zCt_of2 [some (.ref (E.1 + 33)), some (.int (zI 2))] (by decide +kernel) (Nat.le_of_ble_eq_true rfl) rfl ?_
  intro X hE_ hX hR hL hN
  subst hE_
  have hX : zok X cX1_pair RX1 18 := hX
  have hF := zOn_rf zR2 σ
  have hE0 : yst σ = yst σ := rfl
  have L0 := yle_rf (yst σ)
  have b1 := zv_20_2 hI zc_33
  refine zt_aload_n (pc' := 1) hX dX1_pair_0 rfl rfl ?_
  refine zt_get (pc' := 4) (v := .ref (X.1.1 + 27)) hX dX1_pair_1 rfl zf_X1_15 (by decide) zc_33 zs_20 (zrf_of (zv_20_0 hI zc_33)) ?_
  refine zt_cVi (pc' := 7) hX dX1_pair_4 rfl zm_yX5_signHere zw_22_2 zc_27 (by decide) zs_14 (q := (RX5, TX5, 9)) rfl rfl (yc_X5_signHere _ _ σ hI f hT) rfl rfl (Nat.le_of_ble_eq_true rfl) (by decide) (fun r2 s3 hr4 hp5 => ?_)
  obtain ⟨rfl, q6, q7, z8⟩ := hp5
  refine zt_bipush (pc' := 9) hX dX1_pair_7 rfl (by decide) (by decide) ?_
  refine zt_iceq (pc' := 12) (tgt := 30) hX dX1_pair_9 rfl (by decide) ⟨by omega, by omega⟩ ⟨by omega, by omega⟩ (fun c9 => ?_) (fun c9 => ?_)
  · refine zt_aload_n (pc' := 31) hX dX1_pair_30 rfl rfl ?_
    refine zt_iload_n (pc' := 32) hX dX1_pair_31 rfl rfl ?_
    refine zt_cVz (pc' := 35) hX dX1_pair_32 rfl zm_yX1_opens zw_22_11 zc_33 (by decide) zs_20 (q := (RX1, TX1, 3)) rfl rfl (yc_X1_opens_o2 _ _ σ hI f hT) rfl rfl (Nat.le_of_ble_eq_true rfl) (by decide) (fun r10 s11 hr12 hp13 => ?_)
    obtain ⟨hI14, hF15, q16, q17, hT18, z19⟩ := hp13
    have hE20 : yst s11 = yPx f (yst σ) := z19
    have hF21 := zOn_tr hF hF15 zi_r12
    have L22 : yle (yst σ) (yPx f (yst σ)) := yle_tr L0 (yle_x hT hE0)
    have b23 := zv_20_2 hI14 zc_33
    have e24 := hF15 33 2 rfl
    refine zt_ifeq (pc' := 38) (tgt := 70) hX dX1_pair_35 rfl (by decide) ⟨by omega, by omega⟩ (fun c25 => ?_) (fun c25 => ?_)
    · exact absurd c25 (by omega)
    · refine zt_aload_n (pc' := 39) hX dX1_pair_38 rfl rfl ?_
      refine zt_iload_n (pc' := 40) hX dX1_pair_39 rfl rfl ?_
      refine zt_iconst (pc' := 41) hX dX1_pair_40 rfl ?_
      refine zt_iadd (pc' := 42) hX dX1_pair_41 rfl ?_
      rw [show (2 + 1 : Int) = 3 from rfl]
      refine zt_cVv (pc' := 45) hX dX1_pair_42 rfl zm_yX1_sum zw_21_19 zc_33 (by decide) zs_20 (q := (RX1, TX1, 3)) rfl rfl (yc_X1_sum_o3 _ _ s11 hI14 f hT18 rl (by omega) (2 :: k) (by show ydep k + 1 = _; omega) (Nat.ne_of_beq_eq_false rfl)) rfl rfl (Nat.le_of_ble_eq_true rfl) (by decide) (fun r26 s27 hr28 hp29 => ?_)
      obtain ⟨hI30, hF31, hT32, z33, z34, z35⟩ := hp29
      rw [hE20] at z33
      rw [hE20] at z34
      have hF36 := zOn_tr hF21 hF31 zi_id
      obtain ⟨p37, hE38⟩ : ∃ p, yst s27 = p := ⟨_, rfl⟩
      rw [hE38] at z33
      rw [hE38] at z34
      have L39 := yle_tr L22 z34
      rw [hE38] at z35
      have b40 := zv_20_2 hI30 zc_33
      have e41 := hF31 33 2 rfl
      refine zt_aload_n (pc' := 46) hX dX1_pair_45 rfl rfl ?_
      refine zt_get (pc' := 49) (v := .ref (X.1.1 + 27)) hX dX1_pair_46 rfl zf_X1_15 (by decide) zc_33 zs_20 (zrf_of (zv_20_0 hI30 zc_33)) ?_
      refine zt_bipush (pc' := 51) hX dX1_pair_49 rfl (by decide) (by decide) ?_
      refine zt_cVv (pc' := 54) hX dX1_pair_51 rfl zm_yX5_takeSign zw_22_15 zc_27 (by decide) zs_14 (q := (RX5, TX5, 9)) rfl rfl (yc_X5_takeSign _ _ s27 hI30 44 ⟨by omega, by omega⟩ f hT32) rfl rfl (Nat.le_of_ble_eq_true rfl) (by decide) (fun r42 s43 hr44 hp45 => ?_)
      obtain ⟨hI46, hF47, hT48, z49⟩ := hp45
      have hE50 : yst s43 = yPs f 44 p37 := by rw [z49, hE38]
      have hF51 := zOn_tr hF36 hF47 zi_r12
      have L52 : yle (yst σ) (yPs f 44 p37) := yle_tr L39 (yle_s hT32 hE38)
      have b53 := zv_20_2 hI46 zc_33
      have e54 := hF47 33 2 rfl
      refine zt_aload_n (pc' := 55) hX dX1_pair_54 rfl rfl ?_
      refine zt_iload_n (pc' := 56) hX dX1_pair_55 rfl rfl ?_
      refine zt_iconst (pc' := 57) hX dX1_pair_56 rfl ?_
      refine zt_iadd (pc' := 58) hX dX1_pair_57 rfl ?_
      rw [show (2 + 1 : Int) = 3 from rfl]
      refine zt_cVv (pc' := 61) hX dX1_pair_58 rfl zm_yX1_sum zw_21_19 zc_33 (by decide) zs_20 (q := (RX1, TX1, 3)) rfl rfl (yc_X1_sum_o3 _ _ s43 hI46 f hT48 rl (by omega) (3 :: k) (by show ydep k + 1 = _; omega) (Nat.ne_of_beq_eq_false rfl)) rfl rfl (Nat.le_of_ble_eq_true rfl) (by decide) (fun r55 s56 hr57 hp58 => ?_)
      obtain ⟨hI59, hF60, hT61, z62, z63, z64⟩ := hp58
      rw [hE50] at z62
      rw [hE50] at z63
      have hF65 := zOn_tr hF51 hF60 zi_id
      obtain ⟨p66, hE67⟩ : ∃ p, yst s56 = p := ⟨_, rfl⟩
      rw [hE67] at z62
      rw [hE67] at z63
      have L68 := yle_tr L52 z63
      rw [hE67] at z64
      have b69 := zv_20_2 hI59 zc_33
      have e70 := hF60 33 2 rfl
      refine zt_aload_n (pc' := 62) hX dX1_pair_61 rfl rfl ?_
      refine zt_get (pc' := 65) (v := .ref (X.1.1 + 27)) hX dX1_pair_62 rfl zf_X1_15 (by decide) zc_33 zs_20 (zrf_of (zv_20_0 hI59 zc_33)) ?_
      refine zt_bipush (pc' := 67) hX dX1_pair_65 rfl (by decide) (by decide) ?_
      refine zt_cVv (pc' := 70) hX dX1_pair_67 rfl zm_yX5_takeSign zw_22_15 zc_27 (by decide) zs_14 (q := (RX5, TX5, 9)) rfl rfl (yc_X5_takeSign _ _ s56 hI59 41 ⟨by omega, by omega⟩ f hT61) rfl rfl (Nat.le_of_ble_eq_true rfl) (by decide) (fun r71 s72 hr73 hp74 => ?_)
      obtain ⟨hI75, hF76, hT77, z78⟩ := hp74
      have hE79 : yst s72 = yPs f 41 p66 := by rw [z78, hE67]
      have hF80 := zOn_tr hF65 hF76 zi_r12
      have L81 : yle (yst σ) (yPs f 41 p66) := yle_tr L68 (yle_s hT61 hE67)
      have b82 := zv_20_2 hI75 zc_33
      have e83 := hF76 33 2 rfl
      exact zt_vret hX hR dX1_pair_70 ⟨hI75, hF80, hT77, (by rw [hE79]; exact yJ_tr (yJ_pr (by omega) (by omega)) (yJ_tr z33 (yJ_tr (yJ_cm z35) (yJ_tr z62 (yJ_cl (Or.inr rfl) z64))))), (by rw [hE79]; exact L81)⟩
  · refine zt_aload_n (pc' := 13) hX dX1_pair_12 rfl rfl ?_
    refine zt_get (pc' := 16) (v := .ref (X.1.1 + 27)) hX dX1_pair_13 rfl zf_X1_15 (by decide) zc_33 zs_20 (zrf_of (zv_20_0 hI zc_33)) ?_
    refine zt_iconst (pc' := 17) hX dX1_pair_16 rfl ?_
    refine zt_aload_n (pc' := 18) hX dX1_pair_17 rfl rfl ?_
    refine zt_get (pc' := 21) (v := .ref (X.1.1 + 27)) hX dX1_pair_18 rfl zf_X1_15 (by decide) zc_33 zs_20 (zrf_of (zv_20_0 hI zc_33)) ?_
    refine zt_cVi (pc' := 24) hX dX1_pair_21 rfl zm_yX5_placeHere zw_22_9 zc_27 (by decide) zs_14 (q := (RX5, TX5, 9)) rfl rfl (yc_X5_placeHere _ _ σ hI f hT) rfl rfl (Nat.le_of_ble_eq_true rfl) (by decide) (fun r84 s85 hr86 hp87 => ?_)
    obtain ⟨rfl, q88, q89, z90⟩ := hp87
    refine zt_cVv (pc' := 27) hX dX1_pair_24 rfl zm_yX5_refuse zw_22_10 zc_27 (by decide) zs_14 (q := (RX5, TX5, 9)) rfl rfl (yc_X5_refuse _ _ σ hI 1 ⟨by omega, by omega⟩ r84 ⟨by omega, by omega⟩ (by omega) f hT) rfl rfl (Nat.le_of_ble_eq_true rfl) (by decide) (fun r91 s92 hr93 hp94 => ?_)
    obtain ⟨hI95, hF96, hT97, z98⟩ := hp94
    have hE99 : yst s92 = yPno 1 r84 (yst σ) := z98
    have hF100 := zOn_tr hF hF96 zi_r12
    have L101 : yle (yst σ) (yPno 1 r84 (yst σ)) := yle_tr L0 yle_no
    have b102 := zv_20_2 hI95 zc_33
    have e103 := hF96 33 2 rfl
    refine zt_goto (tgt := 70) hX dX1_pair_27 (by decide) ?_
    exact zt_vret hX hR dX1_pair_70 ⟨hI95, hF100, hT97, (by rw [hE99, yPno_f (p := r84) (d := 0) (fun o => by omega)]; exact yJ_prn (by omega)), (by rw [hE99]; exact L101)⟩
set_option maxRecDepth 100000 in
set_option maxHeartbeats 4000000 in
theorem yc_X1_part_o2 (l : Launch) (E : zEN) (σ : zSto) (hI : zInv σ) (f : Int → Int) (hT : yTk f σ) (rl : Int) (hrl : σ 33 2 = rl) (k : List Nat) (hk : ydep k = 2) : zCt l E yX1_part cX1_part 4 none 19 zNC zNC 0 0 σ [.ref (E.1 + 33), .int (zI 2)] (fun r σ' => zInv σ' ∧ zOn zR2 σ σ' ∧ yTk f σ' ∧ (yJ rl f (1, k, (yst σ)) (2, k, (yst σ'))) ∧ (yle (yst σ) (yst σ'))) := by
  refine zCt_of2 [some (.ref (E.1 + 33)), some (.int (zI 2)), none, none] (by decide +kernel) (Nat.le_of_ble_eq_true rfl) rfl ?_
  intro X hE_ hX hR hL hN
  subst hE_
  have hX : zok X cX1_part RX1 19 := hX
  have hF := zOn_rf zR2 σ
  have hE0 : yst σ = yst σ := rfl
  have L0 := yle_rf (yst σ)
  have b1 := zv_20_2 hI zc_33
  refine zt_aload_n (pc' := 1) hX dX1_part_0 rfl rfl ?_
  refine zt_get (pc' := 4) (v := .ref (X.1.1 + 27)) hX dX1_part_1 rfl zf_X1_15 (by decide) zc_33 zs_20 (zrf_of (zv_20_0 hI zc_33)) ?_
  refine zt_cVi (pc' := 7) hX dX1_part_4 rfl zm_yX5_wordHere zw_22_21 zc_27 (by decide) zs_14 (q := (RX5, TX5, 9)) rfl rfl (yc_X5_wordHere _ _ σ hI f hT) rfl rfl (Nat.le_of_ble_eq_true rfl) (by decide) (fun r2 s3 hr4 hp5 => ?_)
  obtain ⟨rfl, q6, q7, z8⟩ := hp5
  refine zt_istore_n (pc' := 8) (lv' := [some (.ref (X.1.1 + 33)), some (.int (zI 2)), some (.int (zI r2)), none]) hX dX1_part_7 rfl hL (by decide) rfl ?_
  refine zt_aload_n (pc' := 9) hX dX1_part_8 rfl rfl ?_
  refine zt_get (pc' := 12) (v := .ref (X.1.1 + 27)) hX dX1_part_9 rfl zf_X1_15 (by decide) zc_33 zs_20 (zrf_of (zv_20_0 hI zc_33)) ?_
  refine zt_cVi (pc' := 15) hX dX1_part_12 rfl zm_yX5_kindHere zw_22_22 zc_27 (by decide) zs_14 (q := (RX5, TX5, 9)) rfl rfl (yc_X5_kindHere _ _ σ hI f hT) rfl rfl (Nat.le_of_ble_eq_true rfl) (by decide) (fun r9 s10 hr11 hp12 => ?_)
  obtain ⟨rfl, q13, q14, z15⟩ := hp12
  refine zt_istore_n (pc' := 16) (lv' := [some (.ref (X.1.1 + 33)), some (.int (zI 2)), some (.int (zI r2)), some (.int (zI r9))]) hX dX1_part_15 rfl hL (by decide) rfl ?_
  refine zt_iload_n (pc' := 17) hX dX1_part_16 rfl rfl ?_
  refine zt_iconst (pc' := 18) hX dX1_part_17 rfl ?_
  refine zt_iceq (pc' := 21) (tgt := 26) hX dX1_part_18 rfl (by decide) ⟨by omega, by omega⟩ ⟨by omega, by omega⟩ (fun c16 => ?_) (fun c16 => ?_)
  · refine zt_aload_n (pc' := 27) hX dX1_part_26 rfl rfl ?_
    obtain ⟨k17, ek18, hk19⟩ := zv_20_1 hI zc_33
    refine zt_get (pc' := 30) (v := .ref (X.1.1 + k17)) hX dX1_part_27 rfl zf_X1_19 (by decide) zc_33 zs_20 (zrf_of ek18) ?_
    refine zt_aload_n (pc' := 31) hX dX1_part_30 rfl rfl ?_
    refine zt_get (pc' := 34) (v := .ref (X.1.1 + 27)) hX dX1_part_31 rfl zf_X1_15 (by decide) zc_33 zs_20 (zrf_of (zv_20_0 hI zc_33)) ?_
    refine zt_iconst (pc' := 35) hX dX1_part_34 rfl ?_
    refine zt_sipush (pc' := 38) hX dX1_part_35 rfl (by decide) (by decide) ?_
    refine zt_cVi (pc' := 41) hX dX1_part_38 rfl zm_yX5_takeNumber zw_22_23 zc_27 (by decide) zs_14 (q := (RX5, TX5, 9)) rfl rfl (yc_X5_takeNumber _ _ σ hI 0 ⟨by omega, by omega⟩ 9999 ⟨by omega, by omega⟩ f hT) rfl rfl (Nat.le_of_ble_eq_true rfl) (by decide) (fun r20 s21 hr22 hp23 => ?_)
    obtain ⟨hI24, hF25, q26, q27, hT28, z29, z30, z31⟩ := hp23
    have hE32 : yst s21 = yPn f 0 9999 (yst σ) := z29
    have hF33 := zOn_tr hF hF25 zi_r12
    rw [hE32] at z30
    have L34 : yle (yst σ) (yPn f 0 9999 (yst σ)) := yle_tr L0 (yle_n hT hE0)
    have b35 := zv_20_2 hI24 zc_33
    have e36 := hF25 33 2 rfl
    refine zt_cVv (pc' := 44) hX dX1_part_41 rfl zm_yX4_addNumber zw_23_0 hk19 (by decide) zs_6 (q := (RX4, TX4, 2)) rfl rfl (yc_X4_addNumber _ _ s21 hI24 k17 hk19 r20 ⟨by omega, by omega⟩) rfl rfl (Nat.le_of_ble_eq_true rfl) (by decide) (fun r37 s38 hr39 hp40 => ?_)
    obtain ⟨hI41, hF42⟩ := hp40
    have hF43 := zOn_tr hF33 hF42 zi_rp2
    have hT44 := yTk_rk hT28 (yRk_p hF42)
    have hE45 : yst s38 = yPn f 0 9999 (yst σ) := (yst_rk (yRk_p hF42)).trans hE32
    have b46 := zv_20_2 hI41 zc_33
    have e47 := hF42 33 2 rfl
    refine zt_goto (tgt := 203) hX dX1_part_44 (by decide) ?_
    exact zt_vret hX hR dX1_part_203 ⟨hI41, hF43, hT44, (by rw [hE45]; exact yJ_num (by omega)), (by rw [hE45]; exact L34)⟩
  · refine zt_iload_n (pc' := 22) hX dX1_part_21 rfl rfl ?_
    refine zt_iconst (pc' := 23) hX dX1_part_22 rfl ?_
    refine zt_icne (pc' := 26) (tgt := 47) hX dX1_part_23 rfl (by decide) ⟨by omega, by omega⟩ ⟨by omega, by omega⟩ (fun c48 => ?_) (fun c48 => ?_)
    · refine zt_aload_n (pc' := 48) hX dX1_part_47 rfl rfl ?_
      refine zt_get (pc' := 51) (v := .ref (X.1.1 + 27)) hX dX1_part_48 rfl zf_X1_15 (by decide) zc_33 zs_20 (zrf_of (zv_20_0 hI zc_33)) ?_
      refine zt_cVi (pc' := 54) hX dX1_part_51 rfl zm_yX5_signHere zw_22_2 zc_27 (by decide) zs_14 (q := (RX5, TX5, 9)) rfl rfl (yc_X5_signHere _ _ σ hI f hT) rfl rfl (Nat.le_of_ble_eq_true rfl) (by decide) (fun r49 s50 hr51 hp52 => ?_)
      obtain ⟨rfl, q53, q54, z55⟩ := hp52
      refine zt_bipush (pc' := 56) hX dX1_part_54 rfl (by decide) (by decide) ?_
      refine zt_icne (pc' := 59) (tgt := 86) hX dX1_part_56 rfl (by decide) ⟨by omega, by omega⟩ ⟨by omega, by omega⟩ (fun c56 => ?_) (fun c56 => ?_)
      · refine zt_iload_n (pc' := 87) hX dX1_part_86 rfl rfl ?_
        refine zt_bipush (pc' := 89) hX dX1_part_87 rfl (by decide) (by decide) ?_
        refine zt_iceq (pc' := 92) (tgt := 98) hX dX1_part_89 rfl (by decide) ⟨by omega, by omega⟩ ⟨by omega, by omega⟩ (fun c57 => ?_) (fun c57 => ?_)
        · refine zt_aload_n (pc' := 99) hX dX1_part_98 rfl rfl ?_
          refine zt_get (pc' := 102) (v := .ref (X.1.1 + 27)) hX dX1_part_99 rfl zf_X1_15 (by decide) zc_33 zs_20 (zrf_of (zv_20_0 hI zc_33)) ?_
          refine zt_cVv (pc' := 105) hX dX1_part_102 rfl zm_yX5_step zw_22_6 zc_27 (by decide) zs_14 (q := (RX5, TX5, 9)) rfl rfl (yc_X5_step _ _ σ hI f hT) rfl rfl (Nat.le_of_ble_eq_true rfl) (by decide) (fun r58 s59 hr60 hp61 => ?_)
          obtain ⟨hI62, hF63, hT64, z65⟩ := hp61
          have hE66 : yst s59 = yPx f (yst σ) := z65
          have hF67 := zOn_tr hF hF63 zi_r12
          have L68 : yle (yst σ) (yPx f (yst σ)) := yle_tr L0 (yle_x hT hE0)
          have b69 := zv_20_2 hI62 zc_33
          have e70 := hF63 33 2 rfl
          refine zt_aload_n (pc' := 106) hX dX1_part_105 rfl rfl ?_
          refine zt_iload_n (pc' := 107) hX dX1_part_106 rfl rfl ?_
          refine zt_cVv (pc' := 110) hX dX1_part_107 rfl zm_yX1_pair zw_23_1 zc_33 (by decide) zs_20 (q := (RX1, TX1, 3)) rfl rfl (yc_X1_pair_o2 _ _ s59 hI62 f hT64 rl (by omega) k hk) rfl rfl (Nat.le_of_ble_eq_true rfl) (by decide) (fun r71 s72 hr73 hp74 => ?_)
          obtain ⟨hI75, hF76, hT77, z78, z79⟩ := hp74
          rw [hE66] at z78
          rw [hE66] at z79
          have hF80 := zOn_tr hF67 hF76 zi_id
          obtain ⟨p81, hE82⟩ : ∃ p, yst s72 = p := ⟨_, rfl⟩
          rw [hE82] at z78
          rw [hE82] at z79
          have L83 := yle_tr L68 z79
          have b84 := zv_20_2 hI75 zc_33
          have e85 := hF76 33 2 rfl
          refine zt_aload_n (pc' := 111) hX dX1_part_110 rfl rfl ?_
          obtain ⟨k86, ek87, hk88⟩ := zv_20_1 hI75 zc_33
          refine zt_get (pc' := 114) (v := .ref (X.1.1 + k86)) hX dX1_part_111 rfl zf_X1_19 (by decide) zc_33 zs_20 (zrf_of ek87) ?_
          refine zt_iload_n (pc' := 115) hX dX1_part_114 rfl rfl ?_
          refine zt_cVv (pc' := 118) hX dX1_part_115 rfl zm_yX4_addStep zw_22_7 hk88 (by decide) zs_6 (q := (RX4, TX4, 2)) rfl rfl (yc_X4_addStep _ _ s72 hI75 k86 hk88 r2 ⟨by omega, by omega⟩) rfl rfl (Nat.le_of_ble_eq_true rfl) (by decide) (fun r89 s90 hr91 hp92 => ?_)
          obtain ⟨hI93, hF94⟩ := hp92
          have hF95 := zOn_tr hF80 hF94 zi_rp2
          have hT96 := yTk_rk hT77 (yRk_p hF94)
          have hE97 : yst s90 = p81 := (yst_rk (yRk_p hF94)).trans hE82
          have b98 := zv_20_2 hI93 zc_33
          have e99 := hF94 33 2 rfl
          refine zt_goto (tgt := 203) hX dX1_part_118 (by decide) ?_
          exact zt_vret hX hR dX1_part_203 ⟨hI93, hF95, hT96, (by rw [hE97]; exact yJ_tr (yJ_mm (by omega)) z78), (by rw [hE97]; exact L83)⟩
        · refine zt_iload_n (pc' := 93) hX dX1_part_92 rfl rfl ?_
          refine zt_bipush (pc' := 95) hX dX1_part_93 rfl (by decide) (by decide) ?_
          refine zt_icne (pc' := 98) (tgt := 121) hX dX1_part_95 rfl (by decide) ⟨by omega, by omega⟩ ⟨by omega, by omega⟩ (fun c100 => ?_) (fun c100 => ?_)
          · refine zt_iload_n (pc' := 122) hX dX1_part_121 rfl rfl ?_
            refine zt_bipush (pc' := 124) hX dX1_part_122 rfl (by decide) (by decide) ?_
            refine zt_icne (pc' := 127) (tgt := 162) hX dX1_part_124 rfl (by decide) ⟨by omega, by omega⟩ ⟨by omega, by omega⟩ (fun c101 => ?_) (fun c101 => ?_)
            · refine zt_aload_n (pc' := 163) hX dX1_part_162 rfl rfl ?_
              refine zt_iload_n (pc' := 164) hX dX1_part_163 rfl rfl ?_
              refine zt_cVz (pc' := 167) hX dX1_part_164 rfl zm_yX1_isValue zw_23_7 zc_33 (by decide) zs_20 (q := (RX1, TX1, 3)) rfl rfl (yc_X1_isValue _ _ σ hI r2 ⟨by omega, by omega⟩) rfl rfl (Nat.le_of_ble_eq_true rfl) (by decide) (fun r102 s103 hr104 hp105 => ?_)
              obtain ⟨rfl, q106, q107, z108⟩ := hp105
              rw [hrl, z8] at z108
              refine zt_ifeq (pc' := 170) (tgt := 188) hX dX1_part_167 rfl (by decide) ⟨by omega, by omega⟩ (fun c109 => ?_) (fun c109 => ?_)
              · refine zt_aload_n (pc' := 189) hX dX1_part_188 rfl rfl ?_
                refine zt_get (pc' := 192) (v := .ref (X.1.1 + 27)) hX dX1_part_189 rfl zf_X1_15 (by decide) zc_33 zs_20 (zrf_of (zv_20_0 hI zc_33)) ?_
                refine zt_iconst (pc' := 193) hX dX1_part_192 rfl ?_
                refine zt_aload_n (pc' := 194) hX dX1_part_193 rfl rfl ?_
                refine zt_get (pc' := 197) (v := .ref (X.1.1 + 27)) hX dX1_part_194 rfl zf_X1_15 (by decide) zc_33 zs_20 (zrf_of (zv_20_0 hI zc_33)) ?_
                refine zt_cVi (pc' := 200) hX dX1_part_197 rfl zm_yX5_placeHere zw_22_9 zc_27 (by decide) zs_14 (q := (RX5, TX5, 9)) rfl rfl (yc_X5_placeHere _ _ σ hI f hT) rfl rfl (Nat.le_of_ble_eq_true rfl) (by decide) (fun r110 s111 hr112 hp113 => ?_)
                obtain ⟨rfl, q114, q115, z116⟩ := hp113
                refine zt_cVv (pc' := 203) hX dX1_part_200 rfl zm_yX5_refuse zw_22_10 zc_27 (by decide) zs_14 (q := (RX5, TX5, 9)) rfl rfl (yc_X5_refuse _ _ σ hI 1 ⟨by omega, by omega⟩ r110 ⟨by omega, by omega⟩ (by omega) f hT) rfl rfl (Nat.le_of_ble_eq_true rfl) (by decide) (fun r117 s118 hr119 hp120 => ?_)
                obtain ⟨hI121, hF122, hT123, z124⟩ := hp120
                have hE125 : yst s118 = yPno 1 r110 (yst σ) := z124
                have hF126 := zOn_tr hF hF122 zi_r12
                have L127 : yle (yst σ) (yPno 1 r110 (yst σ)) := yle_tr L0 yle_no
                have b128 := zv_20_2 hI121 zc_33
                have e129 := hF122 33 2 rfl
                exact zt_vret hX hR dX1_part_203 ⟨hI121, hF126, hT123, (by rw [hE125, yPno_f (p := r110) (d := 0) (fun o => by omega)]; exact yJ_bad (by omega) (by omega) (by omega) (by omega) (yVi_0 (by omega))), (by rw [hE125]; exact L127)⟩
              · refine zt_aload_n (pc' := 171) hX dX1_part_170 rfl rfl ?_
                refine zt_get (pc' := 174) (v := .ref (X.1.1 + 27)) hX dX1_part_171 rfl zf_X1_15 (by decide) zc_33 zs_20 (zrf_of (zv_20_0 hI zc_33)) ?_
                refine zt_cVv (pc' := 177) hX dX1_part_174 rfl zm_yX5_step zw_22_6 zc_27 (by decide) zs_14 (q := (RX5, TX5, 9)) rfl rfl (yc_X5_step _ _ σ hI f hT) rfl rfl (Nat.le_of_ble_eq_true rfl) (by decide) (fun r130 s131 hr132 hp133 => ?_)
                obtain ⟨hI134, hF135, hT136, z137⟩ := hp133
                have hE138 : yst s131 = yPx f (yst σ) := z137
                have hF139 := zOn_tr hF hF135 zi_r12
                have L140 : yle (yst σ) (yPx f (yst σ)) := yle_tr L0 (yle_x hT hE0)
                have b141 := zv_20_2 hI134 zc_33
                have e142 := hF135 33 2 rfl
                refine zt_aload_n (pc' := 178) hX dX1_part_177 rfl rfl ?_
                obtain ⟨k143, ek144, hk145⟩ := zv_20_1 hI134 zc_33
                refine zt_get (pc' := 181) (v := .ref (X.1.1 + k143)) hX dX1_part_178 rfl zf_X1_19 (by decide) zc_33 zs_20 (zrf_of ek144) ?_
                refine zt_iload_n (pc' := 182) hX dX1_part_181 rfl rfl ?_
                refine zt_cVv (pc' := 185) hX dX1_part_182 rfl zm_yX4_addStep zw_22_7 hk145 (by decide) zs_6 (q := (RX4, TX4, 2)) rfl rfl (yc_X4_addStep _ _ s131 hI134 k143 hk145 r2 ⟨by omega, by omega⟩) rfl rfl (Nat.le_of_ble_eq_true rfl) (by decide) (fun r146 s147 hr148 hp149 => ?_)
                obtain ⟨hI150, hF151⟩ := hp149
                have hF152 := zOn_tr hF139 hF151 zi_rp2
                have hT153 := yTk_rk hT136 (yRk_p hF151)
                have hE154 : yst s147 = yPx f (yst σ) := (yst_rk (yRk_p hF151)).trans hE138
                have b155 := zv_20_2 hI150 zc_33
                have e156 := hF151 33 2 rfl
                refine zt_goto (tgt := 203) hX dX1_part_185 (by decide) ?_
                exact zt_vret hX hR dX1_part_203 ⟨hI150, hF152, hT153, (by rw [hE154]; exact yJ_val (yVi_1 (by omega))), (by rw [hE154]; exact L140)⟩
            · refine zt_aload_n (pc' := 128) hX dX1_part_127 rfl rfl ?_
              have b157 := zv_20_2 hI zc_33
              refine zt_get (pc' := 131) (v := .int (zI (σ 33 2))) hX dX1_part_128 rfl zf_X1_9 (by decide) zc_33 zs_20 rfl ?_
              refine zt_iconst (pc' := 132) hX dX1_part_131 rfl ?_
              refine zt_icne (pc' := 135) (tgt := 162) hX dX1_part_132 rfl (by decide) ⟨by omega, by omega⟩ ⟨by omega, by omega⟩ (fun c158 => ?_) (fun c158 => ?_)
              · refine zt_aload_n (pc' := 163) hX dX1_part_162 rfl rfl ?_
                refine zt_iload_n (pc' := 164) hX dX1_part_163 rfl rfl ?_
                refine zt_cVz (pc' := 167) hX dX1_part_164 rfl zm_yX1_isValue zw_23_7 zc_33 (by decide) zs_20 (q := (RX1, TX1, 3)) rfl rfl (yc_X1_isValue _ _ σ hI r2 ⟨by omega, by omega⟩) rfl rfl (Nat.le_of_ble_eq_true rfl) (by decide) (fun r159 s160 hr161 hp162 => ?_)
                obtain ⟨rfl, q163, q164, z165⟩ := hp162
                rw [hrl, z8] at z165
                refine zt_ifeq (pc' := 170) (tgt := 188) hX dX1_part_167 rfl (by decide) ⟨by omega, by omega⟩ (fun c166 => ?_) (fun c166 => ?_)
                · refine zt_aload_n (pc' := 189) hX dX1_part_188 rfl rfl ?_
                  refine zt_get (pc' := 192) (v := .ref (X.1.1 + 27)) hX dX1_part_189 rfl zf_X1_15 (by decide) zc_33 zs_20 (zrf_of (zv_20_0 hI zc_33)) ?_
                  refine zt_iconst (pc' := 193) hX dX1_part_192 rfl ?_
                  refine zt_aload_n (pc' := 194) hX dX1_part_193 rfl rfl ?_
                  refine zt_get (pc' := 197) (v := .ref (X.1.1 + 27)) hX dX1_part_194 rfl zf_X1_15 (by decide) zc_33 zs_20 (zrf_of (zv_20_0 hI zc_33)) ?_
                  refine zt_cVi (pc' := 200) hX dX1_part_197 rfl zm_yX5_placeHere zw_22_9 zc_27 (by decide) zs_14 (q := (RX5, TX5, 9)) rfl rfl (yc_X5_placeHere _ _ σ hI f hT) rfl rfl (Nat.le_of_ble_eq_true rfl) (by decide) (fun r167 s168 hr169 hp170 => ?_)
                  obtain ⟨rfl, q171, q172, z173⟩ := hp170
                  refine zt_cVv (pc' := 203) hX dX1_part_200 rfl zm_yX5_refuse zw_22_10 zc_27 (by decide) zs_14 (q := (RX5, TX5, 9)) rfl rfl (yc_X5_refuse _ _ σ hI 1 ⟨by omega, by omega⟩ r167 ⟨by omega, by omega⟩ (by omega) f hT) rfl rfl (Nat.le_of_ble_eq_true rfl) (by decide) (fun r174 s175 hr176 hp177 => ?_)
                  obtain ⟨hI178, hF179, hT180, z181⟩ := hp177
                  have hE182 : yst s175 = yPno 1 r167 (yst σ) := z181
                  have hF183 := zOn_tr hF hF179 zi_r12
                  have L184 : yle (yst σ) (yPno 1 r167 (yst σ)) := yle_tr L0 yle_no
                  have b185 := zv_20_2 hI178 zc_33
                  have e186 := hF179 33 2 rfl
                  exact zt_vret hX hR dX1_part_203 ⟨hI178, hF183, hT180, (by rw [hE182, yPno_f (p := r167) (d := 0) (fun o => by omega)]; exact yJ_bad (by omega) (by omega) (by omega) (by omega) (yVi_0 (by omega))), (by rw [hE182]; exact L184)⟩
                · refine zt_aload_n (pc' := 171) hX dX1_part_170 rfl rfl ?_
                  refine zt_get (pc' := 174) (v := .ref (X.1.1 + 27)) hX dX1_part_171 rfl zf_X1_15 (by decide) zc_33 zs_20 (zrf_of (zv_20_0 hI zc_33)) ?_
                  refine zt_cVv (pc' := 177) hX dX1_part_174 rfl zm_yX5_step zw_22_6 zc_27 (by decide) zs_14 (q := (RX5, TX5, 9)) rfl rfl (yc_X5_step _ _ σ hI f hT) rfl rfl (Nat.le_of_ble_eq_true rfl) (by decide) (fun r187 s188 hr189 hp190 => ?_)
                  obtain ⟨hI191, hF192, hT193, z194⟩ := hp190
                  have hE195 : yst s188 = yPx f (yst σ) := z194
                  have hF196 := zOn_tr hF hF192 zi_r12
                  have L197 : yle (yst σ) (yPx f (yst σ)) := yle_tr L0 (yle_x hT hE0)
                  have b198 := zv_20_2 hI191 zc_33
                  have e199 := hF192 33 2 rfl
                  refine zt_aload_n (pc' := 178) hX dX1_part_177 rfl rfl ?_
                  obtain ⟨k200, ek201, hk202⟩ := zv_20_1 hI191 zc_33
                  refine zt_get (pc' := 181) (v := .ref (X.1.1 + k200)) hX dX1_part_178 rfl zf_X1_19 (by decide) zc_33 zs_20 (zrf_of ek201) ?_
                  refine zt_iload_n (pc' := 182) hX dX1_part_181 rfl rfl ?_
                  refine zt_cVv (pc' := 185) hX dX1_part_182 rfl zm_yX4_addStep zw_22_7 hk202 (by decide) zs_6 (q := (RX4, TX4, 2)) rfl rfl (yc_X4_addStep _ _ s188 hI191 k200 hk202 r2 ⟨by omega, by omega⟩) rfl rfl (Nat.le_of_ble_eq_true rfl) (by decide) (fun r203 s204 hr205 hp206 => ?_)
                  obtain ⟨hI207, hF208⟩ := hp206
                  have hF209 := zOn_tr hF196 hF208 zi_rp2
                  have hT210 := yTk_rk hT193 (yRk_p hF208)
                  have hE211 : yst s204 = yPx f (yst σ) := (yst_rk (yRk_p hF208)).trans hE195
                  have b212 := zv_20_2 hI207 zc_33
                  have e213 := hF208 33 2 rfl
                  refine zt_goto (tgt := 203) hX dX1_part_185 (by decide) ?_
                  exact zt_vret hX hR dX1_part_203 ⟨hI207, hF209, hT210, (by rw [hE211]; exact yJ_val (yVi_1 (by omega))), (by rw [hE211]; exact L197)⟩
              · refine zt_aload_n (pc' := 136) hX dX1_part_135 rfl rfl ?_
                refine zt_iload_n (pc' := 137) hX dX1_part_136 rfl rfl ?_
                refine zt_cVz (pc' := 140) hX dX1_part_137 rfl zm_yX1_opens zw_22_11 zc_33 (by decide) zs_20 (q := (RX1, TX1, 3)) rfl rfl (yc_X1_opens_o2 _ _ σ hI f hT) rfl rfl (Nat.le_of_ble_eq_true rfl) (by decide) (fun r214 s215 hr216 hp217 => ?_)
                obtain ⟨hI218, hF219, q220, q221, hT222, z223⟩ := hp217
                have hE224 : yst s215 = yPx f (yst σ) := z223
                have hF225 := zOn_tr hF hF219 zi_r12
                have L226 : yle (yst σ) (yPx f (yst σ)) := yle_tr L0 (yle_x hT hE0)
                have b227 := zv_20_2 hI218 zc_33
                have e228 := hF219 33 2 rfl
                refine zt_ifeq (pc' := 143) (tgt := 203) hX dX1_part_140 rfl (by decide) ⟨by omega, by omega⟩ (fun c229 => ?_) (fun c229 => ?_)
                · exact absurd c229 (by omega)
                · refine zt_aload_n (pc' := 144) hX dX1_part_143 rfl rfl ?_
                  refine zt_iload_n (pc' := 145) hX dX1_part_144 rfl rfl ?_
                  refine zt_iconst (pc' := 146) hX dX1_part_145 rfl ?_
                  refine zt_iadd (pc' := 147) hX dX1_part_146 rfl ?_
                  rw [show (2 + 1 : Int) = 3 from rfl]
                  refine zt_cVv (pc' := 150) hX dX1_part_147 rfl zm_yX1_part zw_23_4 zc_33 (by decide) zs_20 (q := (RX1, TX1, 3)) rfl rfl (yc_X1_part_o3 _ _ s215 hI218 f hT222 rl (by omega) (4 :: k) (by show ydep k + 1 = _; omega)) rfl rfl (Nat.le_of_ble_eq_true rfl) (by decide) (fun r230 s231 hr232 hp233 => ?_)
                  obtain ⟨hI234, hF235, hT236, z237, z238⟩ := hp233
                  rw [hE224] at z237
                  rw [hE224] at z238
                  have hF239 := zOn_tr hF225 hF235 zi_id
                  obtain ⟨p240, hE241⟩ : ∃ p, yst s231 = p := ⟨_, rfl⟩
                  rw [hE241] at z237
                  rw [hE241] at z238
                  have L242 := yle_tr L226 z238
                  have b243 := zv_20_2 hI234 zc_33
                  have e244 := hF235 33 2 rfl
                  refine zt_aload_n (pc' := 151) hX dX1_part_150 rfl rfl ?_
                  obtain ⟨k245, ek246, hk247⟩ := zv_20_1 hI234 zc_33
                  refine zt_get (pc' := 154) (v := .ref (X.1.1 + k245)) hX dX1_part_151 rfl zf_X1_19 (by decide) zc_33 zs_20 (zrf_of ek246) ?_
                  refine zt_bipush (pc' := 156) hX dX1_part_154 rfl (by decide) (by decide) ?_
                  refine zt_cVv (pc' := 159) hX dX1_part_156 rfl zm_yX4_addStep zw_22_7 hk247 (by decide) zs_6 (q := (RX4, TX4, 2)) rfl rfl (yc_X4_addStep _ _ s231 hI234 k245 hk247 20 ⟨by omega, by omega⟩) rfl rfl (Nat.le_of_ble_eq_true rfl) (by decide) (fun r248 s249 hr250 hp251 => ?_)
                  obtain ⟨hI252, hF253⟩ := hp251
                  have hF254 := zOn_tr hF239 hF253 zi_rp2
                  have hT255 := yTk_rk hT236 (yRk_p hF253)
                  have hE256 : yst s249 = p240 := (yst_rk (yRk_p hF253)).trans hE241
                  have b257 := zv_20_2 hI252 zc_33
                  have e258 := hF253 33 2 rfl
                  refine zt_goto (tgt := 203) hX dX1_part_159 (by decide) ?_
                  exact zt_vret hX hR dX1_part_203 ⟨hI252, hF254, hT255, (by rw [hE256]; exact yJ_tr (yJ_far (by omega) (by omega) (by omega)) (yJ_tr z237 yJ_of)), (by rw [hE256]; exact L242)⟩
          · refine zt_aload_n (pc' := 99) hX dX1_part_98 rfl rfl ?_
            refine zt_get (pc' := 102) (v := .ref (X.1.1 + 27)) hX dX1_part_99 rfl zf_X1_15 (by decide) zc_33 zs_20 (zrf_of (zv_20_0 hI zc_33)) ?_
            refine zt_cVv (pc' := 105) hX dX1_part_102 rfl zm_yX5_step zw_22_6 zc_27 (by decide) zs_14 (q := (RX5, TX5, 9)) rfl rfl (yc_X5_step _ _ σ hI f hT) rfl rfl (Nat.le_of_ble_eq_true rfl) (by decide) (fun r259 s260 hr261 hp262 => ?_)
            obtain ⟨hI263, hF264, hT265, z266⟩ := hp262
            have hE267 : yst s260 = yPx f (yst σ) := z266
            have hF268 := zOn_tr hF hF264 zi_r12
            have L269 : yle (yst σ) (yPx f (yst σ)) := yle_tr L0 (yle_x hT hE0)
            have b270 := zv_20_2 hI263 zc_33
            have e271 := hF264 33 2 rfl
            refine zt_aload_n (pc' := 106) hX dX1_part_105 rfl rfl ?_
            refine zt_iload_n (pc' := 107) hX dX1_part_106 rfl rfl ?_
            refine zt_cVv (pc' := 110) hX dX1_part_107 rfl zm_yX1_pair zw_23_1 zc_33 (by decide) zs_20 (q := (RX1, TX1, 3)) rfl rfl (yc_X1_pair_o2 _ _ s260 hI263 f hT265 rl (by omega) k hk) rfl rfl (Nat.le_of_ble_eq_true rfl) (by decide) (fun r272 s273 hr274 hp275 => ?_)
            obtain ⟨hI276, hF277, hT278, z279, z280⟩ := hp275
            rw [hE267] at z279
            rw [hE267] at z280
            have hF281 := zOn_tr hF268 hF277 zi_id
            obtain ⟨p282, hE283⟩ : ∃ p, yst s273 = p := ⟨_, rfl⟩
            rw [hE283] at z279
            rw [hE283] at z280
            have L284 := yle_tr L269 z280
            have b285 := zv_20_2 hI276 zc_33
            have e286 := hF277 33 2 rfl
            refine zt_aload_n (pc' := 111) hX dX1_part_110 rfl rfl ?_
            obtain ⟨k287, ek288, hk289⟩ := zv_20_1 hI276 zc_33
            refine zt_get (pc' := 114) (v := .ref (X.1.1 + k287)) hX dX1_part_111 rfl zf_X1_19 (by decide) zc_33 zs_20 (zrf_of ek288) ?_
            refine zt_iload_n (pc' := 115) hX dX1_part_114 rfl rfl ?_
            refine zt_cVv (pc' := 118) hX dX1_part_115 rfl zm_yX4_addStep zw_22_7 hk289 (by decide) zs_6 (q := (RX4, TX4, 2)) rfl rfl (yc_X4_addStep _ _ s273 hI276 k287 hk289 r2 ⟨by omega, by omega⟩) rfl rfl (Nat.le_of_ble_eq_true rfl) (by decide) (fun r290 s291 hr292 hp293 => ?_)
            obtain ⟨hI294, hF295⟩ := hp293
            have hF296 := zOn_tr hF281 hF295 zi_rp2
            have hT297 := yTk_rk hT278 (yRk_p hF295)
            have hE298 : yst s291 = p282 := (yst_rk (yRk_p hF295)).trans hE283
            have b299 := zv_20_2 hI294 zc_33
            have e300 := hF295 33 2 rfl
            refine zt_goto (tgt := 203) hX dX1_part_118 (by decide) ?_
            exact zt_vret hX hR dX1_part_203 ⟨hI294, hF296, hT297, (by rw [hE298]; exact yJ_tr (yJ_mm (by omega)) z279), (by rw [hE298]; exact L284)⟩
      · refine zt_aload_n (pc' := 60) hX dX1_part_59 rfl rfl ?_
        refine zt_iload_n (pc' := 61) hX dX1_part_60 rfl rfl ?_
        refine zt_cVz (pc' := 64) hX dX1_part_61 rfl zm_yX1_opens zw_22_11 zc_33 (by decide) zs_20 (q := (RX1, TX1, 3)) rfl rfl (yc_X1_opens_o2 _ _ σ hI f hT) rfl rfl (Nat.le_of_ble_eq_true rfl) (by decide) (fun r301 s302 hr303 hp304 => ?_)
        obtain ⟨hI305, hF306, q307, q308, hT309, z310⟩ := hp304
        have hE311 : yst s302 = yPx f (yst σ) := z310
        have hF312 := zOn_tr hF hF306 zi_r12
        have L313 : yle (yst σ) (yPx f (yst σ)) := yle_tr L0 (yle_x hT hE0)
        have b314 := zv_20_2 hI305 zc_33
        have e315 := hF306 33 2 rfl
        refine zt_ifeq (pc' := 67) (tgt := 203) hX dX1_part_64 rfl (by decide) ⟨by omega, by omega⟩ (fun c316 => ?_) (fun c316 => ?_)
        · exact absurd c316 (by omega)
        · refine zt_aload_n (pc' := 68) hX dX1_part_67 rfl rfl ?_
          refine zt_iload_n (pc' := 69) hX dX1_part_68 rfl rfl ?_
          refine zt_iconst (pc' := 70) hX dX1_part_69 rfl ?_
          refine zt_iadd (pc' := 71) hX dX1_part_70 rfl ?_
          rw [show (2 + 1 : Int) = 3 from rfl]
          refine zt_cVv (pc' := 74) hX dX1_part_71 rfl zm_yX1_sum zw_21_19 zc_33 (by decide) zs_20 (q := (RX1, TX1, 3)) rfl rfl (yc_X1_sum_o3 _ _ s302 hI305 f hT309 rl (by omega) (1 :: k) (by show ydep k + 1 = _; omega) (Nat.ne_of_beq_eq_false rfl)) rfl rfl (Nat.le_of_ble_eq_true rfl) (by decide) (fun r317 s318 hr319 hp320 => ?_)
          obtain ⟨hI321, hF322, hT323, z324, z325, z326⟩ := hp320
          rw [hE311] at z324
          rw [hE311] at z325
          have hF327 := zOn_tr hF312 hF322 zi_id
          obtain ⟨p328, hE329⟩ : ∃ p, yst s318 = p := ⟨_, rfl⟩
          rw [hE329] at z324
          rw [hE329] at z325
          have L330 := yle_tr L313 z325
          rw [hE329] at z326
          have b331 := zv_20_2 hI321 zc_33
          have e332 := hF322 33 2 rfl
          refine zt_aload_n (pc' := 75) hX dX1_part_74 rfl rfl ?_
          refine zt_get (pc' := 78) (v := .ref (X.1.1 + 27)) hX dX1_part_75 rfl zf_X1_15 (by decide) zc_33 zs_20 (zrf_of (zv_20_0 hI321 zc_33)) ?_
          refine zt_bipush (pc' := 80) hX dX1_part_78 rfl (by decide) (by decide) ?_
          refine zt_cVv (pc' := 83) hX dX1_part_80 rfl zm_yX5_takeSign zw_22_15 zc_27 (by decide) zs_14 (q := (RX5, TX5, 9)) rfl rfl (yc_X5_takeSign _ _ s318 hI321 41 ⟨by omega, by omega⟩ f hT323) rfl rfl (Nat.le_of_ble_eq_true rfl) (by decide) (fun r333 s334 hr335 hp336 => ?_)
          obtain ⟨hI337, hF338, hT339, z340⟩ := hp336
          have hE341 : yst s334 = yPs f 41 p328 := by rw [z340, hE329]
          have hF342 := zOn_tr hF327 hF338 zi_r12
          have L343 : yle (yst σ) (yPs f 41 p328) := yle_tr L330 (yle_s hT323 hE329)
          have b344 := zv_20_2 hI337 zc_33
          have e345 := hF338 33 2 rfl
          refine zt_goto (tgt := 203) hX dX1_part_83 (by decide) ?_
          exact zt_vret hX hR dX1_part_203 ⟨hI337, hF342, hT339, (by rw [hE341]; exact yJ_tr (yJ_op1 (by omega) (by omega)) (yJ_tr z324 (yJ_cl (Or.inl rfl) z326))), (by rw [hE341]; exact L343)⟩
    · refine zt_aload_n (pc' := 27) hX dX1_part_26 rfl rfl ?_
      obtain ⟨k346, ek347, hk348⟩ := zv_20_1 hI zc_33
      refine zt_get (pc' := 30) (v := .ref (X.1.1 + k346)) hX dX1_part_27 rfl zf_X1_19 (by decide) zc_33 zs_20 (zrf_of ek347) ?_
      refine zt_aload_n (pc' := 31) hX dX1_part_30 rfl rfl ?_
      refine zt_get (pc' := 34) (v := .ref (X.1.1 + 27)) hX dX1_part_31 rfl zf_X1_15 (by decide) zc_33 zs_20 (zrf_of (zv_20_0 hI zc_33)) ?_
      refine zt_iconst (pc' := 35) hX dX1_part_34 rfl ?_
      refine zt_sipush (pc' := 38) hX dX1_part_35 rfl (by decide) (by decide) ?_
      refine zt_cVi (pc' := 41) hX dX1_part_38 rfl zm_yX5_takeNumber zw_22_23 zc_27 (by decide) zs_14 (q := (RX5, TX5, 9)) rfl rfl (yc_X5_takeNumber _ _ σ hI 0 ⟨by omega, by omega⟩ 9999 ⟨by omega, by omega⟩ f hT) rfl rfl (Nat.le_of_ble_eq_true rfl) (by decide) (fun r349 s350 hr351 hp352 => ?_)
      obtain ⟨hI353, hF354, q355, q356, hT357, z358, z359, z360⟩ := hp352
      have hE361 : yst s350 = yPn f 0 9999 (yst σ) := z358
      have hF362 := zOn_tr hF hF354 zi_r12
      rw [hE361] at z359
      have L363 : yle (yst σ) (yPn f 0 9999 (yst σ)) := yle_tr L0 (yle_n hT hE0)
      have b364 := zv_20_2 hI353 zc_33
      have e365 := hF354 33 2 rfl
      refine zt_cVv (pc' := 44) hX dX1_part_41 rfl zm_yX4_addNumber zw_23_0 hk348 (by decide) zs_6 (q := (RX4, TX4, 2)) rfl rfl (yc_X4_addNumber _ _ s350 hI353 k346 hk348 r349 ⟨by omega, by omega⟩) rfl rfl (Nat.le_of_ble_eq_true rfl) (by decide) (fun r366 s367 hr368 hp369 => ?_)
      obtain ⟨hI370, hF371⟩ := hp369
      have hF372 := zOn_tr hF362 hF371 zi_rp2
      have hT373 := yTk_rk hT357 (yRk_p hF371)
      have hE374 : yst s367 = yPn f 0 9999 (yst σ) := (yst_rk (yRk_p hF371)).trans hE361
      have b375 := zv_20_2 hI370 zc_33
      have e376 := hF371 33 2 rfl
      refine zt_goto (tgt := 203) hX dX1_part_44 (by decide) ?_
      exact zt_vret hX hR dX1_part_203 ⟨hI370, hF372, hT373, (by rw [hE374]; exact yJ_num (by omega)), (by rw [hE374]; exact L363)⟩
set_option maxRecDepth 100000 in
set_option maxHeartbeats 4000000 in
theorem yc_X1_product_o2 (l : Launch) (E : zEN) (σ : zSto) (hI : zInv σ) (f : Int → Int) (hT : yTk f σ) (rl : Int) (hrl : σ 33 2 = rl) (k : List Nat) (hk : ydep k = 2) (ht : ytop k ≠ 4) : zCt l E yX1_product cX1_product 4 none 20 zNC zNC 0 0 σ [.ref (E.1 + 33), .int (zI 2)] (fun r σ' => zInv σ' ∧ zOn zR2 σ σ' ∧ yTk f σ' ∧ (yJ rl f (1, k, (yst σ)) (2, k, (yst σ'))) ∧ (yle (yst σ) (yst σ')) ∧ (yPg f (yst σ') ≠ 42 ∧ yPg f (yst σ') ≠ 47)) := by
  refine zCt_of2 [some (.ref (E.1 + 33)), some (.int (zI 2)), none, none] (by decide +kernel) (Nat.le_of_ble_eq_true rfl) rfl ?_
  intro X hE_ hX hR hL hN
  subst hE_
  have hX : zok X cX1_product RX1 20 := hX
  have hF := zOn_rf zR2 σ
  have hE0 : yst σ = yst σ := rfl
  have L0 := yle_rf (yst σ)
  have b1 := zv_20_2 hI zc_33
  refine zt_aload_n (pc' := 1) hX dX1_product_0 rfl rfl ?_
  refine zt_iload_n (pc' := 2) hX dX1_product_1 rfl rfl ?_
  refine zt_cVv (pc' := 5) hX dX1_product_2 rfl zm_yX1_part zw_23_4 zc_33 (by decide) zs_20 (q := (RX1, TX1, 3)) rfl rfl (yc_X1_part_o2 _ _ σ hI f hT rl (by omega) k hk) rfl rfl (Nat.le_of_ble_eq_true rfl) (by decide) (fun r2 s3 hr4 hp5 => ?_)
  obtain ⟨hI6, hF7, hT8, z9, z10⟩ := hp5
  have hF11 := zOn_tr hF hF7 zi_id
  obtain ⟨p12, hE13⟩ : ∃ p, yst s3 = p := ⟨_, rfl⟩
  rw [hE13] at z9
  rw [hE13] at z10
  have L14 := yle_tr L0 z10
  have b15 := zv_20_2 hI6 zc_33
  have e16 := hF7 33 2 rfl
  have g17 := z9
  refine zt_iconst (pc' := 6) hX dX1_product_5 rfl ?_
  refine zt_istore_n (pc' := 7) (lv' := [some (.ref (X.1.1 + 33)), some (.int (zI 2)), some (.int (zI 0)), none]) hX dX1_product_6 rfl hL (by decide) rfl ?_
  have L_7_30 : ∀ (N : Nat) (x18 : Int) (s21 : zSto) (p24 : yP), 0 ≤ x18 → x18 ≤ 1600 → zInv s21 → zOn zR2 σ s21 → yTk f s21 → yst s21 = p24 → s21 33 2 = σ 33 2 → yJ rl f (1, k, yst σ) (2, k, p24) → yle (yst σ) p24 → yge x18 p24 → ((1601 - x18).toNat) < N → zF X s21 7 [some (.ref (X.1.1 + 33)), some (.int (zI 2)), some (.int (zI x18)), none] [] := by
    intro N
    induction N with
    | zero =>
      intro x18 s21 p24 h19 h20 hI22 hF23 hT25 hE26 g27 g28 g29 g30 hm32
      exact absurd hm32 (Nat.not_lt_zero _)
    | succ N ih33 =>
      intro x18 s21 p24 h19 h20 hI22 hF23 hT25 hE26 g27 g28 g29 g30 hm32
      have b34 := zv_20_2 hI22 zc_33
      have hx := yge_x hT25 hE26 g30
      refine zt_iload_n (pc' := 8) hX dX1_product_7 rfl rfl ?_
      refine zt_sipush (pc' := 11) hX dX1_product_8 rfl (by decide) (by decide) ?_
      refine zt_icge (pc' := 14) (tgt := 72) hX dX1_product_11 rfl (by decide) ⟨by omega, by omega⟩ ⟨by omega, by omega⟩ (fun c35 => ?_) (fun c35 => ?_)
      · exact zt_vret hX hR dX1_product_72 ⟨hI22, hF23, hT25, (by rw [hE26]; exact g28), (by rw [hE26]; exact g29), (by rw [hE26]; omega)⟩
      · refine zt_aload_n (pc' := 15) hX dX1_product_14 rfl rfl ?_
        refine zt_get (pc' := 18) (v := .ref (X.1.1 + 27)) hX dX1_product_15 rfl zf_X1_15 (by decide) zc_33 zs_20 (zrf_of (zv_20_0 hI22 zc_33)) ?_
        refine zt_cVi (pc' := 21) hX dX1_product_18 rfl zm_yX5_signHere zw_22_2 zc_27 (by decide) zs_14 (q := (RX5, TX5, 9)) rfl rfl (yc_X5_signHere _ _ s21 hI22 f hT25) rfl rfl (Nat.le_of_ble_eq_true rfl) (by decide) (fun r36 s37 hr38 hp39 => ?_)
        obtain ⟨rfl, q40, q41, z42⟩ := hp39
        rw [hE26] at z42
        refine zt_bipush (pc' := 23) hX dX1_product_21 rfl (by decide) (by decide) ?_
        refine zt_iceq (pc' := 26) (tgt := 38) hX dX1_product_23 rfl (by decide) ⟨by omega, by omega⟩ ⟨by omega, by omega⟩ (fun c43 => ?_) (fun c43 => ?_)
        · refine zt_aload_n (pc' := 39) hX dX1_product_38 rfl rfl ?_
          refine zt_get (pc' := 42) (v := .ref (X.1.1 + 27)) hX dX1_product_39 rfl zf_X1_15 (by decide) zc_33 zs_20 (zrf_of (zv_20_0 hI22 zc_33)) ?_
          refine zt_cVi (pc' := 45) hX dX1_product_42 rfl zm_yX5_signHere zw_22_2 zc_27 (by decide) zs_14 (q := (RX5, TX5, 9)) rfl rfl (yc_X5_signHere _ _ s21 hI22 f hT25) rfl rfl (Nat.le_of_ble_eq_true rfl) (by decide) (fun r44 s45 hr46 hp47 => ?_)
          obtain ⟨rfl, q48, q49, z50⟩ := hp47
          rw [hE26] at z50
          refine zt_istore_n (pc' := 46) (lv' := [some (.ref (X.1.1 + 33)), some (.int (zI 2)), some (.int (zI x18)), some (.int (zI r44))]) hX dX1_product_45 rfl hL (by decide) rfl ?_
          refine zt_aload_n (pc' := 47) hX dX1_product_46 rfl rfl ?_
          refine zt_get (pc' := 50) (v := .ref (X.1.1 + 27)) hX dX1_product_47 rfl zf_X1_15 (by decide) zc_33 zs_20 (zrf_of (zv_20_0 hI22 zc_33)) ?_
          refine zt_cVv (pc' := 53) hX dX1_product_50 rfl zm_yX5_step zw_22_6 zc_27 (by decide) zs_14 (q := (RX5, TX5, 9)) rfl rfl (yc_X5_step _ _ s21 hI22 f hT25) rfl rfl (Nat.le_of_ble_eq_true rfl) (by decide) (fun r51 s52 hr53 hp54 => ?_)
          obtain ⟨hI55, hF56, hT57, z58⟩ := hp54
          have hE59 : yst s52 = yPx f p24 := by rw [z58, hE26]
          have hF60 := zOn_tr hF23 hF56 zi_r12
          have L61 : yle (yst σ) (yPx f p24) := yle_tr g29 (yle_x hT25 hE26)
          have b62 := zv_20_2 hI55 zc_33
          have e63 := hF56 33 2 rfl
          have g64 := yJ_tr g28 (yJ_o ht (by omega))
          have I65 := yge_1 hT25 hE26 g30 (by omega)
          refine zt_aload_n (pc' := 54) hX dX1_product_53 rfl rfl ?_
          refine zt_iload_n (pc' := 55) hX dX1_product_54 rfl rfl ?_
          refine zt_cVv (pc' := 58) hX dX1_product_55 rfl zm_yX1_part zw_23_4 zc_33 (by decide) zs_20 (q := (RX1, TX1, 3)) rfl rfl (yc_X1_part_o2 _ _ s52 hI55 f hT57 rl (by omega) k hk) rfl rfl (Nat.le_of_ble_eq_true rfl) (by decide) (fun r66 s67 hr68 hp69 => ?_)
          obtain ⟨hI70, hF71, hT72, z73, z74⟩ := hp69
          rw [hE59] at z73
          rw [hE59] at z74
          have hF75 := zOn_tr hF60 hF71 zi_id
          obtain ⟨p76, hE77⟩ : ∃ p, yst s67 = p := ⟨_, rfl⟩
          rw [hE77] at z73
          rw [hE77] at z74
          have L78 := yle_tr L61 z74
          have b79 := zv_20_2 hI70 zc_33
          have e80 := hF71 33 2 rfl
          have g81 := yJ_tr g64 z73
          have I82 := yge_l I65 z74
          refine zt_aload_n (pc' := 59) hX dX1_product_58 rfl rfl ?_
          obtain ⟨k83, ek84, hk85⟩ := zv_20_1 hI70 zc_33
          refine zt_get (pc' := 62) (v := .ref (X.1.1 + k83)) hX dX1_product_59 rfl zf_X1_19 (by decide) zc_33 zs_20 (zrf_of ek84) ?_
          refine zt_iload_n (pc' := 63) hX dX1_product_62 rfl rfl ?_
          refine zt_cVv (pc' := 66) hX dX1_product_63 rfl zm_yX4_addStep zw_22_7 hk85 (by decide) zs_6 (q := (RX4, TX4, 2)) rfl rfl (yc_X4_addStep _ _ s67 hI70 k83 hk85 r44 ⟨by omega, by omega⟩) rfl rfl (Nat.le_of_ble_eq_true rfl) (by decide) (fun r86 s87 hr88 hp89 => ?_)
          obtain ⟨hI90, hF91⟩ := hp89
          have hF92 := zOn_tr hF75 hF91 zi_rp2
          have hT93 := yTk_rk hT72 (yRk_p hF91)
          have hE94 : yst s87 = p76 := (yst_rk (yRk_p hF91)).trans hE77
          have b95 := zv_20_2 hI90 zc_33
          have e96 := hF91 33 2 rfl
          refine zt_iinc (pc' := 69) (lv' := [some (.ref (X.1.1 + 33)), some (.int (zI 2)), some (.int (zI (x18 + 1))), some (.int (zI r44))]) hX dX1_product_66 rfl rfl hL (by decide) rfl ?_
          refine zt_goto (tgt := 7) hX dX1_product_69 (by decide) ?_
          refine zt_mask [true, true, true, false] rfl ?_
          exact ih33 (x18 + 1) s87 p76 (by omega) (by omega) hI90 hF92 hT93 hE94 (by omega) g81 L78 I82 (by omega)
        · refine zt_aload_n (pc' := 27) hX dX1_product_26 rfl rfl ?_
          refine zt_get (pc' := 30) (v := .ref (X.1.1 + 27)) hX dX1_product_27 rfl zf_X1_15 (by decide) zc_33 zs_20 (zrf_of (zv_20_0 hI22 zc_33)) ?_
          refine zt_cVi (pc' := 33) hX dX1_product_30 rfl zm_yX5_signHere zw_22_2 zc_27 (by decide) zs_14 (q := (RX5, TX5, 9)) rfl rfl (yc_X5_signHere _ _ s21 hI22 f hT25) rfl rfl (Nat.le_of_ble_eq_true rfl) (by decide) (fun r97 s98 hr99 hp100 => ?_)
          obtain ⟨rfl, q101, q102, z103⟩ := hp100
          rw [hE26] at z103
          refine zt_bipush (pc' := 35) hX dX1_product_33 rfl (by decide) (by decide) ?_
          refine zt_icne (pc' := 38) (tgt := 72) hX dX1_product_35 rfl (by decide) ⟨by omega, by omega⟩ ⟨by omega, by omega⟩ (fun c104 => ?_) (fun c104 => ?_)
          · exact zt_vret hX hR dX1_product_72 ⟨hI22, hF23, hT25, (by rw [hE26]; exact g28), (by rw [hE26]; exact g29), (by rw [hE26]; omega)⟩
          · refine zt_aload_n (pc' := 39) hX dX1_product_38 rfl rfl ?_
            refine zt_get (pc' := 42) (v := .ref (X.1.1 + 27)) hX dX1_product_39 rfl zf_X1_15 (by decide) zc_33 zs_20 (zrf_of (zv_20_0 hI22 zc_33)) ?_
            refine zt_cVi (pc' := 45) hX dX1_product_42 rfl zm_yX5_signHere zw_22_2 zc_27 (by decide) zs_14 (q := (RX5, TX5, 9)) rfl rfl (yc_X5_signHere _ _ s21 hI22 f hT25) rfl rfl (Nat.le_of_ble_eq_true rfl) (by decide) (fun r105 s106 hr107 hp108 => ?_)
            obtain ⟨rfl, q109, q110, z111⟩ := hp108
            rw [hE26] at z111
            refine zt_istore_n (pc' := 46) (lv' := [some (.ref (X.1.1 + 33)), some (.int (zI 2)), some (.int (zI x18)), some (.int (zI r105))]) hX dX1_product_45 rfl hL (by decide) rfl ?_
            refine zt_aload_n (pc' := 47) hX dX1_product_46 rfl rfl ?_
            refine zt_get (pc' := 50) (v := .ref (X.1.1 + 27)) hX dX1_product_47 rfl zf_X1_15 (by decide) zc_33 zs_20 (zrf_of (zv_20_0 hI22 zc_33)) ?_
            refine zt_cVv (pc' := 53) hX dX1_product_50 rfl zm_yX5_step zw_22_6 zc_27 (by decide) zs_14 (q := (RX5, TX5, 9)) rfl rfl (yc_X5_step _ _ s21 hI22 f hT25) rfl rfl (Nat.le_of_ble_eq_true rfl) (by decide) (fun r112 s113 hr114 hp115 => ?_)
            obtain ⟨hI116, hF117, hT118, z119⟩ := hp115
            have hE120 : yst s113 = yPx f p24 := by rw [z119, hE26]
            have hF121 := zOn_tr hF23 hF117 zi_r12
            have L122 : yle (yst σ) (yPx f p24) := yle_tr g29 (yle_x hT25 hE26)
            have b123 := zv_20_2 hI116 zc_33
            have e124 := hF117 33 2 rfl
            have g125 := yJ_tr g28 (yJ_o ht (by omega))
            have I126 := yge_1 hT25 hE26 g30 (by omega)
            refine zt_aload_n (pc' := 54) hX dX1_product_53 rfl rfl ?_
            refine zt_iload_n (pc' := 55) hX dX1_product_54 rfl rfl ?_
            refine zt_cVv (pc' := 58) hX dX1_product_55 rfl zm_yX1_part zw_23_4 zc_33 (by decide) zs_20 (q := (RX1, TX1, 3)) rfl rfl (yc_X1_part_o2 _ _ s113 hI116 f hT118 rl (by omega) k hk) rfl rfl (Nat.le_of_ble_eq_true rfl) (by decide) (fun r127 s128 hr129 hp130 => ?_)
            obtain ⟨hI131, hF132, hT133, z134, z135⟩ := hp130
            rw [hE120] at z134
            rw [hE120] at z135
            have hF136 := zOn_tr hF121 hF132 zi_id
            obtain ⟨p137, hE138⟩ : ∃ p, yst s128 = p := ⟨_, rfl⟩
            rw [hE138] at z134
            rw [hE138] at z135
            have L139 := yle_tr L122 z135
            have b140 := zv_20_2 hI131 zc_33
            have e141 := hF132 33 2 rfl
            have g142 := yJ_tr g125 z134
            have I143 := yge_l I126 z135
            refine zt_aload_n (pc' := 59) hX dX1_product_58 rfl rfl ?_
            obtain ⟨k144, ek145, hk146⟩ := zv_20_1 hI131 zc_33
            refine zt_get (pc' := 62) (v := .ref (X.1.1 + k144)) hX dX1_product_59 rfl zf_X1_19 (by decide) zc_33 zs_20 (zrf_of ek145) ?_
            refine zt_iload_n (pc' := 63) hX dX1_product_62 rfl rfl ?_
            refine zt_cVv (pc' := 66) hX dX1_product_63 rfl zm_yX4_addStep zw_22_7 hk146 (by decide) zs_6 (q := (RX4, TX4, 2)) rfl rfl (yc_X4_addStep _ _ s128 hI131 k144 hk146 r105 ⟨by omega, by omega⟩) rfl rfl (Nat.le_of_ble_eq_true rfl) (by decide) (fun r147 s148 hr149 hp150 => ?_)
            obtain ⟨hI151, hF152⟩ := hp150
            have hF153 := zOn_tr hF136 hF152 zi_rp2
            have hT154 := yTk_rk hT133 (yRk_p hF152)
            have hE155 : yst s148 = p137 := (yst_rk (yRk_p hF152)).trans hE138
            have b156 := zv_20_2 hI151 zc_33
            have e157 := hF152 33 2 rfl
            refine zt_iinc (pc' := 69) (lv' := [some (.ref (X.1.1 + 33)), some (.int (zI 2)), some (.int (zI (x18 + 1))), some (.int (zI r105))]) hX dX1_product_66 rfl rfl hL (by decide) rfl ?_
            refine zt_goto (tgt := 7) hX dX1_product_69 (by decide) ?_
            refine zt_mask [true, true, true, false] rfl ?_
            exact ih33 (x18 + 1) s148 p137 (by omega) (by omega) hI151 hF153 hT154 hE155 (by omega) g142 L139 I143 (by omega)
  exact L_7_30 _ 0 s3 p12 (by omega) (by omega) hI6 hF11 hT8 hE13 (by omega) g17 L14 (yge_0 hT8 hE13) (Nat.lt_succ_self _)
set_option maxRecDepth 100000 in
set_option maxHeartbeats 4000000 in
theorem yc_X1_sum_o2 (l : Launch) (E : zEN) (σ : zSto) (hI : zInv σ) (f : Int → Int) (hT : yTk f σ) (rl : Int) (hrl : σ 33 2 = rl) (k : List Nat) (hk : ydep k = 2) (ht : ytop k ≠ 4) : zCt l E yX1_sum cX1_sum 4 none 21 zNC zNC 0 0 σ [.ref (E.1 + 33), .int (zI 2)] (fun r σ' => zInv σ' ∧ zOn zR2 σ σ' ∧ yTk f σ' ∧ (yJ rl f (1, k, (yst σ)) (2, k, (yst σ'))) ∧ (yle (yst σ) (yst σ')) ∧ (yPg f (yst σ') ≠ 42 ∧ yPg f (yst σ') ≠ 47 ∧ yPg f (yst σ') ≠ 43 ∧ yPg f (yst σ') ≠ 45)) := by
  refine zCt_of2 [some (.ref (E.1 + 33)), some (.int (zI 2)), none, none] (by decide +kernel) (Nat.le_of_ble_eq_true rfl) rfl ?_
  intro X hE_ hX hR hL hN
  subst hE_
  have hX : zok X cX1_sum RX1 21 := hX
  have hF := zOn_rf zR2 σ
  have hE0 : yst σ = yst σ := rfl
  have L0 := yle_rf (yst σ)
  have b1 := zv_20_2 hI zc_33
  refine zt_aload_n (pc' := 1) hX dX1_sum_0 rfl rfl ?_
  refine zt_iload_n (pc' := 2) hX dX1_sum_1 rfl rfl ?_
  refine zt_cVv (pc' := 5) hX dX1_sum_2 rfl zm_yX1_product zw_21_23 zc_33 (by decide) zs_20 (q := (RX1, TX1, 3)) rfl rfl (yc_X1_product_o2 _ _ σ hI f hT rl (by omega) k hk ht) rfl rfl (Nat.le_of_ble_eq_true rfl) (by decide) (fun r2 s3 hr4 hp5 => ?_)
  obtain ⟨hI6, hF7, hT8, z9, z10, z11⟩ := hp5
  have hF12 := zOn_tr hF hF7 zi_id
  obtain ⟨p13, hE14⟩ : ∃ p, yst s3 = p := ⟨_, rfl⟩
  rw [hE14] at z9
  rw [hE14] at z10
  have L15 := yle_tr L0 z10
  rw [hE14] at z11
  have b16 := zv_20_2 hI6 zc_33
  have e17 := hF7 33 2 rfl
  have g18 := z9
  refine zt_iconst (pc' := 6) hX dX1_sum_5 rfl ?_
  refine zt_istore_n (pc' := 7) (lv' := [some (.ref (X.1.1 + 33)), some (.int (zI 2)), some (.int (zI 0)), none]) hX dX1_sum_6 rfl hL (by decide) rfl ?_
  have L_7_32 : ∀ (N : Nat) (x19 : Int) (s22 : zSto) (p25 : yP), 0 ≤ x19 → x19 ≤ 1600 → zInv s22 → zOn zR2 σ s22 → yTk f s22 → yst s22 = p25 → (yPg f p25 ≠ 42 ∧ yPg f p25 ≠ 47) → s22 33 2 = σ 33 2 → yJ rl f (1, k, yst σ) (2, k, p25) → yle (yst σ) p25 → yge x19 p25 → ((1601 - x19).toNat) < N → zF X s22 7 [some (.ref (X.1.1 + 33)), some (.int (zI 2)), some (.int (zI x19)), none] [] := by
    intro N
    induction N with
    | zero =>
      intro x19 s22 p25 h20 h21 hI23 hF24 hT26 hE27 g28 g29 g30 g31 g32 hm34
      exact absurd hm34 (Nat.not_lt_zero _)
    | succ N ih35 =>
      intro x19 s22 p25 h20 h21 hI23 hF24 hT26 hE27 g28 g29 g30 g31 g32 hm34
      have b36 := zv_20_2 hI23 zc_33
      have hx := yge_x hT26 hE27 g32
      refine zt_iload_n (pc' := 8) hX dX1_sum_7 rfl rfl ?_
      refine zt_sipush (pc' := 11) hX dX1_sum_8 rfl (by decide) (by decide) ?_
      refine zt_icge (pc' := 14) (tgt := 72) hX dX1_sum_11 rfl (by decide) ⟨by omega, by omega⟩ ⟨by omega, by omega⟩ (fun c37 => ?_) (fun c37 => ?_)
      · exact zt_vret hX hR dX1_sum_72 ⟨hI23, hF24, hT26, (by rw [hE27]; exact g30), (by rw [hE27]; exact g31), (by rw [hE27]; omega)⟩
      · refine zt_aload_n (pc' := 15) hX dX1_sum_14 rfl rfl ?_
        refine zt_get (pc' := 18) (v := .ref (X.1.1 + 27)) hX dX1_sum_15 rfl zf_X1_15 (by decide) zc_33 zs_20 (zrf_of (zv_20_0 hI23 zc_33)) ?_
        refine zt_cVi (pc' := 21) hX dX1_sum_18 rfl zm_yX5_signHere zw_22_2 zc_27 (by decide) zs_14 (q := (RX5, TX5, 9)) rfl rfl (yc_X5_signHere _ _ s22 hI23 f hT26) rfl rfl (Nat.le_of_ble_eq_true rfl) (by decide) (fun r38 s39 hr40 hp41 => ?_)
        obtain ⟨rfl, q42, q43, z44⟩ := hp41
        rw [hE27] at z44
        refine zt_bipush (pc' := 23) hX dX1_sum_21 rfl (by decide) (by decide) ?_
        refine zt_iceq (pc' := 26) (tgt := 38) hX dX1_sum_23 rfl (by decide) ⟨by omega, by omega⟩ ⟨by omega, by omega⟩ (fun c45 => ?_) (fun c45 => ?_)
        · refine zt_aload_n (pc' := 39) hX dX1_sum_38 rfl rfl ?_
          refine zt_get (pc' := 42) (v := .ref (X.1.1 + 27)) hX dX1_sum_39 rfl zf_X1_15 (by decide) zc_33 zs_20 (zrf_of (zv_20_0 hI23 zc_33)) ?_
          refine zt_cVi (pc' := 45) hX dX1_sum_42 rfl zm_yX5_signHere zw_22_2 zc_27 (by decide) zs_14 (q := (RX5, TX5, 9)) rfl rfl (yc_X5_signHere _ _ s22 hI23 f hT26) rfl rfl (Nat.le_of_ble_eq_true rfl) (by decide) (fun r46 s47 hr48 hp49 => ?_)
          obtain ⟨rfl, q50, q51, z52⟩ := hp49
          rw [hE27] at z52
          refine zt_istore_n (pc' := 46) (lv' := [some (.ref (X.1.1 + 33)), some (.int (zI 2)), some (.int (zI x19)), some (.int (zI r46))]) hX dX1_sum_45 rfl hL (by decide) rfl ?_
          refine zt_aload_n (pc' := 47) hX dX1_sum_46 rfl rfl ?_
          refine zt_get (pc' := 50) (v := .ref (X.1.1 + 27)) hX dX1_sum_47 rfl zf_X1_15 (by decide) zc_33 zs_20 (zrf_of (zv_20_0 hI23 zc_33)) ?_
          refine zt_cVv (pc' := 53) hX dX1_sum_50 rfl zm_yX5_step zw_22_6 zc_27 (by decide) zs_14 (q := (RX5, TX5, 9)) rfl rfl (yc_X5_step _ _ s22 hI23 f hT26) rfl rfl (Nat.le_of_ble_eq_true rfl) (by decide) (fun r53 s54 hr55 hp56 => ?_)
          obtain ⟨hI57, hF58, hT59, z60⟩ := hp56
          have hE61 : yst s54 = yPx f p25 := by rw [z60, hE27]
          have hF62 := zOn_tr hF24 hF58 zi_r12
          have L63 : yle (yst σ) (yPx f p25) := yle_tr g31 (yle_x hT26 hE27)
          have b64 := zv_20_2 hI57 zc_33
          have e65 := hF58 33 2 rfl
          have g66 := yJ_tr g30 (yJ_o ht (by omega))
          have I67 := yge_1 hT26 hE27 g32 (by omega)
          refine zt_aload_n (pc' := 54) hX dX1_sum_53 rfl rfl ?_
          refine zt_iload_n (pc' := 55) hX dX1_sum_54 rfl rfl ?_
          refine zt_cVv (pc' := 58) hX dX1_sum_55 rfl zm_yX1_product zw_21_23 zc_33 (by decide) zs_20 (q := (RX1, TX1, 3)) rfl rfl (yc_X1_product_o2 _ _ s54 hI57 f hT59 rl (by omega) k hk ht) rfl rfl (Nat.le_of_ble_eq_true rfl) (by decide) (fun r68 s69 hr70 hp71 => ?_)
          obtain ⟨hI72, hF73, hT74, z75, z76, z77⟩ := hp71
          rw [hE61] at z75
          rw [hE61] at z76
          have hF78 := zOn_tr hF62 hF73 zi_id
          obtain ⟨p79, hE80⟩ : ∃ p, yst s69 = p := ⟨_, rfl⟩
          rw [hE80] at z75
          rw [hE80] at z76
          have L81 := yle_tr L63 z76
          rw [hE80] at z77
          have b82 := zv_20_2 hI72 zc_33
          have e83 := hF73 33 2 rfl
          have g84 := yJ_tr g66 z75
          have I85 := yge_l I67 z76
          refine zt_aload_n (pc' := 59) hX dX1_sum_58 rfl rfl ?_
          obtain ⟨k86, ek87, hk88⟩ := zv_20_1 hI72 zc_33
          refine zt_get (pc' := 62) (v := .ref (X.1.1 + k86)) hX dX1_sum_59 rfl zf_X1_19 (by decide) zc_33 zs_20 (zrf_of ek87) ?_
          refine zt_iload_n (pc' := 63) hX dX1_sum_62 rfl rfl ?_
          refine zt_cVv (pc' := 66) hX dX1_sum_63 rfl zm_yX4_addStep zw_22_7 hk88 (by decide) zs_6 (q := (RX4, TX4, 2)) rfl rfl (yc_X4_addStep _ _ s69 hI72 k86 hk88 r46 ⟨by omega, by omega⟩) rfl rfl (Nat.le_of_ble_eq_true rfl) (by decide) (fun r89 s90 hr91 hp92 => ?_)
          obtain ⟨hI93, hF94⟩ := hp92
          have hF95 := zOn_tr hF78 hF94 zi_rp2
          have hT96 := yTk_rk hT74 (yRk_p hF94)
          have hE97 : yst s90 = p79 := (yst_rk (yRk_p hF94)).trans hE80
          have b98 := zv_20_2 hI93 zc_33
          have e99 := hF94 33 2 rfl
          refine zt_iinc (pc' := 69) (lv' := [some (.ref (X.1.1 + 33)), some (.int (zI 2)), some (.int (zI (x19 + 1))), some (.int (zI r46))]) hX dX1_sum_66 rfl rfl hL (by decide) rfl ?_
          refine zt_goto (tgt := 7) hX dX1_sum_69 (by decide) ?_
          refine zt_mask [true, true, true, false] rfl ?_
          exact ih35 (x19 + 1) s90 p79 (by omega) (by omega) hI93 hF95 hT96 hE97 (by omega) (by omega) g84 L81 I85 (by omega)
        · refine zt_aload_n (pc' := 27) hX dX1_sum_26 rfl rfl ?_
          refine zt_get (pc' := 30) (v := .ref (X.1.1 + 27)) hX dX1_sum_27 rfl zf_X1_15 (by decide) zc_33 zs_20 (zrf_of (zv_20_0 hI23 zc_33)) ?_
          refine zt_cVi (pc' := 33) hX dX1_sum_30 rfl zm_yX5_signHere zw_22_2 zc_27 (by decide) zs_14 (q := (RX5, TX5, 9)) rfl rfl (yc_X5_signHere _ _ s22 hI23 f hT26) rfl rfl (Nat.le_of_ble_eq_true rfl) (by decide) (fun r100 s101 hr102 hp103 => ?_)
          obtain ⟨rfl, q104, q105, z106⟩ := hp103
          rw [hE27] at z106
          refine zt_bipush (pc' := 35) hX dX1_sum_33 rfl (by decide) (by decide) ?_
          refine zt_icne (pc' := 38) (tgt := 72) hX dX1_sum_35 rfl (by decide) ⟨by omega, by omega⟩ ⟨by omega, by omega⟩ (fun c107 => ?_) (fun c107 => ?_)
          · exact zt_vret hX hR dX1_sum_72 ⟨hI23, hF24, hT26, (by rw [hE27]; exact g30), (by rw [hE27]; exact g31), (by rw [hE27]; omega)⟩
          · refine zt_aload_n (pc' := 39) hX dX1_sum_38 rfl rfl ?_
            refine zt_get (pc' := 42) (v := .ref (X.1.1 + 27)) hX dX1_sum_39 rfl zf_X1_15 (by decide) zc_33 zs_20 (zrf_of (zv_20_0 hI23 zc_33)) ?_
            refine zt_cVi (pc' := 45) hX dX1_sum_42 rfl zm_yX5_signHere zw_22_2 zc_27 (by decide) zs_14 (q := (RX5, TX5, 9)) rfl rfl (yc_X5_signHere _ _ s22 hI23 f hT26) rfl rfl (Nat.le_of_ble_eq_true rfl) (by decide) (fun r108 s109 hr110 hp111 => ?_)
            obtain ⟨rfl, q112, q113, z114⟩ := hp111
            rw [hE27] at z114
            refine zt_istore_n (pc' := 46) (lv' := [some (.ref (X.1.1 + 33)), some (.int (zI 2)), some (.int (zI x19)), some (.int (zI r108))]) hX dX1_sum_45 rfl hL (by decide) rfl ?_
            refine zt_aload_n (pc' := 47) hX dX1_sum_46 rfl rfl ?_
            refine zt_get (pc' := 50) (v := .ref (X.1.1 + 27)) hX dX1_sum_47 rfl zf_X1_15 (by decide) zc_33 zs_20 (zrf_of (zv_20_0 hI23 zc_33)) ?_
            refine zt_cVv (pc' := 53) hX dX1_sum_50 rfl zm_yX5_step zw_22_6 zc_27 (by decide) zs_14 (q := (RX5, TX5, 9)) rfl rfl (yc_X5_step _ _ s22 hI23 f hT26) rfl rfl (Nat.le_of_ble_eq_true rfl) (by decide) (fun r115 s116 hr117 hp118 => ?_)
            obtain ⟨hI119, hF120, hT121, z122⟩ := hp118
            have hE123 : yst s116 = yPx f p25 := by rw [z122, hE27]
            have hF124 := zOn_tr hF24 hF120 zi_r12
            have L125 : yle (yst σ) (yPx f p25) := yle_tr g31 (yle_x hT26 hE27)
            have b126 := zv_20_2 hI119 zc_33
            have e127 := hF120 33 2 rfl
            have g128 := yJ_tr g30 (yJ_o ht (by omega))
            have I129 := yge_1 hT26 hE27 g32 (by omega)
            refine zt_aload_n (pc' := 54) hX dX1_sum_53 rfl rfl ?_
            refine zt_iload_n (pc' := 55) hX dX1_sum_54 rfl rfl ?_
            refine zt_cVv (pc' := 58) hX dX1_sum_55 rfl zm_yX1_product zw_21_23 zc_33 (by decide) zs_20 (q := (RX1, TX1, 3)) rfl rfl (yc_X1_product_o2 _ _ s116 hI119 f hT121 rl (by omega) k hk ht) rfl rfl (Nat.le_of_ble_eq_true rfl) (by decide) (fun r130 s131 hr132 hp133 => ?_)
            obtain ⟨hI134, hF135, hT136, z137, z138, z139⟩ := hp133
            rw [hE123] at z137
            rw [hE123] at z138
            have hF140 := zOn_tr hF124 hF135 zi_id
            obtain ⟨p141, hE142⟩ : ∃ p, yst s131 = p := ⟨_, rfl⟩
            rw [hE142] at z137
            rw [hE142] at z138
            have L143 := yle_tr L125 z138
            rw [hE142] at z139
            have b144 := zv_20_2 hI134 zc_33
            have e145 := hF135 33 2 rfl
            have g146 := yJ_tr g128 z137
            have I147 := yge_l I129 z138
            refine zt_aload_n (pc' := 59) hX dX1_sum_58 rfl rfl ?_
            obtain ⟨k148, ek149, hk150⟩ := zv_20_1 hI134 zc_33
            refine zt_get (pc' := 62) (v := .ref (X.1.1 + k148)) hX dX1_sum_59 rfl zf_X1_19 (by decide) zc_33 zs_20 (zrf_of ek149) ?_
            refine zt_iload_n (pc' := 63) hX dX1_sum_62 rfl rfl ?_
            refine zt_cVv (pc' := 66) hX dX1_sum_63 rfl zm_yX4_addStep zw_22_7 hk150 (by decide) zs_6 (q := (RX4, TX4, 2)) rfl rfl (yc_X4_addStep _ _ s131 hI134 k148 hk150 r108 ⟨by omega, by omega⟩) rfl rfl (Nat.le_of_ble_eq_true rfl) (by decide) (fun r151 s152 hr153 hp154 => ?_)
            obtain ⟨hI155, hF156⟩ := hp154
            have hF157 := zOn_tr hF140 hF156 zi_rp2
            have hT158 := yTk_rk hT136 (yRk_p hF156)
            have hE159 : yst s152 = p141 := (yst_rk (yRk_p hF156)).trans hE142
            have b160 := zv_20_2 hI155 zc_33
            have e161 := hF156 33 2 rfl
            refine zt_iinc (pc' := 69) (lv' := [some (.ref (X.1.1 + 33)), some (.int (zI 2)), some (.int (zI (x19 + 1))), some (.int (zI r108))]) hX dX1_sum_66 rfl rfl hL (by decide) rfl ?_
            refine zt_goto (tgt := 7) hX dX1_sum_69 (by decide) ?_
            refine zt_mask [true, true, true, false] rfl ?_
            exact ih35 (x19 + 1) s152 p141 (by omega) (by omega) hI155 hF157 hT158 hE159 (by omega) (by omega) g146 L143 I147 (by omega)
  exact L_7_32 _ 0 s3 p13 (by omega) (by omega) hI6 hF12 hT8 hE14 (by omega) (by omega) g18 L15 (yge_0 hT8 hE14) (Nat.lt_succ_self _)
set_option maxRecDepth 100000 in
set_option maxHeartbeats 4000000 in
theorem yc_X1_comparison_o2 (l : Launch) (E : zEN) (σ : zSto) (hI : zInv σ) (f : Int → Int) (hT : yTk f σ) (rl : Int) (hrl : σ 33 2 = rl) (k : List Nat) (hk : ydep k = 2) : zCt l E yX1_comparison cX1_comparison 3 none 22 zNC zNC 0 0 σ [.ref (E.1 + 33), .int (zI 2)] (fun r σ' => zInv σ' ∧ zOn zR2 σ σ' ∧ yTk f σ' ∧ (yJ rl f (1, 5 :: k, (yst σ)) (5, k, (yst σ'))) ∧ (yle (yst σ) (yst σ'))) := by
  refine zCt_of2 [some (.ref (E.1 + 33)), some (.int (zI 2)), none] (by decide +kernel) (Nat.le_of_ble_eq_true rfl) rfl ?_
  intro X hE_ hX hR hL hN
  subst hE_
  have hX : zok X cX1_comparison RX1 22 := hX
  have hF := zOn_rf zR2 σ
  have hE0 : yst σ = yst σ := rfl
  have L0 := yle_rf (yst σ)
  have b1 := zv_20_2 hI zc_33
  refine zt_aload_n (pc' := 1) hX dX1_comparison_0 rfl rfl ?_
  refine zt_iload_n (pc' := 2) hX dX1_comparison_1 rfl rfl ?_
  refine zt_cVv (pc' := 5) hX dX1_comparison_2 rfl zm_yX1_sum zw_21_19 zc_33 (by decide) zs_20 (q := (RX1, TX1, 3)) rfl rfl (yc_X1_sum_o2 _ _ σ hI f hT rl (by omega) (5 :: k) hk (Nat.ne_of_beq_eq_false rfl)) rfl rfl (Nat.le_of_ble_eq_true rfl) (by decide) (fun r2 s3 hr4 hp5 => ?_)
  obtain ⟨hI6, hF7, hT8, z9, z10, z11⟩ := hp5
  have hF12 := zOn_tr hF hF7 zi_id
  obtain ⟨p13, hE14⟩ : ∃ p, yst s3 = p := ⟨_, rfl⟩
  rw [hE14] at z9
  rw [hE14] at z10
  have L15 := yle_tr L0 z10
  rw [hE14] at z11
  have b16 := zv_20_2 hI6 zc_33
  have e17 := hF7 33 2 rfl
  refine zt_aload_n (pc' := 6) hX dX1_comparison_5 rfl rfl ?_
  refine zt_get (pc' := 9) (v := .ref (X.1.1 + 27)) hX dX1_comparison_6 rfl zf_X1_15 (by decide) zc_33 zs_20 (zrf_of (zv_20_0 hI6 zc_33)) ?_
  refine zt_cVi (pc' := 12) hX dX1_comparison_9 rfl zm_yX5_signHere zw_22_2 zc_27 (by decide) zs_14 (q := (RX5, TX5, 9)) rfl rfl (yc_X5_signHere _ _ s3 hI6 f hT8) rfl rfl (Nat.le_of_ble_eq_true rfl) (by decide) (fun r18 s19 hr20 hp21 => ?_)
  obtain ⟨rfl, q22, q23, z24⟩ := hp21
  rw [hE14] at z24
  refine zt_istore_n (pc' := 13) (lv' := [some (.ref (X.1.1 + 33)), some (.int (zI 2)), some (.int (zI r18))]) hX dX1_comparison_12 rfl hL (by decide) rfl ?_
  refine zt_iload_n (pc' := 14) hX dX1_comparison_13 rfl rfl ?_
  refine zt_bipush (pc' := 16) hX dX1_comparison_14 rfl (by decide) (by decide) ?_
  refine zt_iceq (pc' := 19) (tgt := 31) hX dX1_comparison_16 rfl (by decide) ⟨by omega, by omega⟩ ⟨by omega, by omega⟩ (fun c25 => ?_) (fun c25 => ?_)
  · refine zt_aload_n (pc' := 32) hX dX1_comparison_31 rfl rfl ?_
    refine zt_get (pc' := 35) (v := .ref (X.1.1 + 27)) hX dX1_comparison_32 rfl zf_X1_15 (by decide) zc_33 zs_20 (zrf_of (zv_20_0 hI6 zc_33)) ?_
    refine zt_cVv (pc' := 38) hX dX1_comparison_35 rfl zm_yX5_step zw_22_6 zc_27 (by decide) zs_14 (q := (RX5, TX5, 9)) rfl rfl (yc_X5_step _ _ s3 hI6 f hT8) rfl rfl (Nat.le_of_ble_eq_true rfl) (by decide) (fun r26 s27 hr28 hp29 => ?_)
    obtain ⟨hI30, hF31, hT32, z33⟩ := hp29
    have hE34 : yst s27 = yPx f p13 := by rw [z33, hE14]
    have hF35 := zOn_tr hF12 hF31 zi_r12
    have L36 : yle (yst σ) (yPx f p13) := yle_tr L15 (yle_x hT8 hE14)
    have b37 := zv_20_2 hI30 zc_33
    have e38 := hF31 33 2 rfl
    refine zt_aload_n (pc' := 39) hX dX1_comparison_38 rfl rfl ?_
    refine zt_iload_n (pc' := 40) hX dX1_comparison_39 rfl rfl ?_
    refine zt_cVv (pc' := 43) hX dX1_comparison_40 rfl zm_yX1_sum zw_21_19 zc_33 (by decide) zs_20 (q := (RX1, TX1, 3)) rfl rfl (yc_X1_sum_o2 _ _ s27 hI30 f hT32 rl (by omega) (6 :: k) hk (Nat.ne_of_beq_eq_false rfl)) rfl rfl (Nat.le_of_ble_eq_true rfl) (by decide) (fun r39 s40 hr41 hp42 => ?_)
    obtain ⟨hI43, hF44, hT45, z46, z47, z48⟩ := hp42
    rw [hE34] at z46
    rw [hE34] at z47
    have hF49 := zOn_tr hF35 hF44 zi_id
    obtain ⟨p50, hE51⟩ : ∃ p, yst s40 = p := ⟨_, rfl⟩
    rw [hE51] at z46
    rw [hE51] at z47
    have L52 := yle_tr L36 z47
    rw [hE51] at z48
    have b53 := zv_20_2 hI43 zc_33
    have e54 := hF44 33 2 rfl
    refine zt_aload_n (pc' := 44) hX dX1_comparison_43 rfl rfl ?_
    obtain ⟨k55, ek56, hk57⟩ := zv_20_1 hI43 zc_33
    refine zt_get (pc' := 47) (v := .ref (X.1.1 + k55)) hX dX1_comparison_44 rfl zf_X1_19 (by decide) zc_33 zs_20 (zrf_of ek56) ?_
    refine zt_iload_n (pc' := 48) hX dX1_comparison_47 rfl rfl ?_
    refine zt_cVv (pc' := 51) hX dX1_comparison_48 rfl zm_yX4_addStep zw_22_7 hk57 (by decide) zs_6 (q := (RX4, TX4, 2)) rfl rfl (yc_X4_addStep _ _ s40 hI43 k55 hk57 r18 ⟨by omega, by omega⟩) rfl rfl (Nat.le_of_ble_eq_true rfl) (by decide) (fun r58 s59 hr60 hp61 => ?_)
    obtain ⟨hI62, hF63⟩ := hp61
    have hF64 := zOn_tr hF49 hF63 zi_rp2
    have hT65 := yTk_rk hT45 (yRk_p hF63)
    have hE66 : yst s59 = p50 := (yst_rk (yRk_p hF63)).trans hE51
    have b67 := zv_20_2 hI62 zc_33
    have e68 := hF63 33 2 rfl
    refine zt_goto (tgt := 69) hX dX1_comparison_51 (by decide) ?_
    exact zt_vret hX hR dX1_comparison_69 ⟨hI62, hF64, hT65, (by rw [hE66]; exact yJ_tr z9 (yJ_tr (yJ_cs (by omega)) (yJ_tr z46 (yJ_ce z48)))), (by rw [hE66]; exact L52)⟩
  · refine zt_iload_n (pc' := 20) hX dX1_comparison_19 rfl rfl ?_
    refine zt_bipush (pc' := 22) hX dX1_comparison_20 rfl (by decide) (by decide) ?_
    refine zt_iceq (pc' := 25) (tgt := 31) hX dX1_comparison_22 rfl (by decide) ⟨by omega, by omega⟩ ⟨by omega, by omega⟩ (fun c69 => ?_) (fun c69 => ?_)
    · refine zt_aload_n (pc' := 32) hX dX1_comparison_31 rfl rfl ?_
      refine zt_get (pc' := 35) (v := .ref (X.1.1 + 27)) hX dX1_comparison_32 rfl zf_X1_15 (by decide) zc_33 zs_20 (zrf_of (zv_20_0 hI6 zc_33)) ?_
      refine zt_cVv (pc' := 38) hX dX1_comparison_35 rfl zm_yX5_step zw_22_6 zc_27 (by decide) zs_14 (q := (RX5, TX5, 9)) rfl rfl (yc_X5_step _ _ s3 hI6 f hT8) rfl rfl (Nat.le_of_ble_eq_true rfl) (by decide) (fun r70 s71 hr72 hp73 => ?_)
      obtain ⟨hI74, hF75, hT76, z77⟩ := hp73
      have hE78 : yst s71 = yPx f p13 := by rw [z77, hE14]
      have hF79 := zOn_tr hF12 hF75 zi_r12
      have L80 : yle (yst σ) (yPx f p13) := yle_tr L15 (yle_x hT8 hE14)
      have b81 := zv_20_2 hI74 zc_33
      have e82 := hF75 33 2 rfl
      refine zt_aload_n (pc' := 39) hX dX1_comparison_38 rfl rfl ?_
      refine zt_iload_n (pc' := 40) hX dX1_comparison_39 rfl rfl ?_
      refine zt_cVv (pc' := 43) hX dX1_comparison_40 rfl zm_yX1_sum zw_21_19 zc_33 (by decide) zs_20 (q := (RX1, TX1, 3)) rfl rfl (yc_X1_sum_o2 _ _ s71 hI74 f hT76 rl (by omega) (6 :: k) hk (Nat.ne_of_beq_eq_false rfl)) rfl rfl (Nat.le_of_ble_eq_true rfl) (by decide) (fun r83 s84 hr85 hp86 => ?_)
      obtain ⟨hI87, hF88, hT89, z90, z91, z92⟩ := hp86
      rw [hE78] at z90
      rw [hE78] at z91
      have hF93 := zOn_tr hF79 hF88 zi_id
      obtain ⟨p94, hE95⟩ : ∃ p, yst s84 = p := ⟨_, rfl⟩
      rw [hE95] at z90
      rw [hE95] at z91
      have L96 := yle_tr L80 z91
      rw [hE95] at z92
      have b97 := zv_20_2 hI87 zc_33
      have e98 := hF88 33 2 rfl
      refine zt_aload_n (pc' := 44) hX dX1_comparison_43 rfl rfl ?_
      obtain ⟨k99, ek100, hk101⟩ := zv_20_1 hI87 zc_33
      refine zt_get (pc' := 47) (v := .ref (X.1.1 + k99)) hX dX1_comparison_44 rfl zf_X1_19 (by decide) zc_33 zs_20 (zrf_of ek100) ?_
      refine zt_iload_n (pc' := 48) hX dX1_comparison_47 rfl rfl ?_
      refine zt_cVv (pc' := 51) hX dX1_comparison_48 rfl zm_yX4_addStep zw_22_7 hk101 (by decide) zs_6 (q := (RX4, TX4, 2)) rfl rfl (yc_X4_addStep _ _ s84 hI87 k99 hk101 r18 ⟨by omega, by omega⟩) rfl rfl (Nat.le_of_ble_eq_true rfl) (by decide) (fun r102 s103 hr104 hp105 => ?_)
      obtain ⟨hI106, hF107⟩ := hp105
      have hF108 := zOn_tr hF93 hF107 zi_rp2
      have hT109 := yTk_rk hT89 (yRk_p hF107)
      have hE110 : yst s103 = p94 := (yst_rk (yRk_p hF107)).trans hE95
      have b111 := zv_20_2 hI106 zc_33
      have e112 := hF107 33 2 rfl
      refine zt_goto (tgt := 69) hX dX1_comparison_51 (by decide) ?_
      exact zt_vret hX hR dX1_comparison_69 ⟨hI106, hF108, hT109, (by rw [hE110]; exact yJ_tr z9 (yJ_tr (yJ_cs (by omega)) (yJ_tr z90 (yJ_ce z92)))), (by rw [hE110]; exact L96)⟩
    · refine zt_iload_n (pc' := 26) hX dX1_comparison_25 rfl rfl ?_
      refine zt_bipush (pc' := 28) hX dX1_comparison_26 rfl (by decide) (by decide) ?_
      refine zt_icne (pc' := 31) (tgt := 54) hX dX1_comparison_28 rfl (by decide) ⟨by omega, by omega⟩ ⟨by omega, by omega⟩ (fun c113 => ?_) (fun c113 => ?_)
      · refine zt_aload_n (pc' := 55) hX dX1_comparison_54 rfl rfl ?_
        refine zt_get (pc' := 58) (v := .ref (X.1.1 + 27)) hX dX1_comparison_55 rfl zf_X1_15 (by decide) zc_33 zs_20 (zrf_of (zv_20_0 hI6 zc_33)) ?_
        refine zt_iconst (pc' := 59) hX dX1_comparison_58 rfl ?_
        refine zt_aload_n (pc' := 60) hX dX1_comparison_59 rfl rfl ?_
        refine zt_get (pc' := 63) (v := .ref (X.1.1 + 27)) hX dX1_comparison_60 rfl zf_X1_15 (by decide) zc_33 zs_20 (zrf_of (zv_20_0 hI6 zc_33)) ?_
        refine zt_cVi (pc' := 66) hX dX1_comparison_63 rfl zm_yX5_placeHere zw_22_9 zc_27 (by decide) zs_14 (q := (RX5, TX5, 9)) rfl rfl (yc_X5_placeHere _ _ s3 hI6 f hT8) rfl rfl (Nat.le_of_ble_eq_true rfl) (by decide) (fun r114 s115 hr116 hp117 => ?_)
        obtain ⟨rfl, q118, q119, z120⟩ := hp117
        rw [hE14] at z120
        refine zt_cVv (pc' := 69) hX dX1_comparison_66 rfl zm_yX5_refuse zw_22_10 zc_27 (by decide) zs_14 (q := (RX5, TX5, 9)) rfl rfl (yc_X5_refuse _ _ s3 hI6 1 ⟨by omega, by omega⟩ r114 ⟨by omega, by omega⟩ (by omega) f hT8) rfl rfl (Nat.le_of_ble_eq_true rfl) (by decide) (fun r121 s122 hr123 hp124 => ?_)
        obtain ⟨hI125, hF126, hT127, z128⟩ := hp124
        have hE129 : yst s122 = yPno 1 r114 p13 := by rw [z128, hE14]
        have hF130 := zOn_tr hF12 hF126 zi_r12
        have L131 : yle (yst σ) (yPno 1 r114 p13) := yle_tr L15 yle_no
        have b132 := zv_20_2 hI125 zc_33
        have e133 := hF126 33 2 rfl
        exact zt_vret hX hR dX1_comparison_69 ⟨hI125, hF130, hT127, (by rw [hE129, yPno_f (p := r114) (d := 0) (fun o => by omega)]; exact yJ_tr z9 (yJ_cb z11 (by omega))), (by rw [hE129]; exact L131)⟩
      · refine zt_aload_n (pc' := 32) hX dX1_comparison_31 rfl rfl ?_
        refine zt_get (pc' := 35) (v := .ref (X.1.1 + 27)) hX dX1_comparison_32 rfl zf_X1_15 (by decide) zc_33 zs_20 (zrf_of (zv_20_0 hI6 zc_33)) ?_
        refine zt_cVv (pc' := 38) hX dX1_comparison_35 rfl zm_yX5_step zw_22_6 zc_27 (by decide) zs_14 (q := (RX5, TX5, 9)) rfl rfl (yc_X5_step _ _ s3 hI6 f hT8) rfl rfl (Nat.le_of_ble_eq_true rfl) (by decide) (fun r134 s135 hr136 hp137 => ?_)
        obtain ⟨hI138, hF139, hT140, z141⟩ := hp137
        have hE142 : yst s135 = yPx f p13 := by rw [z141, hE14]
        have hF143 := zOn_tr hF12 hF139 zi_r12
        have L144 : yle (yst σ) (yPx f p13) := yle_tr L15 (yle_x hT8 hE14)
        have b145 := zv_20_2 hI138 zc_33
        have e146 := hF139 33 2 rfl
        refine zt_aload_n (pc' := 39) hX dX1_comparison_38 rfl rfl ?_
        refine zt_iload_n (pc' := 40) hX dX1_comparison_39 rfl rfl ?_
        refine zt_cVv (pc' := 43) hX dX1_comparison_40 rfl zm_yX1_sum zw_21_19 zc_33 (by decide) zs_20 (q := (RX1, TX1, 3)) rfl rfl (yc_X1_sum_o2 _ _ s135 hI138 f hT140 rl (by omega) (6 :: k) hk (Nat.ne_of_beq_eq_false rfl)) rfl rfl (Nat.le_of_ble_eq_true rfl) (by decide) (fun r147 s148 hr149 hp150 => ?_)
        obtain ⟨hI151, hF152, hT153, z154, z155, z156⟩ := hp150
        rw [hE142] at z154
        rw [hE142] at z155
        have hF157 := zOn_tr hF143 hF152 zi_id
        obtain ⟨p158, hE159⟩ : ∃ p, yst s148 = p := ⟨_, rfl⟩
        rw [hE159] at z154
        rw [hE159] at z155
        have L160 := yle_tr L144 z155
        rw [hE159] at z156
        have b161 := zv_20_2 hI151 zc_33
        have e162 := hF152 33 2 rfl
        refine zt_aload_n (pc' := 44) hX dX1_comparison_43 rfl rfl ?_
        obtain ⟨k163, ek164, hk165⟩ := zv_20_1 hI151 zc_33
        refine zt_get (pc' := 47) (v := .ref (X.1.1 + k163)) hX dX1_comparison_44 rfl zf_X1_19 (by decide) zc_33 zs_20 (zrf_of ek164) ?_
        refine zt_iload_n (pc' := 48) hX dX1_comparison_47 rfl rfl ?_
        refine zt_cVv (pc' := 51) hX dX1_comparison_48 rfl zm_yX4_addStep zw_22_7 hk165 (by decide) zs_6 (q := (RX4, TX4, 2)) rfl rfl (yc_X4_addStep _ _ s148 hI151 k163 hk165 r18 ⟨by omega, by omega⟩) rfl rfl (Nat.le_of_ble_eq_true rfl) (by decide) (fun r166 s167 hr168 hp169 => ?_)
        obtain ⟨hI170, hF171⟩ := hp169
        have hF172 := zOn_tr hF157 hF171 zi_rp2
        have hT173 := yTk_rk hT153 (yRk_p hF171)
        have hE174 : yst s167 = p158 := (yst_rk (yRk_p hF171)).trans hE159
        have b175 := zv_20_2 hI170 zc_33
        have e176 := hF171 33 2 rfl
        refine zt_goto (tgt := 69) hX dX1_comparison_51 (by decide) ?_
        exact zt_vret hX hR dX1_comparison_69 ⟨hI170, hF172, hT173, (by rw [hE174]; exact yJ_tr z9 (yJ_tr (yJ_cs (by omega)) (yJ_tr z154 (yJ_ce z156)))), (by rw [hE174]; exact L160)⟩
set_option maxRecDepth 100000 in
set_option maxHeartbeats 4000000 in
theorem yc_X1_fact_o2 (l : Launch) (E : zEN) (σ : zSto) (hI : zInv σ) (f : Int → Int) (hT : yTk f σ) (rl : Int) (hrl : σ 33 2 = rl) (k : List Nat) (hk : ydep k = 2) : zCt l E yX1_fact cX1_fact 2 none 23 zNC zNC 0 0 σ [.ref (E.1 + 33), .int (zI 2)] (fun r σ' => zInv σ' ∧ zOn zR2 σ σ' ∧ yTk f σ' ∧ (yJ rl f (4, k, (yst σ)) (5, k, (yst σ'))) ∧ (yle (yst σ) (yst σ'))) := by
  refine zCt_of2 [some (.ref (E.1 + 33)), some (.int (zI 2))] (by decide +kernel) (Nat.le_of_ble_eq_true rfl) rfl ?_
  intro X hE_ hX hR hL hN
  subst hE_
  have hX : zok X cX1_fact RX1 23 := hX
  have hF := zOn_rf zR2 σ
  have hE0 : yst σ = yst σ := rfl
  have L0 := yle_rf (yst σ)
  have b1 := zv_20_2 hI zc_33
  refine zt_aload_n (pc' := 1) hX dX1_fact_0 rfl rfl ?_
  refine zt_get (pc' := 4) (v := .ref (X.1.1 + 27)) hX dX1_fact_1 rfl zf_X1_15 (by decide) zc_33 zs_20 (zrf_of (zv_20_0 hI zc_33)) ?_
  refine zt_cVi (pc' := 7) hX dX1_fact_4 rfl zm_yX5_wordHere zw_22_21 zc_27 (by decide) zs_14 (q := (RX5, TX5, 9)) rfl rfl (yc_X5_wordHere _ _ σ hI f hT) rfl rfl (Nat.le_of_ble_eq_true rfl) (by decide) (fun r2 s3 hr4 hp5 => ?_)
  obtain ⟨rfl, q6, q7, z8⟩ := hp5
  refine zt_bipush (pc' := 9) hX dX1_fact_7 rfl (by decide) (by decide) ?_
  refine zt_icne (pc' := 12) (tgt := 39) hX dX1_fact_9 rfl (by decide) ⟨by omega, by omega⟩ ⟨by omega, by omega⟩ (fun c9 => ?_) (fun c9 => ?_)
  · refine zt_aload_n (pc' := 40) hX dX1_fact_39 rfl rfl ?_
    refine zt_get (pc' := 43) (v := .ref (X.1.1 + 27)) hX dX1_fact_40 rfl zf_X1_15 (by decide) zc_33 zs_20 (zrf_of (zv_20_0 hI zc_33)) ?_
    refine zt_cVi (pc' := 46) hX dX1_fact_43 rfl zm_yX5_signHere zw_22_2 zc_27 (by decide) zs_14 (q := (RX5, TX5, 9)) rfl rfl (yc_X5_signHere _ _ σ hI f hT) rfl rfl (Nat.le_of_ble_eq_true rfl) (by decide) (fun r10 s11 hr12 hp13 => ?_)
    obtain ⟨rfl, q14, q15, z16⟩ := hp13
    refine zt_bipush (pc' := 48) hX dX1_fact_46 rfl (by decide) (by decide) ?_
    refine zt_icne (pc' := 51) (tgt := 78) hX dX1_fact_48 rfl (by decide) ⟨by omega, by omega⟩ ⟨by omega, by omega⟩ (fun c17 => ?_) (fun c17 => ?_)
    · refine zt_aload_n (pc' := 79) hX dX1_fact_78 rfl rfl ?_
      refine zt_get (pc' := 82) (v := .ref (X.1.1 + 27)) hX dX1_fact_79 rfl zf_X1_15 (by decide) zc_33 zs_20 (zrf_of (zv_20_0 hI zc_33)) ?_
      refine zt_cVi (pc' := 85) hX dX1_fact_82 rfl zm_yX5_wordHere zw_22_21 zc_27 (by decide) zs_14 (q := (RX5, TX5, 9)) rfl rfl (yc_X5_wordHere _ _ σ hI f hT) rfl rfl (Nat.le_of_ble_eq_true rfl) (by decide) (fun r18 s19 hr20 hp21 => ?_)
      obtain ⟨rfl, q22, q23, z24⟩ := hp21
      refine zt_bipush (pc' := 87) hX dX1_fact_85 rfl (by decide) (by decide) ?_
      refine zt_icne (pc' := 90) (tgt := 109) hX dX1_fact_87 rfl (by decide) ⟨by omega, by omega⟩ ⟨by omega, by omega⟩ (fun c25 => ?_) (fun c25 => ?_)
      · refine zt_aload_n (pc' := 110) hX dX1_fact_109 rfl rfl ?_
        refine zt_iload_n (pc' := 111) hX dX1_fact_110 rfl rfl ?_
        refine zt_cVv (pc' := 114) hX dX1_fact_111 rfl zm_yX1_comparison zw_24_14 zc_33 (by decide) zs_20 (q := (RX1, TX1, 3)) rfl rfl (yc_X1_comparison_o2 _ _ σ hI f hT rl (by omega) k hk) rfl rfl (Nat.le_of_ble_eq_true rfl) (by decide) (fun r26 s27 hr28 hp29 => ?_)
        obtain ⟨hI30, hF31, hT32, z33, z34⟩ := hp29
        have hF35 := zOn_tr hF hF31 zi_id
        obtain ⟨p36, hE37⟩ : ∃ p, yst s27 = p := ⟨_, rfl⟩
        rw [hE37] at z33
        rw [hE37] at z34
        have L38 := yle_tr L0 z34
        have b39 := zv_20_2 hI30 zc_33
        have e40 := hF31 33 2 rfl
        exact zt_vret hX hR dX1_fact_114 ⟨hI30, hF35, hT32, (by rw [hE37]; exact yJ_tr (yJ_cmp (by omega) (by omega) (by omega)) z33), (by rw [hE37]; exact L38)⟩
      · refine zt_aload_n (pc' := 91) hX dX1_fact_90 rfl rfl ?_
        refine zt_get (pc' := 94) (v := .ref (X.1.1 + 27)) hX dX1_fact_91 rfl zf_X1_15 (by decide) zc_33 zs_20 (zrf_of (zv_20_0 hI zc_33)) ?_
        refine zt_cVv (pc' := 97) hX dX1_fact_94 rfl zm_yX5_step zw_22_6 zc_27 (by decide) zs_14 (q := (RX5, TX5, 9)) rfl rfl (yc_X5_step _ _ σ hI f hT) rfl rfl (Nat.le_of_ble_eq_true rfl) (by decide) (fun r41 s42 hr43 hp44 => ?_)
        obtain ⟨hI45, hF46, hT47, z48⟩ := hp44
        have hE49 : yst s42 = yPx f (yst σ) := z48
        have hF50 := zOn_tr hF hF46 zi_r12
        have L51 : yle (yst σ) (yPx f (yst σ)) := yle_tr L0 (yle_x hT hE0)
        have b52 := zv_20_2 hI45 zc_33
        have e53 := hF46 33 2 rfl
        refine zt_aload_n (pc' := 98) hX dX1_fact_97 rfl rfl ?_
        obtain ⟨k54, ek55, hk56⟩ := zv_20_1 hI45 zc_33
        refine zt_get (pc' := 101) (v := .ref (X.1.1 + k54)) hX dX1_fact_98 rfl zf_X1_19 (by decide) zc_33 zs_20 (zrf_of ek55) ?_
        refine zt_bipush (pc' := 103) hX dX1_fact_101 rfl (by decide) (by decide) ?_
        refine zt_cVv (pc' := 106) hX dX1_fact_103 rfl zm_yX4_addStep zw_22_7 hk56 (by decide) zs_6 (q := (RX4, TX4, 2)) rfl rfl (yc_X4_addStep _ _ s42 hI45 k54 hk56 24 ⟨by omega, by omega⟩) rfl rfl (Nat.le_of_ble_eq_true rfl) (by decide) (fun r57 s58 hr59 hp60 => ?_)
        obtain ⟨hI61, hF62⟩ := hp60
        have hF63 := zOn_tr hF50 hF62 zi_rp2
        have hT64 := yTk_rk hT47 (yRk_p hF62)
        have hE65 : yst s58 = yPx f (yst σ) := (yst_rk (yRk_p hF62)).trans hE49
        have b66 := zv_20_2 hI61 zc_33
        have e67 := hF62 33 2 rfl
        refine zt_goto (tgt := 114) hX dX1_fact_106 (by decide) ?_
        exact zt_vret hX hR dX1_fact_114 ⟨hI61, hF63, hT64, (by rw [hE65]; exact yJ_all (by omega)), (by rw [hE65]; exact L51)⟩
    · refine zt_aload_n (pc' := 52) hX dX1_fact_51 rfl rfl ?_
      refine zt_iload_n (pc' := 53) hX dX1_fact_52 rfl rfl ?_
      refine zt_cVz (pc' := 56) hX dX1_fact_53 rfl zm_yX1_opens zw_22_11 zc_33 (by decide) zs_20 (q := (RX1, TX1, 3)) rfl rfl (yc_X1_opens_o2 _ _ σ hI f hT) rfl rfl (Nat.le_of_ble_eq_true rfl) (by decide) (fun r68 s69 hr70 hp71 => ?_)
      obtain ⟨hI72, hF73, q74, q75, hT76, z77⟩ := hp71
      have hE78 : yst s69 = yPx f (yst σ) := z77
      have hF79 := zOn_tr hF hF73 zi_r12
      have L80 : yle (yst σ) (yPx f (yst σ)) := yle_tr L0 (yle_x hT hE0)
      have b81 := zv_20_2 hI72 zc_33
      have e82 := hF73 33 2 rfl
      refine zt_ifeq (pc' := 59) (tgt := 114) hX dX1_fact_56 rfl (by decide) ⟨by omega, by omega⟩ (fun c83 => ?_) (fun c83 => ?_)
      · exact absurd c83 (by omega)
      · refine zt_aload_n (pc' := 60) hX dX1_fact_59 rfl rfl ?_
        refine zt_iload_n (pc' := 61) hX dX1_fact_60 rfl rfl ?_
        refine zt_iconst (pc' := 62) hX dX1_fact_61 rfl ?_
        refine zt_iadd (pc' := 63) hX dX1_fact_62 rfl ?_
        rw [show (2 + 1 : Int) = 3 from rfl]
        refine zt_cVv (pc' := 66) hX dX1_fact_63 rfl zm_yX1_test zw_24_2 zc_33 (by decide) zs_20 (q := (RX1, TX1, 3)) rfl rfl (yc_X1_test_o3 _ _ s69 hI72 f hT76 rl (by omega) (7 :: k) (by show ydep k + 1 = _; omega) (Nat.ne_of_beq_eq_false rfl)) rfl rfl (Nat.le_of_ble_eq_true rfl) (by decide) (fun r84 s85 hr86 hp87 => ?_)
        obtain ⟨hI88, hF89, hT90, z91, z92, z93⟩ := hp87
        rw [hE78] at z91
        rw [hE78] at z92
        have hF94 := zOn_tr hF79 hF89 zi_id
        obtain ⟨p95, hE96⟩ : ∃ p, yst s85 = p := ⟨_, rfl⟩
        rw [hE96] at z91
        rw [hE96] at z92
        have L97 := yle_tr L80 z92
        rw [hE96] at z93
        have b98 := zv_20_2 hI88 zc_33
        have e99 := hF89 33 2 rfl
        refine zt_aload_n (pc' := 67) hX dX1_fact_66 rfl rfl ?_
        refine zt_get (pc' := 70) (v := .ref (X.1.1 + 27)) hX dX1_fact_67 rfl zf_X1_15 (by decide) zc_33 zs_20 (zrf_of (zv_20_0 hI88 zc_33)) ?_
        refine zt_bipush (pc' := 72) hX dX1_fact_70 rfl (by decide) (by decide) ?_
        refine zt_cVv (pc' := 75) hX dX1_fact_72 rfl zm_yX5_takeSign zw_22_15 zc_27 (by decide) zs_14 (q := (RX5, TX5, 9)) rfl rfl (yc_X5_takeSign _ _ s85 hI88 93 ⟨by omega, by omega⟩ f hT90) rfl rfl (Nat.le_of_ble_eq_true rfl) (by decide) (fun r100 s101 hr102 hp103 => ?_)
        obtain ⟨hI104, hF105, hT106, z107⟩ := hp103
        have hE108 : yst s101 = yPs f 93 p95 := by rw [z107, hE96]
        have hF109 := zOn_tr hF94 hF105 zi_r12
        have L110 : yle (yst σ) (yPs f 93 p95) := yle_tr L97 (yle_s hT90 hE96)
        have b111 := zv_20_2 hI104 zc_33
        have e112 := hF105 33 2 rfl
        refine zt_goto (tgt := 114) hX dX1_fact_75 (by decide) ?_
        exact zt_vret hX hR dX1_fact_114 ⟨hI104, hF109, hT106, (by rw [hE108]; exact yJ_tr (yJ_sq (by omega) (by omega)) (yJ_tr z91 (yJ_qc z93))), (by rw [hE108]; exact L110)⟩
  · refine zt_aload_n (pc' := 13) hX dX1_fact_12 rfl rfl ?_
    refine zt_iload_n (pc' := 14) hX dX1_fact_13 rfl rfl ?_
    refine zt_cVz (pc' := 17) hX dX1_fact_14 rfl zm_yX1_opens zw_22_11 zc_33 (by decide) zs_20 (q := (RX1, TX1, 3)) rfl rfl (yc_X1_opens_o2 _ _ σ hI f hT) rfl rfl (Nat.le_of_ble_eq_true rfl) (by decide) (fun r113 s114 hr115 hp116 => ?_)
    obtain ⟨hI117, hF118, q119, q120, hT121, z122⟩ := hp116
    have hE123 : yst s114 = yPx f (yst σ) := z122
    have hF124 := zOn_tr hF hF118 zi_r12
    have L125 : yle (yst σ) (yPx f (yst σ)) := yle_tr L0 (yle_x hT hE0)
    have b126 := zv_20_2 hI117 zc_33
    have e127 := hF118 33 2 rfl
    refine zt_ifeq (pc' := 20) (tgt := 114) hX dX1_fact_17 rfl (by decide) ⟨by omega, by omega⟩ (fun c128 => ?_) (fun c128 => ?_)
    · exact absurd c128 (by omega)
    · refine zt_aload_n (pc' := 21) hX dX1_fact_20 rfl rfl ?_
      refine zt_iload_n (pc' := 22) hX dX1_fact_21 rfl rfl ?_
      refine zt_iconst (pc' := 23) hX dX1_fact_22 rfl ?_
      refine zt_iadd (pc' := 24) hX dX1_fact_23 rfl ?_
      rw [show (2 + 1 : Int) = 3 from rfl]
      refine zt_cVv (pc' := 27) hX dX1_fact_24 rfl zm_yX1_fact zw_24_10 zc_33 (by decide) zs_20 (q := (RX1, TX1, 3)) rfl rfl (yc_X1_fact_o3 _ _ s114 hI117 f hT121 rl (by omega) (8 :: k) (by show ydep k + 1 = _; omega)) rfl rfl (Nat.le_of_ble_eq_true rfl) (by decide) (fun r129 s130 hr131 hp132 => ?_)
      obtain ⟨hI133, hF134, hT135, z136, z137⟩ := hp132
      rw [hE123] at z136
      rw [hE123] at z137
      have hF138 := zOn_tr hF124 hF134 zi_id
      obtain ⟨p139, hE140⟩ : ∃ p, yst s130 = p := ⟨_, rfl⟩
      rw [hE140] at z136
      rw [hE140] at z137
      have L141 := yle_tr L125 z137
      have b142 := zv_20_2 hI133 zc_33
      have e143 := hF134 33 2 rfl
      refine zt_aload_n (pc' := 28) hX dX1_fact_27 rfl rfl ?_
      obtain ⟨k144, ek145, hk146⟩ := zv_20_1 hI133 zc_33
      refine zt_get (pc' := 31) (v := .ref (X.1.1 + k144)) hX dX1_fact_28 rfl zf_X1_19 (by decide) zc_33 zs_20 (zrf_of ek145) ?_
      refine zt_bipush (pc' := 33) hX dX1_fact_31 rfl (by decide) (by decide) ?_
      refine zt_cVv (pc' := 36) hX dX1_fact_33 rfl zm_yX4_addStep zw_22_7 hk146 (by decide) zs_6 (q := (RX4, TX4, 2)) rfl rfl (yc_X4_addStep _ _ s130 hI133 k144 hk146 23 ⟨by omega, by omega⟩) rfl rfl (Nat.le_of_ble_eq_true rfl) (by decide) (fun r147 s148 hr149 hp150 => ?_)
      obtain ⟨hI151, hF152⟩ := hp150
      have hF153 := zOn_tr hF138 hF152 zi_rp2
      have hT154 := yTk_rk hT135 (yRk_p hF152)
      have hE155 : yst s148 = p139 := (yst_rk (yRk_p hF152)).trans hE140
      have b156 := zv_20_2 hI151 zc_33
      have e157 := hF152 33 2 rfl
      refine zt_goto (tgt := 114) hX dX1_fact_36 (by decide) ?_
      exact zt_vret hX hR dX1_fact_114 ⟨hI151, hF153, hT154, (by rw [hE155]; exact yJ_tr (yJ_not (by omega) (by omega)) (yJ_tr z136 yJ_nt)), (by rw [hE155]; exact L141)⟩
set_option maxRecDepth 100000 in
set_option maxHeartbeats 4000000 in
theorem yc_X1_both_o2 (l : Launch) (E : zEN) (σ : zSto) (hI : zInv σ) (f : Int → Int) (hT : yTk f σ) (rl : Int) (hrl : σ 33 2 = rl) (k : List Nat) (hk : ydep k = 2) (ht : ytop k ≠ 8) : zCt l E yX1_both cX1_both 3 none 24 zNC zNC 0 0 σ [.ref (E.1 + 33), .int (zI 2)] (fun r σ' => zInv σ' ∧ zOn zR2 σ σ' ∧ yTk f σ' ∧ (yJ rl f (4, k, (yst σ)) (5, k, (yst σ'))) ∧ (yle (yst σ) (yst σ')) ∧ (yPi f (yst σ') ≠ 22)) := by
  refine zCt_of2 [some (.ref (E.1 + 33)), some (.int (zI 2)), none] (by decide +kernel) (Nat.le_of_ble_eq_true rfl) rfl ?_
  intro X hE_ hX hR hL hN
  subst hE_
  have hX : zok X cX1_both RX1 24 := hX
  have hF := zOn_rf zR2 σ
  have hE0 : yst σ = yst σ := rfl
  have L0 := yle_rf (yst σ)
  have b1 := zv_20_2 hI zc_33
  refine zt_aload_n (pc' := 1) hX dX1_both_0 rfl rfl ?_
  refine zt_iload_n (pc' := 2) hX dX1_both_1 rfl rfl ?_
  refine zt_cVv (pc' := 5) hX dX1_both_2 rfl zm_yX1_fact zw_24_10 zc_33 (by decide) zs_20 (q := (RX1, TX1, 3)) rfl rfl (yc_X1_fact_o2 _ _ σ hI f hT rl (by omega) k hk) rfl rfl (Nat.le_of_ble_eq_true rfl) (by decide) (fun r2 s3 hr4 hp5 => ?_)
  obtain ⟨hI6, hF7, hT8, z9, z10⟩ := hp5
  have hF11 := zOn_tr hF hF7 zi_id
  obtain ⟨p12, hE13⟩ : ∃ p, yst s3 = p := ⟨_, rfl⟩
  rw [hE13] at z9
  rw [hE13] at z10
  have L14 := yle_tr L0 z10
  have b15 := zv_20_2 hI6 zc_33
  have e16 := hF7 33 2 rfl
  have g17 := z9
  refine zt_iconst (pc' := 6) hX dX1_both_5 rfl ?_
  refine zt_istore_n (pc' := 7) (lv' := [some (.ref (X.1.1 + 33)), some (.int (zI 2)), some (.int (zI 0))]) hX dX1_both_6 rfl hL (by decide) rfl ?_
  have L_7_30 : ∀ (N : Nat) (x18 : Int) (s21 : zSto) (p24 : yP), 0 ≤ x18 → x18 ≤ 1600 → zInv s21 → zOn zR2 σ s21 → yTk f s21 → yst s21 = p24 → s21 33 2 = σ 33 2 → yJ rl f (4, k, yst σ) (5, k, p24) → yle (yst σ) p24 → yge x18 p24 → ((1601 - x18).toNat) < N → zF X s21 7 [some (.ref (X.1.1 + 33)), some (.int (zI 2)), some (.int (zI x18))] [] := by
    intro N
    induction N with
    | zero =>
      intro x18 s21 p24 h19 h20 hI22 hF23 hT25 hE26 g27 g28 g29 g30 hm32
      exact absurd hm32 (Nat.not_lt_zero _)
    | succ N ih33 =>
      intro x18 s21 p24 h19 h20 hI22 hF23 hT25 hE26 g27 g28 g29 g30 hm32
      have b34 := zv_20_2 hI22 zc_33
      have hx := yge_x hT25 hE26 g30
      refine zt_iload_n (pc' := 8) hX dX1_both_7 rfl rfl ?_
      refine zt_sipush (pc' := 11) hX dX1_both_8 rfl (by decide) (by decide) ?_
      refine zt_icge (pc' := 14) (tgt := 53) hX dX1_both_11 rfl (by decide) ⟨by omega, by omega⟩ ⟨by omega, by omega⟩ (fun c35 => ?_) (fun c35 => ?_)
      · exact zt_vret hX hR dX1_both_53 ⟨hI22, hF23, hT25, (by rw [hE26]; exact g28), (by rw [hE26]; exact g29), (by rw [hE26]; omega)⟩
      · refine zt_aload_n (pc' := 15) hX dX1_both_14 rfl rfl ?_
        refine zt_get (pc' := 18) (v := .ref (X.1.1 + 27)) hX dX1_both_15 rfl zf_X1_15 (by decide) zc_33 zs_20 (zrf_of (zv_20_0 hI22 zc_33)) ?_
        refine zt_cVi (pc' := 21) hX dX1_both_18 rfl zm_yX5_wordHere zw_22_21 zc_27 (by decide) zs_14 (q := (RX5, TX5, 9)) rfl rfl (yc_X5_wordHere _ _ s21 hI22 f hT25) rfl rfl (Nat.le_of_ble_eq_true rfl) (by decide) (fun r36 s37 hr38 hp39 => ?_)
        obtain ⟨rfl, q40, q41, z42⟩ := hp39
        rw [hE26] at z42
        refine zt_bipush (pc' := 23) hX dX1_both_21 rfl (by decide) (by decide) ?_
        refine zt_icne (pc' := 26) (tgt := 53) hX dX1_both_23 rfl (by decide) ⟨by omega, by omega⟩ ⟨by omega, by omega⟩ (fun c43 => ?_) (fun c43 => ?_)
        · exact zt_vret hX hR dX1_both_53 ⟨hI22, hF23, hT25, (by rw [hE26]; exact g28), (by rw [hE26]; exact g29), (by rw [hE26]; omega)⟩
        · refine zt_aload_n (pc' := 27) hX dX1_both_26 rfl rfl ?_
          refine zt_get (pc' := 30) (v := .ref (X.1.1 + 27)) hX dX1_both_27 rfl zf_X1_15 (by decide) zc_33 zs_20 (zrf_of (zv_20_0 hI22 zc_33)) ?_
          refine zt_cVv (pc' := 33) hX dX1_both_30 rfl zm_yX5_step zw_22_6 zc_27 (by decide) zs_14 (q := (RX5, TX5, 9)) rfl rfl (yc_X5_step _ _ s21 hI22 f hT25) rfl rfl (Nat.le_of_ble_eq_true rfl) (by decide) (fun r44 s45 hr46 hp47 => ?_)
          obtain ⟨hI48, hF49, hT50, z51⟩ := hp47
          have hE52 : yst s45 = yPx f p24 := by rw [z51, hE26]
          have hF53 := zOn_tr hF23 hF49 zi_r12
          have L54 : yle (yst σ) (yPx f p24) := yle_tr g29 (yle_x hT25 hE26)
          have b55 := zv_20_2 hI48 zc_33
          have e56 := hF49 33 2 rfl
          have g57 := yJ_tr g28 (yJ_ao ht (by omega))
          have I58 := yge_1 hT25 hE26 g30 (by omega)
          refine zt_aload_n (pc' := 34) hX dX1_both_33 rfl rfl ?_
          refine zt_iload_n (pc' := 35) hX dX1_both_34 rfl rfl ?_
          refine zt_cVv (pc' := 38) hX dX1_both_35 rfl zm_yX1_fact zw_24_10 zc_33 (by decide) zs_20 (q := (RX1, TX1, 3)) rfl rfl (yc_X1_fact_o2 _ _ s45 hI48 f hT50 rl (by omega) k hk) rfl rfl (Nat.le_of_ble_eq_true rfl) (by decide) (fun r59 s60 hr61 hp62 => ?_)
          obtain ⟨hI63, hF64, hT65, z66, z67⟩ := hp62
          rw [hE52] at z66
          rw [hE52] at z67
          have hF68 := zOn_tr hF53 hF64 zi_id
          obtain ⟨p69, hE70⟩ : ∃ p, yst s60 = p := ⟨_, rfl⟩
          rw [hE70] at z66
          rw [hE70] at z67
          have L71 := yle_tr L54 z67
          have b72 := zv_20_2 hI63 zc_33
          have e73 := hF64 33 2 rfl
          have g74 := yJ_tr g57 z66
          have I75 := yge_l I58 z67
          refine zt_aload_n (pc' := 39) hX dX1_both_38 rfl rfl ?_
          obtain ⟨k76, ek77, hk78⟩ := zv_20_1 hI63 zc_33
          refine zt_get (pc' := 42) (v := .ref (X.1.1 + k76)) hX dX1_both_39 rfl zf_X1_19 (by decide) zc_33 zs_20 (zrf_of ek77) ?_
          refine zt_bipush (pc' := 44) hX dX1_both_42 rfl (by decide) (by decide) ?_
          refine zt_cVv (pc' := 47) hX dX1_both_44 rfl zm_yX4_addStep zw_22_7 hk78 (by decide) zs_6 (q := (RX4, TX4, 2)) rfl rfl (yc_X4_addStep _ _ s60 hI63 k76 hk78 22 ⟨by omega, by omega⟩) rfl rfl (Nat.le_of_ble_eq_true rfl) (by decide) (fun r79 s80 hr81 hp82 => ?_)
          obtain ⟨hI83, hF84⟩ := hp82
          have hF85 := zOn_tr hF68 hF84 zi_rp2
          have hT86 := yTk_rk hT65 (yRk_p hF84)
          have hE87 : yst s80 = p69 := (yst_rk (yRk_p hF84)).trans hE70
          have b88 := zv_20_2 hI83 zc_33
          have e89 := hF84 33 2 rfl
          refine zt_iinc (pc' := 50) (lv' := [some (.ref (X.1.1 + 33)), some (.int (zI 2)), some (.int (zI (x18 + 1)))]) hX dX1_both_47 rfl rfl hL (by decide) rfl ?_
          refine zt_goto (tgt := 7) hX dX1_both_50 (by decide) ?_
          exact ih33 (x18 + 1) s80 p69 (by omega) (by omega) hI83 hF85 hT86 hE87 (by omega) g74 L71 I75 (by omega)
  exact L_7_30 _ 0 s3 p12 (by omega) (by omega) hI6 hF11 hT8 hE13 (by omega) g17 L14 (yge_0 hT8 hE13) (Nat.lt_succ_self _)
set_option maxRecDepth 100000 in
set_option maxHeartbeats 4000000 in
theorem yc_X1_test_o2 (l : Launch) (E : zEN) (σ : zSto) (hI : zInv σ) (f : Int → Int) (hT : yTk f σ) (rl : Int) (hrl : σ 33 2 = rl) (k : List Nat) (hk : ydep k = 2) (ht : ytop k ≠ 8) : zCt l E yX1_test cX1_test 3 none 25 zNC zNC 0 0 σ [.ref (E.1 + 33), .int (zI 2)] (fun r σ' => zInv σ' ∧ zOn zR2 σ σ' ∧ yTk f σ' ∧ (yJ rl f (4, k, (yst σ)) (5, k, (yst σ'))) ∧ (yle (yst σ) (yst σ')) ∧ (yPi f (yst σ') ≠ 22 ∧ yPi f (yst σ') ≠ 21)) := by
  refine zCt_of2 [some (.ref (E.1 + 33)), some (.int (zI 2)), none] (by decide +kernel) (Nat.le_of_ble_eq_true rfl) rfl ?_
  intro X hE_ hX hR hL hN
  subst hE_
  have hX : zok X cX1_test RX1 25 := hX
  have hF := zOn_rf zR2 σ
  have hE0 : yst σ = yst σ := rfl
  have L0 := yle_rf (yst σ)
  have b1 := zv_20_2 hI zc_33
  refine zt_aload_n (pc' := 1) hX dX1_test_0 rfl rfl ?_
  refine zt_iload_n (pc' := 2) hX dX1_test_1 rfl rfl ?_
  refine zt_cVv (pc' := 5) hX dX1_test_2 rfl zm_yX1_both zw_24_6 zc_33 (by decide) zs_20 (q := (RX1, TX1, 3)) rfl rfl (yc_X1_both_o2 _ _ σ hI f hT rl (by omega) k hk ht) rfl rfl (Nat.le_of_ble_eq_true rfl) (by decide) (fun r2 s3 hr4 hp5 => ?_)
  obtain ⟨hI6, hF7, hT8, z9, z10, z11⟩ := hp5
  have hF12 := zOn_tr hF hF7 zi_id
  obtain ⟨p13, hE14⟩ : ∃ p, yst s3 = p := ⟨_, rfl⟩
  rw [hE14] at z9
  rw [hE14] at z10
  have L15 := yle_tr L0 z10
  rw [hE14] at z11
  have b16 := zv_20_2 hI6 zc_33
  have e17 := hF7 33 2 rfl
  have g18 := z9
  refine zt_iconst (pc' := 6) hX dX1_test_5 rfl ?_
  refine zt_istore_n (pc' := 7) (lv' := [some (.ref (X.1.1 + 33)), some (.int (zI 2)), some (.int (zI 0))]) hX dX1_test_6 rfl hL (by decide) rfl ?_
  have L_7_32 : ∀ (N : Nat) (x19 : Int) (s22 : zSto) (p25 : yP), 0 ≤ x19 → x19 ≤ 1600 → zInv s22 → zOn zR2 σ s22 → yTk f s22 → yst s22 = p25 → yPi f p25 ≠ 22 → s22 33 2 = σ 33 2 → yJ rl f (4, k, yst σ) (5, k, p25) → yle (yst σ) p25 → yge x19 p25 → ((1601 - x19).toNat) < N → zF X s22 7 [some (.ref (X.1.1 + 33)), some (.int (zI 2)), some (.int (zI x19))] [] := by
    intro N
    induction N with
    | zero =>
      intro x19 s22 p25 h20 h21 hI23 hF24 hT26 hE27 g28 g29 g30 g31 g32 hm34
      exact absurd hm34 (Nat.not_lt_zero _)
    | succ N ih35 =>
      intro x19 s22 p25 h20 h21 hI23 hF24 hT26 hE27 g28 g29 g30 g31 g32 hm34
      have b36 := zv_20_2 hI23 zc_33
      have hx := yge_x hT26 hE27 g32
      refine zt_iload_n (pc' := 8) hX dX1_test_7 rfl rfl ?_
      refine zt_sipush (pc' := 11) hX dX1_test_8 rfl (by decide) (by decide) ?_
      refine zt_icge (pc' := 14) (tgt := 53) hX dX1_test_11 rfl (by decide) ⟨by omega, by omega⟩ ⟨by omega, by omega⟩ (fun c37 => ?_) (fun c37 => ?_)
      · exact zt_vret hX hR dX1_test_53 ⟨hI23, hF24, hT26, (by rw [hE27]; exact g30), (by rw [hE27]; exact g31), (by rw [hE27]; omega)⟩
      · refine zt_aload_n (pc' := 15) hX dX1_test_14 rfl rfl ?_
        refine zt_get (pc' := 18) (v := .ref (X.1.1 + 27)) hX dX1_test_15 rfl zf_X1_15 (by decide) zc_33 zs_20 (zrf_of (zv_20_0 hI23 zc_33)) ?_
        refine zt_cVi (pc' := 21) hX dX1_test_18 rfl zm_yX5_wordHere zw_22_21 zc_27 (by decide) zs_14 (q := (RX5, TX5, 9)) rfl rfl (yc_X5_wordHere _ _ s22 hI23 f hT26) rfl rfl (Nat.le_of_ble_eq_true rfl) (by decide) (fun r38 s39 hr40 hp41 => ?_)
        obtain ⟨rfl, q42, q43, z44⟩ := hp41
        rw [hE27] at z44
        refine zt_bipush (pc' := 23) hX dX1_test_21 rfl (by decide) (by decide) ?_
        refine zt_icne (pc' := 26) (tgt := 53) hX dX1_test_23 rfl (by decide) ⟨by omega, by omega⟩ ⟨by omega, by omega⟩ (fun c45 => ?_) (fun c45 => ?_)
        · exact zt_vret hX hR dX1_test_53 ⟨hI23, hF24, hT26, (by rw [hE27]; exact g30), (by rw [hE27]; exact g31), (by rw [hE27]; omega)⟩
        · refine zt_aload_n (pc' := 27) hX dX1_test_26 rfl rfl ?_
          refine zt_get (pc' := 30) (v := .ref (X.1.1 + 27)) hX dX1_test_27 rfl zf_X1_15 (by decide) zc_33 zs_20 (zrf_of (zv_20_0 hI23 zc_33)) ?_
          refine zt_cVv (pc' := 33) hX dX1_test_30 rfl zm_yX5_step zw_22_6 zc_27 (by decide) zs_14 (q := (RX5, TX5, 9)) rfl rfl (yc_X5_step _ _ s22 hI23 f hT26) rfl rfl (Nat.le_of_ble_eq_true rfl) (by decide) (fun r46 s47 hr48 hp49 => ?_)
          obtain ⟨hI50, hF51, hT52, z53⟩ := hp49
          have hE54 : yst s47 = yPx f p25 := by rw [z53, hE27]
          have hF55 := zOn_tr hF24 hF51 zi_r12
          have L56 : yle (yst σ) (yPx f p25) := yle_tr g31 (yle_x hT26 hE27)
          have b57 := zv_20_2 hI50 zc_33
          have e58 := hF51 33 2 rfl
          have g59 := yJ_tr g30 (yJ_ao ht (by omega))
          have I60 := yge_1 hT26 hE27 g32 (by omega)
          refine zt_aload_n (pc' := 34) hX dX1_test_33 rfl rfl ?_
          refine zt_iload_n (pc' := 35) hX dX1_test_34 rfl rfl ?_
          refine zt_cVv (pc' := 38) hX dX1_test_35 rfl zm_yX1_both zw_24_6 zc_33 (by decide) zs_20 (q := (RX1, TX1, 3)) rfl rfl (yc_X1_both_o2 _ _ s47 hI50 f hT52 rl (by omega) k hk ht) rfl rfl (Nat.le_of_ble_eq_true rfl) (by decide) (fun r61 s62 hr63 hp64 => ?_)
          obtain ⟨hI65, hF66, hT67, z68, z69, z70⟩ := hp64
          rw [hE54] at z68
          rw [hE54] at z69
          have hF71 := zOn_tr hF55 hF66 zi_id
          obtain ⟨p72, hE73⟩ : ∃ p, yst s62 = p := ⟨_, rfl⟩
          rw [hE73] at z68
          rw [hE73] at z69
          have L74 := yle_tr L56 z69
          rw [hE73] at z70
          have b75 := zv_20_2 hI65 zc_33
          have e76 := hF66 33 2 rfl
          have g77 := yJ_tr g59 z68
          have I78 := yge_l I60 z69
          refine zt_aload_n (pc' := 39) hX dX1_test_38 rfl rfl ?_
          obtain ⟨k79, ek80, hk81⟩ := zv_20_1 hI65 zc_33
          refine zt_get (pc' := 42) (v := .ref (X.1.1 + k79)) hX dX1_test_39 rfl zf_X1_19 (by decide) zc_33 zs_20 (zrf_of ek80) ?_
          refine zt_bipush (pc' := 44) hX dX1_test_42 rfl (by decide) (by decide) ?_
          refine zt_cVv (pc' := 47) hX dX1_test_44 rfl zm_yX4_addStep zw_22_7 hk81 (by decide) zs_6 (q := (RX4, TX4, 2)) rfl rfl (yc_X4_addStep _ _ s62 hI65 k79 hk81 21 ⟨by omega, by omega⟩) rfl rfl (Nat.le_of_ble_eq_true rfl) (by decide) (fun r82 s83 hr84 hp85 => ?_)
          obtain ⟨hI86, hF87⟩ := hp85
          have hF88 := zOn_tr hF71 hF87 zi_rp2
          have hT89 := yTk_rk hT67 (yRk_p hF87)
          have hE90 : yst s83 = p72 := (yst_rk (yRk_p hF87)).trans hE73
          have b91 := zv_20_2 hI86 zc_33
          have e92 := hF87 33 2 rfl
          refine zt_iinc (pc' := 50) (lv' := [some (.ref (X.1.1 + 33)), some (.int (zI 2)), some (.int (zI (x19 + 1)))]) hX dX1_test_47 rfl rfl hL (by decide) rfl ?_
          refine zt_goto (tgt := 7) hX dX1_test_50 (by decide) ?_
          exact ih35 (x19 + 1) s83 p72 (by omega) (by omega) hI86 hF88 hT89 hE90 (by omega) (by omega) g77 L74 I78 (by omega)
  exact L_7_32 _ 0 s3 p13 (by omega) (by omega) hI6 hF12 hT8 hE14 (by omega) (by omega) g18 L15 (yge_0 hT8 hE14) (Nat.lt_succ_self _)
set_option maxRecDepth 100000 in
set_option maxHeartbeats 4000000 in
theorem yc_X1_opens_o1 (l : Launch) (E : zEN) (σ : zSto) (hI : zInv σ) (f : Int → Int) (hT : yTk f σ) : zCt l E yX1_opens cX1_opens 2 (some .boolean) 1 zNC zNC 0 0 σ [.ref (E.1 + 33), .int (zI 1)] (fun r σ' => zInv σ' ∧ zOn zR1 σ σ' ∧ 1 ≤ r ∧ r ≤ 1 ∧ yTk f σ' ∧ ((yst σ') = yPx f (yst σ))) := by
  refine zCt_of2 [some (.ref (E.1 + 33)), some (.int (zI 1))] (by decide +kernel) (Nat.le_of_ble_eq_true rfl) rfl ?_
  intro X hE_ hX hR hL hN
  subst hE_
  have hX : zok X cX1_opens RX1 1 := hX
  have hF := zOn_rf zR1 σ
  have hE0 : yst σ = yst σ := rfl
  have L0 := yle_rf (yst σ)
  refine zt_iload_n (pc' := 1) hX dX1_opens_0 rfl rfl ?_
  refine zt_bipush (pc' := 3) hX dX1_opens_1 rfl (by decide) (by decide) ?_
  refine zt_iclt (pc' := 6) (tgt := 23) hX dX1_opens_3 rfl (by decide) ⟨by omega, by omega⟩ ⟨by omega, by omega⟩ (fun c1 => ?_) (fun c1 => ?_)
  · refine zt_aload_n (pc' := 24) hX dX1_opens_23 rfl rfl ?_
    refine zt_get (pc' := 27) (v := .ref (X.1.1 + 27)) hX dX1_opens_24 rfl zf_X1_15 (by decide) zc_33 zs_20 (zrf_of (zv_20_0 hI zc_33)) ?_
    refine zt_cVv (pc' := 30) hX dX1_opens_27 rfl zm_yX5_step zw_22_6 zc_27 (by decide) zs_14 (q := (RX5, TX5, 9)) rfl rfl (yc_X5_step _ _ σ hI f hT) rfl rfl (Nat.le_of_ble_eq_true rfl) (by decide) (fun r2 s3 hr4 hp5 => ?_)
    obtain ⟨hI6, hF7, hT8, z9⟩ := hp5
    have hE10 : yst s3 = yPx f (yst σ) := z9
    have hF11 := zOn_tr hF hF7 zi_id
    have L12 : yle (yst σ) (yPx f (yst σ)) := yle_tr L0 (yle_x hT hE0)
    refine zt_iconst (pc' := 31) hX dX1_opens_30 rfl ?_
    exact zt_zret hX hR dX1_opens_31 ⟨by omega, by omega⟩ ⟨hI6, hF11, by omega, by omega, hT8, hE10⟩
  · exact absurd c1 (by omega)
set_option maxRecDepth 100000 in
set_option maxHeartbeats 4000000 in
theorem yc_X1_pair_o1 (l : Launch) (E : zEN) (σ : zSto) (hI : zInv σ) (f : Int → Int) (hT : yTk f σ) (rl : Int) (hrl : σ 33 2 = rl) (k : List Nat) (hk : ydep k = 1) : zCt l E yX1_pair cX1_pair 2 none 22 zNC zNC 0 0 σ [.ref (E.1 + 33), .int (zI 1)] (fun r σ' => zInv σ' ∧ zOn zR2 σ σ' ∧ yTk f σ' ∧ (yJ rl f (3, k, (yst σ)) (2, k, (yst σ'))) ∧ (yle (yst σ) (yst σ'))) := by
  refine zCt_of2 [some (.ref (E.1 + 33)), some (.int (zI 1))] (by decide +kernel) (Nat.le_of_ble_eq_true rfl) rfl ?_
  intro X hE_ hX hR hL hN
  subst hE_
  have hX : zok X cX1_pair RX1 22 := hX
  have hF := zOn_rf zR2 σ
  have hE0 : yst σ = yst σ := rfl
  have L0 := yle_rf (yst σ)
  have b1 := zv_20_2 hI zc_33
  refine zt_aload_n (pc' := 1) hX dX1_pair_0 rfl rfl ?_
  refine zt_get (pc' := 4) (v := .ref (X.1.1 + 27)) hX dX1_pair_1 rfl zf_X1_15 (by decide) zc_33 zs_20 (zrf_of (zv_20_0 hI zc_33)) ?_
  refine zt_cVi (pc' := 7) hX dX1_pair_4 rfl zm_yX5_signHere zw_22_2 zc_27 (by decide) zs_14 (q := (RX5, TX5, 9)) rfl rfl (yc_X5_signHere _ _ σ hI f hT) rfl rfl (Nat.le_of_ble_eq_true rfl) (by decide) (fun r2 s3 hr4 hp5 => ?_)
  obtain ⟨rfl, q6, q7, z8⟩ := hp5
  refine zt_bipush (pc' := 9) hX dX1_pair_7 rfl (by decide) (by decide) ?_
  refine zt_iceq (pc' := 12) (tgt := 30) hX dX1_pair_9 rfl (by decide) ⟨by omega, by omega⟩ ⟨by omega, by omega⟩ (fun c9 => ?_) (fun c9 => ?_)
  · refine zt_aload_n (pc' := 31) hX dX1_pair_30 rfl rfl ?_
    refine zt_iload_n (pc' := 32) hX dX1_pair_31 rfl rfl ?_
    refine zt_cVz (pc' := 35) hX dX1_pair_32 rfl zm_yX1_opens zw_22_11 zc_33 (by decide) zs_20 (q := (RX1, TX1, 3)) rfl rfl (yc_X1_opens_o1 _ _ σ hI f hT) rfl rfl (Nat.le_of_ble_eq_true rfl) (by decide) (fun r10 s11 hr12 hp13 => ?_)
    obtain ⟨hI14, hF15, q16, q17, hT18, z19⟩ := hp13
    have hE20 : yst s11 = yPx f (yst σ) := z19
    have hF21 := zOn_tr hF hF15 zi_r12
    have L22 : yle (yst σ) (yPx f (yst σ)) := yle_tr L0 (yle_x hT hE0)
    have b23 := zv_20_2 hI14 zc_33
    have e24 := hF15 33 2 rfl
    refine zt_ifeq (pc' := 38) (tgt := 70) hX dX1_pair_35 rfl (by decide) ⟨by omega, by omega⟩ (fun c25 => ?_) (fun c25 => ?_)
    · exact absurd c25 (by omega)
    · refine zt_aload_n (pc' := 39) hX dX1_pair_38 rfl rfl ?_
      refine zt_iload_n (pc' := 40) hX dX1_pair_39 rfl rfl ?_
      refine zt_iconst (pc' := 41) hX dX1_pair_40 rfl ?_
      refine zt_iadd (pc' := 42) hX dX1_pair_41 rfl ?_
      rw [show (1 + 1 : Int) = 2 from rfl]
      refine zt_cVv (pc' := 45) hX dX1_pair_42 rfl zm_yX1_sum zw_21_19 zc_33 (by decide) zs_20 (q := (RX1, TX1, 3)) rfl rfl (yc_X1_sum_o2 _ _ s11 hI14 f hT18 rl (by omega) (2 :: k) (by show ydep k + 1 = _; omega) (Nat.ne_of_beq_eq_false rfl)) rfl rfl (Nat.le_of_ble_eq_true rfl) (by decide) (fun r26 s27 hr28 hp29 => ?_)
      obtain ⟨hI30, hF31, hT32, z33, z34, z35⟩ := hp29
      rw [hE20] at z33
      rw [hE20] at z34
      have hF36 := zOn_tr hF21 hF31 zi_id
      obtain ⟨p37, hE38⟩ : ∃ p, yst s27 = p := ⟨_, rfl⟩
      rw [hE38] at z33
      rw [hE38] at z34
      have L39 := yle_tr L22 z34
      rw [hE38] at z35
      have b40 := zv_20_2 hI30 zc_33
      have e41 := hF31 33 2 rfl
      refine zt_aload_n (pc' := 46) hX dX1_pair_45 rfl rfl ?_
      refine zt_get (pc' := 49) (v := .ref (X.1.1 + 27)) hX dX1_pair_46 rfl zf_X1_15 (by decide) zc_33 zs_20 (zrf_of (zv_20_0 hI30 zc_33)) ?_
      refine zt_bipush (pc' := 51) hX dX1_pair_49 rfl (by decide) (by decide) ?_
      refine zt_cVv (pc' := 54) hX dX1_pair_51 rfl zm_yX5_takeSign zw_22_15 zc_27 (by decide) zs_14 (q := (RX5, TX5, 9)) rfl rfl (yc_X5_takeSign _ _ s27 hI30 44 ⟨by omega, by omega⟩ f hT32) rfl rfl (Nat.le_of_ble_eq_true rfl) (by decide) (fun r42 s43 hr44 hp45 => ?_)
      obtain ⟨hI46, hF47, hT48, z49⟩ := hp45
      have hE50 : yst s43 = yPs f 44 p37 := by rw [z49, hE38]
      have hF51 := zOn_tr hF36 hF47 zi_r12
      have L52 : yle (yst σ) (yPs f 44 p37) := yle_tr L39 (yle_s hT32 hE38)
      have b53 := zv_20_2 hI46 zc_33
      have e54 := hF47 33 2 rfl
      refine zt_aload_n (pc' := 55) hX dX1_pair_54 rfl rfl ?_
      refine zt_iload_n (pc' := 56) hX dX1_pair_55 rfl rfl ?_
      refine zt_iconst (pc' := 57) hX dX1_pair_56 rfl ?_
      refine zt_iadd (pc' := 58) hX dX1_pair_57 rfl ?_
      rw [show (1 + 1 : Int) = 2 from rfl]
      refine zt_cVv (pc' := 61) hX dX1_pair_58 rfl zm_yX1_sum zw_21_19 zc_33 (by decide) zs_20 (q := (RX1, TX1, 3)) rfl rfl (yc_X1_sum_o2 _ _ s43 hI46 f hT48 rl (by omega) (3 :: k) (by show ydep k + 1 = _; omega) (Nat.ne_of_beq_eq_false rfl)) rfl rfl (Nat.le_of_ble_eq_true rfl) (by decide) (fun r55 s56 hr57 hp58 => ?_)
      obtain ⟨hI59, hF60, hT61, z62, z63, z64⟩ := hp58
      rw [hE50] at z62
      rw [hE50] at z63
      have hF65 := zOn_tr hF51 hF60 zi_id
      obtain ⟨p66, hE67⟩ : ∃ p, yst s56 = p := ⟨_, rfl⟩
      rw [hE67] at z62
      rw [hE67] at z63
      have L68 := yle_tr L52 z63
      rw [hE67] at z64
      have b69 := zv_20_2 hI59 zc_33
      have e70 := hF60 33 2 rfl
      refine zt_aload_n (pc' := 62) hX dX1_pair_61 rfl rfl ?_
      refine zt_get (pc' := 65) (v := .ref (X.1.1 + 27)) hX dX1_pair_62 rfl zf_X1_15 (by decide) zc_33 zs_20 (zrf_of (zv_20_0 hI59 zc_33)) ?_
      refine zt_bipush (pc' := 67) hX dX1_pair_65 rfl (by decide) (by decide) ?_
      refine zt_cVv (pc' := 70) hX dX1_pair_67 rfl zm_yX5_takeSign zw_22_15 zc_27 (by decide) zs_14 (q := (RX5, TX5, 9)) rfl rfl (yc_X5_takeSign _ _ s56 hI59 41 ⟨by omega, by omega⟩ f hT61) rfl rfl (Nat.le_of_ble_eq_true rfl) (by decide) (fun r71 s72 hr73 hp74 => ?_)
      obtain ⟨hI75, hF76, hT77, z78⟩ := hp74
      have hE79 : yst s72 = yPs f 41 p66 := by rw [z78, hE67]
      have hF80 := zOn_tr hF65 hF76 zi_r12
      have L81 : yle (yst σ) (yPs f 41 p66) := yle_tr L68 (yle_s hT61 hE67)
      have b82 := zv_20_2 hI75 zc_33
      have e83 := hF76 33 2 rfl
      exact zt_vret hX hR dX1_pair_70 ⟨hI75, hF80, hT77, (by rw [hE79]; exact yJ_tr (yJ_pr (by omega) (by omega)) (yJ_tr z33 (yJ_tr (yJ_cm z35) (yJ_tr z62 (yJ_cl (Or.inr rfl) z64))))), (by rw [hE79]; exact L81)⟩
  · refine zt_aload_n (pc' := 13) hX dX1_pair_12 rfl rfl ?_
    refine zt_get (pc' := 16) (v := .ref (X.1.1 + 27)) hX dX1_pair_13 rfl zf_X1_15 (by decide) zc_33 zs_20 (zrf_of (zv_20_0 hI zc_33)) ?_
    refine zt_iconst (pc' := 17) hX dX1_pair_16 rfl ?_
    refine zt_aload_n (pc' := 18) hX dX1_pair_17 rfl rfl ?_
    refine zt_get (pc' := 21) (v := .ref (X.1.1 + 27)) hX dX1_pair_18 rfl zf_X1_15 (by decide) zc_33 zs_20 (zrf_of (zv_20_0 hI zc_33)) ?_
    refine zt_cVi (pc' := 24) hX dX1_pair_21 rfl zm_yX5_placeHere zw_22_9 zc_27 (by decide) zs_14 (q := (RX5, TX5, 9)) rfl rfl (yc_X5_placeHere _ _ σ hI f hT) rfl rfl (Nat.le_of_ble_eq_true rfl) (by decide) (fun r84 s85 hr86 hp87 => ?_)
    obtain ⟨rfl, q88, q89, z90⟩ := hp87
    refine zt_cVv (pc' := 27) hX dX1_pair_24 rfl zm_yX5_refuse zw_22_10 zc_27 (by decide) zs_14 (q := (RX5, TX5, 9)) rfl rfl (yc_X5_refuse _ _ σ hI 1 ⟨by omega, by omega⟩ r84 ⟨by omega, by omega⟩ (by omega) f hT) rfl rfl (Nat.le_of_ble_eq_true rfl) (by decide) (fun r91 s92 hr93 hp94 => ?_)
    obtain ⟨hI95, hF96, hT97, z98⟩ := hp94
    have hE99 : yst s92 = yPno 1 r84 (yst σ) := z98
    have hF100 := zOn_tr hF hF96 zi_r12
    have L101 : yle (yst σ) (yPno 1 r84 (yst σ)) := yle_tr L0 yle_no
    have b102 := zv_20_2 hI95 zc_33
    have e103 := hF96 33 2 rfl
    refine zt_goto (tgt := 70) hX dX1_pair_27 (by decide) ?_
    exact zt_vret hX hR dX1_pair_70 ⟨hI95, hF100, hT97, (by rw [hE99, yPno_f (p := r84) (d := 0) (fun o => by omega)]; exact yJ_prn (by omega)), (by rw [hE99]; exact L101)⟩
set_option maxRecDepth 100000 in
set_option maxHeartbeats 4000000 in
theorem yc_X1_part_o1 (l : Launch) (E : zEN) (σ : zSto) (hI : zInv σ) (f : Int → Int) (hT : yTk f σ) (rl : Int) (hrl : σ 33 2 = rl) (k : List Nat) (hk : ydep k = 1) : zCt l E yX1_part cX1_part 4 none 23 zNC zNC 0 0 σ [.ref (E.1 + 33), .int (zI 1)] (fun r σ' => zInv σ' ∧ zOn zR2 σ σ' ∧ yTk f σ' ∧ (yJ rl f (1, k, (yst σ)) (2, k, (yst σ'))) ∧ (yle (yst σ) (yst σ'))) := by
  refine zCt_of2 [some (.ref (E.1 + 33)), some (.int (zI 1)), none, none] (by decide +kernel) (Nat.le_of_ble_eq_true rfl) rfl ?_
  intro X hE_ hX hR hL hN
  subst hE_
  have hX : zok X cX1_part RX1 23 := hX
  have hF := zOn_rf zR2 σ
  have hE0 : yst σ = yst σ := rfl
  have L0 := yle_rf (yst σ)
  have b1 := zv_20_2 hI zc_33
  refine zt_aload_n (pc' := 1) hX dX1_part_0 rfl rfl ?_
  refine zt_get (pc' := 4) (v := .ref (X.1.1 + 27)) hX dX1_part_1 rfl zf_X1_15 (by decide) zc_33 zs_20 (zrf_of (zv_20_0 hI zc_33)) ?_
  refine zt_cVi (pc' := 7) hX dX1_part_4 rfl zm_yX5_wordHere zw_22_21 zc_27 (by decide) zs_14 (q := (RX5, TX5, 9)) rfl rfl (yc_X5_wordHere _ _ σ hI f hT) rfl rfl (Nat.le_of_ble_eq_true rfl) (by decide) (fun r2 s3 hr4 hp5 => ?_)
  obtain ⟨rfl, q6, q7, z8⟩ := hp5
  refine zt_istore_n (pc' := 8) (lv' := [some (.ref (X.1.1 + 33)), some (.int (zI 1)), some (.int (zI r2)), none]) hX dX1_part_7 rfl hL (by decide) rfl ?_
  refine zt_aload_n (pc' := 9) hX dX1_part_8 rfl rfl ?_
  refine zt_get (pc' := 12) (v := .ref (X.1.1 + 27)) hX dX1_part_9 rfl zf_X1_15 (by decide) zc_33 zs_20 (zrf_of (zv_20_0 hI zc_33)) ?_
  refine zt_cVi (pc' := 15) hX dX1_part_12 rfl zm_yX5_kindHere zw_22_22 zc_27 (by decide) zs_14 (q := (RX5, TX5, 9)) rfl rfl (yc_X5_kindHere _ _ σ hI f hT) rfl rfl (Nat.le_of_ble_eq_true rfl) (by decide) (fun r9 s10 hr11 hp12 => ?_)
  obtain ⟨rfl, q13, q14, z15⟩ := hp12
  refine zt_istore_n (pc' := 16) (lv' := [some (.ref (X.1.1 + 33)), some (.int (zI 1)), some (.int (zI r2)), some (.int (zI r9))]) hX dX1_part_15 rfl hL (by decide) rfl ?_
  refine zt_iload_n (pc' := 17) hX dX1_part_16 rfl rfl ?_
  refine zt_iconst (pc' := 18) hX dX1_part_17 rfl ?_
  refine zt_iceq (pc' := 21) (tgt := 26) hX dX1_part_18 rfl (by decide) ⟨by omega, by omega⟩ ⟨by omega, by omega⟩ (fun c16 => ?_) (fun c16 => ?_)
  · refine zt_aload_n (pc' := 27) hX dX1_part_26 rfl rfl ?_
    obtain ⟨k17, ek18, hk19⟩ := zv_20_1 hI zc_33
    refine zt_get (pc' := 30) (v := .ref (X.1.1 + k17)) hX dX1_part_27 rfl zf_X1_19 (by decide) zc_33 zs_20 (zrf_of ek18) ?_
    refine zt_aload_n (pc' := 31) hX dX1_part_30 rfl rfl ?_
    refine zt_get (pc' := 34) (v := .ref (X.1.1 + 27)) hX dX1_part_31 rfl zf_X1_15 (by decide) zc_33 zs_20 (zrf_of (zv_20_0 hI zc_33)) ?_
    refine zt_iconst (pc' := 35) hX dX1_part_34 rfl ?_
    refine zt_sipush (pc' := 38) hX dX1_part_35 rfl (by decide) (by decide) ?_
    refine zt_cVi (pc' := 41) hX dX1_part_38 rfl zm_yX5_takeNumber zw_22_23 zc_27 (by decide) zs_14 (q := (RX5, TX5, 9)) rfl rfl (yc_X5_takeNumber _ _ σ hI 0 ⟨by omega, by omega⟩ 9999 ⟨by omega, by omega⟩ f hT) rfl rfl (Nat.le_of_ble_eq_true rfl) (by decide) (fun r20 s21 hr22 hp23 => ?_)
    obtain ⟨hI24, hF25, q26, q27, hT28, z29, z30, z31⟩ := hp23
    have hE32 : yst s21 = yPn f 0 9999 (yst σ) := z29
    have hF33 := zOn_tr hF hF25 zi_r12
    rw [hE32] at z30
    have L34 : yle (yst σ) (yPn f 0 9999 (yst σ)) := yle_tr L0 (yle_n hT hE0)
    have b35 := zv_20_2 hI24 zc_33
    have e36 := hF25 33 2 rfl
    refine zt_cVv (pc' := 44) hX dX1_part_41 rfl zm_yX4_addNumber zw_23_0 hk19 (by decide) zs_6 (q := (RX4, TX4, 2)) rfl rfl (yc_X4_addNumber _ _ s21 hI24 k17 hk19 r20 ⟨by omega, by omega⟩) rfl rfl (Nat.le_of_ble_eq_true rfl) (by decide) (fun r37 s38 hr39 hp40 => ?_)
    obtain ⟨hI41, hF42⟩ := hp40
    have hF43 := zOn_tr hF33 hF42 zi_rp2
    have hT44 := yTk_rk hT28 (yRk_p hF42)
    have hE45 : yst s38 = yPn f 0 9999 (yst σ) := (yst_rk (yRk_p hF42)).trans hE32
    have b46 := zv_20_2 hI41 zc_33
    have e47 := hF42 33 2 rfl
    refine zt_goto (tgt := 203) hX dX1_part_44 (by decide) ?_
    exact zt_vret hX hR dX1_part_203 ⟨hI41, hF43, hT44, (by rw [hE45]; exact yJ_num (by omega)), (by rw [hE45]; exact L34)⟩
  · refine zt_iload_n (pc' := 22) hX dX1_part_21 rfl rfl ?_
    refine zt_iconst (pc' := 23) hX dX1_part_22 rfl ?_
    refine zt_icne (pc' := 26) (tgt := 47) hX dX1_part_23 rfl (by decide) ⟨by omega, by omega⟩ ⟨by omega, by omega⟩ (fun c48 => ?_) (fun c48 => ?_)
    · refine zt_aload_n (pc' := 48) hX dX1_part_47 rfl rfl ?_
      refine zt_get (pc' := 51) (v := .ref (X.1.1 + 27)) hX dX1_part_48 rfl zf_X1_15 (by decide) zc_33 zs_20 (zrf_of (zv_20_0 hI zc_33)) ?_
      refine zt_cVi (pc' := 54) hX dX1_part_51 rfl zm_yX5_signHere zw_22_2 zc_27 (by decide) zs_14 (q := (RX5, TX5, 9)) rfl rfl (yc_X5_signHere _ _ σ hI f hT) rfl rfl (Nat.le_of_ble_eq_true rfl) (by decide) (fun r49 s50 hr51 hp52 => ?_)
      obtain ⟨rfl, q53, q54, z55⟩ := hp52
      refine zt_bipush (pc' := 56) hX dX1_part_54 rfl (by decide) (by decide) ?_
      refine zt_icne (pc' := 59) (tgt := 86) hX dX1_part_56 rfl (by decide) ⟨by omega, by omega⟩ ⟨by omega, by omega⟩ (fun c56 => ?_) (fun c56 => ?_)
      · refine zt_iload_n (pc' := 87) hX dX1_part_86 rfl rfl ?_
        refine zt_bipush (pc' := 89) hX dX1_part_87 rfl (by decide) (by decide) ?_
        refine zt_iceq (pc' := 92) (tgt := 98) hX dX1_part_89 rfl (by decide) ⟨by omega, by omega⟩ ⟨by omega, by omega⟩ (fun c57 => ?_) (fun c57 => ?_)
        · refine zt_aload_n (pc' := 99) hX dX1_part_98 rfl rfl ?_
          refine zt_get (pc' := 102) (v := .ref (X.1.1 + 27)) hX dX1_part_99 rfl zf_X1_15 (by decide) zc_33 zs_20 (zrf_of (zv_20_0 hI zc_33)) ?_
          refine zt_cVv (pc' := 105) hX dX1_part_102 rfl zm_yX5_step zw_22_6 zc_27 (by decide) zs_14 (q := (RX5, TX5, 9)) rfl rfl (yc_X5_step _ _ σ hI f hT) rfl rfl (Nat.le_of_ble_eq_true rfl) (by decide) (fun r58 s59 hr60 hp61 => ?_)
          obtain ⟨hI62, hF63, hT64, z65⟩ := hp61
          have hE66 : yst s59 = yPx f (yst σ) := z65
          have hF67 := zOn_tr hF hF63 zi_r12
          have L68 : yle (yst σ) (yPx f (yst σ)) := yle_tr L0 (yle_x hT hE0)
          have b69 := zv_20_2 hI62 zc_33
          have e70 := hF63 33 2 rfl
          refine zt_aload_n (pc' := 106) hX dX1_part_105 rfl rfl ?_
          refine zt_iload_n (pc' := 107) hX dX1_part_106 rfl rfl ?_
          refine zt_cVv (pc' := 110) hX dX1_part_107 rfl zm_yX1_pair zw_23_1 zc_33 (by decide) zs_20 (q := (RX1, TX1, 3)) rfl rfl (yc_X1_pair_o1 _ _ s59 hI62 f hT64 rl (by omega) k hk) rfl rfl (Nat.le_of_ble_eq_true rfl) (by decide) (fun r71 s72 hr73 hp74 => ?_)
          obtain ⟨hI75, hF76, hT77, z78, z79⟩ := hp74
          rw [hE66] at z78
          rw [hE66] at z79
          have hF80 := zOn_tr hF67 hF76 zi_id
          obtain ⟨p81, hE82⟩ : ∃ p, yst s72 = p := ⟨_, rfl⟩
          rw [hE82] at z78
          rw [hE82] at z79
          have L83 := yle_tr L68 z79
          have b84 := zv_20_2 hI75 zc_33
          have e85 := hF76 33 2 rfl
          refine zt_aload_n (pc' := 111) hX dX1_part_110 rfl rfl ?_
          obtain ⟨k86, ek87, hk88⟩ := zv_20_1 hI75 zc_33
          refine zt_get (pc' := 114) (v := .ref (X.1.1 + k86)) hX dX1_part_111 rfl zf_X1_19 (by decide) zc_33 zs_20 (zrf_of ek87) ?_
          refine zt_iload_n (pc' := 115) hX dX1_part_114 rfl rfl ?_
          refine zt_cVv (pc' := 118) hX dX1_part_115 rfl zm_yX4_addStep zw_22_7 hk88 (by decide) zs_6 (q := (RX4, TX4, 2)) rfl rfl (yc_X4_addStep _ _ s72 hI75 k86 hk88 r2 ⟨by omega, by omega⟩) rfl rfl (Nat.le_of_ble_eq_true rfl) (by decide) (fun r89 s90 hr91 hp92 => ?_)
          obtain ⟨hI93, hF94⟩ := hp92
          have hF95 := zOn_tr hF80 hF94 zi_rp2
          have hT96 := yTk_rk hT77 (yRk_p hF94)
          have hE97 : yst s90 = p81 := (yst_rk (yRk_p hF94)).trans hE82
          have b98 := zv_20_2 hI93 zc_33
          have e99 := hF94 33 2 rfl
          refine zt_goto (tgt := 203) hX dX1_part_118 (by decide) ?_
          exact zt_vret hX hR dX1_part_203 ⟨hI93, hF95, hT96, (by rw [hE97]; exact yJ_tr (yJ_mm (by omega)) z78), (by rw [hE97]; exact L83)⟩
        · refine zt_iload_n (pc' := 93) hX dX1_part_92 rfl rfl ?_
          refine zt_bipush (pc' := 95) hX dX1_part_93 rfl (by decide) (by decide) ?_
          refine zt_icne (pc' := 98) (tgt := 121) hX dX1_part_95 rfl (by decide) ⟨by omega, by omega⟩ ⟨by omega, by omega⟩ (fun c100 => ?_) (fun c100 => ?_)
          · refine zt_iload_n (pc' := 122) hX dX1_part_121 rfl rfl ?_
            refine zt_bipush (pc' := 124) hX dX1_part_122 rfl (by decide) (by decide) ?_
            refine zt_icne (pc' := 127) (tgt := 162) hX dX1_part_124 rfl (by decide) ⟨by omega, by omega⟩ ⟨by omega, by omega⟩ (fun c101 => ?_) (fun c101 => ?_)
            · refine zt_aload_n (pc' := 163) hX dX1_part_162 rfl rfl ?_
              refine zt_iload_n (pc' := 164) hX dX1_part_163 rfl rfl ?_
              refine zt_cVz (pc' := 167) hX dX1_part_164 rfl zm_yX1_isValue zw_23_7 zc_33 (by decide) zs_20 (q := (RX1, TX1, 3)) rfl rfl (yc_X1_isValue _ _ σ hI r2 ⟨by omega, by omega⟩) rfl rfl (Nat.le_of_ble_eq_true rfl) (by decide) (fun r102 s103 hr104 hp105 => ?_)
              obtain ⟨rfl, q106, q107, z108⟩ := hp105
              rw [hrl, z8] at z108
              refine zt_ifeq (pc' := 170) (tgt := 188) hX dX1_part_167 rfl (by decide) ⟨by omega, by omega⟩ (fun c109 => ?_) (fun c109 => ?_)
              · refine zt_aload_n (pc' := 189) hX dX1_part_188 rfl rfl ?_
                refine zt_get (pc' := 192) (v := .ref (X.1.1 + 27)) hX dX1_part_189 rfl zf_X1_15 (by decide) zc_33 zs_20 (zrf_of (zv_20_0 hI zc_33)) ?_
                refine zt_iconst (pc' := 193) hX dX1_part_192 rfl ?_
                refine zt_aload_n (pc' := 194) hX dX1_part_193 rfl rfl ?_
                refine zt_get (pc' := 197) (v := .ref (X.1.1 + 27)) hX dX1_part_194 rfl zf_X1_15 (by decide) zc_33 zs_20 (zrf_of (zv_20_0 hI zc_33)) ?_
                refine zt_cVi (pc' := 200) hX dX1_part_197 rfl zm_yX5_placeHere zw_22_9 zc_27 (by decide) zs_14 (q := (RX5, TX5, 9)) rfl rfl (yc_X5_placeHere _ _ σ hI f hT) rfl rfl (Nat.le_of_ble_eq_true rfl) (by decide) (fun r110 s111 hr112 hp113 => ?_)
                obtain ⟨rfl, q114, q115, z116⟩ := hp113
                refine zt_cVv (pc' := 203) hX dX1_part_200 rfl zm_yX5_refuse zw_22_10 zc_27 (by decide) zs_14 (q := (RX5, TX5, 9)) rfl rfl (yc_X5_refuse _ _ σ hI 1 ⟨by omega, by omega⟩ r110 ⟨by omega, by omega⟩ (by omega) f hT) rfl rfl (Nat.le_of_ble_eq_true rfl) (by decide) (fun r117 s118 hr119 hp120 => ?_)
                obtain ⟨hI121, hF122, hT123, z124⟩ := hp120
                have hE125 : yst s118 = yPno 1 r110 (yst σ) := z124
                have hF126 := zOn_tr hF hF122 zi_r12
                have L127 : yle (yst σ) (yPno 1 r110 (yst σ)) := yle_tr L0 yle_no
                have b128 := zv_20_2 hI121 zc_33
                have e129 := hF122 33 2 rfl
                exact zt_vret hX hR dX1_part_203 ⟨hI121, hF126, hT123, (by rw [hE125, yPno_f (p := r110) (d := 0) (fun o => by omega)]; exact yJ_bad (by omega) (by omega) (by omega) (by omega) (yVi_0 (by omega))), (by rw [hE125]; exact L127)⟩
              · refine zt_aload_n (pc' := 171) hX dX1_part_170 rfl rfl ?_
                refine zt_get (pc' := 174) (v := .ref (X.1.1 + 27)) hX dX1_part_171 rfl zf_X1_15 (by decide) zc_33 zs_20 (zrf_of (zv_20_0 hI zc_33)) ?_
                refine zt_cVv (pc' := 177) hX dX1_part_174 rfl zm_yX5_step zw_22_6 zc_27 (by decide) zs_14 (q := (RX5, TX5, 9)) rfl rfl (yc_X5_step _ _ σ hI f hT) rfl rfl (Nat.le_of_ble_eq_true rfl) (by decide) (fun r130 s131 hr132 hp133 => ?_)
                obtain ⟨hI134, hF135, hT136, z137⟩ := hp133
                have hE138 : yst s131 = yPx f (yst σ) := z137
                have hF139 := zOn_tr hF hF135 zi_r12
                have L140 : yle (yst σ) (yPx f (yst σ)) := yle_tr L0 (yle_x hT hE0)
                have b141 := zv_20_2 hI134 zc_33
                have e142 := hF135 33 2 rfl
                refine zt_aload_n (pc' := 178) hX dX1_part_177 rfl rfl ?_
                obtain ⟨k143, ek144, hk145⟩ := zv_20_1 hI134 zc_33
                refine zt_get (pc' := 181) (v := .ref (X.1.1 + k143)) hX dX1_part_178 rfl zf_X1_19 (by decide) zc_33 zs_20 (zrf_of ek144) ?_
                refine zt_iload_n (pc' := 182) hX dX1_part_181 rfl rfl ?_
                refine zt_cVv (pc' := 185) hX dX1_part_182 rfl zm_yX4_addStep zw_22_7 hk145 (by decide) zs_6 (q := (RX4, TX4, 2)) rfl rfl (yc_X4_addStep _ _ s131 hI134 k143 hk145 r2 ⟨by omega, by omega⟩) rfl rfl (Nat.le_of_ble_eq_true rfl) (by decide) (fun r146 s147 hr148 hp149 => ?_)
                obtain ⟨hI150, hF151⟩ := hp149
                have hF152 := zOn_tr hF139 hF151 zi_rp2
                have hT153 := yTk_rk hT136 (yRk_p hF151)
                have hE154 : yst s147 = yPx f (yst σ) := (yst_rk (yRk_p hF151)).trans hE138
                have b155 := zv_20_2 hI150 zc_33
                have e156 := hF151 33 2 rfl
                refine zt_goto (tgt := 203) hX dX1_part_185 (by decide) ?_
                exact zt_vret hX hR dX1_part_203 ⟨hI150, hF152, hT153, (by rw [hE154]; exact yJ_val (yVi_1 (by omega))), (by rw [hE154]; exact L140)⟩
            · refine zt_aload_n (pc' := 128) hX dX1_part_127 rfl rfl ?_
              have b157 := zv_20_2 hI zc_33
              refine zt_get (pc' := 131) (v := .int (zI (σ 33 2))) hX dX1_part_128 rfl zf_X1_9 (by decide) zc_33 zs_20 rfl ?_
              refine zt_iconst (pc' := 132) hX dX1_part_131 rfl ?_
              refine zt_icne (pc' := 135) (tgt := 162) hX dX1_part_132 rfl (by decide) ⟨by omega, by omega⟩ ⟨by omega, by omega⟩ (fun c158 => ?_) (fun c158 => ?_)
              · refine zt_aload_n (pc' := 163) hX dX1_part_162 rfl rfl ?_
                refine zt_iload_n (pc' := 164) hX dX1_part_163 rfl rfl ?_
                refine zt_cVz (pc' := 167) hX dX1_part_164 rfl zm_yX1_isValue zw_23_7 zc_33 (by decide) zs_20 (q := (RX1, TX1, 3)) rfl rfl (yc_X1_isValue _ _ σ hI r2 ⟨by omega, by omega⟩) rfl rfl (Nat.le_of_ble_eq_true rfl) (by decide) (fun r159 s160 hr161 hp162 => ?_)
                obtain ⟨rfl, q163, q164, z165⟩ := hp162
                rw [hrl, z8] at z165
                refine zt_ifeq (pc' := 170) (tgt := 188) hX dX1_part_167 rfl (by decide) ⟨by omega, by omega⟩ (fun c166 => ?_) (fun c166 => ?_)
                · refine zt_aload_n (pc' := 189) hX dX1_part_188 rfl rfl ?_
                  refine zt_get (pc' := 192) (v := .ref (X.1.1 + 27)) hX dX1_part_189 rfl zf_X1_15 (by decide) zc_33 zs_20 (zrf_of (zv_20_0 hI zc_33)) ?_
                  refine zt_iconst (pc' := 193) hX dX1_part_192 rfl ?_
                  refine zt_aload_n (pc' := 194) hX dX1_part_193 rfl rfl ?_
                  refine zt_get (pc' := 197) (v := .ref (X.1.1 + 27)) hX dX1_part_194 rfl zf_X1_15 (by decide) zc_33 zs_20 (zrf_of (zv_20_0 hI zc_33)) ?_
                  refine zt_cVi (pc' := 200) hX dX1_part_197 rfl zm_yX5_placeHere zw_22_9 zc_27 (by decide) zs_14 (q := (RX5, TX5, 9)) rfl rfl (yc_X5_placeHere _ _ σ hI f hT) rfl rfl (Nat.le_of_ble_eq_true rfl) (by decide) (fun r167 s168 hr169 hp170 => ?_)
                  obtain ⟨rfl, q171, q172, z173⟩ := hp170
                  refine zt_cVv (pc' := 203) hX dX1_part_200 rfl zm_yX5_refuse zw_22_10 zc_27 (by decide) zs_14 (q := (RX5, TX5, 9)) rfl rfl (yc_X5_refuse _ _ σ hI 1 ⟨by omega, by omega⟩ r167 ⟨by omega, by omega⟩ (by omega) f hT) rfl rfl (Nat.le_of_ble_eq_true rfl) (by decide) (fun r174 s175 hr176 hp177 => ?_)
                  obtain ⟨hI178, hF179, hT180, z181⟩ := hp177
                  have hE182 : yst s175 = yPno 1 r167 (yst σ) := z181
                  have hF183 := zOn_tr hF hF179 zi_r12
                  have L184 : yle (yst σ) (yPno 1 r167 (yst σ)) := yle_tr L0 yle_no
                  have b185 := zv_20_2 hI178 zc_33
                  have e186 := hF179 33 2 rfl
                  exact zt_vret hX hR dX1_part_203 ⟨hI178, hF183, hT180, (by rw [hE182, yPno_f (p := r167) (d := 0) (fun o => by omega)]; exact yJ_bad (by omega) (by omega) (by omega) (by omega) (yVi_0 (by omega))), (by rw [hE182]; exact L184)⟩
                · refine zt_aload_n (pc' := 171) hX dX1_part_170 rfl rfl ?_
                  refine zt_get (pc' := 174) (v := .ref (X.1.1 + 27)) hX dX1_part_171 rfl zf_X1_15 (by decide) zc_33 zs_20 (zrf_of (zv_20_0 hI zc_33)) ?_
                  refine zt_cVv (pc' := 177) hX dX1_part_174 rfl zm_yX5_step zw_22_6 zc_27 (by decide) zs_14 (q := (RX5, TX5, 9)) rfl rfl (yc_X5_step _ _ σ hI f hT) rfl rfl (Nat.le_of_ble_eq_true rfl) (by decide) (fun r187 s188 hr189 hp190 => ?_)
                  obtain ⟨hI191, hF192, hT193, z194⟩ := hp190
                  have hE195 : yst s188 = yPx f (yst σ) := z194
                  have hF196 := zOn_tr hF hF192 zi_r12
                  have L197 : yle (yst σ) (yPx f (yst σ)) := yle_tr L0 (yle_x hT hE0)
                  have b198 := zv_20_2 hI191 zc_33
                  have e199 := hF192 33 2 rfl
                  refine zt_aload_n (pc' := 178) hX dX1_part_177 rfl rfl ?_
                  obtain ⟨k200, ek201, hk202⟩ := zv_20_1 hI191 zc_33
                  refine zt_get (pc' := 181) (v := .ref (X.1.1 + k200)) hX dX1_part_178 rfl zf_X1_19 (by decide) zc_33 zs_20 (zrf_of ek201) ?_
                  refine zt_iload_n (pc' := 182) hX dX1_part_181 rfl rfl ?_
                  refine zt_cVv (pc' := 185) hX dX1_part_182 rfl zm_yX4_addStep zw_22_7 hk202 (by decide) zs_6 (q := (RX4, TX4, 2)) rfl rfl (yc_X4_addStep _ _ s188 hI191 k200 hk202 r2 ⟨by omega, by omega⟩) rfl rfl (Nat.le_of_ble_eq_true rfl) (by decide) (fun r203 s204 hr205 hp206 => ?_)
                  obtain ⟨hI207, hF208⟩ := hp206
                  have hF209 := zOn_tr hF196 hF208 zi_rp2
                  have hT210 := yTk_rk hT193 (yRk_p hF208)
                  have hE211 : yst s204 = yPx f (yst σ) := (yst_rk (yRk_p hF208)).trans hE195
                  have b212 := zv_20_2 hI207 zc_33
                  have e213 := hF208 33 2 rfl
                  refine zt_goto (tgt := 203) hX dX1_part_185 (by decide) ?_
                  exact zt_vret hX hR dX1_part_203 ⟨hI207, hF209, hT210, (by rw [hE211]; exact yJ_val (yVi_1 (by omega))), (by rw [hE211]; exact L197)⟩
              · refine zt_aload_n (pc' := 136) hX dX1_part_135 rfl rfl ?_
                refine zt_iload_n (pc' := 137) hX dX1_part_136 rfl rfl ?_
                refine zt_cVz (pc' := 140) hX dX1_part_137 rfl zm_yX1_opens zw_22_11 zc_33 (by decide) zs_20 (q := (RX1, TX1, 3)) rfl rfl (yc_X1_opens_o1 _ _ σ hI f hT) rfl rfl (Nat.le_of_ble_eq_true rfl) (by decide) (fun r214 s215 hr216 hp217 => ?_)
                obtain ⟨hI218, hF219, q220, q221, hT222, z223⟩ := hp217
                have hE224 : yst s215 = yPx f (yst σ) := z223
                have hF225 := zOn_tr hF hF219 zi_r12
                have L226 : yle (yst σ) (yPx f (yst σ)) := yle_tr L0 (yle_x hT hE0)
                have b227 := zv_20_2 hI218 zc_33
                have e228 := hF219 33 2 rfl
                refine zt_ifeq (pc' := 143) (tgt := 203) hX dX1_part_140 rfl (by decide) ⟨by omega, by omega⟩ (fun c229 => ?_) (fun c229 => ?_)
                · exact absurd c229 (by omega)
                · refine zt_aload_n (pc' := 144) hX dX1_part_143 rfl rfl ?_
                  refine zt_iload_n (pc' := 145) hX dX1_part_144 rfl rfl ?_
                  refine zt_iconst (pc' := 146) hX dX1_part_145 rfl ?_
                  refine zt_iadd (pc' := 147) hX dX1_part_146 rfl ?_
                  rw [show (1 + 1 : Int) = 2 from rfl]
                  refine zt_cVv (pc' := 150) hX dX1_part_147 rfl zm_yX1_part zw_23_4 zc_33 (by decide) zs_20 (q := (RX1, TX1, 3)) rfl rfl (yc_X1_part_o2 _ _ s215 hI218 f hT222 rl (by omega) (4 :: k) (by show ydep k + 1 = _; omega)) rfl rfl (Nat.le_of_ble_eq_true rfl) (by decide) (fun r230 s231 hr232 hp233 => ?_)
                  obtain ⟨hI234, hF235, hT236, z237, z238⟩ := hp233
                  rw [hE224] at z237
                  rw [hE224] at z238
                  have hF239 := zOn_tr hF225 hF235 zi_id
                  obtain ⟨p240, hE241⟩ : ∃ p, yst s231 = p := ⟨_, rfl⟩
                  rw [hE241] at z237
                  rw [hE241] at z238
                  have L242 := yle_tr L226 z238
                  have b243 := zv_20_2 hI234 zc_33
                  have e244 := hF235 33 2 rfl
                  refine zt_aload_n (pc' := 151) hX dX1_part_150 rfl rfl ?_
                  obtain ⟨k245, ek246, hk247⟩ := zv_20_1 hI234 zc_33
                  refine zt_get (pc' := 154) (v := .ref (X.1.1 + k245)) hX dX1_part_151 rfl zf_X1_19 (by decide) zc_33 zs_20 (zrf_of ek246) ?_
                  refine zt_bipush (pc' := 156) hX dX1_part_154 rfl (by decide) (by decide) ?_
                  refine zt_cVv (pc' := 159) hX dX1_part_156 rfl zm_yX4_addStep zw_22_7 hk247 (by decide) zs_6 (q := (RX4, TX4, 2)) rfl rfl (yc_X4_addStep _ _ s231 hI234 k245 hk247 20 ⟨by omega, by omega⟩) rfl rfl (Nat.le_of_ble_eq_true rfl) (by decide) (fun r248 s249 hr250 hp251 => ?_)
                  obtain ⟨hI252, hF253⟩ := hp251
                  have hF254 := zOn_tr hF239 hF253 zi_rp2
                  have hT255 := yTk_rk hT236 (yRk_p hF253)
                  have hE256 : yst s249 = p240 := (yst_rk (yRk_p hF253)).trans hE241
                  have b257 := zv_20_2 hI252 zc_33
                  have e258 := hF253 33 2 rfl
                  refine zt_goto (tgt := 203) hX dX1_part_159 (by decide) ?_
                  exact zt_vret hX hR dX1_part_203 ⟨hI252, hF254, hT255, (by rw [hE256]; exact yJ_tr (yJ_far (by omega) (by omega) (by omega)) (yJ_tr z237 yJ_of)), (by rw [hE256]; exact L242)⟩
          · refine zt_aload_n (pc' := 99) hX dX1_part_98 rfl rfl ?_
            refine zt_get (pc' := 102) (v := .ref (X.1.1 + 27)) hX dX1_part_99 rfl zf_X1_15 (by decide) zc_33 zs_20 (zrf_of (zv_20_0 hI zc_33)) ?_
            refine zt_cVv (pc' := 105) hX dX1_part_102 rfl zm_yX5_step zw_22_6 zc_27 (by decide) zs_14 (q := (RX5, TX5, 9)) rfl rfl (yc_X5_step _ _ σ hI f hT) rfl rfl (Nat.le_of_ble_eq_true rfl) (by decide) (fun r259 s260 hr261 hp262 => ?_)
            obtain ⟨hI263, hF264, hT265, z266⟩ := hp262
            have hE267 : yst s260 = yPx f (yst σ) := z266
            have hF268 := zOn_tr hF hF264 zi_r12
            have L269 : yle (yst σ) (yPx f (yst σ)) := yle_tr L0 (yle_x hT hE0)
            have b270 := zv_20_2 hI263 zc_33
            have e271 := hF264 33 2 rfl
            refine zt_aload_n (pc' := 106) hX dX1_part_105 rfl rfl ?_
            refine zt_iload_n (pc' := 107) hX dX1_part_106 rfl rfl ?_
            refine zt_cVv (pc' := 110) hX dX1_part_107 rfl zm_yX1_pair zw_23_1 zc_33 (by decide) zs_20 (q := (RX1, TX1, 3)) rfl rfl (yc_X1_pair_o1 _ _ s260 hI263 f hT265 rl (by omega) k hk) rfl rfl (Nat.le_of_ble_eq_true rfl) (by decide) (fun r272 s273 hr274 hp275 => ?_)
            obtain ⟨hI276, hF277, hT278, z279, z280⟩ := hp275
            rw [hE267] at z279
            rw [hE267] at z280
            have hF281 := zOn_tr hF268 hF277 zi_id
            obtain ⟨p282, hE283⟩ : ∃ p, yst s273 = p := ⟨_, rfl⟩
            rw [hE283] at z279
            rw [hE283] at z280
            have L284 := yle_tr L269 z280
            have b285 := zv_20_2 hI276 zc_33
            have e286 := hF277 33 2 rfl
            refine zt_aload_n (pc' := 111) hX dX1_part_110 rfl rfl ?_
            obtain ⟨k287, ek288, hk289⟩ := zv_20_1 hI276 zc_33
            refine zt_get (pc' := 114) (v := .ref (X.1.1 + k287)) hX dX1_part_111 rfl zf_X1_19 (by decide) zc_33 zs_20 (zrf_of ek288) ?_
            refine zt_iload_n (pc' := 115) hX dX1_part_114 rfl rfl ?_
            refine zt_cVv (pc' := 118) hX dX1_part_115 rfl zm_yX4_addStep zw_22_7 hk289 (by decide) zs_6 (q := (RX4, TX4, 2)) rfl rfl (yc_X4_addStep _ _ s273 hI276 k287 hk289 r2 ⟨by omega, by omega⟩) rfl rfl (Nat.le_of_ble_eq_true rfl) (by decide) (fun r290 s291 hr292 hp293 => ?_)
            obtain ⟨hI294, hF295⟩ := hp293
            have hF296 := zOn_tr hF281 hF295 zi_rp2
            have hT297 := yTk_rk hT278 (yRk_p hF295)
            have hE298 : yst s291 = p282 := (yst_rk (yRk_p hF295)).trans hE283
            have b299 := zv_20_2 hI294 zc_33
            have e300 := hF295 33 2 rfl
            refine zt_goto (tgt := 203) hX dX1_part_118 (by decide) ?_
            exact zt_vret hX hR dX1_part_203 ⟨hI294, hF296, hT297, (by rw [hE298]; exact yJ_tr (yJ_mm (by omega)) z279), (by rw [hE298]; exact L284)⟩
      · refine zt_aload_n (pc' := 60) hX dX1_part_59 rfl rfl ?_
        refine zt_iload_n (pc' := 61) hX dX1_part_60 rfl rfl ?_
        refine zt_cVz (pc' := 64) hX dX1_part_61 rfl zm_yX1_opens zw_22_11 zc_33 (by decide) zs_20 (q := (RX1, TX1, 3)) rfl rfl (yc_X1_opens_o1 _ _ σ hI f hT) rfl rfl (Nat.le_of_ble_eq_true rfl) (by decide) (fun r301 s302 hr303 hp304 => ?_)
        obtain ⟨hI305, hF306, q307, q308, hT309, z310⟩ := hp304
        have hE311 : yst s302 = yPx f (yst σ) := z310
        have hF312 := zOn_tr hF hF306 zi_r12
        have L313 : yle (yst σ) (yPx f (yst σ)) := yle_tr L0 (yle_x hT hE0)
        have b314 := zv_20_2 hI305 zc_33
        have e315 := hF306 33 2 rfl
        refine zt_ifeq (pc' := 67) (tgt := 203) hX dX1_part_64 rfl (by decide) ⟨by omega, by omega⟩ (fun c316 => ?_) (fun c316 => ?_)
        · exact absurd c316 (by omega)
        · refine zt_aload_n (pc' := 68) hX dX1_part_67 rfl rfl ?_
          refine zt_iload_n (pc' := 69) hX dX1_part_68 rfl rfl ?_
          refine zt_iconst (pc' := 70) hX dX1_part_69 rfl ?_
          refine zt_iadd (pc' := 71) hX dX1_part_70 rfl ?_
          rw [show (1 + 1 : Int) = 2 from rfl]
          refine zt_cVv (pc' := 74) hX dX1_part_71 rfl zm_yX1_sum zw_21_19 zc_33 (by decide) zs_20 (q := (RX1, TX1, 3)) rfl rfl (yc_X1_sum_o2 _ _ s302 hI305 f hT309 rl (by omega) (1 :: k) (by show ydep k + 1 = _; omega) (Nat.ne_of_beq_eq_false rfl)) rfl rfl (Nat.le_of_ble_eq_true rfl) (by decide) (fun r317 s318 hr319 hp320 => ?_)
          obtain ⟨hI321, hF322, hT323, z324, z325, z326⟩ := hp320
          rw [hE311] at z324
          rw [hE311] at z325
          have hF327 := zOn_tr hF312 hF322 zi_id
          obtain ⟨p328, hE329⟩ : ∃ p, yst s318 = p := ⟨_, rfl⟩
          rw [hE329] at z324
          rw [hE329] at z325
          have L330 := yle_tr L313 z325
          rw [hE329] at z326
          have b331 := zv_20_2 hI321 zc_33
          have e332 := hF322 33 2 rfl
          refine zt_aload_n (pc' := 75) hX dX1_part_74 rfl rfl ?_
          refine zt_get (pc' := 78) (v := .ref (X.1.1 + 27)) hX dX1_part_75 rfl zf_X1_15 (by decide) zc_33 zs_20 (zrf_of (zv_20_0 hI321 zc_33)) ?_
          refine zt_bipush (pc' := 80) hX dX1_part_78 rfl (by decide) (by decide) ?_
          refine zt_cVv (pc' := 83) hX dX1_part_80 rfl zm_yX5_takeSign zw_22_15 zc_27 (by decide) zs_14 (q := (RX5, TX5, 9)) rfl rfl (yc_X5_takeSign _ _ s318 hI321 41 ⟨by omega, by omega⟩ f hT323) rfl rfl (Nat.le_of_ble_eq_true rfl) (by decide) (fun r333 s334 hr335 hp336 => ?_)
          obtain ⟨hI337, hF338, hT339, z340⟩ := hp336
          have hE341 : yst s334 = yPs f 41 p328 := by rw [z340, hE329]
          have hF342 := zOn_tr hF327 hF338 zi_r12
          have L343 : yle (yst σ) (yPs f 41 p328) := yle_tr L330 (yle_s hT323 hE329)
          have b344 := zv_20_2 hI337 zc_33
          have e345 := hF338 33 2 rfl
          refine zt_goto (tgt := 203) hX dX1_part_83 (by decide) ?_
          exact zt_vret hX hR dX1_part_203 ⟨hI337, hF342, hT339, (by rw [hE341]; exact yJ_tr (yJ_op1 (by omega) (by omega)) (yJ_tr z324 (yJ_cl (Or.inl rfl) z326))), (by rw [hE341]; exact L343)⟩
    · refine zt_aload_n (pc' := 27) hX dX1_part_26 rfl rfl ?_
      obtain ⟨k346, ek347, hk348⟩ := zv_20_1 hI zc_33
      refine zt_get (pc' := 30) (v := .ref (X.1.1 + k346)) hX dX1_part_27 rfl zf_X1_19 (by decide) zc_33 zs_20 (zrf_of ek347) ?_
      refine zt_aload_n (pc' := 31) hX dX1_part_30 rfl rfl ?_
      refine zt_get (pc' := 34) (v := .ref (X.1.1 + 27)) hX dX1_part_31 rfl zf_X1_15 (by decide) zc_33 zs_20 (zrf_of (zv_20_0 hI zc_33)) ?_
      refine zt_iconst (pc' := 35) hX dX1_part_34 rfl ?_
      refine zt_sipush (pc' := 38) hX dX1_part_35 rfl (by decide) (by decide) ?_
      refine zt_cVi (pc' := 41) hX dX1_part_38 rfl zm_yX5_takeNumber zw_22_23 zc_27 (by decide) zs_14 (q := (RX5, TX5, 9)) rfl rfl (yc_X5_takeNumber _ _ σ hI 0 ⟨by omega, by omega⟩ 9999 ⟨by omega, by omega⟩ f hT) rfl rfl (Nat.le_of_ble_eq_true rfl) (by decide) (fun r349 s350 hr351 hp352 => ?_)
      obtain ⟨hI353, hF354, q355, q356, hT357, z358, z359, z360⟩ := hp352
      have hE361 : yst s350 = yPn f 0 9999 (yst σ) := z358
      have hF362 := zOn_tr hF hF354 zi_r12
      rw [hE361] at z359
      have L363 : yle (yst σ) (yPn f 0 9999 (yst σ)) := yle_tr L0 (yle_n hT hE0)
      have b364 := zv_20_2 hI353 zc_33
      have e365 := hF354 33 2 rfl
      refine zt_cVv (pc' := 44) hX dX1_part_41 rfl zm_yX4_addNumber zw_23_0 hk348 (by decide) zs_6 (q := (RX4, TX4, 2)) rfl rfl (yc_X4_addNumber _ _ s350 hI353 k346 hk348 r349 ⟨by omega, by omega⟩) rfl rfl (Nat.le_of_ble_eq_true rfl) (by decide) (fun r366 s367 hr368 hp369 => ?_)
      obtain ⟨hI370, hF371⟩ := hp369
      have hF372 := zOn_tr hF362 hF371 zi_rp2
      have hT373 := yTk_rk hT357 (yRk_p hF371)
      have hE374 : yst s367 = yPn f 0 9999 (yst σ) := (yst_rk (yRk_p hF371)).trans hE361
      have b375 := zv_20_2 hI370 zc_33
      have e376 := hF371 33 2 rfl
      refine zt_goto (tgt := 203) hX dX1_part_44 (by decide) ?_
      exact zt_vret hX hR dX1_part_203 ⟨hI370, hF372, hT373, (by rw [hE374]; exact yJ_num (by omega)), (by rw [hE374]; exact L363)⟩
set_option maxRecDepth 100000 in
set_option maxHeartbeats 4000000 in
theorem yc_X1_product_o1 (l : Launch) (E : zEN) (σ : zSto) (hI : zInv σ) (f : Int → Int) (hT : yTk f σ) (rl : Int) (hrl : σ 33 2 = rl) (k : List Nat) (hk : ydep k = 1) (ht : ytop k ≠ 4) : zCt l E yX1_product cX1_product 4 none 24 zNC zNC 0 0 σ [.ref (E.1 + 33), .int (zI 1)] (fun r σ' => zInv σ' ∧ zOn zR2 σ σ' ∧ yTk f σ' ∧ (yJ rl f (1, k, (yst σ)) (2, k, (yst σ'))) ∧ (yle (yst σ) (yst σ')) ∧ (yPg f (yst σ') ≠ 42 ∧ yPg f (yst σ') ≠ 47)) := by
  refine zCt_of2 [some (.ref (E.1 + 33)), some (.int (zI 1)), none, none] (by decide +kernel) (Nat.le_of_ble_eq_true rfl) rfl ?_
  intro X hE_ hX hR hL hN
  subst hE_
  have hX : zok X cX1_product RX1 24 := hX
  have hF := zOn_rf zR2 σ
  have hE0 : yst σ = yst σ := rfl
  have L0 := yle_rf (yst σ)
  have b1 := zv_20_2 hI zc_33
  refine zt_aload_n (pc' := 1) hX dX1_product_0 rfl rfl ?_
  refine zt_iload_n (pc' := 2) hX dX1_product_1 rfl rfl ?_
  refine zt_cVv (pc' := 5) hX dX1_product_2 rfl zm_yX1_part zw_23_4 zc_33 (by decide) zs_20 (q := (RX1, TX1, 3)) rfl rfl (yc_X1_part_o1 _ _ σ hI f hT rl (by omega) k hk) rfl rfl (Nat.le_of_ble_eq_true rfl) (by decide) (fun r2 s3 hr4 hp5 => ?_)
  obtain ⟨hI6, hF7, hT8, z9, z10⟩ := hp5
  have hF11 := zOn_tr hF hF7 zi_id
  obtain ⟨p12, hE13⟩ : ∃ p, yst s3 = p := ⟨_, rfl⟩
  rw [hE13] at z9
  rw [hE13] at z10
  have L14 := yle_tr L0 z10
  have b15 := zv_20_2 hI6 zc_33
  have e16 := hF7 33 2 rfl
  have g17 := z9
  refine zt_iconst (pc' := 6) hX dX1_product_5 rfl ?_
  refine zt_istore_n (pc' := 7) (lv' := [some (.ref (X.1.1 + 33)), some (.int (zI 1)), some (.int (zI 0)), none]) hX dX1_product_6 rfl hL (by decide) rfl ?_
  have L_7_30 : ∀ (N : Nat) (x18 : Int) (s21 : zSto) (p24 : yP), 0 ≤ x18 → x18 ≤ 1600 → zInv s21 → zOn zR2 σ s21 → yTk f s21 → yst s21 = p24 → s21 33 2 = σ 33 2 → yJ rl f (1, k, yst σ) (2, k, p24) → yle (yst σ) p24 → yge x18 p24 → ((1601 - x18).toNat) < N → zF X s21 7 [some (.ref (X.1.1 + 33)), some (.int (zI 1)), some (.int (zI x18)), none] [] := by
    intro N
    induction N with
    | zero =>
      intro x18 s21 p24 h19 h20 hI22 hF23 hT25 hE26 g27 g28 g29 g30 hm32
      exact absurd hm32 (Nat.not_lt_zero _)
    | succ N ih33 =>
      intro x18 s21 p24 h19 h20 hI22 hF23 hT25 hE26 g27 g28 g29 g30 hm32
      have b34 := zv_20_2 hI22 zc_33
      have hx := yge_x hT25 hE26 g30
      refine zt_iload_n (pc' := 8) hX dX1_product_7 rfl rfl ?_
      refine zt_sipush (pc' := 11) hX dX1_product_8 rfl (by decide) (by decide) ?_
      refine zt_icge (pc' := 14) (tgt := 72) hX dX1_product_11 rfl (by decide) ⟨by omega, by omega⟩ ⟨by omega, by omega⟩ (fun c35 => ?_) (fun c35 => ?_)
      · exact zt_vret hX hR dX1_product_72 ⟨hI22, hF23, hT25, (by rw [hE26]; exact g28), (by rw [hE26]; exact g29), (by rw [hE26]; omega)⟩
      · refine zt_aload_n (pc' := 15) hX dX1_product_14 rfl rfl ?_
        refine zt_get (pc' := 18) (v := .ref (X.1.1 + 27)) hX dX1_product_15 rfl zf_X1_15 (by decide) zc_33 zs_20 (zrf_of (zv_20_0 hI22 zc_33)) ?_
        refine zt_cVi (pc' := 21) hX dX1_product_18 rfl zm_yX5_signHere zw_22_2 zc_27 (by decide) zs_14 (q := (RX5, TX5, 9)) rfl rfl (yc_X5_signHere _ _ s21 hI22 f hT25) rfl rfl (Nat.le_of_ble_eq_true rfl) (by decide) (fun r36 s37 hr38 hp39 => ?_)
        obtain ⟨rfl, q40, q41, z42⟩ := hp39
        rw [hE26] at z42
        refine zt_bipush (pc' := 23) hX dX1_product_21 rfl (by decide) (by decide) ?_
        refine zt_iceq (pc' := 26) (tgt := 38) hX dX1_product_23 rfl (by decide) ⟨by omega, by omega⟩ ⟨by omega, by omega⟩ (fun c43 => ?_) (fun c43 => ?_)
        · refine zt_aload_n (pc' := 39) hX dX1_product_38 rfl rfl ?_
          refine zt_get (pc' := 42) (v := .ref (X.1.1 + 27)) hX dX1_product_39 rfl zf_X1_15 (by decide) zc_33 zs_20 (zrf_of (zv_20_0 hI22 zc_33)) ?_
          refine zt_cVi (pc' := 45) hX dX1_product_42 rfl zm_yX5_signHere zw_22_2 zc_27 (by decide) zs_14 (q := (RX5, TX5, 9)) rfl rfl (yc_X5_signHere _ _ s21 hI22 f hT25) rfl rfl (Nat.le_of_ble_eq_true rfl) (by decide) (fun r44 s45 hr46 hp47 => ?_)
          obtain ⟨rfl, q48, q49, z50⟩ := hp47
          rw [hE26] at z50
          refine zt_istore_n (pc' := 46) (lv' := [some (.ref (X.1.1 + 33)), some (.int (zI 1)), some (.int (zI x18)), some (.int (zI r44))]) hX dX1_product_45 rfl hL (by decide) rfl ?_
          refine zt_aload_n (pc' := 47) hX dX1_product_46 rfl rfl ?_
          refine zt_get (pc' := 50) (v := .ref (X.1.1 + 27)) hX dX1_product_47 rfl zf_X1_15 (by decide) zc_33 zs_20 (zrf_of (zv_20_0 hI22 zc_33)) ?_
          refine zt_cVv (pc' := 53) hX dX1_product_50 rfl zm_yX5_step zw_22_6 zc_27 (by decide) zs_14 (q := (RX5, TX5, 9)) rfl rfl (yc_X5_step _ _ s21 hI22 f hT25) rfl rfl (Nat.le_of_ble_eq_true rfl) (by decide) (fun r51 s52 hr53 hp54 => ?_)
          obtain ⟨hI55, hF56, hT57, z58⟩ := hp54
          have hE59 : yst s52 = yPx f p24 := by rw [z58, hE26]
          have hF60 := zOn_tr hF23 hF56 zi_r12
          have L61 : yle (yst σ) (yPx f p24) := yle_tr g29 (yle_x hT25 hE26)
          have b62 := zv_20_2 hI55 zc_33
          have e63 := hF56 33 2 rfl
          have g64 := yJ_tr g28 (yJ_o ht (by omega))
          have I65 := yge_1 hT25 hE26 g30 (by omega)
          refine zt_aload_n (pc' := 54) hX dX1_product_53 rfl rfl ?_
          refine zt_iload_n (pc' := 55) hX dX1_product_54 rfl rfl ?_
          refine zt_cVv (pc' := 58) hX dX1_product_55 rfl zm_yX1_part zw_23_4 zc_33 (by decide) zs_20 (q := (RX1, TX1, 3)) rfl rfl (yc_X1_part_o1 _ _ s52 hI55 f hT57 rl (by omega) k hk) rfl rfl (Nat.le_of_ble_eq_true rfl) (by decide) (fun r66 s67 hr68 hp69 => ?_)
          obtain ⟨hI70, hF71, hT72, z73, z74⟩ := hp69
          rw [hE59] at z73
          rw [hE59] at z74
          have hF75 := zOn_tr hF60 hF71 zi_id
          obtain ⟨p76, hE77⟩ : ∃ p, yst s67 = p := ⟨_, rfl⟩
          rw [hE77] at z73
          rw [hE77] at z74
          have L78 := yle_tr L61 z74
          have b79 := zv_20_2 hI70 zc_33
          have e80 := hF71 33 2 rfl
          have g81 := yJ_tr g64 z73
          have I82 := yge_l I65 z74
          refine zt_aload_n (pc' := 59) hX dX1_product_58 rfl rfl ?_
          obtain ⟨k83, ek84, hk85⟩ := zv_20_1 hI70 zc_33
          refine zt_get (pc' := 62) (v := .ref (X.1.1 + k83)) hX dX1_product_59 rfl zf_X1_19 (by decide) zc_33 zs_20 (zrf_of ek84) ?_
          refine zt_iload_n (pc' := 63) hX dX1_product_62 rfl rfl ?_
          refine zt_cVv (pc' := 66) hX dX1_product_63 rfl zm_yX4_addStep zw_22_7 hk85 (by decide) zs_6 (q := (RX4, TX4, 2)) rfl rfl (yc_X4_addStep _ _ s67 hI70 k83 hk85 r44 ⟨by omega, by omega⟩) rfl rfl (Nat.le_of_ble_eq_true rfl) (by decide) (fun r86 s87 hr88 hp89 => ?_)
          obtain ⟨hI90, hF91⟩ := hp89
          have hF92 := zOn_tr hF75 hF91 zi_rp2
          have hT93 := yTk_rk hT72 (yRk_p hF91)
          have hE94 : yst s87 = p76 := (yst_rk (yRk_p hF91)).trans hE77
          have b95 := zv_20_2 hI90 zc_33
          have e96 := hF91 33 2 rfl
          refine zt_iinc (pc' := 69) (lv' := [some (.ref (X.1.1 + 33)), some (.int (zI 1)), some (.int (zI (x18 + 1))), some (.int (zI r44))]) hX dX1_product_66 rfl rfl hL (by decide) rfl ?_
          refine zt_goto (tgt := 7) hX dX1_product_69 (by decide) ?_
          refine zt_mask [true, true, true, false] rfl ?_
          exact ih33 (x18 + 1) s87 p76 (by omega) (by omega) hI90 hF92 hT93 hE94 (by omega) g81 L78 I82 (by omega)
        · refine zt_aload_n (pc' := 27) hX dX1_product_26 rfl rfl ?_
          refine zt_get (pc' := 30) (v := .ref (X.1.1 + 27)) hX dX1_product_27 rfl zf_X1_15 (by decide) zc_33 zs_20 (zrf_of (zv_20_0 hI22 zc_33)) ?_
          refine zt_cVi (pc' := 33) hX dX1_product_30 rfl zm_yX5_signHere zw_22_2 zc_27 (by decide) zs_14 (q := (RX5, TX5, 9)) rfl rfl (yc_X5_signHere _ _ s21 hI22 f hT25) rfl rfl (Nat.le_of_ble_eq_true rfl) (by decide) (fun r97 s98 hr99 hp100 => ?_)
          obtain ⟨rfl, q101, q102, z103⟩ := hp100
          rw [hE26] at z103
          refine zt_bipush (pc' := 35) hX dX1_product_33 rfl (by decide) (by decide) ?_
          refine zt_icne (pc' := 38) (tgt := 72) hX dX1_product_35 rfl (by decide) ⟨by omega, by omega⟩ ⟨by omega, by omega⟩ (fun c104 => ?_) (fun c104 => ?_)
          · exact zt_vret hX hR dX1_product_72 ⟨hI22, hF23, hT25, (by rw [hE26]; exact g28), (by rw [hE26]; exact g29), (by rw [hE26]; omega)⟩
          · refine zt_aload_n (pc' := 39) hX dX1_product_38 rfl rfl ?_
            refine zt_get (pc' := 42) (v := .ref (X.1.1 + 27)) hX dX1_product_39 rfl zf_X1_15 (by decide) zc_33 zs_20 (zrf_of (zv_20_0 hI22 zc_33)) ?_
            refine zt_cVi (pc' := 45) hX dX1_product_42 rfl zm_yX5_signHere zw_22_2 zc_27 (by decide) zs_14 (q := (RX5, TX5, 9)) rfl rfl (yc_X5_signHere _ _ s21 hI22 f hT25) rfl rfl (Nat.le_of_ble_eq_true rfl) (by decide) (fun r105 s106 hr107 hp108 => ?_)
            obtain ⟨rfl, q109, q110, z111⟩ := hp108
            rw [hE26] at z111
            refine zt_istore_n (pc' := 46) (lv' := [some (.ref (X.1.1 + 33)), some (.int (zI 1)), some (.int (zI x18)), some (.int (zI r105))]) hX dX1_product_45 rfl hL (by decide) rfl ?_
            refine zt_aload_n (pc' := 47) hX dX1_product_46 rfl rfl ?_
            refine zt_get (pc' := 50) (v := .ref (X.1.1 + 27)) hX dX1_product_47 rfl zf_X1_15 (by decide) zc_33 zs_20 (zrf_of (zv_20_0 hI22 zc_33)) ?_
            refine zt_cVv (pc' := 53) hX dX1_product_50 rfl zm_yX5_step zw_22_6 zc_27 (by decide) zs_14 (q := (RX5, TX5, 9)) rfl rfl (yc_X5_step _ _ s21 hI22 f hT25) rfl rfl (Nat.le_of_ble_eq_true rfl) (by decide) (fun r112 s113 hr114 hp115 => ?_)
            obtain ⟨hI116, hF117, hT118, z119⟩ := hp115
            have hE120 : yst s113 = yPx f p24 := by rw [z119, hE26]
            have hF121 := zOn_tr hF23 hF117 zi_r12
            have L122 : yle (yst σ) (yPx f p24) := yle_tr g29 (yle_x hT25 hE26)
            have b123 := zv_20_2 hI116 zc_33
            have e124 := hF117 33 2 rfl
            have g125 := yJ_tr g28 (yJ_o ht (by omega))
            have I126 := yge_1 hT25 hE26 g30 (by omega)
            refine zt_aload_n (pc' := 54) hX dX1_product_53 rfl rfl ?_
            refine zt_iload_n (pc' := 55) hX dX1_product_54 rfl rfl ?_
            refine zt_cVv (pc' := 58) hX dX1_product_55 rfl zm_yX1_part zw_23_4 zc_33 (by decide) zs_20 (q := (RX1, TX1, 3)) rfl rfl (yc_X1_part_o1 _ _ s113 hI116 f hT118 rl (by omega) k hk) rfl rfl (Nat.le_of_ble_eq_true rfl) (by decide) (fun r127 s128 hr129 hp130 => ?_)
            obtain ⟨hI131, hF132, hT133, z134, z135⟩ := hp130
            rw [hE120] at z134
            rw [hE120] at z135
            have hF136 := zOn_tr hF121 hF132 zi_id
            obtain ⟨p137, hE138⟩ : ∃ p, yst s128 = p := ⟨_, rfl⟩
            rw [hE138] at z134
            rw [hE138] at z135
            have L139 := yle_tr L122 z135
            have b140 := zv_20_2 hI131 zc_33
            have e141 := hF132 33 2 rfl
            have g142 := yJ_tr g125 z134
            have I143 := yge_l I126 z135
            refine zt_aload_n (pc' := 59) hX dX1_product_58 rfl rfl ?_
            obtain ⟨k144, ek145, hk146⟩ := zv_20_1 hI131 zc_33
            refine zt_get (pc' := 62) (v := .ref (X.1.1 + k144)) hX dX1_product_59 rfl zf_X1_19 (by decide) zc_33 zs_20 (zrf_of ek145) ?_
            refine zt_iload_n (pc' := 63) hX dX1_product_62 rfl rfl ?_
            refine zt_cVv (pc' := 66) hX dX1_product_63 rfl zm_yX4_addStep zw_22_7 hk146 (by decide) zs_6 (q := (RX4, TX4, 2)) rfl rfl (yc_X4_addStep _ _ s128 hI131 k144 hk146 r105 ⟨by omega, by omega⟩) rfl rfl (Nat.le_of_ble_eq_true rfl) (by decide) (fun r147 s148 hr149 hp150 => ?_)
            obtain ⟨hI151, hF152⟩ := hp150
            have hF153 := zOn_tr hF136 hF152 zi_rp2
            have hT154 := yTk_rk hT133 (yRk_p hF152)
            have hE155 : yst s148 = p137 := (yst_rk (yRk_p hF152)).trans hE138
            have b156 := zv_20_2 hI151 zc_33
            have e157 := hF152 33 2 rfl
            refine zt_iinc (pc' := 69) (lv' := [some (.ref (X.1.1 + 33)), some (.int (zI 1)), some (.int (zI (x18 + 1))), some (.int (zI r105))]) hX dX1_product_66 rfl rfl hL (by decide) rfl ?_
            refine zt_goto (tgt := 7) hX dX1_product_69 (by decide) ?_
            refine zt_mask [true, true, true, false] rfl ?_
            exact ih33 (x18 + 1) s148 p137 (by omega) (by omega) hI151 hF153 hT154 hE155 (by omega) g142 L139 I143 (by omega)
  exact L_7_30 _ 0 s3 p12 (by omega) (by omega) hI6 hF11 hT8 hE13 (by omega) g17 L14 (yge_0 hT8 hE13) (Nat.lt_succ_self _)
set_option maxRecDepth 100000 in
set_option maxHeartbeats 4000000 in
theorem yc_X1_sum_o1 (l : Launch) (E : zEN) (σ : zSto) (hI : zInv σ) (f : Int → Int) (hT : yTk f σ) (rl : Int) (hrl : σ 33 2 = rl) (k : List Nat) (hk : ydep k = 1) (ht : ytop k ≠ 4) : zCt l E yX1_sum cX1_sum 4 none 25 zNC zNC 0 0 σ [.ref (E.1 + 33), .int (zI 1)] (fun r σ' => zInv σ' ∧ zOn zR2 σ σ' ∧ yTk f σ' ∧ (yJ rl f (1, k, (yst σ)) (2, k, (yst σ'))) ∧ (yle (yst σ) (yst σ')) ∧ (yPg f (yst σ') ≠ 42 ∧ yPg f (yst σ') ≠ 47 ∧ yPg f (yst σ') ≠ 43 ∧ yPg f (yst σ') ≠ 45)) := by
  refine zCt_of2 [some (.ref (E.1 + 33)), some (.int (zI 1)), none, none] (by decide +kernel) (Nat.le_of_ble_eq_true rfl) rfl ?_
  intro X hE_ hX hR hL hN
  subst hE_
  have hX : zok X cX1_sum RX1 25 := hX
  have hF := zOn_rf zR2 σ
  have hE0 : yst σ = yst σ := rfl
  have L0 := yle_rf (yst σ)
  have b1 := zv_20_2 hI zc_33
  refine zt_aload_n (pc' := 1) hX dX1_sum_0 rfl rfl ?_
  refine zt_iload_n (pc' := 2) hX dX1_sum_1 rfl rfl ?_
  refine zt_cVv (pc' := 5) hX dX1_sum_2 rfl zm_yX1_product zw_21_23 zc_33 (by decide) zs_20 (q := (RX1, TX1, 3)) rfl rfl (yc_X1_product_o1 _ _ σ hI f hT rl (by omega) k hk ht) rfl rfl (Nat.le_of_ble_eq_true rfl) (by decide) (fun r2 s3 hr4 hp5 => ?_)
  obtain ⟨hI6, hF7, hT8, z9, z10, z11⟩ := hp5
  have hF12 := zOn_tr hF hF7 zi_id
  obtain ⟨p13, hE14⟩ : ∃ p, yst s3 = p := ⟨_, rfl⟩
  rw [hE14] at z9
  rw [hE14] at z10
  have L15 := yle_tr L0 z10
  rw [hE14] at z11
  have b16 := zv_20_2 hI6 zc_33
  have e17 := hF7 33 2 rfl
  have g18 := z9
  refine zt_iconst (pc' := 6) hX dX1_sum_5 rfl ?_
  refine zt_istore_n (pc' := 7) (lv' := [some (.ref (X.1.1 + 33)), some (.int (zI 1)), some (.int (zI 0)), none]) hX dX1_sum_6 rfl hL (by decide) rfl ?_
  have L_7_32 : ∀ (N : Nat) (x19 : Int) (s22 : zSto) (p25 : yP), 0 ≤ x19 → x19 ≤ 1600 → zInv s22 → zOn zR2 σ s22 → yTk f s22 → yst s22 = p25 → (yPg f p25 ≠ 42 ∧ yPg f p25 ≠ 47) → s22 33 2 = σ 33 2 → yJ rl f (1, k, yst σ) (2, k, p25) → yle (yst σ) p25 → yge x19 p25 → ((1601 - x19).toNat) < N → zF X s22 7 [some (.ref (X.1.1 + 33)), some (.int (zI 1)), some (.int (zI x19)), none] [] := by
    intro N
    induction N with
    | zero =>
      intro x19 s22 p25 h20 h21 hI23 hF24 hT26 hE27 g28 g29 g30 g31 g32 hm34
      exact absurd hm34 (Nat.not_lt_zero _)
    | succ N ih35 =>
      intro x19 s22 p25 h20 h21 hI23 hF24 hT26 hE27 g28 g29 g30 g31 g32 hm34
      have b36 := zv_20_2 hI23 zc_33
      have hx := yge_x hT26 hE27 g32
      refine zt_iload_n (pc' := 8) hX dX1_sum_7 rfl rfl ?_
      refine zt_sipush (pc' := 11) hX dX1_sum_8 rfl (by decide) (by decide) ?_
      refine zt_icge (pc' := 14) (tgt := 72) hX dX1_sum_11 rfl (by decide) ⟨by omega, by omega⟩ ⟨by omega, by omega⟩ (fun c37 => ?_) (fun c37 => ?_)
      · exact zt_vret hX hR dX1_sum_72 ⟨hI23, hF24, hT26, (by rw [hE27]; exact g30), (by rw [hE27]; exact g31), (by rw [hE27]; omega)⟩
      · refine zt_aload_n (pc' := 15) hX dX1_sum_14 rfl rfl ?_
        refine zt_get (pc' := 18) (v := .ref (X.1.1 + 27)) hX dX1_sum_15 rfl zf_X1_15 (by decide) zc_33 zs_20 (zrf_of (zv_20_0 hI23 zc_33)) ?_
        refine zt_cVi (pc' := 21) hX dX1_sum_18 rfl zm_yX5_signHere zw_22_2 zc_27 (by decide) zs_14 (q := (RX5, TX5, 9)) rfl rfl (yc_X5_signHere _ _ s22 hI23 f hT26) rfl rfl (Nat.le_of_ble_eq_true rfl) (by decide) (fun r38 s39 hr40 hp41 => ?_)
        obtain ⟨rfl, q42, q43, z44⟩ := hp41
        rw [hE27] at z44
        refine zt_bipush (pc' := 23) hX dX1_sum_21 rfl (by decide) (by decide) ?_
        refine zt_iceq (pc' := 26) (tgt := 38) hX dX1_sum_23 rfl (by decide) ⟨by omega, by omega⟩ ⟨by omega, by omega⟩ (fun c45 => ?_) (fun c45 => ?_)
        · refine zt_aload_n (pc' := 39) hX dX1_sum_38 rfl rfl ?_
          refine zt_get (pc' := 42) (v := .ref (X.1.1 + 27)) hX dX1_sum_39 rfl zf_X1_15 (by decide) zc_33 zs_20 (zrf_of (zv_20_0 hI23 zc_33)) ?_
          refine zt_cVi (pc' := 45) hX dX1_sum_42 rfl zm_yX5_signHere zw_22_2 zc_27 (by decide) zs_14 (q := (RX5, TX5, 9)) rfl rfl (yc_X5_signHere _ _ s22 hI23 f hT26) rfl rfl (Nat.le_of_ble_eq_true rfl) (by decide) (fun r46 s47 hr48 hp49 => ?_)
          obtain ⟨rfl, q50, q51, z52⟩ := hp49
          rw [hE27] at z52
          refine zt_istore_n (pc' := 46) (lv' := [some (.ref (X.1.1 + 33)), some (.int (zI 1)), some (.int (zI x19)), some (.int (zI r46))]) hX dX1_sum_45 rfl hL (by decide) rfl ?_
          refine zt_aload_n (pc' := 47) hX dX1_sum_46 rfl rfl ?_
          refine zt_get (pc' := 50) (v := .ref (X.1.1 + 27)) hX dX1_sum_47 rfl zf_X1_15 (by decide) zc_33 zs_20 (zrf_of (zv_20_0 hI23 zc_33)) ?_
          refine zt_cVv (pc' := 53) hX dX1_sum_50 rfl zm_yX5_step zw_22_6 zc_27 (by decide) zs_14 (q := (RX5, TX5, 9)) rfl rfl (yc_X5_step _ _ s22 hI23 f hT26) rfl rfl (Nat.le_of_ble_eq_true rfl) (by decide) (fun r53 s54 hr55 hp56 => ?_)
          obtain ⟨hI57, hF58, hT59, z60⟩ := hp56
          have hE61 : yst s54 = yPx f p25 := by rw [z60, hE27]
          have hF62 := zOn_tr hF24 hF58 zi_r12
          have L63 : yle (yst σ) (yPx f p25) := yle_tr g31 (yle_x hT26 hE27)
          have b64 := zv_20_2 hI57 zc_33
          have e65 := hF58 33 2 rfl
          have g66 := yJ_tr g30 (yJ_o ht (by omega))
          have I67 := yge_1 hT26 hE27 g32 (by omega)
          refine zt_aload_n (pc' := 54) hX dX1_sum_53 rfl rfl ?_
          refine zt_iload_n (pc' := 55) hX dX1_sum_54 rfl rfl ?_
          refine zt_cVv (pc' := 58) hX dX1_sum_55 rfl zm_yX1_product zw_21_23 zc_33 (by decide) zs_20 (q := (RX1, TX1, 3)) rfl rfl (yc_X1_product_o1 _ _ s54 hI57 f hT59 rl (by omega) k hk ht) rfl rfl (Nat.le_of_ble_eq_true rfl) (by decide) (fun r68 s69 hr70 hp71 => ?_)
          obtain ⟨hI72, hF73, hT74, z75, z76, z77⟩ := hp71
          rw [hE61] at z75
          rw [hE61] at z76
          have hF78 := zOn_tr hF62 hF73 zi_id
          obtain ⟨p79, hE80⟩ : ∃ p, yst s69 = p := ⟨_, rfl⟩
          rw [hE80] at z75
          rw [hE80] at z76
          have L81 := yle_tr L63 z76
          rw [hE80] at z77
          have b82 := zv_20_2 hI72 zc_33
          have e83 := hF73 33 2 rfl
          have g84 := yJ_tr g66 z75
          have I85 := yge_l I67 z76
          refine zt_aload_n (pc' := 59) hX dX1_sum_58 rfl rfl ?_
          obtain ⟨k86, ek87, hk88⟩ := zv_20_1 hI72 zc_33
          refine zt_get (pc' := 62) (v := .ref (X.1.1 + k86)) hX dX1_sum_59 rfl zf_X1_19 (by decide) zc_33 zs_20 (zrf_of ek87) ?_
          refine zt_iload_n (pc' := 63) hX dX1_sum_62 rfl rfl ?_
          refine zt_cVv (pc' := 66) hX dX1_sum_63 rfl zm_yX4_addStep zw_22_7 hk88 (by decide) zs_6 (q := (RX4, TX4, 2)) rfl rfl (yc_X4_addStep _ _ s69 hI72 k86 hk88 r46 ⟨by omega, by omega⟩) rfl rfl (Nat.le_of_ble_eq_true rfl) (by decide) (fun r89 s90 hr91 hp92 => ?_)
          obtain ⟨hI93, hF94⟩ := hp92
          have hF95 := zOn_tr hF78 hF94 zi_rp2
          have hT96 := yTk_rk hT74 (yRk_p hF94)
          have hE97 : yst s90 = p79 := (yst_rk (yRk_p hF94)).trans hE80
          have b98 := zv_20_2 hI93 zc_33
          have e99 := hF94 33 2 rfl
          refine zt_iinc (pc' := 69) (lv' := [some (.ref (X.1.1 + 33)), some (.int (zI 1)), some (.int (zI (x19 + 1))), some (.int (zI r46))]) hX dX1_sum_66 rfl rfl hL (by decide) rfl ?_
          refine zt_goto (tgt := 7) hX dX1_sum_69 (by decide) ?_
          refine zt_mask [true, true, true, false] rfl ?_
          exact ih35 (x19 + 1) s90 p79 (by omega) (by omega) hI93 hF95 hT96 hE97 (by omega) (by omega) g84 L81 I85 (by omega)
        · refine zt_aload_n (pc' := 27) hX dX1_sum_26 rfl rfl ?_
          refine zt_get (pc' := 30) (v := .ref (X.1.1 + 27)) hX dX1_sum_27 rfl zf_X1_15 (by decide) zc_33 zs_20 (zrf_of (zv_20_0 hI23 zc_33)) ?_
          refine zt_cVi (pc' := 33) hX dX1_sum_30 rfl zm_yX5_signHere zw_22_2 zc_27 (by decide) zs_14 (q := (RX5, TX5, 9)) rfl rfl (yc_X5_signHere _ _ s22 hI23 f hT26) rfl rfl (Nat.le_of_ble_eq_true rfl) (by decide) (fun r100 s101 hr102 hp103 => ?_)
          obtain ⟨rfl, q104, q105, z106⟩ := hp103
          rw [hE27] at z106
          refine zt_bipush (pc' := 35) hX dX1_sum_33 rfl (by decide) (by decide) ?_
          refine zt_icne (pc' := 38) (tgt := 72) hX dX1_sum_35 rfl (by decide) ⟨by omega, by omega⟩ ⟨by omega, by omega⟩ (fun c107 => ?_) (fun c107 => ?_)
          · exact zt_vret hX hR dX1_sum_72 ⟨hI23, hF24, hT26, (by rw [hE27]; exact g30), (by rw [hE27]; exact g31), (by rw [hE27]; omega)⟩
          · refine zt_aload_n (pc' := 39) hX dX1_sum_38 rfl rfl ?_
            refine zt_get (pc' := 42) (v := .ref (X.1.1 + 27)) hX dX1_sum_39 rfl zf_X1_15 (by decide) zc_33 zs_20 (zrf_of (zv_20_0 hI23 zc_33)) ?_
            refine zt_cVi (pc' := 45) hX dX1_sum_42 rfl zm_yX5_signHere zw_22_2 zc_27 (by decide) zs_14 (q := (RX5, TX5, 9)) rfl rfl (yc_X5_signHere _ _ s22 hI23 f hT26) rfl rfl (Nat.le_of_ble_eq_true rfl) (by decide) (fun r108 s109 hr110 hp111 => ?_)
            obtain ⟨rfl, q112, q113, z114⟩ := hp111
            rw [hE27] at z114
            refine zt_istore_n (pc' := 46) (lv' := [some (.ref (X.1.1 + 33)), some (.int (zI 1)), some (.int (zI x19)), some (.int (zI r108))]) hX dX1_sum_45 rfl hL (by decide) rfl ?_
            refine zt_aload_n (pc' := 47) hX dX1_sum_46 rfl rfl ?_
            refine zt_get (pc' := 50) (v := .ref (X.1.1 + 27)) hX dX1_sum_47 rfl zf_X1_15 (by decide) zc_33 zs_20 (zrf_of (zv_20_0 hI23 zc_33)) ?_
            refine zt_cVv (pc' := 53) hX dX1_sum_50 rfl zm_yX5_step zw_22_6 zc_27 (by decide) zs_14 (q := (RX5, TX5, 9)) rfl rfl (yc_X5_step _ _ s22 hI23 f hT26) rfl rfl (Nat.le_of_ble_eq_true rfl) (by decide) (fun r115 s116 hr117 hp118 => ?_)
            obtain ⟨hI119, hF120, hT121, z122⟩ := hp118
            have hE123 : yst s116 = yPx f p25 := by rw [z122, hE27]
            have hF124 := zOn_tr hF24 hF120 zi_r12
            have L125 : yle (yst σ) (yPx f p25) := yle_tr g31 (yle_x hT26 hE27)
            have b126 := zv_20_2 hI119 zc_33
            have e127 := hF120 33 2 rfl
            have g128 := yJ_tr g30 (yJ_o ht (by omega))
            have I129 := yge_1 hT26 hE27 g32 (by omega)
            refine zt_aload_n (pc' := 54) hX dX1_sum_53 rfl rfl ?_
            refine zt_iload_n (pc' := 55) hX dX1_sum_54 rfl rfl ?_
            refine zt_cVv (pc' := 58) hX dX1_sum_55 rfl zm_yX1_product zw_21_23 zc_33 (by decide) zs_20 (q := (RX1, TX1, 3)) rfl rfl (yc_X1_product_o1 _ _ s116 hI119 f hT121 rl (by omega) k hk ht) rfl rfl (Nat.le_of_ble_eq_true rfl) (by decide) (fun r130 s131 hr132 hp133 => ?_)
            obtain ⟨hI134, hF135, hT136, z137, z138, z139⟩ := hp133
            rw [hE123] at z137
            rw [hE123] at z138
            have hF140 := zOn_tr hF124 hF135 zi_id
            obtain ⟨p141, hE142⟩ : ∃ p, yst s131 = p := ⟨_, rfl⟩
            rw [hE142] at z137
            rw [hE142] at z138
            have L143 := yle_tr L125 z138
            rw [hE142] at z139
            have b144 := zv_20_2 hI134 zc_33
            have e145 := hF135 33 2 rfl
            have g146 := yJ_tr g128 z137
            have I147 := yge_l I129 z138
            refine zt_aload_n (pc' := 59) hX dX1_sum_58 rfl rfl ?_
            obtain ⟨k148, ek149, hk150⟩ := zv_20_1 hI134 zc_33
            refine zt_get (pc' := 62) (v := .ref (X.1.1 + k148)) hX dX1_sum_59 rfl zf_X1_19 (by decide) zc_33 zs_20 (zrf_of ek149) ?_
            refine zt_iload_n (pc' := 63) hX dX1_sum_62 rfl rfl ?_
            refine zt_cVv (pc' := 66) hX dX1_sum_63 rfl zm_yX4_addStep zw_22_7 hk150 (by decide) zs_6 (q := (RX4, TX4, 2)) rfl rfl (yc_X4_addStep _ _ s131 hI134 k148 hk150 r108 ⟨by omega, by omega⟩) rfl rfl (Nat.le_of_ble_eq_true rfl) (by decide) (fun r151 s152 hr153 hp154 => ?_)
            obtain ⟨hI155, hF156⟩ := hp154
            have hF157 := zOn_tr hF140 hF156 zi_rp2
            have hT158 := yTk_rk hT136 (yRk_p hF156)
            have hE159 : yst s152 = p141 := (yst_rk (yRk_p hF156)).trans hE142
            have b160 := zv_20_2 hI155 zc_33
            have e161 := hF156 33 2 rfl
            refine zt_iinc (pc' := 69) (lv' := [some (.ref (X.1.1 + 33)), some (.int (zI 1)), some (.int (zI (x19 + 1))), some (.int (zI r108))]) hX dX1_sum_66 rfl rfl hL (by decide) rfl ?_
            refine zt_goto (tgt := 7) hX dX1_sum_69 (by decide) ?_
            refine zt_mask [true, true, true, false] rfl ?_
            exact ih35 (x19 + 1) s152 p141 (by omega) (by omega) hI155 hF157 hT158 hE159 (by omega) (by omega) g146 L143 I147 (by omega)
  exact L_7_32 _ 0 s3 p13 (by omega) (by omega) hI6 hF12 hT8 hE14 (by omega) (by omega) g18 L15 (yge_0 hT8 hE14) (Nat.lt_succ_self _)
set_option maxRecDepth 100000 in
set_option maxHeartbeats 4000000 in
theorem yc_X1_comparison_o1 (l : Launch) (E : zEN) (σ : zSto) (hI : zInv σ) (f : Int → Int) (hT : yTk f σ) (rl : Int) (hrl : σ 33 2 = rl) (k : List Nat) (hk : ydep k = 1) : zCt l E yX1_comparison cX1_comparison 3 none 26 zNC zNC 0 0 σ [.ref (E.1 + 33), .int (zI 1)] (fun r σ' => zInv σ' ∧ zOn zR2 σ σ' ∧ yTk f σ' ∧ (yJ rl f (1, 5 :: k, (yst σ)) (5, k, (yst σ'))) ∧ (yle (yst σ) (yst σ'))) := by
  refine zCt_of2 [some (.ref (E.1 + 33)), some (.int (zI 1)), none] (by decide +kernel) (Nat.le_of_ble_eq_true rfl) rfl ?_
  intro X hE_ hX hR hL hN
  subst hE_
  have hX : zok X cX1_comparison RX1 26 := hX
  have hF := zOn_rf zR2 σ
  have hE0 : yst σ = yst σ := rfl
  have L0 := yle_rf (yst σ)
  have b1 := zv_20_2 hI zc_33
  refine zt_aload_n (pc' := 1) hX dX1_comparison_0 rfl rfl ?_
  refine zt_iload_n (pc' := 2) hX dX1_comparison_1 rfl rfl ?_
  refine zt_cVv (pc' := 5) hX dX1_comparison_2 rfl zm_yX1_sum zw_21_19 zc_33 (by decide) zs_20 (q := (RX1, TX1, 3)) rfl rfl (yc_X1_sum_o1 _ _ σ hI f hT rl (by omega) (5 :: k) hk (Nat.ne_of_beq_eq_false rfl)) rfl rfl (Nat.le_of_ble_eq_true rfl) (by decide) (fun r2 s3 hr4 hp5 => ?_)
  obtain ⟨hI6, hF7, hT8, z9, z10, z11⟩ := hp5
  have hF12 := zOn_tr hF hF7 zi_id
  obtain ⟨p13, hE14⟩ : ∃ p, yst s3 = p := ⟨_, rfl⟩
  rw [hE14] at z9
  rw [hE14] at z10
  have L15 := yle_tr L0 z10
  rw [hE14] at z11
  have b16 := zv_20_2 hI6 zc_33
  have e17 := hF7 33 2 rfl
  refine zt_aload_n (pc' := 6) hX dX1_comparison_5 rfl rfl ?_
  refine zt_get (pc' := 9) (v := .ref (X.1.1 + 27)) hX dX1_comparison_6 rfl zf_X1_15 (by decide) zc_33 zs_20 (zrf_of (zv_20_0 hI6 zc_33)) ?_
  refine zt_cVi (pc' := 12) hX dX1_comparison_9 rfl zm_yX5_signHere zw_22_2 zc_27 (by decide) zs_14 (q := (RX5, TX5, 9)) rfl rfl (yc_X5_signHere _ _ s3 hI6 f hT8) rfl rfl (Nat.le_of_ble_eq_true rfl) (by decide) (fun r18 s19 hr20 hp21 => ?_)
  obtain ⟨rfl, q22, q23, z24⟩ := hp21
  rw [hE14] at z24
  refine zt_istore_n (pc' := 13) (lv' := [some (.ref (X.1.1 + 33)), some (.int (zI 1)), some (.int (zI r18))]) hX dX1_comparison_12 rfl hL (by decide) rfl ?_
  refine zt_iload_n (pc' := 14) hX dX1_comparison_13 rfl rfl ?_
  refine zt_bipush (pc' := 16) hX dX1_comparison_14 rfl (by decide) (by decide) ?_
  refine zt_iceq (pc' := 19) (tgt := 31) hX dX1_comparison_16 rfl (by decide) ⟨by omega, by omega⟩ ⟨by omega, by omega⟩ (fun c25 => ?_) (fun c25 => ?_)
  · refine zt_aload_n (pc' := 32) hX dX1_comparison_31 rfl rfl ?_
    refine zt_get (pc' := 35) (v := .ref (X.1.1 + 27)) hX dX1_comparison_32 rfl zf_X1_15 (by decide) zc_33 zs_20 (zrf_of (zv_20_0 hI6 zc_33)) ?_
    refine zt_cVv (pc' := 38) hX dX1_comparison_35 rfl zm_yX5_step zw_22_6 zc_27 (by decide) zs_14 (q := (RX5, TX5, 9)) rfl rfl (yc_X5_step _ _ s3 hI6 f hT8) rfl rfl (Nat.le_of_ble_eq_true rfl) (by decide) (fun r26 s27 hr28 hp29 => ?_)
    obtain ⟨hI30, hF31, hT32, z33⟩ := hp29
    have hE34 : yst s27 = yPx f p13 := by rw [z33, hE14]
    have hF35 := zOn_tr hF12 hF31 zi_r12
    have L36 : yle (yst σ) (yPx f p13) := yle_tr L15 (yle_x hT8 hE14)
    have b37 := zv_20_2 hI30 zc_33
    have e38 := hF31 33 2 rfl
    refine zt_aload_n (pc' := 39) hX dX1_comparison_38 rfl rfl ?_
    refine zt_iload_n (pc' := 40) hX dX1_comparison_39 rfl rfl ?_
    refine zt_cVv (pc' := 43) hX dX1_comparison_40 rfl zm_yX1_sum zw_21_19 zc_33 (by decide) zs_20 (q := (RX1, TX1, 3)) rfl rfl (yc_X1_sum_o1 _ _ s27 hI30 f hT32 rl (by omega) (6 :: k) hk (Nat.ne_of_beq_eq_false rfl)) rfl rfl (Nat.le_of_ble_eq_true rfl) (by decide) (fun r39 s40 hr41 hp42 => ?_)
    obtain ⟨hI43, hF44, hT45, z46, z47, z48⟩ := hp42
    rw [hE34] at z46
    rw [hE34] at z47
    have hF49 := zOn_tr hF35 hF44 zi_id
    obtain ⟨p50, hE51⟩ : ∃ p, yst s40 = p := ⟨_, rfl⟩
    rw [hE51] at z46
    rw [hE51] at z47
    have L52 := yle_tr L36 z47
    rw [hE51] at z48
    have b53 := zv_20_2 hI43 zc_33
    have e54 := hF44 33 2 rfl
    refine zt_aload_n (pc' := 44) hX dX1_comparison_43 rfl rfl ?_
    obtain ⟨k55, ek56, hk57⟩ := zv_20_1 hI43 zc_33
    refine zt_get (pc' := 47) (v := .ref (X.1.1 + k55)) hX dX1_comparison_44 rfl zf_X1_19 (by decide) zc_33 zs_20 (zrf_of ek56) ?_
    refine zt_iload_n (pc' := 48) hX dX1_comparison_47 rfl rfl ?_
    refine zt_cVv (pc' := 51) hX dX1_comparison_48 rfl zm_yX4_addStep zw_22_7 hk57 (by decide) zs_6 (q := (RX4, TX4, 2)) rfl rfl (yc_X4_addStep _ _ s40 hI43 k55 hk57 r18 ⟨by omega, by omega⟩) rfl rfl (Nat.le_of_ble_eq_true rfl) (by decide) (fun r58 s59 hr60 hp61 => ?_)
    obtain ⟨hI62, hF63⟩ := hp61
    have hF64 := zOn_tr hF49 hF63 zi_rp2
    have hT65 := yTk_rk hT45 (yRk_p hF63)
    have hE66 : yst s59 = p50 := (yst_rk (yRk_p hF63)).trans hE51
    have b67 := zv_20_2 hI62 zc_33
    have e68 := hF63 33 2 rfl
    refine zt_goto (tgt := 69) hX dX1_comparison_51 (by decide) ?_
    exact zt_vret hX hR dX1_comparison_69 ⟨hI62, hF64, hT65, (by rw [hE66]; exact yJ_tr z9 (yJ_tr (yJ_cs (by omega)) (yJ_tr z46 (yJ_ce z48)))), (by rw [hE66]; exact L52)⟩
  · refine zt_iload_n (pc' := 20) hX dX1_comparison_19 rfl rfl ?_
    refine zt_bipush (pc' := 22) hX dX1_comparison_20 rfl (by decide) (by decide) ?_
    refine zt_iceq (pc' := 25) (tgt := 31) hX dX1_comparison_22 rfl (by decide) ⟨by omega, by omega⟩ ⟨by omega, by omega⟩ (fun c69 => ?_) (fun c69 => ?_)
    · refine zt_aload_n (pc' := 32) hX dX1_comparison_31 rfl rfl ?_
      refine zt_get (pc' := 35) (v := .ref (X.1.1 + 27)) hX dX1_comparison_32 rfl zf_X1_15 (by decide) zc_33 zs_20 (zrf_of (zv_20_0 hI6 zc_33)) ?_
      refine zt_cVv (pc' := 38) hX dX1_comparison_35 rfl zm_yX5_step zw_22_6 zc_27 (by decide) zs_14 (q := (RX5, TX5, 9)) rfl rfl (yc_X5_step _ _ s3 hI6 f hT8) rfl rfl (Nat.le_of_ble_eq_true rfl) (by decide) (fun r70 s71 hr72 hp73 => ?_)
      obtain ⟨hI74, hF75, hT76, z77⟩ := hp73
      have hE78 : yst s71 = yPx f p13 := by rw [z77, hE14]
      have hF79 := zOn_tr hF12 hF75 zi_r12
      have L80 : yle (yst σ) (yPx f p13) := yle_tr L15 (yle_x hT8 hE14)
      have b81 := zv_20_2 hI74 zc_33
      have e82 := hF75 33 2 rfl
      refine zt_aload_n (pc' := 39) hX dX1_comparison_38 rfl rfl ?_
      refine zt_iload_n (pc' := 40) hX dX1_comparison_39 rfl rfl ?_
      refine zt_cVv (pc' := 43) hX dX1_comparison_40 rfl zm_yX1_sum zw_21_19 zc_33 (by decide) zs_20 (q := (RX1, TX1, 3)) rfl rfl (yc_X1_sum_o1 _ _ s71 hI74 f hT76 rl (by omega) (6 :: k) hk (Nat.ne_of_beq_eq_false rfl)) rfl rfl (Nat.le_of_ble_eq_true rfl) (by decide) (fun r83 s84 hr85 hp86 => ?_)
      obtain ⟨hI87, hF88, hT89, z90, z91, z92⟩ := hp86
      rw [hE78] at z90
      rw [hE78] at z91
      have hF93 := zOn_tr hF79 hF88 zi_id
      obtain ⟨p94, hE95⟩ : ∃ p, yst s84 = p := ⟨_, rfl⟩
      rw [hE95] at z90
      rw [hE95] at z91
      have L96 := yle_tr L80 z91
      rw [hE95] at z92
      have b97 := zv_20_2 hI87 zc_33
      have e98 := hF88 33 2 rfl
      refine zt_aload_n (pc' := 44) hX dX1_comparison_43 rfl rfl ?_
      obtain ⟨k99, ek100, hk101⟩ := zv_20_1 hI87 zc_33
      refine zt_get (pc' := 47) (v := .ref (X.1.1 + k99)) hX dX1_comparison_44 rfl zf_X1_19 (by decide) zc_33 zs_20 (zrf_of ek100) ?_
      refine zt_iload_n (pc' := 48) hX dX1_comparison_47 rfl rfl ?_
      refine zt_cVv (pc' := 51) hX dX1_comparison_48 rfl zm_yX4_addStep zw_22_7 hk101 (by decide) zs_6 (q := (RX4, TX4, 2)) rfl rfl (yc_X4_addStep _ _ s84 hI87 k99 hk101 r18 ⟨by omega, by omega⟩) rfl rfl (Nat.le_of_ble_eq_true rfl) (by decide) (fun r102 s103 hr104 hp105 => ?_)
      obtain ⟨hI106, hF107⟩ := hp105
      have hF108 := zOn_tr hF93 hF107 zi_rp2
      have hT109 := yTk_rk hT89 (yRk_p hF107)
      have hE110 : yst s103 = p94 := (yst_rk (yRk_p hF107)).trans hE95
      have b111 := zv_20_2 hI106 zc_33
      have e112 := hF107 33 2 rfl
      refine zt_goto (tgt := 69) hX dX1_comparison_51 (by decide) ?_
      exact zt_vret hX hR dX1_comparison_69 ⟨hI106, hF108, hT109, (by rw [hE110]; exact yJ_tr z9 (yJ_tr (yJ_cs (by omega)) (yJ_tr z90 (yJ_ce z92)))), (by rw [hE110]; exact L96)⟩
    · refine zt_iload_n (pc' := 26) hX dX1_comparison_25 rfl rfl ?_
      refine zt_bipush (pc' := 28) hX dX1_comparison_26 rfl (by decide) (by decide) ?_
      refine zt_icne (pc' := 31) (tgt := 54) hX dX1_comparison_28 rfl (by decide) ⟨by omega, by omega⟩ ⟨by omega, by omega⟩ (fun c113 => ?_) (fun c113 => ?_)
      · refine zt_aload_n (pc' := 55) hX dX1_comparison_54 rfl rfl ?_
        refine zt_get (pc' := 58) (v := .ref (X.1.1 + 27)) hX dX1_comparison_55 rfl zf_X1_15 (by decide) zc_33 zs_20 (zrf_of (zv_20_0 hI6 zc_33)) ?_
        refine zt_iconst (pc' := 59) hX dX1_comparison_58 rfl ?_
        refine zt_aload_n (pc' := 60) hX dX1_comparison_59 rfl rfl ?_
        refine zt_get (pc' := 63) (v := .ref (X.1.1 + 27)) hX dX1_comparison_60 rfl zf_X1_15 (by decide) zc_33 zs_20 (zrf_of (zv_20_0 hI6 zc_33)) ?_
        refine zt_cVi (pc' := 66) hX dX1_comparison_63 rfl zm_yX5_placeHere zw_22_9 zc_27 (by decide) zs_14 (q := (RX5, TX5, 9)) rfl rfl (yc_X5_placeHere _ _ s3 hI6 f hT8) rfl rfl (Nat.le_of_ble_eq_true rfl) (by decide) (fun r114 s115 hr116 hp117 => ?_)
        obtain ⟨rfl, q118, q119, z120⟩ := hp117
        rw [hE14] at z120
        refine zt_cVv (pc' := 69) hX dX1_comparison_66 rfl zm_yX5_refuse zw_22_10 zc_27 (by decide) zs_14 (q := (RX5, TX5, 9)) rfl rfl (yc_X5_refuse _ _ s3 hI6 1 ⟨by omega, by omega⟩ r114 ⟨by omega, by omega⟩ (by omega) f hT8) rfl rfl (Nat.le_of_ble_eq_true rfl) (by decide) (fun r121 s122 hr123 hp124 => ?_)
        obtain ⟨hI125, hF126, hT127, z128⟩ := hp124
        have hE129 : yst s122 = yPno 1 r114 p13 := by rw [z128, hE14]
        have hF130 := zOn_tr hF12 hF126 zi_r12
        have L131 : yle (yst σ) (yPno 1 r114 p13) := yle_tr L15 yle_no
        have b132 := zv_20_2 hI125 zc_33
        have e133 := hF126 33 2 rfl
        exact zt_vret hX hR dX1_comparison_69 ⟨hI125, hF130, hT127, (by rw [hE129, yPno_f (p := r114) (d := 0) (fun o => by omega)]; exact yJ_tr z9 (yJ_cb z11 (by omega))), (by rw [hE129]; exact L131)⟩
      · refine zt_aload_n (pc' := 32) hX dX1_comparison_31 rfl rfl ?_
        refine zt_get (pc' := 35) (v := .ref (X.1.1 + 27)) hX dX1_comparison_32 rfl zf_X1_15 (by decide) zc_33 zs_20 (zrf_of (zv_20_0 hI6 zc_33)) ?_
        refine zt_cVv (pc' := 38) hX dX1_comparison_35 rfl zm_yX5_step zw_22_6 zc_27 (by decide) zs_14 (q := (RX5, TX5, 9)) rfl rfl (yc_X5_step _ _ s3 hI6 f hT8) rfl rfl (Nat.le_of_ble_eq_true rfl) (by decide) (fun r134 s135 hr136 hp137 => ?_)
        obtain ⟨hI138, hF139, hT140, z141⟩ := hp137
        have hE142 : yst s135 = yPx f p13 := by rw [z141, hE14]
        have hF143 := zOn_tr hF12 hF139 zi_r12
        have L144 : yle (yst σ) (yPx f p13) := yle_tr L15 (yle_x hT8 hE14)
        have b145 := zv_20_2 hI138 zc_33
        have e146 := hF139 33 2 rfl
        refine zt_aload_n (pc' := 39) hX dX1_comparison_38 rfl rfl ?_
        refine zt_iload_n (pc' := 40) hX dX1_comparison_39 rfl rfl ?_
        refine zt_cVv (pc' := 43) hX dX1_comparison_40 rfl zm_yX1_sum zw_21_19 zc_33 (by decide) zs_20 (q := (RX1, TX1, 3)) rfl rfl (yc_X1_sum_o1 _ _ s135 hI138 f hT140 rl (by omega) (6 :: k) hk (Nat.ne_of_beq_eq_false rfl)) rfl rfl (Nat.le_of_ble_eq_true rfl) (by decide) (fun r147 s148 hr149 hp150 => ?_)
        obtain ⟨hI151, hF152, hT153, z154, z155, z156⟩ := hp150
        rw [hE142] at z154
        rw [hE142] at z155
        have hF157 := zOn_tr hF143 hF152 zi_id
        obtain ⟨p158, hE159⟩ : ∃ p, yst s148 = p := ⟨_, rfl⟩
        rw [hE159] at z154
        rw [hE159] at z155
        have L160 := yle_tr L144 z155
        rw [hE159] at z156
        have b161 := zv_20_2 hI151 zc_33
        have e162 := hF152 33 2 rfl
        refine zt_aload_n (pc' := 44) hX dX1_comparison_43 rfl rfl ?_
        obtain ⟨k163, ek164, hk165⟩ := zv_20_1 hI151 zc_33
        refine zt_get (pc' := 47) (v := .ref (X.1.1 + k163)) hX dX1_comparison_44 rfl zf_X1_19 (by decide) zc_33 zs_20 (zrf_of ek164) ?_
        refine zt_iload_n (pc' := 48) hX dX1_comparison_47 rfl rfl ?_
        refine zt_cVv (pc' := 51) hX dX1_comparison_48 rfl zm_yX4_addStep zw_22_7 hk165 (by decide) zs_6 (q := (RX4, TX4, 2)) rfl rfl (yc_X4_addStep _ _ s148 hI151 k163 hk165 r18 ⟨by omega, by omega⟩) rfl rfl (Nat.le_of_ble_eq_true rfl) (by decide) (fun r166 s167 hr168 hp169 => ?_)
        obtain ⟨hI170, hF171⟩ := hp169
        have hF172 := zOn_tr hF157 hF171 zi_rp2
        have hT173 := yTk_rk hT153 (yRk_p hF171)
        have hE174 : yst s167 = p158 := (yst_rk (yRk_p hF171)).trans hE159
        have b175 := zv_20_2 hI170 zc_33
        have e176 := hF171 33 2 rfl
        refine zt_goto (tgt := 69) hX dX1_comparison_51 (by decide) ?_
        exact zt_vret hX hR dX1_comparison_69 ⟨hI170, hF172, hT173, (by rw [hE174]; exact yJ_tr z9 (yJ_tr (yJ_cs (by omega)) (yJ_tr z154 (yJ_ce z156)))), (by rw [hE174]; exact L160)⟩
set_option maxRecDepth 100000 in
set_option maxHeartbeats 4000000 in
theorem yc_X1_fact_o1 (l : Launch) (E : zEN) (σ : zSto) (hI : zInv σ) (f : Int → Int) (hT : yTk f σ) (rl : Int) (hrl : σ 33 2 = rl) (k : List Nat) (hk : ydep k = 1) : zCt l E yX1_fact cX1_fact 2 none 27 zNC zNC 0 0 σ [.ref (E.1 + 33), .int (zI 1)] (fun r σ' => zInv σ' ∧ zOn zR2 σ σ' ∧ yTk f σ' ∧ (yJ rl f (4, k, (yst σ)) (5, k, (yst σ'))) ∧ (yle (yst σ) (yst σ'))) := by
  refine zCt_of2 [some (.ref (E.1 + 33)), some (.int (zI 1))] (by decide +kernel) (Nat.le_of_ble_eq_true rfl) rfl ?_
  intro X hE_ hX hR hL hN
  subst hE_
  have hX : zok X cX1_fact RX1 27 := hX
  have hF := zOn_rf zR2 σ
  have hE0 : yst σ = yst σ := rfl
  have L0 := yle_rf (yst σ)
  have b1 := zv_20_2 hI zc_33
  refine zt_aload_n (pc' := 1) hX dX1_fact_0 rfl rfl ?_
  refine zt_get (pc' := 4) (v := .ref (X.1.1 + 27)) hX dX1_fact_1 rfl zf_X1_15 (by decide) zc_33 zs_20 (zrf_of (zv_20_0 hI zc_33)) ?_
  refine zt_cVi (pc' := 7) hX dX1_fact_4 rfl zm_yX5_wordHere zw_22_21 zc_27 (by decide) zs_14 (q := (RX5, TX5, 9)) rfl rfl (yc_X5_wordHere _ _ σ hI f hT) rfl rfl (Nat.le_of_ble_eq_true rfl) (by decide) (fun r2 s3 hr4 hp5 => ?_)
  obtain ⟨rfl, q6, q7, z8⟩ := hp5
  refine zt_bipush (pc' := 9) hX dX1_fact_7 rfl (by decide) (by decide) ?_
  refine zt_icne (pc' := 12) (tgt := 39) hX dX1_fact_9 rfl (by decide) ⟨by omega, by omega⟩ ⟨by omega, by omega⟩ (fun c9 => ?_) (fun c9 => ?_)
  · refine zt_aload_n (pc' := 40) hX dX1_fact_39 rfl rfl ?_
    refine zt_get (pc' := 43) (v := .ref (X.1.1 + 27)) hX dX1_fact_40 rfl zf_X1_15 (by decide) zc_33 zs_20 (zrf_of (zv_20_0 hI zc_33)) ?_
    refine zt_cVi (pc' := 46) hX dX1_fact_43 rfl zm_yX5_signHere zw_22_2 zc_27 (by decide) zs_14 (q := (RX5, TX5, 9)) rfl rfl (yc_X5_signHere _ _ σ hI f hT) rfl rfl (Nat.le_of_ble_eq_true rfl) (by decide) (fun r10 s11 hr12 hp13 => ?_)
    obtain ⟨rfl, q14, q15, z16⟩ := hp13
    refine zt_bipush (pc' := 48) hX dX1_fact_46 rfl (by decide) (by decide) ?_
    refine zt_icne (pc' := 51) (tgt := 78) hX dX1_fact_48 rfl (by decide) ⟨by omega, by omega⟩ ⟨by omega, by omega⟩ (fun c17 => ?_) (fun c17 => ?_)
    · refine zt_aload_n (pc' := 79) hX dX1_fact_78 rfl rfl ?_
      refine zt_get (pc' := 82) (v := .ref (X.1.1 + 27)) hX dX1_fact_79 rfl zf_X1_15 (by decide) zc_33 zs_20 (zrf_of (zv_20_0 hI zc_33)) ?_
      refine zt_cVi (pc' := 85) hX dX1_fact_82 rfl zm_yX5_wordHere zw_22_21 zc_27 (by decide) zs_14 (q := (RX5, TX5, 9)) rfl rfl (yc_X5_wordHere _ _ σ hI f hT) rfl rfl (Nat.le_of_ble_eq_true rfl) (by decide) (fun r18 s19 hr20 hp21 => ?_)
      obtain ⟨rfl, q22, q23, z24⟩ := hp21
      refine zt_bipush (pc' := 87) hX dX1_fact_85 rfl (by decide) (by decide) ?_
      refine zt_icne (pc' := 90) (tgt := 109) hX dX1_fact_87 rfl (by decide) ⟨by omega, by omega⟩ ⟨by omega, by omega⟩ (fun c25 => ?_) (fun c25 => ?_)
      · refine zt_aload_n (pc' := 110) hX dX1_fact_109 rfl rfl ?_
        refine zt_iload_n (pc' := 111) hX dX1_fact_110 rfl rfl ?_
        refine zt_cVv (pc' := 114) hX dX1_fact_111 rfl zm_yX1_comparison zw_24_14 zc_33 (by decide) zs_20 (q := (RX1, TX1, 3)) rfl rfl (yc_X1_comparison_o1 _ _ σ hI f hT rl (by omega) k hk) rfl rfl (Nat.le_of_ble_eq_true rfl) (by decide) (fun r26 s27 hr28 hp29 => ?_)
        obtain ⟨hI30, hF31, hT32, z33, z34⟩ := hp29
        have hF35 := zOn_tr hF hF31 zi_id
        obtain ⟨p36, hE37⟩ : ∃ p, yst s27 = p := ⟨_, rfl⟩
        rw [hE37] at z33
        rw [hE37] at z34
        have L38 := yle_tr L0 z34
        have b39 := zv_20_2 hI30 zc_33
        have e40 := hF31 33 2 rfl
        exact zt_vret hX hR dX1_fact_114 ⟨hI30, hF35, hT32, (by rw [hE37]; exact yJ_tr (yJ_cmp (by omega) (by omega) (by omega)) z33), (by rw [hE37]; exact L38)⟩
      · refine zt_aload_n (pc' := 91) hX dX1_fact_90 rfl rfl ?_
        refine zt_get (pc' := 94) (v := .ref (X.1.1 + 27)) hX dX1_fact_91 rfl zf_X1_15 (by decide) zc_33 zs_20 (zrf_of (zv_20_0 hI zc_33)) ?_
        refine zt_cVv (pc' := 97) hX dX1_fact_94 rfl zm_yX5_step zw_22_6 zc_27 (by decide) zs_14 (q := (RX5, TX5, 9)) rfl rfl (yc_X5_step _ _ σ hI f hT) rfl rfl (Nat.le_of_ble_eq_true rfl) (by decide) (fun r41 s42 hr43 hp44 => ?_)
        obtain ⟨hI45, hF46, hT47, z48⟩ := hp44
        have hE49 : yst s42 = yPx f (yst σ) := z48
        have hF50 := zOn_tr hF hF46 zi_r12
        have L51 : yle (yst σ) (yPx f (yst σ)) := yle_tr L0 (yle_x hT hE0)
        have b52 := zv_20_2 hI45 zc_33
        have e53 := hF46 33 2 rfl
        refine zt_aload_n (pc' := 98) hX dX1_fact_97 rfl rfl ?_
        obtain ⟨k54, ek55, hk56⟩ := zv_20_1 hI45 zc_33
        refine zt_get (pc' := 101) (v := .ref (X.1.1 + k54)) hX dX1_fact_98 rfl zf_X1_19 (by decide) zc_33 zs_20 (zrf_of ek55) ?_
        refine zt_bipush (pc' := 103) hX dX1_fact_101 rfl (by decide) (by decide) ?_
        refine zt_cVv (pc' := 106) hX dX1_fact_103 rfl zm_yX4_addStep zw_22_7 hk56 (by decide) zs_6 (q := (RX4, TX4, 2)) rfl rfl (yc_X4_addStep _ _ s42 hI45 k54 hk56 24 ⟨by omega, by omega⟩) rfl rfl (Nat.le_of_ble_eq_true rfl) (by decide) (fun r57 s58 hr59 hp60 => ?_)
        obtain ⟨hI61, hF62⟩ := hp60
        have hF63 := zOn_tr hF50 hF62 zi_rp2
        have hT64 := yTk_rk hT47 (yRk_p hF62)
        have hE65 : yst s58 = yPx f (yst σ) := (yst_rk (yRk_p hF62)).trans hE49
        have b66 := zv_20_2 hI61 zc_33
        have e67 := hF62 33 2 rfl
        refine zt_goto (tgt := 114) hX dX1_fact_106 (by decide) ?_
        exact zt_vret hX hR dX1_fact_114 ⟨hI61, hF63, hT64, (by rw [hE65]; exact yJ_all (by omega)), (by rw [hE65]; exact L51)⟩
    · refine zt_aload_n (pc' := 52) hX dX1_fact_51 rfl rfl ?_
      refine zt_iload_n (pc' := 53) hX dX1_fact_52 rfl rfl ?_
      refine zt_cVz (pc' := 56) hX dX1_fact_53 rfl zm_yX1_opens zw_22_11 zc_33 (by decide) zs_20 (q := (RX1, TX1, 3)) rfl rfl (yc_X1_opens_o1 _ _ σ hI f hT) rfl rfl (Nat.le_of_ble_eq_true rfl) (by decide) (fun r68 s69 hr70 hp71 => ?_)
      obtain ⟨hI72, hF73, q74, q75, hT76, z77⟩ := hp71
      have hE78 : yst s69 = yPx f (yst σ) := z77
      have hF79 := zOn_tr hF hF73 zi_r12
      have L80 : yle (yst σ) (yPx f (yst σ)) := yle_tr L0 (yle_x hT hE0)
      have b81 := zv_20_2 hI72 zc_33
      have e82 := hF73 33 2 rfl
      refine zt_ifeq (pc' := 59) (tgt := 114) hX dX1_fact_56 rfl (by decide) ⟨by omega, by omega⟩ (fun c83 => ?_) (fun c83 => ?_)
      · exact absurd c83 (by omega)
      · refine zt_aload_n (pc' := 60) hX dX1_fact_59 rfl rfl ?_
        refine zt_iload_n (pc' := 61) hX dX1_fact_60 rfl rfl ?_
        refine zt_iconst (pc' := 62) hX dX1_fact_61 rfl ?_
        refine zt_iadd (pc' := 63) hX dX1_fact_62 rfl ?_
        rw [show (1 + 1 : Int) = 2 from rfl]
        refine zt_cVv (pc' := 66) hX dX1_fact_63 rfl zm_yX1_test zw_24_2 zc_33 (by decide) zs_20 (q := (RX1, TX1, 3)) rfl rfl (yc_X1_test_o2 _ _ s69 hI72 f hT76 rl (by omega) (7 :: k) (by show ydep k + 1 = _; omega) (Nat.ne_of_beq_eq_false rfl)) rfl rfl (Nat.le_of_ble_eq_true rfl) (by decide) (fun r84 s85 hr86 hp87 => ?_)
        obtain ⟨hI88, hF89, hT90, z91, z92, z93⟩ := hp87
        rw [hE78] at z91
        rw [hE78] at z92
        have hF94 := zOn_tr hF79 hF89 zi_id
        obtain ⟨p95, hE96⟩ : ∃ p, yst s85 = p := ⟨_, rfl⟩
        rw [hE96] at z91
        rw [hE96] at z92
        have L97 := yle_tr L80 z92
        rw [hE96] at z93
        have b98 := zv_20_2 hI88 zc_33
        have e99 := hF89 33 2 rfl
        refine zt_aload_n (pc' := 67) hX dX1_fact_66 rfl rfl ?_
        refine zt_get (pc' := 70) (v := .ref (X.1.1 + 27)) hX dX1_fact_67 rfl zf_X1_15 (by decide) zc_33 zs_20 (zrf_of (zv_20_0 hI88 zc_33)) ?_
        refine zt_bipush (pc' := 72) hX dX1_fact_70 rfl (by decide) (by decide) ?_
        refine zt_cVv (pc' := 75) hX dX1_fact_72 rfl zm_yX5_takeSign zw_22_15 zc_27 (by decide) zs_14 (q := (RX5, TX5, 9)) rfl rfl (yc_X5_takeSign _ _ s85 hI88 93 ⟨by omega, by omega⟩ f hT90) rfl rfl (Nat.le_of_ble_eq_true rfl) (by decide) (fun r100 s101 hr102 hp103 => ?_)
        obtain ⟨hI104, hF105, hT106, z107⟩ := hp103
        have hE108 : yst s101 = yPs f 93 p95 := by rw [z107, hE96]
        have hF109 := zOn_tr hF94 hF105 zi_r12
        have L110 : yle (yst σ) (yPs f 93 p95) := yle_tr L97 (yle_s hT90 hE96)
        have b111 := zv_20_2 hI104 zc_33
        have e112 := hF105 33 2 rfl
        refine zt_goto (tgt := 114) hX dX1_fact_75 (by decide) ?_
        exact zt_vret hX hR dX1_fact_114 ⟨hI104, hF109, hT106, (by rw [hE108]; exact yJ_tr (yJ_sq (by omega) (by omega)) (yJ_tr z91 (yJ_qc z93))), (by rw [hE108]; exact L110)⟩
  · refine zt_aload_n (pc' := 13) hX dX1_fact_12 rfl rfl ?_
    refine zt_iload_n (pc' := 14) hX dX1_fact_13 rfl rfl ?_
    refine zt_cVz (pc' := 17) hX dX1_fact_14 rfl zm_yX1_opens zw_22_11 zc_33 (by decide) zs_20 (q := (RX1, TX1, 3)) rfl rfl (yc_X1_opens_o1 _ _ σ hI f hT) rfl rfl (Nat.le_of_ble_eq_true rfl) (by decide) (fun r113 s114 hr115 hp116 => ?_)
    obtain ⟨hI117, hF118, q119, q120, hT121, z122⟩ := hp116
    have hE123 : yst s114 = yPx f (yst σ) := z122
    have hF124 := zOn_tr hF hF118 zi_r12
    have L125 : yle (yst σ) (yPx f (yst σ)) := yle_tr L0 (yle_x hT hE0)
    have b126 := zv_20_2 hI117 zc_33
    have e127 := hF118 33 2 rfl
    refine zt_ifeq (pc' := 20) (tgt := 114) hX dX1_fact_17 rfl (by decide) ⟨by omega, by omega⟩ (fun c128 => ?_) (fun c128 => ?_)
    · exact absurd c128 (by omega)
    · refine zt_aload_n (pc' := 21) hX dX1_fact_20 rfl rfl ?_
      refine zt_iload_n (pc' := 22) hX dX1_fact_21 rfl rfl ?_
      refine zt_iconst (pc' := 23) hX dX1_fact_22 rfl ?_
      refine zt_iadd (pc' := 24) hX dX1_fact_23 rfl ?_
      rw [show (1 + 1 : Int) = 2 from rfl]
      refine zt_cVv (pc' := 27) hX dX1_fact_24 rfl zm_yX1_fact zw_24_10 zc_33 (by decide) zs_20 (q := (RX1, TX1, 3)) rfl rfl (yc_X1_fact_o2 _ _ s114 hI117 f hT121 rl (by omega) (8 :: k) (by show ydep k + 1 = _; omega)) rfl rfl (Nat.le_of_ble_eq_true rfl) (by decide) (fun r129 s130 hr131 hp132 => ?_)
      obtain ⟨hI133, hF134, hT135, z136, z137⟩ := hp132
      rw [hE123] at z136
      rw [hE123] at z137
      have hF138 := zOn_tr hF124 hF134 zi_id
      obtain ⟨p139, hE140⟩ : ∃ p, yst s130 = p := ⟨_, rfl⟩
      rw [hE140] at z136
      rw [hE140] at z137
      have L141 := yle_tr L125 z137
      have b142 := zv_20_2 hI133 zc_33
      have e143 := hF134 33 2 rfl
      refine zt_aload_n (pc' := 28) hX dX1_fact_27 rfl rfl ?_
      obtain ⟨k144, ek145, hk146⟩ := zv_20_1 hI133 zc_33
      refine zt_get (pc' := 31) (v := .ref (X.1.1 + k144)) hX dX1_fact_28 rfl zf_X1_19 (by decide) zc_33 zs_20 (zrf_of ek145) ?_
      refine zt_bipush (pc' := 33) hX dX1_fact_31 rfl (by decide) (by decide) ?_
      refine zt_cVv (pc' := 36) hX dX1_fact_33 rfl zm_yX4_addStep zw_22_7 hk146 (by decide) zs_6 (q := (RX4, TX4, 2)) rfl rfl (yc_X4_addStep _ _ s130 hI133 k144 hk146 23 ⟨by omega, by omega⟩) rfl rfl (Nat.le_of_ble_eq_true rfl) (by decide) (fun r147 s148 hr149 hp150 => ?_)
      obtain ⟨hI151, hF152⟩ := hp150
      have hF153 := zOn_tr hF138 hF152 zi_rp2
      have hT154 := yTk_rk hT135 (yRk_p hF152)
      have hE155 : yst s148 = p139 := (yst_rk (yRk_p hF152)).trans hE140
      have b156 := zv_20_2 hI151 zc_33
      have e157 := hF152 33 2 rfl
      refine zt_goto (tgt := 114) hX dX1_fact_36 (by decide) ?_
      exact zt_vret hX hR dX1_fact_114 ⟨hI151, hF153, hT154, (by rw [hE155]; exact yJ_tr (yJ_not (by omega) (by omega)) (yJ_tr z136 yJ_nt)), (by rw [hE155]; exact L141)⟩
set_option maxRecDepth 100000 in
set_option maxHeartbeats 4000000 in
theorem yc_X1_both_o1 (l : Launch) (E : zEN) (σ : zSto) (hI : zInv σ) (f : Int → Int) (hT : yTk f σ) (rl : Int) (hrl : σ 33 2 = rl) (k : List Nat) (hk : ydep k = 1) (ht : ytop k ≠ 8) : zCt l E yX1_both cX1_both 3 none 28 zNC zNC 0 0 σ [.ref (E.1 + 33), .int (zI 1)] (fun r σ' => zInv σ' ∧ zOn zR2 σ σ' ∧ yTk f σ' ∧ (yJ rl f (4, k, (yst σ)) (5, k, (yst σ'))) ∧ (yle (yst σ) (yst σ')) ∧ (yPi f (yst σ') ≠ 22)) := by
  refine zCt_of2 [some (.ref (E.1 + 33)), some (.int (zI 1)), none] (by decide +kernel) (Nat.le_of_ble_eq_true rfl) rfl ?_
  intro X hE_ hX hR hL hN
  subst hE_
  have hX : zok X cX1_both RX1 28 := hX
  have hF := zOn_rf zR2 σ
  have hE0 : yst σ = yst σ := rfl
  have L0 := yle_rf (yst σ)
  have b1 := zv_20_2 hI zc_33
  refine zt_aload_n (pc' := 1) hX dX1_both_0 rfl rfl ?_
  refine zt_iload_n (pc' := 2) hX dX1_both_1 rfl rfl ?_
  refine zt_cVv (pc' := 5) hX dX1_both_2 rfl zm_yX1_fact zw_24_10 zc_33 (by decide) zs_20 (q := (RX1, TX1, 3)) rfl rfl (yc_X1_fact_o1 _ _ σ hI f hT rl (by omega) k hk) rfl rfl (Nat.le_of_ble_eq_true rfl) (by decide) (fun r2 s3 hr4 hp5 => ?_)
  obtain ⟨hI6, hF7, hT8, z9, z10⟩ := hp5
  have hF11 := zOn_tr hF hF7 zi_id
  obtain ⟨p12, hE13⟩ : ∃ p, yst s3 = p := ⟨_, rfl⟩
  rw [hE13] at z9
  rw [hE13] at z10
  have L14 := yle_tr L0 z10
  have b15 := zv_20_2 hI6 zc_33
  have e16 := hF7 33 2 rfl
  have g17 := z9
  refine zt_iconst (pc' := 6) hX dX1_both_5 rfl ?_
  refine zt_istore_n (pc' := 7) (lv' := [some (.ref (X.1.1 + 33)), some (.int (zI 1)), some (.int (zI 0))]) hX dX1_both_6 rfl hL (by decide) rfl ?_
  have L_7_30 : ∀ (N : Nat) (x18 : Int) (s21 : zSto) (p24 : yP), 0 ≤ x18 → x18 ≤ 1600 → zInv s21 → zOn zR2 σ s21 → yTk f s21 → yst s21 = p24 → s21 33 2 = σ 33 2 → yJ rl f (4, k, yst σ) (5, k, p24) → yle (yst σ) p24 → yge x18 p24 → ((1601 - x18).toNat) < N → zF X s21 7 [some (.ref (X.1.1 + 33)), some (.int (zI 1)), some (.int (zI x18))] [] := by
    intro N
    induction N with
    | zero =>
      intro x18 s21 p24 h19 h20 hI22 hF23 hT25 hE26 g27 g28 g29 g30 hm32
      exact absurd hm32 (Nat.not_lt_zero _)
    | succ N ih33 =>
      intro x18 s21 p24 h19 h20 hI22 hF23 hT25 hE26 g27 g28 g29 g30 hm32
      have b34 := zv_20_2 hI22 zc_33
      have hx := yge_x hT25 hE26 g30
      refine zt_iload_n (pc' := 8) hX dX1_both_7 rfl rfl ?_
      refine zt_sipush (pc' := 11) hX dX1_both_8 rfl (by decide) (by decide) ?_
      refine zt_icge (pc' := 14) (tgt := 53) hX dX1_both_11 rfl (by decide) ⟨by omega, by omega⟩ ⟨by omega, by omega⟩ (fun c35 => ?_) (fun c35 => ?_)
      · exact zt_vret hX hR dX1_both_53 ⟨hI22, hF23, hT25, (by rw [hE26]; exact g28), (by rw [hE26]; exact g29), (by rw [hE26]; omega)⟩
      · refine zt_aload_n (pc' := 15) hX dX1_both_14 rfl rfl ?_
        refine zt_get (pc' := 18) (v := .ref (X.1.1 + 27)) hX dX1_both_15 rfl zf_X1_15 (by decide) zc_33 zs_20 (zrf_of (zv_20_0 hI22 zc_33)) ?_
        refine zt_cVi (pc' := 21) hX dX1_both_18 rfl zm_yX5_wordHere zw_22_21 zc_27 (by decide) zs_14 (q := (RX5, TX5, 9)) rfl rfl (yc_X5_wordHere _ _ s21 hI22 f hT25) rfl rfl (Nat.le_of_ble_eq_true rfl) (by decide) (fun r36 s37 hr38 hp39 => ?_)
        obtain ⟨rfl, q40, q41, z42⟩ := hp39
        rw [hE26] at z42
        refine zt_bipush (pc' := 23) hX dX1_both_21 rfl (by decide) (by decide) ?_
        refine zt_icne (pc' := 26) (tgt := 53) hX dX1_both_23 rfl (by decide) ⟨by omega, by omega⟩ ⟨by omega, by omega⟩ (fun c43 => ?_) (fun c43 => ?_)
        · exact zt_vret hX hR dX1_both_53 ⟨hI22, hF23, hT25, (by rw [hE26]; exact g28), (by rw [hE26]; exact g29), (by rw [hE26]; omega)⟩
        · refine zt_aload_n (pc' := 27) hX dX1_both_26 rfl rfl ?_
          refine zt_get (pc' := 30) (v := .ref (X.1.1 + 27)) hX dX1_both_27 rfl zf_X1_15 (by decide) zc_33 zs_20 (zrf_of (zv_20_0 hI22 zc_33)) ?_
          refine zt_cVv (pc' := 33) hX dX1_both_30 rfl zm_yX5_step zw_22_6 zc_27 (by decide) zs_14 (q := (RX5, TX5, 9)) rfl rfl (yc_X5_step _ _ s21 hI22 f hT25) rfl rfl (Nat.le_of_ble_eq_true rfl) (by decide) (fun r44 s45 hr46 hp47 => ?_)
          obtain ⟨hI48, hF49, hT50, z51⟩ := hp47
          have hE52 : yst s45 = yPx f p24 := by rw [z51, hE26]
          have hF53 := zOn_tr hF23 hF49 zi_r12
          have L54 : yle (yst σ) (yPx f p24) := yle_tr g29 (yle_x hT25 hE26)
          have b55 := zv_20_2 hI48 zc_33
          have e56 := hF49 33 2 rfl
          have g57 := yJ_tr g28 (yJ_ao ht (by omega))
          have I58 := yge_1 hT25 hE26 g30 (by omega)
          refine zt_aload_n (pc' := 34) hX dX1_both_33 rfl rfl ?_
          refine zt_iload_n (pc' := 35) hX dX1_both_34 rfl rfl ?_
          refine zt_cVv (pc' := 38) hX dX1_both_35 rfl zm_yX1_fact zw_24_10 zc_33 (by decide) zs_20 (q := (RX1, TX1, 3)) rfl rfl (yc_X1_fact_o1 _ _ s45 hI48 f hT50 rl (by omega) k hk) rfl rfl (Nat.le_of_ble_eq_true rfl) (by decide) (fun r59 s60 hr61 hp62 => ?_)
          obtain ⟨hI63, hF64, hT65, z66, z67⟩ := hp62
          rw [hE52] at z66
          rw [hE52] at z67
          have hF68 := zOn_tr hF53 hF64 zi_id
          obtain ⟨p69, hE70⟩ : ∃ p, yst s60 = p := ⟨_, rfl⟩
          rw [hE70] at z66
          rw [hE70] at z67
          have L71 := yle_tr L54 z67
          have b72 := zv_20_2 hI63 zc_33
          have e73 := hF64 33 2 rfl
          have g74 := yJ_tr g57 z66
          have I75 := yge_l I58 z67
          refine zt_aload_n (pc' := 39) hX dX1_both_38 rfl rfl ?_
          obtain ⟨k76, ek77, hk78⟩ := zv_20_1 hI63 zc_33
          refine zt_get (pc' := 42) (v := .ref (X.1.1 + k76)) hX dX1_both_39 rfl zf_X1_19 (by decide) zc_33 zs_20 (zrf_of ek77) ?_
          refine zt_bipush (pc' := 44) hX dX1_both_42 rfl (by decide) (by decide) ?_
          refine zt_cVv (pc' := 47) hX dX1_both_44 rfl zm_yX4_addStep zw_22_7 hk78 (by decide) zs_6 (q := (RX4, TX4, 2)) rfl rfl (yc_X4_addStep _ _ s60 hI63 k76 hk78 22 ⟨by omega, by omega⟩) rfl rfl (Nat.le_of_ble_eq_true rfl) (by decide) (fun r79 s80 hr81 hp82 => ?_)
          obtain ⟨hI83, hF84⟩ := hp82
          have hF85 := zOn_tr hF68 hF84 zi_rp2
          have hT86 := yTk_rk hT65 (yRk_p hF84)
          have hE87 : yst s80 = p69 := (yst_rk (yRk_p hF84)).trans hE70
          have b88 := zv_20_2 hI83 zc_33
          have e89 := hF84 33 2 rfl
          refine zt_iinc (pc' := 50) (lv' := [some (.ref (X.1.1 + 33)), some (.int (zI 1)), some (.int (zI (x18 + 1)))]) hX dX1_both_47 rfl rfl hL (by decide) rfl ?_
          refine zt_goto (tgt := 7) hX dX1_both_50 (by decide) ?_
          exact ih33 (x18 + 1) s80 p69 (by omega) (by omega) hI83 hF85 hT86 hE87 (by omega) g74 L71 I75 (by omega)
  exact L_7_30 _ 0 s3 p12 (by omega) (by omega) hI6 hF11 hT8 hE13 (by omega) g17 L14 (yge_0 hT8 hE13) (Nat.lt_succ_self _)
set_option maxRecDepth 100000 in
set_option maxHeartbeats 4000000 in
theorem yc_X1_test_o1 (l : Launch) (E : zEN) (σ : zSto) (hI : zInv σ) (f : Int → Int) (hT : yTk f σ) (rl : Int) (hrl : σ 33 2 = rl) (k : List Nat) (hk : ydep k = 1) (ht : ytop k ≠ 8) : zCt l E yX1_test cX1_test 3 none 29 zNC zNC 0 0 σ [.ref (E.1 + 33), .int (zI 1)] (fun r σ' => zInv σ' ∧ zOn zR2 σ σ' ∧ yTk f σ' ∧ (yJ rl f (4, k, (yst σ)) (5, k, (yst σ'))) ∧ (yle (yst σ) (yst σ')) ∧ (yPi f (yst σ') ≠ 22 ∧ yPi f (yst σ') ≠ 21)) := by
  refine zCt_of2 [some (.ref (E.1 + 33)), some (.int (zI 1)), none] (by decide +kernel) (Nat.le_of_ble_eq_true rfl) rfl ?_
  intro X hE_ hX hR hL hN
  subst hE_
  have hX : zok X cX1_test RX1 29 := hX
  have hF := zOn_rf zR2 σ
  have hE0 : yst σ = yst σ := rfl
  have L0 := yle_rf (yst σ)
  have b1 := zv_20_2 hI zc_33
  refine zt_aload_n (pc' := 1) hX dX1_test_0 rfl rfl ?_
  refine zt_iload_n (pc' := 2) hX dX1_test_1 rfl rfl ?_
  refine zt_cVv (pc' := 5) hX dX1_test_2 rfl zm_yX1_both zw_24_6 zc_33 (by decide) zs_20 (q := (RX1, TX1, 3)) rfl rfl (yc_X1_both_o1 _ _ σ hI f hT rl (by omega) k hk ht) rfl rfl (Nat.le_of_ble_eq_true rfl) (by decide) (fun r2 s3 hr4 hp5 => ?_)
  obtain ⟨hI6, hF7, hT8, z9, z10, z11⟩ := hp5
  have hF12 := zOn_tr hF hF7 zi_id
  obtain ⟨p13, hE14⟩ : ∃ p, yst s3 = p := ⟨_, rfl⟩
  rw [hE14] at z9
  rw [hE14] at z10
  have L15 := yle_tr L0 z10
  rw [hE14] at z11
  have b16 := zv_20_2 hI6 zc_33
  have e17 := hF7 33 2 rfl
  have g18 := z9
  refine zt_iconst (pc' := 6) hX dX1_test_5 rfl ?_
  refine zt_istore_n (pc' := 7) (lv' := [some (.ref (X.1.1 + 33)), some (.int (zI 1)), some (.int (zI 0))]) hX dX1_test_6 rfl hL (by decide) rfl ?_
  have L_7_32 : ∀ (N : Nat) (x19 : Int) (s22 : zSto) (p25 : yP), 0 ≤ x19 → x19 ≤ 1600 → zInv s22 → zOn zR2 σ s22 → yTk f s22 → yst s22 = p25 → yPi f p25 ≠ 22 → s22 33 2 = σ 33 2 → yJ rl f (4, k, yst σ) (5, k, p25) → yle (yst σ) p25 → yge x19 p25 → ((1601 - x19).toNat) < N → zF X s22 7 [some (.ref (X.1.1 + 33)), some (.int (zI 1)), some (.int (zI x19))] [] := by
    intro N
    induction N with
    | zero =>
      intro x19 s22 p25 h20 h21 hI23 hF24 hT26 hE27 g28 g29 g30 g31 g32 hm34
      exact absurd hm34 (Nat.not_lt_zero _)
    | succ N ih35 =>
      intro x19 s22 p25 h20 h21 hI23 hF24 hT26 hE27 g28 g29 g30 g31 g32 hm34
      have b36 := zv_20_2 hI23 zc_33
      have hx := yge_x hT26 hE27 g32
      refine zt_iload_n (pc' := 8) hX dX1_test_7 rfl rfl ?_
      refine zt_sipush (pc' := 11) hX dX1_test_8 rfl (by decide) (by decide) ?_
      refine zt_icge (pc' := 14) (tgt := 53) hX dX1_test_11 rfl (by decide) ⟨by omega, by omega⟩ ⟨by omega, by omega⟩ (fun c37 => ?_) (fun c37 => ?_)
      · exact zt_vret hX hR dX1_test_53 ⟨hI23, hF24, hT26, (by rw [hE27]; exact g30), (by rw [hE27]; exact g31), (by rw [hE27]; omega)⟩
      · refine zt_aload_n (pc' := 15) hX dX1_test_14 rfl rfl ?_
        refine zt_get (pc' := 18) (v := .ref (X.1.1 + 27)) hX dX1_test_15 rfl zf_X1_15 (by decide) zc_33 zs_20 (zrf_of (zv_20_0 hI23 zc_33)) ?_
        refine zt_cVi (pc' := 21) hX dX1_test_18 rfl zm_yX5_wordHere zw_22_21 zc_27 (by decide) zs_14 (q := (RX5, TX5, 9)) rfl rfl (yc_X5_wordHere _ _ s22 hI23 f hT26) rfl rfl (Nat.le_of_ble_eq_true rfl) (by decide) (fun r38 s39 hr40 hp41 => ?_)
        obtain ⟨rfl, q42, q43, z44⟩ := hp41
        rw [hE27] at z44
        refine zt_bipush (pc' := 23) hX dX1_test_21 rfl (by decide) (by decide) ?_
        refine zt_icne (pc' := 26) (tgt := 53) hX dX1_test_23 rfl (by decide) ⟨by omega, by omega⟩ ⟨by omega, by omega⟩ (fun c45 => ?_) (fun c45 => ?_)
        · exact zt_vret hX hR dX1_test_53 ⟨hI23, hF24, hT26, (by rw [hE27]; exact g30), (by rw [hE27]; exact g31), (by rw [hE27]; omega)⟩
        · refine zt_aload_n (pc' := 27) hX dX1_test_26 rfl rfl ?_
          refine zt_get (pc' := 30) (v := .ref (X.1.1 + 27)) hX dX1_test_27 rfl zf_X1_15 (by decide) zc_33 zs_20 (zrf_of (zv_20_0 hI23 zc_33)) ?_
          refine zt_cVv (pc' := 33) hX dX1_test_30 rfl zm_yX5_step zw_22_6 zc_27 (by decide) zs_14 (q := (RX5, TX5, 9)) rfl rfl (yc_X5_step _ _ s22 hI23 f hT26) rfl rfl (Nat.le_of_ble_eq_true rfl) (by decide) (fun r46 s47 hr48 hp49 => ?_)
          obtain ⟨hI50, hF51, hT52, z53⟩ := hp49
          have hE54 : yst s47 = yPx f p25 := by rw [z53, hE27]
          have hF55 := zOn_tr hF24 hF51 zi_r12
          have L56 : yle (yst σ) (yPx f p25) := yle_tr g31 (yle_x hT26 hE27)
          have b57 := zv_20_2 hI50 zc_33
          have e58 := hF51 33 2 rfl
          have g59 := yJ_tr g30 (yJ_ao ht (by omega))
          have I60 := yge_1 hT26 hE27 g32 (by omega)
          refine zt_aload_n (pc' := 34) hX dX1_test_33 rfl rfl ?_
          refine zt_iload_n (pc' := 35) hX dX1_test_34 rfl rfl ?_
          refine zt_cVv (pc' := 38) hX dX1_test_35 rfl zm_yX1_both zw_24_6 zc_33 (by decide) zs_20 (q := (RX1, TX1, 3)) rfl rfl (yc_X1_both_o1 _ _ s47 hI50 f hT52 rl (by omega) k hk ht) rfl rfl (Nat.le_of_ble_eq_true rfl) (by decide) (fun r61 s62 hr63 hp64 => ?_)
          obtain ⟨hI65, hF66, hT67, z68, z69, z70⟩ := hp64
          rw [hE54] at z68
          rw [hE54] at z69
          have hF71 := zOn_tr hF55 hF66 zi_id
          obtain ⟨p72, hE73⟩ : ∃ p, yst s62 = p := ⟨_, rfl⟩
          rw [hE73] at z68
          rw [hE73] at z69
          have L74 := yle_tr L56 z69
          rw [hE73] at z70
          have b75 := zv_20_2 hI65 zc_33
          have e76 := hF66 33 2 rfl
          have g77 := yJ_tr g59 z68
          have I78 := yge_l I60 z69
          refine zt_aload_n (pc' := 39) hX dX1_test_38 rfl rfl ?_
          obtain ⟨k79, ek80, hk81⟩ := zv_20_1 hI65 zc_33
          refine zt_get (pc' := 42) (v := .ref (X.1.1 + k79)) hX dX1_test_39 rfl zf_X1_19 (by decide) zc_33 zs_20 (zrf_of ek80) ?_
          refine zt_bipush (pc' := 44) hX dX1_test_42 rfl (by decide) (by decide) ?_
          refine zt_cVv (pc' := 47) hX dX1_test_44 rfl zm_yX4_addStep zw_22_7 hk81 (by decide) zs_6 (q := (RX4, TX4, 2)) rfl rfl (yc_X4_addStep _ _ s62 hI65 k79 hk81 21 ⟨by omega, by omega⟩) rfl rfl (Nat.le_of_ble_eq_true rfl) (by decide) (fun r82 s83 hr84 hp85 => ?_)
          obtain ⟨hI86, hF87⟩ := hp85
          have hF88 := zOn_tr hF71 hF87 zi_rp2
          have hT89 := yTk_rk hT67 (yRk_p hF87)
          have hE90 : yst s83 = p72 := (yst_rk (yRk_p hF87)).trans hE73
          have b91 := zv_20_2 hI86 zc_33
          have e92 := hF87 33 2 rfl
          refine zt_iinc (pc' := 50) (lv' := [some (.ref (X.1.1 + 33)), some (.int (zI 1)), some (.int (zI (x19 + 1)))]) hX dX1_test_47 rfl rfl hL (by decide) rfl ?_
          refine zt_goto (tgt := 7) hX dX1_test_50 (by decide) ?_
          exact ih35 (x19 + 1) s83 p72 (by omega) (by omega) hI86 hF88 hT89 hE90 (by omega) (by omega) g77 L74 I78 (by omega)
  exact L_7_32 _ 0 s3 p13 (by omega) (by omega) hI6 hF12 hT8 hE14 (by omega) (by omega) g18 L15 (yge_0 hT8 hE14) (Nat.lt_succ_self _)
set_option maxRecDepth 100000 in
set_option maxHeartbeats 4000000 in
theorem yc_X1_opens_o0 (l : Launch) (E : zEN) (σ : zSto) (hI : zInv σ) (f : Int → Int) (hT : yTk f σ) : zCt l E yX1_opens cX1_opens 2 (some .boolean) 1 zNC zNC 0 0 σ [.ref (E.1 + 33), .int (zI 0)] (fun r σ' => zInv σ' ∧ zOn zR1 σ σ' ∧ 1 ≤ r ∧ r ≤ 1 ∧ yTk f σ' ∧ ((yst σ') = yPx f (yst σ))) := by
  refine zCt_of2 [some (.ref (E.1 + 33)), some (.int (zI 0))] (by decide +kernel) (Nat.le_of_ble_eq_true rfl) rfl ?_
  intro X hE_ hX hR hL hN
  subst hE_
  have hX : zok X cX1_opens RX1 1 := hX
  have hF := zOn_rf zR1 σ
  have hE0 : yst σ = yst σ := rfl
  have L0 := yle_rf (yst σ)
  refine zt_iload_n (pc' := 1) hX dX1_opens_0 rfl rfl ?_
  refine zt_bipush (pc' := 3) hX dX1_opens_1 rfl (by decide) (by decide) ?_
  refine zt_iclt (pc' := 6) (tgt := 23) hX dX1_opens_3 rfl (by decide) ⟨by omega, by omega⟩ ⟨by omega, by omega⟩ (fun c1 => ?_) (fun c1 => ?_)
  · refine zt_aload_n (pc' := 24) hX dX1_opens_23 rfl rfl ?_
    refine zt_get (pc' := 27) (v := .ref (X.1.1 + 27)) hX dX1_opens_24 rfl zf_X1_15 (by decide) zc_33 zs_20 (zrf_of (zv_20_0 hI zc_33)) ?_
    refine zt_cVv (pc' := 30) hX dX1_opens_27 rfl zm_yX5_step zw_22_6 zc_27 (by decide) zs_14 (q := (RX5, TX5, 9)) rfl rfl (yc_X5_step _ _ σ hI f hT) rfl rfl (Nat.le_of_ble_eq_true rfl) (by decide) (fun r2 s3 hr4 hp5 => ?_)
    obtain ⟨hI6, hF7, hT8, z9⟩ := hp5
    have hE10 : yst s3 = yPx f (yst σ) := z9
    have hF11 := zOn_tr hF hF7 zi_id
    have L12 : yle (yst σ) (yPx f (yst σ)) := yle_tr L0 (yle_x hT hE0)
    refine zt_iconst (pc' := 31) hX dX1_opens_30 rfl ?_
    exact zt_zret hX hR dX1_opens_31 ⟨by omega, by omega⟩ ⟨hI6, hF11, by omega, by omega, hT8, hE10⟩
  · exact absurd c1 (by omega)
set_option maxRecDepth 100000 in
set_option maxHeartbeats 4000000 in
theorem yc_X1_pair_o0 (l : Launch) (E : zEN) (σ : zSto) (hI : zInv σ) (f : Int → Int) (hT : yTk f σ) (rl : Int) (hrl : σ 33 2 = rl) (k : List Nat) (hk : ydep k = 0) : zCt l E yX1_pair cX1_pair 2 none 26 zNC zNC 0 0 σ [.ref (E.1 + 33), .int (zI 0)] (fun r σ' => zInv σ' ∧ zOn zR2 σ σ' ∧ yTk f σ' ∧ (yJ rl f (3, k, (yst σ)) (2, k, (yst σ'))) ∧ (yle (yst σ) (yst σ'))) := by
  refine zCt_of2 [some (.ref (E.1 + 33)), some (.int (zI 0))] (by decide +kernel) (Nat.le_of_ble_eq_true rfl) rfl ?_
  intro X hE_ hX hR hL hN
  subst hE_
  have hX : zok X cX1_pair RX1 26 := hX
  have hF := zOn_rf zR2 σ
  have hE0 : yst σ = yst σ := rfl
  have L0 := yle_rf (yst σ)
  have b1 := zv_20_2 hI zc_33
  refine zt_aload_n (pc' := 1) hX dX1_pair_0 rfl rfl ?_
  refine zt_get (pc' := 4) (v := .ref (X.1.1 + 27)) hX dX1_pair_1 rfl zf_X1_15 (by decide) zc_33 zs_20 (zrf_of (zv_20_0 hI zc_33)) ?_
  refine zt_cVi (pc' := 7) hX dX1_pair_4 rfl zm_yX5_signHere zw_22_2 zc_27 (by decide) zs_14 (q := (RX5, TX5, 9)) rfl rfl (yc_X5_signHere _ _ σ hI f hT) rfl rfl (Nat.le_of_ble_eq_true rfl) (by decide) (fun r2 s3 hr4 hp5 => ?_)
  obtain ⟨rfl, q6, q7, z8⟩ := hp5
  refine zt_bipush (pc' := 9) hX dX1_pair_7 rfl (by decide) (by decide) ?_
  refine zt_iceq (pc' := 12) (tgt := 30) hX dX1_pair_9 rfl (by decide) ⟨by omega, by omega⟩ ⟨by omega, by omega⟩ (fun c9 => ?_) (fun c9 => ?_)
  · refine zt_aload_n (pc' := 31) hX dX1_pair_30 rfl rfl ?_
    refine zt_iload_n (pc' := 32) hX dX1_pair_31 rfl rfl ?_
    refine zt_cVz (pc' := 35) hX dX1_pair_32 rfl zm_yX1_opens zw_22_11 zc_33 (by decide) zs_20 (q := (RX1, TX1, 3)) rfl rfl (yc_X1_opens_o0 _ _ σ hI f hT) rfl rfl (Nat.le_of_ble_eq_true rfl) (by decide) (fun r10 s11 hr12 hp13 => ?_)
    obtain ⟨hI14, hF15, q16, q17, hT18, z19⟩ := hp13
    have hE20 : yst s11 = yPx f (yst σ) := z19
    have hF21 := zOn_tr hF hF15 zi_r12
    have L22 : yle (yst σ) (yPx f (yst σ)) := yle_tr L0 (yle_x hT hE0)
    have b23 := zv_20_2 hI14 zc_33
    have e24 := hF15 33 2 rfl
    refine zt_ifeq (pc' := 38) (tgt := 70) hX dX1_pair_35 rfl (by decide) ⟨by omega, by omega⟩ (fun c25 => ?_) (fun c25 => ?_)
    · exact absurd c25 (by omega)
    · refine zt_aload_n (pc' := 39) hX dX1_pair_38 rfl rfl ?_
      refine zt_iload_n (pc' := 40) hX dX1_pair_39 rfl rfl ?_
      refine zt_iconst (pc' := 41) hX dX1_pair_40 rfl ?_
      refine zt_iadd (pc' := 42) hX dX1_pair_41 rfl ?_
      rw [show (0 + 1 : Int) = 1 from rfl]
      refine zt_cVv (pc' := 45) hX dX1_pair_42 rfl zm_yX1_sum zw_21_19 zc_33 (by decide) zs_20 (q := (RX1, TX1, 3)) rfl rfl (yc_X1_sum_o1 _ _ s11 hI14 f hT18 rl (by omega) (2 :: k) (by show ydep k + 1 = _; omega) (Nat.ne_of_beq_eq_false rfl)) rfl rfl (Nat.le_of_ble_eq_true rfl) (by decide) (fun r26 s27 hr28 hp29 => ?_)
      obtain ⟨hI30, hF31, hT32, z33, z34, z35⟩ := hp29
      rw [hE20] at z33
      rw [hE20] at z34
      have hF36 := zOn_tr hF21 hF31 zi_id
      obtain ⟨p37, hE38⟩ : ∃ p, yst s27 = p := ⟨_, rfl⟩
      rw [hE38] at z33
      rw [hE38] at z34
      have L39 := yle_tr L22 z34
      rw [hE38] at z35
      have b40 := zv_20_2 hI30 zc_33
      have e41 := hF31 33 2 rfl
      refine zt_aload_n (pc' := 46) hX dX1_pair_45 rfl rfl ?_
      refine zt_get (pc' := 49) (v := .ref (X.1.1 + 27)) hX dX1_pair_46 rfl zf_X1_15 (by decide) zc_33 zs_20 (zrf_of (zv_20_0 hI30 zc_33)) ?_
      refine zt_bipush (pc' := 51) hX dX1_pair_49 rfl (by decide) (by decide) ?_
      refine zt_cVv (pc' := 54) hX dX1_pair_51 rfl zm_yX5_takeSign zw_22_15 zc_27 (by decide) zs_14 (q := (RX5, TX5, 9)) rfl rfl (yc_X5_takeSign _ _ s27 hI30 44 ⟨by omega, by omega⟩ f hT32) rfl rfl (Nat.le_of_ble_eq_true rfl) (by decide) (fun r42 s43 hr44 hp45 => ?_)
      obtain ⟨hI46, hF47, hT48, z49⟩ := hp45
      have hE50 : yst s43 = yPs f 44 p37 := by rw [z49, hE38]
      have hF51 := zOn_tr hF36 hF47 zi_r12
      have L52 : yle (yst σ) (yPs f 44 p37) := yle_tr L39 (yle_s hT32 hE38)
      have b53 := zv_20_2 hI46 zc_33
      have e54 := hF47 33 2 rfl
      refine zt_aload_n (pc' := 55) hX dX1_pair_54 rfl rfl ?_
      refine zt_iload_n (pc' := 56) hX dX1_pair_55 rfl rfl ?_
      refine zt_iconst (pc' := 57) hX dX1_pair_56 rfl ?_
      refine zt_iadd (pc' := 58) hX dX1_pair_57 rfl ?_
      rw [show (0 + 1 : Int) = 1 from rfl]
      refine zt_cVv (pc' := 61) hX dX1_pair_58 rfl zm_yX1_sum zw_21_19 zc_33 (by decide) zs_20 (q := (RX1, TX1, 3)) rfl rfl (yc_X1_sum_o1 _ _ s43 hI46 f hT48 rl (by omega) (3 :: k) (by show ydep k + 1 = _; omega) (Nat.ne_of_beq_eq_false rfl)) rfl rfl (Nat.le_of_ble_eq_true rfl) (by decide) (fun r55 s56 hr57 hp58 => ?_)
      obtain ⟨hI59, hF60, hT61, z62, z63, z64⟩ := hp58
      rw [hE50] at z62
      rw [hE50] at z63
      have hF65 := zOn_tr hF51 hF60 zi_id
      obtain ⟨p66, hE67⟩ : ∃ p, yst s56 = p := ⟨_, rfl⟩
      rw [hE67] at z62
      rw [hE67] at z63
      have L68 := yle_tr L52 z63
      rw [hE67] at z64
      have b69 := zv_20_2 hI59 zc_33
      have e70 := hF60 33 2 rfl
      refine zt_aload_n (pc' := 62) hX dX1_pair_61 rfl rfl ?_
      refine zt_get (pc' := 65) (v := .ref (X.1.1 + 27)) hX dX1_pair_62 rfl zf_X1_15 (by decide) zc_33 zs_20 (zrf_of (zv_20_0 hI59 zc_33)) ?_
      refine zt_bipush (pc' := 67) hX dX1_pair_65 rfl (by decide) (by decide) ?_
      refine zt_cVv (pc' := 70) hX dX1_pair_67 rfl zm_yX5_takeSign zw_22_15 zc_27 (by decide) zs_14 (q := (RX5, TX5, 9)) rfl rfl (yc_X5_takeSign _ _ s56 hI59 41 ⟨by omega, by omega⟩ f hT61) rfl rfl (Nat.le_of_ble_eq_true rfl) (by decide) (fun r71 s72 hr73 hp74 => ?_)
      obtain ⟨hI75, hF76, hT77, z78⟩ := hp74
      have hE79 : yst s72 = yPs f 41 p66 := by rw [z78, hE67]
      have hF80 := zOn_tr hF65 hF76 zi_r12
      have L81 : yle (yst σ) (yPs f 41 p66) := yle_tr L68 (yle_s hT61 hE67)
      have b82 := zv_20_2 hI75 zc_33
      have e83 := hF76 33 2 rfl
      exact zt_vret hX hR dX1_pair_70 ⟨hI75, hF80, hT77, (by rw [hE79]; exact yJ_tr (yJ_pr (by omega) (by omega)) (yJ_tr z33 (yJ_tr (yJ_cm z35) (yJ_tr z62 (yJ_cl (Or.inr rfl) z64))))), (by rw [hE79]; exact L81)⟩
  · refine zt_aload_n (pc' := 13) hX dX1_pair_12 rfl rfl ?_
    refine zt_get (pc' := 16) (v := .ref (X.1.1 + 27)) hX dX1_pair_13 rfl zf_X1_15 (by decide) zc_33 zs_20 (zrf_of (zv_20_0 hI zc_33)) ?_
    refine zt_iconst (pc' := 17) hX dX1_pair_16 rfl ?_
    refine zt_aload_n (pc' := 18) hX dX1_pair_17 rfl rfl ?_
    refine zt_get (pc' := 21) (v := .ref (X.1.1 + 27)) hX dX1_pair_18 rfl zf_X1_15 (by decide) zc_33 zs_20 (zrf_of (zv_20_0 hI zc_33)) ?_
    refine zt_cVi (pc' := 24) hX dX1_pair_21 rfl zm_yX5_placeHere zw_22_9 zc_27 (by decide) zs_14 (q := (RX5, TX5, 9)) rfl rfl (yc_X5_placeHere _ _ σ hI f hT) rfl rfl (Nat.le_of_ble_eq_true rfl) (by decide) (fun r84 s85 hr86 hp87 => ?_)
    obtain ⟨rfl, q88, q89, z90⟩ := hp87
    refine zt_cVv (pc' := 27) hX dX1_pair_24 rfl zm_yX5_refuse zw_22_10 zc_27 (by decide) zs_14 (q := (RX5, TX5, 9)) rfl rfl (yc_X5_refuse _ _ σ hI 1 ⟨by omega, by omega⟩ r84 ⟨by omega, by omega⟩ (by omega) f hT) rfl rfl (Nat.le_of_ble_eq_true rfl) (by decide) (fun r91 s92 hr93 hp94 => ?_)
    obtain ⟨hI95, hF96, hT97, z98⟩ := hp94
    have hE99 : yst s92 = yPno 1 r84 (yst σ) := z98
    have hF100 := zOn_tr hF hF96 zi_r12
    have L101 : yle (yst σ) (yPno 1 r84 (yst σ)) := yle_tr L0 yle_no
    have b102 := zv_20_2 hI95 zc_33
    have e103 := hF96 33 2 rfl
    refine zt_goto (tgt := 70) hX dX1_pair_27 (by decide) ?_
    exact zt_vret hX hR dX1_pair_70 ⟨hI95, hF100, hT97, (by rw [hE99, yPno_f (p := r84) (d := 0) (fun o => by omega)]; exact yJ_prn (by omega)), (by rw [hE99]; exact L101)⟩
set_option maxRecDepth 100000 in
set_option maxHeartbeats 4000000 in
theorem yc_X1_part_o0 (l : Launch) (E : zEN) (σ : zSto) (hI : zInv σ) (f : Int → Int) (hT : yTk f σ) (rl : Int) (hrl : σ 33 2 = rl) (k : List Nat) (hk : ydep k = 0) : zCt l E yX1_part cX1_part 4 none 27 zNC zNC 0 0 σ [.ref (E.1 + 33), .int (zI 0)] (fun r σ' => zInv σ' ∧ zOn zR2 σ σ' ∧ yTk f σ' ∧ (yJ rl f (1, k, (yst σ)) (2, k, (yst σ'))) ∧ (yle (yst σ) (yst σ'))) := by
  refine zCt_of2 [some (.ref (E.1 + 33)), some (.int (zI 0)), none, none] (by decide +kernel) (Nat.le_of_ble_eq_true rfl) rfl ?_
  intro X hE_ hX hR hL hN
  subst hE_
  have hX : zok X cX1_part RX1 27 := hX
  have hF := zOn_rf zR2 σ
  have hE0 : yst σ = yst σ := rfl
  have L0 := yle_rf (yst σ)
  have b1 := zv_20_2 hI zc_33
  refine zt_aload_n (pc' := 1) hX dX1_part_0 rfl rfl ?_
  refine zt_get (pc' := 4) (v := .ref (X.1.1 + 27)) hX dX1_part_1 rfl zf_X1_15 (by decide) zc_33 zs_20 (zrf_of (zv_20_0 hI zc_33)) ?_
  refine zt_cVi (pc' := 7) hX dX1_part_4 rfl zm_yX5_wordHere zw_22_21 zc_27 (by decide) zs_14 (q := (RX5, TX5, 9)) rfl rfl (yc_X5_wordHere _ _ σ hI f hT) rfl rfl (Nat.le_of_ble_eq_true rfl) (by decide) (fun r2 s3 hr4 hp5 => ?_)
  obtain ⟨rfl, q6, q7, z8⟩ := hp5
  refine zt_istore_n (pc' := 8) (lv' := [some (.ref (X.1.1 + 33)), some (.int (zI 0)), some (.int (zI r2)), none]) hX dX1_part_7 rfl hL (by decide) rfl ?_
  refine zt_aload_n (pc' := 9) hX dX1_part_8 rfl rfl ?_
  refine zt_get (pc' := 12) (v := .ref (X.1.1 + 27)) hX dX1_part_9 rfl zf_X1_15 (by decide) zc_33 zs_20 (zrf_of (zv_20_0 hI zc_33)) ?_
  refine zt_cVi (pc' := 15) hX dX1_part_12 rfl zm_yX5_kindHere zw_22_22 zc_27 (by decide) zs_14 (q := (RX5, TX5, 9)) rfl rfl (yc_X5_kindHere _ _ σ hI f hT) rfl rfl (Nat.le_of_ble_eq_true rfl) (by decide) (fun r9 s10 hr11 hp12 => ?_)
  obtain ⟨rfl, q13, q14, z15⟩ := hp12
  refine zt_istore_n (pc' := 16) (lv' := [some (.ref (X.1.1 + 33)), some (.int (zI 0)), some (.int (zI r2)), some (.int (zI r9))]) hX dX1_part_15 rfl hL (by decide) rfl ?_
  refine zt_iload_n (pc' := 17) hX dX1_part_16 rfl rfl ?_
  refine zt_iconst (pc' := 18) hX dX1_part_17 rfl ?_
  refine zt_iceq (pc' := 21) (tgt := 26) hX dX1_part_18 rfl (by decide) ⟨by omega, by omega⟩ ⟨by omega, by omega⟩ (fun c16 => ?_) (fun c16 => ?_)
  · refine zt_aload_n (pc' := 27) hX dX1_part_26 rfl rfl ?_
    obtain ⟨k17, ek18, hk19⟩ := zv_20_1 hI zc_33
    refine zt_get (pc' := 30) (v := .ref (X.1.1 + k17)) hX dX1_part_27 rfl zf_X1_19 (by decide) zc_33 zs_20 (zrf_of ek18) ?_
    refine zt_aload_n (pc' := 31) hX dX1_part_30 rfl rfl ?_
    refine zt_get (pc' := 34) (v := .ref (X.1.1 + 27)) hX dX1_part_31 rfl zf_X1_15 (by decide) zc_33 zs_20 (zrf_of (zv_20_0 hI zc_33)) ?_
    refine zt_iconst (pc' := 35) hX dX1_part_34 rfl ?_
    refine zt_sipush (pc' := 38) hX dX1_part_35 rfl (by decide) (by decide) ?_
    refine zt_cVi (pc' := 41) hX dX1_part_38 rfl zm_yX5_takeNumber zw_22_23 zc_27 (by decide) zs_14 (q := (RX5, TX5, 9)) rfl rfl (yc_X5_takeNumber _ _ σ hI 0 ⟨by omega, by omega⟩ 9999 ⟨by omega, by omega⟩ f hT) rfl rfl (Nat.le_of_ble_eq_true rfl) (by decide) (fun r20 s21 hr22 hp23 => ?_)
    obtain ⟨hI24, hF25, q26, q27, hT28, z29, z30, z31⟩ := hp23
    have hE32 : yst s21 = yPn f 0 9999 (yst σ) := z29
    have hF33 := zOn_tr hF hF25 zi_r12
    rw [hE32] at z30
    have L34 : yle (yst σ) (yPn f 0 9999 (yst σ)) := yle_tr L0 (yle_n hT hE0)
    have b35 := zv_20_2 hI24 zc_33
    have e36 := hF25 33 2 rfl
    refine zt_cVv (pc' := 44) hX dX1_part_41 rfl zm_yX4_addNumber zw_23_0 hk19 (by decide) zs_6 (q := (RX4, TX4, 2)) rfl rfl (yc_X4_addNumber _ _ s21 hI24 k17 hk19 r20 ⟨by omega, by omega⟩) rfl rfl (Nat.le_of_ble_eq_true rfl) (by decide) (fun r37 s38 hr39 hp40 => ?_)
    obtain ⟨hI41, hF42⟩ := hp40
    have hF43 := zOn_tr hF33 hF42 zi_rp2
    have hT44 := yTk_rk hT28 (yRk_p hF42)
    have hE45 : yst s38 = yPn f 0 9999 (yst σ) := (yst_rk (yRk_p hF42)).trans hE32
    have b46 := zv_20_2 hI41 zc_33
    have e47 := hF42 33 2 rfl
    refine zt_goto (tgt := 203) hX dX1_part_44 (by decide) ?_
    exact zt_vret hX hR dX1_part_203 ⟨hI41, hF43, hT44, (by rw [hE45]; exact yJ_num (by omega)), (by rw [hE45]; exact L34)⟩
  · refine zt_iload_n (pc' := 22) hX dX1_part_21 rfl rfl ?_
    refine zt_iconst (pc' := 23) hX dX1_part_22 rfl ?_
    refine zt_icne (pc' := 26) (tgt := 47) hX dX1_part_23 rfl (by decide) ⟨by omega, by omega⟩ ⟨by omega, by omega⟩ (fun c48 => ?_) (fun c48 => ?_)
    · refine zt_aload_n (pc' := 48) hX dX1_part_47 rfl rfl ?_
      refine zt_get (pc' := 51) (v := .ref (X.1.1 + 27)) hX dX1_part_48 rfl zf_X1_15 (by decide) zc_33 zs_20 (zrf_of (zv_20_0 hI zc_33)) ?_
      refine zt_cVi (pc' := 54) hX dX1_part_51 rfl zm_yX5_signHere zw_22_2 zc_27 (by decide) zs_14 (q := (RX5, TX5, 9)) rfl rfl (yc_X5_signHere _ _ σ hI f hT) rfl rfl (Nat.le_of_ble_eq_true rfl) (by decide) (fun r49 s50 hr51 hp52 => ?_)
      obtain ⟨rfl, q53, q54, z55⟩ := hp52
      refine zt_bipush (pc' := 56) hX dX1_part_54 rfl (by decide) (by decide) ?_
      refine zt_icne (pc' := 59) (tgt := 86) hX dX1_part_56 rfl (by decide) ⟨by omega, by omega⟩ ⟨by omega, by omega⟩ (fun c56 => ?_) (fun c56 => ?_)
      · refine zt_iload_n (pc' := 87) hX dX1_part_86 rfl rfl ?_
        refine zt_bipush (pc' := 89) hX dX1_part_87 rfl (by decide) (by decide) ?_
        refine zt_iceq (pc' := 92) (tgt := 98) hX dX1_part_89 rfl (by decide) ⟨by omega, by omega⟩ ⟨by omega, by omega⟩ (fun c57 => ?_) (fun c57 => ?_)
        · refine zt_aload_n (pc' := 99) hX dX1_part_98 rfl rfl ?_
          refine zt_get (pc' := 102) (v := .ref (X.1.1 + 27)) hX dX1_part_99 rfl zf_X1_15 (by decide) zc_33 zs_20 (zrf_of (zv_20_0 hI zc_33)) ?_
          refine zt_cVv (pc' := 105) hX dX1_part_102 rfl zm_yX5_step zw_22_6 zc_27 (by decide) zs_14 (q := (RX5, TX5, 9)) rfl rfl (yc_X5_step _ _ σ hI f hT) rfl rfl (Nat.le_of_ble_eq_true rfl) (by decide) (fun r58 s59 hr60 hp61 => ?_)
          obtain ⟨hI62, hF63, hT64, z65⟩ := hp61
          have hE66 : yst s59 = yPx f (yst σ) := z65
          have hF67 := zOn_tr hF hF63 zi_r12
          have L68 : yle (yst σ) (yPx f (yst σ)) := yle_tr L0 (yle_x hT hE0)
          have b69 := zv_20_2 hI62 zc_33
          have e70 := hF63 33 2 rfl
          refine zt_aload_n (pc' := 106) hX dX1_part_105 rfl rfl ?_
          refine zt_iload_n (pc' := 107) hX dX1_part_106 rfl rfl ?_
          refine zt_cVv (pc' := 110) hX dX1_part_107 rfl zm_yX1_pair zw_23_1 zc_33 (by decide) zs_20 (q := (RX1, TX1, 3)) rfl rfl (yc_X1_pair_o0 _ _ s59 hI62 f hT64 rl (by omega) k hk) rfl rfl (Nat.le_of_ble_eq_true rfl) (by decide) (fun r71 s72 hr73 hp74 => ?_)
          obtain ⟨hI75, hF76, hT77, z78, z79⟩ := hp74
          rw [hE66] at z78
          rw [hE66] at z79
          have hF80 := zOn_tr hF67 hF76 zi_id
          obtain ⟨p81, hE82⟩ : ∃ p, yst s72 = p := ⟨_, rfl⟩
          rw [hE82] at z78
          rw [hE82] at z79
          have L83 := yle_tr L68 z79
          have b84 := zv_20_2 hI75 zc_33
          have e85 := hF76 33 2 rfl
          refine zt_aload_n (pc' := 111) hX dX1_part_110 rfl rfl ?_
          obtain ⟨k86, ek87, hk88⟩ := zv_20_1 hI75 zc_33
          refine zt_get (pc' := 114) (v := .ref (X.1.1 + k86)) hX dX1_part_111 rfl zf_X1_19 (by decide) zc_33 zs_20 (zrf_of ek87) ?_
          refine zt_iload_n (pc' := 115) hX dX1_part_114 rfl rfl ?_
          refine zt_cVv (pc' := 118) hX dX1_part_115 rfl zm_yX4_addStep zw_22_7 hk88 (by decide) zs_6 (q := (RX4, TX4, 2)) rfl rfl (yc_X4_addStep _ _ s72 hI75 k86 hk88 r2 ⟨by omega, by omega⟩) rfl rfl (Nat.le_of_ble_eq_true rfl) (by decide) (fun r89 s90 hr91 hp92 => ?_)
          obtain ⟨hI93, hF94⟩ := hp92
          have hF95 := zOn_tr hF80 hF94 zi_rp2
          have hT96 := yTk_rk hT77 (yRk_p hF94)
          have hE97 : yst s90 = p81 := (yst_rk (yRk_p hF94)).trans hE82
          have b98 := zv_20_2 hI93 zc_33
          have e99 := hF94 33 2 rfl
          refine zt_goto (tgt := 203) hX dX1_part_118 (by decide) ?_
          exact zt_vret hX hR dX1_part_203 ⟨hI93, hF95, hT96, (by rw [hE97]; exact yJ_tr (yJ_mm (by omega)) z78), (by rw [hE97]; exact L83)⟩
        · refine zt_iload_n (pc' := 93) hX dX1_part_92 rfl rfl ?_
          refine zt_bipush (pc' := 95) hX dX1_part_93 rfl (by decide) (by decide) ?_
          refine zt_icne (pc' := 98) (tgt := 121) hX dX1_part_95 rfl (by decide) ⟨by omega, by omega⟩ ⟨by omega, by omega⟩ (fun c100 => ?_) (fun c100 => ?_)
          · refine zt_iload_n (pc' := 122) hX dX1_part_121 rfl rfl ?_
            refine zt_bipush (pc' := 124) hX dX1_part_122 rfl (by decide) (by decide) ?_
            refine zt_icne (pc' := 127) (tgt := 162) hX dX1_part_124 rfl (by decide) ⟨by omega, by omega⟩ ⟨by omega, by omega⟩ (fun c101 => ?_) (fun c101 => ?_)
            · refine zt_aload_n (pc' := 163) hX dX1_part_162 rfl rfl ?_
              refine zt_iload_n (pc' := 164) hX dX1_part_163 rfl rfl ?_
              refine zt_cVz (pc' := 167) hX dX1_part_164 rfl zm_yX1_isValue zw_23_7 zc_33 (by decide) zs_20 (q := (RX1, TX1, 3)) rfl rfl (yc_X1_isValue _ _ σ hI r2 ⟨by omega, by omega⟩) rfl rfl (Nat.le_of_ble_eq_true rfl) (by decide) (fun r102 s103 hr104 hp105 => ?_)
              obtain ⟨rfl, q106, q107, z108⟩ := hp105
              rw [hrl, z8] at z108
              refine zt_ifeq (pc' := 170) (tgt := 188) hX dX1_part_167 rfl (by decide) ⟨by omega, by omega⟩ (fun c109 => ?_) (fun c109 => ?_)
              · refine zt_aload_n (pc' := 189) hX dX1_part_188 rfl rfl ?_
                refine zt_get (pc' := 192) (v := .ref (X.1.1 + 27)) hX dX1_part_189 rfl zf_X1_15 (by decide) zc_33 zs_20 (zrf_of (zv_20_0 hI zc_33)) ?_
                refine zt_iconst (pc' := 193) hX dX1_part_192 rfl ?_
                refine zt_aload_n (pc' := 194) hX dX1_part_193 rfl rfl ?_
                refine zt_get (pc' := 197) (v := .ref (X.1.1 + 27)) hX dX1_part_194 rfl zf_X1_15 (by decide) zc_33 zs_20 (zrf_of (zv_20_0 hI zc_33)) ?_
                refine zt_cVi (pc' := 200) hX dX1_part_197 rfl zm_yX5_placeHere zw_22_9 zc_27 (by decide) zs_14 (q := (RX5, TX5, 9)) rfl rfl (yc_X5_placeHere _ _ σ hI f hT) rfl rfl (Nat.le_of_ble_eq_true rfl) (by decide) (fun r110 s111 hr112 hp113 => ?_)
                obtain ⟨rfl, q114, q115, z116⟩ := hp113
                refine zt_cVv (pc' := 203) hX dX1_part_200 rfl zm_yX5_refuse zw_22_10 zc_27 (by decide) zs_14 (q := (RX5, TX5, 9)) rfl rfl (yc_X5_refuse _ _ σ hI 1 ⟨by omega, by omega⟩ r110 ⟨by omega, by omega⟩ (by omega) f hT) rfl rfl (Nat.le_of_ble_eq_true rfl) (by decide) (fun r117 s118 hr119 hp120 => ?_)
                obtain ⟨hI121, hF122, hT123, z124⟩ := hp120
                have hE125 : yst s118 = yPno 1 r110 (yst σ) := z124
                have hF126 := zOn_tr hF hF122 zi_r12
                have L127 : yle (yst σ) (yPno 1 r110 (yst σ)) := yle_tr L0 yle_no
                have b128 := zv_20_2 hI121 zc_33
                have e129 := hF122 33 2 rfl
                exact zt_vret hX hR dX1_part_203 ⟨hI121, hF126, hT123, (by rw [hE125, yPno_f (p := r110) (d := 0) (fun o => by omega)]; exact yJ_bad (by omega) (by omega) (by omega) (by omega) (yVi_0 (by omega))), (by rw [hE125]; exact L127)⟩
              · refine zt_aload_n (pc' := 171) hX dX1_part_170 rfl rfl ?_
                refine zt_get (pc' := 174) (v := .ref (X.1.1 + 27)) hX dX1_part_171 rfl zf_X1_15 (by decide) zc_33 zs_20 (zrf_of (zv_20_0 hI zc_33)) ?_
                refine zt_cVv (pc' := 177) hX dX1_part_174 rfl zm_yX5_step zw_22_6 zc_27 (by decide) zs_14 (q := (RX5, TX5, 9)) rfl rfl (yc_X5_step _ _ σ hI f hT) rfl rfl (Nat.le_of_ble_eq_true rfl) (by decide) (fun r130 s131 hr132 hp133 => ?_)
                obtain ⟨hI134, hF135, hT136, z137⟩ := hp133
                have hE138 : yst s131 = yPx f (yst σ) := z137
                have hF139 := zOn_tr hF hF135 zi_r12
                have L140 : yle (yst σ) (yPx f (yst σ)) := yle_tr L0 (yle_x hT hE0)
                have b141 := zv_20_2 hI134 zc_33
                have e142 := hF135 33 2 rfl
                refine zt_aload_n (pc' := 178) hX dX1_part_177 rfl rfl ?_
                obtain ⟨k143, ek144, hk145⟩ := zv_20_1 hI134 zc_33
                refine zt_get (pc' := 181) (v := .ref (X.1.1 + k143)) hX dX1_part_178 rfl zf_X1_19 (by decide) zc_33 zs_20 (zrf_of ek144) ?_
                refine zt_iload_n (pc' := 182) hX dX1_part_181 rfl rfl ?_
                refine zt_cVv (pc' := 185) hX dX1_part_182 rfl zm_yX4_addStep zw_22_7 hk145 (by decide) zs_6 (q := (RX4, TX4, 2)) rfl rfl (yc_X4_addStep _ _ s131 hI134 k143 hk145 r2 ⟨by omega, by omega⟩) rfl rfl (Nat.le_of_ble_eq_true rfl) (by decide) (fun r146 s147 hr148 hp149 => ?_)
                obtain ⟨hI150, hF151⟩ := hp149
                have hF152 := zOn_tr hF139 hF151 zi_rp2
                have hT153 := yTk_rk hT136 (yRk_p hF151)
                have hE154 : yst s147 = yPx f (yst σ) := (yst_rk (yRk_p hF151)).trans hE138
                have b155 := zv_20_2 hI150 zc_33
                have e156 := hF151 33 2 rfl
                refine zt_goto (tgt := 203) hX dX1_part_185 (by decide) ?_
                exact zt_vret hX hR dX1_part_203 ⟨hI150, hF152, hT153, (by rw [hE154]; exact yJ_val (yVi_1 (by omega))), (by rw [hE154]; exact L140)⟩
            · refine zt_aload_n (pc' := 128) hX dX1_part_127 rfl rfl ?_
              have b157 := zv_20_2 hI zc_33
              refine zt_get (pc' := 131) (v := .int (zI (σ 33 2))) hX dX1_part_128 rfl zf_X1_9 (by decide) zc_33 zs_20 rfl ?_
              refine zt_iconst (pc' := 132) hX dX1_part_131 rfl ?_
              refine zt_icne (pc' := 135) (tgt := 162) hX dX1_part_132 rfl (by decide) ⟨by omega, by omega⟩ ⟨by omega, by omega⟩ (fun c158 => ?_) (fun c158 => ?_)
              · refine zt_aload_n (pc' := 163) hX dX1_part_162 rfl rfl ?_
                refine zt_iload_n (pc' := 164) hX dX1_part_163 rfl rfl ?_
                refine zt_cVz (pc' := 167) hX dX1_part_164 rfl zm_yX1_isValue zw_23_7 zc_33 (by decide) zs_20 (q := (RX1, TX1, 3)) rfl rfl (yc_X1_isValue _ _ σ hI r2 ⟨by omega, by omega⟩) rfl rfl (Nat.le_of_ble_eq_true rfl) (by decide) (fun r159 s160 hr161 hp162 => ?_)
                obtain ⟨rfl, q163, q164, z165⟩ := hp162
                rw [hrl, z8] at z165
                refine zt_ifeq (pc' := 170) (tgt := 188) hX dX1_part_167 rfl (by decide) ⟨by omega, by omega⟩ (fun c166 => ?_) (fun c166 => ?_)
                · refine zt_aload_n (pc' := 189) hX dX1_part_188 rfl rfl ?_
                  refine zt_get (pc' := 192) (v := .ref (X.1.1 + 27)) hX dX1_part_189 rfl zf_X1_15 (by decide) zc_33 zs_20 (zrf_of (zv_20_0 hI zc_33)) ?_
                  refine zt_iconst (pc' := 193) hX dX1_part_192 rfl ?_
                  refine zt_aload_n (pc' := 194) hX dX1_part_193 rfl rfl ?_
                  refine zt_get (pc' := 197) (v := .ref (X.1.1 + 27)) hX dX1_part_194 rfl zf_X1_15 (by decide) zc_33 zs_20 (zrf_of (zv_20_0 hI zc_33)) ?_
                  refine zt_cVi (pc' := 200) hX dX1_part_197 rfl zm_yX5_placeHere zw_22_9 zc_27 (by decide) zs_14 (q := (RX5, TX5, 9)) rfl rfl (yc_X5_placeHere _ _ σ hI f hT) rfl rfl (Nat.le_of_ble_eq_true rfl) (by decide) (fun r167 s168 hr169 hp170 => ?_)
                  obtain ⟨rfl, q171, q172, z173⟩ := hp170
                  refine zt_cVv (pc' := 203) hX dX1_part_200 rfl zm_yX5_refuse zw_22_10 zc_27 (by decide) zs_14 (q := (RX5, TX5, 9)) rfl rfl (yc_X5_refuse _ _ σ hI 1 ⟨by omega, by omega⟩ r167 ⟨by omega, by omega⟩ (by omega) f hT) rfl rfl (Nat.le_of_ble_eq_true rfl) (by decide) (fun r174 s175 hr176 hp177 => ?_)
                  obtain ⟨hI178, hF179, hT180, z181⟩ := hp177
                  have hE182 : yst s175 = yPno 1 r167 (yst σ) := z181
                  have hF183 := zOn_tr hF hF179 zi_r12
                  have L184 : yle (yst σ) (yPno 1 r167 (yst σ)) := yle_tr L0 yle_no
                  have b185 := zv_20_2 hI178 zc_33
                  have e186 := hF179 33 2 rfl
                  exact zt_vret hX hR dX1_part_203 ⟨hI178, hF183, hT180, (by rw [hE182, yPno_f (p := r167) (d := 0) (fun o => by omega)]; exact yJ_bad (by omega) (by omega) (by omega) (by omega) (yVi_0 (by omega))), (by rw [hE182]; exact L184)⟩
                · refine zt_aload_n (pc' := 171) hX dX1_part_170 rfl rfl ?_
                  refine zt_get (pc' := 174) (v := .ref (X.1.1 + 27)) hX dX1_part_171 rfl zf_X1_15 (by decide) zc_33 zs_20 (zrf_of (zv_20_0 hI zc_33)) ?_
                  refine zt_cVv (pc' := 177) hX dX1_part_174 rfl zm_yX5_step zw_22_6 zc_27 (by decide) zs_14 (q := (RX5, TX5, 9)) rfl rfl (yc_X5_step _ _ σ hI f hT) rfl rfl (Nat.le_of_ble_eq_true rfl) (by decide) (fun r187 s188 hr189 hp190 => ?_)
                  obtain ⟨hI191, hF192, hT193, z194⟩ := hp190
                  have hE195 : yst s188 = yPx f (yst σ) := z194
                  have hF196 := zOn_tr hF hF192 zi_r12
                  have L197 : yle (yst σ) (yPx f (yst σ)) := yle_tr L0 (yle_x hT hE0)
                  have b198 := zv_20_2 hI191 zc_33
                  have e199 := hF192 33 2 rfl
                  refine zt_aload_n (pc' := 178) hX dX1_part_177 rfl rfl ?_
                  obtain ⟨k200, ek201, hk202⟩ := zv_20_1 hI191 zc_33
                  refine zt_get (pc' := 181) (v := .ref (X.1.1 + k200)) hX dX1_part_178 rfl zf_X1_19 (by decide) zc_33 zs_20 (zrf_of ek201) ?_
                  refine zt_iload_n (pc' := 182) hX dX1_part_181 rfl rfl ?_
                  refine zt_cVv (pc' := 185) hX dX1_part_182 rfl zm_yX4_addStep zw_22_7 hk202 (by decide) zs_6 (q := (RX4, TX4, 2)) rfl rfl (yc_X4_addStep _ _ s188 hI191 k200 hk202 r2 ⟨by omega, by omega⟩) rfl rfl (Nat.le_of_ble_eq_true rfl) (by decide) (fun r203 s204 hr205 hp206 => ?_)
                  obtain ⟨hI207, hF208⟩ := hp206
                  have hF209 := zOn_tr hF196 hF208 zi_rp2
                  have hT210 := yTk_rk hT193 (yRk_p hF208)
                  have hE211 : yst s204 = yPx f (yst σ) := (yst_rk (yRk_p hF208)).trans hE195
                  have b212 := zv_20_2 hI207 zc_33
                  have e213 := hF208 33 2 rfl
                  refine zt_goto (tgt := 203) hX dX1_part_185 (by decide) ?_
                  exact zt_vret hX hR dX1_part_203 ⟨hI207, hF209, hT210, (by rw [hE211]; exact yJ_val (yVi_1 (by omega))), (by rw [hE211]; exact L197)⟩
              · refine zt_aload_n (pc' := 136) hX dX1_part_135 rfl rfl ?_
                refine zt_iload_n (pc' := 137) hX dX1_part_136 rfl rfl ?_
                refine zt_cVz (pc' := 140) hX dX1_part_137 rfl zm_yX1_opens zw_22_11 zc_33 (by decide) zs_20 (q := (RX1, TX1, 3)) rfl rfl (yc_X1_opens_o0 _ _ σ hI f hT) rfl rfl (Nat.le_of_ble_eq_true rfl) (by decide) (fun r214 s215 hr216 hp217 => ?_)
                obtain ⟨hI218, hF219, q220, q221, hT222, z223⟩ := hp217
                have hE224 : yst s215 = yPx f (yst σ) := z223
                have hF225 := zOn_tr hF hF219 zi_r12
                have L226 : yle (yst σ) (yPx f (yst σ)) := yle_tr L0 (yle_x hT hE0)
                have b227 := zv_20_2 hI218 zc_33
                have e228 := hF219 33 2 rfl
                refine zt_ifeq (pc' := 143) (tgt := 203) hX dX1_part_140 rfl (by decide) ⟨by omega, by omega⟩ (fun c229 => ?_) (fun c229 => ?_)
                · exact absurd c229 (by omega)
                · refine zt_aload_n (pc' := 144) hX dX1_part_143 rfl rfl ?_
                  refine zt_iload_n (pc' := 145) hX dX1_part_144 rfl rfl ?_
                  refine zt_iconst (pc' := 146) hX dX1_part_145 rfl ?_
                  refine zt_iadd (pc' := 147) hX dX1_part_146 rfl ?_
                  rw [show (0 + 1 : Int) = 1 from rfl]
                  refine zt_cVv (pc' := 150) hX dX1_part_147 rfl zm_yX1_part zw_23_4 zc_33 (by decide) zs_20 (q := (RX1, TX1, 3)) rfl rfl (yc_X1_part_o1 _ _ s215 hI218 f hT222 rl (by omega) (4 :: k) (by show ydep k + 1 = _; omega)) rfl rfl (Nat.le_of_ble_eq_true rfl) (by decide) (fun r230 s231 hr232 hp233 => ?_)
                  obtain ⟨hI234, hF235, hT236, z237, z238⟩ := hp233
                  rw [hE224] at z237
                  rw [hE224] at z238
                  have hF239 := zOn_tr hF225 hF235 zi_id
                  obtain ⟨p240, hE241⟩ : ∃ p, yst s231 = p := ⟨_, rfl⟩
                  rw [hE241] at z237
                  rw [hE241] at z238
                  have L242 := yle_tr L226 z238
                  have b243 := zv_20_2 hI234 zc_33
                  have e244 := hF235 33 2 rfl
                  refine zt_aload_n (pc' := 151) hX dX1_part_150 rfl rfl ?_
                  obtain ⟨k245, ek246, hk247⟩ := zv_20_1 hI234 zc_33
                  refine zt_get (pc' := 154) (v := .ref (X.1.1 + k245)) hX dX1_part_151 rfl zf_X1_19 (by decide) zc_33 zs_20 (zrf_of ek246) ?_
                  refine zt_bipush (pc' := 156) hX dX1_part_154 rfl (by decide) (by decide) ?_
                  refine zt_cVv (pc' := 159) hX dX1_part_156 rfl zm_yX4_addStep zw_22_7 hk247 (by decide) zs_6 (q := (RX4, TX4, 2)) rfl rfl (yc_X4_addStep _ _ s231 hI234 k245 hk247 20 ⟨by omega, by omega⟩) rfl rfl (Nat.le_of_ble_eq_true rfl) (by decide) (fun r248 s249 hr250 hp251 => ?_)
                  obtain ⟨hI252, hF253⟩ := hp251
                  have hF254 := zOn_tr hF239 hF253 zi_rp2
                  have hT255 := yTk_rk hT236 (yRk_p hF253)
                  have hE256 : yst s249 = p240 := (yst_rk (yRk_p hF253)).trans hE241
                  have b257 := zv_20_2 hI252 zc_33
                  have e258 := hF253 33 2 rfl
                  refine zt_goto (tgt := 203) hX dX1_part_159 (by decide) ?_
                  exact zt_vret hX hR dX1_part_203 ⟨hI252, hF254, hT255, (by rw [hE256]; exact yJ_tr (yJ_far (by omega) (by omega) (by omega)) (yJ_tr z237 yJ_of)), (by rw [hE256]; exact L242)⟩
          · refine zt_aload_n (pc' := 99) hX dX1_part_98 rfl rfl ?_
            refine zt_get (pc' := 102) (v := .ref (X.1.1 + 27)) hX dX1_part_99 rfl zf_X1_15 (by decide) zc_33 zs_20 (zrf_of (zv_20_0 hI zc_33)) ?_
            refine zt_cVv (pc' := 105) hX dX1_part_102 rfl zm_yX5_step zw_22_6 zc_27 (by decide) zs_14 (q := (RX5, TX5, 9)) rfl rfl (yc_X5_step _ _ σ hI f hT) rfl rfl (Nat.le_of_ble_eq_true rfl) (by decide) (fun r259 s260 hr261 hp262 => ?_)
            obtain ⟨hI263, hF264, hT265, z266⟩ := hp262
            have hE267 : yst s260 = yPx f (yst σ) := z266
            have hF268 := zOn_tr hF hF264 zi_r12
            have L269 : yle (yst σ) (yPx f (yst σ)) := yle_tr L0 (yle_x hT hE0)
            have b270 := zv_20_2 hI263 zc_33
            have e271 := hF264 33 2 rfl
            refine zt_aload_n (pc' := 106) hX dX1_part_105 rfl rfl ?_
            refine zt_iload_n (pc' := 107) hX dX1_part_106 rfl rfl ?_
            refine zt_cVv (pc' := 110) hX dX1_part_107 rfl zm_yX1_pair zw_23_1 zc_33 (by decide) zs_20 (q := (RX1, TX1, 3)) rfl rfl (yc_X1_pair_o0 _ _ s260 hI263 f hT265 rl (by omega) k hk) rfl rfl (Nat.le_of_ble_eq_true rfl) (by decide) (fun r272 s273 hr274 hp275 => ?_)
            obtain ⟨hI276, hF277, hT278, z279, z280⟩ := hp275
            rw [hE267] at z279
            rw [hE267] at z280
            have hF281 := zOn_tr hF268 hF277 zi_id
            obtain ⟨p282, hE283⟩ : ∃ p, yst s273 = p := ⟨_, rfl⟩
            rw [hE283] at z279
            rw [hE283] at z280
            have L284 := yle_tr L269 z280
            have b285 := zv_20_2 hI276 zc_33
            have e286 := hF277 33 2 rfl
            refine zt_aload_n (pc' := 111) hX dX1_part_110 rfl rfl ?_
            obtain ⟨k287, ek288, hk289⟩ := zv_20_1 hI276 zc_33
            refine zt_get (pc' := 114) (v := .ref (X.1.1 + k287)) hX dX1_part_111 rfl zf_X1_19 (by decide) zc_33 zs_20 (zrf_of ek288) ?_
            refine zt_iload_n (pc' := 115) hX dX1_part_114 rfl rfl ?_
            refine zt_cVv (pc' := 118) hX dX1_part_115 rfl zm_yX4_addStep zw_22_7 hk289 (by decide) zs_6 (q := (RX4, TX4, 2)) rfl rfl (yc_X4_addStep _ _ s273 hI276 k287 hk289 r2 ⟨by omega, by omega⟩) rfl rfl (Nat.le_of_ble_eq_true rfl) (by decide) (fun r290 s291 hr292 hp293 => ?_)
            obtain ⟨hI294, hF295⟩ := hp293
            have hF296 := zOn_tr hF281 hF295 zi_rp2
            have hT297 := yTk_rk hT278 (yRk_p hF295)
            have hE298 : yst s291 = p282 := (yst_rk (yRk_p hF295)).trans hE283
            have b299 := zv_20_2 hI294 zc_33
            have e300 := hF295 33 2 rfl
            refine zt_goto (tgt := 203) hX dX1_part_118 (by decide) ?_
            exact zt_vret hX hR dX1_part_203 ⟨hI294, hF296, hT297, (by rw [hE298]; exact yJ_tr (yJ_mm (by omega)) z279), (by rw [hE298]; exact L284)⟩
      · refine zt_aload_n (pc' := 60) hX dX1_part_59 rfl rfl ?_
        refine zt_iload_n (pc' := 61) hX dX1_part_60 rfl rfl ?_
        refine zt_cVz (pc' := 64) hX dX1_part_61 rfl zm_yX1_opens zw_22_11 zc_33 (by decide) zs_20 (q := (RX1, TX1, 3)) rfl rfl (yc_X1_opens_o0 _ _ σ hI f hT) rfl rfl (Nat.le_of_ble_eq_true rfl) (by decide) (fun r301 s302 hr303 hp304 => ?_)
        obtain ⟨hI305, hF306, q307, q308, hT309, z310⟩ := hp304
        have hE311 : yst s302 = yPx f (yst σ) := z310
        have hF312 := zOn_tr hF hF306 zi_r12
        have L313 : yle (yst σ) (yPx f (yst σ)) := yle_tr L0 (yle_x hT hE0)
        have b314 := zv_20_2 hI305 zc_33
        have e315 := hF306 33 2 rfl
        refine zt_ifeq (pc' := 67) (tgt := 203) hX dX1_part_64 rfl (by decide) ⟨by omega, by omega⟩ (fun c316 => ?_) (fun c316 => ?_)
        · exact absurd c316 (by omega)
        · refine zt_aload_n (pc' := 68) hX dX1_part_67 rfl rfl ?_
          refine zt_iload_n (pc' := 69) hX dX1_part_68 rfl rfl ?_
          refine zt_iconst (pc' := 70) hX dX1_part_69 rfl ?_
          refine zt_iadd (pc' := 71) hX dX1_part_70 rfl ?_
          rw [show (0 + 1 : Int) = 1 from rfl]
          refine zt_cVv (pc' := 74) hX dX1_part_71 rfl zm_yX1_sum zw_21_19 zc_33 (by decide) zs_20 (q := (RX1, TX1, 3)) rfl rfl (yc_X1_sum_o1 _ _ s302 hI305 f hT309 rl (by omega) (1 :: k) (by show ydep k + 1 = _; omega) (Nat.ne_of_beq_eq_false rfl)) rfl rfl (Nat.le_of_ble_eq_true rfl) (by decide) (fun r317 s318 hr319 hp320 => ?_)
          obtain ⟨hI321, hF322, hT323, z324, z325, z326⟩ := hp320
          rw [hE311] at z324
          rw [hE311] at z325
          have hF327 := zOn_tr hF312 hF322 zi_id
          obtain ⟨p328, hE329⟩ : ∃ p, yst s318 = p := ⟨_, rfl⟩
          rw [hE329] at z324
          rw [hE329] at z325
          have L330 := yle_tr L313 z325
          rw [hE329] at z326
          have b331 := zv_20_2 hI321 zc_33
          have e332 := hF322 33 2 rfl
          refine zt_aload_n (pc' := 75) hX dX1_part_74 rfl rfl ?_
          refine zt_get (pc' := 78) (v := .ref (X.1.1 + 27)) hX dX1_part_75 rfl zf_X1_15 (by decide) zc_33 zs_20 (zrf_of (zv_20_0 hI321 zc_33)) ?_
          refine zt_bipush (pc' := 80) hX dX1_part_78 rfl (by decide) (by decide) ?_
          refine zt_cVv (pc' := 83) hX dX1_part_80 rfl zm_yX5_takeSign zw_22_15 zc_27 (by decide) zs_14 (q := (RX5, TX5, 9)) rfl rfl (yc_X5_takeSign _ _ s318 hI321 41 ⟨by omega, by omega⟩ f hT323) rfl rfl (Nat.le_of_ble_eq_true rfl) (by decide) (fun r333 s334 hr335 hp336 => ?_)
          obtain ⟨hI337, hF338, hT339, z340⟩ := hp336
          have hE341 : yst s334 = yPs f 41 p328 := by rw [z340, hE329]
          have hF342 := zOn_tr hF327 hF338 zi_r12
          have L343 : yle (yst σ) (yPs f 41 p328) := yle_tr L330 (yle_s hT323 hE329)
          have b344 := zv_20_2 hI337 zc_33
          have e345 := hF338 33 2 rfl
          refine zt_goto (tgt := 203) hX dX1_part_83 (by decide) ?_
          exact zt_vret hX hR dX1_part_203 ⟨hI337, hF342, hT339, (by rw [hE341]; exact yJ_tr (yJ_op1 (by omega) (by omega)) (yJ_tr z324 (yJ_cl (Or.inl rfl) z326))), (by rw [hE341]; exact L343)⟩
    · refine zt_aload_n (pc' := 27) hX dX1_part_26 rfl rfl ?_
      obtain ⟨k346, ek347, hk348⟩ := zv_20_1 hI zc_33
      refine zt_get (pc' := 30) (v := .ref (X.1.1 + k346)) hX dX1_part_27 rfl zf_X1_19 (by decide) zc_33 zs_20 (zrf_of ek347) ?_
      refine zt_aload_n (pc' := 31) hX dX1_part_30 rfl rfl ?_
      refine zt_get (pc' := 34) (v := .ref (X.1.1 + 27)) hX dX1_part_31 rfl zf_X1_15 (by decide) zc_33 zs_20 (zrf_of (zv_20_0 hI zc_33)) ?_
      refine zt_iconst (pc' := 35) hX dX1_part_34 rfl ?_
      refine zt_sipush (pc' := 38) hX dX1_part_35 rfl (by decide) (by decide) ?_
      refine zt_cVi (pc' := 41) hX dX1_part_38 rfl zm_yX5_takeNumber zw_22_23 zc_27 (by decide) zs_14 (q := (RX5, TX5, 9)) rfl rfl (yc_X5_takeNumber _ _ σ hI 0 ⟨by omega, by omega⟩ 9999 ⟨by omega, by omega⟩ f hT) rfl rfl (Nat.le_of_ble_eq_true rfl) (by decide) (fun r349 s350 hr351 hp352 => ?_)
      obtain ⟨hI353, hF354, q355, q356, hT357, z358, z359, z360⟩ := hp352
      have hE361 : yst s350 = yPn f 0 9999 (yst σ) := z358
      have hF362 := zOn_tr hF hF354 zi_r12
      rw [hE361] at z359
      have L363 : yle (yst σ) (yPn f 0 9999 (yst σ)) := yle_tr L0 (yle_n hT hE0)
      have b364 := zv_20_2 hI353 zc_33
      have e365 := hF354 33 2 rfl
      refine zt_cVv (pc' := 44) hX dX1_part_41 rfl zm_yX4_addNumber zw_23_0 hk348 (by decide) zs_6 (q := (RX4, TX4, 2)) rfl rfl (yc_X4_addNumber _ _ s350 hI353 k346 hk348 r349 ⟨by omega, by omega⟩) rfl rfl (Nat.le_of_ble_eq_true rfl) (by decide) (fun r366 s367 hr368 hp369 => ?_)
      obtain ⟨hI370, hF371⟩ := hp369
      have hF372 := zOn_tr hF362 hF371 zi_rp2
      have hT373 := yTk_rk hT357 (yRk_p hF371)
      have hE374 : yst s367 = yPn f 0 9999 (yst σ) := (yst_rk (yRk_p hF371)).trans hE361
      have b375 := zv_20_2 hI370 zc_33
      have e376 := hF371 33 2 rfl
      refine zt_goto (tgt := 203) hX dX1_part_44 (by decide) ?_
      exact zt_vret hX hR dX1_part_203 ⟨hI370, hF372, hT373, (by rw [hE374]; exact yJ_num (by omega)), (by rw [hE374]; exact L363)⟩
set_option maxRecDepth 100000 in
set_option maxHeartbeats 4000000 in
theorem yc_X1_product_o0 (l : Launch) (E : zEN) (σ : zSto) (hI : zInv σ) (f : Int → Int) (hT : yTk f σ) (rl : Int) (hrl : σ 33 2 = rl) (k : List Nat) (hk : ydep k = 0) (ht : ytop k ≠ 4) : zCt l E yX1_product cX1_product 4 none 28 zNC zNC 0 0 σ [.ref (E.1 + 33), .int (zI 0)] (fun r σ' => zInv σ' ∧ zOn zR2 σ σ' ∧ yTk f σ' ∧ (yJ rl f (1, k, (yst σ)) (2, k, (yst σ'))) ∧ (yle (yst σ) (yst σ')) ∧ (yPg f (yst σ') ≠ 42 ∧ yPg f (yst σ') ≠ 47)) := by
  refine zCt_of2 [some (.ref (E.1 + 33)), some (.int (zI 0)), none, none] (by decide +kernel) (Nat.le_of_ble_eq_true rfl) rfl ?_
  intro X hE_ hX hR hL hN
  subst hE_
  have hX : zok X cX1_product RX1 28 := hX
  have hF := zOn_rf zR2 σ
  have hE0 : yst σ = yst σ := rfl
  have L0 := yle_rf (yst σ)
  have b1 := zv_20_2 hI zc_33
  refine zt_aload_n (pc' := 1) hX dX1_product_0 rfl rfl ?_
  refine zt_iload_n (pc' := 2) hX dX1_product_1 rfl rfl ?_
  refine zt_cVv (pc' := 5) hX dX1_product_2 rfl zm_yX1_part zw_23_4 zc_33 (by decide) zs_20 (q := (RX1, TX1, 3)) rfl rfl (yc_X1_part_o0 _ _ σ hI f hT rl (by omega) k hk) rfl rfl (Nat.le_of_ble_eq_true rfl) (by decide) (fun r2 s3 hr4 hp5 => ?_)
  obtain ⟨hI6, hF7, hT8, z9, z10⟩ := hp5
  have hF11 := zOn_tr hF hF7 zi_id
  obtain ⟨p12, hE13⟩ : ∃ p, yst s3 = p := ⟨_, rfl⟩
  rw [hE13] at z9
  rw [hE13] at z10
  have L14 := yle_tr L0 z10
  have b15 := zv_20_2 hI6 zc_33
  have e16 := hF7 33 2 rfl
  have g17 := z9
  refine zt_iconst (pc' := 6) hX dX1_product_5 rfl ?_
  refine zt_istore_n (pc' := 7) (lv' := [some (.ref (X.1.1 + 33)), some (.int (zI 0)), some (.int (zI 0)), none]) hX dX1_product_6 rfl hL (by decide) rfl ?_
  have L_7_30 : ∀ (N : Nat) (x18 : Int) (s21 : zSto) (p24 : yP), 0 ≤ x18 → x18 ≤ 1600 → zInv s21 → zOn zR2 σ s21 → yTk f s21 → yst s21 = p24 → s21 33 2 = σ 33 2 → yJ rl f (1, k, yst σ) (2, k, p24) → yle (yst σ) p24 → yge x18 p24 → ((1601 - x18).toNat) < N → zF X s21 7 [some (.ref (X.1.1 + 33)), some (.int (zI 0)), some (.int (zI x18)), none] [] := by
    intro N
    induction N with
    | zero =>
      intro x18 s21 p24 h19 h20 hI22 hF23 hT25 hE26 g27 g28 g29 g30 hm32
      exact absurd hm32 (Nat.not_lt_zero _)
    | succ N ih33 =>
      intro x18 s21 p24 h19 h20 hI22 hF23 hT25 hE26 g27 g28 g29 g30 hm32
      have b34 := zv_20_2 hI22 zc_33
      have hx := yge_x hT25 hE26 g30
      refine zt_iload_n (pc' := 8) hX dX1_product_7 rfl rfl ?_
      refine zt_sipush (pc' := 11) hX dX1_product_8 rfl (by decide) (by decide) ?_
      refine zt_icge (pc' := 14) (tgt := 72) hX dX1_product_11 rfl (by decide) ⟨by omega, by omega⟩ ⟨by omega, by omega⟩ (fun c35 => ?_) (fun c35 => ?_)
      · exact zt_vret hX hR dX1_product_72 ⟨hI22, hF23, hT25, (by rw [hE26]; exact g28), (by rw [hE26]; exact g29), (by rw [hE26]; omega)⟩
      · refine zt_aload_n (pc' := 15) hX dX1_product_14 rfl rfl ?_
        refine zt_get (pc' := 18) (v := .ref (X.1.1 + 27)) hX dX1_product_15 rfl zf_X1_15 (by decide) zc_33 zs_20 (zrf_of (zv_20_0 hI22 zc_33)) ?_
        refine zt_cVi (pc' := 21) hX dX1_product_18 rfl zm_yX5_signHere zw_22_2 zc_27 (by decide) zs_14 (q := (RX5, TX5, 9)) rfl rfl (yc_X5_signHere _ _ s21 hI22 f hT25) rfl rfl (Nat.le_of_ble_eq_true rfl) (by decide) (fun r36 s37 hr38 hp39 => ?_)
        obtain ⟨rfl, q40, q41, z42⟩ := hp39
        rw [hE26] at z42
        refine zt_bipush (pc' := 23) hX dX1_product_21 rfl (by decide) (by decide) ?_
        refine zt_iceq (pc' := 26) (tgt := 38) hX dX1_product_23 rfl (by decide) ⟨by omega, by omega⟩ ⟨by omega, by omega⟩ (fun c43 => ?_) (fun c43 => ?_)
        · refine zt_aload_n (pc' := 39) hX dX1_product_38 rfl rfl ?_
          refine zt_get (pc' := 42) (v := .ref (X.1.1 + 27)) hX dX1_product_39 rfl zf_X1_15 (by decide) zc_33 zs_20 (zrf_of (zv_20_0 hI22 zc_33)) ?_
          refine zt_cVi (pc' := 45) hX dX1_product_42 rfl zm_yX5_signHere zw_22_2 zc_27 (by decide) zs_14 (q := (RX5, TX5, 9)) rfl rfl (yc_X5_signHere _ _ s21 hI22 f hT25) rfl rfl (Nat.le_of_ble_eq_true rfl) (by decide) (fun r44 s45 hr46 hp47 => ?_)
          obtain ⟨rfl, q48, q49, z50⟩ := hp47
          rw [hE26] at z50
          refine zt_istore_n (pc' := 46) (lv' := [some (.ref (X.1.1 + 33)), some (.int (zI 0)), some (.int (zI x18)), some (.int (zI r44))]) hX dX1_product_45 rfl hL (by decide) rfl ?_
          refine zt_aload_n (pc' := 47) hX dX1_product_46 rfl rfl ?_
          refine zt_get (pc' := 50) (v := .ref (X.1.1 + 27)) hX dX1_product_47 rfl zf_X1_15 (by decide) zc_33 zs_20 (zrf_of (zv_20_0 hI22 zc_33)) ?_
          refine zt_cVv (pc' := 53) hX dX1_product_50 rfl zm_yX5_step zw_22_6 zc_27 (by decide) zs_14 (q := (RX5, TX5, 9)) rfl rfl (yc_X5_step _ _ s21 hI22 f hT25) rfl rfl (Nat.le_of_ble_eq_true rfl) (by decide) (fun r51 s52 hr53 hp54 => ?_)
          obtain ⟨hI55, hF56, hT57, z58⟩ := hp54
          have hE59 : yst s52 = yPx f p24 := by rw [z58, hE26]
          have hF60 := zOn_tr hF23 hF56 zi_r12
          have L61 : yle (yst σ) (yPx f p24) := yle_tr g29 (yle_x hT25 hE26)
          have b62 := zv_20_2 hI55 zc_33
          have e63 := hF56 33 2 rfl
          have g64 := yJ_tr g28 (yJ_o ht (by omega))
          have I65 := yge_1 hT25 hE26 g30 (by omega)
          refine zt_aload_n (pc' := 54) hX dX1_product_53 rfl rfl ?_
          refine zt_iload_n (pc' := 55) hX dX1_product_54 rfl rfl ?_
          refine zt_cVv (pc' := 58) hX dX1_product_55 rfl zm_yX1_part zw_23_4 zc_33 (by decide) zs_20 (q := (RX1, TX1, 3)) rfl rfl (yc_X1_part_o0 _ _ s52 hI55 f hT57 rl (by omega) k hk) rfl rfl (Nat.le_of_ble_eq_true rfl) (by decide) (fun r66 s67 hr68 hp69 => ?_)
          obtain ⟨hI70, hF71, hT72, z73, z74⟩ := hp69
          rw [hE59] at z73
          rw [hE59] at z74
          have hF75 := zOn_tr hF60 hF71 zi_id
          obtain ⟨p76, hE77⟩ : ∃ p, yst s67 = p := ⟨_, rfl⟩
          rw [hE77] at z73
          rw [hE77] at z74
          have L78 := yle_tr L61 z74
          have b79 := zv_20_2 hI70 zc_33
          have e80 := hF71 33 2 rfl
          have g81 := yJ_tr g64 z73
          have I82 := yge_l I65 z74
          refine zt_aload_n (pc' := 59) hX dX1_product_58 rfl rfl ?_
          obtain ⟨k83, ek84, hk85⟩ := zv_20_1 hI70 zc_33
          refine zt_get (pc' := 62) (v := .ref (X.1.1 + k83)) hX dX1_product_59 rfl zf_X1_19 (by decide) zc_33 zs_20 (zrf_of ek84) ?_
          refine zt_iload_n (pc' := 63) hX dX1_product_62 rfl rfl ?_
          refine zt_cVv (pc' := 66) hX dX1_product_63 rfl zm_yX4_addStep zw_22_7 hk85 (by decide) zs_6 (q := (RX4, TX4, 2)) rfl rfl (yc_X4_addStep _ _ s67 hI70 k83 hk85 r44 ⟨by omega, by omega⟩) rfl rfl (Nat.le_of_ble_eq_true rfl) (by decide) (fun r86 s87 hr88 hp89 => ?_)
          obtain ⟨hI90, hF91⟩ := hp89
          have hF92 := zOn_tr hF75 hF91 zi_rp2
          have hT93 := yTk_rk hT72 (yRk_p hF91)
          have hE94 : yst s87 = p76 := (yst_rk (yRk_p hF91)).trans hE77
          have b95 := zv_20_2 hI90 zc_33
          have e96 := hF91 33 2 rfl
          refine zt_iinc (pc' := 69) (lv' := [some (.ref (X.1.1 + 33)), some (.int (zI 0)), some (.int (zI (x18 + 1))), some (.int (zI r44))]) hX dX1_product_66 rfl rfl hL (by decide) rfl ?_
          refine zt_goto (tgt := 7) hX dX1_product_69 (by decide) ?_
          refine zt_mask [true, true, true, false] rfl ?_
          exact ih33 (x18 + 1) s87 p76 (by omega) (by omega) hI90 hF92 hT93 hE94 (by omega) g81 L78 I82 (by omega)
        · refine zt_aload_n (pc' := 27) hX dX1_product_26 rfl rfl ?_
          refine zt_get (pc' := 30) (v := .ref (X.1.1 + 27)) hX dX1_product_27 rfl zf_X1_15 (by decide) zc_33 zs_20 (zrf_of (zv_20_0 hI22 zc_33)) ?_
          refine zt_cVi (pc' := 33) hX dX1_product_30 rfl zm_yX5_signHere zw_22_2 zc_27 (by decide) zs_14 (q := (RX5, TX5, 9)) rfl rfl (yc_X5_signHere _ _ s21 hI22 f hT25) rfl rfl (Nat.le_of_ble_eq_true rfl) (by decide) (fun r97 s98 hr99 hp100 => ?_)
          obtain ⟨rfl, q101, q102, z103⟩ := hp100
          rw [hE26] at z103
          refine zt_bipush (pc' := 35) hX dX1_product_33 rfl (by decide) (by decide) ?_
          refine zt_icne (pc' := 38) (tgt := 72) hX dX1_product_35 rfl (by decide) ⟨by omega, by omega⟩ ⟨by omega, by omega⟩ (fun c104 => ?_) (fun c104 => ?_)
          · exact zt_vret hX hR dX1_product_72 ⟨hI22, hF23, hT25, (by rw [hE26]; exact g28), (by rw [hE26]; exact g29), (by rw [hE26]; omega)⟩
          · refine zt_aload_n (pc' := 39) hX dX1_product_38 rfl rfl ?_
            refine zt_get (pc' := 42) (v := .ref (X.1.1 + 27)) hX dX1_product_39 rfl zf_X1_15 (by decide) zc_33 zs_20 (zrf_of (zv_20_0 hI22 zc_33)) ?_
            refine zt_cVi (pc' := 45) hX dX1_product_42 rfl zm_yX5_signHere zw_22_2 zc_27 (by decide) zs_14 (q := (RX5, TX5, 9)) rfl rfl (yc_X5_signHere _ _ s21 hI22 f hT25) rfl rfl (Nat.le_of_ble_eq_true rfl) (by decide) (fun r105 s106 hr107 hp108 => ?_)
            obtain ⟨rfl, q109, q110, z111⟩ := hp108
            rw [hE26] at z111
            refine zt_istore_n (pc' := 46) (lv' := [some (.ref (X.1.1 + 33)), some (.int (zI 0)), some (.int (zI x18)), some (.int (zI r105))]) hX dX1_product_45 rfl hL (by decide) rfl ?_
            refine zt_aload_n (pc' := 47) hX dX1_product_46 rfl rfl ?_
            refine zt_get (pc' := 50) (v := .ref (X.1.1 + 27)) hX dX1_product_47 rfl zf_X1_15 (by decide) zc_33 zs_20 (zrf_of (zv_20_0 hI22 zc_33)) ?_
            refine zt_cVv (pc' := 53) hX dX1_product_50 rfl zm_yX5_step zw_22_6 zc_27 (by decide) zs_14 (q := (RX5, TX5, 9)) rfl rfl (yc_X5_step _ _ s21 hI22 f hT25) rfl rfl (Nat.le_of_ble_eq_true rfl) (by decide) (fun r112 s113 hr114 hp115 => ?_)
            obtain ⟨hI116, hF117, hT118, z119⟩ := hp115
            have hE120 : yst s113 = yPx f p24 := by rw [z119, hE26]
            have hF121 := zOn_tr hF23 hF117 zi_r12
            have L122 : yle (yst σ) (yPx f p24) := yle_tr g29 (yle_x hT25 hE26)
            have b123 := zv_20_2 hI116 zc_33
            have e124 := hF117 33 2 rfl
            have g125 := yJ_tr g28 (yJ_o ht (by omega))
            have I126 := yge_1 hT25 hE26 g30 (by omega)
            refine zt_aload_n (pc' := 54) hX dX1_product_53 rfl rfl ?_
            refine zt_iload_n (pc' := 55) hX dX1_product_54 rfl rfl ?_
            refine zt_cVv (pc' := 58) hX dX1_product_55 rfl zm_yX1_part zw_23_4 zc_33 (by decide) zs_20 (q := (RX1, TX1, 3)) rfl rfl (yc_X1_part_o0 _ _ s113 hI116 f hT118 rl (by omega) k hk) rfl rfl (Nat.le_of_ble_eq_true rfl) (by decide) (fun r127 s128 hr129 hp130 => ?_)
            obtain ⟨hI131, hF132, hT133, z134, z135⟩ := hp130
            rw [hE120] at z134
            rw [hE120] at z135
            have hF136 := zOn_tr hF121 hF132 zi_id
            obtain ⟨p137, hE138⟩ : ∃ p, yst s128 = p := ⟨_, rfl⟩
            rw [hE138] at z134
            rw [hE138] at z135
            have L139 := yle_tr L122 z135
            have b140 := zv_20_2 hI131 zc_33
            have e141 := hF132 33 2 rfl
            have g142 := yJ_tr g125 z134
            have I143 := yge_l I126 z135
            refine zt_aload_n (pc' := 59) hX dX1_product_58 rfl rfl ?_
            obtain ⟨k144, ek145, hk146⟩ := zv_20_1 hI131 zc_33
            refine zt_get (pc' := 62) (v := .ref (X.1.1 + k144)) hX dX1_product_59 rfl zf_X1_19 (by decide) zc_33 zs_20 (zrf_of ek145) ?_
            refine zt_iload_n (pc' := 63) hX dX1_product_62 rfl rfl ?_
            refine zt_cVv (pc' := 66) hX dX1_product_63 rfl zm_yX4_addStep zw_22_7 hk146 (by decide) zs_6 (q := (RX4, TX4, 2)) rfl rfl (yc_X4_addStep _ _ s128 hI131 k144 hk146 r105 ⟨by omega, by omega⟩) rfl rfl (Nat.le_of_ble_eq_true rfl) (by decide) (fun r147 s148 hr149 hp150 => ?_)
            obtain ⟨hI151, hF152⟩ := hp150
            have hF153 := zOn_tr hF136 hF152 zi_rp2
            have hT154 := yTk_rk hT133 (yRk_p hF152)
            have hE155 : yst s148 = p137 := (yst_rk (yRk_p hF152)).trans hE138
            have b156 := zv_20_2 hI151 zc_33
            have e157 := hF152 33 2 rfl
            refine zt_iinc (pc' := 69) (lv' := [some (.ref (X.1.1 + 33)), some (.int (zI 0)), some (.int (zI (x18 + 1))), some (.int (zI r105))]) hX dX1_product_66 rfl rfl hL (by decide) rfl ?_
            refine zt_goto (tgt := 7) hX dX1_product_69 (by decide) ?_
            refine zt_mask [true, true, true, false] rfl ?_
            exact ih33 (x18 + 1) s148 p137 (by omega) (by omega) hI151 hF153 hT154 hE155 (by omega) g142 L139 I143 (by omega)
  exact L_7_30 _ 0 s3 p12 (by omega) (by omega) hI6 hF11 hT8 hE13 (by omega) g17 L14 (yge_0 hT8 hE13) (Nat.lt_succ_self _)
set_option maxRecDepth 100000 in
set_option maxHeartbeats 4000000 in
theorem yc_X1_sum_o0 (l : Launch) (E : zEN) (σ : zSto) (hI : zInv σ) (f : Int → Int) (hT : yTk f σ) (rl : Int) (hrl : σ 33 2 = rl) (k : List Nat) (hk : ydep k = 0) (ht : ytop k ≠ 4) : zCt l E yX1_sum cX1_sum 4 none 29 zNC zNC 0 0 σ [.ref (E.1 + 33), .int (zI 0)] (fun r σ' => zInv σ' ∧ zOn zR2 σ σ' ∧ yTk f σ' ∧ (yJ rl f (1, k, (yst σ)) (2, k, (yst σ'))) ∧ (yle (yst σ) (yst σ')) ∧ (yPg f (yst σ') ≠ 42 ∧ yPg f (yst σ') ≠ 47 ∧ yPg f (yst σ') ≠ 43 ∧ yPg f (yst σ') ≠ 45)) := by
  refine zCt_of2 [some (.ref (E.1 + 33)), some (.int (zI 0)), none, none] (by decide +kernel) (Nat.le_of_ble_eq_true rfl) rfl ?_
  intro X hE_ hX hR hL hN
  subst hE_
  have hX : zok X cX1_sum RX1 29 := hX
  have hF := zOn_rf zR2 σ
  have hE0 : yst σ = yst σ := rfl
  have L0 := yle_rf (yst σ)
  have b1 := zv_20_2 hI zc_33
  refine zt_aload_n (pc' := 1) hX dX1_sum_0 rfl rfl ?_
  refine zt_iload_n (pc' := 2) hX dX1_sum_1 rfl rfl ?_
  refine zt_cVv (pc' := 5) hX dX1_sum_2 rfl zm_yX1_product zw_21_23 zc_33 (by decide) zs_20 (q := (RX1, TX1, 3)) rfl rfl (yc_X1_product_o0 _ _ σ hI f hT rl (by omega) k hk ht) rfl rfl (Nat.le_of_ble_eq_true rfl) (by decide) (fun r2 s3 hr4 hp5 => ?_)
  obtain ⟨hI6, hF7, hT8, z9, z10, z11⟩ := hp5
  have hF12 := zOn_tr hF hF7 zi_id
  obtain ⟨p13, hE14⟩ : ∃ p, yst s3 = p := ⟨_, rfl⟩
  rw [hE14] at z9
  rw [hE14] at z10
  have L15 := yle_tr L0 z10
  rw [hE14] at z11
  have b16 := zv_20_2 hI6 zc_33
  have e17 := hF7 33 2 rfl
  have g18 := z9
  refine zt_iconst (pc' := 6) hX dX1_sum_5 rfl ?_
  refine zt_istore_n (pc' := 7) (lv' := [some (.ref (X.1.1 + 33)), some (.int (zI 0)), some (.int (zI 0)), none]) hX dX1_sum_6 rfl hL (by decide) rfl ?_
  have L_7_32 : ∀ (N : Nat) (x19 : Int) (s22 : zSto) (p25 : yP), 0 ≤ x19 → x19 ≤ 1600 → zInv s22 → zOn zR2 σ s22 → yTk f s22 → yst s22 = p25 → (yPg f p25 ≠ 42 ∧ yPg f p25 ≠ 47) → s22 33 2 = σ 33 2 → yJ rl f (1, k, yst σ) (2, k, p25) → yle (yst σ) p25 → yge x19 p25 → ((1601 - x19).toNat) < N → zF X s22 7 [some (.ref (X.1.1 + 33)), some (.int (zI 0)), some (.int (zI x19)), none] [] := by
    intro N
    induction N with
    | zero =>
      intro x19 s22 p25 h20 h21 hI23 hF24 hT26 hE27 g28 g29 g30 g31 g32 hm34
      exact absurd hm34 (Nat.not_lt_zero _)
    | succ N ih35 =>
      intro x19 s22 p25 h20 h21 hI23 hF24 hT26 hE27 g28 g29 g30 g31 g32 hm34
      have b36 := zv_20_2 hI23 zc_33
      have hx := yge_x hT26 hE27 g32
      refine zt_iload_n (pc' := 8) hX dX1_sum_7 rfl rfl ?_
      refine zt_sipush (pc' := 11) hX dX1_sum_8 rfl (by decide) (by decide) ?_
      refine zt_icge (pc' := 14) (tgt := 72) hX dX1_sum_11 rfl (by decide) ⟨by omega, by omega⟩ ⟨by omega, by omega⟩ (fun c37 => ?_) (fun c37 => ?_)
      · exact zt_vret hX hR dX1_sum_72 ⟨hI23, hF24, hT26, (by rw [hE27]; exact g30), (by rw [hE27]; exact g31), (by rw [hE27]; omega)⟩
      · refine zt_aload_n (pc' := 15) hX dX1_sum_14 rfl rfl ?_
        refine zt_get (pc' := 18) (v := .ref (X.1.1 + 27)) hX dX1_sum_15 rfl zf_X1_15 (by decide) zc_33 zs_20 (zrf_of (zv_20_0 hI23 zc_33)) ?_
        refine zt_cVi (pc' := 21) hX dX1_sum_18 rfl zm_yX5_signHere zw_22_2 zc_27 (by decide) zs_14 (q := (RX5, TX5, 9)) rfl rfl (yc_X5_signHere _ _ s22 hI23 f hT26) rfl rfl (Nat.le_of_ble_eq_true rfl) (by decide) (fun r38 s39 hr40 hp41 => ?_)
        obtain ⟨rfl, q42, q43, z44⟩ := hp41
        rw [hE27] at z44
        refine zt_bipush (pc' := 23) hX dX1_sum_21 rfl (by decide) (by decide) ?_
        refine zt_iceq (pc' := 26) (tgt := 38) hX dX1_sum_23 rfl (by decide) ⟨by omega, by omega⟩ ⟨by omega, by omega⟩ (fun c45 => ?_) (fun c45 => ?_)
        · refine zt_aload_n (pc' := 39) hX dX1_sum_38 rfl rfl ?_
          refine zt_get (pc' := 42) (v := .ref (X.1.1 + 27)) hX dX1_sum_39 rfl zf_X1_15 (by decide) zc_33 zs_20 (zrf_of (zv_20_0 hI23 zc_33)) ?_
          refine zt_cVi (pc' := 45) hX dX1_sum_42 rfl zm_yX5_signHere zw_22_2 zc_27 (by decide) zs_14 (q := (RX5, TX5, 9)) rfl rfl (yc_X5_signHere _ _ s22 hI23 f hT26) rfl rfl (Nat.le_of_ble_eq_true rfl) (by decide) (fun r46 s47 hr48 hp49 => ?_)
          obtain ⟨rfl, q50, q51, z52⟩ := hp49
          rw [hE27] at z52
          refine zt_istore_n (pc' := 46) (lv' := [some (.ref (X.1.1 + 33)), some (.int (zI 0)), some (.int (zI x19)), some (.int (zI r46))]) hX dX1_sum_45 rfl hL (by decide) rfl ?_
          refine zt_aload_n (pc' := 47) hX dX1_sum_46 rfl rfl ?_
          refine zt_get (pc' := 50) (v := .ref (X.1.1 + 27)) hX dX1_sum_47 rfl zf_X1_15 (by decide) zc_33 zs_20 (zrf_of (zv_20_0 hI23 zc_33)) ?_
          refine zt_cVv (pc' := 53) hX dX1_sum_50 rfl zm_yX5_step zw_22_6 zc_27 (by decide) zs_14 (q := (RX5, TX5, 9)) rfl rfl (yc_X5_step _ _ s22 hI23 f hT26) rfl rfl (Nat.le_of_ble_eq_true rfl) (by decide) (fun r53 s54 hr55 hp56 => ?_)
          obtain ⟨hI57, hF58, hT59, z60⟩ := hp56
          have hE61 : yst s54 = yPx f p25 := by rw [z60, hE27]
          have hF62 := zOn_tr hF24 hF58 zi_r12
          have L63 : yle (yst σ) (yPx f p25) := yle_tr g31 (yle_x hT26 hE27)
          have b64 := zv_20_2 hI57 zc_33
          have e65 := hF58 33 2 rfl
          have g66 := yJ_tr g30 (yJ_o ht (by omega))
          have I67 := yge_1 hT26 hE27 g32 (by omega)
          refine zt_aload_n (pc' := 54) hX dX1_sum_53 rfl rfl ?_
          refine zt_iload_n (pc' := 55) hX dX1_sum_54 rfl rfl ?_
          refine zt_cVv (pc' := 58) hX dX1_sum_55 rfl zm_yX1_product zw_21_23 zc_33 (by decide) zs_20 (q := (RX1, TX1, 3)) rfl rfl (yc_X1_product_o0 _ _ s54 hI57 f hT59 rl (by omega) k hk ht) rfl rfl (Nat.le_of_ble_eq_true rfl) (by decide) (fun r68 s69 hr70 hp71 => ?_)
          obtain ⟨hI72, hF73, hT74, z75, z76, z77⟩ := hp71
          rw [hE61] at z75
          rw [hE61] at z76
          have hF78 := zOn_tr hF62 hF73 zi_id
          obtain ⟨p79, hE80⟩ : ∃ p, yst s69 = p := ⟨_, rfl⟩
          rw [hE80] at z75
          rw [hE80] at z76
          have L81 := yle_tr L63 z76
          rw [hE80] at z77
          have b82 := zv_20_2 hI72 zc_33
          have e83 := hF73 33 2 rfl
          have g84 := yJ_tr g66 z75
          have I85 := yge_l I67 z76
          refine zt_aload_n (pc' := 59) hX dX1_sum_58 rfl rfl ?_
          obtain ⟨k86, ek87, hk88⟩ := zv_20_1 hI72 zc_33
          refine zt_get (pc' := 62) (v := .ref (X.1.1 + k86)) hX dX1_sum_59 rfl zf_X1_19 (by decide) zc_33 zs_20 (zrf_of ek87) ?_
          refine zt_iload_n (pc' := 63) hX dX1_sum_62 rfl rfl ?_
          refine zt_cVv (pc' := 66) hX dX1_sum_63 rfl zm_yX4_addStep zw_22_7 hk88 (by decide) zs_6 (q := (RX4, TX4, 2)) rfl rfl (yc_X4_addStep _ _ s69 hI72 k86 hk88 r46 ⟨by omega, by omega⟩) rfl rfl (Nat.le_of_ble_eq_true rfl) (by decide) (fun r89 s90 hr91 hp92 => ?_)
          obtain ⟨hI93, hF94⟩ := hp92
          have hF95 := zOn_tr hF78 hF94 zi_rp2
          have hT96 := yTk_rk hT74 (yRk_p hF94)
          have hE97 : yst s90 = p79 := (yst_rk (yRk_p hF94)).trans hE80
          have b98 := zv_20_2 hI93 zc_33
          have e99 := hF94 33 2 rfl
          refine zt_iinc (pc' := 69) (lv' := [some (.ref (X.1.1 + 33)), some (.int (zI 0)), some (.int (zI (x19 + 1))), some (.int (zI r46))]) hX dX1_sum_66 rfl rfl hL (by decide) rfl ?_
          refine zt_goto (tgt := 7) hX dX1_sum_69 (by decide) ?_
          refine zt_mask [true, true, true, false] rfl ?_
          exact ih35 (x19 + 1) s90 p79 (by omega) (by omega) hI93 hF95 hT96 hE97 (by omega) (by omega) g84 L81 I85 (by omega)
        · refine zt_aload_n (pc' := 27) hX dX1_sum_26 rfl rfl ?_
          refine zt_get (pc' := 30) (v := .ref (X.1.1 + 27)) hX dX1_sum_27 rfl zf_X1_15 (by decide) zc_33 zs_20 (zrf_of (zv_20_0 hI23 zc_33)) ?_
          refine zt_cVi (pc' := 33) hX dX1_sum_30 rfl zm_yX5_signHere zw_22_2 zc_27 (by decide) zs_14 (q := (RX5, TX5, 9)) rfl rfl (yc_X5_signHere _ _ s22 hI23 f hT26) rfl rfl (Nat.le_of_ble_eq_true rfl) (by decide) (fun r100 s101 hr102 hp103 => ?_)
          obtain ⟨rfl, q104, q105, z106⟩ := hp103
          rw [hE27] at z106
          refine zt_bipush (pc' := 35) hX dX1_sum_33 rfl (by decide) (by decide) ?_
          refine zt_icne (pc' := 38) (tgt := 72) hX dX1_sum_35 rfl (by decide) ⟨by omega, by omega⟩ ⟨by omega, by omega⟩ (fun c107 => ?_) (fun c107 => ?_)
          · exact zt_vret hX hR dX1_sum_72 ⟨hI23, hF24, hT26, (by rw [hE27]; exact g30), (by rw [hE27]; exact g31), (by rw [hE27]; omega)⟩
          · refine zt_aload_n (pc' := 39) hX dX1_sum_38 rfl rfl ?_
            refine zt_get (pc' := 42) (v := .ref (X.1.1 + 27)) hX dX1_sum_39 rfl zf_X1_15 (by decide) zc_33 zs_20 (zrf_of (zv_20_0 hI23 zc_33)) ?_
            refine zt_cVi (pc' := 45) hX dX1_sum_42 rfl zm_yX5_signHere zw_22_2 zc_27 (by decide) zs_14 (q := (RX5, TX5, 9)) rfl rfl (yc_X5_signHere _ _ s22 hI23 f hT26) rfl rfl (Nat.le_of_ble_eq_true rfl) (by decide) (fun r108 s109 hr110 hp111 => ?_)
            obtain ⟨rfl, q112, q113, z114⟩ := hp111
            rw [hE27] at z114
            refine zt_istore_n (pc' := 46) (lv' := [some (.ref (X.1.1 + 33)), some (.int (zI 0)), some (.int (zI x19)), some (.int (zI r108))]) hX dX1_sum_45 rfl hL (by decide) rfl ?_
            refine zt_aload_n (pc' := 47) hX dX1_sum_46 rfl rfl ?_
            refine zt_get (pc' := 50) (v := .ref (X.1.1 + 27)) hX dX1_sum_47 rfl zf_X1_15 (by decide) zc_33 zs_20 (zrf_of (zv_20_0 hI23 zc_33)) ?_
            refine zt_cVv (pc' := 53) hX dX1_sum_50 rfl zm_yX5_step zw_22_6 zc_27 (by decide) zs_14 (q := (RX5, TX5, 9)) rfl rfl (yc_X5_step _ _ s22 hI23 f hT26) rfl rfl (Nat.le_of_ble_eq_true rfl) (by decide) (fun r115 s116 hr117 hp118 => ?_)
            obtain ⟨hI119, hF120, hT121, z122⟩ := hp118
            have hE123 : yst s116 = yPx f p25 := by rw [z122, hE27]
            have hF124 := zOn_tr hF24 hF120 zi_r12
            have L125 : yle (yst σ) (yPx f p25) := yle_tr g31 (yle_x hT26 hE27)
            have b126 := zv_20_2 hI119 zc_33
            have e127 := hF120 33 2 rfl
            have g128 := yJ_tr g30 (yJ_o ht (by omega))
            have I129 := yge_1 hT26 hE27 g32 (by omega)
            refine zt_aload_n (pc' := 54) hX dX1_sum_53 rfl rfl ?_
            refine zt_iload_n (pc' := 55) hX dX1_sum_54 rfl rfl ?_
            refine zt_cVv (pc' := 58) hX dX1_sum_55 rfl zm_yX1_product zw_21_23 zc_33 (by decide) zs_20 (q := (RX1, TX1, 3)) rfl rfl (yc_X1_product_o0 _ _ s116 hI119 f hT121 rl (by omega) k hk ht) rfl rfl (Nat.le_of_ble_eq_true rfl) (by decide) (fun r130 s131 hr132 hp133 => ?_)
            obtain ⟨hI134, hF135, hT136, z137, z138, z139⟩ := hp133
            rw [hE123] at z137
            rw [hE123] at z138
            have hF140 := zOn_tr hF124 hF135 zi_id
            obtain ⟨p141, hE142⟩ : ∃ p, yst s131 = p := ⟨_, rfl⟩
            rw [hE142] at z137
            rw [hE142] at z138
            have L143 := yle_tr L125 z138
            rw [hE142] at z139
            have b144 := zv_20_2 hI134 zc_33
            have e145 := hF135 33 2 rfl
            have g146 := yJ_tr g128 z137
            have I147 := yge_l I129 z138
            refine zt_aload_n (pc' := 59) hX dX1_sum_58 rfl rfl ?_
            obtain ⟨k148, ek149, hk150⟩ := zv_20_1 hI134 zc_33
            refine zt_get (pc' := 62) (v := .ref (X.1.1 + k148)) hX dX1_sum_59 rfl zf_X1_19 (by decide) zc_33 zs_20 (zrf_of ek149) ?_
            refine zt_iload_n (pc' := 63) hX dX1_sum_62 rfl rfl ?_
            refine zt_cVv (pc' := 66) hX dX1_sum_63 rfl zm_yX4_addStep zw_22_7 hk150 (by decide) zs_6 (q := (RX4, TX4, 2)) rfl rfl (yc_X4_addStep _ _ s131 hI134 k148 hk150 r108 ⟨by omega, by omega⟩) rfl rfl (Nat.le_of_ble_eq_true rfl) (by decide) (fun r151 s152 hr153 hp154 => ?_)
            obtain ⟨hI155, hF156⟩ := hp154
            have hF157 := zOn_tr hF140 hF156 zi_rp2
            have hT158 := yTk_rk hT136 (yRk_p hF156)
            have hE159 : yst s152 = p141 := (yst_rk (yRk_p hF156)).trans hE142
            have b160 := zv_20_2 hI155 zc_33
            have e161 := hF156 33 2 rfl
            refine zt_iinc (pc' := 69) (lv' := [some (.ref (X.1.1 + 33)), some (.int (zI 0)), some (.int (zI (x19 + 1))), some (.int (zI r108))]) hX dX1_sum_66 rfl rfl hL (by decide) rfl ?_
            refine zt_goto (tgt := 7) hX dX1_sum_69 (by decide) ?_
            refine zt_mask [true, true, true, false] rfl ?_
            exact ih35 (x19 + 1) s152 p141 (by omega) (by omega) hI155 hF157 hT158 hE159 (by omega) (by omega) g146 L143 I147 (by omega)
  exact L_7_32 _ 0 s3 p13 (by omega) (by omega) hI6 hF12 hT8 hE14 (by omega) (by omega) g18 L15 (yge_0 hT8 hE14) (Nat.lt_succ_self _)
set_option maxRecDepth 100000 in
set_option maxHeartbeats 4000000 in
theorem yc_X1_comparison_o0 (l : Launch) (E : zEN) (σ : zSto) (hI : zInv σ) (f : Int → Int) (hT : yTk f σ) (rl : Int) (hrl : σ 33 2 = rl) (k : List Nat) (hk : ydep k = 0) : zCt l E yX1_comparison cX1_comparison 3 none 30 zNC zNC 0 0 σ [.ref (E.1 + 33), .int (zI 0)] (fun r σ' => zInv σ' ∧ zOn zR2 σ σ' ∧ yTk f σ' ∧ (yJ rl f (1, 5 :: k, (yst σ)) (5, k, (yst σ'))) ∧ (yle (yst σ) (yst σ'))) := by
  refine zCt_of2 [some (.ref (E.1 + 33)), some (.int (zI 0)), none] (by decide +kernel) (Nat.le_of_ble_eq_true rfl) rfl ?_
  intro X hE_ hX hR hL hN
  subst hE_
  have hX : zok X cX1_comparison RX1 30 := hX
  have hF := zOn_rf zR2 σ
  have hE0 : yst σ = yst σ := rfl
  have L0 := yle_rf (yst σ)
  have b1 := zv_20_2 hI zc_33
  refine zt_aload_n (pc' := 1) hX dX1_comparison_0 rfl rfl ?_
  refine zt_iload_n (pc' := 2) hX dX1_comparison_1 rfl rfl ?_
  refine zt_cVv (pc' := 5) hX dX1_comparison_2 rfl zm_yX1_sum zw_21_19 zc_33 (by decide) zs_20 (q := (RX1, TX1, 3)) rfl rfl (yc_X1_sum_o0 _ _ σ hI f hT rl (by omega) (5 :: k) hk (Nat.ne_of_beq_eq_false rfl)) rfl rfl (Nat.le_of_ble_eq_true rfl) (by decide) (fun r2 s3 hr4 hp5 => ?_)
  obtain ⟨hI6, hF7, hT8, z9, z10, z11⟩ := hp5
  have hF12 := zOn_tr hF hF7 zi_id
  obtain ⟨p13, hE14⟩ : ∃ p, yst s3 = p := ⟨_, rfl⟩
  rw [hE14] at z9
  rw [hE14] at z10
  have L15 := yle_tr L0 z10
  rw [hE14] at z11
  have b16 := zv_20_2 hI6 zc_33
  have e17 := hF7 33 2 rfl
  refine zt_aload_n (pc' := 6) hX dX1_comparison_5 rfl rfl ?_
  refine zt_get (pc' := 9) (v := .ref (X.1.1 + 27)) hX dX1_comparison_6 rfl zf_X1_15 (by decide) zc_33 zs_20 (zrf_of (zv_20_0 hI6 zc_33)) ?_
  refine zt_cVi (pc' := 12) hX dX1_comparison_9 rfl zm_yX5_signHere zw_22_2 zc_27 (by decide) zs_14 (q := (RX5, TX5, 9)) rfl rfl (yc_X5_signHere _ _ s3 hI6 f hT8) rfl rfl (Nat.le_of_ble_eq_true rfl) (by decide) (fun r18 s19 hr20 hp21 => ?_)
  obtain ⟨rfl, q22, q23, z24⟩ := hp21
  rw [hE14] at z24
  refine zt_istore_n (pc' := 13) (lv' := [some (.ref (X.1.1 + 33)), some (.int (zI 0)), some (.int (zI r18))]) hX dX1_comparison_12 rfl hL (by decide) rfl ?_
  refine zt_iload_n (pc' := 14) hX dX1_comparison_13 rfl rfl ?_
  refine zt_bipush (pc' := 16) hX dX1_comparison_14 rfl (by decide) (by decide) ?_
  refine zt_iceq (pc' := 19) (tgt := 31) hX dX1_comparison_16 rfl (by decide) ⟨by omega, by omega⟩ ⟨by omega, by omega⟩ (fun c25 => ?_) (fun c25 => ?_)
  · refine zt_aload_n (pc' := 32) hX dX1_comparison_31 rfl rfl ?_
    refine zt_get (pc' := 35) (v := .ref (X.1.1 + 27)) hX dX1_comparison_32 rfl zf_X1_15 (by decide) zc_33 zs_20 (zrf_of (zv_20_0 hI6 zc_33)) ?_
    refine zt_cVv (pc' := 38) hX dX1_comparison_35 rfl zm_yX5_step zw_22_6 zc_27 (by decide) zs_14 (q := (RX5, TX5, 9)) rfl rfl (yc_X5_step _ _ s3 hI6 f hT8) rfl rfl (Nat.le_of_ble_eq_true rfl) (by decide) (fun r26 s27 hr28 hp29 => ?_)
    obtain ⟨hI30, hF31, hT32, z33⟩ := hp29
    have hE34 : yst s27 = yPx f p13 := by rw [z33, hE14]
    have hF35 := zOn_tr hF12 hF31 zi_r12
    have L36 : yle (yst σ) (yPx f p13) := yle_tr L15 (yle_x hT8 hE14)
    have b37 := zv_20_2 hI30 zc_33
    have e38 := hF31 33 2 rfl
    refine zt_aload_n (pc' := 39) hX dX1_comparison_38 rfl rfl ?_
    refine zt_iload_n (pc' := 40) hX dX1_comparison_39 rfl rfl ?_
    refine zt_cVv (pc' := 43) hX dX1_comparison_40 rfl zm_yX1_sum zw_21_19 zc_33 (by decide) zs_20 (q := (RX1, TX1, 3)) rfl rfl (yc_X1_sum_o0 _ _ s27 hI30 f hT32 rl (by omega) (6 :: k) hk (Nat.ne_of_beq_eq_false rfl)) rfl rfl (Nat.le_of_ble_eq_true rfl) (by decide) (fun r39 s40 hr41 hp42 => ?_)
    obtain ⟨hI43, hF44, hT45, z46, z47, z48⟩ := hp42
    rw [hE34] at z46
    rw [hE34] at z47
    have hF49 := zOn_tr hF35 hF44 zi_id
    obtain ⟨p50, hE51⟩ : ∃ p, yst s40 = p := ⟨_, rfl⟩
    rw [hE51] at z46
    rw [hE51] at z47
    have L52 := yle_tr L36 z47
    rw [hE51] at z48
    have b53 := zv_20_2 hI43 zc_33
    have e54 := hF44 33 2 rfl
    refine zt_aload_n (pc' := 44) hX dX1_comparison_43 rfl rfl ?_
    obtain ⟨k55, ek56, hk57⟩ := zv_20_1 hI43 zc_33
    refine zt_get (pc' := 47) (v := .ref (X.1.1 + k55)) hX dX1_comparison_44 rfl zf_X1_19 (by decide) zc_33 zs_20 (zrf_of ek56) ?_
    refine zt_iload_n (pc' := 48) hX dX1_comparison_47 rfl rfl ?_
    refine zt_cVv (pc' := 51) hX dX1_comparison_48 rfl zm_yX4_addStep zw_22_7 hk57 (by decide) zs_6 (q := (RX4, TX4, 2)) rfl rfl (yc_X4_addStep _ _ s40 hI43 k55 hk57 r18 ⟨by omega, by omega⟩) rfl rfl (Nat.le_of_ble_eq_true rfl) (by decide) (fun r58 s59 hr60 hp61 => ?_)
    obtain ⟨hI62, hF63⟩ := hp61
    have hF64 := zOn_tr hF49 hF63 zi_rp2
    have hT65 := yTk_rk hT45 (yRk_p hF63)
    have hE66 : yst s59 = p50 := (yst_rk (yRk_p hF63)).trans hE51
    have b67 := zv_20_2 hI62 zc_33
    have e68 := hF63 33 2 rfl
    refine zt_goto (tgt := 69) hX dX1_comparison_51 (by decide) ?_
    exact zt_vret hX hR dX1_comparison_69 ⟨hI62, hF64, hT65, (by rw [hE66]; exact yJ_tr z9 (yJ_tr (yJ_cs (by omega)) (yJ_tr z46 (yJ_ce z48)))), (by rw [hE66]; exact L52)⟩
  · refine zt_iload_n (pc' := 20) hX dX1_comparison_19 rfl rfl ?_
    refine zt_bipush (pc' := 22) hX dX1_comparison_20 rfl (by decide) (by decide) ?_
    refine zt_iceq (pc' := 25) (tgt := 31) hX dX1_comparison_22 rfl (by decide) ⟨by omega, by omega⟩ ⟨by omega, by omega⟩ (fun c69 => ?_) (fun c69 => ?_)
    · refine zt_aload_n (pc' := 32) hX dX1_comparison_31 rfl rfl ?_
      refine zt_get (pc' := 35) (v := .ref (X.1.1 + 27)) hX dX1_comparison_32 rfl zf_X1_15 (by decide) zc_33 zs_20 (zrf_of (zv_20_0 hI6 zc_33)) ?_
      refine zt_cVv (pc' := 38) hX dX1_comparison_35 rfl zm_yX5_step zw_22_6 zc_27 (by decide) zs_14 (q := (RX5, TX5, 9)) rfl rfl (yc_X5_step _ _ s3 hI6 f hT8) rfl rfl (Nat.le_of_ble_eq_true rfl) (by decide) (fun r70 s71 hr72 hp73 => ?_)
      obtain ⟨hI74, hF75, hT76, z77⟩ := hp73
      have hE78 : yst s71 = yPx f p13 := by rw [z77, hE14]
      have hF79 := zOn_tr hF12 hF75 zi_r12
      have L80 : yle (yst σ) (yPx f p13) := yle_tr L15 (yle_x hT8 hE14)
      have b81 := zv_20_2 hI74 zc_33
      have e82 := hF75 33 2 rfl
      refine zt_aload_n (pc' := 39) hX dX1_comparison_38 rfl rfl ?_
      refine zt_iload_n (pc' := 40) hX dX1_comparison_39 rfl rfl ?_
      refine zt_cVv (pc' := 43) hX dX1_comparison_40 rfl zm_yX1_sum zw_21_19 zc_33 (by decide) zs_20 (q := (RX1, TX1, 3)) rfl rfl (yc_X1_sum_o0 _ _ s71 hI74 f hT76 rl (by omega) (6 :: k) hk (Nat.ne_of_beq_eq_false rfl)) rfl rfl (Nat.le_of_ble_eq_true rfl) (by decide) (fun r83 s84 hr85 hp86 => ?_)
      obtain ⟨hI87, hF88, hT89, z90, z91, z92⟩ := hp86
      rw [hE78] at z90
      rw [hE78] at z91
      have hF93 := zOn_tr hF79 hF88 zi_id
      obtain ⟨p94, hE95⟩ : ∃ p, yst s84 = p := ⟨_, rfl⟩
      rw [hE95] at z90
      rw [hE95] at z91
      have L96 := yle_tr L80 z91
      rw [hE95] at z92
      have b97 := zv_20_2 hI87 zc_33
      have e98 := hF88 33 2 rfl
      refine zt_aload_n (pc' := 44) hX dX1_comparison_43 rfl rfl ?_
      obtain ⟨k99, ek100, hk101⟩ := zv_20_1 hI87 zc_33
      refine zt_get (pc' := 47) (v := .ref (X.1.1 + k99)) hX dX1_comparison_44 rfl zf_X1_19 (by decide) zc_33 zs_20 (zrf_of ek100) ?_
      refine zt_iload_n (pc' := 48) hX dX1_comparison_47 rfl rfl ?_
      refine zt_cVv (pc' := 51) hX dX1_comparison_48 rfl zm_yX4_addStep zw_22_7 hk101 (by decide) zs_6 (q := (RX4, TX4, 2)) rfl rfl (yc_X4_addStep _ _ s84 hI87 k99 hk101 r18 ⟨by omega, by omega⟩) rfl rfl (Nat.le_of_ble_eq_true rfl) (by decide) (fun r102 s103 hr104 hp105 => ?_)
      obtain ⟨hI106, hF107⟩ := hp105
      have hF108 := zOn_tr hF93 hF107 zi_rp2
      have hT109 := yTk_rk hT89 (yRk_p hF107)
      have hE110 : yst s103 = p94 := (yst_rk (yRk_p hF107)).trans hE95
      have b111 := zv_20_2 hI106 zc_33
      have e112 := hF107 33 2 rfl
      refine zt_goto (tgt := 69) hX dX1_comparison_51 (by decide) ?_
      exact zt_vret hX hR dX1_comparison_69 ⟨hI106, hF108, hT109, (by rw [hE110]; exact yJ_tr z9 (yJ_tr (yJ_cs (by omega)) (yJ_tr z90 (yJ_ce z92)))), (by rw [hE110]; exact L96)⟩
    · refine zt_iload_n (pc' := 26) hX dX1_comparison_25 rfl rfl ?_
      refine zt_bipush (pc' := 28) hX dX1_comparison_26 rfl (by decide) (by decide) ?_
      refine zt_icne (pc' := 31) (tgt := 54) hX dX1_comparison_28 rfl (by decide) ⟨by omega, by omega⟩ ⟨by omega, by omega⟩ (fun c113 => ?_) (fun c113 => ?_)
      · refine zt_aload_n (pc' := 55) hX dX1_comparison_54 rfl rfl ?_
        refine zt_get (pc' := 58) (v := .ref (X.1.1 + 27)) hX dX1_comparison_55 rfl zf_X1_15 (by decide) zc_33 zs_20 (zrf_of (zv_20_0 hI6 zc_33)) ?_
        refine zt_iconst (pc' := 59) hX dX1_comparison_58 rfl ?_
        refine zt_aload_n (pc' := 60) hX dX1_comparison_59 rfl rfl ?_
        refine zt_get (pc' := 63) (v := .ref (X.1.1 + 27)) hX dX1_comparison_60 rfl zf_X1_15 (by decide) zc_33 zs_20 (zrf_of (zv_20_0 hI6 zc_33)) ?_
        refine zt_cVi (pc' := 66) hX dX1_comparison_63 rfl zm_yX5_placeHere zw_22_9 zc_27 (by decide) zs_14 (q := (RX5, TX5, 9)) rfl rfl (yc_X5_placeHere _ _ s3 hI6 f hT8) rfl rfl (Nat.le_of_ble_eq_true rfl) (by decide) (fun r114 s115 hr116 hp117 => ?_)
        obtain ⟨rfl, q118, q119, z120⟩ := hp117
        rw [hE14] at z120
        refine zt_cVv (pc' := 69) hX dX1_comparison_66 rfl zm_yX5_refuse zw_22_10 zc_27 (by decide) zs_14 (q := (RX5, TX5, 9)) rfl rfl (yc_X5_refuse _ _ s3 hI6 1 ⟨by omega, by omega⟩ r114 ⟨by omega, by omega⟩ (by omega) f hT8) rfl rfl (Nat.le_of_ble_eq_true rfl) (by decide) (fun r121 s122 hr123 hp124 => ?_)
        obtain ⟨hI125, hF126, hT127, z128⟩ := hp124
        have hE129 : yst s122 = yPno 1 r114 p13 := by rw [z128, hE14]
        have hF130 := zOn_tr hF12 hF126 zi_r12
        have L131 : yle (yst σ) (yPno 1 r114 p13) := yle_tr L15 yle_no
        have b132 := zv_20_2 hI125 zc_33
        have e133 := hF126 33 2 rfl
        exact zt_vret hX hR dX1_comparison_69 ⟨hI125, hF130, hT127, (by rw [hE129, yPno_f (p := r114) (d := 0) (fun o => by omega)]; exact yJ_tr z9 (yJ_cb z11 (by omega))), (by rw [hE129]; exact L131)⟩
      · refine zt_aload_n (pc' := 32) hX dX1_comparison_31 rfl rfl ?_
        refine zt_get (pc' := 35) (v := .ref (X.1.1 + 27)) hX dX1_comparison_32 rfl zf_X1_15 (by decide) zc_33 zs_20 (zrf_of (zv_20_0 hI6 zc_33)) ?_
        refine zt_cVv (pc' := 38) hX dX1_comparison_35 rfl zm_yX5_step zw_22_6 zc_27 (by decide) zs_14 (q := (RX5, TX5, 9)) rfl rfl (yc_X5_step _ _ s3 hI6 f hT8) rfl rfl (Nat.le_of_ble_eq_true rfl) (by decide) (fun r134 s135 hr136 hp137 => ?_)
        obtain ⟨hI138, hF139, hT140, z141⟩ := hp137
        have hE142 : yst s135 = yPx f p13 := by rw [z141, hE14]
        have hF143 := zOn_tr hF12 hF139 zi_r12
        have L144 : yle (yst σ) (yPx f p13) := yle_tr L15 (yle_x hT8 hE14)
        have b145 := zv_20_2 hI138 zc_33
        have e146 := hF139 33 2 rfl
        refine zt_aload_n (pc' := 39) hX dX1_comparison_38 rfl rfl ?_
        refine zt_iload_n (pc' := 40) hX dX1_comparison_39 rfl rfl ?_
        refine zt_cVv (pc' := 43) hX dX1_comparison_40 rfl zm_yX1_sum zw_21_19 zc_33 (by decide) zs_20 (q := (RX1, TX1, 3)) rfl rfl (yc_X1_sum_o0 _ _ s135 hI138 f hT140 rl (by omega) (6 :: k) hk (Nat.ne_of_beq_eq_false rfl)) rfl rfl (Nat.le_of_ble_eq_true rfl) (by decide) (fun r147 s148 hr149 hp150 => ?_)
        obtain ⟨hI151, hF152, hT153, z154, z155, z156⟩ := hp150
        rw [hE142] at z154
        rw [hE142] at z155
        have hF157 := zOn_tr hF143 hF152 zi_id
        obtain ⟨p158, hE159⟩ : ∃ p, yst s148 = p := ⟨_, rfl⟩
        rw [hE159] at z154
        rw [hE159] at z155
        have L160 := yle_tr L144 z155
        rw [hE159] at z156
        have b161 := zv_20_2 hI151 zc_33
        have e162 := hF152 33 2 rfl
        refine zt_aload_n (pc' := 44) hX dX1_comparison_43 rfl rfl ?_
        obtain ⟨k163, ek164, hk165⟩ := zv_20_1 hI151 zc_33
        refine zt_get (pc' := 47) (v := .ref (X.1.1 + k163)) hX dX1_comparison_44 rfl zf_X1_19 (by decide) zc_33 zs_20 (zrf_of ek164) ?_
        refine zt_iload_n (pc' := 48) hX dX1_comparison_47 rfl rfl ?_
        refine zt_cVv (pc' := 51) hX dX1_comparison_48 rfl zm_yX4_addStep zw_22_7 hk165 (by decide) zs_6 (q := (RX4, TX4, 2)) rfl rfl (yc_X4_addStep _ _ s148 hI151 k163 hk165 r18 ⟨by omega, by omega⟩) rfl rfl (Nat.le_of_ble_eq_true rfl) (by decide) (fun r166 s167 hr168 hp169 => ?_)
        obtain ⟨hI170, hF171⟩ := hp169
        have hF172 := zOn_tr hF157 hF171 zi_rp2
        have hT173 := yTk_rk hT153 (yRk_p hF171)
        have hE174 : yst s167 = p158 := (yst_rk (yRk_p hF171)).trans hE159
        have b175 := zv_20_2 hI170 zc_33
        have e176 := hF171 33 2 rfl
        refine zt_goto (tgt := 69) hX dX1_comparison_51 (by decide) ?_
        exact zt_vret hX hR dX1_comparison_69 ⟨hI170, hF172, hT173, (by rw [hE174]; exact yJ_tr z9 (yJ_tr (yJ_cs (by omega)) (yJ_tr z154 (yJ_ce z156)))), (by rw [hE174]; exact L160)⟩
set_option maxRecDepth 100000 in
set_option maxHeartbeats 4000000 in
theorem yc_X1_fact_o0 (l : Launch) (E : zEN) (σ : zSto) (hI : zInv σ) (f : Int → Int) (hT : yTk f σ) (rl : Int) (hrl : σ 33 2 = rl) (k : List Nat) (hk : ydep k = 0) : zCt l E yX1_fact cX1_fact 2 none 31 zNC zNC 0 0 σ [.ref (E.1 + 33), .int (zI 0)] (fun r σ' => zInv σ' ∧ zOn zR2 σ σ' ∧ yTk f σ' ∧ (yJ rl f (4, k, (yst σ)) (5, k, (yst σ'))) ∧ (yle (yst σ) (yst σ'))) := by
  refine zCt_of2 [some (.ref (E.1 + 33)), some (.int (zI 0))] (by decide +kernel) (Nat.le_of_ble_eq_true rfl) rfl ?_
  intro X hE_ hX hR hL hN
  subst hE_
  have hX : zok X cX1_fact RX1 31 := hX
  have hF := zOn_rf zR2 σ
  have hE0 : yst σ = yst σ := rfl
  have L0 := yle_rf (yst σ)
  have b1 := zv_20_2 hI zc_33
  refine zt_aload_n (pc' := 1) hX dX1_fact_0 rfl rfl ?_
  refine zt_get (pc' := 4) (v := .ref (X.1.1 + 27)) hX dX1_fact_1 rfl zf_X1_15 (by decide) zc_33 zs_20 (zrf_of (zv_20_0 hI zc_33)) ?_
  refine zt_cVi (pc' := 7) hX dX1_fact_4 rfl zm_yX5_wordHere zw_22_21 zc_27 (by decide) zs_14 (q := (RX5, TX5, 9)) rfl rfl (yc_X5_wordHere _ _ σ hI f hT) rfl rfl (Nat.le_of_ble_eq_true rfl) (by decide) (fun r2 s3 hr4 hp5 => ?_)
  obtain ⟨rfl, q6, q7, z8⟩ := hp5
  refine zt_bipush (pc' := 9) hX dX1_fact_7 rfl (by decide) (by decide) ?_
  refine zt_icne (pc' := 12) (tgt := 39) hX dX1_fact_9 rfl (by decide) ⟨by omega, by omega⟩ ⟨by omega, by omega⟩ (fun c9 => ?_) (fun c9 => ?_)
  · refine zt_aload_n (pc' := 40) hX dX1_fact_39 rfl rfl ?_
    refine zt_get (pc' := 43) (v := .ref (X.1.1 + 27)) hX dX1_fact_40 rfl zf_X1_15 (by decide) zc_33 zs_20 (zrf_of (zv_20_0 hI zc_33)) ?_
    refine zt_cVi (pc' := 46) hX dX1_fact_43 rfl zm_yX5_signHere zw_22_2 zc_27 (by decide) zs_14 (q := (RX5, TX5, 9)) rfl rfl (yc_X5_signHere _ _ σ hI f hT) rfl rfl (Nat.le_of_ble_eq_true rfl) (by decide) (fun r10 s11 hr12 hp13 => ?_)
    obtain ⟨rfl, q14, q15, z16⟩ := hp13
    refine zt_bipush (pc' := 48) hX dX1_fact_46 rfl (by decide) (by decide) ?_
    refine zt_icne (pc' := 51) (tgt := 78) hX dX1_fact_48 rfl (by decide) ⟨by omega, by omega⟩ ⟨by omega, by omega⟩ (fun c17 => ?_) (fun c17 => ?_)
    · refine zt_aload_n (pc' := 79) hX dX1_fact_78 rfl rfl ?_
      refine zt_get (pc' := 82) (v := .ref (X.1.1 + 27)) hX dX1_fact_79 rfl zf_X1_15 (by decide) zc_33 zs_20 (zrf_of (zv_20_0 hI zc_33)) ?_
      refine zt_cVi (pc' := 85) hX dX1_fact_82 rfl zm_yX5_wordHere zw_22_21 zc_27 (by decide) zs_14 (q := (RX5, TX5, 9)) rfl rfl (yc_X5_wordHere _ _ σ hI f hT) rfl rfl (Nat.le_of_ble_eq_true rfl) (by decide) (fun r18 s19 hr20 hp21 => ?_)
      obtain ⟨rfl, q22, q23, z24⟩ := hp21
      refine zt_bipush (pc' := 87) hX dX1_fact_85 rfl (by decide) (by decide) ?_
      refine zt_icne (pc' := 90) (tgt := 109) hX dX1_fact_87 rfl (by decide) ⟨by omega, by omega⟩ ⟨by omega, by omega⟩ (fun c25 => ?_) (fun c25 => ?_)
      · refine zt_aload_n (pc' := 110) hX dX1_fact_109 rfl rfl ?_
        refine zt_iload_n (pc' := 111) hX dX1_fact_110 rfl rfl ?_
        refine zt_cVv (pc' := 114) hX dX1_fact_111 rfl zm_yX1_comparison zw_24_14 zc_33 (by decide) zs_20 (q := (RX1, TX1, 3)) rfl rfl (yc_X1_comparison_o0 _ _ σ hI f hT rl (by omega) k hk) rfl rfl (Nat.le_of_ble_eq_true rfl) (by decide) (fun r26 s27 hr28 hp29 => ?_)
        obtain ⟨hI30, hF31, hT32, z33, z34⟩ := hp29
        have hF35 := zOn_tr hF hF31 zi_id
        obtain ⟨p36, hE37⟩ : ∃ p, yst s27 = p := ⟨_, rfl⟩
        rw [hE37] at z33
        rw [hE37] at z34
        have L38 := yle_tr L0 z34
        have b39 := zv_20_2 hI30 zc_33
        have e40 := hF31 33 2 rfl
        exact zt_vret hX hR dX1_fact_114 ⟨hI30, hF35, hT32, (by rw [hE37]; exact yJ_tr (yJ_cmp (by omega) (by omega) (by omega)) z33), (by rw [hE37]; exact L38)⟩
      · refine zt_aload_n (pc' := 91) hX dX1_fact_90 rfl rfl ?_
        refine zt_get (pc' := 94) (v := .ref (X.1.1 + 27)) hX dX1_fact_91 rfl zf_X1_15 (by decide) zc_33 zs_20 (zrf_of (zv_20_0 hI zc_33)) ?_
        refine zt_cVv (pc' := 97) hX dX1_fact_94 rfl zm_yX5_step zw_22_6 zc_27 (by decide) zs_14 (q := (RX5, TX5, 9)) rfl rfl (yc_X5_step _ _ σ hI f hT) rfl rfl (Nat.le_of_ble_eq_true rfl) (by decide) (fun r41 s42 hr43 hp44 => ?_)
        obtain ⟨hI45, hF46, hT47, z48⟩ := hp44
        have hE49 : yst s42 = yPx f (yst σ) := z48
        have hF50 := zOn_tr hF hF46 zi_r12
        have L51 : yle (yst σ) (yPx f (yst σ)) := yle_tr L0 (yle_x hT hE0)
        have b52 := zv_20_2 hI45 zc_33
        have e53 := hF46 33 2 rfl
        refine zt_aload_n (pc' := 98) hX dX1_fact_97 rfl rfl ?_
        obtain ⟨k54, ek55, hk56⟩ := zv_20_1 hI45 zc_33
        refine zt_get (pc' := 101) (v := .ref (X.1.1 + k54)) hX dX1_fact_98 rfl zf_X1_19 (by decide) zc_33 zs_20 (zrf_of ek55) ?_
        refine zt_bipush (pc' := 103) hX dX1_fact_101 rfl (by decide) (by decide) ?_
        refine zt_cVv (pc' := 106) hX dX1_fact_103 rfl zm_yX4_addStep zw_22_7 hk56 (by decide) zs_6 (q := (RX4, TX4, 2)) rfl rfl (yc_X4_addStep _ _ s42 hI45 k54 hk56 24 ⟨by omega, by omega⟩) rfl rfl (Nat.le_of_ble_eq_true rfl) (by decide) (fun r57 s58 hr59 hp60 => ?_)
        obtain ⟨hI61, hF62⟩ := hp60
        have hF63 := zOn_tr hF50 hF62 zi_rp2
        have hT64 := yTk_rk hT47 (yRk_p hF62)
        have hE65 : yst s58 = yPx f (yst σ) := (yst_rk (yRk_p hF62)).trans hE49
        have b66 := zv_20_2 hI61 zc_33
        have e67 := hF62 33 2 rfl
        refine zt_goto (tgt := 114) hX dX1_fact_106 (by decide) ?_
        exact zt_vret hX hR dX1_fact_114 ⟨hI61, hF63, hT64, (by rw [hE65]; exact yJ_all (by omega)), (by rw [hE65]; exact L51)⟩
    · refine zt_aload_n (pc' := 52) hX dX1_fact_51 rfl rfl ?_
      refine zt_iload_n (pc' := 53) hX dX1_fact_52 rfl rfl ?_
      refine zt_cVz (pc' := 56) hX dX1_fact_53 rfl zm_yX1_opens zw_22_11 zc_33 (by decide) zs_20 (q := (RX1, TX1, 3)) rfl rfl (yc_X1_opens_o0 _ _ σ hI f hT) rfl rfl (Nat.le_of_ble_eq_true rfl) (by decide) (fun r68 s69 hr70 hp71 => ?_)
      obtain ⟨hI72, hF73, q74, q75, hT76, z77⟩ := hp71
      have hE78 : yst s69 = yPx f (yst σ) := z77
      have hF79 := zOn_tr hF hF73 zi_r12
      have L80 : yle (yst σ) (yPx f (yst σ)) := yle_tr L0 (yle_x hT hE0)
      have b81 := zv_20_2 hI72 zc_33
      have e82 := hF73 33 2 rfl
      refine zt_ifeq (pc' := 59) (tgt := 114) hX dX1_fact_56 rfl (by decide) ⟨by omega, by omega⟩ (fun c83 => ?_) (fun c83 => ?_)
      · exact absurd c83 (by omega)
      · refine zt_aload_n (pc' := 60) hX dX1_fact_59 rfl rfl ?_
        refine zt_iload_n (pc' := 61) hX dX1_fact_60 rfl rfl ?_
        refine zt_iconst (pc' := 62) hX dX1_fact_61 rfl ?_
        refine zt_iadd (pc' := 63) hX dX1_fact_62 rfl ?_
        rw [show (0 + 1 : Int) = 1 from rfl]
        refine zt_cVv (pc' := 66) hX dX1_fact_63 rfl zm_yX1_test zw_24_2 zc_33 (by decide) zs_20 (q := (RX1, TX1, 3)) rfl rfl (yc_X1_test_o1 _ _ s69 hI72 f hT76 rl (by omega) (7 :: k) (by show ydep k + 1 = _; omega) (Nat.ne_of_beq_eq_false rfl)) rfl rfl (Nat.le_of_ble_eq_true rfl) (by decide) (fun r84 s85 hr86 hp87 => ?_)
        obtain ⟨hI88, hF89, hT90, z91, z92, z93⟩ := hp87
        rw [hE78] at z91
        rw [hE78] at z92
        have hF94 := zOn_tr hF79 hF89 zi_id
        obtain ⟨p95, hE96⟩ : ∃ p, yst s85 = p := ⟨_, rfl⟩
        rw [hE96] at z91
        rw [hE96] at z92
        have L97 := yle_tr L80 z92
        rw [hE96] at z93
        have b98 := zv_20_2 hI88 zc_33
        have e99 := hF89 33 2 rfl
        refine zt_aload_n (pc' := 67) hX dX1_fact_66 rfl rfl ?_
        refine zt_get (pc' := 70) (v := .ref (X.1.1 + 27)) hX dX1_fact_67 rfl zf_X1_15 (by decide) zc_33 zs_20 (zrf_of (zv_20_0 hI88 zc_33)) ?_
        refine zt_bipush (pc' := 72) hX dX1_fact_70 rfl (by decide) (by decide) ?_
        refine zt_cVv (pc' := 75) hX dX1_fact_72 rfl zm_yX5_takeSign zw_22_15 zc_27 (by decide) zs_14 (q := (RX5, TX5, 9)) rfl rfl (yc_X5_takeSign _ _ s85 hI88 93 ⟨by omega, by omega⟩ f hT90) rfl rfl (Nat.le_of_ble_eq_true rfl) (by decide) (fun r100 s101 hr102 hp103 => ?_)
        obtain ⟨hI104, hF105, hT106, z107⟩ := hp103
        have hE108 : yst s101 = yPs f 93 p95 := by rw [z107, hE96]
        have hF109 := zOn_tr hF94 hF105 zi_r12
        have L110 : yle (yst σ) (yPs f 93 p95) := yle_tr L97 (yle_s hT90 hE96)
        have b111 := zv_20_2 hI104 zc_33
        have e112 := hF105 33 2 rfl
        refine zt_goto (tgt := 114) hX dX1_fact_75 (by decide) ?_
        exact zt_vret hX hR dX1_fact_114 ⟨hI104, hF109, hT106, (by rw [hE108]; exact yJ_tr (yJ_sq (by omega) (by omega)) (yJ_tr z91 (yJ_qc z93))), (by rw [hE108]; exact L110)⟩
  · refine zt_aload_n (pc' := 13) hX dX1_fact_12 rfl rfl ?_
    refine zt_iload_n (pc' := 14) hX dX1_fact_13 rfl rfl ?_
    refine zt_cVz (pc' := 17) hX dX1_fact_14 rfl zm_yX1_opens zw_22_11 zc_33 (by decide) zs_20 (q := (RX1, TX1, 3)) rfl rfl (yc_X1_opens_o0 _ _ σ hI f hT) rfl rfl (Nat.le_of_ble_eq_true rfl) (by decide) (fun r113 s114 hr115 hp116 => ?_)
    obtain ⟨hI117, hF118, q119, q120, hT121, z122⟩ := hp116
    have hE123 : yst s114 = yPx f (yst σ) := z122
    have hF124 := zOn_tr hF hF118 zi_r12
    have L125 : yle (yst σ) (yPx f (yst σ)) := yle_tr L0 (yle_x hT hE0)
    have b126 := zv_20_2 hI117 zc_33
    have e127 := hF118 33 2 rfl
    refine zt_ifeq (pc' := 20) (tgt := 114) hX dX1_fact_17 rfl (by decide) ⟨by omega, by omega⟩ (fun c128 => ?_) (fun c128 => ?_)
    · exact absurd c128 (by omega)
    · refine zt_aload_n (pc' := 21) hX dX1_fact_20 rfl rfl ?_
      refine zt_iload_n (pc' := 22) hX dX1_fact_21 rfl rfl ?_
      refine zt_iconst (pc' := 23) hX dX1_fact_22 rfl ?_
      refine zt_iadd (pc' := 24) hX dX1_fact_23 rfl ?_
      rw [show (0 + 1 : Int) = 1 from rfl]
      refine zt_cVv (pc' := 27) hX dX1_fact_24 rfl zm_yX1_fact zw_24_10 zc_33 (by decide) zs_20 (q := (RX1, TX1, 3)) rfl rfl (yc_X1_fact_o1 _ _ s114 hI117 f hT121 rl (by omega) (8 :: k) (by show ydep k + 1 = _; omega)) rfl rfl (Nat.le_of_ble_eq_true rfl) (by decide) (fun r129 s130 hr131 hp132 => ?_)
      obtain ⟨hI133, hF134, hT135, z136, z137⟩ := hp132
      rw [hE123] at z136
      rw [hE123] at z137
      have hF138 := zOn_tr hF124 hF134 zi_id
      obtain ⟨p139, hE140⟩ : ∃ p, yst s130 = p := ⟨_, rfl⟩
      rw [hE140] at z136
      rw [hE140] at z137
      have L141 := yle_tr L125 z137
      have b142 := zv_20_2 hI133 zc_33
      have e143 := hF134 33 2 rfl
      refine zt_aload_n (pc' := 28) hX dX1_fact_27 rfl rfl ?_
      obtain ⟨k144, ek145, hk146⟩ := zv_20_1 hI133 zc_33
      refine zt_get (pc' := 31) (v := .ref (X.1.1 + k144)) hX dX1_fact_28 rfl zf_X1_19 (by decide) zc_33 zs_20 (zrf_of ek145) ?_
      refine zt_bipush (pc' := 33) hX dX1_fact_31 rfl (by decide) (by decide) ?_
      refine zt_cVv (pc' := 36) hX dX1_fact_33 rfl zm_yX4_addStep zw_22_7 hk146 (by decide) zs_6 (q := (RX4, TX4, 2)) rfl rfl (yc_X4_addStep _ _ s130 hI133 k144 hk146 23 ⟨by omega, by omega⟩) rfl rfl (Nat.le_of_ble_eq_true rfl) (by decide) (fun r147 s148 hr149 hp150 => ?_)
      obtain ⟨hI151, hF152⟩ := hp150
      have hF153 := zOn_tr hF138 hF152 zi_rp2
      have hT154 := yTk_rk hT135 (yRk_p hF152)
      have hE155 : yst s148 = p139 := (yst_rk (yRk_p hF152)).trans hE140
      have b156 := zv_20_2 hI151 zc_33
      have e157 := hF152 33 2 rfl
      refine zt_goto (tgt := 114) hX dX1_fact_36 (by decide) ?_
      exact zt_vret hX hR dX1_fact_114 ⟨hI151, hF153, hT154, (by rw [hE155]; exact yJ_tr (yJ_not (by omega) (by omega)) (yJ_tr z136 yJ_nt)), (by rw [hE155]; exact L141)⟩
set_option maxRecDepth 100000 in
set_option maxHeartbeats 4000000 in
theorem yc_X1_both_o0 (l : Launch) (E : zEN) (σ : zSto) (hI : zInv σ) (f : Int → Int) (hT : yTk f σ) (rl : Int) (hrl : σ 33 2 = rl) (k : List Nat) (hk : ydep k = 0) (ht : ytop k ≠ 8) : zCt l E yX1_both cX1_both 3 none 32 zNC zNC 0 0 σ [.ref (E.1 + 33), .int (zI 0)] (fun r σ' => zInv σ' ∧ zOn zR2 σ σ' ∧ yTk f σ' ∧ (yJ rl f (4, k, (yst σ)) (5, k, (yst σ'))) ∧ (yle (yst σ) (yst σ')) ∧ (yPi f (yst σ') ≠ 22)) := by
  refine zCt_of2 [some (.ref (E.1 + 33)), some (.int (zI 0)), none] (by decide +kernel) (Nat.le_of_ble_eq_true rfl) rfl ?_
  intro X hE_ hX hR hL hN
  subst hE_
  have hX : zok X cX1_both RX1 32 := hX
  have hF := zOn_rf zR2 σ
  have hE0 : yst σ = yst σ := rfl
  have L0 := yle_rf (yst σ)
  have b1 := zv_20_2 hI zc_33
  refine zt_aload_n (pc' := 1) hX dX1_both_0 rfl rfl ?_
  refine zt_iload_n (pc' := 2) hX dX1_both_1 rfl rfl ?_
  refine zt_cVv (pc' := 5) hX dX1_both_2 rfl zm_yX1_fact zw_24_10 zc_33 (by decide) zs_20 (q := (RX1, TX1, 3)) rfl rfl (yc_X1_fact_o0 _ _ σ hI f hT rl (by omega) k hk) rfl rfl (Nat.le_of_ble_eq_true rfl) (by decide) (fun r2 s3 hr4 hp5 => ?_)
  obtain ⟨hI6, hF7, hT8, z9, z10⟩ := hp5
  have hF11 := zOn_tr hF hF7 zi_id
  obtain ⟨p12, hE13⟩ : ∃ p, yst s3 = p := ⟨_, rfl⟩
  rw [hE13] at z9
  rw [hE13] at z10
  have L14 := yle_tr L0 z10
  have b15 := zv_20_2 hI6 zc_33
  have e16 := hF7 33 2 rfl
  have g17 := z9
  refine zt_iconst (pc' := 6) hX dX1_both_5 rfl ?_
  refine zt_istore_n (pc' := 7) (lv' := [some (.ref (X.1.1 + 33)), some (.int (zI 0)), some (.int (zI 0))]) hX dX1_both_6 rfl hL (by decide) rfl ?_
  have L_7_30 : ∀ (N : Nat) (x18 : Int) (s21 : zSto) (p24 : yP), 0 ≤ x18 → x18 ≤ 1600 → zInv s21 → zOn zR2 σ s21 → yTk f s21 → yst s21 = p24 → s21 33 2 = σ 33 2 → yJ rl f (4, k, yst σ) (5, k, p24) → yle (yst σ) p24 → yge x18 p24 → ((1601 - x18).toNat) < N → zF X s21 7 [some (.ref (X.1.1 + 33)), some (.int (zI 0)), some (.int (zI x18))] [] := by
    intro N
    induction N with
    | zero =>
      intro x18 s21 p24 h19 h20 hI22 hF23 hT25 hE26 g27 g28 g29 g30 hm32
      exact absurd hm32 (Nat.not_lt_zero _)
    | succ N ih33 =>
      intro x18 s21 p24 h19 h20 hI22 hF23 hT25 hE26 g27 g28 g29 g30 hm32
      have b34 := zv_20_2 hI22 zc_33
      have hx := yge_x hT25 hE26 g30
      refine zt_iload_n (pc' := 8) hX dX1_both_7 rfl rfl ?_
      refine zt_sipush (pc' := 11) hX dX1_both_8 rfl (by decide) (by decide) ?_
      refine zt_icge (pc' := 14) (tgt := 53) hX dX1_both_11 rfl (by decide) ⟨by omega, by omega⟩ ⟨by omega, by omega⟩ (fun c35 => ?_) (fun c35 => ?_)
      · exact zt_vret hX hR dX1_both_53 ⟨hI22, hF23, hT25, (by rw [hE26]; exact g28), (by rw [hE26]; exact g29), (by rw [hE26]; omega)⟩
      · refine zt_aload_n (pc' := 15) hX dX1_both_14 rfl rfl ?_
        refine zt_get (pc' := 18) (v := .ref (X.1.1 + 27)) hX dX1_both_15 rfl zf_X1_15 (by decide) zc_33 zs_20 (zrf_of (zv_20_0 hI22 zc_33)) ?_
        refine zt_cVi (pc' := 21) hX dX1_both_18 rfl zm_yX5_wordHere zw_22_21 zc_27 (by decide) zs_14 (q := (RX5, TX5, 9)) rfl rfl (yc_X5_wordHere _ _ s21 hI22 f hT25) rfl rfl (Nat.le_of_ble_eq_true rfl) (by decide) (fun r36 s37 hr38 hp39 => ?_)
        obtain ⟨rfl, q40, q41, z42⟩ := hp39
        rw [hE26] at z42
        refine zt_bipush (pc' := 23) hX dX1_both_21 rfl (by decide) (by decide) ?_
        refine zt_icne (pc' := 26) (tgt := 53) hX dX1_both_23 rfl (by decide) ⟨by omega, by omega⟩ ⟨by omega, by omega⟩ (fun c43 => ?_) (fun c43 => ?_)
        · exact zt_vret hX hR dX1_both_53 ⟨hI22, hF23, hT25, (by rw [hE26]; exact g28), (by rw [hE26]; exact g29), (by rw [hE26]; omega)⟩
        · refine zt_aload_n (pc' := 27) hX dX1_both_26 rfl rfl ?_
          refine zt_get (pc' := 30) (v := .ref (X.1.1 + 27)) hX dX1_both_27 rfl zf_X1_15 (by decide) zc_33 zs_20 (zrf_of (zv_20_0 hI22 zc_33)) ?_
          refine zt_cVv (pc' := 33) hX dX1_both_30 rfl zm_yX5_step zw_22_6 zc_27 (by decide) zs_14 (q := (RX5, TX5, 9)) rfl rfl (yc_X5_step _ _ s21 hI22 f hT25) rfl rfl (Nat.le_of_ble_eq_true rfl) (by decide) (fun r44 s45 hr46 hp47 => ?_)
          obtain ⟨hI48, hF49, hT50, z51⟩ := hp47
          have hE52 : yst s45 = yPx f p24 := by rw [z51, hE26]
          have hF53 := zOn_tr hF23 hF49 zi_r12
          have L54 : yle (yst σ) (yPx f p24) := yle_tr g29 (yle_x hT25 hE26)
          have b55 := zv_20_2 hI48 zc_33
          have e56 := hF49 33 2 rfl
          have g57 := yJ_tr g28 (yJ_ao ht (by omega))
          have I58 := yge_1 hT25 hE26 g30 (by omega)
          refine zt_aload_n (pc' := 34) hX dX1_both_33 rfl rfl ?_
          refine zt_iload_n (pc' := 35) hX dX1_both_34 rfl rfl ?_
          refine zt_cVv (pc' := 38) hX dX1_both_35 rfl zm_yX1_fact zw_24_10 zc_33 (by decide) zs_20 (q := (RX1, TX1, 3)) rfl rfl (yc_X1_fact_o0 _ _ s45 hI48 f hT50 rl (by omega) k hk) rfl rfl (Nat.le_of_ble_eq_true rfl) (by decide) (fun r59 s60 hr61 hp62 => ?_)
          obtain ⟨hI63, hF64, hT65, z66, z67⟩ := hp62
          rw [hE52] at z66
          rw [hE52] at z67
          have hF68 := zOn_tr hF53 hF64 zi_id
          obtain ⟨p69, hE70⟩ : ∃ p, yst s60 = p := ⟨_, rfl⟩
          rw [hE70] at z66
          rw [hE70] at z67
          have L71 := yle_tr L54 z67
          have b72 := zv_20_2 hI63 zc_33
          have e73 := hF64 33 2 rfl
          have g74 := yJ_tr g57 z66
          have I75 := yge_l I58 z67
          refine zt_aload_n (pc' := 39) hX dX1_both_38 rfl rfl ?_
          obtain ⟨k76, ek77, hk78⟩ := zv_20_1 hI63 zc_33
          refine zt_get (pc' := 42) (v := .ref (X.1.1 + k76)) hX dX1_both_39 rfl zf_X1_19 (by decide) zc_33 zs_20 (zrf_of ek77) ?_
          refine zt_bipush (pc' := 44) hX dX1_both_42 rfl (by decide) (by decide) ?_
          refine zt_cVv (pc' := 47) hX dX1_both_44 rfl zm_yX4_addStep zw_22_7 hk78 (by decide) zs_6 (q := (RX4, TX4, 2)) rfl rfl (yc_X4_addStep _ _ s60 hI63 k76 hk78 22 ⟨by omega, by omega⟩) rfl rfl (Nat.le_of_ble_eq_true rfl) (by decide) (fun r79 s80 hr81 hp82 => ?_)
          obtain ⟨hI83, hF84⟩ := hp82
          have hF85 := zOn_tr hF68 hF84 zi_rp2
          have hT86 := yTk_rk hT65 (yRk_p hF84)
          have hE87 : yst s80 = p69 := (yst_rk (yRk_p hF84)).trans hE70
          have b88 := zv_20_2 hI83 zc_33
          have e89 := hF84 33 2 rfl
          refine zt_iinc (pc' := 50) (lv' := [some (.ref (X.1.1 + 33)), some (.int (zI 0)), some (.int (zI (x18 + 1)))]) hX dX1_both_47 rfl rfl hL (by decide) rfl ?_
          refine zt_goto (tgt := 7) hX dX1_both_50 (by decide) ?_
          exact ih33 (x18 + 1) s80 p69 (by omega) (by omega) hI83 hF85 hT86 hE87 (by omega) g74 L71 I75 (by omega)
  exact L_7_30 _ 0 s3 p12 (by omega) (by omega) hI6 hF11 hT8 hE13 (by omega) g17 L14 (yge_0 hT8 hE13) (Nat.lt_succ_self _)
set_option maxRecDepth 100000 in
set_option maxHeartbeats 4000000 in
theorem yc_X1_test_o0 (l : Launch) (E : zEN) (σ : zSto) (hI : zInv σ) (f : Int → Int) (hT : yTk f σ) (rl : Int) (hrl : σ 33 2 = rl) (k : List Nat) (hk : ydep k = 0) (ht : ytop k ≠ 8) : zCt l E yX1_test cX1_test 3 none 33 zNC zNC 0 0 σ [.ref (E.1 + 33), .int (zI 0)] (fun r σ' => zInv σ' ∧ zOn zR2 σ σ' ∧ yTk f σ' ∧ (yJ rl f (4, k, (yst σ)) (5, k, (yst σ'))) ∧ (yle (yst σ) (yst σ')) ∧ (yPi f (yst σ') ≠ 22 ∧ yPi f (yst σ') ≠ 21)) := by
  refine zCt_of2 [some (.ref (E.1 + 33)), some (.int (zI 0)), none] (by decide +kernel) (Nat.le_of_ble_eq_true rfl) rfl ?_
  intro X hE_ hX hR hL hN
  subst hE_
  have hX : zok X cX1_test RX1 33 := hX
  have hF := zOn_rf zR2 σ
  have hE0 : yst σ = yst σ := rfl
  have L0 := yle_rf (yst σ)
  have b1 := zv_20_2 hI zc_33
  refine zt_aload_n (pc' := 1) hX dX1_test_0 rfl rfl ?_
  refine zt_iload_n (pc' := 2) hX dX1_test_1 rfl rfl ?_
  refine zt_cVv (pc' := 5) hX dX1_test_2 rfl zm_yX1_both zw_24_6 zc_33 (by decide) zs_20 (q := (RX1, TX1, 3)) rfl rfl (yc_X1_both_o0 _ _ σ hI f hT rl (by omega) k hk ht) rfl rfl (Nat.le_of_ble_eq_true rfl) (by decide) (fun r2 s3 hr4 hp5 => ?_)
  obtain ⟨hI6, hF7, hT8, z9, z10, z11⟩ := hp5
  have hF12 := zOn_tr hF hF7 zi_id
  obtain ⟨p13, hE14⟩ : ∃ p, yst s3 = p := ⟨_, rfl⟩
  rw [hE14] at z9
  rw [hE14] at z10
  have L15 := yle_tr L0 z10
  rw [hE14] at z11
  have b16 := zv_20_2 hI6 zc_33
  have e17 := hF7 33 2 rfl
  have g18 := z9
  refine zt_iconst (pc' := 6) hX dX1_test_5 rfl ?_
  refine zt_istore_n (pc' := 7) (lv' := [some (.ref (X.1.1 + 33)), some (.int (zI 0)), some (.int (zI 0))]) hX dX1_test_6 rfl hL (by decide) rfl ?_
  have L_7_32 : ∀ (N : Nat) (x19 : Int) (s22 : zSto) (p25 : yP), 0 ≤ x19 → x19 ≤ 1600 → zInv s22 → zOn zR2 σ s22 → yTk f s22 → yst s22 = p25 → yPi f p25 ≠ 22 → s22 33 2 = σ 33 2 → yJ rl f (4, k, yst σ) (5, k, p25) → yle (yst σ) p25 → yge x19 p25 → ((1601 - x19).toNat) < N → zF X s22 7 [some (.ref (X.1.1 + 33)), some (.int (zI 0)), some (.int (zI x19))] [] := by
    intro N
    induction N with
    | zero =>
      intro x19 s22 p25 h20 h21 hI23 hF24 hT26 hE27 g28 g29 g30 g31 g32 hm34
      exact absurd hm34 (Nat.not_lt_zero _)
    | succ N ih35 =>
      intro x19 s22 p25 h20 h21 hI23 hF24 hT26 hE27 g28 g29 g30 g31 g32 hm34
      have b36 := zv_20_2 hI23 zc_33
      have hx := yge_x hT26 hE27 g32
      refine zt_iload_n (pc' := 8) hX dX1_test_7 rfl rfl ?_
      refine zt_sipush (pc' := 11) hX dX1_test_8 rfl (by decide) (by decide) ?_
      refine zt_icge (pc' := 14) (tgt := 53) hX dX1_test_11 rfl (by decide) ⟨by omega, by omega⟩ ⟨by omega, by omega⟩ (fun c37 => ?_) (fun c37 => ?_)
      · exact zt_vret hX hR dX1_test_53 ⟨hI23, hF24, hT26, (by rw [hE27]; exact g30), (by rw [hE27]; exact g31), (by rw [hE27]; omega)⟩
      · refine zt_aload_n (pc' := 15) hX dX1_test_14 rfl rfl ?_
        refine zt_get (pc' := 18) (v := .ref (X.1.1 + 27)) hX dX1_test_15 rfl zf_X1_15 (by decide) zc_33 zs_20 (zrf_of (zv_20_0 hI23 zc_33)) ?_
        refine zt_cVi (pc' := 21) hX dX1_test_18 rfl zm_yX5_wordHere zw_22_21 zc_27 (by decide) zs_14 (q := (RX5, TX5, 9)) rfl rfl (yc_X5_wordHere _ _ s22 hI23 f hT26) rfl rfl (Nat.le_of_ble_eq_true rfl) (by decide) (fun r38 s39 hr40 hp41 => ?_)
        obtain ⟨rfl, q42, q43, z44⟩ := hp41
        rw [hE27] at z44
        refine zt_bipush (pc' := 23) hX dX1_test_21 rfl (by decide) (by decide) ?_
        refine zt_icne (pc' := 26) (tgt := 53) hX dX1_test_23 rfl (by decide) ⟨by omega, by omega⟩ ⟨by omega, by omega⟩ (fun c45 => ?_) (fun c45 => ?_)
        · exact zt_vret hX hR dX1_test_53 ⟨hI23, hF24, hT26, (by rw [hE27]; exact g30), (by rw [hE27]; exact g31), (by rw [hE27]; omega)⟩
        · refine zt_aload_n (pc' := 27) hX dX1_test_26 rfl rfl ?_
          refine zt_get (pc' := 30) (v := .ref (X.1.1 + 27)) hX dX1_test_27 rfl zf_X1_15 (by decide) zc_33 zs_20 (zrf_of (zv_20_0 hI23 zc_33)) ?_
          refine zt_cVv (pc' := 33) hX dX1_test_30 rfl zm_yX5_step zw_22_6 zc_27 (by decide) zs_14 (q := (RX5, TX5, 9)) rfl rfl (yc_X5_step _ _ s22 hI23 f hT26) rfl rfl (Nat.le_of_ble_eq_true rfl) (by decide) (fun r46 s47 hr48 hp49 => ?_)
          obtain ⟨hI50, hF51, hT52, z53⟩ := hp49
          have hE54 : yst s47 = yPx f p25 := by rw [z53, hE27]
          have hF55 := zOn_tr hF24 hF51 zi_r12
          have L56 : yle (yst σ) (yPx f p25) := yle_tr g31 (yle_x hT26 hE27)
          have b57 := zv_20_2 hI50 zc_33
          have e58 := hF51 33 2 rfl
          have g59 := yJ_tr g30 (yJ_ao ht (by omega))
          have I60 := yge_1 hT26 hE27 g32 (by omega)
          refine zt_aload_n (pc' := 34) hX dX1_test_33 rfl rfl ?_
          refine zt_iload_n (pc' := 35) hX dX1_test_34 rfl rfl ?_
          refine zt_cVv (pc' := 38) hX dX1_test_35 rfl zm_yX1_both zw_24_6 zc_33 (by decide) zs_20 (q := (RX1, TX1, 3)) rfl rfl (yc_X1_both_o0 _ _ s47 hI50 f hT52 rl (by omega) k hk ht) rfl rfl (Nat.le_of_ble_eq_true rfl) (by decide) (fun r61 s62 hr63 hp64 => ?_)
          obtain ⟨hI65, hF66, hT67, z68, z69, z70⟩ := hp64
          rw [hE54] at z68
          rw [hE54] at z69
          have hF71 := zOn_tr hF55 hF66 zi_id
          obtain ⟨p72, hE73⟩ : ∃ p, yst s62 = p := ⟨_, rfl⟩
          rw [hE73] at z68
          rw [hE73] at z69
          have L74 := yle_tr L56 z69
          rw [hE73] at z70
          have b75 := zv_20_2 hI65 zc_33
          have e76 := hF66 33 2 rfl
          have g77 := yJ_tr g59 z68
          have I78 := yge_l I60 z69
          refine zt_aload_n (pc' := 39) hX dX1_test_38 rfl rfl ?_
          obtain ⟨k79, ek80, hk81⟩ := zv_20_1 hI65 zc_33
          refine zt_get (pc' := 42) (v := .ref (X.1.1 + k79)) hX dX1_test_39 rfl zf_X1_19 (by decide) zc_33 zs_20 (zrf_of ek80) ?_
          refine zt_bipush (pc' := 44) hX dX1_test_42 rfl (by decide) (by decide) ?_
          refine zt_cVv (pc' := 47) hX dX1_test_44 rfl zm_yX4_addStep zw_22_7 hk81 (by decide) zs_6 (q := (RX4, TX4, 2)) rfl rfl (yc_X4_addStep _ _ s62 hI65 k79 hk81 21 ⟨by omega, by omega⟩) rfl rfl (Nat.le_of_ble_eq_true rfl) (by decide) (fun r82 s83 hr84 hp85 => ?_)
          obtain ⟨hI86, hF87⟩ := hp85
          have hF88 := zOn_tr hF71 hF87 zi_rp2
          have hT89 := yTk_rk hT67 (yRk_p hF87)
          have hE90 : yst s83 = p72 := (yst_rk (yRk_p hF87)).trans hE73
          have b91 := zv_20_2 hI86 zc_33
          have e92 := hF87 33 2 rfl
          refine zt_iinc (pc' := 50) (lv' := [some (.ref (X.1.1 + 33)), some (.int (zI 0)), some (.int (zI (x19 + 1)))]) hX dX1_test_47 rfl rfl hL (by decide) rfl ?_
          refine zt_goto (tgt := 7) hX dX1_test_50 (by decide) ?_
          exact ih35 (x19 + 1) s83 p72 (by omega) (by omega) hI86 hF88 hT89 hE90 (by omega) (by omega) g77 L74 I78 (by omega)
  exact L_7_32 _ 0 s3 p13 (by omega) (by omega) hI6 hF12 hT8 hE14 (by omega) (by omega) g18 L15 (yge_0 hT8 hE14) (Nat.lt_succ_self _)
