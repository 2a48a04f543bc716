set_option maxRecDepth 100000 in
set_option maxHeartbeats 4000000 in
theorem zc_X11_rest (l : Launch) (E : zEN) (σ : zSto) (hI : zInv σ) (a1_ : Int) (ha1_ : -2147483648 ≤ a1_ ∧ a1_ ≤ 2147483647) (a2_ : Int) (ha2_ : -2147483648 ≤ a2_ ∧ a2_ ≤ 2147483647) : zCt l E yX11_rest cX11_rest 3 (some .boolean) 3 zNC zNC 0 0 σ [.ref (E.1 + 0), .int (zI a1_), .int (zI a2_)] (fun r σ' => zInv σ' ∧ zFE σ σ' ∧ 0 ≤ r ∧ r ≤ 1) := by
  refine zCt_of2 [some (.ref (E.1 + 0)), some (.int (zI a1_)), some (.int (zI a2_))] (by decide +kernel) (Nat.le_of_ble_eq_true rfl) rfl ?_
  intro X hE hX hR hL hN
  subst hE
  have hX : zok X cX11_rest RX11 3 := hX
  have hF := zFE_rf σ
  refine zt_aload_n (pc' := 1) hX dX11_rest_0 rfl rfl ?_
  obtain ⟨k1, ek2, hk3⟩ := zv_1_3 hI zc_0
  refine zt_get (pc' := 4) (v := .ref (X.1.1 + k1)) hX dX11_rest_1 rfl zf_X11_31 (by decide) zc_0 zs_1 (zrf_of ek2) ?_
  refine zt_iload_n (pc' := 5) hX dX11_rest_4 rfl rfl ?_
  refine zt_cVz (pc' := 8) hX dX11_rest_5 rfl zm_yX3_hasPerson zw_41_8 hk3 (by decide) zs_8 (q := (RX3, TX3, 17)) rfl rfl (zc_X3_hasPerson _ _ σ hI k1 hk3 a1_ ⟨by omega, by omega⟩) rfl rfl (Nat.le_of_ble_eq_true rfl) (by decide) (fun r4 s5 hr6 hp7 => ?_)
  obtain ⟨rfl, q8, q9, z10⟩ := hp7
  have J_35_10 : zF X σ 35 [some (.ref (X.1.1 + 0)), none, none] [] := by
    refine zt_aload_n (pc' := 36) hX dX11_rest_35 rfl rfl ?_
    refine zt_iconst (pc' := 37) hX dX11_rest_36 rfl ?_
    refine zt_cVz (pc' := 40) hX dX11_rest_37 rfl zm_yX11_denial zw_15_0 zc_0 (by decide) zs_1 (q := (RX11, TX11, 17)) rfl rfl (zc_X11_denial _ _ σ hI 2 ⟨by omega, by omega⟩) rfl rfl (Nat.le_of_ble_eq_true rfl) (by decide) (fun r12 s13 hr14 hp15 => ?_)
    obtain ⟨hI16, hF17, q18, q19⟩ := hp15
    have hF20 := zFE_tr hF hF17
    exact zt_zret hX hR dX11_rest_40 ⟨by omega, by omega⟩ ⟨hI16, hF20, by omega, by omega⟩
  refine zt_ifeq (pc' := 11) (tgt := 35) hX dX11_rest_8 rfl (by decide) ⟨by omega, by omega⟩ (fun c21 => ?_) (fun c21 => ?_)
  · refine zt_mask [true, false, false] rfl ?_
    exact J_35_10
  · refine zt_iload_n (pc' := 12) hX dX11_rest_11 rfl rfl ?_
    refine zt_iflt (pc' := 15) (tgt := 35) hX dX11_rest_12 rfl (by decide) ⟨by omega, by omega⟩ (fun c22 => ?_) (fun c22 => ?_)
    · refine zt_mask [true, false, false] rfl ?_
      exact J_35_10
    · refine zt_iload_n (pc' := 16) hX dX11_rest_15 rfl rfl ?_
      refine zt_iconst (pc' := 17) hX dX11_rest_16 rfl ?_
      refine zt_icgt (pc' := 20) (tgt := 35) hX dX11_rest_17 rfl (by decide) ⟨by omega, by omega⟩ ⟨by omega, by omega⟩ (fun c23 => ?_) (fun c23 => ?_)
      · refine zt_mask [true, false, false] rfl ?_
        exact J_35_10
      · refine zt_aload_n (pc' := 21) hX dX11_rest_20 rfl rfl ?_
        refine zt_get (pc' := 24) (v := .ref (X.1.1 + 35)) hX dX11_rest_21 rfl zf_X11_66 (by decide) zc_0 zs_1 (zrf_of (zv_1_8 hI zc_0)) ?_
        have b24 := zv_22_7 hI zc_35
        refine zt_get (pc' := 27) (v := .int (zI (σ 35 7))) hX dX11_rest_24 rfl zf_X11_171 (by decide) zc_35 zs_22 rfl ?_
        refine zt_iload_n (pc' := 28) hX dX11_rest_27 rfl rfl ?_
        refine zt_ishr (pc' := 29) hX dX11_rest_28 rfl (fun r25 zr25 lr25 ur25 => ?_)
        clear zr25
        refine zt_iconst (pc' := 30) hX dX11_rest_29 rfl ?_
        refine zt_iandm (pc' := 31) hX dX11_rest_30 rfl 1 (by decide +kernel) (by decide) (fun r26 er26 lr26 ur26 => ?_)
        have ur26 : r26 ≤ 1 := by omega
        refine zt_iload_n (pc' := 32) hX dX11_rest_31 rfl rfl ?_
        refine zt_icne (pc' := 35) (tgt := 41) hX dX11_rest_32 rfl (by decide) ⟨by omega, by omega⟩ ⟨by omega, by omega⟩ (fun c27 => ?_) (fun c27 => ?_)
        · refine zt_aload_n (pc' := 42) hX dX11_rest_41 rfl rfl ?_
          refine zt_get (pc' := 45) (v := .ref (X.1.1 + 45)) hX dX11_rest_42 rfl zf_X11_76 (by decide) zc_0 zs_1 (zrf_of (zv_1_10 hI zc_0)) ?_
          refine zt_aload_n (pc' := 46) hX dX11_rest_45 rfl rfl ?_
          refine zt_get (pc' := 49) (v := .ref (X.1.1 + 35)) hX dX11_rest_46 rfl zf_X11_66 (by decide) zc_0 zs_1 (zrf_of (zv_1_8 hI zc_0)) ?_
          refine zt_cVv (pc' := 52) hX dX11_rest_49 rfl zm_yX2_push zw_60_1 zc_45 (by decide) zs_27 (q := (RX2, TX2, 3)) rfl rfl (zc_X2_push _ _ σ hI 35 zc_35) rfl rfl (Nat.le_of_ble_eq_true rfl) (by decide) (fun r28 s29 hr30 hp31 => ?_)
          obtain ⟨hI32, hF33⟩ := hp31
          have hF34 := zFE_tr hF hF33
          refine zt_aload_n (pc' := 53) hX dX11_rest_52 rfl rfl ?_
          refine zt_get (pc' := 56) (v := .ref (X.1.1 + 35)) hX dX11_rest_53 rfl zf_X11_66 (by decide) zc_0 zs_1 (zrf_of (zv_1_8 hI32 zc_0)) ?_
          refine zt_dup (pc' := 57) hX dX11_rest_56 rfl rfl ?_
          have b35 := zv_22_7 hI32 zc_35
          refine zt_get (pc' := 60) (v := .int (zI (s29 35 7))) hX dX11_rest_57 rfl zf_X11_171 (by decide) zc_35 zs_22 rfl ?_
          refine zt_iconst (pc' := 61) hX dX11_rest_60 rfl ?_
          refine zt_iload_n (pc' := 62) hX dX11_rest_61 rfl rfl ?_
          refine zt_ishl1 9 (pc' := 63) hX dX11_rest_62 rfl ⟨by omega, by omega⟩ (by decide) (fun r36 er36 lr36 ur36 => ?_)
          have ur36 : r36 ≤ 512 := by omega
          refine zt_ixor (pc' := 64) hX dX11_rest_63 rfl (fun r37 zr37 lr37 ur37 => ?_)
          clear zr37
          refine zt_put (pc' := 67) (x := r37) hX dX11_rest_64 rfl zf_X11_171 (by decide) zc_35 zs_22 (fun q hq => by cases hq; rfl) rfl rfl rfl ?_
          generalize hs39 : zset s29 35 7 r37 = s38
          have hI40 : zInv s38 := hs39 ▸ zp_22_7 hI32 zc_35 ⟨by omega, by omega⟩
          have hF41 : zFE σ s38 := hs39 ▸ zFE_set hF34 zc_35 (by decide) zke_22 (Or.inl (by decide)) (Or.inl (by decide))
          refine zt_iconst (pc' := 68) hX dX11_rest_67 rfl ?_
          exact zt_zret hX hR dX11_rest_68 ⟨by omega, by omega⟩ ⟨hI40, hF41, by omega, by omega⟩
        · refine zt_mask [true, false, false] rfl ?_
          exact J_35_10

set_option maxRecDepth 100000 in
set_option maxHeartbeats 4000000 in
theorem zc_X11_go (l : Launch) (E : zEN) (σ : zSto) (hI : zInv σ) (a1_ : Int) (ha1_ : -2147483648 ≤ a1_ ∧ a1_ ≤ 2147483647) (a2_ : Int) (ha2_ : -2147483648 ≤ a2_ ∧ a2_ ≤ 2147483647) (a3_ : Int) (ha3_ : -2147483648 ≤ a3_ ∧ a3_ ≤ 2147483647) : zCt l E yX11_go cX11_go 4 (some .boolean) 3 zNC zNC 0 0 σ [.ref (E.1 + 0), .int (zI a1_), .int (zI a2_), .int (zI a3_)] (fun r σ' => zInv σ' ∧ zFE σ σ' ∧ 0 ≤ r ∧ r ≤ 1) := by
  refine zCt_of2 [some (.ref (E.1 + 0)), some (.int (zI a1_)), some (.int (zI a2_)), some (.int (zI a3_))] (by decide +kernel) (Nat.le_of_ble_eq_true rfl) rfl ?_
  intro X hE hX hR hL hN
  subst hE
  have hX : zok X cX11_go RX11 3 := hX
  have hF := zFE_rf σ
  refine zt_aload_n (pc' := 1) hX dX11_go_0 rfl rfl ?_
  obtain ⟨k1, ek2, hk3⟩ := zv_1_3 hI zc_0
  refine zt_get (pc' := 4) (v := .ref (X.1.1 + k1)) hX dX11_go_1 rfl zf_X11_31 (by decide) zc_0 zs_1 (zrf_of ek2) ?_
  refine zt_iload_n (pc' := 5) hX dX11_go_4 rfl rfl ?_
  refine zt_cVz (pc' := 8) hX dX11_go_5 rfl zm_yX3_hasPerson zw_41_8 hk3 (by decide) zs_8 (q := (RX3, TX3, 17)) rfl rfl (zc_X3_hasPerson _ _ σ hI k1 hk3 a1_ ⟨by omega, by omega⟩) rfl rfl (Nat.le_of_ble_eq_true rfl) (by decide) (fun r4 s5 hr6 hp7 => ?_)
  obtain ⟨rfl, q8, q9, z10⟩ := hp7
  have J_47_10 : zF X σ 47 [some (.ref (X.1.1 + 0)), none, none, none] [] := by
    refine zt_aload_n (pc' := 48) hX dX11_go_47 rfl rfl ?_
    refine zt_iconst (pc' := 49) hX dX11_go_48 rfl ?_
    refine zt_cVz (pc' := 52) hX dX11_go_49 rfl zm_yX11_denial zw_15_0 zc_0 (by decide) zs_1 (q := (RX11, TX11, 17)) rfl rfl (zc_X11_denial _ _ σ hI 2 ⟨by omega, by omega⟩) rfl rfl (Nat.le_of_ble_eq_true rfl) (by decide) (fun r12 s13 hr14 hp15 => ?_)
    obtain ⟨hI16, hF17, q18, q19⟩ := hp15
    have hF20 := zFE_tr hF hF17
    exact zt_zret hX hR dX11_go_52 ⟨by omega, by omega⟩ ⟨hI16, hF20, by omega, by omega⟩
  refine zt_ifeq (pc' := 11) (tgt := 47) hX dX11_go_8 rfl (by decide) ⟨by omega, by omega⟩ (fun c21 => ?_) (fun c21 => ?_)
  · refine zt_mask [true, false, false, false] rfl ?_
    exact J_47_10
  · refine zt_aload_n (pc' := 12) hX dX11_go_11 rfl rfl ?_
    refine zt_get (pc' := 15) (v := .ref (X.1.1 + k1)) hX dX11_go_12 rfl zf_X11_31 (by decide) zc_0 zs_1 (zrf_of ek2) ?_
    refine zt_iload_n (pc' := 16) hX dX11_go_15 rfl rfl ?_
    refine zt_iload_n (pc' := 17) hX dX11_go_16 rfl rfl ?_
    refine zt_cVz (pc' := 20) hX dX11_go_17 rfl zm_yX3_hasCell zw_42_2 hk3 (by decide) zs_8 (q := (RX3, TX3, 17)) rfl rfl (zc_X3_hasCell _ _ σ hI k1 hk3 a2_ ⟨by omega, by omega⟩ a3_ ⟨by omega, by omega⟩) rfl rfl (Nat.le_of_ble_eq_true rfl) (by decide) (fun r22 s23 hr24 hp25 => ?_)
    obtain ⟨rfl, q26, q27, z28⟩ := hp25
    refine zt_ifeq (pc' := 23) (tgt := 47) hX dX11_go_20 rfl (by decide) ⟨by omega, by omega⟩ (fun c29 => ?_) (fun c29 => ?_)
    · refine zt_mask [true, false, false, false] rfl ?_
      exact J_47_10
    · refine zt_aload_n (pc' := 24) hX dX11_go_23 rfl rfl ?_
      refine zt_get (pc' := 27) (v := .ref (X.1.1 + 35)) hX dX11_go_24 rfl zf_X11_66 (by decide) zc_0 zs_1 (zrf_of (zv_1_8 hI zc_0)) ?_
      refine zt_aload_n (pc' := 28) hX dX11_go_27 rfl rfl ?_
      refine zt_get (pc' := 31) (v := .ref (X.1.1 + k1)) hX dX11_go_28 rfl zf_X11_31 (by decide) zc_0 zs_1 (zrf_of ek2) ?_
      refine zt_aload_n (pc' := 32) hX dX11_go_31 rfl rfl ?_
      refine zt_get (pc' := 35) (v := .ref (X.1.1 + k1)) hX dX11_go_32 rfl zf_X11_31 (by decide) zc_0 zs_1 (zrf_of ek2) ?_
      refine zt_iload_n (pc' := 36) hX dX11_go_35 rfl rfl ?_
      refine zt_iload_n (pc' := 37) hX dX11_go_36 rfl rfl ?_
      refine zt_cVi (pc' := 40) hX dX11_go_37 rfl zm_yX3_cellAt zw_42_6 hk3 (by decide) zs_8 (q := (RX3, TX3, 17)) rfl rfl (zc_X3_cellAt _ _ σ hI k1 hk3 a2_ ⟨by omega, by omega⟩ a3_ ⟨by omega, by omega⟩) rfl rfl (Nat.le_of_ble_eq_true rfl) (by decide) (fun r30 s31 hr32 hp33 => ?_)
      obtain ⟨rfl, q34, q35, z36⟩ := hp33
      refine zt_cVi (pc' := 43) hX dX11_go_40 rfl zm_yX10_standing zw_44_2 zc_35 (by decide) zs_22 (q := (RX10, TX10, 8)) rfl rfl (zc_X10_standing _ _ σ hI 35 zc_35 k1 hk3 r30 ⟨by omega, by omega⟩) rfl rfl (Nat.le_of_ble_eq_true rfl) (by decide) (fun r37 s38 hr39 hp40 => ?_)
      obtain ⟨rfl, q41, q42⟩ := hp40
      refine zt_iconst (pc' := 44) hX dX11_go_43 rfl ?_
      refine zt_iceq (pc' := 47) (tgt := 53) hX dX11_go_44 rfl (by decide) ⟨by omega, by omega⟩ ⟨by omega, by omega⟩ (fun c43 => ?_) (fun c43 => ?_)
      · refine zt_aload_n (pc' := 54) hX dX11_go_53 rfl rfl ?_
        refine zt_get (pc' := 57) (v := .ref (X.1.1 + 45)) hX dX11_go_54 rfl zf_X11_76 (by decide) zc_0 zs_1 (zrf_of (zv_1_10 hI zc_0)) ?_
        refine zt_aload_n (pc' := 58) hX dX11_go_57 rfl rfl ?_
        refine zt_get (pc' := 61) (v := .ref (X.1.1 + 35)) hX dX11_go_58 rfl zf_X11_66 (by decide) zc_0 zs_1 (zrf_of (zv_1_8 hI zc_0)) ?_
        refine zt_cVv (pc' := 64) hX dX11_go_61 rfl zm_yX2_push zw_60_1 zc_45 (by decide) zs_27 (q := (RX2, TX2, 3)) rfl rfl (zc_X2_push _ _ σ hI 35 zc_35) rfl rfl (Nat.le_of_ble_eq_true rfl) (by decide) (fun r44 s45 hr46 hp47 => ?_)
        obtain ⟨hI48, hF49⟩ := hp47
        have hF50 := zFE_tr hF hF49
        refine zt_aload_n (pc' := 65) hX dX11_go_64 rfl rfl ?_
        refine zt_get (pc' := 68) (v := .ref (X.1.1 + 35)) hX dX11_go_65 rfl zf_X11_66 (by decide) zc_0 zs_1 (zrf_of (zv_1_8 hI48 zc_0)) ?_
        refine zt_get (pc' := 71) (v := .ref (X.1.1 + 36)) hX dX11_go_68 rfl zf_X11_215 (by decide) zc_35 zs_22 (zrf_of (zv_22_0 hI48 zc_35)) ?_
        refine zt_iload_n (pc' := 72) hX dX11_go_71 rfl rfl ?_
        refine zt_iload_n (pc' := 73) hX dX11_go_72 rfl rfl ?_
        refine zt_iast (pc' := 74) hX dX11_go_73 rfl (by decide) zc_36 zs_23 (by decide) ⟨by omega, by omega⟩ ?_
        generalize hs52 : zset s45 36 (a1_.toNat) a2_ = s51
        have hI53 : zInv s51 := hs52 ▸ zp_23 hI48 zc_36 (a1_.toNat) ⟨by omega, by omega⟩
        have hF54 : zFE σ s51 := hs52 ▸ zFE_set hF50 zc_36 (by decide) zke_23 (Or.inl (by decide)) (Or.inl (by decide))
        refine zt_aload_n (pc' := 75) hX dX11_go_74 rfl rfl ?_
        refine zt_get (pc' := 78) (v := .ref (X.1.1 + 35)) hX dX11_go_75 rfl zf_X11_66 (by decide) zc_0 zs_1 (zrf_of (zv_1_8 hI53 zc_0)) ?_
        refine zt_get (pc' := 81) (v := .ref (X.1.1 + 37)) hX dX11_go_78 rfl zf_X11_218 (by decide) zc_35 zs_22 (zrf_of (zv_22_1 hI53 zc_35)) ?_
        refine zt_iload_n (pc' := 82) hX dX11_go_81 rfl rfl ?_
        refine zt_iload_n (pc' := 83) hX dX11_go_82 rfl rfl ?_
        refine zt_iast (pc' := 84) hX dX11_go_83 rfl (by decide) zc_37 zs_24 (by decide) ⟨by omega, by omega⟩ ?_
        generalize hs56 : zset s51 37 (a1_.toNat) a3_ = s55
        have hI57 : zInv s55 := hs56 ▸ zp_24 hI53 zc_37 (a1_.toNat) ⟨by omega, by omega⟩
        have hF58 : zFE σ s55 := hs56 ▸ zFE_set hF54 zc_37 (by decide) zke_24 (Or.inl (by decide)) (Or.inl (by decide))
        refine zt_iconst (pc' := 85) hX dX11_go_84 rfl ?_
        exact zt_zret hX hR dX11_go_85 ⟨by omega, by omega⟩ ⟨hI57, hF58, by omega, by omega⟩
      · refine zt_mask [true, false, false, false] rfl ?_
        exact J_47_10

set_option maxRecDepth 100000 in
set_option maxHeartbeats 4000000 in
theorem zc_X11_mend (l : Launch) (E : zEN) (σ : zSto) (hI : zInv σ) (a1_ : Int) (ha1_ : -2147483648 ≤ a1_ ∧ a1_ ≤ 2147483647) (a2_ : Int) (ha2_ : -2147483648 ≤ a2_ ∧ a2_ ≤ 2147483647) : zCt l E yX11_mend cX11_mend 3 (some .boolean) 3 zNC zNC 0 0 σ [.ref (E.1 + 0), .int (zI a1_), .int (zI a2_)] (fun r σ' => zInv σ' ∧ zFE σ σ' ∧ 0 ≤ r ∧ r ≤ 1) := by
  refine zCt_of2 [some (.ref (E.1 + 0)), some (.int (zI a1_)), some (.int (zI a2_))] (by decide +kernel) (Nat.le_of_ble_eq_true rfl) rfl ?_
  intro X hE hX hR hL hN
  subst hE
  have hX : zok X cX11_mend RX11 3 := hX
  have hF := zFE_rf σ
  refine zt_aload_n (pc' := 1) hX dX11_mend_0 rfl rfl ?_
  obtain ⟨k1, ek2, hk3⟩ := zv_1_3 hI zc_0
  refine zt_get (pc' := 4) (v := .ref (X.1.1 + k1)) hX dX11_mend_1 rfl zf_X11_31 (by decide) zc_0 zs_1 (zrf_of ek2) ?_
  refine zt_iload_n (pc' := 5) hX dX11_mend_4 rfl rfl ?_
  refine zt_iload_n (pc' := 6) hX dX11_mend_5 rfl rfl ?_
  refine zt_cVz (pc' := 9) hX dX11_mend_6 rfl zm_yX3_hasCell zw_42_2 hk3 (by decide) zs_8 (q := (RX3, TX3, 17)) rfl rfl (zc_X3_hasCell _ _ σ hI k1 hk3 a1_ ⟨by omega, by omega⟩ a2_ ⟨by omega, by omega⟩) rfl rfl (Nat.le_of_ble_eq_true rfl) (by decide) (fun r4 s5 hr6 hp7 => ?_)
  obtain ⟨rfl, q8, q9, z10⟩ := hp7
  have J_31_10 : zF X σ 31 [some (.ref (X.1.1 + 0)), none, none] [] := by
    refine zt_aload_n (pc' := 32) hX dX11_mend_31 rfl rfl ?_
    refine zt_iconst (pc' := 33) hX dX11_mend_32 rfl ?_
    refine zt_cVz (pc' := 36) hX dX11_mend_33 rfl zm_yX11_denial zw_15_0 zc_0 (by decide) zs_1 (q := (RX11, TX11, 17)) rfl rfl (zc_X11_denial _ _ σ hI 2 ⟨by omega, by omega⟩) rfl rfl (Nat.le_of_ble_eq_true rfl) (by decide) (fun r12 s13 hr14 hp15 => ?_)
    obtain ⟨hI16, hF17, q18, q19⟩ := hp15
    have hF20 := zFE_tr hF hF17
    exact zt_zret hX hR dX11_mend_36 ⟨by omega, by omega⟩ ⟨hI16, hF20, by omega, by omega⟩
  refine zt_ifeq (pc' := 12) (tgt := 31) hX dX11_mend_9 rfl (by decide) ⟨by omega, by omega⟩ (fun c21 => ?_) (fun c21 => ?_)
  · refine zt_mask [true, false, false] rfl ?_
    exact J_31_10
  · refine zt_aload_n (pc' := 13) hX dX11_mend_12 rfl rfl ?_
    refine zt_get (pc' := 16) (v := .ref (X.1.1 + 35)) hX dX11_mend_13 rfl zf_X11_66 (by decide) zc_0 zs_1 (zrf_of (zv_1_8 hI zc_0)) ?_
    refine zt_aload_n (pc' := 17) hX dX11_mend_16 rfl rfl ?_
    refine zt_get (pc' := 20) (v := .ref (X.1.1 + k1)) hX dX11_mend_17 rfl zf_X11_31 (by decide) zc_0 zs_1 (zrf_of ek2) ?_
    refine zt_iload_n (pc' := 21) hX dX11_mend_20 rfl rfl ?_
    refine zt_iload_n (pc' := 22) hX dX11_mend_21 rfl rfl ?_
    refine zt_cVi (pc' := 25) hX dX11_mend_22 rfl zm_yX3_cellAt zw_42_6 hk3 (by decide) zs_8 (q := (RX3, TX3, 17)) rfl rfl (zc_X3_cellAt _ _ σ hI k1 hk3 a1_ ⟨by omega, by omega⟩ a2_ ⟨by omega, by omega⟩) rfl rfl (Nat.le_of_ble_eq_true rfl) (by decide) (fun r22 s23 hr24 hp25 => ?_)
    obtain ⟨rfl, q26, q27, z28⟩ := hp25
    refine zt_cVz (pc' := 28) hX dX11_mend_25 rfl zm_yX10_isCracked zw_42_7 zc_35 (by decide) zs_22 (q := (RX10, TX10, 8)) rfl rfl (zc_X10_isCracked _ _ σ hI 35 zc_35 r22 ⟨by omega, by omega⟩) rfl rfl (Nat.le_of_ble_eq_true rfl) (by decide) (fun r29 s30 hr31 hp32 => ?_)
    obtain ⟨rfl, q33, q34⟩ := hp32
    refine zt_ifne (pc' := 31) (tgt := 37) hX dX11_mend_28 rfl (by decide) ⟨by omega, by omega⟩ (fun c35 => ?_) (fun c35 => ?_)
    · refine zt_aload_n (pc' := 38) hX dX11_mend_37 rfl rfl ?_
      refine zt_get (pc' := 41) (v := .ref (X.1.1 + 45)) hX dX11_mend_38 rfl zf_X11_76 (by decide) zc_0 zs_1 (zrf_of (zv_1_10 hI zc_0)) ?_
      refine zt_aload_n (pc' := 42) hX dX11_mend_41 rfl rfl ?_
      refine zt_get (pc' := 45) (v := .ref (X.1.1 + 35)) hX dX11_mend_42 rfl zf_X11_66 (by decide) zc_0 zs_1 (zrf_of (zv_1_8 hI zc_0)) ?_
      refine zt_cVv (pc' := 48) hX dX11_mend_45 rfl zm_yX2_push zw_60_1 zc_45 (by decide) zs_27 (q := (RX2, TX2, 3)) rfl rfl (zc_X2_push _ _ σ hI 35 zc_35) rfl rfl (Nat.le_of_ble_eq_true rfl) (by decide) (fun r36 s37 hr38 hp39 => ?_)
      obtain ⟨hI40, hF41⟩ := hp39
      have hF42 := zFE_tr hF hF41
      refine zt_aload_n (pc' := 49) hX dX11_mend_48 rfl rfl ?_
      refine zt_get (pc' := 52) (v := .ref (X.1.1 + 35)) hX dX11_mend_49 rfl zf_X11_66 (by decide) zc_0 zs_1 (zrf_of (zv_1_8 hI40 zc_0)) ?_
      refine zt_dup (pc' := 53) hX dX11_mend_52 rfl rfl ?_
      have b43 := zv_22_6 hI40 zc_35
      refine zt_get (pc' := 56) (v := .long (zJ (s37 35 6))) hX dX11_mend_53 rfl zf_X11_153 (by decide) zc_35 zs_22 rfl ?_
      refine zt_lconst (pc' := 57) (y := 1) hX dX11_mend_56 rfl (by decide +kernel) ?_
      refine zt_aload_n (pc' := 58) hX dX11_mend_57 rfl rfl ?_
      obtain ⟨k44, ek45, hk46⟩ := zv_1_3 hI40 zc_0
      refine zt_get (pc' := 61) (v := .ref (X.1.1 + k44)) hX dX11_mend_58 rfl zf_X11_31 (by decide) zc_0 zs_1 (zrf_of ek45) ?_
      refine zt_iload_n (pc' := 62) hX dX11_mend_61 rfl rfl ?_
      refine zt_iload_n (pc' := 63) hX dX11_mend_62 rfl rfl ?_
      refine zt_cVi (pc' := 66) hX dX11_mend_63 rfl zm_yX3_cellAt zw_42_6 hk46 (by decide) zs_8 (q := (RX3, TX3, 17)) rfl rfl (zc_X3_cellAt _ _ s37 hI40 k44 hk46 a1_ ⟨by omega, by omega⟩ a2_ ⟨by omega, by omega⟩) rfl rfl (Nat.le_of_ble_eq_true rfl) (by decide) (fun r47 s48 hr49 hp50 => ?_)
      obtain ⟨rfl, q51, q52, z53⟩ := hp50
      refine zt_lshl (pc' := 67) hX dX11_mend_66 rfl (fun r54 zr54 lr54 ur54 => ?_)
      clear zr54
      refine zt_lxor (pc' := 68) hX dX11_mend_67 rfl (fun r55 zr55 lr55 ur55 => ?_)
      clear zr55
      refine zt_put (pc' := 71) (x := r55) hX dX11_mend_68 rfl zf_X11_153 (by decide) zc_35 zs_22 (fun q hq => by cases hq; rfl) rfl rfl rfl ?_
      generalize hs57 : zset s37 35 6 r55 = s56
      have hI58 : zInv s56 := hs57 ▸ zp_22_6 hI40 zc_35 ⟨by omega, by omega⟩
      have hF59 : zFE σ s56 := hs57 ▸ zFE_set hF42 zc_35 (by decide) zke_22 (Or.inl (by decide)) (Or.inl (by decide))
      refine zt_iconst (pc' := 72) hX dX11_mend_71 rfl ?_
      exact zt_zret hX hR dX11_mend_72 ⟨by omega, by omega⟩ ⟨hI58, hF59, by omega, by omega⟩
    · refine zt_mask [true, false, false] rfl ?_
      exact J_31_10

set_option maxRecDepth 100000 in
set_option maxHeartbeats 4000000 in
theorem zc_X11_hours (l : Launch) (E : zEN) (σ : zSto) (hI : zInv σ) (a1_ : Int) (ha1_ : -2147483648 ≤ a1_ ∧ a1_ ≤ 2147483647) : zCt l E yX11_hours cX11_hours 7 (some .int) 6 zNC zNC 0 0 σ [.ref (E.1 + 0), .int (zI a1_)] (fun r σ' => zInv σ' ∧ zFE σ σ' ∧ -2147483648 ≤ r ∧ r ≤ 2147483647) := by
  refine zCt_of2 [some (.ref (E.1 + 0)), some (.int (zI a1_)), none, none, none, none, none] (by decide +kernel) (Nat.le_of_ble_eq_true rfl) rfl ?_
  intro X hE hX hR hL hN
  subst hE
  have hX : zok X cX11_hours RX11 6 := hX
  have hF := zFE_rf σ
  refine zt_aload_n (pc' := 1) hX dX11_hours_0 rfl rfl ?_
  obtain ⟨k1, ek2, hk3⟩ := zv_1_3 hI zc_0
  refine zt_get (pc' := 4) (v := .ref (X.1.1 + k1)) hX dX11_hours_1 rfl zf_X11_31 (by decide) zc_0 zs_1 (zrf_of ek2) ?_
  refine zt_cVz (pc' := 7) hX dX11_hours_4 rfl zm_yX3_isTold zw_48_6 hk3 (by decide) zs_8 (q := (RX3, TX3, 17)) rfl rfl (zc_X3_isTold _ _ σ hI k1 hk3) rfl rfl (Nat.le_of_ble_eq_true rfl) (by decide) (fun r4 s5 hr6 hp7 => ?_)
  obtain ⟨rfl, q8, q9⟩ := hp7
  have J_21_9 : zF X σ 21 [some (.ref (X.1.1 + 0)), none, none, none, none, none, none] [] := by
    refine zt_aload_n (pc' := 22) hX dX11_hours_21 rfl rfl ?_
    refine zt_iconst (pc' := 23) hX dX11_hours_22 rfl ?_
    refine zt_cVi (pc' := 26) hX dX11_hours_23 rfl zm_yX11_refusal zw_14_3 zc_0 (by decide) zs_1 (q := (RX11, TX11, 17)) rfl rfl (zc_X11_refusal _ _ σ hI 3 ⟨by omega, by omega⟩) rfl rfl (Nat.le_of_ble_eq_true rfl) (by decide) (fun r11 s12 hr13 hp14 => ?_)
    obtain ⟨hI15, hF16, q17, q18⟩ := hp14
    have hF19 := zFE_tr hF hF16
    exact zt_iret hX hR dX11_hours_26 ⟨by omega, by omega⟩ ⟨hI15, hF19, by omega, by omega⟩
  refine zt_ifeq (pc' := 10) (tgt := 21) hX dX11_hours_7 rfl (by decide) ⟨by omega, by omega⟩ (fun c20 => ?_) (fun c20 => ?_)
  · refine zt_mask [true, false, false, false, false, false, false] rfl ?_
    exact J_21_9
  · refine zt_iload_n (pc' := 11) hX dX11_hours_10 rfl rfl ?_
    refine zt_iconst (pc' := 12) hX dX11_hours_11 rfl ?_
    refine zt_iclt (pc' := 15) (tgt := 21) hX dX11_hours_12 rfl (by decide) ⟨by omega, by omega⟩ ⟨by omega, by omega⟩ (fun c21 => ?_) (fun c21 => ?_)
    · refine zt_mask [true, false, false, false, false, false, false] rfl ?_
      exact J_21_9
    · refine zt_iload_n (pc' := 16) hX dX11_hours_15 rfl rfl ?_
      refine zt_bipush (pc' := 18) hX dX11_hours_16 rfl (by decide) (by decide) ?_
      refine zt_icle (pc' := 21) (tgt := 27) hX dX11_hours_18 rfl (by decide) ⟨by omega, by omega⟩ ⟨by omega, by omega⟩ (fun c22 => ?_) (fun c22 => ?_)
      · refine zt_aload_n (pc' := 28) hX dX11_hours_27 rfl rfl ?_
        refine zt_get (pc' := 31) (v := .ref (X.1.1 + 45)) hX dX11_hours_28 rfl zf_X11_76 (by decide) zc_0 zs_1 (zrf_of (zv_1_10 hI zc_0)) ?_
        refine zt_aload_n (pc' := 32) hX dX11_hours_31 rfl rfl ?_
        refine zt_get (pc' := 35) (v := .ref (X.1.1 + 35)) hX dX11_hours_32 rfl zf_X11_66 (by decide) zc_0 zs_1 (zrf_of (zv_1_8 hI zc_0)) ?_
        refine zt_cVv (pc' := 38) hX dX11_hours_35 rfl zm_yX2_push zw_60_1 zc_45 (by decide) zs_27 (q := (RX2, TX2, 3)) rfl rfl (zc_X2_push _ _ σ hI 35 zc_35) rfl rfl (Nat.le_of_ble_eq_true rfl) (by decide) (fun r23 s24 hr25 hp26 => ?_)
        obtain ⟨hI27, hF28⟩ := hp26
        have hF29 := zFE_tr hF hF28
        refine zt_aload_n (pc' := 39) hX dX11_hours_38 rfl rfl ?_
        refine zt_get (pc' := 42) (v := .ref (X.1.1 + 153)) hX dX11_hours_39 rfl zf_X11_92 (by decide) zc_0 zs_1 (zrf_of (zv_1_12 hI27 zc_0)) ?_
        refine zt_aload_n (pc' := 43) hX dX11_hours_42 rfl rfl ?_
        obtain ⟨k30, ek31, hk32⟩ := zv_1_3 hI27 zc_0
        refine zt_get (pc' := 46) (v := .ref (X.1.1 + k30)) hX dX11_hours_43 rfl zf_X11_31 (by decide) zc_0 zs_1 (zrf_of ek31) ?_
        refine zt_aload_n (pc' := 47) hX dX11_hours_46 rfl rfl ?_
        refine zt_get (pc' := 50) (v := .ref (X.1.1 + 35)) hX dX11_hours_47 rfl zf_X11_66 (by decide) zc_0 zs_1 (zrf_of (zv_1_8 hI27 zc_0)) ?_
        refine zt_iconst (pc' := 51) hX dX11_hours_50 rfl ?_
        refine zt_cVv (pc' := 54) hX dX11_hours_51 rfl zm_yX6_look zw_34_4 zc_153 (by decide) zs_35 (q := (RX6, TX6, 14)) rfl rfl (zc_X6_look _ _ s24 hI27 k30 hk32 35 zc_35 0 ⟨by omega, by omega⟩) rfl rfl (Nat.le_of_ble_eq_true rfl) (by decide) (fun r33 s34 hr35 hp36 => ?_)
        obtain ⟨hI37, hF38⟩ := hp36
        have hF39 := zFE_tr hF29 hF38
        refine zt_iconst (pc' := 55) hX dX11_hours_54 rfl ?_
        refine zt_istore_n (pc' := 56) (lv' := [some (.ref (X.1.1 + 0)), some (.int (zI a1_)), some (.int (zI 0)), none, none, none, none]) hX dX11_hours_55 rfl hL (by decide) rfl ?_
        refine zt_iconst (pc' := 57) hX dX11_hours_56 rfl ?_
        refine zt_istore_n (pc' := 58) (lv' := [some (.ref (X.1.1 + 0)), some (.int (zI a1_)), some (.int (zI 0)), some (.int (zI 0)), none, none, none]) hX dX11_hours_57 rfl hL (by decide) rfl ?_
        have L_58_48 : ∀ (N : Nat) (x40 : Int) (x43 : Int) (s46 : zSto), -2147483648 ≤ x40 → x40 ≤ 2147483647 → 0 ≤ x43 → x43 ≤ 100 → zInv s46 → zFE σ s46 → ((101 - x43).toNat) < N → zF X s46 58 [some (.ref (X.1.1 + 0)), some (.int (zI a1_)), some (.int (zI x40)), some (.int (zI x43)), none, none, none] [] := by
          intro N
          induction N with
          | zero =>
            intro x40 x43 s46 h41 h42 h44 h45 hI47 hF48 hm50
            exact absurd hm50 (Nat.not_lt_zero _)
          | succ N ih51 =>
            intro x40 x43 s46 h41 h42 h44 h45 hI47 hF48 hm50
            refine zt_iload_n (pc' := 59) hX dX11_hours_58 rfl rfl ?_
            refine zt_iload_n (pc' := 60) hX dX11_hours_59 rfl rfl ?_
            refine zt_icge (pc' := 63) (tgt := 111) hX dX11_hours_60 rfl (by decide) ⟨by omega, by omega⟩ ⟨by omega, by omega⟩ (fun c52 => ?_) (fun c52 => ?_)
            · refine zt_iload_n (pc' := 112) hX dX11_hours_111 rfl rfl ?_
              exact zt_iret hX hR dX11_hours_112 ⟨by omega, by omega⟩ ⟨hI47, hF48, by omega, by omega⟩
            · refine zt_aload_n (pc' := 64) hX dX11_hours_63 rfl rfl ?_
              refine zt_get (pc' := 67) (v := .ref (X.1.1 + 35)) hX dX11_hours_64 rfl zf_X11_66 (by decide) zc_0 zs_1 (zrf_of (zv_1_8 hI47 zc_0)) ?_
              have b53 := zv_22_5 hI47 zc_35
              refine zt_get (pc' := 70) (v := .int (zI (s46 35 5))) hX dX11_hours_67 rfl zf_X11_150 (by decide) zc_35 zs_22 rfl ?_
              refine zt_istore (pc' := 72) (lv' := [some (.ref (X.1.1 + 0)), some (.int (zI a1_)), some (.int (zI x40)), some (.int (zI x43)), some (.int (zI (s46 35 5))), none, none]) hX dX11_hours_70 rfl hL (by decide) rfl ?_
              refine zt_aload_n (pc' := 73) hX dX11_hours_72 rfl rfl ?_
              refine zt_get (pc' := 76) (v := .ref (X.1.1 + 153)) hX dX11_hours_73 rfl zf_X11_92 (by decide) zc_0 zs_1 (zrf_of (zv_1_12 hI47 zc_0)) ?_
              refine zt_iconst (pc' := 77) hX dX11_hours_76 rfl ?_
              refine zt_cVl (pc' := 80) hX dX11_hours_77 rfl zm_yX6_passHour zw_48_18 zc_153 (by decide) zs_35 (q := (RX6, TX6, 14)) rfl rfl (zc_X6_passHour _ _ s46 hI47 (-1) ⟨by omega, by omega⟩) rfl rfl (Nat.le_of_ble_eq_true rfl) (by decide) (fun r54 s55 hr56 hp57 => ?_)
              obtain ⟨hI58, hF59, q60, q61⟩ := hp57
              have hF62 := zFE_tr hF48 hF59
              refine zt_lstore (pc' := 82) (lv' := [some (.ref (X.1.1 + 0)), some (.int (zI a1_)), some (.int (zI x40)), some (.int (zI x43)), some (.int (zI (s46 35 5))), some (.long (zJ r54)), none]) hX dX11_hours_80 rfl hL (by decide) rfl ?_
              refine zt_aload_n (pc' := 83) hX dX11_hours_82 rfl rfl ?_
              refine zt_get (pc' := 86) (v := .ref (X.1.1 + 35)) hX dX11_hours_83 rfl zf_X11_66 (by decide) zc_0 zs_1 (zrf_of (zv_1_8 hI58 zc_0)) ?_
              refine zt_aload_n (pc' := 87) hX dX11_hours_86 rfl rfl ?_
              obtain ⟨k63, ek64, hk65⟩ := zv_1_3 hI58 zc_0
              refine zt_get (pc' := 90) (v := .ref (X.1.1 + k63)) hX dX11_hours_87 rfl zf_X11_31 (by decide) zc_0 zs_1 (zrf_of ek64) ?_
              refine zt_iload (pc' := 92) hX dX11_hours_90 rfl rfl ?_
              refine zt_lload (pc' := 94) hX dX11_hours_92 rfl rfl ?_
              refine zt_cVv (pc' := 97) hX dX11_hours_94 rfl zm_yX10_keep zw_62_0 zc_35 (by decide) zs_22 (q := (RX10, TX10, 8)) rfl rfl (zc_X10_keep _ _ s55 hI58 35 zc_35 k63 hk65 (s46 35 5) ⟨by omega, by omega⟩ r54 ⟨by omega, by omega⟩) rfl rfl (Nat.le_of_ble_eq_true rfl) (by decide) (fun r66 s67 hr68 hp69 => ?_)
              obtain ⟨hI70, hF71⟩ := hp69
              have hF72 := zFE_tr hF62 hF71
              refine zt_iload_n (pc' := 98) hX dX11_hours_97 rfl rfl ?_
              refine zt_lload (pc' := 100) hX dX11_hours_98 rfl rfl ?_
              refine zt_cSi (pc' := 103) hX dX11_hours_100 rfl zm_yJ13_bitCount_95d88 zw_33_17 (zc_J13_bitCount _ _ s67  r54 ⟨by omega, by omega⟩) rfl rfl (Nat.le_of_ble_eq_true rfl) (by decide) (fun r73 s74 hr75 hp76 => ?_)
              obtain ⟨rfl, q77, q78⟩ := hp76
              refine zt_iadd (pc' := 104) hX dX11_hours_103 rfl ?_
              refine zt_wrap (fun r79 zr79 lr79 ur79 => ?_)
              clear zr79
              refine zt_istore_n (pc' := 105) (lv' := [some (.ref (X.1.1 + 0)), some (.int (zI a1_)), some (.int (zI r79)), some (.int (zI x43)), some (.int (zI (s46 35 5))), some (.long (zJ r54)), none]) hX dX11_hours_104 rfl hL (by decide) rfl ?_
              refine zt_iinc (pc' := 108) (lv' := [some (.ref (X.1.1 + 0)), some (.int (zI a1_)), some (.int (zI r79)), some (.int (zI (x43 + 1))), some (.int (zI (s46 35 5))), some (.long (zJ r54)), none]) hX dX11_hours_105 rfl rfl hL (by decide) rfl ?_
              refine zt_goto (tgt := 58) hX dX11_hours_108 (by decide) ?_
              refine zt_mask [true, true, true, true, false, false, false] rfl ?_
              exact ih51 r79 (x43 + 1) s67 (by omega) (by omega) (by omega) (by omega) hI70 (by omega) (by omega)
        exact L_58_48 _ 0 0 s34 (by omega) (by omega) (by omega) (by omega) hI37 (by omega) (Nat.lt_succ_self _)
      · refine zt_mask [true, false, false, false, false, false, false] rfl ?_
        exact J_21_9

set_option maxRecDepth 100000 in
set_option maxHeartbeats 4000000 in
theorem zc_X11_chance (l : Launch) (E : zEN) (σ : zSto) (hI : zInv σ) (a1_ : Int) (ha1_ : -2147483648 ≤ a1_ ∧ a1_ ≤ 2147483647) : zCt l E yX11_chance cX11_chance 6 (some .int) 6 zNC zNC 0 0 σ [.ref (E.1 + 0), .int (zI a1_)] (fun r σ' => zInv σ' ∧ zFE σ σ' ∧ -2147483648 ≤ r ∧ r ≤ 2147483647) := by
  refine zCt_of2 [some (.ref (E.1 + 0)), some (.int (zI a1_)), none, none, none, none] (by decide +kernel) (Nat.le_of_ble_eq_true rfl) rfl ?_
  intro X hE hX hR hL hN
  subst hE
  have hX : zok X cX11_chance RX11 6 := hX
  have hF := zFE_rf σ
  refine zt_aload_n (pc' := 1) hX dX11_chance_0 rfl rfl ?_
  obtain ⟨k1, ek2, hk3⟩ := zv_1_3 hI zc_0
  refine zt_get (pc' := 4) (v := .ref (X.1.1 + k1)) hX dX11_chance_1 rfl zf_X11_31 (by decide) zc_0 zs_1 (zrf_of ek2) ?_
  refine zt_cVz (pc' := 7) hX dX11_chance_4 rfl zm_yX3_isTold zw_48_6 hk3 (by decide) zs_8 (q := (RX3, TX3, 17)) rfl rfl (zc_X3_isTold _ _ σ hI k1 hk3) rfl rfl (Nat.le_of_ble_eq_true rfl) (by decide) (fun r4 s5 hr6 hp7 => ?_)
  obtain ⟨rfl, q8, q9⟩ := hp7
  have J_21_9 : zF X σ 21 [some (.ref (X.1.1 + 0)), none, none, none, none, none] [] := by
    refine zt_aload_n (pc' := 22) hX dX11_chance_21 rfl rfl ?_
    refine zt_iconst (pc' := 23) hX dX11_chance_22 rfl ?_
    refine zt_cVi (pc' := 26) hX dX11_chance_23 rfl zm_yX11_refusal zw_14_3 zc_0 (by decide) zs_1 (q := (RX11, TX11, 17)) rfl rfl (zc_X11_refusal _ _ σ hI 3 ⟨by omega, by omega⟩) rfl rfl (Nat.le_of_ble_eq_true rfl) (by decide) (fun r11 s12 hr13 hp14 => ?_)
    obtain ⟨hI15, hF16, q17, q18⟩ := hp14
    have hF19 := zFE_tr hF hF16
    exact zt_iret hX hR dX11_chance_26 ⟨by omega, by omega⟩ ⟨hI15, hF19, by omega, by omega⟩
  refine zt_ifeq (pc' := 10) (tgt := 21) hX dX11_chance_7 rfl (by decide) ⟨by omega, by omega⟩ (fun c20 => ?_) (fun c20 => ?_)
  · refine zt_mask [true, false, false, false, false, false] rfl ?_
    exact J_21_9
  · refine zt_iload_n (pc' := 11) hX dX11_chance_10 rfl rfl ?_
    refine zt_iconst (pc' := 12) hX dX11_chance_11 rfl ?_
    refine zt_iclt (pc' := 15) (tgt := 21) hX dX11_chance_12 rfl (by decide) ⟨by omega, by omega⟩ ⟨by omega, by omega⟩ (fun c21 => ?_) (fun c21 => ?_)
    · refine zt_mask [true, false, false, false, false, false] rfl ?_
      exact J_21_9
    · refine zt_iload_n (pc' := 16) hX dX11_chance_15 rfl rfl ?_
      refine zt_bipush (pc' := 18) hX dX11_chance_16 rfl (by decide) (by decide) ?_
      refine zt_icle (pc' := 21) (tgt := 27) hX dX11_chance_18 rfl (by decide) ⟨by omega, by omega⟩ ⟨by omega, by omega⟩ (fun c22 => ?_) (fun c22 => ?_)
      · refine zt_aload_n (pc' := 28) hX dX11_chance_27 rfl rfl ?_
        refine zt_get (pc' := 31) (v := .ref (X.1.1 + 45)) hX dX11_chance_28 rfl zf_X11_76 (by decide) zc_0 zs_1 (zrf_of (zv_1_10 hI zc_0)) ?_
        refine zt_aload_n (pc' := 32) hX dX11_chance_31 rfl rfl ?_
        refine zt_get (pc' := 35) (v := .ref (X.1.1 + 35)) hX dX11_chance_32 rfl zf_X11_66 (by decide) zc_0 zs_1 (zrf_of (zv_1_8 hI zc_0)) ?_
        refine zt_cVv (pc' := 38) hX dX11_chance_35 rfl zm_yX2_push zw_60_1 zc_45 (by decide) zs_27 (q := (RX2, TX2, 3)) rfl rfl (zc_X2_push _ _ σ hI 35 zc_35) rfl rfl (Nat.le_of_ble_eq_true rfl) (by decide) (fun r23 s24 hr25 hp26 => ?_)
        obtain ⟨hI27, hF28⟩ := hp26
        have hF29 := zFE_tr hF hF28
        refine zt_aload_n (pc' := 39) hX dX11_chance_38 rfl rfl ?_
        refine zt_get (pc' := 42) (v := .ref (X.1.1 + 153)) hX dX11_chance_39 rfl zf_X11_92 (by decide) zc_0 zs_1 (zrf_of (zv_1_12 hI27 zc_0)) ?_
        refine zt_aload_n (pc' := 43) hX dX11_chance_42 rfl rfl ?_
        obtain ⟨k30, ek31, hk32⟩ := zv_1_3 hI27 zc_0
        refine zt_get (pc' := 46) (v := .ref (X.1.1 + k30)) hX dX11_chance_43 rfl zf_X11_31 (by decide) zc_0 zs_1 (zrf_of ek31) ?_
        refine zt_aload_n (pc' := 47) hX dX11_chance_46 rfl rfl ?_
        refine zt_get (pc' := 50) (v := .ref (X.1.1 + 35)) hX dX11_chance_47 rfl zf_X11_66 (by decide) zc_0 zs_1 (zrf_of (zv_1_8 hI27 zc_0)) ?_
        refine zt_iconst (pc' := 51) hX dX11_chance_50 rfl ?_
        refine zt_cVv (pc' := 54) hX dX11_chance_51 rfl zm_yX6_look zw_34_4 zc_153 (by decide) zs_35 (q := (RX6, TX6, 14)) rfl rfl (zc_X6_look _ _ s24 hI27 k30 hk32 35 zc_35 0 ⟨by omega, by omega⟩) rfl rfl (Nat.le_of_ble_eq_true rfl) (by decide) (fun r33 s34 hr35 hp36 => ?_)
        obtain ⟨hI37, hF38⟩ := hp36
        have hF39 := zFE_tr hF29 hF38
        refine zt_iconst (pc' := 55) hX dX11_chance_54 rfl ?_
        refine zt_istore_n (pc' := 56) (lv' := [some (.ref (X.1.1 + 0)), some (.int (zI a1_)), some (.int (zI 0)), none, none, none]) hX dX11_chance_55 rfl hL (by decide) rfl ?_
        refine zt_iconst (pc' := 57) hX dX11_chance_56 rfl ?_
        refine zt_istore_n (pc' := 58) (lv' := [some (.ref (X.1.1 + 0)), some (.int (zI a1_)), some (.int (zI 0)), some (.int (zI 0)), none, none]) hX dX11_chance_57 rfl hL (by decide) rfl ?_
        have L_58_48 : ∀ (N : Nat) (x40 : Int) (x43 : Int) (s46 : zSto), -2147483648 ≤ x40 → x40 ≤ 2147483647 → 0 ≤ x43 → x43 ≤ 100 → zInv s46 → zFE σ s46 → ((101 - x43).toNat) < N → zF X s46 58 [some (.ref (X.1.1 + 0)), some (.int (zI a1_)), some (.int (zI x40)), some (.int (zI x43)), none, none] [] := by
          intro N
          induction N with
          | zero =>
            intro x40 x43 s46 h41 h42 h44 h45 hI47 hF48 hm50
            exact absurd hm50 (Nat.not_lt_zero _)
          | succ N ih51 =>
            intro x40 x43 s46 h41 h42 h44 h45 hI47 hF48 hm50
            refine zt_iload_n (pc' := 59) hX dX11_chance_58 rfl rfl ?_
            refine zt_iload_n (pc' := 60) hX dX11_chance_59 rfl rfl ?_
            refine zt_icge (pc' := 63) (tgt := 135) hX dX11_chance_60 rfl (by decide) ⟨by omega, by omega⟩ ⟨by omega, by omega⟩ (fun c52 => ?_) (fun c52 => ?_)
            · refine zt_iload_n (pc' := 136) hX dX11_chance_135 rfl rfl ?_
              exact zt_iret hX hR dX11_chance_136 ⟨by omega, by omega⟩ ⟨hI47, hF48, by omega, by omega⟩
            · refine zt_iconst (pc' := 64) hX dX11_chance_63 rfl ?_
              refine zt_istore (pc' := 66) (lv' := [some (.ref (X.1.1 + 0)), some (.int (zI a1_)), some (.int (zI x40)), some (.int (zI x43)), some (.int (zI (-1))), none]) hX dX11_chance_64 rfl hL (by decide) rfl ?_
              refine zt_aload_n (pc' := 67) hX dX11_chance_66 rfl rfl ?_
              refine zt_bipush (pc' := 69) hX dX11_chance_67 rfl (by decide) (by decide) ?_
              refine zt_cVi (pc' := 72) hX dX11_chance_69 rfl zm_yX11_draw zw_62_19 zc_0 (by decide) zs_1 (q := (RX11, TX11, 17)) rfl rfl (zc_X11_draw _ _ s46 hI47 100 ⟨by omega, by omega⟩) rfl rfl (Nat.le_of_ble_eq_true rfl) (by decide) (fun r53 s54 hr55 hp56 => ?_)
              obtain ⟨hI57, hF58, q59, q60⟩ := hp56
              have hF61 := zFE_tr hF48 hF58
              refine zt_aload_n (pc' := 73) hX dX11_chance_72 rfl rfl ?_
              obtain ⟨k62, ek63, hk64⟩ := zv_1_3 hI57 zc_0
              refine zt_get (pc' := 76) (v := .ref (X.1.1 + k62)) hX dX11_chance_73 rfl zf_X11_31 (by decide) zc_0 zs_1 (zrf_of ek63) ?_
              have b65 := zv_8_16 hI57 hk64
              refine zt_get (pc' := 79) (v := .int (zI (s54 k62 16))) hX dX11_chance_76 rfl zf_X11_325 (zro_lt hk64 (by decide)) hk64 zs_8 rfl ?_
              have J_98_74 : ∀ (x66 : Int) (x69 : Int) (s72 : zSto), -2147483648 ≤ x66 → x66 ≤ 2147483647 → -2147483648 ≤ x69 → x69 ≤ 2147483647 → zInv s72 → zFE σ s72 → zF X s72 98 [some (.ref (X.1.1 + 0)), some (.int (zI a1_)), some (.int (zI x66)), some (.int (zI x43)), some (.int (zI x69)), none] [] := by
                intro x66 x69 s72 h67 h68 h70 h71 hI73 hF74
                refine zt_aload_n (pc' := 99) hX dX11_chance_98 rfl rfl ?_
                refine zt_get (pc' := 102) (v := .ref (X.1.1 + 35)) hX dX11_chance_99 rfl zf_X11_66 (by decide) zc_0 zs_1 (zrf_of (zv_1_8 hI73 zc_0)) ?_
                have b76 := zv_22_5 hI73 zc_35
                refine zt_get (pc' := 105) (v := .int (zI (s72 35 5))) hX dX11_chance_102 rfl zf_X11_150 (by decide) zc_35 zs_22 rfl ?_
                refine zt_istore (pc' := 107) (lv' := [some (.ref (X.1.1 + 0)), some (.int (zI a1_)), some (.int (zI x66)), some (.int (zI x43)), some (.int (zI x69)), some (.int (zI (s72 35 5)))]) hX dX11_chance_105 rfl hL (by decide) rfl ?_
                refine zt_aload_n (pc' := 108) hX dX11_chance_107 rfl rfl ?_
                refine zt_get (pc' := 111) (v := .ref (X.1.1 + 35)) hX dX11_chance_108 rfl zf_X11_66 (by decide) zc_0 zs_1 (zrf_of (zv_1_8 hI73 zc_0)) ?_
                refine zt_aload_n (pc' := 112) hX dX11_chance_111 rfl rfl ?_
                obtain ⟨k77, ek78, hk79⟩ := zv_1_3 hI73 zc_0
                refine zt_get (pc' := 115) (v := .ref (X.1.1 + k77)) hX dX11_chance_112 rfl zf_X11_31 (by decide) zc_0 zs_1 (zrf_of ek78) ?_
                refine zt_iload (pc' := 117) hX dX11_chance_115 rfl rfl ?_
                refine zt_aload_n (pc' := 118) hX dX11_chance_117 rfl rfl ?_
                refine zt_get (pc' := 121) (v := .ref (X.1.1 + 153)) hX dX11_chance_118 rfl zf_X11_92 (by decide) zc_0 zs_1 (zrf_of (zv_1_12 hI73 zc_0)) ?_
                refine zt_iload (pc' := 123) hX dX11_chance_121 rfl rfl ?_
                refine zt_cVl (pc' := 126) hX dX11_chance_123 rfl zm_yX6_passHour zw_48_18 zc_153 (by decide) zs_35 (q := (RX6, TX6, 14)) rfl rfl (zc_X6_passHour _ _ s72 hI73 x69 ⟨by omega, by omega⟩) rfl rfl (Nat.le_of_ble_eq_true rfl) (by decide) (fun r80 s81 hr82 hp83 => ?_)
                obtain ⟨hI84, hF85, q86, q87⟩ := hp83
                have hF88 := zFE_tr hF74 hF85
                refine zt_cVv (pc' := 129) hX dX11_chance_126 rfl zm_yX10_keep zw_62_0 zc_35 (by decide) zs_22 (q := (RX10, TX10, 8)) rfl rfl (zc_X10_keep _ _ s81 hI84 35 zc_35 k77 hk79 (s72 35 5) ⟨by omega, by omega⟩ r80 ⟨by omega, by omega⟩) rfl rfl (Nat.le_of_ble_eq_true rfl) (by decide) (fun r89 s90 hr91 hp92 => ?_)
                obtain ⟨hI93, hF94⟩ := hp92
                have hF95 := zFE_tr hF88 hF94
                refine zt_iinc (pc' := 132) (lv' := [some (.ref (X.1.1 + 0)), some (.int (zI a1_)), some (.int (zI x66)), some (.int (zI (x43 + 1))), some (.int (zI x69)), some (.int (zI (s72 35 5)))]) hX dX11_chance_129 rfl rfl hL (by decide) rfl ?_
                refine zt_goto (tgt := 58) hX dX11_chance_132 (by decide) ?_
                refine zt_mask [true, true, true, true, false, false] rfl ?_
                exact ih51 x66 (x43 + 1) s90 (by omega) (by omega) (by omega) (by omega) hI93 (by omega) (by omega)
              refine zt_icge (pc' := 82) (tgt := 98) hX dX11_chance_79 rfl (by decide) ⟨by omega, by omega⟩ ⟨by omega, by omega⟩ (fun c96 => ?_) (fun c96 => ?_)
              · exact J_98_74 x40 (-1) s54 (by omega) (by omega) (by omega) (by omega) hI57 (by omega)
              · refine zt_aload_n (pc' := 83) hX dX11_chance_82 rfl rfl ?_
                refine zt_aload_n (pc' := 84) hX dX11_chance_83 rfl rfl ?_
                refine zt_get (pc' := 87) (v := .ref (X.1.1 + k62)) hX dX11_chance_84 rfl zf_X11_31 (by decide) zc_0 zs_1 (zrf_of ek63) ?_
                refine zt_cVi (pc' := 90) hX dX11_chance_87 rfl zm_yX3_cells zw_56_2 hk64 (by decide) zs_8 (q := (RX3, TX3, 17)) rfl rfl (zc_X3_cells _ _ s54 hI57 k62 hk64) rfl rfl (Nat.le_of_ble_eq_true rfl) (by decide) (fun r97 s98 hr99 hp100 => ?_)
                obtain ⟨rfl, q101, q102⟩ := hp100
                refine zt_cVi (pc' := 93) hX dX11_chance_90 rfl zm_yX11_draw zw_62_19 zc_0 (by decide) zs_1 (q := (RX11, TX11, 17)) rfl rfl (zc_X11_draw _ _ s54 hI57 r97 ⟨by omega, by omega⟩) rfl rfl (Nat.le_of_ble_eq_true rfl) (by decide) (fun r103 s104 hr105 hp106 => ?_)
                obtain ⟨hI107, hF108, q109, q110⟩ := hp106
                have hF111 := zFE_tr hF61 hF108
                refine zt_istore (pc' := 95) (lv' := [some (.ref (X.1.1 + 0)), some (.int (zI a1_)), some (.int (zI x40)), some (.int (zI x43)), some (.int (zI r103)), none]) hX dX11_chance_93 rfl hL (by decide) rfl ?_
                refine zt_iinc (pc' := 98) (lv' := [some (.ref (X.1.1 + 0)), some (.int (zI a1_)), some (.int (zI (x40 + 1))), some (.int (zI x43)), some (.int (zI r103)), none]) hX dX11_chance_95 rfl rfl hL (by decide) rfl ?_
                obtain ⟨r112, er112, lr112, ur112⟩ := zwr (x40 + 1)
                rw [← er112]
                exact J_98_74 r112 r103 s104 (by omega) (by omega) (by omega) (by omega) hI107 (by omega)
        exact L_58_48 _ 0 0 s34 (by omega) (by omega) (by omega) (by omega) hI37 (by omega) (Nat.lt_succ_self _)
      · refine zt_mask [true, false, false, false, false, false] rfl ?_
        exact J_21_9

set_option maxRecDepth 100000 in
set_option maxHeartbeats 4000000 in
theorem zc_X11_undo (l : Launch) (E : zEN) (σ : zSto) (hI : zInv σ)  : zCt l E yX11_undo cX11_undo 1 (some .boolean) 3 zNC zNC 0 0 σ [.ref (E.1 + 0)] (fun r σ' => zInv σ' ∧ zFE σ σ' ∧ 0 ≤ r ∧ r ≤ 1) := by
  refine zCt_of2 [some (.ref (E.1 + 0))] (by decide +kernel) (Nat.le_of_ble_eq_true rfl) rfl ?_
  intro X hE hX hR hL hN
  subst hE
  have hX : zok X cX11_undo RX11 3 := hX
  have hF := zFE_rf σ
  refine zt_aload_n (pc' := 1) hX dX11_undo_0 rfl rfl ?_
  refine zt_get (pc' := 4) (v := .ref (X.1.1 + 45)) hX dX11_undo_1 rfl zf_X11_76 (by decide) zc_0 zs_1 (zrf_of (zv_1_10 hI zc_0)) ?_
  refine zt_aload_n (pc' := 5) hX dX11_undo_4 rfl rfl ?_
  refine zt_get (pc' := 8) (v := .ref (X.1.1 + 35)) hX dX11_undo_5 rfl zf_X11_66 (by decide) zc_0 zs_1 (zrf_of (zv_1_8 hI zc_0)) ?_
  refine zt_cVz (pc' := 11) hX dX11_undo_8 rfl zm_yX2_pop zw_63_18 zc_45 (by decide) zs_27 (q := (RX2, TX2, 3)) rfl rfl (zc_X2_pop _ _ σ hI 35 zc_35) rfl rfl (Nat.le_of_ble_eq_true rfl) (by decide) (fun r1 s2 hr3 hp4 => ?_)
  obtain ⟨hI5, hF6, q7, q8⟩ := hp4
  have hF9 := zFE_tr hF hF6
  refine zt_ifne (pc' := 14) (tgt := 22) hX dX11_undo_11 rfl (by decide) ⟨by omega, by omega⟩ (fun c10 => ?_) (fun c10 => ?_)
  · refine zt_iconst (pc' := 23) hX dX11_undo_22 rfl ?_
    refine zt_goto (tgt := 27) hX dX11_undo_23 (by decide) ?_
    exact zt_zret hX hR dX11_undo_27 ⟨by omega, by omega⟩ ⟨hI5, hF9, by omega, by omega⟩
  · refine zt_aload_n (pc' := 15) hX dX11_undo_14 rfl rfl ?_
    refine zt_iconst (pc' := 16) hX dX11_undo_15 rfl ?_
    refine zt_cVz (pc' := 19) hX dX11_undo_16 rfl zm_yX11_denial zw_15_0 zc_0 (by decide) zs_1 (q := (RX11, TX11, 17)) rfl rfl (zc_X11_denial _ _ s2 hI5 4 ⟨by omega, by omega⟩) rfl rfl (Nat.le_of_ble_eq_true rfl) (by decide) (fun r11 s12 hr13 hp14 => ?_)
    obtain ⟨hI15, hF16, q17, q18⟩ := hp14
    have hF19 := zFE_tr hF9 hF16
    refine zt_ifeq (pc' := 22) (tgt := 26) hX dX11_undo_19 rfl (by decide) ⟨by omega, by omega⟩ (fun c20 => ?_) (fun c20 => ?_)
    · refine zt_iconst (pc' := 27) hX dX11_undo_26 rfl ?_
      exact zt_zret hX hR dX11_undo_27 ⟨by omega, by omega⟩ ⟨hI15, hF19, by omega, by omega⟩
    · exact absurd c20 (by omega)

set_option maxRecDepth 100000 in
set_option maxHeartbeats 4000000 in
theorem zc_X11_seed (l : Launch) (E : zEN) (σ : zSto) (hI : zInv σ) (a1_ : Int) (ha1_ : -2147483648 ≤ a1_ ∧ a1_ ≤ 2147483647) : zCt l E yX11_seed cX11_seed 2 (some .boolean) 1 zNC zNC 0 0 σ [.ref (E.1 + 0), .int (zI a1_)] (fun r σ' => zInv σ' ∧ zFE σ σ' ∧ 0 ≤ r ∧ r ≤ 1 ∧ ((a1_ < 0 → r = 0) ∧ (0 ≤ a1_ → r = 1))) := by
  refine zCt_of2 [some (.ref (E.1 + 0)), some (.int (zI a1_))] (by decide +kernel) (Nat.le_of_ble_eq_true rfl) rfl ?_
  intro X hE hX hR hL hN
  subst hE
  have hX : zok X cX11_seed RX11 1 := hX
  have hF := zFE_rf σ
  refine zt_iload_n (pc' := 1) hX dX11_seed_0 rfl rfl ?_
  refine zt_ifge (pc' := 4) (tgt := 10) hX dX11_seed_1 rfl (by decide) ⟨by omega, by omega⟩ (fun c1 => ?_) (fun c1 => ?_)
  · refine zt_aload_n (pc' := 11) hX dX11_seed_10 rfl rfl ?_
    refine zt_iload_n (pc' := 12) hX dX11_seed_11 rfl rfl ?_
    refine zt_put (pc' := 15) (x := a1_) hX dX11_seed_12 rfl zf_X11_100 (by decide) zc_0 zs_1 (fun q hq => by cases hq; rfl) rfl rfl rfl ?_
    generalize hs3 : zset σ 0 14 a1_ = s2
    have hI4 : zInv s2 := hs3 ▸ zp_1_14 hI zc_0 ⟨by omega, by omega⟩
    have hF5 : zFE σ s2 := hs3 ▸ zFE_set hF zc_0 (by decide) zke_1 (Or.inr (by decide)) (Or.inl (by decide))
    refine zt_iconst (pc' := 16) hX dX11_seed_15 rfl ?_
    exact zt_zret hX hR dX11_seed_16 ⟨by omega, by omega⟩ ⟨hI4, hF5, by omega, by omega, by omega⟩
  · refine zt_aload_n (pc' := 5) hX dX11_seed_4 rfl rfl ?_
    refine zt_iconst (pc' := 6) hX dX11_seed_5 rfl ?_
    refine zt_cVz (pc' := 9) hX dX11_seed_6 rfl zm_yX11_denial zw_15_0 zc_0 (by decide) zs_1 (q := (RX11, TX11, 17)) rfl rfl (zc_X11_denial _ _ σ hI 5 ⟨by omega, by omega⟩) rfl rfl (Nat.le_of_ble_eq_true rfl) (by decide) (fun r6 s7 hr8 hp9 => ?_)
    obtain ⟨hI10, hF11, q12, q13⟩ := hp9
    have hF14 := zFE_tr hF hF11
    exact zt_zret hX hR dX11_seed_9 ⟨by omega, by omega⟩ ⟨hI10, hF14, by omega, by omega, by omega⟩

set_option maxRecDepth 100000 in
set_option maxHeartbeats 4000000 in
theorem zc_X11_image (l : Launch) (E : zEN) (σ : zSto) (hI : zInv σ)  : zCt l E yX11_image cX11_image 2 (some .int) 2 zNC zNC 0 0 σ [.ref (E.1 + 0)] (fun r σ' => zInv σ' ∧ zFE σ σ' ∧ -2147483648 ≤ r ∧ r ≤ 2147483647) := by
  refine zCt_of2 [some (.ref (E.1 + 0)), none] (by decide +kernel) (Nat.le_of_ble_eq_true rfl) rfl ?_
  intro X hE hX hR hL hN
  subst hE
  have hX : zok X cX11_image RX11 2 := hX
  have hF := zFE_rf σ
  refine zt_aload_n (pc' := 1) hX dX11_image_0 rfl rfl ?_
  refine zt_get (pc' := 4) (v := .ref (X.1.1 + 3)) hX dX11_image_1 rfl zf_X11_18 (by decide) zc_0 zs_1 (zrf_of (zv_1_1 hI zc_0)) ?_
  refine zt_iconst (pc' := 5) hX dX11_image_4 rfl ?_
  refine zt_put (pc' := 8) (x := 0) hX dX11_image_5 rfl zf_X11_110 (by decide) zc_3 zs_4 (fun q hq => by cases hq; rfl) rfl rfl rfl ?_
  generalize hs2 : zset σ 3 1 0 = s1
  have hI3 : zInv s1 := hs2 ▸ zp_4_1 hI zc_3 ⟨by omega, by omega⟩
  have hF4 : zFE σ s1 := hs2 ▸ zFE_set hF zc_3 (by decide) zke_4 (Or.inl (by decide)) (Or.inl (by decide))
  refine zt_aload_n (pc' := 9) hX dX11_image_8 rfl rfl ?_
  refine zt_get (pc' := 12) (v := .ref (X.1.1 + 3)) hX dX11_image_9 rfl zf_X11_18 (by decide) zc_0 zs_1 (zrf_of (zv_1_1 hI3 zc_0)) ?_
  refine zt_aload_n (pc' := 13) hX dX11_image_12 rfl rfl ?_
  refine zt_get (pc' := 16) (v := .ref (X.1.1 + 35)) hX dX11_image_13 rfl zf_X11_66 (by decide) zc_0 zs_1 (zrf_of (zv_1_8 hI3 zc_0)) ?_
  have b5 := zv_22_5 hI3 zc_35
  have e6 : s1 35 5 = σ 35 5 := by rw [← hs2]; exact zset_k (zne_r zc_35 zc_3 (by decide))
  refine zt_get (pc' := 19) (v := .int (zI (s1 35 5))) hX dX11_image_16 rfl zf_X11_150 (by decide) zc_35 zs_22 rfl ?_
  refine zt_bipush (pc' := 21) hX dX11_image_19 rfl (by decide) (by decide) ?_
  refine zt_ishr (pc' := 22) hX dX11_image_21 rfl (fun r7 zr7 lr7 ur7 => ?_)
  clear zr7
  refine zt_cVv (pc' := 25) hX dX11_image_22 rfl zm_yX9_addByte zw_67_14 zc_3 (by decide) zs_4 (q := (RX9, TX9, 2)) rfl rfl (zc_X9_addByte_2 _ _ s1 hI3 r7 ⟨by omega, by omega⟩) rfl rfl (Nat.le_of_ble_eq_true rfl) (by decide) (fun r8 s9 hr10 hp11 => ?_)
  obtain ⟨hI12, hF13, z14⟩ := hp11
  have hF15 := zFE_tr hF4 hF13
  refine zt_aload_n (pc' := 26) hX dX11_image_25 rfl rfl ?_
  refine zt_get (pc' := 29) (v := .ref (X.1.1 + 3)) hX dX11_image_26 rfl zf_X11_18 (by decide) zc_0 zs_1 (zrf_of (zv_1_1 hI12 zc_0)) ?_
  refine zt_aload_n (pc' := 30) hX dX11_image_29 rfl rfl ?_
  refine zt_get (pc' := 33) (v := .ref (X.1.1 + 35)) hX dX11_image_30 rfl zf_X11_66 (by decide) zc_0 zs_1 (zrf_of (zv_1_8 hI12 zc_0)) ?_
  have b16 := zv_22_5 hI12 zc_35
  refine zt_get (pc' := 36) (v := .int (zI (s9 35 5))) hX dX11_image_33 rfl zf_X11_150 (by decide) zc_35 zs_22 rfl ?_
  refine zt_sipush (pc' := 39) hX dX11_image_36 rfl (by decide) (by decide) ?_
  refine zt_iandm (pc' := 40) hX dX11_image_39 rfl 8 (by decide +kernel) (by decide) (fun r17 er17 lr17 ur17 => ?_)
  have ur17 : r17 ≤ 255 := by omega
  refine zt_cVv (pc' := 43) hX dX11_image_40 rfl zm_yX9_addByte zw_67_14 zc_3 (by decide) zs_4 (q := (RX9, TX9, 2)) rfl rfl (zc_X9_addByte_2 _ _ s9 hI12 r17 ⟨by omega, by omega⟩) rfl rfl (Nat.le_of_ble_eq_true rfl) (by decide) (fun r18 s19 hr20 hp21 => ?_)
  obtain ⟨hI22, hF23, z24⟩ := hp21
  have hF25 := zFE_tr hF15 hF23
  refine zt_iconst (pc' := 44) hX dX11_image_43 rfl ?_
  refine zt_istore_n (pc' := 45) (lv' := [some (.ref (X.1.1 + 0)), some (.int (zI 0))]) hX dX11_image_44 rfl hL (by decide) rfl ?_
  have L_45_31 : ∀ (N : Nat) (x26 : Int) (s29 : zSto), 0 ≤ x26 → x26 ≤ 36 → zInv s29 → zFE σ s29 → ((37 - x26).toNat) < N → zF X s29 45 [some (.ref (X.1.1 + 0)), some (.int (zI x26))] [] := by
    intro N
    induction N with
    | zero =>
      intro x26 s29 h27 h28 hI30 hF31 hm33
      exact absurd hm33 (Nat.not_lt_zero _)
    | succ N ih34 =>
      intro x26 s29 h27 h28 hI30 hF31 hm33
      refine zt_iload_n (pc' := 46) hX dX11_image_45 rfl rfl ?_
      refine zt_aload_n (pc' := 47) hX dX11_image_46 rfl rfl ?_
      obtain ⟨k35, ek36, hk37⟩ := zv_1_3 hI30 zc_0
      refine zt_get (pc' := 50) (v := .ref (X.1.1 + k35)) hX dX11_image_47 rfl zf_X11_31 (by decide) zc_0 zs_1 (zrf_of ek36) ?_
      refine zt_cVi (pc' := 53) hX dX11_image_50 rfl zm_yX3_cells zw_56_2 hk37 (by decide) zs_8 (q := (RX3, TX3, 17)) rfl rfl (zc_X3_cells _ _ s29 hI30 k35 hk37) rfl rfl (Nat.le_of_ble_eq_true rfl) (by decide) (fun r38 s39 hr40 hp41 => ?_)
      obtain ⟨rfl, q42, q43⟩ := hp41
      refine zt_icge (pc' := 56) (tgt := 85) hX dX11_image_53 rfl (by decide) ⟨by omega, by omega⟩ ⟨by omega, by omega⟩ (fun c44 => ?_) (fun c44 => ?_)
      · refine zt_iconst (pc' := 86) hX dX11_image_85 rfl ?_
        refine zt_istore_n (pc' := 87) (lv' := [some (.ref (X.1.1 + 0)), some (.int (zI 0))]) hX dX11_image_86 rfl hL (by decide) rfl ?_
        have L_87_50 : ∀ (N : Nat) (x45 : Int) (s48 : zSto), 0 ≤ x45 → x45 ≤ 10 → zInv s48 → zFE σ s48 → ((11 - x45).toNat) < N → zF X s48 87 [some (.ref (X.1.1 + 0)), some (.int (zI x45))] [] := by
          intro N
          induction N with
          | zero =>
            intro x45 s48 h46 h47 hI49 hF50 hm52
            exact absurd hm52 (Nat.not_lt_zero _)
          | succ N ih53 =>
            intro x45 s48 h46 h47 hI49 hF50 hm52
            refine zt_iload_n (pc' := 88) hX dX11_image_87 rfl rfl ?_
            refine zt_aload_n (pc' := 89) hX dX11_image_88 rfl rfl ?_
            obtain ⟨k54, ek55, hk56⟩ := zv_1_3 hI49 zc_0
            refine zt_get (pc' := 92) (v := .ref (X.1.1 + k54)) hX dX11_image_89 rfl zf_X11_31 (by decide) zc_0 zs_1 (zrf_of ek55) ?_
            have b57 := zv_8_12 hI49 hk56
            refine zt_get (pc' := 95) (v := .int (zI (s48 k54 12))) hX dX11_image_92 rfl zf_X11_147 (zro_lt hk56 (by decide)) hk56 zs_8 rfl ?_
            refine zt_icge (pc' := 98) (tgt := 170) hX dX11_image_95 rfl (by decide) ⟨by omega, by omega⟩ ⟨by omega, by omega⟩ (fun c58 => ?_) (fun c58 => ?_)
            · refine zt_aload_n (pc' := 171) hX dX11_image_170 rfl rfl ?_
              refine zt_get (pc' := 174) (v := .ref (X.1.1 + 3)) hX dX11_image_171 rfl zf_X11_18 (by decide) zc_0 zs_1 (zrf_of (zv_1_1 hI49 zc_0)) ?_
              refine zt_aload_n (pc' := 175) hX dX11_image_174 rfl rfl ?_
              refine zt_get (pc' := 178) (v := .ref (X.1.1 + 3)) hX dX11_image_175 rfl zf_X11_18 (by decide) zc_0 zs_1 (zrf_of (zv_1_1 hI49 zc_0)) ?_
              refine zt_aload_n (pc' := 179) hX dX11_image_178 rfl rfl ?_
              refine zt_get (pc' := 182) (v := .ref (X.1.1 + 3)) hX dX11_image_179 rfl zf_X11_18 (by decide) zc_0 zs_1 (zrf_of (zv_1_1 hI49 zc_0)) ?_
              have b59 := zv_4_1 hI49 zc_3
              refine zt_get (pc' := 185) (v := .int (zI (s48 3 1))) hX dX11_image_182 rfl zf_X11_110 (by decide) zc_3 zs_4 rfl ?_
              refine zt_cVi (pc' := 188) hX dX11_image_185 rfl zm_yX9_checkOf zw_67_15 zc_3 (by decide) zs_4 (q := (RX9, TX9, 2)) rfl rfl (zc_X9_checkOf_2 _ _ s48 hI49 (s48 3 1) ⟨by omega, by omega⟩) rfl rfl (Nat.le_of_ble_eq_true rfl) (by decide) (fun r60 s61 hr62 hp63 => ?_)
              obtain ⟨rfl, q64, q65⟩ := hp63
              refine zt_cVv (pc' := 191) hX dX11_image_188 rfl zm_yX9_addByte zw_67_14 zc_3 (by decide) zs_4 (q := (RX9, TX9, 2)) rfl rfl (zc_X9_addByte_2 _ _ s48 hI49 r60 ⟨by omega, by omega⟩) rfl rfl (Nat.le_of_ble_eq_true rfl) (by decide) (fun r66 s67 hr68 hp69 => ?_)
              obtain ⟨hI70, hF71, z72⟩ := hp69
              have hF73 := zFE_tr hF50 hF71
              refine zt_aload_n (pc' := 192) hX dX11_image_191 rfl rfl ?_
              refine zt_get (pc' := 195) (v := .ref (X.1.1 + 3)) hX dX11_image_192 rfl zf_X11_18 (by decide) zc_0 zs_1 (zrf_of (zv_1_1 hI70 zc_0)) ?_
              have b74 := zv_4_1 hI70 zc_3
              refine zt_get (pc' := 198) (v := .int (zI (s67 3 1))) hX dX11_image_195 rfl zf_X11_110 (by decide) zc_3 zs_4 rfl ?_
              exact zt_iret hX hR dX11_image_198 ⟨by omega, by omega⟩ ⟨hI70, hF73, by omega, by omega⟩
            · refine zt_aload_n (pc' := 99) hX dX11_image_98 rfl rfl ?_
              refine zt_get (pc' := 102) (v := .ref (X.1.1 + 3)) hX dX11_image_99 rfl zf_X11_18 (by decide) zc_0 zs_1 (zrf_of (zv_1_1 hI49 zc_0)) ?_
              refine zt_aload_n (pc' := 103) hX dX11_image_102 rfl rfl ?_
              refine zt_get (pc' := 106) (v := .ref (X.1.1 + 35)) hX dX11_image_103 rfl zf_X11_66 (by decide) zc_0 zs_1 (zrf_of (zv_1_8 hI49 zc_0)) ?_
              refine zt_get (pc' := 109) (v := .ref (X.1.1 + 36)) hX dX11_image_106 rfl zf_X11_215 (by decide) zc_35 zs_22 (zrf_of (zv_22_0 hI49 zc_35)) ?_
              refine zt_iload_n (pc' := 110) hX dX11_image_109 rfl rfl ?_
              refine zt_iald (pc' := 111) hX dX11_image_110 rfl (by decide) zc_36 zs_23 (by decide) ⟨by omega, by omega⟩ ?_
              generalize hv75 : s48 36 (x45.toNat) = v75
              have bv75 : -1 ≤ v75 ∧ v75 ≤ 255 := hv75 ▸ zv_23 hI49 zc_36 _
              refine zt_cVv (pc' := 114) hX dX11_image_111 rfl zm_yX9_addByte zw_67_14 zc_3 (by decide) zs_4 (q := (RX9, TX9, 2)) rfl rfl (zc_X9_addByte_2 _ _ s48 hI49 v75 ⟨by omega, by omega⟩) rfl rfl (Nat.le_of_ble_eq_true rfl) (by decide) (fun r76 s77 hr78 hp79 => ?_)
              obtain ⟨hI80, hF81, z82⟩ := hp79
              have hF83 := zFE_tr hF50 hF81
              refine zt_aload_n (pc' := 115) hX dX11_image_114 rfl rfl ?_
              refine zt_get (pc' := 118) (v := .ref (X.1.1 + 3)) hX dX11_image_115 rfl zf_X11_18 (by decide) zc_0 zs_1 (zrf_of (zv_1_1 hI80 zc_0)) ?_
              refine zt_aload_n (pc' := 119) hX dX11_image_118 rfl rfl ?_
              refine zt_get (pc' := 122) (v := .ref (X.1.1 + 35)) hX dX11_image_119 rfl zf_X11_66 (by decide) zc_0 zs_1 (zrf_of (zv_1_8 hI80 zc_0)) ?_
              refine zt_get (pc' := 125) (v := .ref (X.1.1 + 37)) hX dX11_image_122 rfl zf_X11_218 (by decide) zc_35 zs_22 (zrf_of (zv_22_1 hI80 zc_35)) ?_
              refine zt_iload_n (pc' := 126) hX dX11_image_125 rfl rfl ?_
              refine zt_iald (pc' := 127) hX dX11_image_126 rfl (by decide) zc_37 zs_24 (by decide) ⟨by omega, by omega⟩ ?_
              generalize hv84 : s77 37 (x45.toNat) = v84
              have bv84 : -1 ≤ v84 ∧ v84 ≤ 255 := hv84 ▸ zv_24 hI80 zc_37 _
              refine zt_cVv (pc' := 130) hX dX11_image_127 rfl zm_yX9_addByte zw_67_14 zc_3 (by decide) zs_4 (q := (RX9, TX9, 2)) rfl rfl (zc_X9_addByte_2 _ _ s77 hI80 v84 ⟨by omega, by omega⟩) rfl rfl (Nat.le_of_ble_eq_true rfl) (by decide) (fun r85 s86 hr87 hp88 => ?_)
              obtain ⟨hI89, hF90, z91⟩ := hp88
              have hF92 := zFE_tr hF83 hF90
              refine zt_aload_n (pc' := 131) hX dX11_image_130 rfl rfl ?_
              refine zt_get (pc' := 134) (v := .ref (X.1.1 + 3)) hX dX11_image_131 rfl zf_X11_18 (by decide) zc_0 zs_1 (zrf_of (zv_1_1 hI89 zc_0)) ?_
              refine zt_aload_n (pc' := 135) hX dX11_image_134 rfl rfl ?_
              refine zt_get (pc' := 138) (v := .ref (X.1.1 + 35)) hX dX11_image_135 rfl zf_X11_66 (by decide) zc_0 zs_1 (zrf_of (zv_1_8 hI89 zc_0)) ?_
              refine zt_get (pc' := 141) (v := .ref (X.1.1 + 38)) hX dX11_image_138 rfl zf_X11_224 (by decide) zc_35 zs_22 (zrf_of (zv_22_2 hI89 zc_35)) ?_
              refine zt_iload_n (pc' := 142) hX dX11_image_141 rfl rfl ?_
              refine zt_iald (pc' := 143) hX dX11_image_142 rfl (by decide) zc_38 zs_25 (by decide) ⟨by omega, by omega⟩ ?_
              generalize hv93 : s86 38 (x45.toNat) = v93
              have bv93 : -1 ≤ v93 ∧ v93 ≤ 255 := hv93 ▸ zv_25 hI89 zc_38 _
              refine zt_cVv (pc' := 146) hX dX11_image_143 rfl zm_yX9_addByte zw_67_14 zc_3 (by decide) zs_4 (q := (RX9, TX9, 2)) rfl rfl (zc_X9_addByte_2 _ _ s86 hI89 v93 ⟨by omega, by omega⟩) rfl rfl (Nat.le_of_ble_eq_true rfl) (by decide) (fun r94 s95 hr96 hp97 => ?_)
              obtain ⟨hI98, hF99, z100⟩ := hp97
              have hF101 := zFE_tr hF92 hF99
              refine zt_aload_n (pc' := 147) hX dX11_image_146 rfl rfl ?_
              refine zt_get (pc' := 150) (v := .ref (X.1.1 + 3)) hX dX11_image_147 rfl zf_X11_18 (by decide) zc_0 zs_1 (zrf_of (zv_1_1 hI98 zc_0)) ?_
              refine zt_aload_n (pc' := 151) hX dX11_image_150 rfl rfl ?_
              refine zt_get (pc' := 154) (v := .ref (X.1.1 + 35)) hX dX11_image_151 rfl zf_X11_66 (by decide) zc_0 zs_1 (zrf_of (zv_1_8 hI98 zc_0)) ?_
              have b102 := zv_22_7 hI98 zc_35
              refine zt_get (pc' := 157) (v := .int (zI (s95 35 7))) hX dX11_image_154 rfl zf_X11_171 (by decide) zc_35 zs_22 rfl ?_
              refine zt_iload_n (pc' := 158) hX dX11_image_157 rfl rfl ?_
              refine zt_ishr (pc' := 159) hX dX11_image_158 rfl (fun r103 zr103 lr103 ur103 => ?_)
              clear zr103
              refine zt_iconst (pc' := 160) hX dX11_image_159 rfl ?_
              refine zt_iandm (pc' := 161) hX dX11_image_160 rfl 1 (by decide +kernel) (by decide) (fun r104 er104 lr104 ur104 => ?_)
              have ur104 : r104 ≤ 1 := by omega
              refine zt_cVv (pc' := 164) hX dX11_image_161 rfl zm_yX9_addByte zw_67_14 zc_3 (by decide) zs_4 (q := (RX9, TX9, 2)) rfl rfl (zc_X9_addByte_2 _ _ s95 hI98 r104 ⟨by omega, by omega⟩) rfl rfl (Nat.le_of_ble_eq_true rfl) (by decide) (fun r105 s106 hr107 hp108 => ?_)
              obtain ⟨hI109, hF110, z111⟩ := hp108
              have hF112 := zFE_tr hF101 hF110
              refine zt_iinc (pc' := 167) (lv' := [some (.ref (X.1.1 + 0)), some (.int (zI (x45 + 1)))]) hX dX11_image_164 rfl rfl hL (by decide) rfl ?_
              refine zt_goto (tgt := 87) hX dX11_image_167 (by decide) ?_
              exact ih53 (x45 + 1) s106 (by omega) (by omega) hI109 (by omega) (by omega)
        exact L_87_50 _ 0 s29 (by omega) (by omega) hI30 (by omega) (Nat.lt_succ_self _)
      · refine zt_aload_n (pc' := 57) hX dX11_image_56 rfl rfl ?_
        refine zt_get (pc' := 60) (v := .ref (X.1.1 + 3)) hX dX11_image_57 rfl zf_X11_18 (by decide) zc_0 zs_1 (zrf_of (zv_1_1 hI30 zc_0)) ?_
        refine zt_aload_n (pc' := 61) hX dX11_image_60 rfl rfl ?_
        refine zt_get (pc' := 64) (v := .ref (X.1.1 + 35)) hX dX11_image_61 rfl zf_X11_66 (by decide) zc_0 zs_1 (zrf_of (zv_1_8 hI30 zc_0)) ?_
        refine zt_iload_n (pc' := 65) hX dX11_image_64 rfl rfl ?_
        refine zt_cVz (pc' := 68) hX dX11_image_65 rfl zm_yX10_isCracked zw_42_7 zc_35 (by decide) zs_22 (q := (RX10, TX10, 8)) rfl rfl (zc_X10_isCracked _ _ s29 hI30 35 zc_35 x26 ⟨by omega, by omega⟩) rfl rfl (Nat.le_of_ble_eq_true rfl) (by decide) (fun r113 s114 hr115 hp116 => ?_)
        obtain ⟨rfl, q117, q118⟩ := hp116
        have J_76_121 : ∀ (y119 : Int), 0 ≤ y119 → y119 ≤ 1 → zF X s29 76 [some (.ref (X.1.1 + 0)), some (.int (zI x26))] [.int (zI y119), .ref (X.1.1 + 3)] := by
          intro y119 h120 h121
          refine zt_cVv (pc' := 79) hX dX11_image_76 rfl zm_yX9_addByte zw_67_14 zc_3 (by decide) zs_4 (q := (RX9, TX9, 2)) rfl rfl (zc_X9_addByte_2 _ _ s29 hI30 y119 ⟨by omega, by omega⟩) rfl rfl (Nat.le_of_ble_eq_true rfl) (by decide) (fun r123 s124 hr125 hp126 => ?_)
          obtain ⟨hI127, hF128, z129⟩ := hp126
          have hF130 := zFE_tr hF31 hF128
          refine zt_iinc (pc' := 82) (lv' := [some (.ref (X.1.1 + 0)), some (.int (zI (x26 + 1)))]) hX dX11_image_79 rfl rfl hL (by decide) rfl ?_
          refine zt_goto (tgt := 45) hX dX11_image_82 (by decide) ?_
          exact ih34 (x26 + 1) s124 (by omega) (by omega) hI127 (by omega) (by omega)
        refine zt_ifeq (pc' := 71) (tgt := 75) hX dX11_image_68 rfl (by decide) ⟨by omega, by omega⟩ (fun c131 => ?_) (fun c131 => ?_)
        · refine zt_iconst (pc' := 76) hX dX11_image_75 rfl ?_
          exact J_76_121 0 (by omega) (by omega)
        · refine zt_iconst (pc' := 72) hX dX11_image_71 rfl ?_
          refine zt_goto (tgt := 76) hX dX11_image_72 (by decide) ?_
          exact J_76_121 1 (by omega) (by omega)
  exact L_45_31 _ 0 s19 (by omega) (by omega) hI22 (by omega) (Nat.lt_succ_self _)

set_option maxRecDepth 100000 in
set_option maxHeartbeats 4000000 in
theorem zc_X11_octet (l : Launch) (E : zEN) (σ : zSto) (hI : zInv σ) (a1_ : Int) (ha1_ : -2147483648 ≤ a1_ ∧ a1_ ≤ 2147483647) : zCt l E yX11_octet cX11_octet 2 (some .int) 1 zNC zNC 0 0 σ [.ref (E.1 + 0), .int (zI a1_)] (fun r σ' => σ = σ' ∧ -2147483648 ≤ r ∧ r ≤ 2147483647) := by
  refine zCt_of2 [some (.ref (E.1 + 0)), some (.int (zI a1_))] (by decide +kernel) (Nat.le_of_ble_eq_true rfl) rfl ?_
  intro X hE hX hR hL hN
  subst hE
  have hX : zok X cX11_octet RX11 1 := hX
  refine zt_aload_n (pc' := 1) hX dX11_octet_0 rfl rfl ?_
  refine zt_get (pc' := 4) (v := .ref (X.1.1 + 3)) hX dX11_octet_1 rfl zf_X11_18 (by decide) zc_0 zs_1 (zrf_of (zv_1_1 hI zc_0)) ?_
  refine zt_iload_n (pc' := 5) hX dX11_octet_4 rfl rfl ?_
  refine zt_cVi (pc' := 8) hX dX11_octet_5 rfl zm_yX9_byteAt zw_68_11 zc_3 (by decide) zs_4 (q := (RX9, TX9, 2)) rfl rfl (zc_X9_byteAt_2 _ _ σ hI a1_ ⟨by omega, by omega⟩) rfl rfl (Nat.le_of_ble_eq_true rfl) (by decide) (fun r1 s2 hr3 hp4 => ?_)
  obtain ⟨rfl, q5, q6⟩ := hp4
  exact zt_iret hX hR dX11_octet_8 ⟨by omega, by omega⟩ ⟨rfl, by omega, by omega⟩

set_option maxRecDepth 100000 in
set_option maxHeartbeats 4000000 in
theorem zc_X11_status (l : Launch) (E : zEN) (σ : zSto) (hI : zInv σ) (a1_ : Int) (ha1_ : -2147483648 ≤ a1_ ∧ a1_ ≤ 2147483647) : zCt l E yX11_status cX11_status 2 (some .int) 0 zNC zNC 0 0 σ [.ref (E.1 + 0), .int (zI a1_)] (fun r σ' => σ = σ' ∧ -2147483648 ≤ r ∧ r ≤ 2147483647) := by
  refine zCt_of2 [some (.ref (E.1 + 0)), some (.int (zI a1_))] (by decide +kernel) (Nat.le_of_ble_eq_true rfl) rfl ?_
  intro X hE hX hR hL hN
  subst hE
  have hX : zok X cX11_status RX11 0 := hX
  refine zt_iload_n (pc' := 1) hX dX11_status_0 rfl rfl ?_
  refine zt_iflt (pc' := 4) (tgt := 19) hX dX11_status_1 rfl (by decide) ⟨by omega, by omega⟩ (fun c1 => ?_) (fun c1 => ?_)
  · refine zt_iconst (pc' := 20) hX dX11_status_19 rfl ?_
    exact zt_iret hX hR dX11_status_20 ⟨by omega, by omega⟩ ⟨rfl, by omega, by omega⟩
  · refine zt_iload_n (pc' := 5) hX dX11_status_4 rfl rfl ?_
    refine zt_bipush (pc' := 7) hX dX11_status_5 rfl (by decide) (by decide) ?_
    refine zt_icge (pc' := 10) (tgt := 19) hX dX11_status_7 rfl (by decide) ⟨by omega, by omega⟩ ⟨by omega, by omega⟩ (fun c2 => ?_) (fun c2 => ?_)
    · refine zt_iconst (pc' := 20) hX dX11_status_19 rfl ?_
      exact zt_iret hX hR dX11_status_20 ⟨by omega, by omega⟩ ⟨rfl, by omega, by omega⟩
    · refine zt_aload_n (pc' := 11) hX dX11_status_10 rfl rfl ?_
      refine zt_get (pc' := 14) (v := .ref (X.1.1 + 163)) hX dX11_status_11 rfl zf_X11_96 (by decide) zc_0 zs_1 (zrf_of (zv_1_13 hI zc_0)) ?_
      refine zt_iload_n (pc' := 15) hX dX11_status_14 rfl rfl ?_
      refine zt_iald (pc' := 16) hX dX11_status_15 rfl (by decide) zc_163 zs_45 (by decide) ⟨by omega, by omega⟩ ?_
      generalize hv3 : σ 163 (a1_.toNat) = v3
      have bv3 : -2147483648 ≤ v3 ∧ v3 ≤ 2147483647 := hv3 ▸ zv_45 hI zc_163 _
      refine zt_goto (tgt := 20) hX dX11_status_16 (by decide) ?_
      exact zt_iret hX hR dX11_status_20 ⟨by omega, by omega⟩ ⟨rfl, by omega, by omega⟩

set_option maxRecDepth 100000 in
set_option maxHeartbeats 4000000 in
theorem zc_X11_feed (l : Launch) (E : zEN) (σ : zSto) (hI : zInv σ) (a1_ : Int) (ha1_ : -2147483648 ≤ a1_ ∧ a1_ ≤ 2147483647) (a2_ : Int) (ha2_ : -2147483648 ≤ a2_ ∧ a2_ ≤ 2147483647) (a3_ : Int) (ha3_ : -2147483648 ≤ a3_ ∧ a3_ ≤ 2147483647) (a4_ : Int) (ha4_ : -2147483648 ≤ a4_ ∧ a4_ ≤ 2147483647) (a5_ : Int) (ha5_ : -2147483648 ≤ a5_ ∧ a5_ ≤ 2147483647) : zCt l E yX11_feed cX11_feed 6 (some .int) 2 zNC zNC 0 0 σ [.ref (E.1 + 0), .int (zI a1_), .int (zI a2_), .int (zI a3_), .int (zI a4_), .int (zI a5_)] (fun r σ' => zInv σ' ∧ zFC σ σ' ∧ -1 ≤ r ∧ r ≤ 1600 ∧ ((σ 1 1 > 1580 → r = -1 ∧ σ' 1 1 = σ 1 1) ∧ (σ 1 1 ≤ 1580 → r = σ 1 1 + 20 ∧ σ' 1 1 = σ 1 1 + 20))) := by
  refine zCt_of2 [some (.ref (E.1 + 0)), some (.int (zI a1_)), some (.int (zI a2_)), some (.int (zI a3_)), some (.int (zI a4_)), some (.int (zI a5_))] (by decide +kernel) (Nat.le_of_ble_eq_true rfl) rfl ?_
  intro X hE hX hR hL hN
  subst hE
  have hX : zok X cX11_feed RX11 2 := hX
  have hF := zFC_rf σ
  have b1 := zv_2_1 hI zc_1
  refine zt_aload_n (pc' := 1) hX dX11_feed_0 rfl rfl ?_
  refine zt_get (pc' := 4) (v := .ref (X.1.1 + 1)) hX dX11_feed_1 rfl zf_X11_14 (by decide) zc_0 zs_1 (zrf_of (zv_1_0 hI zc_0)) ?_
  have b2 := zv_2_1 hI zc_1
  refine zt_get (pc' := 7) (v := .int (zI (σ 1 1))) hX dX11_feed_4 rfl zf_X11_110 (by decide) zc_1 zs_2 rfl ?_
  refine zt_bipush (pc' := 9) hX dX11_feed_7 rfl (by decide) (by decide) ?_
  refine zt_iadd (pc' := 10) hX dX11_feed_9 rfl ?_
  refine zt_sipush (pc' := 13) hX dX11_feed_10 rfl (by decide) (by decide) ?_
  refine zt_icle (pc' := 16) (tgt := 22) hX dX11_feed_13 rfl (by decide) ⟨by omega, by omega⟩ ⟨by omega, by omega⟩ (fun c3 => ?_) (fun c3 => ?_)
  · refine zt_aload_n (pc' := 23) hX dX11_feed_22 rfl rfl ?_
    refine zt_get (pc' := 26) (v := .ref (X.1.1 + 1)) hX dX11_feed_23 rfl zf_X11_14 (by decide) zc_0 zs_1 (zrf_of (zv_1_0 hI zc_0)) ?_
    refine zt_iload_n (pc' := 27) hX dX11_feed_26 rfl rfl ?_
    refine zt_cVv (pc' := 30) hX dX11_feed_27 rfl zm_yX9_addNumber zw_14_7 zc_1 (by decide) zs_2 (q := (RX9, TX9, 2)) rfl rfl (zc_X9_addNumber_1 _ _ σ hI a1_ ⟨by omega, by omega⟩) rfl rfl (Nat.le_of_ble_eq_true rfl) (by decide) (fun r4 s5 hr6 hp7 => ?_)
    obtain ⟨hI8, hF9, z10⟩ := hp7
    have hF11 := zFC_tr hF hF9
    have b12 := zv_2_1 hI8 zc_1
    refine zt_aload_n (pc' := 31) hX dX11_feed_30 rfl rfl ?_
    refine zt_get (pc' := 34) (v := .ref (X.1.1 + 1)) hX dX11_feed_31 rfl zf_X11_14 (by decide) zc_0 zs_1 (zrf_of (zv_1_0 hI8 zc_0)) ?_
    refine zt_iload_n (pc' := 35) hX dX11_feed_34 rfl rfl ?_
    refine zt_cVv (pc' := 38) hX dX11_feed_35 rfl zm_yX9_addNumber zw_14_7 zc_1 (by decide) zs_2 (q := (RX9, TX9, 2)) rfl rfl (zc_X9_addNumber_1 _ _ s5 hI8 a2_ ⟨by omega, by omega⟩) rfl rfl (Nat.le_of_ble_eq_true rfl) (by decide) (fun r13 s14 hr15 hp16 => ?_)
    obtain ⟨hI17, hF18, z19⟩ := hp16
    have hF20 := zFC_tr hF11 hF18
    have b21 := zv_2_1 hI17 zc_1
    refine zt_aload_n (pc' := 39) hX dX11_feed_38 rfl rfl ?_
    refine zt_get (pc' := 42) (v := .ref (X.1.1 + 1)) hX dX11_feed_39 rfl zf_X11_14 (by decide) zc_0 zs_1 (zrf_of (zv_1_0 hI17 zc_0)) ?_
    refine zt_iload_n (pc' := 43) hX dX11_feed_42 rfl rfl ?_
    refine zt_cVv (pc' := 46) hX dX11_feed_43 rfl zm_yX9_addNumber zw_14_7 zc_1 (by decide) zs_2 (q := (RX9, TX9, 2)) rfl rfl (zc_X9_addNumber_1 _ _ s14 hI17 a3_ ⟨by omega, by omega⟩) rfl rfl (Nat.le_of_ble_eq_true rfl) (by decide) (fun r22 s23 hr24 hp25 => ?_)
    obtain ⟨hI26, hF27, z28⟩ := hp25
    have hF29 := zFC_tr hF20 hF27
    have b30 := zv_2_1 hI26 zc_1
    refine zt_aload_n (pc' := 47) hX dX11_feed_46 rfl rfl ?_
    refine zt_get (pc' := 50) (v := .ref (X.1.1 + 1)) hX dX11_feed_47 rfl zf_X11_14 (by decide) zc_0 zs_1 (zrf_of (zv_1_0 hI26 zc_0)) ?_
    refine zt_iload (pc' := 52) hX dX11_feed_50 rfl rfl ?_
    refine zt_cVv (pc' := 55) hX dX11_feed_52 rfl zm_yX9_addNumber zw_14_7 zc_1 (by decide) zs_2 (q := (RX9, TX9, 2)) rfl rfl (zc_X9_addNumber_1 _ _ s23 hI26 a4_ ⟨by omega, by omega⟩) rfl rfl (Nat.le_of_ble_eq_true rfl) (by decide) (fun r31 s32 hr33 hp34 => ?_)
    obtain ⟨hI35, hF36, z37⟩ := hp34
    have hF38 := zFC_tr hF29 hF36
    have b39 := zv_2_1 hI35 zc_1
    refine zt_aload_n (pc' := 56) hX dX11_feed_55 rfl rfl ?_
    refine zt_get (pc' := 59) (v := .ref (X.1.1 + 1)) hX dX11_feed_56 rfl zf_X11_14 (by decide) zc_0 zs_1 (zrf_of (zv_1_0 hI35 zc_0)) ?_
    refine zt_iload (pc' := 61) hX dX11_feed_59 rfl rfl ?_
    refine zt_cVv (pc' := 64) hX dX11_feed_61 rfl zm_yX9_addNumber zw_14_7 zc_1 (by decide) zs_2 (q := (RX9, TX9, 2)) rfl rfl (zc_X9_addNumber_1 _ _ s32 hI35 a5_ ⟨by omega, by omega⟩) rfl rfl (Nat.le_of_ble_eq_true rfl) (by decide) (fun r40 s41 hr42 hp43 => ?_)
    obtain ⟨hI44, hF45, z46⟩ := hp43
    have hF47 := zFC_tr hF38 hF45
    have b48 := zv_2_1 hI44 zc_1
    refine zt_aload_n (pc' := 65) hX dX11_feed_64 rfl rfl ?_
    refine zt_get (pc' := 68) (v := .ref (X.1.1 + 1)) hX dX11_feed_65 rfl zf_X11_14 (by decide) zc_0 zs_1 (zrf_of (zv_1_0 hI44 zc_0)) ?_
    have b49 := zv_2_1 hI44 zc_1
    refine zt_get (pc' := 71) (v := .int (zI (s41 1 1))) hX dX11_feed_68 rfl zf_X11_110 (by decide) zc_1 zs_2 rfl ?_
    exact zt_iret hX hR dX11_feed_71 ⟨by omega, by omega⟩ ⟨hI44, hF47, by omega, by omega, by omega⟩
  · refine zt_aload_n (pc' := 17) hX dX11_feed_16 rfl rfl ?_
    refine zt_iconst (pc' := 18) hX dX11_feed_17 rfl ?_
    refine zt_cVi (pc' := 21) hX dX11_feed_18 rfl zm_yX11_refusal zw_14_3 zc_0 (by decide) zs_1 (q := (RX11, TX11, 17)) rfl rfl (zc_X11_refusal _ _ σ hI 0 ⟨by omega, by omega⟩) rfl rfl (Nat.le_of_ble_eq_true rfl) (by decide) (fun r50 s51 hr52 hp53 => ?_)
    obtain ⟨hI54, hF55, q56, q57⟩ := hp53
    have e58 := hF55.2
    have hF59 := zFC_tr hF (zFC_E hF55)
    have b60 := zv_2_1 hI54 zc_1
    exact zt_iret hX hR dX11_feed_21 ⟨by omega, by omega⟩ ⟨hI54, hF59, by omega, by omega, by omega⟩

set_option maxRecDepth 100000 in
set_option maxHeartbeats 4000000 in
theorem zc_X11_end (l : Launch) (E : zEN) (σ : zSto) (hI : zInv σ) (a1_ : Int) (ha1_ : -2147483648 ≤ a1_ ∧ a1_ ≤ 2147483647) : zCt l E yX11_end cX11_end 2 (some .boolean) 1 zNC zNC 0 0 σ [.ref (E.1 + 0), .int (zI a1_)] (fun r σ' => zInv σ' ∧ zFD σ σ' ∧ 0 ≤ r ∧ r ≤ 1 ∧ ((0 ≤ a1_ ∧ a1_ ≤ σ 1 1 → r = 1 ∧ σ' 1 1 = a1_) ∧ (¬ (0 ≤ a1_ ∧ a1_ ≤ σ 1 1) → r = 0 ∧ σ' 1 1 = σ 1 1))) := by
  refine zCt_of2 [some (.ref (E.1 + 0)), some (.int (zI a1_))] (by decide +kernel) (Nat.le_of_ble_eq_true rfl) rfl ?_
  intro X hE hX hR hL hN
  subst hE
  have hX : zok X cX11_end RX11 1 := hX
  have hF := zFD_rf σ
  have b1 := zv_2_1 hI zc_1
  refine zt_iload_n (pc' := 1) hX dX11_end_0 rfl rfl ?_
  have J_15_2 : (¬ (0 ≤ a1_ ∧ a1_ ≤ σ 1 1)) → zF X σ 15 [some (.ref (X.1.1 + 0)), none] [] := by
    intro g2
    refine zt_aload_n (pc' := 16) hX dX11_end_15 rfl rfl ?_
    refine zt_iconst (pc' := 17) hX dX11_end_16 rfl ?_
    refine zt_cVz (pc' := 20) hX dX11_end_17 rfl zm_yX11_denial zw_15_0 zc_0 (by decide) zs_1 (q := (RX11, TX11, 17)) rfl rfl (zc_X11_denial _ _ σ hI 0 ⟨by omega, by omega⟩) rfl rfl (Nat.le_of_ble_eq_true rfl) (by decide) (fun r4 s5 hr6 hp7 => ?_)
    obtain ⟨hI8, hF9, q10, q11⟩ := hp7
    have e12 := hF9.2
    have hF13 := zFD_tr hF (zFD_of hF9)
    have b14 := zv_2_1 hI8 zc_1
    exact zt_zret hX hR dX11_end_20 ⟨by omega, by omega⟩ ⟨hI8, hF13, by omega, by omega, by omega⟩
  refine zt_iflt (pc' := 4) (tgt := 15) hX dX11_end_1 rfl (by decide) ⟨by omega, by omega⟩ (fun c15 => ?_) (fun c15 => ?_)
  · refine zt_mask [true, false] rfl ?_
    exact J_15_2 (by omega)
  · refine zt_iload_n (pc' := 5) hX dX11_end_4 rfl rfl ?_
    refine zt_aload_n (pc' := 6) hX dX11_end_5 rfl rfl ?_
    refine zt_get (pc' := 9) (v := .ref (X.1.1 + 1)) hX dX11_end_6 rfl zf_X11_14 (by decide) zc_0 zs_1 (zrf_of (zv_1_0 hI zc_0)) ?_
    have b16 := zv_2_1 hI zc_1
    refine zt_get (pc' := 12) (v := .int (zI (σ 1 1))) hX dX11_end_9 rfl zf_X11_110 (by decide) zc_1 zs_2 rfl ?_
    refine zt_icle (pc' := 15) (tgt := 21) hX dX11_end_12 rfl (by decide) ⟨by omega, by omega⟩ ⟨by omega, by omega⟩ (fun c17 => ?_) (fun c17 => ?_)
    · refine zt_aload_n (pc' := 22) hX dX11_end_21 rfl rfl ?_
      refine zt_get (pc' := 25) (v := .ref (X.1.1 + 1)) hX dX11_end_22 rfl zf_X11_14 (by decide) zc_0 zs_1 (zrf_of (zv_1_0 hI zc_0)) ?_
      refine zt_iload_n (pc' := 26) hX dX11_end_25 rfl rfl ?_
      refine zt_put (pc' := 29) (x := a1_) hX dX11_end_26 rfl zf_X11_110 (by decide) zc_1 zs_2 (fun q hq => by cases hq; rfl) rfl rfl rfl ?_
      generalize hs19 : zset σ 1 1 a1_ = s18
      have hI20 : zInv s18 := hs19 ▸ zp_2_1 hI zc_1 ⟨by omega, by omega⟩
      have hF21 : zFD σ s18 := hs19 ▸ zFD_set hF zc_1 (by decide) zke_2 (Or.inl (by decide))
      have e22 : s18 1 1 = a1_ := by rw [← hs19]; exact zset_s
      refine zt_iconst (pc' := 30) hX dX11_end_29 rfl ?_
      exact zt_zret hX hR dX11_end_30 ⟨by omega, by omega⟩ ⟨hI20, hF21, by omega, by omega, by omega⟩
    · refine zt_mask [true, false] rfl ?_
      exact J_15_2 (by omega)

set_option maxRecDepth 100000 in
set_option maxHeartbeats 4000000 in
theorem zc_X11_pane (l : Launch) (E : zEN) (σ : zSto) (hI : zInv σ)  : zCt l E yX11_pane cX11_pane 3 (some .int) 38 zNC zNC 0 0 σ [.ref (E.1 + 0)] (fun r σ' => zInv σ' ∧ zFB σ σ' ∧ -1 ≤ r ∧ r ≤ 80 ∧ (σ' 1 1 = 0)) := by
  refine zCt_of2 [some (.ref (E.1 + 0)), none, none] (by decide +kernel) (Nat.le_of_ble_eq_true rfl) rfl ?_
  intro X hE hX hR hL hN
  subst hE
  have hX : zok X cX11_pane RX11 38 := hX
  have hF := zFB_rf σ
  have b1 := zv_2_1 hI zc_1
  refine zt_aload_n (pc' := 1) hX dX11_pane_0 rfl rfl ?_
  refine zt_get (pc' := 4) (v := .ref (X.1.1 + 34)) hX dX11_pane_1 rfl zf_X11_59 (by decide) zc_0 zs_1 (zrf_of (zv_1_7 hI zc_0)) ?_
  refine zt_aload_n (pc' := 5) hX dX11_pane_4 rfl rfl ?_
  obtain ⟨k2, ek3, hk4⟩ := zv_1_4 hI zc_0
  refine zt_get (pc' := 8) (v := .ref (X.1.1 + k2)) hX dX11_pane_5 rfl zf_X11_35 (by decide) zc_0 zs_1 (zrf_of ek3) ?_
  refine zt_aload_n (pc' := 9) hX dX11_pane_8 rfl rfl ?_
  refine zt_get (pc' := 12) (v := .ref (X.1.1 + 1)) hX dX11_pane_9 rfl zf_X11_14 (by decide) zc_0 zs_1 (zrf_of (zv_1_0 hI zc_0)) ?_
  refine zt_cVi (pc' := 15) hX dX11_pane_12 rfl zm_yX8_readInto zw_15_14 zc_34 (by decide) zs_21 (q := (RX8, TX8, 3)) rfl rfl (zc_X8_readInto _ _ σ hI k2 hk4) rfl rfl (Nat.le_of_ble_eq_true rfl) (by decide) (fun r5 s6 hr7 hp8 => ?_)
  obtain ⟨hI9, hF10, q11, q12⟩ := hp8
  have e13 := hF10.2
  have hF14 := zFB_tr hF (zFB_of hF10)
  have b15 := zv_2_1 hI9 zc_1
  refine zt_istore_n (pc' := 16) (lv' := [some (.ref (X.1.1 + 0)), some (.int (zI r5)), none]) hX dX11_pane_15 rfl hL (by decide) rfl ?_
  refine zt_aload_n (pc' := 17) hX dX11_pane_16 rfl rfl ?_
  refine zt_get (pc' := 20) (v := .ref (X.1.1 + 1)) hX dX11_pane_17 rfl zf_X11_14 (by decide) zc_0 zs_1 (zrf_of (zv_1_0 hI9 zc_0)) ?_
  refine zt_iconst (pc' := 21) hX dX11_pane_20 rfl ?_
  refine zt_put (pc' := 24) (x := 0) hX dX11_pane_21 rfl zf_X11_110 (by decide) zc_1 zs_2 (fun q hq => by cases hq; rfl) rfl rfl rfl ?_
  generalize hs17 : zset s6 1 1 0 = s16
  have hI18 : zInv s16 := hs17 ▸ zp_2_1 hI9 zc_1 ⟨by omega, by omega⟩
  have hF19 : zFB σ s16 := hs17 ▸ zFB_set hF14 zc_1 (by decide) zk_2
  have e20 : s16 1 1 = 0 := by rw [← hs17]; exact zset_s
  refine zt_aload_n (pc' := 25) hX dX11_pane_24 rfl rfl ?_
  refine zt_cVv (pc' := 28) hX dX11_pane_25 rfl zm_yX11_rememberFault zw_24_19 zc_0 (by decide) zs_1 (q := (RX11, TX11, 17)) rfl rfl (zc_X11_rememberFault _ _ s16 hI18 ) rfl rfl (Nat.le_of_ble_eq_true rfl) (by decide) (fun r21 s22 hr23 hp24 => ?_)
  obtain ⟨hI25, hF26⟩ := hp24
  have e27 := hF26.2
  have hF28 := zFB_tr hF19 (zFB_of hF26)
  have b29 := zv_2_1 hI25 zc_1
  refine zt_aload_n (pc' := 29) hX dX11_pane_28 rfl rfl ?_
  have b30 := zv_1_15 hI25 zc_0
  refine zt_get (pc' := 32) (v := .int (zI (s22 0 15))) hX dX11_pane_29 rfl zf_X11_104 (by decide) zc_0 zs_1 rfl ?_
  refine zt_ifeq (pc' := 35) (tgt := 41) hX dX11_pane_32 rfl (by decide) ⟨by omega, by omega⟩ (fun c31 => ?_) (fun c31 => ?_)
  · refine zt_aload_n (pc' := 42) hX dX11_pane_41 rfl rfl ?_
    obtain ⟨k32, ek33, hk34⟩ := zv_1_3 hI25 zc_0
    refine zt_get (pc' := 45) (v := .ref (X.1.1 + k32)) hX dX11_pane_42 rfl zf_X11_31 (by decide) zc_0 zs_1 (zrf_of ek33) ?_
    refine zt_astore_n (pc' := 46) (lv' := [some (.ref (X.1.1 + 0)), some (.int (zI r5)), some (.ref (X.1.1 + k32))]) hX dX11_pane_45 rfl hL (by decide) rfl ?_
    refine zt_aload_n (pc' := 47) hX dX11_pane_46 rfl rfl ?_
    refine zt_aload_n (pc' := 48) hX dX11_pane_47 rfl rfl ?_
    obtain ⟨k35, ek36, hk37⟩ := zv_1_4 hI25 zc_0
    refine zt_get (pc' := 51) (v := .ref (X.1.1 + k35)) hX dX11_pane_48 rfl zf_X11_35 (by decide) zc_0 zs_1 (zrf_of ek36) ?_
    refine zt_put (pc' := 54) (x := ((k35 : Nat) : Int)) hX dX11_pane_51 rfl zf_X11_31 (by decide) zc_0 zs_1 (fun q hq => by cases hq; rfl) (zrf_of rfl) rfl rfl ?_
    generalize hs39 : zset s22 0 3 ((k35 : Nat) : Int) = s38
    have hI40 : zInv s38 := hs39 ▸ zp_1_3 hI25 zc_0 ⟨k35, rfl, hk37⟩
    have hF41 : zFB σ s38 := hs39 ▸ zFB_set hF28 zc_0 (by decide) zk_1
    have e42 : s38 1 1 = s22 1 1 := by rw [← hs39]; exact zset_k (zne_r zc_1 zc_0 (by decide))
    have ek43 : s38 0 3 = ((k35 : Nat) : Int) := by rw [← hs39]; exact zset_s
    refine zt_aload_n (pc' := 55) hX dX11_pane_54 rfl rfl ?_
    refine zt_aload_n (pc' := 56) hX dX11_pane_55 rfl rfl ?_
    refine zt_put (pc' := 59) (x := ((k32 : Nat) : Int)) hX dX11_pane_56 rfl zf_X11_35 (by decide) zc_0 zs_1 (fun q hq => by cases hq; rfl) (zrf_of rfl) rfl rfl ?_
    generalize hs45 : zset s38 0 4 ((k32 : Nat) : Int) = s44
    have hI46 : zInv s44 := hs45 ▸ zp_1_4 hI40 zc_0 ⟨k32, rfl, hk34⟩
    have hF47 : zFB σ s44 := hs45 ▸ zFB_set hF41 zc_0 (by decide) zk_1
    have e48 : s44 1 1 = s38 1 1 := by rw [← hs45]; exact zset_k (zne_r zc_1 zc_0 (by decide))
    have ek49 : s44 0 4 = ((k32 : Nat) : Int) := by rw [← hs45]; exact zset_s
    refine zt_aload_n (pc' := 60) hX dX11_pane_59 rfl rfl ?_
    refine zt_get (pc' := 63) (v := .ref (X.1.1 + 35)) hX dX11_pane_60 rfl zf_X11_66 (by decide) zc_0 zs_1 (zrf_of (zv_1_8 hI46 zc_0)) ?_
    refine zt_aload_n (pc' := 64) hX dX11_pane_63 rfl rfl ?_
    have e53 : s44 0 3 = s38 0 3 := by rw [← hs45]; exact zset_j (by decide)
    have e54 : s38 0 3 = ((k35 : Nat) : Int) := by rw [← hs39]; exact zset_s
    have ek51 : s44 0 3 = ((k35 : Nat) : Int) := by omega
    refine zt_get (pc' := 67) (v := .ref (X.1.1 + k35)) hX dX11_pane_64 rfl zf_X11_31 (by decide) zc_0 zs_1 (zrf_of ek51) ?_
    refine zt_cVv (pc' := 70) hX dX11_pane_67 rfl zm_yX10_begin zw_25_1 zc_35 (by decide) zs_22 (q := (RX10, TX10, 8)) rfl rfl (zc_X10_begin _ _ s44 hI46 35 zc_35 k35 hk37) rfl rfl (Nat.le_of_ble_eq_true rfl) (by decide) (fun r55 s56 hr57 hp58 => ?_)
    obtain ⟨hI59, hF60⟩ := hp58
    have e61 := hF60.2
    have hF62 := zFB_tr hF47 (zFB_E hF60)
    have b63 := zv_2_1 hI59 zc_1
    refine zt_aload_n (pc' := 71) hX dX11_pane_70 rfl rfl ?_
    refine zt_get (pc' := 74) (v := .ref (X.1.1 + 45)) hX dX11_pane_71 rfl zf_X11_76 (by decide) zc_0 zs_1 (zrf_of (zv_1_10 hI59 zc_0)) ?_
    refine zt_iconst (pc' := 75) hX dX11_pane_74 rfl ?_
    refine zt_put (pc' := 78) (x := 0) hX dX11_pane_75 rfl zf_X11_135 (by decide) zc_45 zs_27 (fun q hq => by cases hq; rfl) rfl rfl rfl ?_
    generalize hs65 : zset s56 45 2 0 = s64
    have hI66 : zInv s64 := hs65 ▸ zp_27_2 hI59 zc_45 ⟨by omega, by omega⟩
    have hF67 : zFB σ s64 := hs65 ▸ zFB_set hF62 zc_45 (by decide) zk_27
    have e68 : s64 1 1 = s56 1 1 := by rw [← hs65]; exact zset_k (zne_r zc_1 zc_45 (by decide))
    refine zt_aload_n (pc' := 79) hX dX11_pane_78 rfl rfl ?_
    refine zt_get (pc' := 82) (v := .ref (X.1.1 + 147)) hX dX11_pane_79 rfl zf_X11_83 (by decide) zc_0 zs_1 (zrf_of (zv_1_11 hI66 zc_0)) ?_
    refine zt_iconst (pc' := 83) hX dX11_pane_82 rfl ?_
    refine zt_put (pc' := 86) (x := 0) hX dX11_pane_83 rfl zf_X11_138 (by decide) zc_147 zs_29 (fun q hq => by cases hq; rfl) rfl rfl rfl ?_
    generalize hs70 : zset s64 147 5 0 = s69
    have hI71 : zInv s69 := hs70 ▸ zp_29_5 hI66 zc_147 ⟨by omega, by omega⟩
    have hF72 : zFB σ s69 := hs70 ▸ zFB_set hF67 zc_147 (by decide) zk_29
    have e73 : s69 1 1 = s64 1 1 := by rw [← hs70]; exact zset_k (zne_r zc_1 zc_147 (by decide))
    refine zt_iload_n (pc' := 87) hX dX11_pane_86 rfl rfl ?_
    exact zt_iret hX hR dX11_pane_87 ⟨by omega, by omega⟩ ⟨hI71, hF72, by omega, by omega, by omega⟩
  · refine zt_aload_n (pc' := 36) hX dX11_pane_35 rfl rfl ?_
    refine zt_iconst (pc' := 37) hX dX11_pane_36 rfl ?_
    refine zt_cVi (pc' := 40) hX dX11_pane_37 rfl zm_yX11_refusal zw_14_3 zc_0 (by decide) zs_1 (q := (RX11, TX11, 17)) rfl rfl (zc_X11_refusal _ _ s22 hI25 1 ⟨by omega, by omega⟩) rfl rfl (Nat.le_of_ble_eq_true rfl) (by decide) (fun r74 s75 hr76 hp77 => ?_)
    obtain ⟨hI78, hF79, q80, q81⟩ := hp77
    have e82 := hF79.2
    have hF83 := zFB_tr hF28 (zFB_E hF79)
    have b84 := zv_2_1 hI78 zc_1
    exact zt_iret hX hR dX11_pane_40 ⟨by omega, by omega⟩ ⟨hI78, hF83, by omega, by omega, by omega⟩

set_option maxRecDepth 100000 in
set_option maxHeartbeats 4000000 in
theorem zc_X11_ask (l : Launch) (E : zEN) (σ : zSto) (hI : zInv σ)  : zCt l E yX11_ask cX11_ask 3 (some .long) 36 zNC zNC 0 0 σ [.ref (E.1 + 0)] (fun r σ' => zInv σ' ∧ zFB σ σ' ∧ -9223372036854775808 ≤ r ∧ r ≤ 9223372036854775807 ∧ (σ' 1 1 = 0)) := by
  refine zCt_of2 [some (.ref (E.1 + 0)), none, none] (by decide +kernel) (Nat.le_of_ble_eq_true rfl) rfl ?_
  intro X hE hX hR hL hN
  subst hE
  have hX : zok X cX11_ask RX11 36 := hX
  have hF := zFB_rf σ
  have b1 := zv_2_1 hI zc_1
  refine zt_aload_n (pc' := 1) hX dX11_ask_0 rfl rfl ?_
  obtain ⟨k2, ek3, hk4⟩ := zv_1_3 hI zc_0
  refine zt_get (pc' := 4) (v := .ref (X.1.1 + k2)) hX dX11_ask_1 rfl zf_X11_31 (by decide) zc_0 zs_1 (zrf_of ek3) ?_
  refine zt_cVz (pc' := 7) hX dX11_ask_4 rfl zm_yX3_isTold zw_48_6 hk4 (by decide) zs_8 (q := (RX3, TX3, 17)) rfl rfl (zc_X3_isTold _ _ σ hI k2 hk4) rfl rfl (Nat.le_of_ble_eq_true rfl) (by decide) (fun r5 s6 hr7 hp8 => ?_)
  obtain ⟨rfl, q9, q10⟩ := hp8
  refine zt_ifne (pc' := 10) (tgt := 22) hX dX11_ask_7 rfl (by decide) ⟨by omega, by omega⟩ (fun c11 => ?_) (fun c11 => ?_)
  · refine zt_aload_n (pc' := 23) hX dX11_ask_22 rfl rfl ?_
    refine zt_get (pc' := 26) (v := .ref (X.1.1 + 33)) hX dX11_ask_23 rfl zf_X11_50 (by decide) zc_0 zs_1 (zrf_of (zv_1_6 hI zc_0)) ?_
    refine zt_aload_n (pc' := 27) hX dX11_ask_26 rfl rfl ?_
    refine zt_get (pc' := 30) (v := .ref (X.1.1 + 5)) hX dX11_ask_27 rfl zf_X11_24 (by decide) zc_0 zs_1 (zrf_of (zv_1_2 hI zc_0)) ?_
    refine zt_aload_n (pc' := 31) hX dX11_ask_30 rfl rfl ?_
    refine zt_get (pc' := 34) (v := .ref (X.1.1 + 1)) hX dX11_ask_31 rfl zf_X11_14 (by decide) zc_0 zs_1 (zrf_of (zv_1_0 hI zc_0)) ?_
    refine zt_cVi (pc' := 37) hX dX11_ask_34 rfl zm_yX1_readQuestion zw_64_14 zc_33 (by decide) zs_20 (q := (RX1, TX1, 3)) rfl rfl (zc_X1_readQuestion _ _ σ hI 5 zc_5) rfl rfl (Nat.le_of_ble_eq_true rfl) (by decide) (fun r12 s13 hr14 hp15 => ?_)
    obtain ⟨hI16, hF17, q18, q19⟩ := hp15
    have e20 := hF17.2
    have hF21 := zFB_tr hF (zFB_of hF17)
    have b22 := zv_2_1 hI16 zc_1
    refine zt_istore_n (pc' := 38) (lv' := [some (.ref (X.1.1 + 0)), some (.int (zI r12)), none]) hX dX11_ask_37 rfl hL (by decide) rfl ?_
    refine zt_aload_n (pc' := 39) hX dX11_ask_38 rfl rfl ?_
    refine zt_get (pc' := 42) (v := .ref (X.1.1 + 1)) hX dX11_ask_39 rfl zf_X11_14 (by decide) zc_0 zs_1 (zrf_of (zv_1_0 hI16 zc_0)) ?_
    refine zt_iconst (pc' := 43) hX dX11_ask_42 rfl ?_
    refine zt_put (pc' := 46) (x := 0) hX dX11_ask_43 rfl zf_X11_110 (by decide) zc_1 zs_2 (fun q hq => by cases hq; rfl) rfl rfl rfl ?_
    generalize hs24 : zset s13 1 1 0 = s23
    have hI25 : zInv s23 := hs24 ▸ zp_2_1 hI16 zc_1 ⟨by omega, by omega⟩
    have hF26 : zFB σ s23 := hs24 ▸ zFB_set hF21 zc_1 (by decide) zk_2
    have e27 : s23 1 1 = 0 := by rw [← hs24]; exact zset_s
    refine zt_aload_n (pc' := 47) hX dX11_ask_46 rfl rfl ?_
    refine zt_cVv (pc' := 50) hX dX11_ask_47 rfl zm_yX11_rememberFault zw_24_19 zc_0 (by decide) zs_1 (q := (RX11, TX11, 17)) rfl rfl (zc_X11_rememberFault _ _ s23 hI25 ) rfl rfl (Nat.le_of_ble_eq_true rfl) (by decide) (fun r28 s29 hr30 hp31 => ?_)
    obtain ⟨hI32, hF33⟩ := hp31
    have e34 := hF33.2
    have hF35 := zFB_tr hF26 (zFB_of hF33)
    have b36 := zv_2_1 hI32 zc_1
    refine zt_aload_n (pc' := 51) hX dX11_ask_50 rfl rfl ?_
    have b37 := zv_1_15 hI32 zc_0
    refine zt_get (pc' := 54) (v := .int (zI (s29 0 15))) hX dX11_ask_51 rfl zf_X11_104 (by decide) zc_0 zs_1 rfl ?_
    refine zt_ifeq (pc' := 57) (tgt := 61) hX dX11_ask_54 rfl (by decide) ⟨by omega, by omega⟩ (fun c38 => ?_) (fun c38 => ?_)
    · refine zt_aload_n (pc' := 62) hX dX11_ask_61 rfl rfl ?_
      refine zt_cVi (pc' := 65) hX dX11_ask_62 rfl zm_yX11_holdersNow zw_34_0 zc_0 (by decide) zs_1 (q := (RX11, TX11, 17)) rfl rfl (zc_X11_holdersNow _ _ s29 hI32 ) rfl rfl (Nat.le_of_ble_eq_true rfl) (by decide) (fun r39 s40 hr41 hp42 => ?_)
      obtain ⟨hI43, hF44, q45, q46⟩ := hp42
      have e47 := hF44.2
      have hF48 := zFB_tr hF35 (zFB_E hF44)
      have b49 := zv_2_1 hI43 zc_1
      refine zt_istore_n (pc' := 66) (lv' := [some (.ref (X.1.1 + 0)), some (.int (zI r12)), some (.int (zI r39))]) hX dX11_ask_65 rfl hL (by decide) rfl ?_
      refine zt_iload_n (pc' := 67) hX dX11_ask_66 rfl rfl ?_
      rcases (show r12 = 27 ∨ r12 = 28 ∨ r12 = 29 ∨ r12 = 30 ∨ r12 = 31 ∨ (r12 < 27 ∨ 31 < r12) by omega) with c50 | c50 | c50 | c50 | c50 | c50
      · refine zt_tsIn (v := 27) (tgt := 100) hX dX11_ask_67 c50 (by decide) (by decide) (by decide) rfl (by decide) ?_
        refine zt_aload_n (pc' := 101) hX dX11_ask_100 rfl rfl ?_
        refine zt_iload_n (pc' := 102) hX dX11_ask_101 rfl rfl ?_
        refine zt_cVi (pc' := 105) hX dX11_ask_102 rfl zm_yX11_firstFor zw_64_22 zc_0 (by decide) zs_1 (q := (RX11, TX11, 17)) rfl rfl (zc_X11_firstFor _ _ s40 hI43 r39 ⟨by omega, by omega⟩) rfl rfl (Nat.le_of_ble_eq_true rfl) (by decide) (fun r51 s52 hr53 hp54 => ?_)
        obtain ⟨hI55, hF56, q57, q58⟩ := hp54
        have e59 := hF56.2
        have hF60 := zFB_tr hF48 (zFB_E hF56)
        have b61 := zv_2_1 hI55 zc_1
        refine zt_i2l (pc' := 106) hX dX11_ask_105 rfl ⟨by omega, by omega⟩ ?_
        exact zt_lret hX hR dX11_ask_106 ⟨by omega, by omega⟩ ⟨hI55, hF60, by omega, by omega, by omega⟩
      · refine zt_tsIn (v := 28) (tgt := 107) hX dX11_ask_67 c50 (by decide) (by decide) (by decide) rfl (by decide) ?_
        refine zt_aload_n (pc' := 108) hX dX11_ask_107 rfl rfl ?_
        refine zt_iload_n (pc' := 109) hX dX11_ask_108 rfl rfl ?_
        refine zt_cVi (pc' := 112) hX dX11_ask_109 rfl zm_yX11_lastFor zw_65_14 zc_0 (by decide) zs_1 (q := (RX11, TX11, 17)) rfl rfl (zc_X11_lastFor _ _ s40 hI43 r39 ⟨by omega, by omega⟩) rfl rfl (Nat.le_of_ble_eq_true rfl) (by decide) (fun r62 s63 hr64 hp65 => ?_)
        obtain ⟨hI66, hF67, q68, q69⟩ := hp65
        have e70 := hF67.2
        have hF71 := zFB_tr hF48 (zFB_E hF67)
        have b72 := zv_2_1 hI66 zc_1
        refine zt_i2l (pc' := 113) hX dX11_ask_112 rfl ⟨by omega, by omega⟩ ?_
        exact zt_lret hX hR dX11_ask_113 ⟨by omega, by omega⟩ ⟨hI66, hF71, by omega, by omega, by omega⟩
      · refine zt_tsIn (v := 29) (tgt := 114) hX dX11_ask_67 c50 (by decide) (by decide) (by decide) rfl (by decide) ?_
        refine zt_aload_n (pc' := 115) hX dX11_ask_114 rfl rfl ?_
        refine zt_iload_n (pc' := 116) hX dX11_ask_115 rfl rfl ?_
        refine zt_cVi (pc' := 119) hX dX11_ask_116 rfl zm_yX11_howOften zw_65_18 zc_0 (by decide) zs_1 (q := (RX11, TX11, 17)) rfl rfl (zc_X11_howOften _ _ s40 hI43 r39 ⟨by omega, by omega⟩) rfl rfl (Nat.le_of_ble_eq_true rfl) (by decide) (fun r73 s74 hr75 hp76 => ?_)
        obtain ⟨hI77, hF78, q79, q80⟩ := hp76
        have e81 := hF78.2
        have hF82 := zFB_tr hF48 (zFB_E hF78)
        have b83 := zv_2_1 hI77 zc_1
        refine zt_i2l (pc' := 120) hX dX11_ask_119 rfl ⟨by omega, by omega⟩ ?_
        exact zt_lret hX hR dX11_ask_120 ⟨by omega, by omega⟩ ⟨hI77, hF82, by omega, by omega, by omega⟩
      · refine zt_tsIn (v := 30) (tgt := 121) hX dX11_ask_67 c50 (by decide) (by decide) (by decide) rfl (by decide) ?_
        refine zt_aload_n (pc' := 122) hX dX11_ask_121 rfl rfl ?_
        refine zt_iload_n (pc' := 123) hX dX11_ask_122 rfl rfl ?_
        refine zt_cVl (pc' := 126) hX dX11_ask_123 rfl zm_yX11_total zw_65_22 zc_0 (by decide) zs_1 (q := (RX11, TX11, 17)) rfl rfl (zc_X11_total _ _ s40 hI43 r39 ⟨by omega, by omega⟩) rfl rfl (Nat.le_of_ble_eq_true rfl) (by decide) (fun r84 s85 hr86 hp87 => ?_)
        obtain ⟨hI88, hF89, q90, q91⟩ := hp87
        have e92 := hF89.2
        have hF93 := zFB_tr hF48 (zFB_E hF89)
        have b94 := zv_2_1 hI88 zc_1
        exact zt_lret hX hR dX11_ask_126 ⟨by omega, by omega⟩ ⟨hI88, hF93, by omega, by omega, by omega⟩
      · refine zt_tsIn (v := 31) (tgt := 127) hX dX11_ask_67 c50 (by decide) (by decide) (by decide) rfl (by decide) ?_
        refine zt_aload_n (pc' := 128) hX dX11_ask_127 rfl rfl ?_
        refine zt_iload_n (pc' := 129) hX dX11_ask_128 rfl rfl ?_
        refine zt_cVi (pc' := 132) hX dX11_ask_129 rfl zm_yX11_most zw_66_2 zc_0 (by decide) zs_1 (q := (RX11, TX11, 17)) rfl rfl (zc_X11_most _ _ s40 hI43 r39 ⟨by omega, by omega⟩) rfl rfl (Nat.le_of_ble_eq_true rfl) (by decide) (fun r95 s96 hr97 hp98 => ?_)
        obtain ⟨hI99, hF100, q101, q102⟩ := hp98
        have e103 := hF100.2
        have hF104 := zFB_tr hF48 (zFB_E hF100)
        have b105 := zv_2_1 hI99 zc_1
        refine zt_i2l (pc' := 133) hX dX11_ask_132 rfl ⟨by omega, by omega⟩ ?_
        exact zt_lret hX hR dX11_ask_133 ⟨by omega, by omega⟩ ⟨hI99, hF104, by omega, by omega, by omega⟩
      · refine zt_tsOut (tgt := 134) hX dX11_ask_67 ⟨by omega, by omega⟩ c50 (by decide) ?_
        refine zt_aload_n (pc' := 135) hX dX11_ask_134 rfl rfl ?_
        refine zt_iload_n (pc' := 136) hX dX11_ask_135 rfl rfl ?_
        refine zt_cVi (pc' := 139) hX dX11_ask_136 rfl zm_yX11_least zw_66_7 zc_0 (by decide) zs_1 (q := (RX11, TX11, 17)) rfl rfl (zc_X11_least _ _ s40 hI43 r39 ⟨by omega, by omega⟩) rfl rfl (Nat.le_of_ble_eq_true rfl) (by decide) (fun r106 s107 hr108 hp109 => ?_)
        obtain ⟨hI110, hF111, q112, q113⟩ := hp109
        have e114 := hF111.2
        have hF115 := zFB_tr hF48 (zFB_E hF111)
        have b116 := zv_2_1 hI110 zc_1
        refine zt_i2l (pc' := 140) hX dX11_ask_139 rfl ⟨by omega, by omega⟩ ?_
        exact zt_lret hX hR dX11_ask_140 ⟨by omega, by omega⟩ ⟨hI110, hF115, by omega, by omega, by omega⟩
    · refine zt_ldc2 (pc' := 60) (x := (-1000000000000000)) hX dX11_ask_57 rfl zw_45_20 (by decide +kernel) ?_
      exact zt_lret hX hR dX11_ask_60 ⟨by omega, by omega⟩ ⟨hI32, hF35, by omega, by omega, by omega⟩
  · refine zt_aload_n (pc' := 11) hX dX11_ask_10 rfl rfl ?_
    refine zt_get (pc' := 14) (v := .ref (X.1.1 + 1)) hX dX11_ask_11 rfl zf_X11_14 (by decide) zc_0 zs_1 (zrf_of (zv_1_0 hI zc_0)) ?_
    refine zt_iconst (pc' := 15) hX dX11_ask_14 rfl ?_
    refine zt_put (pc' := 18) (x := 0) hX dX11_ask_15 rfl zf_X11_110 (by decide) zc_1 zs_2 (fun q hq => by cases hq; rfl) rfl rfl rfl ?_
    generalize hs118 : zset σ 1 1 0 = s117
    have hI119 : zInv s117 := hs118 ▸ zp_2_1 hI zc_1 ⟨by omega, by omega⟩
    have hF120 : zFB σ s117 := hs118 ▸ zFB_set hF zc_1 (by decide) zk_2
    have e121 : s117 1 1 = 0 := by rw [← hs118]; exact zset_s
    refine zt_ldc2 (pc' := 21) (x := (-1000000000000000)) hX dX11_ask_18 rfl zw_45_20 (by decide +kernel) ?_
    exact zt_lret hX hR dX11_ask_21 ⟨by omega, by omega⟩ ⟨hI119, hF120, by omega, by omega, by omega⟩

set_option maxRecDepth 100000 in
set_option maxHeartbeats 4000000 in
theorem zc_X11_on (l : Launch) (E : zEN) (σ : zSto) (hI : zInv σ)  : zCt l E yX11_on cX11_on 2 (some .boolean) 4 zNC zNC 0 0 σ [.ref (E.1 + 0)] (fun r σ' => zInv σ' ∧ zFD σ σ' ∧ 0 ≤ r ∧ r ≤ 1 ∧ (σ' 1 1 = 0)) := by
  refine zCt_of2 [some (.ref (E.1 + 0)), none] (by decide +kernel) (Nat.le_of_ble_eq_true rfl) rfl ?_
  intro X hE hX hR hL hN
  subst hE
  have hX : zok X cX11_on RX11 4 := hX
  have hF := zFD_rf σ
  have b1 := zv_2_1 hI zc_1
  refine zt_aload_n (pc' := 1) hX dX11_on_0 rfl rfl ?_
  obtain ⟨k2, ek3, hk4⟩ := zv_1_3 hI zc_0
  refine zt_get (pc' := 4) (v := .ref (X.1.1 + k2)) hX dX11_on_1 rfl zf_X11_31 (by decide) zc_0 zs_1 (zrf_of ek3) ?_
  refine zt_cVz (pc' := 7) hX dX11_on_4 rfl zm_yX3_isTold zw_48_6 hk4 (by decide) zs_8 (q := (RX3, TX3, 17)) rfl rfl (zc_X3_isTold _ _ σ hI k2 hk4) rfl rfl (Nat.le_of_ble_eq_true rfl) (by decide) (fun r5 s6 hr7 hp8 => ?_)
  obtain ⟨rfl, q9, q10⟩ := hp8
  have J_33_16 : ∀ (y11 : Int) (s14 : zSto), 0 ≤ y11 → y11 ≤ 1 → zInv s14 → zFD σ s14 → zF X s14 33 [some (.ref (X.1.1 + 0)), none] [.int (zI y11)] := by
    intro y11 s14 h12 h13 hI15 hF16
    have b18 := zv_2_1 hI15 zc_1
    refine zt_istore_n (pc' := 34) (lv' := [some (.ref (X.1.1 + 0)), some (.int (zI y11))]) hX dX11_on_33 rfl hL (by decide) rfl ?_
    refine zt_aload_n (pc' := 35) hX dX11_on_34 rfl rfl ?_
    refine zt_get (pc' := 38) (v := .ref (X.1.1 + 1)) hX dX11_on_35 rfl zf_X11_14 (by decide) zc_0 zs_1 (zrf_of (zv_1_0 hI15 zc_0)) ?_
    refine zt_iconst (pc' := 39) hX dX11_on_38 rfl ?_
    refine zt_put (pc' := 42) (x := 0) hX dX11_on_39 rfl zf_X11_110 (by decide) zc_1 zs_2 (fun q hq => by cases hq; rfl) rfl rfl rfl ?_
    generalize hs20 : zset s14 1 1 0 = s19
    have hI21 : zInv s19 := hs20 ▸ zp_2_1 hI15 zc_1 ⟨by omega, by omega⟩
    have hF22 : zFD σ s19 := hs20 ▸ zFD_set hF16 zc_1 (by decide) zke_2 (Or.inl (by decide))
    have e23 : s19 1 1 = 0 := by rw [← hs20]; exact zset_s
    refine zt_iload_n (pc' := 43) hX dX11_on_42 rfl rfl ?_
    refine zt_ifne (pc' := 46) (tgt := 52) hX dX11_on_43 rfl (by decide) ⟨by omega, by omega⟩ (fun c24 => ?_) (fun c24 => ?_)
    · refine zt_aload_n (pc' := 53) hX dX11_on_52 rfl rfl ?_
      refine zt_get (pc' := 56) (v := .ref (X.1.1 + 35)) hX dX11_on_53 rfl zf_X11_66 (by decide) zc_0 zs_1 (zrf_of (zv_1_8 hI21 zc_0)) ?_
      refine zt_aload_n (pc' := 57) hX dX11_on_56 rfl rfl ?_
      refine zt_get (pc' := 60) (v := .ref (X.1.1 + 40)) hX dX11_on_57 rfl zf_X11_70 (by decide) zc_0 zs_1 (zrf_of (zv_1_9 hI21 zc_0)) ?_
      refine zt_cVv (pc' := 63) hX dX11_on_60 rfl zm_yX10_takeLife zw_48_14 zc_35 (by decide) zs_22 (q := (RX10, TX10, 8)) rfl rfl (zc_X10_takeLife _ _ s19 hI21 35 zc_35 40 zc_40) rfl rfl (Nat.le_of_ble_eq_true rfl) (by decide) (fun r25 s26 hr27 hp28 => ?_)
      obtain ⟨hI29, hF30⟩ := hp28
      have e31 := hF30.2
      have hF32 := zFD_tr hF22 (zFD_of hF30)
      have b33 := zv_2_1 hI29 zc_1
      refine zt_aload_n (pc' := 64) hX dX11_on_63 rfl rfl ?_
      refine zt_get (pc' := 67) (v := .ref (X.1.1 + 35)) hX dX11_on_64 rfl zf_X11_66 (by decide) zc_0 zs_1 (zrf_of (zv_1_8 hI29 zc_0)) ?_
      refine zt_iconst (pc' := 68) hX dX11_on_67 rfl ?_
      refine zt_put (pc' := 71) (x := 0) hX dX11_on_68 rfl zf_X11_174 (by decide) zc_35 zs_22 (fun q hq => by cases hq; rfl) rfl rfl rfl ?_
      generalize hs35 : zset s26 35 4 0 = s34
      have hI36 : zInv s34 := hs35 ▸ zp_22_4 hI29 zc_35 ⟨by omega, by omega⟩
      have hF37 : zFD σ s34 := hs35 ▸ zFD_set hF32 zc_35 (by decide) zke_22 (Or.inl (by decide))
      have e38 : s34 1 1 = s26 1 1 := by rw [← hs35]; exact zset_k (zne_r zc_1 zc_35 (by decide))
      refine zt_aload_n (pc' := 72) hX dX11_on_71 rfl rfl ?_
      refine zt_get (pc' := 75) (v := .ref (X.1.1 + 45)) hX dX11_on_72 rfl zf_X11_76 (by decide) zc_0 zs_1 (zrf_of (zv_1_10 hI36 zc_0)) ?_
      refine zt_iconst (pc' := 76) hX dX11_on_75 rfl ?_
      refine zt_put (pc' := 79) (x := 0) hX dX11_on_76 rfl zf_X11_135 (by decide) zc_45 zs_27 (fun q hq => by cases hq; rfl) rfl rfl rfl ?_
      generalize hs40 : zset s34 45 2 0 = s39
      have hI41 : zInv s39 := hs40 ▸ zp_27_2 hI36 zc_45 ⟨by omega, by omega⟩
      have hF42 : zFD σ s39 := hs40 ▸ zFD_set hF37 zc_45 (by decide) zke_27 (Or.inl (by decide))
      have e43 : s39 1 1 = s34 1 1 := by rw [← hs40]; exact zset_k (zne_r zc_1 zc_45 (by decide))
      refine zt_iconst (pc' := 80) hX dX11_on_79 rfl ?_
      exact zt_zret hX hR dX11_on_80 ⟨by omega, by omega⟩ ⟨hI41, hF42, by omega, by omega, by omega⟩
    · refine zt_aload_n (pc' := 47) hX dX11_on_46 rfl rfl ?_
      refine zt_iconst (pc' := 48) hX dX11_on_47 rfl ?_
      refine zt_cVz (pc' := 51) hX dX11_on_48 rfl zm_yX11_denial zw_15_0 zc_0 (by decide) zs_1 (q := (RX11, TX11, 17)) rfl rfl (zc_X11_denial _ _ s19 hI21 5 ⟨by omega, by omega⟩) rfl rfl (Nat.le_of_ble_eq_true rfl) (by decide) (fun r44 s45 hr46 hp47 => ?_)
      obtain ⟨hI48, hF49, q50, q51⟩ := hp47
      have e52 := hF49.2
      have hF53 := zFD_tr hF22 (zFD_of hF49)
      have b54 := zv_2_1 hI48 zc_1
      exact zt_zret hX hR dX11_on_51 ⟨by omega, by omega⟩ ⟨hI48, hF53, by omega, by omega, by omega⟩
  have J_32_57 : ∀ (s55 : zSto), zInv s55 → zFD σ s55 → zF X s55 32 [some (.ref (X.1.1 + 0)), none] [] := by
    intro s55 hI56 hF57
    have b59 := zv_2_1 hI56 zc_1
    refine zt_iconst (pc' := 33) hX dX11_on_32 rfl ?_
    exact J_33_16 0 s55 (by omega) (by omega) hI56 (by omega)
  refine zt_ifeq (pc' := 10) (tgt := 32) hX dX11_on_7 rfl (by decide) ⟨by omega, by omega⟩ (fun c60 => ?_) (fun c60 => ?_)
  · exact J_32_57 σ hI (by omega)
  · refine zt_aload_n (pc' := 11) hX dX11_on_10 rfl rfl ?_
    refine zt_get (pc' := 14) (v := .ref (X.1.1 + 40)) hX dX11_on_11 rfl zf_X11_70 (by decide) zc_0 zs_1 (zrf_of (zv_1_9 hI zc_0)) ?_
    refine zt_aload_n (pc' := 15) hX dX11_on_14 rfl rfl ?_
    refine zt_get (pc' := 18) (v := .ref (X.1.1 + k2)) hX dX11_on_15 rfl zf_X11_31 (by decide) zc_0 zs_1 (zrf_of ek3) ?_
    refine zt_aload_n (pc' := 19) hX dX11_on_18 rfl rfl ?_
    refine zt_get (pc' := 22) (v := .ref (X.1.1 + 1)) hX dX11_on_19 rfl zf_X11_14 (by decide) zc_0 zs_1 (zrf_of (zv_1_0 hI zc_0)) ?_
    refine zt_cVz (pc' := 25) hX dX11_on_22 rfl zm_yX10_readImage zw_68_20 zc_40 (by decide) zs_22 (q := (RX10, TX10, 8)) rfl rfl (zc_X10_readImage _ _ σ hI 40 zc_40 k2 hk4) rfl rfl (Nat.le_of_ble_eq_true rfl) (by decide) (fun r61 s62 hr63 hp64 => ?_)
    obtain ⟨hI65, hF66, q67, q68⟩ := hp64
    have e69 := hF66.2
    have hF70 := zFD_tr hF (zFD_of hF66)
    have b71 := zv_2_1 hI65 zc_1
    refine zt_ifeq (pc' := 28) (tgt := 32) hX dX11_on_25 rfl (by decide) ⟨by omega, by omega⟩ (fun c72 => ?_) (fun c72 => ?_)
    · exact J_32_57 s62 hI65 (by omega)
    · refine zt_iconst (pc' := 29) hX dX11_on_28 rfl ?_
      refine zt_goto (tgt := 33) hX dX11_on_29 (by decide) ?_
      exact J_33_16 1 s62 (by omega) (by omega) hI65 (by omega)
