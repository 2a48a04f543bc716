set_option maxRecDepth 100000 in
set_option maxHeartbeats 4000000 in
theorem zc_X1_pair_o3 (l : Launch) (E : zEN) (σ : zSto) (hI : zInv σ) (hpre0 : σ 27 5 ≤ 1600) : zCt l E yX1_pair cX1_pair 2 none 14 zNC zNC 0 0 σ [.ref (E.1 + 33), .int (zI 3)] (fun r σ' => zInv σ' ∧ zFA σ σ' ∧ (σ' 27 5 = σ 27 5)) := by
  refine zCt_of2 [some (.ref (E.1 + 33)), some (.int (zI 3))] (by decide +kernel) (Nat.le_of_ble_eq_true rfl) rfl ?_
  intro X hE hX hR hL hN
  subst hE
  have hX : zok X cX1_pair RX1 14 := hX
  have hF := zFA_rf σ
  have b1 := zv_14_5 hI zc_27
  refine zt_aload_n (pc' := 1) hX dX1_pair_0 rfl rfl ?_
  refine zt_get (pc' := 4) (v := .ref (X.1.1 + 27)) hX dX1_pair_1 rfl zf_X1_15 (by decide) zc_33 zs_20 (zrf_of (zv_20_0 hI zc_33)) ?_
  refine zt_cVi (pc' := 7) hX dX1_pair_4 rfl zm_yX5_signHere zw_22_2 zc_27 (by decide) zs_14 (q := (RX5, TX5, 9)) rfl rfl (zc_X5_signHere _ _ σ hI ) rfl rfl (Nat.le_of_ble_eq_true rfl) (by decide) (fun r2 s3 hr4 hp5 => ?_)
  obtain ⟨rfl, q6, q7⟩ := hp5
  refine zt_bipush (pc' := 9) hX dX1_pair_7 rfl (by decide) (by decide) ?_
  refine zt_iceq (pc' := 12) (tgt := 30) hX dX1_pair_9 rfl (by decide) ⟨by omega, by omega⟩ ⟨by omega, by omega⟩ (fun c8 => ?_) (fun c8 => ?_)
  · refine zt_aload_n (pc' := 31) hX dX1_pair_30 rfl rfl ?_
    refine zt_iload_n (pc' := 32) hX dX1_pair_31 rfl rfl ?_
    refine zt_cVz (pc' := 35) hX dX1_pair_32 rfl zm_yX1_opens zw_22_11 zc_33 (by decide) zs_20 (q := (RX1, TX1, 3)) rfl rfl (zc_X1_opens_o3 _ _ σ hI (by omega)) rfl rfl (Nat.le_of_ble_eq_true rfl) (by decide) (fun r9 s10 hr11 hp12 => ?_)
    obtain ⟨hI13, hF14, q15, q16, z17⟩ := hp12
    have hF18 := zFA_tr hF hF14
    have b19 := zv_14_5 hI13 zc_27
    refine zt_ifeq (pc' := 38) (tgt := 70) hX dX1_pair_35 rfl (by decide) ⟨by omega, by omega⟩ (fun c20 => ?_) (fun c20 => ?_)
    · exact absurd c20 (by omega)
    · refine zt_aload_n (pc' := 39) hX dX1_pair_38 rfl rfl ?_
      refine zt_iload_n (pc' := 40) hX dX1_pair_39 rfl rfl ?_
      refine zt_iconst (pc' := 41) hX dX1_pair_40 rfl ?_
      refine zt_iadd (pc' := 42) hX dX1_pair_41 rfl ?_
      rw [show (3 + 1 : Int) = 4 from rfl]
      refine zt_cVv (pc' := 45) hX dX1_pair_42 rfl zm_yX1_sum zw_21_19 zc_33 (by decide) zs_20 (q := (RX1, TX1, 3)) rfl rfl (zc_X1_sum_o4 _ _ s10 hI13 (by omega)) rfl rfl (Nat.le_of_ble_eq_true rfl) (by decide) (fun r21 s22 hr23 hp24 => ?_)
      obtain ⟨hI25, hF26, z27⟩ := hp24
      have hF28 := zFA_tr hF18 hF26
      have b29 := zv_14_5 hI25 zc_27
      refine zt_aload_n (pc' := 46) hX dX1_pair_45 rfl rfl ?_
      refine zt_get (pc' := 49) (v := .ref (X.1.1 + 27)) hX dX1_pair_46 rfl zf_X1_15 (by decide) zc_33 zs_20 (zrf_of (zv_20_0 hI25 zc_33)) ?_
      refine zt_bipush (pc' := 51) hX dX1_pair_49 rfl (by decide) (by decide) ?_
      refine zt_cVv (pc' := 54) hX dX1_pair_51 rfl zm_yX5_takeSign zw_22_15 zc_27 (by decide) zs_14 (q := (RX5, TX5, 9)) rfl rfl (zc_X5_takeSign _ _ s22 hI25 44 ⟨by omega, by omega⟩ (by omega)) rfl rfl (Nat.le_of_ble_eq_true rfl) (by decide) (fun r30 s31 hr32 hp33 => ?_)
      obtain ⟨hI34, hF35, z36⟩ := hp33
      have hF37 := zFA_tr hF28 hF35
      have b38 := zv_14_5 hI34 zc_27
      refine zt_aload_n (pc' := 55) hX dX1_pair_54 rfl rfl ?_
      refine zt_iload_n (pc' := 56) hX dX1_pair_55 rfl rfl ?_
      refine zt_iconst (pc' := 57) hX dX1_pair_56 rfl ?_
      refine zt_iadd (pc' := 58) hX dX1_pair_57 rfl ?_
      rw [show (3 + 1 : Int) = 4 from rfl]
      refine zt_cVv (pc' := 61) hX dX1_pair_58 rfl zm_yX1_sum zw_21_19 zc_33 (by decide) zs_20 (q := (RX1, TX1, 3)) rfl rfl (zc_X1_sum_o4 _ _ s31 hI34 (by omega)) rfl rfl (Nat.le_of_ble_eq_true rfl) (by decide) (fun r39 s40 hr41 hp42 => ?_)
      obtain ⟨hI43, hF44, z45⟩ := hp42
      have hF46 := zFA_tr hF37 hF44
      have b47 := zv_14_5 hI43 zc_27
      refine zt_aload_n (pc' := 62) hX dX1_pair_61 rfl rfl ?_
      refine zt_get (pc' := 65) (v := .ref (X.1.1 + 27)) hX dX1_pair_62 rfl zf_X1_15 (by decide) zc_33 zs_20 (zrf_of (zv_20_0 hI43 zc_33)) ?_
      refine zt_bipush (pc' := 67) hX dX1_pair_65 rfl (by decide) (by decide) ?_
      refine zt_cVv (pc' := 70) hX dX1_pair_67 rfl zm_yX5_takeSign zw_22_15 zc_27 (by decide) zs_14 (q := (RX5, TX5, 9)) rfl rfl (zc_X5_takeSign _ _ s40 hI43 41 ⟨by omega, by omega⟩ (by omega)) rfl rfl (Nat.le_of_ble_eq_true rfl) (by decide) (fun r48 s49 hr50 hp51 => ?_)
      obtain ⟨hI52, hF53, z54⟩ := hp51
      have hF55 := zFA_tr hF46 hF53
      have b56 := zv_14_5 hI52 zc_27
      exact zt_vret hX hR dX1_pair_70 ⟨hI52, hF55, by omega⟩
  · refine zt_aload_n (pc' := 13) hX dX1_pair_12 rfl rfl ?_
    refine zt_get (pc' := 16) (v := .ref (X.1.1 + 27)) hX dX1_pair_13 rfl zf_X1_15 (by decide) zc_33 zs_20 (zrf_of (zv_20_0 hI zc_33)) ?_
    refine zt_iconst (pc' := 17) hX dX1_pair_16 rfl ?_
    refine zt_aload_n (pc' := 18) hX dX1_pair_17 rfl rfl ?_
    refine zt_get (pc' := 21) (v := .ref (X.1.1 + 27)) hX dX1_pair_18 rfl zf_X1_15 (by decide) zc_33 zs_20 (zrf_of (zv_20_0 hI zc_33)) ?_
    refine zt_cVi (pc' := 24) hX dX1_pair_21 rfl zm_yX5_placeHere zw_22_9 zc_27 (by decide) zs_14 (q := (RX5, TX5, 9)) rfl rfl (zc_X5_placeHere _ _ σ hI ) rfl rfl (Nat.le_of_ble_eq_true rfl) (by decide) (fun r57 s58 hr59 hp60 => ?_)
    obtain ⟨rfl, q61, q62⟩ := hp60
    refine zt_cVv (pc' := 27) hX dX1_pair_24 rfl zm_yX5_refuse zw_22_10 zc_27 (by decide) zs_14 (q := (RX5, TX5, 9)) rfl rfl (zc_X5_refuse _ _ σ hI 1 ⟨by omega, by omega⟩ r57 ⟨by omega, by omega⟩ (by omega)) rfl rfl (Nat.le_of_ble_eq_true rfl) (by decide) (fun r63 s64 hr65 hp66 => ?_)
    obtain ⟨hI67, hF68, z69⟩ := hp66
    have hF70 := zFA_tr hF hF68
    have b71 := zv_14_5 hI67 zc_27
    refine zt_goto (tgt := 70) hX dX1_pair_27 (by decide) ?_
    exact zt_vret hX hR dX1_pair_70 ⟨hI67, hF70, by omega⟩

set_option maxRecDepth 100000 in
set_option maxHeartbeats 4000000 in
theorem zc_X1_part_o3 (l : Launch) (E : zEN) (σ : zSto) (hI : zInv σ) (hpre0 : σ 27 5 ≤ 1600) : zCt l E yX1_part cX1_part 4 none 15 zNC zNC 0 0 σ [.ref (E.1 + 33), .int (zI 3)] (fun r σ' => zInv σ' ∧ zFA σ σ' ∧ (σ' 27 5 = σ 27 5)) := by
  refine zCt_of2 [some (.ref (E.1 + 33)), some (.int (zI 3)), none, none] (by decide +kernel) (Nat.le_of_ble_eq_true rfl) rfl ?_
  intro X hE hX hR hL hN
  subst hE
  have hX : zok X cX1_part RX1 15 := hX
  have hF := zFA_rf σ
  have b1 := zv_14_5 hI zc_27
  refine zt_aload_n (pc' := 1) hX dX1_part_0 rfl rfl ?_
  refine zt_get (pc' := 4) (v := .ref (X.1.1 + 27)) hX dX1_part_1 rfl zf_X1_15 (by decide) zc_33 zs_20 (zrf_of (zv_20_0 hI zc_33)) ?_
  refine zt_cVi (pc' := 7) hX dX1_part_4 rfl zm_yX5_wordHere zw_22_21 zc_27 (by decide) zs_14 (q := (RX5, TX5, 9)) rfl rfl (zc_X5_wordHere _ _ σ hI ) rfl rfl (Nat.le_of_ble_eq_true rfl) (by decide) (fun r2 s3 hr4 hp5 => ?_)
  obtain ⟨rfl, q6, q7⟩ := hp5
  refine zt_istore_n (pc' := 8) (lv' := [some (.ref (X.1.1 + 33)), some (.int (zI 3)), some (.int (zI r2)), none]) hX dX1_part_7 rfl hL (by decide) rfl ?_
  refine zt_aload_n (pc' := 9) hX dX1_part_8 rfl rfl ?_
  refine zt_get (pc' := 12) (v := .ref (X.1.1 + 27)) hX dX1_part_9 rfl zf_X1_15 (by decide) zc_33 zs_20 (zrf_of (zv_20_0 hI zc_33)) ?_
  refine zt_cVi (pc' := 15) hX dX1_part_12 rfl zm_yX5_kindHere zw_22_22 zc_27 (by decide) zs_14 (q := (RX5, TX5, 9)) rfl rfl (zc_X5_kindHere _ _ σ hI ) rfl rfl (Nat.le_of_ble_eq_true rfl) (by decide) (fun r8 s9 hr10 hp11 => ?_)
  obtain ⟨rfl, q12, q13⟩ := hp11
  refine zt_istore_n (pc' := 16) (lv' := [some (.ref (X.1.1 + 33)), some (.int (zI 3)), some (.int (zI r2)), some (.int (zI r8))]) hX dX1_part_15 rfl hL (by decide) rfl ?_
  refine zt_iload_n (pc' := 17) hX dX1_part_16 rfl rfl ?_
  refine zt_iconst (pc' := 18) hX dX1_part_17 rfl ?_
  have J_26_13 : zF X σ 26 [some (.ref (X.1.1 + 33)), none, none, none] [] := by
    refine zt_aload_n (pc' := 27) hX dX1_part_26 rfl rfl ?_
    obtain ⟨k15, ek16, hk17⟩ := zv_20_1 hI zc_33
    refine zt_get (pc' := 30) (v := .ref (X.1.1 + k15)) hX dX1_part_27 rfl zf_X1_19 (by decide) zc_33 zs_20 (zrf_of ek16) ?_
    refine zt_aload_n (pc' := 31) hX dX1_part_30 rfl rfl ?_
    refine zt_get (pc' := 34) (v := .ref (X.1.1 + 27)) hX dX1_part_31 rfl zf_X1_15 (by decide) zc_33 zs_20 (zrf_of (zv_20_0 hI zc_33)) ?_
    refine zt_iconst (pc' := 35) hX dX1_part_34 rfl ?_
    refine zt_sipush (pc' := 38) hX dX1_part_35 rfl (by decide) (by decide) ?_
    refine zt_cVi (pc' := 41) hX dX1_part_38 rfl zm_yX5_takeNumber zw_22_23 zc_27 (by decide) zs_14 (q := (RX5, TX5, 9)) rfl rfl (zc_X5_takeNumber _ _ σ hI 0 ⟨by omega, by omega⟩ 9999 ⟨by omega, by omega⟩ (by omega)) rfl rfl (Nat.le_of_ble_eq_true rfl) (by decide) (fun r18 s19 hr20 hp21 => ?_)
    obtain ⟨hI22, hF23, q24, q25, z26, z27⟩ := hp21
    have hF28 := zFA_tr hF hF23
    have b29 := zv_14_5 hI22 zc_27
    refine zt_cVv (pc' := 44) hX dX1_part_41 rfl zm_yX4_addNumber zw_23_0 hk17 (by decide) zs_6 (q := (RX4, TX4, 2)) rfl rfl (zc_X4_addNumber _ _ s19 hI22 k15 hk17 r18 ⟨by omega, by omega⟩) rfl rfl (Nat.le_of_ble_eq_true rfl) (by decide) (fun r30 s31 hr32 hp33 => ?_)
    obtain ⟨hI34, hF35, z36⟩ := hp33
    have hF37 := zFA_tr hF28 hF35
    have b38 := zv_14_5 hI34 zc_27
    refine zt_goto (tgt := 203) hX dX1_part_44 (by decide) ?_
    exact zt_vret hX hR dX1_part_203 ⟨hI34, hF37, by omega⟩
  refine zt_iceq (pc' := 21) (tgt := 26) hX dX1_part_18 rfl (by decide) ⟨by omega, by omega⟩ ⟨by omega, by omega⟩ (fun c39 => ?_) (fun c39 => ?_)
  · refine zt_mask [true, false, false, false] rfl ?_
    exact J_26_13
  · refine zt_iload_n (pc' := 22) hX dX1_part_21 rfl rfl ?_
    refine zt_iconst (pc' := 23) hX dX1_part_22 rfl ?_
    refine zt_icne (pc' := 26) (tgt := 47) hX dX1_part_23 rfl (by decide) ⟨by omega, by omega⟩ ⟨by omega, by omega⟩ (fun c40 => ?_) (fun c40 => ?_)
    · refine zt_aload_n (pc' := 48) hX dX1_part_47 rfl rfl ?_
      refine zt_get (pc' := 51) (v := .ref (X.1.1 + 27)) hX dX1_part_48 rfl zf_X1_15 (by decide) zc_33 zs_20 (zrf_of (zv_20_0 hI zc_33)) ?_
      refine zt_cVi (pc' := 54) hX dX1_part_51 rfl zm_yX5_signHere zw_22_2 zc_27 (by decide) zs_14 (q := (RX5, TX5, 9)) rfl rfl (zc_X5_signHere _ _ σ hI ) rfl rfl (Nat.le_of_ble_eq_true rfl) (by decide) (fun r41 s42 hr43 hp44 => ?_)
      obtain ⟨rfl, q45, q46⟩ := hp44
      refine zt_bipush (pc' := 56) hX dX1_part_54 rfl (by decide) (by decide) ?_
      refine zt_icne (pc' := 59) (tgt := 86) hX dX1_part_56 rfl (by decide) ⟨by omega, by omega⟩ ⟨by omega, by omega⟩ (fun c47 => ?_) (fun c47 => ?_)
      · refine zt_iload_n (pc' := 87) hX dX1_part_86 rfl rfl ?_
        refine zt_bipush (pc' := 89) hX dX1_part_87 rfl (by decide) (by decide) ?_
        have J_98_47 : zF X σ 98 [some (.ref (X.1.1 + 33)), some (.int (zI 3)), some (.int (zI r2)), none] [] := by
          refine zt_aload_n (pc' := 99) hX dX1_part_98 rfl rfl ?_
          refine zt_get (pc' := 102) (v := .ref (X.1.1 + 27)) hX dX1_part_99 rfl zf_X1_15 (by decide) zc_33 zs_20 (zrf_of (zv_20_0 hI zc_33)) ?_
          refine zt_cVv (pc' := 105) hX dX1_part_102 rfl zm_yX5_step zw_22_6 zc_27 (by decide) zs_14 (q := (RX5, TX5, 9)) rfl rfl (zc_X5_step _ _ σ hI (by omega)) rfl rfl (Nat.le_of_ble_eq_true rfl) (by decide) (fun r49 s50 hr51 hp52 => ?_)
          obtain ⟨hI53, hF54, z55⟩ := hp52
          have hF56 := zFA_tr hF hF54
          have b57 := zv_14_5 hI53 zc_27
          refine zt_aload_n (pc' := 106) hX dX1_part_105 rfl rfl ?_
          refine zt_iload_n (pc' := 107) hX dX1_part_106 rfl rfl ?_
          refine zt_cVv (pc' := 110) hX dX1_part_107 rfl zm_yX1_pair zw_23_1 zc_33 (by decide) zs_20 (q := (RX1, TX1, 3)) rfl rfl (zc_X1_pair_o3 _ _ s50 hI53 (by omega)) rfl rfl (Nat.le_of_ble_eq_true rfl) (by decide) (fun r58 s59 hr60 hp61 => ?_)
          obtain ⟨hI62, hF63, z64⟩ := hp61
          have hF65 := zFA_tr hF56 hF63
          have b66 := zv_14_5 hI62 zc_27
          refine zt_aload_n (pc' := 111) hX dX1_part_110 rfl rfl ?_
          obtain ⟨k67, ek68, hk69⟩ := zv_20_1 hI62 zc_33
          refine zt_get (pc' := 114) (v := .ref (X.1.1 + k67)) hX dX1_part_111 rfl zf_X1_19 (by decide) zc_33 zs_20 (zrf_of ek68) ?_
          refine zt_iload_n (pc' := 115) hX dX1_part_114 rfl rfl ?_
          refine zt_cVv (pc' := 118) hX dX1_part_115 rfl zm_yX4_addStep zw_22_7 hk69 (by decide) zs_6 (q := (RX4, TX4, 2)) rfl rfl (zc_X4_addStep _ _ s59 hI62 k67 hk69 r2 ⟨by omega, by omega⟩) rfl rfl (Nat.le_of_ble_eq_true rfl) (by decide) (fun r70 s71 hr72 hp73 => ?_)
          obtain ⟨hI74, hF75, z76⟩ := hp73
          have hF77 := zFA_tr hF65 hF75
          have b78 := zv_14_5 hI74 zc_27
          refine zt_goto (tgt := 203) hX dX1_part_118 (by decide) ?_
          exact zt_vret hX hR dX1_part_203 ⟨hI74, hF77, by omega⟩
        refine zt_iceq (pc' := 92) (tgt := 98) hX dX1_part_89 rfl (by decide) ⟨by omega, by omega⟩ ⟨by omega, by omega⟩ (fun c79 => ?_) (fun c79 => ?_)
        · refine zt_mask [true, true, true, false] rfl ?_
          exact J_98_47
        · refine zt_iload_n (pc' := 93) hX dX1_part_92 rfl rfl ?_
          refine zt_bipush (pc' := 95) hX dX1_part_93 rfl (by decide) (by decide) ?_
          refine zt_icne (pc' := 98) (tgt := 121) hX dX1_part_95 rfl (by decide) ⟨by omega, by omega⟩ ⟨by omega, by omega⟩ (fun c80 => ?_) (fun c80 => ?_)
          · refine zt_iload_n (pc' := 122) hX dX1_part_121 rfl rfl ?_
            refine zt_bipush (pc' := 124) hX dX1_part_122 rfl (by decide) (by decide) ?_
            have J_162_80 : zF X σ 162 [some (.ref (X.1.1 + 33)), none, some (.int (zI r2)), none] [] := by
              refine zt_aload_n (pc' := 163) hX dX1_part_162 rfl rfl ?_
              refine zt_iload_n (pc' := 164) hX dX1_part_163 rfl rfl ?_
              refine zt_cVz (pc' := 167) hX dX1_part_164 rfl zm_yX1_isValue zw_23_7 zc_33 (by decide) zs_20 (q := (RX1, TX1, 3)) rfl rfl (zc_X1_isValue _ _ σ hI r2 ⟨by omega, by omega⟩) rfl rfl (Nat.le_of_ble_eq_true rfl) (by decide) (fun r82 s83 hr84 hp85 => ?_)
              obtain ⟨rfl, q86, q87⟩ := hp85
              refine zt_ifeq (pc' := 170) (tgt := 188) hX dX1_part_167 rfl (by decide) ⟨by omega, by omega⟩ (fun c88 => ?_) (fun c88 => ?_)
              · refine zt_aload_n (pc' := 189) hX dX1_part_188 rfl rfl ?_
                refine zt_get (pc' := 192) (v := .ref (X.1.1 + 27)) hX dX1_part_189 rfl zf_X1_15 (by decide) zc_33 zs_20 (zrf_of (zv_20_0 hI zc_33)) ?_
                refine zt_iconst (pc' := 193) hX dX1_part_192 rfl ?_
                refine zt_aload_n (pc' := 194) hX dX1_part_193 rfl rfl ?_
                refine zt_get (pc' := 197) (v := .ref (X.1.1 + 27)) hX dX1_part_194 rfl zf_X1_15 (by decide) zc_33 zs_20 (zrf_of (zv_20_0 hI zc_33)) ?_
                refine zt_cVi (pc' := 200) hX dX1_part_197 rfl zm_yX5_placeHere zw_22_9 zc_27 (by decide) zs_14 (q := (RX5, TX5, 9)) rfl rfl (zc_X5_placeHere _ _ σ hI ) rfl rfl (Nat.le_of_ble_eq_true rfl) (by decide) (fun r89 s90 hr91 hp92 => ?_)
                obtain ⟨rfl, q93, q94⟩ := hp92
                refine zt_cVv (pc' := 203) hX dX1_part_200 rfl zm_yX5_refuse zw_22_10 zc_27 (by decide) zs_14 (q := (RX5, TX5, 9)) rfl rfl (zc_X5_refuse _ _ σ hI 1 ⟨by omega, by omega⟩ r89 ⟨by omega, by omega⟩ (by omega)) rfl rfl (Nat.le_of_ble_eq_true rfl) (by decide) (fun r95 s96 hr97 hp98 => ?_)
                obtain ⟨hI99, hF100, z101⟩ := hp98
                have hF102 := zFA_tr hF hF100
                have b103 := zv_14_5 hI99 zc_27
                exact zt_vret hX hR dX1_part_203 ⟨hI99, hF102, by omega⟩
              · refine zt_aload_n (pc' := 171) hX dX1_part_170 rfl rfl ?_
                refine zt_get (pc' := 174) (v := .ref (X.1.1 + 27)) hX dX1_part_171 rfl zf_X1_15 (by decide) zc_33 zs_20 (zrf_of (zv_20_0 hI zc_33)) ?_
                refine zt_cVv (pc' := 177) hX dX1_part_174 rfl zm_yX5_step zw_22_6 zc_27 (by decide) zs_14 (q := (RX5, TX5, 9)) rfl rfl (zc_X5_step _ _ σ hI (by omega)) rfl rfl (Nat.le_of_ble_eq_true rfl) (by decide) (fun r104 s105 hr106 hp107 => ?_)
                obtain ⟨hI108, hF109, z110⟩ := hp107
                have hF111 := zFA_tr hF hF109
                have b112 := zv_14_5 hI108 zc_27
                refine zt_aload_n (pc' := 178) hX dX1_part_177 rfl rfl ?_
                obtain ⟨k113, ek114, hk115⟩ := zv_20_1 hI108 zc_33
                refine zt_get (pc' := 181) (v := .ref (X.1.1 + k113)) hX dX1_part_178 rfl zf_X1_19 (by decide) zc_33 zs_20 (zrf_of ek114) ?_
                refine zt_iload_n (pc' := 182) hX dX1_part_181 rfl rfl ?_
                refine zt_cVv (pc' := 185) hX dX1_part_182 rfl zm_yX4_addStep zw_22_7 hk115 (by decide) zs_6 (q := (RX4, TX4, 2)) rfl rfl (zc_X4_addStep _ _ s105 hI108 k113 hk115 r2 ⟨by omega, by omega⟩) rfl rfl (Nat.le_of_ble_eq_true rfl) (by decide) (fun r116 s117 hr118 hp119 => ?_)
                obtain ⟨hI120, hF121, z122⟩ := hp119
                have hF123 := zFA_tr hF111 hF121
                have b124 := zv_14_5 hI120 zc_27
                refine zt_goto (tgt := 203) hX dX1_part_185 (by decide) ?_
                exact zt_vret hX hR dX1_part_203 ⟨hI120, hF123, by omega⟩
            refine zt_icne (pc' := 127) (tgt := 162) hX dX1_part_124 rfl (by decide) ⟨by omega, by omega⟩ ⟨by omega, by omega⟩ (fun c125 => ?_) (fun c125 => ?_)
            · refine zt_mask [true, false, true, false] rfl ?_
              exact J_162_80
            · refine zt_aload_n (pc' := 128) hX dX1_part_127 rfl rfl ?_
              have b126 := zv_20_2 hI zc_33
              refine zt_get (pc' := 131) (v := .int (zI (σ 33 2))) hX dX1_part_128 rfl zf_X1_9 (by decide) zc_33 zs_20 rfl ?_
              refine zt_iconst (pc' := 132) hX dX1_part_131 rfl ?_
              refine zt_icne (pc' := 135) (tgt := 162) hX dX1_part_132 rfl (by decide) ⟨by omega, by omega⟩ ⟨by omega, by omega⟩ (fun c127 => ?_) (fun c127 => ?_)
              · refine zt_mask [true, false, true, false] rfl ?_
                exact J_162_80
              · refine zt_aload_n (pc' := 136) hX dX1_part_135 rfl rfl ?_
                refine zt_iload_n (pc' := 137) hX dX1_part_136 rfl rfl ?_
                refine zt_cVz (pc' := 140) hX dX1_part_137 rfl zm_yX1_opens zw_22_11 zc_33 (by decide) zs_20 (q := (RX1, TX1, 3)) rfl rfl (zc_X1_opens_o3 _ _ σ hI (by omega)) rfl rfl (Nat.le_of_ble_eq_true rfl) (by decide) (fun r128 s129 hr130 hp131 => ?_)
                obtain ⟨hI132, hF133, q134, q135, z136⟩ := hp131
                have hF137 := zFA_tr hF hF133
                have b138 := zv_14_5 hI132 zc_27
                refine zt_ifeq (pc' := 143) (tgt := 203) hX dX1_part_140 rfl (by decide) ⟨by omega, by omega⟩ (fun c139 => ?_) (fun c139 => ?_)
                · exact absurd c139 (by omega)
                · refine zt_aload_n (pc' := 144) hX dX1_part_143 rfl rfl ?_
                  refine zt_iload_n (pc' := 145) hX dX1_part_144 rfl rfl ?_
                  refine zt_iconst (pc' := 146) hX dX1_part_145 rfl ?_
                  refine zt_iadd (pc' := 147) hX dX1_part_146 rfl ?_
                  rw [show (3 + 1 : Int) = 4 from rfl]
                  refine zt_cVv (pc' := 150) hX dX1_part_147 rfl zm_yX1_part zw_23_4 zc_33 (by decide) zs_20 (q := (RX1, TX1, 3)) rfl rfl (zc_X1_part_o4 _ _ s129 hI132 (by omega)) rfl rfl (Nat.le_of_ble_eq_true rfl) (by decide) (fun r140 s141 hr142 hp143 => ?_)
                  obtain ⟨hI144, hF145, z146⟩ := hp143
                  have hF147 := zFA_tr hF137 hF145
                  have b148 := zv_14_5 hI144 zc_27
                  refine zt_aload_n (pc' := 151) hX dX1_part_150 rfl rfl ?_
                  obtain ⟨k149, ek150, hk151⟩ := zv_20_1 hI144 zc_33
                  refine zt_get (pc' := 154) (v := .ref (X.1.1 + k149)) hX dX1_part_151 rfl zf_X1_19 (by decide) zc_33 zs_20 (zrf_of ek150) ?_
                  refine zt_bipush (pc' := 156) hX dX1_part_154 rfl (by decide) (by decide) ?_
                  refine zt_cVv (pc' := 159) hX dX1_part_156 rfl zm_yX4_addStep zw_22_7 hk151 (by decide) zs_6 (q := (RX4, TX4, 2)) rfl rfl (zc_X4_addStep _ _ s141 hI144 k149 hk151 20 ⟨by omega, by omega⟩) rfl rfl (Nat.le_of_ble_eq_true rfl) (by decide) (fun r152 s153 hr154 hp155 => ?_)
                  obtain ⟨hI156, hF157, z158⟩ := hp155
                  have hF159 := zFA_tr hF147 hF157
                  have b160 := zv_14_5 hI156 zc_27
                  refine zt_goto (tgt := 203) hX dX1_part_159 (by decide) ?_
                  exact zt_vret hX hR dX1_part_203 ⟨hI156, hF159, by omega⟩
          · refine zt_mask [true, true, true, false] rfl ?_
            exact J_98_47
      · refine zt_aload_n (pc' := 60) hX dX1_part_59 rfl rfl ?_
        refine zt_iload_n (pc' := 61) hX dX1_part_60 rfl rfl ?_
        refine zt_cVz (pc' := 64) hX dX1_part_61 rfl zm_yX1_opens zw_22_11 zc_33 (by decide) zs_20 (q := (RX1, TX1, 3)) rfl rfl (zc_X1_opens_o3 _ _ σ hI (by omega)) rfl rfl (Nat.le_of_ble_eq_true rfl) (by decide) (fun r161 s162 hr163 hp164 => ?_)
        obtain ⟨hI165, hF166, q167, q168, z169⟩ := hp164
        have hF170 := zFA_tr hF hF166
        have b171 := zv_14_5 hI165 zc_27
        refine zt_ifeq (pc' := 67) (tgt := 203) hX dX1_part_64 rfl (by decide) ⟨by omega, by omega⟩ (fun c172 => ?_) (fun c172 => ?_)
        · exact absurd c172 (by omega)
        · refine zt_aload_n (pc' := 68) hX dX1_part_67 rfl rfl ?_
          refine zt_iload_n (pc' := 69) hX dX1_part_68 rfl rfl ?_
          refine zt_iconst (pc' := 70) hX dX1_part_69 rfl ?_
          refine zt_iadd (pc' := 71) hX dX1_part_70 rfl ?_
          rw [show (3 + 1 : Int) = 4 from rfl]
          refine zt_cVv (pc' := 74) hX dX1_part_71 rfl zm_yX1_sum zw_21_19 zc_33 (by decide) zs_20 (q := (RX1, TX1, 3)) rfl rfl (zc_X1_sum_o4 _ _ s162 hI165 (by omega)) rfl rfl (Nat.le_of_ble_eq_true rfl) (by decide) (fun r173 s174 hr175 hp176 => ?_)
          obtain ⟨hI177, hF178, z179⟩ := hp176
          have hF180 := zFA_tr hF170 hF178
          have b181 := zv_14_5 hI177 zc_27
          refine zt_aload_n (pc' := 75) hX dX1_part_74 rfl rfl ?_
          refine zt_get (pc' := 78) (v := .ref (X.1.1 + 27)) hX dX1_part_75 rfl zf_X1_15 (by decide) zc_33 zs_20 (zrf_of (zv_20_0 hI177 zc_33)) ?_
          refine zt_bipush (pc' := 80) hX dX1_part_78 rfl (by decide) (by decide) ?_
          refine zt_cVv (pc' := 83) hX dX1_part_80 rfl zm_yX5_takeSign zw_22_15 zc_27 (by decide) zs_14 (q := (RX5, TX5, 9)) rfl rfl (zc_X5_takeSign _ _ s174 hI177 41 ⟨by omega, by omega⟩ (by omega)) rfl rfl (Nat.le_of_ble_eq_true rfl) (by decide) (fun r182 s183 hr184 hp185 => ?_)
          obtain ⟨hI186, hF187, z188⟩ := hp185
          have hF189 := zFA_tr hF180 hF187
          have b190 := zv_14_5 hI186 zc_27
          refine zt_goto (tgt := 203) hX dX1_part_83 (by decide) ?_
          exact zt_vret hX hR dX1_part_203 ⟨hI186, hF189, by omega⟩
    · refine zt_mask [true, false, false, false] rfl ?_
      exact J_26_13

set_option maxRecDepth 100000 in
set_option maxHeartbeats 4000000 in
theorem zc_X1_product_o3 (l : Launch) (E : zEN) (σ : zSto) (hI : zInv σ) (hpre0 : σ 27 5 ≤ 1600) : zCt l E yX1_product cX1_product 4 none 16 zNC zNC 0 0 σ [.ref (E.1 + 33), .int (zI 3)] (fun r σ' => zInv σ' ∧ zFA σ σ' ∧ (σ' 27 5 = σ 27 5)) := by
  refine zCt_of2 [some (.ref (E.1 + 33)), some (.int (zI 3)), none, none] (by decide +kernel) (Nat.le_of_ble_eq_true rfl) rfl ?_
  intro X hE hX hR hL hN
  subst hE
  have hX : zok X cX1_product RX1 16 := hX
  have hF := zFA_rf σ
  have b1 := zv_14_5 hI zc_27
  refine zt_aload_n (pc' := 1) hX dX1_product_0 rfl rfl ?_
  refine zt_iload_n (pc' := 2) hX dX1_product_1 rfl rfl ?_
  refine zt_cVv (pc' := 5) hX dX1_product_2 rfl zm_yX1_part zw_23_4 zc_33 (by decide) zs_20 (q := (RX1, TX1, 3)) rfl rfl (zc_X1_part_o3 _ _ σ hI (by omega)) rfl rfl (Nat.le_of_ble_eq_true rfl) (by decide) (fun r2 s3 hr4 hp5 => ?_)
  obtain ⟨hI6, hF7, z8⟩ := hp5
  have hF9 := zFA_tr hF hF7
  have b10 := zv_14_5 hI6 zc_27
  refine zt_iconst (pc' := 6) hX dX1_product_5 rfl ?_
  refine zt_istore_n (pc' := 7) (lv' := [some (.ref (X.1.1 + 33)), some (.int (zI 3)), some (.int (zI 0)), none]) hX dX1_product_6 rfl hL (by decide) rfl ?_
  have L_7_17 : ∀ (N : Nat) (x11 : Int) (s14 : zSto), 0 ≤ x11 → x11 ≤ 1600 → zInv s14 → zFA σ s14 → s14 27 5 = σ 27 5 → ((1601 - x11).toNat) < N → zF X s14 7 [some (.ref (X.1.1 + 33)), some (.int (zI 3)), some (.int (zI x11)), none] [] := by
    intro N
    induction N with
    | zero =>
      intro x11 s14 h12 h13 hI15 hF16 g17 hm19
      exact absurd hm19 (Nat.not_lt_zero _)
    | succ N ih20 =>
      intro x11 s14 h12 h13 hI15 hF16 g17 hm19
      have b21 := zv_14_5 hI15 zc_27
      refine zt_iload_n (pc' := 8) hX dX1_product_7 rfl rfl ?_
      refine zt_sipush (pc' := 11) hX dX1_product_8 rfl (by decide) (by decide) ?_
      refine zt_icge (pc' := 14) (tgt := 72) hX dX1_product_11 rfl (by decide) ⟨by omega, by omega⟩ ⟨by omega, by omega⟩ (fun c22 => ?_) (fun c22 => ?_)
      · exact zt_vret hX hR dX1_product_72 ⟨hI15, hF16, by omega⟩
      · refine zt_aload_n (pc' := 15) hX dX1_product_14 rfl rfl ?_
        refine zt_get (pc' := 18) (v := .ref (X.1.1 + 27)) hX dX1_product_15 rfl zf_X1_15 (by decide) zc_33 zs_20 (zrf_of (zv_20_0 hI15 zc_33)) ?_
        refine zt_cVi (pc' := 21) hX dX1_product_18 rfl zm_yX5_signHere zw_22_2 zc_27 (by decide) zs_14 (q := (RX5, TX5, 9)) rfl rfl (zc_X5_signHere _ _ s14 hI15 ) rfl rfl (Nat.le_of_ble_eq_true rfl) (by decide) (fun r23 s24 hr25 hp26 => ?_)
        obtain ⟨rfl, q27, q28⟩ := hp26
        refine zt_bipush (pc' := 23) hX dX1_product_21 rfl (by decide) (by decide) ?_
        have J_38_28 : zF X s14 38 [some (.ref (X.1.1 + 33)), some (.int (zI 3)), some (.int (zI x11)), none] [] := by
          refine zt_aload_n (pc' := 39) hX dX1_product_38 rfl rfl ?_
          refine zt_get (pc' := 42) (v := .ref (X.1.1 + 27)) hX dX1_product_39 rfl zf_X1_15 (by decide) zc_33 zs_20 (zrf_of (zv_20_0 hI15 zc_33)) ?_
          refine zt_cVi (pc' := 45) hX dX1_product_42 rfl zm_yX5_signHere zw_22_2 zc_27 (by decide) zs_14 (q := (RX5, TX5, 9)) rfl rfl (zc_X5_signHere _ _ s14 hI15 ) rfl rfl (Nat.le_of_ble_eq_true rfl) (by decide) (fun r30 s31 hr32 hp33 => ?_)
          obtain ⟨rfl, q34, q35⟩ := hp33
          refine zt_istore_n (pc' := 46) (lv' := [some (.ref (X.1.1 + 33)), some (.int (zI 3)), some (.int (zI x11)), some (.int (zI r30))]) hX dX1_product_45 rfl hL (by decide) rfl ?_
          refine zt_aload_n (pc' := 47) hX dX1_product_46 rfl rfl ?_
          refine zt_get (pc' := 50) (v := .ref (X.1.1 + 27)) hX dX1_product_47 rfl zf_X1_15 (by decide) zc_33 zs_20 (zrf_of (zv_20_0 hI15 zc_33)) ?_
          refine zt_cVv (pc' := 53) hX dX1_product_50 rfl zm_yX5_step zw_22_6 zc_27 (by decide) zs_14 (q := (RX5, TX5, 9)) rfl rfl (zc_X5_step _ _ s14 hI15 (by omega)) rfl rfl (Nat.le_of_ble_eq_true rfl) (by decide) (fun r36 s37 hr38 hp39 => ?_)
          obtain ⟨hI40, hF41, z42⟩ := hp39
          have hF43 := zFA_tr hF16 hF41
          have b44 := zv_14_5 hI40 zc_27
          refine zt_aload_n (pc' := 54) hX dX1_product_53 rfl rfl ?_
          refine zt_iload_n (pc' := 55) hX dX1_product_54 rfl rfl ?_
          refine zt_cVv (pc' := 58) hX dX1_product_55 rfl zm_yX1_part zw_23_4 zc_33 (by decide) zs_20 (q := (RX1, TX1, 3)) rfl rfl (zc_X1_part_o3 _ _ s37 hI40 (by omega)) rfl rfl (Nat.le_of_ble_eq_true rfl) (by decide) (fun r45 s46 hr47 hp48 => ?_)
          obtain ⟨hI49, hF50, z51⟩ := hp48
          have hF52 := zFA_tr hF43 hF50
          have b53 := zv_14_5 hI49 zc_27
          refine zt_aload_n (pc' := 59) hX dX1_product_58 rfl rfl ?_
          obtain ⟨k54, ek55, hk56⟩ := zv_20_1 hI49 zc_33
          refine zt_get (pc' := 62) (v := .ref (X.1.1 + k54)) hX dX1_product_59 rfl zf_X1_19 (by decide) zc_33 zs_20 (zrf_of ek55) ?_
          refine zt_iload_n (pc' := 63) hX dX1_product_62 rfl rfl ?_
          refine zt_cVv (pc' := 66) hX dX1_product_63 rfl zm_yX4_addStep zw_22_7 hk56 (by decide) zs_6 (q := (RX4, TX4, 2)) rfl rfl (zc_X4_addStep _ _ s46 hI49 k54 hk56 r30 ⟨by omega, by omega⟩) rfl rfl (Nat.le_of_ble_eq_true rfl) (by decide) (fun r57 s58 hr59 hp60 => ?_)
          obtain ⟨hI61, hF62, z63⟩ := hp60
          have hF64 := zFA_tr hF52 hF62
          have b65 := zv_14_5 hI61 zc_27
          refine zt_iinc (pc' := 69) (lv' := [some (.ref (X.1.1 + 33)), some (.int (zI 3)), some (.int (zI (x11 + 1))), some (.int (zI r30))]) hX dX1_product_66 rfl rfl hL (by decide) rfl ?_
          refine zt_goto (tgt := 7) hX dX1_product_69 (by decide) ?_
          refine zt_mask [true, true, true, false] rfl ?_
          exact ih20 (x11 + 1) s58 (by omega) (by omega) hI61 hF64 (by omega) (by omega)
        refine zt_iceq (pc' := 26) (tgt := 38) hX dX1_product_23 rfl (by decide) ⟨by omega, by omega⟩ ⟨by omega, by omega⟩ (fun c66 => ?_) (fun c66 => ?_)
        · exact J_38_28
        · refine zt_aload_n (pc' := 27) hX dX1_product_26 rfl rfl ?_
          refine zt_get (pc' := 30) (v := .ref (X.1.1 + 27)) hX dX1_product_27 rfl zf_X1_15 (by decide) zc_33 zs_20 (zrf_of (zv_20_0 hI15 zc_33)) ?_
          refine zt_cVi (pc' := 33) hX dX1_product_30 rfl zm_yX5_signHere zw_22_2 zc_27 (by decide) zs_14 (q := (RX5, TX5, 9)) rfl rfl (zc_X5_signHere _ _ s14 hI15 ) rfl rfl (Nat.le_of_ble_eq_true rfl) (by decide) (fun r67 s68 hr69 hp70 => ?_)
          obtain ⟨rfl, q71, q72⟩ := hp70
          refine zt_bipush (pc' := 35) hX dX1_product_33 rfl (by decide) (by decide) ?_
          refine zt_icne (pc' := 38) (tgt := 72) hX dX1_product_35 rfl (by decide) ⟨by omega, by omega⟩ ⟨by omega, by omega⟩ (fun c73 => ?_) (fun c73 => ?_)
          · exact zt_vret hX hR dX1_product_72 ⟨hI15, hF16, by omega⟩
          · exact J_38_28
  exact L_7_17 _ 0 s3 (by omega) (by omega) hI6 hF9 (by omega) (Nat.lt_succ_self _)

set_option maxRecDepth 100000 in
set_option maxHeartbeats 4000000 in
theorem zc_X1_sum_o3 (l : Launch) (E : zEN) (σ : zSto) (hI : zInv σ) (hpre0 : σ 27 5 ≤ 1600) : zCt l E yX1_sum cX1_sum 4 none 17 zNC zNC 0 0 σ [.ref (E.1 + 33), .int (zI 3)] (fun r σ' => zInv σ' ∧ zFA σ σ' ∧ (σ' 27 5 = σ 27 5)) := by
  refine zCt_of2 [some (.ref (E.1 + 33)), some (.int (zI 3)), none, none] (by decide +kernel) (Nat.le_of_ble_eq_true rfl) rfl ?_
  intro X hE hX hR hL hN
  subst hE
  have hX : zok X cX1_sum RX1 17 := hX
  have hF := zFA_rf σ
  have b1 := zv_14_5 hI zc_27
  refine zt_aload_n (pc' := 1) hX dX1_sum_0 rfl rfl ?_
  refine zt_iload_n (pc' := 2) hX dX1_sum_1 rfl rfl ?_
  refine zt_cVv (pc' := 5) hX dX1_sum_2 rfl zm_yX1_product zw_21_23 zc_33 (by decide) zs_20 (q := (RX1, TX1, 3)) rfl rfl (zc_X1_product_o3 _ _ σ hI (by omega)) rfl rfl (Nat.le_of_ble_eq_true rfl) (by decide) (fun r2 s3 hr4 hp5 => ?_)
  obtain ⟨hI6, hF7, z8⟩ := hp5
  have hF9 := zFA_tr hF hF7
  have b10 := zv_14_5 hI6 zc_27
  refine zt_iconst (pc' := 6) hX dX1_sum_5 rfl ?_
  refine zt_istore_n (pc' := 7) (lv' := [some (.ref (X.1.1 + 33)), some (.int (zI 3)), some (.int (zI 0)), none]) hX dX1_sum_6 rfl hL (by decide) rfl ?_
  have L_7_17 : ∀ (N : Nat) (x11 : Int) (s14 : zSto), 0 ≤ x11 → x11 ≤ 1600 → zInv s14 → zFA σ s14 → s14 27 5 = σ 27 5 → ((1601 - x11).toNat) < N → zF X s14 7 [some (.ref (X.1.1 + 33)), some (.int (zI 3)), some (.int (zI x11)), none] [] := by
    intro N
    induction N with
    | zero =>
      intro x11 s14 h12 h13 hI15 hF16 g17 hm19
      exact absurd hm19 (Nat.not_lt_zero _)
    | succ N ih20 =>
      intro x11 s14 h12 h13 hI15 hF16 g17 hm19
      have b21 := zv_14_5 hI15 zc_27
      refine zt_iload_n (pc' := 8) hX dX1_sum_7 rfl rfl ?_
      refine zt_sipush (pc' := 11) hX dX1_sum_8 rfl (by decide) (by decide) ?_
      refine zt_icge (pc' := 14) (tgt := 72) hX dX1_sum_11 rfl (by decide) ⟨by omega, by omega⟩ ⟨by omega, by omega⟩ (fun c22 => ?_) (fun c22 => ?_)
      · exact zt_vret hX hR dX1_sum_72 ⟨hI15, hF16, by omega⟩
      · refine zt_aload_n (pc' := 15) hX dX1_sum_14 rfl rfl ?_
        refine zt_get (pc' := 18) (v := .ref (X.1.1 + 27)) hX dX1_sum_15 rfl zf_X1_15 (by decide) zc_33 zs_20 (zrf_of (zv_20_0 hI15 zc_33)) ?_
        refine zt_cVi (pc' := 21) hX dX1_sum_18 rfl zm_yX5_signHere zw_22_2 zc_27 (by decide) zs_14 (q := (RX5, TX5, 9)) rfl rfl (zc_X5_signHere _ _ s14 hI15 ) rfl rfl (Nat.le_of_ble_eq_true rfl) (by decide) (fun r23 s24 hr25 hp26 => ?_)
        obtain ⟨rfl, q27, q28⟩ := hp26
        refine zt_bipush (pc' := 23) hX dX1_sum_21 rfl (by decide) (by decide) ?_
        have J_38_28 : zF X s14 38 [some (.ref (X.1.1 + 33)), some (.int (zI 3)), some (.int (zI x11)), none] [] := by
          refine zt_aload_n (pc' := 39) hX dX1_sum_38 rfl rfl ?_
          refine zt_get (pc' := 42) (v := .ref (X.1.1 + 27)) hX dX1_sum_39 rfl zf_X1_15 (by decide) zc_33 zs_20 (zrf_of (zv_20_0 hI15 zc_33)) ?_
          refine zt_cVi (pc' := 45) hX dX1_sum_42 rfl zm_yX5_signHere zw_22_2 zc_27 (by decide) zs_14 (q := (RX5, TX5, 9)) rfl rfl (zc_X5_signHere _ _ s14 hI15 ) rfl rfl (Nat.le_of_ble_eq_true rfl) (by decide) (fun r30 s31 hr32 hp33 => ?_)
          obtain ⟨rfl, q34, q35⟩ := hp33
          refine zt_istore_n (pc' := 46) (lv' := [some (.ref (X.1.1 + 33)), some (.int (zI 3)), some (.int (zI x11)), some (.int (zI r30))]) hX dX1_sum_45 rfl hL (by decide) rfl ?_
          refine zt_aload_n (pc' := 47) hX dX1_sum_46 rfl rfl ?_
          refine zt_get (pc' := 50) (v := .ref (X.1.1 + 27)) hX dX1_sum_47 rfl zf_X1_15 (by decide) zc_33 zs_20 (zrf_of (zv_20_0 hI15 zc_33)) ?_
          refine zt_cVv (pc' := 53) hX dX1_sum_50 rfl zm_yX5_step zw_22_6 zc_27 (by decide) zs_14 (q := (RX5, TX5, 9)) rfl rfl (zc_X5_step _ _ s14 hI15 (by omega)) rfl rfl (Nat.le_of_ble_eq_true rfl) (by decide) (fun r36 s37 hr38 hp39 => ?_)
          obtain ⟨hI40, hF41, z42⟩ := hp39
          have hF43 := zFA_tr hF16 hF41
          have b44 := zv_14_5 hI40 zc_27
          refine zt_aload_n (pc' := 54) hX dX1_sum_53 rfl rfl ?_
          refine zt_iload_n (pc' := 55) hX dX1_sum_54 rfl rfl ?_
          refine zt_cVv (pc' := 58) hX dX1_sum_55 rfl zm_yX1_product zw_21_23 zc_33 (by decide) zs_20 (q := (RX1, TX1, 3)) rfl rfl (zc_X1_product_o3 _ _ s37 hI40 (by omega)) rfl rfl (Nat.le_of_ble_eq_true rfl) (by decide) (fun r45 s46 hr47 hp48 => ?_)
          obtain ⟨hI49, hF50, z51⟩ := hp48
          have hF52 := zFA_tr hF43 hF50
          have b53 := zv_14_5 hI49 zc_27
          refine zt_aload_n (pc' := 59) hX dX1_sum_58 rfl rfl ?_
          obtain ⟨k54, ek55, hk56⟩ := zv_20_1 hI49 zc_33
          refine zt_get (pc' := 62) (v := .ref (X.1.1 + k54)) hX dX1_sum_59 rfl zf_X1_19 (by decide) zc_33 zs_20 (zrf_of ek55) ?_
          refine zt_iload_n (pc' := 63) hX dX1_sum_62 rfl rfl ?_
          refine zt_cVv (pc' := 66) hX dX1_sum_63 rfl zm_yX4_addStep zw_22_7 hk56 (by decide) zs_6 (q := (RX4, TX4, 2)) rfl rfl (zc_X4_addStep _ _ s46 hI49 k54 hk56 r30 ⟨by omega, by omega⟩) rfl rfl (Nat.le_of_ble_eq_true rfl) (by decide) (fun r57 s58 hr59 hp60 => ?_)
          obtain ⟨hI61, hF62, z63⟩ := hp60
          have hF64 := zFA_tr hF52 hF62
          have b65 := zv_14_5 hI61 zc_27
          refine zt_iinc (pc' := 69) (lv' := [some (.ref (X.1.1 + 33)), some (.int (zI 3)), some (.int (zI (x11 + 1))), some (.int (zI r30))]) hX dX1_sum_66 rfl rfl hL (by decide) rfl ?_
          refine zt_goto (tgt := 7) hX dX1_sum_69 (by decide) ?_
          refine zt_mask [true, true, true, false] rfl ?_
          exact ih20 (x11 + 1) s58 (by omega) (by omega) hI61 hF64 (by omega) (by omega)
        refine zt_iceq (pc' := 26) (tgt := 38) hX dX1_sum_23 rfl (by decide) ⟨by omega, by omega⟩ ⟨by omega, by omega⟩ (fun c66 => ?_) (fun c66 => ?_)
        · exact J_38_28
        · refine zt_aload_n (pc' := 27) hX dX1_sum_26 rfl rfl ?_
          refine zt_get (pc' := 30) (v := .ref (X.1.1 + 27)) hX dX1_sum_27 rfl zf_X1_15 (by decide) zc_33 zs_20 (zrf_of (zv_20_0 hI15 zc_33)) ?_
          refine zt_cVi (pc' := 33) hX dX1_sum_30 rfl zm_yX5_signHere zw_22_2 zc_27 (by decide) zs_14 (q := (RX5, TX5, 9)) rfl rfl (zc_X5_signHere _ _ s14 hI15 ) rfl rfl (Nat.le_of_ble_eq_true rfl) (by decide) (fun r67 s68 hr69 hp70 => ?_)
          obtain ⟨rfl, q71, q72⟩ := hp70
          refine zt_bipush (pc' := 35) hX dX1_sum_33 rfl (by decide) (by decide) ?_
          refine zt_icne (pc' := 38) (tgt := 72) hX dX1_sum_35 rfl (by decide) ⟨by omega, by omega⟩ ⟨by omega, by omega⟩ (fun c73 => ?_) (fun c73 => ?_)
          · exact zt_vret hX hR dX1_sum_72 ⟨hI15, hF16, by omega⟩
          · exact J_38_28
  exact L_7_17 _ 0 s3 (by omega) (by omega) hI6 hF9 (by omega) (Nat.lt_succ_self _)

set_option maxRecDepth 100000 in
set_option maxHeartbeats 4000000 in
theorem zc_X1_comparison_o3 (l : Launch) (E : zEN) (σ : zSto) (hI : zInv σ) (hpre0 : σ 27 5 ≤ 1600) : zCt l E yX1_comparison cX1_comparison 3 none 18 zNC zNC 0 0 σ [.ref (E.1 + 33), .int (zI 3)] (fun r σ' => zInv σ' ∧ zFA σ σ' ∧ (σ' 27 5 = σ 27 5)) := by
  refine zCt_of2 [some (.ref (E.1 + 33)), some (.int (zI 3)), none] (by decide +kernel) (Nat.le_of_ble_eq_true rfl) rfl ?_
  intro X hE hX hR hL hN
  subst hE
  have hX : zok X cX1_comparison RX1 18 := hX
  have hF := zFA_rf σ
  have b1 := zv_14_5 hI zc_27
  refine zt_aload_n (pc' := 1) hX dX1_comparison_0 rfl rfl ?_
  refine zt_iload_n (pc' := 2) hX dX1_comparison_1 rfl rfl ?_
  refine zt_cVv (pc' := 5) hX dX1_comparison_2 rfl zm_yX1_sum zw_21_19 zc_33 (by decide) zs_20 (q := (RX1, TX1, 3)) rfl rfl (zc_X1_sum_o3 _ _ σ hI (by omega)) rfl rfl (Nat.le_of_ble_eq_true rfl) (by decide) (fun r2 s3 hr4 hp5 => ?_)
  obtain ⟨hI6, hF7, z8⟩ := hp5
  have hF9 := zFA_tr hF hF7
  have b10 := zv_14_5 hI6 zc_27
  refine zt_aload_n (pc' := 6) hX dX1_comparison_5 rfl rfl ?_
  refine zt_get (pc' := 9) (v := .ref (X.1.1 + 27)) hX dX1_comparison_6 rfl zf_X1_15 (by decide) zc_33 zs_20 (zrf_of (zv_20_0 hI6 zc_33)) ?_
  refine zt_cVi (pc' := 12) hX dX1_comparison_9 rfl zm_yX5_signHere zw_22_2 zc_27 (by decide) zs_14 (q := (RX5, TX5, 9)) rfl rfl (zc_X5_signHere _ _ s3 hI6 ) rfl rfl (Nat.le_of_ble_eq_true rfl) (by decide) (fun r11 s12 hr13 hp14 => ?_)
  obtain ⟨rfl, q15, q16⟩ := hp14
  refine zt_istore_n (pc' := 13) (lv' := [some (.ref (X.1.1 + 33)), some (.int (zI 3)), some (.int (zI r11))]) hX dX1_comparison_12 rfl hL (by decide) rfl ?_
  refine zt_iload_n (pc' := 14) hX dX1_comparison_13 rfl rfl ?_
  refine zt_bipush (pc' := 16) hX dX1_comparison_14 rfl (by decide) (by decide) ?_
  have J_31_16 : zF X s3 31 [some (.ref (X.1.1 + 33)), some (.int (zI 3)), some (.int (zI r11))] [] := by
    refine zt_aload_n (pc' := 32) hX dX1_comparison_31 rfl rfl ?_
    refine zt_get (pc' := 35) (v := .ref (X.1.1 + 27)) hX dX1_comparison_32 rfl zf_X1_15 (by decide) zc_33 zs_20 (zrf_of (zv_20_0 hI6 zc_33)) ?_
    refine zt_cVv (pc' := 38) hX dX1_comparison_35 rfl zm_yX5_step zw_22_6 zc_27 (by decide) zs_14 (q := (RX5, TX5, 9)) rfl rfl (zc_X5_step _ _ s3 hI6 (by omega)) rfl rfl (Nat.le_of_ble_eq_true rfl) (by decide) (fun r18 s19 hr20 hp21 => ?_)
    obtain ⟨hI22, hF23, z24⟩ := hp21
    have hF25 := zFA_tr hF9 hF23
    have b26 := zv_14_5 hI22 zc_27
    refine zt_aload_n (pc' := 39) hX dX1_comparison_38 rfl rfl ?_
    refine zt_iload_n (pc' := 40) hX dX1_comparison_39 rfl rfl ?_
    refine zt_cVv (pc' := 43) hX dX1_comparison_40 rfl zm_yX1_sum zw_21_19 zc_33 (by decide) zs_20 (q := (RX1, TX1, 3)) rfl rfl (zc_X1_sum_o3 _ _ s19 hI22 (by omega)) rfl rfl (Nat.le_of_ble_eq_true rfl) (by decide) (fun r27 s28 hr29 hp30 => ?_)
    obtain ⟨hI31, hF32, z33⟩ := hp30
    have hF34 := zFA_tr hF25 hF32
    have b35 := zv_14_5 hI31 zc_27
    refine zt_aload_n (pc' := 44) hX dX1_comparison_43 rfl rfl ?_
    obtain ⟨k36, ek37, hk38⟩ := zv_20_1 hI31 zc_33
    refine zt_get (pc' := 47) (v := .ref (X.1.1 + k36)) hX dX1_comparison_44 rfl zf_X1_19 (by decide) zc_33 zs_20 (zrf_of ek37) ?_
    refine zt_iload_n (pc' := 48) hX dX1_comparison_47 rfl rfl ?_
    refine zt_cVv (pc' := 51) hX dX1_comparison_48 rfl zm_yX4_addStep zw_22_7 hk38 (by decide) zs_6 (q := (RX4, TX4, 2)) rfl rfl (zc_X4_addStep _ _ s28 hI31 k36 hk38 r11 ⟨by omega, by omega⟩) rfl rfl (Nat.le_of_ble_eq_true rfl) (by decide) (fun r39 s40 hr41 hp42 => ?_)
    obtain ⟨hI43, hF44, z45⟩ := hp42
    have hF46 := zFA_tr hF34 hF44
    have b47 := zv_14_5 hI43 zc_27
    refine zt_goto (tgt := 69) hX dX1_comparison_51 (by decide) ?_
    exact zt_vret hX hR dX1_comparison_69 ⟨hI43, hF46, by omega⟩
  refine zt_iceq (pc' := 19) (tgt := 31) hX dX1_comparison_16 rfl (by decide) ⟨by omega, by omega⟩ ⟨by omega, by omega⟩ (fun c48 => ?_) (fun c48 => ?_)
  · exact J_31_16
  · refine zt_iload_n (pc' := 20) hX dX1_comparison_19 rfl rfl ?_
    refine zt_bipush (pc' := 22) hX dX1_comparison_20 rfl (by decide) (by decide) ?_
    refine zt_iceq (pc' := 25) (tgt := 31) hX dX1_comparison_22 rfl (by decide) ⟨by omega, by omega⟩ ⟨by omega, by omega⟩ (fun c49 => ?_) (fun c49 => ?_)
    · exact J_31_16
    · refine zt_iload_n (pc' := 26) hX dX1_comparison_25 rfl rfl ?_
      refine zt_bipush (pc' := 28) hX dX1_comparison_26 rfl (by decide) (by decide) ?_
      refine zt_icne (pc' := 31) (tgt := 54) hX dX1_comparison_28 rfl (by decide) ⟨by omega, by omega⟩ ⟨by omega, by omega⟩ (fun c50 => ?_) (fun c50 => ?_)
      · refine zt_aload_n (pc' := 55) hX dX1_comparison_54 rfl rfl ?_
        refine zt_get (pc' := 58) (v := .ref (X.1.1 + 27)) hX dX1_comparison_55 rfl zf_X1_15 (by decide) zc_33 zs_20 (zrf_of (zv_20_0 hI6 zc_33)) ?_
        refine zt_iconst (pc' := 59) hX dX1_comparison_58 rfl ?_
        refine zt_aload_n (pc' := 60) hX dX1_comparison_59 rfl rfl ?_
        refine zt_get (pc' := 63) (v := .ref (X.1.1 + 27)) hX dX1_comparison_60 rfl zf_X1_15 (by decide) zc_33 zs_20 (zrf_of (zv_20_0 hI6 zc_33)) ?_
        refine zt_cVi (pc' := 66) hX dX1_comparison_63 rfl zm_yX5_placeHere zw_22_9 zc_27 (by decide) zs_14 (q := (RX5, TX5, 9)) rfl rfl (zc_X5_placeHere _ _ s3 hI6 ) rfl rfl (Nat.le_of_ble_eq_true rfl) (by decide) (fun r51 s52 hr53 hp54 => ?_)
        obtain ⟨rfl, q55, q56⟩ := hp54
        refine zt_cVv (pc' := 69) hX dX1_comparison_66 rfl zm_yX5_refuse zw_22_10 zc_27 (by decide) zs_14 (q := (RX5, TX5, 9)) rfl rfl (zc_X5_refuse _ _ s3 hI6 1 ⟨by omega, by omega⟩ r51 ⟨by omega, by omega⟩ (by omega)) rfl rfl (Nat.le_of_ble_eq_true rfl) (by decide) (fun r57 s58 hr59 hp60 => ?_)
        obtain ⟨hI61, hF62, z63⟩ := hp60
        have hF64 := zFA_tr hF9 hF62
        have b65 := zv_14_5 hI61 zc_27
        exact zt_vret hX hR dX1_comparison_69 ⟨hI61, hF64, by omega⟩
      · exact J_31_16

set_option maxRecDepth 100000 in
set_option maxHeartbeats 4000000 in
theorem zc_X1_fact_o3 (l : Launch) (E : zEN) (σ : zSto) (hI : zInv σ) (hpre0 : σ 27 5 ≤ 1600) : zCt l E yX1_fact cX1_fact 2 none 19 zNC zNC 0 0 σ [.ref (E.1 + 33), .int (zI 3)] (fun r σ' => zInv σ' ∧ zFA σ σ' ∧ (σ' 27 5 = σ 27 5)) := by
  refine zCt_of2 [some (.ref (E.1 + 33)), some (.int (zI 3))] (by decide +kernel) (Nat.le_of_ble_eq_true rfl) rfl ?_
  intro X hE hX hR hL hN
  subst hE
  have hX : zok X cX1_fact RX1 19 := hX
  have hF := zFA_rf σ
  have b1 := zv_14_5 hI zc_27
  refine zt_aload_n (pc' := 1) hX dX1_fact_0 rfl rfl ?_
  refine zt_get (pc' := 4) (v := .ref (X.1.1 + 27)) hX dX1_fact_1 rfl zf_X1_15 (by decide) zc_33 zs_20 (zrf_of (zv_20_0 hI zc_33)) ?_
  refine zt_cVi (pc' := 7) hX dX1_fact_4 rfl zm_yX5_wordHere zw_22_21 zc_27 (by decide) zs_14 (q := (RX5, TX5, 9)) rfl rfl (zc_X5_wordHere _ _ σ hI ) rfl rfl (Nat.le_of_ble_eq_true rfl) (by decide) (fun r2 s3 hr4 hp5 => ?_)
  obtain ⟨rfl, q6, q7⟩ := hp5
  refine zt_bipush (pc' := 9) hX dX1_fact_7 rfl (by decide) (by decide) ?_
  refine zt_icne (pc' := 12) (tgt := 39) hX dX1_fact_9 rfl (by decide) ⟨by omega, by omega⟩ ⟨by omega, by omega⟩ (fun c8 => ?_) (fun c8 => ?_)
  · refine zt_aload_n (pc' := 40) hX dX1_fact_39 rfl rfl ?_
    refine zt_get (pc' := 43) (v := .ref (X.1.1 + 27)) hX dX1_fact_40 rfl zf_X1_15 (by decide) zc_33 zs_20 (zrf_of (zv_20_0 hI zc_33)) ?_
    refine zt_cVi (pc' := 46) hX dX1_fact_43 rfl zm_yX5_signHere zw_22_2 zc_27 (by decide) zs_14 (q := (RX5, TX5, 9)) rfl rfl (zc_X5_signHere _ _ σ hI ) rfl rfl (Nat.le_of_ble_eq_true rfl) (by decide) (fun r9 s10 hr11 hp12 => ?_)
    obtain ⟨rfl, q13, q14⟩ := hp12
    refine zt_bipush (pc' := 48) hX dX1_fact_46 rfl (by decide) (by decide) ?_
    refine zt_icne (pc' := 51) (tgt := 78) hX dX1_fact_48 rfl (by decide) ⟨by omega, by omega⟩ ⟨by omega, by omega⟩ (fun c15 => ?_) (fun c15 => ?_)
    · refine zt_aload_n (pc' := 79) hX dX1_fact_78 rfl rfl ?_
      refine zt_get (pc' := 82) (v := .ref (X.1.1 + 27)) hX dX1_fact_79 rfl zf_X1_15 (by decide) zc_33 zs_20 (zrf_of (zv_20_0 hI zc_33)) ?_
      refine zt_cVi (pc' := 85) hX dX1_fact_82 rfl zm_yX5_wordHere zw_22_21 zc_27 (by decide) zs_14 (q := (RX5, TX5, 9)) rfl rfl (zc_X5_wordHere _ _ σ hI ) rfl rfl (Nat.le_of_ble_eq_true rfl) (by decide) (fun r16 s17 hr18 hp19 => ?_)
      obtain ⟨rfl, q20, q21⟩ := hp19
      refine zt_bipush (pc' := 87) hX dX1_fact_85 rfl (by decide) (by decide) ?_
      refine zt_icne (pc' := 90) (tgt := 109) hX dX1_fact_87 rfl (by decide) ⟨by omega, by omega⟩ ⟨by omega, by omega⟩ (fun c22 => ?_) (fun c22 => ?_)
      · refine zt_aload_n (pc' := 110) hX dX1_fact_109 rfl rfl ?_
        refine zt_iload_n (pc' := 111) hX dX1_fact_110 rfl rfl ?_
        refine zt_cVv (pc' := 114) hX dX1_fact_111 rfl zm_yX1_comparison zw_24_14 zc_33 (by decide) zs_20 (q := (RX1, TX1, 3)) rfl rfl (zc_X1_comparison_o3 _ _ σ hI (by omega)) rfl rfl (Nat.le_of_ble_eq_true rfl) (by decide) (fun r23 s24 hr25 hp26 => ?_)
        obtain ⟨hI27, hF28, z29⟩ := hp26
        have hF30 := zFA_tr hF hF28
        have b31 := zv_14_5 hI27 zc_27
        exact zt_vret hX hR dX1_fact_114 ⟨hI27, hF30, by omega⟩
      · refine zt_aload_n (pc' := 91) hX dX1_fact_90 rfl rfl ?_
        refine zt_get (pc' := 94) (v := .ref (X.1.1 + 27)) hX dX1_fact_91 rfl zf_X1_15 (by decide) zc_33 zs_20 (zrf_of (zv_20_0 hI zc_33)) ?_
        refine zt_cVv (pc' := 97) hX dX1_fact_94 rfl zm_yX5_step zw_22_6 zc_27 (by decide) zs_14 (q := (RX5, TX5, 9)) rfl rfl (zc_X5_step _ _ σ hI (by omega)) rfl rfl (Nat.le_of_ble_eq_true rfl) (by decide) (fun r32 s33 hr34 hp35 => ?_)
        obtain ⟨hI36, hF37, z38⟩ := hp35
        have hF39 := zFA_tr hF hF37
        have b40 := zv_14_5 hI36 zc_27
        refine zt_aload_n (pc' := 98) hX dX1_fact_97 rfl rfl ?_
        obtain ⟨k41, ek42, hk43⟩ := zv_20_1 hI36 zc_33
        refine zt_get (pc' := 101) (v := .ref (X.1.1 + k41)) hX dX1_fact_98 rfl zf_X1_19 (by decide) zc_33 zs_20 (zrf_of ek42) ?_
        refine zt_bipush (pc' := 103) hX dX1_fact_101 rfl (by decide) (by decide) ?_
        refine zt_cVv (pc' := 106) hX dX1_fact_103 rfl zm_yX4_addStep zw_22_7 hk43 (by decide) zs_6 (q := (RX4, TX4, 2)) rfl rfl (zc_X4_addStep _ _ s33 hI36 k41 hk43 24 ⟨by omega, by omega⟩) rfl rfl (Nat.le_of_ble_eq_true rfl) (by decide) (fun r44 s45 hr46 hp47 => ?_)
        obtain ⟨hI48, hF49, z50⟩ := hp47
        have hF51 := zFA_tr hF39 hF49
        have b52 := zv_14_5 hI48 zc_27
        refine zt_goto (tgt := 114) hX dX1_fact_106 (by decide) ?_
        exact zt_vret hX hR dX1_fact_114 ⟨hI48, hF51, by omega⟩
    · refine zt_aload_n (pc' := 52) hX dX1_fact_51 rfl rfl ?_
      refine zt_iload_n (pc' := 53) hX dX1_fact_52 rfl rfl ?_
      refine zt_cVz (pc' := 56) hX dX1_fact_53 rfl zm_yX1_opens zw_22_11 zc_33 (by decide) zs_20 (q := (RX1, TX1, 3)) rfl rfl (zc_X1_opens_o3 _ _ σ hI (by omega)) rfl rfl (Nat.le_of_ble_eq_true rfl) (by decide) (fun r53 s54 hr55 hp56 => ?_)
      obtain ⟨hI57, hF58, q59, q60, z61⟩ := hp56
      have hF62 := zFA_tr hF hF58
      have b63 := zv_14_5 hI57 zc_27
      refine zt_ifeq (pc' := 59) (tgt := 114) hX dX1_fact_56 rfl (by decide) ⟨by omega, by omega⟩ (fun c64 => ?_) (fun c64 => ?_)
      · exact absurd c64 (by omega)
      · refine zt_aload_n (pc' := 60) hX dX1_fact_59 rfl rfl ?_
        refine zt_iload_n (pc' := 61) hX dX1_fact_60 rfl rfl ?_
        refine zt_iconst (pc' := 62) hX dX1_fact_61 rfl ?_
        refine zt_iadd (pc' := 63) hX dX1_fact_62 rfl ?_
        rw [show (3 + 1 : Int) = 4 from rfl]
        refine zt_cVv (pc' := 66) hX dX1_fact_63 rfl zm_yX1_test zw_24_2 zc_33 (by decide) zs_20 (q := (RX1, TX1, 3)) rfl rfl (zc_X1_test_o4 _ _ s54 hI57 (by omega)) rfl rfl (Nat.le_of_ble_eq_true rfl) (by decide) (fun r65 s66 hr67 hp68 => ?_)
        obtain ⟨hI69, hF70, z71⟩ := hp68
        have hF72 := zFA_tr hF62 hF70
        have b73 := zv_14_5 hI69 zc_27
        refine zt_aload_n (pc' := 67) hX dX1_fact_66 rfl rfl ?_
        refine zt_get (pc' := 70) (v := .ref (X.1.1 + 27)) hX dX1_fact_67 rfl zf_X1_15 (by decide) zc_33 zs_20 (zrf_of (zv_20_0 hI69 zc_33)) ?_
        refine zt_bipush (pc' := 72) hX dX1_fact_70 rfl (by decide) (by decide) ?_
        refine zt_cVv (pc' := 75) hX dX1_fact_72 rfl zm_yX5_takeSign zw_22_15 zc_27 (by decide) zs_14 (q := (RX5, TX5, 9)) rfl rfl (zc_X5_takeSign _ _ s66 hI69 93 ⟨by omega, by omega⟩ (by omega)) rfl rfl (Nat.le_of_ble_eq_true rfl) (by decide) (fun r74 s75 hr76 hp77 => ?_)
        obtain ⟨hI78, hF79, z80⟩ := hp77
        have hF81 := zFA_tr hF72 hF79
        have b82 := zv_14_5 hI78 zc_27
        refine zt_goto (tgt := 114) hX dX1_fact_75 (by decide) ?_
        exact zt_vret hX hR dX1_fact_114 ⟨hI78, hF81, by omega⟩
  · refine zt_aload_n (pc' := 13) hX dX1_fact_12 rfl rfl ?_
    refine zt_iload_n (pc' := 14) hX dX1_fact_13 rfl rfl ?_
    refine zt_cVz (pc' := 17) hX dX1_fact_14 rfl zm_yX1_opens zw_22_11 zc_33 (by decide) zs_20 (q := (RX1, TX1, 3)) rfl rfl (zc_X1_opens_o3 _ _ σ hI (by omega)) rfl rfl (Nat.le_of_ble_eq_true rfl) (by decide) (fun r83 s84 hr85 hp86 => ?_)
    obtain ⟨hI87, hF88, q89, q90, z91⟩ := hp86
    have hF92 := zFA_tr hF hF88
    have b93 := zv_14_5 hI87 zc_27
    refine zt_ifeq (pc' := 20) (tgt := 114) hX dX1_fact_17 rfl (by decide) ⟨by omega, by omega⟩ (fun c94 => ?_) (fun c94 => ?_)
    · exact absurd c94 (by omega)
    · refine zt_aload_n (pc' := 21) hX dX1_fact_20 rfl rfl ?_
      refine zt_iload_n (pc' := 22) hX dX1_fact_21 rfl rfl ?_
      refine zt_iconst (pc' := 23) hX dX1_fact_22 rfl ?_
      refine zt_iadd (pc' := 24) hX dX1_fact_23 rfl ?_
      rw [show (3 + 1 : Int) = 4 from rfl]
      refine zt_cVv (pc' := 27) hX dX1_fact_24 rfl zm_yX1_fact zw_24_10 zc_33 (by decide) zs_20 (q := (RX1, TX1, 3)) rfl rfl (zc_X1_fact_o4 _ _ s84 hI87 (by omega)) rfl rfl (Nat.le_of_ble_eq_true rfl) (by decide) (fun r95 s96 hr97 hp98 => ?_)
      obtain ⟨hI99, hF100, z101⟩ := hp98
      have hF102 := zFA_tr hF92 hF100
      have b103 := zv_14_5 hI99 zc_27
      refine zt_aload_n (pc' := 28) hX dX1_fact_27 rfl rfl ?_
      obtain ⟨k104, ek105, hk106⟩ := zv_20_1 hI99 zc_33
      refine zt_get (pc' := 31) (v := .ref (X.1.1 + k104)) hX dX1_fact_28 rfl zf_X1_19 (by decide) zc_33 zs_20 (zrf_of ek105) ?_
      refine zt_bipush (pc' := 33) hX dX1_fact_31 rfl (by decide) (by decide) ?_
      refine zt_cVv (pc' := 36) hX dX1_fact_33 rfl zm_yX4_addStep zw_22_7 hk106 (by decide) zs_6 (q := (RX4, TX4, 2)) rfl rfl (zc_X4_addStep _ _ s96 hI99 k104 hk106 23 ⟨by omega, by omega⟩) rfl rfl (Nat.le_of_ble_eq_true rfl) (by decide) (fun r107 s108 hr109 hp110 => ?_)
      obtain ⟨hI111, hF112, z113⟩ := hp110
      have hF114 := zFA_tr hF102 hF112
      have b115 := zv_14_5 hI111 zc_27
      refine zt_goto (tgt := 114) hX dX1_fact_36 (by decide) ?_
      exact zt_vret hX hR dX1_fact_114 ⟨hI111, hF114, by omega⟩

set_option maxRecDepth 100000 in
set_option maxHeartbeats 4000000 in
theorem zc_X1_both_o3 (l : Launch) (E : zEN) (σ : zSto) (hI : zInv σ) (hpre0 : σ 27 5 ≤ 1600) : zCt l E yX1_both cX1_both 3 none 20 zNC zNC 0 0 σ [.ref (E.1 + 33), .int (zI 3)] (fun r σ' => zInv σ' ∧ zFA σ σ' ∧ (σ' 27 5 = σ 27 5)) := by
  refine zCt_of2 [some (.ref (E.1 + 33)), some (.int (zI 3)), none] (by decide +kernel) (Nat.le_of_ble_eq_true rfl) rfl ?_
  intro X hE hX hR hL hN
  subst hE
  have hX : zok X cX1_both RX1 20 := hX
  have hF := zFA_rf σ
  have b1 := zv_14_5 hI zc_27
  refine zt_aload_n (pc' := 1) hX dX1_both_0 rfl rfl ?_
  refine zt_iload_n (pc' := 2) hX dX1_both_1 rfl rfl ?_
  refine zt_cVv (pc' := 5) hX dX1_both_2 rfl zm_yX1_fact zw_24_10 zc_33 (by decide) zs_20 (q := (RX1, TX1, 3)) rfl rfl (zc_X1_fact_o3 _ _ σ hI (by omega)) rfl rfl (Nat.le_of_ble_eq_true rfl) (by decide) (fun r2 s3 hr4 hp5 => ?_)
  obtain ⟨hI6, hF7, z8⟩ := hp5
  have hF9 := zFA_tr hF hF7
  have b10 := zv_14_5 hI6 zc_27
  refine zt_iconst (pc' := 6) hX dX1_both_5 rfl ?_
  refine zt_istore_n (pc' := 7) (lv' := [some (.ref (X.1.1 + 33)), some (.int (zI 3)), some (.int (zI 0))]) hX dX1_both_6 rfl hL (by decide) rfl ?_
  have L_7_17 : ∀ (N : Nat) (x11 : Int) (s14 : zSto), 0 ≤ x11 → x11 ≤ 1600 → zInv s14 → zFA σ s14 → s14 27 5 = σ 27 5 → ((1601 - x11).toNat) < N → zF X s14 7 [some (.ref (X.1.1 + 33)), some (.int (zI 3)), some (.int (zI x11))] [] := by
    intro N
    induction N with
    | zero =>
      intro x11 s14 h12 h13 hI15 hF16 g17 hm19
      exact absurd hm19 (Nat.not_lt_zero _)
    | succ N ih20 =>
      intro x11 s14 h12 h13 hI15 hF16 g17 hm19
      have b21 := zv_14_5 hI15 zc_27
      refine zt_iload_n (pc' := 8) hX dX1_both_7 rfl rfl ?_
      refine zt_sipush (pc' := 11) hX dX1_both_8 rfl (by decide) (by decide) ?_
      refine zt_icge (pc' := 14) (tgt := 53) hX dX1_both_11 rfl (by decide) ⟨by omega, by omega⟩ ⟨by omega, by omega⟩ (fun c22 => ?_) (fun c22 => ?_)
      · exact zt_vret hX hR dX1_both_53 ⟨hI15, hF16, by omega⟩
      · refine zt_aload_n (pc' := 15) hX dX1_both_14 rfl rfl ?_
        refine zt_get (pc' := 18) (v := .ref (X.1.1 + 27)) hX dX1_both_15 rfl zf_X1_15 (by decide) zc_33 zs_20 (zrf_of (zv_20_0 hI15 zc_33)) ?_
        refine zt_cVi (pc' := 21) hX dX1_both_18 rfl zm_yX5_wordHere zw_22_21 zc_27 (by decide) zs_14 (q := (RX5, TX5, 9)) rfl rfl (zc_X5_wordHere _ _ s14 hI15 ) rfl rfl (Nat.le_of_ble_eq_true rfl) (by decide) (fun r23 s24 hr25 hp26 => ?_)
        obtain ⟨rfl, q27, q28⟩ := hp26
        refine zt_bipush (pc' := 23) hX dX1_both_21 rfl (by decide) (by decide) ?_
        refine zt_icne (pc' := 26) (tgt := 53) hX dX1_both_23 rfl (by decide) ⟨by omega, by omega⟩ ⟨by omega, by omega⟩ (fun c29 => ?_) (fun c29 => ?_)
        · exact zt_vret hX hR dX1_both_53 ⟨hI15, hF16, by omega⟩
        · refine zt_aload_n (pc' := 27) hX dX1_both_26 rfl rfl ?_
          refine zt_get (pc' := 30) (v := .ref (X.1.1 + 27)) hX dX1_both_27 rfl zf_X1_15 (by decide) zc_33 zs_20 (zrf_of (zv_20_0 hI15 zc_33)) ?_
          refine zt_cVv (pc' := 33) hX dX1_both_30 rfl zm_yX5_step zw_22_6 zc_27 (by decide) zs_14 (q := (RX5, TX5, 9)) rfl rfl (zc_X5_step _ _ s14 hI15 (by omega)) rfl rfl (Nat.le_of_ble_eq_true rfl) (by decide) (fun r30 s31 hr32 hp33 => ?_)
          obtain ⟨hI34, hF35, z36⟩ := hp33
          have hF37 := zFA_tr hF16 hF35
          have b38 := zv_14_5 hI34 zc_27
          refine zt_aload_n (pc' := 34) hX dX1_both_33 rfl rfl ?_
          refine zt_iload_n (pc' := 35) hX dX1_both_34 rfl rfl ?_
          refine zt_cVv (pc' := 38) hX dX1_both_35 rfl zm_yX1_fact zw_24_10 zc_33 (by decide) zs_20 (q := (RX1, TX1, 3)) rfl rfl (zc_X1_fact_o3 _ _ s31 hI34 (by omega)) rfl rfl (Nat.le_of_ble_eq_true rfl) (by decide) (fun r39 s40 hr41 hp42 => ?_)
          obtain ⟨hI43, hF44, z45⟩ := hp42
          have hF46 := zFA_tr hF37 hF44
          have b47 := zv_14_5 hI43 zc_27
          refine zt_aload_n (pc' := 39) hX dX1_both_38 rfl rfl ?_
          obtain ⟨k48, ek49, hk50⟩ := zv_20_1 hI43 zc_33
          refine zt_get (pc' := 42) (v := .ref (X.1.1 + k48)) hX dX1_both_39 rfl zf_X1_19 (by decide) zc_33 zs_20 (zrf_of ek49) ?_
          refine zt_bipush (pc' := 44) hX dX1_both_42 rfl (by decide) (by decide) ?_
          refine zt_cVv (pc' := 47) hX dX1_both_44 rfl zm_yX4_addStep zw_22_7 hk50 (by decide) zs_6 (q := (RX4, TX4, 2)) rfl rfl (zc_X4_addStep _ _ s40 hI43 k48 hk50 22 ⟨by omega, by omega⟩) rfl rfl (Nat.le_of_ble_eq_true rfl) (by decide) (fun r51 s52 hr53 hp54 => ?_)
          obtain ⟨hI55, hF56, z57⟩ := hp54
          have hF58 := zFA_tr hF46 hF56
          have b59 := zv_14_5 hI55 zc_27
          refine zt_iinc (pc' := 50) (lv' := [some (.ref (X.1.1 + 33)), some (.int (zI 3)), some (.int (zI (x11 + 1)))]) hX dX1_both_47 rfl rfl hL (by decide) rfl ?_
          refine zt_goto (tgt := 7) hX dX1_both_50 (by decide) ?_
          exact ih20 (x11 + 1) s52 (by omega) (by omega) hI55 hF58 (by omega) (by omega)
  exact L_7_17 _ 0 s3 (by omega) (by omega) hI6 hF9 (by omega) (Nat.lt_succ_self _)

set_option maxRecDepth 100000 in
set_option maxHeartbeats 4000000 in
theorem zc_X1_test_o3 (l : Launch) (E : zEN) (σ : zSto) (hI : zInv σ) (hpre0 : σ 27 5 ≤ 1600) : zCt l E yX1_test cX1_test 3 none 21 zNC zNC 0 0 σ [.ref (E.1 + 33), .int (zI 3)] (fun r σ' => zInv σ' ∧ zFA σ σ' ∧ (σ' 27 5 = σ 27 5)) := by
  refine zCt_of2 [some (.ref (E.1 + 33)), some (.int (zI 3)), none] (by decide +kernel) (Nat.le_of_ble_eq_true rfl) rfl ?_
  intro X hE hX hR hL hN
  subst hE
  have hX : zok X cX1_test RX1 21 := hX
  have hF := zFA_rf σ
  have b1 := zv_14_5 hI zc_27
  refine zt_aload_n (pc' := 1) hX dX1_test_0 rfl rfl ?_
  refine zt_iload_n (pc' := 2) hX dX1_test_1 rfl rfl ?_
  refine zt_cVv (pc' := 5) hX dX1_test_2 rfl zm_yX1_both zw_24_6 zc_33 (by decide) zs_20 (q := (RX1, TX1, 3)) rfl rfl (zc_X1_both_o3 _ _ σ hI (by omega)) rfl rfl (Nat.le_of_ble_eq_true rfl) (by decide) (fun r2 s3 hr4 hp5 => ?_)
  obtain ⟨hI6, hF7, z8⟩ := hp5
  have hF9 := zFA_tr hF hF7
  have b10 := zv_14_5 hI6 zc_27
  refine zt_iconst (pc' := 6) hX dX1_test_5 rfl ?_
  refine zt_istore_n (pc' := 7) (lv' := [some (.ref (X.1.1 + 33)), some (.int (zI 3)), some (.int (zI 0))]) hX dX1_test_6 rfl hL (by decide) rfl ?_
  have L_7_17 : ∀ (N : Nat) (x11 : Int) (s14 : zSto), 0 ≤ x11 → x11 ≤ 1600 → zInv s14 → zFA σ s14 → s14 27 5 = σ 27 5 → ((1601 - x11).toNat) < N → zF X s14 7 [some (.ref (X.1.1 + 33)), some (.int (zI 3)), some (.int (zI x11))] [] := by
    intro N
    induction N with
    | zero =>
      intro x11 s14 h12 h13 hI15 hF16 g17 hm19
      exact absurd hm19 (Nat.not_lt_zero _)
    | succ N ih20 =>
      intro x11 s14 h12 h13 hI15 hF16 g17 hm19
      have b21 := zv_14_5 hI15 zc_27
      refine zt_iload_n (pc' := 8) hX dX1_test_7 rfl rfl ?_
      refine zt_sipush (pc' := 11) hX dX1_test_8 rfl (by decide) (by decide) ?_
      refine zt_icge (pc' := 14) (tgt := 53) hX dX1_test_11 rfl (by decide) ⟨by omega, by omega⟩ ⟨by omega, by omega⟩ (fun c22 => ?_) (fun c22 => ?_)
      · exact zt_vret hX hR dX1_test_53 ⟨hI15, hF16, by omega⟩
      · refine zt_aload_n (pc' := 15) hX dX1_test_14 rfl rfl ?_
        refine zt_get (pc' := 18) (v := .ref (X.1.1 + 27)) hX dX1_test_15 rfl zf_X1_15 (by decide) zc_33 zs_20 (zrf_of (zv_20_0 hI15 zc_33)) ?_
        refine zt_cVi (pc' := 21) hX dX1_test_18 rfl zm_yX5_wordHere zw_22_21 zc_27 (by decide) zs_14 (q := (RX5, TX5, 9)) rfl rfl (zc_X5_wordHere _ _ s14 hI15 ) rfl rfl (Nat.le_of_ble_eq_true rfl) (by decide) (fun r23 s24 hr25 hp26 => ?_)
        obtain ⟨rfl, q27, q28⟩ := hp26
        refine zt_bipush (pc' := 23) hX dX1_test_21 rfl (by decide) (by decide) ?_
        refine zt_icne (pc' := 26) (tgt := 53) hX dX1_test_23 rfl (by decide) ⟨by omega, by omega⟩ ⟨by omega, by omega⟩ (fun c29 => ?_) (fun c29 => ?_)
        · exact zt_vret hX hR dX1_test_53 ⟨hI15, hF16, by omega⟩
        · refine zt_aload_n (pc' := 27) hX dX1_test_26 rfl rfl ?_
          refine zt_get (pc' := 30) (v := .ref (X.1.1 + 27)) hX dX1_test_27 rfl zf_X1_15 (by decide) zc_33 zs_20 (zrf_of (zv_20_0 hI15 zc_33)) ?_
          refine zt_cVv (pc' := 33) hX dX1_test_30 rfl zm_yX5_step zw_22_6 zc_27 (by decide) zs_14 (q := (RX5, TX5, 9)) rfl rfl (zc_X5_step _ _ s14 hI15 (by omega)) rfl rfl (Nat.le_of_ble_eq_true rfl) (by decide) (fun r30 s31 hr32 hp33 => ?_)
          obtain ⟨hI34, hF35, z36⟩ := hp33
          have hF37 := zFA_tr hF16 hF35
          have b38 := zv_14_5 hI34 zc_27
          refine zt_aload_n (pc' := 34) hX dX1_test_33 rfl rfl ?_
          refine zt_iload_n (pc' := 35) hX dX1_test_34 rfl rfl ?_
          refine zt_cVv (pc' := 38) hX dX1_test_35 rfl zm_yX1_both zw_24_6 zc_33 (by decide) zs_20 (q := (RX1, TX1, 3)) rfl rfl (zc_X1_both_o3 _ _ s31 hI34 (by omega)) rfl rfl (Nat.le_of_ble_eq_true rfl) (by decide) (fun r39 s40 hr41 hp42 => ?_)
          obtain ⟨hI43, hF44, z45⟩ := hp42
          have hF46 := zFA_tr hF37 hF44
          have b47 := zv_14_5 hI43 zc_27
          refine zt_aload_n (pc' := 39) hX dX1_test_38 rfl rfl ?_
          obtain ⟨k48, ek49, hk50⟩ := zv_20_1 hI43 zc_33
          refine zt_get (pc' := 42) (v := .ref (X.1.1 + k48)) hX dX1_test_39 rfl zf_X1_19 (by decide) zc_33 zs_20 (zrf_of ek49) ?_
          refine zt_bipush (pc' := 44) hX dX1_test_42 rfl (by decide) (by decide) ?_
          refine zt_cVv (pc' := 47) hX dX1_test_44 rfl zm_yX4_addStep zw_22_7 hk50 (by decide) zs_6 (q := (RX4, TX4, 2)) rfl rfl (zc_X4_addStep _ _ s40 hI43 k48 hk50 21 ⟨by omega, by omega⟩) rfl rfl (Nat.le_of_ble_eq_true rfl) (by decide) (fun r51 s52 hr53 hp54 => ?_)
          obtain ⟨hI55, hF56, z57⟩ := hp54
          have hF58 := zFA_tr hF46 hF56
          have b59 := zv_14_5 hI55 zc_27
          refine zt_iinc (pc' := 50) (lv' := [some (.ref (X.1.1 + 33)), some (.int (zI 3)), some (.int (zI (x11 + 1)))]) hX dX1_test_47 rfl rfl hL (by decide) rfl ?_
          refine zt_goto (tgt := 7) hX dX1_test_50 (by decide) ?_
          exact ih20 (x11 + 1) s52 (by omega) (by omega) hI55 hF58 (by omega) (by omega)
  exact L_7_17 _ 0 s3 (by omega) (by omega) hI6 hF9 (by omega) (Nat.lt_succ_self _)

set_option maxRecDepth 100000 in
set_option maxHeartbeats 4000000 in
theorem zc_X1_opens_o2 (l : Launch) (E : zEN) (σ : zSto) (hI : zInv σ) (hpre0 : σ 27 5 ≤ 1600) : zCt l E yX1_opens cX1_opens 2 (some .boolean) 1 zNC zNC 0 0 σ [.ref (E.1 + 33), .int (zI 2)] (fun r σ' => zInv σ' ∧ zFA σ σ' ∧ 1 ≤ r ∧ r ≤ 1 ∧ (σ' 27 5 = σ 27 5)) := by
  refine zCt_of2 [some (.ref (E.1 + 33)), some (.int (zI 2))] (by decide +kernel) (Nat.le_of_ble_eq_true rfl) rfl ?_
  intro X hE hX hR hL hN
  subst hE
  have hX : zok X cX1_opens RX1 1 := hX
  have hF := zFA_rf σ
  have b1 := zv_14_5 hI zc_27
  refine zt_iload_n (pc' := 1) hX dX1_opens_0 rfl rfl ?_
  refine zt_bipush (pc' := 3) hX dX1_opens_1 rfl (by decide) (by decide) ?_
  refine zt_iclt (pc' := 6) (tgt := 23) hX dX1_opens_3 rfl (by decide) ⟨by omega, by omega⟩ ⟨by omega, by omega⟩ (fun c2 => ?_) (fun c2 => ?_)
  · refine zt_aload_n (pc' := 24) hX dX1_opens_23 rfl rfl ?_
    refine zt_get (pc' := 27) (v := .ref (X.1.1 + 27)) hX dX1_opens_24 rfl zf_X1_15 (by decide) zc_33 zs_20 (zrf_of (zv_20_0 hI zc_33)) ?_
    refine zt_cVv (pc' := 30) hX dX1_opens_27 rfl zm_yX5_step zw_22_6 zc_27 (by decide) zs_14 (q := (RX5, TX5, 9)) rfl rfl (zc_X5_step _ _ σ hI (by omega)) rfl rfl (Nat.le_of_ble_eq_true rfl) (by decide) (fun r3 s4 hr5 hp6 => ?_)
    obtain ⟨hI7, hF8, z9⟩ := hp6
    have hF10 := zFA_tr hF hF8
    have b11 := zv_14_5 hI7 zc_27
    refine zt_iconst (pc' := 31) hX dX1_opens_30 rfl ?_
    exact zt_zret hX hR dX1_opens_31 ⟨by omega, by omega⟩ ⟨hI7, hF10, by omega, by omega, by omega⟩
  · exact absurd c2 (by omega)

set_option maxRecDepth 100000 in
set_option maxHeartbeats 4000000 in
theorem zc_X1_pair_o2 (l : Launch) (E : zEN) (σ : zSto) (hI : zInv σ) (hpre0 : σ 27 5 ≤ 1600) : zCt l E yX1_pair cX1_pair 2 none 18 zNC zNC 0 0 σ [.ref (E.1 + 33), .int (zI 2)] (fun r σ' => zInv σ' ∧ zFA σ σ' ∧ (σ' 27 5 = σ 27 5)) := by
  refine zCt_of2 [some (.ref (E.1 + 33)), some (.int (zI 2))] (by decide +kernel) (Nat.le_of_ble_eq_true rfl) rfl ?_
  intro X hE hX hR hL hN
  subst hE
  have hX : zok X cX1_pair RX1 18 := hX
  have hF := zFA_rf σ
  have b1 := zv_14_5 hI zc_27
  refine zt_aload_n (pc' := 1) hX dX1_pair_0 rfl rfl ?_
  refine zt_get (pc' := 4) (v := .ref (X.1.1 + 27)) hX dX1_pair_1 rfl zf_X1_15 (by decide) zc_33 zs_20 (zrf_of (zv_20_0 hI zc_33)) ?_
  refine zt_cVi (pc' := 7) hX dX1_pair_4 rfl zm_yX5_signHere zw_22_2 zc_27 (by decide) zs_14 (q := (RX5, TX5, 9)) rfl rfl (zc_X5_signHere _ _ σ hI ) rfl rfl (Nat.le_of_ble_eq_true rfl) (by decide) (fun r2 s3 hr4 hp5 => ?_)
  obtain ⟨rfl, q6, q7⟩ := hp5
  refine zt_bipush (pc' := 9) hX dX1_pair_7 rfl (by decide) (by decide) ?_
  refine zt_iceq (pc' := 12) (tgt := 30) hX dX1_pair_9 rfl (by decide) ⟨by omega, by omega⟩ ⟨by omega, by omega⟩ (fun c8 => ?_) (fun c8 => ?_)
  · refine zt_aload_n (pc' := 31) hX dX1_pair_30 rfl rfl ?_
    refine zt_iload_n (pc' := 32) hX dX1_pair_31 rfl rfl ?_
    refine zt_cVz (pc' := 35) hX dX1_pair_32 rfl zm_yX1_opens zw_22_11 zc_33 (by decide) zs_20 (q := (RX1, TX1, 3)) rfl rfl (zc_X1_opens_o2 _ _ σ hI (by omega)) rfl rfl (Nat.le_of_ble_eq_true rfl) (by decide) (fun r9 s10 hr11 hp12 => ?_)
    obtain ⟨hI13, hF14, q15, q16, z17⟩ := hp12
    have hF18 := zFA_tr hF hF14
    have b19 := zv_14_5 hI13 zc_27
    refine zt_ifeq (pc' := 38) (tgt := 70) hX dX1_pair_35 rfl (by decide) ⟨by omega, by omega⟩ (fun c20 => ?_) (fun c20 => ?_)
    · exact absurd c20 (by omega)
    · refine zt_aload_n (pc' := 39) hX dX1_pair_38 rfl rfl ?_
      refine zt_iload_n (pc' := 40) hX dX1_pair_39 rfl rfl ?_
      refine zt_iconst (pc' := 41) hX dX1_pair_40 rfl ?_
      refine zt_iadd (pc' := 42) hX dX1_pair_41 rfl ?_
      rw [show (2 + 1 : Int) = 3 from rfl]
      refine zt_cVv (pc' := 45) hX dX1_pair_42 rfl zm_yX1_sum zw_21_19 zc_33 (by decide) zs_20 (q := (RX1, TX1, 3)) rfl rfl (zc_X1_sum_o3 _ _ s10 hI13 (by omega)) rfl rfl (Nat.le_of_ble_eq_true rfl) (by decide) (fun r21 s22 hr23 hp24 => ?_)
      obtain ⟨hI25, hF26, z27⟩ := hp24
      have hF28 := zFA_tr hF18 hF26
      have b29 := zv_14_5 hI25 zc_27
      refine zt_aload_n (pc' := 46) hX dX1_pair_45 rfl rfl ?_
      refine zt_get (pc' := 49) (v := .ref (X.1.1 + 27)) hX dX1_pair_46 rfl zf_X1_15 (by decide) zc_33 zs_20 (zrf_of (zv_20_0 hI25 zc_33)) ?_
      refine zt_bipush (pc' := 51) hX dX1_pair_49 rfl (by decide) (by decide) ?_
      refine zt_cVv (pc' := 54) hX dX1_pair_51 rfl zm_yX5_takeSign zw_22_15 zc_27 (by decide) zs_14 (q := (RX5, TX5, 9)) rfl rfl (zc_X5_takeSign _ _ s22 hI25 44 ⟨by omega, by omega⟩ (by omega)) rfl rfl (Nat.le_of_ble_eq_true rfl) (by decide) (fun r30 s31 hr32 hp33 => ?_)
      obtain ⟨hI34, hF35, z36⟩ := hp33
      have hF37 := zFA_tr hF28 hF35
      have b38 := zv_14_5 hI34 zc_27
      refine zt_aload_n (pc' := 55) hX dX1_pair_54 rfl rfl ?_
      refine zt_iload_n (pc' := 56) hX dX1_pair_55 rfl rfl ?_
      refine zt_iconst (pc' := 57) hX dX1_pair_56 rfl ?_
      refine zt_iadd (pc' := 58) hX dX1_pair_57 rfl ?_
      rw [show (2 + 1 : Int) = 3 from rfl]
      refine zt_cVv (pc' := 61) hX dX1_pair_58 rfl zm_yX1_sum zw_21_19 zc_33 (by decide) zs_20 (q := (RX1, TX1, 3)) rfl rfl (zc_X1_sum_o3 _ _ s31 hI34 (by omega)) rfl rfl (Nat.le_of_ble_eq_true rfl) (by decide) (fun r39 s40 hr41 hp42 => ?_)
      obtain ⟨hI43, hF44, z45⟩ := hp42
      have hF46 := zFA_tr hF37 hF44
      have b47 := zv_14_5 hI43 zc_27
      refine zt_aload_n (pc' := 62) hX dX1_pair_61 rfl rfl ?_
      refine zt_get (pc' := 65) (v := .ref (X.1.1 + 27)) hX dX1_pair_62 rfl zf_X1_15 (by decide) zc_33 zs_20 (zrf_of (zv_20_0 hI43 zc_33)) ?_
      refine zt_bipush (pc' := 67) hX dX1_pair_65 rfl (by decide) (by decide) ?_
      refine zt_cVv (pc' := 70) hX dX1_pair_67 rfl zm_yX5_takeSign zw_22_15 zc_27 (by decide) zs_14 (q := (RX5, TX5, 9)) rfl rfl (zc_X5_takeSign _ _ s40 hI43 41 ⟨by omega, by omega⟩ (by omega)) rfl rfl (Nat.le_of_ble_eq_true rfl) (by decide) (fun r48 s49 hr50 hp51 => ?_)
      obtain ⟨hI52, hF53, z54⟩ := hp51
      have hF55 := zFA_tr hF46 hF53
      have b56 := zv_14_5 hI52 zc_27
      exact zt_vret hX hR dX1_pair_70 ⟨hI52, hF55, by omega⟩
  · refine zt_aload_n (pc' := 13) hX dX1_pair_12 rfl rfl ?_
    refine zt_get (pc' := 16) (v := .ref (X.1.1 + 27)) hX dX1_pair_13 rfl zf_X1_15 (by decide) zc_33 zs_20 (zrf_of (zv_20_0 hI zc_33)) ?_
    refine zt_iconst (pc' := 17) hX dX1_pair_16 rfl ?_
    refine zt_aload_n (pc' := 18) hX dX1_pair_17 rfl rfl ?_
    refine zt_get (pc' := 21) (v := .ref (X.1.1 + 27)) hX dX1_pair_18 rfl zf_X1_15 (by decide) zc_33 zs_20 (zrf_of (zv_20_0 hI zc_33)) ?_
    refine zt_cVi (pc' := 24) hX dX1_pair_21 rfl zm_yX5_placeHere zw_22_9 zc_27 (by decide) zs_14 (q := (RX5, TX5, 9)) rfl rfl (zc_X5_placeHere _ _ σ hI ) rfl rfl (Nat.le_of_ble_eq_true rfl) (by decide) (fun r57 s58 hr59 hp60 => ?_)
    obtain ⟨rfl, q61, q62⟩ := hp60
    refine zt_cVv (pc' := 27) hX dX1_pair_24 rfl zm_yX5_refuse zw_22_10 zc_27 (by decide) zs_14 (q := (RX5, TX5, 9)) rfl rfl (zc_X5_refuse _ _ σ hI 1 ⟨by omega, by omega⟩ r57 ⟨by omega, by omega⟩ (by omega)) rfl rfl (Nat.le_of_ble_eq_true rfl) (by decide) (fun r63 s64 hr65 hp66 => ?_)
    obtain ⟨hI67, hF68, z69⟩ := hp66
    have hF70 := zFA_tr hF hF68
    have b71 := zv_14_5 hI67 zc_27
    refine zt_goto (tgt := 70) hX dX1_pair_27 (by decide) ?_
    exact zt_vret hX hR dX1_pair_70 ⟨hI67, hF70, by omega⟩

set_option maxRecDepth 100000 in
set_option maxHeartbeats 4000000 in
theorem zc_X1_part_o2 (l : Launch) (E : zEN) (σ : zSto) (hI : zInv σ) (hpre0 : σ 27 5 ≤ 1600) : zCt l E yX1_part cX1_part 4 none 19 zNC zNC 0 0 σ [.ref (E.1 + 33), .int (zI 2)] (fun r σ' => zInv σ' ∧ zFA σ σ' ∧ (σ' 27 5 = σ 27 5)) := by
  refine zCt_of2 [some (.ref (E.1 + 33)), some (.int (zI 2)), none, none] (by decide +kernel) (Nat.le_of_ble_eq_true rfl) rfl ?_
  intro X hE hX hR hL hN
  subst hE
  have hX : zok X cX1_part RX1 19 := hX
  have hF := zFA_rf σ
  have b1 := zv_14_5 hI zc_27
  refine zt_aload_n (pc' := 1) hX dX1_part_0 rfl rfl ?_
  refine zt_get (pc' := 4) (v := .ref (X.1.1 + 27)) hX dX1_part_1 rfl zf_X1_15 (by decide) zc_33 zs_20 (zrf_of (zv_20_0 hI zc_33)) ?_
  refine zt_cVi (pc' := 7) hX dX1_part_4 rfl zm_yX5_wordHere zw_22_21 zc_27 (by decide) zs_14 (q := (RX5, TX5, 9)) rfl rfl (zc_X5_wordHere _ _ σ hI ) rfl rfl (Nat.le_of_ble_eq_true rfl) (by decide) (fun r2 s3 hr4 hp5 => ?_)
  obtain ⟨rfl, q6, q7⟩ := hp5
  refine zt_istore_n (pc' := 8) (lv' := [some (.ref (X.1.1 + 33)), some (.int (zI 2)), some (.int (zI r2)), none]) hX dX1_part_7 rfl hL (by decide) rfl ?_
  refine zt_aload_n (pc' := 9) hX dX1_part_8 rfl rfl ?_
  refine zt_get (pc' := 12) (v := .ref (X.1.1 + 27)) hX dX1_part_9 rfl zf_X1_15 (by decide) zc_33 zs_20 (zrf_of (zv_20_0 hI zc_33)) ?_
  refine zt_cVi (pc' := 15) hX dX1_part_12 rfl zm_yX5_kindHere zw_22_22 zc_27 (by decide) zs_14 (q := (RX5, TX5, 9)) rfl rfl (zc_X5_kindHere _ _ σ hI ) rfl rfl (Nat.le_of_ble_eq_true rfl) (by decide) (fun r8 s9 hr10 hp11 => ?_)
  obtain ⟨rfl, q12, q13⟩ := hp11
  refine zt_istore_n (pc' := 16) (lv' := [some (.ref (X.1.1 + 33)), some (.int (zI 2)), some (.int (zI r2)), some (.int (zI r8))]) hX dX1_part_15 rfl hL (by decide) rfl ?_
  refine zt_iload_n (pc' := 17) hX dX1_part_16 rfl rfl ?_
  refine zt_iconst (pc' := 18) hX dX1_part_17 rfl ?_
  have J_26_13 : zF X σ 26 [some (.ref (X.1.1 + 33)), none, none, none] [] := by
    refine zt_aload_n (pc' := 27) hX dX1_part_26 rfl rfl ?_
    obtain ⟨k15, ek16, hk17⟩ := zv_20_1 hI zc_33
    refine zt_get (pc' := 30) (v := .ref (X.1.1 + k15)) hX dX1_part_27 rfl zf_X1_19 (by decide) zc_33 zs_20 (zrf_of ek16) ?_
    refine zt_aload_n (pc' := 31) hX dX1_part_30 rfl rfl ?_
    refine zt_get (pc' := 34) (v := .ref (X.1.1 + 27)) hX dX1_part_31 rfl zf_X1_15 (by decide) zc_33 zs_20 (zrf_of (zv_20_0 hI zc_33)) ?_
    refine zt_iconst (pc' := 35) hX dX1_part_34 rfl ?_
    refine zt_sipush (pc' := 38) hX dX1_part_35 rfl (by decide) (by decide) ?_
    refine zt_cVi (pc' := 41) hX dX1_part_38 rfl zm_yX5_takeNumber zw_22_23 zc_27 (by decide) zs_14 (q := (RX5, TX5, 9)) rfl rfl (zc_X5_takeNumber _ _ σ hI 0 ⟨by omega, by omega⟩ 9999 ⟨by omega, by omega⟩ (by omega)) rfl rfl (Nat.le_of_ble_eq_true rfl) (by decide) (fun r18 s19 hr20 hp21 => ?_)
    obtain ⟨hI22, hF23, q24, q25, z26, z27⟩ := hp21
    have hF28 := zFA_tr hF hF23
    have b29 := zv_14_5 hI22 zc_27
    refine zt_cVv (pc' := 44) hX dX1_part_41 rfl zm_yX4_addNumber zw_23_0 hk17 (by decide) zs_6 (q := (RX4, TX4, 2)) rfl rfl (zc_X4_addNumber _ _ s19 hI22 k15 hk17 r18 ⟨by omega, by omega⟩) rfl rfl (Nat.le_of_ble_eq_true rfl) (by decide) (fun r30 s31 hr32 hp33 => ?_)
    obtain ⟨hI34, hF35, z36⟩ := hp33
    have hF37 := zFA_tr hF28 hF35
    have b38 := zv_14_5 hI34 zc_27
    refine zt_goto (tgt := 203) hX dX1_part_44 (by decide) ?_
    exact zt_vret hX hR dX1_part_203 ⟨hI34, hF37, by omega⟩
  refine zt_iceq (pc' := 21) (tgt := 26) hX dX1_part_18 rfl (by decide) ⟨by omega, by omega⟩ ⟨by omega, by omega⟩ (fun c39 => ?_) (fun c39 => ?_)
  · refine zt_mask [true, false, false, false] rfl ?_
    exact J_26_13
  · refine zt_iload_n (pc' := 22) hX dX1_part_21 rfl rfl ?_
    refine zt_iconst (pc' := 23) hX dX1_part_22 rfl ?_
    refine zt_icne (pc' := 26) (tgt := 47) hX dX1_part_23 rfl (by decide) ⟨by omega, by omega⟩ ⟨by omega, by omega⟩ (fun c40 => ?_) (fun c40 => ?_)
    · refine zt_aload_n (pc' := 48) hX dX1_part_47 rfl rfl ?_
      refine zt_get (pc' := 51) (v := .ref (X.1.1 + 27)) hX dX1_part_48 rfl zf_X1_15 (by decide) zc_33 zs_20 (zrf_of (zv_20_0 hI zc_33)) ?_
      refine zt_cVi (pc' := 54) hX dX1_part_51 rfl zm_yX5_signHere zw_22_2 zc_27 (by decide) zs_14 (q := (RX5, TX5, 9)) rfl rfl (zc_X5_signHere _ _ σ hI ) rfl rfl (Nat.le_of_ble_eq_true rfl) (by decide) (fun r41 s42 hr43 hp44 => ?_)
      obtain ⟨rfl, q45, q46⟩ := hp44
      refine zt_bipush (pc' := 56) hX dX1_part_54 rfl (by decide) (by decide) ?_
      refine zt_icne (pc' := 59) (tgt := 86) hX dX1_part_56 rfl (by decide) ⟨by omega, by omega⟩ ⟨by omega, by omega⟩ (fun c47 => ?_) (fun c47 => ?_)
      · refine zt_iload_n (pc' := 87) hX dX1_part_86 rfl rfl ?_
        refine zt_bipush (pc' := 89) hX dX1_part_87 rfl (by decide) (by decide) ?_
        have J_98_47 : zF X σ 98 [some (.ref (X.1.1 + 33)), some (.int (zI 2)), some (.int (zI r2)), none] [] := by
          refine zt_aload_n (pc' := 99) hX dX1_part_98 rfl rfl ?_
          refine zt_get (pc' := 102) (v := .ref (X.1.1 + 27)) hX dX1_part_99 rfl zf_X1_15 (by decide) zc_33 zs_20 (zrf_of (zv_20_0 hI zc_33)) ?_
          refine zt_cVv (pc' := 105) hX dX1_part_102 rfl zm_yX5_step zw_22_6 zc_27 (by decide) zs_14 (q := (RX5, TX5, 9)) rfl rfl (zc_X5_step _ _ σ hI (by omega)) rfl rfl (Nat.le_of_ble_eq_true rfl) (by decide) (fun r49 s50 hr51 hp52 => ?_)
          obtain ⟨hI53, hF54, z55⟩ := hp52
          have hF56 := zFA_tr hF hF54
          have b57 := zv_14_5 hI53 zc_27
          refine zt_aload_n (pc' := 106) hX dX1_part_105 rfl rfl ?_
          refine zt_iload_n (pc' := 107) hX dX1_part_106 rfl rfl ?_
          refine zt_cVv (pc' := 110) hX dX1_part_107 rfl zm_yX1_pair zw_23_1 zc_33 (by decide) zs_20 (q := (RX1, TX1, 3)) rfl rfl (zc_X1_pair_o2 _ _ s50 hI53 (by omega)) rfl rfl (Nat.le_of_ble_eq_true rfl) (by decide) (fun r58 s59 hr60 hp61 => ?_)
          obtain ⟨hI62, hF63, z64⟩ := hp61
          have hF65 := zFA_tr hF56 hF63
          have b66 := zv_14_5 hI62 zc_27
          refine zt_aload_n (pc' := 111) hX dX1_part_110 rfl rfl ?_
          obtain ⟨k67, ek68, hk69⟩ := zv_20_1 hI62 zc_33
          refine zt_get (pc' := 114) (v := .ref (X.1.1 + k67)) hX dX1_part_111 rfl zf_X1_19 (by decide) zc_33 zs_20 (zrf_of ek68) ?_
          refine zt_iload_n (pc' := 115) hX dX1_part_114 rfl rfl ?_
          refine zt_cVv (pc' := 118) hX dX1_part_115 rfl zm_yX4_addStep zw_22_7 hk69 (by decide) zs_6 (q := (RX4, TX4, 2)) rfl rfl (zc_X4_addStep _ _ s59 hI62 k67 hk69 r2 ⟨by omega, by omega⟩) rfl rfl (Nat.le_of_ble_eq_true rfl) (by decide) (fun r70 s71 hr72 hp73 => ?_)
          obtain ⟨hI74, hF75, z76⟩ := hp73
          have hF77 := zFA_tr hF65 hF75
          have b78 := zv_14_5 hI74 zc_27
          refine zt_goto (tgt := 203) hX dX1_part_118 (by decide) ?_
          exact zt_vret hX hR dX1_part_203 ⟨hI74, hF77, by omega⟩
        refine zt_iceq (pc' := 92) (tgt := 98) hX dX1_part_89 rfl (by decide) ⟨by omega, by omega⟩ ⟨by omega, by omega⟩ (fun c79 => ?_) (fun c79 => ?_)
        · refine zt_mask [true, true, true, false] rfl ?_
          exact J_98_47
        · refine zt_iload_n (pc' := 93) hX dX1_part_92 rfl rfl ?_
          refine zt_bipush (pc' := 95) hX dX1_part_93 rfl (by decide) (by decide) ?_
          refine zt_icne (pc' := 98) (tgt := 121) hX dX1_part_95 rfl (by decide) ⟨by omega, by omega⟩ ⟨by omega, by omega⟩ (fun c80 => ?_) (fun c80 => ?_)
          · refine zt_iload_n (pc' := 122) hX dX1_part_121 rfl rfl ?_
            refine zt_bipush (pc' := 124) hX dX1_part_122 rfl (by decide) (by decide) ?_
            have J_162_80 : zF X σ 162 [some (.ref (X.1.1 + 33)), none, some (.int (zI r2)), none] [] := by
              refine zt_aload_n (pc' := 163) hX dX1_part_162 rfl rfl ?_
              refine zt_iload_n (pc' := 164) hX dX1_part_163 rfl rfl ?_
              refine zt_cVz (pc' := 167) hX dX1_part_164 rfl zm_yX1_isValue zw_23_7 zc_33 (by decide) zs_20 (q := (RX1, TX1, 3)) rfl rfl (zc_X1_isValue _ _ σ hI r2 ⟨by omega, by omega⟩) rfl rfl (Nat.le_of_ble_eq_true rfl) (by decide) (fun r82 s83 hr84 hp85 => ?_)
              obtain ⟨rfl, q86, q87⟩ := hp85
              refine zt_ifeq (pc' := 170) (tgt := 188) hX dX1_part_167 rfl (by decide) ⟨by omega, by omega⟩ (fun c88 => ?_) (fun c88 => ?_)
              · refine zt_aload_n (pc' := 189) hX dX1_part_188 rfl rfl ?_
                refine zt_get (pc' := 192) (v := .ref (X.1.1 + 27)) hX dX1_part_189 rfl zf_X1_15 (by decide) zc_33 zs_20 (zrf_of (zv_20_0 hI zc_33)) ?_
                refine zt_iconst (pc' := 193) hX dX1_part_192 rfl ?_
                refine zt_aload_n (pc' := 194) hX dX1_part_193 rfl rfl ?_
                refine zt_get (pc' := 197) (v := .ref (X.1.1 + 27)) hX dX1_part_194 rfl zf_X1_15 (by decide) zc_33 zs_20 (zrf_of (zv_20_0 hI zc_33)) ?_
                refine zt_cVi (pc' := 200) hX dX1_part_197 rfl zm_yX5_placeHere zw_22_9 zc_27 (by decide) zs_14 (q := (RX5, TX5, 9)) rfl rfl (zc_X5_placeHere _ _ σ hI ) rfl rfl (Nat.le_of_ble_eq_true rfl) (by decide) (fun r89 s90 hr91 hp92 => ?_)
                obtain ⟨rfl, q93, q94⟩ := hp92
                refine zt_cVv (pc' := 203) hX dX1_part_200 rfl zm_yX5_refuse zw_22_10 zc_27 (by decide) zs_14 (q := (RX5, TX5, 9)) rfl rfl (zc_X5_refuse _ _ σ hI 1 ⟨by omega, by omega⟩ r89 ⟨by omega, by omega⟩ (by omega)) rfl rfl (Nat.le_of_ble_eq_true rfl) (by decide) (fun r95 s96 hr97 hp98 => ?_)
                obtain ⟨hI99, hF100, z101⟩ := hp98
                have hF102 := zFA_tr hF hF100
                have b103 := zv_14_5 hI99 zc_27
                exact zt_vret hX hR dX1_part_203 ⟨hI99, hF102, by omega⟩
              · refine zt_aload_n (pc' := 171) hX dX1_part_170 rfl rfl ?_
                refine zt_get (pc' := 174) (v := .ref (X.1.1 + 27)) hX dX1_part_171 rfl zf_X1_15 (by decide) zc_33 zs_20 (zrf_of (zv_20_0 hI zc_33)) ?_
                refine zt_cVv (pc' := 177) hX dX1_part_174 rfl zm_yX5_step zw_22_6 zc_27 (by decide) zs_14 (q := (RX5, TX5, 9)) rfl rfl (zc_X5_step _ _ σ hI (by omega)) rfl rfl (Nat.le_of_ble_eq_true rfl) (by decide) (fun r104 s105 hr106 hp107 => ?_)
                obtain ⟨hI108, hF109, z110⟩ := hp107
                have hF111 := zFA_tr hF hF109
                have b112 := zv_14_5 hI108 zc_27
                refine zt_aload_n (pc' := 178) hX dX1_part_177 rfl rfl ?_
                obtain ⟨k113, ek114, hk115⟩ := zv_20_1 hI108 zc_33
                refine zt_get (pc' := 181) (v := .ref (X.1.1 + k113)) hX dX1_part_178 rfl zf_X1_19 (by decide) zc_33 zs_20 (zrf_of ek114) ?_
                refine zt_iload_n (pc' := 182) hX dX1_part_181 rfl rfl ?_
                refine zt_cVv (pc' := 185) hX dX1_part_182 rfl zm_yX4_addStep zw_22_7 hk115 (by decide) zs_6 (q := (RX4, TX4, 2)) rfl rfl (zc_X4_addStep _ _ s105 hI108 k113 hk115 r2 ⟨by omega, by omega⟩) rfl rfl (Nat.le_of_ble_eq_true rfl) (by decide) (fun r116 s117 hr118 hp119 => ?_)
                obtain ⟨hI120, hF121, z122⟩ := hp119
                have hF123 := zFA_tr hF111 hF121
                have b124 := zv_14_5 hI120 zc_27
                refine zt_goto (tgt := 203) hX dX1_part_185 (by decide) ?_
                exact zt_vret hX hR dX1_part_203 ⟨hI120, hF123, by omega⟩
            refine zt_icne (pc' := 127) (tgt := 162) hX dX1_part_124 rfl (by decide) ⟨by omega, by omega⟩ ⟨by omega, by omega⟩ (fun c125 => ?_) (fun c125 => ?_)
            · refine zt_mask [true, false, true, false] rfl ?_
              exact J_162_80
            · refine zt_aload_n (pc' := 128) hX dX1_part_127 rfl rfl ?_
              have b126 := zv_20_2 hI zc_33
              refine zt_get (pc' := 131) (v := .int (zI (σ 33 2))) hX dX1_part_128 rfl zf_X1_9 (by decide) zc_33 zs_20 rfl ?_
              refine zt_iconst (pc' := 132) hX dX1_part_131 rfl ?_
              refine zt_icne (pc' := 135) (tgt := 162) hX dX1_part_132 rfl (by decide) ⟨by omega, by omega⟩ ⟨by omega, by omega⟩ (fun c127 => ?_) (fun c127 => ?_)
              · refine zt_mask [true, false, true, false] rfl ?_
                exact J_162_80
              · refine zt_aload_n (pc' := 136) hX dX1_part_135 rfl rfl ?_
                refine zt_iload_n (pc' := 137) hX dX1_part_136 rfl rfl ?_
                refine zt_cVz (pc' := 140) hX dX1_part_137 rfl zm_yX1_opens zw_22_11 zc_33 (by decide) zs_20 (q := (RX1, TX1, 3)) rfl rfl (zc_X1_opens_o2 _ _ σ hI (by omega)) rfl rfl (Nat.le_of_ble_eq_true rfl) (by decide) (fun r128 s129 hr130 hp131 => ?_)
                obtain ⟨hI132, hF133, q134, q135, z136⟩ := hp131
                have hF137 := zFA_tr hF hF133
                have b138 := zv_14_5 hI132 zc_27
                refine zt_ifeq (pc' := 143) (tgt := 203) hX dX1_part_140 rfl (by decide) ⟨by omega, by omega⟩ (fun c139 => ?_) (fun c139 => ?_)
                · exact absurd c139 (by omega)
                · refine zt_aload_n (pc' := 144) hX dX1_part_143 rfl rfl ?_
                  refine zt_iload_n (pc' := 145) hX dX1_part_144 rfl rfl ?_
                  refine zt_iconst (pc' := 146) hX dX1_part_145 rfl ?_
                  refine zt_iadd (pc' := 147) hX dX1_part_146 rfl ?_
                  rw [show (2 + 1 : Int) = 3 from rfl]
                  refine zt_cVv (pc' := 150) hX dX1_part_147 rfl zm_yX1_part zw_23_4 zc_33 (by decide) zs_20 (q := (RX1, TX1, 3)) rfl rfl (zc_X1_part_o3 _ _ s129 hI132 (by omega)) rfl rfl (Nat.le_of_ble_eq_true rfl) (by decide) (fun r140 s141 hr142 hp143 => ?_)
                  obtain ⟨hI144, hF145, z146⟩ := hp143
                  have hF147 := zFA_tr hF137 hF145
                  have b148 := zv_14_5 hI144 zc_27
                  refine zt_aload_n (pc' := 151) hX dX1_part_150 rfl rfl ?_
                  obtain ⟨k149, ek150, hk151⟩ := zv_20_1 hI144 zc_33
                  refine zt_get (pc' := 154) (v := .ref (X.1.1 + k149)) hX dX1_part_151 rfl zf_X1_19 (by decide) zc_33 zs_20 (zrf_of ek150) ?_
                  refine zt_bipush (pc' := 156) hX dX1_part_154 rfl (by decide) (by decide) ?_
                  refine zt_cVv (pc' := 159) hX dX1_part_156 rfl zm_yX4_addStep zw_22_7 hk151 (by decide) zs_6 (q := (RX4, TX4, 2)) rfl rfl (zc_X4_addStep _ _ s141 hI144 k149 hk151 20 ⟨by omega, by omega⟩) rfl rfl (Nat.le_of_ble_eq_true rfl) (by decide) (fun r152 s153 hr154 hp155 => ?_)
                  obtain ⟨hI156, hF157, z158⟩ := hp155
                  have hF159 := zFA_tr hF147 hF157
                  have b160 := zv_14_5 hI156 zc_27
                  refine zt_goto (tgt := 203) hX dX1_part_159 (by decide) ?_
                  exact zt_vret hX hR dX1_part_203 ⟨hI156, hF159, by omega⟩
          · refine zt_mask [true, true, true, false] rfl ?_
            exact J_98_47
      · refine zt_aload_n (pc' := 60) hX dX1_part_59 rfl rfl ?_
        refine zt_iload_n (pc' := 61) hX dX1_part_60 rfl rfl ?_
        refine zt_cVz (pc' := 64) hX dX1_part_61 rfl zm_yX1_opens zw_22_11 zc_33 (by decide) zs_20 (q := (RX1, TX1, 3)) rfl rfl (zc_X1_opens_o2 _ _ σ hI (by omega)) rfl rfl (Nat.le_of_ble_eq_true rfl) (by decide) (fun r161 s162 hr163 hp164 => ?_)
        obtain ⟨hI165, hF166, q167, q168, z169⟩ := hp164
        have hF170 := zFA_tr hF hF166
        have b171 := zv_14_5 hI165 zc_27
        refine zt_ifeq (pc' := 67) (tgt := 203) hX dX1_part_64 rfl (by decide) ⟨by omega, by omega⟩ (fun c172 => ?_) (fun c172 => ?_)
        · exact absurd c172 (by omega)
        · refine zt_aload_n (pc' := 68) hX dX1_part_67 rfl rfl ?_
          refine zt_iload_n (pc' := 69) hX dX1_part_68 rfl rfl ?_
          refine zt_iconst (pc' := 70) hX dX1_part_69 rfl ?_
          refine zt_iadd (pc' := 71) hX dX1_part_70 rfl ?_
          rw [show (2 + 1 : Int) = 3 from rfl]
          refine zt_cVv (pc' := 74) hX dX1_part_71 rfl zm_yX1_sum zw_21_19 zc_33 (by decide) zs_20 (q := (RX1, TX1, 3)) rfl rfl (zc_X1_sum_o3 _ _ s162 hI165 (by omega)) rfl rfl (Nat.le_of_ble_eq_true rfl) (by decide) (fun r173 s174 hr175 hp176 => ?_)
          obtain ⟨hI177, hF178, z179⟩ := hp176
          have hF180 := zFA_tr hF170 hF178
          have b181 := zv_14_5 hI177 zc_27
          refine zt_aload_n (pc' := 75) hX dX1_part_74 rfl rfl ?_
          refine zt_get (pc' := 78) (v := .ref (X.1.1 + 27)) hX dX1_part_75 rfl zf_X1_15 (by decide) zc_33 zs_20 (zrf_of (zv_20_0 hI177 zc_33)) ?_
          refine zt_bipush (pc' := 80) hX dX1_part_78 rfl (by decide) (by decide) ?_
          refine zt_cVv (pc' := 83) hX dX1_part_80 rfl zm_yX5_takeSign zw_22_15 zc_27 (by decide) zs_14 (q := (RX5, TX5, 9)) rfl rfl (zc_X5_takeSign _ _ s174 hI177 41 ⟨by omega, by omega⟩ (by omega)) rfl rfl (Nat.le_of_ble_eq_true rfl) (by decide) (fun r182 s183 hr184 hp185 => ?_)
          obtain ⟨hI186, hF187, z188⟩ := hp185
          have hF189 := zFA_tr hF180 hF187
          have b190 := zv_14_5 hI186 zc_27
          refine zt_goto (tgt := 203) hX dX1_part_83 (by decide) ?_
          exact zt_vret hX hR dX1_part_203 ⟨hI186, hF189, by omega⟩
    · refine zt_mask [true, false, false, false] rfl ?_
      exact J_26_13

set_option maxRecDepth 100000 in
set_option maxHeartbeats 4000000 in
theorem zc_X1_product_o2 (l : Launch) (E : zEN) (σ : zSto) (hI : zInv σ) (hpre0 : σ 27 5 ≤ 1600) : zCt l E yX1_product cX1_product 4 none 20 zNC zNC 0 0 σ [.ref (E.1 + 33), .int (zI 2)] (fun r σ' => zInv σ' ∧ zFA σ σ' ∧ (σ' 27 5 = σ 27 5)) := by
  refine zCt_of2 [some (.ref (E.1 + 33)), some (.int (zI 2)), none, none] (by decide +kernel) (Nat.le_of_ble_eq_true rfl) rfl ?_
  intro X hE hX hR hL hN
  subst hE
  have hX : zok X cX1_product RX1 20 := hX
  have hF := zFA_rf σ
  have b1 := zv_14_5 hI zc_27
  refine zt_aload_n (pc' := 1) hX dX1_product_0 rfl rfl ?_
  refine zt_iload_n (pc' := 2) hX dX1_product_1 rfl rfl ?_
  refine zt_cVv (pc' := 5) hX dX1_product_2 rfl zm_yX1_part zw_23_4 zc_33 (by decide) zs_20 (q := (RX1, TX1, 3)) rfl rfl (zc_X1_part_o2 _ _ σ hI (by omega)) rfl rfl (Nat.le_of_ble_eq_true rfl) (by decide) (fun r2 s3 hr4 hp5 => ?_)
  obtain ⟨hI6, hF7, z8⟩ := hp5
  have hF9 := zFA_tr hF hF7
  have b10 := zv_14_5 hI6 zc_27
  refine zt_iconst (pc' := 6) hX dX1_product_5 rfl ?_
  refine zt_istore_n (pc' := 7) (lv' := [some (.ref (X.1.1 + 33)), some (.int (zI 2)), some (.int (zI 0)), none]) hX dX1_product_6 rfl hL (by decide) rfl ?_
  have L_7_17 : ∀ (N : Nat) (x11 : Int) (s14 : zSto), 0 ≤ x11 → x11 ≤ 1600 → zInv s14 → zFA σ s14 → s14 27 5 = σ 27 5 → ((1601 - x11).toNat) < N → zF X s14 7 [some (.ref (X.1.1 + 33)), some (.int (zI 2)), some (.int (zI x11)), none] [] := by
    intro N
    induction N with
    | zero =>
      intro x11 s14 h12 h13 hI15 hF16 g17 hm19
      exact absurd hm19 (Nat.not_lt_zero _)
    | succ N ih20 =>
      intro x11 s14 h12 h13 hI15 hF16 g17 hm19
      have b21 := zv_14_5 hI15 zc_27
      refine zt_iload_n (pc' := 8) hX dX1_product_7 rfl rfl ?_
      refine zt_sipush (pc' := 11) hX dX1_product_8 rfl (by decide) (by decide) ?_
      refine zt_icge (pc' := 14) (tgt := 72) hX dX1_product_11 rfl (by decide) ⟨by omega, by omega⟩ ⟨by omega, by omega⟩ (fun c22 => ?_) (fun c22 => ?_)
      · exact zt_vret hX hR dX1_product_72 ⟨hI15, hF16, by omega⟩
      · refine zt_aload_n (pc' := 15) hX dX1_product_14 rfl rfl ?_
        refine zt_get (pc' := 18) (v := .ref (X.1.1 + 27)) hX dX1_product_15 rfl zf_X1_15 (by decide) zc_33 zs_20 (zrf_of (zv_20_0 hI15 zc_33)) ?_
        refine zt_cVi (pc' := 21) hX dX1_product_18 rfl zm_yX5_signHere zw_22_2 zc_27 (by decide) zs_14 (q := (RX5, TX5, 9)) rfl rfl (zc_X5_signHere _ _ s14 hI15 ) rfl rfl (Nat.le_of_ble_eq_true rfl) (by decide) (fun r23 s24 hr25 hp26 => ?_)
        obtain ⟨rfl, q27, q28⟩ := hp26
        refine zt_bipush (pc' := 23) hX dX1_product_21 rfl (by decide) (by decide) ?_
        have J_38_28 : zF X s14 38 [some (.ref (X.1.1 + 33)), some (.int (zI 2)), some (.int (zI x11)), none] [] := by
          refine zt_aload_n (pc' := 39) hX dX1_product_38 rfl rfl ?_
          refine zt_get (pc' := 42) (v := .ref (X.1.1 + 27)) hX dX1_product_39 rfl zf_X1_15 (by decide) zc_33 zs_20 (zrf_of (zv_20_0 hI15 zc_33)) ?_
          refine zt_cVi (pc' := 45) hX dX1_product_42 rfl zm_yX5_signHere zw_22_2 zc_27 (by decide) zs_14 (q := (RX5, TX5, 9)) rfl rfl (zc_X5_signHere _ _ s14 hI15 ) rfl rfl (Nat.le_of_ble_eq_true rfl) (by decide) (fun r30 s31 hr32 hp33 => ?_)
          obtain ⟨rfl, q34, q35⟩ := hp33
          refine zt_istore_n (pc' := 46) (lv' := [some (.ref (X.1.1 + 33)), some (.int (zI 2)), some (.int (zI x11)), some (.int (zI r30))]) hX dX1_product_45 rfl hL (by decide) rfl ?_
          refine zt_aload_n (pc' := 47) hX dX1_product_46 rfl rfl ?_
          refine zt_get (pc' := 50) (v := .ref (X.1.1 + 27)) hX dX1_product_47 rfl zf_X1_15 (by decide) zc_33 zs_20 (zrf_of (zv_20_0 hI15 zc_33)) ?_
          refine zt_cVv (pc' := 53) hX dX1_product_50 rfl zm_yX5_step zw_22_6 zc_27 (by decide) zs_14 (q := (RX5, TX5, 9)) rfl rfl (zc_X5_step _ _ s14 hI15 (by omega)) rfl rfl (Nat.le_of_ble_eq_true rfl) (by decide) (fun r36 s37 hr38 hp39 => ?_)
          obtain ⟨hI40, hF41, z42⟩ := hp39
          have hF43 := zFA_tr hF16 hF41
          have b44 := zv_14_5 hI40 zc_27
          refine zt_aload_n (pc' := 54) hX dX1_product_53 rfl rfl ?_
          refine zt_iload_n (pc' := 55) hX dX1_product_54 rfl rfl ?_
          refine zt_cVv (pc' := 58) hX dX1_product_55 rfl zm_yX1_part zw_23_4 zc_33 (by decide) zs_20 (q := (RX1, TX1, 3)) rfl rfl (zc_X1_part_o2 _ _ s37 hI40 (by omega)) rfl rfl (Nat.le_of_ble_eq_true rfl) (by decide) (fun r45 s46 hr47 hp48 => ?_)
          obtain ⟨hI49, hF50, z51⟩ := hp48
          have hF52 := zFA_tr hF43 hF50
          have b53 := zv_14_5 hI49 zc_27
          refine zt_aload_n (pc' := 59) hX dX1_product_58 rfl rfl ?_
          obtain ⟨k54, ek55, hk56⟩ := zv_20_1 hI49 zc_33
          refine zt_get (pc' := 62) (v := .ref (X.1.1 + k54)) hX dX1_product_59 rfl zf_X1_19 (by decide) zc_33 zs_20 (zrf_of ek55) ?_
          refine zt_iload_n (pc' := 63) hX dX1_product_62 rfl rfl ?_
          refine zt_cVv (pc' := 66) hX dX1_product_63 rfl zm_yX4_addStep zw_22_7 hk56 (by decide) zs_6 (q := (RX4, TX4, 2)) rfl rfl (zc_X4_addStep _ _ s46 hI49 k54 hk56 r30 ⟨by omega, by omega⟩) rfl rfl (Nat.le_of_ble_eq_true rfl) (by decide) (fun r57 s58 hr59 hp60 => ?_)
          obtain ⟨hI61, hF62, z63⟩ := hp60
          have hF64 := zFA_tr hF52 hF62
          have b65 := zv_14_5 hI61 zc_27
          refine zt_iinc (pc' := 69) (lv' := [some (.ref (X.1.1 + 33)), some (.int (zI 2)), some (.int (zI (x11 + 1))), some (.int (zI r30))]) hX dX1_product_66 rfl rfl hL (by decide) rfl ?_
          refine zt_goto (tgt := 7) hX dX1_product_69 (by decide) ?_
          refine zt_mask [true, true, true, false] rfl ?_
          exact ih20 (x11 + 1) s58 (by omega) (by omega) hI61 hF64 (by omega) (by omega)
        refine zt_iceq (pc' := 26) (tgt := 38) hX dX1_product_23 rfl (by decide) ⟨by omega, by omega⟩ ⟨by omega, by omega⟩ (fun c66 => ?_) (fun c66 => ?_)
        · exact J_38_28
        · refine zt_aload_n (pc' := 27) hX dX1_product_26 rfl rfl ?_
          refine zt_get (pc' := 30) (v := .ref (X.1.1 + 27)) hX dX1_product_27 rfl zf_X1_15 (by decide) zc_33 zs_20 (zrf_of (zv_20_0 hI15 zc_33)) ?_
          refine zt_cVi (pc' := 33) hX dX1_product_30 rfl zm_yX5_signHere zw_22_2 zc_27 (by decide) zs_14 (q := (RX5, TX5, 9)) rfl rfl (zc_X5_signHere _ _ s14 hI15 ) rfl rfl (Nat.le_of_ble_eq_true rfl) (by decide) (fun r67 s68 hr69 hp70 => ?_)
          obtain ⟨rfl, q71, q72⟩ := hp70
          refine zt_bipush (pc' := 35) hX dX1_product_33 rfl (by decide) (by decide) ?_
          refine zt_icne (pc' := 38) (tgt := 72) hX dX1_product_35 rfl (by decide) ⟨by omega, by omega⟩ ⟨by omega, by omega⟩ (fun c73 => ?_) (fun c73 => ?_)
          · exact zt_vret hX hR dX1_product_72 ⟨hI15, hF16, by omega⟩
          · exact J_38_28
  exact L_7_17 _ 0 s3 (by omega) (by omega) hI6 hF9 (by omega) (Nat.lt_succ_self _)

set_option maxRecDepth 100000 in
set_option maxHeartbeats 4000000 in
theorem zc_X1_sum_o2 (l : Launch) (E : zEN) (σ : zSto) (hI : zInv σ) (hpre0 : σ 27 5 ≤ 1600) : zCt l E yX1_sum cX1_sum 4 none 21 zNC zNC 0 0 σ [.ref (E.1 + 33), .int (zI 2)] (fun r σ' => zInv σ' ∧ zFA σ σ' ∧ (σ' 27 5 = σ 27 5)) := by
  refine zCt_of2 [some (.ref (E.1 + 33)), some (.int (zI 2)), none, none] (by decide +kernel) (Nat.le_of_ble_eq_true rfl) rfl ?_
  intro X hE hX hR hL hN
  subst hE
  have hX : zok X cX1_sum RX1 21 := hX
  have hF := zFA_rf σ
  have b1 := zv_14_5 hI zc_27
  refine zt_aload_n (pc' := 1) hX dX1_sum_0 rfl rfl ?_
  refine zt_iload_n (pc' := 2) hX dX1_sum_1 rfl rfl ?_
  refine zt_cVv (pc' := 5) hX dX1_sum_2 rfl zm_yX1_product zw_21_23 zc_33 (by decide) zs_20 (q := (RX1, TX1, 3)) rfl rfl (zc_X1_product_o2 _ _ σ hI (by omega)) rfl rfl (Nat.le_of_ble_eq_true rfl) (by decide) (fun r2 s3 hr4 hp5 => ?_)
  obtain ⟨hI6, hF7, z8⟩ := hp5
  have hF9 := zFA_tr hF hF7
  have b10 := zv_14_5 hI6 zc_27
  refine zt_iconst (pc' := 6) hX dX1_sum_5 rfl ?_
  refine zt_istore_n (pc' := 7) (lv' := [some (.ref (X.1.1 + 33)), some (.int (zI 2)), some (.int (zI 0)), none]) hX dX1_sum_6 rfl hL (by decide) rfl ?_
  have L_7_17 : ∀ (N : Nat) (x11 : Int) (s14 : zSto), 0 ≤ x11 → x11 ≤ 1600 → zInv s14 → zFA σ s14 → s14 27 5 = σ 27 5 → ((1601 - x11).toNat) < N → zF X s14 7 [some (.ref (X.1.1 + 33)), some (.int (zI 2)), some (.int (zI x11)), none] [] := by
    intro N
    induction N with
    | zero =>
      intro x11 s14 h12 h13 hI15 hF16 g17 hm19
      exact absurd hm19 (Nat.not_lt_zero _)
    | succ N ih20 =>
      intro x11 s14 h12 h13 hI15 hF16 g17 hm19
      have b21 := zv_14_5 hI15 zc_27
      refine zt_iload_n (pc' := 8) hX dX1_sum_7 rfl rfl ?_
      refine zt_sipush (pc' := 11) hX dX1_sum_8 rfl (by decide) (by decide) ?_
      refine zt_icge (pc' := 14) (tgt := 72) hX dX1_sum_11 rfl (by decide) ⟨by omega, by omega⟩ ⟨by omega, by omega⟩ (fun c22 => ?_) (fun c22 => ?_)
      · exact zt_vret hX hR dX1_sum_72 ⟨hI15, hF16, by omega⟩
      · refine zt_aload_n (pc' := 15) hX dX1_sum_14 rfl rfl ?_
        refine zt_get (pc' := 18) (v := .ref (X.1.1 + 27)) hX dX1_sum_15 rfl zf_X1_15 (by decide) zc_33 zs_20 (zrf_of (zv_20_0 hI15 zc_33)) ?_
        refine zt_cVi (pc' := 21) hX dX1_sum_18 rfl zm_yX5_signHere zw_22_2 zc_27 (by decide) zs_14 (q := (RX5, TX5, 9)) rfl rfl (zc_X5_signHere _ _ s14 hI15 ) rfl rfl (Nat.le_of_ble_eq_true rfl) (by decide) (fun r23 s24 hr25 hp26 => ?_)
        obtain ⟨rfl, q27, q28⟩ := hp26
        refine zt_bipush (pc' := 23) hX dX1_sum_21 rfl (by decide) (by decide) ?_
        have J_38_28 : zF X s14 38 [some (.ref (X.1.1 + 33)), some (.int (zI 2)), some (.int (zI x11)), none] [] := by
          refine zt_aload_n (pc' := 39) hX dX1_sum_38 rfl rfl ?_
          refine zt_get (pc' := 42) (v := .ref (X.1.1 + 27)) hX dX1_sum_39 rfl zf_X1_15 (by decide) zc_33 zs_20 (zrf_of (zv_20_0 hI15 zc_33)) ?_
          refine zt_cVi (pc' := 45) hX dX1_sum_42 rfl zm_yX5_signHere zw_22_2 zc_27 (by decide) zs_14 (q := (RX5, TX5, 9)) rfl rfl (zc_X5_signHere _ _ s14 hI15 ) rfl rfl (Nat.le_of_ble_eq_true rfl) (by decide) (fun r30 s31 hr32 hp33 => ?_)
          obtain ⟨rfl, q34, q35⟩ := hp33
          refine zt_istore_n (pc' := 46) (lv' := [some (.ref (X.1.1 + 33)), some (.int (zI 2)), some (.int (zI x11)), some (.int (zI r30))]) hX dX1_sum_45 rfl hL (by decide) rfl ?_
          refine zt_aload_n (pc' := 47) hX dX1_sum_46 rfl rfl ?_
          refine zt_get (pc' := 50) (v := .ref (X.1.1 + 27)) hX dX1_sum_47 rfl zf_X1_15 (by decide) zc_33 zs_20 (zrf_of (zv_20_0 hI15 zc_33)) ?_
          refine zt_cVv (pc' := 53) hX dX1_sum_50 rfl zm_yX5_step zw_22_6 zc_27 (by decide) zs_14 (q := (RX5, TX5, 9)) rfl rfl (zc_X5_step _ _ s14 hI15 (by omega)) rfl rfl (Nat.le_of_ble_eq_true rfl) (by decide) (fun r36 s37 hr38 hp39 => ?_)
          obtain ⟨hI40, hF41, z42⟩ := hp39
          have hF43 := zFA_tr hF16 hF41
          have b44 := zv_14_5 hI40 zc_27
          refine zt_aload_n (pc' := 54) hX dX1_sum_53 rfl rfl ?_
          refine zt_iload_n (pc' := 55) hX dX1_sum_54 rfl rfl ?_
          refine zt_cVv (pc' := 58) hX dX1_sum_55 rfl zm_yX1_product zw_21_23 zc_33 (by decide) zs_20 (q := (RX1, TX1, 3)) rfl rfl (zc_X1_product_o2 _ _ s37 hI40 (by omega)) rfl rfl (Nat.le_of_ble_eq_true rfl) (by decide) (fun r45 s46 hr47 hp48 => ?_)
          obtain ⟨hI49, hF50, z51⟩ := hp48
          have hF52 := zFA_tr hF43 hF50
          have b53 := zv_14_5 hI49 zc_27
          refine zt_aload_n (pc' := 59) hX dX1_sum_58 rfl rfl ?_
          obtain ⟨k54, ek55, hk56⟩ := zv_20_1 hI49 zc_33
          refine zt_get (pc' := 62) (v := .ref (X.1.1 + k54)) hX dX1_sum_59 rfl zf_X1_19 (by decide) zc_33 zs_20 (zrf_of ek55) ?_
          refine zt_iload_n (pc' := 63) hX dX1_sum_62 rfl rfl ?_
          refine zt_cVv (pc' := 66) hX dX1_sum_63 rfl zm_yX4_addStep zw_22_7 hk56 (by decide) zs_6 (q := (RX4, TX4, 2)) rfl rfl (zc_X4_addStep _ _ s46 hI49 k54 hk56 r30 ⟨by omega, by omega⟩) rfl rfl (Nat.le_of_ble_eq_true rfl) (by decide) (fun r57 s58 hr59 hp60 => ?_)
          obtain ⟨hI61, hF62, z63⟩ := hp60
          have hF64 := zFA_tr hF52 hF62
          have b65 := zv_14_5 hI61 zc_27
          refine zt_iinc (pc' := 69) (lv' := [some (.ref (X.1.1 + 33)), some (.int (zI 2)), some (.int (zI (x11 + 1))), some (.int (zI r30))]) hX dX1_sum_66 rfl rfl hL (by decide) rfl ?_
          refine zt_goto (tgt := 7) hX dX1_sum_69 (by decide) ?_
          refine zt_mask [true, true, true, false] rfl ?_
          exact ih20 (x11 + 1) s58 (by omega) (by omega) hI61 hF64 (by omega) (by omega)
        refine zt_iceq (pc' := 26) (tgt := 38) hX dX1_sum_23 rfl (by decide) ⟨by omega, by omega⟩ ⟨by omega, by omega⟩ (fun c66 => ?_) (fun c66 => ?_)
        · exact J_38_28
        · refine zt_aload_n (pc' := 27) hX dX1_sum_26 rfl rfl ?_
          refine zt_get (pc' := 30) (v := .ref (X.1.1 + 27)) hX dX1_sum_27 rfl zf_X1_15 (by decide) zc_33 zs_20 (zrf_of (zv_20_0 hI15 zc_33)) ?_
          refine zt_cVi (pc' := 33) hX dX1_sum_30 rfl zm_yX5_signHere zw_22_2 zc_27 (by decide) zs_14 (q := (RX5, TX5, 9)) rfl rfl (zc_X5_signHere _ _ s14 hI15 ) rfl rfl (Nat.le_of_ble_eq_true rfl) (by decide) (fun r67 s68 hr69 hp70 => ?_)
          obtain ⟨rfl, q71, q72⟩ := hp70
          refine zt_bipush (pc' := 35) hX dX1_sum_33 rfl (by decide) (by decide) ?_
          refine zt_icne (pc' := 38) (tgt := 72) hX dX1_sum_35 rfl (by decide) ⟨by omega, by omega⟩ ⟨by omega, by omega⟩ (fun c73 => ?_) (fun c73 => ?_)
          · exact zt_vret hX hR dX1_sum_72 ⟨hI15, hF16, by omega⟩
          · exact J_38_28
  exact L_7_17 _ 0 s3 (by omega) (by omega) hI6 hF9 (by omega) (Nat.lt_succ_self _)

set_option maxRecDepth 100000 in
set_option maxHeartbeats 4000000 in
theorem zc_X1_comparison_o2 (l : Launch) (E : zEN) (σ : zSto) (hI : zInv σ) (hpre0 : σ 27 5 ≤ 1600) : zCt l E yX1_comparison cX1_comparison 3 none 22 zNC zNC 0 0 σ [.ref (E.1 + 33), .int (zI 2)] (fun r σ' => zInv σ' ∧ zFA σ σ' ∧ (σ' 27 5 = σ 27 5)) := by
  refine zCt_of2 [some (.ref (E.1 + 33)), some (.int (zI 2)), none] (by decide +kernel) (Nat.le_of_ble_eq_true rfl) rfl ?_
  intro X hE hX hR hL hN
  subst hE
  have hX : zok X cX1_comparison RX1 22 := hX
  have hF := zFA_rf σ
  have b1 := zv_14_5 hI zc_27
  refine zt_aload_n (pc' := 1) hX dX1_comparison_0 rfl rfl ?_
  refine zt_iload_n (pc' := 2) hX dX1_comparison_1 rfl rfl ?_
  refine zt_cVv (pc' := 5) hX dX1_comparison_2 rfl zm_yX1_sum zw_21_19 zc_33 (by decide) zs_20 (q := (RX1, TX1, 3)) rfl rfl (zc_X1_sum_o2 _ _ σ hI (by omega)) rfl rfl (Nat.le_of_ble_eq_true rfl) (by decide) (fun r2 s3 hr4 hp5 => ?_)
  obtain ⟨hI6, hF7, z8⟩ := hp5
  have hF9 := zFA_tr hF hF7
  have b10 := zv_14_5 hI6 zc_27
  refine zt_aload_n (pc' := 6) hX dX1_comparison_5 rfl rfl ?_
  refine zt_get (pc' := 9) (v := .ref (X.1.1 + 27)) hX dX1_comparison_6 rfl zf_X1_15 (by decide) zc_33 zs_20 (zrf_of (zv_20_0 hI6 zc_33)) ?_
  refine zt_cVi (pc' := 12) hX dX1_comparison_9 rfl zm_yX5_signHere zw_22_2 zc_27 (by decide) zs_14 (q := (RX5, TX5, 9)) rfl rfl (zc_X5_signHere _ _ s3 hI6 ) rfl rfl (Nat.le_of_ble_eq_true rfl) (by decide) (fun r11 s12 hr13 hp14 => ?_)
  obtain ⟨rfl, q15, q16⟩ := hp14
  refine zt_istore_n (pc' := 13) (lv' := [some (.ref (X.1.1 + 33)), some (.int (zI 2)), some (.int (zI r11))]) hX dX1_comparison_12 rfl hL (by decide) rfl ?_
  refine zt_iload_n (pc' := 14) hX dX1_comparison_13 rfl rfl ?_
  refine zt_bipush (pc' := 16) hX dX1_comparison_14 rfl (by decide) (by decide) ?_
  have J_31_16 : zF X s3 31 [some (.ref (X.1.1 + 33)), some (.int (zI 2)), some (.int (zI r11))] [] := by
    refine zt_aload_n (pc' := 32) hX dX1_comparison_31 rfl rfl ?_
    refine zt_get (pc' := 35) (v := .ref (X.1.1 + 27)) hX dX1_comparison_32 rfl zf_X1_15 (by decide) zc_33 zs_20 (zrf_of (zv_20_0 hI6 zc_33)) ?_
    refine zt_cVv (pc' := 38) hX dX1_comparison_35 rfl zm_yX5_step zw_22_6 zc_27 (by decide) zs_14 (q := (RX5, TX5, 9)) rfl rfl (zc_X5_step _ _ s3 hI6 (by omega)) rfl rfl (Nat.le_of_ble_eq_true rfl) (by decide) (fun r18 s19 hr20 hp21 => ?_)
    obtain ⟨hI22, hF23, z24⟩ := hp21
    have hF25 := zFA_tr hF9 hF23
    have b26 := zv_14_5 hI22 zc_27
    refine zt_aload_n (pc' := 39) hX dX1_comparison_38 rfl rfl ?_
    refine zt_iload_n (pc' := 40) hX dX1_comparison_39 rfl rfl ?_
    refine zt_cVv (pc' := 43) hX dX1_comparison_40 rfl zm_yX1_sum zw_21_19 zc_33 (by decide) zs_20 (q := (RX1, TX1, 3)) rfl rfl (zc_X1_sum_o2 _ _ s19 hI22 (by omega)) rfl rfl (Nat.le_of_ble_eq_true rfl) (by decide) (fun r27 s28 hr29 hp30 => ?_)
    obtain ⟨hI31, hF32, z33⟩ := hp30
    have hF34 := zFA_tr hF25 hF32
    have b35 := zv_14_5 hI31 zc_27
    refine zt_aload_n (pc' := 44) hX dX1_comparison_43 rfl rfl ?_
    obtain ⟨k36, ek37, hk38⟩ := zv_20_1 hI31 zc_33
    refine zt_get (pc' := 47) (v := .ref (X.1.1 + k36)) hX dX1_comparison_44 rfl zf_X1_19 (by decide) zc_33 zs_20 (zrf_of ek37) ?_
    refine zt_iload_n (pc' := 48) hX dX1_comparison_47 rfl rfl ?_
    refine zt_cVv (pc' := 51) hX dX1_comparison_48 rfl zm_yX4_addStep zw_22_7 hk38 (by decide) zs_6 (q := (RX4, TX4, 2)) rfl rfl (zc_X4_addStep _ _ s28 hI31 k36 hk38 r11 ⟨by omega, by omega⟩) rfl rfl (Nat.le_of_ble_eq_true rfl) (by decide) (fun r39 s40 hr41 hp42 => ?_)
    obtain ⟨hI43, hF44, z45⟩ := hp42
    have hF46 := zFA_tr hF34 hF44
    have b47 := zv_14_5 hI43 zc_27
    refine zt_goto (tgt := 69) hX dX1_comparison_51 (by decide) ?_
    exact zt_vret hX hR dX1_comparison_69 ⟨hI43, hF46, by omega⟩
  refine zt_iceq (pc' := 19) (tgt := 31) hX dX1_comparison_16 rfl (by decide) ⟨by omega, by omega⟩ ⟨by omega, by omega⟩ (fun c48 => ?_) (fun c48 => ?_)
  · exact J_31_16
  · refine zt_iload_n (pc' := 20) hX dX1_comparison_19 rfl rfl ?_
    refine zt_bipush (pc' := 22) hX dX1_comparison_20 rfl (by decide) (by decide) ?_
    refine zt_iceq (pc' := 25) (tgt := 31) hX dX1_comparison_22 rfl (by decide) ⟨by omega, by omega⟩ ⟨by omega, by omega⟩ (fun c49 => ?_) (fun c49 => ?_)
    · exact J_31_16
    · refine zt_iload_n (pc' := 26) hX dX1_comparison_25 rfl rfl ?_
      refine zt_bipush (pc' := 28) hX dX1_comparison_26 rfl (by decide) (by decide) ?_
      refine zt_icne (pc' := 31) (tgt := 54) hX dX1_comparison_28 rfl (by decide) ⟨by omega, by omega⟩ ⟨by omega, by omega⟩ (fun c50 => ?_) (fun c50 => ?_)
      · refine zt_aload_n (pc' := 55) hX dX1_comparison_54 rfl rfl ?_
        refine zt_get (pc' := 58) (v := .ref (X.1.1 + 27)) hX dX1_comparison_55 rfl zf_X1_15 (by decide) zc_33 zs_20 (zrf_of (zv_20_0 hI6 zc_33)) ?_
        refine zt_iconst (pc' := 59) hX dX1_comparison_58 rfl ?_
        refine zt_aload_n (pc' := 60) hX dX1_comparison_59 rfl rfl ?_
        refine zt_get (pc' := 63) (v := .ref (X.1.1 + 27)) hX dX1_comparison_60 rfl zf_X1_15 (by decide) zc_33 zs_20 (zrf_of (zv_20_0 hI6 zc_33)) ?_
        refine zt_cVi (pc' := 66) hX dX1_comparison_63 rfl zm_yX5_placeHere zw_22_9 zc_27 (by decide) zs_14 (q := (RX5, TX5, 9)) rfl rfl (zc_X5_placeHere _ _ s3 hI6 ) rfl rfl (Nat.le_of_ble_eq_true rfl) (by decide) (fun r51 s52 hr53 hp54 => ?_)
        obtain ⟨rfl, q55, q56⟩ := hp54
        refine zt_cVv (pc' := 69) hX dX1_comparison_66 rfl zm_yX5_refuse zw_22_10 zc_27 (by decide) zs_14 (q := (RX5, TX5, 9)) rfl rfl (zc_X5_refuse _ _ s3 hI6 1 ⟨by omega, by omega⟩ r51 ⟨by omega, by omega⟩ (by omega)) rfl rfl (Nat.le_of_ble_eq_true rfl) (by decide) (fun r57 s58 hr59 hp60 => ?_)
        obtain ⟨hI61, hF62, z63⟩ := hp60
        have hF64 := zFA_tr hF9 hF62
        have b65 := zv_14_5 hI61 zc_27
        exact zt_vret hX hR dX1_comparison_69 ⟨hI61, hF64, by omega⟩
      · exact J_31_16

set_option maxRecDepth 100000 in
set_option maxHeartbeats 4000000 in
theorem zc_X1_fact_o2 (l : Launch) (E : zEN) (σ : zSto) (hI : zInv σ) (hpre0 : σ 27 5 ≤ 1600) : zCt l E yX1_fact cX1_fact 2 none 23 zNC zNC 0 0 σ [.ref (E.1 + 33), .int (zI 2)] (fun r σ' => zInv σ' ∧ zFA σ σ' ∧ (σ' 27 5 = σ 27 5)) := by
  refine zCt_of2 [some (.ref (E.1 + 33)), some (.int (zI 2))] (by decide +kernel) (Nat.le_of_ble_eq_true rfl) rfl ?_
  intro X hE hX hR hL hN
  subst hE
  have hX : zok X cX1_fact RX1 23 := hX
  have hF := zFA_rf σ
  have b1 := zv_14_5 hI zc_27
  refine zt_aload_n (pc' := 1) hX dX1_fact_0 rfl rfl ?_
  refine zt_get (pc' := 4) (v := .ref (X.1.1 + 27)) hX dX1_fact_1 rfl zf_X1_15 (by decide) zc_33 zs_20 (zrf_of (zv_20_0 hI zc_33)) ?_
  refine zt_cVi (pc' := 7) hX dX1_fact_4 rfl zm_yX5_wordHere zw_22_21 zc_27 (by decide) zs_14 (q := (RX5, TX5, 9)) rfl rfl (zc_X5_wordHere _ _ σ hI ) rfl rfl (Nat.le_of_ble_eq_true rfl) (by decide) (fun r2 s3 hr4 hp5 => ?_)
  obtain ⟨rfl, q6, q7⟩ := hp5
  refine zt_bipush (pc' := 9) hX dX1_fact_7 rfl (by decide) (by decide) ?_
  refine zt_icne (pc' := 12) (tgt := 39) hX dX1_fact_9 rfl (by decide) ⟨by omega, by omega⟩ ⟨by omega, by omega⟩ (fun c8 => ?_) (fun c8 => ?_)
  · refine zt_aload_n (pc' := 40) hX dX1_fact_39 rfl rfl ?_
    refine zt_get (pc' := 43) (v := .ref (X.1.1 + 27)) hX dX1_fact_40 rfl zf_X1_15 (by decide) zc_33 zs_20 (zrf_of (zv_20_0 hI zc_33)) ?_
    refine zt_cVi (pc' := 46) hX dX1_fact_43 rfl zm_yX5_signHere zw_22_2 zc_27 (by decide) zs_14 (q := (RX5, TX5, 9)) rfl rfl (zc_X5_signHere _ _ σ hI ) rfl rfl (Nat.le_of_ble_eq_true rfl) (by decide) (fun r9 s10 hr11 hp12 => ?_)
    obtain ⟨rfl, q13, q14⟩ := hp12
    refine zt_bipush (pc' := 48) hX dX1_fact_46 rfl (by decide) (by decide) ?_
    refine zt_icne (pc' := 51) (tgt := 78) hX dX1_fact_48 rfl (by decide) ⟨by omega, by omega⟩ ⟨by omega, by omega⟩ (fun c15 => ?_) (fun c15 => ?_)
    · refine zt_aload_n (pc' := 79) hX dX1_fact_78 rfl rfl ?_
      refine zt_get (pc' := 82) (v := .ref (X.1.1 + 27)) hX dX1_fact_79 rfl zf_X1_15 (by decide) zc_33 zs_20 (zrf_of (zv_20_0 hI zc_33)) ?_
      refine zt_cVi (pc' := 85) hX dX1_fact_82 rfl zm_yX5_wordHere zw_22_21 zc_27 (by decide) zs_14 (q := (RX5, TX5, 9)) rfl rfl (zc_X5_wordHere _ _ σ hI ) rfl rfl (Nat.le_of_ble_eq_true rfl) (by decide) (fun r16 s17 hr18 hp19 => ?_)
      obtain ⟨rfl, q20, q21⟩ := hp19
      refine zt_bipush (pc' := 87) hX dX1_fact_85 rfl (by decide) (by decide) ?_
      refine zt_icne (pc' := 90) (tgt := 109) hX dX1_fact_87 rfl (by decide) ⟨by omega, by omega⟩ ⟨by omega, by omega⟩ (fun c22 => ?_) (fun c22 => ?_)
      · refine zt_aload_n (pc' := 110) hX dX1_fact_109 rfl rfl ?_
        refine zt_iload_n (pc' := 111) hX dX1_fact_110 rfl rfl ?_
        refine zt_cVv (pc' := 114) hX dX1_fact_111 rfl zm_yX1_comparison zw_24_14 zc_33 (by decide) zs_20 (q := (RX1, TX1, 3)) rfl rfl (zc_X1_comparison_o2 _ _ σ hI (by omega)) rfl rfl (Nat.le_of_ble_eq_true rfl) (by decide) (fun r23 s24 hr25 hp26 => ?_)
        obtain ⟨hI27, hF28, z29⟩ := hp26
        have hF30 := zFA_tr hF hF28
        have b31 := zv_14_5 hI27 zc_27
        exact zt_vret hX hR dX1_fact_114 ⟨hI27, hF30, by omega⟩
      · refine zt_aload_n (pc' := 91) hX dX1_fact_90 rfl rfl ?_
        refine zt_get (pc' := 94) (v := .ref (X.1.1 + 27)) hX dX1_fact_91 rfl zf_X1_15 (by decide) zc_33 zs_20 (zrf_of (zv_20_0 hI zc_33)) ?_
        refine zt_cVv (pc' := 97) hX dX1_fact_94 rfl zm_yX5_step zw_22_6 zc_27 (by decide) zs_14 (q := (RX5, TX5, 9)) rfl rfl (zc_X5_step _ _ σ hI (by omega)) rfl rfl (Nat.le_of_ble_eq_true rfl) (by decide) (fun r32 s33 hr34 hp35 => ?_)
        obtain ⟨hI36, hF37, z38⟩ := hp35
        have hF39 := zFA_tr hF hF37
        have b40 := zv_14_5 hI36 zc_27
        refine zt_aload_n (pc' := 98) hX dX1_fact_97 rfl rfl ?_
        obtain ⟨k41, ek42, hk43⟩ := zv_20_1 hI36 zc_33
        refine zt_get (pc' := 101) (v := .ref (X.1.1 + k41)) hX dX1_fact_98 rfl zf_X1_19 (by decide) zc_33 zs_20 (zrf_of ek42) ?_
        refine zt_bipush (pc' := 103) hX dX1_fact_101 rfl (by decide) (by decide) ?_
        refine zt_cVv (pc' := 106) hX dX1_fact_103 rfl zm_yX4_addStep zw_22_7 hk43 (by decide) zs_6 (q := (RX4, TX4, 2)) rfl rfl (zc_X4_addStep _ _ s33 hI36 k41 hk43 24 ⟨by omega, by omega⟩) rfl rfl (Nat.le_of_ble_eq_true rfl) (by decide) (fun r44 s45 hr46 hp47 => ?_)
        obtain ⟨hI48, hF49, z50⟩ := hp47
        have hF51 := zFA_tr hF39 hF49
        have b52 := zv_14_5 hI48 zc_27
        refine zt_goto (tgt := 114) hX dX1_fact_106 (by decide) ?_
        exact zt_vret hX hR dX1_fact_114 ⟨hI48, hF51, by omega⟩
    · refine zt_aload_n (pc' := 52) hX dX1_fact_51 rfl rfl ?_
      refine zt_iload_n (pc' := 53) hX dX1_fact_52 rfl rfl ?_
      refine zt_cVz (pc' := 56) hX dX1_fact_53 rfl zm_yX1_opens zw_22_11 zc_33 (by decide) zs_20 (q := (RX1, TX1, 3)) rfl rfl (zc_X1_opens_o2 _ _ σ hI (by omega)) rfl rfl (Nat.le_of_ble_eq_true rfl) (by decide) (fun r53 s54 hr55 hp56 => ?_)
      obtain ⟨hI57, hF58, q59, q60, z61⟩ := hp56
      have hF62 := zFA_tr hF hF58
      have b63 := zv_14_5 hI57 zc_27
      refine zt_ifeq (pc' := 59) (tgt := 114) hX dX1_fact_56 rfl (by decide) ⟨by omega, by omega⟩ (fun c64 => ?_) (fun c64 => ?_)
      · exact absurd c64 (by omega)
      · refine zt_aload_n (pc' := 60) hX dX1_fact_59 rfl rfl ?_
        refine zt_iload_n (pc' := 61) hX dX1_fact_60 rfl rfl ?_
        refine zt_iconst (pc' := 62) hX dX1_fact_61 rfl ?_
        refine zt_iadd (pc' := 63) hX dX1_fact_62 rfl ?_
        rw [show (2 + 1 : Int) = 3 from rfl]
        refine zt_cVv (pc' := 66) hX dX1_fact_63 rfl zm_yX1_test zw_24_2 zc_33 (by decide) zs_20 (q := (RX1, TX1, 3)) rfl rfl (zc_X1_test_o3 _ _ s54 hI57 (by omega)) rfl rfl (Nat.le_of_ble_eq_true rfl) (by decide) (fun r65 s66 hr67 hp68 => ?_)
        obtain ⟨hI69, hF70, z71⟩ := hp68
        have hF72 := zFA_tr hF62 hF70
        have b73 := zv_14_5 hI69 zc_27
        refine zt_aload_n (pc' := 67) hX dX1_fact_66 rfl rfl ?_
        refine zt_get (pc' := 70) (v := .ref (X.1.1 + 27)) hX dX1_fact_67 rfl zf_X1_15 (by decide) zc_33 zs_20 (zrf_of (zv_20_0 hI69 zc_33)) ?_
        refine zt_bipush (pc' := 72) hX dX1_fact_70 rfl (by decide) (by decide) ?_
        refine zt_cVv (pc' := 75) hX dX1_fact_72 rfl zm_yX5_takeSign zw_22_15 zc_27 (by decide) zs_14 (q := (RX5, TX5, 9)) rfl rfl (zc_X5_takeSign _ _ s66 hI69 93 ⟨by omega, by omega⟩ (by omega)) rfl rfl (Nat.le_of_ble_eq_true rfl) (by decide) (fun r74 s75 hr76 hp77 => ?_)
        obtain ⟨hI78, hF79, z80⟩ := hp77
        have hF81 := zFA_tr hF72 hF79
        have b82 := zv_14_5 hI78 zc_27
        refine zt_goto (tgt := 114) hX dX1_fact_75 (by decide) ?_
        exact zt_vret hX hR dX1_fact_114 ⟨hI78, hF81, by omega⟩
  · refine zt_aload_n (pc' := 13) hX dX1_fact_12 rfl rfl ?_
    refine zt_iload_n (pc' := 14) hX dX1_fact_13 rfl rfl ?_
    refine zt_cVz (pc' := 17) hX dX1_fact_14 rfl zm_yX1_opens zw_22_11 zc_33 (by decide) zs_20 (q := (RX1, TX1, 3)) rfl rfl (zc_X1_opens_o2 _ _ σ hI (by omega)) rfl rfl (Nat.le_of_ble_eq_true rfl) (by decide) (fun r83 s84 hr85 hp86 => ?_)
    obtain ⟨hI87, hF88, q89, q90, z91⟩ := hp86
    have hF92 := zFA_tr hF hF88
    have b93 := zv_14_5 hI87 zc_27
    refine zt_ifeq (pc' := 20) (tgt := 114) hX dX1_fact_17 rfl (by decide) ⟨by omega, by omega⟩ (fun c94 => ?_) (fun c94 => ?_)
    · exact absurd c94 (by omega)
    · refine zt_aload_n (pc' := 21) hX dX1_fact_20 rfl rfl ?_
      refine zt_iload_n (pc' := 22) hX dX1_fact_21 rfl rfl ?_
      refine zt_iconst (pc' := 23) hX dX1_fact_22 rfl ?_
      refine zt_iadd (pc' := 24) hX dX1_fact_23 rfl ?_
      rw [show (2 + 1 : Int) = 3 from rfl]
      refine zt_cVv (pc' := 27) hX dX1_fact_24 rfl zm_yX1_fact zw_24_10 zc_33 (by decide) zs_20 (q := (RX1, TX1, 3)) rfl rfl (zc_X1_fact_o3 _ _ s84 hI87 (by omega)) rfl rfl (Nat.le_of_ble_eq_true rfl) (by decide) (fun r95 s96 hr97 hp98 => ?_)
      obtain ⟨hI99, hF100, z101⟩ := hp98
      have hF102 := zFA_tr hF92 hF100
      have b103 := zv_14_5 hI99 zc_27
      refine zt_aload_n (pc' := 28) hX dX1_fact_27 rfl rfl ?_
      obtain ⟨k104, ek105, hk106⟩ := zv_20_1 hI99 zc_33
      refine zt_get (pc' := 31) (v := .ref (X.1.1 + k104)) hX dX1_fact_28 rfl zf_X1_19 (by decide) zc_33 zs_20 (zrf_of ek105) ?_
      refine zt_bipush (pc' := 33) hX dX1_fact_31 rfl (by decide) (by decide) ?_
      refine zt_cVv (pc' := 36) hX dX1_fact_33 rfl zm_yX4_addStep zw_22_7 hk106 (by decide) zs_6 (q := (RX4, TX4, 2)) rfl rfl (zc_X4_addStep _ _ s96 hI99 k104 hk106 23 ⟨by omega, by omega⟩) rfl rfl (Nat.le_of_ble_eq_true rfl) (by decide) (fun r107 s108 hr109 hp110 => ?_)
      obtain ⟨hI111, hF112, z113⟩ := hp110
      have hF114 := zFA_tr hF102 hF112
      have b115 := zv_14_5 hI111 zc_27
      refine zt_goto (tgt := 114) hX dX1_fact_36 (by decide) ?_
      exact zt_vret hX hR dX1_fact_114 ⟨hI111, hF114, by omega⟩

set_option maxRecDepth 100000 in
set_option maxHeartbeats 4000000 in
theorem zc_X1_both_o2 (l : Launch) (E : zEN) (σ : zSto) (hI : zInv σ) (hpre0 : σ 27 5 ≤ 1600) : zCt l E yX1_both cX1_both 3 none 24 zNC zNC 0 0 σ [.ref (E.1 + 33), .int (zI 2)] (fun r σ' => zInv σ' ∧ zFA σ σ' ∧ (σ' 27 5 = σ 27 5)) := by
  refine zCt_of2 [some (.ref (E.1 + 33)), some (.int (zI 2)), none] (by decide +kernel) (Nat.le_of_ble_eq_true rfl) rfl ?_
  intro X hE hX hR hL hN
  subst hE
  have hX : zok X cX1_both RX1 24 := hX
  have hF := zFA_rf σ
  have b1 := zv_14_5 hI zc_27
  refine zt_aload_n (pc' := 1) hX dX1_both_0 rfl rfl ?_
  refine zt_iload_n (pc' := 2) hX dX1_both_1 rfl rfl ?_
  refine zt_cVv (pc' := 5) hX dX1_both_2 rfl zm_yX1_fact zw_24_10 zc_33 (by decide) zs_20 (q := (RX1, TX1, 3)) rfl rfl (zc_X1_fact_o2 _ _ σ hI (by omega)) rfl rfl (Nat.le_of_ble_eq_true rfl) (by decide) (fun r2 s3 hr4 hp5 => ?_)
  obtain ⟨hI6, hF7, z8⟩ := hp5
  have hF9 := zFA_tr hF hF7
  have b10 := zv_14_5 hI6 zc_27
  refine zt_iconst (pc' := 6) hX dX1_both_5 rfl ?_
  refine zt_istore_n (pc' := 7) (lv' := [some (.ref (X.1.1 + 33)), some (.int (zI 2)), some (.int (zI 0))]) hX dX1_both_6 rfl hL (by decide) rfl ?_
  have L_7_17 : ∀ (N : Nat) (x11 : Int) (s14 : zSto), 0 ≤ x11 → x11 ≤ 1600 → zInv s14 → zFA σ s14 → s14 27 5 = σ 27 5 → ((1601 - x11).toNat) < N → zF X s14 7 [some (.ref (X.1.1 + 33)), some (.int (zI 2)), some (.int (zI x11))] [] := by
    intro N
    induction N with
    | zero =>
      intro x11 s14 h12 h13 hI15 hF16 g17 hm19
      exact absurd hm19 (Nat.not_lt_zero _)
    | succ N ih20 =>
      intro x11 s14 h12 h13 hI15 hF16 g17 hm19
      have b21 := zv_14_5 hI15 zc_27
      refine zt_iload_n (pc' := 8) hX dX1_both_7 rfl rfl ?_
      refine zt_sipush (pc' := 11) hX dX1_both_8 rfl (by decide) (by decide) ?_
      refine zt_icge (pc' := 14) (tgt := 53) hX dX1_both_11 rfl (by decide) ⟨by omega, by omega⟩ ⟨by omega, by omega⟩ (fun c22 => ?_) (fun c22 => ?_)
      · exact zt_vret hX hR dX1_both_53 ⟨hI15, hF16, by omega⟩
      · refine zt_aload_n (pc' := 15) hX dX1_both_14 rfl rfl ?_
        refine zt_get (pc' := 18) (v := .ref (X.1.1 + 27)) hX dX1_both_15 rfl zf_X1_15 (by decide) zc_33 zs_20 (zrf_of (zv_20_0 hI15 zc_33)) ?_
        refine zt_cVi (pc' := 21) hX dX1_both_18 rfl zm_yX5_wordHere zw_22_21 zc_27 (by decide) zs_14 (q := (RX5, TX5, 9)) rfl rfl (zc_X5_wordHere _ _ s14 hI15 ) rfl rfl (Nat.le_of_ble_eq_true rfl) (by decide) (fun r23 s24 hr25 hp26 => ?_)
        obtain ⟨rfl, q27, q28⟩ := hp26
        refine zt_bipush (pc' := 23) hX dX1_both_21 rfl (by decide) (by decide) ?_
        refine zt_icne (pc' := 26) (tgt := 53) hX dX1_both_23 rfl (by decide) ⟨by omega, by omega⟩ ⟨by omega, by omega⟩ (fun c29 => ?_) (fun c29 => ?_)
        · exact zt_vret hX hR dX1_both_53 ⟨hI15, hF16, by omega⟩
        · refine zt_aload_n (pc' := 27) hX dX1_both_26 rfl rfl ?_
          refine zt_get (pc' := 30) (v := .ref (X.1.1 + 27)) hX dX1_both_27 rfl zf_X1_15 (by decide) zc_33 zs_20 (zrf_of (zv_20_0 hI15 zc_33)) ?_
          refine zt_cVv (pc' := 33) hX dX1_both_30 rfl zm_yX5_step zw_22_6 zc_27 (by decide) zs_14 (q := (RX5, TX5, 9)) rfl rfl (zc_X5_step _ _ s14 hI15 (by omega)) rfl rfl (Nat.le_of_ble_eq_true rfl) (by decide) (fun r30 s31 hr32 hp33 => ?_)
          obtain ⟨hI34, hF35, z36⟩ := hp33
          have hF37 := zFA_tr hF16 hF35
          have b38 := zv_14_5 hI34 zc_27
          refine zt_aload_n (pc' := 34) hX dX1_both_33 rfl rfl ?_
          refine zt_iload_n (pc' := 35) hX dX1_both_34 rfl rfl ?_
          refine zt_cVv (pc' := 38) hX dX1_both_35 rfl zm_yX1_fact zw_24_10 zc_33 (by decide) zs_20 (q := (RX1, TX1, 3)) rfl rfl (zc_X1_fact_o2 _ _ s31 hI34 (by omega)) rfl rfl (Nat.le_of_ble_eq_true rfl) (by decide) (fun r39 s40 hr41 hp42 => ?_)
          obtain ⟨hI43, hF44, z45⟩ := hp42
          have hF46 := zFA_tr hF37 hF44
          have b47 := zv_14_5 hI43 zc_27
          refine zt_aload_n (pc' := 39) hX dX1_both_38 rfl rfl ?_
          obtain ⟨k48, ek49, hk50⟩ := zv_20_1 hI43 zc_33
          refine zt_get (pc' := 42) (v := .ref (X.1.1 + k48)) hX dX1_both_39 rfl zf_X1_19 (by decide) zc_33 zs_20 (zrf_of ek49) ?_
          refine zt_bipush (pc' := 44) hX dX1_both_42 rfl (by decide) (by decide) ?_
          refine zt_cVv (pc' := 47) hX dX1_both_44 rfl zm_yX4_addStep zw_22_7 hk50 (by decide) zs_6 (q := (RX4, TX4, 2)) rfl rfl (zc_X4_addStep _ _ s40 hI43 k48 hk50 22 ⟨by omega, by omega⟩) rfl rfl (Nat.le_of_ble_eq_true rfl) (by decide) (fun r51 s52 hr53 hp54 => ?_)
          obtain ⟨hI55, hF56, z57⟩ := hp54
          have hF58 := zFA_tr hF46 hF56
          have b59 := zv_14_5 hI55 zc_27
          refine zt_iinc (pc' := 50) (lv' := [some (.ref (X.1.1 + 33)), some (.int (zI 2)), some (.int (zI (x11 + 1)))]) hX dX1_both_47 rfl rfl hL (by decide) rfl ?_
          refine zt_goto (tgt := 7) hX dX1_both_50 (by decide) ?_
          exact ih20 (x11 + 1) s52 (by omega) (by omega) hI55 hF58 (by omega) (by omega)
  exact L_7_17 _ 0 s3 (by omega) (by omega) hI6 hF9 (by omega) (Nat.lt_succ_self _)
