set_option maxRecDepth 100000 in
set_option maxHeartbeats 4000000 in
theorem zc_X6_weakest (l : Launch) (E : zEN) (σ : zSto) (hI : zInv σ)  : zCt l E yX6_weakest cX6_weakest 3 (some .int) 1 zNC zNC 0 0 σ [.ref (E.1 + 153)] (fun r σ' => σ = σ' ∧ -1 ≤ r ∧ r ≤ 35) := by
  refine zCt_of2 [some (.ref (E.1 + 153)), none, none] (by decide +kernel) (Nat.le_of_ble_eq_true rfl) rfl ?_
  intro X hE hX hR hL hN
  subst hE
  have hX : zok X cX6_weakest RX6 1 := hX
  refine zt_iconst (pc' := 1) hX dX6_weakest_0 rfl ?_
  refine zt_istore_n (pc' := 2) (lv' := [some (.ref (X.1.1 + 153)), some (.int (zI (-1))), none]) hX dX6_weakest_1 rfl hL (by decide) rfl ?_
  refine zt_iconst (pc' := 3) hX dX6_weakest_2 rfl ?_
  refine zt_istore_n (pc' := 4) (lv' := [some (.ref (X.1.1 + 153)), some (.int (zI (-1))), some (.int (zI 0))]) hX dX6_weakest_3 rfl hL (by decide) rfl ?_
  have L_4_6 : ∀ (N : Nat) (x1 : Int) (x4 : Int), -1 ≤ x1 → x1 ≤ 35 → 0 ≤ x4 → x4 ≤ 36 → ((37 - x4).toNat) < N → zF X σ 4 [some (.ref (X.1.1 + 153)), some (.int (zI x1)), some (.int (zI x4))] [] := by
    intro N
    induction N with
    | zero =>
      intro x1 x4 h2 h3 h5 h6 hm8
      exact absurd hm8 (Nat.not_lt_zero _)
    | succ N ih9 =>
      intro x1 x4 h2 h3 h5 h6 hm8
      refine zt_iload_n (pc' := 5) hX dX6_weakest_4 rfl rfl ?_
      refine zt_aload_n (pc' := 6) hX dX6_weakest_5 rfl rfl ?_
      obtain ⟨k10, ek11, hk12⟩ := zv_35_6 hI zc_153
      refine zt_get (pc' := 9) (v := .ref (X.1.1 + k10)) hX dX6_weakest_6 rfl zf_X6_54 (by decide) zc_153 zs_35 (zrf_of ek11) ?_
      refine zt_cVi (pc' := 12) hX dX6_weakest_9 rfl zm_yX3_cells zw_43_7 hk12 (by decide) zs_8 (q := (RX3, TX3, 17)) rfl rfl (zc_X3_cells _ _ σ hI k10 hk12) rfl rfl (Nat.le_of_ble_eq_true rfl) (by decide) (fun r13 s14 hr15 hp16 => ?_)
      obtain ⟨rfl, q17, q18⟩ := hp16
      refine zt_icge (pc' := 15) (tgt := 54) hX dX6_weakest_12 rfl (by decide) ⟨by omega, by omega⟩ ⟨by omega, by omega⟩ (fun c19 => ?_) (fun c19 => ?_)
      · refine zt_iload_n (pc' := 55) hX dX6_weakest_54 rfl rfl ?_
        exact zt_iret hX hR dX6_weakest_55 ⟨by omega, by omega⟩ ⟨rfl, by omega, by omega⟩
      · refine zt_aload_n (pc' := 16) hX dX6_weakest_15 rfl rfl ?_
        obtain ⟨k20, ek21, hk22⟩ := zv_35_7 hI zc_153
        refine zt_get (pc' := 19) (v := .ref (X.1.1 + k20)) hX dX6_weakest_16 rfl zf_X6_58 (by decide) zc_153 zs_35 (zrf_of ek21) ?_
        refine zt_iload_n (pc' := 20) hX dX6_weakest_19 rfl rfl ?_
        refine zt_cVz (pc' := 23) hX dX6_weakest_20 rfl zm_yX10_isCracked zw_43_11 hk22 (by decide) zs_22 (q := (RX10, TX10, 8)) rfl rfl (zc_X10_isCracked _ _ σ hI k20 hk22 x4 ⟨by omega, by omega⟩) rfl rfl (Nat.le_of_ble_eq_true rfl) (by decide) (fun r23 s24 hr25 hp26 => ?_)
        obtain ⟨rfl, q27, q28⟩ := hp26
        have J_48_31 : ∀ (x29 : Int), -1 ≤ x29 → x29 ≤ 35 → zF X σ 48 [some (.ref (X.1.1 + 153)), some (.int (zI x29)), some (.int (zI x4))] [] := by
          intro x29 h30 h31
          refine zt_iinc (pc' := 51) (lv' := [some (.ref (X.1.1 + 153)), some (.int (zI x29)), some (.int (zI (x4 + 1)))]) hX dX6_weakest_48 rfl rfl hL (by decide) rfl ?_
          refine zt_goto (tgt := 4) hX dX6_weakest_51 (by decide) ?_
          exact ih9 x29 (x4 + 1) (by omega) (by omega) (by omega) (by omega) (by omega)
        refine zt_ifne (pc' := 26) (tgt := 48) hX dX6_weakest_23 rfl (by decide) ⟨by omega, by omega⟩ (fun c33 => ?_) (fun c33 => ?_)
        · exact J_48_31 x1 (by omega) (by omega)
        · refine zt_iload_n (pc' := 27) hX dX6_weakest_26 rfl rfl ?_
          refine zt_iconst (pc' := 28) hX dX6_weakest_27 rfl ?_
          have J_46_33 : zF X σ 46 [some (.ref (X.1.1 + 153)), none, some (.int (zI x4))] [] := by
            refine zt_iload_n (pc' := 47) hX dX6_weakest_46 rfl rfl ?_
            refine zt_istore_n (pc' := 48) (lv' := [some (.ref (X.1.1 + 153)), some (.int (zI x4)), some (.int (zI x4))]) hX dX6_weakest_47 rfl hL (by decide) rfl ?_
            exact J_48_31 x4 (by omega) (by omega)
          refine zt_iceq (pc' := 31) (tgt := 46) hX dX6_weakest_28 rfl (by decide) ⟨by omega, by omega⟩ ⟨by omega, by omega⟩ (fun c35 => ?_) (fun c35 => ?_)
          · refine zt_mask [true, false, true] rfl ?_
            exact J_46_33
          · refine zt_aload_n (pc' := 32) hX dX6_weakest_31 rfl rfl ?_
            refine zt_get (pc' := 35) (v := .ref (X.1.1 + 162)) hX dX6_weakest_32 rfl zf_X6_31 (by decide) zc_153 zs_35 (zrf_of (zv_35_5 hI zc_153)) ?_
            refine zt_iload_n (pc' := 36) hX dX6_weakest_35 rfl rfl ?_
            refine zt_iald (pc' := 37) hX dX6_weakest_36 rfl (by decide) zc_162 zs_44 (by decide) ⟨by omega, by omega⟩ ?_
            generalize hv36 : σ 162 (x4.toNat) = v36
            have bv36 : -2147483648 ≤ v36 ∧ v36 ≤ 2147483647 := hv36 ▸ zv_44 hI zc_162 _
            refine zt_aload_n (pc' := 38) hX dX6_weakest_37 rfl rfl ?_
            refine zt_get (pc' := 41) (v := .ref (X.1.1 + 162)) hX dX6_weakest_38 rfl zf_X6_31 (by decide) zc_153 zs_35 (zrf_of (zv_35_5 hI zc_153)) ?_
            refine zt_iload_n (pc' := 42) hX dX6_weakest_41 rfl rfl ?_
            refine zt_iald (pc' := 43) hX dX6_weakest_42 rfl (by decide) zc_162 zs_44 (by decide) ⟨by omega, by omega⟩ ?_
            generalize hv37 : σ 162 (x1.toNat) = v37
            have bv37 : -2147483648 ≤ v37 ∧ v37 ≤ 2147483647 := hv37 ▸ zv_44 hI zc_162 _
            refine zt_icge (pc' := 46) (tgt := 48) hX dX6_weakest_43 rfl (by decide) ⟨by omega, by omega⟩ ⟨by omega, by omega⟩ (fun c38 => ?_) (fun c38 => ?_)
            · exact J_48_31 x1 (by omega) (by omega)
            · refine zt_mask [true, false, true] rfl ?_
              exact J_46_33
  exact L_4_6 _ (-1) 0 (by omega) (by omega) (by omega) (by omega) (Nat.lt_succ_self _)

set_option maxRecDepth 100000 in
set_option maxHeartbeats 4000000 in
theorem zc_X6_tryPlace (l : Launch) (E : zEN) (σ : zSto) (hI : zInv σ) (a1_ : Int) (ha1_ : 0 ≤ a1_ ∧ a1_ ≤ 9) (a2_ : Int) (ha2_ : 0 ≤ a2_ ∧ a2_ ≤ 5) (a3_ : Int) (ha3_ : 0 ≤ a3_ ∧ a3_ ≤ 5) : zCt l E yX6_tryPlace cX6_tryPlace 9 none 2 zNC zNC 0 0 σ [.ref (E.1 + 153), .int (zI a1_), .int (zI a2_), .int (zI a3_)] (fun r σ' => zInv σ' ∧ zFE σ σ') := by
  refine zCt_of2 [some (.ref (E.1 + 153)), some (.int (zI a1_)), some (.int (zI a2_)), some (.int (zI a3_)), none, none, none, none, none] (by decide +kernel) (Nat.le_of_ble_eq_true rfl) rfl ?_
  intro X hE hX hR hL hN
  subst hE
  have hX : zok X cX6_tryPlace RX6 2 := hX
  have hF := zFE_rf σ
  refine zt_aload_n (pc' := 1) hX dX6_tryPlace_0 rfl rfl ?_
  refine zt_iconst (pc' := 2) hX dX6_tryPlace_1 rfl ?_
  refine zt_put (pc' := 5) (x := 0) hX dX6_tryPlace_2 rfl zf_X6_48 (by decide) zc_153 zs_35 (fun q hq => by cases hq; rfl) rfl rfl rfl ?_
  generalize hs2 : zset σ 153 12 0 = s1
  have hI3 : zInv s1 := hs2 ▸ zp_35_12 hI zc_153 ⟨by omega, by omega⟩
  have hF4 : zFE σ s1 := hs2 ▸ zFE_set hF zc_153 (by decide) zke_35 (Or.inl (by decide)) (Or.inl (by decide))
  refine zt_aload_n (pc' := 6) hX dX6_tryPlace_5 rfl rfl ?_
  refine zt_ldc (pc' := 8) (x := 1000000) hX dX6_tryPlace_6 rfl zw_54_16 (by decide +kernel) ?_
  refine zt_put (pc' := 11) (x := 1000000) hX dX6_tryPlace_8 rfl zf_X6_51 (by decide) zc_153 zs_35 (fun q hq => by cases hq; rfl) rfl rfl rfl ?_
  generalize hs6 : zset s1 153 13 1000000 = s5
  have hI7 : zInv s5 := hs6 ▸ zp_35_13 hI3 zc_153 ⟨by omega, by omega⟩
  have hF8 : zFE σ s5 := hs6 ▸ zFE_set hF4 zc_153 (by decide) zke_35 (Or.inl (by decide)) (Or.inl (by decide))
  refine zt_iconst (pc' := 12) hX dX6_tryPlace_11 rfl ?_
  refine zt_istore (pc' := 14) (lv' := [some (.ref (X.1.1 + 153)), some (.int (zI a1_)), some (.int (zI a2_)), some (.int (zI a3_)), some (.int (zI 0)), none, none, none, none]) hX dX6_tryPlace_12 rfl hL (by decide) rfl ?_
  have L_14_14 : ∀ (N : Nat) (x9 : Int) (s12 : zSto), 0 ≤ x9 → x9 ≤ 6 → zInv s12 → zFE σ s12 → ((7 - x9).toNat) < N → zF X s12 14 [some (.ref (X.1.1 + 153)), some (.int (zI a1_)), some (.int (zI a2_)), some (.int (zI a3_)), some (.int (zI x9)), none, none, none, none] [] := by
    intro N
    induction N with
    | zero =>
      intro x9 s12 h10 h11 hI13 hF14 hm16
      exact absurd hm16 (Nat.not_lt_zero _)
    | succ N ih17 =>
      intro x9 s12 h10 h11 hI13 hF14 hm16
      refine zt_iload (pc' := 16) hX dX6_tryPlace_14 rfl rfl ?_
      refine zt_aload_n (pc' := 17) hX dX6_tryPlace_16 rfl rfl ?_
      obtain ⟨k18, ek19, hk20⟩ := zv_35_6 hI13 zc_153
      refine zt_get (pc' := 20) (v := .ref (X.1.1 + k18)) hX dX6_tryPlace_17 rfl zf_X6_54 (by decide) zc_153 zs_35 (zrf_of ek19) ?_
      have b21 := zv_8_11 hI13 hk20
      refine zt_get (pc' := 23) (v := .int (zI (s12 k18 11))) hX dX6_tryPlace_20 rfl zf_X6_87 (zro_lt hk20 (by decide)) hk20 zs_8 rfl ?_
      refine zt_icge (pc' := 26) (tgt := 144) hX dX6_tryPlace_23 rfl (by decide) ⟨by omega, by omega⟩ ⟨by omega, by omega⟩ (fun c22 => ?_) (fun c22 => ?_)
      · exact zt_vret hX hR dX6_tryPlace_144 ⟨hI13, hF14⟩
      · refine zt_iconst (pc' := 27) hX dX6_tryPlace_26 rfl ?_
        refine zt_istore (pc' := 29) (lv' := [some (.ref (X.1.1 + 153)), some (.int (zI a1_)), some (.int (zI a2_)), some (.int (zI a3_)), some (.int (zI x9)), some (.int (zI 0)), none, none, none]) hX dX6_tryPlace_27 rfl hL (by decide) rfl ?_
        have L_29_28 : ∀ (N : Nat) (x23 : Int) (s26 : zSto), 0 ≤ x23 → x23 ≤ 6 → zInv s26 → zFE σ s26 → ((7 - x23).toNat) < N → zF X s26 29 [some (.ref (X.1.1 + 153)), some (.int (zI a1_)), some (.int (zI a2_)), some (.int (zI a3_)), some (.int (zI x9)), some (.int (zI x23)), none, none, none] [] := by
          intro N
          induction N with
          | zero =>
            intro x23 s26 h24 h25 hI27 hF28 hm30
            exact absurd hm30 (Nat.not_lt_zero _)
          | succ N ih31 =>
            intro x23 s26 h24 h25 hI27 hF28 hm30
            refine zt_iload (pc' := 31) hX dX6_tryPlace_29 rfl rfl ?_
            refine zt_aload_n (pc' := 32) hX dX6_tryPlace_31 rfl rfl ?_
            obtain ⟨k32, ek33, hk34⟩ := zv_35_6 hI27 zc_153
            refine zt_get (pc' := 35) (v := .ref (X.1.1 + k32)) hX dX6_tryPlace_32 rfl zf_X6_54 (by decide) zc_153 zs_35 (zrf_of ek33) ?_
            have b35 := zv_8_10 hI27 hk34
            refine zt_get (pc' := 38) (v := .int (zI (s26 k32 10))) hX dX6_tryPlace_35 rfl zf_X6_90 (zro_lt hk34 (by decide)) hk34 zs_8 rfl ?_
            refine zt_icge (pc' := 41) (tgt := 138) hX dX6_tryPlace_38 rfl (by decide) ⟨by omega, by omega⟩ ⟨by omega, by omega⟩ (fun c36 => ?_) (fun c36 => ?_)
            · refine zt_iinc (pc' := 141) (lv' := [some (.ref (X.1.1 + 153)), some (.int (zI a1_)), some (.int (zI a2_)), some (.int (zI a3_)), some (.int (zI (x9 + 1))), some (.int (zI x23)), none, none, none]) hX dX6_tryPlace_138 rfl rfl hL (by decide) rfl ?_
              refine zt_goto (tgt := 14) hX dX6_tryPlace_141 (by decide) ?_
              refine zt_mask [true, true, true, true, true, false, false, false, false] rfl ?_
              exact ih17 (x9 + 1) s26 (by omega) (by omega) hI27 (by omega) (by omega)
            · refine zt_aload_n (pc' := 42) hX dX6_tryPlace_41 rfl rfl ?_
              refine zt_get (pc' := 45) (v := .ref (X.1.1 + k32)) hX dX6_tryPlace_42 rfl zf_X6_54 (by decide) zc_153 zs_35 (zrf_of ek33) ?_
              refine zt_iload (pc' := 47) hX dX6_tryPlace_45 rfl rfl ?_
              refine zt_iload (pc' := 49) hX dX6_tryPlace_47 rfl rfl ?_
              refine zt_cVi (pc' := 52) hX dX6_tryPlace_49 rfl zm_yX3_cellAt zw_35_5 hk34 (by decide) zs_8 (q := (RX3, TX3, 17)) rfl rfl (zc_X3_cellAt _ _ s26 hI27 k32 hk34 x23 ⟨by omega, by omega⟩ x9 ⟨by omega, by omega⟩) rfl rfl (Nat.le_of_ble_eq_true rfl) (by decide) (fun r37 s38 hr39 hp40 => ?_)
              obtain ⟨rfl, q41, q42, z43⟩ := hp40
              refine zt_istore (pc' := 54) (lv' := [some (.ref (X.1.1 + 153)), some (.int (zI a1_)), some (.int (zI a2_)), some (.int (zI a3_)), some (.int (zI x9)), some (.int (zI x23)), some (.int (zI r37)), none, none]) hX dX6_tryPlace_52 rfl hL (by decide) rfl ?_
              refine zt_aload_n (pc' := 55) hX dX6_tryPlace_54 rfl rfl ?_
              obtain ⟨k44, ek45, hk46⟩ := zv_35_7 hI27 zc_153
              refine zt_get (pc' := 58) (v := .ref (X.1.1 + k44)) hX dX6_tryPlace_55 rfl zf_X6_58 (by decide) zc_153 zs_35 (zrf_of ek45) ?_
              refine zt_iload (pc' := 60) hX dX6_tryPlace_58 rfl rfl ?_
              refine zt_cVz (pc' := 63) hX dX6_tryPlace_60 rfl zm_yX10_isCracked zw_43_11 hk46 (by decide) zs_22 (q := (RX10, TX10, 8)) rfl rfl (zc_X10_isCracked _ _ s26 hI27 k44 hk46 r37 ⟨by omega, by omega⟩) rfl rfl (Nat.le_of_ble_eq_true rfl) (by decide) (fun r47 s48 hr49 hp50 => ?_)
              obtain ⟨rfl, q51, q52⟩ := hp50
              have J_132_55 : ∀ (s53 : zSto), zInv s53 → zFE σ s53 → zF X s53 132 [some (.ref (X.1.1 + 153)), some (.int (zI a1_)), some (.int (zI a2_)), some (.int (zI a3_)), some (.int (zI x9)), some (.int (zI x23)), none, none, none] [] := by
                intro s53 hI54 hF55
                refine zt_iinc (pc' := 135) (lv' := [some (.ref (X.1.1 + 153)), some (.int (zI a1_)), some (.int (zI a2_)), some (.int (zI a3_)), some (.int (zI x9)), some (.int (zI (x23 + 1))), none, none, none]) hX dX6_tryPlace_132 rfl rfl hL (by decide) rfl ?_
                refine zt_goto (tgt := 29) hX dX6_tryPlace_135 (by decide) ?_
                exact ih31 (x23 + 1) s53 (by omega) (by omega) hI54 (by omega) (by omega)
              refine zt_ifne (pc' := 66) (tgt := 132) hX dX6_tryPlace_63 rfl (by decide) ⟨by omega, by omega⟩ (fun c57 => ?_) (fun c57 => ?_)
              · refine zt_mask [true, true, true, true, true, true, false, false, false] rfl ?_
                exact J_132_55 s26 hI27 (by omega)
              · refine zt_iload_n (pc' := 67) hX dX6_tryPlace_66 rfl rfl ?_
                refine zt_iload (pc' := 69) hX dX6_tryPlace_67 rfl rfl ?_
                refine zt_isub (pc' := 70) hX dX6_tryPlace_69 rfl ?_
                refine zt_mabs (pc' := 73) hX (by decide) dX6_tryPlace_70 rfl zw_54_17 zw_34_20 zw_34_21 zw_34_22 (Nat.le_of_ble_eq_true rfl) ⟨Nat.zero_le _, Nat.zero_le _⟩ ⟨by omega, by omega⟩ (fun r58 er58 => ?_)
                refine zt_iload_n (pc' := 74) hX dX6_tryPlace_73 rfl rfl ?_
                refine zt_iload (pc' := 76) hX dX6_tryPlace_74 rfl rfl ?_
                refine zt_isub (pc' := 77) hX dX6_tryPlace_76 rfl ?_
                refine zt_mabs (pc' := 80) hX (by decide) dX6_tryPlace_77 rfl zw_54_17 zw_34_20 zw_34_21 zw_34_22 (Nat.le_of_ble_eq_true rfl) ⟨Nat.zero_le _, Nat.zero_le _⟩ ⟨by omega, by omega⟩ (fun r59 er59 => ?_)
                refine zt_iadd (pc' := 81) hX dX6_tryPlace_80 rfl ?_
                refine zt_istore (pc' := 83) (lv' := [some (.ref (X.1.1 + 153)), some (.int (zI a1_)), some (.int (zI a2_)), some (.int (zI a3_)), some (.int (zI x9)), some (.int (zI x23)), some (.int (zI r37)), some (.int (zI (r58 + r59))), none]) hX dX6_tryPlace_81 rfl hL (by decide) rfl ?_
                refine zt_aload_n (pc' := 84) hX dX6_tryPlace_83 rfl rfl ?_
                refine zt_get (pc' := 87) (v := .ref (X.1.1 + 162)) hX dX6_tryPlace_84 rfl zf_X6_31 (by decide) zc_153 zs_35 (zrf_of (zv_35_5 hI27 zc_153)) ?_
                refine zt_iload (pc' := 89) hX dX6_tryPlace_87 rfl rfl ?_
                refine zt_iald (pc' := 90) hX dX6_tryPlace_89 rfl (by decide) zc_162 zs_44 (by decide) ⟨by omega, by omega⟩ ?_
                generalize hv60 : s26 162 (r37.toNat) = v60
                have bv60 : -2147483648 ≤ v60 ∧ v60 ≤ 2147483647 := hv60 ▸ zv_44 hI27 zc_162 _
                refine zt_aload_n (pc' := 91) hX dX6_tryPlace_90 rfl rfl ?_
                refine zt_iload_n (pc' := 92) hX dX6_tryPlace_91 rfl rfl ?_
                refine zt_iload (pc' := 94) hX dX6_tryPlace_92 rfl rfl ?_
                refine zt_cVi (pc' := 97) hX dX6_tryPlace_94 rfl zm_yX6_liftOver zw_35_6 zc_153 (by decide) zs_35 (q := (RX6, TX6, 14)) rfl rfl (zc_X6_liftOver _ _ s26 hI27 a1_ ⟨by omega, by omega⟩ (r58 + r59) ⟨by omega, by omega⟩) rfl rfl (Nat.le_of_ble_eq_true rfl) (by decide) (fun r61 s62 hr63 hp64 => ?_)
                obtain ⟨rfl, q65, q66⟩ := hp64
                refine zt_iadd (pc' := 98) hX dX6_tryPlace_97 rfl ?_
                refine zt_wrap (fun r67 zr67 lr67 ur67 => ?_)
                clear zr67
                refine zt_istore (pc' := 100) (lv' := [some (.ref (X.1.1 + 153)), some (.int (zI a1_)), some (.int (zI a2_)), some (.int (zI a3_)), some (.int (zI x9)), some (.int (zI x23)), some (.int (zI r37)), some (.int (zI (r58 + r59))), some (.int (zI r67))]) hX dX6_tryPlace_98 rfl hL (by decide) rfl ?_
                refine zt_aload_n (pc' := 101) hX dX6_tryPlace_100 rfl rfl ?_
                refine zt_dup (pc' := 102) hX dX6_tryPlace_101 rfl rfl ?_
                have b68 := zv_35_12 hI27 zc_153
                refine zt_get (pc' := 105) (v := .int (zI (s26 153 12))) hX dX6_tryPlace_102 rfl zf_X6_48 (by decide) zc_153 zs_35 rfl ?_
                refine zt_iload (pc' := 107) hX dX6_tryPlace_105 rfl rfl ?_
                have J_115_71 : ∀ (y69 : Int), 0 ≤ y69 → y69 ≤ 1 → zF X s26 115 [some (.ref (X.1.1 + 153)), some (.int (zI a1_)), some (.int (zI a2_)), some (.int (zI a3_)), some (.int (zI x9)), some (.int (zI x23)), none, none, some (.int (zI r67))] [.int (zI y69), .int (zI (s26 153 12)), .ref (X.1.1 + 153)] := by
                  intro y69 h70 h71
                  refine zt_iadd (pc' := 116) hX dX6_tryPlace_115 rfl ?_
                  refine zt_wrap (fun r73 zr73 lr73 ur73 => ?_)
                  clear zr73
                  refine zt_put (pc' := 119) (x := r73) hX dX6_tryPlace_116 rfl zf_X6_48 (by decide) zc_153 zs_35 (fun q hq => by cases hq; rfl) rfl rfl rfl ?_
                  generalize hs75 : zset s26 153 12 r73 = s74
                  have hI76 : zInv s74 := hs75 ▸ zp_35_12 hI27 zc_153 ⟨by omega, by omega⟩
                  have hF77 : zFE σ s74 := hs75 ▸ zFE_set hF28 zc_153 (by decide) zke_35 (Or.inl (by decide)) (Or.inl (by decide))
                  refine zt_aload_n (pc' := 120) hX dX6_tryPlace_119 rfl rfl ?_
                  refine zt_aload_n (pc' := 121) hX dX6_tryPlace_120 rfl rfl ?_
                  have b78 := zv_35_13 hI76 zc_153
                  have e79 : s74 153 13 = s26 153 13 := by rw [← hs75]; exact zset_j (by decide)
                  refine zt_get (pc' := 124) (v := .int (zI (s74 153 13))) hX dX6_tryPlace_121 rfl zf_X6_51 (by decide) zc_153 zs_35 rfl ?_
                  refine zt_iload (pc' := 126) hX dX6_tryPlace_124 rfl rfl ?_
                  refine zt_mmin (pc' := 129) hX (by decide) dX6_tryPlace_126 rfl zw_43_16 zw_36_23 zw_34_21 zw_37_0 (Nat.le_of_ble_eq_true rfl) ⟨Nat.zero_le _, Nat.zero_le _⟩ ⟨by omega, by omega⟩ ⟨by omega, by omega⟩ (fun r80 er80 => ?_)
                  refine zt_put (pc' := 132) (x := r80) hX dX6_tryPlace_129 rfl zf_X6_51 (by decide) zc_153 zs_35 (fun q hq => by cases hq; rfl) rfl rfl rfl ?_
                  generalize hs82 : zset s74 153 13 r80 = s81
                  have hI83 : zInv s81 := hs82 ▸ zp_35_13 hI76 zc_153 ⟨by omega, by omega⟩
                  have hF84 : zFE σ s81 := hs82 ▸ zFE_set hF77 zc_153 (by decide) zke_35 (Or.inl (by decide)) (Or.inl (by decide))
                  refine zt_mask [true, true, true, true, true, true, false, false, false] rfl ?_
                  exact J_132_55 s81 hI83 (by omega)
                refine zt_ifge (pc' := 110) (tgt := 114) hX dX6_tryPlace_107 rfl (by decide) ⟨by omega, by omega⟩ (fun c85 => ?_) (fun c85 => ?_)
                · refine zt_iconst (pc' := 115) hX dX6_tryPlace_114 rfl ?_
                  refine zt_mask [true, true, true, true, true, true, false, false, true] rfl ?_
                  exact J_115_71 0 (by omega) (by omega)
                · refine zt_iconst (pc' := 111) hX dX6_tryPlace_110 rfl ?_
                  refine zt_goto (tgt := 115) hX dX6_tryPlace_111 (by decide) ?_
                  refine zt_mask [true, true, true, true, true, true, false, false, true] rfl ?_
                  exact J_115_71 1 (by omega) (by omega)
        exact L_29_28 _ 0 s12 (by omega) (by omega) hI13 (by omega) (Nat.lt_succ_self _)
  exact L_14_14 _ 0 s5 (by omega) (by omega) hI7 (by omega) (Nat.lt_succ_self _)

set_option maxRecDepth 100000 in
set_option maxHeartbeats 4000000 in
theorem zc_X6_bestPlace (l : Launch) (E : zEN) (σ : zSto) (hI : zInv σ) (a1_ : Int) (ha1_ : 0 ≤ a1_ ∧ a1_ ≤ 9) : zCt l E yX6_bestPlace cX6_bestPlace 8 (some .int) 3 zNC zNC 0 0 σ [.ref (E.1 + 153), .int (zI a1_)] (fun r σ' => zInv σ' ∧ zFE σ σ' ∧ -2147483648 ≤ r ∧ r ≤ 2147483647) := by
  refine zCt_of2 [some (.ref (E.1 + 153)), some (.int (zI a1_)), none, none, none, none, none, none] (by decide +kernel) (Nat.le_of_ble_eq_true rfl) rfl ?_
  intro X hE hX hR hL hN
  subst hE
  have hX : zok X cX6_bestPlace RX6 3 := hX
  have hF := zFE_rf σ
  refine zt_iconst (pc' := 1) hX dX6_bestPlace_0 rfl ?_
  refine zt_istore_n (pc' := 2) (lv' := [some (.ref (X.1.1 + 153)), some (.int (zI a1_)), some (.int (zI (-1))), none, none, none, none, none]) hX dX6_bestPlace_1 rfl hL (by decide) rfl ?_
  refine zt_iconst (pc' := 3) hX dX6_bestPlace_2 rfl ?_
  refine zt_istore_n (pc' := 4) (lv' := [some (.ref (X.1.1 + 153)), some (.int (zI a1_)), some (.int (zI (-1))), some (.int (zI 0)), none, none, none, none]) hX dX6_bestPlace_3 rfl hL (by decide) rfl ?_
  refine zt_iconst (pc' := 5) hX dX6_bestPlace_4 rfl ?_
  refine zt_istore (pc' := 7) (lv' := [some (.ref (X.1.1 + 153)), some (.int (zI a1_)), some (.int (zI (-1))), some (.int (zI 0)), some (.int (zI 0)), none, none, none]) hX dX6_bestPlace_5 rfl hL (by decide) rfl ?_
  have L_7_12 : ∀ (N : Nat) (x1 : Int) (x4 : Int) (x7 : Int) (s10 : zSto), -2147483648 ≤ x1 → x1 ≤ 2147483647 → -2147483648 ≤ x4 → x4 ≤ 2147483647 → 0 ≤ x7 → x7 ≤ 6 → zInv s10 → zFE σ s10 → ((7 - x7).toNat) < N → zF X s10 7 [some (.ref (X.1.1 + 153)), some (.int (zI a1_)), some (.int (zI x1)), some (.int (zI x4)), some (.int (zI x7)), none, none, none] [] := by
    intro N
    induction N with
    | zero =>
      intro x1 x4 x7 s10 h2 h3 h5 h6 h8 h9 hI11 hF12 hm14
      exact absurd hm14 (Nat.not_lt_zero _)
    | succ N ih15 =>
      intro x1 x4 x7 s10 h2 h3 h5 h6 h8 h9 hI11 hF12 hm14
      refine zt_iload (pc' := 9) hX dX6_bestPlace_7 rfl rfl ?_
      refine zt_aload_n (pc' := 10) hX dX6_bestPlace_9 rfl rfl ?_
      obtain ⟨k16, ek17, hk18⟩ := zv_35_6 hI11 zc_153
      refine zt_get (pc' := 13) (v := .ref (X.1.1 + k16)) hX dX6_bestPlace_10 rfl zf_X6_54 (by decide) zc_153 zs_35 (zrf_of ek17) ?_
      have b19 := zv_8_11 hI11 hk18
      refine zt_get (pc' := 16) (v := .int (zI (s10 k16 11))) hX dX6_bestPlace_13 rfl zf_X6_87 (zro_lt hk18 (by decide)) hk18 zs_8 rfl ?_
      refine zt_icge (pc' := 19) (tgt := 145) hX dX6_bestPlace_16 rfl (by decide) ⟨by omega, by omega⟩ ⟨by omega, by omega⟩ (fun c20 => ?_) (fun c20 => ?_)
      · refine zt_iload_n (pc' := 146) hX dX6_bestPlace_145 rfl rfl ?_
        exact zt_iret hX hR dX6_bestPlace_146 ⟨by omega, by omega⟩ ⟨hI11, hF12, by omega, by omega⟩
      · refine zt_iconst (pc' := 20) hX dX6_bestPlace_19 rfl ?_
        refine zt_istore (pc' := 22) (lv' := [some (.ref (X.1.1 + 153)), some (.int (zI a1_)), some (.int (zI x1)), some (.int (zI x4)), some (.int (zI x7)), some (.int (zI 0)), none, none]) hX dX6_bestPlace_20 rfl hL (by decide) rfl ?_
        have L_22_32 : ∀ (N : Nat) (x21 : Int) (x24 : Int) (x27 : Int) (s30 : zSto), -2147483648 ≤ x21 → x21 ≤ 2147483647 → -2147483648 ≤ x24 → x24 ≤ 2147483647 → 0 ≤ x27 → x27 ≤ 6 → zInv s30 → zFE σ s30 → ((7 - x27).toNat) < N → zF X s30 22 [some (.ref (X.1.1 + 153)), some (.int (zI a1_)), some (.int (zI x21)), some (.int (zI x24)), some (.int (zI x7)), some (.int (zI x27)), none, none] [] := by
          intro N
          induction N with
          | zero =>
            intro x21 x24 x27 s30 h22 h23 h25 h26 h28 h29 hI31 hF32 hm34
            exact absurd hm34 (Nat.not_lt_zero _)
          | succ N ih35 =>
            intro x21 x24 x27 s30 h22 h23 h25 h26 h28 h29 hI31 hF32 hm34
            refine zt_iload (pc' := 24) hX dX6_bestPlace_22 rfl rfl ?_
            refine zt_aload_n (pc' := 25) hX dX6_bestPlace_24 rfl rfl ?_
            obtain ⟨k36, ek37, hk38⟩ := zv_35_6 hI31 zc_153
            refine zt_get (pc' := 28) (v := .ref (X.1.1 + k36)) hX dX6_bestPlace_25 rfl zf_X6_54 (by decide) zc_153 zs_35 (zrf_of ek37) ?_
            have b39 := zv_8_10 hI31 hk38
            refine zt_get (pc' := 31) (v := .int (zI (s30 k36 10))) hX dX6_bestPlace_28 rfl zf_X6_90 (zro_lt hk38 (by decide)) hk38 zs_8 rfl ?_
            refine zt_icge (pc' := 34) (tgt := 139) hX dX6_bestPlace_31 rfl (by decide) ⟨by omega, by omega⟩ ⟨by omega, by omega⟩ (fun c40 => ?_) (fun c40 => ?_)
            · refine zt_iinc (pc' := 142) (lv' := [some (.ref (X.1.1 + 153)), some (.int (zI a1_)), some (.int (zI x21)), some (.int (zI x24)), some (.int (zI (x7 + 1))), some (.int (zI x27)), none, none]) hX dX6_bestPlace_139 rfl rfl hL (by decide) rfl ?_
              refine zt_goto (tgt := 7) hX dX6_bestPlace_142 (by decide) ?_
              refine zt_mask [true, true, true, true, true, false, false, false] rfl ?_
              exact ih15 x21 x24 (x7 + 1) s30 (by omega) (by omega) (by omega) (by omega) (by omega) (by omega) hI31 (by omega) (by omega)
            · refine zt_aload_n (pc' := 35) hX dX6_bestPlace_34 rfl rfl ?_
              refine zt_get (pc' := 38) (v := .ref (X.1.1 + k36)) hX dX6_bestPlace_35 rfl zf_X6_54 (by decide) zc_153 zs_35 (zrf_of ek37) ?_
              refine zt_iload (pc' := 40) hX dX6_bestPlace_38 rfl rfl ?_
              refine zt_iload (pc' := 42) hX dX6_bestPlace_40 rfl rfl ?_
              refine zt_cVi (pc' := 45) hX dX6_bestPlace_42 rfl zm_yX3_cellAt zw_35_5 hk38 (by decide) zs_8 (q := (RX3, TX3, 17)) rfl rfl (zc_X3_cellAt _ _ s30 hI31 k36 hk38 x27 ⟨by omega, by omega⟩ x7 ⟨by omega, by omega⟩) rfl rfl (Nat.le_of_ble_eq_true rfl) (by decide) (fun r41 s42 hr43 hp44 => ?_)
              obtain ⟨rfl, q45, q46, z47⟩ := hp44
              refine zt_istore (pc' := 47) (lv' := [some (.ref (X.1.1 + 153)), some (.int (zI a1_)), some (.int (zI x21)), some (.int (zI x24)), some (.int (zI x7)), some (.int (zI x27)), some (.int (zI r41)), none]) hX dX6_bestPlace_45 rfl hL (by decide) rfl ?_
              refine zt_aload_n (pc' := 48) hX dX6_bestPlace_47 rfl rfl ?_
              obtain ⟨k48, ek49, hk50⟩ := zv_35_7 hI31 zc_153
              refine zt_get (pc' := 51) (v := .ref (X.1.1 + k48)) hX dX6_bestPlace_48 rfl zf_X6_58 (by decide) zc_153 zs_35 (zrf_of ek49) ?_
              refine zt_aload_n (pc' := 52) hX dX6_bestPlace_51 rfl rfl ?_
              refine zt_get (pc' := 55) (v := .ref (X.1.1 + k36)) hX dX6_bestPlace_52 rfl zf_X6_54 (by decide) zc_153 zs_35 (zrf_of ek37) ?_
              refine zt_iload (pc' := 57) hX dX6_bestPlace_55 rfl rfl ?_
              refine zt_cVi (pc' := 60) hX dX6_bestPlace_57 rfl zm_yX10_standing zw_54_11 hk50 (by decide) zs_22 (q := (RX10, TX10, 8)) rfl rfl (zc_X10_standing _ _ s30 hI31 k48 hk50 k36 hk38 r41 ⟨by omega, by omega⟩) rfl rfl (Nat.le_of_ble_eq_true rfl) (by decide) (fun r51 s52 hr53 hp54 => ?_)
              obtain ⟨rfl, q55, q56⟩ := hp54
              refine zt_istore (pc' := 62) (lv' := [some (.ref (X.1.1 + 153)), some (.int (zI a1_)), some (.int (zI x21)), some (.int (zI x24)), some (.int (zI x7)), some (.int (zI x27)), some (.int (zI r41)), some (.int (zI r51))]) hX dX6_bestPlace_60 rfl hL (by decide) rfl ?_
              refine zt_iload (pc' := 64) hX dX6_bestPlace_62 rfl rfl ?_
              refine zt_iconst (pc' := 65) hX dX6_bestPlace_64 rfl ?_
              have J_133_65 : ∀ (x57 : Int) (x60 : Int) (s63 : zSto), -2147483648 ≤ x57 → x57 ≤ 2147483647 → -2147483648 ≤ x60 → x60 ≤ 2147483647 → zInv s63 → zFE σ s63 → zF X s63 133 [some (.ref (X.1.1 + 153)), some (.int (zI a1_)), some (.int (zI x57)), some (.int (zI x60)), some (.int (zI x7)), some (.int (zI x27)), none, none] [] := by
                intro x57 x60 s63 h58 h59 h61 h62 hI64 hF65
                refine zt_iinc (pc' := 136) (lv' := [some (.ref (X.1.1 + 153)), some (.int (zI a1_)), some (.int (zI x57)), some (.int (zI x60)), some (.int (zI x7)), some (.int (zI (x27 + 1))), none, none]) hX dX6_bestPlace_133 rfl rfl hL (by decide) rfl ?_
                refine zt_goto (tgt := 22) hX dX6_bestPlace_136 (by decide) ?_
                exact ih35 x57 x60 (x27 + 1) s63 (by omega) (by omega) (by omega) (by omega) (by omega) (by omega) hI64 (by omega) (by omega)
              have J_74_66 : zF X s30 74 [some (.ref (X.1.1 + 153)), some (.int (zI a1_)), some (.int (zI x21)), some (.int (zI x24)), some (.int (zI x7)), some (.int (zI x27)), some (.int (zI r41)), none] [] := by
                refine zt_aload_n (pc' := 75) hX dX6_bestPlace_74 rfl rfl ?_
                refine zt_iload_n (pc' := 76) hX dX6_bestPlace_75 rfl rfl ?_
                refine zt_iload (pc' := 78) hX dX6_bestPlace_76 rfl rfl ?_
                refine zt_iload (pc' := 80) hX dX6_bestPlace_78 rfl rfl ?_
                refine zt_cVv (pc' := 83) hX dX6_bestPlace_80 rfl zm_yX6_tryPlace zw_54_12 zc_153 (by decide) zs_35 (q := (RX6, TX6, 14)) rfl rfl (zc_X6_tryPlace _ _ s30 hI31 a1_ ⟨by omega, by omega⟩ x27 ⟨by omega, by omega⟩ x7 ⟨by omega, by omega⟩) rfl rfl (Nat.le_of_ble_eq_true rfl) (by decide) (fun r68 s69 hr70 hp71 => ?_)
                obtain ⟨hI72, hF73⟩ := hp71
                have hF74 := zFE_tr hF32 hF73
                refine zt_iload_n (pc' := 84) hX dX6_bestPlace_83 rfl rfl ?_
                refine zt_iconst (pc' := 85) hX dX6_bestPlace_84 rfl ?_
                have J_118_74 : zF X s69 118 [some (.ref (X.1.1 + 153)), some (.int (zI a1_)), none, none, some (.int (zI x7)), some (.int (zI x27)), some (.int (zI r41)), none] [] := by
                  refine zt_iload (pc' := 120) hX dX6_bestPlace_118 rfl rfl ?_
                  refine zt_aload_n (pc' := 121) hX dX6_bestPlace_120 rfl rfl ?_
                  have b76 := zv_35_12 hI72 zc_153
                  refine zt_get (pc' := 124) (v := .int (zI (s69 153 12))) hX dX6_bestPlace_121 rfl zf_X6_48 (by decide) zc_153 zs_35 rfl ?_
                  refine zt_cSNi (pc' := 127) hX dX6_bestPlace_124 rfl zm_yX11_packed (by decide +kernel) (zc_X11_packed _ _ s69  r41 ⟨by omega, by omega⟩ (s69 153 12) ⟨by omega, by omega⟩) rfl rfl (Nat.le_of_ble_eq_true rfl) (by decide) (fun r77 s78 hr79 hp80 => ?_)
                  obtain ⟨rfl, q81, q82⟩ := hp80
                  refine zt_istore_n (pc' := 128) (lv' := [some (.ref (X.1.1 + 153)), some (.int (zI a1_)), some (.int (zI r77)), none, some (.int (zI x7)), some (.int (zI x27)), some (.int (zI r41)), none]) hX dX6_bestPlace_127 rfl hL (by decide) rfl ?_
                  refine zt_aload_n (pc' := 129) hX dX6_bestPlace_128 rfl rfl ?_
                  have b83 := zv_35_13 hI72 zc_153
                  refine zt_get (pc' := 132) (v := .int (zI (s69 153 13))) hX dX6_bestPlace_129 rfl zf_X6_51 (by decide) zc_153 zs_35 rfl ?_
                  refine zt_istore_n (pc' := 133) (lv' := [some (.ref (X.1.1 + 153)), some (.int (zI a1_)), some (.int (zI r77)), some (.int (zI (s69 153 13))), some (.int (zI x7)), some (.int (zI x27)), some (.int (zI r41)), none]) hX dX6_bestPlace_132 rfl hL (by decide) rfl ?_
                  refine zt_mask [true, true, true, true, true, true, false, false] rfl ?_
                  exact J_133_65 r77 (s69 153 13) s69 (by omega) (by omega) (by omega) (by omega) hI72 (by omega)
                refine zt_iceq (pc' := 88) (tgt := 118) hX dX6_bestPlace_85 rfl (by decide) ⟨by omega, by omega⟩ ⟨by omega, by omega⟩ (fun c84 => ?_) (fun c84 => ?_)
                · refine zt_mask [true, true, false, false, true, true, true, false] rfl ?_
                  exact J_118_74
                · refine zt_aload_n (pc' := 89) hX dX6_bestPlace_88 rfl rfl ?_
                  have b85 := zv_35_12 hI72 zc_153
                  refine zt_get (pc' := 92) (v := .int (zI (s69 153 12))) hX dX6_bestPlace_89 rfl zf_X6_48 (by decide) zc_153 zs_35 rfl ?_
                  refine zt_iload_n (pc' := 93) hX dX6_bestPlace_92 rfl rfl ?_
                  refine zt_bipush (pc' := 95) hX dX6_bestPlace_93 rfl (by decide) (by decide) ?_
                  refine zt_ishr (pc' := 96) hX dX6_bestPlace_95 rfl (fun r86 zr86 lr86 ur86 => ?_)
                  clear zr86
                  refine zt_iclt (pc' := 99) (tgt := 118) hX dX6_bestPlace_96 rfl (by decide) ⟨by omega, by omega⟩ ⟨by omega, by omega⟩ (fun c87 => ?_) (fun c87 => ?_)
                  · refine zt_mask [true, true, false, false, true, true, true, false] rfl ?_
                    exact J_118_74
                  · refine zt_aload_n (pc' := 100) hX dX6_bestPlace_99 rfl rfl ?_
                    refine zt_get (pc' := 103) (v := .int (zI (s69 153 12))) hX dX6_bestPlace_100 rfl zf_X6_48 (by decide) zc_153 zs_35 rfl ?_
                    refine zt_iload_n (pc' := 104) hX dX6_bestPlace_103 rfl rfl ?_
                    refine zt_bipush (pc' := 106) hX dX6_bestPlace_104 rfl (by decide) (by decide) ?_
                    refine zt_ishr (pc' := 107) hX dX6_bestPlace_106 rfl (fun r88 zr88 lr88 ur88 => ?_)
                    clear zr88
                    refine zt_icne (pc' := 110) (tgt := 133) hX dX6_bestPlace_107 rfl (by decide) ⟨by omega, by omega⟩ ⟨by omega, by omega⟩ (fun c89 => ?_) (fun c89 => ?_)
                    · refine zt_mask [true, true, true, true, true, true, false, false] rfl ?_
                      exact J_133_65 x21 x24 s69 (by omega) (by omega) (by omega) (by omega) hI72 (by omega)
                    · refine zt_aload_n (pc' := 111) hX dX6_bestPlace_110 rfl rfl ?_
                      have b90 := zv_35_13 hI72 zc_153
                      refine zt_get (pc' := 114) (v := .int (zI (s69 153 13))) hX dX6_bestPlace_111 rfl zf_X6_51 (by decide) zc_153 zs_35 rfl ?_
                      refine zt_iload_n (pc' := 115) hX dX6_bestPlace_114 rfl rfl ?_
                      refine zt_icle (pc' := 118) (tgt := 133) hX dX6_bestPlace_115 rfl (by decide) ⟨by omega, by omega⟩ ⟨by omega, by omega⟩ (fun c91 => ?_) (fun c91 => ?_)
                      · refine zt_mask [true, true, true, true, true, true, false, false] rfl ?_
                        exact J_133_65 x21 x24 s69 (by omega) (by omega) (by omega) (by omega) hI72 (by omega)
                      · refine zt_mask [true, true, false, false, true, true, true, false] rfl ?_
                        exact J_118_74
              refine zt_iceq (pc' := 68) (tgt := 74) hX dX6_bestPlace_65 rfl (by decide) ⟨by omega, by omega⟩ ⟨by omega, by omega⟩ (fun c92 => ?_) (fun c92 => ?_)
              · refine zt_mask [true, true, true, true, true, true, true, false] rfl ?_
                exact J_74_66
              · refine zt_iload (pc' := 70) hX dX6_bestPlace_68 rfl rfl ?_
                refine zt_iload_n (pc' := 71) hX dX6_bestPlace_70 rfl rfl ?_
                refine zt_icne (pc' := 74) (tgt := 133) hX dX6_bestPlace_71 rfl (by decide) ⟨by omega, by omega⟩ ⟨by omega, by omega⟩ (fun c93 => ?_) (fun c93 => ?_)
                · refine zt_mask [true, true, true, true, true, true, false, false] rfl ?_
                  exact J_133_65 x21 x24 s30 (by omega) (by omega) (by omega) (by omega) hI31 (by omega)
                · refine zt_mask [true, true, true, true, true, true, true, false] rfl ?_
                  exact J_74_66
        exact L_22_32 _ x1 x4 0 s10 (by omega) (by omega) (by omega) (by omega) (by omega) (by omega) hI11 (by omega) (Nat.lt_succ_self _)
  exact L_7_12 _ (-1) 0 0 σ (by omega) (by omega) (by omega) (by omega) (by omega) (by omega) hI (by omega) (Nat.lt_succ_self _)

set_option maxRecDepth 100000 in
set_option maxHeartbeats 4000000 in
theorem zc_X7_keepAwake (l : Launch) (E : zEN) (σ : zSto) (hI : zInv σ)  : zCt l E yX7_keepAwake cX7_keepAwake 3 none 1 zNC zNC 0 0 σ [.ref (E.1 + 147), .ref (E.1 + 153)] (fun r σ' => zInv σ' ∧ zFE σ σ') := by
  refine zCt_of2 [some (.ref (E.1 + 147)), some (.ref (E.1 + 153)), none] (by decide +kernel) (Nat.le_of_ble_eq_true rfl) rfl ?_
  intro X hE hX hR hL hN
  subst hE
  have hX : zok X cX7_keepAwake RX7 1 := hX
  have hF := zFE_rf σ
  refine zt_aload_n (pc' := 1) hX dX7_keepAwake_0 rfl rfl ?_
  refine zt_sipush (pc' := 4) hX dX7_keepAwake_1 rfl (by decide) (by decide) ?_
  refine zt_iconst (pc' := 5) hX dX7_keepAwake_4 rfl ?_
  refine zt_aload_n (pc' := 6) hX dX7_keepAwake_5 rfl rfl ?_
  obtain ⟨k1, ek2, hk3⟩ := zv_35_6 hI zc_153
  refine zt_get (pc' := 9) (v := .ref (X.1.1 + k1)) hX dX7_keepAwake_6 rfl zf_X7_57 (by decide) zc_153 zs_35 (zrf_of ek2) ?_
  have b4 := zv_8_12 hI hk3
  refine zt_get (pc' := 12) (v := .int (zI (σ k1 12))) hX dX7_keepAwake_9 rfl zf_X7_63 (zro_lt hk3 (by decide)) hk3 zs_8 rfl ?_
  refine zt_ishl1 10 (pc' := 13) hX dX7_keepAwake_12 rfl ⟨by omega, by omega⟩ (by decide) (fun r5 er5 lr5 ur5 => ?_)
  have ur5 : r5 ≤ 1024 := by omega
  refine zt_mmin (pc' := 16) hX (by decide) dX7_keepAwake_13 rfl zw_53_13 zw_36_23 zw_34_21 zw_37_0 (Nat.le_of_ble_eq_true rfl) ⟨Nat.zero_le _, Nat.zero_le _⟩ ⟨by omega, by omega⟩ ⟨by omega, by omega⟩ (fun r6 er6 => ?_)
  refine zt_put (pc' := 19) (x := r6) hX dX7_keepAwake_16 rfl zf_X7_32 (by decide) zc_147 zs_29 (fun q hq => by cases hq; rfl) rfl rfl rfl ?_
  generalize hs8 : zset σ 147 6 r6 = s7
  have hI9 : zInv s7 := hs8 ▸ zp_29_6 hI zc_147 ⟨by omega, by omega⟩
  have hF10 : zFE σ s7 := hs8 ▸ zFE_set hF zc_147 (by decide) zke_29 (Or.inl (by decide)) (Or.inl (by decide))
  refine zt_iconst (pc' := 20) hX dX7_keepAwake_19 rfl ?_
  refine zt_istore_n (pc' := 21) (lv' := [some (.ref (X.1.1 + 147)), some (.ref (X.1.1 + 153)), some (.int (zI 0))]) hX dX7_keepAwake_20 rfl hL (by decide) rfl ?_
  have L_21_16 : ∀ (N : Nat) (x11 : Int) (s14 : zSto), 0 ≤ x11 → x11 ≤ 1024 → zInv s14 → zFE σ s14 → ((1025 - x11).toNat) < N → zF X s14 21 [some (.ref (X.1.1 + 147)), some (.ref (X.1.1 + 153)), some (.int (zI x11))] [] := by
    intro N
    induction N with
    | zero =>
      intro x11 s14 h12 h13 hI15 hF16 hm18
      exact absurd hm18 (Nat.not_lt_zero _)
    | succ N ih19 =>
      intro x11 s14 h12 h13 hI15 hF16 hm18
      refine zt_iload_n (pc' := 22) hX dX7_keepAwake_21 rfl rfl ?_
      refine zt_aload_n (pc' := 23) hX dX7_keepAwake_22 rfl rfl ?_
      have b20 := zv_29_6 hI15 zc_147
      refine zt_get (pc' := 26) (v := .int (zI (s14 147 6))) hX dX7_keepAwake_23 rfl zf_X7_32 (by decide) zc_147 zs_29 rfl ?_
      refine zt_icge (pc' := 29) (tgt := 58) hX dX7_keepAwake_26 rfl (by decide) ⟨by omega, by omega⟩ ⟨by omega, by omega⟩ (fun c21 => ?_) (fun c21 => ?_)
      · exact zt_vret hX hR dX7_keepAwake_58 ⟨hI15, hF16⟩
      · refine zt_aload_n (pc' := 30) hX dX7_keepAwake_29 rfl rfl ?_
        refine zt_get (pc' := 33) (v := .ref (X.1.1 + 148)) hX dX7_keepAwake_30 rfl zf_X7_9 (by decide) zc_147 zs_29 (zrf_of (zv_29_0 hI15 zc_147)) ?_
        refine zt_iload_n (pc' := 34) hX dX7_keepAwake_33 rfl rfl ?_
        refine zt_iload_n (pc' := 35) hX dX7_keepAwake_34 rfl rfl ?_
        refine zt_aload_n (pc' := 36) hX dX7_keepAwake_35 rfl rfl ?_
        obtain ⟨k22, ek23, hk24⟩ := zv_35_7 hI15 zc_153
        refine zt_get (pc' := 39) (v := .ref (X.1.1 + k22)) hX dX7_keepAwake_36 rfl zf_X7_71 (by decide) zc_153 zs_35 (zrf_of ek23) ?_
        have b25 := zv_22_7 hI15 hk24
        refine zt_get (pc' := 42) (v := .int (zI (s14 k22 7))) hX dX7_keepAwake_39 rfl zf_X7_75 (zro_lt hk24 (by decide)) hk24 zs_22 rfl ?_
        refine zt_iand (pc' := 43) hX dX7_keepAwake_42 rfl (fun r26 zr26 lr26 ur26 => ?_)
        clear zr26
        have J_51_29 : ∀ (y27 : Int), 0 ≤ y27 → y27 ≤ 1 → zF X s14 51 [some (.ref (X.1.1 + 147)), some (.ref (X.1.1 + 153)), some (.int (zI x11))] [.int (zI y27), .int (zI x11), .ref (X.1.1 + 148)] := by
          intro y27 h28 h29
          refine zt_zast (pc' := 52) hX dX7_keepAwake_51 rfl (by decide) zc_148 zs_30 (by decide) ⟨by omega, by omega⟩ ⟨by omega, by omega⟩ ?_
          generalize hs32 : zset s14 148 (x11.toNat) y27 = s31
          have hI33 : zInv s31 := hs32 ▸ zp_30 hI15 zc_148 (x11.toNat) ⟨by omega, by omega⟩
          have hF34 : zFE σ s31 := hs32 ▸ zFE_set hF16 zc_148 (by decide) zke_30 (Or.inl (by decide)) (Or.inl (by decide))
          refine zt_iinc (pc' := 55) (lv' := [some (.ref (X.1.1 + 147)), some (.ref (X.1.1 + 153)), some (.int (zI (x11 + 1)))]) hX dX7_keepAwake_52 rfl rfl hL (by decide) rfl ?_
          refine zt_goto (tgt := 21) hX dX7_keepAwake_55 (by decide) ?_
          exact ih19 (x11 + 1) s31 (by omega) (by omega) hI33 (by omega) (by omega)
        refine zt_ifne (pc' := 46) (tgt := 50) hX dX7_keepAwake_43 rfl (by decide) ⟨by omega, by omega⟩ (fun c35 => ?_) (fun c35 => ?_)
        · refine zt_iconst (pc' := 51) hX dX7_keepAwake_50 rfl ?_
          exact J_51_29 0 (by omega) (by omega)
        · refine zt_iconst (pc' := 47) hX dX7_keepAwake_46 rfl ?_
          refine zt_goto (tgt := 51) hX dX7_keepAwake_47 (by decide) ?_
          exact J_51_29 1 (by omega) (by omega)
  exact L_21_16 _ 0 s7 (by omega) (by omega) hI9 (by omega) (Nat.lt_succ_self _)

set_option maxRecDepth 100000 in
set_option maxHeartbeats 4000000 in
theorem zc_X7_measureLifted (l : Launch) (E : zEN) (σ : zSto) (hI : zInv σ) (a2_ : Int) (ha2_ : 0 ≤ a2_ ∧ a2_ ≤ 35) : zCt l E yX7_measureLifted cX7_measureLifted 7 none 0 zNC zNC 0 0 σ [.ref (E.1 + 147), .ref (E.1 + 153), .int (zI a2_)] (fun r σ' => zInv σ' ∧ zFE σ σ') := by
  refine zCt_of2 [some (.ref (E.1 + 147)), some (.ref (E.1 + 153)), some (.int (zI a2_)), none, none, none, none] (by decide +kernel) (Nat.le_of_ble_eq_true rfl) rfl ?_
  intro X hE hX hR hL hN
  subst hE
  have hX : zok X cX7_measureLifted RX7 0 := hX
  have hF := zFE_rf σ
  refine zt_aload_n (pc' := 1) hX dX7_measureLifted_0 rfl rfl ?_
  refine zt_get (pc' := 4) (v := .ref (X.1.1 + 149)) hX dX7_measureLifted_1 rfl zf_X7_15 (by decide) zc_147 zs_29 (zrf_of (zv_29_1 hI zc_147)) ?_
  refine zt_iconst (pc' := 5) hX dX7_measureLifted_4 rfl ?_
  refine zt_iconst (pc' := 6) hX dX7_measureLifted_5 rfl ?_
  refine zt_iast (pc' := 7) hX dX7_measureLifted_6 rfl (by decide) zc_149 zs_31 (by decide) ⟨by omega, by omega⟩ ?_
  rw [show Int.toNat 0 = 0 from rfl]
  generalize hs2 : zset σ 149 0 0 = s1
  have hI3 : zInv s1 := hs2 ▸ zp_31 hI zc_149 0 ⟨by omega, by omega⟩
  have hF4 : zFE σ s1 := hs2 ▸ zFE_set hF zc_149 (by decide) zke_31 (Or.inl (by decide)) (Or.inl (by decide))
  refine zt_iconst (pc' := 8) hX dX7_measureLifted_7 rfl ?_
  refine zt_istore_n (pc' := 9) (lv' := [some (.ref (X.1.1 + 147)), some (.ref (X.1.1 + 153)), some (.int (zI a2_)), some (.int (zI 0)), none, none, none]) hX dX7_measureLifted_8 rfl hL (by decide) rfl ?_
  have L_9_10 : ∀ (N : Nat) (x5 : Int) (s8 : zSto), 0 ≤ x5 → x5 ≤ 10 → zInv s8 → zFE σ s8 → ((11 - x5).toNat) < N → zF X s8 9 [some (.ref (X.1.1 + 147)), some (.ref (X.1.1 + 153)), some (.int (zI a2_)), some (.int (zI x5)), none, none, none] [] := by
    intro N
    induction N with
    | zero =>
      intro x5 s8 h6 h7 hI9 hF10 hm12
      exact absurd hm12 (Nat.not_lt_zero _)
    | succ N ih13 =>
      intro x5 s8 h6 h7 hI9 hF10 hm12
      refine zt_iload_n (pc' := 10) hX dX7_measureLifted_9 rfl rfl ?_
      refine zt_aload_n (pc' := 11) hX dX7_measureLifted_10 rfl rfl ?_
      obtain ⟨k14, ek15, hk16⟩ := zv_35_6 hI9 zc_153
      refine zt_get (pc' := 14) (v := .ref (X.1.1 + k14)) hX dX7_measureLifted_11 rfl zf_X7_57 (by decide) zc_153 zs_35 (zrf_of ek15) ?_
      have b17 := zv_8_12 hI9 hk16
      refine zt_get (pc' := 17) (v := .int (zI (s8 k14 12))) hX dX7_measureLifted_14 rfl zf_X7_63 (zro_lt hk16 (by decide)) hk16 zs_8 rfl ?_
      refine zt_icge (pc' := 20) (tgt := 91) hX dX7_measureLifted_17 rfl (by decide) ⟨by omega, by omega⟩ ⟨by omega, by omega⟩ (fun c18 => ?_) (fun c18 => ?_)
      · exact zt_vret hX hR dX7_measureLifted_91 ⟨hI9, hF10⟩
      · refine zt_iconst (pc' := 21) hX dX7_measureLifted_20 rfl ?_
        refine zt_iload_n (pc' := 22) hX dX7_measureLifted_21 rfl rfl ?_
        refine zt_ishl1 9 (pc' := 23) hX dX7_measureLifted_22 rfl ⟨by omega, by omega⟩ (by decide) (fun r19 er19 lr19 ur19 => ?_)
        have ur19 : r19 ≤ 512 := by omega
        refine zt_istore (pc' := 25) (lv' := [some (.ref (X.1.1 + 147)), some (.ref (X.1.1 + 153)), some (.int (zI a2_)), some (.int (zI x5)), some (.int (zI r19)), none, none]) hX dX7_measureLifted_23 rfl hL (by decide) rfl ?_
        refine zt_aload_n (pc' := 26) hX dX7_measureLifted_25 rfl rfl ?_
        refine zt_get (pc' := 29) (v := .ref (X.1.1 + 158)) hX dX7_measureLifted_26 rfl zf_X7_80 (by decide) zc_153 zs_35 (zrf_of (zv_35_1 hI9 zc_153)) ?_
        refine zt_iload_n (pc' := 30) hX dX7_measureLifted_29 rfl rfl ?_
        refine zt_bipush (pc' := 32) hX dX7_measureLifted_30 rfl (by decide) (by decide) ?_
        refine zt_imul (pc' := 33) hX dX7_measureLifted_32 rfl ?_
        refine zt_iload_n (pc' := 34) hX dX7_measureLifted_33 rfl rfl ?_
        refine zt_iadd (pc' := 35) hX dX7_measureLifted_34 rfl ?_
        refine zt_iald (pc' := 36) hX dX7_measureLifted_35 rfl (by decide) zc_158 zs_40 (by decide) ⟨by omega, by omega⟩ ?_
        generalize hv20 : s8 158 (((x5 * 36) + a2_).toNat) = v20
        have bv20 : -2147483648 ≤ v20 ∧ v20 ≤ 2147483647 := hv20 ▸ zv_40 hI9 zc_158 _
        refine zt_istore (pc' := 38) (lv' := [some (.ref (X.1.1 + 147)), some (.ref (X.1.1 + 153)), some (.int (zI a2_)), some (.int (zI x5)), some (.int (zI r19)), some (.int (zI v20)), none]) hX dX7_measureLifted_36 rfl hL (by decide) rfl ?_
        refine zt_iconst (pc' := 39) hX dX7_measureLifted_38 rfl ?_
        refine zt_istore (pc' := 41) (lv' := [some (.ref (X.1.1 + 147)), some (.ref (X.1.1 + 153)), some (.int (zI a2_)), some (.int (zI x5)), some (.int (zI r19)), some (.int (zI v20)), some (.int (zI 0))]) hX dX7_measureLifted_39 rfl hL (by decide) rfl ?_
        have L_41_26 : ∀ (N : Nat) (x21 : Int) (s24 : zSto), 0 ≤ x21 → x21 ≤ 512 → zInv s24 → zFE σ s24 → ((513 - x21).toNat) < N → zF X s24 41 [some (.ref (X.1.1 + 147)), some (.ref (X.1.1 + 153)), some (.int (zI a2_)), some (.int (zI x5)), some (.int (zI r19)), some (.int (zI v20)), some (.int (zI x21))] [] := by
          intro N
          induction N with
          | zero =>
            intro x21 s24 h22 h23 hI25 hF26 hm28
            exact absurd hm28 (Nat.not_lt_zero _)
          | succ N ih29 =>
            intro x21 s24 h22 h23 hI25 hF26 hm28
            refine zt_iload (pc' := 43) hX dX7_measureLifted_41 rfl rfl ?_
            refine zt_iload (pc' := 45) hX dX7_measureLifted_43 rfl rfl ?_
            have J_85_29 : zF X s24 85 [some (.ref (X.1.1 + 147)), some (.ref (X.1.1 + 153)), some (.int (zI a2_)), some (.int (zI x5)), none, none, none] [] := by
              refine zt_iinc (pc' := 88) (lv' := [some (.ref (X.1.1 + 147)), some (.ref (X.1.1 + 153)), some (.int (zI a2_)), some (.int (zI (x5 + 1))), none, none, none]) hX dX7_measureLifted_85 rfl rfl hL (by decide) rfl ?_
              refine zt_goto (tgt := 9) hX dX7_measureLifted_88 (by decide) ?_
              exact ih13 (x5 + 1) s24 (by omega) (by omega) hI25 (by omega) (by omega)
            refine zt_icge (pc' := 48) (tgt := 85) hX dX7_measureLifted_45 rfl (by decide) ⟨by omega, by omega⟩ ⟨by omega, by omega⟩ (fun c31 => ?_) (fun c31 => ?_)
            · refine zt_mask [true, true, true, true, false, false, false] rfl ?_
              exact J_85_29
            · refine zt_iload (pc' := 50) hX dX7_measureLifted_48 rfl rfl ?_
              refine zt_iload (pc' := 52) hX dX7_measureLifted_50 rfl rfl ?_
              refine zt_iadd (pc' := 53) hX dX7_measureLifted_52 rfl ?_
              refine zt_sipush (pc' := 56) hX dX7_measureLifted_53 rfl (by decide) (by decide) ?_
              refine zt_icge (pc' := 59) (tgt := 85) hX dX7_measureLifted_56 rfl (by decide) ⟨by omega, by omega⟩ ⟨by omega, by omega⟩ (fun c32 => ?_) (fun c32 => ?_)
              · exact absurd c32 (by omega)
              · refine zt_aload_n (pc' := 60) hX dX7_measureLifted_59 rfl rfl ?_
                refine zt_get (pc' := 63) (v := .ref (X.1.1 + 149)) hX dX7_measureLifted_60 rfl zf_X7_15 (by decide) zc_147 zs_29 (zrf_of (zv_29_1 hI25 zc_147)) ?_
                refine zt_iload (pc' := 65) hX dX7_measureLifted_63 rfl rfl ?_
                refine zt_iload (pc' := 67) hX dX7_measureLifted_65 rfl rfl ?_
                refine zt_iadd (pc' := 68) hX dX7_measureLifted_67 rfl ?_
                refine zt_aload_n (pc' := 69) hX dX7_measureLifted_68 rfl rfl ?_
                refine zt_get (pc' := 72) (v := .ref (X.1.1 + 149)) hX dX7_measureLifted_69 rfl zf_X7_15 (by decide) zc_147 zs_29 (zrf_of (zv_29_1 hI25 zc_147)) ?_
                refine zt_iload (pc' := 74) hX dX7_measureLifted_72 rfl rfl ?_
                refine zt_iald (pc' := 75) hX dX7_measureLifted_74 rfl (by decide) zc_149 zs_31 (by decide) ⟨by omega, by omega⟩ ?_
                generalize hv33 : s24 149 (x21.toNat) = v33
                have bv33 : -2147483648 ≤ v33 ∧ v33 ≤ 2147483647 := hv33 ▸ zv_31 hI25 zc_149 _
                refine zt_iload (pc' := 77) hX dX7_measureLifted_75 rfl rfl ?_
                refine zt_iadd (pc' := 78) hX dX7_measureLifted_77 rfl ?_
                refine zt_wrap (fun r34 zr34 lr34 ur34 => ?_)
                clear zr34
                refine zt_iast (pc' := 79) hX dX7_measureLifted_78 rfl (by decide) zc_149 zs_31 (by decide) ⟨by omega, by omega⟩ ?_
                generalize hs36 : zset s24 149 ((r19 + x21).toNat) r34 = s35
                have hI37 : zInv s35 := hs36 ▸ zp_31 hI25 zc_149 ((r19 + x21).toNat) ⟨by omega, by omega⟩
                have hF38 : zFE σ s35 := hs36 ▸ zFE_set hF26 zc_149 (by decide) zke_31 (Or.inl (by decide)) (Or.inl (by decide))
                refine zt_iinc (pc' := 82) (lv' := [some (.ref (X.1.1 + 147)), some (.ref (X.1.1 + 153)), some (.int (zI a2_)), some (.int (zI x5)), some (.int (zI r19)), some (.int (zI v20)), some (.int (zI (x21 + 1)))]) hX dX7_measureLifted_79 rfl rfl hL (by decide) rfl ?_
                refine zt_goto (tgt := 41) hX dX7_measureLifted_82 (by decide) ?_
                exact ih29 (x21 + 1) s35 (by omega) (by omega) hI37 (by omega) (by omega)
        exact L_41_26 _ 0 s8 (by omega) (by omega) hI9 (by omega) (Nat.lt_succ_self _)
  exact L_9_10 _ 0 s1 (by omega) (by omega) hI3 (by omega) (Nat.lt_succ_self _)

set_option maxRecDepth 100000 in
set_option maxHeartbeats 4000000 in
theorem zc_X7_keepSounded (l : Launch) (E : zEN) (σ : zSto) (hI : zInv σ)  : zCt l E yX7_keepSounded cX7_keepSounded 6 none 2 zNC zNC 0 0 σ [.ref (E.1 + 147), .ref (E.1 + 153)] (fun r σ' => zInv σ' ∧ zFE σ σ') := by
  refine zCt_of2 [some (.ref (E.1 + 147)), some (.ref (E.1 + 153)), none, none, none, none] (by decide +kernel) (Nat.le_of_ble_eq_true rfl) rfl ?_
  intro X hE hX hR hL hN
  subst hE
  have hX : zok X cX7_keepSounded RX7 2 := hX
  have hF := zFE_rf σ
  refine zt_aload_n (pc' := 1) hX dX7_keepSounded_0 rfl rfl ?_
  refine zt_aload_n (pc' := 2) hX dX7_keepSounded_1 rfl rfl ?_
  refine zt_cVv (pc' := 5) hX dX7_keepSounded_2 rfl zm_yX7_keepAwake zw_53_8 zc_147 (by decide) zs_29 (q := (RX7, TX7, 7)) rfl rfl (zc_X7_keepAwake _ _ σ hI ) rfl rfl (Nat.le_of_ble_eq_true rfl) (by decide) (fun r1 s2 hr3 hp4 => ?_)
  obtain ⟨hI5, hF6⟩ := hp4
  have hF7 := zFE_tr hF hF6
  refine zt_iconst (pc' := 6) hX dX7_keepSounded_5 rfl ?_
  refine zt_istore_n (pc' := 7) (lv' := [some (.ref (X.1.1 + 147)), some (.ref (X.1.1 + 153)), some (.int (zI 0)), none, none, none]) hX dX7_keepSounded_6 rfl hL (by decide) rfl ?_
  have L_7_13 : ∀ (N : Nat) (x8 : Int) (s11 : zSto), 0 ≤ x8 → x8 ≤ 12 → zInv s11 → zFE σ s11 → ((13 - x8).toNat) < N → zF X s11 7 [some (.ref (X.1.1 + 147)), some (.ref (X.1.1 + 153)), some (.int (zI x8)), none, none, none] [] := by
    intro N
    induction N with
    | zero =>
      intro x8 s11 h9 h10 hI12 hF13 hm15
      exact absurd hm15 (Nat.not_lt_zero _)
    | succ N ih16 =>
      intro x8 s11 h9 h10 hI12 hF13 hm15
      refine zt_iload_n (pc' := 8) hX dX7_keepSounded_7 rfl rfl ?_
      refine zt_aload_n (pc' := 9) hX dX7_keepSounded_8 rfl rfl ?_
      have b17 := zv_29_5 hI12 zc_147
      refine zt_get (pc' := 12) (v := .int (zI (s11 147 5))) hX dX7_keepSounded_9 rfl zf_X7_28 (by decide) zc_147 zs_29 rfl ?_
      refine zt_icge (pc' := 15) (tgt := 109) hX dX7_keepSounded_12 rfl (by decide) ⟨by omega, by omega⟩ ⟨by omega, by omega⟩ (fun c18 => ?_) (fun c18 => ?_)
      · exact zt_vret hX hR dX7_keepSounded_109 ⟨hI12, hF13⟩
      · refine zt_aload_n (pc' := 16) hX dX7_keepSounded_15 rfl rfl ?_
        refine zt_get (pc' := 19) (v := .ref (X.1.1 + 151)) hX dX7_keepSounded_16 rfl zf_X7_22 (by decide) zc_147 zs_29 (zrf_of (zv_29_3 hI12 zc_147)) ?_
        refine zt_iload_n (pc' := 20) hX dX7_keepSounded_19 rfl rfl ?_
        refine zt_iald (pc' := 21) hX dX7_keepSounded_20 rfl (by decide) zc_151 zs_33 (by decide) ⟨by omega, by omega⟩ ?_
        generalize hv19 : s11 151 (x8.toNat) = v19
        have bv19 : 0 ≤ v19 ∧ v19 ≤ 35 := hv19 ▸ zv_33 hI12 zc_151 _
        refine zt_istore_n (pc' := 22) (lv' := [some (.ref (X.1.1 + 147)), some (.ref (X.1.1 + 153)), some (.int (zI x8)), some (.int (zI v19)), none, none]) hX dX7_keepSounded_21 rfl hL (by decide) rfl ?_
        refine zt_aload_n (pc' := 23) hX dX7_keepSounded_22 rfl rfl ?_
        refine zt_get (pc' := 26) (v := .ref (X.1.1 + 152)) hX dX7_keepSounded_23 rfl zf_X7_25 (by decide) zc_147 zs_29 (zrf_of (zv_29_4 hI12 zc_147)) ?_
        refine zt_iload_n (pc' := 27) hX dX7_keepSounded_26 rfl rfl ?_
        refine zt_iald (pc' := 28) hX dX7_keepSounded_27 rfl (by decide) zc_152 zs_34 (by decide) ⟨by omega, by omega⟩ ?_
        generalize hv20 : s11 152 (x8.toNat) = v20
        have bv20 : -2147483648 ≤ v20 ∧ v20 ≤ 2147483647 := hv20 ▸ zv_34 hI12 zc_152 _
        refine zt_aload_n (pc' := 29) hX dX7_keepSounded_28 rfl rfl ?_
        obtain ⟨k21, ek22, hk23⟩ := zv_35_6 hI12 zc_153
        refine zt_get (pc' := 32) (v := .ref (X.1.1 + k21)) hX dX7_keepSounded_29 rfl zf_X7_57 (by decide) zc_153 zs_35 (zrf_of ek22) ?_
        have b24 := zv_8_13 hI12 hk23
        refine zt_get (pc' := 35) (v := .int (zI (s11 k21 13))) hX dX7_keepSounded_32 rfl zf_X7_87 (zro_lt hk23 (by decide)) hk23 zs_8 rfl ?_
        refine zt_isub (pc' := 36) hX dX7_keepSounded_35 rfl ?_
        refine zt_wrap (fun r25 zr25 lr25 ur25 => ?_)
        clear zr25
        refine zt_aload_n (pc' := 37) hX dX7_keepSounded_36 rfl rfl ?_
        refine zt_get (pc' := 40) (v := .ref (X.1.1 + 161)) hX dX7_keepSounded_37 rfl zf_X7_90 (by decide) zc_153 zs_35 (zrf_of (zv_35_4 hI12 zc_153)) ?_
        refine zt_iload_n (pc' := 41) hX dX7_keepSounded_40 rfl rfl ?_
        refine zt_iald (pc' := 42) hX dX7_keepSounded_41 rfl (by decide) zc_161 zs_43 (by decide) ⟨by omega, by omega⟩ ?_
        generalize hv26 : s11 161 (v19.toNat) = v26
        have bv26 : -2147483648 ≤ v26 ∧ v26 ≤ 2147483647 := hv26 ▸ zv_43 hI12 zc_161 _
        refine zt_iadd (pc' := 43) hX dX7_keepSounded_42 rfl ?_
        refine zt_wrap (fun r27 zr27 lr27 ur27 => ?_)
        clear zr27
        refine zt_istore (pc' := 45) (lv' := [some (.ref (X.1.1 + 147)), some (.ref (X.1.1 + 153)), some (.int (zI x8)), some (.int (zI v19)), some (.int (zI r27)), none]) hX dX7_keepSounded_43 rfl hL (by decide) rfl ?_
        refine zt_aload_n (pc' := 46) hX dX7_keepSounded_45 rfl rfl ?_
        refine zt_aload_n (pc' := 47) hX dX7_keepSounded_46 rfl rfl ?_
        refine zt_iload_n (pc' := 48) hX dX7_keepSounded_47 rfl rfl ?_
        refine zt_cVv (pc' := 51) hX dX7_keepSounded_48 rfl zm_yX7_measureLifted zw_53_17 zc_147 (by decide) zs_29 (q := (RX7, TX7, 7)) rfl rfl (zc_X7_measureLifted _ _ s11 hI12 v19 ⟨by omega, by omega⟩) rfl rfl (Nat.le_of_ble_eq_true rfl) (by decide) (fun r28 s29 hr30 hp31 => ?_)
        obtain ⟨hI32, hF33⟩ := hp31
        have hF34 := zFE_tr hF13 hF33
        refine zt_iconst (pc' := 52) hX dX7_keepSounded_51 rfl ?_
        refine zt_istore (pc' := 54) (lv' := [some (.ref (X.1.1 + 147)), some (.ref (X.1.1 + 153)), some (.int (zI x8)), some (.int (zI v19)), some (.int (zI r27)), some (.int (zI 0))]) hX dX7_keepSounded_52 rfl hL (by decide) rfl ?_
        have L_54_40 : ∀ (N : Nat) (x35 : Int) (s38 : zSto), 0 ≤ x35 → x35 ≤ 1024 → zInv s38 → zFE σ s38 → ((1025 - x35).toNat) < N → zF X s38 54 [some (.ref (X.1.1 + 147)), some (.ref (X.1.1 + 153)), some (.int (zI x8)), none, some (.int (zI r27)), some (.int (zI x35))] [] := by
          intro N
          induction N with
          | zero =>
            intro x35 s38 h36 h37 hI39 hF40 hm42
            exact absurd hm42 (Nat.not_lt_zero _)
          | succ N ih43 =>
            intro x35 s38 h36 h37 hI39 hF40 hm42
            refine zt_iload (pc' := 56) hX dX7_keepSounded_54 rfl rfl ?_
            refine zt_aload_n (pc' := 57) hX dX7_keepSounded_56 rfl rfl ?_
            have b44 := zv_29_6 hI39 zc_147
            refine zt_get (pc' := 60) (v := .int (zI (s38 147 6))) hX dX7_keepSounded_57 rfl zf_X7_32 (by decide) zc_147 zs_29 rfl ?_
            refine zt_icge (pc' := 63) (tgt := 103) hX dX7_keepSounded_60 rfl (by decide) ⟨by omega, by omega⟩ ⟨by omega, by omega⟩ (fun c45 => ?_) (fun c45 => ?_)
            · refine zt_iinc (pc' := 106) (lv' := [some (.ref (X.1.1 + 147)), some (.ref (X.1.1 + 153)), some (.int (zI (x8 + 1))), none, some (.int (zI r27)), some (.int (zI x35))]) hX dX7_keepSounded_103 rfl rfl hL (by decide) rfl ?_
              refine zt_goto (tgt := 7) hX dX7_keepSounded_106 (by decide) ?_
              refine zt_mask [true, true, true, false, false, false] rfl ?_
              exact ih16 (x8 + 1) s38 (by omega) (by omega) hI39 (by omega) (by omega)
            · refine zt_aload_n (pc' := 64) hX dX7_keepSounded_63 rfl rfl ?_
              refine zt_get (pc' := 67) (v := .ref (X.1.1 + 148)) hX dX7_keepSounded_64 rfl zf_X7_9 (by decide) zc_147 zs_29 (zrf_of (zv_29_0 hI39 zc_147)) ?_
              refine zt_iload (pc' := 69) hX dX7_keepSounded_67 rfl rfl ?_
              refine zt_aload_n (pc' := 70) hX dX7_keepSounded_69 rfl rfl ?_
              refine zt_get (pc' := 73) (v := .ref (X.1.1 + 148)) hX dX7_keepSounded_70 rfl zf_X7_9 (by decide) zc_147 zs_29 (zrf_of (zv_29_0 hI39 zc_147)) ?_
              refine zt_iload (pc' := 75) hX dX7_keepSounded_73 rfl rfl ?_
              refine zt_zald (pc' := 76) hX dX7_keepSounded_75 rfl (by decide) zc_148 zs_30 (by decide) ⟨by omega, by omega⟩ ?_
              generalize hv46 : s38 148 (x35.toNat) = v46
              have bv46 : 0 ≤ v46 ∧ v46 ≤ 1 := hv46 ▸ zv_30 hI39 zc_148 _
              have J_96_49 : ∀ (y47 : Int), 0 ≤ y47 → y47 ≤ 1 → zF X s38 96 [some (.ref (X.1.1 + 147)), some (.ref (X.1.1 + 153)), some (.int (zI x8)), none, some (.int (zI r27)), some (.int (zI x35))] [.int (zI y47), .int (zI x35), .ref (X.1.1 + 148)] := by
                intro y47 h48 h49
                refine zt_zast (pc' := 97) hX dX7_keepSounded_96 rfl (by decide) zc_148 zs_30 (by decide) ⟨by omega, by omega⟩ ⟨by omega, by omega⟩ ?_
                generalize hs52 : zset s38 148 (x35.toNat) y47 = s51
                have hI53 : zInv s51 := hs52 ▸ zp_30 hI39 zc_148 (x35.toNat) ⟨by omega, by omega⟩
                have hF54 : zFE σ s51 := hs52 ▸ zFE_set hF40 zc_148 (by decide) zke_30 (Or.inl (by decide)) (Or.inl (by decide))
                refine zt_iinc (pc' := 100) (lv' := [some (.ref (X.1.1 + 147)), some (.ref (X.1.1 + 153)), some (.int (zI x8)), none, some (.int (zI r27)), some (.int (zI (x35 + 1)))]) hX dX7_keepSounded_97 rfl rfl hL (by decide) rfl ?_
                refine zt_goto (tgt := 54) hX dX7_keepSounded_100 (by decide) ?_
                exact ih43 (x35 + 1) s51 (by omega) (by omega) hI53 (by omega) (by omega)
              have J_95_54 : zF X s38 95 [some (.ref (X.1.1 + 147)), some (.ref (X.1.1 + 153)), some (.int (zI x8)), none, some (.int (zI r27)), some (.int (zI x35))] [.int (zI x35), .ref (X.1.1 + 148)] := by
                refine zt_iconst (pc' := 96) hX dX7_keepSounded_95 rfl ?_
                exact J_96_49 0 (by omega) (by omega)
              refine zt_ifeq (pc' := 79) (tgt := 95) hX dX7_keepSounded_76 rfl (by decide) ⟨by omega, by omega⟩ (fun c56 => ?_) (fun c56 => ?_)
              · exact J_95_54
              · refine zt_aload_n (pc' := 80) hX dX7_keepSounded_79 rfl rfl ?_
                refine zt_get (pc' := 83) (v := .ref (X.1.1 + 149)) hX dX7_keepSounded_80 rfl zf_X7_15 (by decide) zc_147 zs_29 (zrf_of (zv_29_1 hI39 zc_147)) ?_
                refine zt_iload (pc' := 85) hX dX7_keepSounded_83 rfl rfl ?_
                refine zt_iald (pc' := 86) hX dX7_keepSounded_85 rfl (by decide) zc_149 zs_31 (by decide) ⟨by omega, by omega⟩ ?_
                generalize hv57 : s38 149 (x35.toNat) = v57
                have bv57 : -2147483648 ≤ v57 ∧ v57 ≤ 2147483647 := hv57 ▸ zv_31 hI39 zc_149 _
                refine zt_iload (pc' := 88) hX dX7_keepSounded_86 rfl rfl ?_
                refine zt_icne (pc' := 91) (tgt := 95) hX dX7_keepSounded_88 rfl (by decide) ⟨by omega, by omega⟩ ⟨by omega, by omega⟩ (fun c58 => ?_) (fun c58 => ?_)
                · exact J_95_54
                · refine zt_iconst (pc' := 92) hX dX7_keepSounded_91 rfl ?_
                  refine zt_goto (tgt := 96) hX dX7_keepSounded_92 (by decide) ?_
                  exact J_96_49 1 (by omega) (by omega)
        refine zt_mask [true, true, true, false, true, true] rfl ?_
        exact L_54_40 _ 0 s29 (by omega) (by omega) hI32 (by omega) (Nat.lt_succ_self _)
  exact L_7_13 _ 0 s2 (by omega) (by omega) hI5 (by omega) (Nat.lt_succ_self _)

set_option maxRecDepth 100000 in
set_option maxHeartbeats 4000000 in
theorem zc_X7_howMany (l : Launch) (E : zEN) (σ : zSto) (hI : zInv σ)  : zCt l E yX7_howMany cX7_howMany 3 (some .int) 0 zNC zNC 0 0 σ [.ref (E.1 + 147)] (fun r σ' => σ = σ' ∧ -2147483648 ≤ r ∧ r ≤ 2147483647) := by
  refine zCt_of2 [some (.ref (E.1 + 147)), none, none] (by decide +kernel) (Nat.le_of_ble_eq_true rfl) rfl ?_
  intro X hE hX hR hL hN
  subst hE
  have hX : zok X cX7_howMany RX7 0 := hX
  refine zt_iconst (pc' := 1) hX dX7_howMany_0 rfl ?_
  refine zt_istore_n (pc' := 2) (lv' := [some (.ref (X.1.1 + 147)), some (.int (zI 0)), none]) hX dX7_howMany_1 rfl hL (by decide) rfl ?_
  refine zt_iconst (pc' := 3) hX dX7_howMany_2 rfl ?_
  refine zt_istore_n (pc' := 4) (lv' := [some (.ref (X.1.1 + 147)), some (.int (zI 0)), some (.int (zI 0))]) hX dX7_howMany_3 rfl hL (by decide) rfl ?_
  have L_4_6 : ∀ (N : Nat) (x1 : Int) (x4 : Int), -2147483648 ≤ x1 → x1 ≤ 2147483647 → 0 ≤ x4 → x4 ≤ 1024 → ((1025 - x4).toNat) < N → zF X σ 4 [some (.ref (X.1.1 + 147)), some (.int (zI x1)), some (.int (zI x4))] [] := by
    intro N
    induction N with
    | zero =>
      intro x1 x4 h2 h3 h5 h6 hm8
      exact absurd hm8 (Nat.not_lt_zero _)
    | succ N ih9 =>
      intro x1 x4 h2 h3 h5 h6 hm8
      refine zt_iload_n (pc' := 5) hX dX7_howMany_4 rfl rfl ?_
      refine zt_aload_n (pc' := 6) hX dX7_howMany_5 rfl rfl ?_
      have b10 := zv_29_6 hI zc_147
      refine zt_get (pc' := 9) (v := .int (zI (σ 147 6))) hX dX7_howMany_6 rfl zf_X7_32 (by decide) zc_147 zs_29 rfl ?_
      refine zt_icge (pc' := 12) (tgt := 30) hX dX7_howMany_9 rfl (by decide) ⟨by omega, by omega⟩ ⟨by omega, by omega⟩ (fun c11 => ?_) (fun c11 => ?_)
      · refine zt_iload_n (pc' := 31) hX dX7_howMany_30 rfl rfl ?_
        exact zt_iret hX hR dX7_howMany_31 ⟨by omega, by omega⟩ ⟨rfl, by omega, by omega⟩
      · refine zt_aload_n (pc' := 13) hX dX7_howMany_12 rfl rfl ?_
        refine zt_get (pc' := 16) (v := .ref (X.1.1 + 148)) hX dX7_howMany_13 rfl zf_X7_9 (by decide) zc_147 zs_29 (zrf_of (zv_29_0 hI zc_147)) ?_
        refine zt_iload_n (pc' := 17) hX dX7_howMany_16 rfl rfl ?_
        refine zt_zald (pc' := 18) hX dX7_howMany_17 rfl (by decide) zc_148 zs_30 (by decide) ⟨by omega, by omega⟩ ?_
        generalize hv12 : σ 148 (x4.toNat) = v12
        have bv12 : 0 ≤ v12 ∧ v12 ≤ 1 := hv12 ▸ zv_30 hI zc_148 _
        have J_24_15 : ∀ (x13 : Int), -2147483648 ≤ x13 → x13 ≤ 2147483647 → zF X σ 24 [some (.ref (X.1.1 + 147)), some (.int (zI x13)), some (.int (zI x4))] [] := by
          intro x13 h14 h15
          refine zt_iinc (pc' := 27) (lv' := [some (.ref (X.1.1 + 147)), some (.int (zI x13)), some (.int (zI (x4 + 1)))]) hX dX7_howMany_24 rfl rfl hL (by decide) rfl ?_
          refine zt_goto (tgt := 4) hX dX7_howMany_27 (by decide) ?_
          exact ih9 x13 (x4 + 1) (by omega) (by omega) (by omega) (by omega) (by omega)
        refine zt_ifeq (pc' := 21) (tgt := 24) hX dX7_howMany_18 rfl (by decide) ⟨by omega, by omega⟩ (fun c17 => ?_) (fun c17 => ?_)
        · exact J_24_15 x1 (by omega) (by omega)
        · refine zt_iinc (pc' := 24) (lv' := [some (.ref (X.1.1 + 147)), some (.int (zI (x1 + 1))), some (.int (zI x4))]) hX dX7_howMany_21 rfl rfl hL (by decide) rfl ?_
          obtain ⟨r18, er18, lr18, ur18⟩ := zwr (x1 + 1)
          rw [← er18]
          exact J_24_15 r18 (by omega) (by omega)
  exact L_4_6 _ 0 0 (by omega) (by omega) (by omega) (by omega) (Nat.lt_succ_self _)

set_option maxRecDepth 100000 in
set_option maxHeartbeats 4000000 in
theorem zc_X7_inAll (l : Launch) (E : zEN) (σ : zSto) (hI : zInv σ)  : zCt l E yX7_inAll cX7_inAll 3 (some .int) 0 zNC zNC 0 0 σ [.ref (E.1 + 147)] (fun r σ' => σ = σ' ∧ -2147483648 ≤ r ∧ r ≤ 2147483647) := by
  refine zCt_of2 [some (.ref (E.1 + 147)), none, none] (by decide +kernel) (Nat.le_of_ble_eq_true rfl) rfl ?_
  intro X hE hX hR hL hN
  subst hE
  have hX : zok X cX7_inAll RX7 0 := hX
  refine zt_iconst (pc' := 1) hX dX7_inAll_0 rfl ?_
  refine zt_istore_n (pc' := 2) (lv' := [some (.ref (X.1.1 + 147)), some (.int (zI (-1))), none]) hX dX7_inAll_1 rfl hL (by decide) rfl ?_
  refine zt_iconst (pc' := 3) hX dX7_inAll_2 rfl ?_
  refine zt_istore_n (pc' := 4) (lv' := [some (.ref (X.1.1 + 147)), some (.int (zI (-1))), some (.int (zI 0))]) hX dX7_inAll_3 rfl hL (by decide) rfl ?_
  have L_4_6 : ∀ (N : Nat) (x1 : Int) (x4 : Int), -2147483648 ≤ x1 → x1 ≤ 2147483647 → 0 ≤ x4 → x4 ≤ 1024 → ((1025 - x4).toNat) < N → zF X σ 4 [some (.ref (X.1.1 + 147)), some (.int (zI x1)), some (.int (zI x4))] [] := by
    intro N
    induction N with
    | zero =>
      intro x1 x4 h2 h3 h5 h6 hm8
      exact absurd hm8 (Nat.not_lt_zero _)
    | succ N ih9 =>
      intro x1 x4 h2 h3 h5 h6 hm8
      refine zt_iload_n (pc' := 5) hX dX7_inAll_4 rfl rfl ?_
      refine zt_aload_n (pc' := 6) hX dX7_inAll_5 rfl rfl ?_
      have b10 := zv_29_6 hI zc_147
      refine zt_get (pc' := 9) (v := .int (zI (σ 147 6))) hX dX7_inAll_6 rfl zf_X7_32 (by decide) zc_147 zs_29 rfl ?_
      refine zt_icge (pc' := 12) (tgt := 31) hX dX7_inAll_9 rfl (by decide) ⟨by omega, by omega⟩ ⟨by omega, by omega⟩ (fun c11 => ?_) (fun c11 => ?_)
      · refine zt_iload_n (pc' := 32) hX dX7_inAll_31 rfl rfl ?_
        refine zt_iconst (pc' := 33) hX dX7_inAll_32 rfl ?_
        refine zt_icne (pc' := 36) (tgt := 40) hX dX7_inAll_33 rfl (by decide) ⟨by omega, by omega⟩ ⟨by omega, by omega⟩ (fun c12 => ?_) (fun c12 => ?_)
        · refine zt_iload_n (pc' := 41) hX dX7_inAll_40 rfl rfl ?_
          exact zt_iret hX hR dX7_inAll_41 ⟨by omega, by omega⟩ ⟨rfl, by omega, by omega⟩
        · refine zt_iconst (pc' := 37) hX dX7_inAll_36 rfl ?_
          refine zt_goto (tgt := 41) hX dX7_inAll_37 (by decide) ?_
          exact zt_iret hX hR dX7_inAll_41 ⟨by omega, by omega⟩ ⟨rfl, by omega, by omega⟩
      · refine zt_aload_n (pc' := 13) hX dX7_inAll_12 rfl rfl ?_
        refine zt_get (pc' := 16) (v := .ref (X.1.1 + 148)) hX dX7_inAll_13 rfl zf_X7_9 (by decide) zc_147 zs_29 (zrf_of (zv_29_0 hI zc_147)) ?_
        refine zt_iload_n (pc' := 17) hX dX7_inAll_16 rfl rfl ?_
        refine zt_zald (pc' := 18) hX dX7_inAll_17 rfl (by decide) zc_148 zs_30 (by decide) ⟨by omega, by omega⟩ ?_
        generalize hv13 : σ 148 (x4.toNat) = v13
        have bv13 : 0 ≤ v13 ∧ v13 ≤ 1 := hv13 ▸ zv_30 hI zc_148 _
        have J_25_16 : ∀ (x14 : Int), -2147483648 ≤ x14 → x14 ≤ 2147483647 → zF X σ 25 [some (.ref (X.1.1 + 147)), some (.int (zI x14)), some (.int (zI x4))] [] := by
          intro x14 h15 h16
          refine zt_iinc (pc' := 28) (lv' := [some (.ref (X.1.1 + 147)), some (.int (zI x14)), some (.int (zI (x4 + 1)))]) hX dX7_inAll_25 rfl rfl hL (by decide) rfl ?_
          refine zt_goto (tgt := 4) hX dX7_inAll_28 (by decide) ?_
          exact ih9 x14 (x4 + 1) (by omega) (by omega) (by omega) (by omega) (by omega)
        refine zt_ifeq (pc' := 21) (tgt := 25) hX dX7_inAll_18 rfl (by decide) ⟨by omega, by omega⟩ (fun c18 => ?_) (fun c18 => ?_)
        · exact J_25_16 x1 (by omega) (by omega)
        · refine zt_iload_n (pc' := 22) hX dX7_inAll_21 rfl rfl ?_
          refine zt_iload_n (pc' := 23) hX dX7_inAll_22 rfl rfl ?_
          refine zt_iand (pc' := 24) hX dX7_inAll_23 rfl (fun r19 zr19 lr19 ur19 => ?_)
          clear zr19
          refine zt_istore_n (pc' := 25) (lv' := [some (.ref (X.1.1 + 147)), some (.int (zI r19)), some (.int (zI x4))]) hX dX7_inAll_24 rfl hL (by decide) rfl ?_
          exact J_25_16 r19 (by omega) (by omega)
  exact L_4_6 _ (-1) 0 (by omega) (by omega) (by omega) (by omega) (Nat.lt_succ_self _)

set_option maxRecDepth 100000 in
set_option maxHeartbeats 4000000 in
theorem zc_X7_inSome (l : Launch) (E : zEN) (σ : zSto) (hI : zInv σ)  : zCt l E yX7_inSome cX7_inSome 3 (some .int) 0 zNC zNC 0 0 σ [.ref (E.1 + 147)] (fun r σ' => σ = σ' ∧ -2147483648 ≤ r ∧ r ≤ 2147483647) := by
  refine zCt_of2 [some (.ref (E.1 + 147)), none, none] (by decide +kernel) (Nat.le_of_ble_eq_true rfl) rfl ?_
  intro X hE hX hR hL hN
  subst hE
  have hX : zok X cX7_inSome RX7 0 := hX
  refine zt_iconst (pc' := 1) hX dX7_inSome_0 rfl ?_
  refine zt_istore_n (pc' := 2) (lv' := [some (.ref (X.1.1 + 147)), some (.int (zI 0)), none]) hX dX7_inSome_1 rfl hL (by decide) rfl ?_
  refine zt_iconst (pc' := 3) hX dX7_inSome_2 rfl ?_
  refine zt_istore_n (pc' := 4) (lv' := [some (.ref (X.1.1 + 147)), some (.int (zI 0)), some (.int (zI 0))]) hX dX7_inSome_3 rfl hL (by decide) rfl ?_
  have L_4_6 : ∀ (N : Nat) (x1 : Int) (x4 : Int), -2147483648 ≤ x1 → x1 ≤ 2147483647 → 0 ≤ x4 → x4 ≤ 1024 → ((1025 - x4).toNat) < N → zF X σ 4 [some (.ref (X.1.1 + 147)), some (.int (zI x1)), some (.int (zI x4))] [] := by
    intro N
    induction N with
    | zero =>
      intro x1 x4 h2 h3 h5 h6 hm8
      exact absurd hm8 (Nat.not_lt_zero _)
    | succ N ih9 =>
      intro x1 x4 h2 h3 h5 h6 hm8
      refine zt_iload_n (pc' := 5) hX dX7_inSome_4 rfl rfl ?_
      refine zt_aload_n (pc' := 6) hX dX7_inSome_5 rfl rfl ?_
      have b10 := zv_29_6 hI zc_147
      refine zt_get (pc' := 9) (v := .int (zI (σ 147 6))) hX dX7_inSome_6 rfl zf_X7_32 (by decide) zc_147 zs_29 rfl ?_
      refine zt_icge (pc' := 12) (tgt := 31) hX dX7_inSome_9 rfl (by decide) ⟨by omega, by omega⟩ ⟨by omega, by omega⟩ (fun c11 => ?_) (fun c11 => ?_)
      · refine zt_iload_n (pc' := 32) hX dX7_inSome_31 rfl rfl ?_
        exact zt_iret hX hR dX7_inSome_32 ⟨by omega, by omega⟩ ⟨rfl, by omega, by omega⟩
      · refine zt_aload_n (pc' := 13) hX dX7_inSome_12 rfl rfl ?_
        refine zt_get (pc' := 16) (v := .ref (X.1.1 + 148)) hX dX7_inSome_13 rfl zf_X7_9 (by decide) zc_147 zs_29 (zrf_of (zv_29_0 hI zc_147)) ?_
        refine zt_iload_n (pc' := 17) hX dX7_inSome_16 rfl rfl ?_
        refine zt_zald (pc' := 18) hX dX7_inSome_17 rfl (by decide) zc_148 zs_30 (by decide) ⟨by omega, by omega⟩ ?_
        generalize hv12 : σ 148 (x4.toNat) = v12
        have bv12 : 0 ≤ v12 ∧ v12 ≤ 1 := hv12 ▸ zv_30 hI zc_148 _
        have J_25_15 : ∀ (x13 : Int), -2147483648 ≤ x13 → x13 ≤ 2147483647 → zF X σ 25 [some (.ref (X.1.1 + 147)), some (.int (zI x13)), some (.int (zI x4))] [] := by
          intro x13 h14 h15
          refine zt_iinc (pc' := 28) (lv' := [some (.ref (X.1.1 + 147)), some (.int (zI x13)), some (.int (zI (x4 + 1)))]) hX dX7_inSome_25 rfl rfl hL (by decide) rfl ?_
          refine zt_goto (tgt := 4) hX dX7_inSome_28 (by decide) ?_
          exact ih9 x13 (x4 + 1) (by omega) (by omega) (by omega) (by omega) (by omega)
        refine zt_ifeq (pc' := 21) (tgt := 25) hX dX7_inSome_18 rfl (by decide) ⟨by omega, by omega⟩ (fun c17 => ?_) (fun c17 => ?_)
        · exact J_25_15 x1 (by omega) (by omega)
        · refine zt_iload_n (pc' := 22) hX dX7_inSome_21 rfl rfl ?_
          refine zt_iload_n (pc' := 23) hX dX7_inSome_22 rfl rfl ?_
          refine zt_ior (pc' := 24) hX dX7_inSome_23 rfl (fun r18 zr18 lr18 ur18 => ?_)
          clear zr18
          refine zt_istore_n (pc' := 25) (lv' := [some (.ref (X.1.1 + 147)), some (.int (zI r18)), some (.int (zI x4))]) hX dX7_inSome_24 rfl hL (by decide) rfl ?_
          exact J_25_15 r18 (by omega) (by omega)
  exact L_4_6 _ 0 0 (by omega) (by omega) (by omega) (by omega) (Nat.lt_succ_self _)

set_option maxRecDepth 100000 in
set_option maxHeartbeats 4000000 in
theorem zc_X7_fewest (l : Launch) (E : zEN) (σ : zSto) (hI : zInv σ)  : zCt l E yX7_fewest cX7_fewest 5 (some .int) 2 zNC zNC 0 0 σ [.ref (E.1 + 147), .ref (E.1 + 153)] (fun r σ' => zInv σ' ∧ zFE σ σ' ∧ -2147483648 ≤ r ∧ r ≤ 2147483647) := by
  refine zCt_of2 [some (.ref (E.1 + 147)), some (.ref (E.1 + 153)), none, none, none] (by decide +kernel) (Nat.le_of_ble_eq_true rfl) rfl ?_
  intro X hE hX hR hL hN
  subst hE
  have hX : zok X cX7_fewest RX7 2 := hX
  have hF := zFE_rf σ
  refine zt_aload_n (pc' := 1) hX dX7_fewest_0 rfl rfl ?_
  refine zt_aload_n (pc' := 2) hX dX7_fewest_1 rfl rfl ?_
  refine zt_cVv (pc' := 5) hX dX7_fewest_2 rfl zm_yX7_keepAwake zw_53_8 zc_147 (by decide) zs_29 (q := (RX7, TX7, 7)) rfl rfl (zc_X7_keepAwake _ _ σ hI ) rfl rfl (Nat.le_of_ble_eq_true rfl) (by decide) (fun r1 s2 hr3 hp4 => ?_)
  obtain ⟨hI5, hF6⟩ := hp4
  have hF7 := zFE_tr hF hF6
  refine zt_iconst (pc' := 6) hX dX7_fewest_5 rfl ?_
  refine zt_istore_n (pc' := 7) (lv' := [some (.ref (X.1.1 + 147)), some (.ref (X.1.1 + 153)), some (.int (zI 0)), none, none]) hX dX7_fewest_6 rfl hL (by decide) rfl ?_
  have L_7_13 : ∀ (N : Nat) (x8 : Int) (s11 : zSto), 0 ≤ x8 → x8 ≤ 36 → zInv s11 → zFE σ s11 → ((37 - x8).toNat) < N → zF X s11 7 [some (.ref (X.1.1 + 147)), some (.ref (X.1.1 + 153)), some (.int (zI x8)), none, none] [] := by
    intro N
    induction N with
    | zero =>
      intro x8 s11 h9 h10 hI12 hF13 hm15
      exact absurd hm15 (Nat.not_lt_zero _)
    | succ N ih16 =>
      intro x8 s11 h9 h10 hI12 hF13 hm15
      refine zt_iload_n (pc' := 8) hX dX7_fewest_7 rfl rfl ?_
      refine zt_aload_n (pc' := 9) hX dX7_fewest_8 rfl rfl ?_
      obtain ⟨k17, ek18, hk19⟩ := zv_35_6 hI12 zc_153
      refine zt_get (pc' := 12) (v := .ref (X.1.1 + k17)) hX dX7_fewest_9 rfl zf_X7_57 (by decide) zc_153 zs_35 (zrf_of ek18) ?_
      refine zt_cVi (pc' := 15) hX dX7_fewest_12 rfl zm_yX3_cells zw_53_15 hk19 (by decide) zs_8 (q := (RX3, TX3, 17)) rfl rfl (zc_X3_cells _ _ s11 hI12 k17 hk19) rfl rfl (Nat.le_of_ble_eq_true rfl) (by decide) (fun r20 s21 hr22 hp23 => ?_)
      obtain ⟨rfl, q24, q25⟩ := hp23
      refine zt_icge (pc' := 18) (tgt := 111) hX dX7_fewest_15 rfl (by decide) ⟨by omega, by omega⟩ ⟨by omega, by omega⟩ (fun c26 => ?_) (fun c26 => ?_)
      · refine zt_iconst (pc' := 112) hX dX7_fewest_111 rfl ?_
        refine zt_istore_n (pc' := 113) (lv' := [some (.ref (X.1.1 + 147)), some (.ref (X.1.1 + 153)), some (.int (zI (-1))), none, none]) hX dX7_fewest_112 rfl hL (by decide) rfl ?_
        refine zt_iconst (pc' := 114) hX dX7_fewest_113 rfl ?_
        refine zt_istore_n (pc' := 115) (lv' := [some (.ref (X.1.1 + 147)), some (.ref (X.1.1 + 153)), some (.int (zI (-1))), some (.int (zI 0)), none]) hX dX7_fewest_114 rfl hL (by decide) rfl ?_
        have L_115_32 : ∀ (N : Nat) (x27 : Int) (x30 : Int), -1 ≤ x27 → x27 ≤ 1023 → 0 ≤ x30 → x30 ≤ 1024 → ((1025 - x30).toNat) < N → zF X s11 115 [some (.ref (X.1.1 + 147)), none, some (.int (zI x27)), some (.int (zI x30)), none] [] := by
          intro N
          induction N with
          | zero =>
            intro x27 x30 h28 h29 h31 h32 hm34
            exact absurd hm34 (Nat.not_lt_zero _)
          | succ N ih35 =>
            intro x27 x30 h28 h29 h31 h32 hm34
            refine zt_iload_n (pc' := 116) hX dX7_fewest_115 rfl rfl ?_
            refine zt_aload_n (pc' := 117) hX dX7_fewest_116 rfl rfl ?_
            have b36 := zv_29_6 hI12 zc_147
            refine zt_get (pc' := 120) (v := .int (zI (s11 147 6))) hX dX7_fewest_117 rfl zf_X7_32 (by decide) zc_147 zs_29 rfl ?_
            refine zt_icge (pc' := 123) (tgt := 156) hX dX7_fewest_120 rfl (by decide) ⟨by omega, by omega⟩ ⟨by omega, by omega⟩ (fun c37 => ?_) (fun c37 => ?_)
            · refine zt_iload_n (pc' := 157) hX dX7_fewest_156 rfl rfl ?_
              exact zt_iret hX hR dX7_fewest_157 ⟨by omega, by omega⟩ ⟨hI12, hF13, by omega, by omega⟩
            · refine zt_aload_n (pc' := 124) hX dX7_fewest_123 rfl rfl ?_
              refine zt_get (pc' := 127) (v := .ref (X.1.1 + 148)) hX dX7_fewest_124 rfl zf_X7_9 (by decide) zc_147 zs_29 (zrf_of (zv_29_0 hI12 zc_147)) ?_
              refine zt_iload_n (pc' := 128) hX dX7_fewest_127 rfl rfl ?_
              refine zt_zald (pc' := 129) hX dX7_fewest_128 rfl (by decide) zc_148 zs_30 (by decide) ⟨by omega, by omega⟩ ?_
              generalize hv38 : s11 148 (x30.toNat) = v38
              have bv38 : 0 ≤ v38 ∧ v38 ≤ 1 := hv38 ▸ zv_30 hI12 zc_148 _
              have J_150_41 : ∀ (x39 : Int), -1 ≤ x39 → x39 ≤ 1023 → zF X s11 150 [some (.ref (X.1.1 + 147)), none, some (.int (zI x39)), some (.int (zI x30)), none] [] := by
                intro x39 h40 h41
                refine zt_iinc (pc' := 153) (lv' := [some (.ref (X.1.1 + 147)), none, some (.int (zI x39)), some (.int (zI (x30 + 1))), none]) hX dX7_fewest_150 rfl rfl hL (by decide) rfl ?_
                refine zt_goto (tgt := 115) hX dX7_fewest_153 (by decide) ?_
                exact ih35 x39 (x30 + 1) (by omega) (by omega) (by omega) (by omega) (by omega)
              refine zt_ifeq (pc' := 132) (tgt := 150) hX dX7_fewest_129 rfl (by decide) ⟨by omega, by omega⟩ (fun c43 => ?_) (fun c43 => ?_)
              · exact J_150_41 x27 (by omega) (by omega)
              · refine zt_iload_n (pc' := 133) hX dX7_fewest_132 rfl rfl ?_
                refine zt_iconst (pc' := 134) hX dX7_fewest_133 rfl ?_
                have J_148_43 : zF X s11 148 [some (.ref (X.1.1 + 147)), none, none, some (.int (zI x30)), none] [] := by
                  refine zt_iload_n (pc' := 149) hX dX7_fewest_148 rfl rfl ?_
                  refine zt_istore_n (pc' := 150) (lv' := [some (.ref (X.1.1 + 147)), none, some (.int (zI x30)), some (.int (zI x30)), none]) hX dX7_fewest_149 rfl hL (by decide) rfl ?_
                  exact J_150_41 x30 (by omega) (by omega)
                refine zt_iceq (pc' := 137) (tgt := 148) hX dX7_fewest_134 rfl (by decide) ⟨by omega, by omega⟩ ⟨by omega, by omega⟩ (fun c45 => ?_) (fun c45 => ?_)
                · refine zt_mask [true, false, false, true, false] rfl ?_
                  exact J_148_43
                · refine zt_iload_n (pc' := 138) hX dX7_fewest_137 rfl rfl ?_
                  refine zt_cSi (pc' := 141) hX dX7_fewest_138 rfl zm_yJ6_bitCount_0f7a4 zw_53_22 (zc_J6_bitCount _ _ s11  x30 ⟨by omega, by omega⟩) rfl rfl (Nat.le_of_ble_eq_true rfl) (by decide) (fun r46 s47 hr48 hp49 => ?_)
                  obtain ⟨rfl, q50, q51⟩ := hp49
                  refine zt_iload_n (pc' := 142) hX dX7_fewest_141 rfl rfl ?_
                  refine zt_cSi (pc' := 145) hX dX7_fewest_142 rfl zm_yJ6_bitCount_0f7a4 zw_53_22 (zc_J6_bitCount _ _ s11  x27 ⟨by omega, by omega⟩) rfl rfl (Nat.le_of_ble_eq_true rfl) (by decide) (fun r52 s53 hr54 hp55 => ?_)
                  obtain ⟨rfl, q56, q57⟩ := hp55
                  refine zt_icge (pc' := 148) (tgt := 150) hX dX7_fewest_145 rfl (by decide) ⟨by omega, by omega⟩ ⟨by omega, by omega⟩ (fun c58 => ?_) (fun c58 => ?_)
                  · exact J_150_41 x27 (by omega) (by omega)
                  · refine zt_mask [true, false, false, true, false] rfl ?_
                    exact J_148_43
        refine zt_mask [true, false, true, true, false] rfl ?_
        exact L_115_32 _ (-1) 0 (by omega) (by omega) (by omega) (by omega) (Nat.lt_succ_self _)
      · refine zt_aload_n (pc' := 19) hX dX7_fewest_18 rfl rfl ?_
        refine zt_get (pc' := 22) (v := .ref (X.1.1 + 161)) hX dX7_fewest_19 rfl zf_X7_90 (by decide) zc_153 zs_35 (zrf_of (zv_35_4 hI12 zc_153)) ?_
        refine zt_iload_n (pc' := 23) hX dX7_fewest_22 rfl rfl ?_
        refine zt_iald (pc' := 24) hX dX7_fewest_23 rfl (by decide) zc_161 zs_43 (by decide) ⟨by omega, by omega⟩ ?_
        generalize hv59 : s11 161 (x8.toNat) = v59
        have bv59 : -2147483648 ≤ v59 ∧ v59 ≤ 2147483647 := hv59 ▸ zv_43 hI12 zc_161 _
        refine zt_aload_n (pc' := 25) hX dX7_fewest_24 rfl rfl ?_
        refine zt_get (pc' := 28) (v := .ref (X.1.1 + k17)) hX dX7_fewest_25 rfl zf_X7_57 (by decide) zc_153 zs_35 (zrf_of ek18) ?_
        have b60 := zv_8_13 hI12 hk19
        refine zt_get (pc' := 31) (v := .int (zI (s11 k17 13))) hX dX7_fewest_28 rfl zf_X7_87 (zro_lt hk19 (by decide)) hk19 zs_8 rfl ?_
        refine zt_isub (pc' := 32) hX dX7_fewest_31 rfl ?_
        refine zt_wrap (fun r61 zr61 lr61 ur61 => ?_)
        clear zr61
        refine zt_istore_n (pc' := 33) (lv' := [some (.ref (X.1.1 + 147)), some (.ref (X.1.1 + 153)), some (.int (zI x8)), some (.int (zI r61)), none]) hX dX7_fewest_32 rfl hL (by decide) rfl ?_
        refine zt_iload_n (pc' := 34) hX dX7_fewest_33 rfl rfl ?_
        have J_105_64 : ∀ (s62 : zSto), zInv s62 → zFE σ s62 → zF X s62 105 [some (.ref (X.1.1 + 147)), some (.ref (X.1.1 + 153)), some (.int (zI x8)), none, none] [] := by
          intro s62 hI63 hF64
          refine zt_iinc (pc' := 108) (lv' := [some (.ref (X.1.1 + 147)), some (.ref (X.1.1 + 153)), some (.int (zI (x8 + 1))), none, none]) hX dX7_fewest_105 rfl rfl hL (by decide) rfl ?_
          refine zt_goto (tgt := 7) hX dX7_fewest_108 (by decide) ?_
          exact ih16 (x8 + 1) s62 (by omega) (by omega) hI63 (by omega) (by omega)
        refine zt_ifle (pc' := 37) (tgt := 105) hX dX7_fewest_34 rfl (by decide) ⟨by omega, by omega⟩ (fun c66 => ?_) (fun c66 => ?_)
        · refine zt_mask [true, true, true, false, false] rfl ?_
          exact J_105_64 s11 hI12 (by omega)
        · refine zt_aload_n (pc' := 38) hX dX7_fewest_37 rfl rfl ?_
          obtain ⟨k67, ek68, hk69⟩ := zv_35_7 hI12 zc_153
          refine zt_get (pc' := 41) (v := .ref (X.1.1 + k67)) hX dX7_fewest_38 rfl zf_X7_71 (by decide) zc_153 zs_35 (zrf_of ek68) ?_
          refine zt_iload_n (pc' := 42) hX dX7_fewest_41 rfl rfl ?_
          refine zt_cVz (pc' := 45) hX dX7_fewest_42 rfl zm_yX10_isCracked zw_53_16 hk69 (by decide) zs_22 (q := (RX10, TX10, 8)) rfl rfl (zc_X10_isCracked _ _ s11 hI12 k67 hk69 x8 ⟨by omega, by omega⟩) rfl rfl (Nat.le_of_ble_eq_true rfl) (by decide) (fun r70 s71 hr72 hp73 => ?_)
          obtain ⟨rfl, q74, q75⟩ := hp73
          refine zt_ifne (pc' := 48) (tgt := 105) hX dX7_fewest_45 rfl (by decide) ⟨by omega, by omega⟩ (fun c76 => ?_) (fun c76 => ?_)
          · refine zt_mask [true, true, true, false, false] rfl ?_
            exact J_105_64 s11 hI12 (by omega)
          · refine zt_aload_n (pc' := 49) hX dX7_fewest_48 rfl rfl ?_
            refine zt_aload_n (pc' := 50) hX dX7_fewest_49 rfl rfl ?_
            refine zt_iload_n (pc' := 51) hX dX7_fewest_50 rfl rfl ?_
            refine zt_cVv (pc' := 54) hX dX7_fewest_51 rfl zm_yX7_measureLifted zw_53_17 zc_147 (by decide) zs_29 (q := (RX7, TX7, 7)) rfl rfl (zc_X7_measureLifted _ _ s11 hI12 x8 ⟨by omega, by omega⟩) rfl rfl (Nat.le_of_ble_eq_true rfl) (by decide) (fun r77 s78 hr79 hp80 => ?_)
            obtain ⟨hI81, hF82⟩ := hp80
            have hF83 := zFE_tr hF13 hF82
            refine zt_iconst (pc' := 55) hX dX7_fewest_54 rfl ?_
            refine zt_istore (pc' := 57) (lv' := [some (.ref (X.1.1 + 147)), some (.ref (X.1.1 + 153)), some (.int (zI x8)), some (.int (zI r61)), some (.int (zI 0))]) hX dX7_fewest_55 rfl hL (by decide) rfl ?_
            have L_57_89 : ∀ (N : Nat) (x84 : Int) (s87 : zSto), 0 ≤ x84 → x84 ≤ 1024 → zInv s87 → zFE σ s87 → ((1025 - x84).toNat) < N → zF X s87 57 [some (.ref (X.1.1 + 147)), some (.ref (X.1.1 + 153)), some (.int (zI x8)), some (.int (zI r61)), some (.int (zI x84))] [] := by
              intro N
              induction N with
              | zero =>
                intro x84 s87 h85 h86 hI88 hF89 hm91
                exact absurd hm91 (Nat.not_lt_zero _)
              | succ N ih92 =>
                intro x84 s87 h85 h86 hI88 hF89 hm91
                refine zt_iload (pc' := 59) hX dX7_fewest_57 rfl rfl ?_
                refine zt_aload_n (pc' := 60) hX dX7_fewest_59 rfl rfl ?_
                have b93 := zv_29_6 hI88 zc_147
                refine zt_get (pc' := 63) (v := .int (zI (s87 147 6))) hX dX7_fewest_60 rfl zf_X7_32 (by decide) zc_147 zs_29 rfl ?_
                refine zt_icge (pc' := 66) (tgt := 105) hX dX7_fewest_63 rfl (by decide) ⟨by omega, by omega⟩ ⟨by omega, by omega⟩ (fun c94 => ?_) (fun c94 => ?_)
                · refine zt_mask [true, true, true, false, false] rfl ?_
                  exact J_105_64 s87 hI88 (by omega)
                · refine zt_aload_n (pc' := 67) hX dX7_fewest_66 rfl rfl ?_
                  refine zt_get (pc' := 70) (v := .ref (X.1.1 + 148)) hX dX7_fewest_67 rfl zf_X7_9 (by decide) zc_147 zs_29 (zrf_of (zv_29_0 hI88 zc_147)) ?_
                  refine zt_iload (pc' := 72) hX dX7_fewest_70 rfl rfl ?_
                  refine zt_aload_n (pc' := 73) hX dX7_fewest_72 rfl rfl ?_
                  refine zt_get (pc' := 76) (v := .ref (X.1.1 + 148)) hX dX7_fewest_73 rfl zf_X7_9 (by decide) zc_147 zs_29 (zrf_of (zv_29_0 hI88 zc_147)) ?_
                  refine zt_iload (pc' := 78) hX dX7_fewest_76 rfl rfl ?_
                  refine zt_zald (pc' := 79) hX dX7_fewest_78 rfl (by decide) zc_148 zs_30 (by decide) ⟨by omega, by omega⟩ ?_
                  generalize hv95 : s87 148 (x84.toNat) = v95
                  have bv95 : 0 ≤ v95 ∧ v95 ≤ 1 := hv95 ▸ zv_30 hI88 zc_148 _
                  have J_98_98 : ∀ (y96 : Int), 0 ≤ y96 → y96 ≤ 1 → zF X s87 98 [some (.ref (X.1.1 + 147)), some (.ref (X.1.1 + 153)), some (.int (zI x8)), some (.int (zI r61)), some (.int (zI x84))] [.int (zI y96), .int (zI x84), .ref (X.1.1 + 148)] := by
                    intro y96 h97 h98
                    refine zt_zast (pc' := 99) hX dX7_fewest_98 rfl (by decide) zc_148 zs_30 (by decide) ⟨by omega, by omega⟩ ⟨by omega, by omega⟩ ?_
                    generalize hs101 : zset s87 148 (x84.toNat) y96 = s100
                    have hI102 : zInv s100 := hs101 ▸ zp_30 hI88 zc_148 (x84.toNat) ⟨by omega, by omega⟩
                    have hF103 : zFE σ s100 := hs101 ▸ zFE_set hF89 zc_148 (by decide) zke_30 (Or.inl (by decide)) (Or.inl (by decide))
                    refine zt_iinc (pc' := 102) (lv' := [some (.ref (X.1.1 + 147)), some (.ref (X.1.1 + 153)), some (.int (zI x8)), some (.int (zI r61)), some (.int (zI (x84 + 1)))]) hX dX7_fewest_99 rfl rfl hL (by decide) rfl ?_
                    refine zt_goto (tgt := 57) hX dX7_fewest_102 (by decide) ?_
                    exact ih92 (x84 + 1) s100 (by omega) (by omega) hI102 (by omega) (by omega)
                  have J_97_103 : zF X s87 97 [some (.ref (X.1.1 + 147)), some (.ref (X.1.1 + 153)), some (.int (zI x8)), some (.int (zI r61)), some (.int (zI x84))] [.int (zI x84), .ref (X.1.1 + 148)] := by
                    refine zt_iconst (pc' := 98) hX dX7_fewest_97 rfl ?_
                    exact J_98_98 0 (by omega) (by omega)
                  refine zt_ifeq (pc' := 82) (tgt := 97) hX dX7_fewest_79 rfl (by decide) ⟨by omega, by omega⟩ (fun c105 => ?_) (fun c105 => ?_)
                  · exact J_97_103
                  · refine zt_aload_n (pc' := 83) hX dX7_fewest_82 rfl rfl ?_
                    refine zt_get (pc' := 86) (v := .ref (X.1.1 + 149)) hX dX7_fewest_83 rfl zf_X7_15 (by decide) zc_147 zs_29 (zrf_of (zv_29_1 hI88 zc_147)) ?_
                    refine zt_iload (pc' := 88) hX dX7_fewest_86 rfl rfl ?_
                    refine zt_iald (pc' := 89) hX dX7_fewest_88 rfl (by decide) zc_149 zs_31 (by decide) ⟨by omega, by omega⟩ ?_
                    generalize hv106 : s87 149 (x84.toNat) = v106
                    have bv106 : -2147483648 ≤ v106 ∧ v106 ≤ 2147483647 := hv106 ▸ zv_31 hI88 zc_149 _
                    refine zt_iload_n (pc' := 90) hX dX7_fewest_89 rfl rfl ?_
                    refine zt_iclt (pc' := 93) (tgt := 97) hX dX7_fewest_90 rfl (by decide) ⟨by omega, by omega⟩ ⟨by omega, by omega⟩ (fun c107 => ?_) (fun c107 => ?_)
                    · exact J_97_103
                    · refine zt_iconst (pc' := 94) hX dX7_fewest_93 rfl ?_
                      refine zt_goto (tgt := 98) hX dX7_fewest_94 (by decide) ?_
                      exact J_98_98 1 (by omega) (by omega)
            exact L_57_89 _ 0 s78 (by omega) (by omega) hI81 (by omega) (Nat.lt_succ_self _)
  exact L_7_13 _ 0 s2 (by omega) (by omega) hI5 (by omega) (Nat.lt_succ_self _)

set_option maxRecDepth 100000 in
set_option maxHeartbeats 4000000 in
theorem zc_X7_mostAlike (l : Launch) (E : zEN) (σ : zSto) (hI : zInv σ) (a2_ : Int) (ha2_ : 0 ≤ a2_ ∧ a2_ ≤ 35) : zCt l E yX7_mostAlike cX7_mostAlike 6 (some .int) 1 zNC zNC 0 0 σ [.ref (E.1 + 147), .ref (E.1 + 153), .int (zI a2_)] (fun r σ' => zInv σ' ∧ zFE σ σ' ∧ -2147483648 ≤ r ∧ r ≤ 2147483647) := by
  refine zCt_of2 [some (.ref (E.1 + 147)), some (.ref (E.1 + 153)), some (.int (zI a2_)), none, none, none] (by decide +kernel) (Nat.le_of_ble_eq_true rfl) rfl ?_
  intro X hE hX hR hL hN
  subst hE
  have hX : zok X cX7_mostAlike RX7 1 := hX
  have hF := zFE_rf σ
  refine zt_iconst (pc' := 1) hX dX7_mostAlike_0 rfl ?_
  refine zt_istore_n (pc' := 2) (lv' := [some (.ref (X.1.1 + 147)), some (.ref (X.1.1 + 153)), some (.int (zI a2_)), some (.int (zI 0)), none, none]) hX dX7_mostAlike_1 rfl hL (by decide) rfl ?_
  have L_2_6 : ∀ (N : Nat) (x1 : Int) (s4 : zSto), 0 ≤ x1 → x1 ≤ 991 → zInv s4 → zFE σ s4 → ((992 - x1).toNat) < N → zF X s4 2 [some (.ref (X.1.1 + 147)), some (.ref (X.1.1 + 153)), some (.int (zI a2_)), some (.int (zI x1)), none, none] [] := by
    intro N
    induction N with
    | zero =>
      intro x1 s4 h2 h3 hI5 hF6 hm8
      exact absurd hm8 (Nat.not_lt_zero _)
    | succ N ih9 =>
      intro x1 s4 h2 h3 hI5 hF6 hm8
      refine zt_iload_n (pc' := 3) hX dX7_mostAlike_2 rfl rfl ?_
      refine zt_sipush (pc' := 6) hX dX7_mostAlike_3 rfl (by decide) (by decide) ?_
      refine zt_icgt (pc' := 9) (tgt := 22) hX dX7_mostAlike_6 rfl (by decide) ⟨by omega, by omega⟩ ⟨by omega, by omega⟩ (fun c10 => ?_) (fun c10 => ?_)
      · refine zt_aload_n (pc' := 23) hX dX7_mostAlike_22 rfl rfl ?_
        refine zt_aload_n (pc' := 24) hX dX7_mostAlike_23 rfl rfl ?_
        refine zt_iload_n (pc' := 25) hX dX7_mostAlike_24 rfl rfl ?_
        refine zt_cVv (pc' := 28) hX dX7_mostAlike_25 rfl zm_yX7_measureLifted zw_53_17 zc_147 (by decide) zs_29 (q := (RX7, TX7, 7)) rfl rfl (zc_X7_measureLifted _ _ s4 hI5 a2_ ⟨by omega, by omega⟩) rfl rfl (Nat.le_of_ble_eq_true rfl) (by decide) (fun r11 s12 hr13 hp14 => ?_)
        obtain ⟨hI15, hF16⟩ := hp14
        have hF17 := zFE_tr hF6 hF16
        refine zt_iconst (pc' := 29) hX dX7_mostAlike_28 rfl ?_
        refine zt_istore_n (pc' := 30) (lv' := [some (.ref (X.1.1 + 147)), some (.ref (X.1.1 + 153)), some (.int (zI a2_)), some (.int (zI 0)), none, none]) hX dX7_mostAlike_29 rfl hL (by decide) rfl ?_
        refine zt_iconst (pc' := 31) hX dX7_mostAlike_30 rfl ?_
        refine zt_istore (pc' := 33) (lv' := [some (.ref (X.1.1 + 147)), some (.ref (X.1.1 + 153)), some (.int (zI a2_)), some (.int (zI 0)), some (.int (zI 0)), none]) hX dX7_mostAlike_31 rfl hL (by decide) rfl ?_
        have L_33_26 : ∀ (N : Nat) (x18 : Int) (x21 : Int) (s24 : zSto), 0 ≤ x18 → x18 ≤ 2147483647 → 0 ≤ x21 → x21 ≤ 1024 → zInv s24 → zFE σ s24 → ((1025 - x21).toNat) < N → zF X s24 33 [some (.ref (X.1.1 + 147)), none, none, some (.int (zI x18)), some (.int (zI x21)), none] [] := by
          intro N
          induction N with
          | zero =>
            intro x18 x21 s24 h19 h20 h22 h23 hI25 hF26 hm28
            exact absurd hm28 (Nat.not_lt_zero _)
          | succ N ih29 =>
            intro x18 x21 s24 h19 h20 h22 h23 hI25 hF26 hm28
            refine zt_iload (pc' := 35) hX dX7_mostAlike_33 rfl rfl ?_
            refine zt_aload_n (pc' := 36) hX dX7_mostAlike_35 rfl rfl ?_
            have b30 := zv_29_6 hI25 zc_147
            refine zt_get (pc' := 39) (v := .int (zI (s24 147 6))) hX dX7_mostAlike_36 rfl zf_X7_32 (by decide) zc_147 zs_29 rfl ?_
            refine zt_icge (pc' := 42) (tgt := 103) hX dX7_mostAlike_39 rfl (by decide) ⟨by omega, by omega⟩ ⟨by omega, by omega⟩ (fun c31 => ?_) (fun c31 => ?_)
            · refine zt_iload_n (pc' := 104) hX dX7_mostAlike_103 rfl rfl ?_
              exact zt_iret hX hR dX7_mostAlike_104 ⟨by omega, by omega⟩ ⟨hI25, hF26, by omega, by omega⟩
            · refine zt_aload_n (pc' := 43) hX dX7_mostAlike_42 rfl rfl ?_
              refine zt_get (pc' := 46) (v := .ref (X.1.1 + 149)) hX dX7_mostAlike_43 rfl zf_X7_15 (by decide) zc_147 zs_29 (zrf_of (zv_29_1 hI25 zc_147)) ?_
              refine zt_iload (pc' := 48) hX dX7_mostAlike_46 rfl rfl ?_
              refine zt_iald (pc' := 49) hX dX7_mostAlike_48 rfl (by decide) zc_149 zs_31 (by decide) ⟨by omega, by omega⟩ ?_
              generalize hv32 : s24 149 (x21.toNat) = v32
              have bv32 : -2147483648 ≤ v32 ∧ v32 ≤ 2147483647 := hv32 ▸ zv_31 hI25 zc_149 _
              refine zt_istore (pc' := 51) (lv' := [some (.ref (X.1.1 + 147)), none, none, some (.int (zI x18)), some (.int (zI x21)), some (.int (zI v32))]) hX dX7_mostAlike_49 rfl hL (by decide) rfl ?_
              refine zt_aload_n (pc' := 52) hX dX7_mostAlike_51 rfl rfl ?_
              refine zt_get (pc' := 55) (v := .ref (X.1.1 + 148)) hX dX7_mostAlike_52 rfl zf_X7_9 (by decide) zc_147 zs_29 (zrf_of (zv_29_0 hI25 zc_147)) ?_
              refine zt_iload (pc' := 57) hX dX7_mostAlike_55 rfl rfl ?_
              refine zt_zald (pc' := 58) hX dX7_mostAlike_57 rfl (by decide) zc_148 zs_30 (by decide) ⟨by omega, by omega⟩ ?_
              generalize hv33 : s24 148 (x21.toNat) = v33
              have bv33 : 0 ≤ v33 ∧ v33 ≤ 1 := hv33 ▸ zv_30 hI25 zc_148 _
              have J_97_39 : ∀ (x34 : Int) (s37 : zSto), 0 ≤ x34 → x34 ≤ 2147483647 → zInv s37 → zFE σ s37 → zF X s37 97 [some (.ref (X.1.1 + 147)), none, none, some (.int (zI x34)), some (.int (zI x21)), none] [] := by
                intro x34 s37 h35 h36 hI38 hF39
                refine zt_iinc (pc' := 100) (lv' := [some (.ref (X.1.1 + 147)), none, none, some (.int (zI x34)), some (.int (zI (x21 + 1))), none]) hX dX7_mostAlike_97 rfl rfl hL (by decide) rfl ?_
                refine zt_goto (tgt := 33) hX dX7_mostAlike_100 (by decide) ?_
                exact ih29 x34 (x21 + 1) s37 (by omega) (by omega) (by omega) (by omega) hI38 (by omega) (by omega)
              refine zt_ifeq (pc' := 61) (tgt := 97) hX dX7_mostAlike_58 rfl (by decide) ⟨by omega, by omega⟩ (fun c41 => ?_) (fun c41 => ?_)
              · refine zt_mask [true, false, false, true, true, false] rfl ?_
                exact J_97_39 x18 s24 (by omega) (by omega) hI25 (by omega)
              · refine zt_iload (pc' := 63) hX dX7_mostAlike_61 rfl rfl ?_
                refine zt_iflt (pc' := 66) (tgt := 97) hX dX7_mostAlike_63 rfl (by decide) ⟨by omega, by omega⟩ (fun c42 => ?_) (fun c42 => ?_)
                · refine zt_mask [true, false, false, true, true, false] rfl ?_
                  exact J_97_39 x18 s24 (by omega) (by omega) hI25 (by omega)
                · refine zt_iload (pc' := 68) hX dX7_mostAlike_66 rfl rfl ?_
                  refine zt_sipush (pc' := 71) hX dX7_mostAlike_68 rfl (by decide) (by decide) ?_
                  refine zt_icgt (pc' := 74) (tgt := 97) hX dX7_mostAlike_71 rfl (by decide) ⟨by omega, by omega⟩ ⟨by omega, by omega⟩ (fun c43 => ?_) (fun c43 => ?_)
                  · refine zt_mask [true, false, false, true, true, false] rfl ?_
                    exact J_97_39 x18 s24 (by omega) (by omega) hI25 (by omega)
                  · refine zt_aload_n (pc' := 75) hX dX7_mostAlike_74 rfl rfl ?_
                    refine zt_get (pc' := 78) (v := .ref (X.1.1 + 150)) hX dX7_mostAlike_75 rfl zf_X7_19 (by decide) zc_147 zs_29 (zrf_of (zv_29_2 hI25 zc_147)) ?_
                    refine zt_iload (pc' := 80) hX dX7_mostAlike_78 rfl rfl ?_
                    refine zt_dup2 (pc' := 81) hX dX7_mostAlike_80 rfl rfl rfl ?_
                    refine zt_iald (pc' := 82) hX dX7_mostAlike_81 rfl (by decide) zc_150 zs_32 (by decide) ⟨by omega, by omega⟩ ?_
                    generalize hv44 : s24 150 (v32.toNat) = v44
                    have bv44 : -2147483648 ≤ v44 ∧ v44 ≤ 2147483647 := hv44 ▸ zv_32 hI25 zc_150 _
                    refine zt_iconst (pc' := 83) hX dX7_mostAlike_82 rfl ?_
                    refine zt_iadd (pc' := 84) hX dX7_mostAlike_83 rfl ?_
                    refine zt_wrap (fun r45 zr45 lr45 ur45 => ?_)
                    clear zr45
                    refine zt_iast (pc' := 85) hX dX7_mostAlike_84 rfl (by decide) zc_150 zs_32 (by decide) ⟨by omega, by omega⟩ ?_
                    generalize hs47 : zset s24 150 (v32.toNat) r45 = s46
                    have hI48 : zInv s46 := hs47 ▸ zp_32 hI25 zc_150 (v32.toNat) ⟨by omega, by omega⟩
                    have hF49 : zFE σ s46 := hs47 ▸ zFE_set hF26 zc_150 (by decide) zke_32 (Or.inl (by decide)) (Or.inl (by decide))
                    refine zt_iload_n (pc' := 86) hX dX7_mostAlike_85 rfl rfl ?_
                    refine zt_aload_n (pc' := 87) hX dX7_mostAlike_86 rfl rfl ?_
                    refine zt_get (pc' := 90) (v := .ref (X.1.1 + 150)) hX dX7_mostAlike_87 rfl zf_X7_19 (by decide) zc_147 zs_29 (zrf_of (zv_29_2 hI48 zc_147)) ?_
                    refine zt_iload (pc' := 92) hX dX7_mostAlike_90 rfl rfl ?_
                    refine zt_iald (pc' := 93) hX dX7_mostAlike_92 rfl (by decide) zc_150 zs_32 (by decide) ⟨by omega, by omega⟩ ?_
                    generalize hv50 : s46 150 (v32.toNat) = v50
                    have bv50 : -2147483648 ≤ v50 ∧ v50 ≤ 2147483647 := hv50 ▸ zv_32 hI48 zc_150 _
                    refine zt_mmax (pc' := 96) hX (by decide) dX7_mostAlike_93 rfl zw_59_12 zw_35_13 zw_34_21 zw_35_14 (Nat.le_of_ble_eq_true rfl) ⟨Nat.zero_le _, Nat.zero_le _⟩ ⟨by omega, by omega⟩ ⟨by omega, by omega⟩ (fun r51 er51 => ?_)
                    refine zt_istore_n (pc' := 97) (lv' := [some (.ref (X.1.1 + 147)), none, none, some (.int (zI r51)), some (.int (zI x21)), some (.int (zI v32))]) hX dX7_mostAlike_96 rfl hL (by decide) rfl ?_
                    refine zt_mask [true, false, false, true, true, false] rfl ?_
                    exact J_97_39 r51 s46 (by omega) (by omega) hI48 (by omega)
        refine zt_mask [true, false, false, true, true, false] rfl ?_
        exact L_33_26 _ 0 0 s12 (by omega) (by omega) (by omega) (by omega) hI15 (by omega) (Nat.lt_succ_self _)
      · refine zt_aload_n (pc' := 10) hX dX7_mostAlike_9 rfl rfl ?_
        refine zt_get (pc' := 13) (v := .ref (X.1.1 + 150)) hX dX7_mostAlike_10 rfl zf_X7_19 (by decide) zc_147 zs_29 (zrf_of (zv_29_2 hI5 zc_147)) ?_
        refine zt_iload_n (pc' := 14) hX dX7_mostAlike_13 rfl rfl ?_
        refine zt_iconst (pc' := 15) hX dX7_mostAlike_14 rfl ?_
        refine zt_iast (pc' := 16) hX dX7_mostAlike_15 rfl (by decide) zc_150 zs_32 (by decide) ⟨by omega, by omega⟩ ?_
        generalize hs53 : zset s4 150 (x1.toNat) 0 = s52
        have hI54 : zInv s52 := hs53 ▸ zp_32 hI5 zc_150 (x1.toNat) ⟨by omega, by omega⟩
        have hF55 : zFE σ s52 := hs53 ▸ zFE_set hF6 zc_150 (by decide) zke_32 (Or.inl (by decide)) (Or.inl (by decide))
        refine zt_iinc (pc' := 19) (lv' := [some (.ref (X.1.1 + 147)), some (.ref (X.1.1 + 153)), some (.int (zI a2_)), some (.int (zI (x1 + 1))), none, none]) hX dX7_mostAlike_16 rfl rfl hL (by decide) rfl ?_
        refine zt_goto (tgt := 2) hX dX7_mostAlike_19 (by decide) ?_
        exact ih9 (x1 + 1) s52 (by omega) (by omega) hI54 (by omega) (by omega)
  exact L_2_6 _ 0 σ (by omega) (by omega) hI (by omega) (Nat.lt_succ_self _)

set_option maxRecDepth 100000 in
set_option maxHeartbeats 4000000 in
theorem zc_X7_bestKnock (l : Launch) (E : zEN) (σ : zSto) (hI : zInv σ)  : zCt l E yX7_bestKnock cX7_bestKnock 5 (some .int) 2 zNC zNC 0 0 σ [.ref (E.1 + 147), .ref (E.1 + 153)] (fun r σ' => zInv σ' ∧ zFE σ σ' ∧ -2147483648 ≤ r ∧ r ≤ 2147483647) := by
  refine zCt_of2 [some (.ref (E.1 + 147)), some (.ref (E.1 + 153)), none, none, none] (by decide +kernel) (Nat.le_of_ble_eq_true rfl) rfl ?_
  intro X hE hX hR hL hN
  subst hE
  have hX : zok X cX7_bestKnock RX7 2 := hX
  have hF := zFE_rf σ
  refine zt_aload_n (pc' := 1) hX dX7_bestKnock_0 rfl rfl ?_
  refine zt_cVi (pc' := 4) hX dX7_bestKnock_1 rfl zm_yX7_howMany zw_59_7 zc_147 (by decide) zs_29 (q := (RX7, TX7, 7)) rfl rfl (zc_X7_howMany _ _ σ hI ) rfl rfl (Nat.le_of_ble_eq_true rfl) (by decide) (fun r1 s2 hr3 hp4 => ?_)
  obtain ⟨rfl, q5, q6⟩ := hp4
  refine zt_ifne (pc' := 7) (tgt := 9) hX dX7_bestKnock_4 rfl (by decide) ⟨by omega, by omega⟩ (fun c7 => ?_) (fun c7 => ?_)
  · refine zt_iconst (pc' := 10) hX dX7_bestKnock_9 rfl ?_
    refine zt_istore_n (pc' := 11) (lv' := [some (.ref (X.1.1 + 147)), some (.ref (X.1.1 + 153)), some (.int (zI (-1))), none, none]) hX dX7_bestKnock_10 rfl hL (by decide) rfl ?_
    refine zt_iconst (pc' := 12) hX dX7_bestKnock_11 rfl ?_
    refine zt_istore_n (pc' := 13) (lv' := [some (.ref (X.1.1 + 147)), some (.ref (X.1.1 + 153)), some (.int (zI (-1))), some (.int (zI 0)), none]) hX dX7_bestKnock_12 rfl hL (by decide) rfl ?_
    have L_13_16 : ∀ (N : Nat) (x8 : Int) (x11 : Int) (s14 : zSto), -2147483648 ≤ x8 → x8 ≤ 2147483647 → 0 ≤ x11 → x11 ≤ 36 → zInv s14 → zFE σ s14 → ((37 - x11).toNat) < N → zF X s14 13 [some (.ref (X.1.1 + 147)), some (.ref (X.1.1 + 153)), some (.int (zI x8)), some (.int (zI x11)), none] [] := by
      intro N
      induction N with
      | zero =>
        intro x8 x11 s14 h9 h10 h12 h13 hI15 hF16 hm18
        exact absurd hm18 (Nat.not_lt_zero _)
      | succ N ih19 =>
        intro x8 x11 s14 h9 h10 h12 h13 hI15 hF16 hm18
        refine zt_iload_n (pc' := 14) hX dX7_bestKnock_13 rfl rfl ?_
        refine zt_aload_n (pc' := 15) hX dX7_bestKnock_14 rfl rfl ?_
        obtain ⟨k20, ek21, hk22⟩ := zv_35_6 hI15 zc_153
        refine zt_get (pc' := 18) (v := .ref (X.1.1 + k20)) hX dX7_bestKnock_15 rfl zf_X7_57 (by decide) zc_153 zs_35 (zrf_of ek21) ?_
        refine zt_cVi (pc' := 21) hX dX7_bestKnock_18 rfl zm_yX3_cells zw_53_15 hk22 (by decide) zs_8 (q := (RX3, TX3, 17)) rfl rfl (zc_X3_cells _ _ s14 hI15 k20 hk22) rfl rfl (Nat.le_of_ble_eq_true rfl) (by decide) (fun r23 s24 hr25 hp26 => ?_)
        obtain ⟨rfl, q27, q28⟩ := hp26
        refine zt_icge (pc' := 24) (tgt := 70) hX dX7_bestKnock_21 rfl (by decide) ⟨by omega, by omega⟩ ⟨by omega, by omega⟩ (fun c29 => ?_) (fun c29 => ?_)
        · refine zt_iload_n (pc' := 71) hX dX7_bestKnock_70 rfl rfl ?_
          exact zt_iret hX hR dX7_bestKnock_71 ⟨by omega, by omega⟩ ⟨hI15, hF16, by omega, by omega⟩
        · refine zt_aload_n (pc' := 25) hX dX7_bestKnock_24 rfl rfl ?_
          obtain ⟨k30, ek31, hk32⟩ := zv_35_7 hI15 zc_153
          refine zt_get (pc' := 28) (v := .ref (X.1.1 + k30)) hX dX7_bestKnock_25 rfl zf_X7_71 (by decide) zc_153 zs_35 (zrf_of ek31) ?_
          refine zt_iload_n (pc' := 29) hX dX7_bestKnock_28 rfl rfl ?_
          refine zt_cVz (pc' := 32) hX dX7_bestKnock_29 rfl zm_yX10_isCracked zw_53_16 hk32 (by decide) zs_22 (q := (RX10, TX10, 8)) rfl rfl (zc_X10_isCracked _ _ s14 hI15 k30 hk32 x11 ⟨by omega, by omega⟩) rfl rfl (Nat.le_of_ble_eq_true rfl) (by decide) (fun r33 s34 hr35 hp36 => ?_)
          obtain ⟨rfl, q37, q38⟩ := hp36
          have J_64_44 : ∀ (x39 : Int) (s42 : zSto), -2147483648 ≤ x39 → x39 ≤ 2147483647 → zInv s42 → zFE σ s42 → zF X s42 64 [some (.ref (X.1.1 + 147)), some (.ref (X.1.1 + 153)), some (.int (zI x39)), some (.int (zI x11)), none] [] := by
            intro x39 s42 h40 h41 hI43 hF44
            refine zt_iinc (pc' := 67) (lv' := [some (.ref (X.1.1 + 147)), some (.ref (X.1.1 + 153)), some (.int (zI x39)), some (.int (zI (x11 + 1))), none]) hX dX7_bestKnock_64 rfl rfl hL (by decide) rfl ?_
            refine zt_goto (tgt := 13) hX dX7_bestKnock_67 (by decide) ?_
            exact ih19 x39 (x11 + 1) s42 (by omega) (by omega) (by omega) (by omega) hI43 (by omega) (by omega)
          refine zt_ifne (pc' := 35) (tgt := 64) hX dX7_bestKnock_32 rfl (by decide) ⟨by omega, by omega⟩ (fun c46 => ?_) (fun c46 => ?_)
          · exact J_64_44 x8 s14 (by omega) (by omega) hI15 (by omega)
          · refine zt_iload_n (pc' := 36) hX dX7_bestKnock_35 rfl rfl ?_
            refine zt_aload_n (pc' := 37) hX dX7_bestKnock_36 rfl rfl ?_
            refine zt_aload_n (pc' := 38) hX dX7_bestKnock_37 rfl rfl ?_
            refine zt_iload_n (pc' := 39) hX dX7_bestKnock_38 rfl rfl ?_
            refine zt_cVi (pc' := 42) hX dX7_bestKnock_39 rfl zm_yX7_mostAlike zw_59_8 zc_147 (by decide) zs_29 (q := (RX7, TX7, 7)) rfl rfl (zc_X7_mostAlike _ _ s14 hI15 x11 ⟨by omega, by omega⟩) rfl rfl (Nat.le_of_ble_eq_true rfl) (by decide) (fun r47 s48 hr49 hp50 => ?_)
            obtain ⟨hI51, hF52, q53, q54⟩ := hp50
            have hF55 := zFE_tr hF16 hF52
            refine zt_cSNi (pc' := 45) hX dX7_bestKnock_42 rfl zm_yX11_packed (by decide +kernel) (zc_X11_packed _ _ s48  x11 ⟨by omega, by omega⟩ r47 ⟨by omega, by omega⟩) rfl rfl (Nat.le_of_ble_eq_true rfl) (by decide) (fun r56 s57 hr58 hp59 => ?_)
            obtain ⟨rfl, q60, q61⟩ := hp59
            refine zt_istore (pc' := 47) (lv' := [some (.ref (X.1.1 + 147)), some (.ref (X.1.1 + 153)), some (.int (zI x8)), some (.int (zI x11)), some (.int (zI r56))]) hX dX7_bestKnock_45 rfl hL (by decide) rfl ?_
            refine zt_iload_n (pc' := 48) hX dX7_bestKnock_47 rfl rfl ?_
            refine zt_iconst (pc' := 49) hX dX7_bestKnock_48 rfl ?_
            have J_63_64 : ∀ (y62 : Int), -2147483648 ≤ y62 → y62 ≤ 2147483647 → zF X s48 63 [some (.ref (X.1.1 + 147)), some (.ref (X.1.1 + 153)), none, some (.int (zI x11)), none] [.int (zI y62)] := by
              intro y62 h63 h64
              refine zt_istore_n (pc' := 64) (lv' := [some (.ref (X.1.1 + 147)), some (.ref (X.1.1 + 153)), some (.int (zI y62)), some (.int (zI x11)), none]) hX dX7_bestKnock_63 rfl hL (by decide) rfl ?_
              exact J_64_44 y62 s48 (by omega) (by omega) hI51 (by omega)
            refine zt_icne (pc' := 52) (tgt := 57) hX dX7_bestKnock_49 rfl (by decide) ⟨by omega, by omega⟩ ⟨by omega, by omega⟩ (fun c66 => ?_) (fun c66 => ?_)
            · refine zt_iload_n (pc' := 58) hX dX7_bestKnock_57 rfl rfl ?_
              refine zt_iload (pc' := 60) hX dX7_bestKnock_58 rfl rfl ?_
              refine zt_mmin (pc' := 63) hX (by decide) dX7_bestKnock_60 rfl zw_53_13 zw_36_23 zw_34_21 zw_37_0 (Nat.le_of_ble_eq_true rfl) ⟨Nat.zero_le _, Nat.zero_le _⟩ ⟨by omega, by omega⟩ ⟨by omega, by omega⟩ (fun r67 er67 => ?_)
              refine zt_mask [true, true, false, true, false] rfl ?_
              exact J_63_64 r67 (by omega) (by omega)
            · refine zt_iload (pc' := 54) hX dX7_bestKnock_52 rfl rfl ?_
              refine zt_goto (tgt := 63) hX dX7_bestKnock_54 (by decide) ?_
              refine zt_mask [true, true, false, true, false] rfl ?_
              exact J_63_64 r56 (by omega) (by omega)
    exact L_13_16 _ (-1) 0 σ (by omega) (by omega) (by omega) (by omega) hI (by omega) (Nat.lt_succ_self _)
  · refine zt_iconst (pc' := 8) hX dX7_bestKnock_7 rfl ?_
    exact zt_iret hX hR dX7_bestKnock_8 ⟨by omega, by omega⟩ ⟨hI, hF, by omega, by omega⟩

set_option maxRecDepth 100000 in
set_option maxHeartbeats 4000000 in
theorem zc_X11_refusal (l : Launch) (E : zEN) (σ : zSto) (hI : zInv σ) (a1_ : Int) (ha1_ : 0 ≤ a1_ ∧ a1_ ≤ 5) : zCt l E yX11_refusal cX11_refusal 2 (some .int) 0 zNC zNC 0 0 σ [.ref (E.1 + 0), .int (zI a1_)] (fun r σ' => zInv σ' ∧ zFE σ σ' ∧ -1 ≤ r ∧ r ≤ -1) := by
  refine zCt_of2 [some (.ref (E.1 + 0)), some (.int (zI a1_))] (by decide +kernel) (Nat.le_of_ble_eq_true rfl) rfl ?_
  intro X hE hX hR hL hN
  subst hE
  have hX : zok X cX11_refusal RX11 0 := hX
  have hF := zFE_rf σ
  refine zt_aload_n (pc' := 1) hX dX11_refusal_0 rfl rfl ?_
  refine zt_get (pc' := 4) (v := .ref (X.1.1 + 163)) hX dX11_refusal_1 rfl zf_X11_96 (by decide) zc_0 zs_1 (zrf_of (zv_1_13 hI zc_0)) ?_
  refine zt_iload_n (pc' := 5) hX dX11_refusal_4 rfl rfl ?_
  refine zt_dup2 (pc' := 6) hX dX11_refusal_5 rfl rfl rfl ?_
  refine zt_iald (pc' := 7) hX dX11_refusal_6 rfl (by decide) zc_163 zs_45 (by decide) ⟨by omega, by omega⟩ ?_
  generalize hv1 : σ 163 (a1_.toNat) = v1
  have bv1 : -2147483648 ≤ v1 ∧ v1 ≤ 2147483647 := hv1 ▸ zv_45 hI zc_163 _
  refine zt_iconst (pc' := 8) hX dX11_refusal_7 rfl ?_
  refine zt_iadd (pc' := 9) hX dX11_refusal_8 rfl ?_
  refine zt_wrap (fun r2 zr2 lr2 ur2 => ?_)
  clear zr2
  refine zt_iast (pc' := 10) hX dX11_refusal_9 rfl (by decide) zc_163 zs_45 (by decide) ⟨by omega, by omega⟩ ?_
  generalize hs4 : zset σ 163 (a1_.toNat) r2 = s3
  have hI5 : zInv s3 := hs4 ▸ zp_45 hI zc_163 (a1_.toNat) ⟨by omega, by omega⟩
  have hF6 : zFE σ s3 := hs4 ▸ zFE_set hF zc_163 (by decide) zke_45 (Or.inl (by decide)) (Or.inl (by decide))
  refine zt_iconst (pc' := 11) hX dX11_refusal_10 rfl ?_
  exact zt_iret hX hR dX11_refusal_11 ⟨by omega, by omega⟩ ⟨hI5, hF6, by omega, by omega⟩

set_option maxRecDepth 100000 in
set_option maxHeartbeats 4000000 in
theorem zc_X11_denial (l : Launch) (E : zEN) (σ : zSto) (hI : zInv σ) (a1_ : Int) (ha1_ : 0 ≤ a1_ ∧ a1_ ≤ 5) : zCt l E yX11_denial cX11_denial 2 (some .boolean) 0 zNC zNC 0 0 σ [.ref (E.1 + 0), .int (zI a1_)] (fun r σ' => zInv σ' ∧ zFE σ σ' ∧ 0 ≤ r ∧ r ≤ 0) := by
  refine zCt_of2 [some (.ref (E.1 + 0)), some (.int (zI a1_))] (by decide +kernel) (Nat.le_of_ble_eq_true rfl) rfl ?_
  intro X hE hX hR hL hN
  subst hE
  have hX : zok X cX11_denial RX11 0 := hX
  have hF := zFE_rf σ
  refine zt_aload_n (pc' := 1) hX dX11_denial_0 rfl rfl ?_
  refine zt_get (pc' := 4) (v := .ref (X.1.1 + 163)) hX dX11_denial_1 rfl zf_X11_96 (by decide) zc_0 zs_1 (zrf_of (zv_1_13 hI zc_0)) ?_
  refine zt_iload_n (pc' := 5) hX dX11_denial_4 rfl rfl ?_
  refine zt_dup2 (pc' := 6) hX dX11_denial_5 rfl rfl rfl ?_
  refine zt_iald (pc' := 7) hX dX11_denial_6 rfl (by decide) zc_163 zs_45 (by decide) ⟨by omega, by omega⟩ ?_
  generalize hv1 : σ 163 (a1_.toNat) = v1
  have bv1 : -2147483648 ≤ v1 ∧ v1 ≤ 2147483647 := hv1 ▸ zv_45 hI zc_163 _
  refine zt_iconst (pc' := 8) hX dX11_denial_7 rfl ?_
  refine zt_iadd (pc' := 9) hX dX11_denial_8 rfl ?_
  refine zt_wrap (fun r2 zr2 lr2 ur2 => ?_)
  clear zr2
  refine zt_iast (pc' := 10) hX dX11_denial_9 rfl (by decide) zc_163 zs_45 (by decide) ⟨by omega, by omega⟩ ?_
  generalize hs4 : zset σ 163 (a1_.toNat) r2 = s3
  have hI5 : zInv s3 := hs4 ▸ zp_45 hI zc_163 (a1_.toNat) ⟨by omega, by omega⟩
  have hF6 : zFE σ s3 := hs4 ▸ zFE_set hF zc_163 (by decide) zke_45 (Or.inl (by decide)) (Or.inl (by decide))
  refine zt_iconst (pc' := 11) hX dX11_denial_10 rfl ?_
  exact zt_zret hX hR dX11_denial_11 ⟨by omega, by omega⟩ ⟨hI5, hF6, by omega, by omega⟩

set_option maxRecDepth 100000 in
set_option maxHeartbeats 4000000 in
theorem zc_X11_rememberFault (l : Launch) (E : zEN) (σ : zSto) (hI : zInv σ)  : zCt l E yX11_rememberFault cX11_rememberFault 1 none 0 zNC zNC 0 0 σ [.ref (E.1 + 0)] (fun r σ' => zInv σ' ∧ zFA σ σ') := by
  refine zCt_of2 [some (.ref (E.1 + 0))] (by decide +kernel) (Nat.le_of_ble_eq_true rfl) rfl ?_
  intro X hE hX hR hL hN
  subst hE
  have hX : zok X cX11_rememberFault RX11 0 := hX
  have hF := zFA_rf σ
  refine zt_aload_n (pc' := 1) hX dX11_rememberFault_0 rfl rfl ?_
  refine zt_aload_n (pc' := 2) hX dX11_rememberFault_1 rfl rfl ?_
  refine zt_get (pc' := 5) (v := .ref (X.1.1 + 27)) hX dX11_rememberFault_2 rfl zf_X11_41 (by decide) zc_0 zs_1 (zrf_of (zv_1_5 hI zc_0)) ?_
  have b1 := zv_14_7 hI zc_27
  refine zt_get (pc' := 8) (v := .int (zI (σ 27 7))) hX dX11_rememberFault_5 rfl zf_X11_369 (by decide) zc_27 zs_14 rfl ?_
  refine zt_put (pc' := 11) (x := (σ 27 7)) hX dX11_rememberFault_8 rfl zf_X11_104 (by decide) zc_0 zs_1 (fun q hq => by cases hq; rfl) rfl rfl rfl ?_
  generalize hs3 : zset σ 0 15 (σ 27 7) = s2
  have hI4 : zInv s2 := hs3 ▸ zp_1_15 hI zc_0 ⟨by omega, by omega⟩
  have hF5 : zFA σ s2 := hs3 ▸ zFA_set hF zc_0 (by decide) zk_1 (Or.inl (by decide))
  refine zt_aload_n (pc' := 12) hX dX11_rememberFault_11 rfl rfl ?_
  refine zt_aload_n (pc' := 13) hX dX11_rememberFault_12 rfl rfl ?_
  refine zt_get (pc' := 16) (v := .ref (X.1.1 + 27)) hX dX11_rememberFault_13 rfl zf_X11_41 (by decide) zc_0 zs_1 (zrf_of (zv_1_5 hI4 zc_0)) ?_
  have b6 := zv_14_8 hI4 zc_27
  have e7 : s2 27 8 = σ 27 8 := by rw [← hs3]; exact zset_k (zne_r zc_27 zc_0 (by decide))
  refine zt_get (pc' := 19) (v := .int (zI (s2 27 8))) hX dX11_rememberFault_16 rfl zf_X11_372 (by decide) zc_27 zs_14 rfl ?_
  refine zt_put (pc' := 22) (x := (s2 27 8)) hX dX11_rememberFault_19 rfl zf_X11_107 (by decide) zc_0 zs_1 (fun q hq => by cases hq; rfl) rfl rfl rfl ?_
  generalize hs9 : zset s2 0 16 (s2 27 8) = s8
  have hI10 : zInv s8 := hs9 ▸ zp_1_16 hI4 zc_0 ⟨by omega, by omega⟩
  have hF11 : zFA σ s8 := hs9 ▸ zFA_set hF5 zc_0 (by decide) zk_1 (Or.inl (by decide))
  exact zt_vret hX hR dX11_rememberFault_22 ⟨hI10, hF11⟩

set_option maxRecDepth 100000 in
set_option maxHeartbeats 4000000 in
theorem zc_X11_holdersNow (l : Launch) (E : zEN) (σ : zSto) (hI : zInv σ)  : zCt l E yX11_holdersNow cX11_holdersNow 1 (some .int) 4 zNC zNC 0 0 σ [.ref (E.1 + 0)] (fun r σ' => zInv σ' ∧ zFE σ σ' ∧ -2147483648 ≤ r ∧ r ≤ 2147483647) := by
  refine zCt_of2 [some (.ref (E.1 + 0))] (by decide +kernel) (Nat.le_of_ble_eq_true rfl) rfl ?_
  intro X hE hX hR hL hN
  subst hE
  have hX : zok X cX11_holdersNow RX11 4 := hX
  have hF := zFE_rf σ
  refine zt_aload_n (pc' := 1) hX dX11_holdersNow_0 rfl rfl ?_
  refine zt_get (pc' := 4) (v := .ref (X.1.1 + 153)) hX dX11_holdersNow_1 rfl zf_X11_92 (by decide) zc_0 zs_1 (zrf_of (zv_1_12 hI zc_0)) ?_
  refine zt_aload_n (pc' := 5) hX dX11_holdersNow_4 rfl rfl ?_
  obtain ⟨k1, ek2, hk3⟩ := zv_1_3 hI zc_0
  refine zt_get (pc' := 8) (v := .ref (X.1.1 + k1)) hX dX11_holdersNow_5 rfl zf_X11_31 (by decide) zc_0 zs_1 (zrf_of ek2) ?_
  refine zt_aload_n (pc' := 9) hX dX11_holdersNow_8 rfl rfl ?_
  refine zt_get (pc' := 12) (v := .ref (X.1.1 + 35)) hX dX11_holdersNow_9 rfl zf_X11_66 (by decide) zc_0 zs_1 (zrf_of (zv_1_8 hI zc_0)) ?_
  refine zt_iconst (pc' := 13) hX dX11_holdersNow_12 rfl ?_
  refine zt_cVv (pc' := 16) hX dX11_holdersNow_13 rfl zm_yX6_look zw_34_4 zc_153 (by decide) zs_35 (q := (RX6, TX6, 14)) rfl rfl (zc_X6_look _ _ σ hI k1 hk3 35 zc_35 0 ⟨by omega, by omega⟩) rfl rfl (Nat.le_of_ble_eq_true rfl) (by decide) (fun r4 s5 hr6 hp7 => ?_)
  obtain ⟨hI8, hF9⟩ := hp7
  have hF10 := zFE_tr hF hF9
  refine zt_aload_n (pc' := 17) hX dX11_holdersNow_16 rfl rfl ?_
  refine zt_get (pc' := 20) (v := .ref (X.1.1 + 153)) hX dX11_holdersNow_17 rfl zf_X11_92 (by decide) zc_0 zs_1 (zrf_of (zv_1_12 hI8 zc_0)) ?_
  refine zt_cVi (pc' := 23) hX dX11_holdersNow_20 rfl zm_yX6_holders zw_35_15 zc_153 (by decide) zs_35 (q := (RX6, TX6, 14)) rfl rfl (zc_X6_holders _ _ s5 hI8 ) rfl rfl (Nat.le_of_ble_eq_true rfl) (by decide) (fun r11 s12 hr13 hp14 => ?_)
  obtain ⟨hI15, hF16, q17, q18⟩ := hp14
  have hF19 := zFE_tr hF10 hF16
  exact zt_iret hX hR dX11_holdersNow_23 ⟨by omega, by omega⟩ ⟨hI15, hF19, by omega, by omega⟩

set_option maxRecDepth 100000 in
set_option maxHeartbeats 4000000 in
theorem zc_X11_balanceNow (l : Launch) (E : zEN) (σ : zSto) (hI : zInv σ)  : zCt l E yX11_balanceNow cX11_balanceNow 2 (some .int) 5 zNC zNC 0 0 σ [.ref (E.1 + 0)] (fun r σ' => zInv σ' ∧ zFE σ σ' ∧ -2147483648 ≤ r ∧ r ≤ 2147483647) := by
  refine zCt_of2 [some (.ref (E.1 + 0)), none] (by decide +kernel) (Nat.le_of_ble_eq_true rfl) rfl ?_
  intro X hE hX hR hL hN
  subst hE
  have hX : zok X cX11_balanceNow RX11 5 := hX
  have hF := zFE_rf σ
  refine zt_aload_n (pc' := 1) hX dX11_balanceNow_0 rfl rfl ?_
  refine zt_cVi (pc' := 4) hX dX11_balanceNow_1 rfl zm_yX11_holdersNow zw_34_0 zc_0 (by decide) zs_1 (q := (RX11, TX11, 17)) rfl rfl (zc_X11_holdersNow _ _ σ hI ) rfl rfl (Nat.le_of_ble_eq_true rfl) (by decide) (fun r1 s2 hr3 hp4 => ?_)
  obtain ⟨hI5, hF6, q7, q8⟩ := hp4
  have hF9 := zFE_tr hF hF6
  refine zt_istore_n (pc' := 5) (lv' := [some (.ref (X.1.1 + 0)), some (.int (zI r1))]) hX dX11_balanceNow_4 rfl hL (by decide) rfl ?_
  refine zt_aload_n (pc' := 6) hX dX11_balanceNow_5 rfl rfl ?_
  refine zt_get (pc' := 9) (v := .ref (X.1.1 + 153)) hX dX11_balanceNow_6 rfl zf_X11_92 (by decide) zc_0 zs_1 (zrf_of (zv_1_12 hI5 zc_0)) ?_
  refine zt_iload_n (pc' := 10) hX dX11_balanceNow_9 rfl rfl ?_
  refine zt_cVv (pc' := 13) hX dX11_balanceNow_10 rfl zm_yX6_balance zw_42_15 zc_153 (by decide) zs_35 (q := (RX6, TX6, 14)) rfl rfl (zc_X6_balance _ _ s2 hI5 r1 ⟨by omega, by omega⟩) rfl rfl (Nat.le_of_ble_eq_true rfl) (by decide) (fun r10 s11 hr12 hp13 => ?_)
  obtain ⟨hI14, hF15⟩ := hp13
  have hF16 := zFE_tr hF9 hF15
  refine zt_iload_n (pc' := 14) hX dX11_balanceNow_13 rfl rfl ?_
  exact zt_iret hX hR dX11_balanceNow_14 ⟨by omega, by omega⟩ ⟨hI14, hF16, by omega, by omega⟩

set_option maxRecDepth 100000 in
set_option maxHeartbeats 4000000 in
theorem zc_X11_isAhead (l : Launch) (E : zEN) (σ : zSto) (hI : zInv σ) (a1_ : Int) (ha1_ : -2147483648 ≤ a1_ ∧ a1_ ≤ 2147483647) (a2_ : Int) (ha2_ : -2147483648 ≤ a2_ ∧ a2_ ≤ 2147483647) (a3_ : Int) (ha3_ : -2147483648 ≤ a3_ ∧ a3_ ≤ 2147483647) : zCt l E yX11_isAhead cX11_isAhead 4 (some .boolean) 1 zNC zNC 0 0 σ [.ref (E.1 + 0), .int (zI a1_), .int (zI a2_), .int (zI a3_)] (fun r σ' => σ = σ' ∧ 0 ≤ r ∧ r ≤ 1 ∧ (r = 1 → a2_ ≤ a1_ ∧ a1_ ≤ a3_)) := by
  refine zCt_of2 [some (.ref (E.1 + 0)), some (.int (zI a1_)), some (.int (zI a2_)), some (.int (zI a3_))] (by decide +kernel) (Nat.le_of_ble_eq_true rfl) rfl ?_
  intro X hE hX hR hL hN
  subst hE
  have hX : zok X cX11_isAhead RX11 1 := hX
  refine zt_aload_n (pc' := 1) hX dX11_isAhead_0 rfl rfl ?_
  obtain ⟨k1, ek2, hk3⟩ := zv_1_3 hI zc_0
  refine zt_get (pc' := 4) (v := .ref (X.1.1 + k1)) hX dX11_isAhead_1 rfl zf_X11_31 (by decide) zc_0 zs_1 (zrf_of ek2) ?_
  refine zt_cVz (pc' := 7) hX dX11_isAhead_4 rfl zm_yX3_isTold zw_48_6 hk3 (by decide) zs_8 (q := (RX3, TX3, 17)) rfl rfl (zc_X3_isTold _ _ σ hI k1 hk3) rfl rfl (Nat.le_of_ble_eq_true rfl) (by decide) (fun r4 s5 hr6 hp7 => ?_)
  obtain ⟨rfl, q8, q9⟩ := hp7
  refine zt_ifeq (pc' := 10) (tgt := 39) hX dX11_isAhead_7 rfl (by decide) ⟨by omega, by omega⟩ (fun c10 => ?_) (fun c10 => ?_)
  · refine zt_iconst (pc' := 40) hX dX11_isAhead_39 rfl ?_
    exact zt_zret hX hR dX11_isAhead_40 ⟨by omega, by omega⟩ ⟨rfl, by omega, by omega, by omega⟩
  · refine zt_iload_n (pc' := 11) hX dX11_isAhead_10 rfl rfl ?_
    refine zt_iload_n (pc' := 12) hX dX11_isAhead_11 rfl rfl ?_
    refine zt_iclt (pc' := 15) (tgt := 39) hX dX11_isAhead_12 rfl (by decide) ⟨by omega, by omega⟩ ⟨by omega, by omega⟩ (fun c11 => ?_) (fun c11 => ?_)
    · refine zt_iconst (pc' := 40) hX dX11_isAhead_39 rfl ?_
      exact zt_zret hX hR dX11_isAhead_40 ⟨by omega, by omega⟩ ⟨rfl, by omega, by omega, by omega⟩
    · refine zt_iload_n (pc' := 16) hX dX11_isAhead_15 rfl rfl ?_
      refine zt_iload_n (pc' := 17) hX dX11_isAhead_16 rfl rfl ?_
      refine zt_icgt (pc' := 20) (tgt := 39) hX dX11_isAhead_17 rfl (by decide) ⟨by omega, by omega⟩ ⟨by omega, by omega⟩ (fun c12 => ?_) (fun c12 => ?_)
      · refine zt_iconst (pc' := 40) hX dX11_isAhead_39 rfl ?_
        exact zt_zret hX hR dX11_isAhead_40 ⟨by omega, by omega⟩ ⟨rfl, by omega, by omega, by omega⟩
      · refine zt_iload_n (pc' := 21) hX dX11_isAhead_20 rfl rfl ?_
        refine zt_sipush (pc' := 24) hX dX11_isAhead_21 rfl (by decide) (by decide) ?_
        refine zt_aload_n (pc' := 25) hX dX11_isAhead_24 rfl rfl ?_
        refine zt_get (pc' := 28) (v := .ref (X.1.1 + 35)) hX dX11_isAhead_25 rfl zf_X11_66 (by decide) zc_0 zs_1 (zrf_of (zv_1_8 hI zc_0)) ?_
        have b13 := zv_22_5 hI zc_35
        refine zt_get (pc' := 31) (v := .int (zI (σ 35 5))) hX dX11_isAhead_28 rfl zf_X11_150 (by decide) zc_35 zs_22 rfl ?_
        refine zt_isub (pc' := 32) hX dX11_isAhead_31 rfl ?_
        refine zt_wrap (fun r14 zr14 lr14 ur14 => ?_)
        clear zr14
        refine zt_icgt (pc' := 35) (tgt := 39) hX dX11_isAhead_32 rfl (by decide) ⟨by omega, by omega⟩ ⟨by omega, by omega⟩ (fun c15 => ?_) (fun c15 => ?_)
        · refine zt_iconst (pc' := 40) hX dX11_isAhead_39 rfl ?_
          exact zt_zret hX hR dX11_isAhead_40 ⟨by omega, by omega⟩ ⟨rfl, by omega, by omega, by omega⟩
        · refine zt_iconst (pc' := 36) hX dX11_isAhead_35 rfl ?_
          refine zt_goto (tgt := 40) hX dX11_isAhead_36 (by decide) ?_
          exact zt_zret hX hR dX11_isAhead_40 ⟨by omega, by omega⟩ ⟨rfl, by omega, by omega, by omega⟩

set_option maxRecDepth 100000 in
set_option maxHeartbeats 4000000 in
theorem zc_X11_lookAhead (l : Launch) (E : zEN) (σ : zSto) (hI : zInv σ) (a1_ : Int) (ha1_ : 0 ≤ a1_ ∧ a1_ ≤ 99) : zCt l E yX11_lookAhead cX11_lookAhead 2 none 4 zNC zNC 0 0 σ [.ref (E.1 + 0), .int (zI a1_)] (fun r σ' => zInv σ' ∧ zFE σ σ') := by
  refine zCt_of2 [some (.ref (E.1 + 0)), some (.int (zI a1_))] (by decide +kernel) (Nat.le_of_ble_eq_true rfl) rfl ?_
  intro X hE hX hR hL hN
  subst hE
  have hX : zok X cX11_lookAhead RX11 4 := hX
  have hF := zFE_rf σ
  refine zt_aload_n (pc' := 1) hX dX11_lookAhead_0 rfl rfl ?_
  refine zt_get (pc' := 4) (v := .ref (X.1.1 + 40)) hX dX11_lookAhead_1 rfl zf_X11_70 (by decide) zc_0 zs_1 (zrf_of (zv_1_9 hI zc_0)) ?_
  refine zt_aload_n (pc' := 5) hX dX11_lookAhead_4 rfl rfl ?_
  refine zt_get (pc' := 8) (v := .ref (X.1.1 + 35)) hX dX11_lookAhead_5 rfl zf_X11_66 (by decide) zc_0 zs_1 (zrf_of (zv_1_8 hI zc_0)) ?_
  refine zt_cVv (pc' := 11) hX dX11_lookAhead_8 rfl zm_yX10_takeLife zw_48_14 zc_40 (by decide) zs_22 (q := (RX10, TX10, 8)) rfl rfl (zc_X10_takeLife _ _ σ hI 40 zc_40 35 zc_35) rfl rfl (Nat.le_of_ble_eq_true rfl) (by decide) (fun r1 s2 hr3 hp4 => ?_)
  obtain ⟨hI5, hF6⟩ := hp4
  have hF7 := zFE_tr hF hF6
  refine zt_aload_n (pc' := 12) hX dX11_lookAhead_11 rfl rfl ?_
  refine zt_get (pc' := 15) (v := .ref (X.1.1 + 153)) hX dX11_lookAhead_12 rfl zf_X11_92 (by decide) zc_0 zs_1 (zrf_of (zv_1_12 hI5 zc_0)) ?_
  refine zt_aload_n (pc' := 16) hX dX11_lookAhead_15 rfl rfl ?_
  obtain ⟨k8, ek9, hk10⟩ := zv_1_3 hI5 zc_0
  refine zt_get (pc' := 19) (v := .ref (X.1.1 + k8)) hX dX11_lookAhead_16 rfl zf_X11_31 (by decide) zc_0 zs_1 (zrf_of ek9) ?_
  refine zt_aload_n (pc' := 20) hX dX11_lookAhead_19 rfl rfl ?_
  refine zt_get (pc' := 23) (v := .ref (X.1.1 + 40)) hX dX11_lookAhead_20 rfl zf_X11_70 (by decide) zc_0 zs_1 (zrf_of (zv_1_9 hI5 zc_0)) ?_
  refine zt_iload_n (pc' := 24) hX dX11_lookAhead_23 rfl rfl ?_
  refine zt_cVv (pc' := 27) hX dX11_lookAhead_24 rfl zm_yX6_look zw_34_4 zc_153 (by decide) zs_35 (q := (RX6, TX6, 14)) rfl rfl (zc_X6_look _ _ s2 hI5 k8 hk10 40 zc_40 a1_ ⟨by omega, by omega⟩) rfl rfl (Nat.le_of_ble_eq_true rfl) (by decide) (fun r11 s12 hr13 hp14 => ?_)
  obtain ⟨hI15, hF16⟩ := hp14
  have hF17 := zFE_tr hF7 hF16
  exact zt_vret hX hR dX11_lookAhead_27 ⟨hI15, hF17⟩

set_option maxRecDepth 100000 in
set_option maxHeartbeats 4000000 in
theorem zc_X11_staysWhole (l : Launch) (E : zEN) (σ : zSto) (hI : zInv σ) (a1_ : Int) (ha1_ : 0 ≤ a1_ ∧ a1_ ≤ 60) (a2_ : Int) (ha2_ : 0 ≤ a2_ ∧ a2_ ≤ 99) : zCt l E yX11_staysWhole cX11_staysWhole 4 (some .boolean) 6 zNC zNC 0 0 σ [.ref (E.1 + 0), .int (zI a1_), .int (zI a2_)] (fun r σ' => zInv σ' ∧ zFE σ σ' ∧ 0 ≤ r ∧ r ≤ 1) := by
  refine zCt_of2 [some (.ref (E.1 + 0)), some (.int (zI a1_)), some (.int (zI a2_)), none] (by decide +kernel) (Nat.le_of_ble_eq_true rfl) rfl ?_
  intro X hE hX hR hL hN
  subst hE
  have hX : zok X cX11_staysWhole RX11 6 := hX
  have hF := zFE_rf σ
  refine zt_aload_n (pc' := 1) hX dX11_staysWhole_0 rfl rfl ?_
  refine zt_iload_n (pc' := 2) hX dX11_staysWhole_1 rfl rfl ?_
  refine zt_cVv (pc' := 5) hX dX11_staysWhole_2 rfl zm_yX11_lookAhead zw_48_10 zc_0 (by decide) zs_1 (q := (RX11, TX11, 17)) rfl rfl (zc_X11_lookAhead _ _ σ hI a2_ ⟨by omega, by omega⟩) rfl rfl (Nat.le_of_ble_eq_true rfl) (by decide) (fun r1 s2 hr3 hp4 => ?_)
  obtain ⟨hI5, hF6⟩ := hp4
  have hF7 := zFE_tr hF hF6
  refine zt_iconst (pc' := 6) hX dX11_staysWhole_5 rfl ?_
  refine zt_istore_n (pc' := 7) (lv' := [some (.ref (X.1.1 + 0)), some (.int (zI a1_)), some (.int (zI a2_)), some (.int (zI 0))]) hX dX11_staysWhole_6 rfl hL (by decide) rfl ?_
  have L_7_13 : ∀ (N : Nat) (x8 : Int) (s11 : zSto), 0 ≤ x8 → x8 ≤ 60 → zInv s11 → zFE σ s11 → ((61 - x8).toNat) < N → zF X s11 7 [some (.ref (X.1.1 + 0)), some (.int (zI a1_)), none, some (.int (zI x8))] [] := by
    intro N
    induction N with
    | zero =>
      intro x8 s11 h9 h10 hI12 hF13 hm15
      exact absurd hm15 (Nat.not_lt_zero _)
    | succ N ih16 =>
      intro x8 s11 h9 h10 hI12 hF13 hm15
      refine zt_iload_n (pc' := 8) hX dX11_staysWhole_7 rfl rfl ?_
      refine zt_iload_n (pc' := 9) hX dX11_staysWhole_8 rfl rfl ?_
      refine zt_icge (pc' := 12) (tgt := 33) hX dX11_staysWhole_9 rfl (by decide) ⟨by omega, by omega⟩ ⟨by omega, by omega⟩ (fun c17 => ?_) (fun c17 => ?_)
      · refine zt_iconst (pc' := 34) hX dX11_staysWhole_33 rfl ?_
        exact zt_zret hX hR dX11_staysWhole_34 ⟨by omega, by omega⟩ ⟨hI12, hF13, by omega, by omega⟩
      · refine zt_aload_n (pc' := 13) hX dX11_staysWhole_12 rfl rfl ?_
        refine zt_get (pc' := 16) (v := .ref (X.1.1 + 153)) hX dX11_staysWhole_13 rfl zf_X11_92 (by decide) zc_0 zs_1 (zrf_of (zv_1_12 hI12 zc_0)) ?_
        refine zt_iconst (pc' := 17) hX dX11_staysWhole_16 rfl ?_
        refine zt_cVl (pc' := 20) hX dX11_staysWhole_17 rfl zm_yX6_passHour zw_48_18 zc_153 (by decide) zs_35 (q := (RX6, TX6, 14)) rfl rfl (zc_X6_passHour _ _ s11 hI12 (-1) ⟨by omega, by omega⟩) rfl rfl (Nat.le_of_ble_eq_true rfl) (by decide) (fun r18 s19 hr20 hp21 => ?_)
        obtain ⟨hI22, hF23, q24, q25⟩ := hp21
        have hF26 := zFE_tr hF13 hF23
        refine zt_lconst (pc' := 21) (y := 0) hX dX11_staysWhole_20 rfl (by decide +kernel) ?_
        refine zt_lcmp (pc' := 22) hX dX11_staysWhole_21 rfl ⟨by omega, by omega⟩ ⟨by omega, by omega⟩ (fun r27 er27 => ?_)
        refine zt_ifeq (pc' := 25) (tgt := 27) hX dX11_staysWhole_22 rfl (by decide) ⟨by omega, by omega⟩ (fun c28 => ?_) (fun c28 => ?_)
        · refine zt_iinc (pc' := 30) (lv' := [some (.ref (X.1.1 + 0)), some (.int (zI a1_)), none, some (.int (zI (x8 + 1)))]) hX dX11_staysWhole_27 rfl rfl hL (by decide) rfl ?_
          refine zt_goto (tgt := 7) hX dX11_staysWhole_30 (by decide) ?_
          exact ih16 (x8 + 1) s19 (by omega) (by omega) hI22 (by omega) (by omega)
        · refine zt_iconst (pc' := 26) hX dX11_staysWhole_25 rfl ?_
          exact zt_zret hX hR dX11_staysWhole_26 ⟨by omega, by omega⟩ ⟨hI22, hF26, by omega, by omega⟩
  refine zt_mask [true, true, false, true] rfl ?_
  exact L_7_13 _ 0 s2 (by omega) (by omega) hI5 (by omega) (Nat.lt_succ_self _)
