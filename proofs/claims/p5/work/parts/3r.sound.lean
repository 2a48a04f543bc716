set_option maxRecDepth 100000 in
set_option maxHeartbeats 2000000 in
theorem zc_X9_byteAt_D (l : Launch) (E : zEN) (σ : zSto) (hI : zInv σ) (a1_ : Int) (ha1_ : -2147483648 ≤ a1_ ∧ a1_ ≤ 2147483647) : zCt l E yX9_byteAt cX9_byteAt 2 (some .int) 0 zNC zNC 0 0 σ [.ref (E.1 + 1), .int (zI a1_)] (fun r σ' => σ = σ' ∧ -1 ≤ r ∧ r ≤ 255 ∧ (r = zba σ a1_)) := by
  refine zCt_of2 [some (.ref (E.1 + 1)), some (.int (zI a1_))] (by decide +kernel) (Nat.le_of_ble_eq_true rfl) rfl ?_
  intro X hE hX hR hL hN
  subst hE
  have hX : zok X cX9_byteAt RX9 0 := hX
  have hbo := zba_out (s := σ) (k := a1_)
  have b1 := zv_2_1 hI zc_1
  refine zt_iload_n (pc' := 1) hX dX9_byteAt_0 rfl rfl ?_
  refine zt_iflt (pc' := 4) (tgt := 34) hX dX9_byteAt_1 rfl (by decide) ⟨by omega, by omega⟩ (fun c2 => ?_) (fun c2 => ?_)
  · refine zt_iconst (pc' := 35) hX dX9_byteAt_34 rfl ?_
    exact zt_iret hX hR dX9_byteAt_35 ⟨by omega, by omega⟩ ⟨rfl, by omega, by omega, by omega⟩
  · refine zt_iload_n (pc' := 5) hX dX9_byteAt_4 rfl rfl ?_
    refine zt_aload_n (pc' := 6) hX dX9_byteAt_5 rfl rfl ?_
    have b3 := zv_2_1 hI zc_1
    refine zt_get (pc' := 9) (v := .int (zI (σ 1 1))) hX dX9_byteAt_6 rfl zf_X9_9 (by decide) zc_1 zs_2 rfl ?_
    refine zt_icge (pc' := 12) (tgt := 34) hX dX9_byteAt_9 rfl (by decide) ⟨by omega, by omega⟩ ⟨by omega, by omega⟩ (fun c4 => ?_) (fun c4 => ?_)
    · refine zt_iconst (pc' := 35) hX dX9_byteAt_34 rfl ?_
      exact zt_iret hX hR dX9_byteAt_35 ⟨by omega, by omega⟩ ⟨rfl, by omega, by omega, by omega⟩
    · refine zt_iload_n (pc' := 13) hX dX9_byteAt_12 rfl rfl ?_
      refine zt_aload_n (pc' := 14) hX dX9_byteAt_13 rfl rfl ?_
      refine zt_get (pc' := 17) (v := .ref (X.1.1 + 2)) hX dX9_byteAt_14 rfl zf_X9_15 (by decide) zc_1 zs_2 (zrf_of (zv_2_0 hI zc_1)) ?_
      refine zt_alen (pc' := 18) hX dX9_byteAt_17 rfl (by decide) zc_2 zs_3 (by decide) ?_
      rw [show ((1600 : Nat) : Int) = 1600 from rfl]
      refine zt_icge (pc' := 21) (tgt := 34) hX dX9_byteAt_18 rfl (by decide) ⟨by omega, by omega⟩ ⟨by omega, by omega⟩ (fun c5 => ?_) (fun c5 => ?_)
      · exact absurd c5 (by omega)
      · refine zt_aload_n (pc' := 22) hX dX9_byteAt_21 rfl rfl ?_
        refine zt_get (pc' := 25) (v := .ref (X.1.1 + 2)) hX dX9_byteAt_22 rfl zf_X9_15 (by decide) zc_1 zs_2 (zrf_of (zv_2_0 hI zc_1)) ?_
        refine zt_iload_n (pc' := 26) hX dX9_byteAt_25 rfl rfl ?_
        refine zt_bald (pc' := 27) hX dX9_byteAt_26 rfl (by decide) zc_2 zs_3 (by decide) ⟨by omega, by omega⟩ ?_
        generalize hv6 : σ 2 (a1_.toNat) = v6
        have bv6 : -128 ≤ v6 ∧ v6 ≤ 127 := hv6 ▸ zv_3 hI zc_2 _
        have hbv := hv6
        refine zt_sipush (pc' := 30) hX dX9_byteAt_27 rfl (by decide) (by decide) ?_
        refine zt_iandm (pc' := 31) hX dX9_byteAt_30 rfl 8 (by decide +kernel) (by decide) (fun r8 er8 lr8 ur8 => ?_)
        have ur8 : r8 ≤ 255 := by omega
        have h9 := zba_in (s := σ) (k := a1_) hbv er8
        refine zt_goto (tgt := 35) hX dX9_byteAt_31 (by decide) ?_
        exact zt_iret hX hR dX9_byteAt_35 ⟨by omega, by omega⟩ ⟨rfl, by omega, by omega, by omega⟩

set_option maxRecDepth 100000 in
set_option maxHeartbeats 2000000 in
theorem zc_X7_takeSounds (l : Launch) (E : zEN) (σ : zSto) (hI : zInv σ) (k1_ : Nat) (hk1_ : zro k1_ = 8) : zCt l E yX7_takeSounds cX7_takeSounds 6 (some .boolean) 2 zNC zNC 0 0 σ [.ref (E.1 + 147), .ref (E.1 + k1_), .ref (E.1 + 1)] (fun r σ' => zInv σ' ∧ zFE σ σ' ∧ 0 ≤ r ∧ r ≤ 1) := by
  refine zCt_of2 [some (.ref (E.1 + 147)), some (.ref (E.1 + k1_)), some (.ref (E.1 + 1)), none, none, none] (by decide +kernel) (Nat.le_of_ble_eq_true rfl) rfl ?_
  intro X hE hX hR hL hN
  subst hE
  have hX : zok X cX7_takeSounds RX7 2 := hX
  have hF := zFE_rf σ
  refine zt_aload_n (pc' := 1) hX dX7_takeSounds_0 rfl rfl ?_
  have b1 := zv_2_1 hI zc_1
  refine zt_get (pc' := 4) (v := .int (zI (σ 1 1))) hX dX7_takeSounds_1 rfl zf_X7_35 (by decide) zc_1 zs_2 rfl ?_
  refine zt_iconst (pc' := 5) hX dX7_takeSounds_4 rfl ?_
  refine zt_idiv (pc' := 6) hX dX7_takeSounds_5 rfl ⟨by omega, by omega⟩ ⟨by omega, by omega⟩ (fun r2 er2 br2 => ?_)
  rw [ztd_p (by omega)] at er2
  refine zt_istore_n (pc' := 7) (lv' := [some (.ref (X.1.1 + 147)), some (.ref (X.1.1 + k1_)), some (.ref (X.1.1 + 1)), some (.int (zI r2)), none, none]) hX dX7_takeSounds_6 rfl hL (by decide) rfl ?_
  refine zt_iload_n (pc' := 8) hX dX7_takeSounds_7 rfl rfl ?_
  refine zt_iconst (pc' := 9) hX dX7_takeSounds_8 rfl ?_
  refine zt_iclt (pc' := 12) (tgt := 28) hX dX7_takeSounds_9 rfl (by decide) ⟨by omega, by omega⟩ ⟨by omega, by omega⟩ (fun c3 => ?_) (fun c3 => ?_)
  · refine zt_iconst (pc' := 29) hX dX7_takeSounds_28 rfl ?_
    exact zt_zret hX hR dX7_takeSounds_29 ⟨by omega, by omega⟩ ⟨hI, hF, by omega, by omega⟩
  · refine zt_iload_n (pc' := 13) hX dX7_takeSounds_12 rfl rfl ?_
    refine zt_bipush (pc' := 15) hX dX7_takeSounds_13 rfl (by decide) (by decide) ?_
    refine zt_icgt (pc' := 18) (tgt := 28) hX dX7_takeSounds_15 rfl (by decide) ⟨by omega, by omega⟩ ⟨by omega, by omega⟩ (fun c4 => ?_) (fun c4 => ?_)
    · refine zt_iconst (pc' := 29) hX dX7_takeSounds_28 rfl ?_
      exact zt_zret hX hR dX7_takeSounds_29 ⟨by omega, by omega⟩ ⟨hI, hF, by omega, by omega⟩
    · refine zt_aload_n (pc' := 19) hX dX7_takeSounds_18 rfl rfl ?_
      refine zt_get (pc' := 22) (v := .int (zI (σ 1 1))) hX dX7_takeSounds_19 rfl zf_X7_35 (by decide) zc_1 zs_2 rfl ?_
      refine zt_iload_n (pc' := 23) hX dX7_takeSounds_22 rfl rfl ?_
      refine zt_iconst (pc' := 24) hX dX7_takeSounds_23 rfl ?_
      refine zt_imul (pc' := 25) hX dX7_takeSounds_24 rfl ?_
      refine zt_iceq (pc' := 28) (tgt := 30) hX dX7_takeSounds_25 rfl (by decide) ⟨by omega, by omega⟩ ⟨by omega, by omega⟩ (fun c5 => ?_) (fun c5 => ?_)
      · refine zt_iconst (pc' := 31) hX dX7_takeSounds_30 rfl ?_
        refine zt_istore (pc' := 33) (lv' := [some (.ref (X.1.1 + 147)), some (.ref (X.1.1 + k1_)), some (.ref (X.1.1 + 1)), some (.int (zI r2)), some (.int (zI 0)), none]) hX dX7_takeSounds_31 rfl hL (by decide) rfl ?_
        have h6 := zbk_0 σ
        have L_33_11 : ∀ (N : Nat) (x7 : Int), 0 ≤ x7 → x7 ≤ 12 → zbk σ x7 = 1 → x7 ≤ r2 → ((13 - x7).toNat) < N → zF X σ 33 [some (.ref (X.1.1 + 147)), some (.ref (X.1.1 + k1_)), some (.ref (X.1.1 + 1)), some (.int (zI r2)), some (.int (zI x7)), none] [] := by
          intro N
          induction N with
          | zero =>
            intro x7 h8 h9 g10 g11 hm13
            exact absurd hm13 (Nat.not_lt_zero _)
          | succ N ih14 =>
            intro x7 h8 h9 g10 g11 hm13
            refine zt_iload (pc' := 35) hX dX7_takeSounds_33 rfl rfl ?_
            refine zt_iload_n (pc' := 36) hX dX7_takeSounds_35 rfl rfl ?_
            have hbq : zbk σ x7 = 1 := by omega
            refine zt_icge (pc' := 39) (tgt := 72) hX dX7_takeSounds_36 rfl (by decide) ⟨by omega, by omega⟩ ⟨by omega, by omega⟩ (fun c16 => ?_) (fun c16 => ?_)
            · refine zt_iconst (pc' := 73) hX dX7_takeSounds_72 rfl ?_
              refine zt_istore (pc' := 75) (lv' := [some (.ref (X.1.1 + 147)), some (.ref (X.1.1 + k1_)), some (.ref (X.1.1 + 1)), some (.int (zI r2)), some (.int (zI 0)), none]) hX dX7_takeSounds_73 rfl hL (by decide) rfl ?_
              have h17 : zbk σ r2 = 1 := zbk_u hbq (by omega)
              have L_75_24 : ∀ (N : Nat) (x18 : Int) (s21 : zSto), 0 ≤ x18 → x18 ≤ 12 → zInv s21 → zFE σ s21 → zbk s21 r2 = 1 → ((13 - x18).toNat) < N → zF X s21 75 [some (.ref (X.1.1 + 147)), some (.ref (X.1.1 + k1_)), some (.ref (X.1.1 + 1)), some (.int (zI r2)), some (.int (zI x18)), none] [] := by
                intro N
                induction N with
                | zero =>
                  intro x18 s21 h19 h20 hI22 hF23 g24 hm26
                  exact absurd hm26 (Nat.not_lt_zero _)
                | succ N ih27 =>
                  intro x18 s21 h19 h20 hI22 hF23 g24 hm26
                  refine zt_iload (pc' := 77) hX dX7_takeSounds_75 rfl rfl ?_
                  refine zt_iload_n (pc' := 78) hX dX7_takeSounds_77 rfl rfl ?_
                  refine zt_icge (pc' := 81) (tgt := 137) hX dX7_takeSounds_78 rfl (by decide) ⟨by omega, by omega⟩ ⟨by omega, by omega⟩ (fun c28 => ?_) (fun c28 => ?_)
                  · refine zt_aload_n (pc' := 138) hX dX7_takeSounds_137 rfl rfl ?_
                    refine zt_iload_n (pc' := 139) hX dX7_takeSounds_138 rfl rfl ?_
                    refine zt_put (pc' := 142) (x := r2) hX dX7_takeSounds_139 rfl zf_X7_28 (by decide) zc_147 zs_29 (fun q hq => by cases hq; rfl) rfl rfl rfl ?_
                    generalize hs30 : zset s21 147 5 r2 = s29
                    have hI31 : zInv s29 := hs30 ▸ zp_29_5 hI22 zc_147 ⟨by omega, by omega⟩
                    have hF32 : zFE σ s29 := hs30 ▸ zFE_set hF23 zc_147 (by decide) zke_29 (Or.inl (by decide)) (Or.inl (by decide))
                    refine zt_iconst (pc' := 143) hX dX7_takeSounds_142 rfl ?_
                    exact zt_zret hX hR dX7_takeSounds_143 ⟨by omega, by omega⟩ ⟨hI31, hF32, by omega, by omega⟩
                  · refine zt_iload (pc' := 83) hX dX7_takeSounds_81 rfl rfl ?_
                    refine zt_iconst (pc' := 84) hX dX7_takeSounds_83 rfl ?_
                    refine zt_imul (pc' := 85) hX dX7_takeSounds_84 rfl ?_
                    refine zt_istore (pc' := 87) (lv' := [some (.ref (X.1.1 + 147)), some (.ref (X.1.1 + k1_)), some (.ref (X.1.1 + 1)), some (.int (zI r2)), some (.int (zI x18)), some (.int (zI (x18 * 4)))]) hX dX7_takeSounds_85 rfl hL (by decide) rfl ?_
                    refine zt_aload_n (pc' := 88) hX dX7_takeSounds_87 rfl rfl ?_
                    refine zt_get (pc' := 91) (v := .ref (X.1.1 + 151)) hX dX7_takeSounds_88 rfl zf_X7_22 (by decide) zc_147 zs_29 (zrf_of (zv_29_3 hI22 zc_147)) ?_
                    refine zt_iload (pc' := 93) hX dX7_takeSounds_91 rfl rfl ?_
                    refine zt_aload_n (pc' := 94) hX dX7_takeSounds_93 rfl rfl ?_
                    refine zt_aload_n (pc' := 95) hX dX7_takeSounds_94 rfl rfl ?_
                    refine zt_iload (pc' := 97) hX dX7_takeSounds_95 rfl rfl ?_
                    refine zt_cVi (pc' := 100) hX dX7_takeSounds_97 rfl zm_yX9_byteAt zw_56_22 zc_1 (by decide) zs_2 (q := (RX9, TX9, 2)) rfl rfl (zc_X9_byteAt_D _ _ s21 hI22 (x18 * 4) ⟨by omega, by omega⟩) rfl rfl (Nat.le_of_ble_eq_true rfl) (by decide) (fun r33 s34 hr35 hp36 => ?_)
                    obtain ⟨rfl, q37, q38, z39⟩ := hp36
                    refine zt_aload_n (pc' := 101) hX dX7_takeSounds_100 rfl rfl ?_
                    refine zt_iload (pc' := 103) hX dX7_takeSounds_101 rfl rfl ?_
                    refine zt_iconst (pc' := 104) hX dX7_takeSounds_103 rfl ?_
                    refine zt_iadd (pc' := 105) hX dX7_takeSounds_104 rfl ?_
                    refine zt_cVi (pc' := 108) hX dX7_takeSounds_105 rfl zm_yX9_byteAt zw_56_22 zc_1 (by decide) zs_2 (q := (RX9, TX9, 2)) rfl rfl (zc_X9_byteAt_D _ _ s21 hI22 ((x18 * 4) + 1) ⟨by omega, by omega⟩) rfl rfl (Nat.le_of_ble_eq_true rfl) (by decide) (fun r40 s41 hr42 hp43 => ?_)
                    obtain ⟨rfl, q44, q45, z46⟩ := hp43
                    have h47 := zbk_at (s := s21) (n := r2) (k := x18) (by omega) (by omega) (by omega)
                    refine zt_cVi (pc' := 111) hX dX7_takeSounds_108 rfl zm_yX3_cellAt zw_57_0 hk1_ (by decide) zs_8 (q := (RX3, TX3, 17)) rfl rfl (zc_X3_cellAt _ _ s21 hI22 k1_ hk1_ r33 ⟨by omega, by omega⟩ r40 ⟨by omega, by omega⟩) rfl rfl (Nat.le_of_ble_eq_true rfl) (by decide) (fun r48 s49 hr50 hp51 => ?_)
                    obtain ⟨rfl, q52, q53, z54⟩ := hp51
                    refine zt_iast (pc' := 112) hX dX7_takeSounds_111 rfl (by decide) zc_151 zs_33 (by decide) ⟨by omega, by omega⟩ ?_
                    generalize hs56 : zset s21 151 (x18.toNat) r48 = s55
                    have hI57 : zInv s55 := hs56 ▸ zp_33 hI22 zc_151 (x18.toNat) ⟨by omega, by omega⟩
                    have hF58 : zFE σ s55 := hs56 ▸ zFE_set hF23 zc_151 (by decide) zke_33 (Or.inl (by decide)) (Or.inl (by decide))
                    have h59 := zbk_k hs56 r2 (by decide)
                    refine zt_aload_n (pc' := 113) hX dX7_takeSounds_112 rfl rfl ?_
                    refine zt_get (pc' := 116) (v := .ref (X.1.1 + 152)) hX dX7_takeSounds_113 rfl zf_X7_25 (by decide) zc_147 zs_29 (zrf_of (zv_29_4 hI57 zc_147)) ?_
                    refine zt_iload (pc' := 118) hX dX7_takeSounds_116 rfl rfl ?_
                    refine zt_aload_n (pc' := 119) hX dX7_takeSounds_118 rfl rfl ?_
                    refine zt_iload (pc' := 121) hX dX7_takeSounds_119 rfl rfl ?_
                    refine zt_iconst (pc' := 122) hX dX7_takeSounds_121 rfl ?_
                    refine zt_iadd (pc' := 123) hX dX7_takeSounds_122 rfl ?_
                    refine zt_cVi (pc' := 126) hX dX7_takeSounds_123 rfl zm_yX9_pairAt zw_57_1 zc_1 (by decide) zs_2 (q := (RX9, TX9, 2)) rfl rfl (zc_X9_pairAt_1 _ _ s55 hI57 ((x18 * 4) + 2) ⟨by omega, by omega⟩) rfl rfl (Nat.le_of_ble_eq_true rfl) (by decide) (fun r60 s61 hr62 hp63 => ?_)
                    obtain ⟨rfl, q64, q65⟩ := hp63
                    refine zt_sipush (pc' := 129) hX dX7_takeSounds_126 rfl (by decide) (by decide) ?_
                    refine zt_isub (pc' := 130) hX dX7_takeSounds_129 rfl ?_
                    refine zt_wrap (fun r66 zr66 lr66 ur66 => ?_)
                    clear zr66
                    refine zt_iast (pc' := 131) hX dX7_takeSounds_130 rfl (by decide) zc_152 zs_34 (by decide) ⟨by omega, by omega⟩ ?_
                    generalize hs68 : zset s55 152 (x18.toNat) r66 = s67
                    have hI69 : zInv s67 := hs68 ▸ zp_34 hI57 zc_152 (x18.toNat) ⟨by omega, by omega⟩
                    have hF70 : zFE σ s67 := hs68 ▸ zFE_set hF58 zc_152 (by decide) zke_34 (Or.inl (by decide)) (Or.inl (by decide))
                    have h71 := zbk_k hs68 r2 (by decide)
                    refine zt_iinc (pc' := 134) (lv' := [some (.ref (X.1.1 + 147)), some (.ref (X.1.1 + k1_)), some (.ref (X.1.1 + 1)), some (.int (zI r2)), some (.int (zI (x18 + 1))), some (.int (zI (x18 * 4)))]) hX dX7_takeSounds_131 rfl rfl hL (by decide) rfl ?_
                    refine zt_goto (tgt := 75) hX dX7_takeSounds_134 (by decide) ?_
                    refine zt_mask [true, true, true, true, true, false] rfl ?_
                    exact ih27 (x18 + 1) s67 (by omega) (by omega) hI69 (by omega) (by omega) (by omega)
              exact L_75_24 _ 0 σ (by omega) (by omega) hI (by omega) (by omega) (Nat.lt_succ_self _)
            · refine zt_aload_n (pc' := 40) hX dX7_takeSounds_39 rfl rfl ?_
              refine zt_aload_n (pc' := 41) hX dX7_takeSounds_40 rfl rfl ?_
              refine zt_iload (pc' := 43) hX dX7_takeSounds_41 rfl rfl ?_
              refine zt_iconst (pc' := 44) hX dX7_takeSounds_43 rfl ?_
              refine zt_imul (pc' := 45) hX dX7_takeSounds_44 rfl ?_
              refine zt_cVi (pc' := 48) hX dX7_takeSounds_45 rfl zm_yX9_byteAt zw_56_22 zc_1 (by decide) zs_2 (q := (RX9, TX9, 2)) rfl rfl (zc_X9_byteAt_D _ _ σ hI (x7 * 4) ⟨by omega, by omega⟩) rfl rfl (Nat.le_of_ble_eq_true rfl) (by decide) (fun r72 s73 hr74 hp75 => ?_)
              obtain ⟨rfl, q76, q77, z78⟩ := hp75
              refine zt_aload_n (pc' := 49) hX dX7_takeSounds_48 rfl rfl ?_
              refine zt_iload (pc' := 51) hX dX7_takeSounds_49 rfl rfl ?_
              refine zt_iconst (pc' := 52) hX dX7_takeSounds_51 rfl ?_
              refine zt_imul (pc' := 53) hX dX7_takeSounds_52 rfl ?_
              refine zt_iconst (pc' := 54) hX dX7_takeSounds_53 rfl ?_
              refine zt_iadd (pc' := 55) hX dX7_takeSounds_54 rfl ?_
              refine zt_cVi (pc' := 58) hX dX7_takeSounds_55 rfl zm_yX9_byteAt zw_56_22 zc_1 (by decide) zs_2 (q := (RX9, TX9, 2)) rfl rfl (zc_X9_byteAt_D _ _ σ hI ((x7 * 4) + 1) ⟨by omega, by omega⟩) rfl rfl (Nat.le_of_ble_eq_true rfl) (by decide) (fun r79 s80 hr81 hp82 => ?_)
              obtain ⟨rfl, q83, q84, z85⟩ := hp82
              refine zt_cVz (pc' := 61) hX dX7_takeSounds_58 rfl zm_yX3_hasCell zw_56_23 hk1_ (by decide) zs_8 (q := (RX3, TX3, 17)) rfl rfl (zc_X3_hasCell _ _ σ hI k1_ hk1_ r72 ⟨by omega, by omega⟩ r79 ⟨by omega, by omega⟩) rfl rfl (Nat.le_of_ble_eq_true rfl) (by decide) (fun r86 s87 hr88 hp89 => ?_)
              obtain ⟨rfl, q90, q91, z92⟩ := hp89
              have h93 := zbk_s (s := σ) (k := x7)
              refine zt_ifne (pc' := 64) (tgt := 66) hX dX7_takeSounds_61 rfl (by decide) ⟨by omega, by omega⟩ (fun c94 => ?_) (fun c94 => ?_)
              · have qz92 := z92 (by omega)
                clear z92
                refine zt_iinc (pc' := 69) (lv' := [some (.ref (X.1.1 + 147)), some (.ref (X.1.1 + k1_)), some (.ref (X.1.1 + 1)), some (.int (zI r2)), some (.int (zI (x7 + 1))), none]) hX dX7_takeSounds_66 rfl rfl hL (by decide) rfl ?_
                refine zt_goto (tgt := 33) hX dX7_takeSounds_69 (by decide) ?_
                exact ih14 (x7 + 1) (by omega) (by omega) (by omega) (by omega) (by omega)
              · clear z92
                refine zt_iconst (pc' := 65) hX dX7_takeSounds_64 rfl ?_
                exact zt_zret hX hR dX7_takeSounds_65 ⟨by omega, by omega⟩ ⟨hI, hF, by omega, by omega⟩
        exact L_33_11 _ 0 (by omega) (by omega) (by omega) (by omega) (Nat.lt_succ_self _)
      · refine zt_iconst (pc' := 29) hX dX7_takeSounds_28 rfl ?_
        exact zt_zret hX hR dX7_takeSounds_29 ⟨by omega, by omega⟩ ⟨hI, hF, by omega, by omega⟩

set_option maxRecDepth 100000 in
set_option maxHeartbeats 2000000 in
theorem zc_X11_sound (l : Launch) (E : zEN) (σ : zSto) (hI : zInv σ)  : zCt l E yX11_sound cX11_sound 2 (some .int) 3 zNC zNC 0 0 σ [.ref (E.1 + 0)] (fun r σ' => zInv σ' ∧ zFD σ σ' ∧ -2147483648 ≤ r ∧ r ≤ 2147483647 ∧ (σ' 1 1 = 0)) := by
  refine zCt_of2 [some (.ref (E.1 + 0)), none] (by decide +kernel) (Nat.le_of_ble_eq_true rfl) rfl ?_
  intro X hE hX hR hL hN
  subst hE
  have hX : zok X cX11_sound RX11 3 := hX
  have hF := zFD_rf σ
  have b1 := zv_2_1 hI zc_1
  refine zt_aload_n (pc' := 1) hX dX11_sound_0 rfl rfl ?_
  obtain ⟨k2, ek3, hk4⟩ := zv_1_3 hI zc_0
  refine zt_get (pc' := 4) (v := .ref (X.1.1 + k2)) hX dX11_sound_1 rfl zf_X11_31 (by decide) zc_0 zs_1 (zrf_of ek3) ?_
  refine zt_cVz (pc' := 7) hX dX11_sound_4 rfl zm_yX3_isTold zw_48_6 hk4 (by decide) zs_8 (q := (RX3, TX3, 17)) rfl rfl (zc_X3_isTold _ _ σ hI k2 hk4) rfl rfl (Nat.le_of_ble_eq_true rfl) (by decide) (fun r5 s6 hr7 hp8 => ?_)
  obtain ⟨rfl, q9, q10⟩ := hp8
  have J_33_16 : ∀ (y11 : Int) (s14 : zSto), 0 ≤ y11 → y11 ≤ 1 → zInv s14 → zFD σ s14 → zF X s14 33 [some (.ref (X.1.1 + 0)), none] [.int (zI y11)] := by
    intro y11 s14 h12 h13 hI15 hF16
    have b18 := zv_2_1 hI15 zc_1
    refine zt_istore_n (pc' := 34) (lv' := [some (.ref (X.1.1 + 0)), some (.int (zI y11))]) hX dX11_sound_33 rfl hL (by decide) rfl ?_
    refine zt_aload_n (pc' := 35) hX dX11_sound_34 rfl rfl ?_
    refine zt_get (pc' := 38) (v := .ref (X.1.1 + 1)) hX dX11_sound_35 rfl zf_X11_14 (by decide) zc_0 zs_1 (zrf_of (zv_1_0 hI15 zc_0)) ?_
    refine zt_iconst (pc' := 39) hX dX11_sound_38 rfl ?_
    refine zt_put (pc' := 42) (x := 0) hX dX11_sound_39 rfl zf_X11_110 (by decide) zc_1 zs_2 (fun q hq => by cases hq; rfl) rfl rfl rfl ?_
    generalize hs20 : zset s14 1 1 0 = s19
    have hI21 : zInv s19 := hs20 ▸ zp_2_1 hI15 zc_1 ⟨by omega, by omega⟩
    have hF22 : zFD σ s19 := hs20 ▸ zFD_set hF16 zc_1 (by decide) zke_2 (Or.inl (by decide))
    have e23 : s19 1 1 = 0 := by rw [← hs20]; exact zset_s
    refine zt_iload_n (pc' := 43) hX dX11_sound_42 rfl rfl ?_
    refine zt_ifeq (pc' := 46) (tgt := 56) hX dX11_sound_43 rfl (by decide) ⟨by omega, by omega⟩ (fun c24 => ?_) (fun c24 => ?_)
    · refine zt_aload_n (pc' := 57) hX dX11_sound_56 rfl rfl ?_
      refine zt_iconst (pc' := 58) hX dX11_sound_57 rfl ?_
      refine zt_cVi (pc' := 61) hX dX11_sound_58 rfl zm_yX11_refusal zw_14_3 zc_0 (by decide) zs_1 (q := (RX11, TX11, 17)) rfl rfl (zc_X11_refusal _ _ s19 hI21 1 ⟨by omega, by omega⟩) rfl rfl (Nat.le_of_ble_eq_true rfl) (by decide) (fun r25 s26 hr27 hp28 => ?_)
      obtain ⟨hI29, hF30, q31, q32⟩ := hp28
      have e33 := hF30.2
      have hF34 := zFD_tr hF22 (zFD_of hF30)
      have b35 := zv_2_1 hI29 zc_1
      exact zt_iret hX hR dX11_sound_61 ⟨by omega, by omega⟩ ⟨hI29, hF34, by omega, by omega, by omega⟩
    · refine zt_aload_n (pc' := 47) hX dX11_sound_46 rfl rfl ?_
      refine zt_get (pc' := 50) (v := .ref (X.1.1 + 147)) hX dX11_sound_47 rfl zf_X11_83 (by decide) zc_0 zs_1 (zrf_of (zv_1_11 hI21 zc_0)) ?_
      have b36 := zv_29_5 hI21 zc_147
      have e37 : s19 147 5 = s14 147 5 := by rw [← hs20]; exact zset_k (zne_r zc_147 zc_1 (by decide))
      refine zt_get (pc' := 53) (v := .int (zI (s19 147 5))) hX dX11_sound_50 rfl zf_X11_138 (by decide) zc_147 zs_29 rfl ?_
      refine zt_goto (tgt := 61) hX dX11_sound_53 (by decide) ?_
      exact zt_iret hX hR dX11_sound_61 ⟨by omega, by omega⟩ ⟨hI21, hF22, by omega, by omega, by omega⟩
  have J_32_40 : ∀ (s38 : zSto), zInv s38 → zFD σ s38 → zF X s38 32 [some (.ref (X.1.1 + 0)), none] [] := by
    intro s38 hI39 hF40
    have b42 := zv_2_1 hI39 zc_1
    refine zt_iconst (pc' := 33) hX dX11_sound_32 rfl ?_
    exact J_33_16 0 s38 (by omega) (by omega) hI39 (by omega)
  refine zt_ifeq (pc' := 10) (tgt := 32) hX dX11_sound_7 rfl (by decide) ⟨by omega, by omega⟩ (fun c43 => ?_) (fun c43 => ?_)
  · exact J_32_40 σ hI (by omega)
  · refine zt_aload_n (pc' := 11) hX dX11_sound_10 rfl rfl ?_
    refine zt_get (pc' := 14) (v := .ref (X.1.1 + 147)) hX dX11_sound_11 rfl zf_X11_83 (by decide) zc_0 zs_1 (zrf_of (zv_1_11 hI zc_0)) ?_
    refine zt_aload_n (pc' := 15) hX dX11_sound_14 rfl rfl ?_
    refine zt_get (pc' := 18) (v := .ref (X.1.1 + k2)) hX dX11_sound_15 rfl zf_X11_31 (by decide) zc_0 zs_1 (zrf_of ek3) ?_
    refine zt_aload_n (pc' := 19) hX dX11_sound_18 rfl rfl ?_
    refine zt_get (pc' := 22) (v := .ref (X.1.1 + 1)) hX dX11_sound_19 rfl zf_X11_14 (by decide) zc_0 zs_1 (zrf_of (zv_1_0 hI zc_0)) ?_
    refine zt_cVz (pc' := 25) hX dX11_sound_22 rfl zm_yX7_takeSounds zw_56_17 zc_147 (by decide) zs_29 (q := (RX7, TX7, 7)) rfl rfl (zc_X7_takeSounds _ _ σ hI k2 hk4) rfl rfl (Nat.le_of_ble_eq_true rfl) (by decide) (fun r44 s45 hr46 hp47 => ?_)
    obtain ⟨hI48, hF49, q50, q51⟩ := hp47
    have e52 := hF49.2
    have hF53 := zFD_tr hF (zFD_of hF49)
    have b54 := zv_2_1 hI48 zc_1
    refine zt_ifeq (pc' := 28) (tgt := 32) hX dX11_sound_25 rfl (by decide) ⟨by omega, by omega⟩ (fun c55 => ?_) (fun c55 => ?_)
    · exact J_32_40 s45 hI48 (by omega)
    · refine zt_iconst (pc' := 29) hX dX11_sound_28 rfl ?_
      refine zt_goto (tgt := 33) hX dX11_sound_29 (by decide) ?_
      exact J_33_16 1 s45 (by omega) (by omega) hI48 (by omega)
