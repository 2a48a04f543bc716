set_option maxRecDepth 100000 in
set_option maxHeartbeats 4000000 in
theorem yd_X12_checked_t (l : Launch) (E : zEN) (σ : zSto) (hI : zInv σ) (a1_ : Int) (ha1_ : 0 ≤ a1_ ∧ a1_ ≤ 1600) (f : Int → Int) (n : Int) (hf : yTf σ f n) (hn : a1_ ≤ n) : zCt l E yX12_checked cX12_checked 4 (some .int) 0 zNC zNC 0 0 σ [.ref (E.1 + 165), .int (zI a1_)] (fun r σ' => σ = σ' ∧ -250 ≤ r ∧ r ≤ 250 ∧ (r = yckz f a1_)) := by
  refine zCt_of2 [some (.ref (E.1 + 165)), some (.int (zI a1_)), none, none] (by decide +kernel) (Nat.le_of_ble_eq_true rfl) rfl ?_
  intro X hE_ hX hR hL hN
  subst hE_
  have hX : zok X cX12_checked RX12 0 := hX
  refine zt_bipush (pc' := 2) hX dX12_checked_0 rfl (by decide) (by decide) ?_
  refine zt_istore_n (pc' := 3) (lv' := [some (.ref (X.1.1 + 165)), some (.int (zI a1_)), some (.int (zI 127)), none]) hX dX12_checked_2 rfl hL (by decide) rfl ?_
  refine zt_iconst (pc' := 4) hX dX12_checked_3 rfl ?_
  refine zt_istore_n (pc' := 5) (lv' := [some (.ref (X.1.1 + 165)), some (.int (zI a1_)), some (.int (zI 127)), some (.int (zI 0))]) hX dX12_checked_4 rfl hL (by decide) rfl ?_
  have L_5_9 : ∀ (N : Nat) (x1 : Int) (x4 : Int), 0 ≤ x1 → x1 ≤ 250 → 0 ≤ x4 → x4 ≤ 1600 → 0 ≤ x4 → x4 ≤ a1_ → x1 = yckz f x4 → ((a1_ - x4).toNat) < N → zF X σ 5 [some (.ref (X.1.1 + 165)), some (.int (zI a1_)), some (.int (zI x1)), some (.int (zI x4))] [] := by
    intro N
    induction N with
    | zero =>
      intro x1 x4 h2 h3 h5 h6 g7 g8 g9 hm11
      exact absurd hm11 (Nat.not_lt_zero _)
    | succ N ih12 =>
      intro x1 x4 h2 h3 h5 h6 g7 g8 g9 hm11
      refine zt_iload_n (pc' := 6) hX dX12_checked_5 rfl rfl ?_
      refine zt_iload_n (pc' := 7) hX dX12_checked_6 rfl rfl ?_
      refine zt_icge (pc' := 10) (tgt := 28) hX dX12_checked_7 rfl (by decide) ⟨by omega, by omega⟩ ⟨by omega, by omega⟩ (fun c13 => ?_) (fun c13 => ?_)
      · refine zt_iload_n (pc' := 29) hX dX12_checked_28 rfl rfl ?_
        exact zt_iret hX hR dX12_checked_29 ⟨by omega, by omega⟩ ⟨rfl, by omega, by omega, (by rw [show a1_ = x4 by omega]; exact g9)⟩
      · refine zt_iconst (pc' := 11) hX dX12_checked_10 rfl ?_
        refine zt_iload_n (pc' := 12) hX dX12_checked_11 rfl rfl ?_
        refine zt_imul (pc' := 13) hX dX12_checked_12 rfl ?_
        refine zt_aload_n (pc' := 14) hX dX12_checked_13 rfl rfl ?_
        refine zt_iload_n (pc' := 15) hX dX12_checked_14 rfl rfl ?_
        refine zt_iald (pc' := 16) hX dX12_checked_15 rfl (by decide) zc_165 zs_47 (by decide) ⟨by omega, by omega⟩ ?_
        generalize hv14 : σ 165 (x4.toNat) = v14
        have bv14 : 0 ≤ v14 ∧ v14 ≤ 255 := hv14 ▸ zv_47 hI zc_165 _
        refine zt_iadd (pc' := 17) hX dX12_checked_16 rfl ?_
        refine zt_sipush (pc' := 20) hX dX12_checked_17 rfl (by decide) (by decide) ?_
        refine zt_irem (pc' := 21) hX dX12_checked_20 rfl ⟨by omega, by omega⟩ ⟨by omega, by omega⟩ (fun r15 er15 br15 nr15 => ?_)
        rw [ztm_p (by omega)] at er15
        refine zt_istore_n (pc' := 22) (lv' := [some (.ref (X.1.1 + 165)), some (.int (zI a1_)), some (.int (zI r15)), some (.int (zI x4))]) hX dX12_checked_21 rfl hL (by decide) rfl ?_
        refine zt_iinc (pc' := 25) (lv' := [some (.ref (X.1.1 + 165)), some (.int (zI a1_)), some (.int (zI r15)), some (.int (zI (x4 + 1)))]) hX dX12_checked_22 rfl rfl hL (by decide) rfl ?_
        refine zt_goto (tgt := 5) hX dX12_checked_25 (by decide) ?_
        exact ih12 r15 (x4 + 1) (by omega) (by omega) (by omega) (by omega) (by omega) (by omega) (yckz_s g9 (by omega) (yTf_a hf (by omega) (by omega) hv14) rfl (er15.trans (ztm_p (by omega)).symm)) (by omega)
  exact L_5_9 _ 127 0 (by omega) (by omega) (by omega) (by omega) (by omega) (by omega) yckz_0 (Nat.lt_succ_self _)
set_option maxRecDepth 100000 in
set_option maxHeartbeats 4000000 in
theorem yd_X12_isPersonTold (l : Launch) (E : zEN) (σ : zSto) (hI : zInv σ) (a1_ : Int) (ha1_ : 2 ≤ a1_ ∧ a1_ ≤ 38) (a2_ : Int) (ha2_ : 0 ≤ a2_ ∧ a2_ ≤ 9) (f : Int → Int) (n : Int) (hf : yTf σ f n) (hn : a1_ + 4 * a2_ + 3 < n) (hp1 : σ 164 50 = 1) (bb cc rr : Int) (hbb : a1_ = bb) (hcc : σ 194 3 = cc ∧ σ 194 4 = rr) : zCt l E yX12_isPersonTold cX12_isPersonTold 5 (some .boolean) 2 zNC zNC 0 0 σ [.ref (E.1 + 164), .int (zI a1_), .int (zI a2_)] (fun r σ' => σ = σ' ∧ 0 ≤ r ∧ r ≤ 1 ∧ (yIr (yPe f bb cc rr a2_) r)) := by
  refine zCt_of2 [some (.ref (E.1 + 164)), some (.int (zI a1_)), some (.int (zI a2_)), none, none] (by decide +kernel) (Nat.le_of_ble_eq_true rfl) rfl ?_
  intro X hE_ hX hR hL hN
  subst hE_
  have hX : zok X cX12_isPersonTold RX12 2 := hX
  subst hbb
  obtain ⟨rfl, rfl⟩ := hcc
  refine zt_iload_n (pc' := 1) hX dX12_isPersonTold_0 rfl rfl ?_
  refine zt_iconst (pc' := 2) hX dX12_isPersonTold_1 rfl ?_
  refine zt_iload_n (pc' := 3) hX dX12_isPersonTold_2 rfl rfl ?_
  refine zt_imul (pc' := 4) hX dX12_isPersonTold_3 rfl ?_
  refine zt_iadd (pc' := 5) hX dX12_isPersonTold_4 rfl ?_
  refine zt_istore_n (pc' := 6) (lv' := [some (.ref (X.1.1 + 164)), some (.int (zI a1_)), some (.int (zI a2_)), some (.int (zI (a1_ + (4 * a2_)))), none]) hX dX12_isPersonTold_5 rfl hL (by decide) rfl ?_
  refine zt_aload_n (pc' := 7) hX dX12_isPersonTold_6 rfl rfl ?_
  refine zt_aload_n (pc' := 8) hX dX12_isPersonTold_7 rfl rfl ?_
  refine zt_get (pc' := 11) (v := .ref (X.1.1 + 165)) hX dX12_isPersonTold_8 rfl zf_X12_7 (by decide) zc_164 zs_46 (zrf_of (zv_46_0 hI zc_164)) ?_
  refine zt_iload_n (pc' := 12) hX dX12_isPersonTold_11 rfl rfl ?_
  refine zt_iald (pc' := 13) hX dX12_isPersonTold_12 rfl (by decide) zc_165 zs_47 (by decide) ⟨by omega, by omega⟩ ?_
  generalize hv1 : σ 165 ((a1_ + (4 * a2_)).toNat) = v1
  have bv1 : 0 ≤ v1 ∧ v1 ≤ 255 := hv1 ▸ zv_47 hI zc_165 _
  refine zt_aload_n (pc' := 14) hX dX12_isPersonTold_13 rfl rfl ?_
  refine zt_get (pc' := 17) (v := .ref (X.1.1 + 165)) hX dX12_isPersonTold_14 rfl zf_X12_7 (by decide) zc_164 zs_46 (zrf_of (zv_46_0 hI zc_164)) ?_
  refine zt_iload_n (pc' := 18) hX dX12_isPersonTold_17 rfl rfl ?_
  refine zt_iconst (pc' := 19) hX dX12_isPersonTold_18 rfl ?_
  refine zt_iadd (pc' := 20) hX dX12_isPersonTold_19 rfl ?_
  refine zt_iald (pc' := 21) hX dX12_isPersonTold_20 rfl (by decide) zc_165 zs_47 (by decide) ⟨by omega, by omega⟩ ?_
  generalize hv2 : σ 165 (((a1_ + (4 * a2_)) + 1).toNat) = v2
  have bv2 : 0 ≤ v2 ∧ v2 ≤ 255 := hv2 ▸ zv_47 hI zc_165 _
  refine zt_cVi (pc' := 24) hX dX12_isPersonTold_21 rfl zm_yX12_cellAt zw_44_11 zc_164 (by decide) zs_46 (q := (RX12, TX12, 108)) rfl rfl (zc_X12_cellAt_C _ _ σ hI v1 ⟨by omega, by omega⟩ v2 ⟨by omega, by omega⟩) rfl rfl (Nat.le_of_ble_eq_true rfl) (by decide) (fun r3 s4 hr5 hp6 => ?_)
  obtain ⟨rfl, q7, q8, z9, z10⟩ := hp6
  replace z9 : yIm _ _ := z9
  replace z10 : yIm _ _ := z10
  refine zt_iconst (pc' := 25) hX dX12_isPersonTold_24 rfl ?_
  refine zt_iceq (pc' := 28) (tgt := 53) hX dX12_isPersonTold_25 rfl (by decide) ⟨by omega, by omega⟩ ⟨by omega, by omega⟩ (fun c11 => ?_) (fun c11 => ?_)
  · refine zt_iconst (pc' := 54) hX dX12_isPersonTold_53 rfl ?_
    exact zt_zret hX hR dX12_isPersonTold_54 ⟨by omega, by omega⟩ ⟨rfl, by omega, by omega, (yIr_n (yPe_c (yTf_a (u := a1_ + 4 * a2_) hf (by omega) (by omega) hv1) (yTf_a (u := a1_ + 4 * a2_ + 1) hf (by omega) (by omega) hv2) (fun g => absurd (show _ = (-1 : Int) by omega) (z10 ⟨hp1, g⟩))) rfl)⟩
  · refine zt_aload_n (pc' := 29) hX dX12_isPersonTold_28 rfl rfl ?_
    refine zt_get (pc' := 32) (v := .ref (X.1.1 + 165)) hX dX12_isPersonTold_29 rfl zf_X12_7 (by decide) zc_164 zs_46 (zrf_of (zv_46_0 hI zc_164)) ?_
    refine zt_iload_n (pc' := 33) hX dX12_isPersonTold_32 rfl rfl ?_
    refine zt_iconst (pc' := 34) hX dX12_isPersonTold_33 rfl ?_
    refine zt_iadd (pc' := 35) hX dX12_isPersonTold_34 rfl ?_
    refine zt_iald (pc' := 36) hX dX12_isPersonTold_35 rfl (by decide) zc_165 zs_47 (by decide) ⟨by omega, by omega⟩ ?_
    generalize hv12 : σ 165 (((a1_ + (4 * a2_)) + 2).toNat) = v12
    have bv12 : 0 ≤ v12 ∧ v12 ≤ 255 := hv12 ▸ zv_47 hI zc_165 _
    refine zt_bipush (pc' := 38) hX dX12_isPersonTold_36 rfl (by decide) (by decide) ?_
    refine zt_icgt (pc' := 41) (tgt := 53) hX dX12_isPersonTold_38 rfl (by decide) ⟨by omega, by omega⟩ ⟨by omega, by omega⟩ (fun c13 => ?_) (fun c13 => ?_)
    · refine zt_iconst (pc' := 54) hX dX12_isPersonTold_53 rfl ?_
      exact zt_zret hX hR dX12_isPersonTold_54 ⟨by omega, by omega⟩ ⟨rfl, by omega, by omega, (yIr_n (yPe_t (yTf_a (u := a1_ + 4 * a2_ + 2) hf (by omega) (by omega) hv12) (by omega)) rfl)⟩
    · refine zt_aload_n (pc' := 42) hX dX12_isPersonTold_41 rfl rfl ?_
      refine zt_get (pc' := 45) (v := .ref (X.1.1 + 165)) hX dX12_isPersonTold_42 rfl zf_X12_7 (by decide) zc_164 zs_46 (zrf_of (zv_46_0 hI zc_164)) ?_
      refine zt_iload_n (pc' := 46) hX dX12_isPersonTold_45 rfl rfl ?_
      refine zt_iconst (pc' := 47) hX dX12_isPersonTold_46 rfl ?_
      refine zt_iadd (pc' := 48) hX dX12_isPersonTold_47 rfl ?_
      refine zt_iald (pc' := 49) hX dX12_isPersonTold_48 rfl (by decide) zc_165 zs_47 (by decide) ⟨by omega, by omega⟩ ?_
      generalize hv14 : σ 165 (((a1_ + (4 * a2_)) + 3).toNat) = v14
      have bv14 : 0 ≤ v14 ∧ v14 ≤ 255 := hv14 ▸ zv_47 hI zc_165 _
      refine zt_iconst (pc' := 50) hX dX12_isPersonTold_49 rfl ?_
      refine zt_icle (pc' := 53) (tgt := 55) hX dX12_isPersonTold_50 rfl (by decide) ⟨by omega, by omega⟩ ⟨by omega, by omega⟩ (fun c15 => ?_) (fun c15 => ?_)
      · refine zt_iload_n (pc' := 56) hX dX12_isPersonTold_55 rfl rfl ?_
        refine zt_istore (pc' := 58) (lv' := [some (.ref (X.1.1 + 164)), some (.int (zI a1_)), some (.int (zI a2_)), some (.int (zI (a1_ + (4 * a2_)))), some (.int (zI a1_))]) hX dX12_isPersonTold_56 rfl hL (by decide) rfl ?_
        have L_58_22 : ∀ (N : Nat) (x16 : Int), 2 ≤ x16 → x16 ≤ 77 → a1_ ≤ x16 → x16 ≤ a1_ + 4 * a2_ → (x16 - a1_) % 4 = 0 → yOt f a1_ a2_ ((x16 - a1_) / 4) → ((80 - x16).toNat) < N → zF X σ 58 [some (.ref (X.1.1 + 164)), none, none, some (.int (zI (a1_ + (4 * a2_)))), some (.int (zI x16))] [] := by
          intro N
          induction N with
          | zero =>
            intro x16 h17 h18 g19 g20 g21 g22 hm24
            exact absurd hm24 (Nat.not_lt_zero _)
          | succ N ih25 =>
            intro x16 h17 h18 g19 g20 g21 g22 hm24
            have q26 := 0
            · refine zt_iload (pc' := 60) hX dX12_isPersonTold_58 rfl rfl ?_
              refine zt_iload_n (pc' := 61) hX dX12_isPersonTold_60 rfl rfl ?_
              refine zt_icge (pc' := 64) (tgt := 108) hX dX12_isPersonTold_61 rfl (by decide) ⟨by omega, by omega⟩ ⟨by omega, by omega⟩ (fun c27 => ?_) (fun c27 => ?_)
              · refine zt_iconst (pc' := 109) hX dX12_isPersonTold_108 rfl ?_
                exact zt_zret hX hR dX12_isPersonTold_109 ⟨by omega, by omega⟩ ⟨rfl, by omega, by omega, (yIr_y (yPe_y (yTf_a (u := a1_ + 4 * a2_) hf (by omega) (by omega) hv1) (yTf_a (u := a1_ + 4 * a2_ + 1) hf (by omega) (by omega) hv2) (yTf_a (u := a1_ + 4 * a2_ + 2) hf (by omega) (by omega) hv12) (yTf_a (u := a1_ + 4 * a2_ + 3) hf (by omega) (by omega) hv14) (by have q := z9 (by omega); exact q.2) ⟨by omega, by omega⟩ (yOt_le g22 (by omega))) rfl)⟩
              · refine zt_aload_n (pc' := 65) hX dX12_isPersonTold_64 rfl rfl ?_
                refine zt_get (pc' := 68) (v := .ref (X.1.1 + 165)) hX dX12_isPersonTold_65 rfl zf_X12_7 (by decide) zc_164 zs_46 (zrf_of (zv_46_0 hI zc_164)) ?_
                refine zt_iload (pc' := 70) hX dX12_isPersonTold_68 rfl rfl ?_
                refine zt_iald (pc' := 71) hX dX12_isPersonTold_70 rfl (by decide) zc_165 zs_47 (by decide) ⟨by omega, by omega⟩ ?_
                generalize hv28 : σ 165 (x16.toNat) = v28
                have bv28 : 0 ≤ v28 ∧ v28 ≤ 255 := hv28 ▸ zv_47 hI zc_165 _
                refine zt_aload_n (pc' := 72) hX dX12_isPersonTold_71 rfl rfl ?_
                refine zt_get (pc' := 75) (v := .ref (X.1.1 + 165)) hX dX12_isPersonTold_72 rfl zf_X12_7 (by decide) zc_164 zs_46 (zrf_of (zv_46_0 hI zc_164)) ?_
                refine zt_iload_n (pc' := 76) hX dX12_isPersonTold_75 rfl rfl ?_
                refine zt_iald (pc' := 77) hX dX12_isPersonTold_76 rfl (by decide) zc_165 zs_47 (by decide) ⟨by omega, by omega⟩ ?_
                generalize hv29 : σ 165 ((a1_ + (4 * a2_)).toNat) = v29
                have bv29 : 0 ≤ v29 ∧ v29 ≤ 255 := hv29 ▸ zv_47 hI zc_165 _
                refine zt_icne (pc' := 80) (tgt := 102) hX dX12_isPersonTold_77 rfl (by decide) ⟨by omega, by omega⟩ ⟨by omega, by omega⟩ (fun c30 => ?_) (fun c30 => ?_)
                · refine zt_iinc (pc' := 105) (lv' := [some (.ref (X.1.1 + 164)), none, none, some (.int (zI (a1_ + (4 * a2_)))), some (.int (zI (x16 + 4)))]) hX dX12_isPersonTold_102 rfl rfl hL (by decide) rfl ?_
                  refine zt_goto (tgt := 58) hX dX12_isPersonTold_105 (by decide) ?_
                  exact ih25 (x16 + 4) (by omega) (by omega) (by omega) (by omega) (by omega) (by rw [show (x16 + 4 - a1_) / 4 = (x16 - a1_) / 4 + 1 by omega]; exact yOt_s1 g22 (show v28 = f (a1_ + 4 * ((x16 - a1_) / 4)) by rw [show a1_ + 4 * ((x16 - a1_) / 4) = x16 by omega]; exact (yTf_a (u := x16) hf (by omega) (by omega) hv28)) (yTf_a (u := a1_ + 4 * a2_) hf (by omega) (by omega) hv29) (by omega)) (by omega)
                · refine zt_aload_n (pc' := 81) hX dX12_isPersonTold_80 rfl rfl ?_
                  refine zt_get (pc' := 84) (v := .ref (X.1.1 + 165)) hX dX12_isPersonTold_81 rfl zf_X12_7 (by decide) zc_164 zs_46 (zrf_of (zv_46_0 hI zc_164)) ?_
                  refine zt_iload (pc' := 86) hX dX12_isPersonTold_84 rfl rfl ?_
                  refine zt_iconst (pc' := 87) hX dX12_isPersonTold_86 rfl ?_
                  refine zt_iadd (pc' := 88) hX dX12_isPersonTold_87 rfl ?_
                  refine zt_iald (pc' := 89) hX dX12_isPersonTold_88 rfl (by decide) zc_165 zs_47 (by decide) ⟨by omega, by omega⟩ ?_
                  generalize hv31 : σ 165 ((x16 + 1).toNat) = v31
                  have bv31 : 0 ≤ v31 ∧ v31 ≤ 255 := hv31 ▸ zv_47 hI zc_165 _
                  refine zt_aload_n (pc' := 90) hX dX12_isPersonTold_89 rfl rfl ?_
                  refine zt_get (pc' := 93) (v := .ref (X.1.1 + 165)) hX dX12_isPersonTold_90 rfl zf_X12_7 (by decide) zc_164 zs_46 (zrf_of (zv_46_0 hI zc_164)) ?_
                  refine zt_iload_n (pc' := 94) hX dX12_isPersonTold_93 rfl rfl ?_
                  refine zt_iconst (pc' := 95) hX dX12_isPersonTold_94 rfl ?_
                  refine zt_iadd (pc' := 96) hX dX12_isPersonTold_95 rfl ?_
                  refine zt_iald (pc' := 97) hX dX12_isPersonTold_96 rfl (by decide) zc_165 zs_47 (by decide) ⟨by omega, by omega⟩ ?_
                  generalize hv32 : σ 165 (((a1_ + (4 * a2_)) + 1).toNat) = v32
                  have bv32 : 0 ≤ v32 ∧ v32 ≤ 255 := hv32 ▸ zv_47 hI zc_165 _
                  refine zt_icne (pc' := 100) (tgt := 102) hX dX12_isPersonTold_97 rfl (by decide) ⟨by omega, by omega⟩ ⟨by omega, by omega⟩ (fun c33 => ?_) (fun c33 => ?_)
                  · refine zt_iinc (pc' := 105) (lv' := [some (.ref (X.1.1 + 164)), none, none, some (.int (zI (a1_ + (4 * a2_)))), some (.int (zI (x16 + 4)))]) hX dX12_isPersonTold_102 rfl rfl hL (by decide) rfl ?_
                    refine zt_goto (tgt := 58) hX dX12_isPersonTold_105 (by decide) ?_
                    exact ih25 (x16 + 4) (by omega) (by omega) (by omega) (by omega) (by omega) (by rw [show (x16 + 4 - a1_) / 4 = (x16 - a1_) / 4 + 1 by omega]; exact yOt_s2 g22 (show v31 = f (a1_ + 4 * ((x16 - a1_) / 4) + 1) by rw [show a1_ + 4 * ((x16 - a1_) / 4) + 1 = x16 + 1 by omega]; exact (yTf_a (u := x16 + 1) hf (by omega) (by omega) hv31)) (yTf_a (u := a1_ + 4 * a2_ + 1) hf (by omega) (by omega) hv32) (by omega)) (by omega)
                  · refine zt_iconst (pc' := 101) hX dX12_isPersonTold_100 rfl ?_
                    exact zt_zret hX hR dX12_isPersonTold_101 ⟨by omega, by omega⟩ ⟨rfl, by omega, by omega, (yIr_n (yPe_o (yOt_n (k := (x16 - a1_) / 4) (by omega) (by omega) (show v28 = f (a1_ + 4 * ((x16 - a1_) / 4)) by rw [show a1_ + 4 * ((x16 - a1_) / 4) = x16 by omega]; exact (yTf_a (u := x16) hf (by omega) (by omega) hv28)) (show v31 = f (a1_ + 4 * ((x16 - a1_) / 4) + 1) by rw [show a1_ + 4 * ((x16 - a1_) / 4) + 1 = x16 + 1 by omega]; exact (yTf_a (u := x16 + 1) hf (by omega) (by omega) hv31)) (yTf_a (u := a1_ + 4 * a2_) hf (by omega) (by omega) hv29) (yTf_a (u := a1_ + 4 * a2_ + 1) hf (by omega) (by omega) hv32) ⟨by omega, by omega⟩)) rfl)⟩
        refine zt_mask [true, false, false, true, true] rfl ?_
        exact L_58_22 _ a1_ (by omega) (by omega) (by omega) (by omega) (by omega) (by rw [show (a1_ - a1_) / 4 = 0 by omega]; exact yOt_0) (Nat.lt_succ_self _)
      · refine zt_iconst (pc' := 54) hX dX12_isPersonTold_53 rfl ?_
        exact zt_zret hX hR dX12_isPersonTold_54 ⟨by omega, by omega⟩ ⟨rfl, by omega, by omega, (yIr_n (yPe_u (yTf_a (u := a1_ + 4 * a2_ + 3) hf (by omega) (by omega) hv14) (by omega)) rfl)⟩
set_option maxRecDepth 100000 in
set_option maxHeartbeats 4000000 in
theorem yd_X12_isImage (l : Launch) (E : zEN) (σ : zSto) (hI : zInv σ) (a1_ : Int) (ha1_ : 0 ≤ a1_ ∧ a1_ ≤ 1600) (f : Int → Int) (hf : yTf σ f a1_) (hNe : yPne σ) (cc rr mm : Int) (hcc : σ 194 3 = cc ∧ σ 194 4 = rr ∧ σ 195 1 = mm) : zCt l E yX12_isImage cX12_isImage 4 (some .boolean) 3 zNC zNC 0 0 σ [.ref (E.1 + 164), .int (zI a1_)] (fun r σ' => σ = σ' ∧ 0 ≤ r ∧ r ≤ 1 ∧ (yIr (yIx f a1_ cc rr mm) r) ∧ (yIm (r = 1) (zip σ (2 + cc * rr) mm = 1))) := by
  refine zCt_of2 [some (.ref (E.1 + 164)), some (.int (zI a1_)), none, none] (by decide +kernel) (Nat.le_of_ble_eq_true rfl) rfl ?_
  intro X hE_ hX hR hL hN
  subst hE_
  have hX : zok X cX12_isImage RX12 3 := hX
  obtain ⟨rfl, rfl, rfl⟩ := hcc
  have b_a := zv_76 hI zc_194 3
  have b_b := zv_76 hI zc_194 4
  have b_m := ymul36 (a := σ 194 3) (b := σ 194 4) ⟨by omega, by omega⟩ ⟨by omega, by omega⟩
  have b_p := zv_77 hI zc_195 1
  refine zt_iconst (pc' := 1) hX dX12_isImage_0 rfl ?_
  refine zt_aload_n (pc' := 2) hX dX12_isImage_1 rfl rfl ?_
  refine zt_cVi (pc' := 5) hX dX12_isImage_2 rfl zm_yX12_cellMany zw_44_19 zc_164 (by decide) zs_46 (q := (RX12, TX12, 108)) rfl rfl (zc_X12_cellMany _ _ σ hI ) rfl rfl (Nat.le_of_ble_eq_true rfl) (by decide) (fun r1 s2 hr3 hp4 => ?_)
  obtain ⟨rfl, q5, q6, z7⟩ := hp4
  refine zt_iadd (pc' := 6) hX dX12_isImage_5 rfl ?_
  refine zt_istore_n (pc' := 7) (lv' := [some (.ref (X.1.1 + 164)), some (.int (zI a1_)), some (.int (zI (2 + r1))), none]) hX dX12_isImage_6 rfl hL (by decide) rfl ?_
  refine zt_aload_n (pc' := 8) hX dX12_isImage_7 rfl rfl ?_
  have b8 := zv_46_50 hI zc_164
  refine zt_get (pc' := 11) (v := .int (zI (σ 164 50))) hX dX12_isImage_8 rfl zf_X12_375 (by decide) zc_164 zs_46 rfl ?_
  refine zt_ifeq (pc' := 14) (tgt := 72) hX dX12_isImage_11 rfl (by decide) ⟨by omega, by omega⟩ (fun c9 => ?_) (fun c9 => ?_)
  · refine zt_iconst (pc' := 73) hX dX12_isImage_72 rfl ?_
    exact zt_zret hX hR dX12_isImage_73 ⟨by omega, by omega⟩ ⟨rfl, by omega, by omega, (yIr_n (by first | exact yIx_l (by omega) | exact yIx_c (by have q := yPne_0 hNe (by omega); omega)) rfl), (fun o => absurd o (by decide))⟩
  · refine zt_iload_n (pc' := 15) hX dX12_isImage_14 rfl rfl ?_
    refine zt_iload_n (pc' := 16) hX dX12_isImage_15 rfl rfl ?_
    refine zt_iconst (pc' := 17) hX dX12_isImage_16 rfl ?_
    refine zt_aload_n (pc' := 18) hX dX12_isImage_17 rfl rfl ?_
    refine zt_cVi (pc' := 21) hX dX12_isImage_18 rfl zm_yX12_peopleMany zw_38_4 zc_164 (by decide) zs_46 (q := (RX12, TX12, 108)) rfl rfl (zc_X12_peopleMany _ _ σ hI ) rfl rfl (Nat.le_of_ble_eq_true rfl) (by decide) (fun r10 s11 hr12 hp13 => ?_)
    obtain ⟨rfl, q14, q15, z16⟩ := hp13
    refine zt_imul (pc' := 22) hX dX12_isImage_21 rfl ?_
    refine zt_iadd (pc' := 23) hX dX12_isImage_22 rfl ?_
    refine zt_iconst (pc' := 24) hX dX12_isImage_23 rfl ?_
    refine zt_iadd (pc' := 25) hX dX12_isImage_24 rfl ?_
    refine zt_icne (pc' := 28) (tgt := 72) hX dX12_isImage_25 rfl (by decide) ⟨by omega, by omega⟩ ⟨by omega, by omega⟩ (fun c17 => ?_) (fun c17 => ?_)
    · refine zt_iconst (pc' := 73) hX dX12_isImage_72 rfl ?_
      exact zt_zret hX hR dX12_isImage_73 ⟨by omega, by omega⟩ ⟨rfl, by omega, by omega, (yIr_n (by first | exact yIx_l (by omega) | exact yIx_c (by have q := yPne_0 hNe (by omega); omega)) rfl), (fun o => absurd o (by decide))⟩
    · refine zt_aload_n (pc' := 29) hX dX12_isImage_28 rfl rfl ?_
      refine zt_get (pc' := 32) (v := .ref (X.1.1 + 165)) hX dX12_isImage_29 rfl zf_X12_7 (by decide) zc_164 zs_46 (zrf_of (zv_46_0 hI zc_164)) ?_
      refine zt_iload_n (pc' := 33) hX dX12_isImage_32 rfl rfl ?_
      refine zt_iconst (pc' := 34) hX dX12_isImage_33 rfl ?_
      refine zt_isub (pc' := 35) hX dX12_isImage_34 rfl ?_
      refine zt_iald (pc' := 36) hX dX12_isImage_35 rfl (by decide) zc_165 zs_47 (by decide) ⟨by omega, by omega⟩ ?_
      generalize hv18 : σ 165 ((a1_ - 1).toNat) = v18
      have bv18 : 0 ≤ v18 ∧ v18 ≤ 255 := hv18 ▸ zv_47 hI zc_165 _
      refine zt_aload_n (pc' := 37) hX dX12_isImage_36 rfl rfl ?_
      refine zt_get (pc' := 40) (v := .ref (X.1.1 + 165)) hX dX12_isImage_37 rfl zf_X12_7 (by decide) zc_164 zs_46 (zrf_of (zv_46_0 hI zc_164)) ?_
      refine zt_iload_n (pc' := 41) hX dX12_isImage_40 rfl rfl ?_
      refine zt_iconst (pc' := 42) hX dX12_isImage_41 rfl ?_
      refine zt_isub (pc' := 43) hX dX12_isImage_42 rfl ?_
      refine zt_cSi (pc' := 46) hX dX12_isImage_43 rfl zm_yX12_checked zw_68_4 (yd_X12_checked_t _ _ σ hI (a1_ - 1) ⟨by omega, by omega⟩ f a1_ hf (by omega)) rfl rfl (Nat.le_of_ble_eq_true rfl) (by decide) (fun r19 s20 hr21 hp22 => ?_)
      obtain ⟨rfl, q23, q24, z25⟩ := hp22
      refine zt_icne (pc' := 49) (tgt := 72) hX dX12_isImage_46 rfl (by decide) ⟨by omega, by omega⟩ ⟨by omega, by omega⟩ (fun c26 => ?_) (fun c26 => ?_)
      · refine zt_iconst (pc' := 73) hX dX12_isImage_72 rfl ?_
        exact zt_zret hX hR dX12_isImage_73 ⟨by omega, by omega⟩ ⟨rfl, by omega, by omega, (yIr_n (by first | exact yIx_k (yTf_a (u := a1_ - 1) hf (by omega) (by omega) hv18) rfl z25 (by omega) | exact yIx_h (show 256 * σ 165 0 + σ 165 1 = 256 * f 0 + f 1 from (by have t0 : σ 165 0 = f 0 := hf 0 (by omega); have t1 : σ 165 1 = f 1 := hf 1 (by omega); omega)) (by omega)) rfl), (fun o => absurd o (by decide))⟩
      · refine zt_sipush (pc' := 52) hX dX12_isImage_49 rfl (by decide) (by decide) ?_
        refine zt_aload_n (pc' := 53) hX dX12_isImage_52 rfl rfl ?_
        refine zt_get (pc' := 56) (v := .ref (X.1.1 + 165)) hX dX12_isImage_53 rfl zf_X12_7 (by decide) zc_164 zs_46 (zrf_of (zv_46_0 hI zc_164)) ?_
        refine zt_iconst (pc' := 57) hX dX12_isImage_56 rfl ?_
        refine zt_iald (pc' := 58) hX dX12_isImage_57 rfl (by decide) zc_165 zs_47 (by decide) ⟨by omega, by omega⟩ ?_
        rw [show Int.toNat 0 = 0 from rfl]
        have b28 := zv_47 hI zc_165 0
        refine zt_imul (pc' := 59) hX dX12_isImage_58 rfl ?_
        refine zt_aload_n (pc' := 60) hX dX12_isImage_59 rfl rfl ?_
        refine zt_get (pc' := 63) (v := .ref (X.1.1 + 165)) hX dX12_isImage_60 rfl zf_X12_7 (by decide) zc_164 zs_46 (zrf_of (zv_46_0 hI zc_164)) ?_
        refine zt_iconst (pc' := 64) hX dX12_isImage_63 rfl ?_
        refine zt_iald (pc' := 65) hX dX12_isImage_64 rfl (by decide) zc_165 zs_47 (by decide) ⟨by omega, by omega⟩ ?_
        rw [show Int.toNat 1 = 1 from rfl]
        have b30 := zv_47 hI zc_165 1
        refine zt_iadd (pc' := 66) hX dX12_isImage_65 rfl ?_
        refine zt_sipush (pc' := 69) hX dX12_isImage_66 rfl (by decide) (by decide) ?_
        refine zt_icle (pc' := 72) (tgt := 74) hX dX12_isImage_69 rfl (by decide) ⟨by omega, by omega⟩ ⟨by omega, by omega⟩ (fun c31 => ?_) (fun c31 => ?_)
        · refine zt_iconst (pc' := 75) hX dX12_isImage_74 rfl ?_
          refine zt_istore_n (pc' := 76) (lv' := [some (.ref (X.1.1 + 164)), some (.int (zI a1_)), some (.int (zI (2 + r1))), some (.int (zI 2))]) hX dX12_isImage_75 rfl hL (by decide) rfl ?_
          have L_76_37 : ∀ (N : Nat) (x32 : Int), 2 ≤ x32 → x32 ≤ 38 → 2 ≤ x32 → x32 ≤ 2 + σ 194 3 * σ 194 4 → yCe f (x32 - 2) → ((40 - x32).toNat) < N → zF X σ 76 [some (.ref (X.1.1 + 164)), none, some (.int (zI (2 + r1))), some (.int (zI x32))] [] := by
            intro N
            induction N with
            | zero =>
              intro x32 h33 h34 g35 g36 g37 hm39
              exact absurd hm39 (Nat.not_lt_zero _)
            | succ N ih40 =>
              intro x32 h33 h34 g35 g36 g37 hm39
              have q41 := 0
              · refine zt_iload_n (pc' := 77) hX dX12_isImage_76 rfl rfl ?_
                refine zt_iload_n (pc' := 78) hX dX12_isImage_77 rfl rfl ?_
                refine zt_icge (pc' := 81) (tgt := 99) hX dX12_isImage_78 rfl (by decide) ⟨by omega, by omega⟩ ⟨by omega, by omega⟩ (fun c42 => ?_) (fun c42 => ?_)
                · refine zt_iconst (pc' := 100) hX dX12_isImage_99 rfl ?_
                  refine zt_istore_n (pc' := 101) (lv' := [some (.ref (X.1.1 + 164)), none, some (.int (zI (2 + r1))), some (.int (zI 0))]) hX dX12_isImage_100 rfl hL (by decide) rfl ?_
                  have L_101_48 : ∀ (N : Nat) (x43 : Int), 0 ≤ x43 → x43 ≤ 10 → 0 ≤ x43 → x43 ≤ σ 195 1 → yPs_ f (2 + σ 194 3 * σ 194 4) (σ 194 3) (σ 194 4) x43 → ((11 - x43).toNat) < N → zF X σ 101 [some (.ref (X.1.1 + 164)), none, some (.int (zI (2 + r1))), some (.int (zI x43))] [] := by
                    intro N
                    induction N with
                    | zero =>
                      intro x43 h44 h45 g46 g47 g48 hm50
                      exact absurd hm50 (Nat.not_lt_zero _)
                    | succ N ih51 =>
                      intro x43 h44 h45 g46 g47 g48 hm50
                      have q52 := 0
                      · refine zt_iload_n (pc' := 102) hX dX12_isImage_101 rfl rfl ?_
                        refine zt_aload_n (pc' := 103) hX dX12_isImage_102 rfl rfl ?_
                        refine zt_cVi (pc' := 106) hX dX12_isImage_103 rfl zm_yX12_peopleMany zw_38_4 zc_164 (by decide) zs_46 (q := (RX12, TX12, 108)) rfl rfl (zc_X12_peopleMany _ _ σ hI ) rfl rfl (Nat.le_of_ble_eq_true rfl) (by decide) (fun r53 s54 hr55 hp56 => ?_)
                        obtain ⟨rfl, q57, q58, z59⟩ := hp56
                        refine zt_icge (pc' := 109) (tgt := 126) hX dX12_isImage_106 rfl (by decide) ⟨by omega, by omega⟩ ⟨by omega, by omega⟩ (fun c60 => ?_) (fun c60 => ?_)
                        · refine zt_iconst (pc' := 127) hX dX12_isImage_126 rfl ?_
                          have hix : yIx f a1_ (σ 194 3) (σ 194 4) (σ 195 1) := ⟨yHd_y (yPne_1 hNe (by omega)).1 (by omega) (yTf_a (u := a1_ - 1) hf (by omega) (by omega) hv18) rfl z25 (by omega) (show 256 * σ 165 0 + σ 165 1 = 256 * f 0 + f 1 from (by have t0 : σ 165 0 = f 0 := hf 0 (by omega); have t1 : σ 165 1 = f 1 := hf 1 (by omega); omega)) (by omega), (by rw [show σ 194 3 * σ 194 4 = x32 - 2 by omega]; exact g37), (by rw [show σ 195 1 = x43 by omega]; exact g48)⟩
                          exact zt_zret hX hR dX12_isImage_127 ⟨by omega, by omega⟩ ⟨rfl, by omega, by omega, (yIr_y hix rfl), (fun _ => yIx_zip hix hf (by omega) (by omega) (by omega))⟩
                        · refine zt_aload_n (pc' := 110) hX dX12_isImage_109 rfl rfl ?_
                          refine zt_iload_n (pc' := 111) hX dX12_isImage_110 rfl rfl ?_
                          refine zt_iload_n (pc' := 112) hX dX12_isImage_111 rfl rfl ?_
                          refine zt_cVz (pc' := 115) hX dX12_isImage_112 rfl zm_yX12_isPersonTold zw_69_19 zc_164 (by decide) zs_46 (q := (RX12, TX12, 108)) rfl rfl (yd_X12_isPersonTold _ _ σ hI (2 + r1) ⟨by omega, by omega⟩ x43 ⟨by omega, by omega⟩ f a1_ hf (by omega) (yPne_1 hNe (by omega)).2 (2 + σ 194 3 * σ 194 4) (σ 194 3) (σ 194 4) (by omega) ⟨rfl, rfl⟩) rfl rfl (Nat.le_of_ble_eq_true rfl) (by decide) (fun r61 s62 hr63 hp64 => ?_)
                          obtain ⟨rfl, q65, q66, z67⟩ := hp64
                          rcases yIr_b z67 with ⟨rfl, c68⟩ | ⟨rfl, c68⟩
                          · clear z67
                            refine zt_ifne (pc' := 118) (tgt := 120) hX dX12_isImage_115 rfl (by decide) ⟨by omega, by omega⟩ (fun c69 => ?_) (fun c69 => ?_)
                            · refine zt_iinc (pc' := 123) (lv' := [some (.ref (X.1.1 + 164)), none, some (.int (zI (2 + r1))), some (.int (zI (x43 + 1)))]) hX dX12_isImage_120 rfl rfl hL (by decide) rfl ?_
                              refine zt_goto (tgt := 101) hX dX12_isImage_123 (by decide) ?_
                              exact ih51 (x43 + 1) (by omega) (by omega) (by omega) (by omega) (yPs__s g48 c68) (by omega)
                            · exact absurd c69 (by omega)
                          · clear z67
                            refine zt_ifne (pc' := 118) (tgt := 120) hX dX12_isImage_115 rfl (by decide) ⟨by omega, by omega⟩ (fun c70 => ?_) (fun c70 => ?_)
                            · exact absurd c70 (by omega)
                            · refine zt_iconst (pc' := 119) hX dX12_isImage_118 rfl ?_
                              exact zt_zret hX hR dX12_isImage_119 ⟨by omega, by omega⟩ ⟨rfl, by omega, by omega, (yIr_n (fun g => yPs__n (k := x43) (by omega) (by omega) c68 g.2.2) rfl), (fun o => absurd o (by decide))⟩
                  exact L_101_48 _ 0 (by omega) (by omega) (by omega) (by omega) yPs__0 (Nat.lt_succ_self _)
                · refine zt_aload_n (pc' := 82) hX dX12_isImage_81 rfl rfl ?_
                  refine zt_get (pc' := 85) (v := .ref (X.1.1 + 165)) hX dX12_isImage_82 rfl zf_X12_7 (by decide) zc_164 zs_46 (zrf_of (zv_46_0 hI zc_164)) ?_
                  refine zt_iload_n (pc' := 86) hX dX12_isImage_85 rfl rfl ?_
                  refine zt_iald (pc' := 87) hX dX12_isImage_86 rfl (by decide) zc_165 zs_47 (by decide) ⟨by omega, by omega⟩ ?_
                  generalize hv71 : σ 165 (x32.toNat) = v71
                  have bv71 : 0 ≤ v71 ∧ v71 ≤ 255 := hv71 ▸ zv_47 hI zc_165 _
                  refine zt_iconst (pc' := 88) hX dX12_isImage_87 rfl ?_
                  refine zt_icle (pc' := 91) (tgt := 93) hX dX12_isImage_88 rfl (by decide) ⟨by omega, by omega⟩ ⟨by omega, by omega⟩ (fun c72 => ?_) (fun c72 => ?_)
                  · refine zt_iinc (pc' := 96) (lv' := [some (.ref (X.1.1 + 164)), none, some (.int (zI (2 + r1))), some (.int (zI (x32 + 1)))]) hX dX12_isImage_93 rfl rfl hL (by decide) rfl ?_
                    refine zt_goto (tgt := 76) hX dX12_isImage_96 (by decide) ?_
                    exact ih40 (x32 + 1) (by omega) (by omega) (by omega) (by omega) (by rw [show x32 + 1 - 2 = (x32 - 2) + 1 by omega]; exact yCe_s g37 (yTf_a (u := x32) hf (by omega) (by omega) hv71) (by omega) (by omega)) (by omega)
                  · refine zt_iconst (pc' := 92) hX dX12_isImage_91 rfl ?_
                    exact zt_zret hX hR dX12_isImage_92 ⟨by omega, by omega⟩ ⟨rfl, by omega, by omega, (yIr_n (fun g => yCe_n (k := x32 - 2) (by omega) (by omega) (yTf_a (u := x32) hf (by omega) (by omega) hv71) (by omega) (by omega) g.2.1) rfl), (fun o => absurd o (by decide))⟩
          refine zt_mask [true, false, true, true] rfl ?_
          exact L_76_37 _ 2 (by omega) (by omega) (by omega) (by omega) (show yCe f (2 - 2) from yCe_0) (Nat.lt_succ_self _)
        · refine zt_iconst (pc' := 73) hX dX12_isImage_72 rfl ?_
          exact zt_zret hX hR dX12_isImage_73 ⟨by omega, by omega⟩ ⟨rfl, by omega, by omega, (yIr_n (by first | exact yIx_k (yTf_a (u := a1_ - 1) hf (by omega) (by omega) hv18) rfl z25 (by omega) | exact yIx_h (show 256 * σ 165 0 + σ 165 1 = 256 * f 0 + f 1 from (by have t0 : σ 165 0 = f 0 := hf 0 (by omega); have t1 : σ 165 1 = f 1 := hf 1 (by omega); omega)) (by omega)) rfl), (fun o => absurd o (by decide))⟩
set_option maxRecDepth 100000 in
set_option maxHeartbeats 4000000 in
theorem yd_X12_on (l : Launch) (E : zEN) (σ : zSto) (hI : zInv σ) (hNe : yPne σ) : zCt l E yX12_on cX12_on 5 (some .boolean) 4 zNC zNC 0 0 σ [.ref (E.1 + 164)] (fun r σ' => zInv σ' ∧ zOn zAl σ σ' ∧ 0 ≤ r ∧ r ≤ 1 ∧ (yIr (yIx (yW σ) (σ 164 1) (σ 194 3) (σ 194 4) (σ 195 1)) r)) := by
  refine zCt_of2 [some (.ref (E.1 + 164)), none, none, none, none] (by decide +kernel) (Nat.le_of_ble_eq_true rfl) rfl ?_
  intro X hE_ hX hR hL hN
  subst hE_
  have hX : zok X cX12_on RX12 4 := hX
  have hF := zOn_rf zAl σ
  have b_a := zv_76 hI zc_194 3
  have b_b := zv_76 hI zc_194 4
  have b_m := ymul36 (a := σ 194 3) (b := σ 194 4) ⟨by omega, by omega⟩ ⟨by omega, by omega⟩
  have b1 := zv_77 hI zc_195 1
  refine zt_aload_n (pc' := 1) hX dX12_on_0 rfl rfl ?_
  have b2 := zv_46_1 hI zc_164
  refine zt_get (pc' := 4) (v := .int (zI (σ 164 1))) hX dX12_on_1 rfl zf_X12_243 (by decide) zc_164 zs_46 rfl ?_
  refine zt_istore_n (pc' := 5) (lv' := [some (.ref (X.1.1 + 164)), some (.int (zI (σ 164 1))), none, none, none]) hX dX12_on_4 rfl hL (by decide) rfl ?_
  refine zt_aload_n (pc' := 6) hX dX12_on_5 rfl rfl ?_
  refine zt_iconst (pc' := 7) hX dX12_on_6 rfl ?_
  refine zt_put (pc' := 10) (x := 0) hX dX12_on_7 rfl zf_X12_243 (by decide) zc_164 zs_46 (fun q hq => by cases hq; rfl) rfl rfl rfl ?_
  generalize hs4 : zset σ 164 1 0 = s3
  have hI5 : zInv s3 := hs4 ▸ zp_46_1 hI zc_164 ⟨by omega, by omega⟩
  have hF6 : zOn zAl σ s3 := hs4 ▸ zOn_set hF rfl
  have w7 := zip_k hs4 (2 + σ 194 3 * σ 194 4) (σ 195 1) (by decide)
  have e8 : s3 195 1 = σ 195 1 := by rw [← hs4]; exact zset_k (zne_r zc_195 zc_164 (by decide))
  have e9 : s3 194 3 = σ 194 3 := by rw [← hs4]; exact zset_k (zne_r zc_194 zc_164 (by decide))
  have e10 : s3 194 4 = σ 194 4 := by rw [← hs4]; exact zset_k (zne_r zc_194 zc_164 (by decide))
  refine zt_aload_n (pc' := 11) hX dX12_on_10 rfl rfl ?_
  refine zt_iload_n (pc' := 12) hX dX12_on_11 rfl rfl ?_
  refine zt_cVz (pc' := 15) hX dX12_on_12 rfl zm_yX12_isImage zw_69_15 zc_164 (by decide) zs_46 (q := (RX12, TX12, 108)) rfl rfl (yd_X12_isImage _ _ s3 hI5 (σ 164 1) ⟨by omega, by omega⟩ (yW σ) (yTf_w (fun j => by rw [← hs4]; exact zset_k (by decide))) (yPne_eq hNe (by rw [← hs4]; exact zset_j (by decide)) (show s3 194 3 = σ 194 3 from by rw [← hs4]; exact zset_k (by decide))) (σ 194 3) (σ 194 4) (σ 195 1) ⟨(show s3 194 3 = σ 194 3 from by rw [← hs4]; exact zset_k (by decide)), (show s3 194 4 = σ 194 4 from by rw [← hs4]; exact zset_k (by decide)), (show s3 195 1 = σ 195 1 from by rw [← hs4]; exact zset_k (by decide))⟩) rfl rfl (Nat.le_of_ble_eq_true rfl) (by decide) (fun r11 s12 hr13 hp14 => ?_)
  obtain ⟨rfl, q15, q16, z17, z18⟩ := hp14
  have hzp_ : yIm (r11 = 1) (zip s3 (2 + σ 194 3 * σ 194 4) (σ 195 1) = 1) := z18
  clear z18
  rcases yIr_b z17 with ⟨rfl, c19⟩ | ⟨rfl, c19⟩
  · clear z17
    refine zt_ifne (pc' := 18) (tgt := 30) hX dX12_on_15 rfl (by decide) ⟨by omega, by omega⟩ (fun c20 => ?_) (fun c20 => ?_)
    · refine zt_iconst (pc' := 31) hX dX12_on_30 rfl ?_
      have h21 := hzp_ rfl
      refine zt_aload_n (pc' := 32) hX dX12_on_31 rfl rfl ?_
      refine zt_cVi (pc' := 35) hX dX12_on_32 rfl zm_yX12_cellMany zw_44_19 zc_164 (by decide) zs_46 (q := (RX12, TX12, 108)) rfl rfl (zc_X12_cellMany _ _ s3 hI5 ) rfl rfl (Nat.le_of_ble_eq_true rfl) (by decide) (fun r22 s23 hr24 hp25 => ?_)
      obtain ⟨rfl, q26, q27, z28⟩ := hp25
      have hc29 : r22 = σ 194 3 * σ 194 4 := z28.trans (ymul_c (by omega) (by omega))
      refine zt_iadd (pc' := 36) hX dX12_on_35 rfl ?_
      refine zt_istore_n (pc' := 37) (lv' := [some (.ref (X.1.1 + 164)), some (.int (zI (σ 164 1))), some (.int (zI (2 + r22))), none, none]) hX dX12_on_36 rfl hL (by decide) rfl ?_
      refine zt_aload_n (pc' := 38) hX dX12_on_37 rfl rfl ?_
      refine zt_get (pc' := 41) (v := .ref (X.1.1 + 203)) hX dX12_on_38 rfl zf_X12_130 (by decide) zc_164 zs_46 (zrf_of (zv_46_52 hI5 zc_164)) ?_
      refine zt_iconst (pc' := 42) hX dX12_on_41 rfl ?_
      refine zt_sipush (pc' := 45) hX dX12_on_42 rfl (by decide) (by decide) ?_
      refine zt_aload_n (pc' := 46) hX dX12_on_45 rfl rfl ?_
      refine zt_get (pc' := 49) (v := .ref (X.1.1 + 165)) hX dX12_on_46 rfl zf_X12_7 (by decide) zc_164 zs_46 (zrf_of (zv_46_0 hI5 zc_164)) ?_
      refine zt_iconst (pc' := 50) hX dX12_on_49 rfl ?_
      refine zt_iald (pc' := 51) hX dX12_on_50 rfl (by decide) zc_165 zs_47 (by decide) ⟨by omega, by omega⟩ ?_
      rw [show Int.toNat 0 = 0 from rfl]
      have b31 := zv_47 hI5 zc_165 0
      have e32 : s3 165 0 = σ 165 0 := by rw [← hs4]; exact zset_k (zne_r zc_165 zc_164 (by decide))
      refine zt_imul (pc' := 52) hX dX12_on_51 rfl ?_
      refine zt_aload_n (pc' := 53) hX dX12_on_52 rfl rfl ?_
      refine zt_get (pc' := 56) (v := .ref (X.1.1 + 165)) hX dX12_on_53 rfl zf_X12_7 (by decide) zc_164 zs_46 (zrf_of (zv_46_0 hI5 zc_164)) ?_
      refine zt_iconst (pc' := 57) hX dX12_on_56 rfl ?_
      refine zt_iald (pc' := 58) hX dX12_on_57 rfl (by decide) zc_165 zs_47 (by decide) ⟨by omega, by omega⟩ ?_
      rw [show Int.toNat 1 = 1 from rfl]
      have b34 := zv_47 hI5 zc_165 1
      have e35 : s3 165 1 = σ 165 1 := by rw [← hs4]; exact zset_k (zne_r zc_165 zc_164 (by decide))
      refine zt_iadd (pc' := 59) hX dX12_on_58 rfl ?_
      refine zt_iast (pc' := 60) hX dX12_on_59 rfl (by decide) zc_203 zs_85 (by decide) ⟨by omega, by omega⟩ ?_
      rw [show Int.toNat 0 = 0 from rfl]
      generalize hs37 : zset s3 203 0 ((256 * (s3 165 0)) + (s3 165 1)) = s36
      have hI38 : zInv s36 := hs37 ▸ zp_85 hI5 zc_203 0 (by omega)
      have hF39 : zOn zAl σ s36 := hs37 ▸ zOn_set hF6 rfl
      have w40 := zip_k hs37 (2 + σ 194 3 * σ 194 4) (σ 195 1) (by decide)
      have e41 : s36 195 1 = s3 195 1 := by rw [← hs37]; exact zset_k (zne_r zc_195 zc_203 (by decide))
      have e42 : s36 194 3 = s3 194 3 := by rw [← hs37]; exact zset_k (zne_r zc_194 zc_203 (by decide))
      have e43 : s36 194 4 = s3 194 4 := by rw [← hs37]; exact zset_k (zne_r zc_194 zc_203 (by decide))
      refine zt_iconst (pc' := 61) hX dX12_on_60 rfl ?_
      refine zt_istore_n (pc' := 62) (lv' := [some (.ref (X.1.1 + 164)), some (.int (zI (σ 164 1))), some (.int (zI (2 + r22))), some (.int (zI 0)), none]) hX dX12_on_61 rfl hL (by decide) rfl ?_
      have L_62_53 : ∀ (N : Nat) (x44 : Int) (s47 : zSto), 0 ≤ x44 → x44 ≤ 36 → zInv s47 → zOn zAl σ s47 → zip s47 (2 + σ 194 3 * σ 194 4) (σ 195 1) = 1 → s47 195 1 = σ 195 1 → s47 194 3 = σ 194 3 → s47 194 4 = σ 194 4 → ((37 - x44).toNat) < N → zF X s47 62 [some (.ref (X.1.1 + 164)), none, some (.int (zI (2 + r22))), some (.int (zI x44)), none] [] := by
        intro N
        induction N with
        | zero =>
          intro x44 s47 h45 h46 hI48 hF49 g50 g51 g52 g53 hm55
          exact absurd hm55 (Nat.not_lt_zero _)
        | succ N ih56 =>
          intro x44 s47 h45 h46 hI48 hF49 g50 g51 g52 g53 hm55
          have b57 := zv_77 hI48 zc_195 1
          refine zt_iload_n (pc' := 63) hX dX12_on_62 rfl rfl ?_
          refine zt_aload_n (pc' := 64) hX dX12_on_63 rfl rfl ?_
          refine zt_cVi (pc' := 67) hX dX12_on_64 rfl zm_yX12_cellMany zw_44_19 zc_164 (by decide) zs_46 (q := (RX12, TX12, 108)) rfl rfl (zc_X12_cellMany _ _ s47 hI48 ) rfl rfl (Nat.le_of_ble_eq_true rfl) (by decide) (fun r58 s59 hr60 hp61 => ?_)
          obtain ⟨rfl, q62, q63, z64⟩ := hp61
          have hc65 : r58 = σ 194 3 * σ 194 4 := z64.trans (ymul_c (by omega) (by omega))
          refine zt_icge (pc' := 70) (tgt := 96) hX dX12_on_67 rfl (by decide) ⟨by omega, by omega⟩ ⟨by omega, by omega⟩ (fun c66 => ?_) (fun c66 => ?_)
          · refine zt_iconst (pc' := 97) hX dX12_on_96 rfl ?_
            refine zt_istore_n (pc' := 98) (lv' := [some (.ref (X.1.1 + 164)), none, some (.int (zI (2 + r22))), some (.int (zI 0)), none]) hX dX12_on_97 rfl hL (by decide) rfl ?_
            have L_98_76 : ∀ (N : Nat) (x67 : Int) (s70 : zSto), 0 ≤ x67 → x67 ≤ 10 → zInv s70 → zOn zAl σ s70 → zip s70 (2 + σ 194 3 * σ 194 4) (σ 195 1) = 1 → s70 195 1 = σ 195 1 → s70 194 3 = σ 194 3 → s70 194 4 = σ 194 4 → ((11 - x67).toNat) < N → zF X s70 98 [some (.ref (X.1.1 + 164)), none, some (.int (zI (2 + r22))), some (.int (zI x67)), none] [] := by
              intro N
              induction N with
              | zero =>
                intro x67 s70 h68 h69 hI71 hF72 g73 g74 g75 g76 hm78
                exact absurd hm78 (Nat.not_lt_zero _)
              | succ N ih79 =>
                intro x67 s70 h68 h69 hI71 hF72 g73 g74 g75 g76 hm78
                have b80 := zv_77 hI71 zc_195 1
                refine zt_iload_n (pc' := 99) hX dX12_on_98 rfl rfl ?_
                refine zt_aload_n (pc' := 100) hX dX12_on_99 rfl rfl ?_
                refine zt_cVi (pc' := 103) hX dX12_on_100 rfl zm_yX12_peopleMany zw_38_4 zc_164 (by decide) zs_46 (q := (RX12, TX12, 108)) rfl rfl (zc_X12_peopleMany _ _ s70 hI71 ) rfl rfl (Nat.le_of_ble_eq_true rfl) (by decide) (fun r81 s82 hr83 hp84 => ?_)
                obtain ⟨rfl, q85, q86, z87⟩ := hp84
                refine zt_icge (pc' := 106) (tgt := 194) hX dX12_on_103 rfl (by decide) ⟨by omega, by omega⟩ ⟨by omega, by omega⟩ (fun c88 => ?_) (fun c88 => ?_)
                · refine zt_aload_n (pc' := 195) hX dX12_on_194 rfl rfl ?_
                  refine zt_get (pc' := 198) (v := .ref (X.1.1 + 203)) hX dX12_on_195 rfl zf_X12_130 (by decide) zc_164 zs_46 (zrf_of (zv_46_52 hI71 zc_164)) ?_
                  refine zt_bipush (pc' := 200) hX dX12_on_198 rfl (by decide) (by decide) ?_
                  refine zt_iconst (pc' := 201) hX dX12_on_200 rfl ?_
                  refine zt_iast (pc' := 202) hX dX12_on_201 rfl (by decide) zc_203 zs_85 (by decide) ⟨by omega, by omega⟩ ?_
                  rw [show Int.toNat 67 = 67 from rfl]
                  generalize hs90 : zset s70 203 67 0 = s89
                  have hI91 : zInv s89 := hs90 ▸ zp_85 hI71 zc_203 67 (by omega)
                  have hF92 : zOn zAl σ s89 := hs90 ▸ zOn_set hF72 rfl
                  have w93 := zip_k hs90 (2 + σ 194 3 * σ 194 4) (σ 195 1) (by decide)
                  have e94 : s89 195 1 = s70 195 1 := by rw [← hs90]; exact zset_k (zne_r zc_195 zc_203 (by decide))
                  have e95 : s89 194 3 = s70 194 3 := by rw [← hs90]; exact zset_k (zne_r zc_194 zc_203 (by decide))
                  have e96 : s89 194 4 = s70 194 4 := by rw [← hs90]; exact zset_k (zne_r zc_194 zc_203 (by decide))
                  refine zt_aload_n (pc' := 203) hX dX12_on_202 rfl rfl ?_
                  refine zt_iconst (pc' := 204) hX dX12_on_203 rfl ?_
                  refine zt_put (pc' := 207) (x := 0) hX dX12_on_204 rfl zf_X12_379 (by decide) zc_164 zs_46 (fun q hq => by cases hq; rfl) rfl rfl rfl ?_
                  generalize hs98 : zset s89 164 70 0 = s97
                  have hI99 : zInv s97 := hs98 ▸ zp_46_70 hI91 zc_164 ⟨by omega, by omega⟩
                  have hF100 : zOn zAl σ s97 := hs98 ▸ zOn_set hF92 rfl
                  have w101 := zip_k hs98 (2 + σ 194 3 * σ 194 4) (σ 195 1) (by decide)
                  have e102 : s97 195 1 = s89 195 1 := by rw [← hs98]; exact zset_k (zne_r zc_195 zc_164 (by decide))
                  have e103 : s97 194 3 = s89 194 3 := by rw [← hs98]; exact zset_k (zne_r zc_194 zc_164 (by decide))
                  have e104 : s97 194 4 = s89 194 4 := by rw [← hs98]; exact zset_k (zne_r zc_194 zc_164 (by decide))
                  refine zt_iconst (pc' := 208) hX dX12_on_207 rfl ?_
                  exact zt_zret hX hR dX12_on_208 ⟨by omega, by omega⟩ ⟨hI99, hF100, by omega, by omega, (yIr_y c19 rfl)⟩
                · refine zt_iload_n (pc' := 107) hX dX12_on_106 rfl rfl ?_
                  refine zt_iconst (pc' := 108) hX dX12_on_107 rfl ?_
                  refine zt_iload_n (pc' := 109) hX dX12_on_108 rfl rfl ?_
                  refine zt_imul (pc' := 110) hX dX12_on_109 rfl ?_
                  refine zt_iadd (pc' := 111) hX dX12_on_110 rfl ?_
                  refine zt_istore (pc' := 113) (lv' := [some (.ref (X.1.1 + 164)), none, some (.int (zI (2 + r22))), some (.int (zI x67)), some (.int (zI ((2 + r22) + (4 * x67))))]) hX dX12_on_111 rfl hL (by decide) rfl ?_
                  refine zt_aload_n (pc' := 114) hX dX12_on_113 rfl rfl ?_
                  refine zt_get (pc' := 117) (v := .ref (X.1.1 + 203)) hX dX12_on_114 rfl zf_X12_130 (by decide) zc_164 zs_46 (zrf_of (zv_46_52 hI71 zc_164)) ?_
                  refine zt_bipush (pc' := 119) hX dX12_on_117 rfl (by decide) (by decide) ?_
                  refine zt_iconst (pc' := 120) hX dX12_on_119 rfl ?_
                  refine zt_iload_n (pc' := 121) hX dX12_on_120 rfl rfl ?_
                  refine zt_imul (pc' := 122) hX dX12_on_121 rfl ?_
                  refine zt_iadd (pc' := 123) hX dX12_on_122 rfl ?_
                  refine zt_aload_n (pc' := 124) hX dX12_on_123 rfl rfl ?_
                  refine zt_get (pc' := 127) (v := .ref (X.1.1 + 165)) hX dX12_on_124 rfl zf_X12_7 (by decide) zc_164 zs_46 (zrf_of (zv_46_0 hI71 zc_164)) ?_
                  refine zt_iload (pc' := 129) hX dX12_on_127 rfl rfl ?_
                  refine zt_iald (pc' := 130) hX dX12_on_129 rfl (by decide) zc_165 zs_47 (by decide) ⟨by omega, by omega⟩ ?_
                  generalize hv105 : s70 165 (((2 + r22) + (4 * x67)).toNat) = v105
                  have bv105 : 0 ≤ v105 ∧ v105 ≤ 255 := hv105 ▸ zv_47 hI71 zc_165 _
                  refine zt_bipush (pc' := 132) hX dX12_on_130 rfl (by decide) (by decide) ?_
                  refine zt_aload_n (pc' := 133) hX dX12_on_132 rfl rfl ?_
                  refine zt_get (pc' := 136) (v := .ref (X.1.1 + 165)) hX dX12_on_133 rfl zf_X12_7 (by decide) zc_164 zs_46 (zrf_of (zv_46_0 hI71 zc_164)) ?_
                  refine zt_iload (pc' := 138) hX dX12_on_136 rfl rfl ?_
                  refine zt_iconst (pc' := 139) hX dX12_on_138 rfl ?_
                  refine zt_iadd (pc' := 140) hX dX12_on_139 rfl ?_
                  refine zt_iald (pc' := 141) hX dX12_on_140 rfl (by decide) zc_165 zs_47 (by decide) ⟨by omega, by omega⟩ ?_
                  generalize hv106 : s70 165 ((((2 + r22) + (4 * x67)) + 1).toNat) = v106
                  have bv106 : 0 ≤ v106 ∧ v106 ≤ 255 := hv106 ▸ zv_47 hI71 zc_165 _
                  have h107 := zip_at (s := s70) (a := 2 + σ 194 3 * σ 194 4) (n := σ 195 1) (k := x67) (v := v105) (w := v106) (by omega) (by omega) (by omega) (by rw [show 2 + σ 194 3 * σ 194 4 + 4 * x67 = ((2 + r22) + (4 * x67)) by omega]; exact hv105) (by rw [show 2 + σ 194 3 * σ 194 4 + 4 * x67 + 1 = ((2 + r22) + (4 * x67)) + 1 by omega]; exact hv106)
                  refine zt_imul (pc' := 142) hX dX12_on_141 rfl ?_
                  refine zt_iadd (pc' := 143) hX dX12_on_142 rfl ?_
                  refine zt_iast (pc' := 144) hX dX12_on_143 rfl (by decide) zc_203 zs_85 (by decide) ⟨by omega, by omega⟩ ?_
                  generalize hs109 : zset s70 203 ((37 + (3 * x67)).toNat) (v105 + (6 * v106)) = s108
                  have hI110 : zInv s108 := hs109 ▸ zp_85 hI71 zc_203 ((37 + (3 * x67)).toNat) (by omega)
                  have hF111 : zOn zAl σ s108 := hs109 ▸ zOn_set hF72 rfl
                  have w112 := zip_k hs109 (2 + σ 194 3 * σ 194 4) (σ 195 1) (by decide)
                  have e113 : s108 195 1 = s70 195 1 := by rw [← hs109]; exact zset_k (zne_r zc_195 zc_203 (by decide))
                  have e114 : s108 194 3 = s70 194 3 := by rw [← hs109]; exact zset_k (zne_r zc_194 zc_203 (by decide))
                  have e115 : s108 194 4 = s70 194 4 := by rw [← hs109]; exact zset_k (zne_r zc_194 zc_203 (by decide))
                  refine zt_aload_n (pc' := 145) hX dX12_on_144 rfl rfl ?_
                  refine zt_get (pc' := 148) (v := .ref (X.1.1 + 203)) hX dX12_on_145 rfl zf_X12_130 (by decide) zc_164 zs_46 (zrf_of (zv_46_52 hI110 zc_164)) ?_
                  refine zt_bipush (pc' := 150) hX dX12_on_148 rfl (by decide) (by decide) ?_
                  refine zt_iconst (pc' := 151) hX dX12_on_150 rfl ?_
                  refine zt_iload_n (pc' := 152) hX dX12_on_151 rfl rfl ?_
                  refine zt_imul (pc' := 153) hX dX12_on_152 rfl ?_
                  refine zt_iadd (pc' := 154) hX dX12_on_153 rfl ?_
                  refine zt_iconst (pc' := 155) hX dX12_on_154 rfl ?_
                  refine zt_iadd (pc' := 156) hX dX12_on_155 rfl ?_
                  refine zt_aload_n (pc' := 157) hX dX12_on_156 rfl rfl ?_
                  refine zt_get (pc' := 160) (v := .ref (X.1.1 + 165)) hX dX12_on_157 rfl zf_X12_7 (by decide) zc_164 zs_46 (zrf_of (zv_46_0 hI110 zc_164)) ?_
                  refine zt_iload (pc' := 162) hX dX12_on_160 rfl rfl ?_
                  refine zt_iconst (pc' := 163) hX dX12_on_162 rfl ?_
                  refine zt_iadd (pc' := 164) hX dX12_on_163 rfl ?_
                  refine zt_iald (pc' := 165) hX dX12_on_164 rfl (by decide) zc_165 zs_47 (by decide) ⟨by omega, by omega⟩ ?_
                  generalize hv116 : s108 165 ((((2 + r22) + (4 * x67)) + 2).toNat) = v116
                  have bv116 : 0 ≤ v116 ∧ v116 ≤ 255 := hv116 ▸ zv_47 hI110 zc_165 _
                  refine zt_iast (pc' := 166) hX dX12_on_165 rfl (by decide) zc_203 zs_85 (by decide) ⟨by omega, by omega⟩ ?_
                  generalize hs118 : zset s108 203 (((37 + (3 * x67)) + 1).toNat) v116 = s117
                  have hI119 : zInv s117 := hs118 ▸ zp_85 hI110 zc_203 (((37 + (3 * x67)) + 1).toNat) (by omega)
                  have hF120 : zOn zAl σ s117 := hs118 ▸ zOn_set hF111 rfl
                  have w121 := zip_k hs118 (2 + σ 194 3 * σ 194 4) (σ 195 1) (by decide)
                  have e122 : s117 195 1 = s108 195 1 := by rw [← hs118]; exact zset_k (zne_r zc_195 zc_203 (by decide))
                  have e123 : s117 194 3 = s108 194 3 := by rw [← hs118]; exact zset_k (zne_r zc_194 zc_203 (by decide))
                  have e124 : s117 194 4 = s108 194 4 := by rw [← hs118]; exact zset_k (zne_r zc_194 zc_203 (by decide))
                  refine zt_aload_n (pc' := 167) hX dX12_on_166 rfl rfl ?_
                  refine zt_get (pc' := 170) (v := .ref (X.1.1 + 203)) hX dX12_on_167 rfl zf_X12_130 (by decide) zc_164 zs_46 (zrf_of (zv_46_52 hI119 zc_164)) ?_
                  refine zt_bipush (pc' := 172) hX dX12_on_170 rfl (by decide) (by decide) ?_
                  refine zt_iconst (pc' := 173) hX dX12_on_172 rfl ?_
                  refine zt_iload_n (pc' := 174) hX dX12_on_173 rfl rfl ?_
                  refine zt_imul (pc' := 175) hX dX12_on_174 rfl ?_
                  refine zt_iadd (pc' := 176) hX dX12_on_175 rfl ?_
                  refine zt_iconst (pc' := 177) hX dX12_on_176 rfl ?_
                  refine zt_iadd (pc' := 178) hX dX12_on_177 rfl ?_
                  refine zt_aload_n (pc' := 179) hX dX12_on_178 rfl rfl ?_
                  refine zt_get (pc' := 182) (v := .ref (X.1.1 + 165)) hX dX12_on_179 rfl zf_X12_7 (by decide) zc_164 zs_46 (zrf_of (zv_46_0 hI119 zc_164)) ?_
                  refine zt_iload (pc' := 184) hX dX12_on_182 rfl rfl ?_
                  refine zt_iconst (pc' := 185) hX dX12_on_184 rfl ?_
                  refine zt_iadd (pc' := 186) hX dX12_on_185 rfl ?_
                  refine zt_iald (pc' := 187) hX dX12_on_186 rfl (by decide) zc_165 zs_47 (by decide) ⟨by omega, by omega⟩ ?_
                  generalize hv125 : s117 165 ((((2 + r22) + (4 * x67)) + 3).toNat) = v125
                  have bv125 : 0 ≤ v125 ∧ v125 ≤ 255 := hv125 ▸ zv_47 hI119 zc_165 _
                  refine zt_iast (pc' := 188) hX dX12_on_187 rfl (by decide) zc_203 zs_85 (by decide) ⟨by omega, by omega⟩ ?_
                  generalize hs127 : zset s117 203 (((37 + (3 * x67)) + 2).toNat) v125 = s126
                  have hI128 : zInv s126 := hs127 ▸ zp_85 hI119 zc_203 (((37 + (3 * x67)) + 2).toNat) (by omega)
                  have hF129 : zOn zAl σ s126 := hs127 ▸ zOn_set hF120 rfl
                  have w130 := zip_k hs127 (2 + σ 194 3 * σ 194 4) (σ 195 1) (by decide)
                  have e131 : s126 195 1 = s117 195 1 := by rw [← hs127]; exact zset_k (zne_r zc_195 zc_203 (by decide))
                  have e132 : s126 194 3 = s117 194 3 := by rw [← hs127]; exact zset_k (zne_r zc_194 zc_203 (by decide))
                  have e133 : s126 194 4 = s117 194 4 := by rw [← hs127]; exact zset_k (zne_r zc_194 zc_203 (by decide))
                  refine zt_iinc (pc' := 191) (lv' := [some (.ref (X.1.1 + 164)), none, some (.int (zI (2 + r22))), some (.int (zI (x67 + 1))), some (.int (zI ((2 + r22) + (4 * x67))))]) hX dX12_on_188 rfl rfl hL (by decide) rfl ?_
                  refine zt_goto (tgt := 98) hX dX12_on_191 (by decide) ?_
                  refine zt_mask [true, false, true, true, false] rfl ?_
                  exact ih79 (x67 + 1) s126 (by omega) (by omega) hI128 hF129 (by omega) (by omega) (by omega) (by omega) (by omega)
            exact L_98_76 _ 0 s47 (by omega) (by omega) hI48 hF49 (by omega) (by omega) (by omega) (by omega) (Nat.lt_succ_self _)
          · refine zt_aload_n (pc' := 71) hX dX12_on_70 rfl rfl ?_
            refine zt_get (pc' := 74) (v := .ref (X.1.1 + 203)) hX dX12_on_71 rfl zf_X12_130 (by decide) zc_164 zs_46 (zrf_of (zv_46_52 hI48 zc_164)) ?_
            refine zt_iconst (pc' := 75) hX dX12_on_74 rfl ?_
            refine zt_aload_n (pc' := 76) hX dX12_on_75 rfl rfl ?_
            refine zt_iload_n (pc' := 77) hX dX12_on_76 rfl rfl ?_
            refine zt_cVi (pc' := 80) hX dX12_on_77 rfl zm_yX12_cellOf zw_44_23 zc_164 (by decide) zs_46 (q := (RX12, TX12, 108)) rfl rfl (zc_X12_cellOf _ _ s47 hI48 x44 ⟨by omega, by omega⟩ (by omega)) rfl rfl (Nat.le_of_ble_eq_true rfl) (by decide) (fun r134 s135 hr136 hp137 => ?_)
            obtain ⟨rfl, q138, q139⟩ := hp137
            refine zt_iadd (pc' := 81) hX dX12_on_80 rfl ?_
            refine zt_aload_n (pc' := 82) hX dX12_on_81 rfl rfl ?_
            refine zt_get (pc' := 85) (v := .ref (X.1.1 + 165)) hX dX12_on_82 rfl zf_X12_7 (by decide) zc_164 zs_46 (zrf_of (zv_46_0 hI48 zc_164)) ?_
            refine zt_iconst (pc' := 86) hX dX12_on_85 rfl ?_
            refine zt_iload_n (pc' := 87) hX dX12_on_86 rfl rfl ?_
            refine zt_iadd (pc' := 88) hX dX12_on_87 rfl ?_
            refine zt_iald (pc' := 89) hX dX12_on_88 rfl (by decide) zc_165 zs_47 (by decide) ⟨by omega, by omega⟩ ?_
            generalize hv140 : s47 165 ((2 + x44).toNat) = v140
            have bv140 : 0 ≤ v140 ∧ v140 ≤ 255 := hv140 ▸ zv_47 hI48 zc_165 _
            refine zt_iast (pc' := 90) hX dX12_on_89 rfl (by decide) zc_203 zs_85 (by decide) ⟨by omega, by omega⟩ ?_
            generalize hs142 : zset s47 203 ((1 + r134).toNat) v140 = s141
            have hI143 : zInv s141 := hs142 ▸ zp_85 hI48 zc_203 ((1 + r134).toNat) (by omega)
            have hF144 : zOn zAl σ s141 := hs142 ▸ zOn_set hF49 rfl
            have w145 := zip_k hs142 (2 + σ 194 3 * σ 194 4) (σ 195 1) (by decide)
            have e146 : s141 195 1 = s47 195 1 := by rw [← hs142]; exact zset_k (zne_r zc_195 zc_203 (by decide))
            have e147 : s141 194 3 = s47 194 3 := by rw [← hs142]; exact zset_k (zne_r zc_194 zc_203 (by decide))
            have e148 : s141 194 4 = s47 194 4 := by rw [← hs142]; exact zset_k (zne_r zc_194 zc_203 (by decide))
            refine zt_iinc (pc' := 93) (lv' := [some (.ref (X.1.1 + 164)), none, some (.int (zI (2 + r22))), some (.int (zI (x44 + 1))), none]) hX dX12_on_90 rfl rfl hL (by decide) rfl ?_
            refine zt_goto (tgt := 62) hX dX12_on_93 (by decide) ?_
            exact ih56 (x44 + 1) s141 (by omega) (by omega) hI143 hF144 (by omega) (by omega) (by omega) (by omega) (by omega)
      refine zt_mask [true, false, true, true, false] rfl ?_
      exact L_62_53 _ 0 s36 (by omega) (by omega) hI38 hF39 (by omega) (by omega) (by omega) (by omega) (Nat.lt_succ_self _)
    · exact absurd c20 (by omega)
  · clear z17
    refine zt_ifne (pc' := 18) (tgt := 30) hX dX12_on_15 rfl (by decide) ⟨by omega, by omega⟩ (fun c149 => ?_) (fun c149 => ?_)
    · exact absurd c149 (by omega)
    · refine zt_aload_n (pc' := 19) hX dX12_on_18 rfl rfl ?_
      refine zt_get (pc' := 22) (v := .ref (X.1.1 + 166)) hX dX12_on_19 rfl zf_X12_17 (by decide) zc_164 zs_46 (zrf_of (zv_46_9 hI5 zc_164)) ?_
      refine zt_iconst (pc' := 23) hX dX12_on_22 rfl ?_
      refine zt_dup2 (pc' := 24) hX dX12_on_23 rfl rfl rfl ?_
      refine zt_iald (pc' := 25) hX dX12_on_24 rfl (by decide) zc_166 zs_48 (by decide) ⟨by omega, by omega⟩ ?_
      rw [show Int.toNat 5 = 5 from rfl]
      have b151 := zv_48 hI5 zc_166 5
      have e152 : s3 166 5 = σ 166 5 := by rw [← hs4]; exact zset_k (zne_r zc_166 zc_164 (by decide))
      refine zt_iconst (pc' := 26) hX dX12_on_25 rfl ?_
      refine zt_iadd (pc' := 27) hX dX12_on_26 rfl ?_
      refine zt_wrap (fun r153 zr153 lr153 ur153 => ?_)
      clear zr153
      refine zt_iast (pc' := 28) hX dX12_on_27 rfl (by decide) zc_166 zs_48 (by decide) ⟨by omega, by omega⟩ ?_
      rw [show Int.toNat 5 = 5 from rfl]
      generalize hs155 : zset s3 166 5 r153 = s154
      have hI156 : zInv s154 := hs155 ▸ zp_48 hI5 zc_166 5 ⟨by omega, by omega⟩
      have hF157 : zOn zAl σ s154 := hs155 ▸ zOn_set hF6 rfl
      have w158 := zip_k hs155 (2 + σ 194 3 * σ 194 4) (σ 195 1) (by decide)
      have e159 : s154 195 1 = s3 195 1 := by rw [← hs155]; exact zset_k (zne_r zc_195 zc_166 (by decide))
      have e160 : s154 194 3 = s3 194 3 := by rw [← hs155]; exact zset_k (zne_r zc_194 zc_166 (by decide))
      have e161 : s154 194 4 = s3 194 4 := by rw [← hs155]; exact zset_k (zne_r zc_194 zc_166 (by decide))
      refine zt_iconst (pc' := 29) hX dX12_on_28 rfl ?_
      exact zt_zret hX hR dX12_on_29 ⟨by omega, by omega⟩ ⟨hI156, hF157, by omega, by omega, (yIr_n c19 rfl)⟩
