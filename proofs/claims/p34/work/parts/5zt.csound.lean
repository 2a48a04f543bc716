set_option maxRecDepth 100000 in
set_option maxHeartbeats 4000000 in
theorem yd_X3_hasCell_7 (l : Launch) (E : zEN) (σ : zSto) (hI : zInv σ) (a1_ : Int) (ha1_ : -2147483648 ≤ a1_ ∧ a1_ ≤ 2147483647) (a2_ : Int) (ha2_ : -2147483648 ≤ a2_ ∧ a2_ ≤ 2147483647) : zCt l E yX3_hasCell cX3_hasCell 3 (some .boolean) 0 zNC zNC 0 0 σ [.ref (E.1 + 7), .int (zI a1_), .int (zI a2_)] (fun r σ' => σ = σ' ∧ 0 ≤ r ∧ r ≤ 1 ∧ (((0 ≤ a1_ ∧ a1_ < σ 7 10 ∧ 0 ≤ a2_ ∧ a2_ < σ 7 11) → r = 1) ∧ (¬ (0 ≤ a1_ ∧ a1_ < σ 7 10 ∧ 0 ≤ a2_ ∧ a2_ < σ 7 11) → r = 0))) := by
  refine zCt_of2 [some (.ref (E.1 + 7)), some (.int (zI a1_)), some (.int (zI a2_))] (by decide +kernel) (Nat.le_of_ble_eq_true rfl) rfl ?_
  intro X hE_ hX hR hL hN
  subst hE_
  have hX : zok X cX3_hasCell RX3 0 := hX
  have b1 := zv_8_10 hI zc_7
  have b2 := zv_8_11 hI zc_7
  refine zt_iload_n (pc' := 1) hX dX3_hasCell_0 rfl rfl ?_
  refine zt_iflt (pc' := 4) (tgt := 28) hX dX3_hasCell_1 rfl (by decide) ⟨by omega, by omega⟩ (fun c3 => ?_) (fun c3 => ?_)
  · refine zt_iconst (pc' := 29) hX dX3_hasCell_28 rfl ?_
    exact zt_zret hX hR dX3_hasCell_29 ⟨by omega, by omega⟩ ⟨rfl, by omega, by omega, ⟨fun h => by omega, fun h => by omega⟩⟩
  · refine zt_iload_n (pc' := 5) hX dX3_hasCell_4 rfl rfl ?_
    refine zt_aload_n (pc' := 6) hX dX3_hasCell_5 rfl rfl ?_
    have b4 := zv_8_10 hI zc_7
    refine zt_get (pc' := 9) (v := .int (zI (σ 7 10))) hX dX3_hasCell_6 rfl zf_X3_47 (by decide) zc_7 zs_8 rfl ?_
    refine zt_icge (pc' := 12) (tgt := 28) hX dX3_hasCell_9 rfl (by decide) ⟨by omega, by omega⟩ ⟨by omega, by omega⟩ (fun c5 => ?_) (fun c5 => ?_)
    · refine zt_iconst (pc' := 29) hX dX3_hasCell_28 rfl ?_
      exact zt_zret hX hR dX3_hasCell_29 ⟨by omega, by omega⟩ ⟨rfl, by omega, by omega, ⟨fun h => by omega, fun h => by omega⟩⟩
    · refine zt_iload_n (pc' := 13) hX dX3_hasCell_12 rfl rfl ?_
      refine zt_iflt (pc' := 16) (tgt := 28) hX dX3_hasCell_13 rfl (by decide) ⟨by omega, by omega⟩ (fun c6 => ?_) (fun c6 => ?_)
      · refine zt_iconst (pc' := 29) hX dX3_hasCell_28 rfl ?_
        exact zt_zret hX hR dX3_hasCell_29 ⟨by omega, by omega⟩ ⟨rfl, by omega, by omega, ⟨fun h => by omega, fun h => by omega⟩⟩
      · refine zt_iload_n (pc' := 17) hX dX3_hasCell_16 rfl rfl ?_
        refine zt_aload_n (pc' := 18) hX dX3_hasCell_17 rfl rfl ?_
        have b7 := zv_8_11 hI zc_7
        refine zt_get (pc' := 21) (v := .int (zI (σ 7 11))) hX dX3_hasCell_18 rfl zf_X3_51 (by decide) zc_7 zs_8 rfl ?_
        refine zt_icge (pc' := 24) (tgt := 28) hX dX3_hasCell_21 rfl (by decide) ⟨by omega, by omega⟩ ⟨by omega, by omega⟩ (fun c8 => ?_) (fun c8 => ?_)
        · refine zt_iconst (pc' := 29) hX dX3_hasCell_28 rfl ?_
          exact zt_zret hX hR dX3_hasCell_29 ⟨by omega, by omega⟩ ⟨rfl, by omega, by omega, ⟨fun h => by omega, fun h => by omega⟩⟩
        · refine zt_iconst (pc' := 25) hX dX3_hasCell_24 rfl ?_
          refine zt_goto (tgt := 29) hX dX3_hasCell_25 (by decide) ?_
          exact zt_zret hX hR dX3_hasCell_29 ⟨by omega, by omega⟩ ⟨rfl, by omega, by omega, ⟨fun h => by omega, fun h => by omega⟩⟩
set_option maxRecDepth 100000 in
set_option maxHeartbeats 4000000 in
theorem yd_X3_hasCell_17 (l : Launch) (E : zEN) (σ : zSto) (hI : zInv σ) (a1_ : Int) (ha1_ : -2147483648 ≤ a1_ ∧ a1_ ≤ 2147483647) (a2_ : Int) (ha2_ : -2147483648 ≤ a2_ ∧ a2_ ≤ 2147483647) : zCt l E yX3_hasCell cX3_hasCell 3 (some .boolean) 0 zNC zNC 0 0 σ [.ref (E.1 + 17), .int (zI a1_), .int (zI a2_)] (fun r σ' => σ = σ' ∧ 0 ≤ r ∧ r ≤ 1 ∧ (((0 ≤ a1_ ∧ a1_ < σ 17 10 ∧ 0 ≤ a2_ ∧ a2_ < σ 17 11) → r = 1) ∧ (¬ (0 ≤ a1_ ∧ a1_ < σ 17 10 ∧ 0 ≤ a2_ ∧ a2_ < σ 17 11) → r = 0))) := by
  refine zCt_of2 [some (.ref (E.1 + 17)), some (.int (zI a1_)), some (.int (zI a2_))] (by decide +kernel) (Nat.le_of_ble_eq_true rfl) rfl ?_
  intro X hE_ hX hR hL hN
  subst hE_
  have hX : zok X cX3_hasCell RX3 0 := hX
  have b1 := zv_8_10 hI zc_17
  have b2 := zv_8_11 hI zc_17
  refine zt_iload_n (pc' := 1) hX dX3_hasCell_0 rfl rfl ?_
  refine zt_iflt (pc' := 4) (tgt := 28) hX dX3_hasCell_1 rfl (by decide) ⟨by omega, by omega⟩ (fun c3 => ?_) (fun c3 => ?_)
  · refine zt_iconst (pc' := 29) hX dX3_hasCell_28 rfl ?_
    exact zt_zret hX hR dX3_hasCell_29 ⟨by omega, by omega⟩ ⟨rfl, by omega, by omega, ⟨fun h => by omega, fun h => by omega⟩⟩
  · refine zt_iload_n (pc' := 5) hX dX3_hasCell_4 rfl rfl ?_
    refine zt_aload_n (pc' := 6) hX dX3_hasCell_5 rfl rfl ?_
    have b4 := zv_8_10 hI zc_17
    refine zt_get (pc' := 9) (v := .int (zI (σ 17 10))) hX dX3_hasCell_6 rfl zf_X3_47 (by decide) zc_17 zs_8 rfl ?_
    refine zt_icge (pc' := 12) (tgt := 28) hX dX3_hasCell_9 rfl (by decide) ⟨by omega, by omega⟩ ⟨by omega, by omega⟩ (fun c5 => ?_) (fun c5 => ?_)
    · refine zt_iconst (pc' := 29) hX dX3_hasCell_28 rfl ?_
      exact zt_zret hX hR dX3_hasCell_29 ⟨by omega, by omega⟩ ⟨rfl, by omega, by omega, ⟨fun h => by omega, fun h => by omega⟩⟩
    · refine zt_iload_n (pc' := 13) hX dX3_hasCell_12 rfl rfl ?_
      refine zt_iflt (pc' := 16) (tgt := 28) hX dX3_hasCell_13 rfl (by decide) ⟨by omega, by omega⟩ (fun c6 => ?_) (fun c6 => ?_)
      · refine zt_iconst (pc' := 29) hX dX3_hasCell_28 rfl ?_
        exact zt_zret hX hR dX3_hasCell_29 ⟨by omega, by omega⟩ ⟨rfl, by omega, by omega, ⟨fun h => by omega, fun h => by omega⟩⟩
      · refine zt_iload_n (pc' := 17) hX dX3_hasCell_16 rfl rfl ?_
        refine zt_aload_n (pc' := 18) hX dX3_hasCell_17 rfl rfl ?_
        have b7 := zv_8_11 hI zc_17
        refine zt_get (pc' := 21) (v := .int (zI (σ 17 11))) hX dX3_hasCell_18 rfl zf_X3_51 (by decide) zc_17 zs_8 rfl ?_
        refine zt_icge (pc' := 24) (tgt := 28) hX dX3_hasCell_21 rfl (by decide) ⟨by omega, by omega⟩ ⟨by omega, by omega⟩ (fun c8 => ?_) (fun c8 => ?_)
        · refine zt_iconst (pc' := 29) hX dX3_hasCell_28 rfl ?_
          exact zt_zret hX hR dX3_hasCell_29 ⟨by omega, by omega⟩ ⟨rfl, by omega, by omega, ⟨fun h => by omega, fun h => by omega⟩⟩
        · refine zt_iconst (pc' := 25) hX dX3_hasCell_24 rfl ?_
          refine zt_goto (tgt := 29) hX dX3_hasCell_25 (by decide) ?_
          exact zt_zret hX hR dX3_hasCell_29 ⟨by omega, by omega⟩ ⟨rfl, by omega, by omega, ⟨fun h => by omega, fun h => by omega⟩⟩
set_option maxRecDepth 100000 in
set_option maxHeartbeats 4000000 in
theorem yd_X7_takeSounds_7 (l : Launch) (E : zEN) (σ : zSto) (hI : zInv σ)  : zCt l E yX7_takeSounds cX7_takeSounds 6 (some .boolean) 2 zNC zNC 0 0 σ [.ref (E.1 + 147), .ref (E.1 + 7), .ref (E.1 + 1)] (fun r σ' => zInv σ' ∧ zOn zSd σ σ' ∧ 0 ≤ r ∧ r ≤ 1 ∧ (r = 1 → (1 ≤ σ 1 1 ∧ σ 1 1 % 4 = 0 ∧ σ 1 1 ≤ 48 ∧ ySd (yT σ) (σ 7 10) (σ 7 11) (σ 1 1 / 4)) ∧ σ' 147 5 = σ 1 1 / 4) ∧ (r = 0 → ySx (yT σ) (σ 1 1) (σ 7 10) (σ 7 11) (-1))) := by
  refine zCt_of2 [some (.ref (E.1 + 147)), some (.ref (E.1 + 7)), some (.ref (E.1 + 1)), none, none, none] (by decide +kernel) (Nat.le_of_ble_eq_true rfl) rfl ?_
  intro X hE_ hX hR hL hN
  subst hE_
  have hX : zok X cX7_takeSounds RX7 2 := hX
  have hF := zOn_rf zSd σ
  have b_a := zv_8_10 hI zc_7
  have b_b := zv_8_11 hI zc_7
  have b1 := zv_2_1 hI zc_1
  have b2 := zv_29_5 hI zc_147
  refine zt_aload_n (pc' := 1) hX dX7_takeSounds_0 rfl rfl ?_
  have b3 := zv_2_1 hI zc_1
  refine zt_get (pc' := 4) (v := .int (zI (σ 1 1))) hX dX7_takeSounds_1 rfl zf_X7_35 (by decide) zc_1 zs_2 rfl ?_
  refine zt_iconst (pc' := 5) hX dX7_takeSounds_4 rfl ?_
  refine zt_idiv (pc' := 6) hX dX7_takeSounds_5 rfl ⟨by omega, by omega⟩ ⟨by omega, by omega⟩ (fun r4 er4 br4 => ?_)
  rw [ztd_p (by omega)] at er4
  refine zt_istore_n (pc' := 7) (lv' := [some (.ref (X.1.1 + 147)), some (.ref (X.1.1 + 7)), some (.ref (X.1.1 + 1)), some (.int (zI r4)), none, none]) hX dX7_takeSounds_6 rfl hL (by decide) rfl ?_
  refine zt_iload_n (pc' := 8) hX dX7_takeSounds_7 rfl rfl ?_
  refine zt_iconst (pc' := 9) hX dX7_takeSounds_8 rfl ?_
  refine zt_iclt (pc' := 12) (tgt := 28) hX dX7_takeSounds_9 rfl (by decide) ⟨by omega, by omega⟩ ⟨by omega, by omega⟩ (fun c5 => ?_) (fun c5 => ?_)
  · refine zt_iconst (pc' := 29) hX dX7_takeSounds_28 rfl ?_
    exact zt_zret hX hR dX7_takeSounds_29 ⟨by omega, by omega⟩ ⟨hI, hF, by omega, by omega, (fun o => absurd o (by decide)), (fun _ => ySx_n (fun h => by omega) rfl)⟩
  · refine zt_iload_n (pc' := 13) hX dX7_takeSounds_12 rfl rfl ?_
    refine zt_bipush (pc' := 15) hX dX7_takeSounds_13 rfl (by decide) (by decide) ?_
    refine zt_icgt (pc' := 18) (tgt := 28) hX dX7_takeSounds_15 rfl (by decide) ⟨by omega, by omega⟩ ⟨by omega, by omega⟩ (fun c6 => ?_) (fun c6 => ?_)
    · refine zt_iconst (pc' := 29) hX dX7_takeSounds_28 rfl ?_
      exact zt_zret hX hR dX7_takeSounds_29 ⟨by omega, by omega⟩ ⟨hI, hF, by omega, by omega, (fun o => absurd o (by decide)), (fun _ => ySx_n (fun h => by omega) rfl)⟩
    · refine zt_aload_n (pc' := 19) hX dX7_takeSounds_18 rfl rfl ?_
      refine zt_get (pc' := 22) (v := .int (zI (σ 1 1))) hX dX7_takeSounds_19 rfl zf_X7_35 (by decide) zc_1 zs_2 rfl ?_
      refine zt_iload_n (pc' := 23) hX dX7_takeSounds_22 rfl rfl ?_
      refine zt_iconst (pc' := 24) hX dX7_takeSounds_23 rfl ?_
      refine zt_imul (pc' := 25) hX dX7_takeSounds_24 rfl ?_
      refine zt_iceq (pc' := 28) (tgt := 30) hX dX7_takeSounds_25 rfl (by decide) ⟨by omega, by omega⟩ ⟨by omega, by omega⟩ (fun c7 => ?_) (fun c7 => ?_)
      · refine zt_iconst (pc' := 31) hX dX7_takeSounds_30 rfl ?_
        refine zt_istore (pc' := 33) (lv' := [some (.ref (X.1.1 + 147)), some (.ref (X.1.1 + 7)), some (.ref (X.1.1 + 1)), some (.int (zI r4)), some (.int (zI 0)), none]) hX dX7_takeSounds_31 rfl hL (by decide) rfl ?_
        have L_33_13 : ∀ (N : Nat) (x8 : Int), 0 ≤ x8 → x8 ≤ 12 → 0 ≤ x8 → x8 ≤ r4 → ySd (yT σ) (σ 7 10) (σ 7 11) x8 → ((13 - x8).toNat) < N → zF X σ 33 [some (.ref (X.1.1 + 147)), some (.ref (X.1.1 + 7)), some (.ref (X.1.1 + 1)), some (.int (zI r4)), some (.int (zI x8)), none] [] := by
          intro N
          induction N with
          | zero =>
            intro x8 h9 h10 g11 g12 g13 hm15
            exact absurd hm15 (Nat.not_lt_zero _)
          | succ N ih16 =>
            intro x8 h9 h10 g11 g12 g13 hm15
            have q17 := 0
            · refine zt_iload (pc' := 35) hX dX7_takeSounds_33 rfl rfl ?_
              refine zt_iload_n (pc' := 36) hX dX7_takeSounds_35 rfl rfl ?_
              refine zt_icge (pc' := 39) (tgt := 72) hX dX7_takeSounds_36 rfl (by decide) ⟨by omega, by omega⟩ ⟨by omega, by omega⟩ (fun c18 => ?_) (fun c18 => ?_)
              · refine zt_iconst (pc' := 73) hX dX7_takeSounds_72 rfl ?_
                refine zt_istore (pc' := 75) (lv' := [some (.ref (X.1.1 + 147)), some (.ref (X.1.1 + 7)), some (.ref (X.1.1 + 1)), some (.int (zI r4)), some (.int (zI 0)), none]) hX dX7_takeSounds_73 rfl hL (by decide) rfl ?_
                have L_75_27 : ∀ (N : Nat) (x19 : Int) (s22 : zSto), 0 ≤ x19 → x19 ≤ 12 → zInv s22 → zOn zSd σ s22 → 0 ≤ x19 → x19 ≤ r4 → ySd (yT σ) (σ 7 10) (σ 7 11) r4 → ((13 - x19).toNat) < N → zF X s22 75 [some (.ref (X.1.1 + 147)), some (.ref (X.1.1 + 7)), some (.ref (X.1.1 + 1)), some (.int (zI r4)), some (.int (zI x19)), none] [] := by
                  intro N
                  induction N with
                  | zero =>
                    intro x19 s22 h20 h21 hI23 hF24 g25 g26 g27 hm29
                    exact absurd hm29 (Nat.not_lt_zero _)
                  | succ N ih30 =>
                    intro x19 s22 h20 h21 hI23 hF24 g25 g26 g27 hm29
                    have b31 := zv_2_1 hI23 zc_1
                    have b32 := zv_29_5 hI23 zc_147
                    refine zt_iload (pc' := 77) hX dX7_takeSounds_75 rfl rfl ?_
                    refine zt_iload_n (pc' := 78) hX dX7_takeSounds_77 rfl rfl ?_
                    refine zt_icge (pc' := 81) (tgt := 137) hX dX7_takeSounds_78 rfl (by decide) ⟨by omega, by omega⟩ ⟨by omega, by omega⟩ (fun c33 => ?_) (fun c33 => ?_)
                    · refine zt_aload_n (pc' := 138) hX dX7_takeSounds_137 rfl rfl ?_
                      refine zt_iload_n (pc' := 139) hX dX7_takeSounds_138 rfl rfl ?_
                      refine zt_put (pc' := 142) (x := r4) hX dX7_takeSounds_139 rfl zf_X7_28 (by decide) zc_147 zs_29 (fun q hq => by cases hq; rfl) rfl rfl rfl ?_
                      generalize hs35 : zset s22 147 5 r4 = s34
                      have hI36 : zInv s34 := hs35 ▸ zp_29_5 hI23 zc_147 ⟨by omega, by omega⟩
                      have hF37 : zOn zSd σ s34 := hs35 ▸ zOn_set hF24 rfl
                      have e38 : s34 1 1 = s22 1 1 := by rw [← hs35]; exact zset_k (zne_r zc_1 zc_147 (by decide))
                      have e39 : s34 147 5 = r4 := by rw [← hs35]; exact zset_s
                      refine zt_iconst (pc' := 143) hX dX7_takeSounds_142 rfl ?_
                      exact zt_zret hX hR dX7_takeSounds_143 ⟨by omega, by omega⟩ ⟨hI36, hF37, by omega, by omega, (fun _ => ⟨⟨by omega, by omega, by omega, by rw [show σ 1 1 / 4 = _ from (by assumption : _ = σ 1 1 / 4).symm]; exact ySd_le g13 (by omega)⟩, by omega⟩), (fun o => absurd o (by decide))⟩
                    · refine zt_iload (pc' := 83) hX dX7_takeSounds_81 rfl rfl ?_
                      refine zt_iconst (pc' := 84) hX dX7_takeSounds_83 rfl ?_
                      refine zt_imul (pc' := 85) hX dX7_takeSounds_84 rfl ?_
                      refine zt_istore (pc' := 87) (lv' := [some (.ref (X.1.1 + 147)), some (.ref (X.1.1 + 7)), some (.ref (X.1.1 + 1)), some (.int (zI r4)), some (.int (zI x19)), some (.int (zI (x19 * 4)))]) hX dX7_takeSounds_85 rfl hL (by decide) rfl ?_
                      refine zt_aload_n (pc' := 88) hX dX7_takeSounds_87 rfl rfl ?_
                      refine zt_get (pc' := 91) (v := .ref (X.1.1 + 151)) hX dX7_takeSounds_88 rfl zf_X7_22 (by decide) zc_147 zs_29 (zrf_of (zv_29_3 hI23 zc_147)) ?_
                      refine zt_iload (pc' := 93) hX dX7_takeSounds_91 rfl rfl ?_
                      refine zt_aload_n (pc' := 94) hX dX7_takeSounds_93 rfl rfl ?_
                      refine zt_aload_n (pc' := 95) hX dX7_takeSounds_94 rfl rfl ?_
                      refine zt_iload (pc' := 97) hX dX7_takeSounds_95 rfl rfl ?_
                      refine zt_cVi (pc' := 100) hX dX7_takeSounds_97 rfl zm_yX9_byteAt zw_56_22 zc_1 (by decide) zs_2 (q := (RX9, TX9, 2)) rfl rfl (yc_X9_byteAt _ _ s22 hI23 (x19 * 4) ⟨by omega, by omega⟩) rfl rfl (Nat.le_of_ble_eq_true rfl) (by decide) (fun r40 s41 hr42 hp43 => ?_)
                      obtain ⟨rfl, q44, q45, z46⟩ := hp43
                      have hb47 : 0 ≤ r40 ∧ r40 ≤ 5 := by rw [z46, show yT s22 = yT σ from yT_eq (hF24 1 1 rfl) (fun j => hF24 2 j rfl)]; have q := ySd_a g27 (k := x19) (u := (x19 * 4)) (by omega) (by omega) (by omega); omega
                      clear z46
                      refine zt_aload_n (pc' := 101) hX dX7_takeSounds_100 rfl rfl ?_
                      refine zt_iload (pc' := 103) hX dX7_takeSounds_101 rfl rfl ?_
                      refine zt_iconst (pc' := 104) hX dX7_takeSounds_103 rfl ?_
                      refine zt_iadd (pc' := 105) hX dX7_takeSounds_104 rfl ?_
                      refine zt_cVi (pc' := 108) hX dX7_takeSounds_105 rfl zm_yX9_byteAt zw_56_22 zc_1 (by decide) zs_2 (q := (RX9, TX9, 2)) rfl rfl (yc_X9_byteAt _ _ s22 hI23 ((x19 * 4) + 1) ⟨by omega, by omega⟩) rfl rfl (Nat.le_of_ble_eq_true rfl) (by decide) (fun r48 s49 hr50 hp51 => ?_)
                      obtain ⟨rfl, q52, q53, z54⟩ := hp51
                      have hb55 : 0 ≤ r48 ∧ r48 ≤ 5 := by rw [z54, show yT s22 = yT σ from yT_eq (hF24 1 1 rfl) (fun j => hF24 2 j rfl)]; have q := ySd_b g27 (k := x19) (u := ((x19 * 4) + 1)) (by omega) (by omega) (by omega); omega
                      clear z54
                      refine zt_cVi (pc' := 111) hX dX7_takeSounds_108 rfl zm_yX3_cellAt zw_57_0 zc_7 (by decide) zs_8 (q := (RX3, TX3, 17)) rfl rfl (zc_X3_cellAt _ _ s22 hI23 7 zc_7 r40 ⟨by omega, by omega⟩ r48 ⟨by omega, by omega⟩) rfl rfl (Nat.le_of_ble_eq_true rfl) (by decide) (fun r56 s57 hr58 hp59 => ?_)
                      obtain ⟨rfl, q60, q61, z62⟩ := hp59
                      refine zt_iast (pc' := 112) hX dX7_takeSounds_111 rfl (by decide) zc_151 zs_33 (by decide) ⟨by omega, by omega⟩ ?_
                      generalize hs64 : zset s22 151 (x19.toNat) r56 = s63
                      have hI65 : zInv s63 := hs64 ▸ zp_33 hI23 zc_151 (x19.toNat) ⟨by omega, by omega⟩
                      have hF66 : zOn zSd σ s63 := hs64 ▸ zOn_set hF24 rfl
                      have e67 : s63 1 1 = s22 1 1 := by rw [← hs64]; exact zset_k (zne_r zc_1 zc_151 (by decide))
                      have e68 : s63 147 5 = s22 147 5 := by rw [← hs64]; exact zset_k (zne_r zc_147 zc_151 (by decide))
                      refine zt_aload_n (pc' := 113) hX dX7_takeSounds_112 rfl rfl ?_
                      refine zt_get (pc' := 116) (v := .ref (X.1.1 + 152)) hX dX7_takeSounds_113 rfl zf_X7_25 (by decide) zc_147 zs_29 (zrf_of (zv_29_4 hI65 zc_147)) ?_
                      refine zt_iload (pc' := 118) hX dX7_takeSounds_116 rfl rfl ?_
                      refine zt_aload_n (pc' := 119) hX dX7_takeSounds_118 rfl rfl ?_
                      refine zt_iload (pc' := 121) hX dX7_takeSounds_119 rfl rfl ?_
                      refine zt_iconst (pc' := 122) hX dX7_takeSounds_121 rfl ?_
                      refine zt_iadd (pc' := 123) hX dX7_takeSounds_122 rfl ?_
                      refine zt_cVi (pc' := 126) hX dX7_takeSounds_123 rfl zm_yX9_pairAt zw_57_1 zc_1 (by decide) zs_2 (q := (RX9, TX9, 2)) rfl rfl (zc_X9_pairAt_1 _ _ s63 hI65 ((x19 * 4) + 2) ⟨by omega, by omega⟩) rfl rfl (Nat.le_of_ble_eq_true rfl) (by decide) (fun r69 s70 hr71 hp72 => ?_)
                      obtain ⟨rfl, q73, q74⟩ := hp72
                      refine zt_sipush (pc' := 129) hX dX7_takeSounds_126 rfl (by decide) (by decide) ?_
                      refine zt_isub (pc' := 130) hX dX7_takeSounds_129 rfl ?_
                      refine zt_wrap (fun r75 zr75 lr75 ur75 => ?_)
                      clear zr75
                      refine zt_iast (pc' := 131) hX dX7_takeSounds_130 rfl (by decide) zc_152 zs_34 (by decide) ⟨by omega, by omega⟩ ?_
                      generalize hs77 : zset s63 152 (x19.toNat) r75 = s76
                      have hI78 : zInv s76 := hs77 ▸ zp_34 hI65 zc_152 (x19.toNat) ⟨by omega, by omega⟩
                      have hF79 : zOn zSd σ s76 := hs77 ▸ zOn_set hF66 rfl
                      have e80 : s76 1 1 = s63 1 1 := by rw [← hs77]; exact zset_k (zne_r zc_1 zc_152 (by decide))
                      have e81 : s76 147 5 = s63 147 5 := by rw [← hs77]; exact zset_k (zne_r zc_147 zc_152 (by decide))
                      refine zt_iinc (pc' := 134) (lv' := [some (.ref (X.1.1 + 147)), some (.ref (X.1.1 + 7)), some (.ref (X.1.1 + 1)), some (.int (zI r4)), some (.int (zI (x19 + 1))), some (.int (zI (x19 * 4)))]) hX dX7_takeSounds_131 rfl rfl hL (by decide) rfl ?_
                      refine zt_goto (tgt := 75) hX dX7_takeSounds_134 (by decide) ?_
                      refine zt_mask [true, true, true, true, true, false] rfl ?_
                      exact ih30 (x19 + 1) s76 (by omega) (by omega) hI78 hF79 (by omega) (by omega) g27 (by omega)
                exact L_75_27 _ 0 σ (by omega) (by omega) hI hF (by omega) (by omega) (ySd_le g13 (by omega)) (Nat.lt_succ_self _)
              · refine zt_aload_n (pc' := 40) hX dX7_takeSounds_39 rfl rfl ?_
                refine zt_aload_n (pc' := 41) hX dX7_takeSounds_40 rfl rfl ?_
                refine zt_iload (pc' := 43) hX dX7_takeSounds_41 rfl rfl ?_
                refine zt_iconst (pc' := 44) hX dX7_takeSounds_43 rfl ?_
                refine zt_imul (pc' := 45) hX dX7_takeSounds_44 rfl ?_
                refine zt_cVi (pc' := 48) hX dX7_takeSounds_45 rfl zm_yX9_byteAt zw_56_22 zc_1 (by decide) zs_2 (q := (RX9, TX9, 2)) rfl rfl (yc_X9_byteAt _ _ σ hI (x8 * 4) ⟨by omega, by omega⟩) rfl rfl (Nat.le_of_ble_eq_true rfl) (by decide) (fun r82 s83 hr84 hp85 => ?_)
                obtain ⟨rfl, q86, q87, z88⟩ := hp85
                refine zt_aload_n (pc' := 49) hX dX7_takeSounds_48 rfl rfl ?_
                refine zt_iload (pc' := 51) hX dX7_takeSounds_49 rfl rfl ?_
                refine zt_iconst (pc' := 52) hX dX7_takeSounds_51 rfl ?_
                refine zt_imul (pc' := 53) hX dX7_takeSounds_52 rfl ?_
                refine zt_iconst (pc' := 54) hX dX7_takeSounds_53 rfl ?_
                refine zt_iadd (pc' := 55) hX dX7_takeSounds_54 rfl ?_
                refine zt_cVi (pc' := 58) hX dX7_takeSounds_55 rfl zm_yX9_byteAt zw_56_22 zc_1 (by decide) zs_2 (q := (RX9, TX9, 2)) rfl rfl (yc_X9_byteAt _ _ σ hI ((x8 * 4) + 1) ⟨by omega, by omega⟩) rfl rfl (Nat.le_of_ble_eq_true rfl) (by decide) (fun r89 s90 hr91 hp92 => ?_)
                obtain ⟨rfl, q93, q94, z95⟩ := hp92
                refine zt_cVz (pc' := 61) hX dX7_takeSounds_58 rfl zm_yX3_hasCell zw_56_23 zc_7 (by decide) zs_8 (q := (RX3, TX3, 17)) rfl rfl (yd_X3_hasCell_7 _ _ σ hI r82 ⟨by omega, by omega⟩ r89 ⟨by omega, by omega⟩) rfl rfl (Nat.le_of_ble_eq_true rfl) (by decide) (fun r96 s97 hr98 hp99 => ?_)
                obtain ⟨rfl, q100, q101, z102⟩ := hp99
                rcases ysph z102 with ⟨rfl, c103⟩ | ⟨rfl, c103⟩
                · clear z102
                  refine zt_ifne (pc' := 64) (tgt := 66) hX dX7_takeSounds_61 rfl (by decide) ⟨by omega, by omega⟩ (fun c104 => ?_) (fun c104 => ?_)
                  · refine zt_iinc (pc' := 69) (lv' := [some (.ref (X.1.1 + 147)), some (.ref (X.1.1 + 7)), some (.ref (X.1.1 + 1)), some (.int (zI r4)), some (.int (zI (x8 + 1))), none]) hX dX7_takeSounds_66 rfl rfl hL (by decide) rfl ?_
                    refine zt_goto (tgt := 33) hX dX7_takeSounds_69 (by decide) ?_
                    exact ih16 (x8 + 1) (by omega) (by omega) (by omega) (by omega) (ySd_s g13 (by omega) z88 (by omega) z95 (by omega) c103) (by omega)
                  · exact absurd c104 (by omega)
                · clear z102
                  refine zt_ifne (pc' := 64) (tgt := 66) hX dX7_takeSounds_61 rfl (by decide) ⟨by omega, by omega⟩ (fun c105 => ?_) (fun c105 => ?_)
                  · exact absurd c105 (by omega)
                  · refine zt_iconst (pc' := 65) hX dX7_takeSounds_64 rfl ?_
                    exact zt_zret hX hR dX7_takeSounds_65 ⟨by omega, by omega⟩ ⟨hI, hF, by omega, by omega, (fun o => absurd o (by decide)), (fun _ => ySx_k (k := x8) (by omega) (by omega) z88 (by omega) z95 (by omega) c103 rfl)⟩
        exact L_33_13 _ 0 (by omega) (by omega) (by omega) (by omega) ySd_0 (Nat.lt_succ_self _)
      · refine zt_iconst (pc' := 29) hX dX7_takeSounds_28 rfl ?_
        exact zt_zret hX hR dX7_takeSounds_29 ⟨by omega, by omega⟩ ⟨hI, hF, by omega, by omega, (fun o => absurd o (by decide)), (fun _ => ySx_n (fun h => by omega) rfl)⟩
set_option maxRecDepth 100000 in
set_option maxHeartbeats 4000000 in
theorem yd_X11_sound_7 (l : Launch) (E : zEN) (σ : zSto) (hI : zInv σ) (hpre0 : σ 0 3 = 7) : zCt l E yX11_sound cX11_sound 2 (some .int) 3 zNC zNC 0 0 σ [.ref (E.1 + 0)] (fun r σ' => zInv σ' ∧ zOn zAl σ σ' ∧ -2147483648 ≤ r ∧ r ≤ 2147483647 ∧ (ySx (yT σ) (σ 1 1) (σ 7 10) (σ 7 11) r)) := by
  refine zCt_of2 [some (.ref (E.1 + 0)), none] (by decide +kernel) (Nat.le_of_ble_eq_true rfl) rfl ?_
  intro X hE_ hX hR hL hN
  subst hE_
  have hX : zok X cX11_sound RX11 3 := hX
  have hF := zOn_rf zAl σ
  have b_a := zv_8_10 hI zc_7
  have b1 := zv_29_5 hI zc_147
  have b2 := zv_1_3 hI zc_0
  refine zt_aload_n (pc' := 1) hX dX11_sound_0 rfl rfl ?_
  have ek3 : σ 0 3 = ((7 : Nat) : Int) := by omega
  refine zt_get (pc' := 4) (v := .ref (X.1.1 + 7)) hX dX11_sound_1 rfl zf_X11_31 (by decide) zc_0 zs_1 (zrf_of ek3) ?_
  refine zt_cVz (pc' := 7) hX dX11_sound_4 rfl zm_yX3_isTold zw_48_6 zc_7 (by decide) zs_8 (q := (RX3, TX3, 17)) rfl rfl (yd_X3_isTold_7 _ _ σ hI ) rfl rfl (Nat.le_of_ble_eq_true rfl) (by decide) (fun r4 s5 hr6 hp7 => ?_)
  obtain ⟨rfl, q8, q9, z10⟩ := hp7
  obtain ⟨ht, hu⟩ := z10
  replace ht : yIm _ _ := ht
  replace hu : yIm _ _ := hu
  refine zt_ifeq (pc' := 10) (tgt := 32) hX dX11_sound_7 rfl (by decide) ⟨by omega, by omega⟩ (fun c11 => ?_) (fun c11 => ?_)
  · refine zt_iconst (pc' := 33) hX dX11_sound_32 rfl ?_
    refine zt_istore_n (pc' := 34) (lv' := [some (.ref (X.1.1 + 0)), some (.int (zI 0))]) hX dX11_sound_33 rfl hL (by decide) rfl ?_
    refine zt_aload_n (pc' := 35) hX dX11_sound_34 rfl rfl ?_
    refine zt_get (pc' := 38) (v := .ref (X.1.1 + 1)) hX dX11_sound_35 rfl zf_X11_14 (by decide) zc_0 zs_1 (zrf_of (zv_1_0 hI zc_0)) ?_
    refine zt_iconst (pc' := 39) hX dX11_sound_38 rfl ?_
    refine zt_put (pc' := 42) (x := 0) hX dX11_sound_39 rfl zf_X11_110 (by decide) zc_1 zs_2 (fun q hq => by cases hq; rfl) rfl rfl rfl ?_
    generalize hs13 : zset σ 1 1 0 = s12
    have hI14 : zInv s12 := hs13 ▸ zp_2_1 hI zc_1 ⟨by omega, by omega⟩
    have hF15 : zOn zAl σ s12 := hs13 ▸ zOn_set hF rfl
    have e16 : s12 147 5 = σ 147 5 := by rw [← hs13]; exact zset_k (zne_r zc_147 zc_1 (by decide))
    have e17 : s12 0 3 = σ 0 3 := by rw [← hs13]; exact zset_k (zne_r zc_0 zc_1 (by decide))
    refine zt_iload_n (pc' := 43) hX dX11_sound_42 rfl rfl ?_
    refine zt_ifeq (pc' := 46) (tgt := 56) hX dX11_sound_43 rfl (by decide) ⟨by omega, by omega⟩ (fun c18 => ?_) (fun c18 => ?_)
    · refine zt_aload_n (pc' := 57) hX dX11_sound_56 rfl rfl ?_
      refine zt_iconst (pc' := 58) hX dX11_sound_57 rfl ?_
      refine zt_cVi (pc' := 61) hX dX11_sound_58 rfl zm_yX11_refusal zw_14_3 zc_0 (by decide) zs_1 (q := (RX11, TX11, 17)) rfl rfl (zc_X11_refusal _ _ s12 hI14 1 ⟨by omega, by omega⟩) rfl rfl (Nat.le_of_ble_eq_true rfl) (by decide) (fun r19 s20 hr21 hp22 => ?_)
      obtain ⟨hI23, hF24, q25, q26⟩ := hp22
      have hF27 : zOn zAl σ s20 := zOn_al
      have b28 := zv_29_5 hI23 zc_147
      have b29 := zv_1_3 hI23 zc_0
      exact zt_iret hX hR dX11_sound_61 ⟨by omega, by omega⟩ ⟨hI23, hF27, by omega, by omega, (ySx_n (fun h => absurd (show _ = (1 : Int) from ht h.2.2.2) (by omega)) (by omega))⟩
    · exact absurd c18 (by omega)
  · refine zt_aload_n (pc' := 11) hX dX11_sound_10 rfl rfl ?_
    refine zt_get (pc' := 14) (v := .ref (X.1.1 + 147)) hX dX11_sound_11 rfl zf_X11_83 (by decide) zc_0 zs_1 (zrf_of (zv_1_11 hI zc_0)) ?_
    refine zt_aload_n (pc' := 15) hX dX11_sound_14 rfl rfl ?_
    refine zt_get (pc' := 18) (v := .ref (X.1.1 + 7)) hX dX11_sound_15 rfl zf_X11_31 (by decide) zc_0 zs_1 (zrf_of ek3) ?_
    refine zt_aload_n (pc' := 19) hX dX11_sound_18 rfl rfl ?_
    refine zt_get (pc' := 22) (v := .ref (X.1.1 + 1)) hX dX11_sound_19 rfl zf_X11_14 (by decide) zc_0 zs_1 (zrf_of (zv_1_0 hI zc_0)) ?_
    refine zt_cVz (pc' := 25) hX dX11_sound_22 rfl zm_yX7_takeSounds zw_56_17 zc_147 (by decide) zs_29 (q := (RX7, TX7, 7)) rfl rfl (yd_X7_takeSounds_7 _ _ σ hI ) rfl rfl (Nat.le_of_ble_eq_true rfl) (by decide) (fun r30 s31 hr32 hp33 => ?_)
    obtain ⟨hI34, hF35, q36, q37, z38, z39⟩ := hp33
    have hF40 : zOn zAl σ s31 := zOn_al
    have b41 := zv_29_5 hI34 zc_147
    have b42 := zv_1_3 hI34 zc_0
    replace z38 : yIm _ _ := z38
    replace z39 : yIm _ _ := z39
    refine zt_ifeq (pc' := 28) (tgt := 32) hX dX11_sound_25 rfl (by decide) ⟨by omega, by omega⟩ (fun c43 => ?_) (fun c43 => ?_)
    · refine zt_iconst (pc' := 33) hX dX11_sound_32 rfl ?_
      refine zt_istore_n (pc' := 34) (lv' := [some (.ref (X.1.1 + 0)), some (.int (zI 0))]) hX dX11_sound_33 rfl hL (by decide) rfl ?_
      refine zt_aload_n (pc' := 35) hX dX11_sound_34 rfl rfl ?_
      refine zt_get (pc' := 38) (v := .ref (X.1.1 + 1)) hX dX11_sound_35 rfl zf_X11_14 (by decide) zc_0 zs_1 (zrf_of (zv_1_0 hI34 zc_0)) ?_
      refine zt_iconst (pc' := 39) hX dX11_sound_38 rfl ?_
      refine zt_put (pc' := 42) (x := 0) hX dX11_sound_39 rfl zf_X11_110 (by decide) zc_1 zs_2 (fun q hq => by cases hq; rfl) rfl rfl rfl ?_
      generalize hs45 : zset s31 1 1 0 = s44
      have hI46 : zInv s44 := hs45 ▸ zp_2_1 hI34 zc_1 ⟨by omega, by omega⟩
      have hF47 : zOn zAl σ s44 := hs45 ▸ zOn_set hF40 rfl
      have e48 : s44 147 5 = s31 147 5 := by rw [← hs45]; exact zset_k (zne_r zc_147 zc_1 (by decide))
      have e49 : s44 0 3 = s31 0 3 := by rw [← hs45]; exact zset_k (zne_r zc_0 zc_1 (by decide))
      refine zt_iload_n (pc' := 43) hX dX11_sound_42 rfl rfl ?_
      refine zt_ifeq (pc' := 46) (tgt := 56) hX dX11_sound_43 rfl (by decide) ⟨by omega, by omega⟩ (fun c50 => ?_) (fun c50 => ?_)
      · refine zt_aload_n (pc' := 57) hX dX11_sound_56 rfl rfl ?_
        refine zt_iconst (pc' := 58) hX dX11_sound_57 rfl ?_
        refine zt_cVi (pc' := 61) hX dX11_sound_58 rfl zm_yX11_refusal zw_14_3 zc_0 (by decide) zs_1 (q := (RX11, TX11, 17)) rfl rfl (zc_X11_refusal _ _ s44 hI46 1 ⟨by omega, by omega⟩) rfl rfl (Nat.le_of_ble_eq_true rfl) (by decide) (fun r51 s52 hr53 hp54 => ?_)
        obtain ⟨hI55, hF56, q57, q58⟩ := hp54
        have hF59 : zOn zAl σ s52 := zOn_al
        have b60 := zv_29_5 hI55 zc_147
        have b61 := zv_1_3 hI55 zc_0
        exact zt_iret hX hR dX11_sound_61 ⟨by omega, by omega⟩ ⟨hI55, hF59, by omega, by omega, (by rw [show r51 = -1 by omega]; exact z39 (by omega))⟩
      · exact absurd c50 (by omega)
    · refine zt_iconst (pc' := 29) hX dX11_sound_28 rfl ?_
      refine zt_goto (tgt := 33) hX dX11_sound_29 (by decide) ?_
      refine zt_istore_n (pc' := 34) (lv' := [some (.ref (X.1.1 + 0)), some (.int (zI 1))]) hX dX11_sound_33 rfl hL (by decide) rfl ?_
      refine zt_aload_n (pc' := 35) hX dX11_sound_34 rfl rfl ?_
      refine zt_get (pc' := 38) (v := .ref (X.1.1 + 1)) hX dX11_sound_35 rfl zf_X11_14 (by decide) zc_0 zs_1 (zrf_of (zv_1_0 hI34 zc_0)) ?_
      refine zt_iconst (pc' := 39) hX dX11_sound_38 rfl ?_
      refine zt_put (pc' := 42) (x := 0) hX dX11_sound_39 rfl zf_X11_110 (by decide) zc_1 zs_2 (fun q hq => by cases hq; rfl) rfl rfl rfl ?_
      generalize hs63 : zset s31 1 1 0 = s62
      have hI64 : zInv s62 := hs63 ▸ zp_2_1 hI34 zc_1 ⟨by omega, by omega⟩
      have hF65 : zOn zAl σ s62 := hs63 ▸ zOn_set hF40 rfl
      have e66 : s62 147 5 = s31 147 5 := by rw [← hs63]; exact zset_k (zne_r zc_147 zc_1 (by decide))
      have e67 : s62 0 3 = s31 0 3 := by rw [← hs63]; exact zset_k (zne_r zc_0 zc_1 (by decide))
      refine zt_iload_n (pc' := 43) hX dX11_sound_42 rfl rfl ?_
      refine zt_ifeq (pc' := 46) (tgt := 56) hX dX11_sound_43 rfl (by decide) ⟨by omega, by omega⟩ (fun c68 => ?_) (fun c68 => ?_)
      · exact absurd c68 (by omega)
      · refine zt_aload_n (pc' := 47) hX dX11_sound_46 rfl rfl ?_
        refine zt_get (pc' := 50) (v := .ref (X.1.1 + 147)) hX dX11_sound_47 rfl zf_X11_83 (by decide) zc_0 zs_1 (zrf_of (zv_1_11 hI64 zc_0)) ?_
        have b69 := zv_29_5 hI64 zc_147
        refine zt_get (pc' := 53) (v := .int (zI (s62 147 5))) hX dX11_sound_50 rfl zf_X11_138 (by decide) zc_147 zs_29 rfl ?_
        refine zt_goto (tgt := 61) hX dX11_sound_53 (by decide) ?_
        exact zt_iret hX hR dX11_sound_61 ⟨by omega, by omega⟩ ⟨hI64, hF65, by omega, by omega, (by have q := z38 (by omega); exact ySx_y ⟨q.1.1, q.1.2.1, q.1.2.2.1, (by rcases Int.lt_or_le (σ 7 10) 1 with g | g; exact absurd (show _ = (0 : Int) from hu (by omega)) (by omega); exact g)⟩ q.1.2.2.2 (by have q2 := q.2; omega))⟩
set_option maxRecDepth 100000 in
set_option maxHeartbeats 4000000 in
theorem yd_X7_takeSounds_17 (l : Launch) (E : zEN) (σ : zSto) (hI : zInv σ)  : zCt l E yX7_takeSounds cX7_takeSounds 6 (some .boolean) 2 zNC zNC 0 0 σ [.ref (E.1 + 147), .ref (E.1 + 17), .ref (E.1 + 1)] (fun r σ' => zInv σ' ∧ zOn zSd σ σ' ∧ 0 ≤ r ∧ r ≤ 1 ∧ (r = 1 → (1 ≤ σ 1 1 ∧ σ 1 1 % 4 = 0 ∧ σ 1 1 ≤ 48 ∧ ySd (yT σ) (σ 17 10) (σ 17 11) (σ 1 1 / 4)) ∧ σ' 147 5 = σ 1 1 / 4) ∧ (r = 0 → ySx (yT σ) (σ 1 1) (σ 17 10) (σ 17 11) (-1))) := by
  refine zCt_of2 [some (.ref (E.1 + 147)), some (.ref (E.1 + 17)), some (.ref (E.1 + 1)), none, none, none] (by decide +kernel) (Nat.le_of_ble_eq_true rfl) rfl ?_
  intro X hE_ hX hR hL hN
  subst hE_
  have hX : zok X cX7_takeSounds RX7 2 := hX
  have hF := zOn_rf zSd σ
  have b_a := zv_8_10 hI zc_17
  have b_b := zv_8_11 hI zc_17
  have b1 := zv_2_1 hI zc_1
  have b2 := zv_29_5 hI zc_147
  refine zt_aload_n (pc' := 1) hX dX7_takeSounds_0 rfl rfl ?_
  have b3 := zv_2_1 hI zc_1
  refine zt_get (pc' := 4) (v := .int (zI (σ 1 1))) hX dX7_takeSounds_1 rfl zf_X7_35 (by decide) zc_1 zs_2 rfl ?_
  refine zt_iconst (pc' := 5) hX dX7_takeSounds_4 rfl ?_
  refine zt_idiv (pc' := 6) hX dX7_takeSounds_5 rfl ⟨by omega, by omega⟩ ⟨by omega, by omega⟩ (fun r4 er4 br4 => ?_)
  rw [ztd_p (by omega)] at er4
  refine zt_istore_n (pc' := 7) (lv' := [some (.ref (X.1.1 + 147)), some (.ref (X.1.1 + 17)), some (.ref (X.1.1 + 1)), some (.int (zI r4)), none, none]) hX dX7_takeSounds_6 rfl hL (by decide) rfl ?_
  refine zt_iload_n (pc' := 8) hX dX7_takeSounds_7 rfl rfl ?_
  refine zt_iconst (pc' := 9) hX dX7_takeSounds_8 rfl ?_
  refine zt_iclt (pc' := 12) (tgt := 28) hX dX7_takeSounds_9 rfl (by decide) ⟨by omega, by omega⟩ ⟨by omega, by omega⟩ (fun c5 => ?_) (fun c5 => ?_)
  · refine zt_iconst (pc' := 29) hX dX7_takeSounds_28 rfl ?_
    exact zt_zret hX hR dX7_takeSounds_29 ⟨by omega, by omega⟩ ⟨hI, hF, by omega, by omega, (fun o => absurd o (by decide)), (fun _ => ySx_n (fun h => by omega) rfl)⟩
  · refine zt_iload_n (pc' := 13) hX dX7_takeSounds_12 rfl rfl ?_
    refine zt_bipush (pc' := 15) hX dX7_takeSounds_13 rfl (by decide) (by decide) ?_
    refine zt_icgt (pc' := 18) (tgt := 28) hX dX7_takeSounds_15 rfl (by decide) ⟨by omega, by omega⟩ ⟨by omega, by omega⟩ (fun c6 => ?_) (fun c6 => ?_)
    · refine zt_iconst (pc' := 29) hX dX7_takeSounds_28 rfl ?_
      exact zt_zret hX hR dX7_takeSounds_29 ⟨by omega, by omega⟩ ⟨hI, hF, by omega, by omega, (fun o => absurd o (by decide)), (fun _ => ySx_n (fun h => by omega) rfl)⟩
    · refine zt_aload_n (pc' := 19) hX dX7_takeSounds_18 rfl rfl ?_
      refine zt_get (pc' := 22) (v := .int (zI (σ 1 1))) hX dX7_takeSounds_19 rfl zf_X7_35 (by decide) zc_1 zs_2 rfl ?_
      refine zt_iload_n (pc' := 23) hX dX7_takeSounds_22 rfl rfl ?_
      refine zt_iconst (pc' := 24) hX dX7_takeSounds_23 rfl ?_
      refine zt_imul (pc' := 25) hX dX7_takeSounds_24 rfl ?_
      refine zt_iceq (pc' := 28) (tgt := 30) hX dX7_takeSounds_25 rfl (by decide) ⟨by omega, by omega⟩ ⟨by omega, by omega⟩ (fun c7 => ?_) (fun c7 => ?_)
      · refine zt_iconst (pc' := 31) hX dX7_takeSounds_30 rfl ?_
        refine zt_istore (pc' := 33) (lv' := [some (.ref (X.1.1 + 147)), some (.ref (X.1.1 + 17)), some (.ref (X.1.1 + 1)), some (.int (zI r4)), some (.int (zI 0)), none]) hX dX7_takeSounds_31 rfl hL (by decide) rfl ?_
        have L_33_13 : ∀ (N : Nat) (x8 : Int), 0 ≤ x8 → x8 ≤ 12 → 0 ≤ x8 → x8 ≤ r4 → ySd (yT σ) (σ 17 10) (σ 17 11) x8 → ((13 - x8).toNat) < N → zF X σ 33 [some (.ref (X.1.1 + 147)), some (.ref (X.1.1 + 17)), some (.ref (X.1.1 + 1)), some (.int (zI r4)), some (.int (zI x8)), none] [] := by
          intro N
          induction N with
          | zero =>
            intro x8 h9 h10 g11 g12 g13 hm15
            exact absurd hm15 (Nat.not_lt_zero _)
          | succ N ih16 =>
            intro x8 h9 h10 g11 g12 g13 hm15
            have q17 := 0
            · refine zt_iload (pc' := 35) hX dX7_takeSounds_33 rfl rfl ?_
              refine zt_iload_n (pc' := 36) hX dX7_takeSounds_35 rfl rfl ?_
              refine zt_icge (pc' := 39) (tgt := 72) hX dX7_takeSounds_36 rfl (by decide) ⟨by omega, by omega⟩ ⟨by omega, by omega⟩ (fun c18 => ?_) (fun c18 => ?_)
              · refine zt_iconst (pc' := 73) hX dX7_takeSounds_72 rfl ?_
                refine zt_istore (pc' := 75) (lv' := [some (.ref (X.1.1 + 147)), some (.ref (X.1.1 + 17)), some (.ref (X.1.1 + 1)), some (.int (zI r4)), some (.int (zI 0)), none]) hX dX7_takeSounds_73 rfl hL (by decide) rfl ?_
                have L_75_27 : ∀ (N : Nat) (x19 : Int) (s22 : zSto), 0 ≤ x19 → x19 ≤ 12 → zInv s22 → zOn zSd σ s22 → 0 ≤ x19 → x19 ≤ r4 → ySd (yT σ) (σ 17 10) (σ 17 11) r4 → ((13 - x19).toNat) < N → zF X s22 75 [some (.ref (X.1.1 + 147)), some (.ref (X.1.1 + 17)), some (.ref (X.1.1 + 1)), some (.int (zI r4)), some (.int (zI x19)), none] [] := by
                  intro N
                  induction N with
                  | zero =>
                    intro x19 s22 h20 h21 hI23 hF24 g25 g26 g27 hm29
                    exact absurd hm29 (Nat.not_lt_zero _)
                  | succ N ih30 =>
                    intro x19 s22 h20 h21 hI23 hF24 g25 g26 g27 hm29
                    have b31 := zv_2_1 hI23 zc_1
                    have b32 := zv_29_5 hI23 zc_147
                    refine zt_iload (pc' := 77) hX dX7_takeSounds_75 rfl rfl ?_
                    refine zt_iload_n (pc' := 78) hX dX7_takeSounds_77 rfl rfl ?_
                    refine zt_icge (pc' := 81) (tgt := 137) hX dX7_takeSounds_78 rfl (by decide) ⟨by omega, by omega⟩ ⟨by omega, by omega⟩ (fun c33 => ?_) (fun c33 => ?_)
                    · refine zt_aload_n (pc' := 138) hX dX7_takeSounds_137 rfl rfl ?_
                      refine zt_iload_n (pc' := 139) hX dX7_takeSounds_138 rfl rfl ?_
                      refine zt_put (pc' := 142) (x := r4) hX dX7_takeSounds_139 rfl zf_X7_28 (by decide) zc_147 zs_29 (fun q hq => by cases hq; rfl) rfl rfl rfl ?_
                      generalize hs35 : zset s22 147 5 r4 = s34
                      have hI36 : zInv s34 := hs35 ▸ zp_29_5 hI23 zc_147 ⟨by omega, by omega⟩
                      have hF37 : zOn zSd σ s34 := hs35 ▸ zOn_set hF24 rfl
                      have e38 : s34 1 1 = s22 1 1 := by rw [← hs35]; exact zset_k (zne_r zc_1 zc_147 (by decide))
                      have e39 : s34 147 5 = r4 := by rw [← hs35]; exact zset_s
                      refine zt_iconst (pc' := 143) hX dX7_takeSounds_142 rfl ?_
                      exact zt_zret hX hR dX7_takeSounds_143 ⟨by omega, by omega⟩ ⟨hI36, hF37, by omega, by omega, (fun _ => ⟨⟨by omega, by omega, by omega, by rw [show σ 1 1 / 4 = _ from (by assumption : _ = σ 1 1 / 4).symm]; exact ySd_le g13 (by omega)⟩, by omega⟩), (fun o => absurd o (by decide))⟩
                    · refine zt_iload (pc' := 83) hX dX7_takeSounds_81 rfl rfl ?_
                      refine zt_iconst (pc' := 84) hX dX7_takeSounds_83 rfl ?_
                      refine zt_imul (pc' := 85) hX dX7_takeSounds_84 rfl ?_
                      refine zt_istore (pc' := 87) (lv' := [some (.ref (X.1.1 + 147)), some (.ref (X.1.1 + 17)), some (.ref (X.1.1 + 1)), some (.int (zI r4)), some (.int (zI x19)), some (.int (zI (x19 * 4)))]) hX dX7_takeSounds_85 rfl hL (by decide) rfl ?_
                      refine zt_aload_n (pc' := 88) hX dX7_takeSounds_87 rfl rfl ?_
                      refine zt_get (pc' := 91) (v := .ref (X.1.1 + 151)) hX dX7_takeSounds_88 rfl zf_X7_22 (by decide) zc_147 zs_29 (zrf_of (zv_29_3 hI23 zc_147)) ?_
                      refine zt_iload (pc' := 93) hX dX7_takeSounds_91 rfl rfl ?_
                      refine zt_aload_n (pc' := 94) hX dX7_takeSounds_93 rfl rfl ?_
                      refine zt_aload_n (pc' := 95) hX dX7_takeSounds_94 rfl rfl ?_
                      refine zt_iload (pc' := 97) hX dX7_takeSounds_95 rfl rfl ?_
                      refine zt_cVi (pc' := 100) hX dX7_takeSounds_97 rfl zm_yX9_byteAt zw_56_22 zc_1 (by decide) zs_2 (q := (RX9, TX9, 2)) rfl rfl (yc_X9_byteAt _ _ s22 hI23 (x19 * 4) ⟨by omega, by omega⟩) rfl rfl (Nat.le_of_ble_eq_true rfl) (by decide) (fun r40 s41 hr42 hp43 => ?_)
                      obtain ⟨rfl, q44, q45, z46⟩ := hp43
                      have hb47 : 0 ≤ r40 ∧ r40 ≤ 5 := by rw [z46, show yT s22 = yT σ from yT_eq (hF24 1 1 rfl) (fun j => hF24 2 j rfl)]; have q := ySd_a g27 (k := x19) (u := (x19 * 4)) (by omega) (by omega) (by omega); omega
                      clear z46
                      refine zt_aload_n (pc' := 101) hX dX7_takeSounds_100 rfl rfl ?_
                      refine zt_iload (pc' := 103) hX dX7_takeSounds_101 rfl rfl ?_
                      refine zt_iconst (pc' := 104) hX dX7_takeSounds_103 rfl ?_
                      refine zt_iadd (pc' := 105) hX dX7_takeSounds_104 rfl ?_
                      refine zt_cVi (pc' := 108) hX dX7_takeSounds_105 rfl zm_yX9_byteAt zw_56_22 zc_1 (by decide) zs_2 (q := (RX9, TX9, 2)) rfl rfl (yc_X9_byteAt _ _ s22 hI23 ((x19 * 4) + 1) ⟨by omega, by omega⟩) rfl rfl (Nat.le_of_ble_eq_true rfl) (by decide) (fun r48 s49 hr50 hp51 => ?_)
                      obtain ⟨rfl, q52, q53, z54⟩ := hp51
                      have hb55 : 0 ≤ r48 ∧ r48 ≤ 5 := by rw [z54, show yT s22 = yT σ from yT_eq (hF24 1 1 rfl) (fun j => hF24 2 j rfl)]; have q := ySd_b g27 (k := x19) (u := ((x19 * 4) + 1)) (by omega) (by omega) (by omega); omega
                      clear z54
                      refine zt_cVi (pc' := 111) hX dX7_takeSounds_108 rfl zm_yX3_cellAt zw_57_0 zc_17 (by decide) zs_8 (q := (RX3, TX3, 17)) rfl rfl (zc_X3_cellAt _ _ s22 hI23 17 zc_17 r40 ⟨by omega, by omega⟩ r48 ⟨by omega, by omega⟩) rfl rfl (Nat.le_of_ble_eq_true rfl) (by decide) (fun r56 s57 hr58 hp59 => ?_)
                      obtain ⟨rfl, q60, q61, z62⟩ := hp59
                      refine zt_iast (pc' := 112) hX dX7_takeSounds_111 rfl (by decide) zc_151 zs_33 (by decide) ⟨by omega, by omega⟩ ?_
                      generalize hs64 : zset s22 151 (x19.toNat) r56 = s63
                      have hI65 : zInv s63 := hs64 ▸ zp_33 hI23 zc_151 (x19.toNat) ⟨by omega, by omega⟩
                      have hF66 : zOn zSd σ s63 := hs64 ▸ zOn_set hF24 rfl
                      have e67 : s63 1 1 = s22 1 1 := by rw [← hs64]; exact zset_k (zne_r zc_1 zc_151 (by decide))
                      have e68 : s63 147 5 = s22 147 5 := by rw [← hs64]; exact zset_k (zne_r zc_147 zc_151 (by decide))
                      refine zt_aload_n (pc' := 113) hX dX7_takeSounds_112 rfl rfl ?_
                      refine zt_get (pc' := 116) (v := .ref (X.1.1 + 152)) hX dX7_takeSounds_113 rfl zf_X7_25 (by decide) zc_147 zs_29 (zrf_of (zv_29_4 hI65 zc_147)) ?_
                      refine zt_iload (pc' := 118) hX dX7_takeSounds_116 rfl rfl ?_
                      refine zt_aload_n (pc' := 119) hX dX7_takeSounds_118 rfl rfl ?_
                      refine zt_iload (pc' := 121) hX dX7_takeSounds_119 rfl rfl ?_
                      refine zt_iconst (pc' := 122) hX dX7_takeSounds_121 rfl ?_
                      refine zt_iadd (pc' := 123) hX dX7_takeSounds_122 rfl ?_
                      refine zt_cVi (pc' := 126) hX dX7_takeSounds_123 rfl zm_yX9_pairAt zw_57_1 zc_1 (by decide) zs_2 (q := (RX9, TX9, 2)) rfl rfl (zc_X9_pairAt_1 _ _ s63 hI65 ((x19 * 4) + 2) ⟨by omega, by omega⟩) rfl rfl (Nat.le_of_ble_eq_true rfl) (by decide) (fun r69 s70 hr71 hp72 => ?_)
                      obtain ⟨rfl, q73, q74⟩ := hp72
                      refine zt_sipush (pc' := 129) hX dX7_takeSounds_126 rfl (by decide) (by decide) ?_
                      refine zt_isub (pc' := 130) hX dX7_takeSounds_129 rfl ?_
                      refine zt_wrap (fun r75 zr75 lr75 ur75 => ?_)
                      clear zr75
                      refine zt_iast (pc' := 131) hX dX7_takeSounds_130 rfl (by decide) zc_152 zs_34 (by decide) ⟨by omega, by omega⟩ ?_
                      generalize hs77 : zset s63 152 (x19.toNat) r75 = s76
                      have hI78 : zInv s76 := hs77 ▸ zp_34 hI65 zc_152 (x19.toNat) ⟨by omega, by omega⟩
                      have hF79 : zOn zSd σ s76 := hs77 ▸ zOn_set hF66 rfl
                      have e80 : s76 1 1 = s63 1 1 := by rw [← hs77]; exact zset_k (zne_r zc_1 zc_152 (by decide))
                      have e81 : s76 147 5 = s63 147 5 := by rw [← hs77]; exact zset_k (zne_r zc_147 zc_152 (by decide))
                      refine zt_iinc (pc' := 134) (lv' := [some (.ref (X.1.1 + 147)), some (.ref (X.1.1 + 17)), some (.ref (X.1.1 + 1)), some (.int (zI r4)), some (.int (zI (x19 + 1))), some (.int (zI (x19 * 4)))]) hX dX7_takeSounds_131 rfl rfl hL (by decide) rfl ?_
                      refine zt_goto (tgt := 75) hX dX7_takeSounds_134 (by decide) ?_
                      refine zt_mask [true, true, true, true, true, false] rfl ?_
                      exact ih30 (x19 + 1) s76 (by omega) (by omega) hI78 hF79 (by omega) (by omega) g27 (by omega)
                exact L_75_27 _ 0 σ (by omega) (by omega) hI hF (by omega) (by omega) (ySd_le g13 (by omega)) (Nat.lt_succ_self _)
              · refine zt_aload_n (pc' := 40) hX dX7_takeSounds_39 rfl rfl ?_
                refine zt_aload_n (pc' := 41) hX dX7_takeSounds_40 rfl rfl ?_
                refine zt_iload (pc' := 43) hX dX7_takeSounds_41 rfl rfl ?_
                refine zt_iconst (pc' := 44) hX dX7_takeSounds_43 rfl ?_
                refine zt_imul (pc' := 45) hX dX7_takeSounds_44 rfl ?_
                refine zt_cVi (pc' := 48) hX dX7_takeSounds_45 rfl zm_yX9_byteAt zw_56_22 zc_1 (by decide) zs_2 (q := (RX9, TX9, 2)) rfl rfl (yc_X9_byteAt _ _ σ hI (x8 * 4) ⟨by omega, by omega⟩) rfl rfl (Nat.le_of_ble_eq_true rfl) (by decide) (fun r82 s83 hr84 hp85 => ?_)
                obtain ⟨rfl, q86, q87, z88⟩ := hp85
                refine zt_aload_n (pc' := 49) hX dX7_takeSounds_48 rfl rfl ?_
                refine zt_iload (pc' := 51) hX dX7_takeSounds_49 rfl rfl ?_
                refine zt_iconst (pc' := 52) hX dX7_takeSounds_51 rfl ?_
                refine zt_imul (pc' := 53) hX dX7_takeSounds_52 rfl ?_
                refine zt_iconst (pc' := 54) hX dX7_takeSounds_53 rfl ?_
                refine zt_iadd (pc' := 55) hX dX7_takeSounds_54 rfl ?_
                refine zt_cVi (pc' := 58) hX dX7_takeSounds_55 rfl zm_yX9_byteAt zw_56_22 zc_1 (by decide) zs_2 (q := (RX9, TX9, 2)) rfl rfl (yc_X9_byteAt _ _ σ hI ((x8 * 4) + 1) ⟨by omega, by omega⟩) rfl rfl (Nat.le_of_ble_eq_true rfl) (by decide) (fun r89 s90 hr91 hp92 => ?_)
                obtain ⟨rfl, q93, q94, z95⟩ := hp92
                refine zt_cVz (pc' := 61) hX dX7_takeSounds_58 rfl zm_yX3_hasCell zw_56_23 zc_17 (by decide) zs_8 (q := (RX3, TX3, 17)) rfl rfl (yd_X3_hasCell_17 _ _ σ hI r82 ⟨by omega, by omega⟩ r89 ⟨by omega, by omega⟩) rfl rfl (Nat.le_of_ble_eq_true rfl) (by decide) (fun r96 s97 hr98 hp99 => ?_)
                obtain ⟨rfl, q100, q101, z102⟩ := hp99
                rcases ysph z102 with ⟨rfl, c103⟩ | ⟨rfl, c103⟩
                · clear z102
                  refine zt_ifne (pc' := 64) (tgt := 66) hX dX7_takeSounds_61 rfl (by decide) ⟨by omega, by omega⟩ (fun c104 => ?_) (fun c104 => ?_)
                  · refine zt_iinc (pc' := 69) (lv' := [some (.ref (X.1.1 + 147)), some (.ref (X.1.1 + 17)), some (.ref (X.1.1 + 1)), some (.int (zI r4)), some (.int (zI (x8 + 1))), none]) hX dX7_takeSounds_66 rfl rfl hL (by decide) rfl ?_
                    refine zt_goto (tgt := 33) hX dX7_takeSounds_69 (by decide) ?_
                    exact ih16 (x8 + 1) (by omega) (by omega) (by omega) (by omega) (ySd_s g13 (by omega) z88 (by omega) z95 (by omega) c103) (by omega)
                  · exact absurd c104 (by omega)
                · clear z102
                  refine zt_ifne (pc' := 64) (tgt := 66) hX dX7_takeSounds_61 rfl (by decide) ⟨by omega, by omega⟩ (fun c105 => ?_) (fun c105 => ?_)
                  · exact absurd c105 (by omega)
                  · refine zt_iconst (pc' := 65) hX dX7_takeSounds_64 rfl ?_
                    exact zt_zret hX hR dX7_takeSounds_65 ⟨by omega, by omega⟩ ⟨hI, hF, by omega, by omega, (fun o => absurd o (by decide)), (fun _ => ySx_k (k := x8) (by omega) (by omega) z88 (by omega) z95 (by omega) c103 rfl)⟩
        exact L_33_13 _ 0 (by omega) (by omega) (by omega) (by omega) ySd_0 (Nat.lt_succ_self _)
      · refine zt_iconst (pc' := 29) hX dX7_takeSounds_28 rfl ?_
        exact zt_zret hX hR dX7_takeSounds_29 ⟨by omega, by omega⟩ ⟨hI, hF, by omega, by omega, (fun o => absurd o (by decide)), (fun _ => ySx_n (fun h => by omega) rfl)⟩
set_option maxRecDepth 100000 in
set_option maxHeartbeats 4000000 in
theorem yd_X11_sound_17 (l : Launch) (E : zEN) (σ : zSto) (hI : zInv σ) (hpre0 : σ 0 3 = 17) : zCt l E yX11_sound cX11_sound 2 (some .int) 3 zNC zNC 0 0 σ [.ref (E.1 + 0)] (fun r σ' => zInv σ' ∧ zOn zAl σ σ' ∧ -2147483648 ≤ r ∧ r ≤ 2147483647 ∧ (ySx (yT σ) (σ 1 1) (σ 17 10) (σ 17 11) r)) := by
  refine zCt_of2 [some (.ref (E.1 + 0)), none] (by decide +kernel) (Nat.le_of_ble_eq_true rfl) rfl ?_
  intro X hE_ hX hR hL hN
  subst hE_
  have hX : zok X cX11_sound RX11 3 := hX
  have hF := zOn_rf zAl σ
  have b_a := zv_8_10 hI zc_17
  have b1 := zv_29_5 hI zc_147
  have b2 := zv_1_3 hI zc_0
  refine zt_aload_n (pc' := 1) hX dX11_sound_0 rfl rfl ?_
  have ek3 : σ 0 3 = ((17 : Nat) : Int) := by omega
  refine zt_get (pc' := 4) (v := .ref (X.1.1 + 17)) hX dX11_sound_1 rfl zf_X11_31 (by decide) zc_0 zs_1 (zrf_of ek3) ?_
  refine zt_cVz (pc' := 7) hX dX11_sound_4 rfl zm_yX3_isTold zw_48_6 zc_17 (by decide) zs_8 (q := (RX3, TX3, 17)) rfl rfl (yd_X3_isTold_17 _ _ σ hI ) rfl rfl (Nat.le_of_ble_eq_true rfl) (by decide) (fun r4 s5 hr6 hp7 => ?_)
  obtain ⟨rfl, q8, q9, z10⟩ := hp7
  obtain ⟨ht, hu⟩ := z10
  replace ht : yIm _ _ := ht
  replace hu : yIm _ _ := hu
  refine zt_ifeq (pc' := 10) (tgt := 32) hX dX11_sound_7 rfl (by decide) ⟨by omega, by omega⟩ (fun c11 => ?_) (fun c11 => ?_)
  · refine zt_iconst (pc' := 33) hX dX11_sound_32 rfl ?_
    refine zt_istore_n (pc' := 34) (lv' := [some (.ref (X.1.1 + 0)), some (.int (zI 0))]) hX dX11_sound_33 rfl hL (by decide) rfl ?_
    refine zt_aload_n (pc' := 35) hX dX11_sound_34 rfl rfl ?_
    refine zt_get (pc' := 38) (v := .ref (X.1.1 + 1)) hX dX11_sound_35 rfl zf_X11_14 (by decide) zc_0 zs_1 (zrf_of (zv_1_0 hI zc_0)) ?_
    refine zt_iconst (pc' := 39) hX dX11_sound_38 rfl ?_
    refine zt_put (pc' := 42) (x := 0) hX dX11_sound_39 rfl zf_X11_110 (by decide) zc_1 zs_2 (fun q hq => by cases hq; rfl) rfl rfl rfl ?_
    generalize hs13 : zset σ 1 1 0 = s12
    have hI14 : zInv s12 := hs13 ▸ zp_2_1 hI zc_1 ⟨by omega, by omega⟩
    have hF15 : zOn zAl σ s12 := hs13 ▸ zOn_set hF rfl
    have e16 : s12 147 5 = σ 147 5 := by rw [← hs13]; exact zset_k (zne_r zc_147 zc_1 (by decide))
    have e17 : s12 0 3 = σ 0 3 := by rw [← hs13]; exact zset_k (zne_r zc_0 zc_1 (by decide))
    refine zt_iload_n (pc' := 43) hX dX11_sound_42 rfl rfl ?_
    refine zt_ifeq (pc' := 46) (tgt := 56) hX dX11_sound_43 rfl (by decide) ⟨by omega, by omega⟩ (fun c18 => ?_) (fun c18 => ?_)
    · refine zt_aload_n (pc' := 57) hX dX11_sound_56 rfl rfl ?_
      refine zt_iconst (pc' := 58) hX dX11_sound_57 rfl ?_
      refine zt_cVi (pc' := 61) hX dX11_sound_58 rfl zm_yX11_refusal zw_14_3 zc_0 (by decide) zs_1 (q := (RX11, TX11, 17)) rfl rfl (zc_X11_refusal _ _ s12 hI14 1 ⟨by omega, by omega⟩) rfl rfl (Nat.le_of_ble_eq_true rfl) (by decide) (fun r19 s20 hr21 hp22 => ?_)
      obtain ⟨hI23, hF24, q25, q26⟩ := hp22
      have hF27 : zOn zAl σ s20 := zOn_al
      have b28 := zv_29_5 hI23 zc_147
      have b29 := zv_1_3 hI23 zc_0
      exact zt_iret hX hR dX11_sound_61 ⟨by omega, by omega⟩ ⟨hI23, hF27, by omega, by omega, (ySx_n (fun h => absurd (show _ = (1 : Int) from ht h.2.2.2) (by omega)) (by omega))⟩
    · exact absurd c18 (by omega)
  · refine zt_aload_n (pc' := 11) hX dX11_sound_10 rfl rfl ?_
    refine zt_get (pc' := 14) (v := .ref (X.1.1 + 147)) hX dX11_sound_11 rfl zf_X11_83 (by decide) zc_0 zs_1 (zrf_of (zv_1_11 hI zc_0)) ?_
    refine zt_aload_n (pc' := 15) hX dX11_sound_14 rfl rfl ?_
    refine zt_get (pc' := 18) (v := .ref (X.1.1 + 17)) hX dX11_sound_15 rfl zf_X11_31 (by decide) zc_0 zs_1 (zrf_of ek3) ?_
    refine zt_aload_n (pc' := 19) hX dX11_sound_18 rfl rfl ?_
    refine zt_get (pc' := 22) (v := .ref (X.1.1 + 1)) hX dX11_sound_19 rfl zf_X11_14 (by decide) zc_0 zs_1 (zrf_of (zv_1_0 hI zc_0)) ?_
    refine zt_cVz (pc' := 25) hX dX11_sound_22 rfl zm_yX7_takeSounds zw_56_17 zc_147 (by decide) zs_29 (q := (RX7, TX7, 7)) rfl rfl (yd_X7_takeSounds_17 _ _ σ hI ) rfl rfl (Nat.le_of_ble_eq_true rfl) (by decide) (fun r30 s31 hr32 hp33 => ?_)
    obtain ⟨hI34, hF35, q36, q37, z38, z39⟩ := hp33
    have hF40 : zOn zAl σ s31 := zOn_al
    have b41 := zv_29_5 hI34 zc_147
    have b42 := zv_1_3 hI34 zc_0
    replace z38 : yIm _ _ := z38
    replace z39 : yIm _ _ := z39
    refine zt_ifeq (pc' := 28) (tgt := 32) hX dX11_sound_25 rfl (by decide) ⟨by omega, by omega⟩ (fun c43 => ?_) (fun c43 => ?_)
    · refine zt_iconst (pc' := 33) hX dX11_sound_32 rfl ?_
      refine zt_istore_n (pc' := 34) (lv' := [some (.ref (X.1.1 + 0)), some (.int (zI 0))]) hX dX11_sound_33 rfl hL (by decide) rfl ?_
      refine zt_aload_n (pc' := 35) hX dX11_sound_34 rfl rfl ?_
      refine zt_get (pc' := 38) (v := .ref (X.1.1 + 1)) hX dX11_sound_35 rfl zf_X11_14 (by decide) zc_0 zs_1 (zrf_of (zv_1_0 hI34 zc_0)) ?_
      refine zt_iconst (pc' := 39) hX dX11_sound_38 rfl ?_
      refine zt_put (pc' := 42) (x := 0) hX dX11_sound_39 rfl zf_X11_110 (by decide) zc_1 zs_2 (fun q hq => by cases hq; rfl) rfl rfl rfl ?_
      generalize hs45 : zset s31 1 1 0 = s44
      have hI46 : zInv s44 := hs45 ▸ zp_2_1 hI34 zc_1 ⟨by omega, by omega⟩
      have hF47 : zOn zAl σ s44 := hs45 ▸ zOn_set hF40 rfl
      have e48 : s44 147 5 = s31 147 5 := by rw [← hs45]; exact zset_k (zne_r zc_147 zc_1 (by decide))
      have e49 : s44 0 3 = s31 0 3 := by rw [← hs45]; exact zset_k (zne_r zc_0 zc_1 (by decide))
      refine zt_iload_n (pc' := 43) hX dX11_sound_42 rfl rfl ?_
      refine zt_ifeq (pc' := 46) (tgt := 56) hX dX11_sound_43 rfl (by decide) ⟨by omega, by omega⟩ (fun c50 => ?_) (fun c50 => ?_)
      · refine zt_aload_n (pc' := 57) hX dX11_sound_56 rfl rfl ?_
        refine zt_iconst (pc' := 58) hX dX11_sound_57 rfl ?_
        refine zt_cVi (pc' := 61) hX dX11_sound_58 rfl zm_yX11_refusal zw_14_3 zc_0 (by decide) zs_1 (q := (RX11, TX11, 17)) rfl rfl (zc_X11_refusal _ _ s44 hI46 1 ⟨by omega, by omega⟩) rfl rfl (Nat.le_of_ble_eq_true rfl) (by decide) (fun r51 s52 hr53 hp54 => ?_)
        obtain ⟨hI55, hF56, q57, q58⟩ := hp54
        have hF59 : zOn zAl σ s52 := zOn_al
        have b60 := zv_29_5 hI55 zc_147
        have b61 := zv_1_3 hI55 zc_0
        exact zt_iret hX hR dX11_sound_61 ⟨by omega, by omega⟩ ⟨hI55, hF59, by omega, by omega, (by rw [show r51 = -1 by omega]; exact z39 (by omega))⟩
      · exact absurd c50 (by omega)
    · refine zt_iconst (pc' := 29) hX dX11_sound_28 rfl ?_
      refine zt_goto (tgt := 33) hX dX11_sound_29 (by decide) ?_
      refine zt_istore_n (pc' := 34) (lv' := [some (.ref (X.1.1 + 0)), some (.int (zI 1))]) hX dX11_sound_33 rfl hL (by decide) rfl ?_
      refine zt_aload_n (pc' := 35) hX dX11_sound_34 rfl rfl ?_
      refine zt_get (pc' := 38) (v := .ref (X.1.1 + 1)) hX dX11_sound_35 rfl zf_X11_14 (by decide) zc_0 zs_1 (zrf_of (zv_1_0 hI34 zc_0)) ?_
      refine zt_iconst (pc' := 39) hX dX11_sound_38 rfl ?_
      refine zt_put (pc' := 42) (x := 0) hX dX11_sound_39 rfl zf_X11_110 (by decide) zc_1 zs_2 (fun q hq => by cases hq; rfl) rfl rfl rfl ?_
      generalize hs63 : zset s31 1 1 0 = s62
      have hI64 : zInv s62 := hs63 ▸ zp_2_1 hI34 zc_1 ⟨by omega, by omega⟩
      have hF65 : zOn zAl σ s62 := hs63 ▸ zOn_set hF40 rfl
      have e66 : s62 147 5 = s31 147 5 := by rw [← hs63]; exact zset_k (zne_r zc_147 zc_1 (by decide))
      have e67 : s62 0 3 = s31 0 3 := by rw [← hs63]; exact zset_k (zne_r zc_0 zc_1 (by decide))
      refine zt_iload_n (pc' := 43) hX dX11_sound_42 rfl rfl ?_
      refine zt_ifeq (pc' := 46) (tgt := 56) hX dX11_sound_43 rfl (by decide) ⟨by omega, by omega⟩ (fun c68 => ?_) (fun c68 => ?_)
      · exact absurd c68 (by omega)
      · refine zt_aload_n (pc' := 47) hX dX11_sound_46 rfl rfl ?_
        refine zt_get (pc' := 50) (v := .ref (X.1.1 + 147)) hX dX11_sound_47 rfl zf_X11_83 (by decide) zc_0 zs_1 (zrf_of (zv_1_11 hI64 zc_0)) ?_
        have b69 := zv_29_5 hI64 zc_147
        refine zt_get (pc' := 53) (v := .int (zI (s62 147 5))) hX dX11_sound_50 rfl zf_X11_138 (by decide) zc_147 zs_29 rfl ?_
        refine zt_goto (tgt := 61) hX dX11_sound_53 (by decide) ?_
        exact zt_iret hX hR dX11_sound_61 ⟨by omega, by omega⟩ ⟨hI64, hF65, by omega, by omega, (by have q := z38 (by omega); exact ySx_y ⟨q.1.1, q.1.2.1, q.1.2.2.1, (by rcases Int.lt_or_le (σ 17 10) 1 with g | g; exact absurd (show _ = (0 : Int) from hu (by omega)) (by omega); exact g)⟩ q.1.2.2.2 (by have q2 := q.2; omega))⟩
