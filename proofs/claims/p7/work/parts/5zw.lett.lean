set_option maxRecDepth 100000 in
set_option maxHeartbeats 4000000 in
theorem yd_X3_hasPerson_7 (l : Launch) (E : zEN) (σ : zSto) (hI : zInv σ) (a1_ : Int) (ha1_ : -2147483648 ≤ a1_ ∧ a1_ ≤ 2147483647) : zCt l E yX3_hasPerson cX3_hasPerson 2 (some .boolean) 0 zNC zNC 0 0 σ [.ref (E.1 + 7), .int (zI a1_)] (fun r σ' => σ = σ' ∧ 0 ≤ r ∧ r ≤ 1 ∧ (((0 ≤ a1_ ∧ a1_ < σ 7 12) → r = 1) ∧ (¬ (0 ≤ a1_ ∧ a1_ < σ 7 12) → r = 0))) := by
  refine zCt_of2 [some (.ref (E.1 + 7)), some (.int (zI a1_))] (by decide +kernel) (Nat.le_of_ble_eq_true rfl) rfl ?_
  intro X hE_ hX hR hL hN
  subst hE_
  have hX : zok X cX3_hasPerson RX3 0 := hX
  have b1 := zv_8_12 hI zc_7
  refine zt_iload_n (pc' := 1) hX dX3_hasPerson_0 rfl rfl ?_
  refine zt_iflt (pc' := 4) (tgt := 16) hX dX3_hasPerson_1 rfl (by decide) ⟨by omega, by omega⟩ (fun c2 => ?_) (fun c2 => ?_)
  · refine zt_iconst (pc' := 17) hX dX3_hasPerson_16 rfl ?_
    exact zt_zret hX hR dX3_hasPerson_17 ⟨by omega, by omega⟩ ⟨rfl, by omega, by omega, ⟨fun h => by omega, fun h => by omega⟩⟩
  · refine zt_iload_n (pc' := 5) hX dX3_hasPerson_4 rfl rfl ?_
    refine zt_aload_n (pc' := 6) hX dX3_hasPerson_5 rfl rfl ?_
    have b3 := zv_8_12 hI zc_7
    refine zt_get (pc' := 9) (v := .int (zI (σ 7 12))) hX dX3_hasPerson_6 rfl zf_X3_54 (by decide) zc_7 zs_8 rfl ?_
    refine zt_icge (pc' := 12) (tgt := 16) hX dX3_hasPerson_9 rfl (by decide) ⟨by omega, by omega⟩ ⟨by omega, by omega⟩ (fun c4 => ?_) (fun c4 => ?_)
    · refine zt_iconst (pc' := 17) hX dX3_hasPerson_16 rfl ?_
      exact zt_zret hX hR dX3_hasPerson_17 ⟨by omega, by omega⟩ ⟨rfl, by omega, by omega, ⟨fun h => by omega, fun h => by omega⟩⟩
    · refine zt_iconst (pc' := 13) hX dX3_hasPerson_12 rfl ?_
      refine zt_goto (tgt := 17) hX dX3_hasPerson_13 (by decide) ?_
      exact zt_zret hX hR dX3_hasPerson_17 ⟨by omega, by omega⟩ ⟨rfl, by omega, by omega, ⟨fun h => by omega, fun h => by omega⟩⟩
set_option maxRecDepth 100000 in
set_option maxHeartbeats 4000000 in
theorem yd_X3_hasPerson_17 (l : Launch) (E : zEN) (σ : zSto) (hI : zInv σ) (a1_ : Int) (ha1_ : -2147483648 ≤ a1_ ∧ a1_ ≤ 2147483647) : zCt l E yX3_hasPerson cX3_hasPerson 2 (some .boolean) 0 zNC zNC 0 0 σ [.ref (E.1 + 17), .int (zI a1_)] (fun r σ' => σ = σ' ∧ 0 ≤ r ∧ r ≤ 1 ∧ (((0 ≤ a1_ ∧ a1_ < σ 17 12) → r = 1) ∧ (¬ (0 ≤ a1_ ∧ a1_ < σ 17 12) → r = 0))) := by
  refine zCt_of2 [some (.ref (E.1 + 17)), some (.int (zI a1_))] (by decide +kernel) (Nat.le_of_ble_eq_true rfl) rfl ?_
  intro X hE_ hX hR hL hN
  subst hE_
  have hX : zok X cX3_hasPerson RX3 0 := hX
  have b1 := zv_8_12 hI zc_17
  refine zt_iload_n (pc' := 1) hX dX3_hasPerson_0 rfl rfl ?_
  refine zt_iflt (pc' := 4) (tgt := 16) hX dX3_hasPerson_1 rfl (by decide) ⟨by omega, by omega⟩ (fun c2 => ?_) (fun c2 => ?_)
  · refine zt_iconst (pc' := 17) hX dX3_hasPerson_16 rfl ?_
    exact zt_zret hX hR dX3_hasPerson_17 ⟨by omega, by omega⟩ ⟨rfl, by omega, by omega, ⟨fun h => by omega, fun h => by omega⟩⟩
  · refine zt_iload_n (pc' := 5) hX dX3_hasPerson_4 rfl rfl ?_
    refine zt_aload_n (pc' := 6) hX dX3_hasPerson_5 rfl rfl ?_
    have b3 := zv_8_12 hI zc_17
    refine zt_get (pc' := 9) (v := .int (zI (σ 17 12))) hX dX3_hasPerson_6 rfl zf_X3_54 (by decide) zc_17 zs_8 rfl ?_
    refine zt_icge (pc' := 12) (tgt := 16) hX dX3_hasPerson_9 rfl (by decide) ⟨by omega, by omega⟩ ⟨by omega, by omega⟩ (fun c4 => ?_) (fun c4 => ?_)
    · refine zt_iconst (pc' := 17) hX dX3_hasPerson_16 rfl ?_
      exact zt_zret hX hR dX3_hasPerson_17 ⟨by omega, by omega⟩ ⟨rfl, by omega, by omega, ⟨fun h => by omega, fun h => by omega⟩⟩
    · refine zt_iconst (pc' := 13) hX dX3_hasPerson_12 rfl ?_
      refine zt_goto (tgt := 17) hX dX3_hasPerson_13 (by decide) ?_
      exact zt_zret hX hR dX3_hasPerson_17 ⟨by omega, by omega⟩ ⟨rfl, by omega, by omega, ⟨fun h => by omega, fun h => by omega⟩⟩
set_option maxRecDepth 100000 in
set_option maxHeartbeats 4000000 in
theorem yd_X11_letter_7 (l : Launch) (E : zEN) (σ : zSto) (hI : zInv σ) (a1_ : Int) (ha1_ : -2147483648 ≤ a1_ ∧ a1_ ≤ 2147483647) (a2_ : Int) (ha2_ : -2147483648 ≤ a2_ ∧ a2_ ≤ 2147483647) (hpre0 : σ 0 3 = 7) : zCt l E yX11_letter cX11_letter 3 (some .int) 1 zNC zNC 0 0 σ [.ref (E.1 + 0), .int (zI a1_), .int (zI a2_)] (fun r σ' => σ = σ' ∧ -2147483648 ≤ r ∧ r ≤ 2147483647 ∧ (r = yLt (σ 7 12) (σ 9) a1_ a2_)) := by
  refine zCt_of2 [some (.ref (E.1 + 0)), some (.int (zI a1_)), some (.int (zI a2_))] (by decide +kernel) (Nat.le_of_ble_eq_true rfl) rfl ?_
  intro X hE_ hX hR hL hN
  subst hE_
  have hX : zok X cX11_letter RX11 1 := hX
  have b1 := zv_1_3 hI zc_0
  have b2 := zv_8_12 hI zc_7
  refine zt_aload_n (pc' := 1) hX dX11_letter_0 rfl rfl ?_
  have ek3 : σ 0 3 = ((7 : Nat) : Int) := by omega
  refine zt_get (pc' := 4) (v := .ref (X.1.1 + 7)) hX dX11_letter_1 rfl zf_X11_31 (by decide) zc_0 zs_1 (zrf_of ek3) ?_
  refine zt_iload_n (pc' := 5) hX dX11_letter_4 rfl rfl ?_
  refine zt_cVz (pc' := 8) hX dX11_letter_5 rfl zm_yX3_hasPerson zw_41_8 zc_7 (by decide) zs_8 (q := (RX3, TX3, 17)) rfl rfl (yd_X3_hasPerson_7 _ _ σ hI a1_ ⟨by omega, by omega⟩) rfl rfl (Nat.le_of_ble_eq_true rfl) (by decide) (fun r4 s5 hr6 hp7 => ?_)
  obtain ⟨rfl, q8, q9, z10⟩ := hp7
  refine zt_ifeq (pc' := 11) (tgt := 21) hX dX11_letter_8 rfl (by decide) ⟨by omega, by omega⟩ (fun c11 => ?_) (fun c11 => ?_)
  · refine zt_iconst (pc' := 22) hX dX11_letter_21 rfl ?_
    exact zt_iret hX hR dX11_letter_22 ⟨by omega, by omega⟩ ⟨rfl, by omega, by omega, (yLt_out (fun h => by omega) rfl)⟩
  · refine zt_iload_n (pc' := 12) hX dX11_letter_11 rfl rfl ?_
    refine zt_iflt (pc' := 15) (tgt := 21) hX dX11_letter_12 rfl (by decide) ⟨by omega, by omega⟩ (fun c12 => ?_) (fun c12 => ?_)
    · refine zt_iconst (pc' := 22) hX dX11_letter_21 rfl ?_
      exact zt_iret hX hR dX11_letter_22 ⟨by omega, by omega⟩ ⟨rfl, by omega, by omega, (yLt_out (fun h => by omega) rfl)⟩
    · refine zt_iload_n (pc' := 16) hX dX11_letter_15 rfl rfl ?_
      refine zt_bipush (pc' := 18) hX dX11_letter_16 rfl (by decide) (by decide) ?_
      refine zt_iclt (pc' := 21) (tgt := 23) hX dX11_letter_18 rfl (by decide) ⟨by omega, by omega⟩ ⟨by omega, by omega⟩ (fun c13 => ?_) (fun c13 => ?_)
      · refine zt_aload_n (pc' := 24) hX dX11_letter_23 rfl rfl ?_
        refine zt_get (pc' := 27) (v := .ref (X.1.1 + 7)) hX dX11_letter_24 rfl zf_X11_31 (by decide) zc_0 zs_1 (zrf_of ek3) ?_
        refine zt_get (pc' := 30) (v := .ref (X.1.1 + 9)) hX dX11_letter_27 rfl zf_X11_180 (by decide) zc_7 zs_8 (zrf_of (zv_8_1 hI zc_7)) ?_
        refine zt_iload_n (pc' := 31) hX dX11_letter_30 rfl rfl ?_
        refine zt_iald (pc' := 32) hX dX11_letter_31 rfl (by decide) zc_9 zs_10 (by decide) ⟨by omega, by omega⟩ ?_
        generalize hv14 : σ 9 (a1_.toNat) = v14
        have bv14 : -2147483648 ≤ v14 ∧ v14 ≤ 2147483647 := hv14 ▸ zv_10 hI zc_9 _
        refine zt_lwget (pc' := 35) hX dX11_letter_32 rfl zw_41_7 (fun t15 hT16 => ?_)
        refine zt_iload_n (pc' := 36) hX dX11_letter_35 rfl rfl ?_
        refine zt_lwald (pc' := 37) hX dX11_letter_36 rfl hT16 ⟨by omega, by omega⟩ ?_
        generalize hv17 : zlw a2_.toNat = v17
        have bv17 : 1 ≤ v17 ∧ v17 ≤ 14348907 := hv17 ▸ zlw_b _
        refine zt_idiv (pc' := 38) hX dX11_letter_37 rfl ⟨by omega, by omega⟩ ⟨by omega, by omega⟩ (fun r18 er18 br18 => ?_)
        refine zt_bipush (pc' := 40) hX dX11_letter_38 rfl (by decide) (by decide) ?_
        refine zt_irem (pc' := 41) hX dX11_letter_40 rfl ⟨by omega, by omega⟩ ⟨by omega, by omega⟩ (fun r19 er19 br19 nr19 => ?_)
        exact zt_iret hX hR dX11_letter_41 ⟨by omega, by omega⟩ ⟨rfl, by omega, by omega, (yLt_in ⟨by omega, by omega, by omega, by omega⟩ hv14 hv17 er18 er19)⟩
      · refine zt_iconst (pc' := 22) hX dX11_letter_21 rfl ?_
        exact zt_iret hX hR dX11_letter_22 ⟨by omega, by omega⟩ ⟨rfl, by omega, by omega, (yLt_out (fun h => by omega) rfl)⟩
set_option maxRecDepth 100000 in
set_option maxHeartbeats 4000000 in
theorem yd_X11_letter_17 (l : Launch) (E : zEN) (σ : zSto) (hI : zInv σ) (a1_ : Int) (ha1_ : -2147483648 ≤ a1_ ∧ a1_ ≤ 2147483647) (a2_ : Int) (ha2_ : -2147483648 ≤ a2_ ∧ a2_ ≤ 2147483647) (hpre0 : σ 0 3 = 17) : zCt l E yX11_letter cX11_letter 3 (some .int) 1 zNC zNC 0 0 σ [.ref (E.1 + 0), .int (zI a1_), .int (zI a2_)] (fun r σ' => σ = σ' ∧ -2147483648 ≤ r ∧ r ≤ 2147483647 ∧ (r = yLt (σ 17 12) (σ 19) a1_ a2_)) := by
  refine zCt_of2 [some (.ref (E.1 + 0)), some (.int (zI a1_)), some (.int (zI a2_))] (by decide +kernel) (Nat.le_of_ble_eq_true rfl) rfl ?_
  intro X hE_ hX hR hL hN
  subst hE_
  have hX : zok X cX11_letter RX11 1 := hX
  have b1 := zv_1_3 hI zc_0
  have b2 := zv_8_12 hI zc_17
  refine zt_aload_n (pc' := 1) hX dX11_letter_0 rfl rfl ?_
  have ek3 : σ 0 3 = ((17 : Nat) : Int) := by omega
  refine zt_get (pc' := 4) (v := .ref (X.1.1 + 17)) hX dX11_letter_1 rfl zf_X11_31 (by decide) zc_0 zs_1 (zrf_of ek3) ?_
  refine zt_iload_n (pc' := 5) hX dX11_letter_4 rfl rfl ?_
  refine zt_cVz (pc' := 8) hX dX11_letter_5 rfl zm_yX3_hasPerson zw_41_8 zc_17 (by decide) zs_8 (q := (RX3, TX3, 17)) rfl rfl (yd_X3_hasPerson_17 _ _ σ hI a1_ ⟨by omega, by omega⟩) rfl rfl (Nat.le_of_ble_eq_true rfl) (by decide) (fun r4 s5 hr6 hp7 => ?_)
  obtain ⟨rfl, q8, q9, z10⟩ := hp7
  refine zt_ifeq (pc' := 11) (tgt := 21) hX dX11_letter_8 rfl (by decide) ⟨by omega, by omega⟩ (fun c11 => ?_) (fun c11 => ?_)
  · refine zt_iconst (pc' := 22) hX dX11_letter_21 rfl ?_
    exact zt_iret hX hR dX11_letter_22 ⟨by omega, by omega⟩ ⟨rfl, by omega, by omega, (yLt_out (fun h => by omega) rfl)⟩
  · refine zt_iload_n (pc' := 12) hX dX11_letter_11 rfl rfl ?_
    refine zt_iflt (pc' := 15) (tgt := 21) hX dX11_letter_12 rfl (by decide) ⟨by omega, by omega⟩ (fun c12 => ?_) (fun c12 => ?_)
    · refine zt_iconst (pc' := 22) hX dX11_letter_21 rfl ?_
      exact zt_iret hX hR dX11_letter_22 ⟨by omega, by omega⟩ ⟨rfl, by omega, by omega, (yLt_out (fun h => by omega) rfl)⟩
    · refine zt_iload_n (pc' := 16) hX dX11_letter_15 rfl rfl ?_
      refine zt_bipush (pc' := 18) hX dX11_letter_16 rfl (by decide) (by decide) ?_
      refine zt_iclt (pc' := 21) (tgt := 23) hX dX11_letter_18 rfl (by decide) ⟨by omega, by omega⟩ ⟨by omega, by omega⟩ (fun c13 => ?_) (fun c13 => ?_)
      · refine zt_aload_n (pc' := 24) hX dX11_letter_23 rfl rfl ?_
        refine zt_get (pc' := 27) (v := .ref (X.1.1 + 17)) hX dX11_letter_24 rfl zf_X11_31 (by decide) zc_0 zs_1 (zrf_of ek3) ?_
        refine zt_get (pc' := 30) (v := .ref (X.1.1 + 19)) hX dX11_letter_27 rfl zf_X11_180 (by decide) zc_17 zs_8 (zrf_of (zv_8_1 hI zc_17)) ?_
        refine zt_iload_n (pc' := 31) hX dX11_letter_30 rfl rfl ?_
        refine zt_iald (pc' := 32) hX dX11_letter_31 rfl (by decide) zc_19 zs_10 (by decide) ⟨by omega, by omega⟩ ?_
        generalize hv14 : σ 19 (a1_.toNat) = v14
        have bv14 : -2147483648 ≤ v14 ∧ v14 ≤ 2147483647 := hv14 ▸ zv_10 hI zc_19 _
        refine zt_lwget (pc' := 35) hX dX11_letter_32 rfl zw_41_7 (fun t15 hT16 => ?_)
        refine zt_iload_n (pc' := 36) hX dX11_letter_35 rfl rfl ?_
        refine zt_lwald (pc' := 37) hX dX11_letter_36 rfl hT16 ⟨by omega, by omega⟩ ?_
        generalize hv17 : zlw a2_.toNat = v17
        have bv17 : 1 ≤ v17 ∧ v17 ≤ 14348907 := hv17 ▸ zlw_b _
        refine zt_idiv (pc' := 38) hX dX11_letter_37 rfl ⟨by omega, by omega⟩ ⟨by omega, by omega⟩ (fun r18 er18 br18 => ?_)
        refine zt_bipush (pc' := 40) hX dX11_letter_38 rfl (by decide) (by decide) ?_
        refine zt_irem (pc' := 41) hX dX11_letter_40 rfl ⟨by omega, by omega⟩ ⟨by omega, by omega⟩ (fun r19 er19 br19 nr19 => ?_)
        exact zt_iret hX hR dX11_letter_41 ⟨by omega, by omega⟩ ⟨rfl, by omega, by omega, (yLt_in ⟨by omega, by omega, by omega, by omega⟩ hv14 hv17 er18 er19)⟩
      · refine zt_iconst (pc' := 22) hX dX11_letter_21 rfl ?_
        exact zt_iret hX hR dX11_letter_22 ⟨by omega, by omega⟩ ⟨rfl, by omega, by omega, (yLt_out (fun h => by omega) rfl)⟩
set_option maxRecDepth 100000 in
set_option maxHeartbeats 4000000 in
theorem yd_X12_isPerson (l : Launch) (E : zEN) (σ : zSto) (hI : zInv σ) (a1_ : Int) (ha1_ : -2147483648 ≤ a1_ ∧ a1_ ≤ 2147483647) : zCt l E yX12_isPerson cX12_isPerson 2 (some .boolean) 1 zNC zNC 0 0 σ [.ref (E.1 + 164), .int (zI a1_)] (fun r σ' => σ = σ' ∧ 0 ≤ r ∧ r ≤ 1 ∧ (((0 ≤ a1_ ∧ a1_ < σ 195 1) → r = 1) ∧ (¬ (0 ≤ a1_ ∧ a1_ < σ 195 1) → r = 0))) := by
  refine zCt_of2 [some (.ref (E.1 + 164)), some (.int (zI a1_))] (by decide +kernel) (Nat.le_of_ble_eq_true rfl) rfl ?_
  intro X hE_ hX hR hL hN
  subst hE_
  have hX : zok X cX12_isPerson RX12 1 := hX
  have b1 := zv_77 hI zc_195 1
  refine zt_iload_n (pc' := 1) hX dX12_isPerson_0 rfl rfl ?_
  refine zt_i2l (pc' := 2) hX dX12_isPerson_1 rfl ⟨by omega, by omega⟩ ?_
  refine zt_lconst (pc' := 3) (y := 0) hX dX12_isPerson_2 rfl (by decide +kernel) ?_
  refine zt_aload_n (pc' := 4) hX dX12_isPerson_3 rfl rfl ?_
  refine zt_cVi (pc' := 7) hX dX12_isPerson_4 rfl zm_yX12_peopleMany zw_38_4 zc_164 (by decide) zs_46 (q := (RX12, TX12, 108)) rfl rfl (zc_X12_peopleMany _ _ σ hI ) rfl rfl (Nat.le_of_ble_eq_true rfl) (by decide) (fun r2 s3 hr4 hp5 => ?_)
  obtain ⟨rfl, q6, q7, z8⟩ := hp5
  refine zt_iconst (pc' := 8) hX dX12_isPerson_7 rfl ?_
  refine zt_isub (pc' := 9) hX dX12_isPerson_8 rfl ?_
  refine zt_i2l (pc' := 10) hX dX12_isPerson_9 rfl ⟨by omega, by omega⟩ ?_
  refine zt_cSz (pc' := 13) hX dX12_isPerson_10 rfl zm_yX12_isIn zw_27_7 (zc_X12_isIn _ _ σ  a1_ ⟨by omega, by omega⟩ 0 ⟨by omega, by omega⟩ (r2 - 1) ⟨by omega, by omega⟩) rfl rfl (Nat.le_of_ble_eq_true rfl) (by decide) (fun r9 s10 hr11 hp12 => ?_)
  obtain ⟨rfl, q13, q14, z15⟩ := hp12
  exact zt_zret hX hR dX12_isPerson_13 ⟨by omega, by omega⟩ ⟨rfl, by omega, by omega, ⟨fun h => by omega, fun h => by omega⟩⟩
set_option maxRecDepth 100000 in
set_option maxHeartbeats 4000000 in
theorem yd_X12_letter (l : Launch) (E : zEN) (σ : zSto) (hI : zInv σ) (hv : ∀ i : Nat, (i : Int) < σ 195 1 → yvu (σ 196 (10 + i))) (a1_ : Int) (ha1_ : -2147483648 ≤ a1_ ∧ a1_ ≤ 2147483647) (a2_ : Int) (ha2_ : -2147483648 ≤ a2_ ∧ a2_ ≤ 2147483647) : zCt l E yX12_letter cX12_letter 8 (some .int) 2 zNC zNC 0 0 σ [.ref (E.1 + 164), .int (zI a1_), .int (zI a2_)] (fun r σ' => σ = σ' ∧ -2147483648 ≤ r ∧ r ≤ 2147483647 ∧ r = yLt (σ 195 1) (fun i => yPd (σ 196 (10 + i))) a1_ a2_) := by
  refine zCt_of2 [some (.ref (E.1 + 164)), some (.int (zI a1_)), some (.int (zI a2_)), none, none, none, none, none] (by decide +kernel) (Nat.le_of_ble_eq_true rfl) rfl ?_
  intro X hE hX hR hL hN
  subst hE
  have hX : zok X cX12_letter RX12 2 := hX
  have b_n := zv_77 hI zc_195 1
  refine zt_aload_n (pc' := 1) hX dX12_letter_0 rfl rfl ?_
  refine zt_iload_n (pc' := 2) hX dX12_letter_1 rfl rfl ?_
  refine zt_cVz (pc' := 5) hX dX12_letter_2 rfl zm_yX12_isPerson zw_41_16 zc_164 (by decide) zs_46 (q := (RX12, TX12, 108)) rfl rfl (yd_X12_isPerson _ _ σ hI a1_ ⟨by omega, by omega⟩) rfl rfl (Nat.le_of_ble_eq_true rfl) (by decide) (fun r1 s2 hr3 hp4 => ?_)
  obtain ⟨rfl, q5, q6, z7⟩ := hp4
  refine zt_ifeq (pc' := 8) (tgt := 20) hX dX12_letter_5 rfl (by decide) ⟨by omega, by omega⟩ (fun c8 => ?_) (fun c8 => ?_)
  · refine zt_iconst (pc' := 21) hX dX12_letter_20 rfl ?_
    exact zt_iret hX hR dX12_letter_21 ⟨by omega, by omega⟩ ⟨rfl, by omega, by omega, yLt_out (fun h => by omega) rfl⟩
  · refine zt_iload_n (pc' := 9) hX dX12_letter_8 rfl rfl ?_
    refine zt_i2l (pc' := 10) hX dX12_letter_9 rfl ⟨by omega, by omega⟩ ?_
    refine zt_lconst (pc' := 11) (y := 0) hX dX12_letter_10 rfl (by decide +kernel) ?_
    refine zt_ldc2 (pc' := 14) (x := 5) hX dX12_letter_11 rfl zw_30_19 (by decide +kernel) ?_
    refine zt_cSz (pc' := 17) hX dX12_letter_14 rfl zm_yX12_isIn zw_27_7 (zc_X12_isIn _ _ σ  a2_ ⟨by omega, by omega⟩ 0 ⟨by omega, by omega⟩ 5 ⟨by omega, by omega⟩) rfl rfl (Nat.le_of_ble_eq_true rfl) (by decide) (fun r9 s10 hr11 hp12 => ?_)
    obtain ⟨rfl, q13, q14, z15⟩ := hp12
    refine zt_ifne (pc' := 20) (tgt := 22) hX dX12_letter_17 rfl (by decide) ⟨by omega, by omega⟩ (fun c16 => ?_) (fun c16 => ?_)
    · refine zt_aload_n (pc' := 23) hX dX12_letter_22 rfl rfl ?_
      refine zt_get (pc' := 26) (v := .ref (X.1.1 + 196)) hX dX12_letter_23 rfl zf_X12_108 (by decide) zc_164 zs_46 (zrf_of (zv_46_41 hI zc_164)) ?_
      refine zt_bipush (pc' := 28) hX dX12_letter_26 rfl (by decide) (by decide) ?_
      refine zt_iload_n (pc' := 29) hX dX12_letter_28 rfl rfl ?_
      refine zt_iadd (pc' := 30) hX dX12_letter_29 rfl ?_
      refine zt_lald (pc' := 31) hX dX12_letter_30 rfl (by decide) zc_196 zs_78 (by decide) ⟨by omega, by omega⟩ ?_
      generalize hv17 : σ 196 ((10 + a1_).toNat) = v17
      have bv17 : -9223372036854775808 ≤ v17 ∧ v17 ≤ 9223372036854775807 := hv17 ▸ zv_78 hI zc_196 _
      have hu : 0 < v17 ∧ v17 < 387420489 := by have q := hv a1_.toNat (by omega); rw [show σ 196 (10 + a1_.toNat) = v17 by rw [← hv17, show (10 + a1_).toNat = 10 + a1_.toNat by omega]] at q; exact ⟨q.1, q.2.1⟩
      have hg : σ 196 (10 + a1_.toNat) = v17 := by rw [← hv17, show (10 + a1_).toNat = 10 + a1_.toNat by omega]
      refine zt_lstore_n (pc' := 32) (lv' := [some (.ref (X.1.1 + 164)), some (.int (zI a1_)), some (.int (zI a2_)), some (.long (zJ v17)), none, none, none, none]) hX dX12_letter_31 rfl hL (by decide) rfl ?_
      refine zt_iconst (pc' := 33) hX dX12_letter_32 rfl ?_
      refine zt_istore (pc' := 35) (lv' := [some (.ref (X.1.1 + 164)), some (.int (zI a1_)), some (.int (zI a2_)), some (.long (zJ v17)), none, some (.int (zI 0)), none, none]) hX dX12_letter_33 rfl hL (by decide) rfl ?_
      refine zt_lload_n (pc' := 36) hX dX12_letter_35 rfl rfl ?_
      refine zt_lstore (pc' := 38) (lv' := [some (.ref (X.1.1 + 164)), some (.int (zI a1_)), some (.int (zI a2_)), some (.long (zJ v17)), none, some (.int (zI 0)), some (.long (zJ v17)), none]) hX dX12_letter_36 rfl hL (by decide) rfl ?_
      have L_38_23 : ∀ (N : Nat) (x18 : Int) (x21 : Int), 0 ≤ x18 → x18 ≤ 6 → 0 ≤ x21 → x21 ≤ 387420488 → yLi v17 x18 x21 → (x21.toNat) < N → zF X σ 38 [none, none, some (.int (zI a2_)), some (.long (zJ v17)), none, some (.int (zI x18)), some (.long (zJ x21)), none] [] := by
        intro N
        induction N with
        | zero =>
          intro x18 x21 h19 h20 h22 h23 hy hm25
          exact absurd hm25 (Nat.not_lt_zero _)
        | succ N ih26 =>
          intro x18 x21 h19 h20 h22 h23 hy hm25
          refine zt_lload (pc' := 40) hX dX12_letter_38 rfl rfl ?_
          refine zt_lconst (pc' := 41) (y := 0) hX dX12_letter_40 rfl (by decide +kernel) ?_
          refine zt_lcmp (pc' := 42) hX dX12_letter_41 rfl ⟨by omega, by omega⟩ ⟨by omega, by omega⟩ (fun r27 er27 => ?_)
          refine zt_ifle (pc' := 45) (tgt := 59) hX dX12_letter_42 rfl (by decide) ⟨by omega, by omega⟩ (fun c28 => ?_) (fun c28 => ?_)
          · refine zt_iload_n (pc' := 60) hX dX12_letter_59 rfl rfl ?_
            refine zt_iload (pc' := 62) hX dX12_letter_60 rfl rfl ?_
            refine zt_iclt (pc' := 65) (tgt := 67) hX dX12_letter_62 rfl (by decide) ⟨by omega, by omega⟩ ⟨by omega, by omega⟩ (fun c29 => ?_) (fun c29 => ?_)
            · refine zt_iload (pc' := 69) hX dX12_letter_67 rfl rfl ?_
              refine zt_iconst (pc' := 70) hX dX12_letter_69 rfl ?_
              refine zt_isub (pc' := 71) hX dX12_letter_70 rfl ?_
              refine zt_istore (pc' := 73) (lv' := [none, none, some (.int (zI a2_)), some (.long (zJ v17)), none, some (.int (zI x18)), some (.int (zI (x18 - 1))), none]) hX dX12_letter_71 rfl hL (by decide) rfl ?_
              have hl := yLi_l hy hu (by omega)
              have h6 := yLl_6 hl
              have L_73_35 : ∀ (N : Nat) (x30 : Int) (x33 : Int), 0 ≤ x30 → x30 ≤ 387420488 → a2_ ≤ x33 → x33 ≤ 5 → yLj v17 x18 x33 x30 → ((x33 - (-1)).toNat) < N → zF X σ 73 [none, none, some (.int (zI a2_)), some (.long (zJ x30)), none, none, some (.int (zI x33)), none] [] := by
                intro N
                induction N with
                | zero =>
                  intro x30 x33 h31 h32 h34 h35 hj hm37
                  exact absurd hm37 (Nat.not_lt_zero _)
                | succ N ih38 =>
                  intro x30 x33 h31 h32 h34 h35 hj hm37
                  refine zt_iload (pc' := 75) hX dX12_letter_73 rfl rfl ?_
                  refine zt_iload_n (pc' := 76) hX dX12_letter_75 rfl rfl ?_
                  refine zt_icle (pc' := 79) (tgt := 91) hX dX12_letter_76 rfl (by decide) ⟨by omega, by omega⟩ ⟨by omega, by omega⟩ (fun c39 => ?_) (fun c39 => ?_)
                  · refine zt_lload_n (pc' := 92) hX dX12_letter_91 rfl rfl ?_
                    refine zt_ldc2 (pc' := 95) (x := 27) hX dX12_letter_92 rfl zw_28_15 (by decide +kernel) ?_
                    refine zt_lremp (pc' := 96) hX dX12_letter_95 rfl ⟨by omega, by omega⟩ ⟨by omega, by omega⟩ (fun r40 er40 br40 nr40 => ?_)
                    refine zt_l2i (pc' := 97) hX dX12_letter_96 rfl ?_
                    exact zt_iret hX hR dX12_letter_97 ⟨by omega, by omega⟩ ⟨rfl, by omega, by omega, yLt_m (u := v17) ⟨by omega, by omega, by omega, by omega⟩ hg ((er40.trans (ztm_p (by omega))).trans (by rw [show a2_ = x33 by omega]; exact yLe hu hl ⟨by omega, by omega⟩ hj))⟩
                  · refine zt_lload_n (pc' := 80) hX dX12_letter_79 rfl rfl ?_
                    refine zt_ldc2 (pc' := 83) (x := 27) hX dX12_letter_80 rfl zw_28_15 (by decide +kernel) ?_
                    refine zt_ldivp (pc' := 84) hX dX12_letter_83 rfl ⟨by omega, by omega⟩ ⟨by omega, by omega⟩ (fun r41 er41 br41 => ?_)
                    have fr41 : 0 ≤ x30 → r41 = x30 / 27 := fun h => by rw [er41, ztd_p h]
                    refine zt_lstore_n (pc' := 85) (lv' := [none, none, some (.int (zI a2_)), some (.long (zJ r41)), none, none, some (.int (zI x33)), none]) hX dX12_letter_84 rfl hL (by decide) rfl ?_
                    refine zt_iinc (pc' := 88) (lv' := [none, none, some (.int (zI a2_)), some (.long (zJ r41)), none, none, some (.int (zI (x33 + (-1)))), none]) hX dX12_letter_85 rfl rfl hL (by decide) rfl ?_
                    refine zt_goto (tgt := 73) hX dX12_letter_88 (by decide) ?_
                    exact ih38 r41 (x33 + (-1)) (by have q := fr41 (by omega); omega) (by have q := fr41 (by omega); omega) (by omega) (by omega) (yLj_s hj hu.1 (by omega) h6.2 (fr41 (by omega))) (by omega)
              refine zt_mask [false, false, true, true, false, false, true, false] rfl ?_
              exact L_73_35 _ v17 (x18 - 1) (by omega) (by omega) (by omega) (by omega) (Or.inl ⟨rfl, rfl⟩) (Nat.lt_succ_self _)
            · refine zt_iconst (pc' := 66) hX dX12_letter_65 rfl ?_
              exact zt_iret hX hR dX12_letter_66 ⟨by omega, by omega⟩ ⟨rfl, by omega, by omega, yLt_m (u := v17) ⟨by omega, by omega, by omega, by omega⟩ hg (yLz hu (yLi_l hy hu (by omega)) ⟨by omega, by omega⟩)⟩
          · refine zt_iinc (pc' := 48) (lv' := [none, none, some (.int (zI a2_)), some (.long (zJ v17)), none, some (.int (zI (x18 + 1))), some (.long (zJ x21)), none]) hX dX12_letter_45 rfl rfl hL (by decide) rfl ?_
            refine zt_lload (pc' := 50) hX dX12_letter_48 rfl rfl ?_
            refine zt_ldc2 (pc' := 53) (x := 27) hX dX12_letter_50 rfl zw_28_15 (by decide +kernel) ?_
            refine zt_ldivp (pc' := 54) hX dX12_letter_53 rfl ⟨by omega, by omega⟩ ⟨by omega, by omega⟩ (fun r43 er43 br43 => ?_)
            have fr43 : 0 ≤ x21 → r43 = x21 / 27 := fun h => by rw [er43, ztd_p h]
            refine zt_lstore (pc' := 56) (lv' := [none, none, some (.int (zI a2_)), some (.long (zJ v17)), none, some (.int (zI (x18 + 1))), some (.long (zJ r43)), none]) hX dX12_letter_54 rfl hL (by decide) rfl ?_
            refine zt_goto (tgt := 38) hX dX12_letter_56 (by decide) ?_
            exact ih26 (x18 + 1) r43 (by omega) (yLi_6 hy hu.2 (by omega)) (by have q := fr43 (by omega); omega) (by have q := fr43 (by omega); omega) (yLi_s hy hu (by omega) (fr43 (by omega))) (by have q := fr43 (by omega); omega)
      refine zt_mask [false, false, true, true, false, true, true, false] rfl ?_
      exact L_38_23 _ 0 v17 (by omega) (by omega) (by omega) (by omega) (Or.inl ⟨rfl, rfl⟩) (Nat.lt_succ_self _)
    · refine zt_iconst (pc' := 21) hX dX12_letter_20 rfl ?_
      exact zt_iret hX hR dX12_letter_21 ⟨by omega, by omega⟩ ⟨rfl, by omega, by omega, yLt_out (fun h => by omega) rfl⟩
