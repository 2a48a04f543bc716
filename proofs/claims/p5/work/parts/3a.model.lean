set_option maxRecDepth 100000 in
set_option maxHeartbeats 4000000 in
theorem zc_X12_isIn (l : Launch) (E : zEN) (σ : zSto)  (a0_ : Int) (ha0_ : -9223372036854775808 ≤ a0_ ∧ a0_ ≤ 9223372036854775807) (a1_ : Int) (ha1_ : -9223372036854775808 ≤ a1_ ∧ a1_ ≤ 9223372036854775807) (a2_ : Int) (ha2_ : -9223372036854775808 ≤ a2_ ∧ a2_ ≤ 9223372036854775807) : zCt l E yX12_isIn cX12_isIn 6 (some .boolean) 0 zNC zNC 0 0 σ [.long (zJ a0_), .long (zJ a1_), .long (zJ a2_)] (fun r σ' => σ = σ' ∧ 0 ≤ r ∧ r ≤ 1 ∧ ((r = 1 → a1_ ≤ a0_ ∧ a0_ ≤ a2_) ∧ (r = 0 → a0_ < a1_ ∨ a2_ < a0_))) := by
  refine zCt_of2 [some (.long (zJ a0_)), none, some (.long (zJ a1_)), none, some (.long (zJ a2_)), none] (by decide +kernel) (Nat.le_of_ble_eq_true rfl) rfl ?_
  intro X hE hX hR hL hN
  subst hE
  have hX : zok X cX12_isIn RX12 0 := hX
  refine zt_lload_n (pc' := 1) hX dX12_isIn_0 rfl rfl ?_
  refine zt_lload_n (pc' := 2) hX dX12_isIn_1 rfl rfl ?_
  refine zt_lcmp (pc' := 3) hX dX12_isIn_2 rfl ⟨by omega, by omega⟩ ⟨by omega, by omega⟩ (fun r1 er1 => ?_)
  refine zt_iflt (pc' := 6) (tgt := 17) hX dX12_isIn_3 rfl (by decide) ⟨by omega, by omega⟩ (fun c2 => ?_) (fun c2 => ?_)
  · refine zt_iconst (pc' := 18) hX dX12_isIn_17 rfl ?_
    exact zt_zret hX hR dX12_isIn_18 ⟨by omega, by omega⟩ ⟨rfl, by omega, by omega, by omega⟩
  · refine zt_lload_n (pc' := 7) hX dX12_isIn_6 rfl rfl ?_
    refine zt_lload (pc' := 9) hX dX12_isIn_7 rfl rfl ?_
    refine zt_lcmp (pc' := 10) hX dX12_isIn_9 rfl ⟨by omega, by omega⟩ ⟨by omega, by omega⟩ (fun r3 er3 => ?_)
    refine zt_ifgt (pc' := 13) (tgt := 17) hX dX12_isIn_10 rfl (by decide) ⟨by omega, by omega⟩ (fun c4 => ?_) (fun c4 => ?_)
    · refine zt_iconst (pc' := 18) hX dX12_isIn_17 rfl ?_
      exact zt_zret hX hR dX12_isIn_18 ⟨by omega, by omega⟩ ⟨rfl, by omega, by omega, by omega⟩
    · refine zt_iconst (pc' := 14) hX dX12_isIn_13 rfl ?_
      refine zt_goto (tgt := 18) hX dX12_isIn_14 (by decide) ?_
      exact zt_zret hX hR dX12_isIn_18 ⟨by omega, by omega⟩ ⟨rfl, by omega, by omega, by omega⟩

set_option maxRecDepth 100000 in
set_option maxHeartbeats 4000000 in
theorem zc_X12_peopleMany (l : Launch) (E : zEN) (σ : zSto) (hI : zInv σ)  : zCt l E yX12_peopleMany cX12_peopleMany 1 (some .int) 0 zNC zNC 0 0 σ [.ref (E.1 + 164)] (fun r σ' => σ = σ' ∧ 0 ≤ r ∧ r ≤ 10 ∧ (r = σ 195 1)) := by
  refine zCt_of2 [some (.ref (E.1 + 164))] (by decide +kernel) (Nat.le_of_ble_eq_true rfl) rfl ?_
  intro X hE hX hR hL hN
  subst hE
  have hX : zok X cX12_peopleMany RX12 0 := hX
  refine zt_aload_n (pc' := 1) hX dX12_peopleMany_0 rfl rfl ?_
  refine zt_get (pc' := 4) (v := .ref (X.1.1 + 195)) hX dX12_peopleMany_1 rfl zf_X12_105 (by decide) zc_164 zs_46 (zrf_of (zv_46_40 hI zc_164)) ?_
  refine zt_iconst (pc' := 5) hX dX12_peopleMany_4 rfl ?_
  refine zt_iald (pc' := 6) hX dX12_peopleMany_5 rfl (by decide) zc_195 zs_77 (by decide) ⟨by omega, by omega⟩ ?_
  rw [show Int.toNat 1 = 1 from rfl]
  have b2 := zv_77 hI zc_195 1
  exact zt_iret hX hR dX12_peopleMany_6 ⟨by omega, by omega⟩ ⟨rfl, by omega, by omega, by omega⟩

set_option maxRecDepth 100000 in
set_option maxHeartbeats 4000000 in
theorem zc_X12_isPerson (l : Launch) (E : zEN) (σ : zSto) (hI : zInv σ) (a1_ : Int) (ha1_ : -2147483648 ≤ a1_ ∧ a1_ ≤ 2147483647) : zCt l E yX12_isPerson cX12_isPerson 2 (some .boolean) 1 zNC zNC 0 0 σ [.ref (E.1 + 164), .int (zI a1_)] (fun r σ' => σ = σ' ∧ 0 ≤ r ∧ r ≤ 1 ∧ (r = 1 → 0 ≤ a1_ ∧ a1_ ≤ 9 ∧ a1_ < σ 195 1)) := by
  refine zCt_of2 [some (.ref (E.1 + 164)), some (.int (zI a1_))] (by decide +kernel) (Nat.le_of_ble_eq_true rfl) rfl ?_
  intro X hE hX hR hL hN
  subst hE
  have hX : zok X cX12_isPerson RX12 1 := hX
  refine zt_iload_n (pc' := 1) hX dX12_isPerson_0 rfl rfl ?_
  refine zt_i2l (pc' := 2) hX dX12_isPerson_1 rfl ⟨by omega, by omega⟩ ?_
  refine zt_lconst (pc' := 3) (y := 0) hX dX12_isPerson_2 rfl (by decide +kernel) ?_
  refine zt_aload_n (pc' := 4) hX dX12_isPerson_3 rfl rfl ?_
  refine zt_cVi (pc' := 7) hX dX12_isPerson_4 rfl zm_yX12_peopleMany zw_38_4 zc_164 (by decide) zs_46 (q := (RX12, TX12, 108)) rfl rfl (zc_X12_peopleMany _ _ σ hI ) rfl rfl (Nat.le_of_ble_eq_true rfl) (by decide) (fun r1 s2 hr3 hp4 => ?_)
  obtain ⟨rfl, q5, q6, z7⟩ := hp4
  refine zt_iconst (pc' := 8) hX dX12_isPerson_7 rfl ?_
  refine zt_isub (pc' := 9) hX dX12_isPerson_8 rfl ?_
  refine zt_i2l (pc' := 10) hX dX12_isPerson_9 rfl ⟨by omega, by omega⟩ ?_
  refine zt_cSz (pc' := 13) hX dX12_isPerson_10 rfl zm_yX12_isIn zw_27_7 (zc_X12_isIn _ _ σ  a1_ ⟨by omega, by omega⟩ 0 ⟨by omega, by omega⟩ (r1 - 1) ⟨by omega, by omega⟩) rfl rfl (Nat.le_of_ble_eq_true rfl) (by decide) (fun r8 s9 hr10 hp11 => ?_)
  obtain ⟨rfl, q12, q13, z14⟩ := hp11
  exact zt_zret hX hR dX12_isPerson_13 ⟨by omega, by omega⟩ ⟨rfl, by omega, by omega, by omega⟩

set_option maxRecDepth 100000 in
set_option maxHeartbeats 4000000 in
theorem zc_X12_cellMany (l : Launch) (E : zEN) (σ : zSto) (hI : zInv σ)  : zCt l E yX12_cellMany cX12_cellMany 1 (some .int) 0 zNC zNC 0 0 σ [.ref (E.1 + 164)] (fun r σ' => σ = σ' ∧ 0 ≤ r ∧ r ≤ 36 ∧ (r = σ 194 3 * σ 194 4)) := by
  refine zCt_of2 [some (.ref (E.1 + 164))] (by decide +kernel) (Nat.le_of_ble_eq_true rfl) rfl ?_
  intro X hE hX hR hL hN
  subst hE
  have hX : zok X cX12_cellMany RX12 0 := hX
  refine zt_aload_n (pc' := 1) hX dX12_cellMany_0 rfl rfl ?_
  refine zt_get (pc' := 4) (v := .ref (X.1.1 + 194)) hX dX12_cellMany_1 rfl zf_X12_102 (by decide) zc_164 zs_46 (zrf_of (zv_46_39 hI zc_164)) ?_
  refine zt_iconst (pc' := 5) hX dX12_cellMany_4 rfl ?_
  refine zt_iald (pc' := 6) hX dX12_cellMany_5 rfl (by decide) zc_194 zs_76 (by decide) ⟨by omega, by omega⟩ ?_
  rw [show Int.toNat 3 = 3 from rfl]
  have b2 := zv_76 hI zc_194 3
  refine zt_aload_n (pc' := 7) hX dX12_cellMany_6 rfl rfl ?_
  refine zt_get (pc' := 10) (v := .ref (X.1.1 + 194)) hX dX12_cellMany_7 rfl zf_X12_102 (by decide) zc_164 zs_46 (zrf_of (zv_46_39 hI zc_164)) ?_
  refine zt_iconst (pc' := 11) hX dX12_cellMany_10 rfl ?_
  refine zt_iald (pc' := 12) hX dX12_cellMany_11 rfl (by decide) zc_194 zs_76 (by decide) ⟨by omega, by omega⟩ ?_
  rw [show Int.toNat 4 = 4 from rfl]
  have b4 := zv_76 hI zc_194 4
  refine zt_imul (pc' := 13) hX dX12_cellMany_12 rfl ?_
  generalize hp5 : (σ 194 3) * (σ 194 4) = p5
  have bp5 : 0 ≤ p5 ∧ p5 ≤ 36 := hp5 ▸ zmul_b (a := 6) (b := 6) (by omega) (by omega) (by omega) (by omega)
  exact zt_iret hX hR dX12_cellMany_13 ⟨by omega, by omega⟩ ⟨rfl, by omega, by omega, by omega⟩

set_option maxRecDepth 100000 in
set_option maxHeartbeats 4000000 in
theorem zc_X12_cellOf (l : Launch) (E : zEN) (σ : zSto) (hI : zInv σ) (a1_ : Int) (ha1_ : 0 ≤ a1_ ∧ a1_ ≤ 35) (hpre0 : a1_ < σ 194 3 * σ 194 4) : zCt l E yX12_cellOf cX12_cellOf 2 (some .int) 0 zNC zNC 0 0 σ [.ref (E.1 + 164), .int (zI a1_)] (fun r σ' => σ = σ' ∧ 0 ≤ r ∧ r ≤ 35) := by
  refine zCt_of2 [some (.ref (E.1 + 164)), some (.int (zI a1_))] (by decide +kernel) (Nat.le_of_ble_eq_true rfl) rfl ?_
  intro X hE hX hR hL hN
  subst hE
  have hX : zok X cX12_cellOf RX12 0 := hX
  have b3 := zv_76 hI zc_194 3
  have b4 := zv_76 hI zc_194 4
  have hco := zcellof (k := a1_) (a := σ 194 3) (b := σ 194 4) (by omega) hpre0 (by omega) (by omega) (by omega) (by omega)
  refine zt_iload_n (pc' := 1) hX dX12_cellOf_0 rfl rfl ?_
  refine zt_aload_n (pc' := 2) hX dX12_cellOf_1 rfl rfl ?_
  refine zt_get (pc' := 5) (v := .ref (X.1.1 + 194)) hX dX12_cellOf_2 rfl zf_X12_102 (by decide) zc_164 zs_46 (zrf_of (zv_46_39 hI zc_164)) ?_
  refine zt_iconst (pc' := 6) hX dX12_cellOf_5 rfl ?_
  refine zt_iald (pc' := 7) hX dX12_cellOf_6 rfl (by decide) zc_194 zs_76 (by decide) ⟨by omega, by omega⟩ ?_
  rw [show Int.toNat 3 = 3 from rfl]
  have b2 := zv_76 hI zc_194 3
  refine zt_irem (pc' := 8) hX dX12_cellOf_7 rfl ⟨by omega, by omega⟩ ⟨by omega, by omega⟩ (fun r3 er3 br3 nr3 => ?_)
  rw [ztm_p (by omega)] at er3
  refine zt_bipush (pc' := 10) hX dX12_cellOf_8 rfl (by decide) (by decide) ?_
  refine zt_iload_n (pc' := 11) hX dX12_cellOf_10 rfl rfl ?_
  refine zt_aload_n (pc' := 12) hX dX12_cellOf_11 rfl rfl ?_
  refine zt_get (pc' := 15) (v := .ref (X.1.1 + 194)) hX dX12_cellOf_12 rfl zf_X12_102 (by decide) zc_164 zs_46 (zrf_of (zv_46_39 hI zc_164)) ?_
  refine zt_iconst (pc' := 16) hX dX12_cellOf_15 rfl ?_
  refine zt_iald (pc' := 17) hX dX12_cellOf_16 rfl (by decide) zc_194 zs_76 (by decide) ⟨by omega, by omega⟩ ?_
  rw [show Int.toNat 3 = 3 from rfl]
  refine zt_idiv (pc' := 18) hX dX12_cellOf_17 rfl ⟨by omega, by omega⟩ ⟨by omega, by omega⟩ (fun r5 er5 br5 => ?_)
  rw [ztd_p (by omega)] at er5
  refine zt_imul (pc' := 19) hX dX12_cellOf_18 rfl ?_
  refine zt_iadd (pc' := 20) hX dX12_cellOf_19 rfl ?_
  exact zt_iret hX hR dX12_cellOf_20 ⟨by omega, by omega⟩ ⟨rfl, by omega, by omega⟩

set_option maxRecDepth 100000 in
set_option maxHeartbeats 4000000 in
theorem zc_X12_cellAt (l : Launch) (E : zEN) (σ : zSto) (hI : zInv σ) (a1_ : Int) (ha1_ : -2147483648 ≤ a1_ ∧ a1_ ≤ 2147483647) (a2_ : Int) (ha2_ : -2147483648 ≤ a2_ ∧ a2_ ≤ 2147483647) : zCt l E yX12_cellAt cX12_cellAt 3 (some .int) 1 zNC zNC 0 0 σ [.ref (E.1 + 164), .int (zI a1_), .int (zI a2_)] (fun r σ' => σ = σ' ∧ -1 ≤ r ∧ r ≤ 35) := by
  refine zCt_of2 [some (.ref (E.1 + 164)), some (.int (zI a1_)), some (.int (zI a2_))] (by decide +kernel) (Nat.le_of_ble_eq_true rfl) rfl ?_
  intro X hE hX hR hL hN
  subst hE
  have hX : zok X cX12_cellAt RX12 1 := hX
  refine zt_aload_n (pc' := 1) hX dX12_cellAt_0 rfl rfl ?_
  have b1 := zv_46_50 hI zc_164
  refine zt_get (pc' := 4) (v := .int (zI (σ 164 50))) hX dX12_cellAt_1 rfl zf_X12_375 (by decide) zc_164 zs_46 rfl ?_
  refine zt_ifeq (pc' := 7) (tgt := 52) hX dX12_cellAt_4 rfl (by decide) ⟨by omega, by omega⟩ (fun c2 => ?_) (fun c2 => ?_)
  · refine zt_iconst (pc' := 53) hX dX12_cellAt_52 rfl ?_
    exact zt_iret hX hR dX12_cellAt_53 ⟨by omega, by omega⟩ ⟨rfl, by omega, by omega⟩
  · refine zt_iload_n (pc' := 8) hX dX12_cellAt_7 rfl rfl ?_
    refine zt_i2l (pc' := 9) hX dX12_cellAt_8 rfl ⟨by omega, by omega⟩ ?_
    refine zt_lconst (pc' := 10) (y := 0) hX dX12_cellAt_9 rfl (by decide +kernel) ?_
    refine zt_aload_n (pc' := 11) hX dX12_cellAt_10 rfl rfl ?_
    refine zt_get (pc' := 14) (v := .ref (X.1.1 + 194)) hX dX12_cellAt_11 rfl zf_X12_102 (by decide) zc_164 zs_46 (zrf_of (zv_46_39 hI zc_164)) ?_
    refine zt_iconst (pc' := 15) hX dX12_cellAt_14 rfl ?_
    refine zt_iald (pc' := 16) hX dX12_cellAt_15 rfl (by decide) zc_194 zs_76 (by decide) ⟨by omega, by omega⟩ ?_
    rw [show Int.toNat 3 = 3 from rfl]
    have b4 := zv_76 hI zc_194 3
    refine zt_iconst (pc' := 17) hX dX12_cellAt_16 rfl ?_
    refine zt_isub (pc' := 18) hX dX12_cellAt_17 rfl ?_
    refine zt_i2l (pc' := 19) hX dX12_cellAt_18 rfl ⟨by omega, by omega⟩ ?_
    refine zt_cSz (pc' := 22) hX dX12_cellAt_19 rfl zm_yX12_isIn zw_27_7 (zc_X12_isIn _ _ σ  a1_ ⟨by omega, by omega⟩ 0 ⟨by omega, by omega⟩ ((σ 194 3) - 1) ⟨by omega, by omega⟩) rfl rfl (Nat.le_of_ble_eq_true rfl) (by decide) (fun r5 s6 hr7 hp8 => ?_)
    obtain ⟨rfl, q9, q10, z11⟩ := hp8
    refine zt_ifeq (pc' := 25) (tgt := 52) hX dX12_cellAt_22 rfl (by decide) ⟨by omega, by omega⟩ (fun c12 => ?_) (fun c12 => ?_)
    · refine zt_iconst (pc' := 53) hX dX12_cellAt_52 rfl ?_
      exact zt_iret hX hR dX12_cellAt_53 ⟨by omega, by omega⟩ ⟨rfl, by omega, by omega⟩
    · refine zt_iload_n (pc' := 26) hX dX12_cellAt_25 rfl rfl ?_
      refine zt_i2l (pc' := 27) hX dX12_cellAt_26 rfl ⟨by omega, by omega⟩ ?_
      refine zt_lconst (pc' := 28) (y := 0) hX dX12_cellAt_27 rfl (by decide +kernel) ?_
      refine zt_aload_n (pc' := 29) hX dX12_cellAt_28 rfl rfl ?_
      refine zt_get (pc' := 32) (v := .ref (X.1.1 + 194)) hX dX12_cellAt_29 rfl zf_X12_102 (by decide) zc_164 zs_46 (zrf_of (zv_46_39 hI zc_164)) ?_
      refine zt_iconst (pc' := 33) hX dX12_cellAt_32 rfl ?_
      refine zt_iald (pc' := 34) hX dX12_cellAt_33 rfl (by decide) zc_194 zs_76 (by decide) ⟨by omega, by omega⟩ ?_
      rw [show Int.toNat 4 = 4 from rfl]
      have b14 := zv_76 hI zc_194 4
      refine zt_iconst (pc' := 35) hX dX12_cellAt_34 rfl ?_
      refine zt_isub (pc' := 36) hX dX12_cellAt_35 rfl ?_
      refine zt_i2l (pc' := 37) hX dX12_cellAt_36 rfl ⟨by omega, by omega⟩ ?_
      refine zt_cSz (pc' := 40) hX dX12_cellAt_37 rfl zm_yX12_isIn zw_27_7 (zc_X12_isIn _ _ σ  a2_ ⟨by omega, by omega⟩ 0 ⟨by omega, by omega⟩ ((σ 194 4) - 1) ⟨by omega, by omega⟩) rfl rfl (Nat.le_of_ble_eq_true rfl) (by decide) (fun r15 s16 hr17 hp18 => ?_)
      obtain ⟨rfl, q19, q20, z21⟩ := hp18
      refine zt_ifeq (pc' := 43) (tgt := 52) hX dX12_cellAt_40 rfl (by decide) ⟨by omega, by omega⟩ (fun c22 => ?_) (fun c22 => ?_)
      · refine zt_iconst (pc' := 53) hX dX12_cellAt_52 rfl ?_
        exact zt_iret hX hR dX12_cellAt_53 ⟨by omega, by omega⟩ ⟨rfl, by omega, by omega⟩
      · refine zt_iload_n (pc' := 44) hX dX12_cellAt_43 rfl rfl ?_
        refine zt_bipush (pc' := 46) hX dX12_cellAt_44 rfl (by decide) (by decide) ?_
        refine zt_iload_n (pc' := 47) hX dX12_cellAt_46 rfl rfl ?_
        refine zt_imul (pc' := 48) hX dX12_cellAt_47 rfl ?_
        refine zt_iadd (pc' := 49) hX dX12_cellAt_48 rfl ?_
        refine zt_goto (tgt := 53) hX dX12_cellAt_49 (by decide) ?_
        exact zt_iret hX hR dX12_cellAt_53 ⟨by omega, by omega⟩ ⟨rfl, by omega, by omega⟩

set_option maxRecDepth 100000 in
set_option maxHeartbeats 4000000 in
theorem zc_X12_isCracked (l : Launch) (E : zEN) (σ : zSto) (hI : zInv σ) (a1_ : Int) (ha1_ : 0 ≤ a1_ ∧ a1_ ≤ 35) : zCt l E yX12_isCracked cX12_isCracked 2 (some .boolean) 0 zNC zNC 0 0 σ [.ref (E.1 + 164), .int (zI a1_)] (fun r σ' => σ = σ' ∧ 0 ≤ r ∧ r ≤ 1) := by
  refine zCt_of2 [some (.ref (E.1 + 164)), some (.int (zI a1_))] (by decide +kernel) (Nat.le_of_ble_eq_true rfl) rfl ?_
  intro X hE hX hR hL hN
  subst hE
  have hX : zok X cX12_isCracked RX12 0 := hX
  refine zt_aload_n (pc' := 1) hX dX12_isCracked_0 rfl rfl ?_
  refine zt_get (pc' := 4) (v := .ref (X.1.1 + 203)) hX dX12_isCracked_1 rfl zf_X12_130 (by decide) zc_164 zs_46 (zrf_of (zv_46_52 hI zc_164)) ?_
  refine zt_iconst (pc' := 5) hX dX12_isCracked_4 rfl ?_
  refine zt_iload_n (pc' := 6) hX dX12_isCracked_5 rfl rfl ?_
  refine zt_iadd (pc' := 7) hX dX12_isCracked_6 rfl ?_
  refine zt_iald (pc' := 8) hX dX12_isCracked_7 rfl (by decide) zc_203 zs_85 (by decide) ⟨by omega, by omega⟩ ?_
  have bv1 := zv_85 hI zc_203 ((1 + a1_).toNat)
  generalize hv1 : σ 203 ((1 + a1_).toNat) = v1 at bv1 ⊢
  refine zt_iconst (pc' := 9) hX dX12_isCracked_8 rfl ?_
  refine zt_icne (pc' := 12) (tgt := 16) hX dX12_isCracked_9 rfl (by decide) ⟨by omega, by omega⟩ ⟨by omega, by omega⟩ (fun c2 => ?_) (fun c2 => ?_)
  · refine zt_iconst (pc' := 17) hX dX12_isCracked_16 rfl ?_
    exact zt_zret hX hR dX12_isCracked_17 ⟨by omega, by omega⟩ ⟨rfl, by omega, by omega⟩
  · refine zt_iconst (pc' := 13) hX dX12_isCracked_12 rfl ?_
    refine zt_goto (tgt := 17) hX dX12_isCracked_13 (by decide) ?_
    exact zt_zret hX hR dX12_isCracked_17 ⟨by omega, by omega⟩ ⟨rfl, by omega, by omega⟩

set_option maxRecDepth 100000 in
set_option maxHeartbeats 4000000 in
theorem zc_X12_crackedMany (l : Launch) (E : zEN) (σ : zSto) (hI : zInv σ)  : zCt l E yX12_crackedMany cX12_crackedMany 3 (some .int) 0 zNC zNC 0 0 σ [.ref (E.1 + 164)] (fun r σ' => σ = σ' ∧ -2147483648 ≤ r ∧ r ≤ 2147483647) := by
  refine zCt_of2 [some (.ref (E.1 + 164)), none, none] (by decide +kernel) (Nat.le_of_ble_eq_true rfl) rfl ?_
  intro X hE hX hR hL hN
  subst hE
  have hX : zok X cX12_crackedMany RX12 0 := hX
  refine zt_iconst (pc' := 1) hX dX12_crackedMany_0 rfl ?_
  refine zt_istore_n (pc' := 2) (lv' := [some (.ref (X.1.1 + 164)), some (.int (zI 0)), none]) hX dX12_crackedMany_1 rfl hL (by decide) rfl ?_
  refine zt_iconst (pc' := 3) hX dX12_crackedMany_2 rfl ?_
  refine zt_istore_n (pc' := 4) (lv' := [some (.ref (X.1.1 + 164)), some (.int (zI 0)), some (.int (zI 0))]) hX dX12_crackedMany_3 rfl hL (by decide) rfl ?_
  have L_4_6 : ∀ (N : Nat) (x1 : Int) (x4 : Int), -2147483648 ≤ x1 → x1 ≤ 2147483647 → 0 ≤ x4 → x4 ≤ 36 → ((37 - x4).toNat) < N → zF X σ 4 [some (.ref (X.1.1 + 164)), some (.int (zI x1)), some (.int (zI x4))] [] := by
    intro N
    induction N with
    | zero =>
      intro x1 x4 h2 h3 h5 h6 hm8
      exact absurd hm8 (Nat.not_lt_zero _)
    | succ N ih9 =>
      intro x1 x4 h2 h3 h5 h6 hm8
      refine zt_iload_n (pc' := 5) hX dX12_crackedMany_4 rfl rfl ?_
      refine zt_bipush (pc' := 7) hX dX12_crackedMany_5 rfl (by decide) (by decide) ?_
      refine zt_icge (pc' := 10) (tgt := 27) hX dX12_crackedMany_7 rfl (by decide) ⟨by omega, by omega⟩ ⟨by omega, by omega⟩ (fun c10 => ?_) (fun c10 => ?_)
      · refine zt_iload_n (pc' := 28) hX dX12_crackedMany_27 rfl rfl ?_
        exact zt_iret hX hR dX12_crackedMany_28 ⟨by omega, by omega⟩ ⟨rfl, by omega, by omega⟩
      · refine zt_iload_n (pc' := 11) hX dX12_crackedMany_10 rfl rfl ?_
        refine zt_aload_n (pc' := 12) hX dX12_crackedMany_11 rfl rfl ?_
        refine zt_get (pc' := 15) (v := .ref (X.1.1 + 203)) hX dX12_crackedMany_12 rfl zf_X12_130 (by decide) zc_164 zs_46 (zrf_of (zv_46_52 hI zc_164)) ?_
        refine zt_iconst (pc' := 16) hX dX12_crackedMany_15 rfl ?_
        refine zt_iload_n (pc' := 17) hX dX12_crackedMany_16 rfl rfl ?_
        refine zt_iadd (pc' := 18) hX dX12_crackedMany_17 rfl ?_
        refine zt_iald (pc' := 19) hX dX12_crackedMany_18 rfl (by decide) zc_203 zs_85 (by decide) ⟨by omega, by omega⟩ ?_
        have bv11 := zv_85 hI zc_203 ((1 + x4).toNat)
        generalize hv11 : σ 203 ((1 + x4).toNat) = v11 at bv11 ⊢
        refine zt_iadd (pc' := 20) hX dX12_crackedMany_19 rfl ?_
        refine zt_wrap (fun r12 zr12 lr12 ur12 => ?_)
        clear zr12
        refine zt_istore_n (pc' := 21) (lv' := [some (.ref (X.1.1 + 164)), some (.int (zI r12)), some (.int (zI x4))]) hX dX12_crackedMany_20 rfl hL (by decide) rfl ?_
        refine zt_iinc (pc' := 24) (lv' := [some (.ref (X.1.1 + 164)), some (.int (zI r12)), some (.int (zI (x4 + 1)))]) hX dX12_crackedMany_21 rfl rfl hL (by decide) rfl ?_
        refine zt_goto (tgt := 4) hX dX12_crackedMany_24 (by decide) ?_
        exact ih9 r12 (x4 + 1) (by omega) (by omega) (by omega) (by omega) (by omega)
  exact L_4_6 _ 0 0 (by omega) (by omega) (by omega) (by omega) (Nat.lt_succ_self _)

set_option maxRecDepth 100000 in
set_option maxHeartbeats 4000000 in
theorem zc_X12_placeOf (l : Launch) (E : zEN) (σ : zSto) (hI : zInv σ) (a1_ : Int) (ha1_ : 0 ≤ a1_ ∧ a1_ ≤ 9) : zCt l E yX12_placeOf cX12_placeOf 2 (some .int) 0 zNC zNC 0 0 σ [.ref (E.1 + 164), .int (zI a1_)] (fun r σ' => σ = σ' ∧ 0 ≤ r ∧ r ≤ 35) := by
  refine zCt_of2 [some (.ref (E.1 + 164)), some (.int (zI a1_))] (by decide +kernel) (Nat.le_of_ble_eq_true rfl) rfl ?_
  intro X hE hX hR hL hN
  subst hE
  have hX : zok X cX12_placeOf RX12 0 := hX
  refine zt_aload_n (pc' := 1) hX dX12_placeOf_0 rfl rfl ?_
  refine zt_get (pc' := 4) (v := .ref (X.1.1 + 203)) hX dX12_placeOf_1 rfl zf_X12_130 (by decide) zc_164 zs_46 (zrf_of (zv_46_52 hI zc_164)) ?_
  refine zt_bipush (pc' := 6) hX dX12_placeOf_4 rfl (by decide) (by decide) ?_
  refine zt_iconst (pc' := 7) hX dX12_placeOf_6 rfl ?_
  refine zt_iload_n (pc' := 8) hX dX12_placeOf_7 rfl rfl ?_
  refine zt_imul (pc' := 9) hX dX12_placeOf_8 rfl ?_
  refine zt_iadd (pc' := 10) hX dX12_placeOf_9 rfl ?_
  refine zt_iald (pc' := 11) hX dX12_placeOf_10 rfl (by decide) zc_203 zs_85 (by decide) ⟨by omega, by omega⟩ ?_
  have bv1 := zv_85 hI zc_203 ((37 + (3 * a1_)).toNat)
  generalize hv1 : σ 203 ((37 + (3 * a1_)).toNat) = v1 at bv1 ⊢
  exact zt_iret hX hR dX12_placeOf_11 ⟨by omega, by omega⟩ ⟨rfl, by omega, by omega⟩

set_option maxRecDepth 100000 in
set_option maxHeartbeats 4000000 in
theorem zc_X12_tiredOf (l : Launch) (E : zEN) (σ : zSto) (hI : zInv σ) (a1_ : Int) (ha1_ : 0 ≤ a1_ ∧ a1_ ≤ 9) : zCt l E yX12_tiredOf cX12_tiredOf 2 (some .int) 0 zNC zNC 0 0 σ [.ref (E.1 + 164), .int (zI a1_)] (fun r σ' => σ = σ' ∧ -2147483648 ≤ r ∧ r ≤ 2147483647) := by
  refine zCt_of2 [some (.ref (E.1 + 164)), some (.int (zI a1_))] (by decide +kernel) (Nat.le_of_ble_eq_true rfl) rfl ?_
  intro X hE hX hR hL hN
  subst hE
  have hX : zok X cX12_tiredOf RX12 0 := hX
  refine zt_aload_n (pc' := 1) hX dX12_tiredOf_0 rfl rfl ?_
  refine zt_get (pc' := 4) (v := .ref (X.1.1 + 203)) hX dX12_tiredOf_1 rfl zf_X12_130 (by decide) zc_164 zs_46 (zrf_of (zv_46_52 hI zc_164)) ?_
  refine zt_bipush (pc' := 6) hX dX12_tiredOf_4 rfl (by decide) (by decide) ?_
  refine zt_iconst (pc' := 7) hX dX12_tiredOf_6 rfl ?_
  refine zt_iload_n (pc' := 8) hX dX12_tiredOf_7 rfl rfl ?_
  refine zt_imul (pc' := 9) hX dX12_tiredOf_8 rfl ?_
  refine zt_iadd (pc' := 10) hX dX12_tiredOf_9 rfl ?_
  refine zt_iconst (pc' := 11) hX dX12_tiredOf_10 rfl ?_
  refine zt_iadd (pc' := 12) hX dX12_tiredOf_11 rfl ?_
  refine zt_iald (pc' := 13) hX dX12_tiredOf_12 rfl (by decide) zc_203 zs_85 (by decide) ⟨by omega, by omega⟩ ?_
  have bv1 := zv_85 hI zc_203 (((37 + (3 * a1_)) + 1).toNat)
  generalize hv1 : σ 203 (((37 + (3 * a1_)) + 1).toNat) = v1 at bv1 ⊢
  exact zt_iret hX hR dX12_tiredOf_13 ⟨by omega, by omega⟩ ⟨rfl, by omega, by omega⟩

set_option maxRecDepth 100000 in
set_option maxHeartbeats 4000000 in
theorem zc_X12_isAtRest (l : Launch) (E : zEN) (σ : zSto) (hI : zInv σ) (a1_ : Int) (ha1_ : 0 ≤ a1_ ∧ a1_ ≤ 9) : zCt l E yX12_isAtRest cX12_isAtRest 2 (some .boolean) 0 zNC zNC 0 0 σ [.ref (E.1 + 164), .int (zI a1_)] (fun r σ' => σ = σ' ∧ 0 ≤ r ∧ r ≤ 1) := by
  refine zCt_of2 [some (.ref (E.1 + 164)), some (.int (zI a1_))] (by decide +kernel) (Nat.le_of_ble_eq_true rfl) rfl ?_
  intro X hE hX hR hL hN
  subst hE
  have hX : zok X cX12_isAtRest RX12 0 := hX
  refine zt_aload_n (pc' := 1) hX dX12_isAtRest_0 rfl rfl ?_
  refine zt_get (pc' := 4) (v := .ref (X.1.1 + 203)) hX dX12_isAtRest_1 rfl zf_X12_130 (by decide) zc_164 zs_46 (zrf_of (zv_46_52 hI zc_164)) ?_
  refine zt_bipush (pc' := 6) hX dX12_isAtRest_4 rfl (by decide) (by decide) ?_
  refine zt_iconst (pc' := 7) hX dX12_isAtRest_6 rfl ?_
  refine zt_iload_n (pc' := 8) hX dX12_isAtRest_7 rfl rfl ?_
  refine zt_imul (pc' := 9) hX dX12_isAtRest_8 rfl ?_
  refine zt_iadd (pc' := 10) hX dX12_isAtRest_9 rfl ?_
  refine zt_iconst (pc' := 11) hX dX12_isAtRest_10 rfl ?_
  refine zt_iadd (pc' := 12) hX dX12_isAtRest_11 rfl ?_
  refine zt_iald (pc' := 13) hX dX12_isAtRest_12 rfl (by decide) zc_203 zs_85 (by decide) ⟨by omega, by omega⟩ ?_
  have bv1 := zv_85 hI zc_203 (((37 + (3 * a1_)) + 2).toNat)
  generalize hv1 : σ 203 (((37 + (3 * a1_)) + 2).toNat) = v1 at bv1 ⊢
  refine zt_iconst (pc' := 14) hX dX12_isAtRest_13 rfl ?_
  refine zt_icne (pc' := 17) (tgt := 21) hX dX12_isAtRest_14 rfl (by decide) ⟨by omega, by omega⟩ ⟨by omega, by omega⟩ (fun c2 => ?_) (fun c2 => ?_)
  · refine zt_iconst (pc' := 22) hX dX12_isAtRest_21 rfl ?_
    exact zt_zret hX hR dX12_isAtRest_22 ⟨by omega, by omega⟩ ⟨rfl, by omega, by omega⟩
  · refine zt_iconst (pc' := 18) hX dX12_isAtRest_17 rfl ?_
    refine zt_goto (tgt := 22) hX dX12_isAtRest_18 (by decide) ?_
    exact zt_zret hX hR dX12_isAtRest_22 ⟨by omega, by omega⟩ ⟨rfl, by omega, by omega⟩

set_option maxRecDepth 100000 in
set_option maxHeartbeats 4000000 in
theorem zc_X12_strengthOf (l : Launch) (E : zEN) (σ : zSto) (hI : zInv σ) (a1_ : Int) (ha1_ : 0 ≤ a1_ ∧ a1_ ≤ 9) : zCt l E yX12_strengthOf cX12_strengthOf 2 (some .int) 0 zNC zNC 0 0 σ [.ref (E.1 + 164), .int (zI a1_)] (fun r σ' => σ = σ' ∧ 0 ≤ r ∧ r ≤ 198 ∧ (σ 164 54 = 0 → r ≤ 99)) := by
  refine zCt_of2 [some (.ref (E.1 + 164)), some (.int (zI a1_))] (by decide +kernel) (Nat.le_of_ble_eq_true rfl) rfl ?_
  intro X hE hX hR hL hN
  subst hE
  have hX : zok X cX12_strengthOf RX12 0 := hX
  refine zt_aload_n (pc' := 1) hX dX12_strengthOf_0 rfl rfl ?_
  refine zt_get (pc' := 4) (v := .ref (X.1.1 + 198)) hX dX12_strengthOf_1 rfl zf_X12_115 (by decide) zc_164 zs_46 (zrf_of (zv_46_43 hI zc_164)) ?_
  refine zt_bipush (pc' := 6) hX dX12_strengthOf_4 rfl (by decide) (by decide) ?_
  refine zt_iconst (pc' := 7) hX dX12_strengthOf_6 rfl ?_
  refine zt_iload_n (pc' := 8) hX dX12_strengthOf_7 rfl rfl ?_
  refine zt_imul (pc' := 9) hX dX12_strengthOf_8 rfl ?_
  refine zt_iadd (pc' := 10) hX dX12_strengthOf_9 rfl ?_
  refine zt_iald (pc' := 11) hX dX12_strengthOf_10 rfl (by decide) zc_198 zs_80 (by decide) ⟨by omega, by omega⟩ ?_
  have bv1 := zv_80 hI zc_198 ((21 + (2 * a1_)).toNat)
  generalize hv1 : σ 198 ((21 + (2 * a1_)).toNat) = v1 at bv1 ⊢
  refine zt_aload_n (pc' := 12) hX dX12_strengthOf_11 rfl rfl ?_
  have b2 := zv_46_54 hI zc_164
  refine zt_get (pc' := 15) (v := .int (zI (σ 164 54))) hX dX12_strengthOf_12 rfl zf_X12_388 (by decide) zc_164 zs_46 rfl ?_
  refine zt_iadd (pc' := 16) hX dX12_strengthOf_15 rfl ?_
  exact zt_iret hX hR dX12_strengthOf_16 ⟨by omega, by omega⟩ ⟨rfl, by omega, by omega, by omega⟩

set_option maxRecDepth 100000 in
set_option maxHeartbeats 4000000 in
theorem zc_X12_apart (l : Launch) (E : zEN) (σ : zSto)  (a0_ : Int) (ha0_ : 0 ≤ a0_ ∧ a0_ ≤ 35) (a1_ : Int) (ha1_ : 0 ≤ a1_ ∧ a1_ ≤ 35) : zCt l E yX12_apart cX12_apart 4 (some .int) 0 zNC zNC 0 0 σ [.int (zI a0_), .int (zI a1_)] (fun r σ' => σ = σ' ∧ 0 ≤ r ∧ r ≤ 10) := by
  refine zCt_of2 [some (.int (zI a0_)), some (.int (zI a1_)), none, none] (by decide +kernel) (Nat.le_of_ble_eq_true rfl) rfl ?_
  intro X hE hX hR hL hN
  subst hE
  have hX : zok X cX12_apart RX12 0 := hX
  refine zt_iload_n (pc' := 1) hX dX12_apart_0 rfl rfl ?_
  refine zt_bipush (pc' := 3) hX dX12_apart_1 rfl (by decide) (by decide) ?_
  refine zt_irem (pc' := 4) hX dX12_apart_3 rfl ⟨by omega, by omega⟩ ⟨by omega, by omega⟩ (fun r1 er1 br1 nr1 => ?_)
  rw [ztm_p (by omega)] at er1
  refine zt_iload_n (pc' := 5) hX dX12_apart_4 rfl rfl ?_
  refine zt_bipush (pc' := 7) hX dX12_apart_5 rfl (by decide) (by decide) ?_
  refine zt_irem (pc' := 8) hX dX12_apart_7 rfl ⟨by omega, by omega⟩ ⟨by omega, by omega⟩ (fun r2 er2 br2 nr2 => ?_)
  rw [ztm_p (by omega)] at er2
  refine zt_isub (pc' := 9) hX dX12_apart_8 rfl ?_
  refine zt_istore_n (pc' := 10) (lv' := [some (.int (zI a0_)), some (.int (zI a1_)), some (.int (zI (r1 - r2))), none]) hX dX12_apart_9 rfl hL (by decide) rfl ?_
  refine zt_iload_n (pc' := 11) hX dX12_apart_10 rfl rfl ?_
  refine zt_bipush (pc' := 13) hX dX12_apart_11 rfl (by decide) (by decide) ?_
  refine zt_idiv (pc' := 14) hX dX12_apart_13 rfl ⟨by omega, by omega⟩ ⟨by omega, by omega⟩ (fun r3 er3 br3 => ?_)
  rw [ztd_p (by omega)] at er3
  refine zt_iload_n (pc' := 15) hX dX12_apart_14 rfl rfl ?_
  refine zt_bipush (pc' := 17) hX dX12_apart_15 rfl (by decide) (by decide) ?_
  refine zt_idiv (pc' := 18) hX dX12_apart_17 rfl ⟨by omega, by omega⟩ ⟨by omega, by omega⟩ (fun r4 er4 br4 => ?_)
  rw [ztd_p (by omega)] at er4
  refine zt_isub (pc' := 19) hX dX12_apart_18 rfl ?_
  refine zt_istore_n (pc' := 20) (lv' := [some (.int (zI a0_)), some (.int (zI a1_)), some (.int (zI (r1 - r2))), some (.int (zI (r3 - r4)))]) hX dX12_apart_19 rfl hL (by decide) rfl ?_
  refine zt_iload_n (pc' := 21) hX dX12_apart_20 rfl rfl ?_
  have J_30_7 : ∀ (y5 : Int), 0 ≤ y5 → y5 ≤ 5 → zF X σ 30 [none, none, none, some (.int (zI (r3 - r4)))] [.int (zI y5)] := by
    intro y5 h6 h7
    refine zt_iload_n (pc' := 31) hX dX12_apart_30 rfl rfl ?_
    refine zt_ifge (pc' := 34) (tgt := 39) hX dX12_apart_31 rfl (by decide) ⟨by omega, by omega⟩ (fun c9 => ?_) (fun c9 => ?_)
    · refine zt_iload_n (pc' := 40) hX dX12_apart_39 rfl rfl ?_
      refine zt_iadd (pc' := 41) hX dX12_apart_40 rfl ?_
      exact zt_iret hX hR dX12_apart_41 ⟨by omega, by omega⟩ ⟨rfl, by omega, by omega⟩
    · refine zt_iload_n (pc' := 35) hX dX12_apart_34 rfl rfl ?_
      refine zt_ineg (pc' := 36) hX dX12_apart_35 rfl ?_
      refine zt_goto (tgt := 40) hX dX12_apart_36 (by decide) ?_
      refine zt_iadd (pc' := 41) hX dX12_apart_40 rfl ?_
      exact zt_iret hX hR dX12_apart_41 ⟨by omega, by omega⟩ ⟨rfl, by omega, by omega⟩
  refine zt_ifge (pc' := 24) (tgt := 29) hX dX12_apart_21 rfl (by decide) ⟨by omega, by omega⟩ (fun c10 => ?_) (fun c10 => ?_)
  · refine zt_iload_n (pc' := 30) hX dX12_apart_29 rfl rfl ?_
    refine zt_mask [false, false, false, true] rfl ?_
    exact J_30_7 (r1 - r2) (by omega) (by omega)
  · refine zt_iload_n (pc' := 25) hX dX12_apart_24 rfl rfl ?_
    refine zt_ineg (pc' := 26) hX dX12_apart_25 rfl ?_
    refine zt_goto (tgt := 30) hX dX12_apart_26 (by decide) ?_
    refine zt_mask [false, false, false, true] rfl ?_
    exact J_30_7 (-(r1 - r2)) (by omega) (by omega)

set_option maxRecDepth 100000 in
set_option maxHeartbeats 4000000 in
theorem zc_X12_nearOf (l : Launch) (E : zEN) (σ : zSto) (hI : zInv σ) (a1_ : Int) (ha1_ : 0 ≤ a1_ ∧ a1_ ≤ 9) : zCt l E yX12_nearOf cX12_nearOf 4 (some .int) 1 zNC zNC 0 0 σ [.ref (E.1 + 164), .int (zI a1_)] (fun r σ' => σ = σ' ∧ -2147483648 ≤ r ∧ r ≤ 2147483647) := by
  refine zCt_of2 [some (.ref (E.1 + 164)), some (.int (zI a1_)), none, none] (by decide +kernel) (Nat.le_of_ble_eq_true rfl) rfl ?_
  intro X hE hX hR hL hN
  subst hE
  have hX : zok X cX12_nearOf RX12 1 := hX
  refine zt_iconst (pc' := 1) hX dX12_nearOf_0 rfl ?_
  refine zt_istore_n (pc' := 2) (lv' := [some (.ref (X.1.1 + 164)), some (.int (zI a1_)), some (.int (zI 0)), none]) hX dX12_nearOf_1 rfl hL (by decide) rfl ?_
  refine zt_iconst (pc' := 3) hX dX12_nearOf_2 rfl ?_
  refine zt_istore_n (pc' := 4) (lv' := [some (.ref (X.1.1 + 164)), some (.int (zI a1_)), some (.int (zI 0)), some (.int (zI 0))]) hX dX12_nearOf_3 rfl hL (by decide) rfl ?_
  have L_4_6 : ∀ (N : Nat) (x1 : Int) (x4 : Int), -2147483648 ≤ x1 → x1 ≤ 2147483647 → 0 ≤ x4 → x4 ≤ 10 → ((11 - x4).toNat) < N → zF X σ 4 [some (.ref (X.1.1 + 164)), some (.int (zI a1_)), some (.int (zI x1)), some (.int (zI x4))] [] := by
    intro N
    induction N with
    | zero =>
      intro x1 x4 h2 h3 h5 h6 hm8
      exact absurd hm8 (Nat.not_lt_zero _)
    | succ N ih9 =>
      intro x1 x4 h2 h3 h5 h6 hm8
      refine zt_iload_n (pc' := 5) hX dX12_nearOf_4 rfl rfl ?_
      refine zt_aload_n (pc' := 6) hX dX12_nearOf_5 rfl rfl ?_
      refine zt_cVi (pc' := 9) hX dX12_nearOf_6 rfl zm_yX12_peopleMany zw_38_4 zc_164 (by decide) zs_46 (q := (RX12, TX12, 108)) rfl rfl (zc_X12_peopleMany _ _ σ hI ) rfl rfl (Nat.le_of_ble_eq_true rfl) (by decide) (fun r10 s11 hr12 hp13 => ?_)
      obtain ⟨rfl, q14, q15, z16⟩ := hp13
      refine zt_icge (pc' := 12) (tgt := 38) hX dX12_nearOf_9 rfl (by decide) ⟨by omega, by omega⟩ ⟨by omega, by omega⟩ (fun c17 => ?_) (fun c17 => ?_)
      · refine zt_iload_n (pc' := 39) hX dX12_nearOf_38 rfl rfl ?_
        exact zt_iret hX hR dX12_nearOf_39 ⟨by omega, by omega⟩ ⟨rfl, by omega, by omega⟩
      · refine zt_aload_n (pc' := 13) hX dX12_nearOf_12 rfl rfl ?_
        refine zt_iload_n (pc' := 14) hX dX12_nearOf_13 rfl rfl ?_
        refine zt_cVi (pc' := 17) hX dX12_nearOf_14 rfl zm_yX12_placeOf zw_40_0 zc_164 (by decide) zs_46 (q := (RX12, TX12, 108)) rfl rfl (zc_X12_placeOf _ _ σ hI a1_ ⟨by omega, by omega⟩) rfl rfl (Nat.le_of_ble_eq_true rfl) (by decide) (fun r18 s19 hr20 hp21 => ?_)
        obtain ⟨rfl, q22, q23⟩ := hp21
        refine zt_aload_n (pc' := 18) hX dX12_nearOf_17 rfl rfl ?_
        refine zt_iload_n (pc' := 19) hX dX12_nearOf_18 rfl rfl ?_
        refine zt_cVi (pc' := 22) hX dX12_nearOf_19 rfl zm_yX12_placeOf zw_40_0 zc_164 (by decide) zs_46 (q := (RX12, TX12, 108)) rfl rfl (zc_X12_placeOf _ _ σ hI x4 ⟨by omega, by omega⟩) rfl rfl (Nat.le_of_ble_eq_true rfl) (by decide) (fun r24 s25 hr26 hp27 => ?_)
        obtain ⟨rfl, q28, q29⟩ := hp27
        refine zt_cSi (pc' := 25) hX dX12_nearOf_22 rfl zm_yX12_apart zw_40_4 (zc_X12_apart _ _ σ  r18 ⟨by omega, by omega⟩ r24 ⟨by omega, by omega⟩) rfl rfl (Nat.le_of_ble_eq_true rfl) (by decide) (fun r30 s31 hr32 hp33 => ?_)
        obtain ⟨rfl, q34, q35⟩ := hp33
        refine zt_iconst (pc' := 26) hX dX12_nearOf_25 rfl ?_
        have J_32_38 : ∀ (x36 : Int), -2147483648 ≤ x36 → x36 ≤ 2147483647 → zF X σ 32 [some (.ref (X.1.1 + 164)), some (.int (zI a1_)), some (.int (zI x36)), some (.int (zI x4))] [] := by
          intro x36 h37 h38
          refine zt_iinc (pc' := 35) (lv' := [some (.ref (X.1.1 + 164)), some (.int (zI a1_)), some (.int (zI x36)), some (.int (zI (x4 + 1)))]) hX dX12_nearOf_32 rfl rfl hL (by decide) rfl ?_
          refine zt_goto (tgt := 4) hX dX12_nearOf_35 (by decide) ?_
          exact ih9 x36 (x4 + 1) (by omega) (by omega) (by omega) (by omega) (by omega)
        refine zt_icne (pc' := 29) (tgt := 32) hX dX12_nearOf_26 rfl (by decide) ⟨by omega, by omega⟩ ⟨by omega, by omega⟩ (fun c40 => ?_) (fun c40 => ?_)
        · exact J_32_38 x1 (by omega) (by omega)
        · refine zt_iinc (pc' := 32) (lv' := [some (.ref (X.1.1 + 164)), some (.int (zI a1_)), some (.int (zI (x1 + 1))), some (.int (zI x4))]) hX dX12_nearOf_29 rfl rfl hL (by decide) rfl ?_
          obtain ⟨r41, er41, lr41, ur41⟩ := zwr (x1 + 1)
          rw [← er41]
          exact J_32_38 r41 (by omega) (by omega)
  exact L_4_6 _ 0 0 (by omega) (by omega) (by omega) (by omega) (Nat.lt_succ_self _)

set_option maxRecDepth 100000 in
set_option maxHeartbeats 4000000 in
theorem zc_X12_standsAt (l : Launch) (E : zEN) (σ : zSto) (hI : zInv σ) (a1_ : Int) (ha1_ : -2147483648 ≤ a1_ ∧ a1_ ≤ 2147483647) : zCt l E yX12_standsAt cX12_standsAt 3 (some .int) 1 zNC zNC 0 0 σ [.ref (E.1 + 164), .int (zI a1_)] (fun r σ' => σ = σ' ∧ -1 ≤ r ∧ r ≤ 9) := by
  refine zCt_of2 [some (.ref (E.1 + 164)), some (.int (zI a1_)), none] (by decide +kernel) (Nat.le_of_ble_eq_true rfl) rfl ?_
  intro X hE hX hR hL hN
  subst hE
  have hX : zok X cX12_standsAt RX12 1 := hX
  refine zt_iconst (pc' := 1) hX dX12_standsAt_0 rfl ?_
  refine zt_istore_n (pc' := 2) (lv' := [some (.ref (X.1.1 + 164)), some (.int (zI a1_)), some (.int (zI 0))]) hX dX12_standsAt_1 rfl hL (by decide) rfl ?_
  have L_2_3 : ∀ (N : Nat) (x1 : Int), 0 ≤ x1 → x1 ≤ 10 → ((11 - x1).toNat) < N → zF X σ 2 [some (.ref (X.1.1 + 164)), some (.int (zI a1_)), some (.int (zI x1))] [] := by
    intro N
    induction N with
    | zero =>
      intro x1 h2 h3 hm5
      exact absurd hm5 (Nat.not_lt_zero _)
    | succ N ih6 =>
      intro x1 h2 h3 hm5
      refine zt_iload_n (pc' := 3) hX dX12_standsAt_2 rfl rfl ?_
      refine zt_aload_n (pc' := 4) hX dX12_standsAt_3 rfl rfl ?_
      refine zt_cVi (pc' := 7) hX dX12_standsAt_4 rfl zm_yX12_peopleMany zw_38_4 zc_164 (by decide) zs_46 (q := (RX12, TX12, 108)) rfl rfl (zc_X12_peopleMany _ _ σ hI ) rfl rfl (Nat.le_of_ble_eq_true rfl) (by decide) (fun r7 s8 hr9 hp10 => ?_)
      obtain ⟨rfl, q11, q12, z13⟩ := hp10
      refine zt_icge (pc' := 10) (tgt := 27) hX dX12_standsAt_7 rfl (by decide) ⟨by omega, by omega⟩ ⟨by omega, by omega⟩ (fun c14 => ?_) (fun c14 => ?_)
      · refine zt_iconst (pc' := 28) hX dX12_standsAt_27 rfl ?_
        exact zt_iret hX hR dX12_standsAt_28 ⟨by omega, by omega⟩ ⟨rfl, by omega, by omega⟩
      · refine zt_aload_n (pc' := 11) hX dX12_standsAt_10 rfl rfl ?_
        refine zt_iload_n (pc' := 12) hX dX12_standsAt_11 rfl rfl ?_
        refine zt_cVi (pc' := 15) hX dX12_standsAt_12 rfl zm_yX12_placeOf zw_40_0 zc_164 (by decide) zs_46 (q := (RX12, TX12, 108)) rfl rfl (zc_X12_placeOf _ _ σ hI x1 ⟨by omega, by omega⟩) rfl rfl (Nat.le_of_ble_eq_true rfl) (by decide) (fun r15 s16 hr17 hp18 => ?_)
        obtain ⟨rfl, q19, q20⟩ := hp18
        refine zt_iload_n (pc' := 16) hX dX12_standsAt_15 rfl rfl ?_
        refine zt_icne (pc' := 19) (tgt := 21) hX dX12_standsAt_16 rfl (by decide) ⟨by omega, by omega⟩ ⟨by omega, by omega⟩ (fun c21 => ?_) (fun c21 => ?_)
        · refine zt_iinc (pc' := 24) (lv' := [some (.ref (X.1.1 + 164)), some (.int (zI a1_)), some (.int (zI (x1 + 1)))]) hX dX12_standsAt_21 rfl rfl hL (by decide) rfl ?_
          refine zt_goto (tgt := 2) hX dX12_standsAt_24 (by decide) ?_
          exact ih6 (x1 + 1) (by omega) (by omega) (by omega)
        · refine zt_iload_n (pc' := 20) hX dX12_standsAt_19 rfl rfl ?_
          exact zt_iret hX hR dX12_standsAt_20 ⟨by omega, by omega⟩ ⟨rfl, by omega, by omega⟩
  exact L_2_3 _ 0 (by omega) (by omega) (Nat.lt_succ_self _)

set_option maxRecDepth 100000 in
set_option maxHeartbeats 4000000 in
theorem zc_X12_liftOf (l : Launch) (E : zEN) (σ : zSto) (hI : zInv σ) (a1_ : Int) (ha1_ : 0 ≤ a1_ ∧ a1_ ≤ 9) (a2_ : Int) (ha2_ : 0 ≤ a2_ ∧ a2_ ≤ 35) (a3_ : Int) (ha3_ : 0 ≤ a3_ ∧ a3_ ≤ 35) : zCt l E yX12_liftOf cX12_liftOf 5 (some .int) 1 zNC zNC 0 0 σ [.ref (E.1 + 164), .int (zI a1_), .int (zI a2_), .int (zI a3_)] (fun r σ' => σ = σ' ∧ 0 ≤ r ∧ r ≤ 198 ∧ (σ 164 54 = 0 → r ≤ 99)) := by
  refine zCt_of2 [some (.ref (E.1 + 164)), some (.int (zI a1_)), some (.int (zI a2_)), some (.int (zI a3_)), none] (by decide +kernel) (Nat.le_of_ble_eq_true rfl) rfl ?_
  intro X hE hX hR hL hN
  subst hE
  have hX : zok X cX12_liftOf RX12 1 := hX
  refine zt_aload_n (pc' := 1) hX dX12_liftOf_0 rfl rfl ?_
  refine zt_iload_n (pc' := 2) hX dX12_liftOf_1 rfl rfl ?_
  refine zt_cVi (pc' := 5) hX dX12_liftOf_2 rfl zm_yX12_strengthOf zw_39_11 zc_164 (by decide) zs_46 (q := (RX12, TX12, 108)) rfl rfl (zc_X12_strengthOf _ _ σ hI a1_ ⟨by omega, by omega⟩) rfl rfl (Nat.le_of_ble_eq_true rfl) (by decide) (fun r1 s2 hr3 hp4 => ?_)
  obtain ⟨rfl, q5, q6, z7⟩ := hp4
  refine zt_aload_n (pc' := 6) hX dX12_liftOf_5 rfl rfl ?_
  refine zt_get (pc' := 9) (v := .ref (X.1.1 + 199)) hX dX12_liftOf_6 rfl zf_X12_118 (by decide) zc_164 zs_46 (zrf_of (zv_46_44 hI zc_164)) ?_
  refine zt_iconst (pc' := 10) hX dX12_liftOf_9 rfl ?_
  refine zt_iald (pc' := 11) hX dX12_liftOf_10 rfl (by decide) zc_199 zs_81 (by decide) ⟨by omega, by omega⟩ ?_
  rw [show Int.toNat 3 = 3 from rfl]
  have b9 := zv_81 hI zc_199 3
  refine zt_iload_n (pc' := 12) hX dX12_liftOf_11 rfl rfl ?_
  refine zt_iload_n (pc' := 13) hX dX12_liftOf_12 rfl rfl ?_
  refine zt_cSi (pc' := 16) hX dX12_liftOf_13 rfl zm_yX12_apart zw_40_4 (zc_X12_apart _ _ σ  a2_ ⟨by omega, by omega⟩ a3_ ⟨by omega, by omega⟩) rfl rfl (Nat.le_of_ble_eq_true rfl) (by decide) (fun r10 s11 hr12 hp13 => ?_)
  obtain ⟨rfl, q14, q15⟩ := hp13
  refine zt_imul (pc' := 17) hX dX12_liftOf_16 rfl ?_
  generalize hp16 : (σ 199 3) * r10 = p16
  have bp16 : 0 ≤ p16 ∧ p16 ≤ 1000 := hp16 ▸ zmul_b (a := 100) (b := 10) (by omega) (by omega) (by omega) (by omega)
  refine zt_isub (pc' := 18) hX dX12_liftOf_17 rfl ?_
  refine zt_istore (pc' := 20) (lv' := [some (.ref (X.1.1 + 164)), some (.int (zI a1_)), some (.int (zI a2_)), some (.int (zI a3_)), some (.int (zI (r1 - p16)))]) hX dX12_liftOf_18 rfl hL (by decide) rfl ?_
  refine zt_iload (pc' := 22) hX dX12_liftOf_20 rfl rfl ?_
  refine zt_ifge (pc' := 25) (tgt := 29) hX dX12_liftOf_22 rfl (by decide) ⟨by omega, by omega⟩ (fun c17 => ?_) (fun c17 => ?_)
  · refine zt_iload (pc' := 31) hX dX12_liftOf_29 rfl rfl ?_
    exact zt_iret hX hR dX12_liftOf_31 ⟨by omega, by omega⟩ ⟨rfl, by omega, by omega, by omega⟩
  · refine zt_iconst (pc' := 26) hX dX12_liftOf_25 rfl ?_
    refine zt_goto (tgt := 31) hX dX12_liftOf_26 (by decide) ?_
    exact zt_iret hX hR dX12_liftOf_31 ⟨by omega, by omega⟩ ⟨rfl, by omega, by omega, by omega⟩

set_option maxRecDepth 100000 in
set_option maxHeartbeats 4000000 in
theorem zc_X12_liftBy (l : Launch) (E : zEN) (σ : zSto) (hI : zInv σ) (a1_ : Int) (ha1_ : -2147483648 ≤ a1_ ∧ a1_ ≤ 2147483647) (a2_ : Int) (ha2_ : 0 ≤ a2_ ∧ a2_ ≤ 35) : zCt l E yX12_liftBy cX12_liftBy 5 (some .int) 2 zNC zNC 0 0 σ [.ref (E.1 + 164), .int (zI a1_), .int (zI a2_)] (fun r σ' => σ = σ' ∧ 0 ≤ r ∧ r ≤ 1980 ∧ (σ 164 54 = 0 → r ≤ 990)) := by
  refine zCt_of2 [some (.ref (E.1 + 164)), some (.int (zI a1_)), some (.int (zI a2_)), none, none] (by decide +kernel) (Nat.le_of_ble_eq_true rfl) rfl ?_
  intro X hE hX hR hL hN
  subst hE
  have hX : zok X cX12_liftBy RX12 2 := hX
  refine zt_iconst (pc' := 1) hX dX12_liftBy_0 rfl ?_
  refine zt_istore_n (pc' := 2) (lv' := [some (.ref (X.1.1 + 164)), some (.int (zI a1_)), some (.int (zI a2_)), some (.int (zI 0)), none]) hX dX12_liftBy_1 rfl hL (by decide) rfl ?_
  refine zt_iconst (pc' := 3) hX dX12_liftBy_2 rfl ?_
  refine zt_istore (pc' := 5) (lv' := [some (.ref (X.1.1 + 164)), some (.int (zI a1_)), some (.int (zI a2_)), some (.int (zI 0)), some (.int (zI 0))]) hX dX12_liftBy_3 rfl hL (by decide) rfl ?_
  have L_5_8 : ∀ (N : Nat) (x1 : Int) (x4 : Int), 0 ≤ x1 → x1 ≤ 1980 → 0 ≤ x4 → x4 ≤ 10 → x1 ≤ 198 * x4 → (σ 164 54 = 0 → x1 ≤ 99 * x4) → ((11 - x4).toNat) < N → zF X σ 5 [some (.ref (X.1.1 + 164)), some (.int (zI a1_)), some (.int (zI a2_)), some (.int (zI x1)), some (.int (zI x4))] [] := by
    intro N
    induction N with
    | zero =>
      intro x1 x4 h2 h3 h5 h6 g7 g8 hm10
      exact absurd hm10 (Nat.not_lt_zero _)
    | succ N ih11 =>
      intro x1 x4 h2 h3 h5 h6 g7 g8 hm10
      refine zt_iload (pc' := 7) hX dX12_liftBy_5 rfl rfl ?_
      refine zt_aload_n (pc' := 8) hX dX12_liftBy_7 rfl rfl ?_
      refine zt_cVi (pc' := 11) hX dX12_liftBy_8 rfl zm_yX12_peopleMany zw_38_4 zc_164 (by decide) zs_46 (q := (RX12, TX12, 108)) rfl rfl (zc_X12_peopleMany _ _ σ hI ) rfl rfl (Nat.le_of_ble_eq_true rfl) (by decide) (fun r12 s13 hr14 hp15 => ?_)
      obtain ⟨rfl, q16, q17, z18⟩ := hp15
      refine zt_icge (pc' := 14) (tgt := 46) hX dX12_liftBy_11 rfl (by decide) ⟨by omega, by omega⟩ ⟨by omega, by omega⟩ (fun c19 => ?_) (fun c19 => ?_)
      · refine zt_iload_n (pc' := 47) hX dX12_liftBy_46 rfl rfl ?_
        exact zt_iret hX hR dX12_liftBy_47 ⟨by omega, by omega⟩ ⟨rfl, by omega, by omega, by omega⟩
      · refine zt_iload_n (pc' := 15) hX dX12_liftBy_14 rfl rfl ?_
        refine zt_iload (pc' := 17) hX dX12_liftBy_15 rfl rfl ?_
        refine zt_ishr (pc' := 18) hX dX12_liftBy_17 rfl (fun r20 zr20 lr20 ur20 => ?_)
        clear zr20
        refine zt_iconst (pc' := 19) hX dX12_liftBy_18 rfl ?_
        refine zt_iandm (pc' := 20) hX dX12_liftBy_19 rfl 1 (by decide +kernel) (by decide) (fun r21 er21 lr21 ur21 => ?_)
        have ur21 : r21 ≤ 1 := by omega
        refine zt_iconst (pc' := 21) hX dX12_liftBy_20 rfl ?_
        have J_40_26 : ∀ (x22 : Int), 0 ≤ x22 → x22 ≤ 3397 → x22 ≤ 198 * x4 + 198 → (σ 164 54 = 0 → x22 ≤ 99 * x4 + 99) → zF X σ 40 [some (.ref (X.1.1 + 164)), some (.int (zI a1_)), some (.int (zI a2_)), some (.int (zI x22)), some (.int (zI x4))] [] := by
          intro x22 h23 h24 g25 g26
          refine zt_iinc (pc' := 43) (lv' := [some (.ref (X.1.1 + 164)), some (.int (zI a1_)), some (.int (zI a2_)), some (.int (zI x22)), some (.int (zI (x4 + 1)))]) hX dX12_liftBy_40 rfl rfl hL (by decide) rfl ?_
          refine zt_goto (tgt := 5) hX dX12_liftBy_43 (by decide) ?_
          exact ih11 x22 (x4 + 1) (by omega) (by omega) (by omega) (by omega) (by omega) (by omega) (by omega)
        refine zt_icne (pc' := 24) (tgt := 40) hX dX12_liftBy_21 rfl (by decide) ⟨by omega, by omega⟩ ⟨by omega, by omega⟩ (fun c28 => ?_) (fun c28 => ?_)
        · exact J_40_26 x1 (by omega) (by omega) (by omega) (by omega)
        · refine zt_iload_n (pc' := 25) hX dX12_liftBy_24 rfl rfl ?_
          refine zt_aload_n (pc' := 26) hX dX12_liftBy_25 rfl rfl ?_
          refine zt_iload (pc' := 28) hX dX12_liftBy_26 rfl rfl ?_
          refine zt_aload_n (pc' := 29) hX dX12_liftBy_28 rfl rfl ?_
          refine zt_iload (pc' := 31) hX dX12_liftBy_29 rfl rfl ?_
          refine zt_cVi (pc' := 34) hX dX12_liftBy_31 rfl zm_yX12_placeOf zw_40_0 zc_164 (by decide) zs_46 (q := (RX12, TX12, 108)) rfl rfl (zc_X12_placeOf _ _ σ hI x4 ⟨by omega, by omega⟩) rfl rfl (Nat.le_of_ble_eq_true rfl) (by decide) (fun r29 s30 hr31 hp32 => ?_)
          obtain ⟨rfl, q33, q34⟩ := hp32
          refine zt_iload_n (pc' := 35) hX dX12_liftBy_34 rfl rfl ?_
          refine zt_cVi (pc' := 38) hX dX12_liftBy_35 rfl zm_yX12_liftOf zw_46_11 zc_164 (by decide) zs_46 (q := (RX12, TX12, 108)) rfl rfl (zc_X12_liftOf _ _ σ hI x4 ⟨by omega, by omega⟩ r29 ⟨by omega, by omega⟩ a2_ ⟨by omega, by omega⟩) rfl rfl (Nat.le_of_ble_eq_true rfl) (by decide) (fun r35 s36 hr37 hp38 => ?_)
          obtain ⟨rfl, q39, q40, z41⟩ := hp38
          refine zt_iadd (pc' := 39) hX dX12_liftBy_38 rfl ?_
          refine zt_istore_n (pc' := 40) (lv' := [some (.ref (X.1.1 + 164)), some (.int (zI a1_)), some (.int (zI a2_)), some (.int (zI (x1 + r35))), some (.int (zI x4))]) hX dX12_liftBy_39 rfl hL (by decide) rfl ?_
          exact J_40_26 (x1 + r35) (by omega) (by omega) (by omega) (by omega)
  exact L_5_8 _ 0 0 (by omega) (by omega) (by omega) (by omega) (by omega) (by omega) (Nat.lt_succ_self _)

set_option maxRecDepth 100000 in
set_option maxHeartbeats 4000000 in
theorem zc_X12_slackBy (l : Launch) (E : zEN) (σ : zSto) (hI : zInv σ) (a1_ : Int) (ha1_ : -2147483648 ≤ a1_ ∧ a1_ ≤ 2147483647) (a2_ : Int) (ha2_ : 0 ≤ a2_ ∧ a2_ ≤ 35) : zCt l E yX12_slackBy cX12_slackBy 3 (some .int) 3 zNC zNC 0 0 σ [.ref (E.1 + 164), .int (zI a1_), .int (zI a2_)] (fun r σ' => σ = σ' ∧ -2147483648 ≤ r ∧ r ≤ 2147483647) := by
  refine zCt_of2 [some (.ref (E.1 + 164)), some (.int (zI a1_)), some (.int (zI a2_))] (by decide +kernel) (Nat.le_of_ble_eq_true rfl) rfl ?_
  intro X hE hX hR hL hN
  subst hE
  have hX : zok X cX12_slackBy RX12 3 := hX
  refine zt_aload_n (pc' := 1) hX dX12_slackBy_0 rfl rfl ?_
  refine zt_get (pc' := 4) (v := .ref (X.1.1 + 194)) hX dX12_slackBy_1 rfl zf_X12_102 (by decide) zc_164 zs_46 (zrf_of (zv_46_39 hI zc_164)) ?_
  refine zt_iconst (pc' := 5) hX dX12_slackBy_4 rfl ?_
  refine zt_iald (pc' := 6) hX dX12_slackBy_5 rfl (by decide) zc_194 zs_76 (by decide) ⟨by omega, by omega⟩ ?_
  rw [show Int.toNat 5 = 5 from rfl]
  have b2 := zv_76 hI zc_194 5
  refine zt_aload_n (pc' := 7) hX dX12_slackBy_6 rfl rfl ?_
  refine zt_iload_n (pc' := 8) hX dX12_slackBy_7 rfl rfl ?_
  refine zt_iload_n (pc' := 9) hX dX12_slackBy_8 rfl rfl ?_
  refine zt_cVi (pc' := 12) hX dX12_slackBy_9 rfl zm_yX12_liftBy zw_46_7 zc_164 (by decide) zs_46 (q := (RX12, TX12, 108)) rfl rfl (zc_X12_liftBy _ _ σ hI a1_ ⟨by omega, by omega⟩ a2_ ⟨by omega, by omega⟩) rfl rfl (Nat.le_of_ble_eq_true rfl) (by decide) (fun r3 s4 hr5 hp6 => ?_)
  obtain ⟨rfl, q7, q8, z9⟩ := hp6
  refine zt_iadd (pc' := 13) hX dX12_slackBy_12 rfl ?_
  refine zt_wrap (fun r10 zr10 lr10 ur10 => ?_)
  clear zr10
  refine zt_aload_n (pc' := 14) hX dX12_slackBy_13 rfl rfl ?_
  refine zt_get (pc' := 17) (v := .ref (X.1.1 + 205)) hX dX12_slackBy_14 rfl zf_X12_136 (by decide) zc_164 zs_46 (zrf_of (zv_46_57 hI zc_164)) ?_
  refine zt_iload_n (pc' := 18) hX dX12_slackBy_17 rfl rfl ?_
  refine zt_iald (pc' := 19) hX dX12_slackBy_18 rfl (by decide) zc_205 zs_87 (by decide) ⟨by omega, by omega⟩ ?_
  generalize hv11 : σ 205 (a2_.toNat) = v11
  have bv11 : -2147483648 ≤ v11 ∧ v11 ≤ 2147483647 := hv11 ▸ zv_87 hI zc_205 _
  refine zt_isub (pc' := 20) hX dX12_slackBy_19 rfl ?_
  refine zt_wrap (fun r12 zr12 lr12 ur12 => ?_)
  clear zr12
  exact zt_iret hX hR dX12_slackBy_20 ⟨by omega, by omega⟩ ⟨rfl, by omega, by omega⟩

set_option maxRecDepth 100000 in
set_option maxHeartbeats 4000000 in
theorem zc_X12_cracksBy (l : Launch) (E : zEN) (σ : zSto) (hI : zInv σ) (a1_ : Int) (ha1_ : -2147483648 ≤ a1_ ∧ a1_ ≤ 2147483647) : zCt l E yX12_cracksBy cX12_cracksBy 4 (some .int) 4 zNC zNC 0 0 σ [.ref (E.1 + 164), .int (zI a1_)] (fun r σ' => σ = σ' ∧ -2147483648 ≤ r ∧ r ≤ 2147483647) := by
  refine zCt_of2 [some (.ref (E.1 + 164)), some (.int (zI a1_)), none, none] (by decide +kernel) (Nat.le_of_ble_eq_true rfl) rfl ?_
  intro X hE hX hR hL hN
  subst hE
  have hX : zok X cX12_cracksBy RX12 4 := hX
  refine zt_iconst (pc' := 1) hX dX12_cracksBy_0 rfl ?_
  refine zt_istore_n (pc' := 2) (lv' := [some (.ref (X.1.1 + 164)), some (.int (zI a1_)), some (.int (zI 0)), none]) hX dX12_cracksBy_1 rfl hL (by decide) rfl ?_
  refine zt_iconst (pc' := 3) hX dX12_cracksBy_2 rfl ?_
  refine zt_istore_n (pc' := 4) (lv' := [some (.ref (X.1.1 + 164)), some (.int (zI a1_)), some (.int (zI 0)), some (.int (zI 0))]) hX dX12_cracksBy_3 rfl hL (by decide) rfl ?_
  have L_4_6 : ∀ (N : Nat) (x1 : Int) (x4 : Int), -2147483648 ≤ x1 → x1 ≤ 2147483647 → 0 ≤ x4 → x4 ≤ 36 → ((37 - x4).toNat) < N → zF X σ 4 [some (.ref (X.1.1 + 164)), some (.int (zI a1_)), some (.int (zI x1)), some (.int (zI x4))] [] := by
    intro N
    induction N with
    | zero =>
      intro x1 x4 h2 h3 h5 h6 hm8
      exact absurd hm8 (Nat.not_lt_zero _)
    | succ N ih9 =>
      intro x1 x4 h2 h3 h5 h6 hm8
      refine zt_iload_n (pc' := 5) hX dX12_cracksBy_4 rfl rfl ?_
      refine zt_aload_n (pc' := 6) hX dX12_cracksBy_5 rfl rfl ?_
      refine zt_cVi (pc' := 9) hX dX12_cracksBy_6 rfl zm_yX12_cellMany zw_44_19 zc_164 (by decide) zs_46 (q := (RX12, TX12, 108)) rfl rfl (zc_X12_cellMany _ _ σ hI ) rfl rfl (Nat.le_of_ble_eq_true rfl) (by decide) (fun r10 s11 hr12 hp13 => ?_)
      obtain ⟨rfl, q14, q15, z16⟩ := hp13
      refine zt_icge (pc' := 12) (tgt := 46) hX dX12_cracksBy_9 rfl (by decide) ⟨by omega, by omega⟩ ⟨by omega, by omega⟩ (fun c17 => ?_) (fun c17 => ?_)
      · refine zt_iload_n (pc' := 47) hX dX12_cracksBy_46 rfl rfl ?_
        exact zt_iret hX hR dX12_cracksBy_47 ⟨by omega, by omega⟩ ⟨rfl, by omega, by omega⟩
      · refine zt_aload_n (pc' := 13) hX dX12_cracksBy_12 rfl rfl ?_
        refine zt_aload_n (pc' := 14) hX dX12_cracksBy_13 rfl rfl ?_
        refine zt_iload_n (pc' := 15) hX dX12_cracksBy_14 rfl rfl ?_
        refine zt_cVi (pc' := 18) hX dX12_cracksBy_15 rfl zm_yX12_cellOf zw_44_23 zc_164 (by decide) zs_46 (q := (RX12, TX12, 108)) rfl rfl (zc_X12_cellOf _ _ σ hI x4 ⟨by omega, by omega⟩ (by omega)) rfl rfl (Nat.le_of_ble_eq_true rfl) (by decide) (fun r18 s19 hr20 hp21 => ?_)
        obtain ⟨rfl, q22, q23⟩ := hp21
        refine zt_cVz (pc' := 21) hX dX12_cracksBy_18 rfl zm_yX12_isCracked zw_45_3 zc_164 (by decide) zs_46 (q := (RX12, TX12, 108)) rfl rfl (zc_X12_isCracked _ _ σ hI r18 ⟨by omega, by omega⟩) rfl rfl (Nat.le_of_ble_eq_true rfl) (by decide) (fun r24 s25 hr26 hp27 => ?_)
        obtain ⟨rfl, q28, q29⟩ := hp27
        have J_40_32 : ∀ (x30 : Int), -2147483648 ≤ x30 → x30 ≤ 2147483647 → zF X σ 40 [some (.ref (X.1.1 + 164)), some (.int (zI a1_)), some (.int (zI x30)), some (.int (zI x4))] [] := by
          intro x30 h31 h32
          refine zt_iinc (pc' := 43) (lv' := [some (.ref (X.1.1 + 164)), some (.int (zI a1_)), some (.int (zI x30)), some (.int (zI (x4 + 1)))]) hX dX12_cracksBy_40 rfl rfl hL (by decide) rfl ?_
          refine zt_goto (tgt := 4) hX dX12_cracksBy_43 (by decide) ?_
          exact ih9 x30 (x4 + 1) (by omega) (by omega) (by omega) (by omega) (by omega)
        refine zt_ifne (pc' := 24) (tgt := 40) hX dX12_cracksBy_21 rfl (by decide) ⟨by omega, by omega⟩ (fun c34 => ?_) (fun c34 => ?_)
        · exact J_40_32 x1 (by omega) (by omega)
        · refine zt_aload_n (pc' := 25) hX dX12_cracksBy_24 rfl rfl ?_
          refine zt_iload_n (pc' := 26) hX dX12_cracksBy_25 rfl rfl ?_
          refine zt_aload_n (pc' := 27) hX dX12_cracksBy_26 rfl rfl ?_
          refine zt_iload_n (pc' := 28) hX dX12_cracksBy_27 rfl rfl ?_
          refine zt_cVi (pc' := 31) hX dX12_cracksBy_28 rfl zm_yX12_cellOf zw_44_23 zc_164 (by decide) zs_46 (q := (RX12, TX12, 108)) rfl rfl (zc_X12_cellOf _ _ σ hI x4 ⟨by omega, by omega⟩ (by omega)) rfl rfl (Nat.le_of_ble_eq_true rfl) (by decide) (fun r35 s36 hr37 hp38 => ?_)
          obtain ⟨rfl, q39, q40⟩ := hp38
          refine zt_cVi (pc' := 34) hX dX12_cracksBy_31 rfl zm_yX12_slackBy zw_46_3 zc_164 (by decide) zs_46 (q := (RX12, TX12, 108)) rfl rfl (zc_X12_slackBy _ _ σ hI a1_ ⟨by omega, by omega⟩ r35 ⟨by omega, by omega⟩) rfl rfl (Nat.le_of_ble_eq_true rfl) (by decide) (fun r41 s42 hr43 hp44 => ?_)
          obtain ⟨rfl, q45, q46⟩ := hp44
          refine zt_ifge (pc' := 37) (tgt := 40) hX dX12_cracksBy_34 rfl (by decide) ⟨by omega, by omega⟩ (fun c47 => ?_) (fun c47 => ?_)
          · exact J_40_32 x1 (by omega) (by omega)
          · refine zt_iinc (pc' := 40) (lv' := [some (.ref (X.1.1 + 164)), some (.int (zI a1_)), some (.int (zI (x1 + 1))), some (.int (zI x4))]) hX dX12_cracksBy_37 rfl rfl hL (by decide) rfl ?_
            obtain ⟨r48, er48, lr48, ur48⟩ := zwr (x1 + 1)
            rw [← er48]
            exact J_40_32 r48 (by omega) (by omega)
  exact L_4_6 _ 0 0 (by omega) (by omega) (by omega) (by omega) (Nat.lt_succ_self _)

set_option maxRecDepth 100000 in
set_option maxHeartbeats 4000000 in
theorem zc_X12_isKept (l : Launch) (E : zEN) (σ : zSto) (hI : zInv σ) (a1_ : Int) (ha1_ : 0 ≤ a1_ ∧ a1_ ≤ 35) : zCt l E yX12_isKept cX12_isKept 3 none 0 zNC zNC 0 0 σ [.ref (E.1 + 164), .int (zI a1_)] (fun r σ' => zInv σ' ∧ zGM σ σ') := by
  refine zCt_of2 [some (.ref (E.1 + 164)), some (.int (zI a1_)), none] (by decide +kernel) (Nat.le_of_ble_eq_true rfl) rfl ?_
  intro X hE hX hR hL hN
  subst hE
  have hX : zok X cX12_isKept RX12 0 := hX
  have hF := zGM_rf σ
  refine zt_aload_n (pc' := 1) hX dX12_isKept_0 rfl rfl ?_
  have b1 := zv_46_59 hI zc_164
  refine zt_get (pc' := 4) (v := .int (zI (σ 164 59))) hX dX12_isKept_1 rfl zf_X12_448 (by decide) zc_164 zs_46 rfl ?_
  refine zt_ifeq (pc' := 7) (tgt := 8) hX dX12_isKept_4 rfl (by decide) ⟨by omega, by omega⟩ (fun c2 => ?_) (fun c2 => ?_)
  · refine zt_aload_n (pc' := 9) hX dX12_isKept_8 rfl rfl ?_
    refine zt_get (pc' := 12) (v := .ref (X.1.1 + 203)) hX dX12_isKept_9 rfl zf_X12_130 (by decide) zc_164 zs_46 (zrf_of (zv_46_52 hI zc_164)) ?_
    refine zt_bipush (pc' := 14) hX dX12_isKept_12 rfl (by decide) (by decide) ?_
    refine zt_iald (pc' := 15) hX dX12_isKept_14 rfl (by decide) zc_203 zs_85 (by decide) ⟨by omega, by omega⟩ ?_
    rw [show Int.toNat 67 = 67 from rfl]
    have b4 := zv_85 hI zc_203 67
    refine zt_bipush (pc' := 17) hX dX12_isKept_15 rfl (by decide) (by decide) ?_
    have J_64_7 : ∀ (s5 : zSto), zInv s5 → zGM σ s5 → zF X s5 64 [some (.ref (X.1.1 + 164)), some (.int (zI a1_)), none] [] := by
      intro s5 hI6 hF7
      refine zt_bipush (pc' := 66) hX dX12_isKept_64 rfl (by decide) (by decide) ?_
      refine zt_iconst (pc' := 67) hX dX12_isKept_66 rfl ?_
      refine zt_aload_n (pc' := 68) hX dX12_isKept_67 rfl rfl ?_
      refine zt_get (pc' := 71) (v := .ref (X.1.1 + 203)) hX dX12_isKept_68 rfl zf_X12_130 (by decide) zc_164 zs_46 (zrf_of (zv_46_52 hI6 zc_164)) ?_
      refine zt_bipush (pc' := 73) hX dX12_isKept_71 rfl (by decide) (by decide) ?_
      refine zt_iald (pc' := 74) hX dX12_isKept_73 rfl (by decide) zc_203 zs_85 (by decide) ⟨by omega, by omega⟩ ?_
      rw [show Int.toNat 67 = 67 from rfl]
      have b10 := zv_85 hI6 zc_203 67
      refine zt_imul (pc' := 75) hX dX12_isKept_74 rfl ?_
      refine zt_iadd (pc' := 76) hX dX12_isKept_75 rfl ?_
      refine zt_iconst (pc' := 77) hX dX12_isKept_76 rfl ?_
      refine zt_isub (pc' := 78) hX dX12_isKept_77 rfl ?_
      refine zt_istore_n (pc' := 79) (lv' := [some (.ref (X.1.1 + 164)), some (.int (zI a1_)), some (.int (zI ((68 + (3 * (s5 203 67))) - 3)))]) hX dX12_isKept_78 rfl hL (by decide) rfl ?_
      refine zt_aload_n (pc' := 80) hX dX12_isKept_79 rfl rfl ?_
      refine zt_get (pc' := 83) (v := .ref (X.1.1 + 203)) hX dX12_isKept_80 rfl zf_X12_130 (by decide) zc_164 zs_46 (zrf_of (zv_46_52 hI6 zc_164)) ?_
      refine zt_iload_n (pc' := 84) hX dX12_isKept_83 rfl rfl ?_
      refine zt_aload_n (pc' := 85) hX dX12_isKept_84 rfl rfl ?_
      refine zt_get (pc' := 88) (v := .ref (X.1.1 + 203)) hX dX12_isKept_85 rfl zf_X12_130 (by decide) zc_164 zs_46 (zrf_of (zv_46_52 hI6 zc_164)) ?_
      refine zt_iconst (pc' := 89) hX dX12_isKept_88 rfl ?_
      refine zt_iald (pc' := 90) hX dX12_isKept_89 rfl (by decide) zc_203 zs_85 (by decide) ⟨by omega, by omega⟩ ?_
      rw [show Int.toNat 0 = 0 from rfl]
      have b12 := zv_85 hI6 zc_203 0
      refine zt_iast (pc' := 91) hX dX12_isKept_90 rfl (by decide) zc_203 zs_85 (by decide) ⟨by omega, by omega⟩ ?_
      generalize hs14 : zset s5 203 (((68 + (3 * (s5 203 67))) - 3).toNat) (s5 203 0) = s13
      have hI15 : zInv s13 := hs14 ▸ zp_85 hI6 zc_203 (((68 + (3 * (s5 203 67))) - 3).toNat) (by omega)
      have hF16 : zGM σ s13 := hs14 ▸ zGM_set hF7 zc_203 (by decide) zk_85 (Or.inl (by decide)) (by decide)
      refine zt_aload_n (pc' := 92) hX dX12_isKept_91 rfl rfl ?_
      refine zt_get (pc' := 95) (v := .ref (X.1.1 + 203)) hX dX12_isKept_92 rfl zf_X12_130 (by decide) zc_164 zs_46 (zrf_of (zv_46_52 hI15 zc_164)) ?_
      refine zt_iload_n (pc' := 96) hX dX12_isKept_95 rfl rfl ?_
      refine zt_iconst (pc' := 97) hX dX12_isKept_96 rfl ?_
      refine zt_iadd (pc' := 98) hX dX12_isKept_97 rfl ?_
      refine zt_iload_n (pc' := 99) hX dX12_isKept_98 rfl rfl ?_
      refine zt_bipush (pc' := 101) hX dX12_isKept_99 rfl (by decide) (by decide) ?_
      refine zt_irem (pc' := 102) hX dX12_isKept_101 rfl ⟨by omega, by omega⟩ ⟨by omega, by omega⟩ (fun r17 er17 br17 nr17 => ?_)
      rw [ztm_p (by omega)] at er17
      refine zt_iast (pc' := 103) hX dX12_isKept_102 rfl (by decide) zc_203 zs_85 (by decide) ⟨by omega, by omega⟩ ?_
      generalize hs19 : zset s13 203 ((((68 + (3 * (s5 203 67))) - 3) + 1).toNat) r17 = s18
      have hI20 : zInv s18 := hs19 ▸ zp_85 hI15 zc_203 ((((68 + (3 * (s5 203 67))) - 3) + 1).toNat) (by omega)
      have hF21 : zGM σ s18 := hs19 ▸ zGM_set hF16 zc_203 (by decide) zk_85 (Or.inl (by decide)) (by decide)
      refine zt_aload_n (pc' := 104) hX dX12_isKept_103 rfl rfl ?_
      refine zt_get (pc' := 107) (v := .ref (X.1.1 + 203)) hX dX12_isKept_104 rfl zf_X12_130 (by decide) zc_164 zs_46 (zrf_of (zv_46_52 hI20 zc_164)) ?_
      refine zt_iload_n (pc' := 108) hX dX12_isKept_107 rfl rfl ?_
      refine zt_iconst (pc' := 109) hX dX12_isKept_108 rfl ?_
      refine zt_iadd (pc' := 110) hX dX12_isKept_109 rfl ?_
      refine zt_iload_n (pc' := 111) hX dX12_isKept_110 rfl rfl ?_
      refine zt_bipush (pc' := 113) hX dX12_isKept_111 rfl (by decide) (by decide) ?_
      refine zt_idiv (pc' := 114) hX dX12_isKept_113 rfl ⟨by omega, by omega⟩ ⟨by omega, by omega⟩ (fun r22 er22 br22 => ?_)
      rw [ztd_p (by omega)] at er22
      refine zt_iast (pc' := 115) hX dX12_isKept_114 rfl (by decide) zc_203 zs_85 (by decide) ⟨by omega, by omega⟩ ?_
      generalize hs24 : zset s18 203 ((((68 + (3 * (s5 203 67))) - 3) + 2).toNat) r22 = s23
      have hI25 : zInv s23 := hs24 ▸ zp_85 hI20 zc_203 ((((68 + (3 * (s5 203 67))) - 3) + 2).toNat) (by omega)
      have hF26 : zGM σ s23 := hs24 ▸ zGM_set hF21 zc_203 (by decide) zk_85 (Or.inl (by decide)) (by decide)
      exact zt_vret hX hR dX12_isKept_115 ⟨hI25, hF26⟩
    refine zt_icne (pc' := 20) (tgt := 53) hX dX12_isKept_17 rfl (by decide) ⟨by omega, by omega⟩ ⟨by omega, by omega⟩ (fun c27 => ?_) (fun c27 => ?_)
    · refine zt_aload_n (pc' := 54) hX dX12_isKept_53 rfl rfl ?_
      refine zt_get (pc' := 57) (v := .ref (X.1.1 + 203)) hX dX12_isKept_54 rfl zf_X12_130 (by decide) zc_164 zs_46 (zrf_of (zv_46_52 hI zc_164)) ?_
      refine zt_bipush (pc' := 59) hX dX12_isKept_57 rfl (by decide) (by decide) ?_
      refine zt_dup2 (pc' := 60) hX dX12_isKept_59 rfl rfl rfl ?_
      refine zt_iald (pc' := 61) hX dX12_isKept_60 rfl (by decide) zc_203 zs_85 (by decide) ⟨by omega, by omega⟩ ?_
      rw [show Int.toNat 67 = 67 from rfl]
      refine zt_iconst (pc' := 62) hX dX12_isKept_61 rfl ?_
      refine zt_iadd (pc' := 63) hX dX12_isKept_62 rfl ?_
      refine zt_iast (pc' := 64) hX dX12_isKept_63 rfl (by decide) zc_203 zs_85 (by decide) ⟨by omega, by omega⟩ ?_
      rw [show Int.toNat 67 = 67 from rfl]
      generalize hs30 : zset σ 203 67 ((σ 203 67) + 1) = s29
      have hI31 : zInv s29 := hs30 ▸ zp_85 hI zc_203 67 (by omega)
      have hF32 : zGM σ s29 := hs30 ▸ zGM_set hF zc_203 (by decide) zk_85 (Or.inl (by decide)) (by decide)
      exact J_64_7 s29 hI31 hF32
    · refine zt_bipush (pc' := 22) hX dX12_isKept_20 rfl (by decide) (by decide) ?_
      refine zt_istore_n (pc' := 23) (lv' := [some (.ref (X.1.1 + 164)), some (.int (zI a1_)), some (.int (zI 68))]) hX dX12_isKept_22 rfl hL (by decide) rfl ?_
      have L_23_38 : ∀ (N : Nat) (x33 : Int) (s36 : zSto), 68 ≤ x33 → x33 ≤ 185 → zInv s36 → zGM σ s36 → ((186 - x33).toNat) < N → zF X s36 23 [some (.ref (X.1.1 + 164)), some (.int (zI a1_)), some (.int (zI x33))] [] := by
        intro N
        induction N with
        | zero =>
          intro x33 s36 h34 h35 hI37 hF38 hm40
          exact absurd hm40 (Nat.not_lt_zero _)
        | succ N ih41 =>
          intro x33 s36 h34 h35 hI37 hF38 hm40
          refine zt_iload_n (pc' := 24) hX dX12_isKept_23 rfl rfl ?_
          refine zt_sipush (pc' := 27) hX dX12_isKept_24 rfl (by decide) (by decide) ?_
          refine zt_icge (pc' := 30) (tgt := 50) hX dX12_isKept_27 rfl (by decide) ⟨by omega, by omega⟩ ⟨by omega, by omega⟩ (fun c42 => ?_) (fun c42 => ?_)
          · refine zt_goto (tgt := 64) hX dX12_isKept_50 (by decide) ?_
            refine zt_mask [true, true, false] rfl ?_
            exact J_64_7 s36 hI37 hF38
          · refine zt_aload_n (pc' := 31) hX dX12_isKept_30 rfl rfl ?_
            refine zt_get (pc' := 34) (v := .ref (X.1.1 + 203)) hX dX12_isKept_31 rfl zf_X12_130 (by decide) zc_164 zs_46 (zrf_of (zv_46_52 hI37 zc_164)) ?_
            refine zt_iload_n (pc' := 35) hX dX12_isKept_34 rfl rfl ?_
            refine zt_aload_n (pc' := 36) hX dX12_isKept_35 rfl rfl ?_
            refine zt_get (pc' := 39) (v := .ref (X.1.1 + 203)) hX dX12_isKept_36 rfl zf_X12_130 (by decide) zc_164 zs_46 (zrf_of (zv_46_52 hI37 zc_164)) ?_
            refine zt_iload_n (pc' := 40) hX dX12_isKept_39 rfl rfl ?_
            refine zt_iconst (pc' := 41) hX dX12_isKept_40 rfl ?_
            refine zt_iadd (pc' := 42) hX dX12_isKept_41 rfl ?_
            refine zt_iald (pc' := 43) hX dX12_isKept_42 rfl (by decide) zc_203 zs_85 (by decide) ⟨by omega, by omega⟩ ?_
            have bv43 := zv_85 hI37 zc_203 ((x33 + 3).toNat)
            generalize hv43 : s36 203 ((x33 + 3).toNat) = v43 at bv43 ⊢
            refine zt_iast (pc' := 44) hX dX12_isKept_43 rfl (by decide) zc_203 zs_85 (by decide) ⟨by omega, by omega⟩ ?_
            generalize hs45 : zset s36 203 (x33.toNat) v43 = s44
            have hI46 : zInv s44 := hs45 ▸ zp_85 hI37 zc_203 (x33.toNat) (by omega)
            have hF47 : zGM σ s44 := hs45 ▸ zGM_set hF38 zc_203 (by decide) zk_85 (Or.inl (by decide)) (by decide)
            refine zt_iinc (pc' := 47) (lv' := [some (.ref (X.1.1 + 164)), some (.int (zI a1_)), some (.int (zI (x33 + 1)))]) hX dX12_isKept_44 rfl rfl hL (by decide) rfl ?_
            refine zt_goto (tgt := 23) hX dX12_isKept_47 (by decide) ?_
            exact ih41 (x33 + 1) s44 (by omega) (by omega) hI46 hF47 (by omega)
      exact L_23_38 _ 68 σ (by omega) (by omega) hI hF (Nat.lt_succ_self _)
  · exact zt_vret hX hR dX12_isKept_7 ⟨hI, hF⟩

set_option maxRecDepth 100000 in
set_option maxHeartbeats 4000000 in
theorem zc_X12_putsAside (l : Launch) (E : zEN) (σ : zSto) (hI : zInv σ)  : zCt l E yX12_putsAside cX12_putsAside 2 none 0 zNC zNC 0 0 σ [.ref (E.1 + 164)] (fun r σ' => zInv σ' ∧ zGM σ σ') := by
  refine zCt_of2 [some (.ref (E.1 + 164)), none] (by decide +kernel) (Nat.le_of_ble_eq_true rfl) rfl ?_
  intro X hE hX hR hL hN
  subst hE
  have hX : zok X cX12_putsAside RX12 0 := hX
  have hF := zGM_rf σ
  refine zt_aload_n (pc' := 1) hX dX12_putsAside_0 rfl rfl ?_
  refine zt_iconst (pc' := 2) hX dX12_putsAside_1 rfl ?_
  refine zt_put (pc' := 5) (x := 1) hX dX12_putsAside_2 rfl zf_X12_448 (by decide) zc_164 zs_46 (fun q hq => by cases hq; rfl) rfl (zfit_z (by omega) (by omega)).1 (zfit_z (by omega) (by omega)).2 ?_
  generalize hs2 : zset σ 164 59 1 = s1
  have hI3 : zInv s1 := hs2 ▸ zp_46_59 hI zc_164 ⟨by omega, by omega⟩
  have hF4 : zGM σ s1 := hs2 ▸ zGM_set hF zc_164 (by decide) zk_46 (Or.inr (by decide)) (by decide)
  refine zt_iconst (pc' := 6) hX dX12_putsAside_5 rfl ?_
  refine zt_istore_n (pc' := 7) (lv' := [some (.ref (X.1.1 + 164)), some (.int (zI 0))]) hX dX12_putsAside_6 rfl hL (by decide) rfl ?_
  have L_7_10 : ∀ (N : Nat) (x5 : Int) (s8 : zSto), 0 ≤ x5 → x5 ≤ 67 → zInv s8 → zGM σ s8 → ((68 - x5).toNat) < N → zF X s8 7 [some (.ref (X.1.1 + 164)), some (.int (zI x5))] [] := by
    intro N
    induction N with
    | zero =>
      intro x5 s8 h6 h7 hI9 hF10 hm12
      exact absurd hm12 (Nat.not_lt_zero _)
    | succ N ih13 =>
      intro x5 s8 h6 h7 hI9 hF10 hm12
      refine zt_iload_n (pc' := 8) hX dX12_putsAside_7 rfl rfl ?_
      refine zt_bipush (pc' := 10) hX dX12_putsAside_8 rfl (by decide) (by decide) ?_
      refine zt_icge (pc' := 13) (tgt := 31) hX dX12_putsAside_10 rfl (by decide) ⟨by omega, by omega⟩ ⟨by omega, by omega⟩ (fun c14 => ?_) (fun c14 => ?_)
      · refine zt_aload_n (pc' := 32) hX dX12_putsAside_31 rfl rfl ?_
        refine zt_iconst (pc' := 33) hX dX12_putsAside_32 rfl ?_
        refine zt_put (pc' := 36) (x := 0) hX dX12_putsAside_33 rfl zf_X12_457 (by decide) zc_164 zs_46 (fun q hq => by cases hq; rfl) rfl rfl rfl ?_
        generalize hs16 : zset s8 164 60 0 = s15
        have hI17 : zInv s15 := hs16 ▸ zp_46_60 hI9 zc_164 ⟨by omega, by omega⟩
        have hF18 : zGM σ s15 := hs16 ▸ zGM_set hF10 zc_164 (by decide) zk_46 (Or.inr (by decide)) (by decide)
        exact zt_vret hX hR dX12_putsAside_36 ⟨hI17, hF18⟩
      · refine zt_aload_n (pc' := 14) hX dX12_putsAside_13 rfl rfl ?_
        refine zt_get (pc' := 17) (v := .ref (X.1.1 + 204)) hX dX12_putsAside_14 rfl zf_X12_133 (by decide) zc_164 zs_46 (zrf_of (zv_46_53 hI9 zc_164)) ?_
        refine zt_iload_n (pc' := 18) hX dX12_putsAside_17 rfl rfl ?_
        refine zt_aload_n (pc' := 19) hX dX12_putsAside_18 rfl rfl ?_
        refine zt_get (pc' := 22) (v := .ref (X.1.1 + 203)) hX dX12_putsAside_19 rfl zf_X12_130 (by decide) zc_164 zs_46 (zrf_of (zv_46_52 hI9 zc_164)) ?_
        refine zt_iload_n (pc' := 23) hX dX12_putsAside_22 rfl rfl ?_
        refine zt_iald (pc' := 24) hX dX12_putsAside_23 rfl (by decide) zc_203 zs_85 (by decide) ⟨by omega, by omega⟩ ?_
        have bv19 := zv_85 hI9 zc_203 (x5.toNat)
        generalize hv19 : s8 203 (x5.toNat) = v19 at bv19 ⊢
        refine zt_iast (pc' := 25) hX dX12_putsAside_24 rfl (by decide) zc_204 zs_86 (by decide) ⟨by omega, by omega⟩ ?_
        generalize hs21 : zset s8 204 (x5.toNat) v19 = s20
        have hI22 : zInv s20 := hs21 ▸ zp_86 hI9 zc_204 (x5.toNat) (by omega)
        have hF23 : zGM σ s20 := hs21 ▸ zGM_set hF10 zc_204 (by decide) zk_86 (Or.inl (by decide)) (by decide)
        refine zt_iinc (pc' := 28) (lv' := [some (.ref (X.1.1 + 164)), some (.int (zI (x5 + 1)))]) hX dX12_putsAside_25 rfl rfl hL (by decide) rfl ?_
        refine zt_goto (tgt := 7) hX dX12_putsAside_28 (by decide) ?_
        exact ih13 (x5 + 1) s20 (by omega) (by omega) hI22 hF23 (by omega)
  exact L_7_10 _ 0 s1 (by omega) (by omega) hI3 hF4 (Nat.lt_succ_self _)

set_option maxRecDepth 100000 in
set_option maxHeartbeats 4000000 in
theorem zc_X12_triesAnew (l : Launch) (E : zEN) (σ : zSto) (hI : zInv σ)  : zCt l E yX12_triesAnew cX12_triesAnew 2 none 0 zNC zNC 0 0 σ [.ref (E.1 + 164)] (fun r σ' => zInv σ' ∧ zGM σ σ') := by
  refine zCt_of2 [some (.ref (E.1 + 164)), none] (by decide +kernel) (Nat.le_of_ble_eq_true rfl) rfl ?_
  intro X hE hX hR hL hN
  subst hE
  have hX : zok X cX12_triesAnew RX12 0 := hX
  have hF := zGM_rf σ
  refine zt_iconst (pc' := 1) hX dX12_triesAnew_0 rfl ?_
  refine zt_istore_n (pc' := 2) (lv' := [some (.ref (X.1.1 + 164)), some (.int (zI 0))]) hX dX12_triesAnew_1 rfl hL (by decide) rfl ?_
  have L_2_6 : ∀ (N : Nat) (x1 : Int) (s4 : zSto), 0 ≤ x1 → x1 ≤ 67 → zInv s4 → zGM σ s4 → ((68 - x1).toNat) < N → zF X s4 2 [some (.ref (X.1.1 + 164)), some (.int (zI x1))] [] := by
    intro N
    induction N with
    | zero =>
      intro x1 s4 h2 h3 hI5 hF6 hm8
      exact absurd hm8 (Nat.not_lt_zero _)
    | succ N ih9 =>
      intro x1 s4 h2 h3 hI5 hF6 hm8
      refine zt_iload_n (pc' := 3) hX dX12_triesAnew_2 rfl rfl ?_
      refine zt_bipush (pc' := 5) hX dX12_triesAnew_3 rfl (by decide) (by decide) ?_
      refine zt_icge (pc' := 8) (tgt := 26) hX dX12_triesAnew_5 rfl (by decide) ⟨by omega, by omega⟩ ⟨by omega, by omega⟩ (fun c10 => ?_) (fun c10 => ?_)
      · refine zt_aload_n (pc' := 27) hX dX12_triesAnew_26 rfl rfl ?_
        refine zt_iconst (pc' := 28) hX dX12_triesAnew_27 rfl ?_
        refine zt_put (pc' := 31) (x := 0) hX dX12_triesAnew_28 rfl zf_X12_457 (by decide) zc_164 zs_46 (fun q hq => by cases hq; rfl) rfl rfl rfl ?_
        generalize hs12 : zset s4 164 60 0 = s11
        have hI13 : zInv s11 := hs12 ▸ zp_46_60 hI5 zc_164 ⟨by omega, by omega⟩
        have hF14 : zGM σ s11 := hs12 ▸ zGM_set hF6 zc_164 (by decide) zk_46 (Or.inr (by decide)) (by decide)
        exact zt_vret hX hR dX12_triesAnew_31 ⟨hI13, hF14⟩
      · refine zt_aload_n (pc' := 9) hX dX12_triesAnew_8 rfl rfl ?_
        refine zt_get (pc' := 12) (v := .ref (X.1.1 + 203)) hX dX12_triesAnew_9 rfl zf_X12_130 (by decide) zc_164 zs_46 (zrf_of (zv_46_52 hI5 zc_164)) ?_
        refine zt_iload_n (pc' := 13) hX dX12_triesAnew_12 rfl rfl ?_
        refine zt_aload_n (pc' := 14) hX dX12_triesAnew_13 rfl rfl ?_
        refine zt_get (pc' := 17) (v := .ref (X.1.1 + 204)) hX dX12_triesAnew_14 rfl zf_X12_133 (by decide) zc_164 zs_46 (zrf_of (zv_46_53 hI5 zc_164)) ?_
        refine zt_iload_n (pc' := 18) hX dX12_triesAnew_17 rfl rfl ?_
        refine zt_iald (pc' := 19) hX dX12_triesAnew_18 rfl (by decide) zc_204 zs_86 (by decide) ⟨by omega, by omega⟩ ?_
        have bv15 := zv_86 hI5 zc_204 (x1.toNat)
        generalize hv15 : s4 204 (x1.toNat) = v15 at bv15 ⊢
        refine zt_iast (pc' := 20) hX dX12_triesAnew_19 rfl (by decide) zc_203 zs_85 (by decide) ⟨by omega, by omega⟩ ?_
        generalize hs17 : zset s4 203 (x1.toNat) v15 = s16
        have hI18 : zInv s16 := hs17 ▸ zp_85 hI5 zc_203 (x1.toNat) (by omega)
        have hF19 : zGM σ s16 := hs17 ▸ zGM_set hF6 zc_203 (by decide) zk_85 (Or.inl (by decide)) (by decide)
        refine zt_iinc (pc' := 23) (lv' := [some (.ref (X.1.1 + 164)), some (.int (zI (x1 + 1)))]) hX dX12_triesAnew_20 rfl rfl hL (by decide) rfl ?_
        refine zt_goto (tgt := 2) hX dX12_triesAnew_23 (by decide) ?_
        exact ih9 (x1 + 1) s16 (by omega) (by omega) hI18 hF19 (by omega)
  exact L_2_6 _ 0 σ (by omega) (by omega) hI hF (Nat.lt_succ_self _)

set_option maxRecDepth 100000 in
set_option maxHeartbeats 4000000 in
theorem zc_X12_takesBack (l : Launch) (E : zEN) (σ : zSto) (hI : zInv σ)  : zCt l E yX12_takesBack cX12_takesBack 2 none 0 zNC zNC 0 0 σ [.ref (E.1 + 164)] (fun r σ' => zInv σ' ∧ zGM σ σ') := by
  refine zCt_of2 [some (.ref (E.1 + 164)), none] (by decide +kernel) (Nat.le_of_ble_eq_true rfl) rfl ?_
  intro X hE hX hR hL hN
  subst hE
  have hX : zok X cX12_takesBack RX12 0 := hX
  have hF := zGM_rf σ
  refine zt_iconst (pc' := 1) hX dX12_takesBack_0 rfl ?_
  refine zt_istore_n (pc' := 2) (lv' := [some (.ref (X.1.1 + 164)), some (.int (zI 0))]) hX dX12_takesBack_1 rfl hL (by decide) rfl ?_
  have L_2_6 : ∀ (N : Nat) (x1 : Int) (s4 : zSto), 0 ≤ x1 → x1 ≤ 67 → zInv s4 → zGM σ s4 → ((68 - x1).toNat) < N → zF X s4 2 [some (.ref (X.1.1 + 164)), some (.int (zI x1))] [] := by
    intro N
    induction N with
    | zero =>
      intro x1 s4 h2 h3 hI5 hF6 hm8
      exact absurd hm8 (Nat.not_lt_zero _)
    | succ N ih9 =>
      intro x1 s4 h2 h3 hI5 hF6 hm8
      refine zt_iload_n (pc' := 3) hX dX12_takesBack_2 rfl rfl ?_
      refine zt_bipush (pc' := 5) hX dX12_takesBack_3 rfl (by decide) (by decide) ?_
      refine zt_icge (pc' := 8) (tgt := 26) hX dX12_takesBack_5 rfl (by decide) ⟨by omega, by omega⟩ ⟨by omega, by omega⟩ (fun c10 => ?_) (fun c10 => ?_)
      · refine zt_aload_n (pc' := 27) hX dX12_takesBack_26 rfl rfl ?_
        refine zt_iconst (pc' := 28) hX dX12_takesBack_27 rfl ?_
        refine zt_put (pc' := 31) (x := 0) hX dX12_takesBack_28 rfl zf_X12_448 (by decide) zc_164 zs_46 (fun q hq => by cases hq; rfl) rfl (zfit_z (by omega) (by omega)).1 (zfit_z (by omega) (by omega)).2 ?_
        generalize hs12 : zset s4 164 59 0 = s11
        have hI13 : zInv s11 := hs12 ▸ zp_46_59 hI5 zc_164 ⟨by omega, by omega⟩
        have hF14 : zGM σ s11 := hs12 ▸ zGM_set hF6 zc_164 (by decide) zk_46 (Or.inr (by decide)) (by decide)
        exact zt_vret hX hR dX12_takesBack_31 ⟨hI13, hF14⟩
      · refine zt_aload_n (pc' := 9) hX dX12_takesBack_8 rfl rfl ?_
        refine zt_get (pc' := 12) (v := .ref (X.1.1 + 203)) hX dX12_takesBack_9 rfl zf_X12_130 (by decide) zc_164 zs_46 (zrf_of (zv_46_52 hI5 zc_164)) ?_
        refine zt_iload_n (pc' := 13) hX dX12_takesBack_12 rfl rfl ?_
        refine zt_aload_n (pc' := 14) hX dX12_takesBack_13 rfl rfl ?_
        refine zt_get (pc' := 17) (v := .ref (X.1.1 + 204)) hX dX12_takesBack_14 rfl zf_X12_133 (by decide) zc_164 zs_46 (zrf_of (zv_46_53 hI5 zc_164)) ?_
        refine zt_iload_n (pc' := 18) hX dX12_takesBack_17 rfl rfl ?_
        refine zt_iald (pc' := 19) hX dX12_takesBack_18 rfl (by decide) zc_204 zs_86 (by decide) ⟨by omega, by omega⟩ ?_
        have bv15 := zv_86 hI5 zc_204 (x1.toNat)
        generalize hv15 : s4 204 (x1.toNat) = v15 at bv15 ⊢
        refine zt_iast (pc' := 20) hX dX12_takesBack_19 rfl (by decide) zc_203 zs_85 (by decide) ⟨by omega, by omega⟩ ?_
        generalize hs17 : zset s4 203 (x1.toNat) v15 = s16
        have hI18 : zInv s16 := hs17 ▸ zp_85 hI5 zc_203 (x1.toNat) (by omega)
        have hF19 : zGM σ s16 := hs17 ▸ zGM_set hF6 zc_203 (by decide) zk_85 (Or.inl (by decide)) (by decide)
        refine zt_iinc (pc' := 23) (lv' := [some (.ref (X.1.1 + 164)), some (.int (zI (x1 + 1)))]) hX dX12_takesBack_20 rfl rfl hL (by decide) rfl ?_
        refine zt_goto (tgt := 2) hX dX12_takesBack_23 (by decide) ?_
        exact ih9 (x1 + 1) s16 (by omega) (by omega) hI18 hF19 (by omega)
  exact L_2_6 _ 0 σ (by omega) (by omega) hI hF (Nat.lt_succ_self _)

set_option maxRecDepth 100000 in
set_option maxHeartbeats 4000000 in
theorem zc_X12_isAhead (l : Launch) (E : zEN) (σ : zSto) (hI : zInv σ) (a1_ : Int) (ha1_ : -2147483648 ≤ a1_ ∧ a1_ ≤ 2147483647) (a2_ : Int) (ha2_ : -2147483648 ≤ a2_ ∧ a2_ ≤ 2147483647) (a3_ : Int) (ha3_ : -2147483648 ≤ a3_ ∧ a3_ ≤ 2147483647) : zCt l E yX12_isAhead cX12_isAhead 4 (some .boolean) 1 zNC zNC 0 0 σ [.ref (E.1 + 164), .int (zI a1_), .int (zI a2_), .int (zI a3_)] (fun r σ' => σ = σ' ∧ 0 ≤ r ∧ r ≤ 1 ∧ (r = 1 → a2_ ≤ a1_ ∧ a1_ ≤ a3_ ∧ σ 164 50 = 1)) := by
  refine zCt_of2 [some (.ref (E.1 + 164)), some (.int (zI a1_)), some (.int (zI a2_)), some (.int (zI a3_))] (by decide +kernel) (Nat.le_of_ble_eq_true rfl) rfl ?_
  intro X hE hX hR hL hN
  subst hE
  have hX : zok X cX12_isAhead RX12 1 := hX
  refine zt_aload_n (pc' := 1) hX dX12_isAhead_0 rfl rfl ?_
  have b1 := zv_46_50 hI zc_164
  refine zt_get (pc' := 4) (v := .int (zI (σ 164 50))) hX dX12_isAhead_1 rfl zf_X12_375 (by decide) zc_164 zs_46 rfl ?_
  refine zt_ifeq (pc' := 7) (tgt := 37) hX dX12_isAhead_4 rfl (by decide) ⟨by omega, by omega⟩ (fun c2 => ?_) (fun c2 => ?_)
  · refine zt_iconst (pc' := 38) hX dX12_isAhead_37 rfl ?_
    exact zt_zret hX hR dX12_isAhead_38 ⟨by omega, by omega⟩ ⟨rfl, by omega, by omega, by omega⟩
  · refine zt_iload_n (pc' := 8) hX dX12_isAhead_7 rfl rfl ?_
    refine zt_i2l (pc' := 9) hX dX12_isAhead_8 rfl ⟨by omega, by omega⟩ ?_
    refine zt_iload_n (pc' := 10) hX dX12_isAhead_9 rfl rfl ?_
    refine zt_i2l (pc' := 11) hX dX12_isAhead_10 rfl ⟨by omega, by omega⟩ ?_
    refine zt_iload_n (pc' := 12) hX dX12_isAhead_11 rfl rfl ?_
    refine zt_i2l (pc' := 13) hX dX12_isAhead_12 rfl ⟨by omega, by omega⟩ ?_
    refine zt_cSz (pc' := 16) hX dX12_isAhead_13 rfl zm_yX12_isIn zw_27_7 (zc_X12_isIn _ _ σ  a1_ ⟨by omega, by omega⟩ a2_ ⟨by omega, by omega⟩ a3_ ⟨by omega, by omega⟩) rfl rfl (Nat.le_of_ble_eq_true rfl) (by decide) (fun r3 s4 hr5 hp6 => ?_)
    obtain ⟨rfl, q7, q8, z9⟩ := hp6
    refine zt_ifeq (pc' := 19) (tgt := 37) hX dX12_isAhead_16 rfl (by decide) ⟨by omega, by omega⟩ (fun c10 => ?_) (fun c10 => ?_)
    · refine zt_iconst (pc' := 38) hX dX12_isAhead_37 rfl ?_
      exact zt_zret hX hR dX12_isAhead_38 ⟨by omega, by omega⟩ ⟨rfl, by omega, by omega, by omega⟩
    · refine zt_aload_n (pc' := 20) hX dX12_isAhead_19 rfl rfl ?_
      refine zt_get (pc' := 23) (v := .ref (X.1.1 + 203)) hX dX12_isAhead_20 rfl zf_X12_130 (by decide) zc_164 zs_46 (zrf_of (zv_46_52 hI zc_164)) ?_
      refine zt_iconst (pc' := 24) hX dX12_isAhead_23 rfl ?_
      refine zt_iald (pc' := 25) hX dX12_isAhead_24 rfl (by decide) zc_203 zs_85 (by decide) ⟨by omega, by omega⟩ ?_
      rw [show Int.toNat 0 = 0 from rfl]
      have b12 := zv_85 hI zc_203 0
      refine zt_iload_n (pc' := 26) hX dX12_isAhead_25 rfl rfl ?_
      refine zt_iadd (pc' := 27) hX dX12_isAhead_26 rfl ?_
      refine zt_wrap (fun r13 zr13 lr13 ur13 => ?_)
      clear zr13
      refine zt_sipush (pc' := 30) hX dX12_isAhead_27 rfl (by decide) (by decide) ?_
      refine zt_icgt (pc' := 33) (tgt := 37) hX dX12_isAhead_30 rfl (by decide) ⟨by omega, by omega⟩ ⟨by omega, by omega⟩ (fun c14 => ?_) (fun c14 => ?_)
      · refine zt_iconst (pc' := 38) hX dX12_isAhead_37 rfl ?_
        exact zt_zret hX hR dX12_isAhead_38 ⟨by omega, by omega⟩ ⟨rfl, by omega, by omega, by omega⟩
      · refine zt_iconst (pc' := 34) hX dX12_isAhead_33 rfl ?_
        refine zt_goto (tgt := 38) hX dX12_isAhead_34 (by decide) ?_
        exact zt_zret hX hR dX12_isAhead_38 ⟨by omega, by omega⟩ ⟨rfl, by omega, by omega, by omega⟩

set_option maxRecDepth 100000 in
set_option maxHeartbeats 4000000 in
theorem zc_X12_awake (l : Launch) (E : zEN) (σ : zSto) (hI : zInv σ)  : zCt l E yX12_awake cX12_awake 3 (some .int) 1 zNC zNC 0 0 σ [.ref (E.1 + 164)] (fun r σ' => σ = σ' ∧ -2147483648 ≤ r ∧ r ≤ 2147483647) := by
  refine zCt_of2 [some (.ref (E.1 + 164)), none, none] (by decide +kernel) (Nat.le_of_ble_eq_true rfl) rfl ?_
  intro X hE hX hR hL hN
  subst hE
  have hX : zok X cX12_awake RX12 1 := hX
  refine zt_iconst (pc' := 1) hX dX12_awake_0 rfl ?_
  refine zt_istore_n (pc' := 2) (lv' := [some (.ref (X.1.1 + 164)), some (.int (zI 0)), none]) hX dX12_awake_1 rfl hL (by decide) rfl ?_
  refine zt_iconst (pc' := 3) hX dX12_awake_2 rfl ?_
  refine zt_istore_n (pc' := 4) (lv' := [some (.ref (X.1.1 + 164)), some (.int (zI 0)), some (.int (zI 0))]) hX dX12_awake_3 rfl hL (by decide) rfl ?_
  have L_4_6 : ∀ (N : Nat) (x1 : Int) (x4 : Int), -2147483648 ≤ x1 → x1 ≤ 2147483647 → 0 ≤ x4 → x4 ≤ 10 → ((11 - x4).toNat) < N → zF X σ 4 [some (.ref (X.1.1 + 164)), some (.int (zI x1)), some (.int (zI x4))] [] := by
    intro N
    induction N with
    | zero =>
      intro x1 x4 h2 h3 h5 h6 hm8
      exact absurd hm8 (Nat.not_lt_zero _)
    | succ N ih9 =>
      intro x1 x4 h2 h3 h5 h6 hm8
      refine zt_iload_n (pc' := 5) hX dX12_awake_4 rfl rfl ?_
      refine zt_aload_n (pc' := 6) hX dX12_awake_5 rfl rfl ?_
      refine zt_cVi (pc' := 9) hX dX12_awake_6 rfl zm_yX12_peopleMany zw_38_4 zc_164 (by decide) zs_46 (q := (RX12, TX12, 108)) rfl rfl (zc_X12_peopleMany _ _ σ hI ) rfl rfl (Nat.le_of_ble_eq_true rfl) (by decide) (fun r10 s11 hr12 hp13 => ?_)
      obtain ⟨rfl, q14, q15, z16⟩ := hp13
      refine zt_icge (pc' := 12) (tgt := 32) hX dX12_awake_9 rfl (by decide) ⟨by omega, by omega⟩ ⟨by omega, by omega⟩ (fun c17 => ?_) (fun c17 => ?_)
      · refine zt_iload_n (pc' := 33) hX dX12_awake_32 rfl rfl ?_
        exact zt_iret hX hR dX12_awake_33 ⟨by omega, by omega⟩ ⟨rfl, by omega, by omega⟩
      · refine zt_aload_n (pc' := 13) hX dX12_awake_12 rfl rfl ?_
        refine zt_iload_n (pc' := 14) hX dX12_awake_13 rfl rfl ?_
        refine zt_cVz (pc' := 17) hX dX12_awake_14 rfl zm_yX12_isAtRest zw_38_16 zc_164 (by decide) zs_46 (q := (RX12, TX12, 108)) rfl rfl (zc_X12_isAtRest _ _ σ hI x4 ⟨by omega, by omega⟩) rfl rfl (Nat.le_of_ble_eq_true rfl) (by decide) (fun r18 s19 hr20 hp21 => ?_)
        obtain ⟨rfl, q22, q23⟩ := hp21
        have J_26_26 : ∀ (x24 : Int), -2147483648 ≤ x24 → x24 ≤ 2147483647 → zF X σ 26 [some (.ref (X.1.1 + 164)), some (.int (zI x24)), some (.int (zI x4))] [] := by
          intro x24 h25 h26
          refine zt_iinc (pc' := 29) (lv' := [some (.ref (X.1.1 + 164)), some (.int (zI x24)), some (.int (zI (x4 + 1)))]) hX dX12_awake_26 rfl rfl hL (by decide) rfl ?_
          refine zt_goto (tgt := 4) hX dX12_awake_29 (by decide) ?_
          exact ih9 x24 (x4 + 1) (by omega) (by omega) (by omega) (by omega) (by omega)
        refine zt_ifne (pc' := 20) (tgt := 26) hX dX12_awake_17 rfl (by decide) ⟨by omega, by omega⟩ (fun c28 => ?_) (fun c28 => ?_)
        · exact J_26_26 x1 (by omega) (by omega)
        · refine zt_iload_n (pc' := 21) hX dX12_awake_20 rfl rfl ?_
          refine zt_iconst (pc' := 22) hX dX12_awake_21 rfl ?_
          refine zt_iload_n (pc' := 23) hX dX12_awake_22 rfl rfl ?_
          refine zt_ishl1 9 (pc' := 24) hX dX12_awake_23 rfl ⟨by omega, by omega⟩ (by decide) (fun r29 er29 lr29 ur29 => ?_)
          have ur29 : r29 ≤ 512 := by omega
          refine zt_ior (pc' := 25) hX dX12_awake_24 rfl (fun r30 zr30 lr30 ur30 => ?_)
          clear zr30
          refine zt_istore_n (pc' := 26) (lv' := [some (.ref (X.1.1 + 164)), some (.int (zI r30)), some (.int (zI x4))]) hX dX12_awake_25 rfl hL (by decide) rfl ?_
          exact J_26_26 r30 (by omega) (by omega)
  exact L_4_6 _ 0 0 (by omega) (by omega) (by omega) (by omega) (Nat.lt_succ_self _)

set_option maxRecDepth 100000 in
set_option maxHeartbeats 4000000 in
theorem zc_X12_letter (l : Launch) (E : zEN) (σ : zSto) (hI : zInv σ) (a1_ : Int) (ha1_ : -2147483648 ≤ a1_ ∧ a1_ ≤ 2147483647) (a2_ : Int) (ha2_ : -2147483648 ≤ a2_ ∧ a2_ ≤ 2147483647) : zCt l E yX12_letter cX12_letter 8 (some .int) 2 zNC zNC 0 0 σ [.ref (E.1 + 164), .int (zI a1_), .int (zI a2_)] (fun r σ' => σ = σ' ∧ -2147483648 ≤ r ∧ r ≤ 2147483647) := by
  refine zCt_of2 [some (.ref (E.1 + 164)), some (.int (zI a1_)), some (.int (zI a2_)), none, none, none, none, none] (by decide +kernel) (Nat.le_of_ble_eq_true rfl) rfl ?_
  intro X hE hX hR hL hN
  subst hE
  have hX : zok X cX12_letter RX12 2 := hX
  refine zt_aload_n (pc' := 1) hX dX12_letter_0 rfl rfl ?_
  refine zt_iload_n (pc' := 2) hX dX12_letter_1 rfl rfl ?_
  refine zt_cVz (pc' := 5) hX dX12_letter_2 rfl zm_yX12_isPerson zw_41_16 zc_164 (by decide) zs_46 (q := (RX12, TX12, 108)) rfl rfl (zc_X12_isPerson _ _ σ hI a1_ ⟨by omega, by omega⟩) rfl rfl (Nat.le_of_ble_eq_true rfl) (by decide) (fun r1 s2 hr3 hp4 => ?_)
  obtain ⟨rfl, q5, q6, z7⟩ := hp4
  refine zt_ifeq (pc' := 8) (tgt := 20) hX dX12_letter_5 rfl (by decide) ⟨by omega, by omega⟩ (fun c8 => ?_) (fun c8 => ?_)
  · refine zt_iconst (pc' := 21) hX dX12_letter_20 rfl ?_
    exact zt_iret hX hR dX12_letter_21 ⟨by omega, by omega⟩ ⟨rfl, by omega, by omega⟩
  · refine zt_iload_n (pc' := 9) hX dX12_letter_8 rfl rfl ?_
    refine zt_i2l (pc' := 10) hX dX12_letter_9 rfl ⟨by omega, by omega⟩ ?_
    refine zt_lconst (pc' := 11) (y := 0) hX dX12_letter_10 rfl (by decide +kernel) ?_
    refine zt_ldc2 (pc' := 14) (x := 5) hX dX12_letter_11 rfl zw_30_19 (by decide +kernel) ?_
    refine zt_cSz (pc' := 17) hX dX12_letter_14 rfl zm_yX12_isIn zw_27_7 (zc_X12_isIn _ _ σ  a2_ ⟨by omega, by omega⟩ 0 ⟨by omega, by omega⟩ 5 ⟨by omega, by omega⟩) rfl rfl (Nat.le_of_ble_eq_true rfl) (by decide) (fun r9 s10 hr11 hp12 => ?_)
    obtain ⟨rfl, q13, q14, z15⟩ := hp12
    refine zt_ifne (pc' := 20) (tgt := 22) hX dX12_letter_17 rfl (by decide) ⟨by omega, by omega⟩ (fun c16 => ?_) (fun c16 => ?_)
    · refine zt_aload_n (pc' := 23) hX dX12_letter_22 rfl rfl ?_
      refine zt_get (pc' := 26) (v := .ref (X.1.1 + 196)) hX dX12_letter_23 rfl zf_X12_108 (by decide) zc_164 zs_46 (zrf_of (zv_46_41 hI zc_164)) ?_
      refine zt_bipush (pc' := 28) hX dX12_letter_26 rfl (by decide) (by decide) ?_
      refine zt_iload_n (pc' := 29) hX dX12_letter_28 rfl rfl ?_
      refine zt_iadd (pc' := 30) hX dX12_letter_29 rfl ?_
      refine zt_lald (pc' := 31) hX dX12_letter_30 rfl (by decide) zc_196 zs_78 (by decide) ⟨by omega, by omega⟩ ?_
      generalize hv17 : σ 196 ((10 + a1_).toNat) = v17
      have bv17 : -9223372036854775808 ≤ v17 ∧ v17 ≤ 9223372036854775807 := hv17 ▸ zv_78 hI zc_196 _
      refine zt_lstore_n (pc' := 32) (lv' := [some (.ref (X.1.1 + 164)), some (.int (zI a1_)), some (.int (zI a2_)), some (.long (zJ v17)), none, none, none, none]) hX dX12_letter_31 rfl hL (by decide) rfl ?_
      refine zt_iconst (pc' := 33) hX dX12_letter_32 rfl ?_
      refine zt_istore (pc' := 35) (lv' := [some (.ref (X.1.1 + 164)), some (.int (zI a1_)), some (.int (zI a2_)), some (.long (zJ v17)), none, some (.int (zI 0)), none, none]) hX dX12_letter_33 rfl hL (by decide) rfl ?_
      refine zt_lload_n (pc' := 36) hX dX12_letter_35 rfl rfl ?_
      refine zt_lstore (pc' := 38) (lv' := [some (.ref (X.1.1 + 164)), some (.int (zI a1_)), some (.int (zI a2_)), some (.long (zJ v17)), none, some (.int (zI 0)), some (.long (zJ v17)), none]) hX dX12_letter_36 rfl hL (by decide) rfl ?_
      have L_38_23 : ∀ (N : Nat) (x18 : Int) (x21 : Int), -2147483648 ≤ x18 → x18 ≤ 2147483647 → -9223372036854775808 ≤ x21 → x21 ≤ 9223372036854775807 → (x21.toNat) < N → zF X σ 38 [none, none, some (.int (zI a2_)), some (.long (zJ v17)), none, some (.int (zI x18)), some (.long (zJ x21)), none] [] := by
        intro N
        induction N with
        | zero =>
          intro x18 x21 h19 h20 h22 h23 hm25
          exact absurd hm25 (Nat.not_lt_zero _)
        | succ N ih26 =>
          intro x18 x21 h19 h20 h22 h23 hm25
          refine zt_lload (pc' := 40) hX dX12_letter_38 rfl rfl ?_
          refine zt_lconst (pc' := 41) (y := 0) hX dX12_letter_40 rfl (by decide +kernel) ?_
          refine zt_lcmp (pc' := 42) hX dX12_letter_41 rfl ⟨by omega, by omega⟩ ⟨by omega, by omega⟩ (fun r27 er27 => ?_)
          refine zt_ifle (pc' := 45) (tgt := 59) hX dX12_letter_42 rfl (by decide) ⟨by omega, by omega⟩ (fun c28 => ?_) (fun c28 => ?_)
          · refine zt_iload_n (pc' := 60) hX dX12_letter_59 rfl rfl ?_
            refine zt_iload (pc' := 62) hX dX12_letter_60 rfl rfl ?_
            refine zt_iclt (pc' := 65) (tgt := 67) hX dX12_letter_62 rfl (by decide) ⟨by omega, by omega⟩ ⟨by omega, by omega⟩ (fun c29 => ?_) (fun c29 => ?_)
            · refine zt_iload (pc' := 69) hX dX12_letter_67 rfl rfl ?_
              refine zt_iconst (pc' := 70) hX dX12_letter_69 rfl ?_
              refine zt_isub (pc' := 71) hX dX12_letter_70 rfl ?_
              refine zt_istore (pc' := 73) (lv' := [none, none, some (.int (zI a2_)), some (.long (zJ v17)), none, some (.int (zI x18)), some (.int (zI (x18 - 1))), none]) hX dX12_letter_71 rfl hL (by decide) rfl ?_
              have L_73_35 : ∀ (N : Nat) (x30 : Int) (x33 : Int), -9223372036854775808 ≤ x30 → x30 ≤ 9223372036854775807 → 0 ≤ x33 → x33 ≤ 2147483646 → ((x33 - (-1)).toNat) < N → zF X σ 73 [none, none, some (.int (zI a2_)), some (.long (zJ x30)), none, none, some (.int (zI x33)), none] [] := by
                intro N
                induction N with
                | zero =>
                  intro x30 x33 h31 h32 h34 h35 hm37
                  exact absurd hm37 (Nat.not_lt_zero _)
                | succ N ih38 =>
                  intro x30 x33 h31 h32 h34 h35 hm37
                  refine zt_iload (pc' := 75) hX dX12_letter_73 rfl rfl ?_
                  refine zt_iload_n (pc' := 76) hX dX12_letter_75 rfl rfl ?_
                  refine zt_icle (pc' := 79) (tgt := 91) hX dX12_letter_76 rfl (by decide) ⟨by omega, by omega⟩ ⟨by omega, by omega⟩ (fun c39 => ?_) (fun c39 => ?_)
                  · refine zt_lload_n (pc' := 92) hX dX12_letter_91 rfl rfl ?_
                    refine zt_ldc2 (pc' := 95) (x := 27) hX dX12_letter_92 rfl zw_28_15 (by decide +kernel) ?_
                    refine zt_lremp (pc' := 96) hX dX12_letter_95 rfl ⟨by omega, by omega⟩ ⟨by omega, by omega⟩ (fun r40 er40 br40 nr40 => ?_)
                    clear er40
                    refine zt_l2i (pc' := 97) hX dX12_letter_96 rfl ?_
                    exact zt_iret hX hR dX12_letter_97 ⟨by omega, by omega⟩ ⟨rfl, by omega, by omega⟩
                  · refine zt_lload_n (pc' := 80) hX dX12_letter_79 rfl rfl ?_
                    refine zt_ldc2 (pc' := 83) (x := 27) hX dX12_letter_80 rfl zw_28_15 (by decide +kernel) ?_
                    refine zt_ldivp (pc' := 84) hX dX12_letter_83 rfl ⟨by omega, by omega⟩ ⟨by omega, by omega⟩ (fun r41 er41 br41 => ?_)
                    have fr41 : 0 ≤ x30 → r41 = x30 / 27 := fun h => by rw [er41, ztd_p h]
                    refine zt_lstore_n (pc' := 85) (lv' := [none, none, some (.int (zI a2_)), some (.long (zJ r41)), none, none, some (.int (zI x33)), none]) hX dX12_letter_84 rfl hL (by decide) rfl ?_
                    refine zt_iinc (pc' := 88) (lv' := [none, none, some (.int (zI a2_)), some (.long (zJ r41)), none, none, some (.int (zI (x33 + (-1)))), none]) hX dX12_letter_85 rfl rfl hL (by decide) rfl ?_
                    refine zt_goto (tgt := 73) hX dX12_letter_88 (by decide) ?_
                    exact ih38 r41 (x33 + (-1)) (by omega) (by omega) (by omega) (by omega) (by omega)
              refine zt_mask [false, false, true, true, false, false, true, false] rfl ?_
              exact L_73_35 _ v17 (x18 - 1) (by omega) (by omega) (by omega) (by omega) (Nat.lt_succ_self _)
            · refine zt_iconst (pc' := 66) hX dX12_letter_65 rfl ?_
              exact zt_iret hX hR dX12_letter_66 ⟨by omega, by omega⟩ ⟨rfl, by omega, by omega⟩
          · refine zt_iinc (pc' := 48) (lv' := [none, none, some (.int (zI a2_)), some (.long (zJ v17)), none, some (.int (zI (x18 + 1))), some (.long (zJ x21)), none]) hX dX12_letter_45 rfl rfl hL (by decide) rfl ?_
            obtain ⟨r42, er42, lr42, ur42⟩ := zwr (x18 + 1)
            rw [← er42]
            refine zt_lload (pc' := 50) hX dX12_letter_48 rfl rfl ?_
            refine zt_ldc2 (pc' := 53) (x := 27) hX dX12_letter_50 rfl zw_28_15 (by decide +kernel) ?_
            refine zt_ldivp (pc' := 54) hX dX12_letter_53 rfl ⟨by omega, by omega⟩ ⟨by omega, by omega⟩ (fun r43 er43 br43 => ?_)
            have fr43 : 0 ≤ x21 → r43 = x21 / 27 := fun h => by rw [er43, ztd_p h]
            refine zt_lstore (pc' := 56) (lv' := [none, none, some (.int (zI a2_)), some (.long (zJ v17)), none, some (.int (zI r42)), some (.long (zJ r43)), none]) hX dX12_letter_54 rfl hL (by decide) rfl ?_
            refine zt_goto (tgt := 38) hX dX12_letter_56 (by decide) ?_
            exact ih26 r42 r43 (by omega) (by omega) (by omega) (by omega) (by omega)
      refine zt_mask [false, false, true, true, false, true, true, false] rfl ?_
      exact L_38_23 _ 0 v17 (by omega) (by omega) (by omega) (by omega) (Nat.lt_succ_self _)
    · refine zt_iconst (pc' := 21) hX dX12_letter_20 rfl ?_
      exact zt_iret hX hR dX12_letter_21 ⟨by omega, by omega⟩ ⟨rfl, by omega, by omega⟩

set_option maxRecDepth 100000 in
set_option maxHeartbeats 4000000 in
theorem zc_X12_lifts (l : Launch) (E : zEN) (σ : zSto) (hI : zInv σ) (a1_ : Int) (ha1_ : -2147483648 ≤ a1_ ∧ a1_ ≤ 2147483647) (a2_ : Int) (ha2_ : -2147483648 ≤ a2_ ∧ a2_ ≤ 2147483647) (a3_ : Int) (ha3_ : -2147483648 ≤ a3_ ∧ a3_ ≤ 2147483647) : zCt l E yX12_lifts cX12_lifts 5 (some .int) 2 zNC zNC 0 0 σ [.ref (E.1 + 164), .int (zI a1_), .int (zI a2_), .int (zI a3_)] (fun r σ' => σ = σ' ∧ -2147483648 ≤ r ∧ r ≤ 2147483647) := by
  refine zCt_of2 [some (.ref (E.1 + 164)), some (.int (zI a1_)), some (.int (zI a2_)), some (.int (zI a3_)), none] (by decide +kernel) (Nat.le_of_ble_eq_true rfl) rfl ?_
  intro X hE hX hR hL hN
  subst hE
  have hX : zok X cX12_lifts RX12 2 := hX
  refine zt_aload_n (pc' := 1) hX dX12_lifts_0 rfl rfl ?_
  refine zt_iload_n (pc' := 2) hX dX12_lifts_1 rfl rfl ?_
  refine zt_iload_n (pc' := 3) hX dX12_lifts_2 rfl rfl ?_
  refine zt_cVi (pc' := 6) hX dX12_lifts_3 rfl zm_yX12_cellAt zw_44_11 zc_164 (by decide) zs_46 (q := (RX12, TX12, 108)) rfl rfl (zc_X12_cellAt _ _ σ hI a2_ ⟨by omega, by omega⟩ a3_ ⟨by omega, by omega⟩) rfl rfl (Nat.le_of_ble_eq_true rfl) (by decide) (fun r1 s2 hr3 hp4 => ?_)
  obtain ⟨rfl, q5, q6⟩ := hp4
  refine zt_istore (pc' := 8) (lv' := [some (.ref (X.1.1 + 164)), some (.int (zI a1_)), some (.int (zI a2_)), some (.int (zI a3_)), some (.int (zI r1))]) hX dX12_lifts_6 rfl hL (by decide) rfl ?_
  refine zt_aload_n (pc' := 9) hX dX12_lifts_8 rfl rfl ?_
  refine zt_iload_n (pc' := 10) hX dX12_lifts_9 rfl rfl ?_
  refine zt_cVz (pc' := 13) hX dX12_lifts_10 rfl zm_yX12_isPerson zw_41_16 zc_164 (by decide) zs_46 (q := (RX12, TX12, 108)) rfl rfl (zc_X12_isPerson _ _ σ hI a1_ ⟨by omega, by omega⟩) rfl rfl (Nat.le_of_ble_eq_true rfl) (by decide) (fun r7 s8 hr9 hp10 => ?_)
  obtain ⟨rfl, q11, q12, z13⟩ := hp10
  refine zt_ifeq (pc' := 16) (tgt := 37) hX dX12_lifts_13 rfl (by decide) ⟨by omega, by omega⟩ (fun c14 => ?_) (fun c14 => ?_)
  · refine zt_iconst (pc' := 38) hX dX12_lifts_37 rfl ?_
    exact zt_iret hX hR dX12_lifts_38 ⟨by omega, by omega⟩ ⟨rfl, by omega, by omega⟩
  · refine zt_iload (pc' := 18) hX dX12_lifts_16 rfl rfl ?_
    refine zt_iconst (pc' := 19) hX dX12_lifts_18 rfl ?_
    refine zt_iceq (pc' := 22) (tgt := 37) hX dX12_lifts_19 rfl (by decide) ⟨by omega, by omega⟩ ⟨by omega, by omega⟩ (fun c15 => ?_) (fun c15 => ?_)
    · refine zt_iconst (pc' := 38) hX dX12_lifts_37 rfl ?_
      exact zt_iret hX hR dX12_lifts_38 ⟨by omega, by omega⟩ ⟨rfl, by omega, by omega⟩
    · refine zt_aload_n (pc' := 23) hX dX12_lifts_22 rfl rfl ?_
      refine zt_iload_n (pc' := 24) hX dX12_lifts_23 rfl rfl ?_
      refine zt_aload_n (pc' := 25) hX dX12_lifts_24 rfl rfl ?_
      refine zt_iload_n (pc' := 26) hX dX12_lifts_25 rfl rfl ?_
      refine zt_cVi (pc' := 29) hX dX12_lifts_26 rfl zm_yX12_placeOf zw_40_0 zc_164 (by decide) zs_46 (q := (RX12, TX12, 108)) rfl rfl (zc_X12_placeOf _ _ σ hI a1_ ⟨by omega, by omega⟩) rfl rfl (Nat.le_of_ble_eq_true rfl) (by decide) (fun r16 s17 hr18 hp19 => ?_)
      obtain ⟨rfl, q20, q21⟩ := hp19
      refine zt_iload (pc' := 31) hX dX12_lifts_29 rfl rfl ?_
      refine zt_cVi (pc' := 34) hX dX12_lifts_31 rfl zm_yX12_liftOf zw_46_11 zc_164 (by decide) zs_46 (q := (RX12, TX12, 108)) rfl rfl (zc_X12_liftOf _ _ σ hI a1_ ⟨by omega, by omega⟩ r16 ⟨by omega, by omega⟩ r1 ⟨by omega, by omega⟩) rfl rfl (Nat.le_of_ble_eq_true rfl) (by decide) (fun r22 s23 hr24 hp25 => ?_)
      obtain ⟨rfl, q26, q27, z28⟩ := hp25
      refine zt_goto (tgt := 38) hX dX12_lifts_34 (by decide) ?_
      exact zt_iret hX hR dX12_lifts_38 ⟨by omega, by omega⟩ ⟨rfl, by omega, by omega⟩

set_option maxRecDepth 100000 in
set_option maxHeartbeats 4000000 in
theorem zc_X12_kept (l : Launch) (E : zEN) (σ : zSto) (hI : zInv σ) (a1_ : Int) (ha1_ : -2147483648 ≤ a1_ ∧ a1_ ≤ 2147483647) (a2_ : Int) (ha2_ : -2147483648 ≤ a2_ ∧ a2_ ≤ 2147483647) : zCt l E yX12_kept cX12_kept 3 (some .int) 1 zNC zNC 0 0 σ [.ref (E.1 + 164), .int (zI a1_), .int (zI a2_)] (fun r σ' => σ = σ' ∧ -2147483648 ≤ r ∧ r ≤ 2147483647) := by
  refine zCt_of2 [some (.ref (E.1 + 164)), some (.int (zI a1_)), some (.int (zI a2_))] (by decide +kernel) (Nat.le_of_ble_eq_true rfl) rfl ?_
  intro X hE hX hR hL hN
  subst hE
  have hX : zok X cX12_kept RX12 1 := hX
  refine zt_iload_n (pc' := 1) hX dX12_kept_0 rfl rfl ?_
  refine zt_i2l (pc' := 2) hX dX12_kept_1 rfl ⟨by omega, by omega⟩ ?_
  refine zt_lconst (pc' := 3) (y := 0) hX dX12_kept_2 rfl (by decide +kernel) ?_
  refine zt_aload_n (pc' := 4) hX dX12_kept_3 rfl rfl ?_
  refine zt_get (pc' := 7) (v := .ref (X.1.1 + 203)) hX dX12_kept_4 rfl zf_X12_130 (by decide) zc_164 zs_46 (zrf_of (zv_46_52 hI zc_164)) ?_
  refine zt_bipush (pc' := 9) hX dX12_kept_7 rfl (by decide) (by decide) ?_
  refine zt_iald (pc' := 10) hX dX12_kept_9 rfl (by decide) zc_203 zs_85 (by decide) ⟨by omega, by omega⟩ ?_
  rw [show Int.toNat 67 = 67 from rfl]
  have b2 := zv_85 hI zc_203 67
  refine zt_iconst (pc' := 11) hX dX12_kept_10 rfl ?_
  refine zt_isub (pc' := 12) hX dX12_kept_11 rfl ?_
  refine zt_i2l (pc' := 13) hX dX12_kept_12 rfl ⟨by omega, by omega⟩ ?_
  refine zt_cSz (pc' := 16) hX dX12_kept_13 rfl zm_yX12_isIn zw_27_7 (zc_X12_isIn _ _ σ  a1_ ⟨by omega, by omega⟩ 0 ⟨by omega, by omega⟩ ((σ 203 67) - 1) ⟨by omega, by omega⟩) rfl rfl (Nat.le_of_ble_eq_true rfl) (by decide) (fun r3 s4 hr5 hp6 => ?_)
  obtain ⟨rfl, q7, q8, z9⟩ := hp6
  refine zt_ifeq (pc' := 19) (tgt := 47) hX dX12_kept_16 rfl (by decide) ⟨by omega, by omega⟩ (fun c10 => ?_) (fun c10 => ?_)
  · refine zt_iconst (pc' := 48) hX dX12_kept_47 rfl ?_
    exact zt_iret hX hR dX12_kept_48 ⟨by omega, by omega⟩ ⟨rfl, by omega, by omega⟩
  · refine zt_iload_n (pc' := 20) hX dX12_kept_19 rfl rfl ?_
    refine zt_i2l (pc' := 21) hX dX12_kept_20 rfl ⟨by omega, by omega⟩ ?_
    refine zt_lconst (pc' := 22) (y := 0) hX dX12_kept_21 rfl (by decide +kernel) ?_
    refine zt_ldc2 (pc' := 25) (x := 2) hX dX12_kept_22 rfl zw_47_21 (by decide +kernel) ?_
    refine zt_cSz (pc' := 28) hX dX12_kept_25 rfl zm_yX12_isIn zw_27_7 (zc_X12_isIn _ _ σ  a2_ ⟨by omega, by omega⟩ 0 ⟨by omega, by omega⟩ 2 ⟨by omega, by omega⟩) rfl rfl (Nat.le_of_ble_eq_true rfl) (by decide) (fun r11 s12 hr13 hp14 => ?_)
    obtain ⟨rfl, q15, q16, z17⟩ := hp14
    refine zt_ifeq (pc' := 31) (tgt := 47) hX dX12_kept_28 rfl (by decide) ⟨by omega, by omega⟩ (fun c18 => ?_) (fun c18 => ?_)
    · refine zt_iconst (pc' := 48) hX dX12_kept_47 rfl ?_
      exact zt_iret hX hR dX12_kept_48 ⟨by omega, by omega⟩ ⟨rfl, by omega, by omega⟩
    · refine zt_aload_n (pc' := 32) hX dX12_kept_31 rfl rfl ?_
      refine zt_get (pc' := 35) (v := .ref (X.1.1 + 203)) hX dX12_kept_32 rfl zf_X12_130 (by decide) zc_164 zs_46 (zrf_of (zv_46_52 hI zc_164)) ?_
      refine zt_bipush (pc' := 37) hX dX12_kept_35 rfl (by decide) (by decide) ?_
      refine zt_iconst (pc' := 38) hX dX12_kept_37 rfl ?_
      refine zt_iload_n (pc' := 39) hX dX12_kept_38 rfl rfl ?_
      refine zt_imul (pc' := 40) hX dX12_kept_39 rfl ?_
      refine zt_iadd (pc' := 41) hX dX12_kept_40 rfl ?_
      refine zt_iload_n (pc' := 42) hX dX12_kept_41 rfl rfl ?_
      refine zt_iadd (pc' := 43) hX dX12_kept_42 rfl ?_
      refine zt_iald (pc' := 44) hX dX12_kept_43 rfl (by decide) zc_203 zs_85 (by decide) ⟨by omega, by omega⟩ ?_
      have bv19 := zv_85 hI zc_203 (((68 + (3 * a1_)) + a2_).toNat)
      generalize hv19 : σ 203 (((68 + (3 * a1_)) + a2_).toNat) = v19 at bv19 ⊢
      refine zt_goto (tgt := 48) hX dX12_kept_44 (by decide) ?_
      exact zt_iret hX hR dX12_kept_48 ⟨by omega, by omega⟩ ⟨rfl, by omega, by omega⟩

set_option maxRecDepth 100000 in
set_option maxHeartbeats 4000000 in
theorem zc_X12_tiredAll (l : Launch) (E : zEN) (σ : zSto) (hI : zInv σ)  : zCt l E yX12_tiredAll cX12_tiredAll 3 (some .int) 1 zNC zNC 0 0 σ [.ref (E.1 + 164)] (fun r σ' => σ = σ' ∧ -2147483648 ≤ r ∧ r ≤ 2147483647) := by
  refine zCt_of2 [some (.ref (E.1 + 164)), none, none] (by decide +kernel) (Nat.le_of_ble_eq_true rfl) rfl ?_
  intro X hE hX hR hL hN
  subst hE
  have hX : zok X cX12_tiredAll RX12 1 := hX
  refine zt_iconst (pc' := 1) hX dX12_tiredAll_0 rfl ?_
  refine zt_istore_n (pc' := 2) (lv' := [some (.ref (X.1.1 + 164)), some (.int (zI 0)), none]) hX dX12_tiredAll_1 rfl hL (by decide) rfl ?_
  refine zt_iconst (pc' := 3) hX dX12_tiredAll_2 rfl ?_
  refine zt_istore_n (pc' := 4) (lv' := [some (.ref (X.1.1 + 164)), some (.int (zI 0)), some (.int (zI 0))]) hX dX12_tiredAll_3 rfl hL (by decide) rfl ?_
  have L_4_6 : ∀ (N : Nat) (x1 : Int) (x4 : Int), -2147483648 ≤ x1 → x1 ≤ 2147483647 → 0 ≤ x4 → x4 ≤ 10 → ((11 - x4).toNat) < N → zF X σ 4 [some (.ref (X.1.1 + 164)), some (.int (zI x1)), some (.int (zI x4))] [] := by
    intro N
    induction N with
    | zero =>
      intro x1 x4 h2 h3 h5 h6 hm8
      exact absurd hm8 (Nat.not_lt_zero _)
    | succ N ih9 =>
      intro x1 x4 h2 h3 h5 h6 hm8
      refine zt_iload_n (pc' := 5) hX dX12_tiredAll_4 rfl rfl ?_
      refine zt_aload_n (pc' := 6) hX dX12_tiredAll_5 rfl rfl ?_
      refine zt_cVi (pc' := 9) hX dX12_tiredAll_6 rfl zm_yX12_peopleMany zw_38_4 zc_164 (by decide) zs_46 (q := (RX12, TX12, 108)) rfl rfl (zc_X12_peopleMany _ _ σ hI ) rfl rfl (Nat.le_of_ble_eq_true rfl) (by decide) (fun r10 s11 hr12 hp13 => ?_)
      obtain ⟨rfl, q14, q15, z16⟩ := hp13
      refine zt_icge (pc' := 12) (tgt := 26) hX dX12_tiredAll_9 rfl (by decide) ⟨by omega, by omega⟩ ⟨by omega, by omega⟩ (fun c17 => ?_) (fun c17 => ?_)
      · refine zt_iload_n (pc' := 27) hX dX12_tiredAll_26 rfl rfl ?_
        exact zt_iret hX hR dX12_tiredAll_27 ⟨by omega, by omega⟩ ⟨rfl, by omega, by omega⟩
      · refine zt_iload_n (pc' := 13) hX dX12_tiredAll_12 rfl rfl ?_
        refine zt_aload_n (pc' := 14) hX dX12_tiredAll_13 rfl rfl ?_
        refine zt_iload_n (pc' := 15) hX dX12_tiredAll_14 rfl rfl ?_
        refine zt_cVi (pc' := 18) hX dX12_tiredAll_15 rfl zm_yX12_tiredOf zw_39_16 zc_164 (by decide) zs_46 (q := (RX12, TX12, 108)) rfl rfl (zc_X12_tiredOf _ _ σ hI x4 ⟨by omega, by omega⟩) rfl rfl (Nat.le_of_ble_eq_true rfl) (by decide) (fun r18 s19 hr20 hp21 => ?_)
        obtain ⟨rfl, q22, q23⟩ := hp21
        refine zt_iadd (pc' := 19) hX dX12_tiredAll_18 rfl ?_
        refine zt_wrap (fun r24 zr24 lr24 ur24 => ?_)
        clear zr24
        refine zt_istore_n (pc' := 20) (lv' := [some (.ref (X.1.1 + 164)), some (.int (zI r24)), some (.int (zI x4))]) hX dX12_tiredAll_19 rfl hL (by decide) rfl ?_
        refine zt_iinc (pc' := 23) (lv' := [some (.ref (X.1.1 + 164)), some (.int (zI r24)), some (.int (zI (x4 + 1)))]) hX dX12_tiredAll_20 rfl rfl hL (by decide) rfl ?_
        refine zt_goto (tgt := 4) hX dX12_tiredAll_23 (by decide) ?_
        exact ih9 r24 (x4 + 1) (by omega) (by omega) (by omega) (by omega) (by omega)
  exact L_4_6 _ 0 0 (by omega) (by omega) (by omega) (by omega) (Nat.lt_succ_self _)

set_option maxRecDepth 100000 in
set_option maxHeartbeats 4000000 in
theorem zc_X12_standsTry (l : Launch) (E : zEN) (σ : zSto) (hI : zInv σ) (a1_ : Int) (ha1_ : 0 ≤ a1_ ∧ a1_ ≤ 9) (a2_ : Int) (ha2_ : 0 ≤ a2_ ∧ a2_ ≤ 35) (a3_ : Int) (ha3_ : -2147483648 ≤ a3_ ∧ a3_ ≤ 2147483647) : zCt l E yX12_standsTry cX12_standsTry 8 none 4 zNC zNC 0 0 σ [.ref (E.1 + 164), .int (zI a1_), .int (zI a2_), .int (zI a3_)] (fun r σ' => zInv σ' ∧ zGM σ σ') := by
  refine zCt_of2 [some (.ref (E.1 + 164)), some (.int (zI a1_)), some (.int (zI a2_)), some (.int (zI a3_)), none, none, none, none] (by decide +kernel) (Nat.le_of_ble_eq_true rfl) rfl ?_
  intro X hE hX hR hL hN
  subst hE
  have hX : zok X cX12_standsTry RX12 4 := hX
  have hF := zGM_rf σ
  refine zt_aload_n (pc' := 1) hX dX12_standsTry_0 rfl rfl ?_
  refine zt_iconst (pc' := 2) hX dX12_standsTry_1 rfl ?_
  refine zt_put (pc' := 5) (x := 0) hX dX12_standsTry_2 rfl zf_X12_513 (by decide) zc_164 zs_46 (fun q hq => by cases hq; rfl) rfl rfl rfl ?_
  generalize hs2 : zset σ 164 62 0 = s1
  have hI3 : zInv s1 := hs2 ▸ zp_46_62 hI zc_164 ⟨by omega, by omega⟩
  have hF4 : zGM σ s1 := hs2 ▸ zGM_set hF zc_164 (by decide) zk_46 (Or.inr (by decide)) (by decide)
  refine zt_aload_n (pc' := 6) hX dX12_standsTry_5 rfl rfl ?_
  refine zt_iconst (pc' := 7) hX dX12_standsTry_6 rfl ?_
  refine zt_put (pc' := 10) (x := (-1)) hX dX12_standsTry_7 rfl zf_X12_516 (by decide) zc_164 zs_46 (fun q hq => by cases hq; rfl) rfl rfl rfl ?_
  generalize hs6 : zset s1 164 63 (-1) = s5
  have hI7 : zInv s5 := hs6 ▸ zp_46_63 hI3 zc_164 ⟨by omega, by omega⟩
  have hF8 : zGM σ s5 := hs6 ▸ zGM_set hF4 zc_164 (by decide) zk_46 (Or.inr (by decide)) (by decide)
  refine zt_iconst (pc' := 11) hX dX12_standsTry_10 rfl ?_
  refine zt_istore (pc' := 13) (lv' := [some (.ref (X.1.1 + 164)), some (.int (zI a1_)), some (.int (zI a2_)), some (.int (zI a3_)), some (.int (zI 0)), none, none, none]) hX dX12_standsTry_11 rfl hL (by decide) rfl ?_
  refine zt_iconst (pc' := 14) hX dX12_standsTry_13 rfl ?_
  refine zt_istore (pc' := 16) (lv' := [some (.ref (X.1.1 + 164)), some (.int (zI a1_)), some (.int (zI a2_)), some (.int (zI a3_)), some (.int (zI 0)), some (.int (zI 0)), none, none]) hX dX12_standsTry_14 rfl hL (by decide) rfl ?_
  have L_16_17 : ∀ (N : Nat) (x9 : Int) (x12 : Int) (s15 : zSto), 0 ≤ x9 → x9 ≤ 1 → 0 ≤ x12 → x12 ≤ 36 → zInv s15 → zGM σ s15 → ((37 - x12).toNat) < N → zF X s15 16 [some (.ref (X.1.1 + 164)), some (.int (zI a1_)), some (.int (zI a2_)), some (.int (zI a3_)), some (.int (zI x9)), some (.int (zI x12)), none, none] [] := by
    intro N
    induction N with
    | zero =>
      intro x9 x12 s15 h10 h11 h13 h14 hI16 hF17 hm19
      exact absurd hm19 (Nat.not_lt_zero _)
    | succ N ih20 =>
      intro x9 x12 s15 h10 h11 h13 h14 hI16 hF17 hm19
      refine zt_iload (pc' := 18) hX dX12_standsTry_16 rfl rfl ?_
      refine zt_aload_n (pc' := 19) hX dX12_standsTry_18 rfl rfl ?_
      refine zt_cVi (pc' := 22) hX dX12_standsTry_19 rfl zm_yX12_cellMany zw_44_19 zc_164 (by decide) zs_46 (q := (RX12, TX12, 108)) rfl rfl (zc_X12_cellMany _ _ s15 hI16 ) rfl rfl (Nat.le_of_ble_eq_true rfl) (by decide) (fun r21 s22 hr23 hp24 => ?_)
      obtain ⟨rfl, q25, q26, z27⟩ := hp24
      refine zt_icge (pc' := 25) (tgt := 107) hX dX12_standsTry_22 rfl (by decide) ⟨by omega, by omega⟩ ⟨by omega, by omega⟩ (fun c28 => ?_) (fun c28 => ?_)
      · exact zt_vret hX hR dX12_standsTry_107 ⟨hI16, hF17⟩
      · refine zt_aload_n (pc' := 26) hX dX12_standsTry_25 rfl rfl ?_
        refine zt_iload (pc' := 28) hX dX12_standsTry_26 rfl rfl ?_
        refine zt_cVi (pc' := 31) hX dX12_standsTry_28 rfl zm_yX12_cellOf zw_44_23 zc_164 (by decide) zs_46 (q := (RX12, TX12, 108)) rfl rfl (zc_X12_cellOf _ _ s15 hI16 x12 ⟨by omega, by omega⟩ (by omega)) rfl rfl (Nat.le_of_ble_eq_true rfl) (by decide) (fun r29 s30 hr31 hp32 => ?_)
        obtain ⟨rfl, q33, q34⟩ := hp32
        refine zt_istore (pc' := 33) (lv' := [some (.ref (X.1.1 + 164)), some (.int (zI a1_)), some (.int (zI a2_)), some (.int (zI a3_)), some (.int (zI x9)), some (.int (zI x12)), some (.int (zI r29)), none]) hX dX12_standsTry_31 rfl hL (by decide) rfl ?_
        refine zt_aload_n (pc' := 34) hX dX12_standsTry_33 rfl rfl ?_
        refine zt_iload (pc' := 36) hX dX12_standsTry_34 rfl rfl ?_
        refine zt_cVz (pc' := 39) hX dX12_standsTry_36 rfl zm_yX12_isCracked zw_45_3 zc_164 (by decide) zs_46 (q := (RX12, TX12, 108)) rfl rfl (zc_X12_isCracked _ _ s15 hI16 r29 ⟨by omega, by omega⟩) rfl rfl (Nat.le_of_ble_eq_true rfl) (by decide) (fun r35 s36 hr37 hp38 => ?_)
        obtain ⟨rfl, q39, q40⟩ := hp38
        have J_101_46 : ∀ (x41 : Int) (s44 : zSto), 0 ≤ x41 → x41 ≤ 1 → zInv s44 → zGM σ s44 → zF X s44 101 [some (.ref (X.1.1 + 164)), some (.int (zI a1_)), some (.int (zI a2_)), some (.int (zI a3_)), some (.int (zI x41)), some (.int (zI x12)), none, none] [] := by
          intro x41 s44 h42 h43 hI45 hF46
          refine zt_iinc (pc' := 104) (lv' := [some (.ref (X.1.1 + 164)), some (.int (zI a1_)), some (.int (zI a2_)), some (.int (zI a3_)), some (.int (zI x41)), some (.int (zI (x12 + 1))), none, none]) hX dX12_standsTry_101 rfl rfl hL (by decide) rfl ?_
          refine zt_goto (tgt := 16) hX dX12_standsTry_104 (by decide) ?_
          exact ih20 x41 (x12 + 1) s44 (by omega) (by omega) (by omega) (by omega) hI45 hF46 (by omega)
        refine zt_ifeq (pc' := 42) (tgt := 45) hX dX12_standsTry_39 rfl (by decide) ⟨by omega, by omega⟩ (fun c48 => ?_) (fun c48 => ?_)
        · refine zt_aload_n (pc' := 46) hX dX12_standsTry_45 rfl rfl ?_
          refine zt_iload_n (pc' := 47) hX dX12_standsTry_46 rfl rfl ?_
          refine zt_iload (pc' := 49) hX dX12_standsTry_47 rfl rfl ?_
          refine zt_cVi (pc' := 52) hX dX12_standsTry_49 rfl zm_yX12_slackBy zw_46_3 zc_164 (by decide) zs_46 (q := (RX12, TX12, 108)) rfl rfl (zc_X12_slackBy _ _ s15 hI16 a3_ ⟨by omega, by omega⟩ r29 ⟨by omega, by omega⟩) rfl rfl (Nat.le_of_ble_eq_true rfl) (by decide) (fun r49 s50 hr51 hp52 => ?_)
          obtain ⟨rfl, q53, q54⟩ := hp52
          refine zt_aload_n (pc' := 53) hX dX12_standsTry_52 rfl rfl ?_
          refine zt_iload_n (pc' := 54) hX dX12_standsTry_53 rfl rfl ?_
          refine zt_iload_n (pc' := 55) hX dX12_standsTry_54 rfl rfl ?_
          refine zt_iload (pc' := 57) hX dX12_standsTry_55 rfl rfl ?_
          refine zt_cVi (pc' := 60) hX dX12_standsTry_57 rfl zm_yX12_liftOf zw_46_11 zc_164 (by decide) zs_46 (q := (RX12, TX12, 108)) rfl rfl (zc_X12_liftOf _ _ s15 hI16 a1_ ⟨by omega, by omega⟩ a2_ ⟨by omega, by omega⟩ r29 ⟨by omega, by omega⟩) rfl rfl (Nat.le_of_ble_eq_true rfl) (by decide) (fun r55 s56 hr57 hp58 => ?_)
          obtain ⟨rfl, q59, q60, z61⟩ := hp58
          refine zt_iadd (pc' := 61) hX dX12_standsTry_60 rfl ?_
          refine zt_wrap (fun r62 zr62 lr62 ur62 => ?_)
          clear zr62
          refine zt_istore (pc' := 63) (lv' := [some (.ref (X.1.1 + 164)), some (.int (zI a1_)), some (.int (zI a2_)), some (.int (zI a3_)), some (.int (zI x9)), some (.int (zI x12)), some (.int (zI r29)), some (.int (zI r62))]) hX dX12_standsTry_61 rfl hL (by decide) rfl ?_
          refine zt_iload (pc' := 65) hX dX12_standsTry_63 rfl rfl ?_
          have J_78_65 : ∀ (s63 : zSto), zInv s63 → zGM σ s63 → zF X s63 78 [some (.ref (X.1.1 + 164)), some (.int (zI a1_)), some (.int (zI a2_)), some (.int (zI a3_)), some (.int (zI x9)), some (.int (zI x12)), none, some (.int (zI r62))] [] := by
            intro s63 hI64 hF65
            refine zt_iload (pc' := 80) hX dX12_standsTry_78 rfl rfl ?_
            have J_98_69 : ∀ (s67 : zSto), zInv s67 → zGM σ s67 → zF X s67 98 [some (.ref (X.1.1 + 164)), some (.int (zI a1_)), some (.int (zI a2_)), some (.int (zI a3_)), none, some (.int (zI x12)), none, none] [] := by
              intro s67 hI68 hF69
              refine zt_iconst (pc' := 99) hX dX12_standsTry_98 rfl ?_
              refine zt_istore (pc' := 101) (lv' := [some (.ref (X.1.1 + 164)), some (.int (zI a1_)), some (.int (zI a2_)), some (.int (zI a3_)), some (.int (zI 1)), some (.int (zI x12)), none, none]) hX dX12_standsTry_99 rfl hL (by decide) rfl ?_
              exact J_101_46 1 s67 (by omega) (by omega) hI68 hF69
            have J_92_70 : zF X s63 92 [some (.ref (X.1.1 + 164)), some (.int (zI a1_)), some (.int (zI a2_)), some (.int (zI a3_)), none, some (.int (zI x12)), none, some (.int (zI r62))] [] := by
              refine zt_aload_n (pc' := 93) hX dX12_standsTry_92 rfl rfl ?_
              refine zt_iload (pc' := 95) hX dX12_standsTry_93 rfl rfl ?_
              refine zt_put (pc' := 98) (x := r62) hX dX12_standsTry_95 rfl zf_X12_516 (by decide) zc_164 zs_46 (fun q hq => by cases hq; rfl) rfl rfl rfl ?_
              generalize hs73 : zset s63 164 63 r62 = s72
              have hI74 : zInv s72 := hs73 ▸ zp_46_63 hI64 zc_164 ⟨by omega, by omega⟩
              have hF75 : zGM σ s72 := hs73 ▸ zGM_set hF65 zc_164 (by decide) zk_46 (Or.inr (by decide)) (by decide)
              refine zt_mask [true, true, true, true, false, true, false, false] rfl ?_
              exact J_98_69 s72 hI74 hF75
            refine zt_ifeq (pc' := 83) (tgt := 92) hX dX12_standsTry_80 rfl (by decide) ⟨by omega, by omega⟩ (fun c76 => ?_) (fun c76 => ?_)
            · refine zt_mask [true, true, true, true, false, true, false, true] rfl ?_
              exact J_92_70
            · refine zt_iload (pc' := 85) hX dX12_standsTry_83 rfl rfl ?_
              refine zt_aload_n (pc' := 86) hX dX12_standsTry_85 rfl rfl ?_
              have b77 := zv_46_63 hI64 zc_164
              refine zt_get (pc' := 89) (v := .int (zI (s63 164 63))) hX dX12_standsTry_86 rfl zf_X12_516 (by decide) zc_164 zs_46 rfl ?_
              refine zt_icge (pc' := 92) (tgt := 98) hX dX12_standsTry_89 rfl (by decide) ⟨by omega, by omega⟩ ⟨by omega, by omega⟩ (fun c78 => ?_) (fun c78 => ?_)
              · refine zt_mask [true, true, true, true, false, true, false, false] rfl ?_
                exact J_98_69 s63 hI64 hF65
              · refine zt_mask [true, true, true, true, false, true, false, true] rfl ?_
                exact J_92_70
          refine zt_ifge (pc' := 68) (tgt := 78) hX dX12_standsTry_65 rfl (by decide) ⟨by omega, by omega⟩ (fun c79 => ?_) (fun c79 => ?_)
          · refine zt_mask [true, true, true, true, true, true, false, true] rfl ?_
            exact J_78_65 s15 hI16 hF17
          · refine zt_aload_n (pc' := 69) hX dX12_standsTry_68 rfl rfl ?_
            refine zt_dup (pc' := 70) hX dX12_standsTry_69 rfl rfl ?_
            have b80 := zv_46_62 hI16 zc_164
            refine zt_get (pc' := 73) (v := .int (zI (s15 164 62))) hX dX12_standsTry_70 rfl zf_X12_513 (by decide) zc_164 zs_46 rfl ?_
            refine zt_iconst (pc' := 74) hX dX12_standsTry_73 rfl ?_
            refine zt_iadd (pc' := 75) hX dX12_standsTry_74 rfl ?_
            refine zt_wrap (fun r81 zr81 lr81 ur81 => ?_)
            clear zr81
            refine zt_put (pc' := 78) (x := r81) hX dX12_standsTry_75 rfl zf_X12_513 (by decide) zc_164 zs_46 (fun q hq => by cases hq; rfl) rfl rfl rfl ?_
            generalize hs83 : zset s15 164 62 r81 = s82
            have hI84 : zInv s82 := hs83 ▸ zp_46_62 hI16 zc_164 ⟨by omega, by omega⟩
            have hF85 : zGM σ s82 := hs83 ▸ zGM_set hF17 zc_164 (by decide) zk_46 (Or.inr (by decide)) (by decide)
            refine zt_mask [true, true, true, true, true, true, false, true] rfl ?_
            exact J_78_65 s82 hI84 hF85
        · refine zt_goto (tgt := 101) hX dX12_standsTry_42 (by decide) ?_
          refine zt_mask [true, true, true, true, true, true, false, false] rfl ?_
          exact J_101_46 x9 s15 (by omega) (by omega) hI16 hF17
  exact L_16_17 _ 0 0 s5 (by omega) (by omega) (by omega) (by omega) hI7 hF8 (Nat.lt_succ_self _)

set_option maxRecDepth 100000 in
set_option maxHeartbeats 4000000 in
theorem zc_X12_refuses (l : Launch) (E : zEN) (σ : zSto) (hI : zInv σ) (a1_ : Int) (ha1_ : 0 ≤ a1_ ∧ a1_ ≤ 5) : zCt l E yX12_refuses cX12_refuses 2 (some .int) 0 zNC zNC 0 0 σ [.ref (E.1 + 164), .int (zI a1_)] (fun r σ' => zInv σ' ∧ zGM σ σ' ∧ -1 ≤ r ∧ r ≤ -1) := by
  refine zCt_of2 [some (.ref (E.1 + 164)), some (.int (zI a1_))] (by decide +kernel) (Nat.le_of_ble_eq_true rfl) rfl ?_
  intro X hE hX hR hL hN
  subst hE
  have hX : zok X cX12_refuses RX12 0 := hX
  have hF := zGM_rf σ
  refine zt_aload_n (pc' := 1) hX dX12_refuses_0 rfl rfl ?_
  refine zt_get (pc' := 4) (v := .ref (X.1.1 + 166)) hX dX12_refuses_1 rfl zf_X12_17 (by decide) zc_164 zs_46 (zrf_of (zv_46_9 hI zc_164)) ?_
  refine zt_iload_n (pc' := 5) hX dX12_refuses_4 rfl rfl ?_
  refine zt_dup2 (pc' := 6) hX dX12_refuses_5 rfl rfl rfl ?_
  refine zt_iald (pc' := 7) hX dX12_refuses_6 rfl (by decide) zc_166 zs_48 (by decide) ⟨by omega, by omega⟩ ?_
  generalize hv1 : σ 166 (a1_.toNat) = v1
  have bv1 : -2147483648 ≤ v1 ∧ v1 ≤ 2147483647 := hv1 ▸ zv_48 hI zc_166 _
  refine zt_iconst (pc' := 8) hX dX12_refuses_7 rfl ?_
  refine zt_iadd (pc' := 9) hX dX12_refuses_8 rfl ?_
  refine zt_wrap (fun r2 zr2 lr2 ur2 => ?_)
  clear zr2
  refine zt_iast (pc' := 10) hX dX12_refuses_9 rfl (by decide) zc_166 zs_48 (by decide) ⟨by omega, by omega⟩ ?_
  generalize hs4 : zset σ 166 (a1_.toNat) r2 = s3
  have hI5 : zInv s3 := hs4 ▸ zp_48 hI zc_166 (a1_.toNat) ⟨by omega, by omega⟩
  have hF6 : zGM σ s3 := hs4 ▸ zGM_set hF zc_166 (by decide) zk_48 (Or.inl (by decide)) (by decide)
  refine zt_iconst (pc' := 11) hX dX12_refuses_10 rfl ?_
  exact zt_iret hX hR dX12_refuses_11 ⟨by omega, by omega⟩ ⟨hI5, hF6, by omega, by omega⟩

set_option maxRecDepth 100000 in
set_option maxHeartbeats 4000000 in
theorem zc_X12_isAsHeard (l : Launch) (E : zEN) (σ : zSto) (hI : zInv σ) (a1_ : Int) (ha1_ : -2147483648 ≤ a1_ ∧ a1_ ≤ 2147483647) : zCt l E yX12_isAsHeard cX12_isAsHeard 3 (some .boolean) 4 zNC zNC 0 0 σ [.ref (E.1 + 164), .int (zI a1_)] (fun r σ' => σ = σ' ∧ 0 ≤ r ∧ r ≤ 1) := by
  refine zCt_of2 [some (.ref (E.1 + 164)), some (.int (zI a1_)), none] (by decide +kernel) (Nat.le_of_ble_eq_true rfl) rfl ?_
  intro X hE hX hR hL hN
  subst hE
  have hX : zok X cX12_isAsHeard RX12 4 := hX
  refine zt_iconst (pc' := 1) hX dX12_isAsHeard_0 rfl ?_
  refine zt_istore_n (pc' := 2) (lv' := [some (.ref (X.1.1 + 164)), some (.int (zI a1_)), some (.int (zI 0))]) hX dX12_isAsHeard_1 rfl hL (by decide) rfl ?_
  have L_2_3 : ∀ (N : Nat) (x1 : Int), 0 ≤ x1 → x1 ≤ 12 → ((13 - x1).toNat) < N → zF X σ 2 [some (.ref (X.1.1 + 164)), some (.int (zI a1_)), some (.int (zI x1))] [] := by
    intro N
    induction N with
    | zero =>
      intro x1 h2 h3 hm5
      exact absurd hm5 (Nat.not_lt_zero _)
    | succ N ih6 =>
      intro x1 h2 h3 hm5
      refine zt_iload_n (pc' := 3) hX dX12_isAsHeard_2 rfl rfl ?_
      refine zt_aload_n (pc' := 4) hX dX12_isAsHeard_3 rfl rfl ?_
      have b7 := zv_46_64 hI zc_164
      refine zt_get (pc' := 7) (v := .int (zI (σ 164 64))) hX dX12_isAsHeard_4 rfl zf_X12_382 (by decide) zc_164 zs_46 rfl ?_
      refine zt_icge (pc' := 10) (tgt := 44) hX dX12_isAsHeard_7 rfl (by decide) ⟨by omega, by omega⟩ ⟨by omega, by omega⟩ (fun c8 => ?_) (fun c8 => ?_)
      · refine zt_iconst (pc' := 45) hX dX12_isAsHeard_44 rfl ?_
        exact zt_zret hX hR dX12_isAsHeard_45 ⟨by omega, by omega⟩ ⟨rfl, by omega, by omega⟩
      · refine zt_aload_n (pc' := 11) hX dX12_isAsHeard_10 rfl rfl ?_
        refine zt_iload_n (pc' := 12) hX dX12_isAsHeard_11 rfl rfl ?_
        refine zt_aload_n (pc' := 13) hX dX12_isAsHeard_12 rfl rfl ?_
        refine zt_get (pc' := 16) (v := .ref (X.1.1 + 207)) hX dX12_isAsHeard_13 rfl zf_X12_146 (by decide) zc_164 zs_46 (zrf_of (zv_46_65 hI zc_164)) ?_
        refine zt_iconst (pc' := 17) hX dX12_isAsHeard_16 rfl ?_
        refine zt_iload_n (pc' := 18) hX dX12_isAsHeard_17 rfl rfl ?_
        refine zt_imul (pc' := 19) hX dX12_isAsHeard_18 rfl ?_
        refine zt_iald (pc' := 20) hX dX12_isAsHeard_19 rfl (by decide) zc_207 zs_89 (by decide) ⟨by omega, by omega⟩ ?_
        have bv9 := zv_89 hI zc_207 ((2 * x1).toNat)
        generalize hv9 : σ 207 ((2 * x1).toNat) = v9 at bv9 ⊢
        refine zt_cVi (pc' := 23) hX dX12_isAsHeard_20 rfl zm_yX12_slackBy zw_46_3 zc_164 (by decide) zs_46 (q := (RX12, TX12, 108)) rfl rfl (zc_X12_slackBy _ _ σ hI a1_ ⟨by omega, by omega⟩ v9 ⟨by omega, by omega⟩) rfl rfl (Nat.le_of_ble_eq_true rfl) (by decide) (fun r10 s11 hr12 hp13 => ?_)
        obtain ⟨rfl, q14, q15⟩ := hp13
        refine zt_aload_n (pc' := 24) hX dX12_isAsHeard_23 rfl rfl ?_
        refine zt_get (pc' := 27) (v := .ref (X.1.1 + 207)) hX dX12_isAsHeard_24 rfl zf_X12_146 (by decide) zc_164 zs_46 (zrf_of (zv_46_65 hI zc_164)) ?_
        refine zt_iconst (pc' := 28) hX dX12_isAsHeard_27 rfl ?_
        refine zt_iload_n (pc' := 29) hX dX12_isAsHeard_28 rfl rfl ?_
        refine zt_imul (pc' := 30) hX dX12_isAsHeard_29 rfl ?_
        refine zt_iconst (pc' := 31) hX dX12_isAsHeard_30 rfl ?_
        refine zt_iadd (pc' := 32) hX dX12_isAsHeard_31 rfl ?_
        refine zt_iald (pc' := 33) hX dX12_isAsHeard_32 rfl (by decide) zc_207 zs_89 (by decide) ⟨by omega, by omega⟩ ?_
        have bv16 := zv_89 hI zc_207 (((2 * x1) + 1).toNat)
        generalize hv16 : σ 207 (((2 * x1) + 1).toNat) = v16 at bv16 ⊢
        refine zt_iceq (pc' := 36) (tgt := 38) hX dX12_isAsHeard_33 rfl (by decide) ⟨by omega, by omega⟩ ⟨by omega, by omega⟩ (fun c17 => ?_) (fun c17 => ?_)
        · refine zt_iinc (pc' := 41) (lv' := [some (.ref (X.1.1 + 164)), some (.int (zI a1_)), some (.int (zI (x1 + 1)))]) hX dX12_isAsHeard_38 rfl rfl hL (by decide) rfl ?_
          refine zt_goto (tgt := 2) hX dX12_isAsHeard_41 (by decide) ?_
          exact ih6 (x1 + 1) (by omega) (by omega) (by omega)
        · refine zt_iconst (pc' := 37) hX dX12_isAsHeard_36 rfl ?_
          exact zt_zret hX hR dX12_isAsHeard_37 ⟨by omega, by omega⟩ ⟨rfl, by omega, by omega⟩
  exact L_2_3 _ 0 (by omega) (by omega) (Nat.lt_succ_self _)

set_option maxRecDepth 100000 in
set_option maxHeartbeats 4000000 in
theorem zc_X12_isRefused (l : Launch) (E : zEN) (σ : zSto) (hI : zInv σ)  : zCt l E yX12_isRefused cX12_isRefused 1 (some .boolean) 0 zNC zNC 0 0 σ [.ref (E.1 + 164)] (fun r σ' => zInv σ' ∧ zGM σ σ' ∧ 0 ≤ r ∧ r ≤ 0) := by
  refine zCt_of2 [some (.ref (E.1 + 164))] (by decide +kernel) (Nat.le_of_ble_eq_true rfl) rfl ?_
  intro X hE hX hR hL hN
  subst hE
  have hX : zok X cX12_isRefused RX12 0 := hX
  have hF := zGM_rf σ
  refine zt_aload_n (pc' := 1) hX dX12_isRefused_0 rfl rfl ?_
  refine zt_get (pc' := 4) (v := .ref (X.1.1 + 166)) hX dX12_isRefused_1 rfl zf_X12_17 (by decide) zc_164 zs_46 (zrf_of (zv_46_9 hI zc_164)) ?_
  refine zt_iconst (pc' := 5) hX dX12_isRefused_4 rfl ?_
  refine zt_dup2 (pc' := 6) hX dX12_isRefused_5 rfl rfl rfl ?_
  refine zt_iald (pc' := 7) hX dX12_isRefused_6 rfl (by decide) zc_166 zs_48 (by decide) ⟨by omega, by omega⟩ ?_
  rw [show Int.toNat 2 = 2 from rfl]
  have b2 := zv_48 hI zc_166 2
  refine zt_iconst (pc' := 8) hX dX12_isRefused_7 rfl ?_
  refine zt_iadd (pc' := 9) hX dX12_isRefused_8 rfl ?_
  refine zt_wrap (fun r3 zr3 lr3 ur3 => ?_)
  clear zr3
  refine zt_iast (pc' := 10) hX dX12_isRefused_9 rfl (by decide) zc_166 zs_48 (by decide) ⟨by omega, by omega⟩ ?_
  rw [show Int.toNat 2 = 2 from rfl]
  generalize hs5 : zset σ 166 2 r3 = s4
  have hI6 : zInv s4 := hs5 ▸ zp_48 hI zc_166 2 ⟨by omega, by omega⟩
  have hF7 : zGM σ s4 := hs5 ▸ zGM_set hF zc_166 (by decide) zk_48 (Or.inl (by decide)) (by decide)
  refine zt_iconst (pc' := 11) hX dX12_isRefused_10 rfl ?_
  exact zt_zret hX hR dX12_isRefused_11 ⟨by omega, by omega⟩ ⟨hI6, hF7, by omega, by omega⟩

set_option maxRecDepth 100000 in
set_option maxHeartbeats 4000000 in
theorem zc_X12_keeps (l : Launch) (E : zEN) (σ : zSto) (hI : zInv σ)  : zCt l E yX12_keeps cX12_keeps 2 none 0 zNC zNC 0 0 σ [.ref (E.1 + 164)] (fun r σ' => zInv σ' ∧ zGM σ σ') := by
  refine zCt_of2 [some (.ref (E.1 + 164)), none] (by decide +kernel) (Nat.le_of_ble_eq_true rfl) rfl ?_
  intro X hE hX hR hL hN
  subst hE
  have hX : zok X cX12_keeps RX12 0 := hX
  have hF := zGM_rf σ
  refine zt_aload_n (pc' := 1) hX dX12_keeps_0 rfl rfl ?_
  refine zt_aload_n (pc' := 2) hX dX12_keeps_1 rfl rfl ?_
  have b1 := zv_46_71 hI zc_164
  refine zt_get (pc' := 5) (v := .int (zI (σ 164 71))) hX dX12_keeps_2 rfl zf_X12_538 (by decide) zc_164 zs_46 rfl ?_
  refine zt_iconst (pc' := 6) hX dX12_keeps_5 rfl ?_
  refine zt_iadd (pc' := 7) hX dX12_keeps_6 rfl ?_
  refine zt_bipush (pc' := 9) hX dX12_keeps_7 rfl (by decide) (by decide) ?_
  refine zt_irem (pc' := 10) hX dX12_keeps_9 rfl ⟨by omega, by omega⟩ ⟨by omega, by omega⟩ (fun r2 er2 br2 nr2 => ?_)
  rw [ztm_p (by omega)] at er2
  refine zt_put (pc' := 13) (x := r2) hX dX12_keeps_10 rfl zf_X12_538 (by decide) zc_164 zs_46 (fun q hq => by cases hq; rfl) rfl rfl rfl ?_
  generalize hs4 : zset σ 164 71 r2 = s3
  have hI5 : zInv s3 := hs4 ▸ zp_46_71 hI zc_164 ⟨by omega, by omega⟩
  have hF6 : zGM σ s3 := hs4 ▸ zGM_set hF zc_164 (by decide) zk_46 (Or.inr (by decide)) (by decide)
  refine zt_iconst (pc' := 14) hX dX12_keeps_13 rfl ?_
  refine zt_istore_n (pc' := 15) (lv' := [some (.ref (X.1.1 + 164)), some (.int (zI 0))]) hX dX12_keeps_14 rfl hL (by decide) rfl ?_
  have L_15_12 : ∀ (N : Nat) (x7 : Int) (s10 : zSto), 0 ≤ x7 → x7 ≤ 188 → zInv s10 → zGM σ s10 → ((189 - x7).toNat) < N → zF X s10 15 [some (.ref (X.1.1 + 164)), some (.int (zI x7))] [] := by
    intro N
    induction N with
    | zero =>
      intro x7 s10 h8 h9 hI11 hF12 hm14
      exact absurd hm14 (Nat.not_lt_zero _)
    | succ N ih15 =>
      intro x7 s10 h8 h9 hI11 hF12 hm14
      refine zt_iload_n (pc' := 16) hX dX12_keeps_15 rfl rfl ?_
      refine zt_sipush (pc' := 19) hX dX12_keeps_16 rfl (by decide) (by decide) ?_
      refine zt_icge (pc' := 22) (tgt := 49) hX dX12_keeps_19 rfl (by decide) ⟨by omega, by omega⟩ ⟨by omega, by omega⟩ (fun c16 => ?_) (fun c16 => ?_)
      · refine zt_aload_n (pc' := 50) hX dX12_keeps_49 rfl rfl ?_
        have b17 := zv_46_70 hI11 zc_164
        refine zt_get (pc' := 53) (v := .int (zI (s10 164 70))) hX dX12_keeps_50 rfl zf_X12_379 (by decide) zc_164 zs_46 rfl ?_
        refine zt_bipush (pc' := 55) hX dX12_keeps_53 rfl (by decide) (by decide) ?_
        refine zt_icge (pc' := 58) (tgt := 68) hX dX12_keeps_55 rfl (by decide) ⟨by omega, by omega⟩ ⟨by omega, by omega⟩ (fun c18 => ?_) (fun c18 => ?_)
        · exact zt_vret hX hR dX12_keeps_68 ⟨hI11, hF12⟩
        · refine zt_aload_n (pc' := 59) hX dX12_keeps_58 rfl rfl ?_
          refine zt_dup (pc' := 60) hX dX12_keeps_59 rfl rfl ?_
          refine zt_get (pc' := 63) (v := .int (zI (s10 164 70))) hX dX12_keeps_60 rfl zf_X12_379 (by decide) zc_164 zs_46 rfl ?_
          refine zt_iconst (pc' := 64) hX dX12_keeps_63 rfl ?_
          refine zt_iadd (pc' := 65) hX dX12_keeps_64 rfl ?_
          refine zt_put (pc' := 68) (x := ((s10 164 70) + 1)) hX dX12_keeps_65 rfl zf_X12_379 (by decide) zc_164 zs_46 (fun q hq => by cases hq; rfl) rfl rfl rfl ?_
          generalize hs20 : zset s10 164 70 ((s10 164 70) + 1) = s19
          have hI21 : zInv s19 := hs20 ▸ zp_46_70 hI11 zc_164 ⟨by omega, by omega⟩
          have hF22 : zGM σ s19 := hs20 ▸ zGM_set hF12 zc_164 (by decide) zk_46 (Or.inr (by decide)) (by decide)
          exact zt_vret hX hR dX12_keeps_68 ⟨hI21, hF22⟩
      · refine zt_aload_n (pc' := 23) hX dX12_keeps_22 rfl rfl ?_
        refine zt_get (pc' := 26) (v := .ref (X.1.1 + 210)) hX dX12_keeps_23 rfl zf_X12_155 (by decide) zc_164 zs_46 (zrf_of (zv_46_69 hI11 zc_164)) ?_
        refine zt_sipush (pc' := 29) hX dX12_keeps_26 rfl (by decide) (by decide) ?_
        refine zt_aload_n (pc' := 30) hX dX12_keeps_29 rfl rfl ?_
        have b23 := zv_46_71 hI11 zc_164
        refine zt_get (pc' := 33) (v := .int (zI (s10 164 71))) hX dX12_keeps_30 rfl zf_X12_538 (by decide) zc_164 zs_46 rfl ?_
        refine zt_imul (pc' := 34) hX dX12_keeps_33 rfl ?_
        refine zt_iload_n (pc' := 35) hX dX12_keeps_34 rfl rfl ?_
        refine zt_iadd (pc' := 36) hX dX12_keeps_35 rfl ?_
        refine zt_aload_n (pc' := 37) hX dX12_keeps_36 rfl rfl ?_
        refine zt_get (pc' := 40) (v := .ref (X.1.1 + 203)) hX dX12_keeps_37 rfl zf_X12_130 (by decide) zc_164 zs_46 (zrf_of (zv_46_52 hI11 zc_164)) ?_
        refine zt_iload_n (pc' := 41) hX dX12_keeps_40 rfl rfl ?_
        refine zt_iald (pc' := 42) hX dX12_keeps_41 rfl (by decide) zc_203 zs_85 (by decide) ⟨by omega, by omega⟩ ?_
        have bv24 := zv_85 hI11 zc_203 (x7.toNat)
        generalize hv24 : s10 203 (x7.toNat) = v24 at bv24 ⊢
        refine zt_iast (pc' := 43) hX dX12_keeps_42 rfl (by decide) zc_210 zs_92 (by decide) ⟨by omega, by omega⟩ ?_
        generalize hs26 : zset s10 210 (((188 * (s10 164 71)) + x7).toNat) v24 = s25
        have hI27 : zInv s25 := hs26 ▸ zp_92 hI11 zc_210 (((188 * (s10 164 71)) + x7).toNat) (by have hm : ((188 * (s10 164 71)) + x7).toNat % 188 = x7.toNat := (by omega); rw [hm]; exact bv24)
        have hF28 : zGM σ s25 := hs26 ▸ zGM_set hF12 zc_210 (by decide) zk_92 (Or.inl (by decide)) (by decide)
        refine zt_iinc (pc' := 46) (lv' := [some (.ref (X.1.1 + 164)), some (.int (zI (x7 + 1)))]) hX dX12_keeps_43 rfl rfl hL (by decide) rfl ?_
        refine zt_goto (tgt := 15) hX dX12_keeps_46 (by decide) ?_
        exact ih15 (x7 + 1) s25 (by omega) (by omega) hI27 hF28 (by omega)
  exact L_15_12 _ 0 s3 (by omega) (by omega) hI5 hF6 (Nat.lt_succ_self _)

set_option maxRecDepth 100000 in
set_option maxHeartbeats 4000000 in
theorem zc_X12_undo (l : Launch) (E : zEN) (σ : zSto) (hI : zInv σ)  : zCt l E yX12_undo cX12_undo 2 (some .boolean) 0 zNC zNC 0 0 σ [.ref (E.1 + 164)] (fun r σ' => zInv σ' ∧ zGM σ σ' ∧ 0 ≤ r ∧ r ≤ 1) := by
  refine zCt_of2 [some (.ref (E.1 + 164)), none] (by decide +kernel) (Nat.le_of_ble_eq_true rfl) rfl ?_
  intro X hE hX hR hL hN
  subst hE
  have hX : zok X cX12_undo RX12 0 := hX
  have hF := zGM_rf σ
  have b1 := zv_46_70 hI zc_164
  refine zt_aload_n (pc' := 1) hX dX12_undo_0 rfl rfl ?_
  have b2 := zv_46_70 hI zc_164
  refine zt_get (pc' := 4) (v := .int (zI (σ 164 70))) hX dX12_undo_1 rfl zf_X12_379 (by decide) zc_164 zs_46 rfl ?_
  refine zt_ifne (pc' := 7) (tgt := 19) hX dX12_undo_4 rfl (by decide) ⟨by omega, by omega⟩ (fun c3 => ?_) (fun c3 => ?_)
  · refine zt_iconst (pc' := 20) hX dX12_undo_19 rfl ?_
    refine zt_istore_n (pc' := 21) (lv' := [some (.ref (X.1.1 + 164)), some (.int (zI 0))]) hX dX12_undo_20 rfl hL (by decide) rfl ?_
    have L_21_10 : ∀ (N : Nat) (x4 : Int) (s7 : zSto), 0 ≤ x4 → x4 ≤ 188 → zInv s7 → zGM σ s7 → s7 164 70 = σ 164 70 → ((189 - x4).toNat) < N → zF X s7 21 [some (.ref (X.1.1 + 164)), some (.int (zI x4))] [] := by
      intro N
      induction N with
      | zero =>
        intro x4 s7 h5 h6 hI8 hF9 g10 hm12
        exact absurd hm12 (Nat.not_lt_zero _)
      | succ N ih13 =>
        intro x4 s7 h5 h6 hI8 hF9 g10 hm12
        have b14 := zv_46_70 hI8 zc_164
        refine zt_iload_n (pc' := 22) hX dX12_undo_21 rfl rfl ?_
        refine zt_sipush (pc' := 25) hX dX12_undo_22 rfl (by decide) (by decide) ?_
        refine zt_icge (pc' := 28) (tgt := 55) hX dX12_undo_25 rfl (by decide) ⟨by omega, by omega⟩ ⟨by omega, by omega⟩ (fun c15 => ?_) (fun c15 => ?_)
        · refine zt_aload_n (pc' := 56) hX dX12_undo_55 rfl rfl ?_
          refine zt_aload_n (pc' := 57) hX dX12_undo_56 rfl rfl ?_
          have b16 := zv_46_71 hI8 zc_164
          refine zt_get (pc' := 60) (v := .int (zI (s7 164 71))) hX dX12_undo_57 rfl zf_X12_538 (by decide) zc_164 zs_46 rfl ?_
          refine zt_bipush (pc' := 62) hX dX12_undo_60 rfl (by decide) (by decide) ?_
          refine zt_iadd (pc' := 63) hX dX12_undo_62 rfl ?_
          refine zt_iconst (pc' := 64) hX dX12_undo_63 rfl ?_
          refine zt_isub (pc' := 65) hX dX12_undo_64 rfl ?_
          refine zt_bipush (pc' := 67) hX dX12_undo_65 rfl (by decide) (by decide) ?_
          refine zt_irem (pc' := 68) hX dX12_undo_67 rfl ⟨by omega, by omega⟩ ⟨by omega, by omega⟩ (fun r17 er17 br17 nr17 => ?_)
          rw [ztm_p (by omega)] at er17
          refine zt_put (pc' := 71) (x := r17) hX dX12_undo_68 rfl zf_X12_538 (by decide) zc_164 zs_46 (fun q hq => by cases hq; rfl) rfl rfl rfl ?_
          generalize hs19 : zset s7 164 71 r17 = s18
          have hI20 : zInv s18 := hs19 ▸ zp_46_71 hI8 zc_164 ⟨by omega, by omega⟩
          have hF21 : zGM σ s18 := hs19 ▸ zGM_set hF9 zc_164 (by decide) zk_46 (Or.inr (by decide)) (by decide)
          have e22 : s18 164 70 = s7 164 70 := by rw [← hs19]; exact zset_j (by decide)
          refine zt_aload_n (pc' := 72) hX dX12_undo_71 rfl rfl ?_
          refine zt_dup (pc' := 73) hX dX12_undo_72 rfl rfl ?_
          have b23 := zv_46_70 hI20 zc_164
          refine zt_get (pc' := 76) (v := .int (zI (s18 164 70))) hX dX12_undo_73 rfl zf_X12_379 (by decide) zc_164 zs_46 rfl ?_
          refine zt_iconst (pc' := 77) hX dX12_undo_76 rfl ?_
          refine zt_isub (pc' := 78) hX dX12_undo_77 rfl ?_
          refine zt_put (pc' := 81) (x := ((s18 164 70) - 1)) hX dX12_undo_78 rfl zf_X12_379 (by decide) zc_164 zs_46 (fun q hq => by cases hq; rfl) rfl rfl rfl ?_
          generalize hs25 : zset s18 164 70 ((s18 164 70) - 1) = s24
          have hI26 : zInv s24 := hs25 ▸ zp_46_70 hI20 zc_164 ⟨by omega, by omega⟩
          have hF27 : zGM σ s24 := hs25 ▸ zGM_set hF21 zc_164 (by decide) zk_46 (Or.inr (by decide)) (by decide)
          have e28 : s24 164 70 = ((s18 164 70) - 1) := by rw [← hs25]; exact zset_s
          refine zt_iconst (pc' := 82) hX dX12_undo_81 rfl ?_
          exact zt_zret hX hR dX12_undo_82 ⟨by omega, by omega⟩ ⟨hI26, hF27, by omega, by omega⟩
        · refine zt_aload_n (pc' := 29) hX dX12_undo_28 rfl rfl ?_
          refine zt_get (pc' := 32) (v := .ref (X.1.1 + 203)) hX dX12_undo_29 rfl zf_X12_130 (by decide) zc_164 zs_46 (zrf_of (zv_46_52 hI8 zc_164)) ?_
          refine zt_iload_n (pc' := 33) hX dX12_undo_32 rfl rfl ?_
          refine zt_aload_n (pc' := 34) hX dX12_undo_33 rfl rfl ?_
          refine zt_get (pc' := 37) (v := .ref (X.1.1 + 210)) hX dX12_undo_34 rfl zf_X12_155 (by decide) zc_164 zs_46 (zrf_of (zv_46_69 hI8 zc_164)) ?_
          refine zt_sipush (pc' := 40) hX dX12_undo_37 rfl (by decide) (by decide) ?_
          refine zt_aload_n (pc' := 41) hX dX12_undo_40 rfl rfl ?_
          have b29 := zv_46_71 hI8 zc_164
          refine zt_get (pc' := 44) (v := .int (zI (s7 164 71))) hX dX12_undo_41 rfl zf_X12_538 (by decide) zc_164 zs_46 rfl ?_
          refine zt_imul (pc' := 45) hX dX12_undo_44 rfl ?_
          refine zt_iload_n (pc' := 46) hX dX12_undo_45 rfl rfl ?_
          refine zt_iadd (pc' := 47) hX dX12_undo_46 rfl ?_
          refine zt_iald (pc' := 48) hX dX12_undo_47 rfl (by decide) zc_210 zs_92 (by decide) ⟨by omega, by omega⟩ ?_
          have bv30 := zv_92 hI8 zc_210 (((188 * (s7 164 71)) + x4).toNat)
          generalize hv30 : s7 210 (((188 * (s7 164 71)) + x4).toNat) = v30 at bv30 ⊢
          refine zt_iast (pc' := 49) hX dX12_undo_48 rfl (by decide) zc_203 zs_85 (by decide) ⟨by omega, by omega⟩ ?_
          generalize hs32 : zset s7 203 (x4.toNat) v30 = s31
          have hI33 : zInv s31 := hs32 ▸ zp_85 hI8 zc_203 (x4.toNat) (by have hm : (188 * (s7 164 71) + x4).toNat % 188 = x4.toNat := (by omega); rw [hm] at bv30; exact bv30)
          have hF34 : zGM σ s31 := hs32 ▸ zGM_set hF9 zc_203 (by decide) zk_85 (Or.inl (by decide)) (by decide)
          have e35 : s31 164 70 = s7 164 70 := by rw [← hs32]; exact zset_k (zne_r zc_164 zc_203 (by decide))
          refine zt_iinc (pc' := 52) (lv' := [some (.ref (X.1.1 + 164)), some (.int (zI (x4 + 1)))]) hX dX12_undo_49 rfl rfl hL (by decide) rfl ?_
          refine zt_goto (tgt := 21) hX dX12_undo_52 (by decide) ?_
          exact ih13 (x4 + 1) s31 (by omega) (by omega) hI33 hF34 (by omega) (by omega)
    exact L_21_10 _ 0 σ (by omega) (by omega) hI hF (by omega) (Nat.lt_succ_self _)
  · refine zt_aload_n (pc' := 8) hX dX12_undo_7 rfl rfl ?_
    refine zt_get (pc' := 11) (v := .ref (X.1.1 + 166)) hX dX12_undo_8 rfl zf_X12_17 (by decide) zc_164 zs_46 (zrf_of (zv_46_9 hI zc_164)) ?_
    refine zt_iconst (pc' := 12) hX dX12_undo_11 rfl ?_
    refine zt_dup2 (pc' := 13) hX dX12_undo_12 rfl rfl rfl ?_
    refine zt_iald (pc' := 14) hX dX12_undo_13 rfl (by decide) zc_166 zs_48 (by decide) ⟨by omega, by omega⟩ ?_
    rw [show Int.toNat 4 = 4 from rfl]
    have b37 := zv_48 hI zc_166 4
    refine zt_iconst (pc' := 15) hX dX12_undo_14 rfl ?_
    refine zt_iadd (pc' := 16) hX dX12_undo_15 rfl ?_
    refine zt_wrap (fun r38 zr38 lr38 ur38 => ?_)
    clear zr38
    refine zt_iast (pc' := 17) hX dX12_undo_16 rfl (by decide) zc_166 zs_48 (by decide) ⟨by omega, by omega⟩ ?_
    rw [show Int.toNat 4 = 4 from rfl]
    generalize hs40 : zset σ 166 4 r38 = s39
    have hI41 : zInv s39 := hs40 ▸ zp_48 hI zc_166 4 ⟨by omega, by omega⟩
    have hF42 : zGM σ s39 := hs40 ▸ zGM_set hF zc_166 (by decide) zk_48 (Or.inl (by decide)) (by decide)
    have e43 : s39 164 70 = σ 164 70 := by rw [← hs40]; exact zset_k (zne_r zc_164 zc_166 (by decide))
    refine zt_iconst (pc' := 18) hX dX12_undo_17 rfl ?_
    exact zt_zret hX hR dX12_undo_18 ⟨by omega, by omega⟩ ⟨hI41, hF42, by omega, by omega⟩

set_option maxRecDepth 100000 in
set_option maxHeartbeats 4000000 in
theorem zc_X12_rest (l : Launch) (E : zEN) (σ : zSto) (hI : zInv σ) (a1_ : Int) (ha1_ : -2147483648 ≤ a1_ ∧ a1_ ≤ 2147483647) (a2_ : Int) (ha2_ : -2147483648 ≤ a2_ ∧ a2_ ≤ 2147483647) : zCt l E yX12_rest cX12_rest 3 (some .boolean) 2 zNC zNC 0 0 σ [.ref (E.1 + 164), .int (zI a1_), .int (zI a2_)] (fun r σ' => zInv σ' ∧ zGM σ σ' ∧ 0 ≤ r ∧ r ≤ 1) := by
  refine zCt_of2 [some (.ref (E.1 + 164)), some (.int (zI a1_)), some (.int (zI a2_))] (by decide +kernel) (Nat.le_of_ble_eq_true rfl) rfl ?_
  intro X hE hX hR hL hN
  subst hE
  have hX : zok X cX12_rest RX12 2 := hX
  have hF := zGM_rf σ
  refine zt_aload_n (pc' := 1) hX dX12_rest_0 rfl rfl ?_
  refine zt_iload_n (pc' := 2) hX dX12_rest_1 rfl rfl ?_
  refine zt_cVz (pc' := 5) hX dX12_rest_2 rfl zm_yX12_isPerson zw_41_16 zc_164 (by decide) zs_46 (q := (RX12, TX12, 108)) rfl rfl (zc_X12_isPerson _ _ σ hI a1_ ⟨by omega, by omega⟩) rfl rfl (Nat.le_of_ble_eq_true rfl) (by decide) (fun r1 s2 hr3 hp4 => ?_)
  obtain ⟨rfl, q5, q6, z7⟩ := hp4
  have J_35_7 : zF X σ 35 [some (.ref (X.1.1 + 164)), none, none] [] := by
    refine zt_aload_n (pc' := 36) hX dX12_rest_35 rfl rfl ?_
    refine zt_cVz (pc' := 39) hX dX12_rest_36 rfl zm_yX12_isRefused zw_60_19 zc_164 (by decide) zs_46 (q := (RX12, TX12, 108)) rfl rfl (zc_X12_isRefused _ _ σ hI ) rfl rfl (Nat.le_of_ble_eq_true rfl) (by decide) (fun r9 s10 hr11 hp12 => ?_)
    obtain ⟨hI13, hF14, q15, q16⟩ := hp12
    have hF17 := zGM_tr hF hF14
    exact zt_zret hX hR dX12_rest_39 ⟨by omega, by omega⟩ ⟨hI13, hF17, by omega, by omega⟩
  refine zt_ifeq (pc' := 8) (tgt := 35) hX dX12_rest_5 rfl (by decide) ⟨by omega, by omega⟩ (fun c18 => ?_) (fun c18 => ?_)
  · refine zt_mask [true, false, false] rfl ?_
    exact J_35_7
  · refine zt_iload_n (pc' := 9) hX dX12_rest_8 rfl rfl ?_
    refine zt_i2l (pc' := 10) hX dX12_rest_9 rfl ⟨by omega, by omega⟩ ?_
    refine zt_lconst (pc' := 11) (y := 0) hX dX12_rest_10 rfl (by decide +kernel) ?_
    refine zt_lconst (pc' := 12) (y := 1) hX dX12_rest_11 rfl (by decide +kernel) ?_
    refine zt_cSz (pc' := 15) hX dX12_rest_12 rfl zm_yX12_isIn zw_27_7 (zc_X12_isIn _ _ σ  a2_ ⟨by omega, by omega⟩ 0 ⟨by omega, by omega⟩ 1 ⟨by omega, by omega⟩) rfl rfl (Nat.le_of_ble_eq_true rfl) (by decide) (fun r19 s20 hr21 hp22 => ?_)
    obtain ⟨rfl, q23, q24, z25⟩ := hp22
    refine zt_ifeq (pc' := 18) (tgt := 35) hX dX12_rest_15 rfl (by decide) ⟨by omega, by omega⟩ (fun c26 => ?_) (fun c26 => ?_)
    · refine zt_mask [true, false, false] rfl ?_
      exact J_35_7
    · refine zt_aload_n (pc' := 19) hX dX12_rest_18 rfl rfl ?_
      refine zt_get (pc' := 22) (v := .ref (X.1.1 + 203)) hX dX12_rest_19 rfl zf_X12_130 (by decide) zc_164 zs_46 (zrf_of (zv_46_52 hI zc_164)) ?_
      refine zt_bipush (pc' := 24) hX dX12_rest_22 rfl (by decide) (by decide) ?_
      refine zt_iconst (pc' := 25) hX dX12_rest_24 rfl ?_
      refine zt_iload_n (pc' := 26) hX dX12_rest_25 rfl rfl ?_
      refine zt_imul (pc' := 27) hX dX12_rest_26 rfl ?_
      refine zt_iadd (pc' := 28) hX dX12_rest_27 rfl ?_
      refine zt_iconst (pc' := 29) hX dX12_rest_28 rfl ?_
      refine zt_iadd (pc' := 30) hX dX12_rest_29 rfl ?_
      refine zt_iald (pc' := 31) hX dX12_rest_30 rfl (by decide) zc_203 zs_85 (by decide) ⟨by omega, by omega⟩ ?_
      have bv27 := zv_85 hI zc_203 (((37 + (3 * a1_)) + 2).toNat)
      generalize hv27 : σ 203 (((37 + (3 * a1_)) + 2).toNat) = v27 at bv27 ⊢
      refine zt_iload_n (pc' := 32) hX dX12_rest_31 rfl rfl ?_
      refine zt_icne (pc' := 35) (tgt := 40) hX dX12_rest_32 rfl (by decide) ⟨by omega, by omega⟩ ⟨by omega, by omega⟩ (fun c28 => ?_) (fun c28 => ?_)
      · refine zt_aload_n (pc' := 41) hX dX12_rest_40 rfl rfl ?_
        refine zt_cVv (pc' := 44) hX dX12_rest_41 rfl zm_yX12_keeps zw_60_23 zc_164 (by decide) zs_46 (q := (RX12, TX12, 108)) rfl rfl (zc_X12_keeps _ _ σ hI ) rfl rfl (Nat.le_of_ble_eq_true rfl) (by decide) (fun r29 s30 hr31 hp32 => ?_)
        obtain ⟨hI33, hF34⟩ := hp32
        have hF35 := zGM_tr hF hF34
        refine zt_aload_n (pc' := 45) hX dX12_rest_44 rfl rfl ?_
        refine zt_get (pc' := 48) (v := .ref (X.1.1 + 203)) hX dX12_rest_45 rfl zf_X12_130 (by decide) zc_164 zs_46 (zrf_of (zv_46_52 hI33 zc_164)) ?_
        refine zt_bipush (pc' := 50) hX dX12_rest_48 rfl (by decide) (by decide) ?_
        refine zt_iconst (pc' := 51) hX dX12_rest_50 rfl ?_
        refine zt_iload_n (pc' := 52) hX dX12_rest_51 rfl rfl ?_
        refine zt_imul (pc' := 53) hX dX12_rest_52 rfl ?_
        refine zt_iadd (pc' := 54) hX dX12_rest_53 rfl ?_
        refine zt_iconst (pc' := 55) hX dX12_rest_54 rfl ?_
        refine zt_iadd (pc' := 56) hX dX12_rest_55 rfl ?_
        refine zt_iload_n (pc' := 57) hX dX12_rest_56 rfl rfl ?_
        refine zt_iast (pc' := 58) hX dX12_rest_57 rfl (by decide) zc_203 zs_85 (by decide) ⟨by omega, by omega⟩ ?_
        generalize hs37 : zset s30 203 (((37 + (3 * a1_)) + 2).toNat) a2_ = s36
        have hI38 : zInv s36 := hs37 ▸ zp_85 hI33 zc_203 (((37 + (3 * a1_)) + 2).toNat) (by omega)
        have hF39 : zGM σ s36 := hs37 ▸ zGM_set hF35 zc_203 (by decide) zk_85 (Or.inl (by decide)) (by decide)
        refine zt_iconst (pc' := 59) hX dX12_rest_58 rfl ?_
        exact zt_zret hX hR dX12_rest_59 ⟨by omega, by omega⟩ ⟨hI38, hF39, by omega, by omega⟩
      · refine zt_mask [true, false, false] rfl ?_
        exact J_35_7

set_option maxRecDepth 100000 in
set_option maxHeartbeats 4000000 in
theorem zc_X12_go (l : Launch) (E : zEN) (σ : zSto) (hI : zInv σ) (a1_ : Int) (ha1_ : -2147483648 ≤ a1_ ∧ a1_ ≤ 2147483647) (a2_ : Int) (ha2_ : -2147483648 ≤ a2_ ∧ a2_ ≤ 2147483647) (a3_ : Int) (ha3_ : -2147483648 ≤ a3_ ∧ a3_ ≤ 2147483647) : zCt l E yX12_go cX12_go 5 (some .boolean) 2 zNC zNC 0 0 σ [.ref (E.1 + 164), .int (zI a1_), .int (zI a2_), .int (zI a3_)] (fun r σ' => zInv σ' ∧ zGM σ σ' ∧ 0 ≤ r ∧ r ≤ 1) := by
  refine zCt_of2 [some (.ref (E.1 + 164)), some (.int (zI a1_)), some (.int (zI a2_)), some (.int (zI a3_)), none] (by decide +kernel) (Nat.le_of_ble_eq_true rfl) rfl ?_
  intro X hE hX hR hL hN
  subst hE
  have hX : zok X cX12_go RX12 2 := hX
  have hF := zGM_rf σ
  refine zt_aload_n (pc' := 1) hX dX12_go_0 rfl rfl ?_
  refine zt_iload_n (pc' := 2) hX dX12_go_1 rfl rfl ?_
  refine zt_iload_n (pc' := 3) hX dX12_go_2 rfl rfl ?_
  refine zt_cVi (pc' := 6) hX dX12_go_3 rfl zm_yX12_cellAt zw_44_11 zc_164 (by decide) zs_46 (q := (RX12, TX12, 108)) rfl rfl (zc_X12_cellAt _ _ σ hI a2_ ⟨by omega, by omega⟩ a3_ ⟨by omega, by omega⟩) rfl rfl (Nat.le_of_ble_eq_true rfl) (by decide) (fun r1 s2 hr3 hp4 => ?_)
  obtain ⟨rfl, q5, q6⟩ := hp4
  refine zt_istore (pc' := 8) (lv' := [some (.ref (X.1.1 + 164)), some (.int (zI a1_)), some (.int (zI a2_)), some (.int (zI a3_)), some (.int (zI r1))]) hX dX12_go_6 rfl hL (by decide) rfl ?_
  refine zt_aload_n (pc' := 9) hX dX12_go_8 rfl rfl ?_
  refine zt_iload_n (pc' := 10) hX dX12_go_9 rfl rfl ?_
  refine zt_cVz (pc' := 13) hX dX12_go_10 rfl zm_yX12_isPerson zw_41_16 zc_164 (by decide) zs_46 (q := (RX12, TX12, 108)) rfl rfl (zc_X12_isPerson _ _ σ hI a1_ ⟨by omega, by omega⟩) rfl rfl (Nat.le_of_ble_eq_true rfl) (by decide) (fun r7 s8 hr9 hp10 => ?_)
  obtain ⟨rfl, q11, q12, z13⟩ := hp10
  have J_32_13 : zF X σ 32 [some (.ref (X.1.1 + 164)), none, none, none, none] [] := by
    refine zt_aload_n (pc' := 33) hX dX12_go_32 rfl rfl ?_
    refine zt_cVz (pc' := 36) hX dX12_go_33 rfl zm_yX12_isRefused zw_60_19 zc_164 (by decide) zs_46 (q := (RX12, TX12, 108)) rfl rfl (zc_X12_isRefused _ _ σ hI ) rfl rfl (Nat.le_of_ble_eq_true rfl) (by decide) (fun r15 s16 hr17 hp18 => ?_)
    obtain ⟨hI19, hF20, q21, q22⟩ := hp18
    have hF23 := zGM_tr hF hF20
    exact zt_zret hX hR dX12_go_36 ⟨by omega, by omega⟩ ⟨hI19, hF23, by omega, by omega⟩
  refine zt_ifeq (pc' := 16) (tgt := 32) hX dX12_go_13 rfl (by decide) ⟨by omega, by omega⟩ (fun c24 => ?_) (fun c24 => ?_)
  · refine zt_mask [true, false, false, false, false] rfl ?_
    exact J_32_13
  · refine zt_iload (pc' := 18) hX dX12_go_16 rfl rfl ?_
    refine zt_iconst (pc' := 19) hX dX12_go_18 rfl ?_
    refine zt_iceq (pc' := 22) (tgt := 32) hX dX12_go_19 rfl (by decide) ⟨by omega, by omega⟩ ⟨by omega, by omega⟩ (fun c25 => ?_) (fun c25 => ?_)
    · refine zt_mask [true, false, false, false, false] rfl ?_
      exact J_32_13
    · refine zt_aload_n (pc' := 23) hX dX12_go_22 rfl rfl ?_
      refine zt_iload (pc' := 25) hX dX12_go_23 rfl rfl ?_
      refine zt_cVi (pc' := 28) hX dX12_go_25 rfl zm_yX12_standsAt zw_45_12 zc_164 (by decide) zs_46 (q := (RX12, TX12, 108)) rfl rfl (zc_X12_standsAt _ _ σ hI r1 ⟨by omega, by omega⟩) rfl rfl (Nat.le_of_ble_eq_true rfl) (by decide) (fun r26 s27 hr28 hp29 => ?_)
      obtain ⟨rfl, q30, q31⟩ := hp29
      refine zt_iconst (pc' := 29) hX dX12_go_28 rfl ?_
      refine zt_iceq (pc' := 32) (tgt := 37) hX dX12_go_29 rfl (by decide) ⟨by omega, by omega⟩ ⟨by omega, by omega⟩ (fun c32 => ?_) (fun c32 => ?_)
      · refine zt_aload_n (pc' := 38) hX dX12_go_37 rfl rfl ?_
        refine zt_cVv (pc' := 41) hX dX12_go_38 rfl zm_yX12_keeps zw_60_23 zc_164 (by decide) zs_46 (q := (RX12, TX12, 108)) rfl rfl (zc_X12_keeps _ _ σ hI ) rfl rfl (Nat.le_of_ble_eq_true rfl) (by decide) (fun r33 s34 hr35 hp36 => ?_)
        obtain ⟨hI37, hF38⟩ := hp36
        have hF39 := zGM_tr hF hF38
        refine zt_aload_n (pc' := 42) hX dX12_go_41 rfl rfl ?_
        refine zt_get (pc' := 45) (v := .ref (X.1.1 + 203)) hX dX12_go_42 rfl zf_X12_130 (by decide) zc_164 zs_46 (zrf_of (zv_46_52 hI37 zc_164)) ?_
        refine zt_bipush (pc' := 47) hX dX12_go_45 rfl (by decide) (by decide) ?_
        refine zt_iconst (pc' := 48) hX dX12_go_47 rfl ?_
        refine zt_iload_n (pc' := 49) hX dX12_go_48 rfl rfl ?_
        refine zt_imul (pc' := 50) hX dX12_go_49 rfl ?_
        refine zt_iadd (pc' := 51) hX dX12_go_50 rfl ?_
        refine zt_iload (pc' := 53) hX dX12_go_51 rfl rfl ?_
        refine zt_iast (pc' := 54) hX dX12_go_53 rfl (by decide) zc_203 zs_85 (by decide) ⟨by omega, by omega⟩ ?_
        generalize hs41 : zset s34 203 ((37 + (3 * a1_)).toNat) r1 = s40
        have hI42 : zInv s40 := hs41 ▸ zp_85 hI37 zc_203 ((37 + (3 * a1_)).toNat) (by omega)
        have hF43 : zGM σ s40 := hs41 ▸ zGM_set hF39 zc_203 (by decide) zk_85 (Or.inl (by decide)) (by decide)
        refine zt_iconst (pc' := 55) hX dX12_go_54 rfl ?_
        exact zt_zret hX hR dX12_go_55 ⟨by omega, by omega⟩ ⟨hI42, hF43, by omega, by omega⟩
      · refine zt_mask [true, false, false, false, false] rfl ?_
        exact J_32_13

set_option maxRecDepth 100000 in
set_option maxHeartbeats 4000000 in
theorem zc_X12_mend (l : Launch) (E : zEN) (σ : zSto) (hI : zInv σ) (a1_ : Int) (ha1_ : -2147483648 ≤ a1_ ∧ a1_ ≤ 2147483647) (a2_ : Int) (ha2_ : -2147483648 ≤ a2_ ∧ a2_ ≤ 2147483647) : zCt l E yX12_mend cX12_mend 4 (some .boolean) 2 zNC zNC 0 0 σ [.ref (E.1 + 164), .int (zI a1_), .int (zI a2_)] (fun r σ' => zInv σ' ∧ zGM σ σ' ∧ 0 ≤ r ∧ r ≤ 1) := by
  refine zCt_of2 [some (.ref (E.1 + 164)), some (.int (zI a1_)), some (.int (zI a2_)), none] (by decide +kernel) (Nat.le_of_ble_eq_true rfl) rfl ?_
  intro X hE hX hR hL hN
  subst hE
  have hX : zok X cX12_mend RX12 2 := hX
  have hF := zGM_rf σ
  refine zt_aload_n (pc' := 1) hX dX12_mend_0 rfl rfl ?_
  refine zt_iload_n (pc' := 2) hX dX12_mend_1 rfl rfl ?_
  refine zt_iload_n (pc' := 3) hX dX12_mend_2 rfl rfl ?_
  refine zt_cVi (pc' := 6) hX dX12_mend_3 rfl zm_yX12_cellAt zw_44_11 zc_164 (by decide) zs_46 (q := (RX12, TX12, 108)) rfl rfl (zc_X12_cellAt _ _ σ hI a1_ ⟨by omega, by omega⟩ a2_ ⟨by omega, by omega⟩) rfl rfl (Nat.le_of_ble_eq_true rfl) (by decide) (fun r1 s2 hr3 hp4 => ?_)
  obtain ⟨rfl, q5, q6⟩ := hp4
  refine zt_istore_n (pc' := 7) (lv' := [some (.ref (X.1.1 + 164)), some (.int (zI a1_)), some (.int (zI a2_)), some (.int (zI r1))]) hX dX12_mend_6 rfl hL (by decide) rfl ?_
  refine zt_iload_n (pc' := 8) hX dX12_mend_7 rfl rfl ?_
  refine zt_iconst (pc' := 9) hX dX12_mend_8 rfl ?_
  have J_20_6 : zF X σ 20 [some (.ref (X.1.1 + 164)), none, none, none] [] := by
    refine zt_aload_n (pc' := 21) hX dX12_mend_20 rfl rfl ?_
    refine zt_cVz (pc' := 24) hX dX12_mend_21 rfl zm_yX12_isRefused zw_60_19 zc_164 (by decide) zs_46 (q := (RX12, TX12, 108)) rfl rfl (zc_X12_isRefused _ _ σ hI ) rfl rfl (Nat.le_of_ble_eq_true rfl) (by decide) (fun r8 s9 hr10 hp11 => ?_)
    obtain ⟨hI12, hF13, q14, q15⟩ := hp11
    have hF16 := zGM_tr hF hF13
    exact zt_zret hX hR dX12_mend_24 ⟨by omega, by omega⟩ ⟨hI12, hF16, by omega, by omega⟩
  refine zt_iceq (pc' := 12) (tgt := 20) hX dX12_mend_9 rfl (by decide) ⟨by omega, by omega⟩ ⟨by omega, by omega⟩ (fun c17 => ?_) (fun c17 => ?_)
  · refine zt_mask [true, false, false, false] rfl ?_
    exact J_20_6
  · refine zt_aload_n (pc' := 13) hX dX12_mend_12 rfl rfl ?_
    refine zt_iload_n (pc' := 14) hX dX12_mend_13 rfl rfl ?_
    refine zt_cVz (pc' := 17) hX dX12_mend_14 rfl zm_yX12_isCracked zw_45_3 zc_164 (by decide) zs_46 (q := (RX12, TX12, 108)) rfl rfl (zc_X12_isCracked _ _ σ hI r1 ⟨by omega, by omega⟩) rfl rfl (Nat.le_of_ble_eq_true rfl) (by decide) (fun r18 s19 hr20 hp21 => ?_)
    obtain ⟨rfl, q22, q23⟩ := hp21
    refine zt_ifne (pc' := 20) (tgt := 25) hX dX12_mend_17 rfl (by decide) ⟨by omega, by omega⟩ (fun c24 => ?_) (fun c24 => ?_)
    · refine zt_aload_n (pc' := 26) hX dX12_mend_25 rfl rfl ?_
      refine zt_cVv (pc' := 29) hX dX12_mend_26 rfl zm_yX12_keeps zw_60_23 zc_164 (by decide) zs_46 (q := (RX12, TX12, 108)) rfl rfl (zc_X12_keeps _ _ σ hI ) rfl rfl (Nat.le_of_ble_eq_true rfl) (by decide) (fun r25 s26 hr27 hp28 => ?_)
      obtain ⟨hI29, hF30⟩ := hp28
      have hF31 := zGM_tr hF hF30
      refine zt_aload_n (pc' := 30) hX dX12_mend_29 rfl rfl ?_
      refine zt_get (pc' := 33) (v := .ref (X.1.1 + 203)) hX dX12_mend_30 rfl zf_X12_130 (by decide) zc_164 zs_46 (zrf_of (zv_46_52 hI29 zc_164)) ?_
      refine zt_iconst (pc' := 34) hX dX12_mend_33 rfl ?_
      refine zt_iload_n (pc' := 35) hX dX12_mend_34 rfl rfl ?_
      refine zt_iadd (pc' := 36) hX dX12_mend_35 rfl ?_
      refine zt_iconst (pc' := 37) hX dX12_mend_36 rfl ?_
      refine zt_iast (pc' := 38) hX dX12_mend_37 rfl (by decide) zc_203 zs_85 (by decide) ⟨by omega, by omega⟩ ?_
      generalize hs33 : zset s26 203 ((1 + r1).toNat) 0 = s32
      have hI34 : zInv s32 := hs33 ▸ zp_85 hI29 zc_203 ((1 + r1).toNat) (by omega)
      have hF35 : zGM σ s32 := hs33 ▸ zGM_set hF31 zc_203 (by decide) zk_85 (Or.inl (by decide)) (by decide)
      refine zt_iconst (pc' := 39) hX dX12_mend_38 rfl ?_
      exact zt_zret hX hR dX12_mend_39 ⟨by omega, by omega⟩ ⟨hI34, hF35, by omega, by omega⟩
    · refine zt_mask [true, false, false, false] rfl ?_
      exact J_20_6

set_option maxRecDepth 100000 in
set_option maxHeartbeats 4000000 in
theorem zc_X12_seed (l : Launch) (E : zEN) (σ : zSto) (hI : zInv σ) (a1_ : Int) (ha1_ : -2147483648 ≤ a1_ ∧ a1_ ≤ 2147483647) : zCt l E yX12_seed cX12_seed 2 (some .boolean) 0 zNC zNC 0 0 σ [.ref (E.1 + 164), .int (zI a1_)] (fun r σ' => zInv σ' ∧ zGM σ σ' ∧ 0 ≤ r ∧ r ≤ 1 ∧ ((a1_ < 0 → r = 0) ∧ (0 ≤ a1_ → r = 1))) := by
  refine zCt_of2 [some (.ref (E.1 + 164)), some (.int (zI a1_))] (by decide +kernel) (Nat.le_of_ble_eq_true rfl) rfl ?_
  intro X hE hX hR hL hN
  subst hE
  have hX : zok X cX12_seed RX12 0 := hX
  have hF := zGM_rf σ
  refine zt_iload_n (pc' := 1) hX dX12_seed_0 rfl rfl ?_
  refine zt_ifge (pc' := 4) (tgt := 16) hX dX12_seed_1 rfl (by decide) ⟨by omega, by omega⟩ (fun c1 => ?_) (fun c1 => ?_)
  · refine zt_aload_n (pc' := 17) hX dX12_seed_16 rfl rfl ?_
    refine zt_iload_n (pc' := 18) hX dX12_seed_17 rfl rfl ?_
    refine zt_i2l (pc' := 19) hX dX12_seed_18 rfl ⟨by omega, by omega⟩ ?_
    refine zt_put (pc' := 22) (x := a1_) hX dX12_seed_19 rfl zf_X12_158 (by decide) zc_164 zs_46 (fun q hq => by cases hq; rfl) rfl rfl rfl ?_
    generalize hs3 : zset σ 164 72 a1_ = s2
    have hI4 : zInv s2 := hs3 ▸ zp_46_72 hI zc_164 ⟨by omega, by omega⟩
    have hF5 : zGM σ s2 := hs3 ▸ zGM_set hF zc_164 (by decide) zk_46 (Or.inr (by decide)) (by decide)
    refine zt_iconst (pc' := 23) hX dX12_seed_22 rfl ?_
    exact zt_zret hX hR dX12_seed_23 ⟨by omega, by omega⟩ ⟨hI4, hF5, by omega, by omega, by omega⟩
  · refine zt_aload_n (pc' := 5) hX dX12_seed_4 rfl rfl ?_
    refine zt_get (pc' := 8) (v := .ref (X.1.1 + 166)) hX dX12_seed_5 rfl zf_X12_17 (by decide) zc_164 zs_46 (zrf_of (zv_46_9 hI zc_164)) ?_
    refine zt_iconst (pc' := 9) hX dX12_seed_8 rfl ?_
    refine zt_dup2 (pc' := 10) hX dX12_seed_9 rfl rfl rfl ?_
    refine zt_iald (pc' := 11) hX dX12_seed_10 rfl (by decide) zc_166 zs_48 (by decide) ⟨by omega, by omega⟩ ?_
    rw [show Int.toNat 5 = 5 from rfl]
    have b7 := zv_48 hI zc_166 5
    refine zt_iconst (pc' := 12) hX dX12_seed_11 rfl ?_
    refine zt_iadd (pc' := 13) hX dX12_seed_12 rfl ?_
    refine zt_wrap (fun r8 zr8 lr8 ur8 => ?_)
    clear zr8
    refine zt_iast (pc' := 14) hX dX12_seed_13 rfl (by decide) zc_166 zs_48 (by decide) ⟨by omega, by omega⟩ ?_
    rw [show Int.toNat 5 = 5 from rfl]
    generalize hs10 : zset σ 166 5 r8 = s9
    have hI11 : zInv s9 := hs10 ▸ zp_48 hI zc_166 5 ⟨by omega, by omega⟩
    have hF12 : zGM σ s9 := hs10 ▸ zGM_set hF zc_166 (by decide) zk_48 (Or.inl (by decide)) (by decide)
    refine zt_iconst (pc' := 15) hX dX12_seed_14 rfl ?_
    exact zt_zret hX hR dX12_seed_15 ⟨by omega, by omega⟩ ⟨hI11, hF12, by omega, by omega, by omega⟩

set_option maxRecDepth 100000 in
set_option maxHeartbeats 4000000 in
theorem zc_X12_drawOf (l : Launch) (E : zEN) (σ : zSto) (hI : zInv σ) (a1_ : Int) (ha1_ : 1 ≤ a1_ ∧ a1_ ≤ 100) : zCt l E yX12_drawOf cX12_drawOf 2 (some .int) 0 zNC zNC 0 0 σ [.ref (E.1 + 164), .int (zI a1_)] (fun r σ' => zInv σ' ∧ zGM σ σ' ∧ 0 ≤ r ∧ r ≤ 99 ∧ (r < a1_)) := by
  refine zCt_of2 [some (.ref (E.1 + 164)), some (.int (zI a1_))] (by decide +kernel) (Nat.le_of_ble_eq_true rfl) rfl ?_
  intro X hE hX hR hL hN
  subst hE
  have hX : zok X cX12_drawOf RX12 0 := hX
  have hF := zGM_rf σ
  refine zt_aload_n (pc' := 1) hX dX12_drawOf_0 rfl rfl ?_
  refine zt_ldc2 (pc' := 4) (x := 1103515245) hX dX12_drawOf_1 rfl zw_63_10 (by decide +kernel) ?_
  refine zt_aload_n (pc' := 5) hX dX12_drawOf_4 rfl rfl ?_
  have b1 := zv_46_72 hI zc_164
  refine zt_get (pc' := 8) (v := .long (zJ (σ 164 72))) hX dX12_drawOf_5 rfl zf_X12_158 (by decide) zc_164 zs_46 rfl ?_
  refine zt_lmul (pc' := 9) hX dX12_drawOf_8 rfl ?_
  refine zt_ldc2 (pc' := 12) (x := 12345) hX dX12_drawOf_9 rfl zw_63_11 (by decide +kernel) ?_
  refine zt_ladd (pc' := 13) hX dX12_drawOf_12 rfl ?_
  refine zt_ldc2 (pc' := 16) (x := 2147483648) hX dX12_drawOf_13 rfl zw_63_12 (by decide +kernel) ?_
  refine zt_lremp (pc' := 17) hX dX12_drawOf_16 rfl ⟨by omega, by omega⟩ ⟨by omega, by omega⟩ (fun r2 er2 br2 nr2 => ?_)
  clear er2
  refine zt_put (pc' := 20) (x := r2) hX dX12_drawOf_17 rfl zf_X12_158 (by decide) zc_164 zs_46 (fun q hq => by cases hq; rfl) rfl rfl rfl ?_
  generalize hs4 : zset σ 164 72 r2 = s3
  have hI5 : zInv s3 := hs4 ▸ zp_46_72 hI zc_164 ⟨by omega, by omega⟩
  have hF6 : zGM σ s3 := hs4 ▸ zGM_set hF zc_164 (by decide) zk_46 (Or.inr (by decide)) (by decide)
  refine zt_aload_n (pc' := 21) hX dX12_drawOf_20 rfl rfl ?_
  have b7 := zv_46_72 hI5 zc_164
  have e8 : s3 164 72 = r2 := by rw [← hs4]; exact zset_s
  refine zt_get (pc' := 24) (v := .long (zJ (s3 164 72))) hX dX12_drawOf_21 rfl zf_X12_158 (by decide) zc_164 zs_46 rfl ?_
  refine zt_ldc2 (pc' := 27) (x := 64) hX dX12_drawOf_24 rfl zw_63_13 (by decide +kernel) ?_
  refine zt_ldivp (pc' := 28) hX dX12_drawOf_27 rfl ⟨by omega, by omega⟩ ⟨by omega, by omega⟩ (fun r9 er9 br9 => ?_)
  have fr9 : 0 ≤ (s3 164 72) → r9 = (s3 164 72) / 64 := fun h => by rw [er9, ztd_p h]
  refine zt_iload_n (pc' := 29) hX dX12_drawOf_28 rfl rfl ?_
  refine zt_i2l (pc' := 30) hX dX12_drawOf_29 rfl ⟨by omega, by omega⟩ ?_
  refine zt_lremp (pc' := 31) hX dX12_drawOf_30 rfl ⟨by omega, by omega⟩ ⟨by omega, by omega⟩ (fun r10 er10 br10 nr10 => ?_)
  clear er10
  refine zt_l2i (pc' := 32) hX dX12_drawOf_31 rfl ?_
  exact zt_iret hX hR dX12_drawOf_32 ⟨by omega, by omega⟩ ⟨hI5, hF6, by omega, by omega, by omega⟩

set_option maxRecDepth 100000 in
set_option maxHeartbeats 4000000 in
theorem zc_X12_fault (l : Launch) (E : zEN) (σ : zSto) (hI : zInv σ) (a1_ : Int) (ha1_ : -2147483648 ≤ a1_ ∧ a1_ ≤ 2147483647) : zCt l E yX12_fault cX12_fault 2 (some .int) 0 zNC zNC 0 0 σ [.ref (E.1 + 164), .int (zI a1_)] (fun r σ' => σ = σ' ∧ -2147483648 ≤ r ∧ r ≤ 2147483647) := by
  refine zCt_of2 [some (.ref (E.1 + 164)), some (.int (zI a1_))] (by decide +kernel) (Nat.le_of_ble_eq_true rfl) rfl ?_
  intro X hE hX hR hL hN
  subst hE
  have hX : zok X cX12_fault RX12 0 := hX
  refine zt_iload_n (pc' := 1) hX dX12_fault_0 rfl rfl ?_
  refine zt_ifne (pc' := 4) (tgt := 11) hX dX12_fault_1 rfl (by decide) ⟨by omega, by omega⟩ (fun c1 => ?_) (fun c1 => ?_)
  · refine zt_iload_n (pc' := 12) hX dX12_fault_11 rfl rfl ?_
    refine zt_iconst (pc' := 13) hX dX12_fault_12 rfl ?_
    refine zt_icne (pc' := 16) (tgt := 23) hX dX12_fault_13 rfl (by decide) ⟨by omega, by omega⟩ ⟨by omega, by omega⟩ (fun c2 => ?_) (fun c2 => ?_)
    · refine zt_iconst (pc' := 24) hX dX12_fault_23 rfl ?_
      exact zt_iret hX hR dX12_fault_24 ⟨by omega, by omega⟩ ⟨rfl, by omega, by omega⟩
    · refine zt_aload_n (pc' := 17) hX dX12_fault_16 rfl rfl ?_
      have b3 := zv_46_8 hI zc_164
      refine zt_get (pc' := 20) (v := .int (zI (σ 164 8))) hX dX12_fault_17 rfl zf_X12_13 (by decide) zc_164 zs_46 rfl ?_
      refine zt_goto (tgt := 24) hX dX12_fault_20 (by decide) ?_
      exact zt_iret hX hR dX12_fault_24 ⟨by omega, by omega⟩ ⟨rfl, by omega, by omega⟩
  · refine zt_aload_n (pc' := 5) hX dX12_fault_4 rfl rfl ?_
    have b4 := zv_46_7 hI zc_164
    refine zt_get (pc' := 8) (v := .int (zI (σ 164 7))) hX dX12_fault_5 rfl zf_X12_369 (by decide) zc_164 zs_46 rfl ?_
    refine zt_goto (tgt := 24) hX dX12_fault_8 (by decide) ?_
    exact zt_iret hX hR dX12_fault_24 ⟨by omega, by omega⟩ ⟨rfl, by omega, by omega⟩

set_option maxRecDepth 100000 in
set_option maxHeartbeats 4000000 in
theorem zc_X12_status (l : Launch) (E : zEN) (σ : zSto) (hI : zInv σ) (a1_ : Int) (ha1_ : -2147483648 ≤ a1_ ∧ a1_ ≤ 2147483647) : zCt l E yX12_status cX12_status 2 (some .int) 1 zNC zNC 0 0 σ [.ref (E.1 + 164), .int (zI a1_)] (fun r σ' => σ = σ' ∧ -2147483648 ≤ r ∧ r ≤ 2147483647) := by
  refine zCt_of2 [some (.ref (E.1 + 164)), some (.int (zI a1_))] (by decide +kernel) (Nat.le_of_ble_eq_true rfl) rfl ?_
  intro X hE hX hR hL hN
  subst hE
  have hX : zok X cX12_status RX12 1 := hX
  refine zt_iload_n (pc' := 1) hX dX12_status_0 rfl rfl ?_
  refine zt_i2l (pc' := 2) hX dX12_status_1 rfl ⟨by omega, by omega⟩ ?_
  refine zt_lconst (pc' := 3) (y := 0) hX dX12_status_2 rfl (by decide +kernel) ?_
  refine zt_ldc2 (pc' := 6) (x := 5) hX dX12_status_3 rfl zw_30_19 (by decide +kernel) ?_
  refine zt_cSz (pc' := 9) hX dX12_status_6 rfl zm_yX12_isIn zw_27_7 (zc_X12_isIn _ _ σ  a1_ ⟨by omega, by omega⟩ 0 ⟨by omega, by omega⟩ 5 ⟨by omega, by omega⟩) rfl rfl (Nat.le_of_ble_eq_true rfl) (by decide) (fun r1 s2 hr3 hp4 => ?_)
  obtain ⟨rfl, q5, q6, z7⟩ := hp4
  refine zt_ifeq (pc' := 12) (tgt := 21) hX dX12_status_9 rfl (by decide) ⟨by omega, by omega⟩ (fun c8 => ?_) (fun c8 => ?_)
  · refine zt_iconst (pc' := 22) hX dX12_status_21 rfl ?_
    exact zt_iret hX hR dX12_status_22 ⟨by omega, by omega⟩ ⟨rfl, by omega, by omega⟩
  · refine zt_aload_n (pc' := 13) hX dX12_status_12 rfl rfl ?_
    refine zt_get (pc' := 16) (v := .ref (X.1.1 + 166)) hX dX12_status_13 rfl zf_X12_17 (by decide) zc_164 zs_46 (zrf_of (zv_46_9 hI zc_164)) ?_
    refine zt_iload_n (pc' := 17) hX dX12_status_16 rfl rfl ?_
    refine zt_iald (pc' := 18) hX dX12_status_17 rfl (by decide) zc_166 zs_48 (by decide) ⟨by omega, by omega⟩ ?_
    generalize hv9 : σ 166 (a1_.toNat) = v9
    have bv9 : -2147483648 ≤ v9 ∧ v9 ≤ 2147483647 := hv9 ▸ zv_48 hI zc_166 _
    refine zt_goto (tgt := 22) hX dX12_status_18 (by decide) ?_
    exact zt_iret hX hR dX12_status_22 ⟨by omega, by omega⟩ ⟨rfl, by omega, by omega⟩

set_option maxRecDepth 100000 in
set_option maxHeartbeats 4000000 in
theorem zc_X12_octet (l : Launch) (E : zEN) (σ : zSto) (hI : zInv σ) (a1_ : Int) (ha1_ : -2147483648 ≤ a1_ ∧ a1_ ≤ 2147483647) : zCt l E yX12_octet cX12_octet 2 (some .int) 0 zNC zNC 0 0 σ [.ref (E.1 + 164), .int (zI a1_)] (fun r σ' => σ = σ' ∧ -2147483648 ≤ r ∧ r ≤ 2147483647) := by
  refine zCt_of2 [some (.ref (E.1 + 164)), some (.int (zI a1_))] (by decide +kernel) (Nat.le_of_ble_eq_true rfl) rfl ?_
  intro X hE hX hR hL hN
  subst hE
  have hX : zok X cX12_octet RX12 0 := hX
  refine zt_iload_n (pc' := 1) hX dX12_octet_0 rfl rfl ?_
  refine zt_iflt (pc' := 4) (tgt := 21) hX dX12_octet_1 rfl (by decide) ⟨by omega, by omega⟩ (fun c1 => ?_) (fun c1 => ?_)
  · refine zt_iconst (pc' := 22) hX dX12_octet_21 rfl ?_
    exact zt_iret hX hR dX12_octet_22 ⟨by omega, by omega⟩ ⟨rfl, by omega, by omega⟩
  · refine zt_iload_n (pc' := 5) hX dX12_octet_4 rfl rfl ?_
    refine zt_aload_n (pc' := 6) hX dX12_octet_5 rfl rfl ?_
    have b2 := zv_46_107 hI zc_164
    refine zt_get (pc' := 9) (v := .int (zI (σ 164 107))) hX dX12_octet_6 rfl zf_X12_653 (by decide) zc_164 zs_46 rfl ?_
    refine zt_icge (pc' := 12) (tgt := 21) hX dX12_octet_9 rfl (by decide) ⟨by omega, by omega⟩ ⟨by omega, by omega⟩ (fun c3 => ?_) (fun c3 => ?_)
    · refine zt_iconst (pc' := 22) hX dX12_octet_21 rfl ?_
      exact zt_iret hX hR dX12_octet_22 ⟨by omega, by omega⟩ ⟨rfl, by omega, by omega⟩
    · refine zt_aload_n (pc' := 13) hX dX12_octet_12 rfl rfl ?_
      refine zt_get (pc' := 16) (v := .ref (X.1.1 + 237)) hX dX12_octet_13 rfl zf_X12_240 (by decide) zc_164 zs_46 (zrf_of (zv_46_106 hI zc_164)) ?_
      refine zt_iload_n (pc' := 17) hX dX12_octet_16 rfl rfl ?_
      refine zt_iald (pc' := 18) hX dX12_octet_17 rfl (by decide) zc_237 zs_119 (by decide) ⟨by omega, by omega⟩ ?_
      generalize hv4 : σ 237 (a1_.toNat) = v4
      have bv4 : -2147483648 ≤ v4 ∧ v4 ≤ 2147483647 := hv4 ▸ zv_119 hI zc_237 _
      refine zt_goto (tgt := 22) hX dX12_octet_18 (by decide) ?_
      exact zt_iret hX hR dX12_octet_22 ⟨by omega, by omega⟩ ⟨rfl, by omega, by omega⟩

set_option maxRecDepth 100000 in
set_option maxHeartbeats 4000000 in
theorem zc_X12_writes (l : Launch) (E : zEN) (σ : zSto) (hI : zInv σ) (a1_ : Int) (ha1_ : -2147483648 ≤ a1_ ∧ a1_ ≤ 2147483647) (hpre0 : σ 164 107 ≤ 78) : zCt l E yX12_writes cX12_writes 2 none 0 zNC zNC 0 0 σ [.ref (E.1 + 164), .int (zI a1_)] (fun r σ' => zInv σ' ∧ zGM σ σ' ∧ (σ' 164 107 = σ 164 107 + 1)) := by
  refine zCt_of2 [some (.ref (E.1 + 164)), some (.int (zI a1_))] (by decide +kernel) (Nat.le_of_ble_eq_true rfl) rfl ?_
  intro X hE hX hR hL hN
  subst hE
  have hX : zok X cX12_writes RX12 0 := hX
  have hF := zGM_rf σ
  have b1 := zv_46_107 hI zc_164
  refine zt_aload_n (pc' := 1) hX dX12_writes_0 rfl rfl ?_
  refine zt_get (pc' := 4) (v := .ref (X.1.1 + 237)) hX dX12_writes_1 rfl zf_X12_240 (by decide) zc_164 zs_46 (zrf_of (zv_46_106 hI zc_164)) ?_
  refine zt_aload_n (pc' := 5) hX dX12_writes_4 rfl rfl ?_
  have b2 := zv_46_107 hI zc_164
  refine zt_get (pc' := 8) (v := .int (zI (σ 164 107))) hX dX12_writes_5 rfl zf_X12_653 (by decide) zc_164 zs_46 rfl ?_
  refine zt_iload_n (pc' := 9) hX dX12_writes_8 rfl rfl ?_
  refine zt_iast (pc' := 10) hX dX12_writes_9 rfl (by decide) zc_237 zs_119 (by decide) ⟨by omega, by omega⟩ ?_
  generalize hs4 : zset σ 237 ((σ 164 107).toNat) a1_ = s3
  have hI5 : zInv s3 := hs4 ▸ zp_119 hI zc_237 ((σ 164 107).toNat) ⟨by omega, by omega⟩
  have hF6 : zGM σ s3 := hs4 ▸ zGM_set hF zc_237 (by decide) zk_119 (Or.inl (by decide)) (by decide)
  have e7 : s3 164 107 = σ 164 107 := by rw [← hs4]; exact zset_k (zne_r zc_164 zc_237 (by decide))
  refine zt_aload_n (pc' := 11) hX dX12_writes_10 rfl rfl ?_
  refine zt_dup (pc' := 12) hX dX12_writes_11 rfl rfl ?_
  have b8 := zv_46_107 hI5 zc_164
  refine zt_get (pc' := 15) (v := .int (zI (s3 164 107))) hX dX12_writes_12 rfl zf_X12_653 (by decide) zc_164 zs_46 rfl ?_
  refine zt_iconst (pc' := 16) hX dX12_writes_15 rfl ?_
  refine zt_iadd (pc' := 17) hX dX12_writes_16 rfl ?_
  refine zt_put (pc' := 20) (x := ((s3 164 107) + 1)) hX dX12_writes_17 rfl zf_X12_653 (by decide) zc_164 zs_46 (fun q hq => by cases hq; rfl) rfl rfl rfl ?_
  generalize hs10 : zset s3 164 107 ((s3 164 107) + 1) = s9
  have hI11 : zInv s9 := hs10 ▸ zp_46_107 hI5 zc_164 ⟨by omega, by omega⟩
  have hF12 : zGM σ s9 := hs10 ▸ zGM_set hF6 zc_164 (by decide) zk_46 (Or.inr (by decide)) (by decide)
  have e13 : s9 164 107 = ((s3 164 107) + 1) := by rw [← hs10]; exact zset_s
  exact zt_vret hX hR dX12_writes_20 ⟨hI11, hF12, by omega⟩
