set_option maxRecDepth 100000 in
set_option maxHeartbeats 4000000 in
theorem yc_X12_cellTold (l : Launch) (E : zEN) (σ : zSto) (hI : zInv σ) (hpre0 : 2 ≤ σ 194 0 ∧ σ 194 0 ≤ 6 ∧ 2 ≤ σ 194 1 ∧ σ 194 1 ≤ 6) (f : Int → Int) (hT : yTq f σ) : zCt l E yX12_cellTold cX12_cellTold 3 (some .int) 2 zNC zNC 0 0 σ [.ref (E.1 + 164)] (fun r σ' => zInv σ' ∧ zOn zQ1 σ σ' ∧ 0 ≤ r ∧ r ≤ 35 ∧ yTq f σ' ∧ ((yqs f σ') = yPn f 0 (σ 194 1 - 1) (yPn f 0 (σ 194 0 - 1) (yqs f σ))) ∧ (yPo (yqs f σ') = 1 → r = yPv f (yqs f σ) + 6 * yPv f (yPn f 0 (σ 194 0 - 1) (yqs f σ)) ∧ σ' 164 10 = yPq (yPn f 0 (σ 194 0 - 1) (yqs f σ)))) := by
  refine zCt_of2 [some (.ref (E.1 + 164)), none, none] (by decide +kernel) (Nat.le_of_ble_eq_true rfl) rfl ?_
  intro X hE_ hX hR hL hN
  subst hE_
  have hX : zok X cX12_cellTold RX12 2 := hX
  have hF := zOn_rf zQ1 σ
  have hE0 : yqs f σ = yqs f σ := rfl
  have b1 := zv_46_5 hI zc_164
  refine zt_aload_n (pc' := 1) hX dX12_cellTold_0 rfl rfl ?_
  refine zt_iconst (pc' := 2) hX dX12_cellTold_1 rfl ?_
  refine zt_aload_n (pc' := 3) hX dX12_cellTold_2 rfl rfl ?_
  refine zt_get (pc' := 6) (v := .ref (X.1.1 + 194)) hX dX12_cellTold_3 rfl zf_X12_102 (by decide) zc_164 zs_46 (zrf_of (zv_46_39 hI zc_164)) ?_
  refine zt_iconst (pc' := 7) hX dX12_cellTold_6 rfl ?_
  refine zt_iald (pc' := 8) hX dX12_cellTold_7 rfl (by decide) zc_194 zs_76 (by decide) ⟨by omega, by omega⟩ ?_
  rw [show Int.toNat 0 = 0 from rfl]
  have b3 := zv_76 hI zc_194 0
  refine zt_iconst (pc' := 9) hX dX12_cellTold_8 rfl ?_
  refine zt_isub (pc' := 10) hX dX12_cellTold_9 rfl ?_
  refine zt_cVi (pc' := 13) hX dX12_cellTold_10 rfl zm_yX12_number zw_26_23 zc_164 (by decide) zs_46 (q := (RX12, TX12, 108)) rfl rfl (yc_X12_number _ _ σ hI 0 ⟨by omega, by omega⟩ ((σ 194 0) - 1) ⟨by omega, by omega⟩ f hT) rfl rfl (Nat.le_of_ble_eq_true rfl) (by decide) (fun r4 s5 hr6 hp7 => ?_)
  obtain ⟨hI8, hF9, q10, q11, hT12, z13, z14⟩ := hp7
  have hE15 : yqs f s5 = yPn f 0 ((σ 194 0) - 1) (yqs f σ) := z13
  have hF16 := zOn_tr hF hF9 zi_id
  rw [hE15] at z14
  have b17 := zv_46_5 hI8 zc_164
  have e18 := hF9 194 0 rfl
  have e19 := hF9 194 1 rfl
  have u20 := yHb hT12 hE15
  refine zt_istore_n (pc' := 14) (lv' := [some (.ref (X.1.1 + 164)), some (.int (zI r4)), none]) hX dX12_cellTold_13 rfl hL (by decide) rfl ?_
  refine zt_aload_n (pc' := 15) hX dX12_cellTold_14 rfl rfl ?_
  refine zt_iconst (pc' := 16) hX dX12_cellTold_15 rfl ?_
  refine zt_aload_n (pc' := 17) hX dX12_cellTold_16 rfl rfl ?_
  refine zt_get (pc' := 20) (v := .ref (X.1.1 + 194)) hX dX12_cellTold_17 rfl zf_X12_102 (by decide) zc_164 zs_46 (zrf_of (zv_46_39 hI8 zc_164)) ?_
  refine zt_iconst (pc' := 21) hX dX12_cellTold_20 rfl ?_
  refine zt_iald (pc' := 22) hX dX12_cellTold_21 rfl (by decide) zc_194 zs_76 (by decide) ⟨by omega, by omega⟩ ?_
  rw [show Int.toNat 1 = 1 from rfl]
  have b22 := zv_76 hI8 zc_194 1
  refine zt_iconst (pc' := 23) hX dX12_cellTold_22 rfl ?_
  refine zt_isub (pc' := 24) hX dX12_cellTold_23 rfl ?_
  refine zt_cVi (pc' := 27) hX dX12_cellTold_24 rfl zm_yX12_number zw_26_23 zc_164 (by decide) zs_46 (q := (RX12, TX12, 108)) rfl rfl (yc_X12_number _ _ s5 hI8 0 ⟨by omega, by omega⟩ ((s5 194 1) - 1) ⟨by omega, by omega⟩ f hT12) rfl rfl (Nat.le_of_ble_eq_true rfl) (by decide) (fun r23 s24 hr25 hp26 => ?_)
  obtain ⟨hI27, hF28, q29, q30, hT31, z32, z33⟩ := hp26
  have hE34 : yqs f s24 = yPn f 0 ((s5 194 1) - 1) (yPn f 0 ((σ 194 0) - 1) (yqs f σ)) := by rw [z32, hE15]
  rw [hE15] at z33
  have hF35 := zOn_tr hF16 hF28 zi_id
  rw [hE34] at z33
  have b36 := zv_46_5 hI27 zc_164
  have e37 := hF28 194 0 rfl
  have e38 := hF28 194 1 rfl
  have u39 := yHb hT31 hE34
  have hbx : yPo (yPn f 0 ((s5 194 1) - 1) (yPn f 0 ((σ 194 0) - 1) (yqs f σ))) = 1 → (0 ≤ r4 ∧ r4 ≤ 5) ∧ 0 ≤ r23 ∧ r23 ≤ 5 := fun o => by have y := z33 o; have x := z14 (yPo_n o); omega
  refine zt_istore_n (pc' := 28) (lv' := [some (.ref (X.1.1 + 164)), some (.int (zI r4)), some (.int (zI r23))]) hX dX12_cellTold_27 rfl hL (by decide) rfl ?_
  refine zt_aload_n (pc' := 29) hX dX12_cellTold_28 rfl rfl ?_
  have b40 := zv_46_5 hI27 zc_164
  refine zt_get (pc' := 32) (v := .int (zI (s24 164 5))) hX dX12_cellTold_29 rfl zf_X12_246 (by decide) zc_164 zs_46 rfl ?_
  refine zt_ifne (pc' := 35) (tgt := 44) hX dX12_cellTold_32 rfl (by decide) ⟨by omega, by omega⟩ (fun c41 => ?_) (fun c41 => ?_)
  · refine zt_iconst (pc' := 45) hX dX12_cellTold_44 rfl ?_
    exact zt_iret hX hR dX12_cellTold_45 ⟨by omega, by omega⟩ ⟨hI27, hF35, by omega, by omega, hT31, hE34.trans (by rw [show s5 194 1 = σ 194 1 by omega]), (fun o => by rw [hE34] at o; omega)⟩
  · refine zt_iload_n (pc' := 36) hX dX12_cellTold_35 rfl rfl ?_
    refine zt_bipush (pc' := 38) hX dX12_cellTold_36 rfl (by decide) (by decide) ?_
    refine zt_iload_n (pc' := 39) hX dX12_cellTold_38 rfl rfl ?_
    refine zt_imul (pc' := 40) hX dX12_cellTold_39 rfl ?_
    refine zt_iadd (pc' := 41) hX dX12_cellTold_40 rfl ?_
    refine zt_goto (tgt := 45) hX dX12_cellTold_41 (by decide) ?_
    exact zt_iret hX hR dX12_cellTold_45 ⟨by omega, by omega⟩ ⟨hI27, hF35, by omega, by omega, hT31, hE34.trans (by rw [show s5 194 1 = σ 194 1 by omega]), (fun o => by rw [hE34] at o; obtain ⟨y1, y2, y3, y4⟩ := z33 o; obtain ⟨x1, x2, x3, x4⟩ := z14 (yPo_n o); exact ⟨by omega, y2⟩)⟩
set_option maxRecDepth 100000 in
set_option maxHeartbeats 4000000 in
theorem yc_X12_heavyTold (l : Launch) (E : zEN) (σ : zSto) (hI : zInv σ) (hpre0 : 2 ≤ σ 194 0 ∧ σ 194 0 ≤ 6 ∧ 2 ≤ σ 194 1 ∧ σ 194 1 ≤ 6) (f : Int → Int) (hT : yTq f σ) : zCt l E yX12_heavyTold cX12_heavyTold 3 none 3 zNC zNC 0 0 σ [.ref (E.1 + 164)] (fun r σ' => zInv σ' ∧ zOn zQh σ σ' ∧ yTq f σ' ∧ ((yqs f σ') = yPn f 0 99 (yPn f 0 (σ 194 1 - 1) (yPn f 0 (σ 194 0 - 1) (yqs f σ))))) := by
  refine zCt_of2 [some (.ref (E.1 + 164)), none, none] (by decide +kernel) (Nat.le_of_ble_eq_true rfl) rfl ?_
  intro X hE_ hX hR hL hN
  subst hE_
  have hX : zok X cX12_heavyTold RX12 3 := hX
  have hF := zOn_rf zQh σ
  have hE0 : yqs f σ = yqs f σ := rfl
  have b1 := zv_46_5 hI zc_164
  refine zt_aload_n (pc' := 1) hX dX12_heavyTold_0 rfl rfl ?_
  refine zt_cVi (pc' := 4) hX dX12_heavyTold_1 rfl zm_yX12_cellTold zw_28_2 zc_164 (by decide) zs_46 (q := (RX12, TX12, 108)) rfl rfl (yc_X12_cellTold _ _ σ hI (by omega) f hT) rfl rfl (Nat.le_of_ble_eq_true rfl) (by decide) (fun r2 s3 hr4 hp5 => ?_)
  obtain ⟨hI6, hF7, q8, q9, hT10, z11, z12⟩ := hp5
  have hE13 : yqs f s3 = yPn f 0 ((σ 194 1) - 1) (yPn f 0 ((σ 194 0) - 1) (yqs f σ)) := z11
  have hF14 := zOn_tr hF hF7 zi_1h
  rw [hE13] at z12
  have b15 := zv_46_5 hI6 zc_164
  have e16 := hF7 194 0 rfl
  have e17 := hF7 194 1 rfl
  have u18 := yHb hT10 hE13
  refine zt_istore_n (pc' := 5) (lv' := [some (.ref (X.1.1 + 164)), some (.int (zI r2)), none]) hX dX12_heavyTold_4 rfl hL (by decide) rfl ?_
  refine zt_aload_n (pc' := 6) hX dX12_heavyTold_5 rfl rfl ?_
  refine zt_iconst (pc' := 7) hX dX12_heavyTold_6 rfl ?_
  refine zt_bipush (pc' := 9) hX dX12_heavyTold_7 rfl (by decide) (by decide) ?_
  refine zt_cVi (pc' := 12) hX dX12_heavyTold_9 rfl zm_yX12_number zw_26_23 zc_164 (by decide) zs_46 (q := (RX12, TX12, 108)) rfl rfl (yc_X12_number _ _ s3 hI6 0 ⟨by omega, by omega⟩ 99 ⟨by omega, by omega⟩ f hT10) rfl rfl (Nat.le_of_ble_eq_true rfl) (by decide) (fun r19 s20 hr21 hp22 => ?_)
  obtain ⟨hI23, hF24, q25, q26, hT27, z28, z29⟩ := hp22
  have hE30 : yqs f s20 = yPn f 0 99 (yPn f 0 ((σ 194 1) - 1) (yPn f 0 ((σ 194 0) - 1) (yqs f σ))) := by rw [z28, hE13]
  rw [hE13] at z29
  have hF31 := zOn_tr hF14 hF24 zi_1h
  rw [hE30] at z29
  have b32 := zv_46_5 hI23 zc_164
  have e33 := hF24 194 0 rfl
  have e34 := hF24 194 1 rfl
  have u35 := yHb hT27 hE30
  refine zt_istore_n (pc' := 13) (lv' := [some (.ref (X.1.1 + 164)), some (.int (zI r2)), some (.int (zI r19))]) hX dX12_heavyTold_12 rfl hL (by decide) rfl ?_
  refine zt_aload_n (pc' := 14) hX dX12_heavyTold_13 rfl rfl ?_
  have b36 := zv_46_5 hI23 zc_164
  refine zt_get (pc' := 17) (v := .int (zI (s20 164 5))) hX dX12_heavyTold_14 rfl zf_X12_246 (by decide) zc_164 zs_46 rfl ?_
  refine zt_ifne (pc' := 20) (tgt := 27) hX dX12_heavyTold_17 rfl (by decide) ⟨by omega, by omega⟩ (fun c37 => ?_) (fun c37 => ?_)
  · exact zt_vret hX hR dX12_heavyTold_27 ⟨hI23, hF31, hT27, hE30⟩
  · refine zt_aload_n (pc' := 21) hX dX12_heavyTold_20 rfl rfl ?_
    refine zt_get (pc' := 24) (v := .ref (X.1.1 + 197)) hX dX12_heavyTold_21 rfl zf_X12_112 (by decide) zc_164 zs_46 (zrf_of (zv_46_42 hI23 zc_164)) ?_
    refine zt_iload_n (pc' := 25) hX dX12_heavyTold_24 rfl rfl ?_
    refine zt_iload_n (pc' := 26) hX dX12_heavyTold_25 rfl rfl ?_
    refine zt_iast (pc' := 27) hX dX12_heavyTold_26 rfl (by decide) zc_197 zs_79 (by decide) ⟨by omega, by omega⟩ ?_
    generalize hs39 : zset s20 197 (r2.toNat) r19 = s38
    have hI40 : zInv s38 := hs39 ▸ zp_79 hI23 zc_197 (r2.toNat) ⟨by omega, by omega⟩
    have hF41 : zOn zQh σ s38 := hs39 ▸ zOn_set hF31 (zqh_197 (by omega))
    have hT42 := yTq_rk hT27 (yRq_set hs39 zc_197 (by decide))
    have hE43 : yqs f s38 = yPn f 0 99 (yPn f 0 ((σ 194 1) - 1) (yPn f 0 ((σ 194 0) - 1) (yqs f σ))) := (yqs_rk (yRq_set hs39 zc_197 (by decide))).trans hE30
    have e44 : s38 164 5 = s20 164 5 := by rw [← hs39]; exact zset_k (zne_r zc_164 zc_197 (by decide))
    have e45 : s38 194 0 = s20 194 0 := by rw [← hs39]; exact zset_k (zne_r zc_194 zc_197 (by decide))
    have e46 : s38 194 1 = s20 194 1 := by rw [← hs39]; exact zset_k (zne_r zc_194 zc_197 (by decide))
    exact zt_vret hX hR dX12_heavyTold_27 ⟨hI40, hF41, hT42, hE43⟩
set_option maxRecDepth 100000 in
set_option maxHeartbeats 4000000 in
theorem yc_X12_paneTold (l : Launch) (E : zEN) (σ : zSto) (hI : zInv σ) (f : Int → Int) (hT : yTq f σ) (hWd : yWd σ) : zCt l E yX12_paneTold cX12_paneTold 1 none 4 zNC zNC 0 0 σ [.ref (E.1 + 164)] (fun r σ' => zInv σ' ∧ zOn zQ7 σ σ' ∧ yTq f σ' ∧ ((yqs f σ') = yPs f 59 (yPan f (yqs f σ))) ∧ (yPo (yqs f σ') = 1 → σ' 194 0 = yPv f (yPa1 f (yqs f σ)) ∧ σ' 194 1 = yPv f (yPa2 f (yqs f σ)) ∧ (2 ≤ σ' 194 0 ∧ σ' 194 0 ≤ 6 ∧ 2 ≤ σ' 194 1 ∧ σ' 194 1 ≤ 6))) := by
  refine zCt_of2 [some (.ref (E.1 + 164))] (by decide +kernel) (Nat.le_of_ble_eq_true rfl) rfl ?_
  intro X hE_ hX hR hL hN
  subst hE_
  have hX : zok X cX12_paneTold RX12 4 := hX
  have hF := zOn_rf zQ7 σ
  have hE0 : yqs f σ = yqs f σ := rfl
  have b1 := zv_46_5 hI zc_164
  refine zt_aload_n (pc' := 1) hX dX12_paneTold_0 rfl rfl ?_
  refine zt_aload_n (pc' := 2) hX dX12_paneTold_1 rfl rfl ?_
  refine zt_get (pc' := 5) (v := .ref (X.1.1 + 167)) hX dX12_paneTold_2 rfl zf_X12_20 (by decide) zc_164 zs_46 (zrf_of (zv_46_11 hI zc_164)) ?_
  refine zt_cVv (pc' := 8) hX dX12_paneTold_5 rfl zm_yX12_asks zw_26_0 zc_164 (by decide) zs_46 (q := (RX12, TX12, 108)) rfl rfl (yc_X12_asks _ _ σ hI 167 49 4 zc_167 (by decide) zs_49 (by decide) f hT 0 (yrow_167 hWd) (by decide)) rfl rfl (Nat.le_of_ble_eq_true rfl) (by decide) (fun r2 s3 hr4 hp5 => ?_)
  obtain ⟨hI6, hF7, hT8, z9⟩ := hp5
  have hE10 : yqs f s3 = yPw f 0 (yqs f σ) := z9
  have hF11 := zOn_tr hF hF7 zi_17
  have b12 := zv_46_5 hI6 zc_164
  have e13 := hF7 194 0 rfl
  have e14 := hF7 194 1 rfl
  have u15 := yHb hT8 hE10
  refine zt_aload_n (pc' := 9) hX dX12_paneTold_8 rfl rfl ?_
  refine zt_get (pc' := 12) (v := .ref (X.1.1 + 194)) hX dX12_paneTold_9 rfl zf_X12_102 (by decide) zc_164 zs_46 (zrf_of (zv_46_39 hI6 zc_164)) ?_
  refine zt_iconst (pc' := 13) hX dX12_paneTold_12 rfl ?_
  refine zt_aload_n (pc' := 14) hX dX12_paneTold_13 rfl rfl ?_
  refine zt_iconst (pc' := 15) hX dX12_paneTold_14 rfl ?_
  refine zt_bipush (pc' := 17) hX dX12_paneTold_15 rfl (by decide) (by decide) ?_
  refine zt_cVi (pc' := 20) hX dX12_paneTold_17 rfl zm_yX12_number zw_26_23 zc_164 (by decide) zs_46 (q := (RX12, TX12, 108)) rfl rfl (yc_X12_number _ _ s3 hI6 2 ⟨by omega, by omega⟩ 6 ⟨by omega, by omega⟩ f hT8) rfl rfl (Nat.le_of_ble_eq_true rfl) (by decide) (fun r16 s17 hr18 hp19 => ?_)
  obtain ⟨hI20, hF21, q22, q23, hT24, z25, z26⟩ := hp19
  have hE27 : yqs f s17 = yPn f 2 6 (yPw f 0 (yqs f σ)) := by rw [z25, hE10]
  rw [hE10] at z26
  have hF28 := zOn_tr hF11 hF21 zi_17
  rw [hE27] at z26
  have b29 := zv_46_5 hI20 zc_164
  have e30 := hF21 194 0 rfl
  have e31 := hF21 194 1 rfl
  have u32 := yHb hT24 hE27
  refine zt_iast (pc' := 21) hX dX12_paneTold_20 rfl (by decide) zc_194 zs_76 (by decide) ⟨by omega, by omega⟩ ?_
  rw [show Int.toNat 0 = 0 from rfl]
  generalize hs34 : zset s17 194 0 r16 = s33
  have hI35 : zInv s33 := hs34 ▸ zp_76 hI20 zc_194 0 (by omega)
  have hF36 : zOn zQ7 σ s33 := hs34 ▸ zOn_set hF28 (by decide)
  have hT37 := yTq_rk hT24 (yRq_set hs34 zc_194 (by decide))
  have hE38 : yqs f s33 = yPn f 2 6 (yPw f 0 (yqs f σ)) := (yqs_rk (yRq_set hs34 zc_194 (by decide))).trans hE27
  have e39 : s33 164 5 = s17 164 5 := by rw [← hs34]; exact zset_k (zne_r zc_164 zc_194 (by decide))
  have e40 : s33 194 0 = r16 := by rw [← hs34]; exact zset_s
  have e41 : s33 194 1 = s17 194 1 := by rw [← hs34]; exact zset_j (by decide)
  refine zt_aload_n (pc' := 22) hX dX12_paneTold_21 rfl rfl ?_
  refine zt_aload_n (pc' := 23) hX dX12_paneTold_22 rfl rfl ?_
  refine zt_get (pc' := 26) (v := .ref (X.1.1 + 168)) hX dX12_paneTold_23 rfl zf_X12_24 (by decide) zc_164 zs_46 (zrf_of (zv_46_12 hI35 zc_164)) ?_
  refine zt_cVv (pc' := 29) hX dX12_paneTold_26 rfl zm_yX12_asks zw_26_0 zc_164 (by decide) zs_46 (q := (RX12, TX12, 108)) rfl rfl (yc_X12_asks _ _ s33 hI35 168 50 2 zc_168 (by decide) zs_50 (by decide) f hT37 1 (yrow_168 (yWd_3 hWd (zOn_up hF36 zi_73))) (by decide)) rfl rfl (Nat.le_of_ble_eq_true rfl) (by decide) (fun r42 s43 hr44 hp45 => ?_)
  obtain ⟨hI46, hF47, hT48, z49⟩ := hp45
  have hE50 : yqs f s43 = yPw f 1 (yPn f 2 6 (yPw f 0 (yqs f σ))) := by rw [z49, hE38]
  have hF51 := zOn_tr hF36 hF47 zi_17
  have b52 := zv_46_5 hI46 zc_164
  have e53 := hF47 194 0 rfl
  have e54 := hF47 194 1 rfl
  have u55 := yHb hT48 hE50
  refine zt_aload_n (pc' := 30) hX dX12_paneTold_29 rfl rfl ?_
  refine zt_get (pc' := 33) (v := .ref (X.1.1 + 194)) hX dX12_paneTold_30 rfl zf_X12_102 (by decide) zc_164 zs_46 (zrf_of (zv_46_39 hI46 zc_164)) ?_
  refine zt_iconst (pc' := 34) hX dX12_paneTold_33 rfl ?_
  refine zt_aload_n (pc' := 35) hX dX12_paneTold_34 rfl rfl ?_
  refine zt_iconst (pc' := 36) hX dX12_paneTold_35 rfl ?_
  refine zt_bipush (pc' := 38) hX dX12_paneTold_36 rfl (by decide) (by decide) ?_
  refine zt_cVi (pc' := 41) hX dX12_paneTold_38 rfl zm_yX12_number zw_26_23 zc_164 (by decide) zs_46 (q := (RX12, TX12, 108)) rfl rfl (yc_X12_number _ _ s43 hI46 2 ⟨by omega, by omega⟩ 6 ⟨by omega, by omega⟩ f hT48) rfl rfl (Nat.le_of_ble_eq_true rfl) (by decide) (fun r56 s57 hr58 hp59 => ?_)
  obtain ⟨hI60, hF61, q62, q63, hT64, z65, z66⟩ := hp59
  have hE67 : yqs f s57 = yPn f 2 6 (yPw f 1 (yPn f 2 6 (yPw f 0 (yqs f σ)))) := by rw [z65, hE50]
  rw [hE50] at z66
  have hF68 := zOn_tr hF51 hF61 zi_17
  rw [hE67] at z66
  have b69 := zv_46_5 hI60 zc_164
  have e70 := hF61 194 0 rfl
  have e71 := hF61 194 1 rfl
  have u72 := yHb hT64 hE67
  refine zt_iast (pc' := 42) hX dX12_paneTold_41 rfl (by decide) zc_194 zs_76 (by decide) ⟨by omega, by omega⟩ ?_
  rw [show Int.toNat 1 = 1 from rfl]
  generalize hs74 : zset s57 194 1 r56 = s73
  have hI75 : zInv s73 := hs74 ▸ zp_76 hI60 zc_194 1 (by omega)
  have hF76 : zOn zQ7 σ s73 := hs74 ▸ zOn_set hF68 (by decide)
  have hT77 := yTq_rk hT64 (yRq_set hs74 zc_194 (by decide))
  have hE78 : yqs f s73 = yPn f 2 6 (yPw f 1 (yPn f 2 6 (yPw f 0 (yqs f σ)))) := (yqs_rk (yRq_set hs74 zc_194 (by decide))).trans hE67
  have e79 : s73 164 5 = s57 164 5 := by rw [← hs74]; exact zset_k (zne_r zc_164 zc_194 (by decide))
  have e80 : s73 194 0 = s57 194 0 := by rw [← hs74]; exact zset_j (by decide)
  have e81 : s73 194 1 = r56 := by rw [← hs74]; exact zset_s
  refine zt_aload_n (pc' := 43) hX dX12_paneTold_42 rfl rfl ?_
  refine zt_aload_n (pc' := 44) hX dX12_paneTold_43 rfl rfl ?_
  refine zt_get (pc' := 47) (v := .ref (X.1.1 + 169)) hX dX12_paneTold_44 rfl zf_X12_27 (by decide) zc_164 zs_46 (zrf_of (zv_46_13 hI75 zc_164)) ?_
  refine zt_cVv (pc' := 50) hX dX12_paneTold_47 rfl zm_yX12_asks zw_26_0 zc_164 (by decide) zs_46 (q := (RX12, TX12, 108)) rfl rfl (yc_X12_asks _ _ s73 hI75 169 51 5 zc_169 (by decide) zs_51 (by decide) f hT77 2 (yrow_169 (yWd_3 hWd (zOn_up hF76 zi_73))) (by decide)) rfl rfl (Nat.le_of_ble_eq_true rfl) (by decide) (fun r82 s83 hr84 hp85 => ?_)
  obtain ⟨hI86, hF87, hT88, z89⟩ := hp85
  have hE90 : yqs f s83 = yPw f 2 (yPn f 2 6 (yPw f 1 (yPn f 2 6 (yPw f 0 (yqs f σ))))) := by rw [z89, hE78]
  have hF91 := zOn_tr hF76 hF87 zi_17
  have b92 := zv_46_5 hI86 zc_164
  have e93 := hF87 194 0 rfl
  have e94 := hF87 194 1 rfl
  have u95 := yHb hT88 hE90
  refine zt_aload_n (pc' := 51) hX dX12_paneTold_50 rfl rfl ?_
  refine zt_get (pc' := 54) (v := .ref (X.1.1 + 194)) hX dX12_paneTold_51 rfl zf_X12_102 (by decide) zc_164 zs_46 (zrf_of (zv_46_39 hI86 zc_164)) ?_
  refine zt_iconst (pc' := 55) hX dX12_paneTold_54 rfl ?_
  refine zt_aload_n (pc' := 56) hX dX12_paneTold_55 rfl rfl ?_
  refine zt_iconst (pc' := 57) hX dX12_paneTold_56 rfl ?_
  refine zt_bipush (pc' := 59) hX dX12_paneTold_57 rfl (by decide) (by decide) ?_
  refine zt_cVi (pc' := 62) hX dX12_paneTold_59 rfl zm_yX12_number zw_26_23 zc_164 (by decide) zs_46 (q := (RX12, TX12, 108)) rfl rfl (yc_X12_number _ _ s83 hI86 0 ⟨by omega, by omega⟩ 99 ⟨by omega, by omega⟩ f hT88) rfl rfl (Nat.le_of_ble_eq_true rfl) (by decide) (fun r96 s97 hr98 hp99 => ?_)
  obtain ⟨hI100, hF101, q102, q103, hT104, z105, z106⟩ := hp99
  have hE107 : yqs f s97 = yPn f 0 99 (yPw f 2 (yPn f 2 6 (yPw f 1 (yPn f 2 6 (yPw f 0 (yqs f σ)))))) := by rw [z105, hE90]
  rw [hE90] at z106
  have hF108 := zOn_tr hF91 hF101 zi_17
  rw [hE107] at z106
  have b109 := zv_46_5 hI100 zc_164
  have e110 := hF101 194 0 rfl
  have e111 := hF101 194 1 rfl
  have u112 := yHb hT104 hE107
  refine zt_iast (pc' := 63) hX dX12_paneTold_62 rfl (by decide) zc_194 zs_76 (by decide) ⟨by omega, by omega⟩ ?_
  rw [show Int.toNat 2 = 2 from rfl]
  generalize hs114 : zset s97 194 2 r96 = s113
  have hI115 : zInv s113 := hs114 ▸ zp_76 hI100 zc_194 2 (by omega)
  have hF116 : zOn zQ7 σ s113 := hs114 ▸ zOn_set hF108 (by decide)
  have hT117 := yTq_rk hT104 (yRq_set hs114 zc_194 (by decide))
  have hE118 : yqs f s113 = yPn f 0 99 (yPw f 2 (yPn f 2 6 (yPw f 1 (yPn f 2 6 (yPw f 0 (yqs f σ)))))) := (yqs_rk (yRq_set hs114 zc_194 (by decide))).trans hE107
  have e119 : s113 164 5 = s97 164 5 := by rw [← hs114]; exact zset_k (zne_r zc_164 zc_194 (by decide))
  have e120 : s113 194 0 = s97 194 0 := by rw [← hs114]; exact zset_j (by decide)
  have e121 : s113 194 1 = s97 194 1 := by rw [← hs114]; exact zset_j (by decide)
  refine zt_aload_n (pc' := 64) hX dX12_paneTold_63 rfl rfl ?_
  refine zt_bipush (pc' := 66) hX dX12_paneTold_64 rfl (by decide) (by decide) ?_
  refine zt_cVv (pc' := 69) hX dX12_paneTold_66 rfl zm_yX12_asksSign zw_27_10 zc_164 (by decide) zs_46 (q := (RX12, TX12, 108)) rfl rfl (yc_X12_asksSign _ _ s113 hI115 59 ⟨by omega, by omega⟩ (by omega) f hT117) rfl rfl (Nat.le_of_ble_eq_true rfl) (by decide) (fun r122 s123 hr124 hp125 => ?_)
  obtain ⟨hI126, hF127, hT128, z129⟩ := hp125
  have hE130 : yqs f s123 = yPs f 59 (yPn f 0 99 (yPw f 2 (yPn f 2 6 (yPw f 1 (yPn f 2 6 (yPw f 0 (yqs f σ))))))) := by rw [z129, hE118]
  have hF131 := zOn_tr hF116 hF127 zi_17
  have b132 := zv_46_5 hI126 zc_164
  have e133 := hF127 194 0 rfl
  have e134 := hF127 194 1 rfl
  have u135 := yHb hT128 hE130
  exact zt_vret hX hR dX12_paneTold_69 ⟨hI126, hF131, hT128, hE130.trans rfl, (fun o => by rw [hE130] at o; have o1 := yPo_n (yPo_s o); have o2 := yPo_w o1; obtain ⟨y1, -, y3, y4⟩ := z66 o2; have o3 := yPo_w (yPo_n o2); obtain ⟨x1, -, x3, x4⟩ := z26 o3; exact ⟨(show s123 194 0 = r16 by omega).trans x1, (show s123 194 1 = r56 by omega).trans y1, by omega⟩)⟩
