set_option maxRecDepth 100000 in
set_option maxHeartbeats 4000000 in
theorem zc_X12_qClip (l : Launch) (E : zEN) (σ : zSto)  (a0_ : Int) (ha0_ : -9223372036854775808 ≤ a0_ ∧ a0_ ≤ 9223372036854775807) : zCt l E yX12_qClip cX12_qClip 2 (some .long) 0 zNC zNC 0 0 σ [.long (zJ a0_)] (fun r σ' => σ = σ' ∧ -1000000 ≤ r ∧ r ≤ 1000000) := by
  refine zCt_of2 [some (.long (zJ a0_)), none] (by decide +kernel) (Nat.le_of_ble_eq_true rfl) rfl ?_
  intro X hE hX hR hL hN
  subst hE
  have hX : zok X cX12_qClip RX12 0 := hX
  refine zt_lload_n (pc' := 1) hX dX12_qClip_0 rfl rfl ?_
  refine zt_ldc2 (pc' := 4) (x := 1000000) hX dX12_qClip_1 rfl zw_40_14 (by decide +kernel) ?_
  refine zt_lcmp (pc' := 5) hX dX12_qClip_4 rfl ⟨by omega, by omega⟩ ⟨by omega, by omega⟩ (fun r1 er1 => ?_)
  refine zt_ifle (pc' := 8) (tgt := 14) hX dX12_qClip_5 rfl (by decide) ⟨by omega, by omega⟩ (fun c2 => ?_) (fun c2 => ?_)
  · refine zt_lload_n (pc' := 15) hX dX12_qClip_14 rfl rfl ?_
    refine zt_ldc2 (pc' := 18) (x := (-1000000)) hX dX12_qClip_15 rfl zw_40_15 (by decide +kernel) ?_
    refine zt_lcmp (pc' := 19) hX dX12_qClip_18 rfl ⟨by omega, by omega⟩ ⟨by omega, by omega⟩ (fun r3 er3 => ?_)
    refine zt_ifge (pc' := 22) (tgt := 28) hX dX12_qClip_19 rfl (by decide) ⟨by omega, by omega⟩ (fun c4 => ?_) (fun c4 => ?_)
    · refine zt_lload_n (pc' := 29) hX dX12_qClip_28 rfl rfl ?_
      exact zt_lret hX hR dX12_qClip_29 ⟨by omega, by omega⟩ ⟨rfl, by omega, by omega⟩
    · refine zt_ldc2 (pc' := 25) (x := (-1000000)) hX dX12_qClip_22 rfl zw_40_15 (by decide +kernel) ?_
      refine zt_goto (tgt := 29) hX dX12_qClip_25 (by decide) ?_
      exact zt_lret hX hR dX12_qClip_29 ⟨by omega, by omega⟩ ⟨rfl, by omega, by omega⟩
  · refine zt_ldc2 (pc' := 11) (x := 1000000) hX dX12_qClip_8 rfl zw_40_14 (by decide +kernel) ?_
    refine zt_goto (tgt := 29) hX dX12_qClip_11 (by decide) ?_
    exact zt_lret hX hR dX12_qClip_29 ⟨by omega, by omega⟩ ⟨rfl, by omega, by omega⟩

set_option maxRecDepth 100000 in
set_option maxHeartbeats 4000000 in
theorem zc_X12_qFloor (l : Launch) (E : zEN) (σ : zSto)  (a0_ : Int) (ha0_ : -9223372036854775808 ≤ a0_ ∧ a0_ ≤ 9223372036854775807) (a1_ : Int) (ha1_ : -9223372036854775808 ≤ a1_ ∧ a1_ ≤ 9223372036854775807) : zCt l E yX12_qFloor cX12_qFloor 6 (some .long) 0 zNC zNC 0 0 σ [.long (zJ a0_), .long (zJ a1_)] (fun r σ' => σ = σ' ∧ -9223372036854775808 ≤ r ∧ r ≤ 9223372036854775807) := by
  refine zCt_of2 [some (.long (zJ a0_)), none, some (.long (zJ a1_)), none, none, none] (by decide +kernel) (Nat.le_of_ble_eq_true rfl) rfl ?_
  intro X hE hX hR hL hN
  subst hE
  have hX : zok X cX12_qFloor RX12 0 := hX
  refine zt_lload_n (pc' := 1) hX dX12_qFloor_0 rfl rfl ?_
  refine zt_lconst (pc' := 2) (y := 0) hX dX12_qFloor_1 rfl (by decide +kernel) ?_
  refine zt_lcmp (pc' := 3) hX dX12_qFloor_2 rfl ⟨by omega, by omega⟩ ⟨by omega, by omega⟩ (fun r1 er1 => ?_)
  refine zt_ifne (pc' := 6) (tgt := 8) hX dX12_qFloor_3 rfl (by decide) ⟨by omega, by omega⟩ (fun c2 => ?_) (fun c2 => ?_)
  · refine zt_lload_n (pc' := 9) hX dX12_qFloor_8 rfl rfl ?_
    refine zt_lload_n (pc' := 10) hX dX12_qFloor_9 rfl rfl ?_
    refine zt_ldiv (pc' := 11) hX dX12_qFloor_10 rfl (by omega) ⟨by omega, by omega⟩ (fun r3 zr3 lr3 ur3 => ?_)
    clear zr3
    refine zt_lstore (pc' := 13) (lv' := [some (.long (zJ a0_)), none, some (.long (zJ a1_)), none, some (.long (zJ r3)), none]) hX dX12_qFloor_11 rfl hL (by decide) rfl ?_
    refine zt_lload_n (pc' := 14) hX dX12_qFloor_13 rfl rfl ?_
    refine zt_lload_n (pc' := 15) hX dX12_qFloor_14 rfl rfl ?_
    refine zt_lrem (pc' := 16) hX dX12_qFloor_15 rfl (by omega) ⟨by omega, by omega⟩ (fun r4 zr4 lr4 ur4 => ?_)
    clear zr4
    refine zt_lconst (pc' := 17) (y := 0) hX dX12_qFloor_16 rfl (by decide +kernel) ?_
    refine zt_lcmp (pc' := 18) hX dX12_qFloor_17 rfl ⟨by omega, by omega⟩ ⟨by omega, by omega⟩ (fun r5 er5 => ?_)
    refine zt_ifeq (pc' := 21) (tgt := 53) hX dX12_qFloor_18 rfl (by decide) ⟨by omega, by omega⟩ (fun c6 => ?_) (fun c6 => ?_)
    · refine zt_lload (pc' := 55) hX dX12_qFloor_53 rfl rfl ?_
      exact zt_lret hX hR dX12_qFloor_55 ⟨by omega, by omega⟩ ⟨rfl, by omega, by omega⟩
    · refine zt_lload_n (pc' := 22) hX dX12_qFloor_21 rfl rfl ?_
      refine zt_lconst (pc' := 23) (y := 0) hX dX12_qFloor_22 rfl (by decide +kernel) ?_
      refine zt_lcmp (pc' := 24) hX dX12_qFloor_23 rfl ⟨by omega, by omega⟩ ⟨by omega, by omega⟩ (fun r7 er7 => ?_)
      have J_32_10 : ∀ (y8 : Int), 0 ≤ y8 → y8 ≤ 1 → zF X σ 32 [none, none, some (.long (zJ a1_)), none, some (.long (zJ r3)), none] [.int (zI y8)] := by
        intro y8 h9 h10
        refine zt_lload_n (pc' := 33) hX dX12_qFloor_32 rfl rfl ?_
        refine zt_lconst (pc' := 34) (y := 0) hX dX12_qFloor_33 rfl (by decide +kernel) ?_
        refine zt_lcmp (pc' := 35) hX dX12_qFloor_34 rfl ⟨by omega, by omega⟩ ⟨by omega, by omega⟩ (fun r12 er12 => ?_)
        have J_43_15 : ∀ (y13 : Int), 0 ≤ y13 → y13 ≤ 1 → zF X σ 43 [none, none, none, none, some (.long (zJ r3)), none] [.int (zI y13), .int (zI y8)] := by
          intro y13 h14 h15
          refine zt_iceq (pc' := 46) (tgt := 53) hX dX12_qFloor_43 rfl (by decide) ⟨by omega, by omega⟩ ⟨by omega, by omega⟩ (fun c17 => ?_) (fun c17 => ?_)
          · refine zt_lload (pc' := 55) hX dX12_qFloor_53 rfl rfl ?_
            exact zt_lret hX hR dX12_qFloor_55 ⟨by omega, by omega⟩ ⟨rfl, by omega, by omega⟩
          · refine zt_lload (pc' := 48) hX dX12_qFloor_46 rfl rfl ?_
            refine zt_lconst (pc' := 49) (y := 1) hX dX12_qFloor_48 rfl (by decide +kernel) ?_
            refine zt_lsub (pc' := 50) hX dX12_qFloor_49 rfl ?_
            refine zt_wrapl (fun r18 zr18 lr18 ur18 => ?_)
            clear zr18
            refine zt_goto (tgt := 55) hX dX12_qFloor_50 (by decide) ?_
            exact zt_lret hX hR dX12_qFloor_55 ⟨by omega, by omega⟩ ⟨rfl, by omega, by omega⟩
        refine zt_ifge (pc' := 38) (tgt := 42) hX dX12_qFloor_35 rfl (by decide) ⟨by omega, by omega⟩ (fun c19 => ?_) (fun c19 => ?_)
        · refine zt_iconst (pc' := 43) hX dX12_qFloor_42 rfl ?_
          refine zt_mask [false, false, false, false, true, false] rfl ?_
          exact J_43_15 0 (by omega) (by omega)
        · refine zt_iconst (pc' := 39) hX dX12_qFloor_38 rfl ?_
          refine zt_goto (tgt := 43) hX dX12_qFloor_39 (by decide) ?_
          refine zt_mask [false, false, false, false, true, false] rfl ?_
          exact J_43_15 1 (by omega) (by omega)
      refine zt_ifge (pc' := 27) (tgt := 31) hX dX12_qFloor_24 rfl (by decide) ⟨by omega, by omega⟩ (fun c20 => ?_) (fun c20 => ?_)
      · refine zt_iconst (pc' := 32) hX dX12_qFloor_31 rfl ?_
        refine zt_mask [false, false, true, false, true, false] rfl ?_
        exact J_32_10 0 (by omega) (by omega)
      · refine zt_iconst (pc' := 28) hX dX12_qFloor_27 rfl ?_
        refine zt_goto (tgt := 32) hX dX12_qFloor_28 (by decide) ?_
        refine zt_mask [false, false, true, false, true, false] rfl ?_
        exact J_32_10 1 (by omega) (by omega)
  · refine zt_lconst (pc' := 7) (y := 0) hX dX12_qFloor_6 rfl (by decide +kernel) ?_
    exact zt_lret hX hR dX12_qFloor_7 ⟨by omega, by omega⟩ ⟨rfl, by omega, by omega⟩

set_option maxRecDepth 100000 in
set_option maxHeartbeats 4000000 in
theorem zc_X12_qPuts (l : Launch) (E : zEN) (σ : zSto) (hI : zInv σ) (a1_ : Int) (ha1_ : -9223372036854775808 ≤ a1_ ∧ a1_ ≤ 9223372036854775807) (hpre0 : σ 164 103 ≤ 1699) : zCt l E yX12_qPuts cX12_qPuts 3 none 0 zNC zNC 0 0 σ [.ref (E.1 + 164), .long (zJ a1_)] (fun r σ' => zInv σ' ∧ zGM σ σ' ∧ (σ' 164 103 = σ 164 103 + 1)) := by
  refine zCt_of2 [some (.ref (E.1 + 164)), some (.long (zJ a1_)), none] (by decide +kernel) (Nat.le_of_ble_eq_true rfl) rfl ?_
  intro X hE hX hR hL hN
  subst hE
  have hX : zok X cX12_qPuts RX12 0 := hX
  have hF := zGM_rf σ
  have b1 := zv_46_103 hI zc_164
  refine zt_aload_n (pc' := 1) hX dX12_qPuts_0 rfl rfl ?_
  refine zt_get (pc' := 4) (v := .ref (X.1.1 + 236)) hX dX12_qPuts_1 rfl zf_X12_237 (by decide) zc_164 zs_46 (zrf_of (zv_46_102 hI zc_164)) ?_
  refine zt_aload_n (pc' := 5) hX dX12_qPuts_4 rfl rfl ?_
  have b2 := zv_46_103 hI zc_164
  refine zt_get (pc' := 8) (v := .int (zI (σ 164 103))) hX dX12_qPuts_5 rfl zf_X12_398 (by decide) zc_164 zs_46 rfl ?_
  refine zt_lload_n (pc' := 9) hX dX12_qPuts_8 rfl rfl ?_
  refine zt_last (pc' := 10) hX dX12_qPuts_9 rfl (by decide) zc_236 zs_118 (by decide) ⟨by omega, by omega⟩ ?_
  generalize hs4 : zset σ 236 ((σ 164 103).toNat) a1_ = s3
  have hI5 : zInv s3 := hs4 ▸ zp_118 hI zc_236 ((σ 164 103).toNat) ⟨by omega, by omega⟩
  have hF6 : zGM σ s3 := hs4 ▸ zGM_set hF zc_236 (by decide) zk_118 (Or.inl (by decide)) (by decide)
  have e7 : s3 164 103 = σ 164 103 := by rw [← hs4]; exact zset_k (zne_r zc_164 zc_236 (by decide))
  refine zt_aload_n (pc' := 11) hX dX12_qPuts_10 rfl rfl ?_
  refine zt_dup (pc' := 12) hX dX12_qPuts_11 rfl rfl ?_
  have b8 := zv_46_103 hI5 zc_164
  refine zt_get (pc' := 15) (v := .int (zI (s3 164 103))) hX dX12_qPuts_12 rfl zf_X12_398 (by decide) zc_164 zs_46 rfl ?_
  refine zt_iconst (pc' := 16) hX dX12_qPuts_15 rfl ?_
  refine zt_iadd (pc' := 17) hX dX12_qPuts_16 rfl ?_
  refine zt_put (pc' := 20) (x := ((s3 164 103) + 1)) hX dX12_qPuts_17 rfl zf_X12_398 (by decide) zc_164 zs_46 (fun q hq => by cases hq; rfl) rfl rfl rfl ?_
  generalize hs10 : zset s3 164 103 ((s3 164 103) + 1) = s9
  have hI11 : zInv s9 := hs10 ▸ zp_46_103 hI5 zc_164 ⟨by omega, by omega⟩
  have hF12 : zGM σ s9 := hs10 ▸ zGM_set hF6 zc_164 (by decide) zk_46 (Or.inr (by decide)) (by decide)
  have e13 : s9 164 103 = ((s3 164 103) + 1) := by rw [← hs10]; exact zset_s
  exact zt_vret hX hR dX12_qPuts_20 ⟨hI11, hF12, by omega⟩

set_option maxRecDepth 100000 in
set_option maxHeartbeats 4000000 in
theorem zc_X12_qJoins (l : Launch) (E : zEN) (σ : zSto) (hI : zInv σ) (a1_ : Int) (ha1_ : -2147483648 ≤ a1_ ∧ a1_ ≤ 2147483647) (hpre0 : 2 ≤ σ 164 103) : zCt l E yX12_qJoins cX12_qJoins 6 none 1 zNC zNC 0 0 σ [.ref (E.1 + 164), .int (zI a1_)] (fun r σ' => zInv σ' ∧ zGM σ σ' ∧ (σ' 164 103 = σ 164 103 - 1)) := by
  refine zCt_of2 [some (.ref (E.1 + 164)), some (.int (zI a1_)), none, none, none, none] (by decide +kernel) (Nat.le_of_ble_eq_true rfl) rfl ?_
  intro X hE hX hR hL hN
  subst hE
  have hX : zok X cX12_qJoins RX12 1 := hX
  have hF := zGM_rf σ
  have b1 := zv_46_103 hI zc_164
  refine zt_aload_n (pc' := 1) hX dX12_qJoins_0 rfl rfl ?_
  refine zt_get (pc' := 4) (v := .ref (X.1.1 + 236)) hX dX12_qJoins_1 rfl zf_X12_237 (by decide) zc_164 zs_46 (zrf_of (zv_46_102 hI zc_164)) ?_
  refine zt_aload_n (pc' := 5) hX dX12_qJoins_4 rfl rfl ?_
  have b2 := zv_46_103 hI zc_164
  refine zt_get (pc' := 8) (v := .int (zI (σ 164 103))) hX dX12_qJoins_5 rfl zf_X12_398 (by decide) zc_164 zs_46 rfl ?_
  refine zt_iconst (pc' := 9) hX dX12_qJoins_8 rfl ?_
  refine zt_isub (pc' := 10) hX dX12_qJoins_9 rfl ?_
  refine zt_lald (pc' := 11) hX dX12_qJoins_10 rfl (by decide) zc_236 zs_118 (by decide) ⟨by omega, by omega⟩ ?_
  generalize hv3 : σ 236 (((σ 164 103) - 1).toNat) = v3
  have bv3 : -9223372036854775808 ≤ v3 ∧ v3 ≤ 9223372036854775807 := hv3 ▸ zv_118 hI zc_236 _
  refine zt_lstore_n (pc' := 12) (lv' := [some (.ref (X.1.1 + 164)), some (.int (zI a1_)), some (.long (zJ v3)), none, none, none]) hX dX12_qJoins_11 rfl hL (by decide) rfl ?_
  refine zt_aload_n (pc' := 13) hX dX12_qJoins_12 rfl rfl ?_
  refine zt_get (pc' := 16) (v := .ref (X.1.1 + 236)) hX dX12_qJoins_13 rfl zf_X12_237 (by decide) zc_164 zs_46 (zrf_of (zv_46_102 hI zc_164)) ?_
  refine zt_aload_n (pc' := 17) hX dX12_qJoins_16 rfl rfl ?_
  refine zt_get (pc' := 20) (v := .int (zI (σ 164 103))) hX dX12_qJoins_17 rfl zf_X12_398 (by decide) zc_164 zs_46 rfl ?_
  refine zt_iconst (pc' := 21) hX dX12_qJoins_20 rfl ?_
  refine zt_isub (pc' := 22) hX dX12_qJoins_21 rfl ?_
  refine zt_lald (pc' := 23) hX dX12_qJoins_22 rfl (by decide) zc_236 zs_118 (by decide) ⟨by omega, by omega⟩ ?_
  generalize hv4 : σ 236 (((σ 164 103) - 2).toNat) = v4
  have bv4 : -9223372036854775808 ≤ v4 ∧ v4 ≤ 9223372036854775807 := hv4 ▸ zv_118 hI zc_236 _
  refine zt_lstore (pc' := 25) (lv' := [some (.ref (X.1.1 + 164)), some (.int (zI a1_)), some (.long (zJ v3)), none, some (.long (zJ v4)), none]) hX dX12_qJoins_23 rfl hL (by decide) rfl ?_
  refine zt_aload_n (pc' := 26) hX dX12_qJoins_25 rfl rfl ?_
  refine zt_dup (pc' := 27) hX dX12_qJoins_26 rfl rfl ?_
  refine zt_get (pc' := 30) (v := .int (zI (σ 164 103))) hX dX12_qJoins_27 rfl zf_X12_398 (by decide) zc_164 zs_46 rfl ?_
  refine zt_iconst (pc' := 31) hX dX12_qJoins_30 rfl ?_
  refine zt_isub (pc' := 32) hX dX12_qJoins_31 rfl ?_
  refine zt_put (pc' := 35) (x := ((σ 164 103) - 2)) hX dX12_qJoins_32 rfl zf_X12_398 (by decide) zc_164 zs_46 (fun q hq => by cases hq; rfl) rfl rfl rfl ?_
  generalize hs6 : zset σ 164 103 ((σ 164 103) - 2) = s5
  have hI7 : zInv s5 := hs6 ▸ zp_46_103 hI zc_164 ⟨by omega, by omega⟩
  have hF8 : zGM σ s5 := hs6 ▸ zGM_set hF zc_164 (by decide) zk_46 (Or.inr (by decide)) (by decide)
  have e9 : s5 164 103 = ((σ 164 103) - 2) := by rw [← hs6]; exact zset_s
  refine zt_iload_n (pc' := 36) hX dX12_qJoins_35 rfl rfl ?_
  rcases (show a1_ = 1 ∨ a1_ = 2 ∨ a1_ = 3 ∨ a1_ = 4 ∨ a1_ = 5 ∨ a1_ = 6 ∨ a1_ = 7 ∨ a1_ = 8 ∨ a1_ = 9 ∨ a1_ = 10 ∨ (a1_ < 1 ∨ 10 < a1_) by omega) with c10 | c10 | c10 | c10 | c10 | c10 | c10 | c10 | c10 | c10 | c10
  · refine zt_tsIn (v := 1) (tgt := 92) hX dX12_qJoins_36 c10 (by decide) (by decide) (by decide) rfl (by decide) ?_
    refine zt_aload_n (pc' := 93) hX dX12_qJoins_92 rfl rfl ?_
    refine zt_lload (pc' := 95) hX dX12_qJoins_93 rfl rfl ?_
    refine zt_lload_n (pc' := 96) hX dX12_qJoins_95 rfl rfl ?_
    refine zt_ladd (pc' := 97) hX dX12_qJoins_96 rfl ?_
    refine zt_wrapl (fun r11 zr11 lr11 ur11 => ?_)
    clear zr11
    refine zt_cSl (pc' := 100) hX dX12_qJoins_97 rfl zm_yX12_qClip zw_40_11 (zc_X12_qClip _ _ s5  r11 ⟨by omega, by omega⟩) rfl rfl (Nat.le_of_ble_eq_true rfl) (by decide) (fun r12 s13 hr14 hp15 => ?_)
    obtain ⟨rfl, q16, q17⟩ := hp15
    refine zt_cVv (pc' := 103) hX dX12_qJoins_100 rfl zm_yX12_qPuts zw_39_1 zc_164 (by decide) zs_46 (q := (RX12, TX12, 108)) rfl rfl (zc_X12_qPuts _ _ s5 hI7 r12 ⟨by omega, by omega⟩ (by omega)) rfl rfl (Nat.le_of_ble_eq_true rfl) (by decide) (fun r18 s19 hr20 hp21 => ?_)
    obtain ⟨hI22, hF23, z24⟩ := hp21
    have hF25 := zGM_tr hF8 hF23
    have b26 := zv_46_103 hI22 zc_164
    refine zt_goto (tgt := 273) hX dX12_qJoins_103 (by decide) ?_
    exact zt_vret hX hR dX12_qJoins_273 ⟨hI22, hF25, by omega⟩
  · refine zt_tsIn (v := 2) (tgt := 106) hX dX12_qJoins_36 c10 (by decide) (by decide) (by decide) rfl (by decide) ?_
    refine zt_aload_n (pc' := 107) hX dX12_qJoins_106 rfl rfl ?_
    refine zt_lload (pc' := 109) hX dX12_qJoins_107 rfl rfl ?_
    refine zt_lload_n (pc' := 110) hX dX12_qJoins_109 rfl rfl ?_
    refine zt_lsub (pc' := 111) hX dX12_qJoins_110 rfl ?_
    refine zt_wrapl (fun r27 zr27 lr27 ur27 => ?_)
    clear zr27
    refine zt_cSl (pc' := 114) hX dX12_qJoins_111 rfl zm_yX12_qClip zw_40_11 (zc_X12_qClip _ _ s5  r27 ⟨by omega, by omega⟩) rfl rfl (Nat.le_of_ble_eq_true rfl) (by decide) (fun r28 s29 hr30 hp31 => ?_)
    obtain ⟨rfl, q32, q33⟩ := hp31
    refine zt_cVv (pc' := 117) hX dX12_qJoins_114 rfl zm_yX12_qPuts zw_39_1 zc_164 (by decide) zs_46 (q := (RX12, TX12, 108)) rfl rfl (zc_X12_qPuts _ _ s5 hI7 r28 ⟨by omega, by omega⟩ (by omega)) rfl rfl (Nat.le_of_ble_eq_true rfl) (by decide) (fun r34 s35 hr36 hp37 => ?_)
    obtain ⟨hI38, hF39, z40⟩ := hp37
    have hF41 := zGM_tr hF8 hF39
    have b42 := zv_46_103 hI38 zc_164
    refine zt_goto (tgt := 273) hX dX12_qJoins_117 (by decide) ?_
    exact zt_vret hX hR dX12_qJoins_273 ⟨hI38, hF41, by omega⟩
  · refine zt_tsIn (v := 3) (tgt := 120) hX dX12_qJoins_36 c10 (by decide) (by decide) (by decide) rfl (by decide) ?_
    refine zt_aload_n (pc' := 121) hX dX12_qJoins_120 rfl rfl ?_
    refine zt_lload (pc' := 123) hX dX12_qJoins_121 rfl rfl ?_
    refine zt_lload_n (pc' := 124) hX dX12_qJoins_123 rfl rfl ?_
    refine zt_lmul (pc' := 125) hX dX12_qJoins_124 rfl ?_
    refine zt_wrapl (fun r43 zr43 lr43 ur43 => ?_)
    clear zr43
    refine zt_cSl (pc' := 128) hX dX12_qJoins_125 rfl zm_yX12_qClip zw_40_11 (zc_X12_qClip _ _ s5  r43 ⟨by omega, by omega⟩) rfl rfl (Nat.le_of_ble_eq_true rfl) (by decide) (fun r44 s45 hr46 hp47 => ?_)
    obtain ⟨rfl, q48, q49⟩ := hp47
    refine zt_cVv (pc' := 131) hX dX12_qJoins_128 rfl zm_yX12_qPuts zw_39_1 zc_164 (by decide) zs_46 (q := (RX12, TX12, 108)) rfl rfl (zc_X12_qPuts _ _ s5 hI7 r44 ⟨by omega, by omega⟩ (by omega)) rfl rfl (Nat.le_of_ble_eq_true rfl) (by decide) (fun r50 s51 hr52 hp53 => ?_)
    obtain ⟨hI54, hF55, z56⟩ := hp53
    have hF57 := zGM_tr hF8 hF55
    have b58 := zv_46_103 hI54 zc_164
    refine zt_goto (tgt := 273) hX dX12_qJoins_131 (by decide) ?_
    exact zt_vret hX hR dX12_qJoins_273 ⟨hI54, hF57, by omega⟩
  · refine zt_tsIn (v := 4) (tgt := 134) hX dX12_qJoins_36 c10 (by decide) (by decide) (by decide) rfl (by decide) ?_
    refine zt_aload_n (pc' := 135) hX dX12_qJoins_134 rfl rfl ?_
    refine zt_lload (pc' := 137) hX dX12_qJoins_135 rfl rfl ?_
    refine zt_lload_n (pc' := 138) hX dX12_qJoins_137 rfl rfl ?_
    refine zt_cSl (pc' := 141) hX dX12_qJoins_138 rfl zm_yX12_qFloor zw_40_16 (zc_X12_qFloor _ _ s5  v4 ⟨by omega, by omega⟩ v3 ⟨by omega, by omega⟩) rfl rfl (Nat.le_of_ble_eq_true rfl) (by decide) (fun r59 s60 hr61 hp62 => ?_)
    obtain ⟨rfl, q63, q64⟩ := hp62
    refine zt_cVv (pc' := 144) hX dX12_qJoins_141 rfl zm_yX12_qPuts zw_39_1 zc_164 (by decide) zs_46 (q := (RX12, TX12, 108)) rfl rfl (zc_X12_qPuts _ _ s5 hI7 r59 ⟨by omega, by omega⟩ (by omega)) rfl rfl (Nat.le_of_ble_eq_true rfl) (by decide) (fun r65 s66 hr67 hp68 => ?_)
    obtain ⟨hI69, hF70, z71⟩ := hp68
    have hF72 := zGM_tr hF8 hF70
    have b73 := zv_46_103 hI69 zc_164
    refine zt_goto (tgt := 273) hX dX12_qJoins_144 (by decide) ?_
    exact zt_vret hX hR dX12_qJoins_273 ⟨hI69, hF72, by omega⟩
  · refine zt_tsIn (v := 5) (tgt := 147) hX dX12_qJoins_36 c10 (by decide) (by decide) (by decide) rfl (by decide) ?_
    refine zt_aload_n (pc' := 148) hX dX12_qJoins_147 rfl rfl ?_
    refine zt_lload (pc' := 150) hX dX12_qJoins_148 rfl rfl ?_
    refine zt_lload_n (pc' := 151) hX dX12_qJoins_150 rfl rfl ?_
    refine zt_lcmp (pc' := 152) hX dX12_qJoins_151 rfl ⟨by omega, by omega⟩ ⟨by omega, by omega⟩ (fun r74 er74 => ?_)
    have J_161_77 : ∀ (y75 : Int), -9223372036854775808 ≤ y75 → y75 ≤ 9223372036854775807 → zF X s5 161 [none, none, none, none, none, none] [.long (zJ y75), .ref (X.1.1 + 164)] := by
      intro y75 h76 h77
      refine zt_cVv (pc' := 164) hX dX12_qJoins_161 rfl zm_yX12_qPuts zw_39_1 zc_164 (by decide) zs_46 (q := (RX12, TX12, 108)) rfl rfl (zc_X12_qPuts _ _ s5 hI7 y75 ⟨by omega, by omega⟩ (by omega)) rfl rfl (Nat.le_of_ble_eq_true rfl) (by decide) (fun r79 s80 hr81 hp82 => ?_)
      obtain ⟨hI83, hF84, z85⟩ := hp82
      have hF86 := zGM_tr hF8 hF84
      have b87 := zv_46_103 hI83 zc_164
      refine zt_goto (tgt := 273) hX dX12_qJoins_164 (by decide) ?_
      exact zt_vret hX hR dX12_qJoins_273 ⟨hI83, hF86, by omega⟩
    refine zt_ifge (pc' := 155) (tgt := 160) hX dX12_qJoins_152 rfl (by decide) ⟨by omega, by omega⟩ (fun c88 => ?_) (fun c88 => ?_)
    · refine zt_lload_n (pc' := 161) hX dX12_qJoins_160 rfl rfl ?_
      refine zt_mask [false, false, false, false, false, false] rfl ?_
      exact J_161_77 v3 (by omega) (by omega)
    · refine zt_lload (pc' := 157) hX dX12_qJoins_155 rfl rfl ?_
      refine zt_goto (tgt := 161) hX dX12_qJoins_157 (by decide) ?_
      refine zt_mask [false, false, false, false, false, false] rfl ?_
      exact J_161_77 v4 (by omega) (by omega)
  · refine zt_tsIn (v := 6) (tgt := 167) hX dX12_qJoins_36 c10 (by decide) (by decide) (by decide) rfl (by decide) ?_
    refine zt_aload_n (pc' := 168) hX dX12_qJoins_167 rfl rfl ?_
    refine zt_lload (pc' := 170) hX dX12_qJoins_168 rfl rfl ?_
    refine zt_lload_n (pc' := 171) hX dX12_qJoins_170 rfl rfl ?_
    refine zt_lcmp (pc' := 172) hX dX12_qJoins_171 rfl ⟨by omega, by omega⟩ ⟨by omega, by omega⟩ (fun r89 er89 => ?_)
    have J_181_92 : ∀ (y90 : Int), -9223372036854775808 ≤ y90 → y90 ≤ 9223372036854775807 → zF X s5 181 [none, none, none, none, none, none] [.long (zJ y90), .ref (X.1.1 + 164)] := by
      intro y90 h91 h92
      refine zt_cVv (pc' := 184) hX dX12_qJoins_181 rfl zm_yX12_qPuts zw_39_1 zc_164 (by decide) zs_46 (q := (RX12, TX12, 108)) rfl rfl (zc_X12_qPuts _ _ s5 hI7 y90 ⟨by omega, by omega⟩ (by omega)) rfl rfl (Nat.le_of_ble_eq_true rfl) (by decide) (fun r94 s95 hr96 hp97 => ?_)
      obtain ⟨hI98, hF99, z100⟩ := hp97
      have hF101 := zGM_tr hF8 hF99
      have b102 := zv_46_103 hI98 zc_164
      refine zt_goto (tgt := 273) hX dX12_qJoins_184 (by decide) ?_
      exact zt_vret hX hR dX12_qJoins_273 ⟨hI98, hF101, by omega⟩
    refine zt_ifle (pc' := 175) (tgt := 180) hX dX12_qJoins_172 rfl (by decide) ⟨by omega, by omega⟩ (fun c103 => ?_) (fun c103 => ?_)
    · refine zt_lload_n (pc' := 181) hX dX12_qJoins_180 rfl rfl ?_
      refine zt_mask [false, false, false, false, false, false] rfl ?_
      exact J_181_92 v3 (by omega) (by omega)
    · refine zt_lload (pc' := 177) hX dX12_qJoins_175 rfl rfl ?_
      refine zt_goto (tgt := 181) hX dX12_qJoins_177 (by decide) ?_
      refine zt_mask [false, false, false, false, false, false] rfl ?_
      exact J_181_92 v4 (by omega) (by omega)
  · refine zt_tsIn (v := 7) (tgt := 187) hX dX12_qJoins_36 c10 (by decide) (by decide) (by decide) rfl (by decide) ?_
    refine zt_aload_n (pc' := 188) hX dX12_qJoins_187 rfl rfl ?_
    refine zt_lload (pc' := 190) hX dX12_qJoins_188 rfl rfl ?_
    refine zt_lload_n (pc' := 191) hX dX12_qJoins_190 rfl rfl ?_
    refine zt_lcmp (pc' := 192) hX dX12_qJoins_191 rfl ⟨by omega, by omega⟩ ⟨by omega, by omega⟩ (fun r104 er104 => ?_)
    have J_200_107 : ∀ (y105 : Int), 0 ≤ y105 → y105 ≤ 1 → zF X s5 200 [none, none, none, none, none, none] [.long (zJ y105), .ref (X.1.1 + 164)] := by
      intro y105 h106 h107
      refine zt_cVv (pc' := 203) hX dX12_qJoins_200 rfl zm_yX12_qPuts zw_39_1 zc_164 (by decide) zs_46 (q := (RX12, TX12, 108)) rfl rfl (zc_X12_qPuts _ _ s5 hI7 y105 ⟨by omega, by omega⟩ (by omega)) rfl rfl (Nat.le_of_ble_eq_true rfl) (by decide) (fun r109 s110 hr111 hp112 => ?_)
      obtain ⟨hI113, hF114, z115⟩ := hp112
      have hF116 := zGM_tr hF8 hF114
      have b117 := zv_46_103 hI113 zc_164
      refine zt_goto (tgt := 273) hX dX12_qJoins_203 (by decide) ?_
      exact zt_vret hX hR dX12_qJoins_273 ⟨hI113, hF116, by omega⟩
    refine zt_ifge (pc' := 195) (tgt := 199) hX dX12_qJoins_192 rfl (by decide) ⟨by omega, by omega⟩ (fun c118 => ?_) (fun c118 => ?_)
    · refine zt_lconst (pc' := 200) (y := 0) hX dX12_qJoins_199 rfl (by decide +kernel) ?_
      refine zt_mask [false, false, false, false, false, false] rfl ?_
      exact J_200_107 0 (by omega) (by omega)
    · refine zt_lconst (pc' := 196) (y := 1) hX dX12_qJoins_195 rfl (by decide +kernel) ?_
      refine zt_goto (tgt := 200) hX dX12_qJoins_196 (by decide) ?_
      refine zt_mask [false, false, false, false, false, false] rfl ?_
      exact J_200_107 1 (by omega) (by omega)
  · refine zt_tsIn (v := 8) (tgt := 206) hX dX12_qJoins_36 c10 (by decide) (by decide) (by decide) rfl (by decide) ?_
    refine zt_aload_n (pc' := 207) hX dX12_qJoins_206 rfl rfl ?_
    refine zt_lload (pc' := 209) hX dX12_qJoins_207 rfl rfl ?_
    refine zt_lload_n (pc' := 210) hX dX12_qJoins_209 rfl rfl ?_
    refine zt_lcmp (pc' := 211) hX dX12_qJoins_210 rfl ⟨by omega, by omega⟩ ⟨by omega, by omega⟩ (fun r119 er119 => ?_)
    have J_219_122 : ∀ (y120 : Int), 0 ≤ y120 → y120 ≤ 1 → zF X s5 219 [none, none, none, none, none, none] [.long (zJ y120), .ref (X.1.1 + 164)] := by
      intro y120 h121 h122
      refine zt_cVv (pc' := 222) hX dX12_qJoins_219 rfl zm_yX12_qPuts zw_39_1 zc_164 (by decide) zs_46 (q := (RX12, TX12, 108)) rfl rfl (zc_X12_qPuts _ _ s5 hI7 y120 ⟨by omega, by omega⟩ (by omega)) rfl rfl (Nat.le_of_ble_eq_true rfl) (by decide) (fun r124 s125 hr126 hp127 => ?_)
      obtain ⟨hI128, hF129, z130⟩ := hp127
      have hF131 := zGM_tr hF8 hF129
      have b132 := zv_46_103 hI128 zc_164
      refine zt_goto (tgt := 273) hX dX12_qJoins_222 (by decide) ?_
      exact zt_vret hX hR dX12_qJoins_273 ⟨hI128, hF131, by omega⟩
    refine zt_ifle (pc' := 214) (tgt := 218) hX dX12_qJoins_211 rfl (by decide) ⟨by omega, by omega⟩ (fun c133 => ?_) (fun c133 => ?_)
    · refine zt_lconst (pc' := 219) (y := 0) hX dX12_qJoins_218 rfl (by decide +kernel) ?_
      refine zt_mask [false, false, false, false, false, false] rfl ?_
      exact J_219_122 0 (by omega) (by omega)
    · refine zt_lconst (pc' := 215) (y := 1) hX dX12_qJoins_214 rfl (by decide +kernel) ?_
      refine zt_goto (tgt := 219) hX dX12_qJoins_215 (by decide) ?_
      refine zt_mask [false, false, false, false, false, false] rfl ?_
      exact J_219_122 1 (by omega) (by omega)
  · refine zt_tsIn (v := 9) (tgt := 225) hX dX12_qJoins_36 c10 (by decide) (by decide) (by decide) rfl (by decide) ?_
    refine zt_aload_n (pc' := 226) hX dX12_qJoins_225 rfl rfl ?_
    refine zt_lload (pc' := 228) hX dX12_qJoins_226 rfl rfl ?_
    refine zt_lload_n (pc' := 229) hX dX12_qJoins_228 rfl rfl ?_
    refine zt_lcmp (pc' := 230) hX dX12_qJoins_229 rfl ⟨by omega, by omega⟩ ⟨by omega, by omega⟩ (fun r134 er134 => ?_)
    have J_238_137 : ∀ (y135 : Int), 0 ≤ y135 → y135 ≤ 1 → zF X s5 238 [none, none, none, none, none, none] [.long (zJ y135), .ref (X.1.1 + 164)] := by
      intro y135 h136 h137
      refine zt_cVv (pc' := 241) hX dX12_qJoins_238 rfl zm_yX12_qPuts zw_39_1 zc_164 (by decide) zs_46 (q := (RX12, TX12, 108)) rfl rfl (zc_X12_qPuts _ _ s5 hI7 y135 ⟨by omega, by omega⟩ (by omega)) rfl rfl (Nat.le_of_ble_eq_true rfl) (by decide) (fun r139 s140 hr141 hp142 => ?_)
      obtain ⟨hI143, hF144, z145⟩ := hp142
      have hF146 := zGM_tr hF8 hF144
      have b147 := zv_46_103 hI143 zc_164
      refine zt_goto (tgt := 273) hX dX12_qJoins_241 (by decide) ?_
      exact zt_vret hX hR dX12_qJoins_273 ⟨hI143, hF146, by omega⟩
    refine zt_ifne (pc' := 233) (tgt := 237) hX dX12_qJoins_230 rfl (by decide) ⟨by omega, by omega⟩ (fun c148 => ?_) (fun c148 => ?_)
    · refine zt_lconst (pc' := 238) (y := 0) hX dX12_qJoins_237 rfl (by decide +kernel) ?_
      refine zt_mask [false, false, false, false, false, false] rfl ?_
      exact J_238_137 0 (by omega) (by omega)
    · refine zt_lconst (pc' := 234) (y := 1) hX dX12_qJoins_233 rfl (by decide +kernel) ?_
      refine zt_goto (tgt := 238) hX dX12_qJoins_234 (by decide) ?_
      refine zt_mask [false, false, false, false, false, false] rfl ?_
      exact J_238_137 1 (by omega) (by omega)
  · refine zt_tsIn (v := 10) (tgt := 244) hX dX12_qJoins_36 c10 (by decide) (by decide) (by decide) rfl (by decide) ?_
    refine zt_aload_n (pc' := 245) hX dX12_qJoins_244 rfl rfl ?_
    refine zt_lload (pc' := 247) hX dX12_qJoins_245 rfl rfl ?_
    refine zt_lload_n (pc' := 248) hX dX12_qJoins_247 rfl rfl ?_
    refine zt_lmul (pc' := 249) hX dX12_qJoins_248 rfl ?_
    refine zt_wrapl (fun r149 zr149 lr149 ur149 => ?_)
    clear zr149
    refine zt_cVv (pc' := 252) hX dX12_qJoins_249 rfl zm_yX12_qPuts zw_39_1 zc_164 (by decide) zs_46 (q := (RX12, TX12, 108)) rfl rfl (zc_X12_qPuts _ _ s5 hI7 r149 ⟨by omega, by omega⟩ (by omega)) rfl rfl (Nat.le_of_ble_eq_true rfl) (by decide) (fun r150 s151 hr152 hp153 => ?_)
    obtain ⟨hI154, hF155, z156⟩ := hp153
    have hF157 := zGM_tr hF8 hF155
    have b158 := zv_46_103 hI154 zc_164
    refine zt_goto (tgt := 273) hX dX12_qJoins_252 (by decide) ?_
    exact zt_vret hX hR dX12_qJoins_273 ⟨hI154, hF157, by omega⟩
  · refine zt_tsOut (tgt := 255) hX dX12_qJoins_36 ⟨by omega, by omega⟩ c10 (by decide) ?_
    refine zt_aload_n (pc' := 256) hX dX12_qJoins_255 rfl rfl ?_
    refine zt_lload (pc' := 258) hX dX12_qJoins_256 rfl rfl ?_
    refine zt_lload_n (pc' := 259) hX dX12_qJoins_258 rfl rfl ?_
    refine zt_ladd (pc' := 260) hX dX12_qJoins_259 rfl ?_
    refine zt_wrapl (fun r159 zr159 lr159 ur159 => ?_)
    clear zr159
    refine zt_lconst (pc' := 261) (y := 0) hX dX12_qJoins_260 rfl (by decide +kernel) ?_
    refine zt_lcmp (pc' := 262) hX dX12_qJoins_261 rfl ⟨by omega, by omega⟩ ⟨by omega, by omega⟩ (fun r160 er160 => ?_)
    have J_270_163 : ∀ (y161 : Int), 0 ≤ y161 → y161 ≤ 1 → zF X s5 270 [none, none, none, none, none, none] [.long (zJ y161), .ref (X.1.1 + 164)] := by
      intro y161 h162 h163
      refine zt_cVv (pc' := 273) hX dX12_qJoins_270 rfl zm_yX12_qPuts zw_39_1 zc_164 (by decide) zs_46 (q := (RX12, TX12, 108)) rfl rfl (zc_X12_qPuts _ _ s5 hI7 y161 ⟨by omega, by omega⟩ (by omega)) rfl rfl (Nat.le_of_ble_eq_true rfl) (by decide) (fun r165 s166 hr167 hp168 => ?_)
      obtain ⟨hI169, hF170, z171⟩ := hp168
      have hF172 := zGM_tr hF8 hF170
      have b173 := zv_46_103 hI169 zc_164
      exact zt_vret hX hR dX12_qJoins_273 ⟨hI169, hF172, by omega⟩
    refine zt_ifle (pc' := 265) (tgt := 269) hX dX12_qJoins_262 rfl (by decide) ⟨by omega, by omega⟩ (fun c174 => ?_) (fun c174 => ?_)
    · refine zt_lconst (pc' := 270) (y := 0) hX dX12_qJoins_269 rfl (by decide +kernel) ?_
      refine zt_mask [false, false, false, false, false, false] rfl ?_
      exact J_270_163 0 (by omega) (by omega)
    · refine zt_lconst (pc' := 266) (y := 1) hX dX12_qJoins_265 rfl (by decide +kernel) ?_
      refine zt_goto (tgt := 270) hX dX12_qJoins_266 (by decide) ?_
      refine zt_mask [false, false, false, false, false, false] rfl ?_
      exact J_270_163 1 (by omega) (by omega)

set_option maxRecDepth 100000 in
set_option maxHeartbeats 4000000 in
theorem zc_X12_qPartOf (l : Launch) (E : zEN) (σ : zSto) (hI : zInv σ) (a1_ : Int) (ha1_ : -2147483648 ≤ a1_ ∧ a1_ ≤ 2147483647) (a2_ : Int) (ha2_ : 0 ≤ a2_ ∧ a2_ ≤ 9) : zCt l E yX12_qPartOf cX12_qPartOf 3 (some .long) 2 zNC zNC 0 0 σ [.ref (E.1 + 164), .int (zI a1_), .int (zI a2_)] (fun r σ' => σ = σ' ∧ -2147483648 ≤ r ∧ r ≤ 2147483647) := by
  refine zCt_of2 [some (.ref (E.1 + 164)), some (.int (zI a1_)), some (.int (zI a2_))] (by decide +kernel) (Nat.le_of_ble_eq_true rfl) rfl ?_
  intro X hE hX hR hL hN
  subst hE
  have hX : zok X cX12_qPartOf RX12 2 := hX
  refine zt_iload_n (pc' := 1) hX dX12_qPartOf_0 rfl rfl ?_
  rcases (show a1_ = 0 ∨ a1_ = 1 ∨ a1_ = 2 ∨ a1_ = 3 ∨ a1_ = 4 ∨ a1_ = 5 ∨ a1_ = 6 ∨ a1_ = 7 ∨ a1_ = 8 ∨ (a1_ < 0 ∨ 8 < a1_) by omega) with c1 | c1 | c1 | c1 | c1 | c1 | c1 | c1 | c1 | c1
  · refine zt_tsIn (v := 0) (tgt := 52) hX dX12_qPartOf_1 c1 (by decide) (by decide) (by decide) rfl (by decide) ?_
    refine zt_aload_n (pc' := 53) hX dX12_qPartOf_52 rfl rfl ?_
    refine zt_get (pc' := 56) (v := .ref (X.1.1 + 203)) hX dX12_qPartOf_53 rfl zf_X12_130 (by decide) zc_164 zs_46 (zrf_of (zv_46_52 hI zc_164)) ?_
    refine zt_iconst (pc' := 57) hX dX12_qPartOf_56 rfl ?_
    refine zt_iald (pc' := 58) hX dX12_qPartOf_57 rfl (by decide) zc_203 zs_85 (by decide) ⟨by omega, by omega⟩ ?_
    rw [show Int.toNat 0 = 0 from rfl]
    have b3 := zv_85 hI zc_203 0
    refine zt_i2l (pc' := 59) hX dX12_qPartOf_58 rfl ⟨by omega, by omega⟩ ?_
    exact zt_lret hX hR dX12_qPartOf_59 ⟨by omega, by omega⟩ ⟨rfl, by omega, by omega⟩
  · refine zt_tsIn (v := 1) (tgt := 60) hX dX12_qPartOf_1 c1 (by decide) (by decide) (by decide) rfl (by decide) ?_
    refine zt_aload_n (pc' := 61) hX dX12_qPartOf_60 rfl rfl ?_
    refine zt_cVi (pc' := 64) hX dX12_qPartOf_61 rfl zm_yX12_crackedMany zw_38_8 zc_164 (by decide) zs_46 (q := (RX12, TX12, 108)) rfl rfl (zc_X12_crackedMany _ _ σ hI ) rfl rfl (Nat.le_of_ble_eq_true rfl) (by decide) (fun r4 s5 hr6 hp7 => ?_)
    obtain ⟨rfl, q8, q9⟩ := hp7
    refine zt_i2l (pc' := 65) hX dX12_qPartOf_64 rfl ⟨by omega, by omega⟩ ?_
    exact zt_lret hX hR dX12_qPartOf_65 ⟨by omega, by omega⟩ ⟨rfl, by omega, by omega⟩
  · refine zt_tsIn (v := 2) (tgt := 66) hX dX12_qPartOf_1 c1 (by decide) (by decide) (by decide) rfl (by decide) ?_
    refine zt_aload_n (pc' := 67) hX dX12_qPartOf_66 rfl rfl ?_
    have b10 := zv_46_55 hI zc_164
    refine zt_get (pc' := 70) (v := .int (zI (σ 164 55))) hX dX12_qPartOf_67 rfl zf_X12_425 (by decide) zc_164 zs_46 rfl ?_
    refine zt_i2l (pc' := 71) hX dX12_qPartOf_70 rfl ⟨by omega, by omega⟩ ?_
    exact zt_lret hX hR dX12_qPartOf_71 ⟨by omega, by omega⟩ ⟨rfl, by omega, by omega⟩
  · refine zt_tsIn (v := 3) (tgt := 72) hX dX12_qPartOf_1 c1 (by decide) (by decide) (by decide) rfl (by decide) ?_
    refine zt_aload_n (pc' := 73) hX dX12_qPartOf_72 rfl rfl ?_
    refine zt_iload_n (pc' := 74) hX dX12_qPartOf_73 rfl rfl ?_
    refine zt_cVi (pc' := 77) hX dX12_qPartOf_74 rfl zm_yX12_strengthOf zw_39_11 zc_164 (by decide) zs_46 (q := (RX12, TX12, 108)) rfl rfl (zc_X12_strengthOf _ _ σ hI a2_ ⟨by omega, by omega⟩) rfl rfl (Nat.le_of_ble_eq_true rfl) (by decide) (fun r11 s12 hr13 hp14 => ?_)
    obtain ⟨rfl, q15, q16, z17⟩ := hp14
    refine zt_i2l (pc' := 78) hX dX12_qPartOf_77 rfl ⟨by omega, by omega⟩ ?_
    exact zt_lret hX hR dX12_qPartOf_78 ⟨by omega, by omega⟩ ⟨rfl, by omega, by omega⟩
  · refine zt_tsIn (v := 4) (tgt := 79) hX dX12_qPartOf_1 c1 (by decide) (by decide) (by decide) rfl (by decide) ?_
    refine zt_aload_n (pc' := 80) hX dX12_qPartOf_79 rfl rfl ?_
    refine zt_iload_n (pc' := 81) hX dX12_qPartOf_80 rfl rfl ?_
    refine zt_cVi (pc' := 84) hX dX12_qPartOf_81 rfl zm_yX12_tiredOf zw_39_16 zc_164 (by decide) zs_46 (q := (RX12, TX12, 108)) rfl rfl (zc_X12_tiredOf _ _ σ hI a2_ ⟨by omega, by omega⟩) rfl rfl (Nat.le_of_ble_eq_true rfl) (by decide) (fun r18 s19 hr20 hp21 => ?_)
    obtain ⟨rfl, q22, q23⟩ := hp21
    refine zt_i2l (pc' := 85) hX dX12_qPartOf_84 rfl ⟨by omega, by omega⟩ ?_
    exact zt_lret hX hR dX12_qPartOf_85 ⟨by omega, by omega⟩ ⟨rfl, by omega, by omega⟩
  · refine zt_tsIn (v := 5) (tgt := 86) hX dX12_qPartOf_1 c1 (by decide) (by decide) (by decide) rfl (by decide) ?_
    refine zt_aload_n (pc' := 87) hX dX12_qPartOf_86 rfl rfl ?_
    refine zt_iload_n (pc' := 88) hX dX12_qPartOf_87 rfl rfl ?_
    refine zt_cVi (pc' := 91) hX dX12_qPartOf_88 rfl zm_yX12_nearOf zw_39_20 zc_164 (by decide) zs_46 (q := (RX12, TX12, 108)) rfl rfl (zc_X12_nearOf _ _ σ hI a2_ ⟨by omega, by omega⟩) rfl rfl (Nat.le_of_ble_eq_true rfl) (by decide) (fun r24 s25 hr26 hp27 => ?_)
    obtain ⟨rfl, q28, q29⟩ := hp27
    refine zt_i2l (pc' := 92) hX dX12_qPartOf_91 rfl ⟨by omega, by omega⟩ ?_
    exact zt_lret hX hR dX12_qPartOf_92 ⟨by omega, by omega⟩ ⟨rfl, by omega, by omega⟩
  · refine zt_tsIn (v := 6) (tgt := 93) hX dX12_qPartOf_1 c1 (by decide) (by decide) (by decide) rfl (by decide) ?_
    refine zt_iload_n (pc' := 94) hX dX12_qPartOf_93 rfl rfl ?_
    refine zt_i2l (pc' := 95) hX dX12_qPartOf_94 rfl ⟨by omega, by omega⟩ ?_
    exact zt_lret hX hR dX12_qPartOf_95 ⟨by omega, by omega⟩ ⟨rfl, by omega, by omega⟩
  · refine zt_tsIn (v := 7) (tgt := 96) hX dX12_qPartOf_1 c1 (by decide) (by decide) (by decide) rfl (by decide) ?_
    refine zt_aload_n (pc' := 97) hX dX12_qPartOf_96 rfl rfl ?_
    refine zt_iload_n (pc' := 98) hX dX12_qPartOf_97 rfl rfl ?_
    refine zt_cVi (pc' := 101) hX dX12_qPartOf_98 rfl zm_yX12_placeOf zw_40_0 zc_164 (by decide) zs_46 (q := (RX12, TX12, 108)) rfl rfl (zc_X12_placeOf _ _ σ hI a2_ ⟨by omega, by omega⟩) rfl rfl (Nat.le_of_ble_eq_true rfl) (by decide) (fun r30 s31 hr32 hp33 => ?_)
    obtain ⟨rfl, q34, q35⟩ := hp33
    refine zt_bipush (pc' := 103) hX dX12_qPartOf_101 rfl (by decide) (by decide) ?_
    refine zt_irem (pc' := 104) hX dX12_qPartOf_103 rfl ⟨by omega, by omega⟩ ⟨by omega, by omega⟩ (fun r36 er36 br36 nr36 => ?_)
    rw [ztm_p (by omega)] at er36
    refine zt_i2l (pc' := 105) hX dX12_qPartOf_104 rfl ⟨by omega, by omega⟩ ?_
    exact zt_lret hX hR dX12_qPartOf_105 ⟨by omega, by omega⟩ ⟨rfl, by omega, by omega⟩
  · refine zt_tsIn (v := 8) (tgt := 106) hX dX12_qPartOf_1 c1 (by decide) (by decide) (by decide) rfl (by decide) ?_
    refine zt_aload_n (pc' := 107) hX dX12_qPartOf_106 rfl rfl ?_
    refine zt_iload_n (pc' := 108) hX dX12_qPartOf_107 rfl rfl ?_
    refine zt_cVi (pc' := 111) hX dX12_qPartOf_108 rfl zm_yX12_placeOf zw_40_0 zc_164 (by decide) zs_46 (q := (RX12, TX12, 108)) rfl rfl (zc_X12_placeOf _ _ σ hI a2_ ⟨by omega, by omega⟩) rfl rfl (Nat.le_of_ble_eq_true rfl) (by decide) (fun r37 s38 hr39 hp40 => ?_)
    obtain ⟨rfl, q41, q42⟩ := hp40
    refine zt_bipush (pc' := 113) hX dX12_qPartOf_111 rfl (by decide) (by decide) ?_
    refine zt_idiv (pc' := 114) hX dX12_qPartOf_113 rfl ⟨by omega, by omega⟩ ⟨by omega, by omega⟩ (fun r43 er43 br43 => ?_)
    rw [ztd_p (by omega)] at er43
    refine zt_i2l (pc' := 115) hX dX12_qPartOf_114 rfl ⟨by omega, by omega⟩ ?_
    exact zt_lret hX hR dX12_qPartOf_115 ⟨by omega, by omega⟩ ⟨rfl, by omega, by omega⟩
  · refine zt_tsOut (tgt := 116) hX dX12_qPartOf_1 ⟨by omega, by omega⟩ c1 (by decide) ?_
    refine zt_aload_n (pc' := 117) hX dX12_qPartOf_116 rfl rfl ?_
    have b44 := zv_46_56 hI zc_164
    refine zt_get (pc' := 120) (v := .int (zI (σ 164 56))) hX dX12_qPartOf_117 rfl zf_X12_627 (by decide) zc_164 zs_46 rfl ?_
    refine zt_iload_n (pc' := 121) hX dX12_qPartOf_120 rfl rfl ?_
    refine zt_ishr (pc' := 122) hX dX12_qPartOf_121 rfl (fun r45 zr45 lr45 ur45 => ?_)
    clear zr45
    refine zt_iconst (pc' := 123) hX dX12_qPartOf_122 rfl ?_
    refine zt_iandm (pc' := 124) hX dX12_qPartOf_123 rfl 1 (by decide +kernel) (by decide) (fun r46 er46 lr46 ur46 => ?_)
    have ur46 : r46 ≤ 1 := by omega
    refine zt_i2l (pc' := 125) hX dX12_qPartOf_124 rfl ⟨by omega, by omega⟩ ?_
    exact zt_lret hX hR dX12_qPartOf_125 ⟨by omega, by omega⟩ ⟨rfl, by omega, by omega⟩

set_option maxRecDepth 100000 in
set_option maxHeartbeats 4000000 in
theorem zc_X12_qOf (l : Launch) (E : zEN) (σ : zSto) (hI : zInv σ) (a1_ : Int) (ha1_ : -2147483648 ≤ a1_ ∧ a1_ ≤ 2147483647) (a2_ : Int) (ha2_ : -9223372036854775808 ≤ a2_ ∧ a2_ ≤ 9223372036854775807) (a3_ : Int) (ha3_ : 0 ≤ a3_ ∧ a3_ ≤ 9) : zCt l E yX12_qOf cX12_qOf 5 (some .long) 1 zNC zNC 0 0 σ [.ref (E.1 + 164), .int (zI a1_), .long (zJ a2_), .int (zI a3_)] (fun r σ' => σ = σ' ∧ 0 ≤ r ∧ r ≤ 10) := by
  refine zCt_of2 [some (.ref (E.1 + 164)), some (.int (zI a1_)), some (.long (zJ a2_)), none, some (.int (zI a3_))] (by decide +kernel) (Nat.le_of_ble_eq_true rfl) rfl ?_
  intro X hE hX hR hL hN
  subst hE
  have hX : zok X cX12_qOf RX12 1 := hX
  refine zt_iload_n (pc' := 1) hX dX12_qOf_0 rfl rfl ?_
  refine zt_look (tgt := 12) (off := 11) hX dX12_qOf_1 ⟨by omega, by omega⟩ (by decide +kernel) rfl (by decide) ?_
  refine zt_lload_n (pc' := 13) hX dX12_qOf_12 rfl rfl ?_
  refine zt_lconst (pc' := 14) (y := 0) hX dX12_qOf_13 rfl (by decide +kernel) ?_
  refine zt_aload_n (pc' := 15) hX dX12_qOf_14 rfl rfl ?_
  refine zt_cVi (pc' := 18) hX dX12_qOf_15 rfl zm_yX12_peopleMany zw_38_4 zc_164 (by decide) zs_46 (q := (RX12, TX12, 108)) rfl rfl (zc_X12_peopleMany _ _ σ hI ) rfl rfl (Nat.le_of_ble_eq_true rfl) (by decide) (fun r2 s3 hr4 hp5 => ?_)
  obtain ⟨rfl, q6, q7, z8⟩ := hp5
  refine zt_iconst (pc' := 19) hX dX12_qOf_18 rfl ?_
  refine zt_isub (pc' := 20) hX dX12_qOf_19 rfl ?_
  refine zt_i2l (pc' := 21) hX dX12_qOf_20 rfl ⟨by omega, by omega⟩ ?_
  refine zt_cSz (pc' := 24) hX dX12_qOf_21 rfl zm_yX12_isIn zw_27_7 (zc_X12_isIn _ _ σ  a2_ ⟨by omega, by omega⟩ 0 ⟨by omega, by omega⟩ (r2 - 1) ⟨by omega, by omega⟩) rfl rfl (Nat.le_of_ble_eq_true rfl) (by decide) (fun r9 s10 hr11 hp12 => ?_)
  obtain ⟨rfl, q13, q14, z15⟩ := hp12
  refine zt_ifeq (pc' := 27) (tgt := 46) hX dX12_qOf_24 rfl (by decide) ⟨by omega, by omega⟩ (fun c16 => ?_) (fun c16 => ?_)
  · refine zt_lconst (pc' := 47) (y := 0) hX dX12_qOf_46 rfl (by decide +kernel) ?_
    exact zt_lret hX hR dX12_qOf_47 ⟨by omega, by omega⟩ ⟨rfl, by omega, by omega⟩
  · refine zt_aload_n (pc' := 28) hX dX12_qOf_27 rfl rfl ?_
    refine zt_iload (pc' := 30) hX dX12_qOf_28 rfl rfl ?_
    refine zt_cVi (pc' := 33) hX dX12_qOf_30 rfl zm_yX12_placeOf zw_40_0 zc_164 (by decide) zs_46 (q := (RX12, TX12, 108)) rfl rfl (zc_X12_placeOf _ _ σ hI a3_ ⟨by omega, by omega⟩) rfl rfl (Nat.le_of_ble_eq_true rfl) (by decide) (fun r17 s18 hr19 hp20 => ?_)
    obtain ⟨rfl, q21, q22⟩ := hp20
    refine zt_aload_n (pc' := 34) hX dX12_qOf_33 rfl rfl ?_
    refine zt_lload_n (pc' := 35) hX dX12_qOf_34 rfl rfl ?_
    refine zt_l2i (pc' := 36) hX dX12_qOf_35 rfl ?_
    refine zt_cVi (pc' := 39) hX dX12_qOf_36 rfl zm_yX12_placeOf zw_40_0 zc_164 (by decide) zs_46 (q := (RX12, TX12, 108)) rfl rfl (zc_X12_placeOf _ _ σ hI a2_ ⟨by omega, by omega⟩) rfl rfl (Nat.le_of_ble_eq_true rfl) (by decide) (fun r23 s24 hr25 hp26 => ?_)
    obtain ⟨rfl, q27, q28⟩ := hp26
    refine zt_cSi (pc' := 42) hX dX12_qOf_39 rfl zm_yX12_apart zw_40_4 (zc_X12_apart _ _ σ  r17 ⟨by omega, by omega⟩ r23 ⟨by omega, by omega⟩) rfl rfl (Nat.le_of_ble_eq_true rfl) (by decide) (fun r29 s30 hr31 hp32 => ?_)
    obtain ⟨rfl, q33, q34⟩ := hp32
    refine zt_i2l (pc' := 43) hX dX12_qOf_42 rfl ⟨by omega, by omega⟩ ?_
    refine zt_goto (tgt := 47) hX dX12_qOf_43 (by decide) ?_
    exact zt_lret hX hR dX12_qOf_47 ⟨by omega, by omega⟩ ⟨rfl, by omega, by omega⟩

set_option maxRecDepth 100000 in
set_option maxHeartbeats 4000000 in
theorem zc_X12_codesTell_0 (l : Launch) (E : zEN) (σ : zSto) (hI : zInv σ) (a2_ : Int) (ha2_ : 0 ≤ a2_ ∧ a2_ ≤ 9) (hpre0 : σ 200 2 ≠ -1) (hW : zWF σ) : zCt l E yX12_codesTell cX12_codesTell 5 (some .long) 3 zNC zNC 0 0 σ [.ref (E.1 + 164), .int (zI 0), .int (zI a2_)] (fun r σ' => zInv σ' ∧ zGM σ σ' ∧ -9223372036854775808 ≤ r ∧ r ≤ 9223372036854775807) := by
  refine zCt_of2 [some (.ref (E.1 + 164)), some (.int (zI 0)), some (.int (zI a2_)), none, none] (by decide +kernel) (Nat.le_of_ble_eq_true rfl) rfl ?_
  intro X hE hX hR hL hN
  subst hE
  have hX : zok X cX12_codesTell RX12 3 := hX
  have hF := zGM_rf σ
  have hWa : 0 ≤ σ 200 2 ∧ σ 200 2 ≤ σ 201 2 ∧ σ 201 2 ≤ 1600 := zWF1_b hW.1 hpre0
  have b1 := zv_46_103 hI zc_164
  have b2 := zv_82 hI zc_200 2
  have b3 := zv_83 hI zc_201 2
  refine zt_aload_n (pc' := 1) hX dX12_codesTell_0 rfl rfl ?_
  refine zt_iload_n (pc' := 2) hX dX12_codesTell_1 rfl rfl ?_
  refine zt_put (pc' := 5) (x := 0) hX dX12_codesTell_2 rfl zf_X12_304 (by decide) zc_164 zs_46 (fun q hq => by cases hq; rfl) rfl rfl rfl ?_
  generalize hs5 : zset σ 164 51 0 = s4
  have hI6 : zInv s4 := hs5 ▸ zp_46_51 hI zc_164 ⟨by omega, by omega⟩
  have hF7 : zGM σ s4 := hs5 ▸ zGM_set hF zc_164 (by decide) zk_46 (Or.inr (by decide)) (by decide)
  have e8 : s4 164 103 = σ 164 103 := by rw [← hs5]; exact zset_j (by decide)
  have e9 : s4 200 2 = σ 200 2 := by rw [← hs5]; exact zset_k (zne_r zc_200 zc_164 (by decide))
  have e10 : s4 201 2 = σ 201 2 := by rw [← hs5]; exact zset_k (zne_r zc_201 zc_164 (by decide))
  refine zt_aload_n (pc' := 6) hX dX12_codesTell_5 rfl rfl ?_
  refine zt_iconst (pc' := 7) hX dX12_codesTell_6 rfl ?_
  refine zt_put (pc' := 10) (x := 0) hX dX12_codesTell_7 rfl zf_X12_398 (by decide) zc_164 zs_46 (fun q hq => by cases hq; rfl) rfl rfl rfl ?_
  generalize hs12 : zset s4 164 103 0 = s11
  have hI13 : zInv s11 := hs12 ▸ zp_46_103 hI6 zc_164 ⟨by omega, by omega⟩
  have hF14 : zGM σ s11 := hs12 ▸ zGM_set hF7 zc_164 (by decide) zk_46 (Or.inr (by decide)) (by decide)
  have e15 : s11 164 103 = 0 := by rw [← hs12]; exact zset_s
  have e16 : s11 200 2 = s4 200 2 := by rw [← hs12]; exact zset_k (zne_r zc_200 zc_164 (by decide))
  have e17 : s11 201 2 = s4 201 2 := by rw [← hs12]; exact zset_k (zne_r zc_201 zc_164 (by decide))
  refine zt_aload_n (pc' := 11) hX dX12_codesTell_10 rfl rfl ?_
  refine zt_get (pc' := 14) (v := .ref (X.1.1 + 200)) hX dX12_codesTell_11 rfl zf_X12_121 (by decide) zc_164 zs_46 (zrf_of (zv_46_45 hI13 zc_164)) ?_
  refine zt_iconst (pc' := 15) hX dX12_codesTell_14 rfl ?_
  refine zt_iload_n (pc' := 16) hX dX12_codesTell_15 rfl rfl ?_
  refine zt_iadd (pc' := 17) hX dX12_codesTell_16 rfl ?_
  rw [show (2 + 0 : Int) = 2 from rfl]
  refine zt_iald (pc' := 18) hX dX12_codesTell_17 rfl (by decide) zc_200 zs_82 (by decide) ⟨by omega, by omega⟩ ?_
  rw [show Int.toNat 2 = 2 from rfl]
  have b19 := zv_82 hI13 zc_200 2
  refine zt_istore_n (pc' := 19) (lv' := [some (.ref (X.1.1 + 164)), some (.int (zI 0)), some (.int (zI a2_)), some (.int (zI (s11 200 2))), none]) hX dX12_codesTell_18 rfl hL (by decide) rfl ?_
  have h20 := zhw_0 σ 0 (s11 200 2) (show (s11 200 2) = σ 200 2 by omega)
  have L_19_29 : ∀ (N : Nat) (x21 : Int) (s24 : zSto), -1 ≤ x21 → x21 ≤ 1600 → zInv s24 → zGM σ s24 → (zhw σ 0 x21 ≤ s24 164 103 ∧ s24 164 103 ≤ x21 - σ 200 2) → σ 200 2 ≤ x21 → (s24 201 2 = σ 201 2 ∧ s24 200 2 = σ 200 2) → ((1601 - x21).toNat) < N → zF X s24 19 [some (.ref (X.1.1 + 164)), some (.int (zI 0)), some (.int (zI a2_)), some (.int (zI x21)), none] [] := by
    intro N
    induction N with
    | zero =>
      intro x21 s24 h22 h23 hI25 hF26 g27 g28 g29 hm31
      exact absurd hm31 (Nat.not_lt_zero _)
    | succ N ih32 =>
      intro x21 s24 h22 h23 hI25 hF26 g27 g28 g29 hm31
      have b33 := zv_46_103 hI25 zc_164
      have b34 := zv_82 hI25 zc_200 2
      have b35 := zv_83 hI25 zc_201 2
      refine zt_iload_n (pc' := 20) hX dX12_codesTell_19 rfl rfl ?_
      refine zt_aload_n (pc' := 21) hX dX12_codesTell_20 rfl rfl ?_
      refine zt_get (pc' := 24) (v := .ref (X.1.1 + 201)) hX dX12_codesTell_21 rfl zf_X12_124 (by decide) zc_164 zs_46 (zrf_of (zv_46_46 hI25 zc_164)) ?_
      refine zt_iconst (pc' := 25) hX dX12_codesTell_24 rfl ?_
      refine zt_iload_n (pc' := 26) hX dX12_codesTell_25 rfl rfl ?_
      refine zt_iadd (pc' := 27) hX dX12_codesTell_26 rfl ?_
      rw [show (2 + 0 : Int) = 2 from rfl]
      refine zt_iald (pc' := 28) hX dX12_codesTell_27 rfl (by decide) zc_201 zs_83 (by decide) ⟨by omega, by omega⟩ ?_
      rw [show Int.toNat 2 = 2 from rfl]
      have b37 := zv_83 hI25 zc_201 2
      refine zt_icge (pc' := 31) (tgt := 150) hX dX12_codesTell_28 rfl (by decide) ⟨by omega, by omega⟩ ⟨by omega, by omega⟩ (fun c38 => ?_) (fun c38 => ?_)
      · refine zt_aload_n (pc' := 151) hX dX12_codesTell_150 rfl rfl ?_
        refine zt_get (pc' := 154) (v := .ref (X.1.1 + 236)) hX dX12_codesTell_151 rfl zf_X12_237 (by decide) zc_164 zs_46 (zrf_of (zv_46_102 hI25 zc_164)) ?_
        refine zt_iconst (pc' := 155) hX dX12_codesTell_154 rfl ?_
        refine zt_lald (pc' := 156) hX dX12_codesTell_155 rfl (by decide) zc_236 zs_118 (by decide) ⟨by omega, by omega⟩ ?_
        rw [show Int.toNat 0 = 0 from rfl]
        have b40 := zv_118 hI25 zc_236 0
        exact zt_lret hX hR dX12_codesTell_156 ⟨by omega, by omega⟩ ⟨hI25, hF26, by omega, by omega⟩
      · refine zt_aload_n (pc' := 32) hX dX12_codesTell_31 rfl rfl ?_
        refine zt_get (pc' := 35) (v := .ref (X.1.1 + 202)) hX dX12_codesTell_32 rfl zf_X12_127 (by decide) zc_164 zs_46 (zrf_of (zv_46_47 hI25 zc_164)) ?_
        refine zt_sipush (pc' := 38) hX dX12_codesTell_35 rfl (by decide) (by decide) ?_
        refine zt_iload_n (pc' := 39) hX dX12_codesTell_38 rfl rfl ?_
        refine zt_iadd (pc' := 40) hX dX12_codesTell_39 rfl ?_
        refine zt_iald (pc' := 41) hX dX12_codesTell_40 rfl (by decide) zc_202 zs_84 (by decide) ⟨by omega, by omega⟩ ?_
        generalize hv41 : s24 202 ((1600 + x21).toNat) = v41
        have bv41 : -2147483648 ≤ v41 ∧ v41 ≤ 2147483647 := hv41 ▸ zv_84 hI25 zc_202 _
        have h42a := zct_step hW.1 hpre0 hF26.2.1 (show σ 200 2 ≤ x21 by omega) (show x21 < σ 201 2 by omega) hv41
        have h43b := zdn v41
        refine zt_istore (pc' := 43) (lv' := [some (.ref (X.1.1 + 164)), some (.int (zI 0)), some (.int (zI a2_)), some (.int (zI x21)), some (.int (zI v41))]) hX dX12_codesTell_41 rfl hL (by decide) rfl ?_
        refine zt_iload (pc' := 45) hX dX12_codesTell_43 rfl rfl ?_
        refine zt_sipush (pc' := 48) hX dX12_codesTell_45 rfl (by decide) (by decide) ?_
        have J_144_49 : ∀ (s44 : zSto), zInv s44 → zGM σ s44 → (zhw σ 0 (x21 + 1) ≤ s44 164 103 ∧ s44 164 103 ≤ x21 + 1 - σ 200 2) → σ 200 2 ≤ x21 → (s44 201 2 = σ 201 2 ∧ s44 200 2 = σ 200 2) → zF X s44 144 [some (.ref (X.1.1 + 164)), some (.int (zI 0)), some (.int (zI a2_)), some (.int (zI x21)), none] [] := by
          intro s44 hI45 hF46 g47 g48 g49
          have b51 := zv_46_103 hI45 zc_164
          have b52 := zv_82 hI45 zc_200 2
          have b53 := zv_83 hI45 zc_201 2
          refine zt_iinc (pc' := 147) (lv' := [some (.ref (X.1.1 + 164)), some (.int (zI 0)), some (.int (zI a2_)), some (.int (zI (x21 + 1))), none]) hX dX12_codesTell_144 rfl rfl hL (by decide) rfl ?_
          refine zt_goto (tgt := 19) hX dX12_codesTell_147 (by decide) ?_
          exact ih32 (x21 + 1) s44 (by omega) (by omega) hI45 hF46 (by omega) (by omega) (by omega) (by omega)
        refine zt_iclt (pc' := 51) (tgt := 65) hX dX12_codesTell_48 rfl (by decide) ⟨by omega, by omega⟩ ⟨by omega, by omega⟩ (fun c54 => ?_) (fun c54 => ?_)
        · refine zt_iload (pc' := 67) hX dX12_codesTell_65 rfl rfl ?_
          refine zt_bipush (pc' := 69) hX dX12_codesTell_67 rfl (by decide) (by decide) ?_
          refine zt_iclt (pc' := 72) (tgt := 89) hX dX12_codesTell_69 rfl (by decide) ⟨by omega, by omega⟩ ⟨by omega, by omega⟩ (fun c55 => ?_) (fun c55 => ?_)
          · refine zt_iload (pc' := 91) hX dX12_codesTell_89 rfl rfl ?_
            refine zt_bipush (pc' := 93) hX dX12_codesTell_91 rfl (by decide) (by decide) ?_
            refine zt_icne (pc' := 96) (tgt := 104) hX dX12_codesTell_93 rfl (by decide) ⟨by omega, by omega⟩ ⟨by omega, by omega⟩ (fun c56 => ?_) (fun c56 => ?_)
            · refine zt_iload (pc' := 106) hX dX12_codesTell_104 rfl rfl ?_
              refine zt_bipush (pc' := 108) hX dX12_codesTell_106 rfl (by decide) (by decide) ?_
              refine zt_icne (pc' := 111) (tgt := 138) hX dX12_codesTell_108 rfl (by decide) ⟨by omega, by omega⟩ ⟨by omega, by omega⟩ (fun c57 => ?_) (fun c57 => ?_)
              · refine zt_aload_n (pc' := 139) hX dX12_codesTell_138 rfl rfl ?_
                refine zt_iload (pc' := 141) hX dX12_codesTell_139 rfl rfl ?_
                refine zt_cVv (pc' := 144) hX dX12_codesTell_141 rfl zm_yX12_qJoins zw_40_7 zc_164 (by decide) zs_46 (q := (RX12, TX12, 108)) rfl rfl (zc_X12_qJoins _ _ s24 hI25 v41 ⟨by omega, by omega⟩ (by omega)) rfl rfl (Nat.le_of_ble_eq_true rfl) (by decide) (fun r58 s59 hr60 hp61 => ?_)
                obtain ⟨hI62, hF63, z64⟩ := hp61
                have e65 := hF63.2.1.1 2 (by decide)
                have e66 := hF63.2.1.2.1 2 (by decide)
                have hF67 := zGM_tr hF26 hF63
                have b68 := zv_46_103 hI62 zc_164
                have b69 := zv_82 hI62 zc_200 2
                have b70 := zv_83 hI62 zc_201 2
                refine zt_mask [true, true, true, true, false] rfl ?_
                exact J_144_49 s59 hI62 hF67 (by omega) (by omega) (by omega)
              · refine zt_aload_n (pc' := 112) hX dX12_codesTell_111 rfl rfl ?_
                refine zt_get (pc' := 115) (v := .ref (X.1.1 + 236)) hX dX12_codesTell_112 rfl zf_X12_237 (by decide) zc_164 zs_46 (zrf_of (zv_46_102 hI25 zc_164)) ?_
                refine zt_aload_n (pc' := 116) hX dX12_codesTell_115 rfl rfl ?_
                have b71 := zv_46_103 hI25 zc_164
                refine zt_get (pc' := 119) (v := .int (zI (s24 164 103))) hX dX12_codesTell_116 rfl zf_X12_398 (by decide) zc_164 zs_46 rfl ?_
                refine zt_iconst (pc' := 120) hX dX12_codesTell_119 rfl ?_
                refine zt_isub (pc' := 121) hX dX12_codesTell_120 rfl ?_
                refine zt_lconst (pc' := 122) (y := 1) hX dX12_codesTell_121 rfl (by decide +kernel) ?_
                refine zt_aload_n (pc' := 123) hX dX12_codesTell_122 rfl rfl ?_
                refine zt_get (pc' := 126) (v := .ref (X.1.1 + 236)) hX dX12_codesTell_123 rfl zf_X12_237 (by decide) zc_164 zs_46 (zrf_of (zv_46_102 hI25 zc_164)) ?_
                refine zt_aload_n (pc' := 127) hX dX12_codesTell_126 rfl rfl ?_
                refine zt_get (pc' := 130) (v := .int (zI (s24 164 103))) hX dX12_codesTell_127 rfl zf_X12_398 (by decide) zc_164 zs_46 rfl ?_
                refine zt_iconst (pc' := 131) hX dX12_codesTell_130 rfl ?_
                refine zt_isub (pc' := 132) hX dX12_codesTell_131 rfl ?_
                refine zt_lald (pc' := 133) hX dX12_codesTell_132 rfl (by decide) zc_236 zs_118 (by decide) ⟨by omega, by omega⟩ ?_
                generalize hv72 : s24 236 (((s24 164 103) - 1).toNat) = v72
                have bv72 : -9223372036854775808 ≤ v72 ∧ v72 ≤ 9223372036854775807 := hv72 ▸ zv_118 hI25 zc_236 _
                refine zt_lsub (pc' := 134) hX dX12_codesTell_133 rfl ?_
                refine zt_wrapl (fun r73 zr73 lr73 ur73 => ?_)
                clear zr73
                refine zt_last (pc' := 135) hX dX12_codesTell_134 rfl (by decide) zc_236 zs_118 (by decide) ⟨by omega, by omega⟩ ?_
                generalize hs75 : zset s24 236 (((s24 164 103) - 1).toNat) r73 = s74
                have hI76 : zInv s74 := hs75 ▸ zp_118 hI25 zc_236 (((s24 164 103) - 1).toNat) ⟨by omega, by omega⟩
                have hF77 : zGM σ s74 := hs75 ▸ zGM_set hF26 zc_236 (by decide) zk_118 (Or.inl (by decide)) (by decide)
                have e78 : s74 164 103 = s24 164 103 := by rw [← hs75]; exact zset_k (zne_r zc_164 zc_236 (by decide))
                have e79 : s74 200 2 = s24 200 2 := by rw [← hs75]; exact zset_k (zne_r zc_200 zc_236 (by decide))
                have e80 : s74 201 2 = s24 201 2 := by rw [← hs75]; exact zset_k (zne_r zc_201 zc_236 (by decide))
                refine zt_goto (tgt := 144) hX dX12_codesTell_135 (by decide) ?_
                refine zt_mask [true, true, true, true, false] rfl ?_
                exact J_144_49 s74 hI76 hF77 (by omega) (by omega) (by omega)
            · refine zt_aload_n (pc' := 97) hX dX12_codesTell_96 rfl rfl ?_
              refine zt_lconst (pc' := 98) (y := 1) hX dX12_codesTell_97 rfl (by decide +kernel) ?_
              refine zt_cVv (pc' := 101) hX dX12_codesTell_98 rfl zm_yX12_qPuts zw_39_1 zc_164 (by decide) zs_46 (q := (RX12, TX12, 108)) rfl rfl (zc_X12_qPuts _ _ s24 hI25 1 ⟨by omega, by omega⟩ (by omega)) rfl rfl (Nat.le_of_ble_eq_true rfl) (by decide) (fun r81 s82 hr83 hp84 => ?_)
              obtain ⟨hI85, hF86, z87⟩ := hp84
              have e88 := hF86.2.1.1 2 (by decide)
              have e89 := hF86.2.1.2.1 2 (by decide)
              have hF90 := zGM_tr hF26 hF86
              have b91 := zv_46_103 hI85 zc_164
              have b92 := zv_82 hI85 zc_200 2
              have b93 := zv_83 hI85 zc_201 2
              refine zt_goto (tgt := 144) hX dX12_codesTell_101 (by decide) ?_
              refine zt_mask [true, true, true, true, false] rfl ?_
              exact J_144_49 s82 hI85 hF90 (by omega) (by omega) (by omega)
          · refine zt_aload_n (pc' := 73) hX dX12_codesTell_72 rfl rfl ?_
            refine zt_aload_n (pc' := 74) hX dX12_codesTell_73 rfl rfl ?_
            refine zt_iload (pc' := 76) hX dX12_codesTell_74 rfl rfl ?_
            refine zt_bipush (pc' := 78) hX dX12_codesTell_76 rfl (by decide) (by decide) ?_
            refine zt_isub (pc' := 79) hX dX12_codesTell_78 rfl ?_
            refine zt_iload_n (pc' := 80) hX dX12_codesTell_79 rfl rfl ?_
            refine zt_cVl (pc' := 83) hX dX12_codesTell_80 rfl zm_yX12_qPartOf zw_39_5 zc_164 (by decide) zs_46 (q := (RX12, TX12, 108)) rfl rfl (zc_X12_qPartOf _ _ s24 hI25 (v41 - 40) ⟨by omega, by omega⟩ a2_ ⟨by omega, by omega⟩) rfl rfl (Nat.le_of_ble_eq_true rfl) (by decide) (fun r94 s95 hr96 hp97 => ?_)
            obtain ⟨rfl, q98, q99⟩ := hp97
            refine zt_cVv (pc' := 86) hX dX12_codesTell_83 rfl zm_yX12_qPuts zw_39_1 zc_164 (by decide) zs_46 (q := (RX12, TX12, 108)) rfl rfl (zc_X12_qPuts _ _ s24 hI25 r94 ⟨by omega, by omega⟩ (by omega)) rfl rfl (Nat.le_of_ble_eq_true rfl) (by decide) (fun r100 s101 hr102 hp103 => ?_)
            obtain ⟨hI104, hF105, z106⟩ := hp103
            have e107 := hF105.2.1.1 2 (by decide)
            have e108 := hF105.2.1.2.1 2 (by decide)
            have hF109 := zGM_tr hF26 hF105
            have b110 := zv_46_103 hI104 zc_164
            have b111 := zv_82 hI104 zc_200 2
            have b112 := zv_83 hI104 zc_201 2
            refine zt_goto (tgt := 144) hX dX12_codesTell_86 (by decide) ?_
            refine zt_mask [true, true, true, true, false] rfl ?_
            exact J_144_49 s101 hI104 hF109 (by omega) (by omega) (by omega)
        · refine zt_aload_n (pc' := 52) hX dX12_codesTell_51 rfl rfl ?_
          refine zt_iload (pc' := 54) hX dX12_codesTell_52 rfl rfl ?_
          refine zt_sipush (pc' := 57) hX dX12_codesTell_54 rfl (by decide) (by decide) ?_
          refine zt_isub (pc' := 58) hX dX12_codesTell_57 rfl ?_
          refine zt_i2l (pc' := 59) hX dX12_codesTell_58 rfl ⟨by omega, by omega⟩ ?_
          refine zt_cVv (pc' := 62) hX dX12_codesTell_59 rfl zm_yX12_qPuts zw_39_1 zc_164 (by decide) zs_46 (q := (RX12, TX12, 108)) rfl rfl (zc_X12_qPuts _ _ s24 hI25 (v41 - 1000) ⟨by omega, by omega⟩ (by omega)) rfl rfl (Nat.le_of_ble_eq_true rfl) (by decide) (fun r113 s114 hr115 hp116 => ?_)
          obtain ⟨hI117, hF118, z119⟩ := hp116
          have e120 := hF118.2.1.1 2 (by decide)
          have e121 := hF118.2.1.2.1 2 (by decide)
          have hF122 := zGM_tr hF26 hF118
          have b123 := zv_46_103 hI117 zc_164
          have b124 := zv_82 hI117 zc_200 2
          have b125 := zv_83 hI117 zc_201 2
          refine zt_goto (tgt := 144) hX dX12_codesTell_62 (by decide) ?_
          refine zt_mask [true, true, true, true, false] rfl ?_
          exact J_144_49 s114 hI117 hF122 (by omega) (by omega) (by omega)
  exact L_19_29 _ (s11 200 2) s11 (by omega) (by omega) hI13 hF14 (by omega) (by omega) (by omega) (Nat.lt_succ_self _)

set_option maxRecDepth 100000 in
set_option maxHeartbeats 4000000 in
theorem zc_X12_codesTell_1 (l : Launch) (E : zEN) (σ : zSto) (hI : zInv σ) (a2_ : Int) (ha2_ : 0 ≤ a2_ ∧ a2_ ≤ 9) (hpre0 : σ 200 3 ≠ -1) (hW : zWF σ) : zCt l E yX12_codesTell cX12_codesTell 5 (some .long) 3 zNC zNC 0 0 σ [.ref (E.1 + 164), .int (zI 1), .int (zI a2_)] (fun r σ' => zInv σ' ∧ zGM σ σ' ∧ -9223372036854775808 ≤ r ∧ r ≤ 9223372036854775807) := by
  refine zCt_of2 [some (.ref (E.1 + 164)), some (.int (zI 1)), some (.int (zI a2_)), none, none] (by decide +kernel) (Nat.le_of_ble_eq_true rfl) rfl ?_
  intro X hE hX hR hL hN
  subst hE
  have hX : zok X cX12_codesTell RX12 3 := hX
  have hF := zGM_rf σ
  have hWa : 0 ≤ σ 200 3 ∧ σ 200 3 ≤ σ 201 3 ∧ σ 201 3 ≤ 1600 := zWF1_b hW.2.1 hpre0
  have b1 := zv_46_103 hI zc_164
  have b2 := zv_82 hI zc_200 3
  have b3 := zv_83 hI zc_201 3
  refine zt_aload_n (pc' := 1) hX dX12_codesTell_0 rfl rfl ?_
  refine zt_iload_n (pc' := 2) hX dX12_codesTell_1 rfl rfl ?_
  refine zt_put (pc' := 5) (x := 1) hX dX12_codesTell_2 rfl zf_X12_304 (by decide) zc_164 zs_46 (fun q hq => by cases hq; rfl) rfl rfl rfl ?_
  generalize hs5 : zset σ 164 51 1 = s4
  have hI6 : zInv s4 := hs5 ▸ zp_46_51 hI zc_164 ⟨by omega, by omega⟩
  have hF7 : zGM σ s4 := hs5 ▸ zGM_set hF zc_164 (by decide) zk_46 (Or.inr (by decide)) (by decide)
  have e8 : s4 164 103 = σ 164 103 := by rw [← hs5]; exact zset_j (by decide)
  have e9 : s4 200 3 = σ 200 3 := by rw [← hs5]; exact zset_k (zne_r zc_200 zc_164 (by decide))
  have e10 : s4 201 3 = σ 201 3 := by rw [← hs5]; exact zset_k (zne_r zc_201 zc_164 (by decide))
  refine zt_aload_n (pc' := 6) hX dX12_codesTell_5 rfl rfl ?_
  refine zt_iconst (pc' := 7) hX dX12_codesTell_6 rfl ?_
  refine zt_put (pc' := 10) (x := 0) hX dX12_codesTell_7 rfl zf_X12_398 (by decide) zc_164 zs_46 (fun q hq => by cases hq; rfl) rfl rfl rfl ?_
  generalize hs12 : zset s4 164 103 0 = s11
  have hI13 : zInv s11 := hs12 ▸ zp_46_103 hI6 zc_164 ⟨by omega, by omega⟩
  have hF14 : zGM σ s11 := hs12 ▸ zGM_set hF7 zc_164 (by decide) zk_46 (Or.inr (by decide)) (by decide)
  have e15 : s11 164 103 = 0 := by rw [← hs12]; exact zset_s
  have e16 : s11 200 3 = s4 200 3 := by rw [← hs12]; exact zset_k (zne_r zc_200 zc_164 (by decide))
  have e17 : s11 201 3 = s4 201 3 := by rw [← hs12]; exact zset_k (zne_r zc_201 zc_164 (by decide))
  refine zt_aload_n (pc' := 11) hX dX12_codesTell_10 rfl rfl ?_
  refine zt_get (pc' := 14) (v := .ref (X.1.1 + 200)) hX dX12_codesTell_11 rfl zf_X12_121 (by decide) zc_164 zs_46 (zrf_of (zv_46_45 hI13 zc_164)) ?_
  refine zt_iconst (pc' := 15) hX dX12_codesTell_14 rfl ?_
  refine zt_iload_n (pc' := 16) hX dX12_codesTell_15 rfl rfl ?_
  refine zt_iadd (pc' := 17) hX dX12_codesTell_16 rfl ?_
  rw [show (2 + 1 : Int) = 3 from rfl]
  refine zt_iald (pc' := 18) hX dX12_codesTell_17 rfl (by decide) zc_200 zs_82 (by decide) ⟨by omega, by omega⟩ ?_
  rw [show Int.toNat 3 = 3 from rfl]
  have b19 := zv_82 hI13 zc_200 3
  refine zt_istore_n (pc' := 19) (lv' := [some (.ref (X.1.1 + 164)), some (.int (zI 1)), some (.int (zI a2_)), some (.int (zI (s11 200 3))), none]) hX dX12_codesTell_18 rfl hL (by decide) rfl ?_
  have h20 := zhw_0 σ 1 (s11 200 3) (show (s11 200 3) = σ 200 3 by omega)
  have L_19_29 : ∀ (N : Nat) (x21 : Int) (s24 : zSto), -1 ≤ x21 → x21 ≤ 1600 → zInv s24 → zGM σ s24 → (zhw σ 1 x21 ≤ s24 164 103 ∧ s24 164 103 ≤ x21 - σ 200 3) → σ 200 3 ≤ x21 → (s24 201 3 = σ 201 3 ∧ s24 200 3 = σ 200 3) → ((1601 - x21).toNat) < N → zF X s24 19 [some (.ref (X.1.1 + 164)), some (.int (zI 1)), some (.int (zI a2_)), some (.int (zI x21)), none] [] := by
    intro N
    induction N with
    | zero =>
      intro x21 s24 h22 h23 hI25 hF26 g27 g28 g29 hm31
      exact absurd hm31 (Nat.not_lt_zero _)
    | succ N ih32 =>
      intro x21 s24 h22 h23 hI25 hF26 g27 g28 g29 hm31
      have b33 := zv_46_103 hI25 zc_164
      have b34 := zv_82 hI25 zc_200 3
      have b35 := zv_83 hI25 zc_201 3
      refine zt_iload_n (pc' := 20) hX dX12_codesTell_19 rfl rfl ?_
      refine zt_aload_n (pc' := 21) hX dX12_codesTell_20 rfl rfl ?_
      refine zt_get (pc' := 24) (v := .ref (X.1.1 + 201)) hX dX12_codesTell_21 rfl zf_X12_124 (by decide) zc_164 zs_46 (zrf_of (zv_46_46 hI25 zc_164)) ?_
      refine zt_iconst (pc' := 25) hX dX12_codesTell_24 rfl ?_
      refine zt_iload_n (pc' := 26) hX dX12_codesTell_25 rfl rfl ?_
      refine zt_iadd (pc' := 27) hX dX12_codesTell_26 rfl ?_
      rw [show (2 + 1 : Int) = 3 from rfl]
      refine zt_iald (pc' := 28) hX dX12_codesTell_27 rfl (by decide) zc_201 zs_83 (by decide) ⟨by omega, by omega⟩ ?_
      rw [show Int.toNat 3 = 3 from rfl]
      have b37 := zv_83 hI25 zc_201 3
      refine zt_icge (pc' := 31) (tgt := 150) hX dX12_codesTell_28 rfl (by decide) ⟨by omega, by omega⟩ ⟨by omega, by omega⟩ (fun c38 => ?_) (fun c38 => ?_)
      · refine zt_aload_n (pc' := 151) hX dX12_codesTell_150 rfl rfl ?_
        refine zt_get (pc' := 154) (v := .ref (X.1.1 + 236)) hX dX12_codesTell_151 rfl zf_X12_237 (by decide) zc_164 zs_46 (zrf_of (zv_46_102 hI25 zc_164)) ?_
        refine zt_iconst (pc' := 155) hX dX12_codesTell_154 rfl ?_
        refine zt_lald (pc' := 156) hX dX12_codesTell_155 rfl (by decide) zc_236 zs_118 (by decide) ⟨by omega, by omega⟩ ?_
        rw [show Int.toNat 0 = 0 from rfl]
        have b40 := zv_118 hI25 zc_236 0
        exact zt_lret hX hR dX12_codesTell_156 ⟨by omega, by omega⟩ ⟨hI25, hF26, by omega, by omega⟩
      · refine zt_aload_n (pc' := 32) hX dX12_codesTell_31 rfl rfl ?_
        refine zt_get (pc' := 35) (v := .ref (X.1.1 + 202)) hX dX12_codesTell_32 rfl zf_X12_127 (by decide) zc_164 zs_46 (zrf_of (zv_46_47 hI25 zc_164)) ?_
        refine zt_sipush (pc' := 38) hX dX12_codesTell_35 rfl (by decide) (by decide) ?_
        refine zt_iload_n (pc' := 39) hX dX12_codesTell_38 rfl rfl ?_
        refine zt_iadd (pc' := 40) hX dX12_codesTell_39 rfl ?_
        refine zt_iald (pc' := 41) hX dX12_codesTell_40 rfl (by decide) zc_202 zs_84 (by decide) ⟨by omega, by omega⟩ ?_
        generalize hv41 : s24 202 ((1600 + x21).toNat) = v41
        have bv41 : -2147483648 ≤ v41 ∧ v41 ≤ 2147483647 := hv41 ▸ zv_84 hI25 zc_202 _
        have h42a := zct_step hW.2.1 hpre0 hF26.2.1 (show σ 200 3 ≤ x21 by omega) (show x21 < σ 201 3 by omega) hv41
        have h43b := zdn v41
        refine zt_istore (pc' := 43) (lv' := [some (.ref (X.1.1 + 164)), some (.int (zI 1)), some (.int (zI a2_)), some (.int (zI x21)), some (.int (zI v41))]) hX dX12_codesTell_41 rfl hL (by decide) rfl ?_
        refine zt_iload (pc' := 45) hX dX12_codesTell_43 rfl rfl ?_
        refine zt_sipush (pc' := 48) hX dX12_codesTell_45 rfl (by decide) (by decide) ?_
        have J_144_49 : ∀ (s44 : zSto), zInv s44 → zGM σ s44 → (zhw σ 1 (x21 + 1) ≤ s44 164 103 ∧ s44 164 103 ≤ x21 + 1 - σ 200 3) → σ 200 3 ≤ x21 → (s44 201 3 = σ 201 3 ∧ s44 200 3 = σ 200 3) → zF X s44 144 [some (.ref (X.1.1 + 164)), some (.int (zI 1)), some (.int (zI a2_)), some (.int (zI x21)), none] [] := by
          intro s44 hI45 hF46 g47 g48 g49
          have b51 := zv_46_103 hI45 zc_164
          have b52 := zv_82 hI45 zc_200 3
          have b53 := zv_83 hI45 zc_201 3
          refine zt_iinc (pc' := 147) (lv' := [some (.ref (X.1.1 + 164)), some (.int (zI 1)), some (.int (zI a2_)), some (.int (zI (x21 + 1))), none]) hX dX12_codesTell_144 rfl rfl hL (by decide) rfl ?_
          refine zt_goto (tgt := 19) hX dX12_codesTell_147 (by decide) ?_
          exact ih32 (x21 + 1) s44 (by omega) (by omega) hI45 hF46 (by omega) (by omega) (by omega) (by omega)
        refine zt_iclt (pc' := 51) (tgt := 65) hX dX12_codesTell_48 rfl (by decide) ⟨by omega, by omega⟩ ⟨by omega, by omega⟩ (fun c54 => ?_) (fun c54 => ?_)
        · refine zt_iload (pc' := 67) hX dX12_codesTell_65 rfl rfl ?_
          refine zt_bipush (pc' := 69) hX dX12_codesTell_67 rfl (by decide) (by decide) ?_
          refine zt_iclt (pc' := 72) (tgt := 89) hX dX12_codesTell_69 rfl (by decide) ⟨by omega, by omega⟩ ⟨by omega, by omega⟩ (fun c55 => ?_) (fun c55 => ?_)
          · refine zt_iload (pc' := 91) hX dX12_codesTell_89 rfl rfl ?_
            refine zt_bipush (pc' := 93) hX dX12_codesTell_91 rfl (by decide) (by decide) ?_
            refine zt_icne (pc' := 96) (tgt := 104) hX dX12_codesTell_93 rfl (by decide) ⟨by omega, by omega⟩ ⟨by omega, by omega⟩ (fun c56 => ?_) (fun c56 => ?_)
            · refine zt_iload (pc' := 106) hX dX12_codesTell_104 rfl rfl ?_
              refine zt_bipush (pc' := 108) hX dX12_codesTell_106 rfl (by decide) (by decide) ?_
              refine zt_icne (pc' := 111) (tgt := 138) hX dX12_codesTell_108 rfl (by decide) ⟨by omega, by omega⟩ ⟨by omega, by omega⟩ (fun c57 => ?_) (fun c57 => ?_)
              · refine zt_aload_n (pc' := 139) hX dX12_codesTell_138 rfl rfl ?_
                refine zt_iload (pc' := 141) hX dX12_codesTell_139 rfl rfl ?_
                refine zt_cVv (pc' := 144) hX dX12_codesTell_141 rfl zm_yX12_qJoins zw_40_7 zc_164 (by decide) zs_46 (q := (RX12, TX12, 108)) rfl rfl (zc_X12_qJoins _ _ s24 hI25 v41 ⟨by omega, by omega⟩ (by omega)) rfl rfl (Nat.le_of_ble_eq_true rfl) (by decide) (fun r58 s59 hr60 hp61 => ?_)
                obtain ⟨hI62, hF63, z64⟩ := hp61
                have e65 := hF63.2.1.1 3 (by decide)
                have e66 := hF63.2.1.2.1 3 (by decide)
                have hF67 := zGM_tr hF26 hF63
                have b68 := zv_46_103 hI62 zc_164
                have b69 := zv_82 hI62 zc_200 3
                have b70 := zv_83 hI62 zc_201 3
                refine zt_mask [true, true, true, true, false] rfl ?_
                exact J_144_49 s59 hI62 hF67 (by omega) (by omega) (by omega)
              · refine zt_aload_n (pc' := 112) hX dX12_codesTell_111 rfl rfl ?_
                refine zt_get (pc' := 115) (v := .ref (X.1.1 + 236)) hX dX12_codesTell_112 rfl zf_X12_237 (by decide) zc_164 zs_46 (zrf_of (zv_46_102 hI25 zc_164)) ?_
                refine zt_aload_n (pc' := 116) hX dX12_codesTell_115 rfl rfl ?_
                have b71 := zv_46_103 hI25 zc_164
                refine zt_get (pc' := 119) (v := .int (zI (s24 164 103))) hX dX12_codesTell_116 rfl zf_X12_398 (by decide) zc_164 zs_46 rfl ?_
                refine zt_iconst (pc' := 120) hX dX12_codesTell_119 rfl ?_
                refine zt_isub (pc' := 121) hX dX12_codesTell_120 rfl ?_
                refine zt_lconst (pc' := 122) (y := 1) hX dX12_codesTell_121 rfl (by decide +kernel) ?_
                refine zt_aload_n (pc' := 123) hX dX12_codesTell_122 rfl rfl ?_
                refine zt_get (pc' := 126) (v := .ref (X.1.1 + 236)) hX dX12_codesTell_123 rfl zf_X12_237 (by decide) zc_164 zs_46 (zrf_of (zv_46_102 hI25 zc_164)) ?_
                refine zt_aload_n (pc' := 127) hX dX12_codesTell_126 rfl rfl ?_
                refine zt_get (pc' := 130) (v := .int (zI (s24 164 103))) hX dX12_codesTell_127 rfl zf_X12_398 (by decide) zc_164 zs_46 rfl ?_
                refine zt_iconst (pc' := 131) hX dX12_codesTell_130 rfl ?_
                refine zt_isub (pc' := 132) hX dX12_codesTell_131 rfl ?_
                refine zt_lald (pc' := 133) hX dX12_codesTell_132 rfl (by decide) zc_236 zs_118 (by decide) ⟨by omega, by omega⟩ ?_
                generalize hv72 : s24 236 (((s24 164 103) - 1).toNat) = v72
                have bv72 : -9223372036854775808 ≤ v72 ∧ v72 ≤ 9223372036854775807 := hv72 ▸ zv_118 hI25 zc_236 _
                refine zt_lsub (pc' := 134) hX dX12_codesTell_133 rfl ?_
                refine zt_wrapl (fun r73 zr73 lr73 ur73 => ?_)
                clear zr73
                refine zt_last (pc' := 135) hX dX12_codesTell_134 rfl (by decide) zc_236 zs_118 (by decide) ⟨by omega, by omega⟩ ?_
                generalize hs75 : zset s24 236 (((s24 164 103) - 1).toNat) r73 = s74
                have hI76 : zInv s74 := hs75 ▸ zp_118 hI25 zc_236 (((s24 164 103) - 1).toNat) ⟨by omega, by omega⟩
                have hF77 : zGM σ s74 := hs75 ▸ zGM_set hF26 zc_236 (by decide) zk_118 (Or.inl (by decide)) (by decide)
                have e78 : s74 164 103 = s24 164 103 := by rw [← hs75]; exact zset_k (zne_r zc_164 zc_236 (by decide))
                have e79 : s74 200 3 = s24 200 3 := by rw [← hs75]; exact zset_k (zne_r zc_200 zc_236 (by decide))
                have e80 : s74 201 3 = s24 201 3 := by rw [← hs75]; exact zset_k (zne_r zc_201 zc_236 (by decide))
                refine zt_goto (tgt := 144) hX dX12_codesTell_135 (by decide) ?_
                refine zt_mask [true, true, true, true, false] rfl ?_
                exact J_144_49 s74 hI76 hF77 (by omega) (by omega) (by omega)
            · refine zt_aload_n (pc' := 97) hX dX12_codesTell_96 rfl rfl ?_
              refine zt_lconst (pc' := 98) (y := 1) hX dX12_codesTell_97 rfl (by decide +kernel) ?_
              refine zt_cVv (pc' := 101) hX dX12_codesTell_98 rfl zm_yX12_qPuts zw_39_1 zc_164 (by decide) zs_46 (q := (RX12, TX12, 108)) rfl rfl (zc_X12_qPuts _ _ s24 hI25 1 ⟨by omega, by omega⟩ (by omega)) rfl rfl (Nat.le_of_ble_eq_true rfl) (by decide) (fun r81 s82 hr83 hp84 => ?_)
              obtain ⟨hI85, hF86, z87⟩ := hp84
              have e88 := hF86.2.1.1 3 (by decide)
              have e89 := hF86.2.1.2.1 3 (by decide)
              have hF90 := zGM_tr hF26 hF86
              have b91 := zv_46_103 hI85 zc_164
              have b92 := zv_82 hI85 zc_200 3
              have b93 := zv_83 hI85 zc_201 3
              refine zt_goto (tgt := 144) hX dX12_codesTell_101 (by decide) ?_
              refine zt_mask [true, true, true, true, false] rfl ?_
              exact J_144_49 s82 hI85 hF90 (by omega) (by omega) (by omega)
          · refine zt_aload_n (pc' := 73) hX dX12_codesTell_72 rfl rfl ?_
            refine zt_aload_n (pc' := 74) hX dX12_codesTell_73 rfl rfl ?_
            refine zt_iload (pc' := 76) hX dX12_codesTell_74 rfl rfl ?_
            refine zt_bipush (pc' := 78) hX dX12_codesTell_76 rfl (by decide) (by decide) ?_
            refine zt_isub (pc' := 79) hX dX12_codesTell_78 rfl ?_
            refine zt_iload_n (pc' := 80) hX dX12_codesTell_79 rfl rfl ?_
            refine zt_cVl (pc' := 83) hX dX12_codesTell_80 rfl zm_yX12_qPartOf zw_39_5 zc_164 (by decide) zs_46 (q := (RX12, TX12, 108)) rfl rfl (zc_X12_qPartOf _ _ s24 hI25 (v41 - 40) ⟨by omega, by omega⟩ a2_ ⟨by omega, by omega⟩) rfl rfl (Nat.le_of_ble_eq_true rfl) (by decide) (fun r94 s95 hr96 hp97 => ?_)
            obtain ⟨rfl, q98, q99⟩ := hp97
            refine zt_cVv (pc' := 86) hX dX12_codesTell_83 rfl zm_yX12_qPuts zw_39_1 zc_164 (by decide) zs_46 (q := (RX12, TX12, 108)) rfl rfl (zc_X12_qPuts _ _ s24 hI25 r94 ⟨by omega, by omega⟩ (by omega)) rfl rfl (Nat.le_of_ble_eq_true rfl) (by decide) (fun r100 s101 hr102 hp103 => ?_)
            obtain ⟨hI104, hF105, z106⟩ := hp103
            have e107 := hF105.2.1.1 3 (by decide)
            have e108 := hF105.2.1.2.1 3 (by decide)
            have hF109 := zGM_tr hF26 hF105
            have b110 := zv_46_103 hI104 zc_164
            have b111 := zv_82 hI104 zc_200 3
            have b112 := zv_83 hI104 zc_201 3
            refine zt_goto (tgt := 144) hX dX12_codesTell_86 (by decide) ?_
            refine zt_mask [true, true, true, true, false] rfl ?_
            exact J_144_49 s101 hI104 hF109 (by omega) (by omega) (by omega)
        · refine zt_aload_n (pc' := 52) hX dX12_codesTell_51 rfl rfl ?_
          refine zt_iload (pc' := 54) hX dX12_codesTell_52 rfl rfl ?_
          refine zt_sipush (pc' := 57) hX dX12_codesTell_54 rfl (by decide) (by decide) ?_
          refine zt_isub (pc' := 58) hX dX12_codesTell_57 rfl ?_
          refine zt_i2l (pc' := 59) hX dX12_codesTell_58 rfl ⟨by omega, by omega⟩ ?_
          refine zt_cVv (pc' := 62) hX dX12_codesTell_59 rfl zm_yX12_qPuts zw_39_1 zc_164 (by decide) zs_46 (q := (RX12, TX12, 108)) rfl rfl (zc_X12_qPuts _ _ s24 hI25 (v41 - 1000) ⟨by omega, by omega⟩ (by omega)) rfl rfl (Nat.le_of_ble_eq_true rfl) (by decide) (fun r113 s114 hr115 hp116 => ?_)
          obtain ⟨hI117, hF118, z119⟩ := hp116
          have e120 := hF118.2.1.1 3 (by decide)
          have e121 := hF118.2.1.2.1 3 (by decide)
          have hF122 := zGM_tr hF26 hF118
          have b123 := zv_46_103 hI117 zc_164
          have b124 := zv_82 hI117 zc_200 3
          have b125 := zv_83 hI117 zc_201 3
          refine zt_goto (tgt := 144) hX dX12_codesTell_62 (by decide) ?_
          refine zt_mask [true, true, true, true, false] rfl ?_
          exact J_144_49 s114 hI117 hF122 (by omega) (by omega) (by omega)
  exact L_19_29 _ (s11 200 3) s11 (by omega) (by omega) hI13 hF14 (by omega) (by omega) (by omega) (Nat.lt_succ_self _)

set_option maxRecDepth 100000 in
set_option maxHeartbeats 4000000 in
theorem zc_X12_holders (l : Launch) (E : zEN) (σ : zSto) (hI : zInv σ) (hW : zWF σ) : zCt l E yX12_holders cX12_holders 3 (some .int) 4 zNC zNC 0 0 σ [.ref (E.1 + 164)] (fun r σ' => zInv σ' ∧ zGM σ σ' ∧ -2147483648 ≤ r ∧ r ≤ 2147483647) := by
  refine zCt_of2 [some (.ref (E.1 + 164)), none, none] (by decide +kernel) (Nat.le_of_ble_eq_true rfl) rfl ?_
  intro X hE hX hR hL hN
  subst hE
  have hX : zok X cX12_holders RX12 4 := hX
  have hF := zGM_rf σ
  refine zt_iconst (pc' := 1) hX dX12_holders_0 rfl ?_
  refine zt_istore_n (pc' := 2) (lv' := [some (.ref (X.1.1 + 164)), some (.int (zI 0)), none]) hX dX12_holders_1 rfl hL (by decide) rfl ?_
  refine zt_iconst (pc' := 3) hX dX12_holders_2 rfl ?_
  refine zt_istore_n (pc' := 4) (lv' := [some (.ref (X.1.1 + 164)), some (.int (zI 0)), some (.int (zI 0))]) hX dX12_holders_3 rfl hL (by decide) rfl ?_
  have L_4_9 : ∀ (N : Nat) (x1 : Int) (x4 : Int) (s7 : zSto), -2147483648 ≤ x1 → x1 ≤ 2147483647 → 0 ≤ x4 → x4 ≤ 10 → zInv s7 → zGM σ s7 → ((11 - x4).toNat) < N → zF X s7 4 [some (.ref (X.1.1 + 164)), some (.int (zI x1)), some (.int (zI x4))] [] := by
    intro N
    induction N with
    | zero =>
      intro x1 x4 s7 h2 h3 h5 h6 hI8 hF9 hm11
      exact absurd hm11 (Nat.not_lt_zero _)
    | succ N ih12 =>
      intro x1 x4 s7 h2 h3 h5 h6 hI8 hF9 hm11
      refine zt_iload_n (pc' := 5) hX dX12_holders_4 rfl rfl ?_
      refine zt_aload_n (pc' := 6) hX dX12_holders_5 rfl rfl ?_
      refine zt_cVi (pc' := 9) hX dX12_holders_6 rfl zm_yX12_peopleMany zw_38_4 zc_164 (by decide) zs_46 (q := (RX12, TX12, 108)) rfl rfl (zc_X12_peopleMany _ _ s7 hI8 ) rfl rfl (Nat.le_of_ble_eq_true rfl) (by decide) (fun r13 s14 hr15 hp16 => ?_)
      obtain ⟨rfl, q17, q18, z19⟩ := hp16
      refine zt_icge (pc' := 12) (tgt := 53) hX dX12_holders_9 rfl (by decide) ⟨by omega, by omega⟩ ⟨by omega, by omega⟩ (fun c20 => ?_) (fun c20 => ?_)
      · refine zt_iload_n (pc' := 54) hX dX12_holders_53 rfl rfl ?_
        exact zt_iret hX hR dX12_holders_54 ⟨by omega, by omega⟩ ⟨hI8, hF9, by omega, by omega⟩
      · refine zt_aload_n (pc' := 13) hX dX12_holders_12 rfl rfl ?_
        refine zt_iload_n (pc' := 14) hX dX12_holders_13 rfl rfl ?_
        refine zt_cVz (pc' := 17) hX dX12_holders_14 rfl zm_yX12_isAtRest zw_38_16 zc_164 (by decide) zs_46 (q := (RX12, TX12, 108)) rfl rfl (zc_X12_isAtRest _ _ s7 hI8 x4 ⟨by omega, by omega⟩) rfl rfl (Nat.le_of_ble_eq_true rfl) (by decide) (fun r21 s22 hr23 hp24 => ?_)
        obtain ⟨rfl, q25, q26⟩ := hp24
        have J_47_32 : ∀ (x27 : Int) (s30 : zSto), -2147483648 ≤ x27 → x27 ≤ 2147483647 → zInv s30 → zGM σ s30 → zF X s30 47 [some (.ref (X.1.1 + 164)), some (.int (zI x27)), some (.int (zI x4))] [] := by
          intro x27 s30 h28 h29 hI31 hF32
          refine zt_iinc (pc' := 50) (lv' := [some (.ref (X.1.1 + 164)), some (.int (zI x27)), some (.int (zI (x4 + 1)))]) hX dX12_holders_47 rfl rfl hL (by decide) rfl ?_
          refine zt_goto (tgt := 4) hX dX12_holders_50 (by decide) ?_
          exact ih12 x27 (x4 + 1) s30 (by omega) (by omega) (by omega) (by omega) hI31 hF32 (by omega)
        refine zt_ifne (pc' := 20) (tgt := 47) hX dX12_holders_17 rfl (by decide) ⟨by omega, by omega⟩ (fun c34 => ?_) (fun c34 => ?_)
        · exact J_47_32 x1 s7 (by omega) (by omega) hI8 hF9
        · refine zt_aload_n (pc' := 21) hX dX12_holders_20 rfl rfl ?_
          refine zt_get (pc' := 24) (v := .ref (X.1.1 + 200)) hX dX12_holders_21 rfl zf_X12_121 (by decide) zc_164 zs_46 (zrf_of (zv_46_45 hI8 zc_164)) ?_
          refine zt_iconst (pc' := 25) hX dX12_holders_24 rfl ?_
          refine zt_iald (pc' := 26) hX dX12_holders_25 rfl (by decide) zc_200 zs_82 (by decide) ⟨by omega, by omega⟩ ?_
          rw [show Int.toNat 3 = 3 from rfl]
          have b36 := zv_82 hI8 zc_200 3
          refine zt_iconst (pc' := 27) hX dX12_holders_26 rfl ?_
          have J_41_39 : ∀ (s37 : zSto), zInv s37 → zGM σ s37 → zF X s37 41 [some (.ref (X.1.1 + 164)), some (.int (zI x1)), some (.int (zI x4))] [] := by
            intro s37 hI38 hF39
            refine zt_iload_n (pc' := 42) hX dX12_holders_41 rfl rfl ?_
            refine zt_iconst (pc' := 43) hX dX12_holders_42 rfl ?_
            refine zt_iload_n (pc' := 44) hX dX12_holders_43 rfl rfl ?_
            refine zt_ishl1 9 (pc' := 45) hX dX12_holders_44 rfl ⟨by omega, by omega⟩ (by decide) (fun r41 er41 lr41 ur41 => ?_)
            have ur41 : r41 ≤ 512 := by omega
            refine zt_ior (pc' := 46) hX dX12_holders_45 rfl (fun r42 zr42 lr42 ur42 => ?_)
            clear zr42
            refine zt_istore_n (pc' := 47) (lv' := [some (.ref (X.1.1 + 164)), some (.int (zI r42)), some (.int (zI x4))]) hX dX12_holders_46 rfl hL (by decide) rfl ?_
            exact J_47_32 r42 s37 (by omega) (by omega) hI38 hF39
          refine zt_iceq (pc' := 30) (tgt := 41) hX dX12_holders_27 rfl (by decide) ⟨by omega, by omega⟩ ⟨by omega, by omega⟩ (fun c43 => ?_) (fun c43 => ?_)
          · exact J_41_39 s7 hI8 hF9
          · refine zt_aload_n (pc' := 31) hX dX12_holders_30 rfl rfl ?_
            refine zt_iconst (pc' := 32) hX dX12_holders_31 rfl ?_
            refine zt_iload_n (pc' := 33) hX dX12_holders_32 rfl rfl ?_
            refine zt_cVl (pc' := 36) hX dX12_holders_33 rfl zm_yX12_codesTell zw_38_20 zc_164 (by decide) zs_46 (q := (RX12, TX12, 108)) rfl rfl (zc_X12_codesTell_1 _ _ s7 hI8 x4 ⟨by omega, by omega⟩ (by omega) (zWF_M hW hF9)) rfl rfl (Nat.le_of_ble_eq_true rfl) (by decide) (fun r44 s45 hr46 hp47 => ?_)
            obtain ⟨hI48, hF49, q50, q51⟩ := hp47
            have hF52 := zGM_tr hF9 hF49
            refine zt_lconst (pc' := 37) (y := 1) hX dX12_holders_36 rfl (by decide +kernel) ?_
            refine zt_lcmp (pc' := 38) hX dX12_holders_37 rfl ⟨by omega, by omega⟩ ⟨by omega, by omega⟩ (fun r53 er53 => ?_)
            refine zt_ifne (pc' := 41) (tgt := 47) hX dX12_holders_38 rfl (by decide) ⟨by omega, by omega⟩ (fun c54 => ?_) (fun c54 => ?_)
            · exact J_47_32 x1 s45 (by omega) (by omega) hI48 hF52
            · exact J_41_39 s45 hI48 hF52
  exact L_4_9 _ 0 0 σ (by omega) (by omega) (by omega) (by omega) hI hF (Nat.lt_succ_self _)

set_option maxRecDepth 100000 in
set_option maxHeartbeats 4000000 in
theorem zc_X12_addsOf (l : Launch) (E : zEN) (σ : zSto) (hI : zInv σ) (a1_ : Int) (ha1_ : 0 ≤ a1_ ∧ a1_ ≤ 35) (hW : zWF σ) : zCt l E yX12_addsOf cX12_addsOf 4 (some .int) 4 zNC zNC 0 0 σ [.ref (E.1 + 164), .int (zI a1_)] (fun r σ' => zInv σ' ∧ zGM σ σ' ∧ -2147483648 ≤ r ∧ r ≤ 2147483647) := by
  refine zCt_of2 [some (.ref (E.1 + 164)), some (.int (zI a1_)), none, none] (by decide +kernel) (Nat.le_of_ble_eq_true rfl) rfl ?_
  intro X hE hX hR hL hN
  subst hE
  have hX : zok X cX12_addsOf RX12 4 := hX
  have hF := zGM_rf σ
  have b1 := zv_82 hI zc_200 2
  refine zt_aload_n (pc' := 1) hX dX12_addsOf_0 rfl rfl ?_
  refine zt_get (pc' := 4) (v := .ref (X.1.1 + 200)) hX dX12_addsOf_1 rfl zf_X12_121 (by decide) zc_164 zs_46 (zrf_of (zv_46_45 hI zc_164)) ?_
  refine zt_iconst (pc' := 5) hX dX12_addsOf_4 rfl ?_
  refine zt_iald (pc' := 6) hX dX12_addsOf_5 rfl (by decide) zc_200 zs_82 (by decide) ⟨by omega, by omega⟩ ?_
  rw [show Int.toNat 2 = 2 from rfl]
  have b3 := zv_82 hI zc_200 2
  refine zt_iconst (pc' := 7) hX dX12_addsOf_6 rfl ?_
  refine zt_icne (pc' := 10) (tgt := 20) hX dX12_addsOf_7 rfl (by decide) ⟨by omega, by omega⟩ ⟨by omega, by omega⟩ (fun c4 => ?_) (fun c4 => ?_)
  · refine zt_aload_n (pc' := 21) hX dX12_addsOf_20 rfl rfl ?_
    refine zt_aload_n (pc' := 22) hX dX12_addsOf_21 rfl rfl ?_
    refine zt_get (pc' := 25) (v := .ref (X.1.1 + 197)) hX dX12_addsOf_22 rfl zf_X12_112 (by decide) zc_164 zs_46 (zrf_of (zv_46_42 hI zc_164)) ?_
    refine zt_bipush (pc' := 27) hX dX12_addsOf_25 rfl (by decide) (by decide) ?_
    refine zt_iload_n (pc' := 28) hX dX12_addsOf_27 rfl rfl ?_
    refine zt_iadd (pc' := 29) hX dX12_addsOf_28 rfl ?_
    refine zt_iald (pc' := 30) hX dX12_addsOf_29 rfl (by decide) zc_197 zs_79 (by decide) ⟨by omega, by omega⟩ ?_
    generalize hv5 : σ 197 ((36 + a1_).toNat) = v5
    have bv5 : -2147483648 ≤ v5 ∧ v5 ≤ 2147483647 := hv5 ▸ zv_79 hI zc_197 _
    refine zt_put (pc' := 33) (x := v5) hX dX12_addsOf_30 rfl zf_X12_425 (by decide) zc_164 zs_46 (fun q hq => by cases hq; rfl) rfl rfl rfl ?_
    generalize hs7 : zset σ 164 55 v5 = s6
    have hI8 : zInv s6 := hs7 ▸ zp_46_55 hI zc_164 ⟨by omega, by omega⟩
    have hF9 : zGM σ s6 := hs7 ▸ zGM_set hF zc_164 (by decide) zk_46 (Or.inr (by decide)) (by decide)
    have e10 : s6 200 2 = σ 200 2 := by rw [← hs7]; exact zset_k (zne_r zc_200 zc_164 (by decide))
    refine zt_aload_n (pc' := 34) hX dX12_addsOf_33 rfl rfl ?_
    refine zt_iconst (pc' := 35) hX dX12_addsOf_34 rfl ?_
    refine zt_iconst (pc' := 36) hX dX12_addsOf_35 rfl ?_
    refine zt_cVl (pc' := 39) hX dX12_addsOf_36 rfl zm_yX12_codesTell zw_38_20 zc_164 (by decide) zs_46 (q := (RX12, TX12, 108)) rfl rfl (zc_X12_codesTell_0 _ _ s6 hI8 0 ⟨by omega, by omega⟩ (by omega) (zWF_M hW hF9)) rfl rfl (Nat.le_of_ble_eq_true rfl) (by decide) (fun r11 s12 hr13 hp14 => ?_)
    obtain ⟨hI15, hF16, q17, q18⟩ := hp14
    have e19 := hF16.2.1.1 2 (by decide)
    have hF20 := zGM_tr hF9 hF16
    have b21 := zv_82 hI15 zc_200 2
    refine zt_lstore_n (pc' := 40) (lv' := [some (.ref (X.1.1 + 164)), some (.int (zI a1_)), some (.long (zJ r11)), none]) hX dX12_addsOf_39 rfl hL (by decide) rfl ?_
    refine zt_lload_n (pc' := 41) hX dX12_addsOf_40 rfl rfl ?_
    refine zt_lconst (pc' := 42) (y := 0) hX dX12_addsOf_41 rfl (by decide +kernel) ?_
    refine zt_lcmp (pc' := 43) hX dX12_addsOf_42 rfl ⟨by omega, by omega⟩ ⟨by omega, by omega⟩ (fun r22 er22 => ?_)
    refine zt_ifge (pc' := 46) (tgt := 50) hX dX12_addsOf_43 rfl (by decide) ⟨by omega, by omega⟩ (fun c23 => ?_) (fun c23 => ?_)
    · refine zt_lload_n (pc' := 51) hX dX12_addsOf_50 rfl rfl ?_
      refine zt_ldc2 (pc' := 54) (x := 999) hX dX12_addsOf_51 rfl zw_45_11 (by decide +kernel) ?_
      refine zt_lcmp (pc' := 55) hX dX12_addsOf_54 rfl ⟨by omega, by omega⟩ ⟨by omega, by omega⟩ (fun r24 er24 => ?_)
      refine zt_ifle (pc' := 58) (tgt := 64) hX dX12_addsOf_55 rfl (by decide) ⟨by omega, by omega⟩ (fun c25 => ?_) (fun c25 => ?_)
      · refine zt_lload_n (pc' := 65) hX dX12_addsOf_64 rfl rfl ?_
        refine zt_l2i (pc' := 66) hX dX12_addsOf_65 rfl ?_
        refine zt_wrap (fun r26 zr26 lr26 ur26 => ?_)
        clear zr26
        exact zt_iret hX hR dX12_addsOf_66 ⟨by omega, by omega⟩ ⟨hI15, hF20, by omega, by omega⟩
      · refine zt_sipush (pc' := 61) hX dX12_addsOf_58 rfl (by decide) (by decide) ?_
        refine zt_goto (tgt := 66) hX dX12_addsOf_61 (by decide) ?_
        exact zt_iret hX hR dX12_addsOf_66 ⟨by omega, by omega⟩ ⟨hI15, hF20, by omega, by omega⟩
    · refine zt_iconst (pc' := 47) hX dX12_addsOf_46 rfl ?_
      refine zt_goto (tgt := 66) hX dX12_addsOf_47 (by decide) ?_
      exact zt_iret hX hR dX12_addsOf_66 ⟨by omega, by omega⟩ ⟨hI15, hF20, by omega, by omega⟩
  · refine zt_aload_n (pc' := 11) hX dX12_addsOf_10 rfl rfl ?_
    refine zt_get (pc' := 14) (v := .ref (X.1.1 + 197)) hX dX12_addsOf_11 rfl zf_X12_112 (by decide) zc_164 zs_46 (zrf_of (zv_46_42 hI zc_164)) ?_
    refine zt_bipush (pc' := 16) hX dX12_addsOf_14 rfl (by decide) (by decide) ?_
    refine zt_iload_n (pc' := 17) hX dX12_addsOf_16 rfl rfl ?_
    refine zt_iadd (pc' := 18) hX dX12_addsOf_17 rfl ?_
    refine zt_iald (pc' := 19) hX dX12_addsOf_18 rfl (by decide) zc_197 zs_79 (by decide) ⟨by omega, by omega⟩ ?_
    generalize hv27 : σ 197 ((36 + a1_).toNat) = v27
    have bv27 : -2147483648 ≤ v27 ∧ v27 ≤ 2147483647 := hv27 ▸ zv_79 hI zc_197 _
    exact zt_iret hX hR dX12_addsOf_19 ⟨by omega, by omega⟩ ⟨hI, hF, by omega, by omega⟩

set_option maxRecDepth 100000 in
set_option maxHeartbeats 4000000 in
theorem zc_X12_laysLoads (l : Launch) (E : zEN) (σ : zSto) (hI : zInv σ) (hW : zWF σ) : zCt l E yX12_laysLoads cX12_laysLoads 6 none 5 zNC zNC 0 0 σ [.ref (E.1 + 164)] (fun r σ' => zInv σ' ∧ zGM σ σ') := by
  refine zCt_of2 [some (.ref (E.1 + 164)), none, none, none, none, none] (by decide +kernel) (Nat.le_of_ble_eq_true rfl) rfl ?_
  intro X hE hX hR hL hN
  subst hE
  have hX : zok X cX12_laysLoads RX12 5 := hX
  have hF := zGM_rf σ
  refine zt_iconst (pc' := 1) hX dX12_laysLoads_0 rfl ?_
  refine zt_istore_n (pc' := 2) (lv' := [some (.ref (X.1.1 + 164)), some (.int (zI 0)), none, none, none, none]) hX dX12_laysLoads_1 rfl hL (by decide) rfl ?_
  have L_2_6 : ∀ (N : Nat) (x1 : Int) (s4 : zSto), 0 ≤ x1 → x1 ≤ 36 → zInv s4 → zGM σ s4 → ((37 - x1).toNat) < N → zF X s4 2 [some (.ref (X.1.1 + 164)), some (.int (zI x1)), none, none, none, none] [] := by
    intro N
    induction N with
    | zero =>
      intro x1 s4 h2 h3 hI5 hF6 hm8
      exact absurd hm8 (Nat.not_lt_zero _)
    | succ N ih9 =>
      intro x1 s4 h2 h3 hI5 hF6 hm8
      refine zt_iload_n (pc' := 3) hX dX12_laysLoads_2 rfl rfl ?_
      refine zt_aload_n (pc' := 4) hX dX12_laysLoads_3 rfl rfl ?_
      refine zt_cVi (pc' := 7) hX dX12_laysLoads_4 rfl zm_yX12_cellMany zw_44_19 zc_164 (by decide) zs_46 (q := (RX12, TX12, 108)) rfl rfl (zc_X12_cellMany _ _ s4 hI5 ) rfl rfl (Nat.le_of_ble_eq_true rfl) (by decide) (fun r10 s11 hr12 hp13 => ?_)
      obtain ⟨rfl, q14, q15, z16⟩ := hp13
      refine zt_icge (pc' := 10) (tgt := 120) hX dX12_laysLoads_7 rfl (by decide) ⟨by omega, by omega⟩ ⟨by omega, by omega⟩ (fun c17 => ?_) (fun c17 => ?_)
      · exact zt_vret hX hR dX12_laysLoads_120 ⟨hI5, hF6⟩
      · refine zt_aload_n (pc' := 11) hX dX12_laysLoads_10 rfl rfl ?_
        refine zt_iload_n (pc' := 12) hX dX12_laysLoads_11 rfl rfl ?_
        refine zt_cVi (pc' := 15) hX dX12_laysLoads_12 rfl zm_yX12_cellOf zw_44_23 zc_164 (by decide) zs_46 (q := (RX12, TX12, 108)) rfl rfl (zc_X12_cellOf _ _ s4 hI5 x1 ⟨by omega, by omega⟩ (by omega)) rfl rfl (Nat.le_of_ble_eq_true rfl) (by decide) (fun r18 s19 hr20 hp21 => ?_)
        obtain ⟨rfl, q22, q23⟩ := hp21
        refine zt_istore_n (pc' := 16) (lv' := [some (.ref (X.1.1 + 164)), some (.int (zI x1)), some (.int (zI r18)), none, none, none]) hX dX12_laysLoads_15 rfl hL (by decide) rfl ?_
        refine zt_aload_n (pc' := 17) hX dX12_laysLoads_16 rfl rfl ?_
        refine zt_get (pc' := 20) (v := .ref (X.1.1 + 197)) hX dX12_laysLoads_17 rfl zf_X12_112 (by decide) zc_164 zs_46 (zrf_of (zv_46_42 hI5 zc_164)) ?_
        refine zt_bipush (pc' := 22) hX dX12_laysLoads_20 rfl (by decide) (by decide) ?_
        refine zt_iload_n (pc' := 23) hX dX12_laysLoads_22 rfl rfl ?_
        refine zt_iadd (pc' := 24) hX dX12_laysLoads_23 rfl ?_
        refine zt_iald (pc' := 25) hX dX12_laysLoads_24 rfl (by decide) zc_197 zs_79 (by decide) ⟨by omega, by omega⟩ ?_
        generalize hv24 : s4 197 ((36 + r18).toNat) = v24
        have bv24 : -2147483648 ≤ v24 ∧ v24 ≤ 2147483647 := hv24 ▸ zv_79 hI5 zc_197 _
        refine zt_iload_n (pc' := 26) hX dX12_laysLoads_25 rfl rfl ?_
        refine zt_aload_n (pc' := 27) hX dX12_laysLoads_26 rfl rfl ?_
        have b25 := zv_46_58 hI5 zc_164
        refine zt_get (pc' := 30) (v := .int (zI (s4 164 58))) hX dX12_laysLoads_27 rfl zf_X12_139 (by decide) zc_164 zs_46 rfl ?_
        have J_51_28 : ∀ (y26 : Int), 0 ≤ y26 → y26 ≤ 100 → zF X s4 51 [some (.ref (X.1.1 + 164)), some (.int (zI x1)), some (.int (zI r18)), none, none, none] [.int (zI y26), .int (zI v24)] := by
          intro y26 h27 h28
          refine zt_iadd (pc' := 52) hX dX12_laysLoads_51 rfl ?_
          refine zt_wrap (fun r30 zr30 lr30 ur30 => ?_)
          clear zr30
          refine zt_istore_n (pc' := 53) (lv' := [some (.ref (X.1.1 + 164)), some (.int (zI x1)), some (.int (zI r18)), some (.int (zI r30)), none, none]) hX dX12_laysLoads_52 rfl hL (by decide) rfl ?_
          refine zt_iconst (pc' := 54) hX dX12_laysLoads_53 rfl ?_
          refine zt_istore (pc' := 56) (lv' := [some (.ref (X.1.1 + 164)), some (.int (zI x1)), some (.int (zI r18)), some (.int (zI r30)), some (.int (zI 0)), none]) hX dX12_laysLoads_54 rfl hL (by decide) rfl ?_
          have L_56_39 : ∀ (N : Nat) (x31 : Int) (x34 : Int) (s37 : zSto), -2147483648 ≤ x31 → x31 ≤ 2147483647 → 0 ≤ x34 → x34 ≤ 36 → zInv s37 → zGM σ s37 → ((37 - x34).toNat) < N → zF X s37 56 [some (.ref (X.1.1 + 164)), some (.int (zI x1)), some (.int (zI r18)), some (.int (zI x31)), some (.int (zI x34)), none] [] := by
            intro N
            induction N with
            | zero =>
              intro x31 x34 s37 h32 h33 h35 h36 hI38 hF39 hm41
              exact absurd hm41 (Nat.not_lt_zero _)
            | succ N ih42 =>
              intro x31 x34 s37 h32 h33 h35 h36 hI38 hF39 hm41
              refine zt_iload (pc' := 58) hX dX12_laysLoads_56 rfl rfl ?_
              refine zt_aload_n (pc' := 59) hX dX12_laysLoads_58 rfl rfl ?_
              refine zt_cVi (pc' := 62) hX dX12_laysLoads_59 rfl zm_yX12_cellMany zw_44_19 zc_164 (by decide) zs_46 (q := (RX12, TX12, 108)) rfl rfl (zc_X12_cellMany _ _ s37 hI38 ) rfl rfl (Nat.le_of_ble_eq_true rfl) (by decide) (fun r43 s44 hr45 hp46 => ?_)
              obtain ⟨rfl, q47, q48, z49⟩ := hp46
              refine zt_icge (pc' := 65) (tgt := 107) hX dX12_laysLoads_62 rfl (by decide) ⟨by omega, by omega⟩ ⟨by omega, by omega⟩ (fun c50 => ?_) (fun c50 => ?_)
              · refine zt_aload_n (pc' := 108) hX dX12_laysLoads_107 rfl rfl ?_
                refine zt_get (pc' := 111) (v := .ref (X.1.1 + 205)) hX dX12_laysLoads_108 rfl zf_X12_136 (by decide) zc_164 zs_46 (zrf_of (zv_46_57 hI38 zc_164)) ?_
                refine zt_iload_n (pc' := 112) hX dX12_laysLoads_111 rfl rfl ?_
                refine zt_iload_n (pc' := 113) hX dX12_laysLoads_112 rfl rfl ?_
                refine zt_iast (pc' := 114) hX dX12_laysLoads_113 rfl (by decide) zc_205 zs_87 (by decide) ⟨by omega, by omega⟩ ?_
                generalize hs52 : zset s37 205 (r18.toNat) x31 = s51
                have hI53 : zInv s51 := hs52 ▸ zp_87 hI38 zc_205 (r18.toNat) ⟨by omega, by omega⟩
                have hF54 : zGM σ s51 := hs52 ▸ zGM_set hF39 zc_205 (by decide) zk_87 (Or.inl (by decide)) (by decide)
                refine zt_iinc (pc' := 117) (lv' := [some (.ref (X.1.1 + 164)), some (.int (zI (x1 + 1))), some (.int (zI r18)), some (.int (zI x31)), some (.int (zI x34)), none]) hX dX12_laysLoads_114 rfl rfl hL (by decide) rfl ?_
                refine zt_goto (tgt := 2) hX dX12_laysLoads_117 (by decide) ?_
                refine zt_mask [true, true, false, false, false, false] rfl ?_
                exact ih9 (x1 + 1) s51 (by omega) (by omega) hI53 hF54 (by omega)
              · refine zt_aload_n (pc' := 66) hX dX12_laysLoads_65 rfl rfl ?_
                refine zt_iload (pc' := 68) hX dX12_laysLoads_66 rfl rfl ?_
                refine zt_cVi (pc' := 71) hX dX12_laysLoads_68 rfl zm_yX12_cellOf zw_44_23 zc_164 (by decide) zs_46 (q := (RX12, TX12, 108)) rfl rfl (zc_X12_cellOf _ _ s37 hI38 x34 ⟨by omega, by omega⟩ (by omega)) rfl rfl (Nat.le_of_ble_eq_true rfl) (by decide) (fun r55 s56 hr57 hp58 => ?_)
                obtain ⟨rfl, q59, q60⟩ := hp58
                refine zt_istore (pc' := 73) (lv' := [some (.ref (X.1.1 + 164)), some (.int (zI x1)), some (.int (zI r18)), some (.int (zI x31)), some (.int (zI x34)), some (.int (zI r55))]) hX dX12_laysLoads_71 rfl hL (by decide) rfl ?_
                refine zt_aload_n (pc' := 74) hX dX12_laysLoads_73 rfl rfl ?_
                refine zt_iload (pc' := 76) hX dX12_laysLoads_74 rfl rfl ?_
                refine zt_cVz (pc' := 79) hX dX12_laysLoads_76 rfl zm_yX12_isCracked zw_45_3 zc_164 (by decide) zs_46 (q := (RX12, TX12, 108)) rfl rfl (zc_X12_isCracked _ _ s37 hI38 r55 ⟨by omega, by omega⟩) rfl rfl (Nat.le_of_ble_eq_true rfl) (by decide) (fun r61 s62 hr63 hp64 => ?_)
                obtain ⟨rfl, q65, q66⟩ := hp64
                have J_101_72 : ∀ (x67 : Int) (s70 : zSto), -2147483648 ≤ x67 → x67 ≤ 2147483647 → zInv s70 → zGM σ s70 → zF X s70 101 [some (.ref (X.1.1 + 164)), some (.int (zI x1)), some (.int (zI r18)), some (.int (zI x67)), some (.int (zI x34)), none] [] := by
                  intro x67 s70 h68 h69 hI71 hF72
                  refine zt_iinc (pc' := 104) (lv' := [some (.ref (X.1.1 + 164)), some (.int (zI x1)), some (.int (zI r18)), some (.int (zI x67)), some (.int (zI (x34 + 1))), none]) hX dX12_laysLoads_101 rfl rfl hL (by decide) rfl ?_
                  refine zt_goto (tgt := 56) hX dX12_laysLoads_104 (by decide) ?_
                  exact ih42 x67 (x34 + 1) s70 (by omega) (by omega) (by omega) (by omega) hI71 hF72 (by omega)
                refine zt_ifeq (pc' := 82) (tgt := 101) hX dX12_laysLoads_79 rfl (by decide) ⟨by omega, by omega⟩ (fun c74 => ?_) (fun c74 => ?_)
                · refine zt_mask [true, true, true, true, true, false] rfl ?_
                  exact J_101_72 x31 s37 (by omega) (by omega) hI38 hF39
                · refine zt_iload_n (pc' := 83) hX dX12_laysLoads_82 rfl rfl ?_
                  refine zt_iload (pc' := 85) hX dX12_laysLoads_83 rfl rfl ?_
                  refine zt_cSi (pc' := 88) hX dX12_laysLoads_85 rfl zm_yX12_apart zw_40_4 (zc_X12_apart _ _ s37  r18 ⟨by omega, by omega⟩ r55 ⟨by omega, by omega⟩) rfl rfl (Nat.le_of_ble_eq_true rfl) (by decide) (fun r75 s76 hr77 hp78 => ?_)
                  obtain ⟨rfl, q79, q80⟩ := hp78
                  refine zt_iconst (pc' := 89) hX dX12_laysLoads_88 rfl ?_
                  refine zt_icne (pc' := 92) (tgt := 101) hX dX12_laysLoads_89 rfl (by decide) ⟨by omega, by omega⟩ ⟨by omega, by omega⟩ (fun c81 => ?_) (fun c81 => ?_)
                  · refine zt_mask [true, true, true, true, true, false] rfl ?_
                    exact J_101_72 x31 s37 (by omega) (by omega) hI38 hF39
                  · refine zt_iload_n (pc' := 93) hX dX12_laysLoads_92 rfl rfl ?_
                    refine zt_aload_n (pc' := 94) hX dX12_laysLoads_93 rfl rfl ?_
                    refine zt_iload (pc' := 96) hX dX12_laysLoads_94 rfl rfl ?_
                    refine zt_cVi (pc' := 99) hX dX12_laysLoads_96 rfl zm_yX12_addsOf zw_45_7 zc_164 (by decide) zs_46 (q := (RX12, TX12, 108)) rfl rfl (zc_X12_addsOf _ _ s37 hI38 r55 ⟨by omega, by omega⟩ (zWF_M hW hF39)) rfl rfl (Nat.le_of_ble_eq_true rfl) (by decide) (fun r82 s83 hr84 hp85 => ?_)
                    obtain ⟨hI86, hF87, q88, q89⟩ := hp85
                    have hF90 := zGM_tr hF39 hF87
                    refine zt_iadd (pc' := 100) hX dX12_laysLoads_99 rfl ?_
                    refine zt_wrap (fun r91 zr91 lr91 ur91 => ?_)
                    clear zr91
                    refine zt_istore_n (pc' := 101) (lv' := [some (.ref (X.1.1 + 164)), some (.int (zI x1)), some (.int (zI r18)), some (.int (zI r91)), some (.int (zI x34)), some (.int (zI r55))]) hX dX12_laysLoads_100 rfl hL (by decide) rfl ?_
                    refine zt_mask [true, true, true, true, true, false] rfl ?_
                    exact J_101_72 r91 s83 (by omega) (by omega) hI86 hF90
          exact L_56_39 _ r30 0 s4 (by omega) (by omega) (by omega) (by omega) hI5 hF6 (Nat.lt_succ_self _)
        have J_50_91 : zF X s4 50 [some (.ref (X.1.1 + 164)), some (.int (zI x1)), some (.int (zI r18)), none, none, none] [.int (zI v24)] := by
          refine zt_iconst (pc' := 51) hX dX12_laysLoads_50 rfl ?_
          exact J_51_28 0 (by omega) (by omega)
        refine zt_icne (pc' := 33) (tgt := 50) hX dX12_laysLoads_30 rfl (by decide) ⟨by omega, by omega⟩ ⟨by omega, by omega⟩ (fun c93 => ?_) (fun c93 => ?_)
        · exact J_50_91
        · refine zt_aload_n (pc' := 34) hX dX12_laysLoads_33 rfl rfl ?_
          refine zt_iload_n (pc' := 35) hX dX12_laysLoads_34 rfl rfl ?_
          refine zt_cVz (pc' := 38) hX dX12_laysLoads_35 rfl zm_yX12_isCracked zw_45_3 zc_164 (by decide) zs_46 (q := (RX12, TX12, 108)) rfl rfl (zc_X12_isCracked _ _ s4 hI5 r18 ⟨by omega, by omega⟩) rfl rfl (Nat.le_of_ble_eq_true rfl) (by decide) (fun r94 s95 hr96 hp97 => ?_)
          obtain ⟨rfl, q98, q99⟩ := hp97
          refine zt_ifne (pc' := 41) (tgt := 50) hX dX12_laysLoads_38 rfl (by decide) ⟨by omega, by omega⟩ (fun c100 => ?_) (fun c100 => ?_)
          · exact J_50_91
          · refine zt_aload_n (pc' := 42) hX dX12_laysLoads_41 rfl rfl ?_
            refine zt_get (pc' := 45) (v := .ref (X.1.1 + 199)) hX dX12_laysLoads_42 rfl zf_X12_118 (by decide) zc_164 zs_46 (zrf_of (zv_46_44 hI5 zc_164)) ?_
            refine zt_iconst (pc' := 46) hX dX12_laysLoads_45 rfl ?_
            refine zt_iald (pc' := 47) hX dX12_laysLoads_46 rfl (by decide) zc_199 zs_81 (by decide) ⟨by omega, by omega⟩ ?_
            rw [show Int.toNat 4 = 4 from rfl]
            have b102 := zv_81 hI5 zc_199 4
            refine zt_goto (tgt := 51) hX dX12_laysLoads_47 (by decide) ?_
            exact J_51_28 (s4 199 4) (by omega) (by omega)
  exact L_2_6 _ 0 σ (by omega) (by omega) hI hF (Nat.lt_succ_self _)
