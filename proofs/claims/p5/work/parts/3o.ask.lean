set_option maxRecDepth 100000 in
set_option maxHeartbeats 2000000 in
theorem zc_X12_qPuts_Q (l : Launch) (E : zEN) (σ : zSto) (hI : zInv σ) (a1_ : Int) (ha1_ : -9223372036854775808 ≤ a1_ ∧ a1_ ≤ 9223372036854775807) (hpre0 : σ 164 103 ≤ 1699) : zCt l E yX12_qPuts cX12_qPuts 3 none 0 zNC zNC 0 0 σ [.ref (E.1 + 164), .long (zJ a1_)] (fun r σ' => zInv σ' ∧ zOn zQ8 σ σ' ∧ (σ' 164 103 = σ 164 103 + 1)) := by
  refine zCt_of2 [some (.ref (E.1 + 164)), some (.long (zJ a1_)), none] (by decide +kernel) (Nat.le_of_ble_eq_true rfl) rfl ?_
  intro X hE hX hR hL hN
  subst hE
  have hX : zok X cX12_qPuts RX12 0 := hX
  have hF := zOn_rf zQ8 σ
  have b1 := zv_46_103 hI zc_164
  refine zt_aload_n (pc' := 1) hX dX12_qPuts_0 rfl rfl ?_
  refine zt_get (pc' := 4) (v := .ref (X.1.1 + 236)) hX dX12_qPuts_1 rfl zf_X12_237 (by decide) zc_164 zs_46 (zrf_of (zv_46_102 hI zc_164)) ?_
  refine zt_aload_n (pc' := 5) hX dX12_qPuts_4 rfl rfl ?_
  have b2 := zv_46_103 hI zc_164
  refine zt_get (pc' := 8) (v := .int (zI (σ 164 103))) hX dX12_qPuts_5 rfl zf_X12_398 (by decide) zc_164 zs_46 rfl ?_
  refine zt_lload_n (pc' := 9) hX dX12_qPuts_8 rfl rfl ?_
  refine zt_last (pc' := 10) hX dX12_qPuts_9 rfl (by decide) zc_236 zs_118 (by decide) ⟨by omega, by omega⟩ ?_
  generalize hs4 : zset σ 236 ((σ 164 103).toNat) a1_ = s3
  have hI5 : zInv s3 := hs4 ▸ zp_118 hI zc_236 ((σ 164 103).toNat) ⟨by omega, by omega⟩
  have hF6 : zOn zQ8 σ s3 := hs4 ▸ zOn_set hF (zq8_236 (by omega))
  obtain ⟨-, w8, w9, w10, -, -, w13, -⟩ := zE_setk hs4 (by decide)
  have e15 : s3 164 103 = σ 164 103 := by rw [← hs4]; exact zset_k (zne_r zc_164 zc_236 (by decide))
  refine zt_aload_n (pc' := 11) hX dX12_qPuts_10 rfl rfl ?_
  refine zt_dup (pc' := 12) hX dX12_qPuts_11 rfl rfl ?_
  have b16 := zv_46_103 hI5 zc_164
  refine zt_get (pc' := 15) (v := .int (zI (s3 164 103))) hX dX12_qPuts_12 rfl zf_X12_398 (by decide) zc_164 zs_46 rfl ?_
  refine zt_iconst (pc' := 16) hX dX12_qPuts_15 rfl ?_
  refine zt_iadd (pc' := 17) hX dX12_qPuts_16 rfl ?_
  refine zt_put (pc' := 20) (x := ((s3 164 103) + 1)) hX dX12_qPuts_17 rfl zf_X12_398 (by decide) zc_164 zs_46 (fun q hq => by cases hq; rfl) rfl rfl rfl ?_
  generalize hs18 : zset s3 164 103 ((s3 164 103) + 1) = s17
  have hI19 : zInv s17 := hs18 ▸ zp_46_103 hI5 zc_164 ⟨by omega, by omega⟩
  have hF20 : zOn zQ8 σ s17 := hs18 ▸ zOn_set hF6 (by decide)
  obtain ⟨-, w22, w23, w24, -, -, w27, -⟩ := zE_set hs18 (by decide)
  have e29 : s17 164 103 = ((s3 164 103) + 1) := by rw [← hs18]; exact zset_s
  exact zt_vret hX hR dX12_qPuts_20 ⟨hI19, hF20, by omega⟩

set_option maxRecDepth 100000 in
set_option maxHeartbeats 2000000 in
theorem zc_X12_qJoins_Q (l : Launch) (E : zEN) (σ : zSto) (hI : zInv σ) (a1_ : Int) (ha1_ : -2147483648 ≤ a1_ ∧ a1_ ≤ 2147483647) (hpre0 : 2 ≤ σ 164 103) : zCt l E yX12_qJoins cX12_qJoins 6 none 1 zNC zNC 0 0 σ [.ref (E.1 + 164), .int (zI a1_)] (fun r σ' => zInv σ' ∧ zOn zQ8 σ σ' ∧ (σ' 164 103 = σ 164 103 - 1)) := by
  refine zCt_of2 [some (.ref (E.1 + 164)), some (.int (zI a1_)), none, none, none, none] (by decide +kernel) (Nat.le_of_ble_eq_true rfl) rfl ?_
  intro X hE hX hR hL hN
  subst hE
  have hX : zok X cX12_qJoins RX12 1 := hX
  have hF := zOn_rf zQ8 σ
  have b1 := zv_46_103 hI zc_164
  refine zt_aload_n (pc' := 1) hX dX12_qJoins_0 rfl rfl ?_
  refine zt_get (pc' := 4) (v := .ref (X.1.1 + 236)) hX dX12_qJoins_1 rfl zf_X12_237 (by decide) zc_164 zs_46 (zrf_of (zv_46_102 hI zc_164)) ?_
  refine zt_aload_n (pc' := 5) hX dX12_qJoins_4 rfl rfl ?_
  have b2 := zv_46_103 hI zc_164
  refine zt_get (pc' := 8) (v := .int (zI (σ 164 103))) hX dX12_qJoins_5 rfl zf_X12_398 (by decide) zc_164 zs_46 rfl ?_
  refine zt_iconst (pc' := 9) hX dX12_qJoins_8 rfl ?_
  refine zt_isub (pc' := 10) hX dX12_qJoins_9 rfl ?_
  refine zt_lald (pc' := 11) hX dX12_qJoins_10 rfl (by decide) zc_236 zs_118 (by decide) ⟨by omega, by omega⟩ ?_
  generalize hv3 : σ 236 (((σ 164 103) - 1).toNat) = v3
  have bv3 : -9223372036854775808 ≤ v3 ∧ v3 ≤ 9223372036854775807 := hv3 ▸ zv_118 hI zc_236 _
  refine zt_lstore_n (pc' := 12) (lv' := [some (.ref (X.1.1 + 164)), some (.int (zI a1_)), some (.long (zJ v3)), none, none, none]) hX dX12_qJoins_11 rfl hL (by decide) rfl ?_
  refine zt_aload_n (pc' := 13) hX dX12_qJoins_12 rfl rfl ?_
  refine zt_get (pc' := 16) (v := .ref (X.1.1 + 236)) hX dX12_qJoins_13 rfl zf_X12_237 (by decide) zc_164 zs_46 (zrf_of (zv_46_102 hI zc_164)) ?_
  refine zt_aload_n (pc' := 17) hX dX12_qJoins_16 rfl rfl ?_
  refine zt_get (pc' := 20) (v := .int (zI (σ 164 103))) hX dX12_qJoins_17 rfl zf_X12_398 (by decide) zc_164 zs_46 rfl ?_
  refine zt_iconst (pc' := 21) hX dX12_qJoins_20 rfl ?_
  refine zt_isub (pc' := 22) hX dX12_qJoins_21 rfl ?_
  refine zt_lald (pc' := 23) hX dX12_qJoins_22 rfl (by decide) zc_236 zs_118 (by decide) ⟨by omega, by omega⟩ ?_
  generalize hv4 : σ 236 (((σ 164 103) - 2).toNat) = v4
  have bv4 : -9223372036854775808 ≤ v4 ∧ v4 ≤ 9223372036854775807 := hv4 ▸ zv_118 hI zc_236 _
  refine zt_lstore (pc' := 25) (lv' := [some (.ref (X.1.1 + 164)), some (.int (zI a1_)), some (.long (zJ v3)), none, some (.long (zJ v4)), none]) hX dX12_qJoins_23 rfl hL (by decide) rfl ?_
  refine zt_aload_n (pc' := 26) hX dX12_qJoins_25 rfl rfl ?_
  refine zt_dup (pc' := 27) hX dX12_qJoins_26 rfl rfl ?_
  refine zt_get (pc' := 30) (v := .int (zI (σ 164 103))) hX dX12_qJoins_27 rfl zf_X12_398 (by decide) zc_164 zs_46 rfl ?_
  refine zt_iconst (pc' := 31) hX dX12_qJoins_30 rfl ?_
  refine zt_isub (pc' := 32) hX dX12_qJoins_31 rfl ?_
  refine zt_put (pc' := 35) (x := ((σ 164 103) - 2)) hX dX12_qJoins_32 rfl zf_X12_398 (by decide) zc_164 zs_46 (fun q hq => by cases hq; rfl) rfl rfl rfl ?_
  generalize hs6 : zset σ 164 103 ((σ 164 103) - 2) = s5
  have hI7 : zInv s5 := hs6 ▸ zp_46_103 hI zc_164 ⟨by omega, by omega⟩
  have hF8 : zOn zQ8 σ s5 := hs6 ▸ zOn_set hF (by decide)
  obtain ⟨-, w10, w11, w12, -, -, w15, -⟩ := zE_set hs6 (by decide)
  have e17 : s5 164 103 = ((σ 164 103) - 2) := by rw [← hs6]; exact zset_s
  refine zt_iload_n (pc' := 36) hX dX12_qJoins_35 rfl rfl ?_
  rcases (show a1_ = 1 ∨ a1_ = 2 ∨ a1_ = 3 ∨ a1_ = 4 ∨ a1_ = 5 ∨ a1_ = 6 ∨ a1_ = 7 ∨ a1_ = 8 ∨ a1_ = 9 ∨ a1_ = 10 ∨ (a1_ < 1 ∨ 10 < a1_) by omega) with c18 | c18 | c18 | c18 | c18 | c18 | c18 | c18 | c18 | c18 | c18
  · refine zt_tsIn (v := 1) (tgt := 92) hX dX12_qJoins_36 c18 (by decide) (by decide) (by decide) rfl (by decide) ?_
    refine zt_aload_n (pc' := 93) hX dX12_qJoins_92 rfl rfl ?_
    refine zt_lload (pc' := 95) hX dX12_qJoins_93 rfl rfl ?_
    refine zt_lload_n (pc' := 96) hX dX12_qJoins_95 rfl rfl ?_
    refine zt_ladd (pc' := 97) hX dX12_qJoins_96 rfl ?_
    refine zt_wrapl (fun r19 zr19 lr19 ur19 => ?_)
    clear zr19
    refine zt_cSl (pc' := 100) hX dX12_qJoins_97 rfl zm_yX12_qClip zw_40_11 (zc_X12_qClip _ _ s5  r19 ⟨by omega, by omega⟩) rfl rfl (Nat.le_of_ble_eq_true rfl) (by decide) (fun r20 s21 hr22 hp23 => ?_)
    obtain ⟨rfl, q24, q25⟩ := hp23
    refine zt_cVv (pc' := 103) hX dX12_qJoins_100 rfl zm_yX12_qPuts zw_39_1 zc_164 (by decide) zs_46 (q := (RX12, TX12, 108)) rfl rfl (zc_X12_qPuts_Q _ _ s5 hI7 r20 ⟨by omega, by omega⟩ (by omega)) rfl rfl (Nat.le_of_ble_eq_true rfl) (by decide) (fun r26 s27 hr28 hp29 => ?_)
    obtain ⟨hI30, hF31, z32⟩ := hp29
    obtain ⟨-, w34, w35, w36, -, -, w39, -⟩ := zE_q8 hF31
    have hF41 := zOn_tr hF8 hF31 zi_id
    have b42 := zv_46_103 hI30 zc_164
    refine zt_goto (tgt := 273) hX dX12_qJoins_103 (by decide) ?_
    exact zt_vret hX hR dX12_qJoins_273 ⟨hI30, hF41, by omega⟩
  · refine zt_tsIn (v := 2) (tgt := 106) hX dX12_qJoins_36 c18 (by decide) (by decide) (by decide) rfl (by decide) ?_
    refine zt_aload_n (pc' := 107) hX dX12_qJoins_106 rfl rfl ?_
    refine zt_lload (pc' := 109) hX dX12_qJoins_107 rfl rfl ?_
    refine zt_lload_n (pc' := 110) hX dX12_qJoins_109 rfl rfl ?_
    refine zt_lsub (pc' := 111) hX dX12_qJoins_110 rfl ?_
    refine zt_wrapl (fun r43 zr43 lr43 ur43 => ?_)
    clear zr43
    refine zt_cSl (pc' := 114) hX dX12_qJoins_111 rfl zm_yX12_qClip zw_40_11 (zc_X12_qClip _ _ s5  r43 ⟨by omega, by omega⟩) rfl rfl (Nat.le_of_ble_eq_true rfl) (by decide) (fun r44 s45 hr46 hp47 => ?_)
    obtain ⟨rfl, q48, q49⟩ := hp47
    refine zt_cVv (pc' := 117) hX dX12_qJoins_114 rfl zm_yX12_qPuts zw_39_1 zc_164 (by decide) zs_46 (q := (RX12, TX12, 108)) rfl rfl (zc_X12_qPuts_Q _ _ s5 hI7 r44 ⟨by omega, by omega⟩ (by omega)) rfl rfl (Nat.le_of_ble_eq_true rfl) (by decide) (fun r50 s51 hr52 hp53 => ?_)
    obtain ⟨hI54, hF55, z56⟩ := hp53
    obtain ⟨-, w58, w59, w60, -, -, w63, -⟩ := zE_q8 hF55
    have hF65 := zOn_tr hF8 hF55 zi_id
    have b66 := zv_46_103 hI54 zc_164
    refine zt_goto (tgt := 273) hX dX12_qJoins_117 (by decide) ?_
    exact zt_vret hX hR dX12_qJoins_273 ⟨hI54, hF65, by omega⟩
  · refine zt_tsIn (v := 3) (tgt := 120) hX dX12_qJoins_36 c18 (by decide) (by decide) (by decide) rfl (by decide) ?_
    refine zt_aload_n (pc' := 121) hX dX12_qJoins_120 rfl rfl ?_
    refine zt_lload (pc' := 123) hX dX12_qJoins_121 rfl rfl ?_
    refine zt_lload_n (pc' := 124) hX dX12_qJoins_123 rfl rfl ?_
    refine zt_lmul (pc' := 125) hX dX12_qJoins_124 rfl ?_
    refine zt_wrapl (fun r67 zr67 lr67 ur67 => ?_)
    clear zr67
    refine zt_cSl (pc' := 128) hX dX12_qJoins_125 rfl zm_yX12_qClip zw_40_11 (zc_X12_qClip _ _ s5  r67 ⟨by omega, by omega⟩) rfl rfl (Nat.le_of_ble_eq_true rfl) (by decide) (fun r68 s69 hr70 hp71 => ?_)
    obtain ⟨rfl, q72, q73⟩ := hp71
    refine zt_cVv (pc' := 131) hX dX12_qJoins_128 rfl zm_yX12_qPuts zw_39_1 zc_164 (by decide) zs_46 (q := (RX12, TX12, 108)) rfl rfl (zc_X12_qPuts_Q _ _ s5 hI7 r68 ⟨by omega, by omega⟩ (by omega)) rfl rfl (Nat.le_of_ble_eq_true rfl) (by decide) (fun r74 s75 hr76 hp77 => ?_)
    obtain ⟨hI78, hF79, z80⟩ := hp77
    obtain ⟨-, w82, w83, w84, -, -, w87, -⟩ := zE_q8 hF79
    have hF89 := zOn_tr hF8 hF79 zi_id
    have b90 := zv_46_103 hI78 zc_164
    refine zt_goto (tgt := 273) hX dX12_qJoins_131 (by decide) ?_
    exact zt_vret hX hR dX12_qJoins_273 ⟨hI78, hF89, by omega⟩
  · refine zt_tsIn (v := 4) (tgt := 134) hX dX12_qJoins_36 c18 (by decide) (by decide) (by decide) rfl (by decide) ?_
    refine zt_aload_n (pc' := 135) hX dX12_qJoins_134 rfl rfl ?_
    refine zt_lload (pc' := 137) hX dX12_qJoins_135 rfl rfl ?_
    refine zt_lload_n (pc' := 138) hX dX12_qJoins_137 rfl rfl ?_
    refine zt_cSl (pc' := 141) hX dX12_qJoins_138 rfl zm_yX12_qFloor zw_40_16 (zc_X12_qFloor _ _ s5  v4 ⟨by omega, by omega⟩ v3 ⟨by omega, by omega⟩) rfl rfl (Nat.le_of_ble_eq_true rfl) (by decide) (fun r91 s92 hr93 hp94 => ?_)
    obtain ⟨rfl, q95, q96⟩ := hp94
    refine zt_cVv (pc' := 144) hX dX12_qJoins_141 rfl zm_yX12_qPuts zw_39_1 zc_164 (by decide) zs_46 (q := (RX12, TX12, 108)) rfl rfl (zc_X12_qPuts_Q _ _ s5 hI7 r91 ⟨by omega, by omega⟩ (by omega)) rfl rfl (Nat.le_of_ble_eq_true rfl) (by decide) (fun r97 s98 hr99 hp100 => ?_)
    obtain ⟨hI101, hF102, z103⟩ := hp100
    obtain ⟨-, w105, w106, w107, -, -, w110, -⟩ := zE_q8 hF102
    have hF112 := zOn_tr hF8 hF102 zi_id
    have b113 := zv_46_103 hI101 zc_164
    refine zt_goto (tgt := 273) hX dX12_qJoins_144 (by decide) ?_
    exact zt_vret hX hR dX12_qJoins_273 ⟨hI101, hF112, by omega⟩
  · refine zt_tsIn (v := 5) (tgt := 147) hX dX12_qJoins_36 c18 (by decide) (by decide) (by decide) rfl (by decide) ?_
    refine zt_aload_n (pc' := 148) hX dX12_qJoins_147 rfl rfl ?_
    refine zt_lload (pc' := 150) hX dX12_qJoins_148 rfl rfl ?_
    refine zt_lload_n (pc' := 151) hX dX12_qJoins_150 rfl rfl ?_
    refine zt_lcmp (pc' := 152) hX dX12_qJoins_151 rfl ⟨by omega, by omega⟩ ⟨by omega, by omega⟩ (fun r114 er114 => ?_)
    have J_161_117 : ∀ (y115 : Int), -9223372036854775808 ≤ y115 → y115 ≤ 9223372036854775807 → zF X s5 161 [none, none, none, none, none, none] [.long (zJ y115), .ref (X.1.1 + 164)] := by
      intro y115 h116 h117
      refine zt_cVv (pc' := 164) hX dX12_qJoins_161 rfl zm_yX12_qPuts zw_39_1 zc_164 (by decide) zs_46 (q := (RX12, TX12, 108)) rfl rfl (zc_X12_qPuts_Q _ _ s5 hI7 y115 ⟨by omega, by omega⟩ (by omega)) rfl rfl (Nat.le_of_ble_eq_true rfl) (by decide) (fun r119 s120 hr121 hp122 => ?_)
      obtain ⟨hI123, hF124, z125⟩ := hp122
      obtain ⟨-, w127, w128, w129, -, -, w132, -⟩ := zE_q8 hF124
      have hF134 := zOn_tr hF8 hF124 zi_id
      have b135 := zv_46_103 hI123 zc_164
      refine zt_goto (tgt := 273) hX dX12_qJoins_164 (by decide) ?_
      exact zt_vret hX hR dX12_qJoins_273 ⟨hI123, hF134, by omega⟩
    refine zt_ifge (pc' := 155) (tgt := 160) hX dX12_qJoins_152 rfl (by decide) ⟨by omega, by omega⟩ (fun c136 => ?_) (fun c136 => ?_)
    · refine zt_lload_n (pc' := 161) hX dX12_qJoins_160 rfl rfl ?_
      refine zt_mask [false, false, false, false, false, false] rfl ?_
      exact J_161_117 v3 (by omega) (by omega)
    · refine zt_lload (pc' := 157) hX dX12_qJoins_155 rfl rfl ?_
      refine zt_goto (tgt := 161) hX dX12_qJoins_157 (by decide) ?_
      refine zt_mask [false, false, false, false, false, false] rfl ?_
      exact J_161_117 v4 (by omega) (by omega)
  · refine zt_tsIn (v := 6) (tgt := 167) hX dX12_qJoins_36 c18 (by decide) (by decide) (by decide) rfl (by decide) ?_
    refine zt_aload_n (pc' := 168) hX dX12_qJoins_167 rfl rfl ?_
    refine zt_lload (pc' := 170) hX dX12_qJoins_168 rfl rfl ?_
    refine zt_lload_n (pc' := 171) hX dX12_qJoins_170 rfl rfl ?_
    refine zt_lcmp (pc' := 172) hX dX12_qJoins_171 rfl ⟨by omega, by omega⟩ ⟨by omega, by omega⟩ (fun r137 er137 => ?_)
    have J_181_140 : ∀ (y138 : Int), -9223372036854775808 ≤ y138 → y138 ≤ 9223372036854775807 → zF X s5 181 [none, none, none, none, none, none] [.long (zJ y138), .ref (X.1.1 + 164)] := by
      intro y138 h139 h140
      refine zt_cVv (pc' := 184) hX dX12_qJoins_181 rfl zm_yX12_qPuts zw_39_1 zc_164 (by decide) zs_46 (q := (RX12, TX12, 108)) rfl rfl (zc_X12_qPuts_Q _ _ s5 hI7 y138 ⟨by omega, by omega⟩ (by omega)) rfl rfl (Nat.le_of_ble_eq_true rfl) (by decide) (fun r142 s143 hr144 hp145 => ?_)
      obtain ⟨hI146, hF147, z148⟩ := hp145
      obtain ⟨-, w150, w151, w152, -, -, w155, -⟩ := zE_q8 hF147
      have hF157 := zOn_tr hF8 hF147 zi_id
      have b158 := zv_46_103 hI146 zc_164
      refine zt_goto (tgt := 273) hX dX12_qJoins_184 (by decide) ?_
      exact zt_vret hX hR dX12_qJoins_273 ⟨hI146, hF157, by omega⟩
    refine zt_ifle (pc' := 175) (tgt := 180) hX dX12_qJoins_172 rfl (by decide) ⟨by omega, by omega⟩ (fun c159 => ?_) (fun c159 => ?_)
    · refine zt_lload_n (pc' := 181) hX dX12_qJoins_180 rfl rfl ?_
      refine zt_mask [false, false, false, false, false, false] rfl ?_
      exact J_181_140 v3 (by omega) (by omega)
    · refine zt_lload (pc' := 177) hX dX12_qJoins_175 rfl rfl ?_
      refine zt_goto (tgt := 181) hX dX12_qJoins_177 (by decide) ?_
      refine zt_mask [false, false, false, false, false, false] rfl ?_
      exact J_181_140 v4 (by omega) (by omega)
  · refine zt_tsIn (v := 7) (tgt := 187) hX dX12_qJoins_36 c18 (by decide) (by decide) (by decide) rfl (by decide) ?_
    refine zt_aload_n (pc' := 188) hX dX12_qJoins_187 rfl rfl ?_
    refine zt_lload (pc' := 190) hX dX12_qJoins_188 rfl rfl ?_
    refine zt_lload_n (pc' := 191) hX dX12_qJoins_190 rfl rfl ?_
    refine zt_lcmp (pc' := 192) hX dX12_qJoins_191 rfl ⟨by omega, by omega⟩ ⟨by omega, by omega⟩ (fun r160 er160 => ?_)
    have J_200_163 : ∀ (y161 : Int), 0 ≤ y161 → y161 ≤ 1 → zF X s5 200 [none, none, none, none, none, none] [.long (zJ y161), .ref (X.1.1 + 164)] := by
      intro y161 h162 h163
      refine zt_cVv (pc' := 203) hX dX12_qJoins_200 rfl zm_yX12_qPuts zw_39_1 zc_164 (by decide) zs_46 (q := (RX12, TX12, 108)) rfl rfl (zc_X12_qPuts_Q _ _ s5 hI7 y161 ⟨by omega, by omega⟩ (by omega)) rfl rfl (Nat.le_of_ble_eq_true rfl) (by decide) (fun r165 s166 hr167 hp168 => ?_)
      obtain ⟨hI169, hF170, z171⟩ := hp168
      obtain ⟨-, w173, w174, w175, -, -, w178, -⟩ := zE_q8 hF170
      have hF180 := zOn_tr hF8 hF170 zi_id
      have b181 := zv_46_103 hI169 zc_164
      refine zt_goto (tgt := 273) hX dX12_qJoins_203 (by decide) ?_
      exact zt_vret hX hR dX12_qJoins_273 ⟨hI169, hF180, by omega⟩
    refine zt_ifge (pc' := 195) (tgt := 199) hX dX12_qJoins_192 rfl (by decide) ⟨by omega, by omega⟩ (fun c182 => ?_) (fun c182 => ?_)
    · refine zt_lconst (pc' := 200) (y := 0) hX dX12_qJoins_199 rfl (by decide +kernel) ?_
      refine zt_mask [false, false, false, false, false, false] rfl ?_
      exact J_200_163 0 (by omega) (by omega)
    · refine zt_lconst (pc' := 196) (y := 1) hX dX12_qJoins_195 rfl (by decide +kernel) ?_
      refine zt_goto (tgt := 200) hX dX12_qJoins_196 (by decide) ?_
      refine zt_mask [false, false, false, false, false, false] rfl ?_
      exact J_200_163 1 (by omega) (by omega)
  · refine zt_tsIn (v := 8) (tgt := 206) hX dX12_qJoins_36 c18 (by decide) (by decide) (by decide) rfl (by decide) ?_
    refine zt_aload_n (pc' := 207) hX dX12_qJoins_206 rfl rfl ?_
    refine zt_lload (pc' := 209) hX dX12_qJoins_207 rfl rfl ?_
    refine zt_lload_n (pc' := 210) hX dX12_qJoins_209 rfl rfl ?_
    refine zt_lcmp (pc' := 211) hX dX12_qJoins_210 rfl ⟨by omega, by omega⟩ ⟨by omega, by omega⟩ (fun r183 er183 => ?_)
    have J_219_186 : ∀ (y184 : Int), 0 ≤ y184 → y184 ≤ 1 → zF X s5 219 [none, none, none, none, none, none] [.long (zJ y184), .ref (X.1.1 + 164)] := by
      intro y184 h185 h186
      refine zt_cVv (pc' := 222) hX dX12_qJoins_219 rfl zm_yX12_qPuts zw_39_1 zc_164 (by decide) zs_46 (q := (RX12, TX12, 108)) rfl rfl (zc_X12_qPuts_Q _ _ s5 hI7 y184 ⟨by omega, by omega⟩ (by omega)) rfl rfl (Nat.le_of_ble_eq_true rfl) (by decide) (fun r188 s189 hr190 hp191 => ?_)
      obtain ⟨hI192, hF193, z194⟩ := hp191
      obtain ⟨-, w196, w197, w198, -, -, w201, -⟩ := zE_q8 hF193
      have hF203 := zOn_tr hF8 hF193 zi_id
      have b204 := zv_46_103 hI192 zc_164
      refine zt_goto (tgt := 273) hX dX12_qJoins_222 (by decide) ?_
      exact zt_vret hX hR dX12_qJoins_273 ⟨hI192, hF203, by omega⟩
    refine zt_ifle (pc' := 214) (tgt := 218) hX dX12_qJoins_211 rfl (by decide) ⟨by omega, by omega⟩ (fun c205 => ?_) (fun c205 => ?_)
    · refine zt_lconst (pc' := 219) (y := 0) hX dX12_qJoins_218 rfl (by decide +kernel) ?_
      refine zt_mask [false, false, false, false, false, false] rfl ?_
      exact J_219_186 0 (by omega) (by omega)
    · refine zt_lconst (pc' := 215) (y := 1) hX dX12_qJoins_214 rfl (by decide +kernel) ?_
      refine zt_goto (tgt := 219) hX dX12_qJoins_215 (by decide) ?_
      refine zt_mask [false, false, false, false, false, false] rfl ?_
      exact J_219_186 1 (by omega) (by omega)
  · refine zt_tsIn (v := 9) (tgt := 225) hX dX12_qJoins_36 c18 (by decide) (by decide) (by decide) rfl (by decide) ?_
    refine zt_aload_n (pc' := 226) hX dX12_qJoins_225 rfl rfl ?_
    refine zt_lload (pc' := 228) hX dX12_qJoins_226 rfl rfl ?_
    refine zt_lload_n (pc' := 229) hX dX12_qJoins_228 rfl rfl ?_
    refine zt_lcmp (pc' := 230) hX dX12_qJoins_229 rfl ⟨by omega, by omega⟩ ⟨by omega, by omega⟩ (fun r206 er206 => ?_)
    have J_238_209 : ∀ (y207 : Int), 0 ≤ y207 → y207 ≤ 1 → zF X s5 238 [none, none, none, none, none, none] [.long (zJ y207), .ref (X.1.1 + 164)] := by
      intro y207 h208 h209
      refine zt_cVv (pc' := 241) hX dX12_qJoins_238 rfl zm_yX12_qPuts zw_39_1 zc_164 (by decide) zs_46 (q := (RX12, TX12, 108)) rfl rfl (zc_X12_qPuts_Q _ _ s5 hI7 y207 ⟨by omega, by omega⟩ (by omega)) rfl rfl (Nat.le_of_ble_eq_true rfl) (by decide) (fun r211 s212 hr213 hp214 => ?_)
      obtain ⟨hI215, hF216, z217⟩ := hp214
      obtain ⟨-, w219, w220, w221, -, -, w224, -⟩ := zE_q8 hF216
      have hF226 := zOn_tr hF8 hF216 zi_id
      have b227 := zv_46_103 hI215 zc_164
      refine zt_goto (tgt := 273) hX dX12_qJoins_241 (by decide) ?_
      exact zt_vret hX hR dX12_qJoins_273 ⟨hI215, hF226, by omega⟩
    refine zt_ifne (pc' := 233) (tgt := 237) hX dX12_qJoins_230 rfl (by decide) ⟨by omega, by omega⟩ (fun c228 => ?_) (fun c228 => ?_)
    · refine zt_lconst (pc' := 238) (y := 0) hX dX12_qJoins_237 rfl (by decide +kernel) ?_
      refine zt_mask [false, false, false, false, false, false] rfl ?_
      exact J_238_209 0 (by omega) (by omega)
    · refine zt_lconst (pc' := 234) (y := 1) hX dX12_qJoins_233 rfl (by decide +kernel) ?_
      refine zt_goto (tgt := 238) hX dX12_qJoins_234 (by decide) ?_
      refine zt_mask [false, false, false, false, false, false] rfl ?_
      exact J_238_209 1 (by omega) (by omega)
  · refine zt_tsIn (v := 10) (tgt := 244) hX dX12_qJoins_36 c18 (by decide) (by decide) (by decide) rfl (by decide) ?_
    refine zt_aload_n (pc' := 245) hX dX12_qJoins_244 rfl rfl ?_
    refine zt_lload (pc' := 247) hX dX12_qJoins_245 rfl rfl ?_
    refine zt_lload_n (pc' := 248) hX dX12_qJoins_247 rfl rfl ?_
    refine zt_lmul (pc' := 249) hX dX12_qJoins_248 rfl ?_
    refine zt_wrapl (fun r229 zr229 lr229 ur229 => ?_)
    clear zr229
    refine zt_cVv (pc' := 252) hX dX12_qJoins_249 rfl zm_yX12_qPuts zw_39_1 zc_164 (by decide) zs_46 (q := (RX12, TX12, 108)) rfl rfl (zc_X12_qPuts_Q _ _ s5 hI7 r229 ⟨by omega, by omega⟩ (by omega)) rfl rfl (Nat.le_of_ble_eq_true rfl) (by decide) (fun r230 s231 hr232 hp233 => ?_)
    obtain ⟨hI234, hF235, z236⟩ := hp233
    obtain ⟨-, w238, w239, w240, -, -, w243, -⟩ := zE_q8 hF235
    have hF245 := zOn_tr hF8 hF235 zi_id
    have b246 := zv_46_103 hI234 zc_164
    refine zt_goto (tgt := 273) hX dX12_qJoins_252 (by decide) ?_
    exact zt_vret hX hR dX12_qJoins_273 ⟨hI234, hF245, by omega⟩
  · refine zt_tsOut (tgt := 255) hX dX12_qJoins_36 ⟨by omega, by omega⟩ c18 (by decide) ?_
    refine zt_aload_n (pc' := 256) hX dX12_qJoins_255 rfl rfl ?_
    refine zt_lload (pc' := 258) hX dX12_qJoins_256 rfl rfl ?_
    refine zt_lload_n (pc' := 259) hX dX12_qJoins_258 rfl rfl ?_
    refine zt_ladd (pc' := 260) hX dX12_qJoins_259 rfl ?_
    refine zt_wrapl (fun r247 zr247 lr247 ur247 => ?_)
    clear zr247
    refine zt_lconst (pc' := 261) (y := 0) hX dX12_qJoins_260 rfl (by decide +kernel) ?_
    refine zt_lcmp (pc' := 262) hX dX12_qJoins_261 rfl ⟨by omega, by omega⟩ ⟨by omega, by omega⟩ (fun r248 er248 => ?_)
    have J_270_251 : ∀ (y249 : Int), 0 ≤ y249 → y249 ≤ 1 → zF X s5 270 [none, none, none, none, none, none] [.long (zJ y249), .ref (X.1.1 + 164)] := by
      intro y249 h250 h251
      refine zt_cVv (pc' := 273) hX dX12_qJoins_270 rfl zm_yX12_qPuts zw_39_1 zc_164 (by decide) zs_46 (q := (RX12, TX12, 108)) rfl rfl (zc_X12_qPuts_Q _ _ s5 hI7 y249 ⟨by omega, by omega⟩ (by omega)) rfl rfl (Nat.le_of_ble_eq_true rfl) (by decide) (fun r253 s254 hr255 hp256 => ?_)
      obtain ⟨hI257, hF258, z259⟩ := hp256
      obtain ⟨-, w261, w262, w263, -, -, w266, -⟩ := zE_q8 hF258
      have hF268 := zOn_tr hF8 hF258 zi_id
      have b269 := zv_46_103 hI257 zc_164
      exact zt_vret hX hR dX12_qJoins_273 ⟨hI257, hF268, by omega⟩
    refine zt_ifle (pc' := 265) (tgt := 269) hX dX12_qJoins_262 rfl (by decide) ⟨by omega, by omega⟩ (fun c270 => ?_) (fun c270 => ?_)
    · refine zt_lconst (pc' := 270) (y := 0) hX dX12_qJoins_269 rfl (by decide +kernel) ?_
      refine zt_mask [false, false, false, false, false, false] rfl ?_
      exact J_270_251 0 (by omega) (by omega)
    · refine zt_lconst (pc' := 266) (y := 1) hX dX12_qJoins_265 rfl (by decide +kernel) ?_
      refine zt_goto (tgt := 270) hX dX12_qJoins_266 (by decide) ?_
      refine zt_mask [false, false, false, false, false, false] rfl ?_
      exact J_270_251 1 (by omega) (by omega)

set_option maxRecDepth 100000 in
set_option maxHeartbeats 2000000 in
theorem zc_X12_codesTell_Q0 (l : Launch) (E : zEN) (σ : zSto) (hI : zInv σ) (a2_ : Int) (ha2_ : 0 ≤ a2_ ∧ a2_ ≤ 9) (hpre0 : σ 200 2 ≠ -1) (hW : zWF σ) : zCt l E yX12_codesTell cX12_codesTell 5 (some .long) 3 zNC zNC 0 0 σ [.ref (E.1 + 164), .int (zI 0), .int (zI a2_)] (fun r σ' => zInv σ' ∧ zOn zQ8 σ σ' ∧ -9223372036854775808 ≤ r ∧ r ≤ 9223372036854775807) := by
  refine zCt_of2 [some (.ref (E.1 + 164)), some (.int (zI 0)), some (.int (zI a2_)), none, none] (by decide +kernel) (Nat.le_of_ble_eq_true rfl) rfl ?_
  intro X hE hX hR hL hN
  subst hE
  have hX : zok X cX12_codesTell RX12 3 := hX
  have hF := zOn_rf zQ8 σ
  have hWa : 0 ≤ σ 200 2 ∧ σ 200 2 ≤ σ 201 2 ∧ σ 201 2 ≤ 1600 := zWF1_b hW.1 hpre0
  have b1 := zv_46_103 hI zc_164
  have b2 := zv_82 hI zc_200 2
  have b3 := zv_83 hI zc_201 2
  refine zt_aload_n (pc' := 1) hX dX12_codesTell_0 rfl rfl ?_
  refine zt_iload_n (pc' := 2) hX dX12_codesTell_1 rfl rfl ?_
  refine zt_put (pc' := 5) (x := 0) hX dX12_codesTell_2 rfl zf_X12_304 (by decide) zc_164 zs_46 (fun q hq => by cases hq; rfl) rfl rfl rfl ?_
  generalize hs5 : zset σ 164 51 0 = s4
  have hI6 : zInv s4 := hs5 ▸ zp_46_51 hI zc_164 ⟨by omega, by omega⟩
  have hF7 : zOn zQ8 σ s4 := hs5 ▸ zOn_set hF (by decide)
  obtain ⟨-, w9, w10, w11, -, -, w14, -⟩ := zE_set hs5 (by decide)
  have e16 : s4 164 103 = σ 164 103 := by rw [← hs5]; exact zset_j (by decide)
  have e17 : s4 200 2 = σ 200 2 := by rw [← hs5]; exact zset_k (zne_r zc_200 zc_164 (by decide))
  have e18 : s4 201 2 = σ 201 2 := by rw [← hs5]; exact zset_k (zne_r zc_201 zc_164 (by decide))
  refine zt_aload_n (pc' := 6) hX dX12_codesTell_5 rfl rfl ?_
  refine zt_iconst (pc' := 7) hX dX12_codesTell_6 rfl ?_
  refine zt_put (pc' := 10) (x := 0) hX dX12_codesTell_7 rfl zf_X12_398 (by decide) zc_164 zs_46 (fun q hq => by cases hq; rfl) rfl rfl rfl ?_
  generalize hs20 : zset s4 164 103 0 = s19
  have hI21 : zInv s19 := hs20 ▸ zp_46_103 hI6 zc_164 ⟨by omega, by omega⟩
  have hF22 : zOn zQ8 σ s19 := hs20 ▸ zOn_set hF7 (by decide)
  obtain ⟨-, w24, w25, w26, -, -, w29, -⟩ := zE_set hs20 (by decide)
  have e31 : s19 164 103 = 0 := by rw [← hs20]; exact zset_s
  have e32 : s19 200 2 = s4 200 2 := by rw [← hs20]; exact zset_k (zne_r zc_200 zc_164 (by decide))
  have e33 : s19 201 2 = s4 201 2 := by rw [← hs20]; exact zset_k (zne_r zc_201 zc_164 (by decide))
  refine zt_aload_n (pc' := 11) hX dX12_codesTell_10 rfl rfl ?_
  refine zt_get (pc' := 14) (v := .ref (X.1.1 + 200)) hX dX12_codesTell_11 rfl zf_X12_121 (by decide) zc_164 zs_46 (zrf_of (zv_46_45 hI21 zc_164)) ?_
  refine zt_iconst (pc' := 15) hX dX12_codesTell_14 rfl ?_
  refine zt_iload_n (pc' := 16) hX dX12_codesTell_15 rfl rfl ?_
  refine zt_iadd (pc' := 17) hX dX12_codesTell_16 rfl ?_
  rw [show (2 + 0 : Int) = 2 from rfl]
  refine zt_iald (pc' := 18) hX dX12_codesTell_17 rfl (by decide) zc_200 zs_82 (by decide) ⟨by omega, by omega⟩ ?_
  rw [show Int.toNat 2 = 2 from rfl]
  have b35 := zv_82 hI21 zc_200 2
  refine zt_istore_n (pc' := 19) (lv' := [some (.ref (X.1.1 + 164)), some (.int (zI 0)), some (.int (zI a2_)), some (.int (zI (s19 200 2))), none]) hX dX12_codesTell_18 rfl hL (by decide) rfl ?_
  have h36 := zhw_0 σ 0 (s19 200 2) (show (s19 200 2) = σ 200 2 by omega)
  have L_19_45 : ∀ (N : Nat) (x37 : Int) (s40 : zSto), -1 ≤ x37 → x37 ≤ 1600 → zInv s40 → zOn zQ8 σ s40 → (zhw σ 0 x37 ≤ s40 164 103 ∧ s40 164 103 ≤ x37 - σ 200 2) → σ 200 2 ≤ x37 → (s40 201 2 = σ 201 2 ∧ s40 200 2 = σ 200 2) → ((1601 - x37).toNat) < N → zF X s40 19 [some (.ref (X.1.1 + 164)), some (.int (zI 0)), some (.int (zI a2_)), some (.int (zI x37)), none] [] := by
    intro N
    induction N with
    | zero =>
      intro x37 s40 h38 h39 hI41 hF42 g43 g44 g45 hm47
      exact absurd hm47 (Nat.not_lt_zero _)
    | succ N ih48 =>
      intro x37 s40 h38 h39 hI41 hF42 g43 g44 g45 hm47
      have b49 := zv_46_103 hI41 zc_164
      have b50 := zv_82 hI41 zc_200 2
      have b51 := zv_83 hI41 zc_201 2
      refine zt_iload_n (pc' := 20) hX dX12_codesTell_19 rfl rfl ?_
      refine zt_aload_n (pc' := 21) hX dX12_codesTell_20 rfl rfl ?_
      refine zt_get (pc' := 24) (v := .ref (X.1.1 + 201)) hX dX12_codesTell_21 rfl zf_X12_124 (by decide) zc_164 zs_46 (zrf_of (zv_46_46 hI41 zc_164)) ?_
      refine zt_iconst (pc' := 25) hX dX12_codesTell_24 rfl ?_
      refine zt_iload_n (pc' := 26) hX dX12_codesTell_25 rfl rfl ?_
      refine zt_iadd (pc' := 27) hX dX12_codesTell_26 rfl ?_
      rw [show (2 + 0 : Int) = 2 from rfl]
      refine zt_iald (pc' := 28) hX dX12_codesTell_27 rfl (by decide) zc_201 zs_83 (by decide) ⟨by omega, by omega⟩ ?_
      rw [show Int.toNat 2 = 2 from rfl]
      have b53 := zv_83 hI41 zc_201 2
      refine zt_icge (pc' := 31) (tgt := 150) hX dX12_codesTell_28 rfl (by decide) ⟨by omega, by omega⟩ ⟨by omega, by omega⟩ (fun c54 => ?_) (fun c54 => ?_)
      · refine zt_aload_n (pc' := 151) hX dX12_codesTell_150 rfl rfl ?_
        refine zt_get (pc' := 154) (v := .ref (X.1.1 + 236)) hX dX12_codesTell_151 rfl zf_X12_237 (by decide) zc_164 zs_46 (zrf_of (zv_46_102 hI41 zc_164)) ?_
        refine zt_iconst (pc' := 155) hX dX12_codesTell_154 rfl ?_
        refine zt_lald (pc' := 156) hX dX12_codesTell_155 rfl (by decide) zc_236 zs_118 (by decide) ⟨by omega, by omega⟩ ?_
        rw [show Int.toNat 0 = 0 from rfl]
        have b56 := zv_118 hI41 zc_236 0
        exact zt_lret hX hR dX12_codesTell_156 ⟨by omega, by omega⟩ ⟨hI41, hF42, by omega, by omega⟩
      · refine zt_aload_n (pc' := 32) hX dX12_codesTell_31 rfl rfl ?_
        refine zt_get (pc' := 35) (v := .ref (X.1.1 + 202)) hX dX12_codesTell_32 rfl zf_X12_127 (by decide) zc_164 zs_46 (zrf_of (zv_46_47 hI41 zc_164)) ?_
        refine zt_sipush (pc' := 38) hX dX12_codesTell_35 rfl (by decide) (by decide) ?_
        refine zt_iload_n (pc' := 39) hX dX12_codesTell_38 rfl rfl ?_
        refine zt_iadd (pc' := 40) hX dX12_codesTell_39 rfl ?_
        refine zt_iald (pc' := 41) hX dX12_codesTell_40 rfl (by decide) zc_202 zs_84 (by decide) ⟨by omega, by omega⟩ ?_
        generalize hv57 : s40 202 ((1600 + x37).toNat) = v57
        have bv57 : -2147483648 ≤ v57 ∧ v57 ≤ 2147483647 := hv57 ▸ zv_84 hI41 zc_202 _
        have h58a := zct_step hW.1 hpre0 (zOn_Kl8 hF42) (show σ 200 2 ≤ x37 by omega) (show x37 < σ 201 2 by omega) hv57
        have h58b := zdn v57
        refine zt_istore (pc' := 43) (lv' := [some (.ref (X.1.1 + 164)), some (.int (zI 0)), some (.int (zI a2_)), some (.int (zI x37)), some (.int (zI v57))]) hX dX12_codesTell_41 rfl hL (by decide) rfl ?_
        refine zt_iload (pc' := 45) hX dX12_codesTell_43 rfl rfl ?_
        refine zt_sipush (pc' := 48) hX dX12_codesTell_45 rfl (by decide) (by decide) ?_
        have J_144_64 : ∀ (s59 : zSto), zInv s59 → zOn zQ8 σ s59 → (zhw σ 0 (x37 + 1) ≤ s59 164 103 ∧ s59 164 103 ≤ x37 + 1 - σ 200 2) → σ 200 2 ≤ x37 → (s59 201 2 = σ 201 2 ∧ s59 200 2 = σ 200 2) → zF X s59 144 [some (.ref (X.1.1 + 164)), some (.int (zI 0)), some (.int (zI a2_)), some (.int (zI x37)), none] [] := by
          intro s59 hI60 hF61 g62 g63 g64
          have b66 := zv_46_103 hI60 zc_164
          have b67 := zv_82 hI60 zc_200 2
          have b68 := zv_83 hI60 zc_201 2
          refine zt_iinc (pc' := 147) (lv' := [some (.ref (X.1.1 + 164)), some (.int (zI 0)), some (.int (zI a2_)), some (.int (zI (x37 + 1))), none]) hX dX12_codesTell_144 rfl rfl hL (by decide) rfl ?_
          refine zt_goto (tgt := 19) hX dX12_codesTell_147 (by decide) ?_
          exact ih48 (x37 + 1) s59 (by omega) (by omega) hI60 hF61 (by omega) (by omega) (by omega) (by omega)
        refine zt_iclt (pc' := 51) (tgt := 65) hX dX12_codesTell_48 rfl (by decide) ⟨by omega, by omega⟩ ⟨by omega, by omega⟩ (fun c69 => ?_) (fun c69 => ?_)
        · refine zt_iload (pc' := 67) hX dX12_codesTell_65 rfl rfl ?_
          refine zt_bipush (pc' := 69) hX dX12_codesTell_67 rfl (by decide) (by decide) ?_
          refine zt_iclt (pc' := 72) (tgt := 89) hX dX12_codesTell_69 rfl (by decide) ⟨by omega, by omega⟩ ⟨by omega, by omega⟩ (fun c70 => ?_) (fun c70 => ?_)
          · refine zt_iload (pc' := 91) hX dX12_codesTell_89 rfl rfl ?_
            refine zt_bipush (pc' := 93) hX dX12_codesTell_91 rfl (by decide) (by decide) ?_
            refine zt_icne (pc' := 96) (tgt := 104) hX dX12_codesTell_93 rfl (by decide) ⟨by omega, by omega⟩ ⟨by omega, by omega⟩ (fun c71 => ?_) (fun c71 => ?_)
            · refine zt_iload (pc' := 106) hX dX12_codesTell_104 rfl rfl ?_
              refine zt_bipush (pc' := 108) hX dX12_codesTell_106 rfl (by decide) (by decide) ?_
              refine zt_icne (pc' := 111) (tgt := 138) hX dX12_codesTell_108 rfl (by decide) ⟨by omega, by omega⟩ ⟨by omega, by omega⟩ (fun c72 => ?_) (fun c72 => ?_)
              · refine zt_aload_n (pc' := 139) hX dX12_codesTell_138 rfl rfl ?_
                refine zt_iload (pc' := 141) hX dX12_codesTell_139 rfl rfl ?_
                refine zt_cVv (pc' := 144) hX dX12_codesTell_141 rfl zm_yX12_qJoins zw_40_7 zc_164 (by decide) zs_46 (q := (RX12, TX12, 108)) rfl rfl (zc_X12_qJoins_Q _ _ s40 hI41 v57 ⟨by omega, by omega⟩ (by omega)) rfl rfl (Nat.le_of_ble_eq_true rfl) (by decide) (fun r73 s74 hr75 hp76 => ?_)
                obtain ⟨hI77, hF78, z79⟩ := hp76
                obtain ⟨-, w81, w82, w83, -, -, w86, -⟩ := zE_q8 hF78
                have e88 := hF78 200 2 rfl
                have e89 := hF78 201 2 rfl
                have hF90 := zOn_tr hF42 hF78 zi_id
                have b91 := zv_46_103 hI77 zc_164
                have b92 := zv_82 hI77 zc_200 2
                have b93 := zv_83 hI77 zc_201 2
                refine zt_mask [true, true, true, true, false] rfl ?_
                exact J_144_64 s74 hI77 hF90 (by omega) (by omega) (by omega)
              · refine zt_aload_n (pc' := 112) hX dX12_codesTell_111 rfl rfl ?_
                refine zt_get (pc' := 115) (v := .ref (X.1.1 + 236)) hX dX12_codesTell_112 rfl zf_X12_237 (by decide) zc_164 zs_46 (zrf_of (zv_46_102 hI41 zc_164)) ?_
                refine zt_aload_n (pc' := 116) hX dX12_codesTell_115 rfl rfl ?_
                have b94 := zv_46_103 hI41 zc_164
                refine zt_get (pc' := 119) (v := .int (zI (s40 164 103))) hX dX12_codesTell_116 rfl zf_X12_398 (by decide) zc_164 zs_46 rfl ?_
                refine zt_iconst (pc' := 120) hX dX12_codesTell_119 rfl ?_
                refine zt_isub (pc' := 121) hX dX12_codesTell_120 rfl ?_
                refine zt_lconst (pc' := 122) (y := 1) hX dX12_codesTell_121 rfl (by decide +kernel) ?_
                refine zt_aload_n (pc' := 123) hX dX12_codesTell_122 rfl rfl ?_
                refine zt_get (pc' := 126) (v := .ref (X.1.1 + 236)) hX dX12_codesTell_123 rfl zf_X12_237 (by decide) zc_164 zs_46 (zrf_of (zv_46_102 hI41 zc_164)) ?_
                refine zt_aload_n (pc' := 127) hX dX12_codesTell_126 rfl rfl ?_
                refine zt_get (pc' := 130) (v := .int (zI (s40 164 103))) hX dX12_codesTell_127 rfl zf_X12_398 (by decide) zc_164 zs_46 rfl ?_
                refine zt_iconst (pc' := 131) hX dX12_codesTell_130 rfl ?_
                refine zt_isub (pc' := 132) hX dX12_codesTell_131 rfl ?_
                refine zt_lald (pc' := 133) hX dX12_codesTell_132 rfl (by decide) zc_236 zs_118 (by decide) ⟨by omega, by omega⟩ ?_
                generalize hv95 : s40 236 (((s40 164 103) - 1).toNat) = v95
                have bv95 : -9223372036854775808 ≤ v95 ∧ v95 ≤ 9223372036854775807 := hv95 ▸ zv_118 hI41 zc_236 _
                refine zt_lsub (pc' := 134) hX dX12_codesTell_133 rfl ?_
                refine zt_wrapl (fun r96 zr96 lr96 ur96 => ?_)
                clear zr96
                refine zt_last (pc' := 135) hX dX12_codesTell_134 rfl (by decide) zc_236 zs_118 (by decide) ⟨by omega, by omega⟩ ?_
                generalize hs98 : zset s40 236 (((s40 164 103) - 1).toNat) r96 = s97
                have hI99 : zInv s97 := hs98 ▸ zp_118 hI41 zc_236 (((s40 164 103) - 1).toNat) ⟨by omega, by omega⟩
                have hF100 : zOn zQ8 σ s97 := hs98 ▸ zOn_set hF42 (zq8_236 (by omega))
                obtain ⟨-, w102, w103, w104, -, -, w107, -⟩ := zE_setk hs98 (by decide)
                have e109 : s97 164 103 = s40 164 103 := by rw [← hs98]; exact zset_k (zne_r zc_164 zc_236 (by decide))
                have e110 : s97 200 2 = s40 200 2 := by rw [← hs98]; exact zset_k (zne_r zc_200 zc_236 (by decide))
                have e111 : s97 201 2 = s40 201 2 := by rw [← hs98]; exact zset_k (zne_r zc_201 zc_236 (by decide))
                refine zt_goto (tgt := 144) hX dX12_codesTell_135 (by decide) ?_
                refine zt_mask [true, true, true, true, false] rfl ?_
                exact J_144_64 s97 hI99 hF100 (by omega) (by omega) (by omega)
            · refine zt_aload_n (pc' := 97) hX dX12_codesTell_96 rfl rfl ?_
              refine zt_lconst (pc' := 98) (y := 1) hX dX12_codesTell_97 rfl (by decide +kernel) ?_
              refine zt_cVv (pc' := 101) hX dX12_codesTell_98 rfl zm_yX12_qPuts zw_39_1 zc_164 (by decide) zs_46 (q := (RX12, TX12, 108)) rfl rfl (zc_X12_qPuts_Q _ _ s40 hI41 1 ⟨by omega, by omega⟩ (by omega)) rfl rfl (Nat.le_of_ble_eq_true rfl) (by decide) (fun r112 s113 hr114 hp115 => ?_)
              obtain ⟨hI116, hF117, z118⟩ := hp115
              obtain ⟨-, w120, w121, w122, -, -, w125, -⟩ := zE_q8 hF117
              have e127 := hF117 200 2 rfl
              have e128 := hF117 201 2 rfl
              have hF129 := zOn_tr hF42 hF117 zi_id
              have b130 := zv_46_103 hI116 zc_164
              have b131 := zv_82 hI116 zc_200 2
              have b132 := zv_83 hI116 zc_201 2
              refine zt_goto (tgt := 144) hX dX12_codesTell_101 (by decide) ?_
              refine zt_mask [true, true, true, true, false] rfl ?_
              exact J_144_64 s113 hI116 hF129 (by omega) (by omega) (by omega)
          · refine zt_aload_n (pc' := 73) hX dX12_codesTell_72 rfl rfl ?_
            refine zt_aload_n (pc' := 74) hX dX12_codesTell_73 rfl rfl ?_
            refine zt_iload (pc' := 76) hX dX12_codesTell_74 rfl rfl ?_
            refine zt_bipush (pc' := 78) hX dX12_codesTell_76 rfl (by decide) (by decide) ?_
            refine zt_isub (pc' := 79) hX dX12_codesTell_78 rfl ?_
            refine zt_iload_n (pc' := 80) hX dX12_codesTell_79 rfl rfl ?_
            refine zt_cVl (pc' := 83) hX dX12_codesTell_80 rfl zm_yX12_qPartOf zw_39_5 zc_164 (by decide) zs_46 (q := (RX12, TX12, 108)) rfl rfl (zc_X12_qPartOf _ _ s40 hI41 (v57 - 40) ⟨by omega, by omega⟩ a2_ ⟨by omega, by omega⟩) rfl rfl (Nat.le_of_ble_eq_true rfl) (by decide) (fun r133 s134 hr135 hp136 => ?_)
            obtain ⟨rfl, q137, q138⟩ := hp136
            refine zt_cVv (pc' := 86) hX dX12_codesTell_83 rfl zm_yX12_qPuts zw_39_1 zc_164 (by decide) zs_46 (q := (RX12, TX12, 108)) rfl rfl (zc_X12_qPuts_Q _ _ s40 hI41 r133 ⟨by omega, by omega⟩ (by omega)) rfl rfl (Nat.le_of_ble_eq_true rfl) (by decide) (fun r139 s140 hr141 hp142 => ?_)
            obtain ⟨hI143, hF144, z145⟩ := hp142
            obtain ⟨-, w147, w148, w149, -, -, w152, -⟩ := zE_q8 hF144
            have e154 := hF144 200 2 rfl
            have e155 := hF144 201 2 rfl
            have hF156 := zOn_tr hF42 hF144 zi_id
            have b157 := zv_46_103 hI143 zc_164
            have b158 := zv_82 hI143 zc_200 2
            have b159 := zv_83 hI143 zc_201 2
            refine zt_goto (tgt := 144) hX dX12_codesTell_86 (by decide) ?_
            refine zt_mask [true, true, true, true, false] rfl ?_
            exact J_144_64 s140 hI143 hF156 (by omega) (by omega) (by omega)
        · refine zt_aload_n (pc' := 52) hX dX12_codesTell_51 rfl rfl ?_
          refine zt_iload (pc' := 54) hX dX12_codesTell_52 rfl rfl ?_
          refine zt_sipush (pc' := 57) hX dX12_codesTell_54 rfl (by decide) (by decide) ?_
          refine zt_isub (pc' := 58) hX dX12_codesTell_57 rfl ?_
          refine zt_i2l (pc' := 59) hX dX12_codesTell_58 rfl ⟨by omega, by omega⟩ ?_
          refine zt_cVv (pc' := 62) hX dX12_codesTell_59 rfl zm_yX12_qPuts zw_39_1 zc_164 (by decide) zs_46 (q := (RX12, TX12, 108)) rfl rfl (zc_X12_qPuts_Q _ _ s40 hI41 (v57 - 1000) ⟨by omega, by omega⟩ (by omega)) rfl rfl (Nat.le_of_ble_eq_true rfl) (by decide) (fun r160 s161 hr162 hp163 => ?_)
          obtain ⟨hI164, hF165, z166⟩ := hp163
          obtain ⟨-, w168, w169, w170, -, -, w173, -⟩ := zE_q8 hF165
          have e175 := hF165 200 2 rfl
          have e176 := hF165 201 2 rfl
          have hF177 := zOn_tr hF42 hF165 zi_id
          have b178 := zv_46_103 hI164 zc_164
          have b179 := zv_82 hI164 zc_200 2
          have b180 := zv_83 hI164 zc_201 2
          refine zt_goto (tgt := 144) hX dX12_codesTell_62 (by decide) ?_
          refine zt_mask [true, true, true, true, false] rfl ?_
          exact J_144_64 s161 hI164 hF177 (by omega) (by omega) (by omega)
  exact L_19_45 _ (s19 200 2) s19 (by omega) (by omega) hI21 hF22 (by omega) (by omega) (by omega) (Nat.lt_succ_self _)

set_option maxRecDepth 100000 in
set_option maxHeartbeats 2000000 in
theorem zc_X12_codesTell_Q1 (l : Launch) (E : zEN) (σ : zSto) (hI : zInv σ) (a2_ : Int) (ha2_ : 0 ≤ a2_ ∧ a2_ ≤ 9) (hpre0 : σ 200 3 ≠ -1) (hW : zWF σ) : zCt l E yX12_codesTell cX12_codesTell 5 (some .long) 3 zNC zNC 0 0 σ [.ref (E.1 + 164), .int (zI 1), .int (zI a2_)] (fun r σ' => zInv σ' ∧ zOn zQ8 σ σ' ∧ -9223372036854775808 ≤ r ∧ r ≤ 9223372036854775807) := by
  refine zCt_of2 [some (.ref (E.1 + 164)), some (.int (zI 1)), some (.int (zI a2_)), none, none] (by decide +kernel) (Nat.le_of_ble_eq_true rfl) rfl ?_
  intro X hE hX hR hL hN
  subst hE
  have hX : zok X cX12_codesTell RX12 3 := hX
  have hF := zOn_rf zQ8 σ
  have hWa : 0 ≤ σ 200 3 ∧ σ 200 3 ≤ σ 201 3 ∧ σ 201 3 ≤ 1600 := zWF1_b hW.2.1 hpre0
  have b1 := zv_46_103 hI zc_164
  have b2 := zv_82 hI zc_200 3
  have b3 := zv_83 hI zc_201 3
  refine zt_aload_n (pc' := 1) hX dX12_codesTell_0 rfl rfl ?_
  refine zt_iload_n (pc' := 2) hX dX12_codesTell_1 rfl rfl ?_
  refine zt_put (pc' := 5) (x := 1) hX dX12_codesTell_2 rfl zf_X12_304 (by decide) zc_164 zs_46 (fun q hq => by cases hq; rfl) rfl rfl rfl ?_
  generalize hs5 : zset σ 164 51 1 = s4
  have hI6 : zInv s4 := hs5 ▸ zp_46_51 hI zc_164 ⟨by omega, by omega⟩
  have hF7 : zOn zQ8 σ s4 := hs5 ▸ zOn_set hF (by decide)
  obtain ⟨-, w9, w10, w11, -, -, w14, -⟩ := zE_set hs5 (by decide)
  have e16 : s4 164 103 = σ 164 103 := by rw [← hs5]; exact zset_j (by decide)
  have e17 : s4 200 3 = σ 200 3 := by rw [← hs5]; exact zset_k (zne_r zc_200 zc_164 (by decide))
  have e18 : s4 201 3 = σ 201 3 := by rw [← hs5]; exact zset_k (zne_r zc_201 zc_164 (by decide))
  refine zt_aload_n (pc' := 6) hX dX12_codesTell_5 rfl rfl ?_
  refine zt_iconst (pc' := 7) hX dX12_codesTell_6 rfl ?_
  refine zt_put (pc' := 10) (x := 0) hX dX12_codesTell_7 rfl zf_X12_398 (by decide) zc_164 zs_46 (fun q hq => by cases hq; rfl) rfl rfl rfl ?_
  generalize hs20 : zset s4 164 103 0 = s19
  have hI21 : zInv s19 := hs20 ▸ zp_46_103 hI6 zc_164 ⟨by omega, by omega⟩
  have hF22 : zOn zQ8 σ s19 := hs20 ▸ zOn_set hF7 (by decide)
  obtain ⟨-, w24, w25, w26, -, -, w29, -⟩ := zE_set hs20 (by decide)
  have e31 : s19 164 103 = 0 := by rw [← hs20]; exact zset_s
  have e32 : s19 200 3 = s4 200 3 := by rw [← hs20]; exact zset_k (zne_r zc_200 zc_164 (by decide))
  have e33 : s19 201 3 = s4 201 3 := by rw [← hs20]; exact zset_k (zne_r zc_201 zc_164 (by decide))
  refine zt_aload_n (pc' := 11) hX dX12_codesTell_10 rfl rfl ?_
  refine zt_get (pc' := 14) (v := .ref (X.1.1 + 200)) hX dX12_codesTell_11 rfl zf_X12_121 (by decide) zc_164 zs_46 (zrf_of (zv_46_45 hI21 zc_164)) ?_
  refine zt_iconst (pc' := 15) hX dX12_codesTell_14 rfl ?_
  refine zt_iload_n (pc' := 16) hX dX12_codesTell_15 rfl rfl ?_
  refine zt_iadd (pc' := 17) hX dX12_codesTell_16 rfl ?_
  rw [show (2 + 1 : Int) = 3 from rfl]
  refine zt_iald (pc' := 18) hX dX12_codesTell_17 rfl (by decide) zc_200 zs_82 (by decide) ⟨by omega, by omega⟩ ?_
  rw [show Int.toNat 3 = 3 from rfl]
  have b35 := zv_82 hI21 zc_200 3
  refine zt_istore_n (pc' := 19) (lv' := [some (.ref (X.1.1 + 164)), some (.int (zI 1)), some (.int (zI a2_)), some (.int (zI (s19 200 3))), none]) hX dX12_codesTell_18 rfl hL (by decide) rfl ?_
  have h36 := zhw_0 σ 1 (s19 200 3) (show (s19 200 3) = σ 200 3 by omega)
  have L_19_45 : ∀ (N : Nat) (x37 : Int) (s40 : zSto), -1 ≤ x37 → x37 ≤ 1600 → zInv s40 → zOn zQ8 σ s40 → (zhw σ 1 x37 ≤ s40 164 103 ∧ s40 164 103 ≤ x37 - σ 200 3) → σ 200 3 ≤ x37 → (s40 201 3 = σ 201 3 ∧ s40 200 3 = σ 200 3) → ((1601 - x37).toNat) < N → zF X s40 19 [some (.ref (X.1.1 + 164)), some (.int (zI 1)), some (.int (zI a2_)), some (.int (zI x37)), none] [] := by
    intro N
    induction N with
    | zero =>
      intro x37 s40 h38 h39 hI41 hF42 g43 g44 g45 hm47
      exact absurd hm47 (Nat.not_lt_zero _)
    | succ N ih48 =>
      intro x37 s40 h38 h39 hI41 hF42 g43 g44 g45 hm47
      have b49 := zv_46_103 hI41 zc_164
      have b50 := zv_82 hI41 zc_200 3
      have b51 := zv_83 hI41 zc_201 3
      refine zt_iload_n (pc' := 20) hX dX12_codesTell_19 rfl rfl ?_
      refine zt_aload_n (pc' := 21) hX dX12_codesTell_20 rfl rfl ?_
      refine zt_get (pc' := 24) (v := .ref (X.1.1 + 201)) hX dX12_codesTell_21 rfl zf_X12_124 (by decide) zc_164 zs_46 (zrf_of (zv_46_46 hI41 zc_164)) ?_
      refine zt_iconst (pc' := 25) hX dX12_codesTell_24 rfl ?_
      refine zt_iload_n (pc' := 26) hX dX12_codesTell_25 rfl rfl ?_
      refine zt_iadd (pc' := 27) hX dX12_codesTell_26 rfl ?_
      rw [show (2 + 1 : Int) = 3 from rfl]
      refine zt_iald (pc' := 28) hX dX12_codesTell_27 rfl (by decide) zc_201 zs_83 (by decide) ⟨by omega, by omega⟩ ?_
      rw [show Int.toNat 3 = 3 from rfl]
      have b53 := zv_83 hI41 zc_201 3
      refine zt_icge (pc' := 31) (tgt := 150) hX dX12_codesTell_28 rfl (by decide) ⟨by omega, by omega⟩ ⟨by omega, by omega⟩ (fun c54 => ?_) (fun c54 => ?_)
      · refine zt_aload_n (pc' := 151) hX dX12_codesTell_150 rfl rfl ?_
        refine zt_get (pc' := 154) (v := .ref (X.1.1 + 236)) hX dX12_codesTell_151 rfl zf_X12_237 (by decide) zc_164 zs_46 (zrf_of (zv_46_102 hI41 zc_164)) ?_
        refine zt_iconst (pc' := 155) hX dX12_codesTell_154 rfl ?_
        refine zt_lald (pc' := 156) hX dX12_codesTell_155 rfl (by decide) zc_236 zs_118 (by decide) ⟨by omega, by omega⟩ ?_
        rw [show Int.toNat 0 = 0 from rfl]
        have b56 := zv_118 hI41 zc_236 0
        exact zt_lret hX hR dX12_codesTell_156 ⟨by omega, by omega⟩ ⟨hI41, hF42, by omega, by omega⟩
      · refine zt_aload_n (pc' := 32) hX dX12_codesTell_31 rfl rfl ?_
        refine zt_get (pc' := 35) (v := .ref (X.1.1 + 202)) hX dX12_codesTell_32 rfl zf_X12_127 (by decide) zc_164 zs_46 (zrf_of (zv_46_47 hI41 zc_164)) ?_
        refine zt_sipush (pc' := 38) hX dX12_codesTell_35 rfl (by decide) (by decide) ?_
        refine zt_iload_n (pc' := 39) hX dX12_codesTell_38 rfl rfl ?_
        refine zt_iadd (pc' := 40) hX dX12_codesTell_39 rfl ?_
        refine zt_iald (pc' := 41) hX dX12_codesTell_40 rfl (by decide) zc_202 zs_84 (by decide) ⟨by omega, by omega⟩ ?_
        generalize hv57 : s40 202 ((1600 + x37).toNat) = v57
        have bv57 : -2147483648 ≤ v57 ∧ v57 ≤ 2147483647 := hv57 ▸ zv_84 hI41 zc_202 _
        have h58a := zct_step hW.2.1 hpre0 (zOn_Kl8 hF42) (show σ 200 3 ≤ x37 by omega) (show x37 < σ 201 3 by omega) hv57
        have h58b := zdn v57
        refine zt_istore (pc' := 43) (lv' := [some (.ref (X.1.1 + 164)), some (.int (zI 1)), some (.int (zI a2_)), some (.int (zI x37)), some (.int (zI v57))]) hX dX12_codesTell_41 rfl hL (by decide) rfl ?_
        refine zt_iload (pc' := 45) hX dX12_codesTell_43 rfl rfl ?_
        refine zt_sipush (pc' := 48) hX dX12_codesTell_45 rfl (by decide) (by decide) ?_
        have J_144_64 : ∀ (s59 : zSto), zInv s59 → zOn zQ8 σ s59 → (zhw σ 1 (x37 + 1) ≤ s59 164 103 ∧ s59 164 103 ≤ x37 + 1 - σ 200 3) → σ 200 3 ≤ x37 → (s59 201 3 = σ 201 3 ∧ s59 200 3 = σ 200 3) → zF X s59 144 [some (.ref (X.1.1 + 164)), some (.int (zI 1)), some (.int (zI a2_)), some (.int (zI x37)), none] [] := by
          intro s59 hI60 hF61 g62 g63 g64
          have b66 := zv_46_103 hI60 zc_164
          have b67 := zv_82 hI60 zc_200 3
          have b68 := zv_83 hI60 zc_201 3
          refine zt_iinc (pc' := 147) (lv' := [some (.ref (X.1.1 + 164)), some (.int (zI 1)), some (.int (zI a2_)), some (.int (zI (x37 + 1))), none]) hX dX12_codesTell_144 rfl rfl hL (by decide) rfl ?_
          refine zt_goto (tgt := 19) hX dX12_codesTell_147 (by decide) ?_
          exact ih48 (x37 + 1) s59 (by omega) (by omega) hI60 hF61 (by omega) (by omega) (by omega) (by omega)
        refine zt_iclt (pc' := 51) (tgt := 65) hX dX12_codesTell_48 rfl (by decide) ⟨by omega, by omega⟩ ⟨by omega, by omega⟩ (fun c69 => ?_) (fun c69 => ?_)
        · refine zt_iload (pc' := 67) hX dX12_codesTell_65 rfl rfl ?_
          refine zt_bipush (pc' := 69) hX dX12_codesTell_67 rfl (by decide) (by decide) ?_
          refine zt_iclt (pc' := 72) (tgt := 89) hX dX12_codesTell_69 rfl (by decide) ⟨by omega, by omega⟩ ⟨by omega, by omega⟩ (fun c70 => ?_) (fun c70 => ?_)
          · refine zt_iload (pc' := 91) hX dX12_codesTell_89 rfl rfl ?_
            refine zt_bipush (pc' := 93) hX dX12_codesTell_91 rfl (by decide) (by decide) ?_
            refine zt_icne (pc' := 96) (tgt := 104) hX dX12_codesTell_93 rfl (by decide) ⟨by omega, by omega⟩ ⟨by omega, by omega⟩ (fun c71 => ?_) (fun c71 => ?_)
            · refine zt_iload (pc' := 106) hX dX12_codesTell_104 rfl rfl ?_
              refine zt_bipush (pc' := 108) hX dX12_codesTell_106 rfl (by decide) (by decide) ?_
              refine zt_icne (pc' := 111) (tgt := 138) hX dX12_codesTell_108 rfl (by decide) ⟨by omega, by omega⟩ ⟨by omega, by omega⟩ (fun c72 => ?_) (fun c72 => ?_)
              · refine zt_aload_n (pc' := 139) hX dX12_codesTell_138 rfl rfl ?_
                refine zt_iload (pc' := 141) hX dX12_codesTell_139 rfl rfl ?_
                refine zt_cVv (pc' := 144) hX dX12_codesTell_141 rfl zm_yX12_qJoins zw_40_7 zc_164 (by decide) zs_46 (q := (RX12, TX12, 108)) rfl rfl (zc_X12_qJoins_Q _ _ s40 hI41 v57 ⟨by omega, by omega⟩ (by omega)) rfl rfl (Nat.le_of_ble_eq_true rfl) (by decide) (fun r73 s74 hr75 hp76 => ?_)
                obtain ⟨hI77, hF78, z79⟩ := hp76
                obtain ⟨-, w81, w82, w83, -, -, w86, -⟩ := zE_q8 hF78
                have e88 := hF78 200 3 rfl
                have e89 := hF78 201 3 rfl
                have hF90 := zOn_tr hF42 hF78 zi_id
                have b91 := zv_46_103 hI77 zc_164
                have b92 := zv_82 hI77 zc_200 3
                have b93 := zv_83 hI77 zc_201 3
                refine zt_mask [true, true, true, true, false] rfl ?_
                exact J_144_64 s74 hI77 hF90 (by omega) (by omega) (by omega)
              · refine zt_aload_n (pc' := 112) hX dX12_codesTell_111 rfl rfl ?_
                refine zt_get (pc' := 115) (v := .ref (X.1.1 + 236)) hX dX12_codesTell_112 rfl zf_X12_237 (by decide) zc_164 zs_46 (zrf_of (zv_46_102 hI41 zc_164)) ?_
                refine zt_aload_n (pc' := 116) hX dX12_codesTell_115 rfl rfl ?_
                have b94 := zv_46_103 hI41 zc_164
                refine zt_get (pc' := 119) (v := .int (zI (s40 164 103))) hX dX12_codesTell_116 rfl zf_X12_398 (by decide) zc_164 zs_46 rfl ?_
                refine zt_iconst (pc' := 120) hX dX12_codesTell_119 rfl ?_
                refine zt_isub (pc' := 121) hX dX12_codesTell_120 rfl ?_
                refine zt_lconst (pc' := 122) (y := 1) hX dX12_codesTell_121 rfl (by decide +kernel) ?_
                refine zt_aload_n (pc' := 123) hX dX12_codesTell_122 rfl rfl ?_
                refine zt_get (pc' := 126) (v := .ref (X.1.1 + 236)) hX dX12_codesTell_123 rfl zf_X12_237 (by decide) zc_164 zs_46 (zrf_of (zv_46_102 hI41 zc_164)) ?_
                refine zt_aload_n (pc' := 127) hX dX12_codesTell_126 rfl rfl ?_
                refine zt_get (pc' := 130) (v := .int (zI (s40 164 103))) hX dX12_codesTell_127 rfl zf_X12_398 (by decide) zc_164 zs_46 rfl ?_
                refine zt_iconst (pc' := 131) hX dX12_codesTell_130 rfl ?_
                refine zt_isub (pc' := 132) hX dX12_codesTell_131 rfl ?_
                refine zt_lald (pc' := 133) hX dX12_codesTell_132 rfl (by decide) zc_236 zs_118 (by decide) ⟨by omega, by omega⟩ ?_
                generalize hv95 : s40 236 (((s40 164 103) - 1).toNat) = v95
                have bv95 : -9223372036854775808 ≤ v95 ∧ v95 ≤ 9223372036854775807 := hv95 ▸ zv_118 hI41 zc_236 _
                refine zt_lsub (pc' := 134) hX dX12_codesTell_133 rfl ?_
                refine zt_wrapl (fun r96 zr96 lr96 ur96 => ?_)
                clear zr96
                refine zt_last (pc' := 135) hX dX12_codesTell_134 rfl (by decide) zc_236 zs_118 (by decide) ⟨by omega, by omega⟩ ?_
                generalize hs98 : zset s40 236 (((s40 164 103) - 1).toNat) r96 = s97
                have hI99 : zInv s97 := hs98 ▸ zp_118 hI41 zc_236 (((s40 164 103) - 1).toNat) ⟨by omega, by omega⟩
                have hF100 : zOn zQ8 σ s97 := hs98 ▸ zOn_set hF42 (zq8_236 (by omega))
                obtain ⟨-, w102, w103, w104, -, -, w107, -⟩ := zE_setk hs98 (by decide)
                have e109 : s97 164 103 = s40 164 103 := by rw [← hs98]; exact zset_k (zne_r zc_164 zc_236 (by decide))
                have e110 : s97 200 3 = s40 200 3 := by rw [← hs98]; exact zset_k (zne_r zc_200 zc_236 (by decide))
                have e111 : s97 201 3 = s40 201 3 := by rw [← hs98]; exact zset_k (zne_r zc_201 zc_236 (by decide))
                refine zt_goto (tgt := 144) hX dX12_codesTell_135 (by decide) ?_
                refine zt_mask [true, true, true, true, false] rfl ?_
                exact J_144_64 s97 hI99 hF100 (by omega) (by omega) (by omega)
            · refine zt_aload_n (pc' := 97) hX dX12_codesTell_96 rfl rfl ?_
              refine zt_lconst (pc' := 98) (y := 1) hX dX12_codesTell_97 rfl (by decide +kernel) ?_
              refine zt_cVv (pc' := 101) hX dX12_codesTell_98 rfl zm_yX12_qPuts zw_39_1 zc_164 (by decide) zs_46 (q := (RX12, TX12, 108)) rfl rfl (zc_X12_qPuts_Q _ _ s40 hI41 1 ⟨by omega, by omega⟩ (by omega)) rfl rfl (Nat.le_of_ble_eq_true rfl) (by decide) (fun r112 s113 hr114 hp115 => ?_)
              obtain ⟨hI116, hF117, z118⟩ := hp115
              obtain ⟨-, w120, w121, w122, -, -, w125, -⟩ := zE_q8 hF117
              have e127 := hF117 200 3 rfl
              have e128 := hF117 201 3 rfl
              have hF129 := zOn_tr hF42 hF117 zi_id
              have b130 := zv_46_103 hI116 zc_164
              have b131 := zv_82 hI116 zc_200 3
              have b132 := zv_83 hI116 zc_201 3
              refine zt_goto (tgt := 144) hX dX12_codesTell_101 (by decide) ?_
              refine zt_mask [true, true, true, true, false] rfl ?_
              exact J_144_64 s113 hI116 hF129 (by omega) (by omega) (by omega)
          · refine zt_aload_n (pc' := 73) hX dX12_codesTell_72 rfl rfl ?_
            refine zt_aload_n (pc' := 74) hX dX12_codesTell_73 rfl rfl ?_
            refine zt_iload (pc' := 76) hX dX12_codesTell_74 rfl rfl ?_
            refine zt_bipush (pc' := 78) hX dX12_codesTell_76 rfl (by decide) (by decide) ?_
            refine zt_isub (pc' := 79) hX dX12_codesTell_78 rfl ?_
            refine zt_iload_n (pc' := 80) hX dX12_codesTell_79 rfl rfl ?_
            refine zt_cVl (pc' := 83) hX dX12_codesTell_80 rfl zm_yX12_qPartOf zw_39_5 zc_164 (by decide) zs_46 (q := (RX12, TX12, 108)) rfl rfl (zc_X12_qPartOf _ _ s40 hI41 (v57 - 40) ⟨by omega, by omega⟩ a2_ ⟨by omega, by omega⟩) rfl rfl (Nat.le_of_ble_eq_true rfl) (by decide) (fun r133 s134 hr135 hp136 => ?_)
            obtain ⟨rfl, q137, q138⟩ := hp136
            refine zt_cVv (pc' := 86) hX dX12_codesTell_83 rfl zm_yX12_qPuts zw_39_1 zc_164 (by decide) zs_46 (q := (RX12, TX12, 108)) rfl rfl (zc_X12_qPuts_Q _ _ s40 hI41 r133 ⟨by omega, by omega⟩ (by omega)) rfl rfl (Nat.le_of_ble_eq_true rfl) (by decide) (fun r139 s140 hr141 hp142 => ?_)
            obtain ⟨hI143, hF144, z145⟩ := hp142
            obtain ⟨-, w147, w148, w149, -, -, w152, -⟩ := zE_q8 hF144
            have e154 := hF144 200 3 rfl
            have e155 := hF144 201 3 rfl
            have hF156 := zOn_tr hF42 hF144 zi_id
            have b157 := zv_46_103 hI143 zc_164
            have b158 := zv_82 hI143 zc_200 3
            have b159 := zv_83 hI143 zc_201 3
            refine zt_goto (tgt := 144) hX dX12_codesTell_86 (by decide) ?_
            refine zt_mask [true, true, true, true, false] rfl ?_
            exact J_144_64 s140 hI143 hF156 (by omega) (by omega) (by omega)
        · refine zt_aload_n (pc' := 52) hX dX12_codesTell_51 rfl rfl ?_
          refine zt_iload (pc' := 54) hX dX12_codesTell_52 rfl rfl ?_
          refine zt_sipush (pc' := 57) hX dX12_codesTell_54 rfl (by decide) (by decide) ?_
          refine zt_isub (pc' := 58) hX dX12_codesTell_57 rfl ?_
          refine zt_i2l (pc' := 59) hX dX12_codesTell_58 rfl ⟨by omega, by omega⟩ ?_
          refine zt_cVv (pc' := 62) hX dX12_codesTell_59 rfl zm_yX12_qPuts zw_39_1 zc_164 (by decide) zs_46 (q := (RX12, TX12, 108)) rfl rfl (zc_X12_qPuts_Q _ _ s40 hI41 (v57 - 1000) ⟨by omega, by omega⟩ (by omega)) rfl rfl (Nat.le_of_ble_eq_true rfl) (by decide) (fun r160 s161 hr162 hp163 => ?_)
          obtain ⟨hI164, hF165, z166⟩ := hp163
          obtain ⟨-, w168, w169, w170, -, -, w173, -⟩ := zE_q8 hF165
          have e175 := hF165 200 3 rfl
          have e176 := hF165 201 3 rfl
          have hF177 := zOn_tr hF42 hF165 zi_id
          have b178 := zv_46_103 hI164 zc_164
          have b179 := zv_82 hI164 zc_200 3
          have b180 := zv_83 hI164 zc_201 3
          refine zt_goto (tgt := 144) hX dX12_codesTell_62 (by decide) ?_
          refine zt_mask [true, true, true, true, false] rfl ?_
          exact J_144_64 s161 hI164 hF177 (by omega) (by omega) (by omega)
  exact L_19_45 _ (s19 200 3) s19 (by omega) (by omega) hI21 hF22 (by omega) (by omega) (by omega) (Nat.lt_succ_self _)

set_option maxRecDepth 100000 in
set_option maxHeartbeats 2000000 in
theorem zc_X12_holders_Q (l : Launch) (E : zEN) (σ : zSto) (hI : zInv σ) (hW : zWF σ) : zCt l E yX12_holders cX12_holders 3 (some .int) 4 zNC zNC 0 0 σ [.ref (E.1 + 164)] (fun r σ' => zInv σ' ∧ zOn zQ8 σ σ' ∧ -2147483648 ≤ r ∧ r ≤ 2147483647) := by
  refine zCt_of2 [some (.ref (E.1 + 164)), none, none] (by decide +kernel) (Nat.le_of_ble_eq_true rfl) rfl ?_
  intro X hE hX hR hL hN
  subst hE
  have hX : zok X cX12_holders RX12 4 := hX
  have hF := zOn_rf zQ8 σ
  have b1 := zv_82 hI zc_200 3
  refine zt_iconst (pc' := 1) hX dX12_holders_0 rfl ?_
  refine zt_istore_n (pc' := 2) (lv' := [some (.ref (X.1.1 + 164)), some (.int (zI 0)), none]) hX dX12_holders_1 rfl hL (by decide) rfl ?_
  refine zt_iconst (pc' := 3) hX dX12_holders_2 rfl ?_
  refine zt_istore_n (pc' := 4) (lv' := [some (.ref (X.1.1 + 164)), some (.int (zI 0)), some (.int (zI 0))]) hX dX12_holders_3 rfl hL (by decide) rfl ?_
  have L_4_10 : ∀ (N : Nat) (x2 : Int) (x5 : Int) (s8 : zSto), -2147483648 ≤ x2 → x2 ≤ 2147483647 → 0 ≤ x5 → x5 ≤ 10 → zInv s8 → zOn zQ8 σ s8 → ((11 - x5).toNat) < N → zF X s8 4 [some (.ref (X.1.1 + 164)), some (.int (zI x2)), some (.int (zI x5))] [] := by
    intro N
    induction N with
    | zero =>
      intro x2 x5 s8 h3 h4 h6 h7 hI9 hF10 hm12
      exact absurd hm12 (Nat.not_lt_zero _)
    | succ N ih13 =>
      intro x2 x5 s8 h3 h4 h6 h7 hI9 hF10 hm12
      have b14 := zv_82 hI9 zc_200 3
      refine zt_iload_n (pc' := 5) hX dX12_holders_4 rfl rfl ?_
      refine zt_aload_n (pc' := 6) hX dX12_holders_5 rfl rfl ?_
      refine zt_cVi (pc' := 9) hX dX12_holders_6 rfl zm_yX12_peopleMany zw_38_4 zc_164 (by decide) zs_46 (q := (RX12, TX12, 108)) rfl rfl (zc_X12_peopleMany _ _ s8 hI9 ) rfl rfl (Nat.le_of_ble_eq_true rfl) (by decide) (fun r15 s16 hr17 hp18 => ?_)
      obtain ⟨rfl, q19, q20, z21⟩ := hp18
      refine zt_icge (pc' := 12) (tgt := 53) hX dX12_holders_9 rfl (by decide) ⟨by omega, by omega⟩ ⟨by omega, by omega⟩ (fun c22 => ?_) (fun c22 => ?_)
      · refine zt_iload_n (pc' := 54) hX dX12_holders_53 rfl rfl ?_
        exact zt_iret hX hR dX12_holders_54 ⟨by omega, by omega⟩ ⟨hI9, hF10, by omega, by omega⟩
      · refine zt_aload_n (pc' := 13) hX dX12_holders_12 rfl rfl ?_
        refine zt_iload_n (pc' := 14) hX dX12_holders_13 rfl rfl ?_
        refine zt_cVz (pc' := 17) hX dX12_holders_14 rfl zm_yX12_isAtRest zw_38_16 zc_164 (by decide) zs_46 (q := (RX12, TX12, 108)) rfl rfl (zc_X12_isAtRest _ _ s8 hI9 x5 ⟨by omega, by omega⟩) rfl rfl (Nat.le_of_ble_eq_true rfl) (by decide) (fun r23 s24 hr25 hp26 => ?_)
        obtain ⟨rfl, q27, q28⟩ := hp26
        have J_47_34 : ∀ (x29 : Int) (s32 : zSto), -2147483648 ≤ x29 → x29 ≤ 2147483647 → zInv s32 → zOn zQ8 σ s32 → zF X s32 47 [some (.ref (X.1.1 + 164)), some (.int (zI x29)), some (.int (zI x5))] [] := by
          intro x29 s32 h30 h31 hI33 hF34
          have b36 := zv_82 hI33 zc_200 3
          refine zt_iinc (pc' := 50) (lv' := [some (.ref (X.1.1 + 164)), some (.int (zI x29)), some (.int (zI (x5 + 1)))]) hX dX12_holders_47 rfl rfl hL (by decide) rfl ?_
          refine zt_goto (tgt := 4) hX dX12_holders_50 (by decide) ?_
          exact ih13 x29 (x5 + 1) s32 (by omega) (by omega) (by omega) (by omega) hI33 hF34 (by omega)
        refine zt_ifne (pc' := 20) (tgt := 47) hX dX12_holders_17 rfl (by decide) ⟨by omega, by omega⟩ (fun c37 => ?_) (fun c37 => ?_)
        · exact J_47_34 x2 s8 (by omega) (by omega) hI9 hF10
        · refine zt_aload_n (pc' := 21) hX dX12_holders_20 rfl rfl ?_
          refine zt_get (pc' := 24) (v := .ref (X.1.1 + 200)) hX dX12_holders_21 rfl zf_X12_121 (by decide) zc_164 zs_46 (zrf_of (zv_46_45 hI9 zc_164)) ?_
          refine zt_iconst (pc' := 25) hX dX12_holders_24 rfl ?_
          refine zt_iald (pc' := 26) hX dX12_holders_25 rfl (by decide) zc_200 zs_82 (by decide) ⟨by omega, by omega⟩ ?_
          rw [show Int.toNat 3 = 3 from rfl]
          have b39 := zv_82 hI9 zc_200 3
          refine zt_iconst (pc' := 27) hX dX12_holders_26 rfl ?_
          have J_41_42 : ∀ (s40 : zSto), zInv s40 → zOn zQ8 σ s40 → zF X s40 41 [some (.ref (X.1.1 + 164)), some (.int (zI x2)), some (.int (zI x5))] [] := by
            intro s40 hI41 hF42
            have b44 := zv_82 hI41 zc_200 3
            refine zt_iload_n (pc' := 42) hX dX12_holders_41 rfl rfl ?_
            refine zt_iconst (pc' := 43) hX dX12_holders_42 rfl ?_
            refine zt_iload_n (pc' := 44) hX dX12_holders_43 rfl rfl ?_
            refine zt_ishl1 9 (pc' := 45) hX dX12_holders_44 rfl ⟨by omega, by omega⟩ (by decide) (fun r45 er45 lr45 ur45 => ?_)
            have ur45 : r45 ≤ 512 := by omega
            refine zt_ior (pc' := 46) hX dX12_holders_45 rfl (fun r46 zr46 lr46 ur46 => ?_)
            clear zr46
            refine zt_istore_n (pc' := 47) (lv' := [some (.ref (X.1.1 + 164)), some (.int (zI r46)), some (.int (zI x5))]) hX dX12_holders_46 rfl hL (by decide) rfl ?_
            exact J_47_34 r46 s40 (by omega) (by omega) hI41 hF42
          refine zt_iceq (pc' := 30) (tgt := 41) hX dX12_holders_27 rfl (by decide) ⟨by omega, by omega⟩ ⟨by omega, by omega⟩ (fun c47 => ?_) (fun c47 => ?_)
          · exact J_41_42 s8 hI9 hF10
          · refine zt_aload_n (pc' := 31) hX dX12_holders_30 rfl rfl ?_
            refine zt_iconst (pc' := 32) hX dX12_holders_31 rfl ?_
            refine zt_iload_n (pc' := 33) hX dX12_holders_32 rfl rfl ?_
            refine zt_cVl (pc' := 36) hX dX12_holders_33 rfl zm_yX12_codesTell zw_38_20 zc_164 (by decide) zs_46 (q := (RX12, TX12, 108)) rfl rfl (zc_X12_codesTell_Q1 _ _ s8 hI9 x5 ⟨by omega, by omega⟩ (by omega) (zWF_O hW hF10)) rfl rfl (Nat.le_of_ble_eq_true rfl) (by decide) (fun r48 s49 hr50 hp51 => ?_)
            obtain ⟨hI52, hF53, q54, q55⟩ := hp51
            obtain ⟨-, w57, w58, w59, -, -, w62, -⟩ := zE_q8 hF53
            have e64 := hF53 200 3 rfl
            have hF65 := zOn_tr hF10 hF53 zi_id
            have b66 := zv_82 hI52 zc_200 3
            refine zt_lconst (pc' := 37) (y := 1) hX dX12_holders_36 rfl (by decide +kernel) ?_
            refine zt_lcmp (pc' := 38) hX dX12_holders_37 rfl ⟨by omega, by omega⟩ ⟨by omega, by omega⟩ (fun r67 er67 => ?_)
            refine zt_ifne (pc' := 41) (tgt := 47) hX dX12_holders_38 rfl (by decide) ⟨by omega, by omega⟩ (fun c68 => ?_) (fun c68 => ?_)
            · exact J_47_34 x2 s49 (by omega) (by omega) hI52 hF65
            · exact J_41_42 s49 hI52 hF65
  exact L_4_10 _ 0 0 σ (by omega) (by omega) (by omega) (by omega) hI hF (Nat.lt_succ_self _)

set_option maxRecDepth 100000 in
set_option maxHeartbeats 2000000 in
theorem zc_X12_qTold_Q (l : Launch) (E : zEN) (σ : zSto) (hI : zInv σ) (a1_ : Int) (ha1_ : 0 ≤ a1_ ∧ a1_ ≤ 9) (hpre0 : zt σ = 1) : zCt l E yX12_qTold cX12_qTold 4 (some .long) 3 zNC zNC 0 0 σ [.ref (E.1 + 164), .int (zI a1_)] (fun r σ' => zInv σ' ∧ zOn zQ8 σ σ' ∧ -9223372036854775808 ≤ r ∧ r ≤ 9223372036854775807) := by
  refine zCt_of2 [some (.ref (E.1 + 164)), some (.int (zI a1_)), none, none] (by decide +kernel) (Nat.le_of_ble_eq_true rfl) rfl ?_
  intro X hE hX hR hL hN
  subst hE
  have hX : zok X cX12_qTold RX12 3 := hX
  have hF := zOn_rf zQ8 σ
  have b1 := zv_46_103 hI zc_164
  have b2 := zv_46_97 hI zc_164
  refine zt_aload_n (pc' := 1) hX dX12_qTold_0 rfl rfl ?_
  refine zt_iconst (pc' := 2) hX dX12_qTold_1 rfl ?_
  refine zt_put (pc' := 5) (x := 0) hX dX12_qTold_2 rfl zf_X12_398 (by decide) zc_164 zs_46 (fun q hq => by cases hq; rfl) rfl rfl rfl ?_
  generalize hs4 : zset σ 164 103 0 = s3
  have hI5 : zInv s3 := hs4 ▸ zp_46_103 hI zc_164 ⟨by omega, by omega⟩
  have hF6 : zOn zQ8 σ s3 := hs4 ▸ zOn_set hF (by decide)
  obtain ⟨-, w8, w9, w10, -, -, w13, -⟩ := zE_set hs4 (by decide)
  have e15 : s3 164 103 = 0 := by rw [← hs4]; exact zset_s
  have e16 : s3 164 97 = σ 164 97 := by rw [← hs4]; exact zset_j (by decide)
  refine zt_iconst (pc' := 6) hX dX12_qTold_5 rfl ?_
  refine zt_istore_n (pc' := 7) (lv' := [some (.ref (X.1.1 + 164)), some (.int (zI a1_)), some (.int (zI 0)), none]) hX dX12_qTold_6 rfl hL (by decide) rfl ?_
  have h17 := zHk_0 σ
  have L_7_26 : ∀ (N : Nat) (x18 : Int) (s21 : zSto), 0 ≤ x18 → x18 ≤ 1700 → zInv s21 → zOn zQ8 σ s21 → (zHk σ x18 ≤ s21 164 103 ∧ s21 164 103 ≤ x18) → x18 ≤ 1700 → s21 164 97 = σ 164 97 → ((1701 - x18).toNat) < N → zF X s21 7 [some (.ref (X.1.1 + 164)), some (.int (zI a1_)), some (.int (zI x18)), none] [] := by
    intro N
    induction N with
    | zero =>
      intro x18 s21 h19 h20 hI22 hF23 g24 g25 g26 hm28
      exact absurd hm28 (Nat.not_lt_zero _)
    | succ N ih29 =>
      intro x18 s21 h19 h20 hI22 hF23 g24 g25 g26 hm28
      have b30 := zv_46_103 hI22 zc_164
      have b31 := zv_46_97 hI22 zc_164
      refine zt_iload_n (pc' := 8) hX dX12_qTold_7 rfl rfl ?_
      refine zt_aload_n (pc' := 9) hX dX12_qTold_8 rfl rfl ?_
      have b32 := zv_46_97 hI22 zc_164
      refine zt_get (pc' := 12) (v := .int (zI (s21 164 97))) hX dX12_qTold_9 rfl zf_X12_330 (by decide) zc_164 zs_46 rfl ?_
      refine zt_icge (pc' := 15) (tgt := 168) hX dX12_qTold_12 rfl (by decide) ⟨by omega, by omega⟩ ⟨by omega, by omega⟩ (fun c33 => ?_) (fun c33 => ?_)
      · refine zt_aload_n (pc' := 169) hX dX12_qTold_168 rfl rfl ?_
        refine zt_get (pc' := 172) (v := .ref (X.1.1 + 236)) hX dX12_qTold_169 rfl zf_X12_237 (by decide) zc_164 zs_46 (zrf_of (zv_46_102 hI22 zc_164)) ?_
        refine zt_iconst (pc' := 173) hX dX12_qTold_172 rfl ?_
        refine zt_lald (pc' := 174) hX dX12_qTold_173 rfl (by decide) zc_236 zs_118 (by decide) ⟨by omega, by omega⟩ ?_
        rw [show Int.toNat 0 = 0 from rfl]
        have b35 := zv_118 hI22 zc_236 0
        exact zt_lret hX hR dX12_qTold_174 ⟨by omega, by omega⟩ ⟨hI22, hF23, by omega, by omega⟩
      · refine zt_aload_n (pc' := 16) hX dX12_qTold_15 rfl rfl ?_
        refine zt_get (pc' := 19) (v := .ref (X.1.1 + 234)) hX dX12_qTold_16 rfl zf_X12_231 (by decide) zc_164 zs_46 (zrf_of (zv_46_96 hI22 zc_164)) ?_
        refine zt_iload_n (pc' := 20) hX dX12_qTold_19 rfl rfl ?_
        refine zt_iald (pc' := 21) hX dX12_qTold_20 rfl (by decide) zc_234 zs_116 (by decide) ⟨by omega, by omega⟩ ?_
        generalize hv36 : s21 234 (x18.toNat) = v36
        have bv36 : -2147483648 ≤ v36 ∧ v36 ≤ 2147483647 := hv36 ▸ zv_116 hI22 zc_234 _
        have h37a := zqt (σ := σ) hpre0 hF23 hv36 (by omega) (by omega)
        have h37b := zdn v36
        have h37c := zdn2 v36
        refine zt_istore_n (pc' := 22) (lv' := [some (.ref (X.1.1 + 164)), some (.int (zI a1_)), some (.int (zI x18)), some (.int (zI v36))]) hX dX12_qTold_21 rfl hL (by decide) rfl ?_
        refine zt_iload_n (pc' := 23) hX dX12_qTold_22 rfl rfl ?_
        refine zt_sipush (pc' := 26) hX dX12_qTold_23 rfl (by decide) (by decide) ?_
        have J_162_43 : ∀ (s38 : zSto), zInv s38 → zOn zQ8 σ s38 → (zHk σ (x18 + 1) ≤ s38 164 103 ∧ s38 164 103 ≤ x18 + 1) → x18 < 1700 → s38 164 97 = σ 164 97 → zF X s38 162 [some (.ref (X.1.1 + 164)), some (.int (zI a1_)), some (.int (zI x18)), none] [] := by
          intro s38 hI39 hF40 g41 g42 g43
          have b45 := zv_46_103 hI39 zc_164
          have b46 := zv_46_97 hI39 zc_164
          refine zt_iinc (pc' := 165) (lv' := [some (.ref (X.1.1 + 164)), some (.int (zI a1_)), some (.int (zI (x18 + 1))), none]) hX dX12_qTold_162 rfl rfl hL (by decide) rfl ?_
          refine zt_goto (tgt := 7) hX dX12_qTold_165 (by decide) ?_
          exact ih29 (x18 + 1) s38 (by omega) (by omega) hI39 hF40 (by omega) (by omega) (by omega) (by omega)
        refine zt_iclt (pc' := 29) (tgt := 42) hX dX12_qTold_26 rfl (by decide) ⟨by omega, by omega⟩ ⟨by omega, by omega⟩ (fun c47 => ?_) (fun c47 => ?_)
        · refine zt_iload_n (pc' := 43) hX dX12_qTold_42 rfl rfl ?_
          refine zt_bipush (pc' := 45) hX dX12_qTold_43 rfl (by decide) (by decide) ?_
          refine zt_iclt (pc' := 48) (tgt := 85) hX dX12_qTold_45 rfl (by decide) ⟨by omega, by omega⟩ ⟨by omega, by omega⟩ (fun c48 => ?_) (fun c48 => ?_)
          · refine zt_iload_n (pc' := 86) hX dX12_qTold_85 rfl rfl ?_
            refine zt_bipush (pc' := 88) hX dX12_qTold_86 rfl (by decide) (by decide) ?_
            refine zt_iclt (pc' := 91) (tgt := 110) hX dX12_qTold_88 rfl (by decide) ⟨by omega, by omega⟩ ⟨by omega, by omega⟩ (fun c49 => ?_) (fun c49 => ?_)
            · refine zt_iload_n (pc' := 111) hX dX12_qTold_110 rfl rfl ?_
              refine zt_bipush (pc' := 113) hX dX12_qTold_111 rfl (by decide) (by decide) ?_
              refine zt_icne (pc' := 116) (tgt := 124) hX dX12_qTold_113 rfl (by decide) ⟨by omega, by omega⟩ ⟨by omega, by omega⟩ (fun c50 => ?_) (fun c50 => ?_)
              · refine zt_iload_n (pc' := 125) hX dX12_qTold_124 rfl rfl ?_
                refine zt_bipush (pc' := 127) hX dX12_qTold_125 rfl (by decide) (by decide) ?_
                refine zt_icne (pc' := 130) (tgt := 157) hX dX12_qTold_127 rfl (by decide) ⟨by omega, by omega⟩ ⟨by omega, by omega⟩ (fun c51 => ?_) (fun c51 => ?_)
                · refine zt_aload_n (pc' := 158) hX dX12_qTold_157 rfl rfl ?_
                  refine zt_iload_n (pc' := 159) hX dX12_qTold_158 rfl rfl ?_
                  refine zt_cVv (pc' := 162) hX dX12_qTold_159 rfl zm_yX12_qJoins zw_40_7 zc_164 (by decide) zs_46 (q := (RX12, TX12, 108)) rfl rfl (zc_X12_qJoins_Q _ _ s21 hI22 v36 ⟨by omega, by omega⟩ (by omega)) rfl rfl (Nat.le_of_ble_eq_true rfl) (by decide) (fun r52 s53 hr54 hp55 => ?_)
                  obtain ⟨hI56, hF57, z58⟩ := hp55
                  obtain ⟨-, w60, w61, w62, -, -, w65, -⟩ := zE_q8 hF57
                  have e67 := hF57 164 97 rfl
                  have hF68 := zOn_tr hF23 hF57 zi_id
                  have b69 := zv_46_103 hI56 zc_164
                  have b70 := zv_46_97 hI56 zc_164
                  refine zt_mask [true, true, true, false] rfl ?_
                  exact J_162_43 s53 hI56 hF68 (by omega) (by omega) (by omega)
                · refine zt_aload_n (pc' := 131) hX dX12_qTold_130 rfl rfl ?_
                  refine zt_get (pc' := 134) (v := .ref (X.1.1 + 236)) hX dX12_qTold_131 rfl zf_X12_237 (by decide) zc_164 zs_46 (zrf_of (zv_46_102 hI22 zc_164)) ?_
                  refine zt_aload_n (pc' := 135) hX dX12_qTold_134 rfl rfl ?_
                  have b71 := zv_46_103 hI22 zc_164
                  refine zt_get (pc' := 138) (v := .int (zI (s21 164 103))) hX dX12_qTold_135 rfl zf_X12_398 (by decide) zc_164 zs_46 rfl ?_
                  refine zt_iconst (pc' := 139) hX dX12_qTold_138 rfl ?_
                  refine zt_isub (pc' := 140) hX dX12_qTold_139 rfl ?_
                  refine zt_lconst (pc' := 141) (y := 1) hX dX12_qTold_140 rfl (by decide +kernel) ?_
                  refine zt_aload_n (pc' := 142) hX dX12_qTold_141 rfl rfl ?_
                  refine zt_get (pc' := 145) (v := .ref (X.1.1 + 236)) hX dX12_qTold_142 rfl zf_X12_237 (by decide) zc_164 zs_46 (zrf_of (zv_46_102 hI22 zc_164)) ?_
                  refine zt_aload_n (pc' := 146) hX dX12_qTold_145 rfl rfl ?_
                  refine zt_get (pc' := 149) (v := .int (zI (s21 164 103))) hX dX12_qTold_146 rfl zf_X12_398 (by decide) zc_164 zs_46 rfl ?_
                  refine zt_iconst (pc' := 150) hX dX12_qTold_149 rfl ?_
                  refine zt_isub (pc' := 151) hX dX12_qTold_150 rfl ?_
                  refine zt_lald (pc' := 152) hX dX12_qTold_151 rfl (by decide) zc_236 zs_118 (by decide) ⟨by omega, by omega⟩ ?_
                  generalize hv72 : s21 236 (((s21 164 103) - 1).toNat) = v72
                  have bv72 : -9223372036854775808 ≤ v72 ∧ v72 ≤ 9223372036854775807 := hv72 ▸ zv_118 hI22 zc_236 _
                  refine zt_lsub (pc' := 153) hX dX12_qTold_152 rfl ?_
                  refine zt_wrapl (fun r73 zr73 lr73 ur73 => ?_)
                  clear zr73
                  refine zt_last (pc' := 154) hX dX12_qTold_153 rfl (by decide) zc_236 zs_118 (by decide) ⟨by omega, by omega⟩ ?_
                  generalize hs75 : zset s21 236 (((s21 164 103) - 1).toNat) r73 = s74
                  have hI76 : zInv s74 := hs75 ▸ zp_118 hI22 zc_236 (((s21 164 103) - 1).toNat) ⟨by omega, by omega⟩
                  have hF77 : zOn zQ8 σ s74 := hs75 ▸ zOn_set hF23 (zq8_236 (by omega))
                  obtain ⟨-, w79, w80, w81, -, -, w84, -⟩ := zE_setk hs75 (by decide)
                  have e86 : s74 164 103 = s21 164 103 := by rw [← hs75]; exact zset_k (zne_r zc_164 zc_236 (by decide))
                  have e87 : s74 164 97 = s21 164 97 := by rw [← hs75]; exact zset_k (zne_r zc_164 zc_236 (by decide))
                  refine zt_goto (tgt := 162) hX dX12_qTold_154 (by decide) ?_
                  refine zt_mask [true, true, true, false] rfl ?_
                  exact J_162_43 s74 hI76 hF77 (by omega) (by omega) (by omega)
              · refine zt_aload_n (pc' := 117) hX dX12_qTold_116 rfl rfl ?_
                refine zt_lconst (pc' := 118) (y := 1) hX dX12_qTold_117 rfl (by decide +kernel) ?_
                refine zt_cVv (pc' := 121) hX dX12_qTold_118 rfl zm_yX12_qPuts zw_39_1 zc_164 (by decide) zs_46 (q := (RX12, TX12, 108)) rfl rfl (zc_X12_qPuts_Q _ _ s21 hI22 1 ⟨by omega, by omega⟩ (by omega)) rfl rfl (Nat.le_of_ble_eq_true rfl) (by decide) (fun r88 s89 hr90 hp91 => ?_)
                obtain ⟨hI92, hF93, z94⟩ := hp91
                obtain ⟨-, w96, w97, w98, -, -, w101, -⟩ := zE_q8 hF93
                have e103 := hF93 164 97 rfl
                have hF104 := zOn_tr hF23 hF93 zi_id
                have b105 := zv_46_103 hI92 zc_164
                have b106 := zv_46_97 hI92 zc_164
                refine zt_goto (tgt := 162) hX dX12_qTold_121 (by decide) ?_
                refine zt_mask [true, true, true, false] rfl ?_
                exact J_162_43 s89 hI92 hF104 (by omega) (by omega) (by omega)
            · refine zt_aload_n (pc' := 92) hX dX12_qTold_91 rfl rfl ?_
              refine zt_aload_n (pc' := 93) hX dX12_qTold_92 rfl rfl ?_
              refine zt_iload_n (pc' := 94) hX dX12_qTold_93 rfl rfl ?_
              refine zt_bipush (pc' := 96) hX dX12_qTold_94 rfl (by decide) (by decide) ?_
              refine zt_isub (pc' := 97) hX dX12_qTold_96 rfl ?_
              refine zt_iload_n (pc' := 98) hX dX12_qTold_97 rfl rfl ?_
              refine zt_cVl (pc' := 101) hX dX12_qTold_98 rfl zm_yX12_qPartOf zw_39_5 zc_164 (by decide) zs_46 (q := (RX12, TX12, 108)) rfl rfl (zc_X12_qPartOf _ _ s21 hI22 (v36 - 40) ⟨by omega, by omega⟩ a1_ ⟨by omega, by omega⟩) rfl rfl (Nat.le_of_ble_eq_true rfl) (by decide) (fun r107 s108 hr109 hp110 => ?_)
              obtain ⟨rfl, q111, q112⟩ := hp110
              refine zt_cSl (pc' := 104) hX dX12_qTold_101 rfl zm_yX12_qClip zw_40_11 (zc_X12_qClip _ _ s21  r107 ⟨by omega, by omega⟩) rfl rfl (Nat.le_of_ble_eq_true rfl) (by decide) (fun r113 s114 hr115 hp116 => ?_)
              obtain ⟨rfl, q117, q118⟩ := hp116
              refine zt_cVv (pc' := 107) hX dX12_qTold_104 rfl zm_yX12_qPuts zw_39_1 zc_164 (by decide) zs_46 (q := (RX12, TX12, 108)) rfl rfl (zc_X12_qPuts_Q _ _ s21 hI22 r113 ⟨by omega, by omega⟩ (by omega)) rfl rfl (Nat.le_of_ble_eq_true rfl) (by decide) (fun r119 s120 hr121 hp122 => ?_)
              obtain ⟨hI123, hF124, z125⟩ := hp122
              obtain ⟨-, w127, w128, w129, -, -, w132, -⟩ := zE_q8 hF124
              have e134 := hF124 164 97 rfl
              have hF135 := zOn_tr hF23 hF124 zi_id
              have b136 := zv_46_103 hI123 zc_164
              have b137 := zv_46_97 hI123 zc_164
              refine zt_goto (tgt := 162) hX dX12_qTold_107 (by decide) ?_
              refine zt_mask [true, true, true, false] rfl ?_
              exact J_162_43 s120 hI123 hF135 (by omega) (by omega) (by omega)
          · refine zt_aload_n (pc' := 49) hX dX12_qTold_48 rfl rfl ?_
            refine zt_get (pc' := 52) (v := .ref (X.1.1 + 236)) hX dX12_qTold_49 rfl zf_X12_237 (by decide) zc_164 zs_46 (zrf_of (zv_46_102 hI22 zc_164)) ?_
            refine zt_aload_n (pc' := 53) hX dX12_qTold_52 rfl rfl ?_
            have b138 := zv_46_103 hI22 zc_164
            refine zt_get (pc' := 56) (v := .int (zI (s21 164 103))) hX dX12_qTold_53 rfl zf_X12_398 (by decide) zc_164 zs_46 rfl ?_
            refine zt_iconst (pc' := 57) hX dX12_qTold_56 rfl ?_
            refine zt_isub (pc' := 58) hX dX12_qTold_57 rfl ?_
            refine zt_aload_n (pc' := 59) hX dX12_qTold_58 rfl rfl ?_
            refine zt_iload_n (pc' := 60) hX dX12_qTold_59 rfl rfl ?_
            refine zt_bipush (pc' := 62) hX dX12_qTold_60 rfl (by decide) (by decide) ?_
            refine zt_isub (pc' := 63) hX dX12_qTold_62 rfl ?_
            refine zt_aload_n (pc' := 64) hX dX12_qTold_63 rfl rfl ?_
            refine zt_get (pc' := 67) (v := .ref (X.1.1 + 236)) hX dX12_qTold_64 rfl zf_X12_237 (by decide) zc_164 zs_46 (zrf_of (zv_46_102 hI22 zc_164)) ?_
            refine zt_aload_n (pc' := 68) hX dX12_qTold_67 rfl rfl ?_
            refine zt_get (pc' := 71) (v := .int (zI (s21 164 103))) hX dX12_qTold_68 rfl zf_X12_398 (by decide) zc_164 zs_46 rfl ?_
            refine zt_iconst (pc' := 72) hX dX12_qTold_71 rfl ?_
            refine zt_isub (pc' := 73) hX dX12_qTold_72 rfl ?_
            refine zt_lald (pc' := 74) hX dX12_qTold_73 rfl (by decide) zc_236 zs_118 (by decide) ⟨by omega, by omega⟩ ?_
            generalize hv139 : s21 236 (((s21 164 103) - 1).toNat) = v139
            have bv139 : -9223372036854775808 ≤ v139 ∧ v139 ≤ 9223372036854775807 := hv139 ▸ zv_118 hI22 zc_236 _
            refine zt_iload_n (pc' := 75) hX dX12_qTold_74 rfl rfl ?_
            refine zt_cVl (pc' := 78) hX dX12_qTold_75 rfl zm_yX12_qOf zw_67_2 zc_164 (by decide) zs_46 (q := (RX12, TX12, 108)) rfl rfl (zc_X12_qOf _ _ s21 hI22 (v36 - 60) ⟨by omega, by omega⟩ v139 ⟨by omega, by omega⟩ a1_ ⟨by omega, by omega⟩) rfl rfl (Nat.le_of_ble_eq_true rfl) (by decide) (fun r140 s141 hr142 hp143 => ?_)
            obtain ⟨rfl, q144, q145⟩ := hp143
            refine zt_cSl (pc' := 81) hX dX12_qTold_78 rfl zm_yX12_qClip zw_40_11 (zc_X12_qClip _ _ s21  r140 ⟨by omega, by omega⟩) rfl rfl (Nat.le_of_ble_eq_true rfl) (by decide) (fun r146 s147 hr148 hp149 => ?_)
            obtain ⟨rfl, q150, q151⟩ := hp149
            refine zt_last (pc' := 82) hX dX12_qTold_81 rfl (by decide) zc_236 zs_118 (by decide) ⟨by omega, by omega⟩ ?_
            generalize hs153 : zset s21 236 (((s21 164 103) - 1).toNat) r146 = s152
            have hI154 : zInv s152 := hs153 ▸ zp_118 hI22 zc_236 (((s21 164 103) - 1).toNat) ⟨by omega, by omega⟩
            have hF155 : zOn zQ8 σ s152 := hs153 ▸ zOn_set hF23 (zq8_236 (by omega))
            obtain ⟨-, w157, w158, w159, -, -, w162, -⟩ := zE_setk hs153 (by decide)
            have e164 : s152 164 103 = s21 164 103 := by rw [← hs153]; exact zset_k (zne_r zc_164 zc_236 (by decide))
            have e165 : s152 164 97 = s21 164 97 := by rw [← hs153]; exact zset_k (zne_r zc_164 zc_236 (by decide))
            refine zt_goto (tgt := 162) hX dX12_qTold_82 (by decide) ?_
            refine zt_mask [true, true, true, false] rfl ?_
            exact J_162_43 s152 hI154 hF155 (by omega) (by omega) (by omega)
        · refine zt_aload_n (pc' := 30) hX dX12_qTold_29 rfl rfl ?_
          refine zt_iload_n (pc' := 31) hX dX12_qTold_30 rfl rfl ?_
          refine zt_sipush (pc' := 34) hX dX12_qTold_31 rfl (by decide) (by decide) ?_
          refine zt_isub (pc' := 35) hX dX12_qTold_34 rfl ?_
          refine zt_i2l (pc' := 36) hX dX12_qTold_35 rfl ⟨by omega, by omega⟩ ?_
          refine zt_cVv (pc' := 39) hX dX12_qTold_36 rfl zm_yX12_qPuts zw_39_1 zc_164 (by decide) zs_46 (q := (RX12, TX12, 108)) rfl rfl (zc_X12_qPuts_Q _ _ s21 hI22 (v36 - 1000) ⟨by omega, by omega⟩ (by omega)) rfl rfl (Nat.le_of_ble_eq_true rfl) (by decide) (fun r166 s167 hr168 hp169 => ?_)
          obtain ⟨hI170, hF171, z172⟩ := hp169
          obtain ⟨-, w174, w175, w176, -, -, w179, -⟩ := zE_q8 hF171
          have e181 := hF171 164 97 rfl
          have hF182 := zOn_tr hF23 hF171 zi_id
          have b183 := zv_46_103 hI170 zc_164
          have b184 := zv_46_97 hI170 zc_164
          refine zt_goto (tgt := 162) hX dX12_qTold_39 (by decide) ?_
          refine zt_mask [true, true, true, false] rfl ?_
          exact J_162_43 s167 hI170 hF182 (by omega) (by omega) (by omega)
  exact L_7_26 _ 0 s3 (by omega) (by omega) hI5 hF6 (by omega) (by omega) (by omega) (Nat.lt_succ_self _)

set_option maxRecDepth 100000 in
set_option maxHeartbeats 2000000 in
theorem zc_X12_qTakes_Q (l : Launch) (E : zEN) (σ : zSto) (hI : zInv σ) (a1_ : Int) (ha1_ : 0 ≤ a1_ ∧ a1_ ≤ 5) (a2_ : Int) (ha2_ : -9223372036854775808 ≤ a2_ ∧ a2_ ≤ 9223372036854775807) (a3_ : Int) (ha3_ : 0 ≤ a3_ ∧ a3_ ≤ 9) : zCt l E yX12_qTakes cX12_qTakes 6 none 0 zNC zNC 0 0 σ [.ref (E.1 + 164), .int (zI a1_), .long (zJ a2_), .int (zI a3_)] (fun r σ' => zInv σ' ∧ zOn zQ8 σ σ') := by
  refine zCt_of2 [some (.ref (E.1 + 164)), some (.int (zI a1_)), some (.long (zJ a2_)), none, some (.int (zI a3_)), none] (by decide +kernel) (Nat.le_of_ble_eq_true rfl) rfl ?_
  intro X hE hX hR hL hN
  subst hE
  have hX : zok X cX12_qTakes RX12 0 := hX
  have hF := zOn_rf zQ8 σ
  refine zt_iload_n (pc' := 1) hX dX12_qTakes_0 rfl rfl ?_
  refine zt_iconst (pc' := 2) hX dX12_qTakes_1 rfl ?_
  have J_16_3 : ∀ (y1 : Int), 0 ≤ y1 → y1 ≤ 1 → zF X σ 16 [some (.ref (X.1.1 + 164)), some (.int (zI a1_)), some (.long (zJ a2_)), none, some (.int (zI a3_)), none] [.int (zI y1)] := by
    intro y1 h2 h3
    refine zt_istore (pc' := 18) (lv' := [some (.ref (X.1.1 + 164)), some (.int (zI a1_)), some (.long (zJ a2_)), none, some (.int (zI a3_)), some (.int (zI y1))]) hX dX12_qTakes_16 rfl hL (by decide) rfl ?_
    refine zt_iload_n (pc' := 19) hX dX12_qTakes_18 rfl rfl ?_
    have J_55_7 : ∀ (s5 : zSto), zInv s5 → zOn zQ8 σ s5 → zF X s5 55 [some (.ref (X.1.1 + 164)), some (.int (zI a1_)), some (.long (zJ a2_)), none, none, some (.int (zI y1))] [] := by
      intro s5 hI6 hF7
      refine zt_iload_n (pc' := 56) hX dX12_qTakes_55 rfl rfl ?_
      refine zt_iconst (pc' := 57) hX dX12_qTakes_56 rfl ?_
      have J_75_11 : ∀ (s9 : zSto), zInv s9 → zOn zQ8 σ s9 → zF X s9 75 [some (.ref (X.1.1 + 164)), some (.int (zI a1_)), some (.long (zJ a2_)), none, none, none] [] := by
        intro s9 hI10 hF11
        refine zt_iload_n (pc' := 76) hX dX12_qTakes_75 rfl rfl ?_
        refine zt_iconst (pc' := 77) hX dX12_qTakes_76 rfl ?_
        have J_90_15 : ∀ (s13 : zSto), zInv s13 → zOn zQ8 σ s13 → zF X s13 90 [some (.ref (X.1.1 + 164)), some (.int (zI a1_)), some (.long (zJ a2_)), none, none, none] [] := by
          intro s13 hI14 hF15
          refine zt_iload_n (pc' := 91) hX dX12_qTakes_90 rfl rfl ?_
          refine zt_iconst (pc' := 92) hX dX12_qTakes_91 rfl ?_
          have J_133_19 : ∀ (s17 : zSto), zInv s17 → zOn zQ8 σ s17 → zF X s17 133 [some (.ref (X.1.1 + 164)), none, none, none, none, none] [] := by
            intro s17 hI18 hF19
            refine zt_aload_n (pc' := 134) hX dX12_qTakes_133 rfl rfl ?_
            refine zt_iconst (pc' := 135) hX dX12_qTakes_134 rfl ?_
            refine zt_put (pc' := 138) (x := 0) hX dX12_qTakes_135 rfl zf_X12_639 (by decide) zc_164 zs_46 (fun q hq => by cases hq; rfl) rfl (zfit_z (by omega) (by omega)).1 (zfit_z (by omega) (by omega)).2 ?_
            generalize hs22 : zset s17 164 105 0 = s21
            have hI23 : zInv s21 := hs22 ▸ zp_46_105 hI18 zc_164 ⟨by omega, by omega⟩
            have hF24 : zOn zQ8 σ s21 := hs22 ▸ zOn_set hF19 (by decide)
            obtain ⟨-, w26, w27, w28, -, -, w31, -⟩ := zE_set hs22 (by decide)
            exact zt_vret hX hR dX12_qTakes_138 ⟨hI23, hF24⟩
          refine zt_icle (pc' := 95) (tgt := 133) hX dX12_qTakes_92 rfl (by decide) ⟨by omega, by omega⟩ ⟨by omega, by omega⟩ (fun c33 => ?_) (fun c33 => ?_)
          · refine zt_mask [true, false, false, false, false, false] rfl ?_
            exact J_133_19 s13 hI14 hF15
          · refine zt_aload_n (pc' := 96) hX dX12_qTakes_95 rfl rfl ?_
            have b34 := zv_46_105 hI14 zc_164
            refine zt_get (pc' := 99) (v := .int (zI (s13 164 105))) hX dX12_qTakes_96 rfl zf_X12_639 (by decide) zc_164 zs_46 rfl ?_
            have J_128_34 : zF X s13 128 [some (.ref (X.1.1 + 164)), none, some (.long (zJ a2_)), none, none, none] [] := by
              refine zt_aload_n (pc' := 129) hX dX12_qTakes_128 rfl rfl ?_
              refine zt_lload_n (pc' := 130) hX dX12_qTakes_129 rfl rfl ?_
              refine zt_put (pc' := 133) (x := a2_) hX dX12_qTakes_130 rfl zf_X12_634 (by decide) zc_164 zs_46 (fun q hq => by cases hq; rfl) rfl rfl rfl ?_
              generalize hs37 : zset s13 164 104 a2_ = s36
              have hI38 : zInv s36 := hs37 ▸ zp_46_104 hI14 zc_164 ⟨by omega, by omega⟩
              have hF39 : zOn zQ8 σ s36 := hs37 ▸ zOn_set hF15 (by decide)
              obtain ⟨-, w41, w42, w43, -, -, w46, -⟩ := zE_set hs37 (by decide)
              refine zt_mask [true, false, false, false, false, false] rfl ?_
              exact J_133_19 s36 hI38 hF39
            refine zt_ifne (pc' := 102) (tgt := 128) hX dX12_qTakes_99 rfl (by decide) ⟨by omega, by omega⟩ (fun c48 => ?_) (fun c48 => ?_)
            · refine zt_mask [true, false, true, false, false, false] rfl ?_
              exact J_128_34
            · refine zt_iload_n (pc' := 103) hX dX12_qTakes_102 rfl rfl ?_
              refine zt_iconst (pc' := 104) hX dX12_qTakes_103 rfl ?_
              refine zt_icne (pc' := 107) (tgt := 119) hX dX12_qTakes_104 rfl (by decide) ⟨by omega, by omega⟩ ⟨by omega, by omega⟩ (fun c49 => ?_) (fun c49 => ?_)
              · refine zt_lload_n (pc' := 120) hX dX12_qTakes_119 rfl rfl ?_
                refine zt_aload_n (pc' := 121) hX dX12_qTakes_120 rfl rfl ?_
                have b50 := zv_46_104 hI14 zc_164
                refine zt_get (pc' := 124) (v := .long (zJ (s13 164 104))) hX dX12_qTakes_121 rfl zf_X12_634 (by decide) zc_164 zs_46 rfl ?_
                refine zt_lcmp (pc' := 125) hX dX12_qTakes_124 rfl ⟨by omega, by omega⟩ ⟨by omega, by omega⟩ (fun r51 er51 => ?_)
                refine zt_ifge (pc' := 128) (tgt := 133) hX dX12_qTakes_125 rfl (by decide) ⟨by omega, by omega⟩ (fun c52 => ?_) (fun c52 => ?_)
                · refine zt_mask [true, false, false, false, false, false] rfl ?_
                  exact J_133_19 s13 hI14 hF15
                · refine zt_mask [true, false, true, false, false, false] rfl ?_
                  exact J_128_34
              · refine zt_lload_n (pc' := 108) hX dX12_qTakes_107 rfl rfl ?_
                refine zt_aload_n (pc' := 109) hX dX12_qTakes_108 rfl rfl ?_
                have b53 := zv_46_104 hI14 zc_164
                refine zt_get (pc' := 112) (v := .long (zJ (s13 164 104))) hX dX12_qTakes_109 rfl zf_X12_634 (by decide) zc_164 zs_46 rfl ?_
                refine zt_lcmp (pc' := 113) hX dX12_qTakes_112 rfl ⟨by omega, by omega⟩ ⟨by omega, by omega⟩ (fun r54 er54 => ?_)
                refine zt_ifle (pc' := 116) (tgt := 133) hX dX12_qTakes_113 rfl (by decide) ⟨by omega, by omega⟩ (fun c55 => ?_) (fun c55 => ?_)
                · refine zt_mask [true, false, false, false, false, false] rfl ?_
                  exact J_133_19 s13 hI14 hF15
                · refine zt_goto (tgt := 128) hX dX12_qTakes_116 (by decide) ?_
                  refine zt_mask [true, false, true, false, false, false] rfl ?_
                  exact J_128_34
        refine zt_icne (pc' := 80) (tgt := 90) hX dX12_qTakes_77 rfl (by decide) ⟨by omega, by omega⟩ ⟨by omega, by omega⟩ (fun c56 => ?_) (fun c56 => ?_)
        · exact J_90_15 s9 hI10 hF11
        · refine zt_aload_n (pc' := 81) hX dX12_qTakes_80 rfl rfl ?_
          refine zt_dup (pc' := 82) hX dX12_qTakes_81 rfl rfl ?_
          have b57 := zv_46_104 hI10 zc_164
          refine zt_get (pc' := 85) (v := .long (zJ (s9 164 104))) hX dX12_qTakes_82 rfl zf_X12_634 (by decide) zc_164 zs_46 rfl ?_
          refine zt_lload_n (pc' := 86) hX dX12_qTakes_85 rfl rfl ?_
          refine zt_ladd (pc' := 87) hX dX12_qTakes_86 rfl ?_
          refine zt_wrapl (fun r58 zr58 lr58 ur58 => ?_)
          clear zr58
          refine zt_put (pc' := 90) (x := r58) hX dX12_qTakes_87 rfl zf_X12_634 (by decide) zc_164 zs_46 (fun q hq => by cases hq; rfl) rfl rfl rfl ?_
          generalize hs60 : zset s9 164 104 r58 = s59
          have hI61 : zInv s59 := hs60 ▸ zp_46_104 hI10 zc_164 ⟨by omega, by omega⟩
          have hF62 : zOn zQ8 σ s59 := hs60 ▸ zOn_set hF11 (by decide)
          obtain ⟨-, w64, w65, w66, -, -, w69, -⟩ := zE_set hs60 (by decide)
          exact J_90_15 s59 hI61 hF62
      refine zt_icne (pc' := 60) (tgt := 75) hX dX12_qTakes_57 rfl (by decide) ⟨by omega, by omega⟩ ⟨by omega, by omega⟩ (fun c71 => ?_) (fun c71 => ?_)
      · refine zt_mask [true, true, true, false, false, false] rfl ?_
        exact J_75_11 s5 hI6 hF7
      · refine zt_iload (pc' := 62) hX dX12_qTakes_60 rfl rfl ?_
        refine zt_ifeq (pc' := 65) (tgt := 75) hX dX12_qTakes_62 rfl (by decide) ⟨by omega, by omega⟩ (fun c72 => ?_) (fun c72 => ?_)
        · refine zt_mask [true, true, true, false, false, false] rfl ?_
          exact J_75_11 s5 hI6 hF7
        · refine zt_aload_n (pc' := 66) hX dX12_qTakes_65 rfl rfl ?_
          refine zt_dup (pc' := 67) hX dX12_qTakes_66 rfl rfl ?_
          have b73 := zv_46_104 hI6 zc_164
          refine zt_get (pc' := 70) (v := .long (zJ (s5 164 104))) hX dX12_qTakes_67 rfl zf_X12_634 (by decide) zc_164 zs_46 rfl ?_
          refine zt_lconst (pc' := 71) (y := 1) hX dX12_qTakes_70 rfl (by decide +kernel) ?_
          refine zt_ladd (pc' := 72) hX dX12_qTakes_71 rfl ?_
          refine zt_wrapl (fun r74 zr74 lr74 ur74 => ?_)
          clear zr74
          refine zt_put (pc' := 75) (x := r74) hX dX12_qTakes_72 rfl zf_X12_634 (by decide) zc_164 zs_46 (fun q hq => by cases hq; rfl) rfl rfl rfl ?_
          generalize hs76 : zset s5 164 104 r74 = s75
          have hI77 : zInv s75 := hs76 ▸ zp_46_104 hI6 zc_164 ⟨by omega, by omega⟩
          have hF78 : zOn zQ8 σ s75 := hs76 ▸ zOn_set hF7 (by decide)
          obtain ⟨-, w80, w81, w82, -, -, w85, -⟩ := zE_set hs76 (by decide)
          refine zt_mask [true, true, true, false, false, false] rfl ?_
          exact J_75_11 s75 hI77 hF78
    have J_48_86 : zF X σ 48 [some (.ref (X.1.1 + 164)), some (.int (zI a1_)), some (.long (zJ a2_)), none, some (.int (zI a3_)), some (.int (zI y1))] [] := by
      refine zt_aload_n (pc' := 49) hX dX12_qTakes_48 rfl rfl ?_
      refine zt_iload (pc' := 51) hX dX12_qTakes_49 rfl rfl ?_
      refine zt_i2l (pc' := 52) hX dX12_qTakes_51 rfl ⟨by omega, by omega⟩ ?_
      refine zt_put (pc' := 55) (x := a3_) hX dX12_qTakes_52 rfl zf_X12_634 (by decide) zc_164 zs_46 (fun q hq => by cases hq; rfl) rfl rfl rfl ?_
      generalize hs89 : zset σ 164 104 a3_ = s88
      have hI90 : zInv s88 := hs89 ▸ zp_46_104 hI zc_164 ⟨by omega, by omega⟩
      have hF91 : zOn zQ8 σ s88 := hs89 ▸ zOn_set hF (by decide)
      obtain ⟨-, w93, w94, w95, -, -, w98, -⟩ := zE_set hs89 (by decide)
      refine zt_mask [true, true, true, false, false, true] rfl ?_
      exact J_55_7 s88 hI90 hF91
    have J_38_99 : zF X σ 38 [some (.ref (X.1.1 + 164)), some (.int (zI a1_)), some (.long (zJ a2_)), none, some (.int (zI a3_)), some (.int (zI y1))] [] := by
      refine zt_iload_n (pc' := 39) hX dX12_qTakes_38 rfl rfl ?_
      refine zt_iconst (pc' := 40) hX dX12_qTakes_39 rfl ?_
      refine zt_icne (pc' := 43) (tgt := 55) hX dX12_qTakes_40 rfl (by decide) ⟨by omega, by omega⟩ ⟨by omega, by omega⟩ (fun c101 => ?_) (fun c101 => ?_)
      · refine zt_mask [true, true, true, false, false, true] rfl ?_
        exact J_55_7 σ hI hF
      · refine zt_iload (pc' := 45) hX dX12_qTakes_43 rfl rfl ?_
        refine zt_ifeq (pc' := 48) (tgt := 55) hX dX12_qTakes_45 rfl (by decide) ⟨by omega, by omega⟩ (fun c102 => ?_) (fun c102 => ?_)
        · refine zt_mask [true, true, true, false, false, true] rfl ?_
          exact J_55_7 σ hI hF
        · exact J_48_86
    refine zt_ifne (pc' := 22) (tgt := 38) hX dX12_qTakes_19 rfl (by decide) ⟨by omega, by omega⟩ (fun c103 => ?_) (fun c103 => ?_)
    · exact J_38_99
    · refine zt_iload (pc' := 24) hX dX12_qTakes_22 rfl rfl ?_
      refine zt_ifeq (pc' := 27) (tgt := 38) hX dX12_qTakes_24 rfl (by decide) ⟨by omega, by omega⟩ (fun c104 => ?_) (fun c104 => ?_)
      · exact J_38_99
      · refine zt_aload_n (pc' := 28) hX dX12_qTakes_27 rfl rfl ?_
        have b105 := zv_46_104 hI zc_164
        refine zt_get (pc' := 31) (v := .long (zJ (σ 164 104))) hX dX12_qTakes_28 rfl zf_X12_634 (by decide) zc_164 zs_46 rfl ?_
        refine zt_ldc2 (pc' := 34) (x := (-1)) hX dX12_qTakes_31 rfl zw_66_15 (by decide +kernel) ?_
        refine zt_lcmp (pc' := 35) hX dX12_qTakes_34 rfl ⟨by omega, by omega⟩ ⟨by omega, by omega⟩ (fun r106 er106 => ?_)
        refine zt_ifeq (pc' := 38) (tgt := 48) hX dX12_qTakes_35 rfl (by decide) ⟨by omega, by omega⟩ (fun c107 => ?_) (fun c107 => ?_)
        · exact J_48_86
        · exact J_38_99
  have J_15_107 : zF X σ 15 [some (.ref (X.1.1 + 164)), some (.int (zI a1_)), some (.long (zJ a2_)), none, some (.int (zI a3_)), none] [] := by
    refine zt_iconst (pc' := 16) hX dX12_qTakes_15 rfl ?_
    exact J_16_3 0 (by omega) (by omega)
  refine zt_icge (pc' := 5) (tgt := 15) hX dX12_qTakes_2 rfl (by decide) ⟨by omega, by omega⟩ ⟨by omega, by omega⟩ (fun c109 => ?_) (fun c109 => ?_)
  · exact J_15_107
  · refine zt_lload_n (pc' := 6) hX dX12_qTakes_5 rfl rfl ?_
    refine zt_lconst (pc' := 7) (y := 1) hX dX12_qTakes_6 rfl (by decide +kernel) ?_
    refine zt_lcmp (pc' := 8) hX dX12_qTakes_7 rfl ⟨by omega, by omega⟩ ⟨by omega, by omega⟩ (fun r110 er110 => ?_)
    refine zt_ifne (pc' := 11) (tgt := 15) hX dX12_qTakes_8 rfl (by decide) ⟨by omega, by omega⟩ (fun c111 => ?_) (fun c111 => ?_)
    · exact J_15_107
    · refine zt_iconst (pc' := 12) hX dX12_qTakes_11 rfl ?_
      refine zt_goto (tgt := 16) hX dX12_qTakes_12 (by decide) ?_
      exact J_16_3 1 (by omega) (by omega)

set_option maxRecDepth 100000 in
set_option maxHeartbeats 2000000 in
theorem zc_X12_ask (l : Launch) (E : zEN) (σ : zSto) (hI : zInv σ) (hW : zWF σ) : zCt l E yX12_ask cX12_ask 3 (some .long) 9 zNC zNC 0 0 σ [.ref (E.1 + 164)] (fun r σ' => zInv σ' ∧ zGN σ σ' ∧ -9223372036854775808 ≤ r ∧ r ≤ 9223372036854775807 ∧ (zwf σ' = 1) ∧ (σ' 164 54 = σ 164 54) ∧ (σ' 164 1 = 0)) := by
  refine zCt_of2 [some (.ref (E.1 + 164)), none, none] (by decide +kernel) (Nat.le_of_ble_eq_true rfl) rfl ?_
  intro X hE hX hR hL hN
  subst hE
  have hX : zok X cX12_ask RX12 9 := hX
  have hF := zGN_rf σ
  have b1 := zv_46_2 hI zc_164
  have b2 := zv_46_3 hI zc_164
  have b3 := zv_46_5 hI zc_164
  have b4 := zv_46_97 hI zc_164
  have b5 := zv_46_99 hI zc_164
  have b6 := zv_46_1 hI zc_164
  refine zt_aload_n (pc' := 1) hX dX12_ask_0 rfl rfl ?_
  have b7 := zv_46_50 hI zc_164
  refine zt_get (pc' := 4) (v := .int (zI (σ 164 50))) hX dX12_ask_1 rfl zf_X12_375 (by decide) zc_164 zs_46 rfl ?_
  refine zt_ifne (pc' := 7) (tgt := 16) hX dX12_ask_4 rfl (by decide) ⟨by omega, by omega⟩ (fun c8 => ?_) (fun c8 => ?_)
  · refine zt_aload_n (pc' := 17) hX dX12_ask_16 rfl rfl ?_
    refine zt_aload_n (pc' := 18) hX dX12_ask_17 rfl rfl ?_
    have b9 := zv_46_1 hI zc_164
    refine zt_get (pc' := 21) (v := .int (zI (σ 164 1))) hX dX12_ask_18 rfl zf_X12_243 (by decide) zc_164 zs_46 rfl ?_
    refine zt_put (pc' := 24) (x := (σ 164 1)) hX dX12_ask_21 rfl zf_X12_255 (by decide) zc_164 zs_46 (fun q hq => by cases hq; rfl) rfl rfl rfl ?_
    generalize hs11 : zset σ 164 3 (σ 164 1) = s10
    have hI12 : zInv s10 := hs11 ▸ zp_46_3 hI zc_164 ⟨by omega, by omega⟩
    have hF13 : zGN σ s10 := hs11 ▸ zGN_set hF zc_164 (by decide) zk_46 (Or.inr (by decide)) (by decide)
    obtain ⟨-, w15, w16, w17, -, -, w20, -⟩ := zE_set hs11 (by decide)
    have e22 : s10 164 2 = σ 164 2 := by rw [← hs11]; exact zset_j (by decide)
    have e23 : s10 164 3 = (σ 164 1) := by rw [← hs11]; exact zset_s
    have e24 : s10 164 5 = σ 164 5 := by rw [← hs11]; exact zset_j (by decide)
    have e25 : s10 164 97 = σ 164 97 := by rw [← hs11]; exact zset_j (by decide)
    have e26 : s10 164 99 = σ 164 99 := by rw [← hs11]; exact zset_j (by decide)
    have e27 : s10 164 1 = σ 164 1 := by rw [← hs11]; exact zset_j (by decide)
    refine zt_aload_n (pc' := 25) hX dX12_ask_24 rfl rfl ?_
    refine zt_iconst (pc' := 26) hX dX12_ask_25 rfl ?_
    refine zt_put (pc' := 29) (x := 0) hX dX12_ask_26 rfl zf_X12_243 (by decide) zc_164 zs_46 (fun q hq => by cases hq; rfl) rfl rfl rfl ?_
    generalize hs29 : zset s10 164 1 0 = s28
    have hI30 : zInv s28 := hs29 ▸ zp_46_1 hI12 zc_164 ⟨by omega, by omega⟩
    have hF31 : zGN σ s28 := hs29 ▸ zGN_set hF13 zc_164 (by decide) zk_46 (Or.inr (by decide)) (by decide)
    obtain ⟨-, w33, w34, w35, -, -, w38, -⟩ := zE_set hs29 (by decide)
    have e40 : s28 164 2 = s10 164 2 := by rw [← hs29]; exact zset_j (by decide)
    have e41 : s28 164 3 = s10 164 3 := by rw [← hs29]; exact zset_j (by decide)
    have e42 : s28 164 5 = s10 164 5 := by rw [← hs29]; exact zset_j (by decide)
    have e43 : s28 164 97 = s10 164 97 := by rw [← hs29]; exact zset_j (by decide)
    have e44 : s28 164 99 = s10 164 99 := by rw [← hs29]; exact zset_j (by decide)
    have e45 : s28 164 1 = 0 := by rw [← hs29]; exact zset_s
    refine zt_aload_n (pc' := 30) hX dX12_ask_29 rfl rfl ?_
    refine zt_iconst (pc' := 31) hX dX12_ask_30 rfl ?_
    refine zt_put (pc' := 34) (x := 0) hX dX12_ask_31 rfl zf_X12_252 (by decide) zc_164 zs_46 (fun q hq => by cases hq; rfl) rfl rfl rfl ?_
    generalize hs47 : zset s28 164 2 0 = s46
    have hI48 : zInv s46 := hs47 ▸ zp_46_2 hI30 zc_164 ⟨by omega, by omega⟩
    have hF49 : zGN σ s46 := hs47 ▸ zGN_set hF31 zc_164 (by decide) zk_46 (Or.inr (by decide)) (by decide)
    obtain ⟨-, w51, w52, w53, -, -, w56, -⟩ := zE_set hs47 (by decide)
    have e58 : s46 164 2 = 0 := by rw [← hs47]; exact zset_s
    have e59 : s46 164 3 = s28 164 3 := by rw [← hs47]; exact zset_j (by decide)
    have e60 : s46 164 5 = s28 164 5 := by rw [← hs47]; exact zset_j (by decide)
    have e61 : s46 164 97 = s28 164 97 := by rw [← hs47]; exact zset_j (by decide)
    have e62 : s46 164 99 = s28 164 99 := by rw [← hs47]; exact zset_j (by decide)
    have e63 : s46 164 1 = s28 164 1 := by rw [← hs47]; exact zset_j (by decide)
    refine zt_aload_n (pc' := 35) hX dX12_ask_34 rfl rfl ?_
    refine zt_iconst (pc' := 36) hX dX12_ask_35 rfl ?_
    refine zt_put (pc' := 39) (x := (-1)) hX dX12_ask_36 rfl zf_X12_266 (by decide) zc_164 zs_46 (fun q hq => by cases hq; rfl) rfl rfl rfl ?_
    generalize hs65 : zset s46 164 4 (-1) = s64
    have hI66 : zInv s64 := hs65 ▸ zp_46_4 hI48 zc_164 ⟨by omega, by omega⟩
    have hF67 : zGN σ s64 := hs65 ▸ zGN_set hF49 zc_164 (by decide) zk_46 (Or.inr (by decide)) (by decide)
    obtain ⟨-, w69, w70, w71, -, -, w74, -⟩ := zE_set hs65 (by decide)
    have e76 : s64 164 2 = s46 164 2 := by rw [← hs65]; exact zset_j (by decide)
    have e77 : s64 164 3 = s46 164 3 := by rw [← hs65]; exact zset_j (by decide)
    have e78 : s64 164 5 = s46 164 5 := by rw [← hs65]; exact zset_j (by decide)
    have e79 : s64 164 97 = s46 164 97 := by rw [← hs65]; exact zset_j (by decide)
    have e80 : s64 164 99 = s46 164 99 := by rw [← hs65]; exact zset_j (by decide)
    have e81 : s64 164 1 = s46 164 1 := by rw [← hs65]; exact zset_j (by decide)
    refine zt_aload_n (pc' := 40) hX dX12_ask_39 rfl rfl ?_
    refine zt_iconst (pc' := 41) hX dX12_ask_40 rfl ?_
    refine zt_put (pc' := 44) (x := 0) hX dX12_ask_41 rfl zf_X12_246 (by decide) zc_164 zs_46 (fun q hq => by cases hq; rfl) rfl rfl rfl ?_
    generalize hs83 : zset s64 164 5 0 = s82
    have hI84 : zInv s82 := hs83 ▸ zp_46_5 hI66 zc_164 ⟨by omega, by omega⟩
    have hF85 : zGN σ s82 := hs83 ▸ zGN_set hF67 zc_164 (by decide) zk_46 (Or.inr (by decide)) (by decide)
    obtain ⟨-, w87, w88, w89, -, -, w92, -⟩ := zE_set hs83 (by decide)
    have e94 : s82 164 2 = s64 164 2 := by rw [← hs83]; exact zset_j (by decide)
    have e95 : s82 164 3 = s64 164 3 := by rw [← hs83]; exact zset_j (by decide)
    have e96 : s82 164 5 = 0 := by rw [← hs83]; exact zset_s
    have e97 : s82 164 97 = s64 164 97 := by rw [← hs83]; exact zset_j (by decide)
    have e98 : s82 164 99 = s64 164 99 := by rw [← hs83]; exact zset_j (by decide)
    have e99 : s82 164 1 = s64 164 1 := by rw [← hs83]; exact zset_j (by decide)
    refine zt_aload_n (pc' := 45) hX dX12_ask_44 rfl rfl ?_
    refine zt_iconst (pc' := 46) hX dX12_ask_45 rfl ?_
    refine zt_put (pc' := 49) (x := (-1)) hX dX12_ask_46 rfl zf_X12_249 (by decide) zc_164 zs_46 (fun q hq => by cases hq; rfl) rfl rfl rfl ?_
    generalize hs101 : zset s82 164 6 (-1) = s100
    have hI102 : zInv s100 := hs101 ▸ zp_46_6 hI84 zc_164 ⟨by omega, by omega⟩
    have hF103 : zGN σ s100 := hs101 ▸ zGN_set hF85 zc_164 (by decide) zk_46 (Or.inr (by decide)) (by decide)
    obtain ⟨-, w105, w106, w107, -, -, w110, -⟩ := zE_set hs101 (by decide)
    have e112 : s100 164 2 = s82 164 2 := by rw [← hs101]; exact zset_j (by decide)
    have e113 : s100 164 3 = s82 164 3 := by rw [← hs101]; exact zset_j (by decide)
    have e114 : s100 164 5 = s82 164 5 := by rw [← hs101]; exact zset_j (by decide)
    have e115 : s100 164 97 = s82 164 97 := by rw [← hs101]; exact zset_j (by decide)
    have e116 : s100 164 99 = s82 164 99 := by rw [← hs101]; exact zset_j (by decide)
    have e117 : s100 164 1 = s82 164 1 := by rw [← hs101]; exact zset_j (by decide)
    refine zt_aload_n (pc' := 50) hX dX12_ask_49 rfl rfl ?_
    refine zt_iconst (pc' := 51) hX dX12_ask_50 rfl ?_
    refine zt_put (pc' := 54) (x := 2) hX dX12_ask_51 rfl zf_X12_304 (by decide) zc_164 zs_46 (fun q hq => by cases hq; rfl) rfl rfl rfl ?_
    generalize hs119 : zset s100 164 51 2 = s118
    have hI120 : zInv s118 := hs119 ▸ zp_46_51 hI102 zc_164 ⟨by omega, by omega⟩
    have hF121 : zGN σ s118 := hs119 ▸ zGN_set hF103 zc_164 (by decide) zk_46 (Or.inr (by decide)) (by decide)
    obtain ⟨-, w123, w124, w125, -, -, w128, -⟩ := zE_set hs119 (by decide)
    have e130 : s118 164 2 = s100 164 2 := by rw [← hs119]; exact zset_j (by decide)
    have e131 : s118 164 3 = s100 164 3 := by rw [← hs119]; exact zset_j (by decide)
    have e132 : s118 164 5 = s100 164 5 := by rw [← hs119]; exact zset_j (by decide)
    have e133 : s118 164 97 = s100 164 97 := by rw [← hs119]; exact zset_j (by decide)
    have e134 : s118 164 99 = s100 164 99 := by rw [← hs119]; exact zset_j (by decide)
    have e135 : s118 164 1 = s100 164 1 := by rw [← hs119]; exact zset_j (by decide)
    refine zt_aload_n (pc' := 55) hX dX12_ask_54 rfl rfl ?_
    refine zt_iconst (pc' := 56) hX dX12_ask_55 rfl ?_
    refine zt_put (pc' := 59) (x := 0) hX dX12_ask_56 rfl zf_X12_330 (by decide) zc_164 zs_46 (fun q hq => by cases hq; rfl) rfl rfl rfl ?_
    generalize hs137 : zset s118 164 97 0 = s136
    have hI138 : zInv s136 := hs137 ▸ zp_46_97 hI120 zc_164 ⟨by omega, by omega⟩
    have hF139 : zGN σ s136 := hs137 ▸ zGN_set hF121 zc_164 (by decide) zk_46 (Or.inr (by decide)) (by decide)
    have e140 : s136 164 2 = s118 164 2 := by rw [← hs137]; exact zset_j (by decide)
    have e141 : s136 164 3 = s118 164 3 := by rw [← hs137]; exact zset_j (by decide)
    have e142 : s136 164 5 = s118 164 5 := by rw [← hs137]; exact zset_j (by decide)
    have e143 : s136 164 97 = 0 := by rw [← hs137]; exact zset_s
    have e144 : s136 164 99 = s118 164 99 := by rw [← hs137]; exact zset_j (by decide)
    have e145 : s136 164 1 = s118 164 1 := by rw [← hs137]; exact zset_j (by decide)
    refine zt_aload_n (pc' := 60) hX dX12_ask_59 rfl rfl ?_
    refine zt_iconst (pc' := 61) hX dX12_ask_60 rfl ?_
    refine zt_put (pc' := 64) (x := 0) hX dX12_ask_61 rfl zf_X12_333 (by decide) zc_164 zs_46 (fun q hq => by cases hq; rfl) rfl rfl rfl ?_
    generalize hs147 : zset s136 164 99 0 = s146
    have hI148 : zInv s146 := hs147 ▸ zp_46_99 hI138 zc_164 ⟨by omega, by omega⟩
    have hF149 : zGN σ s146 := hs147 ▸ zGN_set hF139 zc_164 (by decide) zk_46 (Or.inr (by decide)) (by decide)
    have e150 : s146 164 2 = s136 164 2 := by rw [← hs147]; exact zset_j (by decide)
    have e151 : s146 164 3 = s136 164 3 := by rw [← hs147]; exact zset_j (by decide)
    have e152 : s146 164 5 = s136 164 5 := by rw [← hs147]; exact zset_j (by decide)
    have e153 : s146 164 97 = s136 164 97 := by rw [← hs147]; exact zset_j (by decide)
    have e154 : s146 164 99 = 0 := by rw [← hs147]; exact zset_s
    have e155 : s146 164 1 = s136 164 1 := by rw [← hs147]; exact zset_j (by decide)
    refine zt_aload_n (pc' := 65) hX dX12_ask_64 rfl rfl ?_
    refine zt_iconst (pc' := 66) hX dX12_ask_65 rfl ?_
    refine zt_put (pc' := 69) (x := 0) hX dX12_ask_66 rfl zf_X12_336 (by decide) zc_164 zs_46 (fun q hq => by cases hq; rfl) rfl rfl rfl ?_
    generalize hs157 : zset s146 164 100 0 = s156
    have hI158 : zInv s156 := hs157 ▸ zp_46_100 hI148 zc_164 ⟨by omega, by omega⟩
    have hF159 : zGN σ s156 := hs157 ▸ zGN_set hF149 zc_164 (by decide) zk_46 (Or.inr (by decide)) (by decide)
    obtain ⟨-, w161, w162, w163, -, -, w166, -⟩ := zE_set hs157 (by decide)
    have e168 : s156 164 2 = s146 164 2 := by rw [← hs157]; exact zset_j (by decide)
    have e169 : s156 164 3 = s146 164 3 := by rw [← hs157]; exact zset_j (by decide)
    have e170 : s156 164 5 = s146 164 5 := by rw [← hs157]; exact zset_j (by decide)
    have e171 : s156 164 97 = s146 164 97 := by rw [← hs157]; exact zset_j (by decide)
    have e172 : s156 164 99 = s146 164 99 := by rw [← hs157]; exact zset_j (by decide)
    have e173 : s156 164 1 = s146 164 1 := by rw [← hs157]; exact zset_j (by decide)
    refine zt_aload_n (pc' := 70) hX dX12_ask_69 rfl rfl ?_
    refine zt_iconst (pc' := 71) hX dX12_ask_70 rfl ?_
    refine zt_put (pc' := 74) (x := 0) hX dX12_ask_71 rfl zf_X12_339 (by decide) zc_164 zs_46 (fun q hq => by cases hq; rfl) rfl rfl rfl ?_
    generalize hs175 : zset s156 164 101 0 = s174
    have hI176 : zInv s174 := hs175 ▸ zp_46_101 hI158 zc_164 ⟨by omega, by omega⟩
    have hF177 : zGN σ s174 := hs175 ▸ zGN_set hF159 zc_164 (by decide) zk_46 (Or.inr (by decide)) (by decide)
    have e178 : s174 164 2 = s156 164 2 := by rw [← hs175]; exact zset_j (by decide)
    have e179 : s174 164 3 = s156 164 3 := by rw [← hs175]; exact zset_j (by decide)
    have e180 : s174 164 5 = s156 164 5 := by rw [← hs175]; exact zset_j (by decide)
    have e181 : s174 164 97 = s156 164 97 := by rw [← hs175]; exact zset_j (by decide)
    have e182 : s174 164 99 = s156 164 99 := by rw [← hs175]; exact zset_j (by decide)
    have e183 : s174 164 1 = s156 164 1 := by rw [← hs175]; exact zset_j (by decide)
    have h184 := zt_0 (s := s174) (by omega) (by omega)
    refine zt_aload_n (pc' := 75) hX dX12_ask_74 rfl rfl ?_
    refine zt_cVi (pc' := 78) hX dX12_ask_75 rfl zm_yX12_qKind zw_66_18 zc_164 (by decide) zs_46 (q := (RX12, TX12, 108)) rfl rfl (zc_X12_qKind _ _ s174 hI176 (by omega)) rfl rfl (Nat.le_of_ble_eq_true rfl) (by decide) (fun r185 s186 hr187 hp188 => ?_)
    obtain ⟨hI189, hF190, q191, q192, z193, z194⟩ := hp188
    obtain ⟨-, w196, w197, w198, -, -, w201, -⟩ := zE_q1 hF190
    have e203 := hF190 164 3 rfl
    have e204 := hF190 164 97 rfl
    have e205 := hF190 164 99 rfl
    have e206 := hF190 164 1 rfl
    have hF207 := zGN_tr hF177 (zOn_GN (zOn_up hF190 zi_13))
    have b208 := zv_46_2 hI189 zc_164
    have b209 := zv_46_3 hI189 zc_164
    have b210 := zv_46_5 hI189 zc_164
    have b211 := zv_46_97 hI189 zc_164
    have b212 := zv_46_99 hI189 zc_164
    have b213 := zv_46_1 hI189 zc_164
    replace z193 : _ ∧ _ := ⟨z193.1, z193.2 (by omega)⟩
    refine zt_istore_n (pc' := 79) (lv' := [some (.ref (X.1.1 + 164)), some (.int (zI r185)), none]) hX dX12_ask_78 rfl hL (by decide) rfl ?_
    refine zt_aload_n (pc' := 80) hX dX12_ask_79 rfl rfl ?_
    have b214 := zv_46_5 hI189 zc_164
    refine zt_get (pc' := 83) (v := .int (zI (s186 164 5))) hX dX12_ask_80 rfl zf_X12_246 (by decide) zc_164 zs_46 rfl ?_
    have J_109_220 : ∀ (s215 : zSto), zInv s215 → zGN σ s215 → s215 164 2 ≤ s215 164 3 → (s215 164 5 = 0 → zt s215 = 1) → s215 164 1 = 0 → zF X s215 109 [some (.ref (X.1.1 + 164)), some (.int (zI r185)), none] [] := by
      clear z194
      intro s215 hI216 hF217 g218 g219 g220
      have b222 := zv_46_2 hI216 zc_164
      have b223 := zv_46_3 hI216 zc_164
      have b224 := zv_46_5 hI216 zc_164
      have b225 := zv_46_97 hI216 zc_164
      have b226 := zv_46_99 hI216 zc_164
      have b227 := zv_46_1 hI216 zc_164
      refine zt_aload_n (pc' := 110) hX dX12_ask_109 rfl rfl ?_
      have b228 := zv_46_5 hI216 zc_164
      refine zt_get (pc' := 113) (v := .int (zI (s215 164 5))) hX dX12_ask_110 rfl zf_X12_246 (by decide) zc_164 zs_46 rfl ?_
      have J_133_233 : ∀ (s229 : zSto), zInv s229 → zGN σ s229 → (s229 164 5 = 0 → zt s229 = 1) → s229 164 1 = 0 → zF X s229 133 [some (.ref (X.1.1 + 164)), some (.int (zI r185)), none] [] := by
        clear g219
        intro s229 hI230 hF231 g232 g233
        have b235 := zv_46_2 hI230 zc_164
        have b236 := zv_46_3 hI230 zc_164
        have b237 := zv_46_5 hI230 zc_164
        have b238 := zv_46_97 hI230 zc_164
        have b239 := zv_46_99 hI230 zc_164
        have b240 := zv_46_1 hI230 zc_164
        refine zt_aload_n (pc' := 134) hX dX12_ask_133 rfl rfl ?_
        refine zt_aload_n (pc' := 135) hX dX12_ask_134 rfl rfl ?_
        have b241 := zv_46_5 hI230 zc_164
        refine zt_get (pc' := 138) (v := .int (zI (s229 164 5))) hX dX12_ask_135 rfl zf_X12_246 (by decide) zc_164 zs_46 rfl ?_
        refine zt_put (pc' := 141) (x := (s229 164 5)) hX dX12_ask_138 rfl zf_X12_369 (by decide) zc_164 zs_46 (fun q hq => by cases hq; rfl) rfl rfl rfl ?_
        generalize hs243 : zset s229 164 7 (s229 164 5) = s242
        have hI244 : zInv s242 := hs243 ▸ zp_46_7 hI230 zc_164 ⟨by omega, by omega⟩
        have hF245 : zGN σ s242 := hs243 ▸ zGN_set hF231 zc_164 (by decide) zk_46 (Or.inr (by decide)) (by decide)
        obtain ⟨-, w247, w248, w249, -, -, w252, -⟩ := zE_set hs243 (by decide)
        have e254 : s242 164 2 = s229 164 2 := by rw [← hs243]; exact zset_j (by decide)
        have e255 : s242 164 3 = s229 164 3 := by rw [← hs243]; exact zset_j (by decide)
        have e256 : s242 164 5 = s229 164 5 := by rw [← hs243]; exact zset_j (by decide)
        have e257 : s242 164 97 = s229 164 97 := by rw [← hs243]; exact zset_j (by decide)
        have e258 : s242 164 99 = s229 164 99 := by rw [← hs243]; exact zset_j (by decide)
        have e259 : s242 164 1 = s229 164 1 := by rw [← hs243]; exact zset_j (by decide)
        refine zt_aload_n (pc' := 142) hX dX12_ask_141 rfl rfl ?_
        refine zt_aload_n (pc' := 143) hX dX12_ask_142 rfl rfl ?_
        have b260 := zv_46_6 hI244 zc_164
        have e261 : s242 164 6 = s229 164 6 := by rw [← hs243]; exact zset_j (by decide)
        refine zt_get (pc' := 146) (v := .int (zI (s242 164 6))) hX dX12_ask_143 rfl zf_X12_249 (by decide) zc_164 zs_46 rfl ?_
        refine zt_put (pc' := 149) (x := (s242 164 6)) hX dX12_ask_146 rfl zf_X12_13 (by decide) zc_164 zs_46 (fun q hq => by cases hq; rfl) rfl rfl rfl ?_
        generalize hs263 : zset s242 164 8 (s242 164 6) = s262
        have hI264 : zInv s262 := hs263 ▸ zp_46_8 hI244 zc_164 ⟨by omega, by omega⟩
        have hF265 : zGN σ s262 := hs263 ▸ zGN_set hF245 zc_164 (by decide) zk_46 (Or.inr (by decide)) (by decide)
        obtain ⟨-, w267, w268, w269, -, -, w272, -⟩ := zE_set hs263 (by decide)
        have e274 : s262 164 2 = s242 164 2 := by rw [← hs263]; exact zset_j (by decide)
        have e275 : s262 164 3 = s242 164 3 := by rw [← hs263]; exact zset_j (by decide)
        have e276 : s262 164 5 = s242 164 5 := by rw [← hs263]; exact zset_j (by decide)
        have e277 : s262 164 97 = s242 164 97 := by rw [← hs263]; exact zset_j (by decide)
        have e278 : s262 164 99 = s242 164 99 := by rw [← hs263]; exact zset_j (by decide)
        have e279 : s262 164 1 = s242 164 1 := by rw [← hs263]; exact zset_j (by decide)
        refine zt_aload_n (pc' := 150) hX dX12_ask_149 rfl rfl ?_
        have b280 := zv_46_5 hI264 zc_164
        refine zt_get (pc' := 153) (v := .int (zI (s262 164 5))) hX dX12_ask_150 rfl zf_X12_246 (by decide) zc_164 zs_46 rfl ?_
        refine zt_ifeq (pc' := 156) (tgt := 160) hX dX12_ask_153 rfl (by decide) ⟨by omega, by omega⟩ (fun c281 => ?_) (fun c281 => ?_)
        · have qg232 := g232 (by omega)
          clear g232
          refine zt_aload_n (pc' := 161) hX dX12_ask_160 rfl rfl ?_
          refine zt_iload_n (pc' := 162) hX dX12_ask_161 rfl rfl ?_
          refine zt_iconst (pc' := 163) hX dX12_ask_162 rfl ?_
          have J_173_284 : ∀ (y282 : Int), -1 ≤ y282 → y282 ≤ 0 → zF X s262 173 [some (.ref (X.1.1 + 164)), some (.int (zI r185)), none] [.long (zJ y282), .ref (X.1.1 + 164)] := by
            intro y282 h283 h284
            refine zt_put (pc' := 176) (x := y282) hX dX12_ask_173 rfl zf_X12_634 (by decide) zc_164 zs_46 (fun q hq => by cases hq; rfl) rfl rfl rfl ?_
            generalize hs287 : zset s262 164 104 y282 = s286
            have hI288 : zInv s286 := hs287 ▸ zp_46_104 hI264 zc_164 ⟨by omega, by omega⟩
            have hF289 : zGN σ s286 := hs287 ▸ zGN_set hF265 zc_164 (by decide) zk_46 (Or.inr (by decide)) (by decide)
            obtain ⟨-, w291, w292, w293, -, -, w296, -⟩ := zE_set hs287 (by decide)
            have e298 : s286 164 2 = s262 164 2 := by rw [← hs287]; exact zset_j (by decide)
            have e299 : s286 164 3 = s262 164 3 := by rw [← hs287]; exact zset_j (by decide)
            have e300 : s286 164 5 = s262 164 5 := by rw [← hs287]; exact zset_j (by decide)
            have e301 : s286 164 97 = s262 164 97 := by rw [← hs287]; exact zset_j (by decide)
            have e302 : s286 164 99 = s262 164 99 := by rw [← hs287]; exact zset_j (by decide)
            have e303 : s286 164 1 = s262 164 1 := by rw [← hs287]; exact zset_j (by decide)
            refine zt_aload_n (pc' := 177) hX dX12_ask_176 rfl rfl ?_
            refine zt_iconst (pc' := 178) hX dX12_ask_177 rfl ?_
            refine zt_put (pc' := 181) (x := 1) hX dX12_ask_178 rfl zf_X12_639 (by decide) zc_164 zs_46 (fun q hq => by cases hq; rfl) rfl (zfit_z (by omega) (by omega)).1 (zfit_z (by omega) (by omega)).2 ?_
            generalize hs305 : zset s286 164 105 1 = s304
            have hI306 : zInv s304 := hs305 ▸ zp_46_105 hI288 zc_164 ⟨by omega, by omega⟩
            have hF307 : zGN σ s304 := hs305 ▸ zGN_set hF289 zc_164 (by decide) zk_46 (Or.inr (by decide)) (by decide)
            obtain ⟨-, w309, w310, w311, -, -, w314, -⟩ := zE_set hs305 (by decide)
            have e316 : s304 164 2 = s286 164 2 := by rw [← hs305]; exact zset_j (by decide)
            have e317 : s304 164 3 = s286 164 3 := by rw [← hs305]; exact zset_j (by decide)
            have e318 : s304 164 5 = s286 164 5 := by rw [← hs305]; exact zset_j (by decide)
            have e319 : s304 164 97 = s286 164 97 := by rw [← hs305]; exact zset_j (by decide)
            have e320 : s304 164 99 = s286 164 99 := by rw [← hs305]; exact zset_j (by decide)
            have e321 : s304 164 1 = s286 164 1 := by rw [← hs305]; exact zset_j (by decide)
            refine zt_aload_n (pc' := 182) hX dX12_ask_181 rfl rfl ?_
            refine zt_aload_n (pc' := 183) hX dX12_ask_182 rfl rfl ?_
            refine zt_cVi (pc' := 186) hX dX12_ask_183 rfl zm_yX12_holders zw_38_12 zc_164 (by decide) zs_46 (q := (RX12, TX12, 108)) rfl rfl (zc_X12_holders_Q _ _ s304 hI306 (zWF_N hW hF307)) rfl rfl (Nat.le_of_ble_eq_true rfl) (by decide) (fun r322 s323 hr324 hp325 => ?_)
            obtain ⟨hI326, hF327, q328, q329⟩ := hp325
            obtain ⟨-, w331, w332, w333, -, -, w336, -⟩ := zE_q8 hF327
            have e338 := hF327 164 2 rfl
            have e339 := hF327 164 3 rfl
            have e340 := hF327 164 5 rfl
            have e341 := hF327 164 97 rfl
            have e342 := hF327 164 99 rfl
            have e343 := hF327 164 1 rfl
            have hF344 := zGN_tr hF307 (zOn_GN8 hF327)
            have b345 := zv_46_2 hI326 zc_164
            have b346 := zv_46_3 hI326 zc_164
            have b347 := zv_46_5 hI326 zc_164
            have b348 := zv_46_97 hI326 zc_164
            have b349 := zv_46_99 hI326 zc_164
            have b350 := zv_46_1 hI326 zc_164
            refine zt_put (pc' := 189) (x := r322) hX dX12_ask_186 rfl zf_X12_627 (by decide) zc_164 zs_46 (fun q hq => by cases hq; rfl) rfl rfl rfl ?_
            generalize hs352 : zset s323 164 56 r322 = s351
            have hI353 : zInv s351 := hs352 ▸ zp_46_56 hI326 zc_164 ⟨by omega, by omega⟩
            have hF354 : zGN σ s351 := hs352 ▸ zGN_set hF344 zc_164 (by decide) zk_46 (Or.inr (by decide)) (by decide)
            obtain ⟨-, w356, w357, w358, -, -, w361, -⟩ := zE_set hs352 (by decide)
            have e363 : s351 164 2 = s323 164 2 := by rw [← hs352]; exact zset_j (by decide)
            have e364 : s351 164 3 = s323 164 3 := by rw [← hs352]; exact zset_j (by decide)
            have e365 : s351 164 5 = s323 164 5 := by rw [← hs352]; exact zset_j (by decide)
            have e366 : s351 164 97 = s323 164 97 := by rw [← hs352]; exact zset_j (by decide)
            have e367 : s351 164 99 = s323 164 99 := by rw [← hs352]; exact zset_j (by decide)
            have e368 : s351 164 1 = s323 164 1 := by rw [← hs352]; exact zset_j (by decide)
            refine zt_aload_n (pc' := 190) hX dX12_ask_189 rfl rfl ?_
            refine zt_iconst (pc' := 191) hX dX12_ask_190 rfl ?_
            refine zt_put (pc' := 194) (x := 2) hX dX12_ask_191 rfl zf_X12_304 (by decide) zc_164 zs_46 (fun q hq => by cases hq; rfl) rfl rfl rfl ?_
            generalize hs370 : zset s351 164 51 2 = s369
            have hI371 : zInv s369 := hs370 ▸ zp_46_51 hI353 zc_164 ⟨by omega, by omega⟩
            have hF372 : zGN σ s369 := hs370 ▸ zGN_set hF354 zc_164 (by decide) zk_46 (Or.inr (by decide)) (by decide)
            obtain ⟨-, w374, w375, w376, -, -, w379, -⟩ := zE_set hs370 (by decide)
            have e381 : s369 164 2 = s351 164 2 := by rw [← hs370]; exact zset_j (by decide)
            have e382 : s369 164 3 = s351 164 3 := by rw [← hs370]; exact zset_j (by decide)
            have e383 : s369 164 5 = s351 164 5 := by rw [← hs370]; exact zset_j (by decide)
            have e384 : s369 164 97 = s351 164 97 := by rw [← hs370]; exact zset_j (by decide)
            have e385 : s369 164 99 = s351 164 99 := by rw [← hs370]; exact zset_j (by decide)
            have e386 : s369 164 1 = s351 164 1 := by rw [← hs370]; exact zset_j (by decide)
            refine zt_iconst (pc' := 195) hX dX12_ask_194 rfl ?_
            refine zt_istore_n (pc' := 196) (lv' := [some (.ref (X.1.1 + 164)), some (.int (zI r185)), some (.int (zI 0))]) hX dX12_ask_195 rfl hL (by decide) rfl ?_
            have L_196_394 : ∀ (N : Nat) (x387 : Int) (s390 : zSto), 0 ≤ x387 → x387 ≤ 10 → zInv s390 → zGN σ s390 → zt s390 = 1 → s390 164 1 = 0 → ((11 - x387).toNat) < N → zF X s390 196 [some (.ref (X.1.1 + 164)), some (.int (zI r185)), some (.int (zI x387))] [] := by
              intro N
              induction N with
              | zero =>
                intro x387 s390 h388 h389 hI391 hF392 g393 g394 hm396
                exact absurd hm396 (Nat.not_lt_zero _)
              | succ N ih397 =>
                intro x387 s390 h388 h389 hI391 hF392 g393 g394 hm396
                have b398 := zv_46_2 hI391 zc_164
                have b399 := zv_46_3 hI391 zc_164
                have b400 := zv_46_5 hI391 zc_164
                have b401 := zv_46_97 hI391 zc_164
                have b402 := zv_46_99 hI391 zc_164
                have b403 := zv_46_1 hI391 zc_164
                refine zt_iload_n (pc' := 197) hX dX12_ask_196 rfl rfl ?_
                refine zt_aload_n (pc' := 198) hX dX12_ask_197 rfl rfl ?_
                refine zt_cVi (pc' := 201) hX dX12_ask_198 rfl zm_yX12_peopleMany zw_38_4 zc_164 (by decide) zs_46 (q := (RX12, TX12, 108)) rfl rfl (zc_X12_peopleMany _ _ s390 hI391 ) rfl rfl (Nat.le_of_ble_eq_true rfl) (by decide) (fun r404 s405 hr406 hp407 => ?_)
                obtain ⟨rfl, q408, q409, z410⟩ := hp407
                refine zt_icge (pc' := 204) (tgt := 221) hX dX12_ask_201 rfl (by decide) ⟨by omega, by omega⟩ ⟨by omega, by omega⟩ (fun c411 => ?_) (fun c411 => ?_)
                · refine zt_aload_n (pc' := 222) hX dX12_ask_221 rfl rfl ?_
                  have b412 := zv_46_104 hI391 zc_164
                  refine zt_get (pc' := 225) (v := .long (zJ (s390 164 104))) hX dX12_ask_222 rfl zf_X12_634 (by decide) zc_164 zs_46 rfl ?_
                  have h413 := zwf_N hW hF392
                  exact zt_lret hX hR dX12_ask_225 ⟨by omega, by omega⟩ ⟨hI391, hF392, by omega, by omega, by omega, by omega, by omega⟩
                · refine zt_aload_n (pc' := 205) hX dX12_ask_204 rfl rfl ?_
                  refine zt_iload_n (pc' := 206) hX dX12_ask_205 rfl rfl ?_
                  refine zt_aload_n (pc' := 207) hX dX12_ask_206 rfl rfl ?_
                  refine zt_iload_n (pc' := 208) hX dX12_ask_207 rfl rfl ?_
                  refine zt_cVl (pc' := 211) hX dX12_ask_208 rfl zm_yX12_qTold zw_66_22 zc_164 (by decide) zs_46 (q := (RX12, TX12, 108)) rfl rfl (zc_X12_qTold_Q _ _ s390 hI391 x387 ⟨by omega, by omega⟩ (by omega)) rfl rfl (Nat.le_of_ble_eq_true rfl) (by decide) (fun r414 s415 hr416 hp417 => ?_)
                  obtain ⟨hI418, hF419, q420, q421⟩ := hp417
                  obtain ⟨-, w423, w424, w425, -, -, w428, -⟩ := zE_q8 hF419
                  have e430 := hF419 164 2 rfl
                  have e431 := hF419 164 3 rfl
                  have e432 := hF419 164 5 rfl
                  have e433 := hF419 164 97 rfl
                  have e434 := hF419 164 99 rfl
                  have e435 := hF419 164 1 rfl
                  have hF436 := zGN_tr hF392 (zOn_GN8 hF419)
                  have b437 := zv_46_2 hI418 zc_164
                  have b438 := zv_46_3 hI418 zc_164
                  have b439 := zv_46_5 hI418 zc_164
                  have b440 := zv_46_97 hI418 zc_164
                  have b441 := zv_46_99 hI418 zc_164
                  have b442 := zv_46_1 hI418 zc_164
                  refine zt_iload_n (pc' := 212) hX dX12_ask_211 rfl rfl ?_
                  refine zt_cVv (pc' := 215) hX dX12_ask_212 rfl zm_yX12_qTakes zw_67_6 zc_164 (by decide) zs_46 (q := (RX12, TX12, 108)) rfl rfl (zc_X12_qTakes_Q _ _ s415 hI418 r185 ⟨by omega, by omega⟩ r414 ⟨by omega, by omega⟩ x387 ⟨by omega, by omega⟩) rfl rfl (Nat.le_of_ble_eq_true rfl) (by decide) (fun r443 s444 hr445 hp446 => ?_)
                  obtain ⟨hI447, hF448⟩ := hp446
                  obtain ⟨-, w450, w451, w452, -, -, w455, -⟩ := zE_q8 hF448
                  have e457 := hF448 164 2 rfl
                  have e458 := hF448 164 3 rfl
                  have e459 := hF448 164 5 rfl
                  have e460 := hF448 164 97 rfl
                  have e461 := hF448 164 99 rfl
                  have e462 := hF448 164 1 rfl
                  have hF463 := zGN_tr hF436 (zOn_GN8 hF448)
                  have b464 := zv_46_2 hI447 zc_164
                  have b465 := zv_46_3 hI447 zc_164
                  have b466 := zv_46_5 hI447 zc_164
                  have b467 := zv_46_97 hI447 zc_164
                  have b468 := zv_46_99 hI447 zc_164
                  have b469 := zv_46_1 hI447 zc_164
                  refine zt_iinc (pc' := 218) (lv' := [some (.ref (X.1.1 + 164)), some (.int (zI r185)), some (.int (zI (x387 + 1)))]) hX dX12_ask_215 rfl rfl hL (by decide) rfl ?_
                  refine zt_goto (tgt := 196) hX dX12_ask_218 (by decide) ?_
                  exact ih397 (x387 + 1) s444 (by omega) (by omega) hI447 hF463 (by omega) (by omega) (by omega)
            exact L_196_394 _ 0 s369 (by omega) (by omega) hI371 hF372 (by omega) (by omega) (Nat.lt_succ_self _)
          refine zt_icge (pc' := 166) (tgt := 172) hX dX12_ask_163 rfl (by decide) ⟨by omega, by omega⟩ ⟨by omega, by omega⟩ (fun c470 => ?_) (fun c470 => ?_)
          · refine zt_lconst (pc' := 173) (y := 0) hX dX12_ask_172 rfl (by decide +kernel) ?_
            exact J_173_284 0 (by omega) (by omega)
          · refine zt_ldc2 (pc' := 169) (x := (-1)) hX dX12_ask_166 rfl zw_66_15 (by decide +kernel) ?_
            refine zt_goto (tgt := 173) hX dX12_ask_169 (by decide) ?_
            exact J_173_284 (-1) (by omega) (by omega)
        · clear g232
          refine zt_ldc2 (pc' := 159) (x := (-1000000000000000)) hX dX12_ask_156 rfl zw_46_2 (by decide +kernel) ?_
          have h471 := zwf_N hW hF265
          exact zt_lret hX hR dX12_ask_159 ⟨by omega, by omega⟩ ⟨hI264, hF265, by omega, by omega, by omega, by omega, by omega⟩
      refine zt_ifne (pc' := 116) (tgt := 133) hX dX12_ask_113 rfl (by decide) ⟨by omega, by omega⟩ (fun c472 => ?_) (fun c472 => ?_)
      · clear g219
        exact J_133_233 s215 hI216 hF217 (fun hb => by omega) (by omega)
      · have qg219 := g219 (by omega)
        clear g219
        refine zt_aload_n (pc' := 117) hX dX12_ask_116 rfl rfl ?_
        refine zt_cVi (pc' := 120) hX dX12_ask_117 rfl zm_yX12_look zw_26_12 zc_164 (by decide) zs_46 (q := (RX12, TX12, 108)) rfl rfl (zc_X12_look _ _ s215 hI216 ) rfl rfl (Nat.le_of_ble_eq_true rfl) (by decide) (fun r473 s474 hr475 hp476 => ?_)
        obtain ⟨hI477, hF478, q479, q480, z481, z482, z483, z484⟩ := hp476
        obtain ⟨-, w486, w487, w488, -, -, w491, -⟩ := zE_q1 hF478
        have e493 := hF478 164 3 rfl
        have e494 := hF478 164 97 rfl
        have e495 := hF478 164 99 rfl
        have e496 := hF478 164 1 rfl
        have hF497 := zGN_tr hF217 (zOn_GN (zOn_up hF478 zi_13))
        have b498 := zv_46_2 hI477 zc_164
        have b499 := zv_46_3 hI477 zc_164
        have b500 := zv_46_5 hI477 zc_164
        have b501 := zv_46_97 hI477 zc_164
        have b502 := zv_46_99 hI477 zc_164
        have b503 := zv_46_1 hI477 zc_164
        clear z484
        replace z481 : _ ∧ _ := ⟨z481.1, z481.2 (by omega)⟩
        refine zt_iconst (pc' := 121) hX dX12_ask_120 rfl ?_
        refine zt_iceq (pc' := 124) (tgt := 133) hX dX12_ask_121 rfl (by decide) ⟨by omega, by omega⟩ ⟨by omega, by omega⟩ (fun c504 => ?_) (fun c504 => ?_)
        · clear z482
          exact J_133_233 s474 hI477 hF497 (fun hb => by omega) (by omega)
        · have qz482 := z482 (by omega)
          clear z482
          refine zt_aload_n (pc' := 125) hX dX12_ask_124 rfl rfl ?_
          refine zt_iconst (pc' := 126) hX dX12_ask_125 rfl ?_
          refine zt_aload_n (pc' := 127) hX dX12_ask_126 rfl rfl ?_
          have b505 := zv_46_2 hI477 zc_164
          refine zt_get (pc' := 130) (v := .int (zI (s474 164 2))) hX dX12_ask_127 rfl zf_X12_252 (by decide) zc_164 zs_46 rfl ?_
          refine zt_cVv (pc' := 133) hX dX12_ask_130 rfl zm_yX12_fail zw_26_19 zc_164 (by decide) zs_46 (q := (RX12, TX12, 108)) rfl rfl (zc_X12_fail _ _ s474 hI477 1 ⟨by omega, by omega⟩ (s474 164 2) ⟨by omega, by omega⟩) rfl rfl (Nat.le_of_ble_eq_true rfl) (by decide) (fun r506 s507 hr508 hp509 => ?_)
          obtain ⟨hI510, hF511, z512, z513⟩ := hp509
          obtain ⟨-, w515, w516, w517, -, -, w520, -⟩ := zE_q1 hF511
          have e522 := hF511 164 3 rfl
          have e523 := hF511 164 97 rfl
          have e524 := hF511 164 99 rfl
          have e525 := hF511 164 1 rfl
          have hF526 := zGN_tr hF497 (zOn_GN (zOn_up hF511 zi_13))
          have b527 := zv_46_2 hI510 zc_164
          have b528 := zv_46_3 hI510 zc_164
          have b529 := zv_46_5 hI510 zc_164
          have b530 := zv_46_97 hI510 zc_164
          have b531 := zv_46_99 hI510 zc_164
          have b532 := zv_46_1 hI510 zc_164
          exact J_133_233 s507 hI510 hF526 (fun hb => by omega) (by omega)
    have J_98_533 : (s186 164 5 = 0 → s186 164 2 ≤ s186 164 3 ∧ s186 164 97 = 0 ∧ s186 164 99 = 0 ∧ zt s186 = 1 ∧ zHt s186 = 0 ∧ zBt s186 = 0) → zF X s186 98 [some (.ref (X.1.1 + 164)), some (.int (zI r185)), none] [] := by
      intro g533
      refine zt_aload_n (pc' := 99) hX dX12_ask_98 rfl rfl ?_
      refine zt_get (pc' := 102) (v := .int (zI (s186 164 5))) hX dX12_ask_99 rfl zf_X12_246 (by decide) zc_164 zs_46 rfl ?_
      refine zt_ifne (pc' := 105) (tgt := 109) hX dX12_ask_102 rfl (by decide) ⟨by omega, by omega⟩ (fun c535 => ?_) (fun c535 => ?_)
      · clear g533 z194
        exact J_109_220 s186 hI189 hF207 (by omega) (fun hb => by omega) (by omega)
      · have qg533 := g533 (by omega)
        have qz194 := z194 (by omega)
        clear g533 z194
        refine zt_aload_n (pc' := 106) hX dX12_ask_105 rfl rfl ?_
        refine zt_cVv (pc' := 109) hX dX12_ask_106 rfl zm_yX12_qSums zw_29_22 zc_164 (by decide) zs_46 (q := (RX12, TX12, 108)) rfl rfl (zc_X12_qSums _ _ s186 hI189 (by omega) (by omega) (by omega) (by omega) (by omega)) rfl rfl (Nat.le_of_ble_eq_true rfl) (by decide) (fun r536 s537 hr538 hp539 => ?_)
        obtain ⟨hI540, hF541, z542, z543, z544, z545, z546, z547⟩ := hp539
        have e548 := hF541 164 3 rfl
        have e549 := hF541 164 1 rfl
        have hF550 := zGN_tr hF207 (zOn_GN (zOn_up hF541 zi_23))
        have b551 := zv_46_2 hI540 zc_164
        have b552 := zv_46_3 hI540 zc_164
        have b553 := zv_46_5 hI540 zc_164
        have b554 := zv_46_97 hI540 zc_164
        have b555 := zv_46_99 hI540 zc_164
        have b556 := zv_46_1 hI540 zc_164
        exact J_109_220 s537 hI540 hF550 (by omega) (fun hb => by have qz547 := z547 (by omega); have qz546 := z546 (by omega); clear z547 z546; omega) (by omega)
    refine zt_ifne (pc' := 86) (tgt := 98) hX dX12_ask_83 rfl (by decide) ⟨by omega, by omega⟩ (fun c557 => ?_) (fun c557 => ?_)
    · clear z194
      exact J_98_533 (fun hb => by omega)
    · have qz194 := z194 (by omega)
      clear z194
      refine zt_iload_n (pc' := 87) hX dX12_ask_86 rfl rfl ?_
      refine zt_iconst (pc' := 88) hX dX12_ask_87 rfl ?_
      refine zt_icge (pc' := 91) (tgt := 98) hX dX12_ask_88 rfl (by decide) ⟨by omega, by omega⟩ ⟨by omega, by omega⟩ (fun c558 => ?_) (fun c558 => ?_)
      · exact J_98_533 (fun hb => by omega)
      · refine zt_aload_n (pc' := 92) hX dX12_ask_91 rfl rfl ?_
        refine zt_cVv (pc' := 95) hX dX12_ask_92 rfl zm_yX12_qTest zw_29_6 zc_164 (by decide) zs_46 (q := (RX12, TX12, 108)) rfl rfl (zc_X12_qTest _ _ s186 hI189 (by omega) (by omega) (by omega) (by omega) (by omega)) rfl rfl (Nat.le_of_ble_eq_true rfl) (by decide) (fun r559 s560 hr561 hp562 => ?_)
        obtain ⟨hI563, hF564, z565, z566, z567, z568, z569, z570⟩ := hp562
        have e571 := hF564 164 3 rfl
        have e572 := hF564 164 1 rfl
        have hF573 := zGN_tr hF207 (zOn_GN (zOn_up hF564 zi_23))
        have b574 := zv_46_2 hI563 zc_164
        have b575 := zv_46_3 hI563 zc_164
        have b576 := zv_46_5 hI563 zc_164
        have b577 := zv_46_97 hI563 zc_164
        have b578 := zv_46_99 hI563 zc_164
        have b579 := zv_46_1 hI563 zc_164
        refine zt_goto (tgt := 109) hX dX12_ask_95 (by decide) ?_
        exact J_109_220 s560 hI563 hF573 (by omega) (fun hb => by have qz570 := z570 (by omega); have qz569 := z569 (by omega); clear z570 z569; omega) (by omega)
  · refine zt_aload_n (pc' := 8) hX dX12_ask_7 rfl rfl ?_
    refine zt_iconst (pc' := 9) hX dX12_ask_8 rfl ?_
    refine zt_put (pc' := 12) (x := 0) hX dX12_ask_9 rfl zf_X12_243 (by decide) zc_164 zs_46 (fun q hq => by cases hq; rfl) rfl rfl rfl ?_
    generalize hs581 : zset σ 164 1 0 = s580
    have hI582 : zInv s580 := hs581 ▸ zp_46_1 hI zc_164 ⟨by omega, by omega⟩
    have hF583 : zGN σ s580 := hs581 ▸ zGN_set hF zc_164 (by decide) zk_46 (Or.inr (by decide)) (by decide)
    obtain ⟨-, w585, w586, w587, -, -, w590, -⟩ := zE_set hs581 (by decide)
    have e592 : s580 164 2 = σ 164 2 := by rw [← hs581]; exact zset_j (by decide)
    have e593 : s580 164 3 = σ 164 3 := by rw [← hs581]; exact zset_j (by decide)
    have e594 : s580 164 5 = σ 164 5 := by rw [← hs581]; exact zset_j (by decide)
    have e595 : s580 164 97 = σ 164 97 := by rw [← hs581]; exact zset_j (by decide)
    have e596 : s580 164 99 = σ 164 99 := by rw [← hs581]; exact zset_j (by decide)
    have e597 : s580 164 1 = 0 := by rw [← hs581]; exact zset_s
    refine zt_ldc2 (pc' := 15) (x := (-1000000000000000)) hX dX12_ask_12 rfl zw_46_2 (by decide +kernel) ?_
    have h598 := zwf_N hW hF583
    exact zt_lret hX hR dX12_ask_15 ⟨by omega, by omega⟩ ⟨hI582, hF583, by omega, by omega, by omega, by omega, by omega⟩
