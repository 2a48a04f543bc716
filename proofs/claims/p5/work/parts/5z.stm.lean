set_option maxRecDepth 100000 in
set_option maxHeartbeats 4000000 in
theorem yc_X12_statementTold (l : Launch) (E : zEN) (σ : zSto) (hI : zInv σ) (hpre0 : σ 164 5 = 0) (hpre1 : 1 ≤ σ 164 49 ∧ σ 164 49 ≤ 80) (hpre2 : 2 ≤ σ 194 0 ∧ σ 194 0 ≤ 6 ∧ 2 ≤ σ 194 1 ∧ σ 194 1 ≤ 6) (f : Int → Int) (hT : yTq f σ) (s0 : yP) (h0 : yqs f σ = s0) (hat : σ 164 2 = yPq s0) (hWd : yWd σ) (hTe : yTe (yPlr σ) σ) (hco : σ 164 48 ≤ yPq s0) : zCt l E yX12_statementTold cX12_statementTold 2 none 10 zNC zNC 0 0 σ [.ref (E.1 + 164)] (fun r σ' => zInv σ' ∧ zOn zQ3 σ σ' ∧ yTq f σ' ∧ ((yqs f σ') = yStE f (yPlr σ) (σ 164 49) s0) ∧ (yPo (yqs f σ') = 1 → yStP f σ σ' s0 (yqs f σ')) ∧ (σ 164 49 ≤ σ' 164 49 ∧ σ' 164 49 ≤ σ 164 49 + 1)) := by
  refine zCt_of2 [some (.ref (E.1 + 164)), none] (by decide +kernel) (Nat.le_of_ble_eq_true rfl) rfl ?_
  intro X hE_ hX hR hL hN
  subst hE_
  have hX : zok X cX12_statementTold RX12 10 := hX
  have hF := zOn_rf zQ3 σ
  have hE0 : yqs f σ = yqs f σ := rfl
  have o0 : yPo s0 = 1 := (yHb hT h0).1 (by omega)
  have hq0 : yQb s0 := yQb_q hT h0
  have b1 := zv_46_2 hI zc_164
  have b2 := zv_46_5 hI zc_164
  have b3 := zv_46_48 hI zc_164
  have b4 := zv_46_49 hI zc_164
  refine zt_aload_n (pc' := 1) hX dX12_statementTold_0 rfl rfl ?_
  have b5 := zv_46_2 hI zc_164
  refine zt_get (pc' := 4) (v := .int (zI (σ 164 2))) hX dX12_statementTold_1 rfl zf_X12_252 (by decide) zc_164 zs_46 rfl ?_
  refine zt_istore_n (pc' := 5) (lv' := [some (.ref (X.1.1 + 164)), some (.int (zI (σ 164 2)))]) hX dX12_statementTold_4 rfl hL (by decide) rfl ?_
  refine zt_aload_n (pc' := 6) hX dX12_statementTold_5 rfl rfl ?_
  have b6 := zv_46_49 hI zc_164
  refine zt_get (pc' := 9) (v := .int (zI (σ 164 49))) hX dX12_statementTold_6 rfl zf_X12_351 (by decide) zc_164 zs_46 rfl ?_
  refine zt_bipush (pc' := 11) hX dX12_statementTold_9 rfl (by decide) (by decide) ?_
  refine zt_icne (pc' := 14) (tgt := 21) hX dX12_statementTold_11 rfl (by decide) ⟨by omega, by omega⟩ ⟨by omega, by omega⟩ (fun c7 => ?_) (fun c7 => ?_)
  · refine zt_aload_n (pc' := 22) hX dX12_statementTold_21 rfl rfl ?_
    refine zt_aload_n (pc' := 23) hX dX12_statementTold_22 rfl rfl ?_
    refine zt_get (pc' := 26) (v := .ref (X.1.1 + 170)) hX dX12_statementTold_23 rfl zf_X12_30 (by decide) zc_164 zs_46 (zrf_of (zv_46_14 hI zc_164)) ?_
    refine zt_cVz (pc' := 29) hX dX12_statementTold_26 rfl zm_yX12_takes zw_26_4 zc_164 (by decide) zs_46 (q := (RX12, TX12, 108)) rfl rfl (yc_X12_takes _ _ σ hI 170 52 5 zc_170 (by decide) zs_52 (by decide) f hT 3 (yrow_170 (yWd_3 hWd hF)) (by decide)) rfl rfl (Nat.le_of_ble_eq_true rfl) (by decide) (fun r8 s9 hr10 hp11 => ?_)
    obtain ⟨hI12, hF13, q14, q15, hT16, z17, z18, z19⟩ := hp11
    have hE20 : yqs f s9 = yPt f 3 s0 := by rw [z17, h0]
    rw [h0] at z18
    rw [h0] at z19
    have hF21 := zOn_tr hF hF13 zi_13
    have b22 := zv_46_2 hI12 zc_164
    have b23 := zv_46_5 hI12 zc_164
    have b24 := zv_46_48 hI12 zc_164
    have b25 := zv_46_49 hI12 zc_164
    have e26 := hF13 164 48 rfl
    have e27 := hF13 164 49 rfl
    have e28 := hF13 194 0 rfl
    have e29 := hF13 194 1 rfl
    clear z19
    rcases yspl z18 with ⟨rfl, c30⟩ | ⟨rfl, c30⟩
    · clear z18
      have hE31 : yqs f s9 = yPx f s0 := hE20.trans (if_pos c30)
      have u32 := yHb1 hE31 (yPo_px.trans o0)
      refine zt_ifeq (pc' := 32) (tgt := 39) hX dX12_statementTold_29 rfl (by decide) ⟨by omega, by omega⟩ (fun c33 => ?_) (fun c33 => ?_)
      · exact absurd c33 (by omega)
      · refine zt_aload_n (pc' := 33) hX dX12_statementTold_32 rfl rfl ?_
        refine zt_cVv (pc' := 36) hX dX12_statementTold_33 rfl zm_yX12_heavyTold zw_27_22 zc_164 (by decide) zs_46 (q := (RX12, TX12, 108)) rfl rfl (yc_X12_heavyTold _ _ s9 hI12 (by omega) f hT16) rfl rfl (Nat.le_of_ble_eq_true rfl) (by decide) (fun r34 s35 hr36 hp37 => ?_)
        obtain ⟨hI38, hF39, hT40, z41⟩ := hp37
        have hE42 : yqs f s35 = yPn f 0 99 (yPn f 0 ((s9 194 1) - 1) (yPn f 0 ((s9 194 0) - 1) (yPx f s0))) := by rw [z41, hE31]
        have hF43 := zOn_tr hF21 hF39 zi_h3
        have b44 := zv_46_2 hI38 zc_164
        have b45 := zv_46_5 hI38 zc_164
        have b46 := zv_46_48 hI38 zc_164
        have b47 := zv_46_49 hI38 zc_164
        have e48 := hF39 164 48 rfl
        have e49 := hF39 164 49 rfl
        have e50 := hF39 194 0 rfl
        have e51 := hF39 194 1 rfl
        have a52 : s9 194 0 = σ 194 0 := by omega
        have a53 : s9 194 1 = σ 194 1 := by omega
        have hE54 : yqs f s35 = yHea f (yPlr σ) s0 := by rw [hE42, a52, a53]; rfl
        refine zt_goto (tgt := 173) hX dX12_statementTold_36 (by decide) ?_
        refine zt_aload_n (pc' := 174) hX dX12_statementTold_173 rfl rfl ?_
        refine zt_bipush (pc' := 176) hX dX12_statementTold_174 rfl (by decide) (by decide) ?_
        refine zt_cVv (pc' := 179) hX dX12_statementTold_176 rfl zm_yX12_asksSign zw_27_10 zc_164 (by decide) zs_46 (q := (RX12, TX12, 108)) rfl rfl (yc_X12_asksSign _ _ s35 hI38 59 ⟨by omega, by omega⟩ (by omega) f hT40) rfl rfl (Nat.le_of_ble_eq_true rfl) (by decide) (fun r55 s56 hr57 hp58 => ?_)
        obtain ⟨hI59, hF60, hT61, z62⟩ := hp58
        have hE63 : yqs f s56 = yPs f 59 (yHea f (yPlr σ) s0) := by rw [z62, hE54]
        have hF64 := zOn_tr hF43 hF60 zi_13
        have b65 := zv_46_2 hI59 zc_164
        have b66 := zv_46_5 hI59 zc_164
        have b67 := zv_46_48 hI59 zc_164
        have b68 := zv_46_49 hI59 zc_164
        have e69 := hF60 164 48 rfl
        have e70 := hF60 164 49 rfl
        have e71 := hF60 194 0 rfl
        have e72 := hF60 194 1 rfl
        refine zt_aload_n (pc' := 180) hX dX12_statementTold_179 rfl rfl ?_
        refine zt_dup (pc' := 181) hX dX12_statementTold_180 rfl rfl ?_
        have b73 := zv_46_49 hI59 zc_164
        refine zt_get (pc' := 184) (v := .int (zI (s56 164 49))) hX dX12_statementTold_181 rfl zf_X12_351 (by decide) zc_164 zs_46 rfl ?_
        refine zt_iconst (pc' := 185) hX dX12_statementTold_184 rfl ?_
        refine zt_iadd (pc' := 186) hX dX12_statementTold_185 rfl ?_
        refine zt_wrap (fun r74 zr74 lr74 ur74 => ?_)
        replace zr74 := ywr_eq zr74
        refine zt_put (pc' := 189) (x := r74) hX dX12_statementTold_186 rfl zf_X12_351 (by decide) zc_164 zs_46 (fun q hq => by cases hq; rfl) rfl rfl rfl ?_
        generalize hs76 : zset s56 164 49 r74 = s75
        have hI77 : zInv s75 := hs76 ▸ zp_46_49 hI59 zc_164 ⟨by omega, by omega⟩
        have hF78 : zOn zQ3 σ s75 := hs76 ▸ zOn_set hF64 (by decide)
        have e79 : s75 164 2 = s56 164 2 := by rw [← hs76]; exact zset_j (by decide)
        have e80 : s75 164 5 = s56 164 5 := by rw [← hs76]; exact zset_j (by decide)
        have e81 : s75 164 48 = s56 164 48 := by rw [← hs76]; exact zset_j (by decide)
        have e82 : s75 164 49 = r74 := by rw [← hs76]; exact zset_s
        have e83 : s75 194 0 = s56 194 0 := by rw [← hs76]; exact zset_k (zne_r zc_194 zc_164 (by decide))
        have e84 : s75 194 1 = s56 194 1 := by rw [← hs76]; exact zset_k (zne_r zc_194 zc_164 (by decide))
        have hT85 := yTq_rk hT61 (yRq_j hs76 (by decide))
        have hE86 : yqs f s75 = yPs f 59 (yHea f (yPlr σ) s0) := (yqs_rk (yRq_j hs76 (by decide))).trans hE63
        exact zt_vret hX hR dX12_statementTold_189 ⟨hI77, hF78, hT85, hE86.trans (yStE_n (by omega) (yStm_3 (P := yPlr σ) c30).1), (fun o => by rw [hE86] at o ⊢; exact ⟨by rw [← (yStm_3 (P := yPlr σ) c30).2]; exact (yTe_k (yTe_1 (yTe_h (yTe_1 hTe hF13) hF39) hF60) hs76 (by decide)), yCo_a hT.1 hq0 (ymn_Hea hT.1) o (by omega), by omega⟩), ⟨by omega, by omega⟩⟩
    · clear z18
      have hE87 : yqs f s9 = s0 := hE20.trans (if_neg c30)
      have u88 := yHb1 hE87 o0
      refine zt_ifeq (pc' := 32) (tgt := 39) hX dX12_statementTold_29 rfl (by decide) ⟨by omega, by omega⟩ (fun c89 => ?_) (fun c89 => ?_)
      · refine zt_aload_n (pc' := 40) hX dX12_statementTold_39 rfl rfl ?_
        refine zt_aload_n (pc' := 41) hX dX12_statementTold_40 rfl rfl ?_
        refine zt_get (pc' := 44) (v := .ref (X.1.1 + 171)) hX dX12_statementTold_41 rfl zf_X12_33 (by decide) zc_164 zs_46 (zrf_of (zv_46_15 hI12 zc_164)) ?_
        refine zt_cVz (pc' := 47) hX dX12_statementTold_44 rfl zm_yX12_takes zw_26_4 zc_164 (by decide) zs_46 (q := (RX12, TX12, 108)) rfl rfl (yc_X12_takes _ _ s9 hI12 171 53 4 zc_171 (by decide) zs_53 (by decide) f hT16 4 (yrow_171 (yWd_3 hWd hF21)) (by decide)) rfl rfl (Nat.le_of_ble_eq_true rfl) (by decide) (fun r90 s91 hr92 hp93 => ?_)
        obtain ⟨hI94, hF95, q96, q97, hT98, z99, z100, z101⟩ := hp93
        have hE102 : yqs f s91 = yPt f 4 s0 := by rw [z99, hE87]
        rw [hE87] at z100
        rw [hE87] at z101
        have hF103 := zOn_tr hF21 hF95 zi_13
        have b104 := zv_46_2 hI94 zc_164
        have b105 := zv_46_5 hI94 zc_164
        have b106 := zv_46_48 hI94 zc_164
        have b107 := zv_46_49 hI94 zc_164
        have e108 := hF95 164 48 rfl
        have e109 := hF95 164 49 rfl
        have e110 := hF95 194 0 rfl
        have e111 := hF95 194 1 rfl
        clear z101
        rcases yspl z100 with ⟨rfl, c112⟩ | ⟨rfl, c112⟩
        · clear z100
          have hE113 : yqs f s91 = yPx f s0 := hE102.trans (if_pos c112)
          have u114 := yHb1 hE113 (yPo_px.trans o0)
          refine zt_ifeq (pc' := 50) (tgt := 58) hX dX12_statementTold_47 rfl (by decide) ⟨by omega, by omega⟩ (fun c115 => ?_) (fun c115 => ?_)
          · exact absurd c115 (by omega)
          · refine zt_aload_n (pc' := 51) hX dX12_statementTold_50 rfl rfl ?_
            refine zt_iload_n (pc' := 52) hX dX12_statementTold_51 rfl rfl ?_
            refine zt_cVv (pc' := 55) hX dX12_statementTold_52 rfl zm_yX12_poleTold zw_28_6 zc_164 (by decide) zs_46 (q := (RX12, TX12, 108)) rfl rfl (yc_X12_poleTold _ _ s91 hI94 (σ 164 2) ⟨by omega, by omega⟩ (by omega) f hT98 s0 hE113 o0 (by omega) (yWd_3 hWd hF103) ((yTe_1 (yTe_1 hTe hF13) hF95)).2.1) rfl rfl (Nat.le_of_ble_eq_true rfl) (by decide) (fun r116 s117 hr118 hp119 => ?_)
            obtain ⟨hI120, hF121, hT122, z123, z124⟩ := hp119
            have hE125 : yqs f s117 = yPol f (yPlr s91) s0 := z123
            have hF126 := zOn_tr hF103 hF121 zi_43
            rw [hE125] at z124
            have b127 := zv_46_2 hI120 zc_164
            have b128 := zv_46_5 hI120 zc_164
            have b129 := zv_46_48 hI120 zc_164
            have b130 := zv_46_49 hI120 zc_164
            have e131 := hF121 164 48 rfl
            have e132 := hF121 164 49 rfl
            have e133 := hF121 194 0 rfl
            have e134 := hF121 194 1 rfl
            have hp136 := ((yTe_1 (yTe_1 hTe hF13) hF95)).1
            have hE135 : yqs f s117 = yPol f (yPlr σ) s0 := by rw [hE125, hp136]
            rw [hp136] at z124
            replace z124 : yIm _ _ := z124
            refine zt_goto (tgt := 173) hX dX12_statementTold_55 (by decide) ?_
            refine zt_aload_n (pc' := 174) hX dX12_statementTold_173 rfl rfl ?_
            refine zt_bipush (pc' := 176) hX dX12_statementTold_174 rfl (by decide) (by decide) ?_
            refine zt_cVv (pc' := 179) hX dX12_statementTold_176 rfl zm_yX12_asksSign zw_27_10 zc_164 (by decide) zs_46 (q := (RX12, TX12, 108)) rfl rfl (yc_X12_asksSign _ _ s117 hI120 59 ⟨by omega, by omega⟩ (by omega) f hT122) rfl rfl (Nat.le_of_ble_eq_true rfl) (by decide) (fun r137 s138 hr139 hp140 => ?_)
            obtain ⟨hI141, hF142, hT143, z144⟩ := hp140
            have hE145 : yqs f s138 = yPs f 59 (yPol f (yPlr σ) s0) := by rw [z144, hE135]
            have hF146 := zOn_tr hF126 hF142 zi_13
            have b147 := zv_46_2 hI141 zc_164
            have b148 := zv_46_5 hI141 zc_164
            have b149 := zv_46_48 hI141 zc_164
            have b150 := zv_46_49 hI141 zc_164
            have e151 := hF142 164 48 rfl
            have e152 := hF142 164 49 rfl
            have e153 := hF142 194 0 rfl
            have e154 := hF142 194 1 rfl
            refine zt_aload_n (pc' := 180) hX dX12_statementTold_179 rfl rfl ?_
            refine zt_dup (pc' := 181) hX dX12_statementTold_180 rfl rfl ?_
            have b155 := zv_46_49 hI141 zc_164
            refine zt_get (pc' := 184) (v := .int (zI (s138 164 49))) hX dX12_statementTold_181 rfl zf_X12_351 (by decide) zc_164 zs_46 rfl ?_
            refine zt_iconst (pc' := 185) hX dX12_statementTold_184 rfl ?_
            refine zt_iadd (pc' := 186) hX dX12_statementTold_185 rfl ?_
            refine zt_wrap (fun r156 zr156 lr156 ur156 => ?_)
            replace zr156 := ywr_eq zr156
            refine zt_put (pc' := 189) (x := r156) hX dX12_statementTold_186 rfl zf_X12_351 (by decide) zc_164 zs_46 (fun q hq => by cases hq; rfl) rfl rfl rfl ?_
            generalize hs158 : zset s138 164 49 r156 = s157
            have hI159 : zInv s157 := hs158 ▸ zp_46_49 hI141 zc_164 ⟨by omega, by omega⟩
            have hF160 : zOn zQ3 σ s157 := hs158 ▸ zOn_set hF146 (by decide)
            have e161 : s157 164 2 = s138 164 2 := by rw [← hs158]; exact zset_j (by decide)
            have e162 : s157 164 5 = s138 164 5 := by rw [← hs158]; exact zset_j (by decide)
            have e163 : s157 164 48 = s138 164 48 := by rw [← hs158]; exact zset_j (by decide)
            have e164 : s157 164 49 = r156 := by rw [← hs158]; exact zset_s
            have e165 : s157 194 0 = s138 194 0 := by rw [← hs158]; exact zset_k (zne_r zc_194 zc_164 (by decide))
            have e166 : s157 194 1 = s138 194 1 := by rw [← hs158]; exact zset_k (zne_r zc_194 zc_164 (by decide))
            have hT167 := yTq_rk hT143 (yRq_j hs158 (by decide))
            have hE168 : yqs f s157 = yPs f 59 (yPol f (yPlr σ) s0) := (yqs_rk (yRq_j hs158 (by decide))).trans hE145
            exact zt_vret hX hR dX12_statementTold_189 ⟨hI159, hF160, hT167, hE168.trans (yStE_n (by omega) (yStm_4 (P := yPlr σ) c112).1), (fun o => by rw [hE168] at o ⊢; have t : yTe (yPolP f (yPlr σ) s0) _ := (show yTe (yPolP f (yPlr σ) s0) _ from ⟨(z124 (yPo_s o)).1, (z124 (yPo_s o)).2, ySt_c ((yTe_1 (yTe_1 hTe hF13) hF95)).2.2 (fun i => hF121 199 i rfl)⟩); exact ⟨by rw [← (yStm_4 (P := yPlr σ) c112).2]; exact (yTe_k (yTe_1 t hF142) hs158 (by decide)), yCo_a hT.1 hq0 (ymn_Pol hT.1) o (by omega), by omega⟩), ⟨by omega, by omega⟩⟩
        · clear z100
          have hE169 : yqs f s91 = s0 := hE102.trans (if_neg c112)
          have u170 := yHb1 hE169 o0
          refine zt_ifeq (pc' := 50) (tgt := 58) hX dX12_statementTold_47 rfl (by decide) ⟨by omega, by omega⟩ (fun c171 => ?_) (fun c171 => ?_)
          · refine zt_aload_n (pc' := 59) hX dX12_statementTold_58 rfl rfl ?_
            refine zt_aload_n (pc' := 60) hX dX12_statementTold_59 rfl rfl ?_
            refine zt_get (pc' := 63) (v := .ref (X.1.1 + 174)) hX dX12_statementTold_60 rfl zf_X12_42 (by decide) zc_164 zs_46 (zrf_of (zv_46_18 hI94 zc_164)) ?_
            refine zt_cVz (pc' := 66) hX dX12_statementTold_63 rfl zm_yX12_takes zw_26_4 zc_164 (by decide) zs_46 (q := (RX12, TX12, 108)) rfl rfl (yc_X12_takes _ _ s91 hI94 174 56 4 zc_174 (by decide) zs_56 (by decide) f hT98 7 (yrow_174 (yWd_3 hWd hF103)) (by decide)) rfl rfl (Nat.le_of_ble_eq_true rfl) (by decide) (fun r172 s173 hr174 hp175 => ?_)
            obtain ⟨hI176, hF177, q178, q179, hT180, z181, z182, z183⟩ := hp175
            have hE184 : yqs f s173 = yPt f 7 s0 := by rw [z181, hE169]
            rw [hE169] at z182
            rw [hE169] at z183
            have hF185 := zOn_tr hF103 hF177 zi_13
            have b186 := zv_46_2 hI176 zc_164
            have b187 := zv_46_5 hI176 zc_164
            have b188 := zv_46_48 hI176 zc_164
            have b189 := zv_46_49 hI176 zc_164
            have e190 := hF177 164 48 rfl
            have e191 := hF177 164 49 rfl
            have e192 := hF177 194 0 rfl
            have e193 := hF177 194 1 rfl
            clear z183
            rcases yspl z182 with ⟨rfl, c194⟩ | ⟨rfl, c194⟩
            · clear z182
              have hE195 : yqs f s173 = yPx f s0 := hE184.trans (if_pos c194)
              have u196 := yHb1 hE195 (yPo_px.trans o0)
              refine zt_ifeq (pc' := 69) (tgt := 78) hX dX12_statementTold_66 rfl (by decide) ⟨by omega, by omega⟩ (fun c197 => ?_) (fun c197 => ?_)
              · exact absurd c197 (by omega)
              · refine zt_aload_n (pc' := 70) hX dX12_statementTold_69 rfl rfl ?_
                refine zt_iconst (pc' := 71) hX dX12_statementTold_70 rfl ?_
                refine zt_iload_n (pc' := 72) hX dX12_statementTold_71 rfl rfl ?_
                refine zt_cVv (pc' := 75) hX dX12_statementTold_72 rfl zm_yX12_codesTold zw_28_21 zc_164 (by decide) zs_46 (q := (RX12, TX12, 108)) rfl rfl (yc_X12_codesTold_0 _ _ s173 hI176 (σ 164 2) ⟨by omega, by omega⟩ (by omega) f hT180 s0 hE195 o0 (by omega) (yWd_3 hWd hF185) (by rw [((yTe_1 (yTe_1 (yTe_1 hTe hF13) hF95) hF177)).1]; exact (yTe_1 (yTe_1 (yTe_1 hTe hF13) hF95) hF177)) (by have := ymn_x hT.1 (p := s0) hq0; have := this.2 (yPo_px.trans o0); omega)) rfl rfl (Nat.le_of_ble_eq_true rfl) (by decide) (fun r198 s199 hr200 hp201 => ?_)
                obtain ⟨hI202, hF203, hT204, z205, z206⟩ := hp201
                have hE207 : yqs f s199 = yAds f (yPlr s173) s0 := z205
                have hF208 := zOn_tr hF185 hF203 zi_63
                rw [hE207] at z206
                have b209 := zv_46_2 hI202 zc_164
                have b210 := zv_46_5 hI202 zc_164
                have b211 := zv_46_48 hI202 zc_164
                have b212 := zv_46_49 hI202 zc_164
                have e213 := hF203 164 49 rfl
                have e214 := hF203 194 0 rfl
                have e215 := hF203 194 1 rfl
                have hp217 := ((yTe_1 (yTe_1 (yTe_1 hTe hF13) hF95) hF177)).1
                have hE216 : yqs f s199 = yAds f (yPlr σ) s0 := by rw [hE207, hp217]
                rw [hp217] at z206
                replace z206 : yIm _ _ := z206
                refine zt_goto (tgt := 173) hX dX12_statementTold_75 (by decide) ?_
                refine zt_aload_n (pc' := 174) hX dX12_statementTold_173 rfl rfl ?_
                refine zt_bipush (pc' := 176) hX dX12_statementTold_174 rfl (by decide) (by decide) ?_
                refine zt_cVv (pc' := 179) hX dX12_statementTold_176 rfl zm_yX12_asksSign zw_27_10 zc_164 (by decide) zs_46 (q := (RX12, TX12, 108)) rfl rfl (yc_X12_asksSign _ _ s199 hI202 59 ⟨by omega, by omega⟩ (by omega) f hT204) rfl rfl (Nat.le_of_ble_eq_true rfl) (by decide) (fun r218 s219 hr220 hp221 => ?_)
                obtain ⟨hI222, hF223, hT224, z225⟩ := hp221
                have hE226 : yqs f s219 = yPs f 59 (yAds f (yPlr σ) s0) := by rw [z225, hE216]
                have hF227 := zOn_tr hF208 hF223 zi_13
                have b228 := zv_46_2 hI222 zc_164
                have b229 := zv_46_5 hI222 zc_164
                have b230 := zv_46_48 hI222 zc_164
                have b231 := zv_46_49 hI222 zc_164
                have e232 := hF223 164 48 rfl
                have e233 := hF223 164 49 rfl
                have e234 := hF223 194 0 rfl
                have e235 := hF223 194 1 rfl
                refine zt_aload_n (pc' := 180) hX dX12_statementTold_179 rfl rfl ?_
                refine zt_dup (pc' := 181) hX dX12_statementTold_180 rfl rfl ?_
                have b236 := zv_46_49 hI222 zc_164
                refine zt_get (pc' := 184) (v := .int (zI (s219 164 49))) hX dX12_statementTold_181 rfl zf_X12_351 (by decide) zc_164 zs_46 rfl ?_
                refine zt_iconst (pc' := 185) hX dX12_statementTold_184 rfl ?_
                refine zt_iadd (pc' := 186) hX dX12_statementTold_185 rfl ?_
                refine zt_wrap (fun r237 zr237 lr237 ur237 => ?_)
                replace zr237 := ywr_eq zr237
                refine zt_put (pc' := 189) (x := r237) hX dX12_statementTold_186 rfl zf_X12_351 (by decide) zc_164 zs_46 (fun q hq => by cases hq; rfl) rfl rfl rfl ?_
                generalize hs239 : zset s219 164 49 r237 = s238
                have hI240 : zInv s238 := hs239 ▸ zp_46_49 hI222 zc_164 ⟨by omega, by omega⟩
                have hF241 : zOn zQ3 σ s238 := hs239 ▸ zOn_set hF227 (by decide)
                have e242 : s238 164 2 = s219 164 2 := by rw [← hs239]; exact zset_j (by decide)
                have e243 : s238 164 5 = s219 164 5 := by rw [← hs239]; exact zset_j (by decide)
                have e244 : s238 164 48 = s219 164 48 := by rw [← hs239]; exact zset_j (by decide)
                have e245 : s238 164 49 = r237 := by rw [← hs239]; exact zset_s
                have e246 : s238 194 0 = s219 194 0 := by rw [← hs239]; exact zset_k (zne_r zc_194 zc_164 (by decide))
                have e247 : s238 194 1 = s219 194 1 := by rw [← hs239]; exact zset_k (zne_r zc_194 zc_164 (by decide))
                have hT248 := yTq_rk hT224 (yRq_j hs239 (by decide))
                have hE249 : yqs f s238 = yPs f 59 (yAds f (yPlr σ) s0) := (yqs_rk (yRq_j hs239 (by decide))).trans hE226
                exact zt_vret hX hR dX12_statementTold_189 ⟨hI240, hF241, hT248, hE249.trans (yStE_n (by omega) (yStm_7 (P := yPlr σ) c194).1), (fun o => by rw [hE249] at o ⊢; have t : yTe ((yPlr σ).wad 1) _ := (z206 (yPo_s o)).1; exact ⟨by rw [← (yStm_7 (P := yPlr σ) c194).2]; exact (yTe_k (yTe_1 t hF223) hs239 (by decide)), yCo_c hT.1 (yQb_q hT204 hE216) o (fun _ => by have w := (z206 (yPo_s o)).2; omega), by omega⟩), ⟨by omega, by omega⟩⟩
            · clear z182
              have hE250 : yqs f s173 = s0 := hE184.trans (if_neg c194)
              have u251 := yHb1 hE250 o0
              refine zt_ifeq (pc' := 69) (tgt := 78) hX dX12_statementTold_66 rfl (by decide) ⟨by omega, by omega⟩ (fun c252 => ?_) (fun c252 => ?_)
              · refine zt_aload_n (pc' := 79) hX dX12_statementTold_78 rfl rfl ?_
                refine zt_aload_n (pc' := 80) hX dX12_statementTold_79 rfl rfl ?_
                refine zt_get (pc' := 83) (v := .ref (X.1.1 + 175)) hX dX12_statementTold_80 rfl zf_X12_45 (by decide) zc_164 zs_46 (zrf_of (zv_46_19 hI176 zc_164)) ?_
                refine zt_cVz (pc' := 86) hX dX12_statementTold_83 rfl zm_yX12_takes zw_26_4 zc_164 (by decide) zs_46 (q := (RX12, TX12, 108)) rfl rfl (yc_X12_takes _ _ s173 hI176 175 57 5 zc_175 (by decide) zs_57 (by decide) f hT180 8 (yrow_175 (yWd_3 hWd hF185)) (by decide)) rfl rfl (Nat.le_of_ble_eq_true rfl) (by decide) (fun r253 s254 hr255 hp256 => ?_)
                obtain ⟨hI257, hF258, q259, q260, hT261, z262, z263, z264⟩ := hp256
                have hE265 : yqs f s254 = yPt f 8 s0 := by rw [z262, hE250]
                rw [hE250] at z263
                rw [hE250] at z264
                have hF266 := zOn_tr hF185 hF258 zi_13
                have b267 := zv_46_2 hI257 zc_164
                have b268 := zv_46_5 hI257 zc_164
                have b269 := zv_46_48 hI257 zc_164
                have b270 := zv_46_49 hI257 zc_164
                have e271 := hF258 164 48 rfl
                have e272 := hF258 164 49 rfl
                have e273 := hF258 194 0 rfl
                have e274 := hF258 194 1 rfl
                clear z264
                rcases yspl z263 with ⟨rfl, c275⟩ | ⟨rfl, c275⟩
                · clear z263
                  have hE276 : yqs f s254 = yPx f s0 := hE265.trans (if_pos c275)
                  have u277 := yHb1 hE276 (yPo_px.trans o0)
                  refine zt_ifeq (pc' := 89) (tgt := 98) hX dX12_statementTold_86 rfl (by decide) ⟨by omega, by omega⟩ (fun c278 => ?_) (fun c278 => ?_)
                  · exact absurd c278 (by omega)
                  · refine zt_aload_n (pc' := 90) hX dX12_statementTold_89 rfl rfl ?_
                    refine zt_iconst (pc' := 91) hX dX12_statementTold_90 rfl ?_
                    refine zt_iload_n (pc' := 92) hX dX12_statementTold_91 rfl rfl ?_
                    refine zt_cVv (pc' := 95) hX dX12_statementTold_92 rfl zm_yX12_codesTold zw_28_21 zc_164 (by decide) zs_46 (q := (RX12, TX12, 108)) rfl rfl (yc_X12_codesTold_1 _ _ s254 hI257 (σ 164 2) ⟨by omega, by omega⟩ (by omega) f hT261 s0 hE276 o0 (by omega) (yWd_3 hWd hF266) (by rw [((yTe_1 (yTe_1 (yTe_1 (yTe_1 hTe hF13) hF95) hF177) hF258)).1]; exact (yTe_1 (yTe_1 (yTe_1 (yTe_1 hTe hF13) hF95) hF177) hF258)) (by have := ymn_x hT.1 (p := s0) hq0; have := this.2 (yPo_px.trans o0); omega)) rfl rfl (Nat.le_of_ble_eq_true rfl) (by decide) (fun r279 s280 hr281 hp282 => ?_)
                    obtain ⟨hI283, hF284, hT285, z286, z287⟩ := hp282
                    have hE288 : yqs f s280 = yHos f (yPlr s254) s0 := z286
                    have hF289 := zOn_tr hF266 hF284 zi_63
                    rw [hE288] at z287
                    have b290 := zv_46_2 hI283 zc_164
                    have b291 := zv_46_5 hI283 zc_164
                    have b292 := zv_46_48 hI283 zc_164
                    have b293 := zv_46_49 hI283 zc_164
                    have e294 := hF284 164 49 rfl
                    have e295 := hF284 194 0 rfl
                    have e296 := hF284 194 1 rfl
                    have hp298 := ((yTe_1 (yTe_1 (yTe_1 (yTe_1 hTe hF13) hF95) hF177) hF258)).1
                    have hE297 : yqs f s280 = yHos f (yPlr σ) s0 := by rw [hE288, hp298]
                    rw [hp298] at z287
                    replace z287 : yIm _ _ := z287
                    refine zt_goto (tgt := 173) hX dX12_statementTold_95 (by decide) ?_
                    refine zt_aload_n (pc' := 174) hX dX12_statementTold_173 rfl rfl ?_
                    refine zt_bipush (pc' := 176) hX dX12_statementTold_174 rfl (by decide) (by decide) ?_
                    refine zt_cVv (pc' := 179) hX dX12_statementTold_176 rfl zm_yX12_asksSign zw_27_10 zc_164 (by decide) zs_46 (q := (RX12, TX12, 108)) rfl rfl (yc_X12_asksSign _ _ s280 hI283 59 ⟨by omega, by omega⟩ (by omega) f hT285) rfl rfl (Nat.le_of_ble_eq_true rfl) (by decide) (fun r299 s300 hr301 hp302 => ?_)
                    obtain ⟨hI303, hF304, hT305, z306⟩ := hp302
                    have hE307 : yqs f s300 = yPs f 59 (yHos f (yPlr σ) s0) := by rw [z306, hE297]
                    have hF308 := zOn_tr hF289 hF304 zi_13
                    have b309 := zv_46_2 hI303 zc_164
                    have b310 := zv_46_5 hI303 zc_164
                    have b311 := zv_46_48 hI303 zc_164
                    have b312 := zv_46_49 hI303 zc_164
                    have e313 := hF304 164 48 rfl
                    have e314 := hF304 164 49 rfl
                    have e315 := hF304 194 0 rfl
                    have e316 := hF304 194 1 rfl
                    refine zt_aload_n (pc' := 180) hX dX12_statementTold_179 rfl rfl ?_
                    refine zt_dup (pc' := 181) hX dX12_statementTold_180 rfl rfl ?_
                    have b317 := zv_46_49 hI303 zc_164
                    refine zt_get (pc' := 184) (v := .int (zI (s300 164 49))) hX dX12_statementTold_181 rfl zf_X12_351 (by decide) zc_164 zs_46 rfl ?_
                    refine zt_iconst (pc' := 185) hX dX12_statementTold_184 rfl ?_
                    refine zt_iadd (pc' := 186) hX dX12_statementTold_185 rfl ?_
                    refine zt_wrap (fun r318 zr318 lr318 ur318 => ?_)
                    replace zr318 := ywr_eq zr318
                    refine zt_put (pc' := 189) (x := r318) hX dX12_statementTold_186 rfl zf_X12_351 (by decide) zc_164 zs_46 (fun q hq => by cases hq; rfl) rfl rfl rfl ?_
                    generalize hs320 : zset s300 164 49 r318 = s319
                    have hI321 : zInv s319 := hs320 ▸ zp_46_49 hI303 zc_164 ⟨by omega, by omega⟩
                    have hF322 : zOn zQ3 σ s319 := hs320 ▸ zOn_set hF308 (by decide)
                    have e323 : s319 164 2 = s300 164 2 := by rw [← hs320]; exact zset_j (by decide)
                    have e324 : s319 164 5 = s300 164 5 := by rw [← hs320]; exact zset_j (by decide)
                    have e325 : s319 164 48 = s300 164 48 := by rw [← hs320]; exact zset_j (by decide)
                    have e326 : s319 164 49 = r318 := by rw [← hs320]; exact zset_s
                    have e327 : s319 194 0 = s300 194 0 := by rw [← hs320]; exact zset_k (zne_r zc_194 zc_164 (by decide))
                    have e328 : s319 194 1 = s300 194 1 := by rw [← hs320]; exact zset_k (zne_r zc_194 zc_164 (by decide))
                    have hT329 := yTq_rk hT305 (yRq_j hs320 (by decide))
                    have hE330 : yqs f s319 = yPs f 59 (yHos f (yPlr σ) s0) := (yqs_rk (yRq_j hs320 (by decide))).trans hE307
                    exact zt_vret hX hR dX12_statementTold_189 ⟨hI321, hF322, hT329, hE330.trans (yStE_n (by omega) (yStm_8 (P := yPlr σ) c275).1), (fun o => by rw [hE330] at o ⊢; have t : yTe ((yPlr σ).who 1) _ := (z287 (yPo_s o)).1; exact ⟨by rw [← (yStm_8 (P := yPlr σ) c275).2]; exact (yTe_k (yTe_1 t hF304) hs320 (by decide)), yCo_c hT.1 (yQb_q hT285 hE297) o (fun _ => by have w := (z287 (yPo_s o)).2; omega), by omega⟩), ⟨by omega, by omega⟩⟩
                · clear z263
                  have hE331 : yqs f s254 = s0 := hE265.trans (if_neg c275)
                  have u332 := yHb1 hE331 o0
                  refine zt_ifeq (pc' := 89) (tgt := 98) hX dX12_statementTold_86 rfl (by decide) ⟨by omega, by omega⟩ (fun c333 => ?_) (fun c333 => ?_)
                  · refine zt_aload_n (pc' := 99) hX dX12_statementTold_98 rfl rfl ?_
                    refine zt_aload_n (pc' := 100) hX dX12_statementTold_99 rfl rfl ?_
                    refine zt_get (pc' := 103) (v := .ref (X.1.1 + 176)) hX dX12_statementTold_100 rfl zf_X12_48 (by decide) zc_164 zs_46 (zrf_of (zv_46_20 hI257 zc_164)) ?_
                    refine zt_cVz (pc' := 106) hX dX12_statementTold_103 rfl zm_yX12_takes zw_26_4 zc_164 (by decide) zs_46 (q := (RX12, TX12, 108)) rfl rfl (yc_X12_takes _ _ s254 hI257 176 58 5 zc_176 (by decide) zs_58 (by decide) f hT261 9 (yrow_176 (yWd_3 hWd hF266)) (by decide)) rfl rfl (Nat.le_of_ble_eq_true rfl) (by decide) (fun r334 s335 hr336 hp337 => ?_)
                    obtain ⟨hI338, hF339, q340, q341, hT342, z343, z344, z345⟩ := hp337
                    have hE346 : yqs f s335 = yPt f 9 s0 := by rw [z343, hE331]
                    rw [hE331] at z344
                    rw [hE331] at z345
                    have hF347 := zOn_tr hF266 hF339 zi_13
                    have b348 := zv_46_2 hI338 zc_164
                    have b349 := zv_46_5 hI338 zc_164
                    have b350 := zv_46_48 hI338 zc_164
                    have b351 := zv_46_49 hI338 zc_164
                    have e352 := hF339 164 48 rfl
                    have e353 := hF339 164 49 rfl
                    have e354 := hF339 194 0 rfl
                    have e355 := hF339 194 1 rfl
                    clear z345
                    rcases yspl z344 with ⟨rfl, c356⟩ | ⟨rfl, c356⟩
                    · clear z344
                      have hE357 : yqs f s335 = yPx f s0 := hE346.trans (if_pos c356)
                      have u358 := yHb1 hE357 (yPo_px.trans o0)
                      refine zt_ifeq (pc' := 109) (tgt := 125) hX dX12_statementTold_106 rfl (by decide) ⟨by omega, by omega⟩ (fun c359 => ?_) (fun c359 => ?_)
                      · exact absurd c359 (by omega)
                      · refine zt_aload_n (pc' := 110) hX dX12_statementTold_109 rfl rfl ?_
                        refine zt_get (pc' := 113) (v := .ref (X.1.1 + 199)) hX dX12_statementTold_110 rfl zf_X12_118 (by decide) zc_164 zs_46 (zrf_of (zv_46_44 hI338 zc_164)) ?_
                        refine zt_iconst (pc' := 114) hX dX12_statementTold_113 rfl ?_
                        refine zt_aload_n (pc' := 115) hX dX12_statementTold_114 rfl rfl ?_
                        refine zt_iconst (pc' := 116) hX dX12_statementTold_115 rfl ?_
                        refine zt_bipush (pc' := 118) hX dX12_statementTold_116 rfl (by decide) (by decide) ?_
                        refine zt_cVi (pc' := 121) hX dX12_statementTold_118 rfl zm_yX12_number zw_26_23 zc_164 (by decide) zs_46 (q := (RX12, TX12, 108)) rfl rfl (yc_X12_number _ _ s335 hI338 0 ⟨by omega, by omega⟩ 99 ⟨by omega, by omega⟩ f hT342) rfl rfl (Nat.le_of_ble_eq_true rfl) (by decide) (fun r360 s361 hr362 hp363 => ?_)
                        obtain ⟨hI364, hF365, q366, q367, hT368, z369, z370⟩ := hp363
                        have hE371 : yqs f s361 = yPn f 0 99 (yPx f s0) := by rw [z369, hE357]
                        rw [hE357] at z370
                        have hF372 := zOn_tr hF347 hF365 zi_13
                        rw [hE371] at z370
                        have b373 := zv_46_2 hI364 zc_164
                        have b374 := zv_46_5 hI364 zc_164
                        have b375 := zv_46_48 hI364 zc_164
                        have b376 := zv_46_49 hI364 zc_164
                        have e377 := hF365 164 48 rfl
                        have e378 := hF365 164 49 rfl
                        have e379 := hF365 194 0 rfl
                        have e380 := hF365 194 1 rfl
                        have hz381 : yZm (yPn f 0 99 (yPx f s0)) 0 100 r360 := fun o => by have t := (z370 o).2.2; omega
                        clear z370
                        refine zt_iast (pc' := 122) hX dX12_statementTold_121 rfl (by decide) zc_199 zs_81 (by decide) ⟨by omega, by omega⟩ ?_
                        rw [show Int.toNat 0 = 0 from rfl]
                        generalize hs384 : zset s361 199 0 r360 = s383
                        have hI385 : zInv s383 := hs384 ▸ zp_81 hI364 zc_199 0 (by omega)
                        have hF386 : zOn zQ3 σ s383 := hs384 ▸ zOn_set hF372 (by decide)
                        have hT387 := yTq_rk hT368 (yRq_set hs384 zc_199 (by decide))
                        have hE388 : yqs f s383 = yPn f 0 99 (yPx f s0) := (yqs_rk (yRq_set hs384 zc_199 (by decide))).trans hE371
                        have e389 : s383 164 2 = s361 164 2 := by rw [← hs384]; exact zset_k (zne_r zc_164 zc_199 (by decide))
                        have e390 : s383 164 5 = s361 164 5 := by rw [← hs384]; exact zset_k (zne_r zc_164 zc_199 (by decide))
                        have e391 : s383 164 48 = s361 164 48 := by rw [← hs384]; exact zset_k (zne_r zc_164 zc_199 (by decide))
                        have e392 : s383 164 49 = s361 164 49 := by rw [← hs384]; exact zset_k (zne_r zc_164 zc_199 (by decide))
                        have e393 : s383 194 0 = s361 194 0 := by rw [← hs384]; exact zset_k (zne_r zc_194 zc_199 (by decide))
                        have e394 : s383 194 1 = s361 194 1 := by rw [← hs384]; exact zset_k (zne_r zc_194 zc_199 (by decide))
                        refine zt_goto (tgt := 173) hX dX12_statementTold_122 (by decide) ?_
                        refine zt_aload_n (pc' := 174) hX dX12_statementTold_173 rfl rfl ?_
                        refine zt_bipush (pc' := 176) hX dX12_statementTold_174 rfl (by decide) (by decide) ?_
                        refine zt_cVv (pc' := 179) hX dX12_statementTold_176 rfl zm_yX12_asksSign zw_27_10 zc_164 (by decide) zs_46 (q := (RX12, TX12, 108)) rfl rfl (yc_X12_asksSign _ _ s383 hI385 59 ⟨by omega, by omega⟩ (by omega) f hT387) rfl rfl (Nat.le_of_ble_eq_true rfl) (by decide) (fun r395 s396 hr397 hp398 => ?_)
                        obtain ⟨hI399, hF400, hT401, z402⟩ := hp398
                        have hE403 : yqs f s396 = yPs f 59 (yPn f 0 99 (yPx f s0)) := by rw [z402, hE388]
                        have hF404 := zOn_tr hF386 hF400 zi_13
                        have b405 := zv_46_2 hI399 zc_164
                        have b406 := zv_46_5 hI399 zc_164
                        have b407 := zv_46_48 hI399 zc_164
                        have b408 := zv_46_49 hI399 zc_164
                        have e409 := hF400 164 48 rfl
                        have e410 := hF400 164 49 rfl
                        have e411 := hF400 194 0 rfl
                        have e412 := hF400 194 1 rfl
                        refine zt_aload_n (pc' := 180) hX dX12_statementTold_179 rfl rfl ?_
                        refine zt_dup (pc' := 181) hX dX12_statementTold_180 rfl rfl ?_
                        have b413 := zv_46_49 hI399 zc_164
                        refine zt_get (pc' := 184) (v := .int (zI (s396 164 49))) hX dX12_statementTold_181 rfl zf_X12_351 (by decide) zc_164 zs_46 rfl ?_
                        refine zt_iconst (pc' := 185) hX dX12_statementTold_184 rfl ?_
                        refine zt_iadd (pc' := 186) hX dX12_statementTold_185 rfl ?_
                        refine zt_wrap (fun r414 zr414 lr414 ur414 => ?_)
                        replace zr414 := ywr_eq zr414
                        refine zt_put (pc' := 189) (x := r414) hX dX12_statementTold_186 rfl zf_X12_351 (by decide) zc_164 zs_46 (fun q hq => by cases hq; rfl) rfl rfl rfl ?_
                        generalize hs416 : zset s396 164 49 r414 = s415
                        have hI417 : zInv s415 := hs416 ▸ zp_46_49 hI399 zc_164 ⟨by omega, by omega⟩
                        have hF418 : zOn zQ3 σ s415 := hs416 ▸ zOn_set hF404 (by decide)
                        have e419 : s415 164 2 = s396 164 2 := by rw [← hs416]; exact zset_j (by decide)
                        have e420 : s415 164 5 = s396 164 5 := by rw [← hs416]; exact zset_j (by decide)
                        have e421 : s415 164 48 = s396 164 48 := by rw [← hs416]; exact zset_j (by decide)
                        have e422 : s415 164 49 = r414 := by rw [← hs416]; exact zset_s
                        have e423 : s415 194 0 = s396 194 0 := by rw [← hs416]; exact zset_k (zne_r zc_194 zc_164 (by decide))
                        have e424 : s415 194 1 = s396 194 1 := by rw [← hs416]; exact zset_k (zne_r zc_194 zc_164 (by decide))
                        have hT425 := yTq_rk hT401 (yRq_j hs416 (by decide))
                        have hE426 : yqs f s415 = yPs f 59 (yPn f 0 99 (yPx f s0)) := (yqs_rk (yRq_j hs416 (by decide))).trans hE403
                        exact zt_vret hX hR dX12_statementTold_189 ⟨hI417, hF418, hT425, hE426.trans (yStE_n (by omega) (yStm_9 (P := yPlr σ) (Or.inl c356)).1), (fun o => by rw [hE426] at o ⊢; exact ⟨by rw [← (yStm_9 (P := yPlr σ) (Or.inl c356)).2]; exact (yTe_k (yTe_1 (yTe_st (yTe_1 (yTe_1 (yTe_1 (yTe_1 (yTe_1 (yTe_1 hTe hF13) hF95) hF177) hF258) hF339) hF365) hs384 (hz381 (yPo_s o))) hF400) hs416 (by decide)), yCo_a hT.1 hq0 (ymn_tr (ymn_x hT.1) (ymn_n hT.1)) o (by omega), by omega⟩), ⟨by omega, by omega⟩⟩
                    · clear z344
                      have hE427 : yqs f s335 = s0 := hE346.trans (if_neg c356)
                      have u428 := yHb1 hE427 o0
                      refine zt_ifeq (pc' := 109) (tgt := 125) hX dX12_statementTold_106 rfl (by decide) ⟨by omega, by omega⟩ (fun c429 => ?_) (fun c429 => ?_)
                      · refine zt_aload_n (pc' := 126) hX dX12_statementTold_125 rfl rfl ?_
                        refine zt_aload_n (pc' := 127) hX dX12_statementTold_126 rfl rfl ?_
                        refine zt_get (pc' := 130) (v := .ref (X.1.1 + 177)) hX dX12_statementTold_127 rfl zf_X12_51 (by decide) zc_164 zs_46 (zrf_of (zv_46_21 hI338 zc_164)) ?_
                        refine zt_cVz (pc' := 133) hX dX12_statementTold_130 rfl zm_yX12_takes zw_26_4 zc_164 (by decide) zs_46 (q := (RX12, TX12, 108)) rfl rfl (yc_X12_takes _ _ s335 hI338 177 59 5 zc_177 (by decide) zs_59 (by decide) f hT342 10 (yrow_177 (yWd_3 hWd hF347)) (by decide)) rfl rfl (Nat.le_of_ble_eq_true rfl) (by decide) (fun r430 s431 hr432 hp433 => ?_)
                        obtain ⟨hI434, hF435, q436, q437, hT438, z439, z440, z441⟩ := hp433
                        have hE442 : yqs f s431 = yPt f 10 s0 := by rw [z439, hE427]
                        rw [hE427] at z440
                        rw [hE427] at z441
                        have hF443 := zOn_tr hF347 hF435 zi_13
                        have b444 := zv_46_2 hI434 zc_164
                        have b445 := zv_46_5 hI434 zc_164
                        have b446 := zv_46_48 hI434 zc_164
                        have b447 := zv_46_49 hI434 zc_164
                        have e448 := hF435 164 48 rfl
                        have e449 := hF435 164 49 rfl
                        have e450 := hF435 194 0 rfl
                        have e451 := hF435 194 1 rfl
                        clear z441
                        rcases yspl z440 with ⟨rfl, c452⟩ | ⟨rfl, c452⟩
                        · clear z440
                          have hE453 : yqs f s431 = yPx f s0 := hE442.trans (if_pos c452)
                          have u454 := yHb1 hE453 (yPo_px.trans o0)
                          refine zt_ifeq (pc' := 136) (tgt := 152) hX dX12_statementTold_133 rfl (by decide) ⟨by omega, by omega⟩ (fun c455 => ?_) (fun c455 => ?_)
                          · exact absurd c455 (by omega)
                          · refine zt_aload_n (pc' := 137) hX dX12_statementTold_136 rfl rfl ?_
                            refine zt_get (pc' := 140) (v := .ref (X.1.1 + 199)) hX dX12_statementTold_137 rfl zf_X12_118 (by decide) zc_164 zs_46 (zrf_of (zv_46_44 hI434 zc_164)) ?_
                            refine zt_iconst (pc' := 141) hX dX12_statementTold_140 rfl ?_
                            refine zt_aload_n (pc' := 142) hX dX12_statementTold_141 rfl rfl ?_
                            refine zt_iconst (pc' := 143) hX dX12_statementTold_142 rfl ?_
                            refine zt_bipush (pc' := 145) hX dX12_statementTold_143 rfl (by decide) (by decide) ?_
                            refine zt_cVi (pc' := 148) hX dX12_statementTold_145 rfl zm_yX12_number zw_26_23 zc_164 (by decide) zs_46 (q := (RX12, TX12, 108)) rfl rfl (yc_X12_number _ _ s431 hI434 0 ⟨by omega, by omega⟩ 99 ⟨by omega, by omega⟩ f hT438) rfl rfl (Nat.le_of_ble_eq_true rfl) (by decide) (fun r456 s457 hr458 hp459 => ?_)
                            obtain ⟨hI460, hF461, q462, q463, hT464, z465, z466⟩ := hp459
                            have hE467 : yqs f s457 = yPn f 0 99 (yPx f s0) := by rw [z465, hE453]
                            rw [hE453] at z466
                            have hF468 := zOn_tr hF443 hF461 zi_13
                            rw [hE467] at z466
                            have b469 := zv_46_2 hI460 zc_164
                            have b470 := zv_46_5 hI460 zc_164
                            have b471 := zv_46_48 hI460 zc_164
                            have b472 := zv_46_49 hI460 zc_164
                            have e473 := hF461 164 48 rfl
                            have e474 := hF461 164 49 rfl
                            have e475 := hF461 194 0 rfl
                            have e476 := hF461 194 1 rfl
                            have hz477 : yZm (yPn f 0 99 (yPx f s0)) 0 100 r456 := fun o => by have t := (z466 o).2.2; omega
                            clear z466
                            refine zt_iast (pc' := 149) hX dX12_statementTold_148 rfl (by decide) zc_199 zs_81 (by decide) ⟨by omega, by omega⟩ ?_
                            rw [show Int.toNat 1 = 1 from rfl]
                            generalize hs480 : zset s457 199 1 r456 = s479
                            have hI481 : zInv s479 := hs480 ▸ zp_81 hI460 zc_199 1 (by omega)
                            have hF482 : zOn zQ3 σ s479 := hs480 ▸ zOn_set hF468 (by decide)
                            have hT483 := yTq_rk hT464 (yRq_set hs480 zc_199 (by decide))
                            have hE484 : yqs f s479 = yPn f 0 99 (yPx f s0) := (yqs_rk (yRq_set hs480 zc_199 (by decide))).trans hE467
                            have e485 : s479 164 2 = s457 164 2 := by rw [← hs480]; exact zset_k (zne_r zc_164 zc_199 (by decide))
                            have e486 : s479 164 5 = s457 164 5 := by rw [← hs480]; exact zset_k (zne_r zc_164 zc_199 (by decide))
                            have e487 : s479 164 48 = s457 164 48 := by rw [← hs480]; exact zset_k (zne_r zc_164 zc_199 (by decide))
                            have e488 : s479 164 49 = s457 164 49 := by rw [← hs480]; exact zset_k (zne_r zc_164 zc_199 (by decide))
                            have e489 : s479 194 0 = s457 194 0 := by rw [← hs480]; exact zset_k (zne_r zc_194 zc_199 (by decide))
                            have e490 : s479 194 1 = s457 194 1 := by rw [← hs480]; exact zset_k (zne_r zc_194 zc_199 (by decide))
                            refine zt_goto (tgt := 173) hX dX12_statementTold_149 (by decide) ?_
                            refine zt_aload_n (pc' := 174) hX dX12_statementTold_173 rfl rfl ?_
                            refine zt_bipush (pc' := 176) hX dX12_statementTold_174 rfl (by decide) (by decide) ?_
                            refine zt_cVv (pc' := 179) hX dX12_statementTold_176 rfl zm_yX12_asksSign zw_27_10 zc_164 (by decide) zs_46 (q := (RX12, TX12, 108)) rfl rfl (yc_X12_asksSign _ _ s479 hI481 59 ⟨by omega, by omega⟩ (by omega) f hT483) rfl rfl (Nat.le_of_ble_eq_true rfl) (by decide) (fun r491 s492 hr493 hp494 => ?_)
                            obtain ⟨hI495, hF496, hT497, z498⟩ := hp494
                            have hE499 : yqs f s492 = yPs f 59 (yPn f 0 99 (yPx f s0)) := by rw [z498, hE484]
                            have hF500 := zOn_tr hF482 hF496 zi_13
                            have b501 := zv_46_2 hI495 zc_164
                            have b502 := zv_46_5 hI495 zc_164
                            have b503 := zv_46_48 hI495 zc_164
                            have b504 := zv_46_49 hI495 zc_164
                            have e505 := hF496 164 48 rfl
                            have e506 := hF496 164 49 rfl
                            have e507 := hF496 194 0 rfl
                            have e508 := hF496 194 1 rfl
                            refine zt_aload_n (pc' := 180) hX dX12_statementTold_179 rfl rfl ?_
                            refine zt_dup (pc' := 181) hX dX12_statementTold_180 rfl rfl ?_
                            have b509 := zv_46_49 hI495 zc_164
                            refine zt_get (pc' := 184) (v := .int (zI (s492 164 49))) hX dX12_statementTold_181 rfl zf_X12_351 (by decide) zc_164 zs_46 rfl ?_
                            refine zt_iconst (pc' := 185) hX dX12_statementTold_184 rfl ?_
                            refine zt_iadd (pc' := 186) hX dX12_statementTold_185 rfl ?_
                            refine zt_wrap (fun r510 zr510 lr510 ur510 => ?_)
                            replace zr510 := ywr_eq zr510
                            refine zt_put (pc' := 189) (x := r510) hX dX12_statementTold_186 rfl zf_X12_351 (by decide) zc_164 zs_46 (fun q hq => by cases hq; rfl) rfl rfl rfl ?_
                            generalize hs512 : zset s492 164 49 r510 = s511
                            have hI513 : zInv s511 := hs512 ▸ zp_46_49 hI495 zc_164 ⟨by omega, by omega⟩
                            have hF514 : zOn zQ3 σ s511 := hs512 ▸ zOn_set hF500 (by decide)
                            have e515 : s511 164 2 = s492 164 2 := by rw [← hs512]; exact zset_j (by decide)
                            have e516 : s511 164 5 = s492 164 5 := by rw [← hs512]; exact zset_j (by decide)
                            have e517 : s511 164 48 = s492 164 48 := by rw [← hs512]; exact zset_j (by decide)
                            have e518 : s511 164 49 = r510 := by rw [← hs512]; exact zset_s
                            have e519 : s511 194 0 = s492 194 0 := by rw [← hs512]; exact zset_k (zne_r zc_194 zc_164 (by decide))
                            have e520 : s511 194 1 = s492 194 1 := by rw [← hs512]; exact zset_k (zne_r zc_194 zc_164 (by decide))
                            have hT521 := yTq_rk hT497 (yRq_j hs512 (by decide))
                            have hE522 : yqs f s511 = yPs f 59 (yPn f 0 99 (yPx f s0)) := (yqs_rk (yRq_j hs512 (by decide))).trans hE499
                            exact zt_vret hX hR dX12_statementTold_189 ⟨hI513, hF514, hT521, hE522.trans (yStE_n (by omega) (yStm_9 (P := yPlr σ) (Or.inr c452)).1), (fun o => by rw [hE522] at o ⊢; exact ⟨by rw [← (yStm_9 (P := yPlr σ) (Or.inr c452)).2]; exact (yTe_k (yTe_1 (yTe_st (yTe_1 (yTe_1 (yTe_1 (yTe_1 (yTe_1 (yTe_1 (yTe_1 hTe hF13) hF95) hF177) hF258) hF339) hF435) hF461) hs480 (hz477 (yPo_s o))) hF496) hs512 (by decide)), yCo_a hT.1 hq0 (ymn_tr (ymn_x hT.1) (ymn_n hT.1)) o (by omega), by omega⟩), ⟨by omega, by omega⟩⟩
                        · clear z440
                          have hE523 : yqs f s431 = s0 := hE442.trans (if_neg c452)
                          have u524 := yHb1 hE523 o0
                          refine zt_ifeq (pc' := 136) (tgt := 152) hX dX12_statementTold_133 rfl (by decide) ⟨by omega, by omega⟩ (fun c525 => ?_) (fun c525 => ?_)
                          · refine zt_aload_n (pc' := 153) hX dX12_statementTold_152 rfl rfl ?_
                            refine zt_aload_n (pc' := 154) hX dX12_statementTold_153 rfl rfl ?_
                            refine zt_get (pc' := 157) (v := .ref (X.1.1 + 178)) hX dX12_statementTold_154 rfl zf_X12_54 (by decide) zc_164 zs_46 (zrf_of (zv_46_22 hI434 zc_164)) ?_
                            refine zt_cVv (pc' := 160) hX dX12_statementTold_157 rfl zm_yX12_asks zw_26_0 zc_164 (by decide) zs_46 (q := (RX12, TX12, 108)) rfl rfl (yc_X12_asks _ _ s431 hI434 178 60 4 zc_178 (by decide) zs_60 (by decide) f hT438 11 (yrow_178 (yWd_3 hWd hF443)) (by decide)) rfl rfl (Nat.le_of_ble_eq_true rfl) (by decide) (fun r526 s527 hr528 hp529 => ?_)
                            obtain ⟨hI530, hF531, hT532, z533⟩ := hp529
                            have hE534 : yqs f s527 = yPw f 11 s0 := by rw [z533, hE523]
                            have hF535 := zOn_tr hF443 hF531 zi_13
                            have b536 := zv_46_2 hI530 zc_164
                            have b537 := zv_46_5 hI530 zc_164
                            have b538 := zv_46_48 hI530 zc_164
                            have b539 := zv_46_49 hI530 zc_164
                            have e540 := hF531 164 48 rfl
                            have e541 := hF531 164 49 rfl
                            have e542 := hF531 194 0 rfl
                            have e543 := hF531 194 1 rfl
                            refine zt_aload_n (pc' := 161) hX dX12_statementTold_160 rfl rfl ?_
                            refine zt_get (pc' := 164) (v := .ref (X.1.1 + 199)) hX dX12_statementTold_161 rfl zf_X12_118 (by decide) zc_164 zs_46 (zrf_of (zv_46_44 hI530 zc_164)) ?_
                            refine zt_iconst (pc' := 165) hX dX12_statementTold_164 rfl ?_
                            refine zt_aload_n (pc' := 166) hX dX12_statementTold_165 rfl rfl ?_
                            refine zt_iconst (pc' := 167) hX dX12_statementTold_166 rfl ?_
                            refine zt_bipush (pc' := 169) hX dX12_statementTold_167 rfl (by decide) (by decide) ?_
                            refine zt_cVi (pc' := 172) hX dX12_statementTold_169 rfl zm_yX12_number zw_26_23 zc_164 (by decide) zs_46 (q := (RX12, TX12, 108)) rfl rfl (yc_X12_number _ _ s527 hI530 0 ⟨by omega, by omega⟩ 100 ⟨by omega, by omega⟩ f hT532) rfl rfl (Nat.le_of_ble_eq_true rfl) (by decide) (fun r544 s545 hr546 hp547 => ?_)
                            obtain ⟨hI548, hF549, q550, q551, hT552, z553, z554⟩ := hp547
                            have hE555 : yqs f s545 = yPn f 0 100 (yPw f 11 s0) := by rw [z553, hE534]
                            rw [hE534] at z554
                            have hF556 := zOn_tr hF535 hF549 zi_13
                            rw [hE555] at z554
                            have b557 := zv_46_2 hI548 zc_164
                            have b558 := zv_46_5 hI548 zc_164
                            have b559 := zv_46_48 hI548 zc_164
                            have b560 := zv_46_49 hI548 zc_164
                            have e561 := hF549 164 48 rfl
                            have e562 := hF549 164 49 rfl
                            have e563 := hF549 194 0 rfl
                            have e564 := hF549 194 1 rfl
                            have hz565 : yZm (yPn f 0 100 (yPw f 11 s0)) 0 100 r544 := fun o => by have t := (z554 o).2.2; omega
                            clear z554
                            refine zt_iast (pc' := 173) hX dX12_statementTold_172 rfl (by decide) zc_199 zs_81 (by decide) ⟨by omega, by omega⟩ ?_
                            rw [show Int.toNat 2 = 2 from rfl]
                            generalize hs568 : zset s545 199 2 r544 = s567
                            have hI569 : zInv s567 := hs568 ▸ zp_81 hI548 zc_199 2 (by omega)
                            have hF570 : zOn zQ3 σ s567 := hs568 ▸ zOn_set hF556 (by decide)
                            have hT571 := yTq_rk hT552 (yRq_set hs568 zc_199 (by decide))
                            have hE572 : yqs f s567 = yPn f 0 100 (yPw f 11 s0) := (yqs_rk (yRq_set hs568 zc_199 (by decide))).trans hE555
                            have e573 : s567 164 2 = s545 164 2 := by rw [← hs568]; exact zset_k (zne_r zc_164 zc_199 (by decide))
                            have e574 : s567 164 5 = s545 164 5 := by rw [← hs568]; exact zset_k (zne_r zc_164 zc_199 (by decide))
                            have e575 : s567 164 48 = s545 164 48 := by rw [← hs568]; exact zset_k (zne_r zc_164 zc_199 (by decide))
                            have e576 : s567 164 49 = s545 164 49 := by rw [← hs568]; exact zset_k (zne_r zc_164 zc_199 (by decide))
                            have e577 : s567 194 0 = s545 194 0 := by rw [← hs568]; exact zset_k (zne_r zc_194 zc_199 (by decide))
                            have e578 : s567 194 1 = s545 194 1 := by rw [← hs568]; exact zset_k (zne_r zc_194 zc_199 (by decide))
                            refine zt_aload_n (pc' := 174) hX dX12_statementTold_173 rfl rfl ?_
                            refine zt_bipush (pc' := 176) hX dX12_statementTold_174 rfl (by decide) (by decide) ?_
                            refine zt_cVv (pc' := 179) hX dX12_statementTold_176 rfl zm_yX12_asksSign zw_27_10 zc_164 (by decide) zs_46 (q := (RX12, TX12, 108)) rfl rfl (yc_X12_asksSign _ _ s567 hI569 59 ⟨by omega, by omega⟩ (by omega) f hT571) rfl rfl (Nat.le_of_ble_eq_true rfl) (by decide) (fun r579 s580 hr581 hp582 => ?_)
                            obtain ⟨hI583, hF584, hT585, z586⟩ := hp582
                            have hE587 : yqs f s580 = yPs f 59 (yPn f 0 100 (yPw f 11 s0)) := by rw [z586, hE572]
                            have hF588 := zOn_tr hF570 hF584 zi_13
                            have b589 := zv_46_2 hI583 zc_164
                            have b590 := zv_46_5 hI583 zc_164
                            have b591 := zv_46_48 hI583 zc_164
                            have b592 := zv_46_49 hI583 zc_164
                            have e593 := hF584 164 48 rfl
                            have e594 := hF584 164 49 rfl
                            have e595 := hF584 194 0 rfl
                            have e596 := hF584 194 1 rfl
                            refine zt_aload_n (pc' := 180) hX dX12_statementTold_179 rfl rfl ?_
                            refine zt_dup (pc' := 181) hX dX12_statementTold_180 rfl rfl ?_
                            have b597 := zv_46_49 hI583 zc_164
                            refine zt_get (pc' := 184) (v := .int (zI (s580 164 49))) hX dX12_statementTold_181 rfl zf_X12_351 (by decide) zc_164 zs_46 rfl ?_
                            refine zt_iconst (pc' := 185) hX dX12_statementTold_184 rfl ?_
                            refine zt_iadd (pc' := 186) hX dX12_statementTold_185 rfl ?_
                            refine zt_wrap (fun r598 zr598 lr598 ur598 => ?_)
                            replace zr598 := ywr_eq zr598
                            refine zt_put (pc' := 189) (x := r598) hX dX12_statementTold_186 rfl zf_X12_351 (by decide) zc_164 zs_46 (fun q hq => by cases hq; rfl) rfl rfl rfl ?_
                            generalize hs600 : zset s580 164 49 r598 = s599
                            have hI601 : zInv s599 := hs600 ▸ zp_46_49 hI583 zc_164 ⟨by omega, by omega⟩
                            have hF602 : zOn zQ3 σ s599 := hs600 ▸ zOn_set hF588 (by decide)
                            have e603 : s599 164 2 = s580 164 2 := by rw [← hs600]; exact zset_j (by decide)
                            have e604 : s599 164 5 = s580 164 5 := by rw [← hs600]; exact zset_j (by decide)
                            have e605 : s599 164 48 = s580 164 48 := by rw [← hs600]; exact zset_j (by decide)
                            have e606 : s599 164 49 = r598 := by rw [← hs600]; exact zset_s
                            have e607 : s599 194 0 = s580 194 0 := by rw [← hs600]; exact zset_k (zne_r zc_194 zc_164 (by decide))
                            have e608 : s599 194 1 = s580 194 1 := by rw [← hs600]; exact zset_k (zne_r zc_194 zc_164 (by decide))
                            have hT609 := yTq_rk hT585 (yRq_j hs600 (by decide))
                            have hE610 : yqs f s599 = yPs f 59 (yPn f 0 100 (yPw f 11 s0)) := (yqs_rk (yRq_j hs600 (by decide))).trans hE587
                            exact zt_vret hX hR dX12_statementTold_189 ⟨hI601, hF602, hT609, hE610.trans (yStE_n (by omega) (yStm_h (P := yPlr σ) ⟨c30, c112, c194, c275, c356, c452⟩).1), (fun o => by rw [hE610] at o ⊢; exact ⟨by rw [← (yStm_h (P := yPlr σ) ⟨c30, c112, c194, c275, c356, c452⟩).2]; exact (yTe_k (yTe_1 (yTe_st (yTe_1 (yTe_1 (yTe_1 (yTe_1 (yTe_1 (yTe_1 (yTe_1 (yTe_1 hTe hF13) hF95) hF177) hF258) hF339) hF435) hF531) hF549) hs568 (hz565 (yPo_s o))) hF584) hs600 (by decide)), yCo_a hT.1 hq0 (ymn_tr (ymn_w hT.1) (ymn_n hT.1)) o (by omega), by omega⟩), ⟨by omega, by omega⟩⟩
                          · exact absurd c525 (by omega)
                      · exact absurd c429 (by omega)
                  · exact absurd c333 (by omega)
              · exact absurd c252 (by omega)
          · exact absurd c171 (by omega)
      · exact absurd c89 (by omega)
  · refine zt_aload_n (pc' := 15) hX dX12_statementTold_14 rfl rfl ?_
    refine zt_iconst (pc' := 16) hX dX12_statementTold_15 rfl ?_
    refine zt_iload_n (pc' := 17) hX dX12_statementTold_16 rfl rfl ?_
    refine zt_cVv (pc' := 20) hX dX12_statementTold_17 rfl zm_yX12_fail zw_26_19 zc_164 (by decide) zs_46 (q := (RX12, TX12, 108)) rfl rfl (yc_X12_fail _ _ σ hI 5 ⟨by omega, by omega⟩ (σ 164 2) ⟨by omega, by omega⟩ f (yTq_w hT)) rfl rfl (Nat.le_of_ble_eq_true rfl) (by decide) (fun r611 s612 hr613 hp614 => ?_)
    obtain ⟨hI615, hF616, hT617, z618, z619⟩ := hp614
    have hE620 : yqs f s612 = yPno 5 (σ 164 2) s0 := by rw [z618, h0]
    have hF621 := zOn_tr hF hF616 zi_13
    have b622 := zv_46_2 hI615 zc_164
    have b623 := zv_46_5 hI615 zc_164
    have b624 := zv_46_48 hI615 zc_164
    have b625 := zv_46_49 hI615 zc_164
    have e626 := hF616 164 48 rfl
    have e627 := hF616 164 49 rfl
    have e628 := hF616 194 0 rfl
    have e629 := hF616 194 1 rfl
    exact zt_vret hX hR dX12_statementTold_20 ⟨hI615, hF621, hT617, hE620.trans (yStE_m (by omega) (by omega)), (fun o => by rw [hE620, yPo_no] at o; exact absurd o (by decide)), ⟨by omega, by omega⟩⟩
