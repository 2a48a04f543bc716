set_option maxRecDepth 100000 in
set_option maxHeartbeats 4000000 in
theorem yc_X12_codesTold_0 (l : Launch) (E : zEN) (σ : zSto) (hI : zInv σ) (a2_ : Int) (ha2_ : 0 ≤ a2_ ∧ a2_ ≤ 1600) (hpre0 : σ 164 5 = 0) (f : Int → Int) (hT : yTq f σ) (s0 : yP) (h0 : yqs f σ = yPx f s0) (o0 : yPo s0 = 1) (hbg : a2_ = yPq s0) (hWd : yWd σ) (hTe : yTe (yPlr σ) σ) (hco : σ 164 48 ≤ yPq (yPx f s0)) : zCt l E yX12_codesTold cX12_codesTold 4 none 7 zNC zNC 0 0 σ [.ref (E.1 + 164), .int (zI 0), .int (zI a2_)] (fun r σ' => zInv σ' ∧ zOn zQ6 σ σ' ∧ yTq f σ' ∧ ((yqs f σ') = yAds f (yPlr σ) s0) ∧ (yPo (yqs f σ') = 1 → yTe (yPl.wad (yPlr σ) 1) σ' ∧ σ' 164 48 ≤ yPq (yqs f σ'))) := by
  refine zCt_of2 [some (.ref (E.1 + 164)), some (.int (zI 0)), some (.int (zI a2_)), none] (by decide +kernel) (Nat.le_of_ble_eq_true rfl) rfl ?_
  intro X hE_ hX hR hL hN
  subst hE_
  have hX : zok X cX12_codesTold RX12 7 := hX
  have hF := zOn_rf zQ6 σ
  have hE0 : yqs f σ = yqs f σ := rfl
  have ho1 : yPo (yPx f s0) = 1 := yPo_px.trans o0
  have b1 := zv_46_2 hI zc_164
  have b2 := zv_46_5 hI zc_164
  have b3 := zv_46_97 hI zc_164
  have b4 := zv_46_99 hI zc_164
  have b5 := zv_46_100 hI zc_164
  have b6 := zv_46_101 hI zc_164
  have b7 := zv_46_51 hI zc_164
  have b8 := zv_46_48 hI zc_164
  have b9 := zv_82 hI zc_200 0
  refine zt_aload_n (pc' := 1) hX dX12_codesTold_0 rfl rfl ?_
  have b10 := zv_46_5 hI zc_164
  refine zt_get (pc' := 4) (v := .int (zI (σ 164 5))) hX dX12_codesTold_1 rfl zf_X12_246 (by decide) zc_164 zs_46 rfl ?_
  refine zt_ifne (pc' := 7) (tgt := 23) hX dX12_codesTold_4 rfl (by decide) ⟨by omega, by omega⟩ (fun c11 => ?_) (fun c11 => ?_)
  · exact absurd c11 (by omega)
  · refine zt_aload_n (pc' := 8) hX dX12_codesTold_7 rfl rfl ?_
    refine zt_get (pc' := 11) (v := .ref (X.1.1 + 200)) hX dX12_codesTold_8 rfl zf_X12_121 (by decide) zc_164 zs_46 (zrf_of (zv_46_45 hI zc_164)) ?_
    refine zt_iload_n (pc' := 12) hX dX12_codesTold_11 rfl rfl ?_
    refine zt_iald (pc' := 13) hX dX12_codesTold_12 rfl (by decide) zc_200 zs_82 (by decide) ⟨by omega, by omega⟩ ?_
    rw [show Int.toNat 0 = 0 from rfl]
    have b13 := zv_82 hI zc_200 0
    refine zt_iconst (pc' := 14) hX dX12_codesTold_13 rfl ?_
    refine zt_iceq (pc' := 17) (tgt := 23) hX dX12_codesTold_14 rfl (by decide) ⟨by omega, by omega⟩ ⟨by omega, by omega⟩ (fun c14 => ?_) (fun c14 => ?_)
    · refine zt_aload_n (pc' := 24) hX dX12_codesTold_23 rfl rfl ?_
      refine zt_get (pc' := 27) (v := .int (zI (σ 164 5))) hX dX12_codesTold_24 rfl zf_X12_246 (by decide) zc_164 zs_46 rfl ?_
      refine zt_ifeq (pc' := 30) (tgt := 31) hX dX12_codesTold_27 rfl (by decide) ⟨by omega, by omega⟩ (fun c15 => ?_) (fun c15 => ?_)
      · refine zt_aload_n (pc' := 32) hX dX12_codesTold_31 rfl rfl ?_
        refine zt_iload_n (pc' := 33) hX dX12_codesTold_32 rfl rfl ?_
        refine zt_put (pc' := 36) (x := 0) hX dX12_codesTold_33 rfl zf_X12_304 (by decide) zc_164 zs_46 (fun q hq => by cases hq; rfl) rfl rfl rfl ?_
        generalize hs17 : zset σ 164 51 0 = s16
        have hI18 : zInv s16 := hs17 ▸ zp_46_51 hI zc_164 ⟨by omega, by omega⟩
        have hF19 : zOn zQ6 σ s16 := hs17 ▸ zOn_set hF (by decide)
        have e20 : s16 164 2 = σ 164 2 := by rw [← hs17]; exact zset_j (by decide)
        have e21 : s16 164 5 = σ 164 5 := by rw [← hs17]; exact zset_j (by decide)
        have e22 : s16 164 97 = σ 164 97 := by rw [← hs17]; exact zset_j (by decide)
        have e23 : s16 164 99 = σ 164 99 := by rw [← hs17]; exact zset_j (by decide)
        have e24 : s16 164 100 = σ 164 100 := by rw [← hs17]; exact zset_j (by decide)
        have e25 : s16 164 101 = σ 164 101 := by rw [← hs17]; exact zset_j (by decide)
        have e26 : s16 164 51 = 0 := by rw [← hs17]; exact zset_s
        have e27 : s16 164 48 = σ 164 48 := by rw [← hs17]; exact zset_j (by decide)
        have e28 : s16 200 0 = σ 200 0 := by rw [← hs17]; exact zset_k (zne_r zc_200 zc_164 (by decide))
        have hT29 := yTq_rk hT (yRq_j hs17 (by decide))
        have hE30 : yqs f s16 = yPx f s0 := (yqs_rk (yRq_j hs17 (by decide))).trans h0
        have t31 : yTe (yPlr σ) s16 := yTe_k hTe hs17 (by decide)
        refine zt_aload_n (pc' := 37) hX dX12_codesTold_36 rfl rfl ?_
        refine zt_iconst (pc' := 38) hX dX12_codesTold_37 rfl ?_
        refine zt_put (pc' := 41) (x := 0) hX dX12_codesTold_38 rfl zf_X12_330 (by decide) zc_164 zs_46 (fun q hq => by cases hq; rfl) rfl rfl rfl ?_
        generalize hs33 : zset s16 164 97 0 = s32
        have hI34 : zInv s32 := hs33 ▸ zp_46_97 hI18 zc_164 ⟨by omega, by omega⟩
        have hF35 : zOn zQ6 σ s32 := hs33 ▸ zOn_set hF19 (by decide)
        have e36 : s32 164 2 = s16 164 2 := by rw [← hs33]; exact zset_j (by decide)
        have e37 : s32 164 5 = s16 164 5 := by rw [← hs33]; exact zset_j (by decide)
        have e38 : s32 164 97 = 0 := by rw [← hs33]; exact zset_s
        have e39 : s32 164 99 = s16 164 99 := by rw [← hs33]; exact zset_j (by decide)
        have e40 : s32 164 100 = s16 164 100 := by rw [← hs33]; exact zset_j (by decide)
        have e41 : s32 164 101 = s16 164 101 := by rw [← hs33]; exact zset_j (by decide)
        have e42 : s32 164 51 = s16 164 51 := by rw [← hs33]; exact zset_j (by decide)
        have e43 : s32 164 48 = s16 164 48 := by rw [← hs33]; exact zset_j (by decide)
        have e44 : s32 200 0 = s16 200 0 := by rw [← hs33]; exact zset_k (zne_r zc_200 zc_164 (by decide))
        have hT45 := yTq_rk hT29 (yRq_j hs33 (by decide))
        have hE46 : yqs f s32 = yPx f s0 := (yqs_rk (yRq_j hs33 (by decide))).trans hE30
        have t47 : yTe (yPlr σ) s32 := yTe_k t31 hs33 (by decide)
        refine zt_aload_n (pc' := 42) hX dX12_codesTold_41 rfl rfl ?_
        refine zt_iconst (pc' := 43) hX dX12_codesTold_42 rfl ?_
        refine zt_put (pc' := 46) (x := 0) hX dX12_codesTold_43 rfl zf_X12_333 (by decide) zc_164 zs_46 (fun q hq => by cases hq; rfl) rfl rfl rfl ?_
        generalize hs49 : zset s32 164 99 0 = s48
        have hI50 : zInv s48 := hs49 ▸ zp_46_99 hI34 zc_164 ⟨by omega, by omega⟩
        have hF51 : zOn zQ6 σ s48 := hs49 ▸ zOn_set hF35 (by decide)
        have e52 : s48 164 2 = s32 164 2 := by rw [← hs49]; exact zset_j (by decide)
        have e53 : s48 164 5 = s32 164 5 := by rw [← hs49]; exact zset_j (by decide)
        have e54 : s48 164 97 = s32 164 97 := by rw [← hs49]; exact zset_j (by decide)
        have e55 : s48 164 99 = 0 := by rw [← hs49]; exact zset_s
        have e56 : s48 164 100 = s32 164 100 := by rw [← hs49]; exact zset_j (by decide)
        have e57 : s48 164 101 = s32 164 101 := by rw [← hs49]; exact zset_j (by decide)
        have e58 : s48 164 51 = s32 164 51 := by rw [← hs49]; exact zset_j (by decide)
        have e59 : s48 164 48 = s32 164 48 := by rw [← hs49]; exact zset_j (by decide)
        have e60 : s48 200 0 = s32 200 0 := by rw [← hs49]; exact zset_k (zne_r zc_200 zc_164 (by decide))
        have hT61 := yTq_rk hT45 (yRq_j hs49 (by decide))
        have hE62 : yqs f s48 = yPx f s0 := (yqs_rk (yRq_j hs49 (by decide))).trans hE46
        have t63 : yTe (yPlr σ) s48 := yTe_k t47 hs49 (by decide)
        refine zt_aload_n (pc' := 47) hX dX12_codesTold_46 rfl rfl ?_
        refine zt_iconst (pc' := 48) hX dX12_codesTold_47 rfl ?_
        refine zt_put (pc' := 51) (x := 0) hX dX12_codesTold_48 rfl zf_X12_336 (by decide) zc_164 zs_46 (fun q hq => by cases hq; rfl) rfl rfl rfl ?_
        generalize hs65 : zset s48 164 100 0 = s64
        have hI66 : zInv s64 := hs65 ▸ zp_46_100 hI50 zc_164 ⟨by omega, by omega⟩
        have hF67 : zOn zQ6 σ s64 := hs65 ▸ zOn_set hF51 (by decide)
        have e68 : s64 164 2 = s48 164 2 := by rw [← hs65]; exact zset_j (by decide)
        have e69 : s64 164 5 = s48 164 5 := by rw [← hs65]; exact zset_j (by decide)
        have e70 : s64 164 97 = s48 164 97 := by rw [← hs65]; exact zset_j (by decide)
        have e71 : s64 164 99 = s48 164 99 := by rw [← hs65]; exact zset_j (by decide)
        have e72 : s64 164 100 = 0 := by rw [← hs65]; exact zset_s
        have e73 : s64 164 101 = s48 164 101 := by rw [← hs65]; exact zset_j (by decide)
        have e74 : s64 164 51 = s48 164 51 := by rw [← hs65]; exact zset_j (by decide)
        have e75 : s64 164 48 = s48 164 48 := by rw [← hs65]; exact zset_j (by decide)
        have e76 : s64 200 0 = s48 200 0 := by rw [← hs65]; exact zset_k (zne_r zc_200 zc_164 (by decide))
        have hT77 := yTq_rk hT61 (yRq_j hs65 (by decide))
        have hE78 : yqs f s64 = yPx f s0 := (yqs_rk (yRq_j hs65 (by decide))).trans hE62
        have t79 : yTe (yPlr σ) s64 := yTe_k t63 hs65 (by decide)
        refine zt_aload_n (pc' := 52) hX dX12_codesTold_51 rfl rfl ?_
        refine zt_iconst (pc' := 53) hX dX12_codesTold_52 rfl ?_
        refine zt_put (pc' := 56) (x := 0) hX dX12_codesTold_53 rfl zf_X12_339 (by decide) zc_164 zs_46 (fun q hq => by cases hq; rfl) rfl rfl rfl ?_
        generalize hs81 : zset s64 164 101 0 = s80
        have hI82 : zInv s80 := hs81 ▸ zp_46_101 hI66 zc_164 ⟨by omega, by omega⟩
        have hF83 : zOn zQ6 σ s80 := hs81 ▸ zOn_set hF67 (by decide)
        have e84 : s80 164 2 = s64 164 2 := by rw [← hs81]; exact zset_j (by decide)
        have e85 : s80 164 5 = s64 164 5 := by rw [← hs81]; exact zset_j (by decide)
        have e86 : s80 164 97 = s64 164 97 := by rw [← hs81]; exact zset_j (by decide)
        have e87 : s80 164 99 = s64 164 99 := by rw [← hs81]; exact zset_j (by decide)
        have e88 : s80 164 100 = s64 164 100 := by rw [← hs81]; exact zset_j (by decide)
        have e89 : s80 164 101 = 0 := by rw [← hs81]; exact zset_s
        have e90 : s80 164 51 = s64 164 51 := by rw [← hs81]; exact zset_j (by decide)
        have e91 : s80 164 48 = s64 164 48 := by rw [← hs81]; exact zset_j (by decide)
        have e92 : s80 200 0 = s64 200 0 := by rw [← hs81]; exact zset_k (zne_r zc_200 zc_164 (by decide))
        have hT93 := yTq_rk hT77 (yRq_j hs81 (by decide))
        have hE94 : yqs f s80 = yPx f s0 := (yqs_rk (yRq_j hs81 (by decide))).trans hE78
        have t95 : yTe (yPlr σ) s80 := yTe_k t79 hs81 (by decide)
        refine zt_iload_n (pc' := 57) hX dX12_codesTold_56 rfl rfl ?_
        refine zt_iconst (pc' := 58) hX dX12_codesTold_57 rfl ?_
        refine zt_icne (pc' := 61) (tgt := 68) hX dX12_codesTold_58 rfl (by decide) ⟨by omega, by omega⟩ ⟨by omega, by omega⟩ (fun c96 => ?_) (fun c96 => ?_)
        · refine zt_aload_n (pc' := 69) hX dX12_codesTold_68 rfl rfl ?_
          refine zt_cVv (pc' := 72) hX dX12_codesTold_69 rfl zm_yX12_qSums zw_29_22 zc_164 (by decide) zs_46 (q := (RX12, TX12, 108)) rfl rfl (yc_X12_qSums _ _ s80 hI82 (by omega) f hT93 (σ 164 48) 0 [] (by decide) (yWd_3 hWd (zOn_up hF83 zi_63)) (by decide) ⟨(by show ((0 : Nat) : Int) = _; omega), by omega, by omega⟩ (by rw [hE94]; exact fun _ => by omega) (Or.inl (by omega))) rfl rfl (Nat.le_of_ble_eq_true rfl) (by decide) (fun r97 s98 hr99 hp100 => ?_)
          obtain ⟨hI101, hF102, hT103, z104, z105, z106, z107, z108⟩ := hp100
          rw [hE94] at z104
          rw [hE94] at z107
          have hF109 := zOn_tr hF83 hF102 zi_26
          obtain ⟨p110, hE111⟩ : ∃ p, yqs f s98 = p := ⟨_, rfl⟩
          rw [hE111] at z104
          rw [hE111] at z105
          rw [hE111] at z107
          have b112 := zv_46_2 hI101 zc_164
          have b113 := zv_46_5 hI101 zc_164
          have b114 := zv_46_97 hI101 zc_164
          have b115 := zv_46_99 hI101 zc_164
          have b116 := zv_46_100 hI101 zc_164
          have b117 := zv_46_101 hI101 zc_164
          have b118 := zv_46_51 hI101 zc_164
          have b119 := zv_46_48 hI101 zc_164
          have b120 := zv_82 hI101 zc_200 0
          have e121 := hF102 164 48 rfl
          have e122 := hF102 200 0 rfl
          have c123 : yPo p110 = 1 → 0 ≤ s98 164 99 ∧ σ 164 48 + s98 164 97 + s98 164 99 ≤ yPq p110 := fun o => by have t := z107 o; have y := t.2.2.2.2.1 o; omega
          have t124 : yTe (yPlr σ) s98 := yTe_2 t95 hF102
          replace c123 : yIm _ _ := c123
          refine zt_aload_n (pc' := 73) hX dX12_codesTold_72 rfl rfl ?_
          have b125 := zv_46_5 hI101 zc_164
          refine zt_get (pc' := 76) (v := .int (zI (s98 164 5))) hX dX12_codesTold_73 rfl zf_X12_246 (by decide) zc_164 zs_46 rfl ?_
          refine zt_ifeq (pc' := 79) (tgt := 80) hX dX12_codesTold_76 rfl (by decide) ⟨by omega, by omega⟩ (fun c126 => ?_) (fun c126 => ?_)
          · have o127 := (yHb hT103 hE111).1 (by omega)
            obtain ⟨u128, u129⟩ := c123 o127
            have u130 := ((yMq hT103 hE111).1 o127).2.1
            refine zt_aload_n (pc' := 81) hX dX12_codesTold_80 rfl rfl ?_
            refine zt_get (pc' := 84) (v := .ref (X.1.1 + 200)) hX dX12_codesTold_81 rfl zf_X12_121 (by decide) zc_164 zs_46 (zrf_of (zv_46_45 hI101 zc_164)) ?_
            refine zt_iload_n (pc' := 85) hX dX12_codesTold_84 rfl rfl ?_
            refine zt_aload_n (pc' := 86) hX dX12_codesTold_85 rfl rfl ?_
            have b131 := zv_46_48 hI101 zc_164
            refine zt_get (pc' := 89) (v := .int (zI (s98 164 48))) hX dX12_codesTold_86 rfl zf_X12_348 (by decide) zc_164 zs_46 rfl ?_
            refine zt_iast (pc' := 90) hX dX12_codesTold_89 rfl (by decide) zc_200 zs_82 (by decide) ⟨by omega, by omega⟩ ?_
            rw [show Int.toNat 0 = 0 from rfl]
            generalize hs133 : zset s98 200 0 (s98 164 48) = s132
            have hI134 : zInv s132 := hs133 ▸ zp_82 hI101 zc_200 0 ⟨by omega, by omega⟩
            have hF135 : zOn zQ6 σ s132 := hs133 ▸ zOn_set hF109 (by decide)
            have hT136 := yTq_rk hT103 (yRq_set hs133 zc_200 (by decide))
            have hE137 : yqs f s132 = p110 := (yqs_rk (yRq_set hs133 zc_200 (by decide))).trans hE111
            have e138 : s132 164 2 = s98 164 2 := by rw [← hs133]; exact zset_k (zne_r zc_164 zc_200 (by decide))
            have e139 : s132 164 5 = s98 164 5 := by rw [← hs133]; exact zset_k (zne_r zc_164 zc_200 (by decide))
            have e140 : s132 164 97 = s98 164 97 := by rw [← hs133]; exact zset_k (zne_r zc_164 zc_200 (by decide))
            have e141 : s132 164 99 = s98 164 99 := by rw [← hs133]; exact zset_k (zne_r zc_164 zc_200 (by decide))
            have e142 : s132 164 100 = s98 164 100 := by rw [← hs133]; exact zset_k (zne_r zc_164 zc_200 (by decide))
            have e143 : s132 164 101 = s98 164 101 := by rw [← hs133]; exact zset_k (zne_r zc_164 zc_200 (by decide))
            have e144 : s132 164 51 = s98 164 51 := by rw [← hs133]; exact zset_k (zne_r zc_164 zc_200 (by decide))
            have e145 : s132 164 48 = s98 164 48 := by rw [← hs133]; exact zset_k (zne_r zc_164 zc_200 (by decide))
            have e146 : s132 200 0 = (s98 164 48) := by rw [← hs133]; exact zset_s
            have t147 : yTe (yPl.wad (yPlr σ) 1) s132 := yTe_ad t124 hs133 (by omega)
            refine zt_iconst (pc' := 91) hX dX12_codesTold_90 rfl ?_
            refine zt_istore_n (pc' := 92) (lv' := [some (.ref (X.1.1 + 164)), some (.int (zI 0)), some (.int (zI a2_)), some (.int (zI 0))]) hX dX12_codesTold_91 rfl hL (by decide) rfl ?_
            have L_92_164 : ∀ (N : Nat) (x148 : Int) (s151 : zSto) (p154 : yP), 0 ≤ x148 → x148 ≤ 1700 → zInv s151 → zOn zQ6 σ s151 → yTq f s151 → yqs f s151 = p154 → s151 164 48 = σ 164 48 + x148 → x148 ≤ s151 164 97 → σ 164 48 + s151 164 97 ≤ yPq p154 → yPq p154 ≤ 1600 → 0 ≤ x148 → yTe (yPl.wad (yPlr σ) 1) s151 → yPo p154 = 1 → (yJ 0 f (1, [], yPx f s0) (2, [], p154) ∧ yns f p154) → ((s151 164 97 - x148).toNat) < N → zF X s151 92 [some (.ref (X.1.1 + 164)), some (.int (zI 0)), none, some (.int (zI x148))] [] := by
              intro N
              induction N with
              | zero =>
                intro x148 s151 p154 h149 h150 hI152 hF153 hT155 hE156 g157 g158 g159 g160 g161 g162 g163 g164 hm166
                exact absurd hm166 (Nat.not_lt_zero _)
              | succ N ih167 =>
                intro x148 s151 p154 h149 h150 hI152 hF153 hT155 hE156 g157 g158 g159 g160 g161 g162 g163 g164 hm166
                have b168 := zv_46_2 hI152 zc_164
                have b169 := zv_46_5 hI152 zc_164
                have b170 := zv_46_97 hI152 zc_164
                have b171 := zv_46_99 hI152 zc_164
                have b172 := zv_46_100 hI152 zc_164
                have b173 := zv_46_101 hI152 zc_164
                have b174 := zv_46_51 hI152 zc_164
                have b175 := zv_46_48 hI152 zc_164
                have b176 := zv_82 hI152 zc_200 0
                have q177 := 0
                · refine zt_iload_n (pc' := 93) hX dX12_codesTold_92 rfl rfl ?_
                  refine zt_aload_n (pc' := 94) hX dX12_codesTold_93 rfl rfl ?_
                  have b178 := zv_46_97 hI152 zc_164
                  refine zt_get (pc' := 97) (v := .int (zI (s151 164 97))) hX dX12_codesTold_94 rfl zf_X12_330 (by decide) zc_164 zs_46 rfl ?_
                  refine zt_icge (pc' := 100) (tgt := 131) hX dX12_codesTold_97 rfl (by decide) ⟨by omega, by omega⟩ ⟨by omega, by omega⟩ (fun c179 => ?_) (fun c179 => ?_)
                  · refine zt_aload_n (pc' := 132) hX dX12_codesTold_131 rfl rfl ?_
                    refine zt_get (pc' := 135) (v := .ref (X.1.1 + 201)) hX dX12_codesTold_132 rfl zf_X12_124 (by decide) zc_164 zs_46 (zrf_of (zv_46_46 hI152 zc_164)) ?_
                    refine zt_iload_n (pc' := 136) hX dX12_codesTold_135 rfl rfl ?_
                    refine zt_aload_n (pc' := 137) hX dX12_codesTold_136 rfl rfl ?_
                    have b180 := zv_46_48 hI152 zc_164
                    refine zt_get (pc' := 140) (v := .int (zI (s151 164 48))) hX dX12_codesTold_137 rfl zf_X12_348 (by decide) zc_164 zs_46 rfl ?_
                    refine zt_iast (pc' := 141) hX dX12_codesTold_140 rfl (by decide) zc_201 zs_83 (by decide) ⟨by omega, by omega⟩ ?_
                    rw [show Int.toNat 0 = 0 from rfl]
                    generalize hs182 : zset s151 201 0 (s151 164 48) = s181
                    have hI183 : zInv s181 := hs182 ▸ zp_83 hI152 zc_201 0 ⟨by omega, by omega⟩
                    have hF184 : zOn zQ6 σ s181 := hs182 ▸ zOn_set hF153 (by decide)
                    have hT185 := yTq_rk hT155 (yRq_set hs182 zc_201 (by decide))
                    have hE186 : yqs f s181 = p154 := (yqs_rk (yRq_set hs182 zc_201 (by decide))).trans hE156
                    have e187 : s181 164 2 = s151 164 2 := by rw [← hs182]; exact zset_k (zne_r zc_164 zc_201 (by decide))
                    have e188 : s181 164 5 = s151 164 5 := by rw [← hs182]; exact zset_k (zne_r zc_164 zc_201 (by decide))
                    have e189 : s181 164 97 = s151 164 97 := by rw [← hs182]; exact zset_k (zne_r zc_164 zc_201 (by decide))
                    have e190 : s181 164 99 = s151 164 99 := by rw [← hs182]; exact zset_k (zne_r zc_164 zc_201 (by decide))
                    have e191 : s181 164 100 = s151 164 100 := by rw [← hs182]; exact zset_k (zne_r zc_164 zc_201 (by decide))
                    have e192 : s181 164 101 = s151 164 101 := by rw [← hs182]; exact zset_k (zne_r zc_164 zc_201 (by decide))
                    have e193 : s181 164 51 = s151 164 51 := by rw [← hs182]; exact zset_k (zne_r zc_164 zc_201 (by decide))
                    have e194 : s181 164 48 = s151 164 48 := by rw [← hs182]; exact zset_k (zne_r zc_164 zc_201 (by decide))
                    have e195 : s181 200 0 = s151 200 0 := by rw [← hs182]; exact zset_k (zne_r zc_200 zc_201 (by decide))
                    have t196 : yTe (yPl.wad (yPlr σ) 1) s181 := yTe_k g162 hs182 (by decide)
                    exact zt_vret hX hR dX12_codesTold_141 ⟨hI183, hF184, hT185, hE186.trans (yAds_s (by omega) g164.1 g164.2), (fun _ => ⟨t196, by rw [hE186]; omega⟩)⟩
                  · refine zt_aload_n (pc' := 101) hX dX12_codesTold_100 rfl rfl ?_
                    refine zt_get (pc' := 104) (v := .ref (X.1.1 + 202)) hX dX12_codesTold_101 rfl zf_X12_127 (by decide) zc_164 zs_46 (zrf_of (zv_46_47 hI152 zc_164)) ?_
                    refine zt_aload_n (pc' := 105) hX dX12_codesTold_104 rfl rfl ?_
                    have b197 := zv_46_48 hI152 zc_164
                    refine zt_get (pc' := 108) (v := .int (zI (s151 164 48))) hX dX12_codesTold_105 rfl zf_X12_348 (by decide) zc_164 zs_46 rfl ?_
                    refine zt_aload_n (pc' := 109) hX dX12_codesTold_108 rfl rfl ?_
                    refine zt_get (pc' := 112) (v := .ref (X.1.1 + 234)) hX dX12_codesTold_109 rfl zf_X12_231 (by decide) zc_164 zs_46 (zrf_of (zv_46_96 hI152 zc_164)) ?_
                    refine zt_iload_n (pc' := 113) hX dX12_codesTold_112 rfl rfl ?_
                    refine zt_iald (pc' := 114) hX dX12_codesTold_113 rfl (by decide) zc_234 zs_116 (by decide) ⟨by omega, by omega⟩ ?_
                    generalize hv198 : s151 234 (x148.toNat) = v198
                    have bv198 : -2147483648 ≤ v198 ∧ v198 ≤ 2147483647 := hv198 ▸ zv_116 hI152 zc_234 _
                    refine zt_iast (pc' := 115) hX dX12_codesTold_114 rfl (by decide) zc_202 zs_84 (by decide) ⟨by omega, by omega⟩ ?_
                    generalize hs200 : zset s151 202 ((s151 164 48).toNat) v198 = s199
                    have hI201 : zInv s199 := hs200 ▸ zp_84 hI152 zc_202 ((s151 164 48).toNat) ⟨by omega, by omega⟩
                    have hF202 : zOn zQ6 σ s199 := hs200 ▸ zOn_set hF153 (zq6_202 (by omega))
                    have hT203 := yTq_rk hT155 (yRq_set hs200 zc_202 (by decide))
                    have hE204 : yqs f s199 = p154 := (yqs_rk (yRq_set hs200 zc_202 (by decide))).trans hE156
                    have e205 : s199 164 2 = s151 164 2 := by rw [← hs200]; exact zset_k (zne_r zc_164 zc_202 (by decide))
                    have e206 : s199 164 5 = s151 164 5 := by rw [← hs200]; exact zset_k (zne_r zc_164 zc_202 (by decide))
                    have e207 : s199 164 97 = s151 164 97 := by rw [← hs200]; exact zset_k (zne_r zc_164 zc_202 (by decide))
                    have e208 : s199 164 99 = s151 164 99 := by rw [← hs200]; exact zset_k (zne_r zc_164 zc_202 (by decide))
                    have e209 : s199 164 100 = s151 164 100 := by rw [← hs200]; exact zset_k (zne_r zc_164 zc_202 (by decide))
                    have e210 : s199 164 101 = s151 164 101 := by rw [← hs200]; exact zset_k (zne_r zc_164 zc_202 (by decide))
                    have e211 : s199 164 51 = s151 164 51 := by rw [← hs200]; exact zset_k (zne_r zc_164 zc_202 (by decide))
                    have e212 : s199 164 48 = s151 164 48 := by rw [← hs200]; exact zset_k (zne_r zc_164 zc_202 (by decide))
                    have e213 : s199 200 0 = s151 200 0 := by rw [← hs200]; exact zset_k (zne_r zc_200 zc_202 (by decide))
                    have t214 : yTe (yPl.wad (yPlr σ) 1) s199 := yTe_k g162 hs200 (by decide)
                    refine zt_aload_n (pc' := 116) hX dX12_codesTold_115 rfl rfl ?_
                    refine zt_dup (pc' := 117) hX dX12_codesTold_116 rfl rfl ?_
                    have b215 := zv_46_48 hI201 zc_164
                    refine zt_get (pc' := 120) (v := .int (zI (s199 164 48))) hX dX12_codesTold_117 rfl zf_X12_348 (by decide) zc_164 zs_46 rfl ?_
                    refine zt_iconst (pc' := 121) hX dX12_codesTold_120 rfl ?_
                    refine zt_iadd (pc' := 122) hX dX12_codesTold_121 rfl ?_
                    refine zt_put (pc' := 125) (x := ((s199 164 48) + 1)) hX dX12_codesTold_122 rfl zf_X12_348 (by decide) zc_164 zs_46 (fun q hq => by cases hq; rfl) rfl rfl rfl ?_
                    generalize hs217 : zset s199 164 48 ((s199 164 48) + 1) = s216
                    have hI218 : zInv s216 := hs217 ▸ zp_46_48 hI201 zc_164 ⟨by omega, by omega⟩
                    have hF219 : zOn zQ6 σ s216 := hs217 ▸ zOn_set hF202 (by decide)
                    have e220 : s216 164 2 = s199 164 2 := by rw [← hs217]; exact zset_j (by decide)
                    have e221 : s216 164 5 = s199 164 5 := by rw [← hs217]; exact zset_j (by decide)
                    have e222 : s216 164 97 = s199 164 97 := by rw [← hs217]; exact zset_j (by decide)
                    have e223 : s216 164 99 = s199 164 99 := by rw [← hs217]; exact zset_j (by decide)
                    have e224 : s216 164 100 = s199 164 100 := by rw [← hs217]; exact zset_j (by decide)
                    have e225 : s216 164 101 = s199 164 101 := by rw [← hs217]; exact zset_j (by decide)
                    have e226 : s216 164 51 = s199 164 51 := by rw [← hs217]; exact zset_j (by decide)
                    have e227 : s216 164 48 = ((s199 164 48) + 1) := by rw [← hs217]; exact zset_s
                    have e228 : s216 200 0 = s199 200 0 := by rw [← hs217]; exact zset_k (zne_r zc_200 zc_164 (by decide))
                    have hT229 := yTq_rk hT203 (yRq_j hs217 (by decide))
                    have hE230 : yqs f s216 = p154 := (yqs_rk (yRq_j hs217 (by decide))).trans hE204
                    have t231 : yTe (yPl.wad (yPlr σ) 1) s216 := yTe_k t214 hs217 (by decide)
                    refine zt_iinc (pc' := 128) (lv' := [some (.ref (X.1.1 + 164)), some (.int (zI 0)), none, some (.int (zI (x148 + 1)))]) hX dX12_codesTold_125 rfl rfl hL (by decide) rfl ?_
                    refine zt_goto (tgt := 92) hX dX12_codesTold_128 (by decide) ?_
                    exact ih167 (x148 + 1) s216 p154 (by omega) (by omega) hI218 hF219 hT229 hE230 (by omega) (by omega) (by omega) (by omega) (by omega) t231 g163 (⟨g164.1, g164.2⟩) (by omega)
            refine zt_mask [true, true, false, true] rfl ?_
            exact L_92_164 _ 0 s132 p110 (by omega) (by omega) hI134 hF135 hT136 hE137 (by omega) (by omega) (by omega) (by omega) (by omega) t147 o127 (⟨z104, z105⟩) (Nat.lt_succ_self _)
          · exact zt_vret hX hR dX12_codesTold_79 ⟨hI101, hF109, hT103, hE111.trans (yAds_s (by omega) z104 z105), (fun o => by have t := (yHb hT103 hE111).2 (by omega); rw [hE111] at o; omega)⟩
        · exact absurd c96 (by omega)
      · exact absurd c15 (by omega)
    · refine zt_aload_n (pc' := 18) hX dX12_codesTold_17 rfl rfl ?_
      refine zt_iconst (pc' := 19) hX dX12_codesTold_18 rfl ?_
      refine zt_iload_n (pc' := 20) hX dX12_codesTold_19 rfl rfl ?_
      refine zt_cVv (pc' := 23) hX dX12_codesTold_20 rfl zm_yX12_fail zw_26_19 zc_164 (by decide) zs_46 (q := (RX12, TX12, 108)) rfl rfl (yc_X12_fail _ _ σ hI 5 ⟨by omega, by omega⟩ a2_ ⟨by omega, by omega⟩ f (yTq_w hT)) rfl rfl (Nat.le_of_ble_eq_true rfl) (by decide) (fun r232 s233 hr234 hp235 => ?_)
      obtain ⟨hI236, hF237, hT238, z239, z240⟩ := hp235
      have hE241 : yqs f s233 = yPno 5 a2_ (yPx f s0) := by rw [z239, h0]
      have hF242 := zOn_tr hF hF237 zi_16
      have b243 := zv_46_2 hI236 zc_164
      have b244 := zv_46_5 hI236 zc_164
      have b245 := zv_46_97 hI236 zc_164
      have b246 := zv_46_99 hI236 zc_164
      have b247 := zv_46_100 hI236 zc_164
      have b248 := zv_46_101 hI236 zc_164
      have b249 := zv_46_51 hI236 zc_164
      have b250 := zv_46_48 hI236 zc_164
      have b251 := zv_82 hI236 zc_200 0
      have e252 := hF237 164 97 rfl
      have e253 := hF237 164 99 rfl
      have e254 := hF237 164 100 rfl
      have e255 := hF237 164 101 rfl
      have e256 := hF237 164 51 rfl
      have e257 := hF237 164 48 rfl
      have e258 := hF237 200 0 rfl
      have u259 := yHb0 hE241 yPo_no
      have t260 : yTe (yPlr σ) s233 := yTe_1 hTe hF237
      refine zt_aload_n (pc' := 24) hX dX12_codesTold_23 rfl rfl ?_
      have b261 := zv_46_5 hI236 zc_164
      refine zt_get (pc' := 27) (v := .int (zI (s233 164 5))) hX dX12_codesTold_24 rfl zf_X12_246 (by decide) zc_164 zs_46 rfl ?_
      refine zt_ifeq (pc' := 30) (tgt := 31) hX dX12_codesTold_27 rfl (by decide) ⟨by omega, by omega⟩ (fun c262 => ?_) (fun c262 => ?_)
      · exact absurd c262 (by omega)
      · exact zt_vret hX hR dX12_codesTold_30 ⟨hI236, hF242, hT238, hE241.trans (yAds_t (by omega) o0 (by omega)), (fun o => by rw [hE241, yPo_no] at o; exact absurd o (by decide))⟩
set_option maxRecDepth 100000 in
set_option maxHeartbeats 4000000 in
theorem yc_X12_codesTold_1 (l : Launch) (E : zEN) (σ : zSto) (hI : zInv σ) (a2_ : Int) (ha2_ : 0 ≤ a2_ ∧ a2_ ≤ 1600) (hpre0 : σ 164 5 = 0) (f : Int → Int) (hT : yTq f σ) (s0 : yP) (h0 : yqs f σ = yPx f s0) (o0 : yPo s0 = 1) (hbg : a2_ = yPq s0) (hWd : yWd σ) (hTe : yTe (yPlr σ) σ) (hco : σ 164 48 ≤ yPq (yPx f s0)) : zCt l E yX12_codesTold cX12_codesTold 4 none 9 zNC zNC 0 0 σ [.ref (E.1 + 164), .int (zI 1), .int (zI a2_)] (fun r σ' => zInv σ' ∧ zOn zQ6 σ σ' ∧ yTq f σ' ∧ ((yqs f σ') = yHos f (yPlr σ) s0) ∧ (yPo (yqs f σ') = 1 → yTe (yPl.who (yPlr σ) 1) σ' ∧ σ' 164 48 ≤ yPq (yqs f σ'))) := by
  refine zCt_of2 [some (.ref (E.1 + 164)), some (.int (zI 1)), some (.int (zI a2_)), none] (by decide +kernel) (Nat.le_of_ble_eq_true rfl) rfl ?_
  intro X hE_ hX hR hL hN
  subst hE_
  have hX : zok X cX12_codesTold RX12 9 := hX
  have hF := zOn_rf zQ6 σ
  have hE0 : yqs f σ = yqs f σ := rfl
  have ho1 : yPo (yPx f s0) = 1 := yPo_px.trans o0
  have b1 := zv_46_2 hI zc_164
  have b2 := zv_46_5 hI zc_164
  have b3 := zv_46_97 hI zc_164
  have b4 := zv_46_99 hI zc_164
  have b5 := zv_46_100 hI zc_164
  have b6 := zv_46_101 hI zc_164
  have b7 := zv_46_51 hI zc_164
  have b8 := zv_46_48 hI zc_164
  have b9 := zv_82 hI zc_200 1
  refine zt_aload_n (pc' := 1) hX dX12_codesTold_0 rfl rfl ?_
  have b10 := zv_46_5 hI zc_164
  refine zt_get (pc' := 4) (v := .int (zI (σ 164 5))) hX dX12_codesTold_1 rfl zf_X12_246 (by decide) zc_164 zs_46 rfl ?_
  refine zt_ifne (pc' := 7) (tgt := 23) hX dX12_codesTold_4 rfl (by decide) ⟨by omega, by omega⟩ (fun c11 => ?_) (fun c11 => ?_)
  · exact absurd c11 (by omega)
  · refine zt_aload_n (pc' := 8) hX dX12_codesTold_7 rfl rfl ?_
    refine zt_get (pc' := 11) (v := .ref (X.1.1 + 200)) hX dX12_codesTold_8 rfl zf_X12_121 (by decide) zc_164 zs_46 (zrf_of (zv_46_45 hI zc_164)) ?_
    refine zt_iload_n (pc' := 12) hX dX12_codesTold_11 rfl rfl ?_
    refine zt_iald (pc' := 13) hX dX12_codesTold_12 rfl (by decide) zc_200 zs_82 (by decide) ⟨by omega, by omega⟩ ?_
    rw [show Int.toNat 1 = 1 from rfl]
    have b13 := zv_82 hI zc_200 1
    refine zt_iconst (pc' := 14) hX dX12_codesTold_13 rfl ?_
    refine zt_iceq (pc' := 17) (tgt := 23) hX dX12_codesTold_14 rfl (by decide) ⟨by omega, by omega⟩ ⟨by omega, by omega⟩ (fun c14 => ?_) (fun c14 => ?_)
    · refine zt_aload_n (pc' := 24) hX dX12_codesTold_23 rfl rfl ?_
      refine zt_get (pc' := 27) (v := .int (zI (σ 164 5))) hX dX12_codesTold_24 rfl zf_X12_246 (by decide) zc_164 zs_46 rfl ?_
      refine zt_ifeq (pc' := 30) (tgt := 31) hX dX12_codesTold_27 rfl (by decide) ⟨by omega, by omega⟩ (fun c15 => ?_) (fun c15 => ?_)
      · refine zt_aload_n (pc' := 32) hX dX12_codesTold_31 rfl rfl ?_
        refine zt_iload_n (pc' := 33) hX dX12_codesTold_32 rfl rfl ?_
        refine zt_put (pc' := 36) (x := 1) hX dX12_codesTold_33 rfl zf_X12_304 (by decide) zc_164 zs_46 (fun q hq => by cases hq; rfl) rfl rfl rfl ?_
        generalize hs17 : zset σ 164 51 1 = s16
        have hI18 : zInv s16 := hs17 ▸ zp_46_51 hI zc_164 ⟨by omega, by omega⟩
        have hF19 : zOn zQ6 σ s16 := hs17 ▸ zOn_set hF (by decide)
        have e20 : s16 164 2 = σ 164 2 := by rw [← hs17]; exact zset_j (by decide)
        have e21 : s16 164 5 = σ 164 5 := by rw [← hs17]; exact zset_j (by decide)
        have e22 : s16 164 97 = σ 164 97 := by rw [← hs17]; exact zset_j (by decide)
        have e23 : s16 164 99 = σ 164 99 := by rw [← hs17]; exact zset_j (by decide)
        have e24 : s16 164 100 = σ 164 100 := by rw [← hs17]; exact zset_j (by decide)
        have e25 : s16 164 101 = σ 164 101 := by rw [← hs17]; exact zset_j (by decide)
        have e26 : s16 164 51 = 1 := by rw [← hs17]; exact zset_s
        have e27 : s16 164 48 = σ 164 48 := by rw [← hs17]; exact zset_j (by decide)
        have e28 : s16 200 1 = σ 200 1 := by rw [← hs17]; exact zset_k (zne_r zc_200 zc_164 (by decide))
        have hT29 := yTq_rk hT (yRq_j hs17 (by decide))
        have hE30 : yqs f s16 = yPx f s0 := (yqs_rk (yRq_j hs17 (by decide))).trans h0
        have t31 : yTe (yPlr σ) s16 := yTe_k hTe hs17 (by decide)
        refine zt_aload_n (pc' := 37) hX dX12_codesTold_36 rfl rfl ?_
        refine zt_iconst (pc' := 38) hX dX12_codesTold_37 rfl ?_
        refine zt_put (pc' := 41) (x := 0) hX dX12_codesTold_38 rfl zf_X12_330 (by decide) zc_164 zs_46 (fun q hq => by cases hq; rfl) rfl rfl rfl ?_
        generalize hs33 : zset s16 164 97 0 = s32
        have hI34 : zInv s32 := hs33 ▸ zp_46_97 hI18 zc_164 ⟨by omega, by omega⟩
        have hF35 : zOn zQ6 σ s32 := hs33 ▸ zOn_set hF19 (by decide)
        have e36 : s32 164 2 = s16 164 2 := by rw [← hs33]; exact zset_j (by decide)
        have e37 : s32 164 5 = s16 164 5 := by rw [← hs33]; exact zset_j (by decide)
        have e38 : s32 164 97 = 0 := by rw [← hs33]; exact zset_s
        have e39 : s32 164 99 = s16 164 99 := by rw [← hs33]; exact zset_j (by decide)
        have e40 : s32 164 100 = s16 164 100 := by rw [← hs33]; exact zset_j (by decide)
        have e41 : s32 164 101 = s16 164 101 := by rw [← hs33]; exact zset_j (by decide)
        have e42 : s32 164 51 = s16 164 51 := by rw [← hs33]; exact zset_j (by decide)
        have e43 : s32 164 48 = s16 164 48 := by rw [← hs33]; exact zset_j (by decide)
        have e44 : s32 200 1 = s16 200 1 := by rw [← hs33]; exact zset_k (zne_r zc_200 zc_164 (by decide))
        have hT45 := yTq_rk hT29 (yRq_j hs33 (by decide))
        have hE46 : yqs f s32 = yPx f s0 := (yqs_rk (yRq_j hs33 (by decide))).trans hE30
        have t47 : yTe (yPlr σ) s32 := yTe_k t31 hs33 (by decide)
        refine zt_aload_n (pc' := 42) hX dX12_codesTold_41 rfl rfl ?_
        refine zt_iconst (pc' := 43) hX dX12_codesTold_42 rfl ?_
        refine zt_put (pc' := 46) (x := 0) hX dX12_codesTold_43 rfl zf_X12_333 (by decide) zc_164 zs_46 (fun q hq => by cases hq; rfl) rfl rfl rfl ?_
        generalize hs49 : zset s32 164 99 0 = s48
        have hI50 : zInv s48 := hs49 ▸ zp_46_99 hI34 zc_164 ⟨by omega, by omega⟩
        have hF51 : zOn zQ6 σ s48 := hs49 ▸ zOn_set hF35 (by decide)
        have e52 : s48 164 2 = s32 164 2 := by rw [← hs49]; exact zset_j (by decide)
        have e53 : s48 164 5 = s32 164 5 := by rw [← hs49]; exact zset_j (by decide)
        have e54 : s48 164 97 = s32 164 97 := by rw [← hs49]; exact zset_j (by decide)
        have e55 : s48 164 99 = 0 := by rw [← hs49]; exact zset_s
        have e56 : s48 164 100 = s32 164 100 := by rw [← hs49]; exact zset_j (by decide)
        have e57 : s48 164 101 = s32 164 101 := by rw [← hs49]; exact zset_j (by decide)
        have e58 : s48 164 51 = s32 164 51 := by rw [← hs49]; exact zset_j (by decide)
        have e59 : s48 164 48 = s32 164 48 := by rw [← hs49]; exact zset_j (by decide)
        have e60 : s48 200 1 = s32 200 1 := by rw [← hs49]; exact zset_k (zne_r zc_200 zc_164 (by decide))
        have hT61 := yTq_rk hT45 (yRq_j hs49 (by decide))
        have hE62 : yqs f s48 = yPx f s0 := (yqs_rk (yRq_j hs49 (by decide))).trans hE46
        have t63 : yTe (yPlr σ) s48 := yTe_k t47 hs49 (by decide)
        refine zt_aload_n (pc' := 47) hX dX12_codesTold_46 rfl rfl ?_
        refine zt_iconst (pc' := 48) hX dX12_codesTold_47 rfl ?_
        refine zt_put (pc' := 51) (x := 0) hX dX12_codesTold_48 rfl zf_X12_336 (by decide) zc_164 zs_46 (fun q hq => by cases hq; rfl) rfl rfl rfl ?_
        generalize hs65 : zset s48 164 100 0 = s64
        have hI66 : zInv s64 := hs65 ▸ zp_46_100 hI50 zc_164 ⟨by omega, by omega⟩
        have hF67 : zOn zQ6 σ s64 := hs65 ▸ zOn_set hF51 (by decide)
        have e68 : s64 164 2 = s48 164 2 := by rw [← hs65]; exact zset_j (by decide)
        have e69 : s64 164 5 = s48 164 5 := by rw [← hs65]; exact zset_j (by decide)
        have e70 : s64 164 97 = s48 164 97 := by rw [← hs65]; exact zset_j (by decide)
        have e71 : s64 164 99 = s48 164 99 := by rw [← hs65]; exact zset_j (by decide)
        have e72 : s64 164 100 = 0 := by rw [← hs65]; exact zset_s
        have e73 : s64 164 101 = s48 164 101 := by rw [← hs65]; exact zset_j (by decide)
        have e74 : s64 164 51 = s48 164 51 := by rw [← hs65]; exact zset_j (by decide)
        have e75 : s64 164 48 = s48 164 48 := by rw [← hs65]; exact zset_j (by decide)
        have e76 : s64 200 1 = s48 200 1 := by rw [← hs65]; exact zset_k (zne_r zc_200 zc_164 (by decide))
        have hT77 := yTq_rk hT61 (yRq_j hs65 (by decide))
        have hE78 : yqs f s64 = yPx f s0 := (yqs_rk (yRq_j hs65 (by decide))).trans hE62
        have t79 : yTe (yPlr σ) s64 := yTe_k t63 hs65 (by decide)
        refine zt_aload_n (pc' := 52) hX dX12_codesTold_51 rfl rfl ?_
        refine zt_iconst (pc' := 53) hX dX12_codesTold_52 rfl ?_
        refine zt_put (pc' := 56) (x := 0) hX dX12_codesTold_53 rfl zf_X12_339 (by decide) zc_164 zs_46 (fun q hq => by cases hq; rfl) rfl rfl rfl ?_
        generalize hs81 : zset s64 164 101 0 = s80
        have hI82 : zInv s80 := hs81 ▸ zp_46_101 hI66 zc_164 ⟨by omega, by omega⟩
        have hF83 : zOn zQ6 σ s80 := hs81 ▸ zOn_set hF67 (by decide)
        have e84 : s80 164 2 = s64 164 2 := by rw [← hs81]; exact zset_j (by decide)
        have e85 : s80 164 5 = s64 164 5 := by rw [← hs81]; exact zset_j (by decide)
        have e86 : s80 164 97 = s64 164 97 := by rw [← hs81]; exact zset_j (by decide)
        have e87 : s80 164 99 = s64 164 99 := by rw [← hs81]; exact zset_j (by decide)
        have e88 : s80 164 100 = s64 164 100 := by rw [← hs81]; exact zset_j (by decide)
        have e89 : s80 164 101 = 0 := by rw [← hs81]; exact zset_s
        have e90 : s80 164 51 = s64 164 51 := by rw [← hs81]; exact zset_j (by decide)
        have e91 : s80 164 48 = s64 164 48 := by rw [← hs81]; exact zset_j (by decide)
        have e92 : s80 200 1 = s64 200 1 := by rw [← hs81]; exact zset_k (zne_r zc_200 zc_164 (by decide))
        have hT93 := yTq_rk hT77 (yRq_j hs81 (by decide))
        have hE94 : yqs f s80 = yPx f s0 := (yqs_rk (yRq_j hs81 (by decide))).trans hE78
        have t95 : yTe (yPlr σ) s80 := yTe_k t79 hs81 (by decide)
        refine zt_iload_n (pc' := 57) hX dX12_codesTold_56 rfl rfl ?_
        refine zt_iconst (pc' := 58) hX dX12_codesTold_57 rfl ?_
        refine zt_icne (pc' := 61) (tgt := 68) hX dX12_codesTold_58 rfl (by decide) ⟨by omega, by omega⟩ ⟨by omega, by omega⟩ (fun c96 => ?_) (fun c96 => ?_)
        · exact absurd c96 (by omega)
        · refine zt_aload_n (pc' := 62) hX dX12_codesTold_61 rfl rfl ?_
          refine zt_cVv (pc' := 65) hX dX12_codesTold_62 rfl zm_yX12_qTest zw_29_6 zc_164 (by decide) zs_46 (q := (RX12, TX12, 108)) rfl rfl (yc_X12_qTest _ _ s80 hI82 (by omega) (by omega) (by omega) (by omega) (by omega) f hT93 (σ 164 48) 1 (by decide) (yWd_3 hWd (zOn_up hF83 zi_63)) (by omega) (by rw [hE94]; exact ⟨by omega, by omega⟩)) rfl rfl (Nat.le_of_ble_eq_true rfl) (by decide) (fun r97 s98 hr99 hp100 => ?_)
          obtain ⟨hI101, hF102, hT103, z104, z105⟩ := hp100
          rw [hE94] at z104
          have hF106 := zOn_tr hF83 hF102 zi_26
          obtain ⟨p107, hE108⟩ : ∃ p, yqs f s98 = p := ⟨_, rfl⟩
          rw [hE108] at z104
          rw [hE108] at z105
          have b109 := zv_46_2 hI101 zc_164
          have b110 := zv_46_5 hI101 zc_164
          have b111 := zv_46_97 hI101 zc_164
          have b112 := zv_46_99 hI101 zc_164
          have b113 := zv_46_100 hI101 zc_164
          have b114 := zv_46_101 hI101 zc_164
          have b115 := zv_46_51 hI101 zc_164
          have b116 := zv_46_48 hI101 zc_164
          have b117 := zv_82 hI101 zc_200 1
          have e118 := hF102 164 48 rfl
          have e119 := hF102 200 1 rfl
          have c120 : yPo p107 = 1 → 0 ≤ s98 164 99 ∧ σ 164 48 + s98 164 97 ≤ yPq p107 := fun o => by have t := z105 o; omega
          have t121 : yTe (yPlr σ) s98 := yTe_2 t95 hF102
          replace c120 : yIm _ _ := c120
          refine zt_goto (tgt := 72) hX dX12_codesTold_65 (by decide) ?_
          refine zt_aload_n (pc' := 73) hX dX12_codesTold_72 rfl rfl ?_
          have b122 := zv_46_5 hI101 zc_164
          refine zt_get (pc' := 76) (v := .int (zI (s98 164 5))) hX dX12_codesTold_73 rfl zf_X12_246 (by decide) zc_164 zs_46 rfl ?_
          refine zt_ifeq (pc' := 79) (tgt := 80) hX dX12_codesTold_76 rfl (by decide) ⟨by omega, by omega⟩ (fun c123 => ?_) (fun c123 => ?_)
          · have o124 := (yHb hT103 hE108).1 (by omega)
            obtain ⟨u125, u126⟩ := c120 o124
            have u127 := ((yMq hT103 hE108).1 o124).2.1
            refine zt_aload_n (pc' := 81) hX dX12_codesTold_80 rfl rfl ?_
            refine zt_get (pc' := 84) (v := .ref (X.1.1 + 200)) hX dX12_codesTold_81 rfl zf_X12_121 (by decide) zc_164 zs_46 (zrf_of (zv_46_45 hI101 zc_164)) ?_
            refine zt_iload_n (pc' := 85) hX dX12_codesTold_84 rfl rfl ?_
            refine zt_aload_n (pc' := 86) hX dX12_codesTold_85 rfl rfl ?_
            have b128 := zv_46_48 hI101 zc_164
            refine zt_get (pc' := 89) (v := .int (zI (s98 164 48))) hX dX12_codesTold_86 rfl zf_X12_348 (by decide) zc_164 zs_46 rfl ?_
            refine zt_iast (pc' := 90) hX dX12_codesTold_89 rfl (by decide) zc_200 zs_82 (by decide) ⟨by omega, by omega⟩ ?_
            rw [show Int.toNat 1 = 1 from rfl]
            generalize hs130 : zset s98 200 1 (s98 164 48) = s129
            have hI131 : zInv s129 := hs130 ▸ zp_82 hI101 zc_200 1 ⟨by omega, by omega⟩
            have hF132 : zOn zQ6 σ s129 := hs130 ▸ zOn_set hF106 (by decide)
            have hT133 := yTq_rk hT103 (yRq_set hs130 zc_200 (by decide))
            have hE134 : yqs f s129 = p107 := (yqs_rk (yRq_set hs130 zc_200 (by decide))).trans hE108
            have e135 : s129 164 2 = s98 164 2 := by rw [← hs130]; exact zset_k (zne_r zc_164 zc_200 (by decide))
            have e136 : s129 164 5 = s98 164 5 := by rw [← hs130]; exact zset_k (zne_r zc_164 zc_200 (by decide))
            have e137 : s129 164 97 = s98 164 97 := by rw [← hs130]; exact zset_k (zne_r zc_164 zc_200 (by decide))
            have e138 : s129 164 99 = s98 164 99 := by rw [← hs130]; exact zset_k (zne_r zc_164 zc_200 (by decide))
            have e139 : s129 164 100 = s98 164 100 := by rw [← hs130]; exact zset_k (zne_r zc_164 zc_200 (by decide))
            have e140 : s129 164 101 = s98 164 101 := by rw [← hs130]; exact zset_k (zne_r zc_164 zc_200 (by decide))
            have e141 : s129 164 51 = s98 164 51 := by rw [← hs130]; exact zset_k (zne_r zc_164 zc_200 (by decide))
            have e142 : s129 164 48 = s98 164 48 := by rw [← hs130]; exact zset_k (zne_r zc_164 zc_200 (by decide))
            have e143 : s129 200 1 = (s98 164 48) := by rw [← hs130]; exact zset_s
            have t144 : yTe (yPl.who (yPlr σ) 1) s129 := yTe_ho t121 hs130 (by omega)
            refine zt_iconst (pc' := 91) hX dX12_codesTold_90 rfl ?_
            refine zt_istore_n (pc' := 92) (lv' := [some (.ref (X.1.1 + 164)), some (.int (zI 1)), some (.int (zI a2_)), some (.int (zI 0))]) hX dX12_codesTold_91 rfl hL (by decide) rfl ?_
            have L_92_161 : ∀ (N : Nat) (x145 : Int) (s148 : zSto) (p151 : yP), 0 ≤ x145 → x145 ≤ 1700 → zInv s148 → zOn zQ6 σ s148 → yTq f s148 → yqs f s148 = p151 → s148 164 48 = σ 164 48 + x145 → x145 ≤ s148 164 97 → σ 164 48 + s148 164 97 ≤ yPq p151 → yPq p151 ≤ 1600 → 0 ≤ x145 → yTe (yPl.who (yPlr σ) 1) s148 → yPo p151 = 1 → yTst 1 f (yPx f s0) p151 → ((s148 164 97 - x145).toNat) < N → zF X s148 92 [some (.ref (X.1.1 + 164)), some (.int (zI 1)), none, some (.int (zI x145))] [] := by
              intro N
              induction N with
              | zero =>
                intro x145 s148 p151 h146 h147 hI149 hF150 hT152 hE153 g154 g155 g156 g157 g158 g159 g160 g161 hm163
                exact absurd hm163 (Nat.not_lt_zero _)
              | succ N ih164 =>
                intro x145 s148 p151 h146 h147 hI149 hF150 hT152 hE153 g154 g155 g156 g157 g158 g159 g160 g161 hm163
                have b165 := zv_46_2 hI149 zc_164
                have b166 := zv_46_5 hI149 zc_164
                have b167 := zv_46_97 hI149 zc_164
                have b168 := zv_46_99 hI149 zc_164
                have b169 := zv_46_100 hI149 zc_164
                have b170 := zv_46_101 hI149 zc_164
                have b171 := zv_46_51 hI149 zc_164
                have b172 := zv_46_48 hI149 zc_164
                have b173 := zv_82 hI149 zc_200 1
                have q174 := 0
                · refine zt_iload_n (pc' := 93) hX dX12_codesTold_92 rfl rfl ?_
                  refine zt_aload_n (pc' := 94) hX dX12_codesTold_93 rfl rfl ?_
                  have b175 := zv_46_97 hI149 zc_164
                  refine zt_get (pc' := 97) (v := .int (zI (s148 164 97))) hX dX12_codesTold_94 rfl zf_X12_330 (by decide) zc_164 zs_46 rfl ?_
                  refine zt_icge (pc' := 100) (tgt := 131) hX dX12_codesTold_97 rfl (by decide) ⟨by omega, by omega⟩ ⟨by omega, by omega⟩ (fun c176 => ?_) (fun c176 => ?_)
                  · refine zt_aload_n (pc' := 132) hX dX12_codesTold_131 rfl rfl ?_
                    refine zt_get (pc' := 135) (v := .ref (X.1.1 + 201)) hX dX12_codesTold_132 rfl zf_X12_124 (by decide) zc_164 zs_46 (zrf_of (zv_46_46 hI149 zc_164)) ?_
                    refine zt_iload_n (pc' := 136) hX dX12_codesTold_135 rfl rfl ?_
                    refine zt_aload_n (pc' := 137) hX dX12_codesTold_136 rfl rfl ?_
                    have b177 := zv_46_48 hI149 zc_164
                    refine zt_get (pc' := 140) (v := .int (zI (s148 164 48))) hX dX12_codesTold_137 rfl zf_X12_348 (by decide) zc_164 zs_46 rfl ?_
                    refine zt_iast (pc' := 141) hX dX12_codesTold_140 rfl (by decide) zc_201 zs_83 (by decide) ⟨by omega, by omega⟩ ?_
                    rw [show Int.toNat 1 = 1 from rfl]
                    generalize hs179 : zset s148 201 1 (s148 164 48) = s178
                    have hI180 : zInv s178 := hs179 ▸ zp_83 hI149 zc_201 1 ⟨by omega, by omega⟩
                    have hF181 : zOn zQ6 σ s178 := hs179 ▸ zOn_set hF150 (by decide)
                    have hT182 := yTq_rk hT152 (yRq_set hs179 zc_201 (by decide))
                    have hE183 : yqs f s178 = p151 := (yqs_rk (yRq_set hs179 zc_201 (by decide))).trans hE153
                    have e184 : s178 164 2 = s148 164 2 := by rw [← hs179]; exact zset_k (zne_r zc_164 zc_201 (by decide))
                    have e185 : s178 164 5 = s148 164 5 := by rw [← hs179]; exact zset_k (zne_r zc_164 zc_201 (by decide))
                    have e186 : s178 164 97 = s148 164 97 := by rw [← hs179]; exact zset_k (zne_r zc_164 zc_201 (by decide))
                    have e187 : s178 164 99 = s148 164 99 := by rw [← hs179]; exact zset_k (zne_r zc_164 zc_201 (by decide))
                    have e188 : s178 164 100 = s148 164 100 := by rw [← hs179]; exact zset_k (zne_r zc_164 zc_201 (by decide))
                    have e189 : s178 164 101 = s148 164 101 := by rw [← hs179]; exact zset_k (zne_r zc_164 zc_201 (by decide))
                    have e190 : s178 164 51 = s148 164 51 := by rw [← hs179]; exact zset_k (zne_r zc_164 zc_201 (by decide))
                    have e191 : s178 164 48 = s148 164 48 := by rw [← hs179]; exact zset_k (zne_r zc_164 zc_201 (by decide))
                    have e192 : s178 200 1 = s148 200 1 := by rw [← hs179]; exact zset_k (zne_r zc_200 zc_201 (by decide))
                    have t193 : yTe (yPl.who (yPlr σ) 1) s178 := yTe_k g159 hs179 (by decide)
                    exact zt_vret hX hR dX12_codesTold_141 ⟨hI180, hF181, hT182, hE183.trans (yHos_s (by omega) g161), (fun _ => ⟨t193, by rw [hE183]; omega⟩)⟩
                  · refine zt_aload_n (pc' := 101) hX dX12_codesTold_100 rfl rfl ?_
                    refine zt_get (pc' := 104) (v := .ref (X.1.1 + 202)) hX dX12_codesTold_101 rfl zf_X12_127 (by decide) zc_164 zs_46 (zrf_of (zv_46_47 hI149 zc_164)) ?_
                    refine zt_aload_n (pc' := 105) hX dX12_codesTold_104 rfl rfl ?_
                    have b194 := zv_46_48 hI149 zc_164
                    refine zt_get (pc' := 108) (v := .int (zI (s148 164 48))) hX dX12_codesTold_105 rfl zf_X12_348 (by decide) zc_164 zs_46 rfl ?_
                    refine zt_aload_n (pc' := 109) hX dX12_codesTold_108 rfl rfl ?_
                    refine zt_get (pc' := 112) (v := .ref (X.1.1 + 234)) hX dX12_codesTold_109 rfl zf_X12_231 (by decide) zc_164 zs_46 (zrf_of (zv_46_96 hI149 zc_164)) ?_
                    refine zt_iload_n (pc' := 113) hX dX12_codesTold_112 rfl rfl ?_
                    refine zt_iald (pc' := 114) hX dX12_codesTold_113 rfl (by decide) zc_234 zs_116 (by decide) ⟨by omega, by omega⟩ ?_
                    generalize hv195 : s148 234 (x145.toNat) = v195
                    have bv195 : -2147483648 ≤ v195 ∧ v195 ≤ 2147483647 := hv195 ▸ zv_116 hI149 zc_234 _
                    refine zt_iast (pc' := 115) hX dX12_codesTold_114 rfl (by decide) zc_202 zs_84 (by decide) ⟨by omega, by omega⟩ ?_
                    generalize hs197 : zset s148 202 ((s148 164 48).toNat) v195 = s196
                    have hI198 : zInv s196 := hs197 ▸ zp_84 hI149 zc_202 ((s148 164 48).toNat) ⟨by omega, by omega⟩
                    have hF199 : zOn zQ6 σ s196 := hs197 ▸ zOn_set hF150 (zq6_202 (by omega))
                    have hT200 := yTq_rk hT152 (yRq_set hs197 zc_202 (by decide))
                    have hE201 : yqs f s196 = p151 := (yqs_rk (yRq_set hs197 zc_202 (by decide))).trans hE153
                    have e202 : s196 164 2 = s148 164 2 := by rw [← hs197]; exact zset_k (zne_r zc_164 zc_202 (by decide))
                    have e203 : s196 164 5 = s148 164 5 := by rw [← hs197]; exact zset_k (zne_r zc_164 zc_202 (by decide))
                    have e204 : s196 164 97 = s148 164 97 := by rw [← hs197]; exact zset_k (zne_r zc_164 zc_202 (by decide))
                    have e205 : s196 164 99 = s148 164 99 := by rw [← hs197]; exact zset_k (zne_r zc_164 zc_202 (by decide))
                    have e206 : s196 164 100 = s148 164 100 := by rw [← hs197]; exact zset_k (zne_r zc_164 zc_202 (by decide))
                    have e207 : s196 164 101 = s148 164 101 := by rw [← hs197]; exact zset_k (zne_r zc_164 zc_202 (by decide))
                    have e208 : s196 164 51 = s148 164 51 := by rw [← hs197]; exact zset_k (zne_r zc_164 zc_202 (by decide))
                    have e209 : s196 164 48 = s148 164 48 := by rw [← hs197]; exact zset_k (zne_r zc_164 zc_202 (by decide))
                    have e210 : s196 200 1 = s148 200 1 := by rw [← hs197]; exact zset_k (zne_r zc_200 zc_202 (by decide))
                    have t211 : yTe (yPl.who (yPlr σ) 1) s196 := yTe_k g159 hs197 (by decide)
                    refine zt_aload_n (pc' := 116) hX dX12_codesTold_115 rfl rfl ?_
                    refine zt_dup (pc' := 117) hX dX12_codesTold_116 rfl rfl ?_
                    have b212 := zv_46_48 hI198 zc_164
                    refine zt_get (pc' := 120) (v := .int (zI (s196 164 48))) hX dX12_codesTold_117 rfl zf_X12_348 (by decide) zc_164 zs_46 rfl ?_
                    refine zt_iconst (pc' := 121) hX dX12_codesTold_120 rfl ?_
                    refine zt_iadd (pc' := 122) hX dX12_codesTold_121 rfl ?_
                    refine zt_put (pc' := 125) (x := ((s196 164 48) + 1)) hX dX12_codesTold_122 rfl zf_X12_348 (by decide) zc_164 zs_46 (fun q hq => by cases hq; rfl) rfl rfl rfl ?_
                    generalize hs214 : zset s196 164 48 ((s196 164 48) + 1) = s213
                    have hI215 : zInv s213 := hs214 ▸ zp_46_48 hI198 zc_164 ⟨by omega, by omega⟩
                    have hF216 : zOn zQ6 σ s213 := hs214 ▸ zOn_set hF199 (by decide)
                    have e217 : s213 164 2 = s196 164 2 := by rw [← hs214]; exact zset_j (by decide)
                    have e218 : s213 164 5 = s196 164 5 := by rw [← hs214]; exact zset_j (by decide)
                    have e219 : s213 164 97 = s196 164 97 := by rw [← hs214]; exact zset_j (by decide)
                    have e220 : s213 164 99 = s196 164 99 := by rw [← hs214]; exact zset_j (by decide)
                    have e221 : s213 164 100 = s196 164 100 := by rw [← hs214]; exact zset_j (by decide)
                    have e222 : s213 164 101 = s196 164 101 := by rw [← hs214]; exact zset_j (by decide)
                    have e223 : s213 164 51 = s196 164 51 := by rw [← hs214]; exact zset_j (by decide)
                    have e224 : s213 164 48 = ((s196 164 48) + 1) := by rw [← hs214]; exact zset_s
                    have e225 : s213 200 1 = s196 200 1 := by rw [← hs214]; exact zset_k (zne_r zc_200 zc_164 (by decide))
                    have hT226 := yTq_rk hT200 (yRq_j hs214 (by decide))
                    have hE227 : yqs f s213 = p151 := (yqs_rk (yRq_j hs214 (by decide))).trans hE201
                    have t228 : yTe (yPl.who (yPlr σ) 1) s213 := yTe_k t211 hs214 (by decide)
                    refine zt_iinc (pc' := 128) (lv' := [some (.ref (X.1.1 + 164)), some (.int (zI 1)), none, some (.int (zI (x145 + 1)))]) hX dX12_codesTold_125 rfl rfl hL (by decide) rfl ?_
                    refine zt_goto (tgt := 92) hX dX12_codesTold_128 (by decide) ?_
                    exact ih164 (x145 + 1) s213 p151 (by omega) (by omega) hI215 hF216 hT226 hE227 (by omega) (by omega) (by omega) (by omega) (by omega) t228 g160 g161 (by omega)
            refine zt_mask [true, true, false, true] rfl ?_
            exact L_92_161 _ 0 s129 p107 (by omega) (by omega) hI131 hF132 hT133 hE134 (by omega) (by omega) (by omega) (by omega) (by omega) t144 o124 z104 (Nat.lt_succ_self _)
          · exact zt_vret hX hR dX12_codesTold_79 ⟨hI101, hF106, hT103, hE108.trans (yHos_s (by omega) z104), (fun o => by have t := (yHb hT103 hE108).2 (by omega); rw [hE108] at o; omega)⟩
      · exact absurd c15 (by omega)
    · refine zt_aload_n (pc' := 18) hX dX12_codesTold_17 rfl rfl ?_
      refine zt_iconst (pc' := 19) hX dX12_codesTold_18 rfl ?_
      refine zt_iload_n (pc' := 20) hX dX12_codesTold_19 rfl rfl ?_
      refine zt_cVv (pc' := 23) hX dX12_codesTold_20 rfl zm_yX12_fail zw_26_19 zc_164 (by decide) zs_46 (q := (RX12, TX12, 108)) rfl rfl (yc_X12_fail _ _ σ hI 5 ⟨by omega, by omega⟩ a2_ ⟨by omega, by omega⟩ f (yTq_w hT)) rfl rfl (Nat.le_of_ble_eq_true rfl) (by decide) (fun r229 s230 hr231 hp232 => ?_)
      obtain ⟨hI233, hF234, hT235, z236, z237⟩ := hp232
      have hE238 : yqs f s230 = yPno 5 a2_ (yPx f s0) := by rw [z236, h0]
      have hF239 := zOn_tr hF hF234 zi_16
      have b240 := zv_46_2 hI233 zc_164
      have b241 := zv_46_5 hI233 zc_164
      have b242 := zv_46_97 hI233 zc_164
      have b243 := zv_46_99 hI233 zc_164
      have b244 := zv_46_100 hI233 zc_164
      have b245 := zv_46_101 hI233 zc_164
      have b246 := zv_46_51 hI233 zc_164
      have b247 := zv_46_48 hI233 zc_164
      have b248 := zv_82 hI233 zc_200 1
      have e249 := hF234 164 97 rfl
      have e250 := hF234 164 99 rfl
      have e251 := hF234 164 100 rfl
      have e252 := hF234 164 101 rfl
      have e253 := hF234 164 51 rfl
      have e254 := hF234 164 48 rfl
      have e255 := hF234 200 1 rfl
      have u256 := yHb0 hE238 yPo_no
      have t257 : yTe (yPlr σ) s230 := yTe_1 hTe hF234
      refine zt_aload_n (pc' := 24) hX dX12_codesTold_23 rfl rfl ?_
      have b258 := zv_46_5 hI233 zc_164
      refine zt_get (pc' := 27) (v := .int (zI (s230 164 5))) hX dX12_codesTold_24 rfl zf_X12_246 (by decide) zc_164 zs_46 rfl ?_
      refine zt_ifeq (pc' := 30) (tgt := 31) hX dX12_codesTold_27 rfl (by decide) ⟨by omega, by omega⟩ (fun c259 => ?_) (fun c259 => ?_)
      · exact absurd c259 (by omega)
      · exact zt_vret hX hR dX12_codesTold_30 ⟨hI233, hF239, hT235, hE238.trans (yHos_t (by omega) o0 (by omega)), (fun o => by rw [hE238, yPo_no] at o; exact absurd o (by decide))⟩
