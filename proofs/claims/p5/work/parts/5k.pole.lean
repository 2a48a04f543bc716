set_option maxRecDepth 100000 in
set_option maxHeartbeats 4000000 in
theorem yc_X12_poleTold (l : Launch) (E : zEN) (σ : zSto) (hI : zInv σ) (a1_ : Int) (ha1_ : 0 ≤ a1_ ∧ a1_ ≤ 1600) (hpre0 : 2 ≤ σ 194 0 ∧ σ 194 0 ≤ 6 ∧ 2 ≤ σ 194 1 ∧ σ 194 1 ≤ 6) (f : Int → Int) (hT : yTq f σ) (s0 : yP) (h0 : yqs f σ = yPx f s0) (o0 : yPo s0 = 1) (hbg : a1_ = yPq s0) (hWd : yWd σ) (hNv : yNvu σ) : zCt l E yX12_poleTold cX12_poleTold 6 none 4 zNC zNC 0 0 σ [.ref (E.1 + 164), .int (zI a1_)] (fun r σ' => zInv σ' ∧ zOn zQ4 σ σ' ∧ yTq f σ' ∧ ((yqs f σ') = yPol f (yPlr σ) s0) ∧ (yPo (yqs f σ') = 1 → yPlr σ' = yPolP f (yPlr σ) s0 ∧ yNvu σ')) := by
  refine zCt_of2 [some (.ref (E.1 + 164)), some (.int (zI a1_)), none, none, none, none] (by decide +kernel) (Nat.le_of_ble_eq_true rfl) rfl ?_
  intro X hE_ hX hR hL hN
  subst hE_
  have hX : zok X cX12_poleTold RX12 4 := hX
  have hF := zOn_rf zQ4 σ
  have hE0 : yqs f σ = yqs f σ := rfl
  have hb0 : σ 164 5 = 0 := yHb1 h0 (yPo_px.trans o0)
  have hq0 : yQb (yPx f s0) := yQb_q hT h0
  have b1 := zv_46_5 hI zc_164
  have b2 := zv_77 hI zc_195 0
  refine zt_aload_n (pc' := 1) hX dX12_poleTold_0 rfl rfl ?_
  have b3 := zv_46_5 hI zc_164
  refine zt_get (pc' := 4) (v := .int (zI (σ 164 5))) hX dX12_poleTold_1 rfl zf_X12_246 (by decide) zc_164 zs_46 rfl ?_
  refine zt_ifne (pc' := 7) (tgt := 24) hX dX12_poleTold_4 rfl (by decide) ⟨by omega, by omega⟩ (fun c4 => ?_) (fun c4 => ?_)
  · exact absurd c4 (by omega)
  · refine zt_aload_n (pc' := 8) hX dX12_poleTold_7 rfl rfl ?_
    refine zt_get (pc' := 11) (v := .ref (X.1.1 + 195)) hX dX12_poleTold_8 rfl zf_X12_105 (by decide) zc_164 zs_46 (zrf_of (zv_46_40 hI zc_164)) ?_
    refine zt_iconst (pc' := 12) hX dX12_poleTold_11 rfl ?_
    refine zt_iald (pc' := 13) hX dX12_poleTold_12 rfl (by decide) zc_195 zs_77 (by decide) ⟨by omega, by omega⟩ ?_
    rw [show Int.toNat 0 = 0 from rfl]
    have b6 := zv_77 hI zc_195 0
    refine zt_bipush (pc' := 15) hX dX12_poleTold_13 rfl (by decide) (by decide) ?_
    refine zt_icne (pc' := 18) (tgt := 24) hX dX12_poleTold_15 rfl (by decide) ⟨by omega, by omega⟩ ⟨by omega, by omega⟩ (fun c7 => ?_) (fun c7 => ?_)
    · refine zt_aload_n (pc' := 25) hX dX12_poleTold_24 rfl rfl ?_
      refine zt_get (pc' := 28) (v := .int (zI (σ 164 5))) hX dX12_poleTold_25 rfl zf_X12_246 (by decide) zc_164 zs_46 rfl ?_
      refine zt_ifeq (pc' := 31) (tgt := 32) hX dX12_poleTold_28 rfl (by decide) ⟨by omega, by omega⟩ (fun c8 => ?_) (fun c8 => ?_)
      · refine zt_aload_n (pc' := 33) hX dX12_poleTold_32 rfl rfl ?_
        refine zt_cVl (pc' := 36) hX dX12_poleTold_33 rfl zm_yX12_name zw_28_11 zc_164 (by decide) zs_46 (q := (RX12, TX12, 108)) rfl rfl (yc_X12_name _ _ σ hI f hT (yWd_3 hWd (zOn_up hF zi_43))) rfl rfl (Nat.le_of_ble_eq_true rfl) (by decide) (fun r9 s10 hr11 hp12 => ?_)
        obtain ⟨hI13, hF14, q15, q16, hT17, z18, z19⟩ := hp12
        have hE20 : yqs f s10 = yNm0 f (yPx f s0) := by rw [z18, h0]
        rw [h0] at z19
        have hF21 := zOn_tr hF hF14 zi_14
        rw [hE20] at z19
        have b22 := zv_46_5 hI13 zc_164
        have b23 := zv_77 hI13 zc_195 0
        have e24 := hF14 194 0 rfl
        have e25 := hF14 194 1 rfl
        have e26 := hF14 195 0 rfl
        have F27 : zOn zQ1 σ s10 := zOn_tr (zOn_rf zQ1 σ) hF14 zi_id
        have hz28 : yZn f (yPx f s0) r9 (s10 164 38) := z19
        clear z19
        refine zt_lstore_n (pc' := 37) (lv' := [some (.ref (X.1.1 + 164)), some (.int (zI a1_)), some (.long (zJ r9)), none, none, none]) hX dX12_poleTold_36 rfl hL (by decide) rfl ?_
        refine zt_iconst (pc' := 38) hX dX12_poleTold_37 rfl ?_
        refine zt_istore (pc' := 40) (lv' := [some (.ref (X.1.1 + 164)), some (.int (zI a1_)), some (.long (zJ r9)), none, some (.int (zI 0)), none]) hX dX12_poleTold_38 rfl hL (by decide) rfl ?_
        have L_40_43 : ∀ (N : Nat) (x29 : Int) (s32 : zSto) (p35 : yP), 0 ≤ x29 → x29 ≤ 10 → zInv s32 → zOn zQ4 σ s32 → yTq f s32 → yqs f s32 = p35 → x29 ≤ σ 195 0 → s32 194 0 = σ 194 0 → s32 194 1 = σ 194 1 → s32 195 0 = σ 195 0 → yGo (yNm0 f (yPx f s0)) p35 3 (yPq (yPx f s0)) r9 x29 (σ 196) (s32 164 38) → zOn zQ1 σ s32 → ((11 - x29).toNat) < N → zF X s32 40 [some (.ref (X.1.1 + 164)), none, some (.long (zJ r9)), none, some (.int (zI x29)), none] [] := by
          intro N
          induction N with
          | zero =>
            intro x29 s32 p35 h30 h31 hI33 hF34 hT36 hE37 g38 g39 g40 g41 g42 g43 hm45
            exact absurd hm45 (Nat.not_lt_zero _)
          | succ N ih46 =>
            intro x29 s32 p35 h30 h31 hI33 hF34 hT36 hE37 g38 g39 g40 g41 g42 g43 hm45
            have b47 := zv_46_5 hI33 zc_164
            have b48 := zv_77 hI33 zc_195 0
            rcases yGo_c g42 with ⟨rfl, gA49⟩ | ⟨rfl, gO50, gX51⟩
            · have u52 := g43 195 0 rfl
              refine zt_iload (pc' := 42) hX dX12_poleTold_40 rfl rfl ?_
              refine zt_aload_n (pc' := 43) hX dX12_poleTold_42 rfl rfl ?_
              refine zt_get (pc' := 46) (v := .ref (X.1.1 + 195)) hX dX12_poleTold_43 rfl zf_X12_105 (by decide) zc_164 zs_46 (zrf_of (zv_46_40 hI33 zc_164)) ?_
              refine zt_iconst (pc' := 47) hX dX12_poleTold_46 rfl ?_
              refine zt_iald (pc' := 48) hX dX12_poleTold_47 rfl (by decide) zc_195 zs_77 (by decide) ⟨by omega, by omega⟩ ?_
              rw [show Int.toNat 0 = 0 from rfl]
              have b54 := zv_77 hI33 zc_195 0
              refine zt_icge (pc' := 51) (tgt := 85) hX dX12_poleTold_48 rfl (by decide) ⟨by omega, by omega⟩ ⟨by omega, by omega⟩ (fun c55 => ?_) (fun c55 => ?_)
              · refine zt_aload_n (pc' := 86) hX dX12_poleTold_85 rfl rfl ?_
                refine zt_aload_n (pc' := 87) hX dX12_poleTold_86 rfl rfl ?_
                refine zt_get (pc' := 90) (v := .ref (X.1.1 + 172)) hX dX12_poleTold_87 rfl zf_X12_36 (by decide) zc_164 zs_46 (zrf_of (zv_46_16 hI33 zc_164)) ?_
                refine zt_cVv (pc' := 93) hX dX12_poleTold_90 rfl zm_yX12_asks zw_26_0 zc_164 (by decide) zs_46 (q := (RX12, TX12, 108)) rfl rfl (yc_X12_asks _ _ s32 hI33 172 54 2 zc_172 (by decide) zs_54 (by decide) f hT36 5 (yrow_172 (yWd_3 hWd (zOn_up hF34 zi_43))) (by decide)) rfl rfl (Nat.le_of_ble_eq_true rfl) (by decide) (fun r56 s57 hr58 hp59 => ?_)
                obtain ⟨hI60, hF61, hT62, z63⟩ := hp59
                have hE64 : yqs f s57 = yPw f 5 (yNm0 f (yPx f s0)) := by rw [z63, hE37]
                have hF65 := zOn_tr hF34 hF61 zi_14
                have b66 := zv_46_5 hI60 zc_164
                have b67 := zv_77 hI60 zc_195 0
                have e68 := hF61 194 0 rfl
                have e69 := hF61 194 1 rfl
                have e70 := hF61 195 0 rfl
                have F71 : zOn zQ1 σ s57 := zOn_tr g43 hF61 zi_id
                have hQ72 := yNam_end (pl := s32 164 38) (Or.inl ⟨rfl, gA49⟩) (by omega) (fun o => ⟨(hz28 o).1, rfl⟩) hNv hT62.1 hq0
                have hE73 : yqs f s57 = yPo1 f (yPlr σ) s0 := hE64.trans (congrArg (yPw f 5) hQ72)
                refine zt_aload_n (pc' := 94) hX dX12_poleTold_93 rfl rfl ?_
                refine zt_cVi (pc' := 97) hX dX12_poleTold_94 rfl zm_yX12_cellTold zw_28_2 zc_164 (by decide) zs_46 (q := (RX12, TX12, 108)) rfl rfl (yc_X12_cellTold _ _ s57 hI60 (by omega) f hT62) rfl rfl (Nat.le_of_ble_eq_true rfl) (by decide) (fun r74 s75 hr76 hp77 => ?_)
                obtain ⟨hI78, hF79, q80, q81, hT82, z83, z84⟩ := hp77
                have hE85 : yqs f s75 = yPn f 0 ((s57 194 1) - 1) (yPn f 0 ((s57 194 0) - 1) (yPo1 f (yPlr σ) s0)) := by rw [z83, hE73]
                rw [hE73] at z84
                have hF86 := zOn_tr hF65 hF79 zi_14
                rw [hE85] at z84
                have b87 := zv_46_5 hI78 zc_164
                have b88 := zv_77 hI78 zc_195 0
                have e89 := hF79 194 0 rfl
                have e90 := hF79 194 1 rfl
                have e91 := hF79 195 0 rfl
                have F92 : zOn zQ1 σ s75 := zOn_tr F71 hF79 zi_id
                have a93 : s57 194 0 = σ 194 0 := by omega
                have a94 : s57 194 1 = σ 194 1 := by omega
                have hE95 : yqs f s75 = yPo3 f (yPlr σ) s0 := by rw [hE85, a93, a94]; rfl
                have hz96 : yZc f (yPlr σ) s0 r74 (s75 164 10) := by have t := z84; rw [a93, a94] at t; exact t
                clear z84
                refine zt_istore (pc' := 99) (lv' := [some (.ref (X.1.1 + 164)), none, some (.long (zJ r9)), none, some (.int (zI r74)), none]) hX dX12_poleTold_97 rfl hL (by decide) rfl ?_
                refine zt_iconst (pc' := 100) hX dX12_poleTold_99 rfl ?_
                refine zt_istore (pc' := 102) (lv' := [some (.ref (X.1.1 + 164)), none, some (.long (zJ r9)), none, some (.int (zI r74)), some (.int (zI 0))]) hX dX12_poleTold_100 rfl hL (by decide) rfl ?_
                have L_102_111 : ∀ (N : Nat) (x97 : Int) (s100 : zSto) (p103 : yP), 0 ≤ x97 → x97 ≤ 10 → zInv s100 → zOn zQ4 σ s100 → yTq f s100 → yqs f s100 = p103 → x97 ≤ σ 195 0 → s100 194 0 = σ 194 0 → s100 194 1 = σ 194 1 → s100 195 0 = σ 195 0 → yGo (yPo3 f (yPlr σ) s0) p103 2 (yPq (yPo2 f (yPlr σ) s0)) r74 x97 (fun j => σ 198 (2 * j)) (s100 164 10) → zOn zQ1 σ s100 → ((11 - x97).toNat) < N → zF X s100 102 [some (.ref (X.1.1 + 164)), none, some (.long (zJ r9)), none, some (.int (zI r74)), some (.int (zI x97))] [] := by
                  intro N
                  induction N with
                  | zero =>
                    intro x97 s100 p103 h98 h99 hI101 hF102 hT104 hE105 g106 g107 g108 g109 g110 g111 hm113
                    exact absurd hm113 (Nat.not_lt_zero _)
                  | succ N ih114 =>
                    intro x97 s100 p103 h98 h99 hI101 hF102 hT104 hE105 g106 g107 g108 g109 g110 g111 hm113
                    have b115 := zv_46_5 hI101 zc_164
                    have b116 := zv_77 hI101 zc_195 0
                    rcases yGo_c g110 with ⟨rfl, gA117⟩ | ⟨rfl, gO118, gX119⟩
                    · have u120 := g111 195 0 rfl
                      refine zt_iload (pc' := 104) hX dX12_poleTold_102 rfl rfl ?_
                      refine zt_aload_n (pc' := 105) hX dX12_poleTold_104 rfl rfl ?_
                      refine zt_get (pc' := 108) (v := .ref (X.1.1 + 195)) hX dX12_poleTold_105 rfl zf_X12_105 (by decide) zc_164 zs_46 (zrf_of (zv_46_40 hI101 zc_164)) ?_
                      refine zt_iconst (pc' := 109) hX dX12_poleTold_108 rfl ?_
                      refine zt_iald (pc' := 110) hX dX12_poleTold_109 rfl (by decide) zc_195 zs_77 (by decide) ⟨by omega, by omega⟩ ?_
                      rw [show Int.toNat 0 = 0 from rfl]
                      have b122 := zv_77 hI101 zc_195 0
                      refine zt_icge (pc' := 113) (tgt := 149) hX dX12_poleTold_110 rfl (by decide) ⟨by omega, by omega⟩ ⟨by omega, by omega⟩ (fun c123 => ?_) (fun c123 => ?_)
                      · refine zt_aload_n (pc' := 150) hX dX12_poleTold_149 rfl rfl ?_
                        refine zt_aload_n (pc' := 151) hX dX12_poleTold_150 rfl rfl ?_
                        refine zt_get (pc' := 154) (v := .ref (X.1.1 + 173)) hX dX12_poleTold_151 rfl zf_X12_39 (by decide) zc_164 zs_46 (zrf_of (zv_46_17 hI101 zc_164)) ?_
                        refine zt_cVv (pc' := 157) hX dX12_poleTold_154 rfl zm_yX12_asks zw_26_0 zc_164 (by decide) zs_46 (q := (RX12, TX12, 108)) rfl rfl (yc_X12_asks _ _ s100 hI101 173 55 5 zc_173 (by decide) zs_55 (by decide) f hT104 6 (yrow_173 (yWd_3 hWd (zOn_up hF102 zi_43))) (by decide)) rfl rfl (Nat.le_of_ble_eq_true rfl) (by decide) (fun r124 s125 hr126 hp127 => ?_)
                        obtain ⟨hI128, hF129, hT130, z131⟩ := hp127
                        have hE132 : yqs f s125 = yPw f 6 (yPo3 f (yPlr σ) s0) := by rw [z131, hE105]
                        have hF133 := zOn_tr hF102 hF129 zi_14
                        have b134 := zv_46_5 hI128 zc_164
                        have b135 := zv_77 hI128 zc_195 0
                        have e136 := hF129 194 0 rfl
                        have e137 := hF129 194 1 rfl
                        have e138 := hF129 195 0 rfl
                        have F139 : zOn zQ1 σ s125 := zOn_tr g111 hF129 zi_id
                        have hQ140 := yHom_end (pl := s100 164 10) (Or.inl ⟨rfl, gA117⟩) (by omega) (fun o => (hz96 o).1) (fun _ => rfl)
                        have hE141 : yqs f s125 = yPw f 6 (yPo4 f (yPlr σ) s0) := hE132.trans (congrArg (yPw f 6) hQ140)
                        refine zt_aload_n (pc' := 158) hX dX12_poleTold_157 rfl rfl ?_
                        refine zt_iconst (pc' := 159) hX dX12_poleTold_158 rfl ?_
                        refine zt_bipush (pc' := 161) hX dX12_poleTold_159 rfl (by decide) (by decide) ?_
                        refine zt_cVi (pc' := 164) hX dX12_poleTold_161 rfl zm_yX12_number zw_26_23 zc_164 (by decide) zs_46 (q := (RX12, TX12, 108)) rfl rfl (yc_X12_number _ _ s125 hI128 0 ⟨by omega, by omega⟩ 99 ⟨by omega, by omega⟩ f hT130) rfl rfl (Nat.le_of_ble_eq_true rfl) (by decide) (fun r142 s143 hr144 hp145 => ?_)
                        obtain ⟨hI146, hF147, q148, q149, hT150, z151, z152⟩ := hp145
                        have hE153 : yqs f s143 = yPn f 0 99 (yPw f 6 (yPo4 f (yPlr σ) s0)) := by rw [z151, hE141]
                        rw [hE141] at z152
                        have hF154 := zOn_tr hF133 hF147 zi_14
                        rw [hE153] at z152
                        have b155 := zv_46_5 hI146 zc_164
                        have b156 := zv_77 hI146 zc_195 0
                        have e157 := hF147 194 0 rfl
                        have e158 := hF147 194 1 rfl
                        have e159 := hF147 195 0 rfl
                        have F160 : zOn zQ1 σ s143 := zOn_tr F139 hF147 zi_id
                        have hz161 : yZm (yPn f 0 99 (yPw f 6 (yPo4 f (yPlr σ) s0))) 0 99 r142 := fun o => (z152 o).2.2
                        clear z152
                        refine zt_istore (pc' := 166) (lv' := [some (.ref (X.1.1 + 164)), none, some (.long (zJ r9)), none, some (.int (zI r74)), some (.int (zI r142))]) hX dX12_poleTold_164 rfl hL (by decide) rfl ?_
                        refine zt_aload_n (pc' := 167) hX dX12_poleTold_166 rfl rfl ?_
                        have b162 := zv_46_5 hI146 zc_164
                        refine zt_get (pc' := 170) (v := .int (zI (s143 164 5))) hX dX12_poleTold_167 rfl zf_X12_246 (by decide) zc_164 zs_46 rfl ?_
                        refine zt_ifeq (pc' := 173) (tgt := 174) hX dX12_poleTold_170 rfl (by decide) ⟨by omega, by omega⟩ (fun c163 => ?_) (fun c163 => ?_)
                        · have u164 := yZm_b hz161 hT150 hE153 (by omega)
                          refine zt_aload_n (pc' := 175) hX dX12_poleTold_174 rfl rfl ?_
                          refine zt_get (pc' := 178) (v := .ref (X.1.1 + 196)) hX dX12_poleTold_175 rfl zf_X12_108 (by decide) zc_164 zs_46 (zrf_of (zv_46_41 hI146 zc_164)) ?_
                          refine zt_aload_n (pc' := 179) hX dX12_poleTold_178 rfl rfl ?_
                          refine zt_get (pc' := 182) (v := .ref (X.1.1 + 195)) hX dX12_poleTold_179 rfl zf_X12_105 (by decide) zc_164 zs_46 (zrf_of (zv_46_40 hI146 zc_164)) ?_
                          refine zt_iconst (pc' := 183) hX dX12_poleTold_182 rfl ?_
                          refine zt_iald (pc' := 184) hX dX12_poleTold_183 rfl (by decide) zc_195 zs_77 (by decide) ⟨by omega, by omega⟩ ?_
                          rw [show Int.toNat 0 = 0 from rfl]
                          have b166 := zv_77 hI146 zc_195 0
                          refine zt_lload_n (pc' := 185) hX dX12_poleTold_184 rfl rfl ?_
                          refine zt_last (pc' := 186) hX dX12_poleTold_185 rfl (by decide) zc_196 zs_78 (by decide) ⟨by omega, by omega⟩ ?_
                          generalize hs168 : zset s143 196 ((s143 195 0).toNat) r9 = s167
                          have hI169 : zInv s167 := hs168 ▸ zp_78 hI146 zc_196 ((s143 195 0).toNat) ⟨by omega, by omega⟩
                          have hF170 : zOn zQ4 σ s167 := hs168 ▸ zOn_set hF154 (zq4_196 (by omega))
                          have hT171 := yTq_rk hT150 (yRq_set hs168 zc_196 (by decide))
                          have hE172 : yqs f s167 = yPn f 0 99 (yPw f 6 (yPo4 f (yPlr σ) s0)) := (yqs_rk (yRq_set hs168 zc_196 (by decide))).trans hE153
                          have e173 : s167 164 5 = s143 164 5 := by rw [← hs168]; exact zset_k (zne_r zc_164 zc_196 (by decide))
                          have e174 : s167 194 0 = s143 194 0 := by rw [← hs168]; exact zset_k (zne_r zc_194 zc_196 (by decide))
                          have e175 : s167 194 1 = s143 194 1 := by rw [← hs168]; exact zset_k (zne_r zc_194 zc_196 (by decide))
                          have e176 : s167 195 0 = s143 195 0 := by rw [← hs168]; exact zset_k (zne_r zc_195 zc_196 (by decide))
                          refine zt_aload_n (pc' := 187) hX dX12_poleTold_186 rfl rfl ?_
                          refine zt_get (pc' := 190) (v := .ref (X.1.1 + 198)) hX dX12_poleTold_187 rfl zf_X12_115 (by decide) zc_164 zs_46 (zrf_of (zv_46_43 hI169 zc_164)) ?_
                          refine zt_iconst (pc' := 191) hX dX12_poleTold_190 rfl ?_
                          refine zt_aload_n (pc' := 192) hX dX12_poleTold_191 rfl rfl ?_
                          refine zt_get (pc' := 195) (v := .ref (X.1.1 + 195)) hX dX12_poleTold_192 rfl zf_X12_105 (by decide) zc_164 zs_46 (zrf_of (zv_46_40 hI169 zc_164)) ?_
                          refine zt_iconst (pc' := 196) hX dX12_poleTold_195 rfl ?_
                          refine zt_iald (pc' := 197) hX dX12_poleTold_196 rfl (by decide) zc_195 zs_77 (by decide) ⟨by omega, by omega⟩ ?_
                          rw [show Int.toNat 0 = 0 from rfl]
                          have b178 := zv_77 hI169 zc_195 0
                          refine zt_imul (pc' := 198) hX dX12_poleTold_197 rfl ?_
                          refine zt_iload (pc' := 200) hX dX12_poleTold_198 rfl rfl ?_
                          refine zt_iast (pc' := 201) hX dX12_poleTold_200 rfl (by decide) zc_198 zs_80 (by decide) ⟨by omega, by omega⟩ ?_
                          generalize hs180 : zset s167 198 ((2 * (s167 195 0)).toNat) r74 = s179
                          have hI181 : zInv s179 := hs180 ▸ zp_80 hI169 zc_198 ((2 * (s167 195 0)).toNat) (by omega)
                          have hF182 : zOn zQ4 σ s179 := hs180 ▸ zOn_set hF170 (zq4_198 (by omega))
                          have hT183 := yTq_rk hT171 (yRq_set hs180 zc_198 (by decide))
                          have hE184 : yqs f s179 = yPn f 0 99 (yPw f 6 (yPo4 f (yPlr σ) s0)) := (yqs_rk (yRq_set hs180 zc_198 (by decide))).trans hE172
                          have e185 : s179 164 5 = s167 164 5 := by rw [← hs180]; exact zset_k (zne_r zc_164 zc_198 (by decide))
                          have e186 : s179 194 0 = s167 194 0 := by rw [← hs180]; exact zset_k (zne_r zc_194 zc_198 (by decide))
                          have e187 : s179 194 1 = s167 194 1 := by rw [← hs180]; exact zset_k (zne_r zc_194 zc_198 (by decide))
                          have e188 : s179 195 0 = s167 195 0 := by rw [← hs180]; exact zset_k (zne_r zc_195 zc_198 (by decide))
                          refine zt_aload_n (pc' := 202) hX dX12_poleTold_201 rfl rfl ?_
                          refine zt_get (pc' := 205) (v := .ref (X.1.1 + 198)) hX dX12_poleTold_202 rfl zf_X12_115 (by decide) zc_164 zs_46 (zrf_of (zv_46_43 hI181 zc_164)) ?_
                          refine zt_iconst (pc' := 206) hX dX12_poleTold_205 rfl ?_
                          refine zt_aload_n (pc' := 207) hX dX12_poleTold_206 rfl rfl ?_
                          refine zt_get (pc' := 210) (v := .ref (X.1.1 + 195)) hX dX12_poleTold_207 rfl zf_X12_105 (by decide) zc_164 zs_46 (zrf_of (zv_46_40 hI181 zc_164)) ?_
                          refine zt_iconst (pc' := 211) hX dX12_poleTold_210 rfl ?_
                          refine zt_iald (pc' := 212) hX dX12_poleTold_211 rfl (by decide) zc_195 zs_77 (by decide) ⟨by omega, by omega⟩ ?_
                          rw [show Int.toNat 0 = 0 from rfl]
                          have b190 := zv_77 hI181 zc_195 0
                          refine zt_imul (pc' := 213) hX dX12_poleTold_212 rfl ?_
                          refine zt_iconst (pc' := 214) hX dX12_poleTold_213 rfl ?_
                          refine zt_iadd (pc' := 215) hX dX12_poleTold_214 rfl ?_
                          refine zt_iload (pc' := 217) hX dX12_poleTold_215 rfl rfl ?_
                          refine zt_iast (pc' := 218) hX dX12_poleTold_217 rfl (by decide) zc_198 zs_80 (by decide) ⟨by omega, by omega⟩ ?_
                          generalize hs192 : zset s179 198 (((2 * (s179 195 0)) + 1).toNat) r142 = s191
                          have hI193 : zInv s191 := hs192 ▸ zp_80 hI181 zc_198 (((2 * (s179 195 0)) + 1).toNat) (by omega)
                          have hF194 : zOn zQ4 σ s191 := hs192 ▸ zOn_set hF182 (zq4_198 (by omega))
                          have hT195 := yTq_rk hT183 (yRq_set hs192 zc_198 (by decide))
                          have hE196 : yqs f s191 = yPn f 0 99 (yPw f 6 (yPo4 f (yPlr σ) s0)) := (yqs_rk (yRq_set hs192 zc_198 (by decide))).trans hE184
                          have e197 : s191 164 5 = s179 164 5 := by rw [← hs192]; exact zset_k (zne_r zc_164 zc_198 (by decide))
                          have e198 : s191 194 0 = s179 194 0 := by rw [← hs192]; exact zset_k (zne_r zc_194 zc_198 (by decide))
                          have e199 : s191 194 1 = s179 194 1 := by rw [← hs192]; exact zset_k (zne_r zc_194 zc_198 (by decide))
                          have e200 : s191 195 0 = s179 195 0 := by rw [← hs192]; exact zset_k (zne_r zc_195 zc_198 (by decide))
                          refine zt_aload_n (pc' := 219) hX dX12_poleTold_218 rfl rfl ?_
                          refine zt_get (pc' := 222) (v := .ref (X.1.1 + 195)) hX dX12_poleTold_219 rfl zf_X12_105 (by decide) zc_164 zs_46 (zrf_of (zv_46_40 hI193 zc_164)) ?_
                          refine zt_iconst (pc' := 223) hX dX12_poleTold_222 rfl ?_
                          refine zt_dup2 (pc' := 224) hX dX12_poleTold_223 rfl rfl rfl ?_
                          refine zt_iald (pc' := 225) hX dX12_poleTold_224 rfl (by decide) zc_195 zs_77 (by decide) ⟨by omega, by omega⟩ ?_
                          rw [show Int.toNat 0 = 0 from rfl]
                          have b202 := zv_77 hI193 zc_195 0
                          refine zt_iconst (pc' := 226) hX dX12_poleTold_225 rfl ?_
                          refine zt_iadd (pc' := 227) hX dX12_poleTold_226 rfl ?_
                          refine zt_iast (pc' := 228) hX dX12_poleTold_227 rfl (by decide) zc_195 zs_77 (by decide) ⟨by omega, by omega⟩ ?_
                          rw [show Int.toNat 0 = 0 from rfl]
                          generalize hs204 : zset s191 195 0 ((s191 195 0) + 1) = s203
                          have hI205 : zInv s203 := hs204 ▸ zp_77 hI193 zc_195 0 ⟨by omega, by omega⟩
                          have hF206 : zOn zQ4 σ s203 := hs204 ▸ zOn_set hF194 (by decide)
                          have hT207 := yTq_rk hT195 (yRq_set hs204 zc_195 (by decide))
                          have hE208 : yqs f s203 = yPn f 0 99 (yPw f 6 (yPo4 f (yPlr σ) s0)) := (yqs_rk (yRq_set hs204 zc_195 (by decide))).trans hE196
                          have e209 : s203 164 5 = s191 164 5 := by rw [← hs204]; exact zset_k (zne_r zc_164 zc_195 (by decide))
                          have e210 : s203 194 0 = s191 194 0 := by rw [← hs204]; exact zset_k (zne_r zc_194 zc_195 (by decide))
                          have e211 : s203 194 1 = s191 194 1 := by rw [← hs204]; exact zset_k (zne_r zc_194 zc_195 (by decide))
                          have e212 : s203 195 0 = ((s191 195 0) + 1) := by rw [← hs204]; exact zset_s
                          exact zt_vret hX hR dX12_poleTold_228 ⟨hI205, hF206, hT207, hE208.trans (yPol_b (by omega)), (fun o => yPol_P hT207.1 hq0 (by rw [← hE208]; exact o) hNv (fun o => (hz28 o).1) (fun o => (hz96 o).1) (yPlr_add F160 (by omega) hs168 hs180 hs192 hs204 (by omega) (by omega) (by omega) (by omega)))⟩
                        · exact zt_vret hX hR dX12_poleTold_173 ⟨hI146, hF154, hT150, hE153.trans (yPol_b (by omega)), (fun o => by have t := yHb1 rfl o; omega)⟩
                      · refine zt_aload_n (pc' := 114) hX dX12_poleTold_113 rfl rfl ?_
                        have b213 := zv_46_5 hI101 zc_164
                        refine zt_get (pc' := 117) (v := .int (zI (s100 164 5))) hX dX12_poleTold_114 rfl zf_X12_246 (by decide) zc_164 zs_46 rfl ?_
                        refine zt_ifne (pc' := 120) (tgt := 143) hX dX12_poleTold_117 rfl (by decide) ⟨by omega, by omega⟩ (fun c214 => ?_) (fun c214 => ?_)
                        · refine zt_iinc (pc' := 146) (lv' := [some (.ref (X.1.1 + 164)), none, some (.long (zJ r9)), none, some (.int (zI r74)), some (.int (zI (x97 + 1)))]) hX dX12_poleTold_143 rfl rfl hL (by decide) rfl ?_
                          refine zt_goto (tgt := 102) hX dX12_poleTold_146 (by decide) ?_
                          exact ih114 (x97 + 1) s100 (yPo3 f (yPlr σ) s0) (by omega) (by omega) hI101 hF102 hT104 hE105 (by omega) (by omega) (by omega) (by omega) (yGo_n (place := 0) ((yHb hT104 hE105).2 (by omega))) g111 (by omega)
                        · refine zt_aload_n (pc' := 121) hX dX12_poleTold_120 rfl rfl ?_
                          refine zt_get (pc' := 124) (v := .ref (X.1.1 + 198)) hX dX12_poleTold_121 rfl zf_X12_115 (by decide) zc_164 zs_46 (zrf_of (zv_46_43 hI101 zc_164)) ?_
                          refine zt_iconst (pc' := 125) hX dX12_poleTold_124 rfl ?_
                          refine zt_iload (pc' := 127) hX dX12_poleTold_125 rfl rfl ?_
                          refine zt_imul (pc' := 128) hX dX12_poleTold_127 rfl ?_
                          refine zt_iald (pc' := 129) hX dX12_poleTold_128 rfl (by decide) zc_198 zs_80 (by decide) ⟨by omega, by omega⟩ ?_
                          have bv215 := zv_80 hI101 zc_198 ((2 * x97).toNat)
                          generalize hv215 : s100 198 ((2 * x97).toNat) = v215 at bv215 ⊢
                          refine zt_iload (pc' := 131) hX dX12_poleTold_129 rfl rfl ?_
                          refine zt_icne (pc' := 134) (tgt := 143) hX dX12_poleTold_131 rfl (by decide) ⟨by omega, by omega⟩ ⟨by omega, by omega⟩ (fun c216 => ?_) (fun c216 => ?_)
                          · refine zt_iinc (pc' := 146) (lv' := [some (.ref (X.1.1 + 164)), none, some (.long (zJ r9)), none, some (.int (zI r74)), some (.int (zI (x97 + 1)))]) hX dX12_poleTold_143 rfl rfl hL (by decide) rfl ?_
                            refine zt_goto (tgt := 102) hX dX12_poleTold_146 (by decide) ?_
                            exact ih114 (x97 + 1) s100 (yPo3 f (yPlr σ) s0) (by omega) (by omega) hI101 hF102 hT104 hE105 (by omega) (by omega) (by omega) (by omega) (yGo_s gA117 (by omega) (show σ 198 (2 * x97.toNat) = v215 from by rw [show 2 * x97.toNat = (2 * x97).toNat by omega]; exact (g111 198 _ rfl).symm.trans hv215) (by omega)) g111 (by omega)
                          · refine zt_aload_n (pc' := 135) hX dX12_poleTold_134 rfl rfl ?_
                            refine zt_iconst (pc' := 136) hX dX12_poleTold_135 rfl ?_
                            refine zt_aload_n (pc' := 137) hX dX12_poleTold_136 rfl rfl ?_
                            have b217 := zv_46_10 hI101 zc_164
                            refine zt_get (pc' := 140) (v := .int (zI (s100 164 10))) hX dX12_poleTold_137 rfl zf_X12_286 (by decide) zc_164 zs_46 rfl ?_
                            refine zt_cVv (pc' := 143) hX dX12_poleTold_140 rfl zm_yX12_fail zw_26_19 zc_164 (by decide) zs_46 (q := (RX12, TX12, 108)) rfl rfl (yc_X12_fail _ _ s100 hI101 2 ⟨by omega, by omega⟩ (s100 164 10) ⟨by omega, by omega⟩ f (yTq_w hT104)) rfl rfl (Nat.le_of_ble_eq_true rfl) (by decide) (fun r218 s219 hr220 hp221 => ?_)
                            obtain ⟨hI222, hF223, hT224, z225, z226⟩ := hp221
                            have hE227 : yqs f s219 = yPno 2 (s100 164 10) (yPo3 f (yPlr σ) s0) := by rw [z225, hE105]
                            have hF228 := zOn_tr hF102 hF223 zi_14
                            have b229 := zv_46_5 hI222 zc_164
                            have b230 := zv_77 hI222 zc_195 0
                            have e231 := hF223 194 0 rfl
                            have e232 := hF223 194 1 rfl
                            have e233 := hF223 195 0 rfl
                            have F234 : zOn zQ1 σ s219 := zOn_tr g111 hF223 zi_id
                            have u235 := yHb0 hE227 yPo_no
                            refine zt_iinc (pc' := 146) (lv' := [some (.ref (X.1.1 + 164)), none, some (.long (zJ r9)), none, some (.int (zI r74)), some (.int (zI (x97 + 1)))]) hX dX12_poleTold_143 rfl rfl hL (by decide) rfl ?_
                            refine zt_goto (tgt := 102) hX dX12_poleTold_146 (by decide) ?_
                            exact ih114 (x97 + 1) s219 (yPno 2 (s100 164 10) (yPo3 f (yPlr σ) s0)) (by omega) (by omega) hI222 hF228 hT224 hE227 (by omega) (by omega) (by omega) (by omega) (yGo_f gA117 ((yHb hT104 hE105).1 (by omega)) (by omega) (show σ 198 (2 * x97.toNat) = v215 from by rw [show 2 * x97.toNat = (2 * x97).toNat by omega]; exact (g111 198 _ rfl).symm.trans hv215) (by omega)) F234 (by omega)
                    · have u236 := yHb0 hE105 yPo_no
                      refine zt_iload (pc' := 104) hX dX12_poleTold_102 rfl rfl ?_
                      refine zt_aload_n (pc' := 105) hX dX12_poleTold_104 rfl rfl ?_
                      refine zt_get (pc' := 108) (v := .ref (X.1.1 + 195)) hX dX12_poleTold_105 rfl zf_X12_105 (by decide) zc_164 zs_46 (zrf_of (zv_46_40 hI101 zc_164)) ?_
                      refine zt_iconst (pc' := 109) hX dX12_poleTold_108 rfl ?_
                      refine zt_iald (pc' := 110) hX dX12_poleTold_109 rfl (by decide) zc_195 zs_77 (by decide) ⟨by omega, by omega⟩ ?_
                      rw [show Int.toNat 0 = 0 from rfl]
                      have b238 := zv_77 hI101 zc_195 0
                      refine zt_icge (pc' := 113) (tgt := 149) hX dX12_poleTold_110 rfl (by decide) ⟨by omega, by omega⟩ ⟨by omega, by omega⟩ (fun c239 => ?_) (fun c239 => ?_)
                      · refine zt_aload_n (pc' := 150) hX dX12_poleTold_149 rfl rfl ?_
                        refine zt_aload_n (pc' := 151) hX dX12_poleTold_150 rfl rfl ?_
                        refine zt_get (pc' := 154) (v := .ref (X.1.1 + 173)) hX dX12_poleTold_151 rfl zf_X12_39 (by decide) zc_164 zs_46 (zrf_of (zv_46_17 hI101 zc_164)) ?_
                        refine zt_cVv (pc' := 157) hX dX12_poleTold_154 rfl zm_yX12_asks zw_26_0 zc_164 (by decide) zs_46 (q := (RX12, TX12, 108)) rfl rfl (yc_X12_asks _ _ s100 hI101 173 55 5 zc_173 (by decide) zs_55 (by decide) f hT104 6 (yrow_173 (yWd_3 hWd (zOn_up hF102 zi_43))) (by decide)) rfl rfl (Nat.le_of_ble_eq_true rfl) (by decide) (fun r240 s241 hr242 hp243 => ?_)
                        obtain ⟨hI244, hF245, hT246, z247⟩ := hp243
                        have hE248 : yqs f s241 = yPw f 6 (yPno 2 (yPq (yPo2 f (yPlr σ) s0)) (yPo3 f (yPlr σ) s0)) := by rw [z247, hE105]
                        have hF249 := zOn_tr hF102 hF245 zi_14
                        have b250 := zv_46_5 hI244 zc_164
                        have b251 := zv_77 hI244 zc_195 0
                        have e252 := hF245 194 0 rfl
                        have e253 := hF245 194 1 rfl
                        have e254 := hF245 195 0 rfl
                        have F255 : zOn zQ1 σ s241 := zOn_tr g111 hF245 zi_id
                        have hQ256 := yHom_end (pl := s100 164 10) (Or.inr ⟨rfl, gO118, gX119⟩) (by omega) (fun o => (hz96 o).1) (fun _ => rfl)
                        have hE257 : yqs f s241 = yPw f 6 (yPo4 f (yPlr σ) s0) := hE248.trans (congrArg (yPw f 6) hQ256)
                        refine zt_aload_n (pc' := 158) hX dX12_poleTold_157 rfl rfl ?_
                        refine zt_iconst (pc' := 159) hX dX12_poleTold_158 rfl ?_
                        refine zt_bipush (pc' := 161) hX dX12_poleTold_159 rfl (by decide) (by decide) ?_
                        refine zt_cVi (pc' := 164) hX dX12_poleTold_161 rfl zm_yX12_number zw_26_23 zc_164 (by decide) zs_46 (q := (RX12, TX12, 108)) rfl rfl (yc_X12_number _ _ s241 hI244 0 ⟨by omega, by omega⟩ 99 ⟨by omega, by omega⟩ f hT246) rfl rfl (Nat.le_of_ble_eq_true rfl) (by decide) (fun r258 s259 hr260 hp261 => ?_)
                        obtain ⟨hI262, hF263, q264, q265, hT266, z267, z268⟩ := hp261
                        have hE269 : yqs f s259 = yPn f 0 99 (yPw f 6 (yPo4 f (yPlr σ) s0)) := by rw [z267, hE257]
                        rw [hE257] at z268
                        have hF270 := zOn_tr hF249 hF263 zi_14
                        rw [hE269] at z268
                        have b271 := zv_46_5 hI262 zc_164
                        have b272 := zv_77 hI262 zc_195 0
                        have e273 := hF263 194 0 rfl
                        have e274 := hF263 194 1 rfl
                        have e275 := hF263 195 0 rfl
                        have F276 : zOn zQ1 σ s259 := zOn_tr F255 hF263 zi_id
                        have hz277 : yZm (yPn f 0 99 (yPw f 6 (yPo4 f (yPlr σ) s0))) 0 99 r258 := fun o => (z268 o).2.2
                        clear z268
                        refine zt_istore (pc' := 166) (lv' := [some (.ref (X.1.1 + 164)), none, some (.long (zJ r9)), none, some (.int (zI r74)), some (.int (zI r258))]) hX dX12_poleTold_164 rfl hL (by decide) rfl ?_
                        refine zt_aload_n (pc' := 167) hX dX12_poleTold_166 rfl rfl ?_
                        have b278 := zv_46_5 hI262 zc_164
                        refine zt_get (pc' := 170) (v := .int (zI (s259 164 5))) hX dX12_poleTold_167 rfl zf_X12_246 (by decide) zc_164 zs_46 rfl ?_
                        refine zt_ifeq (pc' := 173) (tgt := 174) hX dX12_poleTold_170 rfl (by decide) ⟨by omega, by omega⟩ (fun c279 => ?_) (fun c279 => ?_)
                        · have u280 := yZm_b hz277 hT266 hE269 (by omega)
                          refine zt_aload_n (pc' := 175) hX dX12_poleTold_174 rfl rfl ?_
                          refine zt_get (pc' := 178) (v := .ref (X.1.1 + 196)) hX dX12_poleTold_175 rfl zf_X12_108 (by decide) zc_164 zs_46 (zrf_of (zv_46_41 hI262 zc_164)) ?_
                          refine zt_aload_n (pc' := 179) hX dX12_poleTold_178 rfl rfl ?_
                          refine zt_get (pc' := 182) (v := .ref (X.1.1 + 195)) hX dX12_poleTold_179 rfl zf_X12_105 (by decide) zc_164 zs_46 (zrf_of (zv_46_40 hI262 zc_164)) ?_
                          refine zt_iconst (pc' := 183) hX dX12_poleTold_182 rfl ?_
                          refine zt_iald (pc' := 184) hX dX12_poleTold_183 rfl (by decide) zc_195 zs_77 (by decide) ⟨by omega, by omega⟩ ?_
                          rw [show Int.toNat 0 = 0 from rfl]
                          have b282 := zv_77 hI262 zc_195 0
                          refine zt_lload_n (pc' := 185) hX dX12_poleTold_184 rfl rfl ?_
                          refine zt_last (pc' := 186) hX dX12_poleTold_185 rfl (by decide) zc_196 zs_78 (by decide) ⟨by omega, by omega⟩ ?_
                          generalize hs284 : zset s259 196 ((s259 195 0).toNat) r9 = s283
                          have hI285 : zInv s283 := hs284 ▸ zp_78 hI262 zc_196 ((s259 195 0).toNat) ⟨by omega, by omega⟩
                          have hF286 : zOn zQ4 σ s283 := hs284 ▸ zOn_set hF270 (zq4_196 (by omega))
                          have hT287 := yTq_rk hT266 (yRq_set hs284 zc_196 (by decide))
                          have hE288 : yqs f s283 = yPn f 0 99 (yPw f 6 (yPo4 f (yPlr σ) s0)) := (yqs_rk (yRq_set hs284 zc_196 (by decide))).trans hE269
                          have e289 : s283 164 5 = s259 164 5 := by rw [← hs284]; exact zset_k (zne_r zc_164 zc_196 (by decide))
                          have e290 : s283 194 0 = s259 194 0 := by rw [← hs284]; exact zset_k (zne_r zc_194 zc_196 (by decide))
                          have e291 : s283 194 1 = s259 194 1 := by rw [← hs284]; exact zset_k (zne_r zc_194 zc_196 (by decide))
                          have e292 : s283 195 0 = s259 195 0 := by rw [← hs284]; exact zset_k (zne_r zc_195 zc_196 (by decide))
                          refine zt_aload_n (pc' := 187) hX dX12_poleTold_186 rfl rfl ?_
                          refine zt_get (pc' := 190) (v := .ref (X.1.1 + 198)) hX dX12_poleTold_187 rfl zf_X12_115 (by decide) zc_164 zs_46 (zrf_of (zv_46_43 hI285 zc_164)) ?_
                          refine zt_iconst (pc' := 191) hX dX12_poleTold_190 rfl ?_
                          refine zt_aload_n (pc' := 192) hX dX12_poleTold_191 rfl rfl ?_
                          refine zt_get (pc' := 195) (v := .ref (X.1.1 + 195)) hX dX12_poleTold_192 rfl zf_X12_105 (by decide) zc_164 zs_46 (zrf_of (zv_46_40 hI285 zc_164)) ?_
                          refine zt_iconst (pc' := 196) hX dX12_poleTold_195 rfl ?_
                          refine zt_iald (pc' := 197) hX dX12_poleTold_196 rfl (by decide) zc_195 zs_77 (by decide) ⟨by omega, by omega⟩ ?_
                          rw [show Int.toNat 0 = 0 from rfl]
                          have b294 := zv_77 hI285 zc_195 0
                          refine zt_imul (pc' := 198) hX dX12_poleTold_197 rfl ?_
                          refine zt_iload (pc' := 200) hX dX12_poleTold_198 rfl rfl ?_
                          refine zt_iast (pc' := 201) hX dX12_poleTold_200 rfl (by decide) zc_198 zs_80 (by decide) ⟨by omega, by omega⟩ ?_
                          generalize hs296 : zset s283 198 ((2 * (s283 195 0)).toNat) r74 = s295
                          have hI297 : zInv s295 := hs296 ▸ zp_80 hI285 zc_198 ((2 * (s283 195 0)).toNat) (by omega)
                          have hF298 : zOn zQ4 σ s295 := hs296 ▸ zOn_set hF286 (zq4_198 (by omega))
                          have hT299 := yTq_rk hT287 (yRq_set hs296 zc_198 (by decide))
                          have hE300 : yqs f s295 = yPn f 0 99 (yPw f 6 (yPo4 f (yPlr σ) s0)) := (yqs_rk (yRq_set hs296 zc_198 (by decide))).trans hE288
                          have e301 : s295 164 5 = s283 164 5 := by rw [← hs296]; exact zset_k (zne_r zc_164 zc_198 (by decide))
                          have e302 : s295 194 0 = s283 194 0 := by rw [← hs296]; exact zset_k (zne_r zc_194 zc_198 (by decide))
                          have e303 : s295 194 1 = s283 194 1 := by rw [← hs296]; exact zset_k (zne_r zc_194 zc_198 (by decide))
                          have e304 : s295 195 0 = s283 195 0 := by rw [← hs296]; exact zset_k (zne_r zc_195 zc_198 (by decide))
                          refine zt_aload_n (pc' := 202) hX dX12_poleTold_201 rfl rfl ?_
                          refine zt_get (pc' := 205) (v := .ref (X.1.1 + 198)) hX dX12_poleTold_202 rfl zf_X12_115 (by decide) zc_164 zs_46 (zrf_of (zv_46_43 hI297 zc_164)) ?_
                          refine zt_iconst (pc' := 206) hX dX12_poleTold_205 rfl ?_
                          refine zt_aload_n (pc' := 207) hX dX12_poleTold_206 rfl rfl ?_
                          refine zt_get (pc' := 210) (v := .ref (X.1.1 + 195)) hX dX12_poleTold_207 rfl zf_X12_105 (by decide) zc_164 zs_46 (zrf_of (zv_46_40 hI297 zc_164)) ?_
                          refine zt_iconst (pc' := 211) hX dX12_poleTold_210 rfl ?_
                          refine zt_iald (pc' := 212) hX dX12_poleTold_211 rfl (by decide) zc_195 zs_77 (by decide) ⟨by omega, by omega⟩ ?_
                          rw [show Int.toNat 0 = 0 from rfl]
                          have b306 := zv_77 hI297 zc_195 0
                          refine zt_imul (pc' := 213) hX dX12_poleTold_212 rfl ?_
                          refine zt_iconst (pc' := 214) hX dX12_poleTold_213 rfl ?_
                          refine zt_iadd (pc' := 215) hX dX12_poleTold_214 rfl ?_
                          refine zt_iload (pc' := 217) hX dX12_poleTold_215 rfl rfl ?_
                          refine zt_iast (pc' := 218) hX dX12_poleTold_217 rfl (by decide) zc_198 zs_80 (by decide) ⟨by omega, by omega⟩ ?_
                          generalize hs308 : zset s295 198 (((2 * (s295 195 0)) + 1).toNat) r258 = s307
                          have hI309 : zInv s307 := hs308 ▸ zp_80 hI297 zc_198 (((2 * (s295 195 0)) + 1).toNat) (by omega)
                          have hF310 : zOn zQ4 σ s307 := hs308 ▸ zOn_set hF298 (zq4_198 (by omega))
                          have hT311 := yTq_rk hT299 (yRq_set hs308 zc_198 (by decide))
                          have hE312 : yqs f s307 = yPn f 0 99 (yPw f 6 (yPo4 f (yPlr σ) s0)) := (yqs_rk (yRq_set hs308 zc_198 (by decide))).trans hE300
                          have e313 : s307 164 5 = s295 164 5 := by rw [← hs308]; exact zset_k (zne_r zc_164 zc_198 (by decide))
                          have e314 : s307 194 0 = s295 194 0 := by rw [← hs308]; exact zset_k (zne_r zc_194 zc_198 (by decide))
                          have e315 : s307 194 1 = s295 194 1 := by rw [← hs308]; exact zset_k (zne_r zc_194 zc_198 (by decide))
                          have e316 : s307 195 0 = s295 195 0 := by rw [← hs308]; exact zset_k (zne_r zc_195 zc_198 (by decide))
                          refine zt_aload_n (pc' := 219) hX dX12_poleTold_218 rfl rfl ?_
                          refine zt_get (pc' := 222) (v := .ref (X.1.1 + 195)) hX dX12_poleTold_219 rfl zf_X12_105 (by decide) zc_164 zs_46 (zrf_of (zv_46_40 hI309 zc_164)) ?_
                          refine zt_iconst (pc' := 223) hX dX12_poleTold_222 rfl ?_
                          refine zt_dup2 (pc' := 224) hX dX12_poleTold_223 rfl rfl rfl ?_
                          refine zt_iald (pc' := 225) hX dX12_poleTold_224 rfl (by decide) zc_195 zs_77 (by decide) ⟨by omega, by omega⟩ ?_
                          rw [show Int.toNat 0 = 0 from rfl]
                          have b318 := zv_77 hI309 zc_195 0
                          refine zt_iconst (pc' := 226) hX dX12_poleTold_225 rfl ?_
                          refine zt_iadd (pc' := 227) hX dX12_poleTold_226 rfl ?_
                          refine zt_iast (pc' := 228) hX dX12_poleTold_227 rfl (by decide) zc_195 zs_77 (by decide) ⟨by omega, by omega⟩ ?_
                          rw [show Int.toNat 0 = 0 from rfl]
                          generalize hs320 : zset s307 195 0 ((s307 195 0) + 1) = s319
                          have hI321 : zInv s319 := hs320 ▸ zp_77 hI309 zc_195 0 ⟨by omega, by omega⟩
                          have hF322 : zOn zQ4 σ s319 := hs320 ▸ zOn_set hF310 (by decide)
                          have hT323 := yTq_rk hT311 (yRq_set hs320 zc_195 (by decide))
                          have hE324 : yqs f s319 = yPn f 0 99 (yPw f 6 (yPo4 f (yPlr σ) s0)) := (yqs_rk (yRq_set hs320 zc_195 (by decide))).trans hE312
                          have e325 : s319 164 5 = s307 164 5 := by rw [← hs320]; exact zset_k (zne_r zc_164 zc_195 (by decide))
                          have e326 : s319 194 0 = s307 194 0 := by rw [← hs320]; exact zset_k (zne_r zc_194 zc_195 (by decide))
                          have e327 : s319 194 1 = s307 194 1 := by rw [← hs320]; exact zset_k (zne_r zc_194 zc_195 (by decide))
                          have e328 : s319 195 0 = ((s307 195 0) + 1) := by rw [← hs320]; exact zset_s
                          exact zt_vret hX hR dX12_poleTold_228 ⟨hI321, hF322, hT323, hE324.trans (yPol_b (by omega)), (fun o => yPol_P hT323.1 hq0 (by rw [← hE324]; exact o) hNv (fun o => (hz28 o).1) (fun o => (hz96 o).1) (yPlr_add F276 (by omega) hs284 hs296 hs308 hs320 (by omega) (by omega) (by omega) (by omega)))⟩
                        · exact zt_vret hX hR dX12_poleTold_173 ⟨hI262, hF270, hT266, hE269.trans (yPol_b (by omega)), (fun o => by have t := yHb1 rfl o; omega)⟩
                      · refine zt_aload_n (pc' := 114) hX dX12_poleTold_113 rfl rfl ?_
                        have b329 := zv_46_5 hI101 zc_164
                        refine zt_get (pc' := 117) (v := .int (zI (s100 164 5))) hX dX12_poleTold_114 rfl zf_X12_246 (by decide) zc_164 zs_46 rfl ?_
                        refine zt_ifne (pc' := 120) (tgt := 143) hX dX12_poleTold_117 rfl (by decide) ⟨by omega, by omega⟩ (fun c330 => ?_) (fun c330 => ?_)
                        · refine zt_iinc (pc' := 146) (lv' := [some (.ref (X.1.1 + 164)), none, some (.long (zJ r9)), none, some (.int (zI r74)), some (.int (zI (x97 + 1)))]) hX dX12_poleTold_143 rfl rfl hL (by decide) rfl ?_
                          refine zt_goto (tgt := 102) hX dX12_poleTold_146 (by decide) ?_
                          exact ih114 (x97 + 1) s100 (yPno 2 (yPq (yPo2 f (yPlr σ) s0)) (yPo3 f (yPlr σ) s0)) (by omega) (by omega) hI101 hF102 hT104 hE105 (by omega) (by omega) (by omega) (by omega) (yGo_b gO118 gX119) g111 (by omega)
                        · exact absurd c330 (by omega)
                exact L_102_111 _ 0 s75 (yPo3 f (yPlr σ) s0) (by omega) (by omega) hI78 hF86 hT82 hE95 (by omega) (by omega) (by omega) (by omega) (yGo_0 (fun o => (hz96 o).2)) F92 (Nat.lt_succ_self _)
              · refine zt_aload_n (pc' := 52) hX dX12_poleTold_51 rfl rfl ?_
                have b331 := zv_46_5 hI33 zc_164
                refine zt_get (pc' := 55) (v := .int (zI (s32 164 5))) hX dX12_poleTold_52 rfl zf_X12_246 (by decide) zc_164 zs_46 rfl ?_
                refine zt_ifne (pc' := 58) (tgt := 79) hX dX12_poleTold_55 rfl (by decide) ⟨by omega, by omega⟩ (fun c332 => ?_) (fun c332 => ?_)
                · refine zt_iinc (pc' := 82) (lv' := [some (.ref (X.1.1 + 164)), none, some (.long (zJ r9)), none, some (.int (zI (x29 + 1))), none]) hX dX12_poleTold_79 rfl rfl hL (by decide) rfl ?_
                  refine zt_goto (tgt := 40) hX dX12_poleTold_82 (by decide) ?_
                  exact ih46 (x29 + 1) s32 (yNm0 f (yPx f s0)) (by omega) (by omega) hI33 hF34 hT36 hE37 (by omega) (by omega) (by omega) (by omega) (yGo_n (place := 0) ((yHb hT36 hE37).2 (by omega))) g43 (by omega)
                · refine zt_aload_n (pc' := 59) hX dX12_poleTold_58 rfl rfl ?_
                  refine zt_get (pc' := 62) (v := .ref (X.1.1 + 196)) hX dX12_poleTold_59 rfl zf_X12_108 (by decide) zc_164 zs_46 (zrf_of (zv_46_41 hI33 zc_164)) ?_
                  refine zt_iload (pc' := 64) hX dX12_poleTold_62 rfl rfl ?_
                  refine zt_lald (pc' := 65) hX dX12_poleTold_64 rfl (by decide) zc_196 zs_78 (by decide) ⟨by omega, by omega⟩ ?_
                  generalize hv333 : s32 196 (x29.toNat) = v333
                  have bv333 : -9223372036854775808 ≤ v333 ∧ v333 ≤ 9223372036854775807 := hv333 ▸ zv_78 hI33 zc_196 _
                  refine zt_lload_n (pc' := 66) hX dX12_poleTold_65 rfl rfl ?_
                  refine zt_lcmp (pc' := 67) hX dX12_poleTold_66 rfl ⟨by omega, by omega⟩ ⟨by omega, by omega⟩ (fun r334 er334 => ?_)
                  refine zt_ifne (pc' := 70) (tgt := 79) hX dX12_poleTold_67 rfl (by decide) ⟨by omega, by omega⟩ (fun c335 => ?_) (fun c335 => ?_)
                  · refine zt_iinc (pc' := 82) (lv' := [some (.ref (X.1.1 + 164)), none, some (.long (zJ r9)), none, some (.int (zI (x29 + 1))), none]) hX dX12_poleTold_79 rfl rfl hL (by decide) rfl ?_
                    refine zt_goto (tgt := 40) hX dX12_poleTold_82 (by decide) ?_
                    exact ih46 (x29 + 1) s32 (yNm0 f (yPx f s0)) (by omega) (by omega) hI33 hF34 hT36 hE37 (by omega) (by omega) (by omega) (by omega) (yGo_s gA49 (by omega) ((g43 196 _ rfl).symm.trans hv333) (by omega)) g43 (by omega)
                  · refine zt_aload_n (pc' := 71) hX dX12_poleTold_70 rfl rfl ?_
                    refine zt_iconst (pc' := 72) hX dX12_poleTold_71 rfl ?_
                    refine zt_aload_n (pc' := 73) hX dX12_poleTold_72 rfl rfl ?_
                    have b336 := zv_46_38 hI33 zc_164
                    refine zt_get (pc' := 76) (v := .int (zI (s32 164 38))) hX dX12_poleTold_73 rfl zf_X12_297 (by decide) zc_164 zs_46 rfl ?_
                    refine zt_cVv (pc' := 79) hX dX12_poleTold_76 rfl zm_yX12_fail zw_26_19 zc_164 (by decide) zs_46 (q := (RX12, TX12, 108)) rfl rfl (yc_X12_fail _ _ s32 hI33 3 ⟨by omega, by omega⟩ (s32 164 38) ⟨by omega, by omega⟩ f (yTq_w hT36)) rfl rfl (Nat.le_of_ble_eq_true rfl) (by decide) (fun r337 s338 hr339 hp340 => ?_)
                    obtain ⟨hI341, hF342, hT343, z344, z345⟩ := hp340
                    have hE346 : yqs f s338 = yPno 3 (s32 164 38) (yNm0 f (yPx f s0)) := by rw [z344, hE37]
                    have hF347 := zOn_tr hF34 hF342 zi_14
                    have b348 := zv_46_5 hI341 zc_164
                    have b349 := zv_77 hI341 zc_195 0
                    have e350 := hF342 194 0 rfl
                    have e351 := hF342 194 1 rfl
                    have e352 := hF342 195 0 rfl
                    have F353 : zOn zQ1 σ s338 := zOn_tr g43 hF342 zi_id
                    have u354 := yHb0 hE346 yPo_no
                    refine zt_iinc (pc' := 82) (lv' := [some (.ref (X.1.1 + 164)), none, some (.long (zJ r9)), none, some (.int (zI (x29 + 1))), none]) hX dX12_poleTold_79 rfl rfl hL (by decide) rfl ?_
                    refine zt_goto (tgt := 40) hX dX12_poleTold_82 (by decide) ?_
                    exact ih46 (x29 + 1) s338 (yPno 3 (s32 164 38) (yNm0 f (yPx f s0))) (by omega) (by omega) hI341 hF347 hT343 hE346 (by omega) (by omega) (by omega) (by omega) (yGo_f gA49 ((yHb hT36 hE37).1 (by omega)) (by omega) ((g43 196 _ rfl).symm.trans hv333) (by omega)) F353 (by omega)
            · have u355 := yHb0 hE37 yPo_no
              refine zt_iload (pc' := 42) hX dX12_poleTold_40 rfl rfl ?_
              refine zt_aload_n (pc' := 43) hX dX12_poleTold_42 rfl rfl ?_
              refine zt_get (pc' := 46) (v := .ref (X.1.1 + 195)) hX dX12_poleTold_43 rfl zf_X12_105 (by decide) zc_164 zs_46 (zrf_of (zv_46_40 hI33 zc_164)) ?_
              refine zt_iconst (pc' := 47) hX dX12_poleTold_46 rfl ?_
              refine zt_iald (pc' := 48) hX dX12_poleTold_47 rfl (by decide) zc_195 zs_77 (by decide) ⟨by omega, by omega⟩ ?_
              rw [show Int.toNat 0 = 0 from rfl]
              have b357 := zv_77 hI33 zc_195 0
              refine zt_icge (pc' := 51) (tgt := 85) hX dX12_poleTold_48 rfl (by decide) ⟨by omega, by omega⟩ ⟨by omega, by omega⟩ (fun c358 => ?_) (fun c358 => ?_)
              · refine zt_aload_n (pc' := 86) hX dX12_poleTold_85 rfl rfl ?_
                refine zt_aload_n (pc' := 87) hX dX12_poleTold_86 rfl rfl ?_
                refine zt_get (pc' := 90) (v := .ref (X.1.1 + 172)) hX dX12_poleTold_87 rfl zf_X12_36 (by decide) zc_164 zs_46 (zrf_of (zv_46_16 hI33 zc_164)) ?_
                refine zt_cVv (pc' := 93) hX dX12_poleTold_90 rfl zm_yX12_asks zw_26_0 zc_164 (by decide) zs_46 (q := (RX12, TX12, 108)) rfl rfl (yc_X12_asks _ _ s32 hI33 172 54 2 zc_172 (by decide) zs_54 (by decide) f hT36 5 (yrow_172 (yWd_3 hWd (zOn_up hF34 zi_43))) (by decide)) rfl rfl (Nat.le_of_ble_eq_true rfl) (by decide) (fun r359 s360 hr361 hp362 => ?_)
                obtain ⟨hI363, hF364, hT365, z366⟩ := hp362
                have hE367 : yqs f s360 = yPw f 5 (yPno 3 (yPq (yPx f s0)) (yNm0 f (yPx f s0))) := by rw [z366, hE37]
                have hF368 := zOn_tr hF34 hF364 zi_14
                have b369 := zv_46_5 hI363 zc_164
                have b370 := zv_77 hI363 zc_195 0
                have e371 := hF364 194 0 rfl
                have e372 := hF364 194 1 rfl
                have e373 := hF364 195 0 rfl
                have F374 : zOn zQ1 σ s360 := zOn_tr g43 hF364 zi_id
                have hQ375 := yNam_end (pl := s32 164 38) (Or.inr ⟨rfl, gO50, gX51⟩) (by omega) (fun o => ⟨(hz28 o).1, rfl⟩) hNv hT365.1 hq0
                have hE376 : yqs f s360 = yPo1 f (yPlr σ) s0 := hE367.trans (congrArg (yPw f 5) hQ375)
                refine zt_aload_n (pc' := 94) hX dX12_poleTold_93 rfl rfl ?_
                refine zt_cVi (pc' := 97) hX dX12_poleTold_94 rfl zm_yX12_cellTold zw_28_2 zc_164 (by decide) zs_46 (q := (RX12, TX12, 108)) rfl rfl (yc_X12_cellTold _ _ s360 hI363 (by omega) f hT365) rfl rfl (Nat.le_of_ble_eq_true rfl) (by decide) (fun r377 s378 hr379 hp380 => ?_)
                obtain ⟨hI381, hF382, q383, q384, hT385, z386, z387⟩ := hp380
                have hE388 : yqs f s378 = yPn f 0 ((s360 194 1) - 1) (yPn f 0 ((s360 194 0) - 1) (yPo1 f (yPlr σ) s0)) := by rw [z386, hE376]
                rw [hE376] at z387
                have hF389 := zOn_tr hF368 hF382 zi_14
                rw [hE388] at z387
                have b390 := zv_46_5 hI381 zc_164
                have b391 := zv_77 hI381 zc_195 0
                have e392 := hF382 194 0 rfl
                have e393 := hF382 194 1 rfl
                have e394 := hF382 195 0 rfl
                have F395 : zOn zQ1 σ s378 := zOn_tr F374 hF382 zi_id
                have a396 : s360 194 0 = σ 194 0 := by omega
                have a397 : s360 194 1 = σ 194 1 := by omega
                have hE398 : yqs f s378 = yPo3 f (yPlr σ) s0 := by rw [hE388, a396, a397]; rfl
                have hz399 : yZc f (yPlr σ) s0 r377 (s378 164 10) := by have t := z387; rw [a396, a397] at t; exact t
                clear z387
                refine zt_istore (pc' := 99) (lv' := [some (.ref (X.1.1 + 164)), none, some (.long (zJ r9)), none, some (.int (zI r377)), none]) hX dX12_poleTold_97 rfl hL (by decide) rfl ?_
                refine zt_iconst (pc' := 100) hX dX12_poleTold_99 rfl ?_
                refine zt_istore (pc' := 102) (lv' := [some (.ref (X.1.1 + 164)), none, some (.long (zJ r9)), none, some (.int (zI r377)), some (.int (zI 0))]) hX dX12_poleTold_100 rfl hL (by decide) rfl ?_
                have L_102_414 : ∀ (N : Nat) (x400 : Int) (s403 : zSto) (p406 : yP), 0 ≤ x400 → x400 ≤ 10 → zInv s403 → zOn zQ4 σ s403 → yTq f s403 → yqs f s403 = p406 → x400 ≤ σ 195 0 → s403 194 0 = σ 194 0 → s403 194 1 = σ 194 1 → s403 195 0 = σ 195 0 → yGo (yPo3 f (yPlr σ) s0) p406 2 (yPq (yPo2 f (yPlr σ) s0)) r377 x400 (fun j => σ 198 (2 * j)) (s403 164 10) → zOn zQ1 σ s403 → ((11 - x400).toNat) < N → zF X s403 102 [some (.ref (X.1.1 + 164)), none, some (.long (zJ r9)), none, some (.int (zI r377)), some (.int (zI x400))] [] := by
                  intro N
                  induction N with
                  | zero =>
                    intro x400 s403 p406 h401 h402 hI404 hF405 hT407 hE408 g409 g410 g411 g412 g413 g414 hm416
                    exact absurd hm416 (Nat.not_lt_zero _)
                  | succ N ih417 =>
                    intro x400 s403 p406 h401 h402 hI404 hF405 hT407 hE408 g409 g410 g411 g412 g413 g414 hm416
                    have b418 := zv_46_5 hI404 zc_164
                    have b419 := zv_77 hI404 zc_195 0
                    rcases yGo_c g413 with ⟨rfl, gA420⟩ | ⟨rfl, gO421, gX422⟩
                    · have u423 := g414 195 0 rfl
                      refine zt_iload (pc' := 104) hX dX12_poleTold_102 rfl rfl ?_
                      refine zt_aload_n (pc' := 105) hX dX12_poleTold_104 rfl rfl ?_
                      refine zt_get (pc' := 108) (v := .ref (X.1.1 + 195)) hX dX12_poleTold_105 rfl zf_X12_105 (by decide) zc_164 zs_46 (zrf_of (zv_46_40 hI404 zc_164)) ?_
                      refine zt_iconst (pc' := 109) hX dX12_poleTold_108 rfl ?_
                      refine zt_iald (pc' := 110) hX dX12_poleTold_109 rfl (by decide) zc_195 zs_77 (by decide) ⟨by omega, by omega⟩ ?_
                      rw [show Int.toNat 0 = 0 from rfl]
                      have b425 := zv_77 hI404 zc_195 0
                      refine zt_icge (pc' := 113) (tgt := 149) hX dX12_poleTold_110 rfl (by decide) ⟨by omega, by omega⟩ ⟨by omega, by omega⟩ (fun c426 => ?_) (fun c426 => ?_)
                      · refine zt_aload_n (pc' := 150) hX dX12_poleTold_149 rfl rfl ?_
                        refine zt_aload_n (pc' := 151) hX dX12_poleTold_150 rfl rfl ?_
                        refine zt_get (pc' := 154) (v := .ref (X.1.1 + 173)) hX dX12_poleTold_151 rfl zf_X12_39 (by decide) zc_164 zs_46 (zrf_of (zv_46_17 hI404 zc_164)) ?_
                        refine zt_cVv (pc' := 157) hX dX12_poleTold_154 rfl zm_yX12_asks zw_26_0 zc_164 (by decide) zs_46 (q := (RX12, TX12, 108)) rfl rfl (yc_X12_asks _ _ s403 hI404 173 55 5 zc_173 (by decide) zs_55 (by decide) f hT407 6 (yrow_173 (yWd_3 hWd (zOn_up hF405 zi_43))) (by decide)) rfl rfl (Nat.le_of_ble_eq_true rfl) (by decide) (fun r427 s428 hr429 hp430 => ?_)
                        obtain ⟨hI431, hF432, hT433, z434⟩ := hp430
                        have hE435 : yqs f s428 = yPw f 6 (yPo3 f (yPlr σ) s0) := by rw [z434, hE408]
                        have hF436 := zOn_tr hF405 hF432 zi_14
                        have b437 := zv_46_5 hI431 zc_164
                        have b438 := zv_77 hI431 zc_195 0
                        have e439 := hF432 194 0 rfl
                        have e440 := hF432 194 1 rfl
                        have e441 := hF432 195 0 rfl
                        have F442 : zOn zQ1 σ s428 := zOn_tr g414 hF432 zi_id
                        have hQ443 := yHom_end (pl := s403 164 10) (Or.inl ⟨rfl, gA420⟩) (by omega) (fun o => (hz399 o).1) (fun _ => rfl)
                        have hE444 : yqs f s428 = yPw f 6 (yPo4 f (yPlr σ) s0) := hE435.trans (congrArg (yPw f 6) hQ443)
                        refine zt_aload_n (pc' := 158) hX dX12_poleTold_157 rfl rfl ?_
                        refine zt_iconst (pc' := 159) hX dX12_poleTold_158 rfl ?_
                        refine zt_bipush (pc' := 161) hX dX12_poleTold_159 rfl (by decide) (by decide) ?_
                        refine zt_cVi (pc' := 164) hX dX12_poleTold_161 rfl zm_yX12_number zw_26_23 zc_164 (by decide) zs_46 (q := (RX12, TX12, 108)) rfl rfl (yc_X12_number _ _ s428 hI431 0 ⟨by omega, by omega⟩ 99 ⟨by omega, by omega⟩ f hT433) rfl rfl (Nat.le_of_ble_eq_true rfl) (by decide) (fun r445 s446 hr447 hp448 => ?_)
                        obtain ⟨hI449, hF450, q451, q452, hT453, z454, z455⟩ := hp448
                        have hE456 : yqs f s446 = yPn f 0 99 (yPw f 6 (yPo4 f (yPlr σ) s0)) := by rw [z454, hE444]
                        rw [hE444] at z455
                        have hF457 := zOn_tr hF436 hF450 zi_14
                        rw [hE456] at z455
                        have b458 := zv_46_5 hI449 zc_164
                        have b459 := zv_77 hI449 zc_195 0
                        have e460 := hF450 194 0 rfl
                        have e461 := hF450 194 1 rfl
                        have e462 := hF450 195 0 rfl
                        have F463 : zOn zQ1 σ s446 := zOn_tr F442 hF450 zi_id
                        have hz464 : yZm (yPn f 0 99 (yPw f 6 (yPo4 f (yPlr σ) s0))) 0 99 r445 := fun o => (z455 o).2.2
                        clear z455
                        refine zt_istore (pc' := 166) (lv' := [some (.ref (X.1.1 + 164)), none, some (.long (zJ r9)), none, some (.int (zI r377)), some (.int (zI r445))]) hX dX12_poleTold_164 rfl hL (by decide) rfl ?_
                        refine zt_aload_n (pc' := 167) hX dX12_poleTold_166 rfl rfl ?_
                        have b465 := zv_46_5 hI449 zc_164
                        refine zt_get (pc' := 170) (v := .int (zI (s446 164 5))) hX dX12_poleTold_167 rfl zf_X12_246 (by decide) zc_164 zs_46 rfl ?_
                        refine zt_ifeq (pc' := 173) (tgt := 174) hX dX12_poleTold_170 rfl (by decide) ⟨by omega, by omega⟩ (fun c466 => ?_) (fun c466 => ?_)
                        · have u467 := yZm_b hz464 hT453 hE456 (by omega)
                          refine zt_aload_n (pc' := 175) hX dX12_poleTold_174 rfl rfl ?_
                          refine zt_get (pc' := 178) (v := .ref (X.1.1 + 196)) hX dX12_poleTold_175 rfl zf_X12_108 (by decide) zc_164 zs_46 (zrf_of (zv_46_41 hI449 zc_164)) ?_
                          refine zt_aload_n (pc' := 179) hX dX12_poleTold_178 rfl rfl ?_
                          refine zt_get (pc' := 182) (v := .ref (X.1.1 + 195)) hX dX12_poleTold_179 rfl zf_X12_105 (by decide) zc_164 zs_46 (zrf_of (zv_46_40 hI449 zc_164)) ?_
                          refine zt_iconst (pc' := 183) hX dX12_poleTold_182 rfl ?_
                          refine zt_iald (pc' := 184) hX dX12_poleTold_183 rfl (by decide) zc_195 zs_77 (by decide) ⟨by omega, by omega⟩ ?_
                          rw [show Int.toNat 0 = 0 from rfl]
                          have b469 := zv_77 hI449 zc_195 0
                          refine zt_lload_n (pc' := 185) hX dX12_poleTold_184 rfl rfl ?_
                          refine zt_last (pc' := 186) hX dX12_poleTold_185 rfl (by decide) zc_196 zs_78 (by decide) ⟨by omega, by omega⟩ ?_
                          generalize hs471 : zset s446 196 ((s446 195 0).toNat) r9 = s470
                          have hI472 : zInv s470 := hs471 ▸ zp_78 hI449 zc_196 ((s446 195 0).toNat) ⟨by omega, by omega⟩
                          have hF473 : zOn zQ4 σ s470 := hs471 ▸ zOn_set hF457 (zq4_196 (by omega))
                          have hT474 := yTq_rk hT453 (yRq_set hs471 zc_196 (by decide))
                          have hE475 : yqs f s470 = yPn f 0 99 (yPw f 6 (yPo4 f (yPlr σ) s0)) := (yqs_rk (yRq_set hs471 zc_196 (by decide))).trans hE456
                          have e476 : s470 164 5 = s446 164 5 := by rw [← hs471]; exact zset_k (zne_r zc_164 zc_196 (by decide))
                          have e477 : s470 194 0 = s446 194 0 := by rw [← hs471]; exact zset_k (zne_r zc_194 zc_196 (by decide))
                          have e478 : s470 194 1 = s446 194 1 := by rw [← hs471]; exact zset_k (zne_r zc_194 zc_196 (by decide))
                          have e479 : s470 195 0 = s446 195 0 := by rw [← hs471]; exact zset_k (zne_r zc_195 zc_196 (by decide))
                          refine zt_aload_n (pc' := 187) hX dX12_poleTold_186 rfl rfl ?_
                          refine zt_get (pc' := 190) (v := .ref (X.1.1 + 198)) hX dX12_poleTold_187 rfl zf_X12_115 (by decide) zc_164 zs_46 (zrf_of (zv_46_43 hI472 zc_164)) ?_
                          refine zt_iconst (pc' := 191) hX dX12_poleTold_190 rfl ?_
                          refine zt_aload_n (pc' := 192) hX dX12_poleTold_191 rfl rfl ?_
                          refine zt_get (pc' := 195) (v := .ref (X.1.1 + 195)) hX dX12_poleTold_192 rfl zf_X12_105 (by decide) zc_164 zs_46 (zrf_of (zv_46_40 hI472 zc_164)) ?_
                          refine zt_iconst (pc' := 196) hX dX12_poleTold_195 rfl ?_
                          refine zt_iald (pc' := 197) hX dX12_poleTold_196 rfl (by decide) zc_195 zs_77 (by decide) ⟨by omega, by omega⟩ ?_
                          rw [show Int.toNat 0 = 0 from rfl]
                          have b481 := zv_77 hI472 zc_195 0
                          refine zt_imul (pc' := 198) hX dX12_poleTold_197 rfl ?_
                          refine zt_iload (pc' := 200) hX dX12_poleTold_198 rfl rfl ?_
                          refine zt_iast (pc' := 201) hX dX12_poleTold_200 rfl (by decide) zc_198 zs_80 (by decide) ⟨by omega, by omega⟩ ?_
                          generalize hs483 : zset s470 198 ((2 * (s470 195 0)).toNat) r377 = s482
                          have hI484 : zInv s482 := hs483 ▸ zp_80 hI472 zc_198 ((2 * (s470 195 0)).toNat) (by omega)
                          have hF485 : zOn zQ4 σ s482 := hs483 ▸ zOn_set hF473 (zq4_198 (by omega))
                          have hT486 := yTq_rk hT474 (yRq_set hs483 zc_198 (by decide))
                          have hE487 : yqs f s482 = yPn f 0 99 (yPw f 6 (yPo4 f (yPlr σ) s0)) := (yqs_rk (yRq_set hs483 zc_198 (by decide))).trans hE475
                          have e488 : s482 164 5 = s470 164 5 := by rw [← hs483]; exact zset_k (zne_r zc_164 zc_198 (by decide))
                          have e489 : s482 194 0 = s470 194 0 := by rw [← hs483]; exact zset_k (zne_r zc_194 zc_198 (by decide))
                          have e490 : s482 194 1 = s470 194 1 := by rw [← hs483]; exact zset_k (zne_r zc_194 zc_198 (by decide))
                          have e491 : s482 195 0 = s470 195 0 := by rw [← hs483]; exact zset_k (zne_r zc_195 zc_198 (by decide))
                          refine zt_aload_n (pc' := 202) hX dX12_poleTold_201 rfl rfl ?_
                          refine zt_get (pc' := 205) (v := .ref (X.1.1 + 198)) hX dX12_poleTold_202 rfl zf_X12_115 (by decide) zc_164 zs_46 (zrf_of (zv_46_43 hI484 zc_164)) ?_
                          refine zt_iconst (pc' := 206) hX dX12_poleTold_205 rfl ?_
                          refine zt_aload_n (pc' := 207) hX dX12_poleTold_206 rfl rfl ?_
                          refine zt_get (pc' := 210) (v := .ref (X.1.1 + 195)) hX dX12_poleTold_207 rfl zf_X12_105 (by decide) zc_164 zs_46 (zrf_of (zv_46_40 hI484 zc_164)) ?_
                          refine zt_iconst (pc' := 211) hX dX12_poleTold_210 rfl ?_
                          refine zt_iald (pc' := 212) hX dX12_poleTold_211 rfl (by decide) zc_195 zs_77 (by decide) ⟨by omega, by omega⟩ ?_
                          rw [show Int.toNat 0 = 0 from rfl]
                          have b493 := zv_77 hI484 zc_195 0
                          refine zt_imul (pc' := 213) hX dX12_poleTold_212 rfl ?_
                          refine zt_iconst (pc' := 214) hX dX12_poleTold_213 rfl ?_
                          refine zt_iadd (pc' := 215) hX dX12_poleTold_214 rfl ?_
                          refine zt_iload (pc' := 217) hX dX12_poleTold_215 rfl rfl ?_
                          refine zt_iast (pc' := 218) hX dX12_poleTold_217 rfl (by decide) zc_198 zs_80 (by decide) ⟨by omega, by omega⟩ ?_
                          generalize hs495 : zset s482 198 (((2 * (s482 195 0)) + 1).toNat) r445 = s494
                          have hI496 : zInv s494 := hs495 ▸ zp_80 hI484 zc_198 (((2 * (s482 195 0)) + 1).toNat) (by omega)
                          have hF497 : zOn zQ4 σ s494 := hs495 ▸ zOn_set hF485 (zq4_198 (by omega))
                          have hT498 := yTq_rk hT486 (yRq_set hs495 zc_198 (by decide))
                          have hE499 : yqs f s494 = yPn f 0 99 (yPw f 6 (yPo4 f (yPlr σ) s0)) := (yqs_rk (yRq_set hs495 zc_198 (by decide))).trans hE487
                          have e500 : s494 164 5 = s482 164 5 := by rw [← hs495]; exact zset_k (zne_r zc_164 zc_198 (by decide))
                          have e501 : s494 194 0 = s482 194 0 := by rw [← hs495]; exact zset_k (zne_r zc_194 zc_198 (by decide))
                          have e502 : s494 194 1 = s482 194 1 := by rw [← hs495]; exact zset_k (zne_r zc_194 zc_198 (by decide))
                          have e503 : s494 195 0 = s482 195 0 := by rw [← hs495]; exact zset_k (zne_r zc_195 zc_198 (by decide))
                          refine zt_aload_n (pc' := 219) hX dX12_poleTold_218 rfl rfl ?_
                          refine zt_get (pc' := 222) (v := .ref (X.1.1 + 195)) hX dX12_poleTold_219 rfl zf_X12_105 (by decide) zc_164 zs_46 (zrf_of (zv_46_40 hI496 zc_164)) ?_
                          refine zt_iconst (pc' := 223) hX dX12_poleTold_222 rfl ?_
                          refine zt_dup2 (pc' := 224) hX dX12_poleTold_223 rfl rfl rfl ?_
                          refine zt_iald (pc' := 225) hX dX12_poleTold_224 rfl (by decide) zc_195 zs_77 (by decide) ⟨by omega, by omega⟩ ?_
                          rw [show Int.toNat 0 = 0 from rfl]
                          have b505 := zv_77 hI496 zc_195 0
                          refine zt_iconst (pc' := 226) hX dX12_poleTold_225 rfl ?_
                          refine zt_iadd (pc' := 227) hX dX12_poleTold_226 rfl ?_
                          refine zt_iast (pc' := 228) hX dX12_poleTold_227 rfl (by decide) zc_195 zs_77 (by decide) ⟨by omega, by omega⟩ ?_
                          rw [show Int.toNat 0 = 0 from rfl]
                          generalize hs507 : zset s494 195 0 ((s494 195 0) + 1) = s506
                          have hI508 : zInv s506 := hs507 ▸ zp_77 hI496 zc_195 0 ⟨by omega, by omega⟩
                          have hF509 : zOn zQ4 σ s506 := hs507 ▸ zOn_set hF497 (by decide)
                          have hT510 := yTq_rk hT498 (yRq_set hs507 zc_195 (by decide))
                          have hE511 : yqs f s506 = yPn f 0 99 (yPw f 6 (yPo4 f (yPlr σ) s0)) := (yqs_rk (yRq_set hs507 zc_195 (by decide))).trans hE499
                          have e512 : s506 164 5 = s494 164 5 := by rw [← hs507]; exact zset_k (zne_r zc_164 zc_195 (by decide))
                          have e513 : s506 194 0 = s494 194 0 := by rw [← hs507]; exact zset_k (zne_r zc_194 zc_195 (by decide))
                          have e514 : s506 194 1 = s494 194 1 := by rw [← hs507]; exact zset_k (zne_r zc_194 zc_195 (by decide))
                          have e515 : s506 195 0 = ((s494 195 0) + 1) := by rw [← hs507]; exact zset_s
                          exact zt_vret hX hR dX12_poleTold_228 ⟨hI508, hF509, hT510, hE511.trans (yPol_b (by omega)), (fun o => yPol_P hT510.1 hq0 (by rw [← hE511]; exact o) hNv (fun o => (hz28 o).1) (fun o => (hz399 o).1) (yPlr_add F463 (by omega) hs471 hs483 hs495 hs507 (by omega) (by omega) (by omega) (by omega)))⟩
                        · exact zt_vret hX hR dX12_poleTold_173 ⟨hI449, hF457, hT453, hE456.trans (yPol_b (by omega)), (fun o => by have t := yHb1 rfl o; omega)⟩
                      · refine zt_aload_n (pc' := 114) hX dX12_poleTold_113 rfl rfl ?_
                        have b516 := zv_46_5 hI404 zc_164
                        refine zt_get (pc' := 117) (v := .int (zI (s403 164 5))) hX dX12_poleTold_114 rfl zf_X12_246 (by decide) zc_164 zs_46 rfl ?_
                        refine zt_ifne (pc' := 120) (tgt := 143) hX dX12_poleTold_117 rfl (by decide) ⟨by omega, by omega⟩ (fun c517 => ?_) (fun c517 => ?_)
                        · refine zt_iinc (pc' := 146) (lv' := [some (.ref (X.1.1 + 164)), none, some (.long (zJ r9)), none, some (.int (zI r377)), some (.int (zI (x400 + 1)))]) hX dX12_poleTold_143 rfl rfl hL (by decide) rfl ?_
                          refine zt_goto (tgt := 102) hX dX12_poleTold_146 (by decide) ?_
                          exact ih417 (x400 + 1) s403 (yPo3 f (yPlr σ) s0) (by omega) (by omega) hI404 hF405 hT407 hE408 (by omega) (by omega) (by omega) (by omega) (yGo_n (place := 0) ((yHb hT407 hE408).2 (by omega))) g414 (by omega)
                        · refine zt_aload_n (pc' := 121) hX dX12_poleTold_120 rfl rfl ?_
                          refine zt_get (pc' := 124) (v := .ref (X.1.1 + 198)) hX dX12_poleTold_121 rfl zf_X12_115 (by decide) zc_164 zs_46 (zrf_of (zv_46_43 hI404 zc_164)) ?_
                          refine zt_iconst (pc' := 125) hX dX12_poleTold_124 rfl ?_
                          refine zt_iload (pc' := 127) hX dX12_poleTold_125 rfl rfl ?_
                          refine zt_imul (pc' := 128) hX dX12_poleTold_127 rfl ?_
                          refine zt_iald (pc' := 129) hX dX12_poleTold_128 rfl (by decide) zc_198 zs_80 (by decide) ⟨by omega, by omega⟩ ?_
                          have bv518 := zv_80 hI404 zc_198 ((2 * x400).toNat)
                          generalize hv518 : s403 198 ((2 * x400).toNat) = v518 at bv518 ⊢
                          refine zt_iload (pc' := 131) hX dX12_poleTold_129 rfl rfl ?_
                          refine zt_icne (pc' := 134) (tgt := 143) hX dX12_poleTold_131 rfl (by decide) ⟨by omega, by omega⟩ ⟨by omega, by omega⟩ (fun c519 => ?_) (fun c519 => ?_)
                          · refine zt_iinc (pc' := 146) (lv' := [some (.ref (X.1.1 + 164)), none, some (.long (zJ r9)), none, some (.int (zI r377)), some (.int (zI (x400 + 1)))]) hX dX12_poleTold_143 rfl rfl hL (by decide) rfl ?_
                            refine zt_goto (tgt := 102) hX dX12_poleTold_146 (by decide) ?_
                            exact ih417 (x400 + 1) s403 (yPo3 f (yPlr σ) s0) (by omega) (by omega) hI404 hF405 hT407 hE408 (by omega) (by omega) (by omega) (by omega) (yGo_s gA420 (by omega) (show σ 198 (2 * x400.toNat) = v518 from by rw [show 2 * x400.toNat = (2 * x400).toNat by omega]; exact (g414 198 _ rfl).symm.trans hv518) (by omega)) g414 (by omega)
                          · refine zt_aload_n (pc' := 135) hX dX12_poleTold_134 rfl rfl ?_
                            refine zt_iconst (pc' := 136) hX dX12_poleTold_135 rfl ?_
                            refine zt_aload_n (pc' := 137) hX dX12_poleTold_136 rfl rfl ?_
                            have b520 := zv_46_10 hI404 zc_164
                            refine zt_get (pc' := 140) (v := .int (zI (s403 164 10))) hX dX12_poleTold_137 rfl zf_X12_286 (by decide) zc_164 zs_46 rfl ?_
                            refine zt_cVv (pc' := 143) hX dX12_poleTold_140 rfl zm_yX12_fail zw_26_19 zc_164 (by decide) zs_46 (q := (RX12, TX12, 108)) rfl rfl (yc_X12_fail _ _ s403 hI404 2 ⟨by omega, by omega⟩ (s403 164 10) ⟨by omega, by omega⟩ f (yTq_w hT407)) rfl rfl (Nat.le_of_ble_eq_true rfl) (by decide) (fun r521 s522 hr523 hp524 => ?_)
                            obtain ⟨hI525, hF526, hT527, z528, z529⟩ := hp524
                            have hE530 : yqs f s522 = yPno 2 (s403 164 10) (yPo3 f (yPlr σ) s0) := by rw [z528, hE408]
                            have hF531 := zOn_tr hF405 hF526 zi_14
                            have b532 := zv_46_5 hI525 zc_164
                            have b533 := zv_77 hI525 zc_195 0
                            have e534 := hF526 194 0 rfl
                            have e535 := hF526 194 1 rfl
                            have e536 := hF526 195 0 rfl
                            have F537 : zOn zQ1 σ s522 := zOn_tr g414 hF526 zi_id
                            have u538 := yHb0 hE530 yPo_no
                            refine zt_iinc (pc' := 146) (lv' := [some (.ref (X.1.1 + 164)), none, some (.long (zJ r9)), none, some (.int (zI r377)), some (.int (zI (x400 + 1)))]) hX dX12_poleTold_143 rfl rfl hL (by decide) rfl ?_
                            refine zt_goto (tgt := 102) hX dX12_poleTold_146 (by decide) ?_
                            exact ih417 (x400 + 1) s522 (yPno 2 (s403 164 10) (yPo3 f (yPlr σ) s0)) (by omega) (by omega) hI525 hF531 hT527 hE530 (by omega) (by omega) (by omega) (by omega) (yGo_f gA420 ((yHb hT407 hE408).1 (by omega)) (by omega) (show σ 198 (2 * x400.toNat) = v518 from by rw [show 2 * x400.toNat = (2 * x400).toNat by omega]; exact (g414 198 _ rfl).symm.trans hv518) (by omega)) F537 (by omega)
                    · have u539 := yHb0 hE408 yPo_no
                      refine zt_iload (pc' := 104) hX dX12_poleTold_102 rfl rfl ?_
                      refine zt_aload_n (pc' := 105) hX dX12_poleTold_104 rfl rfl ?_
                      refine zt_get (pc' := 108) (v := .ref (X.1.1 + 195)) hX dX12_poleTold_105 rfl zf_X12_105 (by decide) zc_164 zs_46 (zrf_of (zv_46_40 hI404 zc_164)) ?_
                      refine zt_iconst (pc' := 109) hX dX12_poleTold_108 rfl ?_
                      refine zt_iald (pc' := 110) hX dX12_poleTold_109 rfl (by decide) zc_195 zs_77 (by decide) ⟨by omega, by omega⟩ ?_
                      rw [show Int.toNat 0 = 0 from rfl]
                      have b541 := zv_77 hI404 zc_195 0
                      refine zt_icge (pc' := 113) (tgt := 149) hX dX12_poleTold_110 rfl (by decide) ⟨by omega, by omega⟩ ⟨by omega, by omega⟩ (fun c542 => ?_) (fun c542 => ?_)
                      · refine zt_aload_n (pc' := 150) hX dX12_poleTold_149 rfl rfl ?_
                        refine zt_aload_n (pc' := 151) hX dX12_poleTold_150 rfl rfl ?_
                        refine zt_get (pc' := 154) (v := .ref (X.1.1 + 173)) hX dX12_poleTold_151 rfl zf_X12_39 (by decide) zc_164 zs_46 (zrf_of (zv_46_17 hI404 zc_164)) ?_
                        refine zt_cVv (pc' := 157) hX dX12_poleTold_154 rfl zm_yX12_asks zw_26_0 zc_164 (by decide) zs_46 (q := (RX12, TX12, 108)) rfl rfl (yc_X12_asks _ _ s403 hI404 173 55 5 zc_173 (by decide) zs_55 (by decide) f hT407 6 (yrow_173 (yWd_3 hWd (zOn_up hF405 zi_43))) (by decide)) rfl rfl (Nat.le_of_ble_eq_true rfl) (by decide) (fun r543 s544 hr545 hp546 => ?_)
                        obtain ⟨hI547, hF548, hT549, z550⟩ := hp546
                        have hE551 : yqs f s544 = yPw f 6 (yPno 2 (yPq (yPo2 f (yPlr σ) s0)) (yPo3 f (yPlr σ) s0)) := by rw [z550, hE408]
                        have hF552 := zOn_tr hF405 hF548 zi_14
                        have b553 := zv_46_5 hI547 zc_164
                        have b554 := zv_77 hI547 zc_195 0
                        have e555 := hF548 194 0 rfl
                        have e556 := hF548 194 1 rfl
                        have e557 := hF548 195 0 rfl
                        have F558 : zOn zQ1 σ s544 := zOn_tr g414 hF548 zi_id
                        have hQ559 := yHom_end (pl := s403 164 10) (Or.inr ⟨rfl, gO421, gX422⟩) (by omega) (fun o => (hz399 o).1) (fun _ => rfl)
                        have hE560 : yqs f s544 = yPw f 6 (yPo4 f (yPlr σ) s0) := hE551.trans (congrArg (yPw f 6) hQ559)
                        refine zt_aload_n (pc' := 158) hX dX12_poleTold_157 rfl rfl ?_
                        refine zt_iconst (pc' := 159) hX dX12_poleTold_158 rfl ?_
                        refine zt_bipush (pc' := 161) hX dX12_poleTold_159 rfl (by decide) (by decide) ?_
                        refine zt_cVi (pc' := 164) hX dX12_poleTold_161 rfl zm_yX12_number zw_26_23 zc_164 (by decide) zs_46 (q := (RX12, TX12, 108)) rfl rfl (yc_X12_number _ _ s544 hI547 0 ⟨by omega, by omega⟩ 99 ⟨by omega, by omega⟩ f hT549) rfl rfl (Nat.le_of_ble_eq_true rfl) (by decide) (fun r561 s562 hr563 hp564 => ?_)
                        obtain ⟨hI565, hF566, q567, q568, hT569, z570, z571⟩ := hp564
                        have hE572 : yqs f s562 = yPn f 0 99 (yPw f 6 (yPo4 f (yPlr σ) s0)) := by rw [z570, hE560]
                        rw [hE560] at z571
                        have hF573 := zOn_tr hF552 hF566 zi_14
                        rw [hE572] at z571
                        have b574 := zv_46_5 hI565 zc_164
                        have b575 := zv_77 hI565 zc_195 0
                        have e576 := hF566 194 0 rfl
                        have e577 := hF566 194 1 rfl
                        have e578 := hF566 195 0 rfl
                        have F579 : zOn zQ1 σ s562 := zOn_tr F558 hF566 zi_id
                        have hz580 : yZm (yPn f 0 99 (yPw f 6 (yPo4 f (yPlr σ) s0))) 0 99 r561 := fun o => (z571 o).2.2
                        clear z571
                        refine zt_istore (pc' := 166) (lv' := [some (.ref (X.1.1 + 164)), none, some (.long (zJ r9)), none, some (.int (zI r377)), some (.int (zI r561))]) hX dX12_poleTold_164 rfl hL (by decide) rfl ?_
                        refine zt_aload_n (pc' := 167) hX dX12_poleTold_166 rfl rfl ?_
                        have b581 := zv_46_5 hI565 zc_164
                        refine zt_get (pc' := 170) (v := .int (zI (s562 164 5))) hX dX12_poleTold_167 rfl zf_X12_246 (by decide) zc_164 zs_46 rfl ?_
                        refine zt_ifeq (pc' := 173) (tgt := 174) hX dX12_poleTold_170 rfl (by decide) ⟨by omega, by omega⟩ (fun c582 => ?_) (fun c582 => ?_)
                        · have u583 := yZm_b hz580 hT569 hE572 (by omega)
                          refine zt_aload_n (pc' := 175) hX dX12_poleTold_174 rfl rfl ?_
                          refine zt_get (pc' := 178) (v := .ref (X.1.1 + 196)) hX dX12_poleTold_175 rfl zf_X12_108 (by decide) zc_164 zs_46 (zrf_of (zv_46_41 hI565 zc_164)) ?_
                          refine zt_aload_n (pc' := 179) hX dX12_poleTold_178 rfl rfl ?_
                          refine zt_get (pc' := 182) (v := .ref (X.1.1 + 195)) hX dX12_poleTold_179 rfl zf_X12_105 (by decide) zc_164 zs_46 (zrf_of (zv_46_40 hI565 zc_164)) ?_
                          refine zt_iconst (pc' := 183) hX dX12_poleTold_182 rfl ?_
                          refine zt_iald (pc' := 184) hX dX12_poleTold_183 rfl (by decide) zc_195 zs_77 (by decide) ⟨by omega, by omega⟩ ?_
                          rw [show Int.toNat 0 = 0 from rfl]
                          have b585 := zv_77 hI565 zc_195 0
                          refine zt_lload_n (pc' := 185) hX dX12_poleTold_184 rfl rfl ?_
                          refine zt_last (pc' := 186) hX dX12_poleTold_185 rfl (by decide) zc_196 zs_78 (by decide) ⟨by omega, by omega⟩ ?_
                          generalize hs587 : zset s562 196 ((s562 195 0).toNat) r9 = s586
                          have hI588 : zInv s586 := hs587 ▸ zp_78 hI565 zc_196 ((s562 195 0).toNat) ⟨by omega, by omega⟩
                          have hF589 : zOn zQ4 σ s586 := hs587 ▸ zOn_set hF573 (zq4_196 (by omega))
                          have hT590 := yTq_rk hT569 (yRq_set hs587 zc_196 (by decide))
                          have hE591 : yqs f s586 = yPn f 0 99 (yPw f 6 (yPo4 f (yPlr σ) s0)) := (yqs_rk (yRq_set hs587 zc_196 (by decide))).trans hE572
                          have e592 : s586 164 5 = s562 164 5 := by rw [← hs587]; exact zset_k (zne_r zc_164 zc_196 (by decide))
                          have e593 : s586 194 0 = s562 194 0 := by rw [← hs587]; exact zset_k (zne_r zc_194 zc_196 (by decide))
                          have e594 : s586 194 1 = s562 194 1 := by rw [← hs587]; exact zset_k (zne_r zc_194 zc_196 (by decide))
                          have e595 : s586 195 0 = s562 195 0 := by rw [← hs587]; exact zset_k (zne_r zc_195 zc_196 (by decide))
                          refine zt_aload_n (pc' := 187) hX dX12_poleTold_186 rfl rfl ?_
                          refine zt_get (pc' := 190) (v := .ref (X.1.1 + 198)) hX dX12_poleTold_187 rfl zf_X12_115 (by decide) zc_164 zs_46 (zrf_of (zv_46_43 hI588 zc_164)) ?_
                          refine zt_iconst (pc' := 191) hX dX12_poleTold_190 rfl ?_
                          refine zt_aload_n (pc' := 192) hX dX12_poleTold_191 rfl rfl ?_
                          refine zt_get (pc' := 195) (v := .ref (X.1.1 + 195)) hX dX12_poleTold_192 rfl zf_X12_105 (by decide) zc_164 zs_46 (zrf_of (zv_46_40 hI588 zc_164)) ?_
                          refine zt_iconst (pc' := 196) hX dX12_poleTold_195 rfl ?_
                          refine zt_iald (pc' := 197) hX dX12_poleTold_196 rfl (by decide) zc_195 zs_77 (by decide) ⟨by omega, by omega⟩ ?_
                          rw [show Int.toNat 0 = 0 from rfl]
                          have b597 := zv_77 hI588 zc_195 0
                          refine zt_imul (pc' := 198) hX dX12_poleTold_197 rfl ?_
                          refine zt_iload (pc' := 200) hX dX12_poleTold_198 rfl rfl ?_
                          refine zt_iast (pc' := 201) hX dX12_poleTold_200 rfl (by decide) zc_198 zs_80 (by decide) ⟨by omega, by omega⟩ ?_
                          generalize hs599 : zset s586 198 ((2 * (s586 195 0)).toNat) r377 = s598
                          have hI600 : zInv s598 := hs599 ▸ zp_80 hI588 zc_198 ((2 * (s586 195 0)).toNat) (by omega)
                          have hF601 : zOn zQ4 σ s598 := hs599 ▸ zOn_set hF589 (zq4_198 (by omega))
                          have hT602 := yTq_rk hT590 (yRq_set hs599 zc_198 (by decide))
                          have hE603 : yqs f s598 = yPn f 0 99 (yPw f 6 (yPo4 f (yPlr σ) s0)) := (yqs_rk (yRq_set hs599 zc_198 (by decide))).trans hE591
                          have e604 : s598 164 5 = s586 164 5 := by rw [← hs599]; exact zset_k (zne_r zc_164 zc_198 (by decide))
                          have e605 : s598 194 0 = s586 194 0 := by rw [← hs599]; exact zset_k (zne_r zc_194 zc_198 (by decide))
                          have e606 : s598 194 1 = s586 194 1 := by rw [← hs599]; exact zset_k (zne_r zc_194 zc_198 (by decide))
                          have e607 : s598 195 0 = s586 195 0 := by rw [← hs599]; exact zset_k (zne_r zc_195 zc_198 (by decide))
                          refine zt_aload_n (pc' := 202) hX dX12_poleTold_201 rfl rfl ?_
                          refine zt_get (pc' := 205) (v := .ref (X.1.1 + 198)) hX dX12_poleTold_202 rfl zf_X12_115 (by decide) zc_164 zs_46 (zrf_of (zv_46_43 hI600 zc_164)) ?_
                          refine zt_iconst (pc' := 206) hX dX12_poleTold_205 rfl ?_
                          refine zt_aload_n (pc' := 207) hX dX12_poleTold_206 rfl rfl ?_
                          refine zt_get (pc' := 210) (v := .ref (X.1.1 + 195)) hX dX12_poleTold_207 rfl zf_X12_105 (by decide) zc_164 zs_46 (zrf_of (zv_46_40 hI600 zc_164)) ?_
                          refine zt_iconst (pc' := 211) hX dX12_poleTold_210 rfl ?_
                          refine zt_iald (pc' := 212) hX dX12_poleTold_211 rfl (by decide) zc_195 zs_77 (by decide) ⟨by omega, by omega⟩ ?_
                          rw [show Int.toNat 0 = 0 from rfl]
                          have b609 := zv_77 hI600 zc_195 0
                          refine zt_imul (pc' := 213) hX dX12_poleTold_212 rfl ?_
                          refine zt_iconst (pc' := 214) hX dX12_poleTold_213 rfl ?_
                          refine zt_iadd (pc' := 215) hX dX12_poleTold_214 rfl ?_
                          refine zt_iload (pc' := 217) hX dX12_poleTold_215 rfl rfl ?_
                          refine zt_iast (pc' := 218) hX dX12_poleTold_217 rfl (by decide) zc_198 zs_80 (by decide) ⟨by omega, by omega⟩ ?_
                          generalize hs611 : zset s598 198 (((2 * (s598 195 0)) + 1).toNat) r561 = s610
                          have hI612 : zInv s610 := hs611 ▸ zp_80 hI600 zc_198 (((2 * (s598 195 0)) + 1).toNat) (by omega)
                          have hF613 : zOn zQ4 σ s610 := hs611 ▸ zOn_set hF601 (zq4_198 (by omega))
                          have hT614 := yTq_rk hT602 (yRq_set hs611 zc_198 (by decide))
                          have hE615 : yqs f s610 = yPn f 0 99 (yPw f 6 (yPo4 f (yPlr σ) s0)) := (yqs_rk (yRq_set hs611 zc_198 (by decide))).trans hE603
                          have e616 : s610 164 5 = s598 164 5 := by rw [← hs611]; exact zset_k (zne_r zc_164 zc_198 (by decide))
                          have e617 : s610 194 0 = s598 194 0 := by rw [← hs611]; exact zset_k (zne_r zc_194 zc_198 (by decide))
                          have e618 : s610 194 1 = s598 194 1 := by rw [← hs611]; exact zset_k (zne_r zc_194 zc_198 (by decide))
                          have e619 : s610 195 0 = s598 195 0 := by rw [← hs611]; exact zset_k (zne_r zc_195 zc_198 (by decide))
                          refine zt_aload_n (pc' := 219) hX dX12_poleTold_218 rfl rfl ?_
                          refine zt_get (pc' := 222) (v := .ref (X.1.1 + 195)) hX dX12_poleTold_219 rfl zf_X12_105 (by decide) zc_164 zs_46 (zrf_of (zv_46_40 hI612 zc_164)) ?_
                          refine zt_iconst (pc' := 223) hX dX12_poleTold_222 rfl ?_
                          refine zt_dup2 (pc' := 224) hX dX12_poleTold_223 rfl rfl rfl ?_
                          refine zt_iald (pc' := 225) hX dX12_poleTold_224 rfl (by decide) zc_195 zs_77 (by decide) ⟨by omega, by omega⟩ ?_
                          rw [show Int.toNat 0 = 0 from rfl]
                          have b621 := zv_77 hI612 zc_195 0
                          refine zt_iconst (pc' := 226) hX dX12_poleTold_225 rfl ?_
                          refine zt_iadd (pc' := 227) hX dX12_poleTold_226 rfl ?_
                          refine zt_iast (pc' := 228) hX dX12_poleTold_227 rfl (by decide) zc_195 zs_77 (by decide) ⟨by omega, by omega⟩ ?_
                          rw [show Int.toNat 0 = 0 from rfl]
                          generalize hs623 : zset s610 195 0 ((s610 195 0) + 1) = s622
                          have hI624 : zInv s622 := hs623 ▸ zp_77 hI612 zc_195 0 ⟨by omega, by omega⟩
                          have hF625 : zOn zQ4 σ s622 := hs623 ▸ zOn_set hF613 (by decide)
                          have hT626 := yTq_rk hT614 (yRq_set hs623 zc_195 (by decide))
                          have hE627 : yqs f s622 = yPn f 0 99 (yPw f 6 (yPo4 f (yPlr σ) s0)) := (yqs_rk (yRq_set hs623 zc_195 (by decide))).trans hE615
                          have e628 : s622 164 5 = s610 164 5 := by rw [← hs623]; exact zset_k (zne_r zc_164 zc_195 (by decide))
                          have e629 : s622 194 0 = s610 194 0 := by rw [← hs623]; exact zset_k (zne_r zc_194 zc_195 (by decide))
                          have e630 : s622 194 1 = s610 194 1 := by rw [← hs623]; exact zset_k (zne_r zc_194 zc_195 (by decide))
                          have e631 : s622 195 0 = ((s610 195 0) + 1) := by rw [← hs623]; exact zset_s
                          exact zt_vret hX hR dX12_poleTold_228 ⟨hI624, hF625, hT626, hE627.trans (yPol_b (by omega)), (fun o => yPol_P hT626.1 hq0 (by rw [← hE627]; exact o) hNv (fun o => (hz28 o).1) (fun o => (hz399 o).1) (yPlr_add F579 (by omega) hs587 hs599 hs611 hs623 (by omega) (by omega) (by omega) (by omega)))⟩
                        · exact zt_vret hX hR dX12_poleTold_173 ⟨hI565, hF573, hT569, hE572.trans (yPol_b (by omega)), (fun o => by have t := yHb1 rfl o; omega)⟩
                      · refine zt_aload_n (pc' := 114) hX dX12_poleTold_113 rfl rfl ?_
                        have b632 := zv_46_5 hI404 zc_164
                        refine zt_get (pc' := 117) (v := .int (zI (s403 164 5))) hX dX12_poleTold_114 rfl zf_X12_246 (by decide) zc_164 zs_46 rfl ?_
                        refine zt_ifne (pc' := 120) (tgt := 143) hX dX12_poleTold_117 rfl (by decide) ⟨by omega, by omega⟩ (fun c633 => ?_) (fun c633 => ?_)
                        · refine zt_iinc (pc' := 146) (lv' := [some (.ref (X.1.1 + 164)), none, some (.long (zJ r9)), none, some (.int (zI r377)), some (.int (zI (x400 + 1)))]) hX dX12_poleTold_143 rfl rfl hL (by decide) rfl ?_
                          refine zt_goto (tgt := 102) hX dX12_poleTold_146 (by decide) ?_
                          exact ih417 (x400 + 1) s403 (yPno 2 (yPq (yPo2 f (yPlr σ) s0)) (yPo3 f (yPlr σ) s0)) (by omega) (by omega) hI404 hF405 hT407 hE408 (by omega) (by omega) (by omega) (by omega) (yGo_b gO421 gX422) g414 (by omega)
                        · exact absurd c633 (by omega)
                exact L_102_414 _ 0 s378 (yPo3 f (yPlr σ) s0) (by omega) (by omega) hI381 hF389 hT385 hE398 (by omega) (by omega) (by omega) (by omega) (yGo_0 (fun o => (hz399 o).2)) F395 (Nat.lt_succ_self _)
              · refine zt_aload_n (pc' := 52) hX dX12_poleTold_51 rfl rfl ?_
                have b634 := zv_46_5 hI33 zc_164
                refine zt_get (pc' := 55) (v := .int (zI (s32 164 5))) hX dX12_poleTold_52 rfl zf_X12_246 (by decide) zc_164 zs_46 rfl ?_
                refine zt_ifne (pc' := 58) (tgt := 79) hX dX12_poleTold_55 rfl (by decide) ⟨by omega, by omega⟩ (fun c635 => ?_) (fun c635 => ?_)
                · refine zt_iinc (pc' := 82) (lv' := [some (.ref (X.1.1 + 164)), none, some (.long (zJ r9)), none, some (.int (zI (x29 + 1))), none]) hX dX12_poleTold_79 rfl rfl hL (by decide) rfl ?_
                  refine zt_goto (tgt := 40) hX dX12_poleTold_82 (by decide) ?_
                  exact ih46 (x29 + 1) s32 (yPno 3 (yPq (yPx f s0)) (yNm0 f (yPx f s0))) (by omega) (by omega) hI33 hF34 hT36 hE37 (by omega) (by omega) (by omega) (by omega) (yGo_b gO50 gX51) g43 (by omega)
                · exact absurd c635 (by omega)
        refine zt_mask [true, false, true, false, true, false] rfl ?_
        exact L_40_43 _ 0 s10 (yNm0 f (yPx f s0)) (by omega) (by omega) hI13 hF21 hT17 hE20 (by omega) (by omega) (by omega) (by omega) (yGo_0 (fun o => (hz28 o).2)) F27 (Nat.lt_succ_self _)
      · exact absurd c8 (by omega)
    · refine zt_aload_n (pc' := 19) hX dX12_poleTold_18 rfl rfl ?_
      refine zt_iconst (pc' := 20) hX dX12_poleTold_19 rfl ?_
      refine zt_iload_n (pc' := 21) hX dX12_poleTold_20 rfl rfl ?_
      refine zt_cVv (pc' := 24) hX dX12_poleTold_21 rfl zm_yX12_fail zw_26_19 zc_164 (by decide) zs_46 (q := (RX12, TX12, 108)) rfl rfl (yc_X12_fail _ _ σ hI 5 ⟨by omega, by omega⟩ a1_ ⟨by omega, by omega⟩ f (yTq_w hT)) rfl rfl (Nat.le_of_ble_eq_true rfl) (by decide) (fun r636 s637 hr638 hp639 => ?_)
      obtain ⟨hI640, hF641, hT642, z643, z644⟩ := hp639
      have hE645 : yqs f s637 = yPno 5 a1_ (yPx f s0) := by rw [z643, h0]
      have hF646 := zOn_tr hF hF641 zi_14
      have b647 := zv_46_5 hI640 zc_164
      have b648 := zv_77 hI640 zc_195 0
      have e649 := hF641 194 0 rfl
      have e650 := hF641 194 1 rfl
      have e651 := hF641 195 0 rfl
      have F652 : zOn zQ1 σ s637 := zOn_tr (zOn_rf zQ1 σ) hF641 zi_id
      have u653 := yHb0 hE645 yPo_no
      refine zt_aload_n (pc' := 25) hX dX12_poleTold_24 rfl rfl ?_
      have b654 := zv_46_5 hI640 zc_164
      refine zt_get (pc' := 28) (v := .int (zI (s637 164 5))) hX dX12_poleTold_25 rfl zf_X12_246 (by decide) zc_164 zs_46 rfl ?_
      refine zt_ifeq (pc' := 31) (tgt := 32) hX dX12_poleTold_28 rfl (by decide) ⟨by omega, by omega⟩ (fun c655 => ?_) (fun c655 => ?_)
      · exact absurd c655 (by omega)
      · exact zt_vret hX hR dX12_poleTold_31 ⟨hI640, hF646, hT642, hE645.trans (yPol_a (by omega) hbg o0), (fun o => by rw [hE645, yPo_no] at o; exact absurd o (by decide))⟩
