set_option maxRecDepth 100000 in
set_option maxHeartbeats 4000000 in
theorem yc_X12_qGoesOn (l : Launch) (E : zEN) (σ : zSto) (hI : zInv σ) (hpre0 : σ 164 5 = 0) (f : Int → Int) (hT : yTq f σ) (cb rl : Int) (k : List Nat) (hlv : yLv cb rl k σ (yqs f σ)) (hnf : ynf σ) (h4 : ytop k ≠ 4) (hbl : ybl σ) : zCt l E yX12_qGoesOn cX12_qGoesOn 2 (some .boolean) 3 zNC zNC 0 0 σ [.ref (E.1 + 164)] (fun r σ' => zInv σ' ∧ zOn zQ2 σ σ' ∧ 0 ≤ r ∧ r ≤ 1 ∧ yTq f σ' ∧ (yGon cb rl f k σ σ' (yqs f σ) (yqs f σ') r) ∧ (σ' 164 97 + σ' 164 99 ≤ 1650 ∧ -1800 ≤ σ' 164 100 ∧ σ' 164 100 ≤ 10)) := by
  refine zCt_of2 [some (.ref (E.1 + 164)), none] (by decide +kernel) (Nat.le_of_ble_eq_true rfl) rfl ?_
  intro X hE_ hX hR hL hN
  subst hE_
  have hX : zok X cX12_qGoesOn RX12 3 := hX
  have hF := zOn_rf zQ2 σ
  have hE0 : yqs f σ = yqs f σ := rfl
  have ho0 : yPo (yqs f σ) = 1 := (yHb hT rfl).1 (by omega)
  obtain ⟨un1, un2, un3, un4, un5, un6, un7, un8, un9⟩ := yLm_n (f := f) (m := 1) (yLm_0 ho0 hlv) hT rfl
  have b1 := zv_46_2 hI zc_164
  have b2 := zv_46_5 hI zc_164
  have b3 := zv_46_97 hI zc_164
  have b4 := zv_46_99 hI zc_164
  have b5 := zv_46_100 hI zc_164
  have b6 := zv_46_101 hI zc_164
  have b7 := zv_46_51 hI zc_164
  have L_0_15 : ∀ (N : Nat) (s8 : zSto) (p11 : yP), zInv s8 → zOn zQ2 σ s8 → yTq f s8 → yqs f s8 = p11 → (s8 164 97 + s8 164 99 ≤ 1640 ∧ -1800 ≤ s8 164 100 ∧ s8 164 100 ≤ 10) → yLn cb rl f k (2, ystk k σ, yqs f σ) σ s8 p11 → (yms p11 0) < N → zF X s8 0 [some (.ref (X.1.1 + 164)), none] [] := by
    intro N
    induction N with
    | zero =>
      intro s8 p11 hI9 hF10 hT12 hE13 g14 g15 hm17
      exact absurd hm17 (Nat.not_lt_zero _)
    | succ N ih18 =>
      intro s8 p11 hI9 hF10 hT12 hE13 g14 g15 hm17
      have b19 := zv_46_2 hI9 zc_164
      have b20 := zv_46_5 hI9 zc_164
      have b21 := zv_46_97 hI9 zc_164
      have b22 := zv_46_99 hI9 zc_164
      have b23 := zv_46_100 hI9 zc_164
      have b24 := zv_46_101 hI9 zc_164
      have b25 := zv_46_51 hI9 zc_164
      clear hlv hnf
      · obtain ⟨u26, u27, u28, u29, u30, u31, u32, u33, u34⟩ := yLm_n g15.1 hT12 hE13
        refine zt_aload_n (pc' := 1) hX dX12_qGoesOn_0 rfl rfl ?_
        have b35 := zv_46_5 hI9 zc_164
        refine zt_get (pc' := 4) (v := .int (zI (s8 164 5))) hX dX12_qGoesOn_1 rfl zf_X12_246 (by decide) zc_164 zs_46 rfl ?_
        refine zt_ifne (pc' := 7) (tgt := 122) hX dX12_qGoesOn_4 rfl (by decide) ⟨by omega, by omega⟩ (fun c36 => ?_) (fun c36 => ?_)
        · exact absurd c36 (by omega)
        · refine zt_aload_n (pc' := 8) hX dX12_qGoesOn_7 rfl rfl ?_
          refine zt_cVi (pc' := 11) hX dX12_qGoesOn_8 rfl zm_yX12_look zw_26_12 zc_164 (by decide) zs_46 (q := (RX12, TX12, 108)) rfl rfl (yc_X12_look _ _ s8 hI9 f hT12) rfl rfl (Nat.le_of_ble_eq_true rfl) (by decide) (fun r37 s38 hr39 hp40 => ?_)
          obtain ⟨hI41, hF42, q43, q44, hT45, z46, z47, z48⟩ := hp40
          have hE49 : yqs f s38 = p11 := by rw [z46, hE13]
          have hF50 := zOn_tr hF10 hF42 zi_a2
          have b51 := zv_46_2 hI41 zc_164
          have b52 := zv_46_5 hI41 zc_164
          have b53 := zv_46_97 hI41 zc_164
          have b54 := zv_46_99 hI41 zc_164
          have b55 := zv_46_100 hI41 zc_164
          have b56 := zv_46_101 hI41 zc_164
          have b57 := zv_46_51 hI41 zc_164
          have e58 := hF42 164 5 rfl
          have e59 := hF42 164 97 rfl
          have e60 := hF42 164 99 rfl
          have e61 := hF42 164 100 rfl
          have e62 := hF42 164 101 rfl
          have e63 := hF42 164 51 rfl
          have n64 := yLn_fr g15 (zOn_tr (zOn_rf zQ1 _) hF42 zi_a1)
          have y65 : ybs s38 = ybs s8 := ybs_fr (zOn_tr (zOn_rf zQ1 _) hF42 zi_a1)
          have hq66 : s38 164 2 = yPq p11 := yat_q hE13 (by omega) z47
          have hc67 : f (yPq p11) = r37 := by rw [← hq66]; exact z48.symm
          clear z47 z48
          refine zt_bipush (pc' := 13) hX dX12_qGoesOn_11 rfl (by decide) (by decide) ?_
          refine zt_icne (pc' := 16) (tgt := 122) hX dX12_qGoesOn_13 rfl (by decide) ⟨by omega, by omega⟩ ⟨by omega, by omega⟩ (fun c68 => ?_) (fun c68 => ?_)
          · have n4169 : yPg f p11 ≠ 41 := ysg_n (by rw [hc67]; omega) ⟨by decide, by decide, by decide⟩
            refine zt_aload_n (pc' := 123) hX dX12_qGoesOn_122 rfl rfl ?_
            refine zt_bipush (pc' := 125) hX dX12_qGoesOn_123 rfl (by decide) (by decide) ?_
            refine zt_cVz (pc' := 128) hX dX12_qGoesOn_125 rfl zm_yX12_takesSign zw_27_14 zc_164 (by decide) zs_46 (q := (RX12, TX12, 108)) rfl rfl (yc_X12_takesSign _ _ s38 hI41 42 ⟨by omega, by omega⟩ (by omega) f hT45) rfl rfl (Nat.le_of_ble_eq_true rfl) (by decide) (fun r70 s71 hr72 hp73 => ?_)
            obtain ⟨hI74, hF75, q76, q77, hT78, z79, z80, z81, z82⟩ := hp73
            have hE83 : yqs f s71 = yPu f 42 p11 := by rw [z79, hE49]
            rw [hE49] at z80
            rw [hE49] at z81
            have hF84 := zOn_tr hF50 hF75 zi_12
            have b85 := zv_46_2 hI74 zc_164
            have b86 := zv_46_5 hI74 zc_164
            have b87 := zv_46_97 hI74 zc_164
            have b88 := zv_46_99 hI74 zc_164
            have b89 := zv_46_100 hI74 zc_164
            have b90 := zv_46_101 hI74 zc_164
            have b91 := zv_46_51 hI74 zc_164
            have e92 := hF75 164 97 rfl
            have e93 := hF75 164 99 rfl
            have e94 := hF75 164 100 rfl
            have e95 := hF75 164 101 rfl
            have e96 := hF75 164 51 rfl
            have n97 := yLn_fr n64 hF75
            have y98 : ybs s71 = ybs s38 := ybs_fr hF75
            replace z81 : yIm _ _ := z81
            replace z82 : yIm _ _ := z82
            rcases yspl z80 with ⟨rfl, c99⟩ | ⟨rfl, c99⟩
            · clear z80
              have hE100 : yqs f s71 = yPx f p11 := hE83.trans (if_pos c99)
              have lo101 := yLo_0 n97 hT12 hE13 h4 (Or.inl c99)
              have u102 := yHb1 hE100 lo101.1
              obtain ⟨w103, w104⟩ := z82 rfl
              refine zt_ifne (pc' := 131) (tgt := 140) hX dX12_qGoesOn_128 rfl (by decide) ⟨by omega, by omega⟩ (fun c105 => ?_) (fun c105 => ?_)
              · refine zt_aload_n (pc' := 141) hX dX12_qGoesOn_140 rfl rfl ?_
                refine zt_get (pc' := 144) (v := .ref (X.1.1 + 165)) hX dX12_qGoesOn_141 rfl zf_X12_7 (by decide) zc_164 zs_46 (zrf_of (zv_46_0 hI74 zc_164)) ?_
                refine zt_aload_n (pc' := 145) hX dX12_qGoesOn_144 rfl rfl ?_
                have b106 := zv_46_2 hI74 zc_164
                refine zt_get (pc' := 148) (v := .int (zI (s71 164 2))) hX dX12_qGoesOn_145 rfl zf_X12_252 (by decide) zc_164 zs_46 rfl ?_
                refine zt_iconst (pc' := 149) hX dX12_qGoesOn_148 rfl ?_
                refine zt_isub (pc' := 150) hX dX12_qGoesOn_149 rfl ?_
                refine zt_iald (pc' := 151) hX dX12_qGoesOn_150 rfl (by decide) zc_165 zs_47 (by decide) ⟨by omega, by omega⟩ ?_
                generalize hv107 : s71 165 (((s71 164 2) - 1).toNat) = v107
                have bv107 : 0 ≤ v107 ∧ v107 ≤ 255 := hv107 ▸ zv_47 hI74 zc_165 _
                have u108 : v107 = 42 := hv107.symm.trans w104
                refine zt_bipush (pc' := 153) hX dX12_qGoesOn_151 rfl (by decide) (by decide) ?_
                refine zt_icne (pc' := 156) (tgt := 160) hX dX12_qGoesOn_153 rfl (by decide) ⟨by omega, by omega⟩ ⟨by omega, by omega⟩ (fun c109 => ?_) (fun c109 => ?_)
                · exact absurd c109 (by omega)
                · refine zt_iconst (pc' := 157) hX dX12_qGoesOn_156 rfl ?_
                  refine zt_goto (tgt := 161) hX dX12_qGoesOn_157 (by decide) ?_
                  refine zt_istore_n (pc' := 162) (lv' := [some (.ref (X.1.1 + 164)), some (.int (zI 3))]) hX dX12_qGoesOn_161 rfl hL (by decide) rfl ?_
                  have L_162_117 : ∀ (N : Nat) (s110 : zSto) (p113 : yP), zInv s110 → zOn zQ2 σ s110 → yTq f s110 → yqs f s110 = p113 → (s110 164 97 + s110 164 99 ≤ 1640 ∧ -1800 ≤ s110 164 100 ∧ s110 164 100 ≤ 10) → yLo cb rl f k (2, ystk k σ, yqs f σ) σ s110 p113 → ((s110 164 99).toNat) < N → zF X s110 162 [some (.ref (X.1.1 + 164)), some (.int (zI 3))] [] := by
                    intro N
                    induction N with
                    | zero =>
                      intro s110 p113 hI111 hF112 hT114 hE115 g116 g117 hm119
                      exact absurd hm119 (Nat.not_lt_zero _)
                    | succ N ih120 =>
                      intro s110 p113 hI111 hF112 hT114 hE115 g116 g117 hm119
                      have b121 := zv_46_2 hI111 zc_164
                      have b122 := zv_46_5 hI111 zc_164
                      have b123 := zv_46_97 hI111 zc_164
                      have b124 := zv_46_99 hI111 zc_164
                      have b125 := zv_46_100 hI111 zc_164
                      have b126 := zv_46_101 hI111 zc_164
                      have b127 := zv_46_51 hI111 zc_164
                      have q128 := 0
                      · obtain ⟨u129, u130, u131, u132⟩ := yLo_n g117 hT114 hE115
                        refine zt_aload_n (pc' := 163) hX dX12_qGoesOn_162 rfl rfl ?_
                        refine zt_iconst (pc' := 164) hX dX12_qGoesOn_163 rfl ?_
                        refine zt_cVz (pc' := 167) hX dX12_qGoesOn_164 rfl zm_yX12_qIsOn zw_31_23 zc_164 (by decide) zs_46 (q := (RX12, TX12, 108)) rfl rfl (yc_X12_qIsOn _ _ s110 hI111 3 ⟨by omega, by omega⟩) rfl rfl (Nat.le_of_ble_eq_true rfl) (by decide) (fun r133 s134 hr135 hp136 => ?_)
                        obtain ⟨rfl, q137, q138, z139⟩ := hp136
                        rcases ysps z139 with ⟨rfl, c140⟩ | rfl
                        · clear z139
                          refine zt_ifne (pc' := 170) (tgt := 178) hX dX12_qGoesOn_167 rfl (by decide) ⟨by omega, by omega⟩ (fun c141 => ?_) (fun c141 => ?_)
                          · refine zt_aload_n (pc' := 179) hX dX12_qGoesOn_178 rfl rfl ?_
                            refine zt_cVv (pc' := 182) hX dX12_qGoesOn_179 rfl zm_yX12_qDrops zw_31_4 zc_164 (by decide) zs_46 (q := (RX12, TX12, 108)) rfl rfl (yc_X12_qDrops _ _ s110 hI111 (by omega) (by omega)) rfl rfl (Nat.le_of_ble_eq_true rfl) (by decide) (fun r142 s143 hr144 hp145 => ?_)
                            obtain ⟨hI146, hF147, z148⟩ := hp145
                            have hF149 := zOn_tr hF112 hF147 zi_d2
                            have hT150 := yTq_rk hT114 (yRq_d hF147)
                            have hE151 : yqs f s143 = p113 := (yqs_rk (yRq_d hF147)).trans hE115
                            have b152 := zv_46_2 hI146 zc_164
                            have b153 := zv_46_5 hI146 zc_164
                            have b154 := zv_46_97 hI146 zc_164
                            have b155 := zv_46_99 hI146 zc_164
                            have b156 := zv_46_100 hI146 zc_164
                            have b157 := zv_46_101 hI146 zc_164
                            have b158 := zv_46_51 hI146 zc_164
                            have e159 := hF147 164 2 rfl
                            have e160 := hF147 164 5 rfl
                            have e161 := hF147 164 100 rfl
                            have e162 := hF147 164 101 rfl
                            have e163 := hF147 164 51 rfl
                            have lo164 := yLo_d g117 hbl c140.1 c140.2 (by decide) hF147 z148
                            refine zt_goto (tgt := 162) hX dX12_qGoesOn_182 (by decide) ?_
                            exact ih120 s143 p113 hI146 hF149 hT150 hE151 (by omega) lo164 (by omega)
                          · exact absurd c141 (by omega)
                        · clear z139
                          refine zt_ifne (pc' := 170) (tgt := 178) hX dX12_qGoesOn_167 rfl (by decide) ⟨by omega, by omega⟩ (fun c165 => ?_) (fun c165 => ?_)
                          · exact absurd c165 (by omega)
                          · refine zt_aload_n (pc' := 171) hX dX12_qGoesOn_170 rfl rfl ?_
                            refine zt_iconst (pc' := 172) hX dX12_qGoesOn_171 rfl ?_
                            refine zt_cVz (pc' := 175) hX dX12_qGoesOn_172 rfl zm_yX12_qIsOn zw_31_23 zc_164 (by decide) zs_46 (q := (RX12, TX12, 108)) rfl rfl (yc_X12_qIsOn _ _ s110 hI111 4 ⟨by omega, by omega⟩) rfl rfl (Nat.le_of_ble_eq_true rfl) (by decide) (fun r166 s167 hr168 hp169 => ?_)
                            obtain ⟨rfl, q170, q171, z172⟩ := hp169
                            rcases ysps z172 with ⟨rfl, c173⟩ | rfl
                            · clear z172
                              refine zt_ifeq (pc' := 178) (tgt := 185) hX dX12_qGoesOn_175 rfl (by decide) ⟨by omega, by omega⟩ (fun c174 => ?_) (fun c174 => ?_)
                              · exact absurd c174 (by omega)
                              · refine zt_aload_n (pc' := 179) hX dX12_qGoesOn_178 rfl rfl ?_
                                refine zt_cVv (pc' := 182) hX dX12_qGoesOn_179 rfl zm_yX12_qDrops zw_31_4 zc_164 (by decide) zs_46 (q := (RX12, TX12, 108)) rfl rfl (yc_X12_qDrops _ _ s110 hI111 (by omega) (by omega)) rfl rfl (Nat.le_of_ble_eq_true rfl) (by decide) (fun r175 s176 hr177 hp178 => ?_)
                                obtain ⟨hI179, hF180, z181⟩ := hp178
                                have hF182 := zOn_tr hF112 hF180 zi_d2
                                have hT183 := yTq_rk hT114 (yRq_d hF180)
                                have hE184 : yqs f s176 = p113 := (yqs_rk (yRq_d hF180)).trans hE115
                                have b185 := zv_46_2 hI179 zc_164
                                have b186 := zv_46_5 hI179 zc_164
                                have b187 := zv_46_97 hI179 zc_164
                                have b188 := zv_46_99 hI179 zc_164
                                have b189 := zv_46_100 hI179 zc_164
                                have b190 := zv_46_101 hI179 zc_164
                                have b191 := zv_46_51 hI179 zc_164
                                have e192 := hF180 164 2 rfl
                                have e193 := hF180 164 5 rfl
                                have e194 := hF180 164 100 rfl
                                have e195 := hF180 164 101 rfl
                                have e196 := hF180 164 51 rfl
                                have lo197 := yLo_d g117 hbl c173.1 c173.2 (by decide) hF180 z181
                                refine zt_goto (tgt := 162) hX dX12_qGoesOn_182 (by decide) ?_
                                exact ih120 s176 p113 hI179 hF182 hT183 hE184 (by omega) lo197 (by omega)
                            · clear z172
                              refine zt_ifeq (pc' := 178) (tgt := 185) hX dX12_qGoesOn_175 rfl (by decide) ⟨by omega, by omega⟩ (fun c198 => ?_) (fun c198 => ?_)
                              · refine zt_aload_n (pc' := 186) hX dX12_qGoesOn_185 rfl rfl ?_
                                refine zt_get (pc' := 189) (v := .ref (X.1.1 + 235)) hX dX12_qGoesOn_186 rfl zf_X12_234 (by decide) zc_164 zs_46 (zrf_of (zv_46_98 hI111 zc_164)) ?_
                                refine zt_aload_n (pc' := 190) hX dX12_qGoesOn_189 rfl rfl ?_
                                have b199 := zv_46_99 hI111 zc_164
                                refine zt_get (pc' := 193) (v := .int (zI (s110 164 99))) hX dX12_qGoesOn_190 rfl zf_X12_333 (by decide) zc_164 zs_46 rfl ?_
                                refine zt_iload_n (pc' := 194) hX dX12_qGoesOn_193 rfl rfl ?_
                                refine zt_iast (pc' := 195) hX dX12_qGoesOn_194 rfl (by decide) zc_235 zs_117 (by decide) ⟨by omega, by omega⟩ ?_
                                generalize hs201 : zset s110 235 ((s110 164 99).toNat) 3 = s200
                                have hI202 : zInv s200 := hs201 ▸ zp_117 hI111 zc_235 ((s110 164 99).toNat) ⟨by omega, by omega⟩
                                have hF203 : zOn zQ2 σ s200 := hs201 ▸ zOn_set hF112 (zq2_235 (by omega))
                                have hT204 := yTq_rk hT114 (yRq_set hs201 zc_235 (by decide))
                                have hE205 : yqs f s200 = p113 := (yqs_rk (yRq_set hs201 zc_235 (by decide))).trans hE115
                                have e206 : s200 164 2 = s110 164 2 := by rw [← hs201]; exact zset_k (zne_r zc_164 zc_235 (by decide))
                                have e207 : s200 164 5 = s110 164 5 := by rw [← hs201]; exact zset_k (zne_r zc_164 zc_235 (by decide))
                                have e208 : s200 164 97 = s110 164 97 := by rw [← hs201]; exact zset_k (zne_r zc_164 zc_235 (by decide))
                                have e209 : s200 164 99 = s110 164 99 := by rw [← hs201]; exact zset_k (zne_r zc_164 zc_235 (by decide))
                                have e210 : s200 164 100 = s110 164 100 := by rw [← hs201]; exact zset_k (zne_r zc_164 zc_235 (by decide))
                                have e211 : s200 164 101 = s110 164 101 := by rw [← hs201]; exact zset_k (zne_r zc_164 zc_235 (by decide))
                                have e212 : s200 164 51 = s110 164 51 := by rw [← hs201]; exact zset_k (zne_r zc_164 zc_235 (by decide))
                                refine zt_aload_n (pc' := 196) hX dX12_qGoesOn_195 rfl rfl ?_
                                refine zt_dup (pc' := 197) hX dX12_qGoesOn_196 rfl rfl ?_
                                have b213 := zv_46_99 hI202 zc_164
                                refine zt_get (pc' := 200) (v := .int (zI (s200 164 99))) hX dX12_qGoesOn_197 rfl zf_X12_333 (by decide) zc_164 zs_46 rfl ?_
                                refine zt_iconst (pc' := 201) hX dX12_qGoesOn_200 rfl ?_
                                refine zt_iadd (pc' := 202) hX dX12_qGoesOn_201 rfl ?_
                                refine zt_put (pc' := 205) (x := ((s200 164 99) + 1)) hX dX12_qGoesOn_202 rfl zf_X12_333 (by decide) zc_164 zs_46 (fun q hq => by cases hq; rfl) rfl rfl rfl ?_
                                generalize hs215 : zset s200 164 99 ((s200 164 99) + 1) = s214
                                have hI216 : zInv s214 := hs215 ▸ zp_46_99 hI202 zc_164 ⟨by omega, by omega⟩
                                have hF217 : zOn zQ2 σ s214 := hs215 ▸ zOn_set hF203 (by decide)
                                have e218 : s214 164 2 = s200 164 2 := by rw [← hs215]; exact zset_j (by decide)
                                have e219 : s214 164 5 = s200 164 5 := by rw [← hs215]; exact zset_j (by decide)
                                have e220 : s214 164 97 = s200 164 97 := by rw [← hs215]; exact zset_j (by decide)
                                have e221 : s214 164 99 = ((s200 164 99) + 1) := by rw [← hs215]; exact zset_s
                                have e222 : s214 164 100 = s200 164 100 := by rw [← hs215]; exact zset_j (by decide)
                                have e223 : s214 164 101 = s200 164 101 := by rw [← hs215]; exact zset_j (by decide)
                                have e224 : s214 164 51 = s200 164 51 := by rw [← hs215]; exact zset_j (by decide)
                                have hT225 := yTq_rk hT204 (yRq_j hs215 (by decide))
                                have hE226 : yqs f s214 = p113 := (yqs_rk (yRq_j hs215 (by decide))).trans hE205
                                refine zt_iconst (pc' := 206) hX dX12_qGoesOn_205 rfl ?_
                                exact zt_zret hX hR dX12_qGoesOn_206 ⟨by omega, by omega⟩ ⟨hI216, hF217, by omega, by omega, hT225, (by rw [hE226]; exact Or.inl ⟨rfl, yLo_p g117 hT225 hE226 (by omega) (by decide) hs201 hs215 rfl (by omega)⟩), ⟨by omega, by omega, by omega⟩⟩
                              · exact absurd c198 (by omega)
                  exact L_162_117 _ s71 (yPx f p11) hI74 hF84 hT78 hE100 (by omega) lo101 (Nat.lt_succ_self _)
              · exact absurd c105 (by omega)
            · clear z80
              have hE227 : yqs f s71 = p11 := hE83.trans (if_neg c99)
              have u228 := z81 ⟨n97.1.1, rfl⟩
              have u229 := yHb1 hE227 n97.1.1
              refine zt_ifne (pc' := 131) (tgt := 140) hX dX12_qGoesOn_128 rfl (by decide) ⟨by omega, by omega⟩ (fun c230 => ?_) (fun c230 => ?_)
              · exact absurd c230 (by omega)
              · refine zt_aload_n (pc' := 132) hX dX12_qGoesOn_131 rfl rfl ?_
                refine zt_bipush (pc' := 134) hX dX12_qGoesOn_132 rfl (by decide) (by decide) ?_
                refine zt_cVz (pc' := 137) hX dX12_qGoesOn_134 rfl zm_yX12_takesSign zw_27_14 zc_164 (by decide) zs_46 (q := (RX12, TX12, 108)) rfl rfl (yc_X12_takesSign _ _ s71 hI74 47 ⟨by omega, by omega⟩ (by omega) f hT78) rfl rfl (Nat.le_of_ble_eq_true rfl) (by decide) (fun r231 s232 hr233 hp234 => ?_)
                obtain ⟨hI235, hF236, q237, q238, hT239, z240, z241, z242, z243⟩ := hp234
                have hE244 : yqs f s232 = yPu f 47 p11 := by rw [z240, hE227]
                rw [hE227] at z241
                rw [hE227] at z242
                have hF245 := zOn_tr hF84 hF236 zi_12
                have b246 := zv_46_2 hI235 zc_164
                have b247 := zv_46_5 hI235 zc_164
                have b248 := zv_46_97 hI235 zc_164
                have b249 := zv_46_99 hI235 zc_164
                have b250 := zv_46_100 hI235 zc_164
                have b251 := zv_46_101 hI235 zc_164
                have b252 := zv_46_51 hI235 zc_164
                have e253 := hF236 164 97 rfl
                have e254 := hF236 164 99 rfl
                have e255 := hF236 164 100 rfl
                have e256 := hF236 164 101 rfl
                have e257 := hF236 164 51 rfl
                have n258 := yLn_fr n97 hF236
                have y259 : ybs s232 = ybs s71 := ybs_fr hF236
                replace z242 : yIm _ _ := z242
                replace z243 : yIm _ _ := z243
                rcases yspl z241 with ⟨rfl, c260⟩ | ⟨rfl, c260⟩
                · clear z241
                  have hE261 : yqs f s232 = yPx f p11 := hE244.trans (if_pos c260)
                  have lo262 := yLo_0 n258 hT12 hE13 h4 (Or.inr (Or.inl c260))
                  have u263 := yHb1 hE261 lo262.1
                  obtain ⟨w264, w265⟩ := z243 rfl
                  refine zt_ifeq (pc' := 140) (tgt := 207) hX dX12_qGoesOn_137 rfl (by decide) ⟨by omega, by omega⟩ (fun c266 => ?_) (fun c266 => ?_)
                  · exact absurd c266 (by omega)
                  · refine zt_aload_n (pc' := 141) hX dX12_qGoesOn_140 rfl rfl ?_
                    refine zt_get (pc' := 144) (v := .ref (X.1.1 + 165)) hX dX12_qGoesOn_141 rfl zf_X12_7 (by decide) zc_164 zs_46 (zrf_of (zv_46_0 hI235 zc_164)) ?_
                    refine zt_aload_n (pc' := 145) hX dX12_qGoesOn_144 rfl rfl ?_
                    have b267 := zv_46_2 hI235 zc_164
                    refine zt_get (pc' := 148) (v := .int (zI (s232 164 2))) hX dX12_qGoesOn_145 rfl zf_X12_252 (by decide) zc_164 zs_46 rfl ?_
                    refine zt_iconst (pc' := 149) hX dX12_qGoesOn_148 rfl ?_
                    refine zt_isub (pc' := 150) hX dX12_qGoesOn_149 rfl ?_
                    refine zt_iald (pc' := 151) hX dX12_qGoesOn_150 rfl (by decide) zc_165 zs_47 (by decide) ⟨by omega, by omega⟩ ?_
                    generalize hv268 : s232 165 (((s232 164 2) - 1).toNat) = v268
                    have bv268 : 0 ≤ v268 ∧ v268 ≤ 255 := hv268 ▸ zv_47 hI235 zc_165 _
                    have u269 : v268 = 47 := hv268.symm.trans w265
                    refine zt_bipush (pc' := 153) hX dX12_qGoesOn_151 rfl (by decide) (by decide) ?_
                    refine zt_icne (pc' := 156) (tgt := 160) hX dX12_qGoesOn_153 rfl (by decide) ⟨by omega, by omega⟩ ⟨by omega, by omega⟩ (fun c270 => ?_) (fun c270 => ?_)
                    · refine zt_iconst (pc' := 161) hX dX12_qGoesOn_160 rfl ?_
                      refine zt_istore_n (pc' := 162) (lv' := [some (.ref (X.1.1 + 164)), some (.int (zI 4))]) hX dX12_qGoesOn_161 rfl hL (by decide) rfl ?_
                      have L_162_278 : ∀ (N : Nat) (s271 : zSto) (p274 : yP), zInv s271 → zOn zQ2 σ s271 → yTq f s271 → yqs f s271 = p274 → (s271 164 97 + s271 164 99 ≤ 1640 ∧ -1800 ≤ s271 164 100 ∧ s271 164 100 ≤ 10) → yLo cb rl f k (2, ystk k σ, yqs f σ) σ s271 p274 → ((s271 164 99).toNat) < N → zF X s271 162 [some (.ref (X.1.1 + 164)), some (.int (zI 4))] [] := by
                        intro N
                        induction N with
                        | zero =>
                          intro s271 p274 hI272 hF273 hT275 hE276 g277 g278 hm280
                          exact absurd hm280 (Nat.not_lt_zero _)
                        | succ N ih281 =>
                          intro s271 p274 hI272 hF273 hT275 hE276 g277 g278 hm280
                          have b282 := zv_46_2 hI272 zc_164
                          have b283 := zv_46_5 hI272 zc_164
                          have b284 := zv_46_97 hI272 zc_164
                          have b285 := zv_46_99 hI272 zc_164
                          have b286 := zv_46_100 hI272 zc_164
                          have b287 := zv_46_101 hI272 zc_164
                          have b288 := zv_46_51 hI272 zc_164
                          have q289 := 0
                          · obtain ⟨u290, u291, u292, u293⟩ := yLo_n g278 hT275 hE276
                            refine zt_aload_n (pc' := 163) hX dX12_qGoesOn_162 rfl rfl ?_
                            refine zt_iconst (pc' := 164) hX dX12_qGoesOn_163 rfl ?_
                            refine zt_cVz (pc' := 167) hX dX12_qGoesOn_164 rfl zm_yX12_qIsOn zw_31_23 zc_164 (by decide) zs_46 (q := (RX12, TX12, 108)) rfl rfl (yc_X12_qIsOn _ _ s271 hI272 3 ⟨by omega, by omega⟩) rfl rfl (Nat.le_of_ble_eq_true rfl) (by decide) (fun r294 s295 hr296 hp297 => ?_)
                            obtain ⟨rfl, q298, q299, z300⟩ := hp297
                            rcases ysps z300 with ⟨rfl, c301⟩ | rfl
                            · clear z300
                              refine zt_ifne (pc' := 170) (tgt := 178) hX dX12_qGoesOn_167 rfl (by decide) ⟨by omega, by omega⟩ (fun c302 => ?_) (fun c302 => ?_)
                              · refine zt_aload_n (pc' := 179) hX dX12_qGoesOn_178 rfl rfl ?_
                                refine zt_cVv (pc' := 182) hX dX12_qGoesOn_179 rfl zm_yX12_qDrops zw_31_4 zc_164 (by decide) zs_46 (q := (RX12, TX12, 108)) rfl rfl (yc_X12_qDrops _ _ s271 hI272 (by omega) (by omega)) rfl rfl (Nat.le_of_ble_eq_true rfl) (by decide) (fun r303 s304 hr305 hp306 => ?_)
                                obtain ⟨hI307, hF308, z309⟩ := hp306
                                have hF310 := zOn_tr hF273 hF308 zi_d2
                                have hT311 := yTq_rk hT275 (yRq_d hF308)
                                have hE312 : yqs f s304 = p274 := (yqs_rk (yRq_d hF308)).trans hE276
                                have b313 := zv_46_2 hI307 zc_164
                                have b314 := zv_46_5 hI307 zc_164
                                have b315 := zv_46_97 hI307 zc_164
                                have b316 := zv_46_99 hI307 zc_164
                                have b317 := zv_46_100 hI307 zc_164
                                have b318 := zv_46_101 hI307 zc_164
                                have b319 := zv_46_51 hI307 zc_164
                                have e320 := hF308 164 2 rfl
                                have e321 := hF308 164 5 rfl
                                have e322 := hF308 164 100 rfl
                                have e323 := hF308 164 101 rfl
                                have e324 := hF308 164 51 rfl
                                have lo325 := yLo_d g278 hbl c301.1 c301.2 (by decide) hF308 z309
                                refine zt_goto (tgt := 162) hX dX12_qGoesOn_182 (by decide) ?_
                                exact ih281 s304 p274 hI307 hF310 hT311 hE312 (by omega) lo325 (by omega)
                              · exact absurd c302 (by omega)
                            · clear z300
                              refine zt_ifne (pc' := 170) (tgt := 178) hX dX12_qGoesOn_167 rfl (by decide) ⟨by omega, by omega⟩ (fun c326 => ?_) (fun c326 => ?_)
                              · exact absurd c326 (by omega)
                              · refine zt_aload_n (pc' := 171) hX dX12_qGoesOn_170 rfl rfl ?_
                                refine zt_iconst (pc' := 172) hX dX12_qGoesOn_171 rfl ?_
                                refine zt_cVz (pc' := 175) hX dX12_qGoesOn_172 rfl zm_yX12_qIsOn zw_31_23 zc_164 (by decide) zs_46 (q := (RX12, TX12, 108)) rfl rfl (yc_X12_qIsOn _ _ s271 hI272 4 ⟨by omega, by omega⟩) rfl rfl (Nat.le_of_ble_eq_true rfl) (by decide) (fun r327 s328 hr329 hp330 => ?_)
                                obtain ⟨rfl, q331, q332, z333⟩ := hp330
                                rcases ysps z333 with ⟨rfl, c334⟩ | rfl
                                · clear z333
                                  refine zt_ifeq (pc' := 178) (tgt := 185) hX dX12_qGoesOn_175 rfl (by decide) ⟨by omega, by omega⟩ (fun c335 => ?_) (fun c335 => ?_)
                                  · exact absurd c335 (by omega)
                                  · refine zt_aload_n (pc' := 179) hX dX12_qGoesOn_178 rfl rfl ?_
                                    refine zt_cVv (pc' := 182) hX dX12_qGoesOn_179 rfl zm_yX12_qDrops zw_31_4 zc_164 (by decide) zs_46 (q := (RX12, TX12, 108)) rfl rfl (yc_X12_qDrops _ _ s271 hI272 (by omega) (by omega)) rfl rfl (Nat.le_of_ble_eq_true rfl) (by decide) (fun r336 s337 hr338 hp339 => ?_)
                                    obtain ⟨hI340, hF341, z342⟩ := hp339
                                    have hF343 := zOn_tr hF273 hF341 zi_d2
                                    have hT344 := yTq_rk hT275 (yRq_d hF341)
                                    have hE345 : yqs f s337 = p274 := (yqs_rk (yRq_d hF341)).trans hE276
                                    have b346 := zv_46_2 hI340 zc_164
                                    have b347 := zv_46_5 hI340 zc_164
                                    have b348 := zv_46_97 hI340 zc_164
                                    have b349 := zv_46_99 hI340 zc_164
                                    have b350 := zv_46_100 hI340 zc_164
                                    have b351 := zv_46_101 hI340 zc_164
                                    have b352 := zv_46_51 hI340 zc_164
                                    have e353 := hF341 164 2 rfl
                                    have e354 := hF341 164 5 rfl
                                    have e355 := hF341 164 100 rfl
                                    have e356 := hF341 164 101 rfl
                                    have e357 := hF341 164 51 rfl
                                    have lo358 := yLo_d g278 hbl c334.1 c334.2 (by decide) hF341 z342
                                    refine zt_goto (tgt := 162) hX dX12_qGoesOn_182 (by decide) ?_
                                    exact ih281 s337 p274 hI340 hF343 hT344 hE345 (by omega) lo358 (by omega)
                                · clear z333
                                  refine zt_ifeq (pc' := 178) (tgt := 185) hX dX12_qGoesOn_175 rfl (by decide) ⟨by omega, by omega⟩ (fun c359 => ?_) (fun c359 => ?_)
                                  · refine zt_aload_n (pc' := 186) hX dX12_qGoesOn_185 rfl rfl ?_
                                    refine zt_get (pc' := 189) (v := .ref (X.1.1 + 235)) hX dX12_qGoesOn_186 rfl zf_X12_234 (by decide) zc_164 zs_46 (zrf_of (zv_46_98 hI272 zc_164)) ?_
                                    refine zt_aload_n (pc' := 190) hX dX12_qGoesOn_189 rfl rfl ?_
                                    have b360 := zv_46_99 hI272 zc_164
                                    refine zt_get (pc' := 193) (v := .int (zI (s271 164 99))) hX dX12_qGoesOn_190 rfl zf_X12_333 (by decide) zc_164 zs_46 rfl ?_
                                    refine zt_iload_n (pc' := 194) hX dX12_qGoesOn_193 rfl rfl ?_
                                    refine zt_iast (pc' := 195) hX dX12_qGoesOn_194 rfl (by decide) zc_235 zs_117 (by decide) ⟨by omega, by omega⟩ ?_
                                    generalize hs362 : zset s271 235 ((s271 164 99).toNat) 4 = s361
                                    have hI363 : zInv s361 := hs362 ▸ zp_117 hI272 zc_235 ((s271 164 99).toNat) ⟨by omega, by omega⟩
                                    have hF364 : zOn zQ2 σ s361 := hs362 ▸ zOn_set hF273 (zq2_235 (by omega))
                                    have hT365 := yTq_rk hT275 (yRq_set hs362 zc_235 (by decide))
                                    have hE366 : yqs f s361 = p274 := (yqs_rk (yRq_set hs362 zc_235 (by decide))).trans hE276
                                    have e367 : s361 164 2 = s271 164 2 := by rw [← hs362]; exact zset_k (zne_r zc_164 zc_235 (by decide))
                                    have e368 : s361 164 5 = s271 164 5 := by rw [← hs362]; exact zset_k (zne_r zc_164 zc_235 (by decide))
                                    have e369 : s361 164 97 = s271 164 97 := by rw [← hs362]; exact zset_k (zne_r zc_164 zc_235 (by decide))
                                    have e370 : s361 164 99 = s271 164 99 := by rw [← hs362]; exact zset_k (zne_r zc_164 zc_235 (by decide))
                                    have e371 : s361 164 100 = s271 164 100 := by rw [← hs362]; exact zset_k (zne_r zc_164 zc_235 (by decide))
                                    have e372 : s361 164 101 = s271 164 101 := by rw [← hs362]; exact zset_k (zne_r zc_164 zc_235 (by decide))
                                    have e373 : s361 164 51 = s271 164 51 := by rw [← hs362]; exact zset_k (zne_r zc_164 zc_235 (by decide))
                                    refine zt_aload_n (pc' := 196) hX dX12_qGoesOn_195 rfl rfl ?_
                                    refine zt_dup (pc' := 197) hX dX12_qGoesOn_196 rfl rfl ?_
                                    have b374 := zv_46_99 hI363 zc_164
                                    refine zt_get (pc' := 200) (v := .int (zI (s361 164 99))) hX dX12_qGoesOn_197 rfl zf_X12_333 (by decide) zc_164 zs_46 rfl ?_
                                    refine zt_iconst (pc' := 201) hX dX12_qGoesOn_200 rfl ?_
                                    refine zt_iadd (pc' := 202) hX dX12_qGoesOn_201 rfl ?_
                                    refine zt_put (pc' := 205) (x := ((s361 164 99) + 1)) hX dX12_qGoesOn_202 rfl zf_X12_333 (by decide) zc_164 zs_46 (fun q hq => by cases hq; rfl) rfl rfl rfl ?_
                                    generalize hs376 : zset s361 164 99 ((s361 164 99) + 1) = s375
                                    have hI377 : zInv s375 := hs376 ▸ zp_46_99 hI363 zc_164 ⟨by omega, by omega⟩
                                    have hF378 : zOn zQ2 σ s375 := hs376 ▸ zOn_set hF364 (by decide)
                                    have e379 : s375 164 2 = s361 164 2 := by rw [← hs376]; exact zset_j (by decide)
                                    have e380 : s375 164 5 = s361 164 5 := by rw [← hs376]; exact zset_j (by decide)
                                    have e381 : s375 164 97 = s361 164 97 := by rw [← hs376]; exact zset_j (by decide)
                                    have e382 : s375 164 99 = ((s361 164 99) + 1) := by rw [← hs376]; exact zset_s
                                    have e383 : s375 164 100 = s361 164 100 := by rw [← hs376]; exact zset_j (by decide)
                                    have e384 : s375 164 101 = s361 164 101 := by rw [← hs376]; exact zset_j (by decide)
                                    have e385 : s375 164 51 = s361 164 51 := by rw [← hs376]; exact zset_j (by decide)
                                    have hT386 := yTq_rk hT365 (yRq_j hs376 (by decide))
                                    have hE387 : yqs f s375 = p274 := (yqs_rk (yRq_j hs376 (by decide))).trans hE366
                                    refine zt_iconst (pc' := 206) hX dX12_qGoesOn_205 rfl ?_
                                    exact zt_zret hX hR dX12_qGoesOn_206 ⟨by omega, by omega⟩ ⟨hI377, hF378, by omega, by omega, hT386, (by rw [hE387]; exact Or.inl ⟨rfl, yLo_p g278 hT386 hE387 (by omega) (by decide) hs362 hs376 rfl (by omega)⟩), ⟨by omega, by omega, by omega⟩⟩
                                  · exact absurd c359 (by omega)
                      exact L_162_278 _ s232 (yPx f p11) hI235 hF245 hT239 hE261 (by omega) lo262 (Nat.lt_succ_self _)
                    · exact absurd c270 (by omega)
                · clear z241
                  have hE388 : yqs f s232 = p11 := hE244.trans (if_neg c260)
                  have u389 := z242 ⟨n258.1.1, rfl⟩
                  have u390 := yHb1 hE388 n258.1.1
                  refine zt_ifeq (pc' := 140) (tgt := 207) hX dX12_qGoesOn_137 rfl (by decide) ⟨by omega, by omega⟩ (fun c391 => ?_) (fun c391 => ?_)
                  · refine zt_aload_n (pc' := 208) hX dX12_qGoesOn_207 rfl rfl ?_
                    refine zt_bipush (pc' := 210) hX dX12_qGoesOn_208 rfl (by decide) (by decide) ?_
                    refine zt_cVz (pc' := 213) hX dX12_qGoesOn_210 rfl zm_yX12_takesSign zw_27_14 zc_164 (by decide) zs_46 (q := (RX12, TX12, 108)) rfl rfl (yc_X12_takesSign _ _ s232 hI235 43 ⟨by omega, by omega⟩ (by omega) f hT239) rfl rfl (Nat.le_of_ble_eq_true rfl) (by decide) (fun r392 s393 hr394 hp395 => ?_)
                    obtain ⟨hI396, hF397, q398, q399, hT400, z401, z402, z403, z404⟩ := hp395
                    have hE405 : yqs f s393 = yPu f 43 p11 := by rw [z401, hE388]
                    rw [hE388] at z402
                    rw [hE388] at z403
                    have hF406 := zOn_tr hF245 hF397 zi_12
                    have b407 := zv_46_2 hI396 zc_164
                    have b408 := zv_46_5 hI396 zc_164
                    have b409 := zv_46_97 hI396 zc_164
                    have b410 := zv_46_99 hI396 zc_164
                    have b411 := zv_46_100 hI396 zc_164
                    have b412 := zv_46_101 hI396 zc_164
                    have b413 := zv_46_51 hI396 zc_164
                    have e414 := hF397 164 97 rfl
                    have e415 := hF397 164 99 rfl
                    have e416 := hF397 164 100 rfl
                    have e417 := hF397 164 101 rfl
                    have e418 := hF397 164 51 rfl
                    have n419 := yLn_fr n258 hF397
                    have y420 : ybs s393 = ybs s232 := ybs_fr hF397
                    replace z403 : yIm _ _ := z403
                    replace z404 : yIm _ _ := z404
                    rcases yspl z402 with ⟨rfl, c421⟩ | ⟨rfl, c421⟩
                    · clear z402
                      have hE422 : yqs f s393 = yPx f p11 := hE405.trans (if_pos c421)
                      have lo423 := yLo_0 n419 hT12 hE13 h4 (Or.inr (Or.inr (Or.inl c421)))
                      have u424 := yHb1 hE422 lo423.1
                      obtain ⟨w425, w426⟩ := z404 rfl
                      refine zt_ifne (pc' := 216) (tgt := 225) hX dX12_qGoesOn_213 rfl (by decide) ⟨by omega, by omega⟩ (fun c427 => ?_) (fun c427 => ?_)
                      · refine zt_aload_n (pc' := 226) hX dX12_qGoesOn_225 rfl rfl ?_
                        refine zt_get (pc' := 229) (v := .ref (X.1.1 + 165)) hX dX12_qGoesOn_226 rfl zf_X12_7 (by decide) zc_164 zs_46 (zrf_of (zv_46_0 hI396 zc_164)) ?_
                        refine zt_aload_n (pc' := 230) hX dX12_qGoesOn_229 rfl rfl ?_
                        have b428 := zv_46_2 hI396 zc_164
                        refine zt_get (pc' := 233) (v := .int (zI (s393 164 2))) hX dX12_qGoesOn_230 rfl zf_X12_252 (by decide) zc_164 zs_46 rfl ?_
                        refine zt_iconst (pc' := 234) hX dX12_qGoesOn_233 rfl ?_
                        refine zt_isub (pc' := 235) hX dX12_qGoesOn_234 rfl ?_
                        refine zt_iald (pc' := 236) hX dX12_qGoesOn_235 rfl (by decide) zc_165 zs_47 (by decide) ⟨by omega, by omega⟩ ?_
                        generalize hv429 : s393 165 (((s393 164 2) - 1).toNat) = v429
                        have bv429 : 0 ≤ v429 ∧ v429 ≤ 255 := hv429 ▸ zv_47 hI396 zc_165 _
                        have u430 : v429 = 43 := hv429.symm.trans w426
                        refine zt_bipush (pc' := 238) hX dX12_qGoesOn_236 rfl (by decide) (by decide) ?_
                        refine zt_icne (pc' := 241) (tgt := 245) hX dX12_qGoesOn_238 rfl (by decide) ⟨by omega, by omega⟩ ⟨by omega, by omega⟩ (fun c431 => ?_) (fun c431 => ?_)
                        · exact absurd c431 (by omega)
                        · refine zt_iconst (pc' := 242) hX dX12_qGoesOn_241 rfl ?_
                          refine zt_goto (tgt := 246) hX dX12_qGoesOn_242 (by decide) ?_
                          refine zt_istore_n (pc' := 247) (lv' := [some (.ref (X.1.1 + 164)), some (.int (zI 1))]) hX dX12_qGoesOn_246 rfl hL (by decide) rfl ?_
                          have L_247_439 : ∀ (N : Nat) (s432 : zSto) (p435 : yP), zInv s432 → zOn zQ2 σ s432 → yTq f s432 → yqs f s432 = p435 → (s432 164 97 + s432 164 99 ≤ 1640 ∧ -1800 ≤ s432 164 100 ∧ s432 164 100 ≤ 10) → yLo cb rl f k (2, ystk k σ, yqs f σ) σ s432 p435 → ((s432 164 99).toNat) < N → zF X s432 247 [some (.ref (X.1.1 + 164)), some (.int (zI 1))] [] := by
                            intro N
                            induction N with
                            | zero =>
                              intro s432 p435 hI433 hF434 hT436 hE437 g438 g439 hm441
                              exact absurd hm441 (Nat.not_lt_zero _)
                            | succ N ih442 =>
                              intro s432 p435 hI433 hF434 hT436 hE437 g438 g439 hm441
                              have b443 := zv_46_2 hI433 zc_164
                              have b444 := zv_46_5 hI433 zc_164
                              have b445 := zv_46_97 hI433 zc_164
                              have b446 := zv_46_99 hI433 zc_164
                              have b447 := zv_46_100 hI433 zc_164
                              have b448 := zv_46_101 hI433 zc_164
                              have b449 := zv_46_51 hI433 zc_164
                              have q450 := 0
                              · obtain ⟨u451, u452, u453, u454⟩ := yLo_n g439 hT436 hE437
                                refine zt_aload_n (pc' := 248) hX dX12_qGoesOn_247 rfl rfl ?_
                                refine zt_iconst (pc' := 249) hX dX12_qGoesOn_248 rfl ?_
                                refine zt_cVz (pc' := 252) hX dX12_qGoesOn_249 rfl zm_yX12_qIsOn zw_31_23 zc_164 (by decide) zs_46 (q := (RX12, TX12, 108)) rfl rfl (yc_X12_qIsOn _ _ s432 hI433 3 ⟨by omega, by omega⟩) rfl rfl (Nat.le_of_ble_eq_true rfl) (by decide) (fun r455 s456 hr457 hp458 => ?_)
                                obtain ⟨rfl, q459, q460, z461⟩ := hp458
                                rcases ysps z461 with ⟨rfl, c462⟩ | rfl
                                · clear z461
                                  refine zt_ifne (pc' := 255) (tgt := 279) hX dX12_qGoesOn_252 rfl (by decide) ⟨by omega, by omega⟩ (fun c463 => ?_) (fun c463 => ?_)
                                  · refine zt_aload_n (pc' := 280) hX dX12_qGoesOn_279 rfl rfl ?_
                                    refine zt_cVv (pc' := 283) hX dX12_qGoesOn_280 rfl zm_yX12_qDrops zw_31_4 zc_164 (by decide) zs_46 (q := (RX12, TX12, 108)) rfl rfl (yc_X12_qDrops _ _ s432 hI433 (by omega) (by omega)) rfl rfl (Nat.le_of_ble_eq_true rfl) (by decide) (fun r464 s465 hr466 hp467 => ?_)
                                    obtain ⟨hI468, hF469, z470⟩ := hp467
                                    have hF471 := zOn_tr hF434 hF469 zi_d2
                                    have hT472 := yTq_rk hT436 (yRq_d hF469)
                                    have hE473 : yqs f s465 = p435 := (yqs_rk (yRq_d hF469)).trans hE437
                                    have b474 := zv_46_2 hI468 zc_164
                                    have b475 := zv_46_5 hI468 zc_164
                                    have b476 := zv_46_97 hI468 zc_164
                                    have b477 := zv_46_99 hI468 zc_164
                                    have b478 := zv_46_100 hI468 zc_164
                                    have b479 := zv_46_101 hI468 zc_164
                                    have b480 := zv_46_51 hI468 zc_164
                                    have e481 := hF469 164 2 rfl
                                    have e482 := hF469 164 5 rfl
                                    have e483 := hF469 164 100 rfl
                                    have e484 := hF469 164 101 rfl
                                    have e485 := hF469 164 51 rfl
                                    have lo486 := yLo_d g439 hbl c462.1 c462.2 (by decide) hF469 z470
                                    refine zt_goto (tgt := 247) hX dX12_qGoesOn_283 (by decide) ?_
                                    exact ih442 s465 p435 hI468 hF471 hT472 hE473 (by omega) lo486 (by omega)
                                  · exact absurd c463 (by omega)
                                · clear z461
                                  refine zt_ifne (pc' := 255) (tgt := 279) hX dX12_qGoesOn_252 rfl (by decide) ⟨by omega, by omega⟩ (fun c487 => ?_) (fun c487 => ?_)
                                  · exact absurd c487 (by omega)
                                  · refine zt_aload_n (pc' := 256) hX dX12_qGoesOn_255 rfl rfl ?_
                                    refine zt_iconst (pc' := 257) hX dX12_qGoesOn_256 rfl ?_
                                    refine zt_cVz (pc' := 260) hX dX12_qGoesOn_257 rfl zm_yX12_qIsOn zw_31_23 zc_164 (by decide) zs_46 (q := (RX12, TX12, 108)) rfl rfl (yc_X12_qIsOn _ _ s432 hI433 4 ⟨by omega, by omega⟩) rfl rfl (Nat.le_of_ble_eq_true rfl) (by decide) (fun r488 s489 hr490 hp491 => ?_)
                                    obtain ⟨rfl, q492, q493, z494⟩ := hp491
                                    rcases ysps z494 with ⟨rfl, c495⟩ | rfl
                                    · clear z494
                                      refine zt_ifne (pc' := 263) (tgt := 279) hX dX12_qGoesOn_260 rfl (by decide) ⟨by omega, by omega⟩ (fun c496 => ?_) (fun c496 => ?_)
                                      · refine zt_aload_n (pc' := 280) hX dX12_qGoesOn_279 rfl rfl ?_
                                        refine zt_cVv (pc' := 283) hX dX12_qGoesOn_280 rfl zm_yX12_qDrops zw_31_4 zc_164 (by decide) zs_46 (q := (RX12, TX12, 108)) rfl rfl (yc_X12_qDrops _ _ s432 hI433 (by omega) (by omega)) rfl rfl (Nat.le_of_ble_eq_true rfl) (by decide) (fun r497 s498 hr499 hp500 => ?_)
                                        obtain ⟨hI501, hF502, z503⟩ := hp500
                                        have hF504 := zOn_tr hF434 hF502 zi_d2
                                        have hT505 := yTq_rk hT436 (yRq_d hF502)
                                        have hE506 : yqs f s498 = p435 := (yqs_rk (yRq_d hF502)).trans hE437
                                        have b507 := zv_46_2 hI501 zc_164
                                        have b508 := zv_46_5 hI501 zc_164
                                        have b509 := zv_46_97 hI501 zc_164
                                        have b510 := zv_46_99 hI501 zc_164
                                        have b511 := zv_46_100 hI501 zc_164
                                        have b512 := zv_46_101 hI501 zc_164
                                        have b513 := zv_46_51 hI501 zc_164
                                        have e514 := hF502 164 2 rfl
                                        have e515 := hF502 164 5 rfl
                                        have e516 := hF502 164 100 rfl
                                        have e517 := hF502 164 101 rfl
                                        have e518 := hF502 164 51 rfl
                                        have lo519 := yLo_d g439 hbl c495.1 c495.2 (by decide) hF502 z503
                                        refine zt_goto (tgt := 247) hX dX12_qGoesOn_283 (by decide) ?_
                                        exact ih442 s498 p435 hI501 hF504 hT505 hE506 (by omega) lo519 (by omega)
                                      · exact absurd c496 (by omega)
                                    · clear z494
                                      refine zt_ifne (pc' := 263) (tgt := 279) hX dX12_qGoesOn_260 rfl (by decide) ⟨by omega, by omega⟩ (fun c520 => ?_) (fun c520 => ?_)
                                      · exact absurd c520 (by omega)
                                      · refine zt_aload_n (pc' := 264) hX dX12_qGoesOn_263 rfl rfl ?_
                                        refine zt_iconst (pc' := 265) hX dX12_qGoesOn_264 rfl ?_
                                        refine zt_cVz (pc' := 268) hX dX12_qGoesOn_265 rfl zm_yX12_qIsOn zw_31_23 zc_164 (by decide) zs_46 (q := (RX12, TX12, 108)) rfl rfl (yc_X12_qIsOn _ _ s432 hI433 1 ⟨by omega, by omega⟩) rfl rfl (Nat.le_of_ble_eq_true rfl) (by decide) (fun r521 s522 hr523 hp524 => ?_)
                                        obtain ⟨rfl, q525, q526, z527⟩ := hp524
                                        rcases ysps z527 with ⟨rfl, c528⟩ | rfl
                                        · clear z527
                                          refine zt_ifne (pc' := 271) (tgt := 279) hX dX12_qGoesOn_268 rfl (by decide) ⟨by omega, by omega⟩ (fun c529 => ?_) (fun c529 => ?_)
                                          · refine zt_aload_n (pc' := 280) hX dX12_qGoesOn_279 rfl rfl ?_
                                            refine zt_cVv (pc' := 283) hX dX12_qGoesOn_280 rfl zm_yX12_qDrops zw_31_4 zc_164 (by decide) zs_46 (q := (RX12, TX12, 108)) rfl rfl (yc_X12_qDrops _ _ s432 hI433 (by omega) (by omega)) rfl rfl (Nat.le_of_ble_eq_true rfl) (by decide) (fun r530 s531 hr532 hp533 => ?_)
                                            obtain ⟨hI534, hF535, z536⟩ := hp533
                                            have hF537 := zOn_tr hF434 hF535 zi_d2
                                            have hT538 := yTq_rk hT436 (yRq_d hF535)
                                            have hE539 : yqs f s531 = p435 := (yqs_rk (yRq_d hF535)).trans hE437
                                            have b540 := zv_46_2 hI534 zc_164
                                            have b541 := zv_46_5 hI534 zc_164
                                            have b542 := zv_46_97 hI534 zc_164
                                            have b543 := zv_46_99 hI534 zc_164
                                            have b544 := zv_46_100 hI534 zc_164
                                            have b545 := zv_46_101 hI534 zc_164
                                            have b546 := zv_46_51 hI534 zc_164
                                            have e547 := hF535 164 2 rfl
                                            have e548 := hF535 164 5 rfl
                                            have e549 := hF535 164 100 rfl
                                            have e550 := hF535 164 101 rfl
                                            have e551 := hF535 164 51 rfl
                                            have lo552 := yLo_d g439 hbl c528.1 c528.2 (by decide) hF535 z536
                                            refine zt_goto (tgt := 247) hX dX12_qGoesOn_283 (by decide) ?_
                                            exact ih442 s531 p435 hI534 hF537 hT538 hE539 (by omega) lo552 (by omega)
                                          · exact absurd c529 (by omega)
                                        · clear z527
                                          refine zt_ifne (pc' := 271) (tgt := 279) hX dX12_qGoesOn_268 rfl (by decide) ⟨by omega, by omega⟩ (fun c553 => ?_) (fun c553 => ?_)
                                          · exact absurd c553 (by omega)
                                          · refine zt_aload_n (pc' := 272) hX dX12_qGoesOn_271 rfl rfl ?_
                                            refine zt_iconst (pc' := 273) hX dX12_qGoesOn_272 rfl ?_
                                            refine zt_cVz (pc' := 276) hX dX12_qGoesOn_273 rfl zm_yX12_qIsOn zw_31_23 zc_164 (by decide) zs_46 (q := (RX12, TX12, 108)) rfl rfl (yc_X12_qIsOn _ _ s432 hI433 2 ⟨by omega, by omega⟩) rfl rfl (Nat.le_of_ble_eq_true rfl) (by decide) (fun r554 s555 hr556 hp557 => ?_)
                                            obtain ⟨rfl, q558, q559, z560⟩ := hp557
                                            rcases ysps z560 with ⟨rfl, c561⟩ | rfl
                                            · clear z560
                                              refine zt_ifeq (pc' := 279) (tgt := 286) hX dX12_qGoesOn_276 rfl (by decide) ⟨by omega, by omega⟩ (fun c562 => ?_) (fun c562 => ?_)
                                              · exact absurd c562 (by omega)
                                              · refine zt_aload_n (pc' := 280) hX dX12_qGoesOn_279 rfl rfl ?_
                                                refine zt_cVv (pc' := 283) hX dX12_qGoesOn_280 rfl zm_yX12_qDrops zw_31_4 zc_164 (by decide) zs_46 (q := (RX12, TX12, 108)) rfl rfl (yc_X12_qDrops _ _ s432 hI433 (by omega) (by omega)) rfl rfl (Nat.le_of_ble_eq_true rfl) (by decide) (fun r563 s564 hr565 hp566 => ?_)
                                                obtain ⟨hI567, hF568, z569⟩ := hp566
                                                have hF570 := zOn_tr hF434 hF568 zi_d2
                                                have hT571 := yTq_rk hT436 (yRq_d hF568)
                                                have hE572 : yqs f s564 = p435 := (yqs_rk (yRq_d hF568)).trans hE437
                                                have b573 := zv_46_2 hI567 zc_164
                                                have b574 := zv_46_5 hI567 zc_164
                                                have b575 := zv_46_97 hI567 zc_164
                                                have b576 := zv_46_99 hI567 zc_164
                                                have b577 := zv_46_100 hI567 zc_164
                                                have b578 := zv_46_101 hI567 zc_164
                                                have b579 := zv_46_51 hI567 zc_164
                                                have e580 := hF568 164 2 rfl
                                                have e581 := hF568 164 5 rfl
                                                have e582 := hF568 164 100 rfl
                                                have e583 := hF568 164 101 rfl
                                                have e584 := hF568 164 51 rfl
                                                have lo585 := yLo_d g439 hbl c561.1 c561.2 (by decide) hF568 z569
                                                refine zt_goto (tgt := 247) hX dX12_qGoesOn_283 (by decide) ?_
                                                exact ih442 s564 p435 hI567 hF570 hT571 hE572 (by omega) lo585 (by omega)
                                            · clear z560
                                              refine zt_ifeq (pc' := 279) (tgt := 286) hX dX12_qGoesOn_276 rfl (by decide) ⟨by omega, by omega⟩ (fun c586 => ?_) (fun c586 => ?_)
                                              · refine zt_aload_n (pc' := 287) hX dX12_qGoesOn_286 rfl rfl ?_
                                                refine zt_get (pc' := 290) (v := .ref (X.1.1 + 235)) hX dX12_qGoesOn_287 rfl zf_X12_234 (by decide) zc_164 zs_46 (zrf_of (zv_46_98 hI433 zc_164)) ?_
                                                refine zt_aload_n (pc' := 291) hX dX12_qGoesOn_290 rfl rfl ?_
                                                have b587 := zv_46_99 hI433 zc_164
                                                refine zt_get (pc' := 294) (v := .int (zI (s432 164 99))) hX dX12_qGoesOn_291 rfl zf_X12_333 (by decide) zc_164 zs_46 rfl ?_
                                                refine zt_iload_n (pc' := 295) hX dX12_qGoesOn_294 rfl rfl ?_
                                                refine zt_iast (pc' := 296) hX dX12_qGoesOn_295 rfl (by decide) zc_235 zs_117 (by decide) ⟨by omega, by omega⟩ ?_
                                                generalize hs589 : zset s432 235 ((s432 164 99).toNat) 1 = s588
                                                have hI590 : zInv s588 := hs589 ▸ zp_117 hI433 zc_235 ((s432 164 99).toNat) ⟨by omega, by omega⟩
                                                have hF591 : zOn zQ2 σ s588 := hs589 ▸ zOn_set hF434 (zq2_235 (by omega))
                                                have hT592 := yTq_rk hT436 (yRq_set hs589 zc_235 (by decide))
                                                have hE593 : yqs f s588 = p435 := (yqs_rk (yRq_set hs589 zc_235 (by decide))).trans hE437
                                                have e594 : s588 164 2 = s432 164 2 := by rw [← hs589]; exact zset_k (zne_r zc_164 zc_235 (by decide))
                                                have e595 : s588 164 5 = s432 164 5 := by rw [← hs589]; exact zset_k (zne_r zc_164 zc_235 (by decide))
                                                have e596 : s588 164 97 = s432 164 97 := by rw [← hs589]; exact zset_k (zne_r zc_164 zc_235 (by decide))
                                                have e597 : s588 164 99 = s432 164 99 := by rw [← hs589]; exact zset_k (zne_r zc_164 zc_235 (by decide))
                                                have e598 : s588 164 100 = s432 164 100 := by rw [← hs589]; exact zset_k (zne_r zc_164 zc_235 (by decide))
                                                have e599 : s588 164 101 = s432 164 101 := by rw [← hs589]; exact zset_k (zne_r zc_164 zc_235 (by decide))
                                                have e600 : s588 164 51 = s432 164 51 := by rw [← hs589]; exact zset_k (zne_r zc_164 zc_235 (by decide))
                                                refine zt_aload_n (pc' := 297) hX dX12_qGoesOn_296 rfl rfl ?_
                                                refine zt_dup (pc' := 298) hX dX12_qGoesOn_297 rfl rfl ?_
                                                have b601 := zv_46_99 hI590 zc_164
                                                refine zt_get (pc' := 301) (v := .int (zI (s588 164 99))) hX dX12_qGoesOn_298 rfl zf_X12_333 (by decide) zc_164 zs_46 rfl ?_
                                                refine zt_iconst (pc' := 302) hX dX12_qGoesOn_301 rfl ?_
                                                refine zt_iadd (pc' := 303) hX dX12_qGoesOn_302 rfl ?_
                                                refine zt_put (pc' := 306) (x := ((s588 164 99) + 1)) hX dX12_qGoesOn_303 rfl zf_X12_333 (by decide) zc_164 zs_46 (fun q hq => by cases hq; rfl) rfl rfl rfl ?_
                                                generalize hs603 : zset s588 164 99 ((s588 164 99) + 1) = s602
                                                have hI604 : zInv s602 := hs603 ▸ zp_46_99 hI590 zc_164 ⟨by omega, by omega⟩
                                                have hF605 : zOn zQ2 σ s602 := hs603 ▸ zOn_set hF591 (by decide)
                                                have e606 : s602 164 2 = s588 164 2 := by rw [← hs603]; exact zset_j (by decide)
                                                have e607 : s602 164 5 = s588 164 5 := by rw [← hs603]; exact zset_j (by decide)
                                                have e608 : s602 164 97 = s588 164 97 := by rw [← hs603]; exact zset_j (by decide)
                                                have e609 : s602 164 99 = ((s588 164 99) + 1) := by rw [← hs603]; exact zset_s
                                                have e610 : s602 164 100 = s588 164 100 := by rw [← hs603]; exact zset_j (by decide)
                                                have e611 : s602 164 101 = s588 164 101 := by rw [← hs603]; exact zset_j (by decide)
                                                have e612 : s602 164 51 = s588 164 51 := by rw [← hs603]; exact zset_j (by decide)
                                                have hT613 := yTq_rk hT592 (yRq_j hs603 (by decide))
                                                have hE614 : yqs f s602 = p435 := (yqs_rk (yRq_j hs603 (by decide))).trans hE593
                                                refine zt_iconst (pc' := 307) hX dX12_qGoesOn_306 rfl ?_
                                                exact zt_zret hX hR dX12_qGoesOn_307 ⟨by omega, by omega⟩ ⟨hI604, hF605, by omega, by omega, hT613, (by rw [hE614]; exact Or.inl ⟨rfl, yLo_p g439 hT613 hE614 (by omega) (by decide) hs589 hs603 rfl (by omega)⟩), ⟨by omega, by omega, by omega⟩⟩
                                              · exact absurd c586 (by omega)
                          exact L_247_439 _ s393 (yPx f p11) hI396 hF406 hT400 hE422 (by omega) lo423 (Nat.lt_succ_self _)
                      · exact absurd c427 (by omega)
                    · clear z402
                      have hE615 : yqs f s393 = p11 := hE405.trans (if_neg c421)
                      have u616 := z403 ⟨n419.1.1, rfl⟩
                      have u617 := yHb1 hE615 n419.1.1
                      refine zt_ifne (pc' := 216) (tgt := 225) hX dX12_qGoesOn_213 rfl (by decide) ⟨by omega, by omega⟩ (fun c618 => ?_) (fun c618 => ?_)
                      · exact absurd c618 (by omega)
                      · refine zt_aload_n (pc' := 217) hX dX12_qGoesOn_216 rfl rfl ?_
                        refine zt_bipush (pc' := 219) hX dX12_qGoesOn_217 rfl (by decide) (by decide) ?_
                        refine zt_cVz (pc' := 222) hX dX12_qGoesOn_219 rfl zm_yX12_takesSign zw_27_14 zc_164 (by decide) zs_46 (q := (RX12, TX12, 108)) rfl rfl (yc_X12_takesSign _ _ s393 hI396 45 ⟨by omega, by omega⟩ (by omega) f hT400) rfl rfl (Nat.le_of_ble_eq_true rfl) (by decide) (fun r619 s620 hr621 hp622 => ?_)
                        obtain ⟨hI623, hF624, q625, q626, hT627, z628, z629, z630, z631⟩ := hp622
                        have hE632 : yqs f s620 = yPu f 45 p11 := by rw [z628, hE615]
                        rw [hE615] at z629
                        rw [hE615] at z630
                        have hF633 := zOn_tr hF406 hF624 zi_12
                        have b634 := zv_46_2 hI623 zc_164
                        have b635 := zv_46_5 hI623 zc_164
                        have b636 := zv_46_97 hI623 zc_164
                        have b637 := zv_46_99 hI623 zc_164
                        have b638 := zv_46_100 hI623 zc_164
                        have b639 := zv_46_101 hI623 zc_164
                        have b640 := zv_46_51 hI623 zc_164
                        have e641 := hF624 164 97 rfl
                        have e642 := hF624 164 99 rfl
                        have e643 := hF624 164 100 rfl
                        have e644 := hF624 164 101 rfl
                        have e645 := hF624 164 51 rfl
                        have n646 := yLn_fr n419 hF624
                        have y647 : ybs s620 = ybs s393 := ybs_fr hF624
                        replace z630 : yIm _ _ := z630
                        replace z631 : yIm _ _ := z631
                        rcases yspl z629 with ⟨rfl, c648⟩ | ⟨rfl, c648⟩
                        · clear z629
                          have hE649 : yqs f s620 = yPx f p11 := hE632.trans (if_pos c648)
                          have lo650 := yLo_0 n646 hT12 hE13 h4 (Or.inr (Or.inr (Or.inr c648)))
                          have u651 := yHb1 hE649 lo650.1
                          obtain ⟨w652, w653⟩ := z631 rfl
                          refine zt_ifeq (pc' := 225) (tgt := 308) hX dX12_qGoesOn_222 rfl (by decide) ⟨by omega, by omega⟩ (fun c654 => ?_) (fun c654 => ?_)
                          · exact absurd c654 (by omega)
                          · refine zt_aload_n (pc' := 226) hX dX12_qGoesOn_225 rfl rfl ?_
                            refine zt_get (pc' := 229) (v := .ref (X.1.1 + 165)) hX dX12_qGoesOn_226 rfl zf_X12_7 (by decide) zc_164 zs_46 (zrf_of (zv_46_0 hI623 zc_164)) ?_
                            refine zt_aload_n (pc' := 230) hX dX12_qGoesOn_229 rfl rfl ?_
                            have b655 := zv_46_2 hI623 zc_164
                            refine zt_get (pc' := 233) (v := .int (zI (s620 164 2))) hX dX12_qGoesOn_230 rfl zf_X12_252 (by decide) zc_164 zs_46 rfl ?_
                            refine zt_iconst (pc' := 234) hX dX12_qGoesOn_233 rfl ?_
                            refine zt_isub (pc' := 235) hX dX12_qGoesOn_234 rfl ?_
                            refine zt_iald (pc' := 236) hX dX12_qGoesOn_235 rfl (by decide) zc_165 zs_47 (by decide) ⟨by omega, by omega⟩ ?_
                            generalize hv656 : s620 165 (((s620 164 2) - 1).toNat) = v656
                            have bv656 : 0 ≤ v656 ∧ v656 ≤ 255 := hv656 ▸ zv_47 hI623 zc_165 _
                            have u657 : v656 = 45 := hv656.symm.trans w653
                            refine zt_bipush (pc' := 238) hX dX12_qGoesOn_236 rfl (by decide) (by decide) ?_
                            refine zt_icne (pc' := 241) (tgt := 245) hX dX12_qGoesOn_238 rfl (by decide) ⟨by omega, by omega⟩ ⟨by omega, by omega⟩ (fun c658 => ?_) (fun c658 => ?_)
                            · refine zt_iconst (pc' := 246) hX dX12_qGoesOn_245 rfl ?_
                              refine zt_istore_n (pc' := 247) (lv' := [some (.ref (X.1.1 + 164)), some (.int (zI 2))]) hX dX12_qGoesOn_246 rfl hL (by decide) rfl ?_
                              have L_247_666 : ∀ (N : Nat) (s659 : zSto) (p662 : yP), zInv s659 → zOn zQ2 σ s659 → yTq f s659 → yqs f s659 = p662 → (s659 164 97 + s659 164 99 ≤ 1640 ∧ -1800 ≤ s659 164 100 ∧ s659 164 100 ≤ 10) → yLo cb rl f k (2, ystk k σ, yqs f σ) σ s659 p662 → ((s659 164 99).toNat) < N → zF X s659 247 [some (.ref (X.1.1 + 164)), some (.int (zI 2))] [] := by
                                intro N
                                induction N with
                                | zero =>
                                  intro s659 p662 hI660 hF661 hT663 hE664 g665 g666 hm668
                                  exact absurd hm668 (Nat.not_lt_zero _)
                                | succ N ih669 =>
                                  intro s659 p662 hI660 hF661 hT663 hE664 g665 g666 hm668
                                  have b670 := zv_46_2 hI660 zc_164
                                  have b671 := zv_46_5 hI660 zc_164
                                  have b672 := zv_46_97 hI660 zc_164
                                  have b673 := zv_46_99 hI660 zc_164
                                  have b674 := zv_46_100 hI660 zc_164
                                  have b675 := zv_46_101 hI660 zc_164
                                  have b676 := zv_46_51 hI660 zc_164
                                  have q677 := 0
                                  · obtain ⟨u678, u679, u680, u681⟩ := yLo_n g666 hT663 hE664
                                    refine zt_aload_n (pc' := 248) hX dX12_qGoesOn_247 rfl rfl ?_
                                    refine zt_iconst (pc' := 249) hX dX12_qGoesOn_248 rfl ?_
                                    refine zt_cVz (pc' := 252) hX dX12_qGoesOn_249 rfl zm_yX12_qIsOn zw_31_23 zc_164 (by decide) zs_46 (q := (RX12, TX12, 108)) rfl rfl (yc_X12_qIsOn _ _ s659 hI660 3 ⟨by omega, by omega⟩) rfl rfl (Nat.le_of_ble_eq_true rfl) (by decide) (fun r682 s683 hr684 hp685 => ?_)
                                    obtain ⟨rfl, q686, q687, z688⟩ := hp685
                                    rcases ysps z688 with ⟨rfl, c689⟩ | rfl
                                    · clear z688
                                      refine zt_ifne (pc' := 255) (tgt := 279) hX dX12_qGoesOn_252 rfl (by decide) ⟨by omega, by omega⟩ (fun c690 => ?_) (fun c690 => ?_)
                                      · refine zt_aload_n (pc' := 280) hX dX12_qGoesOn_279 rfl rfl ?_
                                        refine zt_cVv (pc' := 283) hX dX12_qGoesOn_280 rfl zm_yX12_qDrops zw_31_4 zc_164 (by decide) zs_46 (q := (RX12, TX12, 108)) rfl rfl (yc_X12_qDrops _ _ s659 hI660 (by omega) (by omega)) rfl rfl (Nat.le_of_ble_eq_true rfl) (by decide) (fun r691 s692 hr693 hp694 => ?_)
                                        obtain ⟨hI695, hF696, z697⟩ := hp694
                                        have hF698 := zOn_tr hF661 hF696 zi_d2
                                        have hT699 := yTq_rk hT663 (yRq_d hF696)
                                        have hE700 : yqs f s692 = p662 := (yqs_rk (yRq_d hF696)).trans hE664
                                        have b701 := zv_46_2 hI695 zc_164
                                        have b702 := zv_46_5 hI695 zc_164
                                        have b703 := zv_46_97 hI695 zc_164
                                        have b704 := zv_46_99 hI695 zc_164
                                        have b705 := zv_46_100 hI695 zc_164
                                        have b706 := zv_46_101 hI695 zc_164
                                        have b707 := zv_46_51 hI695 zc_164
                                        have e708 := hF696 164 2 rfl
                                        have e709 := hF696 164 5 rfl
                                        have e710 := hF696 164 100 rfl
                                        have e711 := hF696 164 101 rfl
                                        have e712 := hF696 164 51 rfl
                                        have lo713 := yLo_d g666 hbl c689.1 c689.2 (by decide) hF696 z697
                                        refine zt_goto (tgt := 247) hX dX12_qGoesOn_283 (by decide) ?_
                                        exact ih669 s692 p662 hI695 hF698 hT699 hE700 (by omega) lo713 (by omega)
                                      · exact absurd c690 (by omega)
                                    · clear z688
                                      refine zt_ifne (pc' := 255) (tgt := 279) hX dX12_qGoesOn_252 rfl (by decide) ⟨by omega, by omega⟩ (fun c714 => ?_) (fun c714 => ?_)
                                      · exact absurd c714 (by omega)
                                      · refine zt_aload_n (pc' := 256) hX dX12_qGoesOn_255 rfl rfl ?_
                                        refine zt_iconst (pc' := 257) hX dX12_qGoesOn_256 rfl ?_
                                        refine zt_cVz (pc' := 260) hX dX12_qGoesOn_257 rfl zm_yX12_qIsOn zw_31_23 zc_164 (by decide) zs_46 (q := (RX12, TX12, 108)) rfl rfl (yc_X12_qIsOn _ _ s659 hI660 4 ⟨by omega, by omega⟩) rfl rfl (Nat.le_of_ble_eq_true rfl) (by decide) (fun r715 s716 hr717 hp718 => ?_)
                                        obtain ⟨rfl, q719, q720, z721⟩ := hp718
                                        rcases ysps z721 with ⟨rfl, c722⟩ | rfl
                                        · clear z721
                                          refine zt_ifne (pc' := 263) (tgt := 279) hX dX12_qGoesOn_260 rfl (by decide) ⟨by omega, by omega⟩ (fun c723 => ?_) (fun c723 => ?_)
                                          · refine zt_aload_n (pc' := 280) hX dX12_qGoesOn_279 rfl rfl ?_
                                            refine zt_cVv (pc' := 283) hX dX12_qGoesOn_280 rfl zm_yX12_qDrops zw_31_4 zc_164 (by decide) zs_46 (q := (RX12, TX12, 108)) rfl rfl (yc_X12_qDrops _ _ s659 hI660 (by omega) (by omega)) rfl rfl (Nat.le_of_ble_eq_true rfl) (by decide) (fun r724 s725 hr726 hp727 => ?_)
                                            obtain ⟨hI728, hF729, z730⟩ := hp727
                                            have hF731 := zOn_tr hF661 hF729 zi_d2
                                            have hT732 := yTq_rk hT663 (yRq_d hF729)
                                            have hE733 : yqs f s725 = p662 := (yqs_rk (yRq_d hF729)).trans hE664
                                            have b734 := zv_46_2 hI728 zc_164
                                            have b735 := zv_46_5 hI728 zc_164
                                            have b736 := zv_46_97 hI728 zc_164
                                            have b737 := zv_46_99 hI728 zc_164
                                            have b738 := zv_46_100 hI728 zc_164
                                            have b739 := zv_46_101 hI728 zc_164
                                            have b740 := zv_46_51 hI728 zc_164
                                            have e741 := hF729 164 2 rfl
                                            have e742 := hF729 164 5 rfl
                                            have e743 := hF729 164 100 rfl
                                            have e744 := hF729 164 101 rfl
                                            have e745 := hF729 164 51 rfl
                                            have lo746 := yLo_d g666 hbl c722.1 c722.2 (by decide) hF729 z730
                                            refine zt_goto (tgt := 247) hX dX12_qGoesOn_283 (by decide) ?_
                                            exact ih669 s725 p662 hI728 hF731 hT732 hE733 (by omega) lo746 (by omega)
                                          · exact absurd c723 (by omega)
                                        · clear z721
                                          refine zt_ifne (pc' := 263) (tgt := 279) hX dX12_qGoesOn_260 rfl (by decide) ⟨by omega, by omega⟩ (fun c747 => ?_) (fun c747 => ?_)
                                          · exact absurd c747 (by omega)
                                          · refine zt_aload_n (pc' := 264) hX dX12_qGoesOn_263 rfl rfl ?_
                                            refine zt_iconst (pc' := 265) hX dX12_qGoesOn_264 rfl ?_
                                            refine zt_cVz (pc' := 268) hX dX12_qGoesOn_265 rfl zm_yX12_qIsOn zw_31_23 zc_164 (by decide) zs_46 (q := (RX12, TX12, 108)) rfl rfl (yc_X12_qIsOn _ _ s659 hI660 1 ⟨by omega, by omega⟩) rfl rfl (Nat.le_of_ble_eq_true rfl) (by decide) (fun r748 s749 hr750 hp751 => ?_)
                                            obtain ⟨rfl, q752, q753, z754⟩ := hp751
                                            rcases ysps z754 with ⟨rfl, c755⟩ | rfl
                                            · clear z754
                                              refine zt_ifne (pc' := 271) (tgt := 279) hX dX12_qGoesOn_268 rfl (by decide) ⟨by omega, by omega⟩ (fun c756 => ?_) (fun c756 => ?_)
                                              · refine zt_aload_n (pc' := 280) hX dX12_qGoesOn_279 rfl rfl ?_
                                                refine zt_cVv (pc' := 283) hX dX12_qGoesOn_280 rfl zm_yX12_qDrops zw_31_4 zc_164 (by decide) zs_46 (q := (RX12, TX12, 108)) rfl rfl (yc_X12_qDrops _ _ s659 hI660 (by omega) (by omega)) rfl rfl (Nat.le_of_ble_eq_true rfl) (by decide) (fun r757 s758 hr759 hp760 => ?_)
                                                obtain ⟨hI761, hF762, z763⟩ := hp760
                                                have hF764 := zOn_tr hF661 hF762 zi_d2
                                                have hT765 := yTq_rk hT663 (yRq_d hF762)
                                                have hE766 : yqs f s758 = p662 := (yqs_rk (yRq_d hF762)).trans hE664
                                                have b767 := zv_46_2 hI761 zc_164
                                                have b768 := zv_46_5 hI761 zc_164
                                                have b769 := zv_46_97 hI761 zc_164
                                                have b770 := zv_46_99 hI761 zc_164
                                                have b771 := zv_46_100 hI761 zc_164
                                                have b772 := zv_46_101 hI761 zc_164
                                                have b773 := zv_46_51 hI761 zc_164
                                                have e774 := hF762 164 2 rfl
                                                have e775 := hF762 164 5 rfl
                                                have e776 := hF762 164 100 rfl
                                                have e777 := hF762 164 101 rfl
                                                have e778 := hF762 164 51 rfl
                                                have lo779 := yLo_d g666 hbl c755.1 c755.2 (by decide) hF762 z763
                                                refine zt_goto (tgt := 247) hX dX12_qGoesOn_283 (by decide) ?_
                                                exact ih669 s758 p662 hI761 hF764 hT765 hE766 (by omega) lo779 (by omega)
                                              · exact absurd c756 (by omega)
                                            · clear z754
                                              refine zt_ifne (pc' := 271) (tgt := 279) hX dX12_qGoesOn_268 rfl (by decide) ⟨by omega, by omega⟩ (fun c780 => ?_) (fun c780 => ?_)
                                              · exact absurd c780 (by omega)
                                              · refine zt_aload_n (pc' := 272) hX dX12_qGoesOn_271 rfl rfl ?_
                                                refine zt_iconst (pc' := 273) hX dX12_qGoesOn_272 rfl ?_
                                                refine zt_cVz (pc' := 276) hX dX12_qGoesOn_273 rfl zm_yX12_qIsOn zw_31_23 zc_164 (by decide) zs_46 (q := (RX12, TX12, 108)) rfl rfl (yc_X12_qIsOn _ _ s659 hI660 2 ⟨by omega, by omega⟩) rfl rfl (Nat.le_of_ble_eq_true rfl) (by decide) (fun r781 s782 hr783 hp784 => ?_)
                                                obtain ⟨rfl, q785, q786, z787⟩ := hp784
                                                rcases ysps z787 with ⟨rfl, c788⟩ | rfl
                                                · clear z787
                                                  refine zt_ifeq (pc' := 279) (tgt := 286) hX dX12_qGoesOn_276 rfl (by decide) ⟨by omega, by omega⟩ (fun c789 => ?_) (fun c789 => ?_)
                                                  · exact absurd c789 (by omega)
                                                  · refine zt_aload_n (pc' := 280) hX dX12_qGoesOn_279 rfl rfl ?_
                                                    refine zt_cVv (pc' := 283) hX dX12_qGoesOn_280 rfl zm_yX12_qDrops zw_31_4 zc_164 (by decide) zs_46 (q := (RX12, TX12, 108)) rfl rfl (yc_X12_qDrops _ _ s659 hI660 (by omega) (by omega)) rfl rfl (Nat.le_of_ble_eq_true rfl) (by decide) (fun r790 s791 hr792 hp793 => ?_)
                                                    obtain ⟨hI794, hF795, z796⟩ := hp793
                                                    have hF797 := zOn_tr hF661 hF795 zi_d2
                                                    have hT798 := yTq_rk hT663 (yRq_d hF795)
                                                    have hE799 : yqs f s791 = p662 := (yqs_rk (yRq_d hF795)).trans hE664
                                                    have b800 := zv_46_2 hI794 zc_164
                                                    have b801 := zv_46_5 hI794 zc_164
                                                    have b802 := zv_46_97 hI794 zc_164
                                                    have b803 := zv_46_99 hI794 zc_164
                                                    have b804 := zv_46_100 hI794 zc_164
                                                    have b805 := zv_46_101 hI794 zc_164
                                                    have b806 := zv_46_51 hI794 zc_164
                                                    have e807 := hF795 164 2 rfl
                                                    have e808 := hF795 164 5 rfl
                                                    have e809 := hF795 164 100 rfl
                                                    have e810 := hF795 164 101 rfl
                                                    have e811 := hF795 164 51 rfl
                                                    have lo812 := yLo_d g666 hbl c788.1 c788.2 (by decide) hF795 z796
                                                    refine zt_goto (tgt := 247) hX dX12_qGoesOn_283 (by decide) ?_
                                                    exact ih669 s791 p662 hI794 hF797 hT798 hE799 (by omega) lo812 (by omega)
                                                · clear z787
                                                  refine zt_ifeq (pc' := 279) (tgt := 286) hX dX12_qGoesOn_276 rfl (by decide) ⟨by omega, by omega⟩ (fun c813 => ?_) (fun c813 => ?_)
                                                  · refine zt_aload_n (pc' := 287) hX dX12_qGoesOn_286 rfl rfl ?_
                                                    refine zt_get (pc' := 290) (v := .ref (X.1.1 + 235)) hX dX12_qGoesOn_287 rfl zf_X12_234 (by decide) zc_164 zs_46 (zrf_of (zv_46_98 hI660 zc_164)) ?_
                                                    refine zt_aload_n (pc' := 291) hX dX12_qGoesOn_290 rfl rfl ?_
                                                    have b814 := zv_46_99 hI660 zc_164
                                                    refine zt_get (pc' := 294) (v := .int (zI (s659 164 99))) hX dX12_qGoesOn_291 rfl zf_X12_333 (by decide) zc_164 zs_46 rfl ?_
                                                    refine zt_iload_n (pc' := 295) hX dX12_qGoesOn_294 rfl rfl ?_
                                                    refine zt_iast (pc' := 296) hX dX12_qGoesOn_295 rfl (by decide) zc_235 zs_117 (by decide) ⟨by omega, by omega⟩ ?_
                                                    generalize hs816 : zset s659 235 ((s659 164 99).toNat) 2 = s815
                                                    have hI817 : zInv s815 := hs816 ▸ zp_117 hI660 zc_235 ((s659 164 99).toNat) ⟨by omega, by omega⟩
                                                    have hF818 : zOn zQ2 σ s815 := hs816 ▸ zOn_set hF661 (zq2_235 (by omega))
                                                    have hT819 := yTq_rk hT663 (yRq_set hs816 zc_235 (by decide))
                                                    have hE820 : yqs f s815 = p662 := (yqs_rk (yRq_set hs816 zc_235 (by decide))).trans hE664
                                                    have e821 : s815 164 2 = s659 164 2 := by rw [← hs816]; exact zset_k (zne_r zc_164 zc_235 (by decide))
                                                    have e822 : s815 164 5 = s659 164 5 := by rw [← hs816]; exact zset_k (zne_r zc_164 zc_235 (by decide))
                                                    have e823 : s815 164 97 = s659 164 97 := by rw [← hs816]; exact zset_k (zne_r zc_164 zc_235 (by decide))
                                                    have e824 : s815 164 99 = s659 164 99 := by rw [← hs816]; exact zset_k (zne_r zc_164 zc_235 (by decide))
                                                    have e825 : s815 164 100 = s659 164 100 := by rw [← hs816]; exact zset_k (zne_r zc_164 zc_235 (by decide))
                                                    have e826 : s815 164 101 = s659 164 101 := by rw [← hs816]; exact zset_k (zne_r zc_164 zc_235 (by decide))
                                                    have e827 : s815 164 51 = s659 164 51 := by rw [← hs816]; exact zset_k (zne_r zc_164 zc_235 (by decide))
                                                    refine zt_aload_n (pc' := 297) hX dX12_qGoesOn_296 rfl rfl ?_
                                                    refine zt_dup (pc' := 298) hX dX12_qGoesOn_297 rfl rfl ?_
                                                    have b828 := zv_46_99 hI817 zc_164
                                                    refine zt_get (pc' := 301) (v := .int (zI (s815 164 99))) hX dX12_qGoesOn_298 rfl zf_X12_333 (by decide) zc_164 zs_46 rfl ?_
                                                    refine zt_iconst (pc' := 302) hX dX12_qGoesOn_301 rfl ?_
                                                    refine zt_iadd (pc' := 303) hX dX12_qGoesOn_302 rfl ?_
                                                    refine zt_put (pc' := 306) (x := ((s815 164 99) + 1)) hX dX12_qGoesOn_303 rfl zf_X12_333 (by decide) zc_164 zs_46 (fun q hq => by cases hq; rfl) rfl rfl rfl ?_
                                                    generalize hs830 : zset s815 164 99 ((s815 164 99) + 1) = s829
                                                    have hI831 : zInv s829 := hs830 ▸ zp_46_99 hI817 zc_164 ⟨by omega, by omega⟩
                                                    have hF832 : zOn zQ2 σ s829 := hs830 ▸ zOn_set hF818 (by decide)
                                                    have e833 : s829 164 2 = s815 164 2 := by rw [← hs830]; exact zset_j (by decide)
                                                    have e834 : s829 164 5 = s815 164 5 := by rw [← hs830]; exact zset_j (by decide)
                                                    have e835 : s829 164 97 = s815 164 97 := by rw [← hs830]; exact zset_j (by decide)
                                                    have e836 : s829 164 99 = ((s815 164 99) + 1) := by rw [← hs830]; exact zset_s
                                                    have e837 : s829 164 100 = s815 164 100 := by rw [← hs830]; exact zset_j (by decide)
                                                    have e838 : s829 164 101 = s815 164 101 := by rw [← hs830]; exact zset_j (by decide)
                                                    have e839 : s829 164 51 = s815 164 51 := by rw [← hs830]; exact zset_j (by decide)
                                                    have hT840 := yTq_rk hT819 (yRq_j hs830 (by decide))
                                                    have hE841 : yqs f s829 = p662 := (yqs_rk (yRq_j hs830 (by decide))).trans hE820
                                                    refine zt_iconst (pc' := 307) hX dX12_qGoesOn_306 rfl ?_
                                                    exact zt_zret hX hR dX12_qGoesOn_307 ⟨by omega, by omega⟩ ⟨hI831, hF832, by omega, by omega, hT840, (by rw [hE841]; exact Or.inl ⟨rfl, yLo_p g666 hT840 hE841 (by omega) (by decide) hs816 hs830 rfl (by omega)⟩), ⟨by omega, by omega, by omega⟩⟩
                                                  · exact absurd c813 (by omega)
                              exact L_247_666 _ s620 (yPx f p11) hI623 hF633 hT627 hE649 (by omega) lo650 (Nat.lt_succ_self _)
                            · exact absurd c658 (by omega)
                        · clear z629
                          have hE842 : yqs f s620 = p11 := hE632.trans (if_neg c648)
                          have u843 := z630 ⟨n646.1.1, rfl⟩
                          have u844 := yHb1 hE842 n646.1.1
                          refine zt_ifeq (pc' := 225) (tgt := 308) hX dX12_qGoesOn_222 rfl (by decide) ⟨by omega, by omega⟩ (fun c845 => ?_) (fun c845 => ?_)
                          · refine zt_aload_n (pc' := 309) hX dX12_qGoesOn_308 rfl rfl ?_
                            refine zt_cVi (pc' := 312) hX dX12_qGoesOn_309 rfl zm_yX12_qBracket zw_31_12 zc_164 (by decide) zs_46 (q := (RX12, TX12, 108)) rfl rfl (yc_X12_qBracket _ _ s620 hI623 (by omega)) rfl rfl (Nat.le_of_ble_eq_true rfl) (by decide) (fun r846 s847 hr848 hp849 => ?_)
                            obtain ⟨rfl, q850, q851, z852⟩ := hp849
                            have y853 : r846 = ybs s620 := z852
                            clear z852
                            refine zt_bipush (pc' := 314) hX dX12_qGoesOn_312 rfl (by decide) (by decide) ?_
                            refine zt_iceq (pc' := 317) (tgt := 326) hX dX12_qGoesOn_314 rfl (by decide) ⟨by omega, by omega⟩ ⟨by omega, by omega⟩ (fun c854 => ?_) (fun c854 => ?_)
                            · refine zt_aload_n (pc' := 327) hX dX12_qGoesOn_326 rfl rfl ?_
                              refine zt_bipush (pc' := 329) hX dX12_qGoesOn_327 rfl (by decide) (by decide) ?_
                              refine zt_cVv (pc' := 332) hX dX12_qGoesOn_329 rfl zm_yX12_asksSign zw_27_10 zc_164 (by decide) zs_46 (q := (RX12, TX12, 108)) rfl rfl (yc_X12_asksSign _ _ s620 hI623 44 ⟨by omega, by omega⟩ (by omega) f hT627) rfl rfl (Nat.le_of_ble_eq_true rfl) (by decide) (fun r855 s856 hr857 hp858 => ?_)
                              obtain ⟨hI859, hF860, hT861, z862⟩ := hp858
                              have hE863 : yqs f s856 = yPs f 44 p11 := by rw [z862, hE842]
                              have hF864 := zOn_tr hF633 hF860 zi_12
                              have b865 := zv_46_2 hI859 zc_164
                              have b866 := zv_46_5 hI859 zc_164
                              have b867 := zv_46_97 hI859 zc_164
                              have b868 := zv_46_99 hI859 zc_164
                              have b869 := zv_46_100 hI859 zc_164
                              have b870 := zv_46_101 hI859 zc_164
                              have b871 := zv_46_51 hI859 zc_164
                              have e872 := hF860 164 97 rfl
                              have e873 := hF860 164 99 rfl
                              have e874 := hF860 164 100 rfl
                              have e875 := hF860 164 101 rfl
                              have e876 := hF860 164 51 rfl
                              have n877 := yLn_fr n646 hF860
                              have y878 : ybs s856 = ybs s620 := ybs_fr hF860
                              refine zt_aload_n (pc' := 333) hX dX12_qGoesOn_332 rfl rfl ?_
                              have b879 := zv_46_5 hI859 zc_164
                              refine zt_get (pc' := 336) (v := .int (zI (s856 164 5))) hX dX12_qGoesOn_333 rfl zf_X12_246 (by decide) zc_164 zs_46 rfl ?_
                              refine zt_ifeq (pc' := 339) (tgt := 341) hX dX12_qGoesOn_336 rfl (by decide) ⟨by omega, by omega⟩ (fun c880 => ?_) (fun c880 => ?_)
                              · have g881 := yPs_k ((yHb hT861 hE863).1 (by omega))
                                have hE882 : yqs f s856 = yPx f p11 := hE863.trans (if_pos g881)
                                refine zt_aload_n (pc' := 342) hX dX12_qGoesOn_341 rfl rfl ?_
                                refine zt_cVv (pc' := 345) hX dX12_qGoesOn_342 rfl zm_yX12_qDropsToBracket zw_31_19 zc_164 (by decide) zs_46 (q := (RX12, TX12, 108)) rfl rfl (yc_X12_qDropsToBracket _ _ s856 hI859 (by omega) (by omega)) rfl rfl (Nat.le_of_ble_eq_true rfl) (by decide) (fun r883 s884 hr885 hp886 => ?_)
                                obtain ⟨hI887, hF888, z889, z890, z891⟩ := hp886
                                have hF892 := zOn_tr hF864 hF888 zi_d2
                                have hT893 := yTq_rk hT861 (yRq_d hF888)
                                have hE894 : yqs f s884 = yPx f p11 := (yqs_rk (yRq_d hF888)).trans hE882
                                have b895 := zv_46_2 hI887 zc_164
                                have b896 := zv_46_5 hI887 zc_164
                                have b897 := zv_46_97 hI887 zc_164
                                have b898 := zv_46_99 hI887 zc_164
                                have b899 := zv_46_100 hI887 zc_164
                                have b900 := zv_46_101 hI887 zc_164
                                have b901 := zv_46_51 hI887 zc_164
                                have e902 := hF888 164 2 rfl
                                have e903 := hF888 164 5 rfl
                                have e904 := hF888 164 100 rfl
                                have e905 := hF888 164 101 rfl
                                have e906 := hF888 164 51 rfl
                                have tp907 := yTopb (c := 21) n877 ⟨by omega, by omega⟩ z890 z891 (by omega) (by decide)
                                clear z891
                                obtain ⟨t908, t909, t910⟩ := tp907
                                refine zt_aload_n (pc' := 346) hX dX12_qGoesOn_345 rfl rfl ?_
                                refine zt_get (pc' := 349) (v := .ref (X.1.1 + 235)) hX dX12_qGoesOn_346 rfl zf_X12_234 (by decide) zc_164 zs_46 (zrf_of (zv_46_98 hI887 zc_164)) ?_
                                refine zt_aload_n (pc' := 350) hX dX12_qGoesOn_349 rfl rfl ?_
                                have b911 := zv_46_99 hI887 zc_164
                                refine zt_get (pc' := 353) (v := .int (zI (s884 164 99))) hX dX12_qGoesOn_350 rfl zf_X12_333 (by decide) zc_164 zs_46 rfl ?_
                                refine zt_iconst (pc' := 354) hX dX12_qGoesOn_353 rfl ?_
                                refine zt_isub (pc' := 355) hX dX12_qGoesOn_354 rfl ?_
                                refine zt_dup2 (pc' := 356) hX dX12_qGoesOn_355 rfl rfl rfl ?_
                                refine zt_iald (pc' := 357) hX dX12_qGoesOn_356 rfl (by decide) zc_235 zs_117 (by decide) ⟨by omega, by omega⟩ ?_
                                generalize hv912 : s884 235 (((s884 164 99) - 1).toNat) = v912
                                have bv912 : -2147483648 ≤ v912 ∧ v912 ≤ 2147483647 := hv912 ▸ zv_117 hI887 zc_235 _
                                have u913 : v912 = 21 := hv912.symm.trans ((hF888 235 _ rfl).trans t909)
                                refine zt_iconst (pc' := 358) hX dX12_qGoesOn_357 rfl ?_
                                refine zt_iadd (pc' := 359) hX dX12_qGoesOn_358 rfl ?_
                                refine zt_wrap (fun r914 zr914 lr914 ur914 => ?_)
                                replace zr914 := ywr_eq zr914
                                refine zt_iast (pc' := 360) hX dX12_qGoesOn_359 rfl (by decide) zc_235 zs_117 (by decide) ⟨by omega, by omega⟩ ?_
                                generalize hs916 : zset s884 235 (((s884 164 99) - 1).toNat) r914 = s915
                                have hI917 : zInv s915 := hs916 ▸ zp_117 hI887 zc_235 (((s884 164 99) - 1).toNat) ⟨by omega, by omega⟩
                                have hF918 : zOn zQ2 σ s915 := hs916 ▸ zOn_set hF892 (zq2_235 (by omega))
                                have hT919 := yTq_rk hT893 (yRq_set hs916 zc_235 (by decide))
                                have hE920 : yqs f s915 = yPx f p11 := (yqs_rk (yRq_set hs916 zc_235 (by decide))).trans hE894
                                have e921 : s915 164 2 = s884 164 2 := by rw [← hs916]; exact zset_k (zne_r zc_164 zc_235 (by decide))
                                have e922 : s915 164 5 = s884 164 5 := by rw [← hs916]; exact zset_k (zne_r zc_164 zc_235 (by decide))
                                have e923 : s915 164 97 = s884 164 97 := by rw [← hs916]; exact zset_k (zne_r zc_164 zc_235 (by decide))
                                have e924 : s915 164 99 = s884 164 99 := by rw [← hs916]; exact zset_k (zne_r zc_164 zc_235 (by decide))
                                have e925 : s915 164 100 = s884 164 100 := by rw [← hs916]; exact zset_k (zne_r zc_164 zc_235 (by decide))
                                have e926 : s915 164 101 = s884 164 101 := by rw [← hs916]; exact zset_k (zne_r zc_164 zc_235 (by decide))
                                have e927 : s915 164 51 = s884 164 51 := by rw [← hs916]; exact zset_k (zne_r zc_164 zc_235 (by decide))
                                refine zt_iconst (pc' := 361) hX dX12_qGoesOn_360 rfl ?_
                                exact zt_zret hX hR dX12_qGoesOn_361 ⟨by omega, by omega⟩ ⟨hI917, hF918, by omega, by omega, hT919, (by rw [hE920]; exact Or.inl ⟨rfl, yComma (c := 21) n877 hT12 hE13 g881 (by decide) z890 ⟨by omega, t909, by omega⟩ ⟨by omega, by omega⟩ hF888 (by omega) hs916 (by first | rfl | omega) (by omega)⟩), ⟨by omega, by omega, by omega⟩⟩
                              · refine zt_iconst (pc' := 340) hX dX12_qGoesOn_339 rfl ?_
                                exact zt_zret hX hR dX12_qGoesOn_340 ⟨by omega, by omega⟩ ⟨hI859, hF864, by omega, by omega, hT861, (by rw [hE863]; exact yGon_f (yCommf n877 (by omega) ⟨c99, c260, c421, c648⟩ ((yHb hT861 hE863).2 (by omega)))), ⟨by omega, by omega, by omega⟩⟩
                            · refine zt_aload_n (pc' := 318) hX dX12_qGoesOn_317 rfl rfl ?_
                              refine zt_cVi (pc' := 321) hX dX12_qGoesOn_318 rfl zm_yX12_qBracket zw_31_12 zc_164 (by decide) zs_46 (q := (RX12, TX12, 108)) rfl rfl (yc_X12_qBracket _ _ s620 hI623 (by omega)) rfl rfl (Nat.le_of_ble_eq_true rfl) (by decide) (fun r928 s929 hr930 hp931 => ?_)
                              obtain ⟨rfl, q932, q933, z934⟩ := hp931
                              have y935 : r928 = ybs s620 := z934
                              clear z934
                              refine zt_bipush (pc' := 323) hX dX12_qGoesOn_321 rfl (by decide) (by decide) ?_
                              refine zt_icne (pc' := 326) (tgt := 362) hX dX12_qGoesOn_323 rfl (by decide) ⟨by omega, by omega⟩ ⟨by omega, by omega⟩ (fun c936 => ?_) (fun c936 => ?_)
                              · refine zt_aload_n (pc' := 363) hX dX12_qGoesOn_362 rfl rfl ?_
                                refine zt_cVi (pc' := 366) hX dX12_qGoesOn_363 rfl zm_yX12_qBracket zw_31_12 zc_164 (by decide) zs_46 (q := (RX12, TX12, 108)) rfl rfl (yc_X12_qBracket _ _ s620 hI623 (by omega)) rfl rfl (Nat.le_of_ble_eq_true rfl) (by decide) (fun r937 s938 hr939 hp940 => ?_)
                                obtain ⟨rfl, q941, q942, z943⟩ := hp940
                                have y944 : r937 = ybs s620 := z943
                                clear z943
                                refine zt_iconst (pc' := 367) hX dX12_qGoesOn_366 rfl ?_
                                refine zt_iceq (pc' := 370) (tgt := 386) hX dX12_qGoesOn_367 rfl (by decide) ⟨by omega, by omega⟩ ⟨by omega, by omega⟩ (fun c945 => ?_) (fun c945 => ?_)
                                · refine zt_iconst (pc' := 387) hX dX12_qGoesOn_386 rfl ?_
                                  exact zt_zret hX hR dX12_qGoesOn_387 ⟨by omega, by omega⟩ ⟨hI623, hF633, by omega, by omega, hT627, (by rw [hE842]; exact yGon_e n646 (by omega) ⟨c99, c260, c421, c648⟩), ⟨by omega, by omega, by omega⟩⟩
                                · refine zt_aload_n (pc' := 371) hX dX12_qGoesOn_370 rfl rfl ?_
                                  have b946 := zv_46_5 hI623 zc_164
                                  refine zt_get (pc' := 374) (v := .int (zI (s620 164 5))) hX dX12_qGoesOn_371 rfl zf_X12_246 (by decide) zc_164 zs_46 rfl ?_
                                  refine zt_ifne (pc' := 377) (tgt := 386) hX dX12_qGoesOn_374 rfl (by decide) ⟨by omega, by omega⟩ (fun c947 => ?_) (fun c947 => ?_)
                                  · exact absurd c947 (by omega)
                                  · refine zt_aload_n (pc' := 378) hX dX12_qGoesOn_377 rfl rfl ?_
                                    refine zt_iconst (pc' := 379) hX dX12_qGoesOn_378 rfl ?_
                                    refine zt_aload_n (pc' := 380) hX dX12_qGoesOn_379 rfl rfl ?_
                                    have b948 := zv_46_2 hI623 zc_164
                                    refine zt_get (pc' := 383) (v := .int (zI (s620 164 2))) hX dX12_qGoesOn_380 rfl zf_X12_252 (by decide) zc_164 zs_46 rfl ?_
                                    refine zt_cVv (pc' := 386) hX dX12_qGoesOn_383 rfl zm_yX12_fail zw_26_19 zc_164 (by decide) zs_46 (q := (RX12, TX12, 108)) rfl rfl (yc_X12_fail _ _ s620 hI623 1 ⟨by omega, by omega⟩ (s620 164 2) ⟨by omega, by omega⟩ f (yTq_w hT627)) rfl rfl (Nat.le_of_ble_eq_true rfl) (by decide) (fun r949 s950 hr951 hp952 => ?_)
                                    obtain ⟨hI953, hF954, hT955, z956, z957⟩ := hp952
                                    have hE958 : yqs f s950 = yPno 1 (s620 164 2) p11 := by rw [z956, hE842]
                                    have hF959 := zOn_tr hF633 hF954 zi_12
                                    have b960 := zv_46_2 hI953 zc_164
                                    have b961 := zv_46_5 hI953 zc_164
                                    have b962 := zv_46_97 hI953 zc_164
                                    have b963 := zv_46_99 hI953 zc_164
                                    have b964 := zv_46_100 hI953 zc_164
                                    have b965 := zv_46_101 hI953 zc_164
                                    have b966 := zv_46_51 hI953 zc_164
                                    have e967 := hF954 164 97 rfl
                                    have e968 := hF954 164 99 rfl
                                    have e969 := hF954 164 100 rfl
                                    have e970 := hF954 164 101 rfl
                                    have e971 := hF954 164 51 rfl
                                    have n972 := yLn_fr n646 hF954
                                    have y973 : ybs s950 = ybs s620 := ybs_fr hF954
                                    refine zt_iconst (pc' := 387) hX dX12_qGoesOn_386 rfl ?_
                                    exact zt_zret hX hR dX12_qGoesOn_387 ⟨by omega, by omega⟩ ⟨hI953, hF959, by omega, by omega, hT955, (by rw [hE958]; exact yGon_f (yOpenf n972 (by rcases yLn_b n972 with t | t <;> omega) ⟨c99, c260, c421, c648⟩ n4169 (by omega))), ⟨by omega, by omega, by omega⟩⟩
                              · refine zt_aload_n (pc' := 327) hX dX12_qGoesOn_326 rfl rfl ?_
                                refine zt_bipush (pc' := 329) hX dX12_qGoesOn_327 rfl (by decide) (by decide) ?_
                                refine zt_cVv (pc' := 332) hX dX12_qGoesOn_329 rfl zm_yX12_asksSign zw_27_10 zc_164 (by decide) zs_46 (q := (RX12, TX12, 108)) rfl rfl (yc_X12_asksSign _ _ s620 hI623 44 ⟨by omega, by omega⟩ (by omega) f hT627) rfl rfl (Nat.le_of_ble_eq_true rfl) (by decide) (fun r974 s975 hr976 hp977 => ?_)
                                obtain ⟨hI978, hF979, hT980, z981⟩ := hp977
                                have hE982 : yqs f s975 = yPs f 44 p11 := by rw [z981, hE842]
                                have hF983 := zOn_tr hF633 hF979 zi_12
                                have b984 := zv_46_2 hI978 zc_164
                                have b985 := zv_46_5 hI978 zc_164
                                have b986 := zv_46_97 hI978 zc_164
                                have b987 := zv_46_99 hI978 zc_164
                                have b988 := zv_46_100 hI978 zc_164
                                have b989 := zv_46_101 hI978 zc_164
                                have b990 := zv_46_51 hI978 zc_164
                                have e991 := hF979 164 97 rfl
                                have e992 := hF979 164 99 rfl
                                have e993 := hF979 164 100 rfl
                                have e994 := hF979 164 101 rfl
                                have e995 := hF979 164 51 rfl
                                have n996 := yLn_fr n646 hF979
                                have y997 : ybs s975 = ybs s620 := ybs_fr hF979
                                refine zt_aload_n (pc' := 333) hX dX12_qGoesOn_332 rfl rfl ?_
                                have b998 := zv_46_5 hI978 zc_164
                                refine zt_get (pc' := 336) (v := .int (zI (s975 164 5))) hX dX12_qGoesOn_333 rfl zf_X12_246 (by decide) zc_164 zs_46 rfl ?_
                                refine zt_ifeq (pc' := 339) (tgt := 341) hX dX12_qGoesOn_336 rfl (by decide) ⟨by omega, by omega⟩ (fun c999 => ?_) (fun c999 => ?_)
                                · have g1000 := yPs_k ((yHb hT980 hE982).1 (by omega))
                                  have hE1001 : yqs f s975 = yPx f p11 := hE982.trans (if_pos g1000)
                                  refine zt_aload_n (pc' := 342) hX dX12_qGoesOn_341 rfl rfl ?_
                                  refine zt_cVv (pc' := 345) hX dX12_qGoesOn_342 rfl zm_yX12_qDropsToBracket zw_31_19 zc_164 (by decide) zs_46 (q := (RX12, TX12, 108)) rfl rfl (yc_X12_qDropsToBracket _ _ s975 hI978 (by omega) (by omega)) rfl rfl (Nat.le_of_ble_eq_true rfl) (by decide) (fun r1002 s1003 hr1004 hp1005 => ?_)
                                  obtain ⟨hI1006, hF1007, z1008, z1009, z1010⟩ := hp1005
                                  have hF1011 := zOn_tr hF983 hF1007 zi_d2
                                  have hT1012 := yTq_rk hT980 (yRq_d hF1007)
                                  have hE1013 : yqs f s1003 = yPx f p11 := (yqs_rk (yRq_d hF1007)).trans hE1001
                                  have b1014 := zv_46_2 hI1006 zc_164
                                  have b1015 := zv_46_5 hI1006 zc_164
                                  have b1016 := zv_46_97 hI1006 zc_164
                                  have b1017 := zv_46_99 hI1006 zc_164
                                  have b1018 := zv_46_100 hI1006 zc_164
                                  have b1019 := zv_46_101 hI1006 zc_164
                                  have b1020 := zv_46_51 hI1006 zc_164
                                  have e1021 := hF1007 164 2 rfl
                                  have e1022 := hF1007 164 5 rfl
                                  have e1023 := hF1007 164 100 rfl
                                  have e1024 := hF1007 164 101 rfl
                                  have e1025 := hF1007 164 51 rfl
                                  have tp1026 := yTopb (c := 22) n996 ⟨by omega, by omega⟩ z1009 z1010 (by omega) (by decide)
                                  clear z1010
                                  obtain ⟨t1027, t1028, t1029⟩ := tp1026
                                  refine zt_aload_n (pc' := 346) hX dX12_qGoesOn_345 rfl rfl ?_
                                  refine zt_get (pc' := 349) (v := .ref (X.1.1 + 235)) hX dX12_qGoesOn_346 rfl zf_X12_234 (by decide) zc_164 zs_46 (zrf_of (zv_46_98 hI1006 zc_164)) ?_
                                  refine zt_aload_n (pc' := 350) hX dX12_qGoesOn_349 rfl rfl ?_
                                  have b1030 := zv_46_99 hI1006 zc_164
                                  refine zt_get (pc' := 353) (v := .int (zI (s1003 164 99))) hX dX12_qGoesOn_350 rfl zf_X12_333 (by decide) zc_164 zs_46 rfl ?_
                                  refine zt_iconst (pc' := 354) hX dX12_qGoesOn_353 rfl ?_
                                  refine zt_isub (pc' := 355) hX dX12_qGoesOn_354 rfl ?_
                                  refine zt_dup2 (pc' := 356) hX dX12_qGoesOn_355 rfl rfl rfl ?_
                                  refine zt_iald (pc' := 357) hX dX12_qGoesOn_356 rfl (by decide) zc_235 zs_117 (by decide) ⟨by omega, by omega⟩ ?_
                                  generalize hv1031 : s1003 235 (((s1003 164 99) - 1).toNat) = v1031
                                  have bv1031 : -2147483648 ≤ v1031 ∧ v1031 ≤ 2147483647 := hv1031 ▸ zv_117 hI1006 zc_235 _
                                  have u1032 : v1031 = 22 := hv1031.symm.trans ((hF1007 235 _ rfl).trans t1028)
                                  refine zt_iconst (pc' := 358) hX dX12_qGoesOn_357 rfl ?_
                                  refine zt_iadd (pc' := 359) hX dX12_qGoesOn_358 rfl ?_
                                  refine zt_wrap (fun r1033 zr1033 lr1033 ur1033 => ?_)
                                  replace zr1033 := ywr_eq zr1033
                                  refine zt_iast (pc' := 360) hX dX12_qGoesOn_359 rfl (by decide) zc_235 zs_117 (by decide) ⟨by omega, by omega⟩ ?_
                                  generalize hs1035 : zset s1003 235 (((s1003 164 99) - 1).toNat) r1033 = s1034
                                  have hI1036 : zInv s1034 := hs1035 ▸ zp_117 hI1006 zc_235 (((s1003 164 99) - 1).toNat) ⟨by omega, by omega⟩
                                  have hF1037 : zOn zQ2 σ s1034 := hs1035 ▸ zOn_set hF1011 (zq2_235 (by omega))
                                  have hT1038 := yTq_rk hT1012 (yRq_set hs1035 zc_235 (by decide))
                                  have hE1039 : yqs f s1034 = yPx f p11 := (yqs_rk (yRq_set hs1035 zc_235 (by decide))).trans hE1013
                                  have e1040 : s1034 164 2 = s1003 164 2 := by rw [← hs1035]; exact zset_k (zne_r zc_164 zc_235 (by decide))
                                  have e1041 : s1034 164 5 = s1003 164 5 := by rw [← hs1035]; exact zset_k (zne_r zc_164 zc_235 (by decide))
                                  have e1042 : s1034 164 97 = s1003 164 97 := by rw [← hs1035]; exact zset_k (zne_r zc_164 zc_235 (by decide))
                                  have e1043 : s1034 164 99 = s1003 164 99 := by rw [← hs1035]; exact zset_k (zne_r zc_164 zc_235 (by decide))
                                  have e1044 : s1034 164 100 = s1003 164 100 := by rw [← hs1035]; exact zset_k (zne_r zc_164 zc_235 (by decide))
                                  have e1045 : s1034 164 101 = s1003 164 101 := by rw [← hs1035]; exact zset_k (zne_r zc_164 zc_235 (by decide))
                                  have e1046 : s1034 164 51 = s1003 164 51 := by rw [← hs1035]; exact zset_k (zne_r zc_164 zc_235 (by decide))
                                  refine zt_iconst (pc' := 361) hX dX12_qGoesOn_360 rfl ?_
                                  exact zt_zret hX hR dX12_qGoesOn_361 ⟨by omega, by omega⟩ ⟨hI1036, hF1037, by omega, by omega, hT1038, (by rw [hE1039]; exact Or.inl ⟨rfl, yComma (c := 22) n996 hT12 hE13 g1000 (by decide) z1009 ⟨by omega, t1028, by omega⟩ ⟨by omega, by omega⟩ hF1007 (by omega) hs1035 (by first | rfl | omega) (by omega)⟩), ⟨by omega, by omega, by omega⟩⟩
                                · refine zt_iconst (pc' := 340) hX dX12_qGoesOn_339 rfl ?_
                                  exact zt_zret hX hR dX12_qGoesOn_340 ⟨by omega, by omega⟩ ⟨hI978, hF983, by omega, by omega, hT980, (by rw [hE982]; exact yGon_f (yCommf n996 (by omega) ⟨c99, c260, c421, c648⟩ ((yHb hT980 hE982).2 (by omega)))), ⟨by omega, by omega, by omega⟩⟩
                          · exact absurd c845 (by omega)
                  · exact absurd c391 (by omega)
          · refine zt_aload_n (pc' := 17) hX dX12_qGoesOn_16 rfl rfl ?_
            refine zt_cVi (pc' := 20) hX dX12_qGoesOn_17 rfl zm_yX12_qBracket zw_31_12 zc_164 (by decide) zs_46 (q := (RX12, TX12, 108)) rfl rfl (yc_X12_qBracket _ _ s38 hI41 (by omega)) rfl rfl (Nat.le_of_ble_eq_true rfl) (by decide) (fun r1047 s1048 hr1049 hp1050 => ?_)
            obtain ⟨rfl, q1051, q1052, z1053⟩ := hp1050
            have y1054 : r1047 = ybs s38 := z1053
            clear z1053
            refine zt_bipush (pc' := 22) hX dX12_qGoesOn_20 rfl (by decide) (by decide) ?_
            refine zt_iceq (pc' := 25) (tgt := 43) hX dX12_qGoesOn_22 rfl (by decide) ⟨by omega, by omega⟩ ⟨by omega, by omega⟩ (fun c1055 => ?_) (fun c1055 => ?_)
            · have g1056 : yPg f p11 = 41 := ysg_p hT45 hE49 (by omega) (by omega) (hc67.trans (by omega)) ⟨by decide, by decide, by decide⟩
              have u1057 := yat_lt (q := yPq p11) hT45 (by omega) (by rw [hc67]; omega)
              refine zt_aload_n (pc' := 44) hX dX12_qGoesOn_43 rfl rfl ?_
              refine zt_dup (pc' := 45) hX dX12_qGoesOn_44 rfl rfl ?_
              have b1058 := zv_46_2 hI41 zc_164
              refine zt_get (pc' := 48) (v := .int (zI (s38 164 2))) hX dX12_qGoesOn_45 rfl zf_X12_252 (by decide) zc_164 zs_46 rfl ?_
              refine zt_iconst (pc' := 49) hX dX12_qGoesOn_48 rfl ?_
              refine zt_iadd (pc' := 50) hX dX12_qGoesOn_49 rfl ?_
              refine zt_put (pc' := 53) (x := ((s38 164 2) + 1)) hX dX12_qGoesOn_50 rfl zf_X12_252 (by decide) zc_164 zs_46 (fun q hq => by cases hq; rfl) rfl rfl rfl ?_
              generalize hs1060 : zset s38 164 2 ((s38 164 2) + 1) = s1059
              have hI1061 : zInv s1059 := hs1060 ▸ zp_46_2 hI41 zc_164 ⟨by omega, by omega⟩
              have hF1062 : zOn zQ2 σ s1059 := hs1060 ▸ zOn_set hF50 (by decide)
              have e1063 : s1059 164 2 = ((s38 164 2) + 1) := by rw [← hs1060]; exact zset_s
              have e1064 : s1059 164 5 = s38 164 5 := by rw [← hs1060]; exact zset_j (by decide)
              have e1065 : s1059 164 97 = s38 164 97 := by rw [← hs1060]; exact zset_j (by decide)
              have e1066 : s1059 164 99 = s38 164 99 := by rw [← hs1060]; exact zset_j (by decide)
              have e1067 : s1059 164 100 = s38 164 100 := by rw [← hs1060]; exact zset_j (by decide)
              have e1068 : s1059 164 101 = s38 164 101 := by rw [← hs1060]; exact zset_j (by decide)
              have e1069 : s1059 164 51 = s38 164 51 := by rw [← hs1060]; exact zset_j (by decide)
              have h1070 := yL_at1 hT45 hE49 (by omega) (by omega) (hc67.trans (by omega)) ⟨by decide, by decide, by decide⟩ hs1060
              have n1071 := yLn_fr n64 (hs1060 ▸ zOn_set (zOn_rf zQ1 _) (by decide))
              have y1072 : ybs s1059 = ybs s38 := ybs_fr (hs1060 ▸ zOn_set (zOn_rf zQ1 _) (by decide))
              refine zt_aload_n (pc' := 54) hX dX12_qGoesOn_53 rfl rfl ?_
              refine zt_cVv (pc' := 57) hX dX12_qGoesOn_54 rfl zm_yX12_qDropsToBracket zw_31_19 zc_164 (by decide) zs_46 (q := (RX12, TX12, 108)) rfl rfl (yc_X12_qDropsToBracket _ _ s1059 hI1061 (by omega) (by omega)) rfl rfl (Nat.le_of_ble_eq_true rfl) (by decide) (fun r1073 s1074 hr1075 hp1076 => ?_)
              obtain ⟨hI1077, hF1078, z1079, z1080, z1081⟩ := hp1076
              have hF1082 := zOn_tr hF1062 hF1078 zi_d2
              have hT1083 := yTq_rk h1070.1 (yRq_d hF1078)
              have hE1084 : yqs f s1074 = yPx f p11 := (yqs_rk (yRq_d hF1078)).trans h1070.2.1
              have b1085 := zv_46_2 hI1077 zc_164
              have b1086 := zv_46_5 hI1077 zc_164
              have b1087 := zv_46_97 hI1077 zc_164
              have b1088 := zv_46_99 hI1077 zc_164
              have b1089 := zv_46_100 hI1077 zc_164
              have b1090 := zv_46_101 hI1077 zc_164
              have b1091 := zv_46_51 hI1077 zc_164
              have e1092 := hF1078 164 2 rfl
              have e1093 := hF1078 164 5 rfl
              have e1094 := hF1078 164 100 rfl
              have e1095 := hF1078 164 101 rfl
              have e1096 := hF1078 164 51 rfl
              have tp1097 := yTopb (c := 20) n1071 ⟨by omega, by omega⟩ z1080 z1081 (by omega) (by decide)
              clear z1081
              obtain ⟨t1098, t1099, t1100⟩ := tp1097
              refine zt_aload_n (pc' := 58) hX dX12_qGoesOn_57 rfl rfl ?_
              refine zt_dup (pc' := 59) hX dX12_qGoesOn_58 rfl rfl ?_
              have b1101 := zv_46_99 hI1077 zc_164
              refine zt_get (pc' := 62) (v := .int (zI (s1074 164 99))) hX dX12_qGoesOn_59 rfl zf_X12_333 (by decide) zc_164 zs_46 rfl ?_
              refine zt_iconst (pc' := 63) hX dX12_qGoesOn_62 rfl ?_
              refine zt_isub (pc' := 64) hX dX12_qGoesOn_63 rfl ?_
              refine zt_put (pc' := 67) (x := ((s1074 164 99) - 1)) hX dX12_qGoesOn_64 rfl zf_X12_333 (by decide) zc_164 zs_46 (fun q hq => by cases hq; rfl) rfl rfl rfl ?_
              generalize hs1103 : zset s1074 164 99 ((s1074 164 99) - 1) = s1102
              have hI1104 : zInv s1102 := hs1103 ▸ zp_46_99 hI1077 zc_164 ⟨by omega, by omega⟩
              have hF1105 : zOn zQ2 σ s1102 := hs1103 ▸ zOn_set hF1082 (by decide)
              have e1106 : s1102 164 2 = s1074 164 2 := by rw [← hs1103]; exact zset_j (by decide)
              have e1107 : s1102 164 5 = s1074 164 5 := by rw [← hs1103]; exact zset_j (by decide)
              have e1108 : s1102 164 97 = s1074 164 97 := by rw [← hs1103]; exact zset_j (by decide)
              have e1109 : s1102 164 99 = ((s1074 164 99) - 1) := by rw [← hs1103]; exact zset_s
              have e1110 : s1102 164 100 = s1074 164 100 := by rw [← hs1103]; exact zset_j (by decide)
              have e1111 : s1102 164 101 = s1074 164 101 := by rw [← hs1103]; exact zset_j (by decide)
              have e1112 : s1102 164 51 = s1074 164 51 := by rw [← hs1103]; exact zset_j (by decide)
              have hT1113 := yTq_rk hT1083 (yRq_j hs1103 (by decide))
              have hE1114 : yqs f s1102 = yPx f p11 := (yqs_rk (yRq_j hs1103 (by decide))).trans hE1084
              refine zt_aload_n (pc' := 68) hX dX12_qGoesOn_67 rfl rfl ?_
              refine zt_dup (pc' := 69) hX dX12_qGoesOn_68 rfl rfl ?_
              have b1115 := zv_46_100 hI1104 zc_164
              refine zt_get (pc' := 72) (v := .int (zI (s1102 164 100))) hX dX12_qGoesOn_69 rfl zf_X12_336 (by decide) zc_164 zs_46 rfl ?_
              refine zt_iconst (pc' := 73) hX dX12_qGoesOn_72 rfl ?_
              refine zt_isub (pc' := 74) hX dX12_qGoesOn_73 rfl ?_
              refine zt_wrap (fun r1116 zr1116 lr1116 ur1116 => ?_)
              replace zr1116 := ywr_eq zr1116
              refine zt_put (pc' := 77) (x := r1116) hX dX12_qGoesOn_74 rfl zf_X12_336 (by decide) zc_164 zs_46 (fun q hq => by cases hq; rfl) rfl rfl rfl ?_
              generalize hs1118 : zset s1102 164 100 r1116 = s1117
              have hI1119 : zInv s1117 := hs1118 ▸ zp_46_100 hI1104 zc_164 ⟨by omega, by omega⟩
              have hF1120 : zOn zQ2 σ s1117 := hs1118 ▸ zOn_set hF1105 (by decide)
              have e1121 : s1117 164 2 = s1102 164 2 := by rw [← hs1118]; exact zset_j (by decide)
              have e1122 : s1117 164 5 = s1102 164 5 := by rw [← hs1118]; exact zset_j (by decide)
              have e1123 : s1117 164 97 = s1102 164 97 := by rw [← hs1118]; exact zset_j (by decide)
              have e1124 : s1117 164 99 = s1102 164 99 := by rw [← hs1118]; exact zset_j (by decide)
              have e1125 : s1117 164 100 = r1116 := by rw [← hs1118]; exact zset_s
              have e1126 : s1117 164 101 = s1102 164 101 := by rw [← hs1118]; exact zset_j (by decide)
              have e1127 : s1117 164 51 = s1102 164 51 := by rw [← hs1118]; exact zset_j (by decide)
              have hT1128 := yTq_rk hT1113 (yRq_j hs1118 (by decide))
              have hE1129 : yqs f s1117 = yPx f p11 := (yqs_rk (yRq_j hs1118 (by decide))).trans hE1114
              refine zt_aload_n (pc' := 78) hX dX12_qGoesOn_77 rfl rfl ?_
              refine zt_get (pc' := 81) (v := .ref (X.1.1 + 235)) hX dX12_qGoesOn_78 rfl zf_X12_234 (by decide) zc_164 zs_46 (zrf_of (zv_46_98 hI1119 zc_164)) ?_
              refine zt_aload_n (pc' := 82) hX dX12_qGoesOn_81 rfl rfl ?_
              have b1130 := zv_46_99 hI1119 zc_164
              refine zt_get (pc' := 85) (v := .int (zI (s1117 164 99))) hX dX12_qGoesOn_82 rfl zf_X12_333 (by decide) zc_164 zs_46 rfl ?_
              refine zt_iald (pc' := 86) hX dX12_qGoesOn_85 rfl (by decide) zc_235 zs_117 (by decide) ⟨by omega, by omega⟩ ?_
              generalize hv1131 : s1117 235 ((s1117 164 99).toNat) = v1131
              have bv1131 : -2147483648 ≤ v1131 ∧ v1131 ≤ 2147483647 := hv1131 ▸ zv_117 hI1119 zc_235 _
              have row1132 : ∀ j, s1117 235 j = s1059 235 j := fun j => by rw [← hs1118, zset_k (by decide), ← hs1103, zset_k (by decide)]; exact hF1078 235 j rfl
              have u1133 : v1131 = 20 := hv1131.symm.trans ((row1132 _).trans (by rw [show (s1117 164 99).toNat = (s1074 164 99 - 1).toNat by omega]; exact t1099))
              refine zt_bipush (pc' := 88) hX dX12_qGoesOn_86 rfl (by decide) (by decide) ?_
              refine zt_iceq (pc' := 91) (tgt := 115) hX dX12_qGoesOn_88 rfl (by decide) ⟨by omega, by omega⟩ ⟨by omega, by omega⟩ (fun c1134 => ?_) (fun c1134 => ?_)
              · refine zt_aload_n (pc' := 116) hX dX12_qGoesOn_115 rfl rfl ?_
                refine zt_cVv (pc' := 119) hX dX12_qGoesOn_116 rfl zm_yX12_qEndsPart zw_31_0 zc_164 (by decide) zs_46 (q := (RX12, TX12, 108)) rfl rfl (yc_X12_qEndsPart _ _ s1117 hI1119 (by omega) (by omega) (by omega)) rfl rfl (Nat.le_of_ble_eq_true rfl) (by decide) (fun r1135 s1136 hr1137 hp1138 => ?_)
                obtain ⟨hI1139, hF1140, z1141, z1142, z1143⟩ := hp1138
                have hF1144 := zOn_tr hF1120 hF1140 zi_e2
                have hT1145 := yTq_rk hT1128 (yRq_e hF1140)
                have hE1146 : yqs f s1136 = yPx f p11 := (yqs_rk (yRq_e hF1140)).trans hE1129
                have b1147 := zv_46_2 hI1139 zc_164
                have b1148 := zv_46_5 hI1139 zc_164
                have b1149 := zv_46_97 hI1139 zc_164
                have b1150 := zv_46_99 hI1139 zc_164
                have b1151 := zv_46_100 hI1139 zc_164
                have b1152 := zv_46_101 hI1139 zc_164
                have b1153 := zv_46_51 hI1139 zc_164
                have e1154 := hF1140 164 2 rfl
                have e1155 := hF1140 164 5 rfl
                have e1156 := hF1140 164 101 rfl
                have e1157 := hF1140 164 51 rfl
                have n1158 := yClose (c := 20) n1071 hT12 hE13 g1056 (by decide) z1080 ⟨by omega, t1099, by omega⟩ (by omega) (by omega) (by omega) (by omega) (by omega) row1132 (by omega) hF1140 z1141 z1142 z1143 hE1146
                clear z1143
                refine zt_goto (tgt := 0) hX dX12_qGoesOn_119 (by decide) ?_
                exact ih18 s1136 (yPx f p11) hI1139 hF1144 hT1145 hE1146 (by omega) n1158 (yms_x (p := p11) (m := 0) g15.1.1 (by omega) (by omega) (fun o => Or.inl ⟨yadv1 hT12 hE13 g15.1.1 (ykn (Or.inl (by rw [g1056]; decide))), by decide⟩) hm17)
              · exact absurd c1134 (by omega)
            · refine zt_aload_n (pc' := 26) hX dX12_qGoesOn_25 rfl rfl ?_
              refine zt_cVi (pc' := 29) hX dX12_qGoesOn_26 rfl zm_yX12_qBracket zw_31_12 zc_164 (by decide) zs_46 (q := (RX12, TX12, 108)) rfl rfl (yc_X12_qBracket _ _ s38 hI41 (by omega)) rfl rfl (Nat.le_of_ble_eq_true rfl) (by decide) (fun r1159 s1160 hr1161 hp1162 => ?_)
              obtain ⟨rfl, q1163, q1164, z1165⟩ := hp1162
              have y1166 : r1159 = ybs s38 := z1165
              clear z1165
              refine zt_bipush (pc' := 31) hX dX12_qGoesOn_29 rfl (by decide) (by decide) ?_
              refine zt_iceq (pc' := 34) (tgt := 43) hX dX12_qGoesOn_31 rfl (by decide) ⟨by omega, by omega⟩ ⟨by omega, by omega⟩ (fun c1167 => ?_) (fun c1167 => ?_)
              · have g1168 : yPg f p11 = 41 := ysg_p hT45 hE49 (by omega) (by omega) (hc67.trans (by omega)) ⟨by decide, by decide, by decide⟩
                have u1169 := yat_lt (q := yPq p11) hT45 (by omega) (by rw [hc67]; omega)
                refine zt_aload_n (pc' := 44) hX dX12_qGoesOn_43 rfl rfl ?_
                refine zt_dup (pc' := 45) hX dX12_qGoesOn_44 rfl rfl ?_
                have b1170 := zv_46_2 hI41 zc_164
                refine zt_get (pc' := 48) (v := .int (zI (s38 164 2))) hX dX12_qGoesOn_45 rfl zf_X12_252 (by decide) zc_164 zs_46 rfl ?_
                refine zt_iconst (pc' := 49) hX dX12_qGoesOn_48 rfl ?_
                refine zt_iadd (pc' := 50) hX dX12_qGoesOn_49 rfl ?_
                refine zt_put (pc' := 53) (x := ((s38 164 2) + 1)) hX dX12_qGoesOn_50 rfl zf_X12_252 (by decide) zc_164 zs_46 (fun q hq => by cases hq; rfl) rfl rfl rfl ?_
                generalize hs1172 : zset s38 164 2 ((s38 164 2) + 1) = s1171
                have hI1173 : zInv s1171 := hs1172 ▸ zp_46_2 hI41 zc_164 ⟨by omega, by omega⟩
                have hF1174 : zOn zQ2 σ s1171 := hs1172 ▸ zOn_set hF50 (by decide)
                have e1175 : s1171 164 2 = ((s38 164 2) + 1) := by rw [← hs1172]; exact zset_s
                have e1176 : s1171 164 5 = s38 164 5 := by rw [← hs1172]; exact zset_j (by decide)
                have e1177 : s1171 164 97 = s38 164 97 := by rw [← hs1172]; exact zset_j (by decide)
                have e1178 : s1171 164 99 = s38 164 99 := by rw [← hs1172]; exact zset_j (by decide)
                have e1179 : s1171 164 100 = s38 164 100 := by rw [← hs1172]; exact zset_j (by decide)
                have e1180 : s1171 164 101 = s38 164 101 := by rw [← hs1172]; exact zset_j (by decide)
                have e1181 : s1171 164 51 = s38 164 51 := by rw [← hs1172]; exact zset_j (by decide)
                have h1182 := yL_at1 hT45 hE49 (by omega) (by omega) (hc67.trans (by omega)) ⟨by decide, by decide, by decide⟩ hs1172
                have n1183 := yLn_fr n64 (hs1172 ▸ zOn_set (zOn_rf zQ1 _) (by decide))
                have y1184 : ybs s1171 = ybs s38 := ybs_fr (hs1172 ▸ zOn_set (zOn_rf zQ1 _) (by decide))
                refine zt_aload_n (pc' := 54) hX dX12_qGoesOn_53 rfl rfl ?_
                refine zt_cVv (pc' := 57) hX dX12_qGoesOn_54 rfl zm_yX12_qDropsToBracket zw_31_19 zc_164 (by decide) zs_46 (q := (RX12, TX12, 108)) rfl rfl (yc_X12_qDropsToBracket _ _ s1171 hI1173 (by omega) (by omega)) rfl rfl (Nat.le_of_ble_eq_true rfl) (by decide) (fun r1185 s1186 hr1187 hp1188 => ?_)
                obtain ⟨hI1189, hF1190, z1191, z1192, z1193⟩ := hp1188
                have hF1194 := zOn_tr hF1174 hF1190 zi_d2
                have hT1195 := yTq_rk h1182.1 (yRq_d hF1190)
                have hE1196 : yqs f s1186 = yPx f p11 := (yqs_rk (yRq_d hF1190)).trans h1182.2.1
                have b1197 := zv_46_2 hI1189 zc_164
                have b1198 := zv_46_5 hI1189 zc_164
                have b1199 := zv_46_97 hI1189 zc_164
                have b1200 := zv_46_99 hI1189 zc_164
                have b1201 := zv_46_100 hI1189 zc_164
                have b1202 := zv_46_101 hI1189 zc_164
                have b1203 := zv_46_51 hI1189 zc_164
                have e1204 := hF1190 164 2 rfl
                have e1205 := hF1190 164 5 rfl
                have e1206 := hF1190 164 100 rfl
                have e1207 := hF1190 164 101 rfl
                have e1208 := hF1190 164 51 rfl
                have tp1209 := yTopb (c := 23) n1183 ⟨by omega, by omega⟩ z1192 z1193 (by omega) (by decide)
                clear z1193
                obtain ⟨t1210, t1211, t1212⟩ := tp1209
                refine zt_aload_n (pc' := 58) hX dX12_qGoesOn_57 rfl rfl ?_
                refine zt_dup (pc' := 59) hX dX12_qGoesOn_58 rfl rfl ?_
                have b1213 := zv_46_99 hI1189 zc_164
                refine zt_get (pc' := 62) (v := .int (zI (s1186 164 99))) hX dX12_qGoesOn_59 rfl zf_X12_333 (by decide) zc_164 zs_46 rfl ?_
                refine zt_iconst (pc' := 63) hX dX12_qGoesOn_62 rfl ?_
                refine zt_isub (pc' := 64) hX dX12_qGoesOn_63 rfl ?_
                refine zt_put (pc' := 67) (x := ((s1186 164 99) - 1)) hX dX12_qGoesOn_64 rfl zf_X12_333 (by decide) zc_164 zs_46 (fun q hq => by cases hq; rfl) rfl rfl rfl ?_
                generalize hs1215 : zset s1186 164 99 ((s1186 164 99) - 1) = s1214
                have hI1216 : zInv s1214 := hs1215 ▸ zp_46_99 hI1189 zc_164 ⟨by omega, by omega⟩
                have hF1217 : zOn zQ2 σ s1214 := hs1215 ▸ zOn_set hF1194 (by decide)
                have e1218 : s1214 164 2 = s1186 164 2 := by rw [← hs1215]; exact zset_j (by decide)
                have e1219 : s1214 164 5 = s1186 164 5 := by rw [← hs1215]; exact zset_j (by decide)
                have e1220 : s1214 164 97 = s1186 164 97 := by rw [← hs1215]; exact zset_j (by decide)
                have e1221 : s1214 164 99 = ((s1186 164 99) - 1) := by rw [← hs1215]; exact zset_s
                have e1222 : s1214 164 100 = s1186 164 100 := by rw [← hs1215]; exact zset_j (by decide)
                have e1223 : s1214 164 101 = s1186 164 101 := by rw [← hs1215]; exact zset_j (by decide)
                have e1224 : s1214 164 51 = s1186 164 51 := by rw [← hs1215]; exact zset_j (by decide)
                have hT1225 := yTq_rk hT1195 (yRq_j hs1215 (by decide))
                have hE1226 : yqs f s1214 = yPx f p11 := (yqs_rk (yRq_j hs1215 (by decide))).trans hE1196
                refine zt_aload_n (pc' := 68) hX dX12_qGoesOn_67 rfl rfl ?_
                refine zt_dup (pc' := 69) hX dX12_qGoesOn_68 rfl rfl ?_
                have b1227 := zv_46_100 hI1216 zc_164
                refine zt_get (pc' := 72) (v := .int (zI (s1214 164 100))) hX dX12_qGoesOn_69 rfl zf_X12_336 (by decide) zc_164 zs_46 rfl ?_
                refine zt_iconst (pc' := 73) hX dX12_qGoesOn_72 rfl ?_
                refine zt_isub (pc' := 74) hX dX12_qGoesOn_73 rfl ?_
                refine zt_wrap (fun r1228 zr1228 lr1228 ur1228 => ?_)
                replace zr1228 := ywr_eq zr1228
                refine zt_put (pc' := 77) (x := r1228) hX dX12_qGoesOn_74 rfl zf_X12_336 (by decide) zc_164 zs_46 (fun q hq => by cases hq; rfl) rfl rfl rfl ?_
                generalize hs1230 : zset s1214 164 100 r1228 = s1229
                have hI1231 : zInv s1229 := hs1230 ▸ zp_46_100 hI1216 zc_164 ⟨by omega, by omega⟩
                have hF1232 : zOn zQ2 σ s1229 := hs1230 ▸ zOn_set hF1217 (by decide)
                have e1233 : s1229 164 2 = s1214 164 2 := by rw [← hs1230]; exact zset_j (by decide)
                have e1234 : s1229 164 5 = s1214 164 5 := by rw [← hs1230]; exact zset_j (by decide)
                have e1235 : s1229 164 97 = s1214 164 97 := by rw [← hs1230]; exact zset_j (by decide)
                have e1236 : s1229 164 99 = s1214 164 99 := by rw [← hs1230]; exact zset_j (by decide)
                have e1237 : s1229 164 100 = r1228 := by rw [← hs1230]; exact zset_s
                have e1238 : s1229 164 101 = s1214 164 101 := by rw [← hs1230]; exact zset_j (by decide)
                have e1239 : s1229 164 51 = s1214 164 51 := by rw [← hs1230]; exact zset_j (by decide)
                have hT1240 := yTq_rk hT1225 (yRq_j hs1230 (by decide))
                have hE1241 : yqs f s1229 = yPx f p11 := (yqs_rk (yRq_j hs1230 (by decide))).trans hE1226
                refine zt_aload_n (pc' := 78) hX dX12_qGoesOn_77 rfl rfl ?_
                refine zt_get (pc' := 81) (v := .ref (X.1.1 + 235)) hX dX12_qGoesOn_78 rfl zf_X12_234 (by decide) zc_164 zs_46 (zrf_of (zv_46_98 hI1231 zc_164)) ?_
                refine zt_aload_n (pc' := 82) hX dX12_qGoesOn_81 rfl rfl ?_
                have b1242 := zv_46_99 hI1231 zc_164
                refine zt_get (pc' := 85) (v := .int (zI (s1229 164 99))) hX dX12_qGoesOn_82 rfl zf_X12_333 (by decide) zc_164 zs_46 rfl ?_
                refine zt_iald (pc' := 86) hX dX12_qGoesOn_85 rfl (by decide) zc_235 zs_117 (by decide) ⟨by omega, by omega⟩ ?_
                generalize hv1243 : s1229 235 ((s1229 164 99).toNat) = v1243
                have bv1243 : -2147483648 ≤ v1243 ∧ v1243 ≤ 2147483647 := hv1243 ▸ zv_117 hI1231 zc_235 _
                have row1244 : ∀ j, s1229 235 j = s1171 235 j := fun j => by rw [← hs1230, zset_k (by decide), ← hs1215, zset_k (by decide)]; exact hF1190 235 j rfl
                have u1245 : v1243 = 23 := hv1243.symm.trans ((row1244 _).trans (by rw [show (s1229 164 99).toNat = (s1186 164 99 - 1).toNat by omega]; exact t1211))
                refine zt_bipush (pc' := 88) hX dX12_qGoesOn_86 rfl (by decide) (by decide) ?_
                refine zt_iceq (pc' := 91) (tgt := 115) hX dX12_qGoesOn_88 rfl (by decide) ⟨by omega, by omega⟩ ⟨by omega, by omega⟩ (fun c1246 => ?_) (fun c1246 => ?_)
                · exact absurd c1246 (by omega)
                · refine zt_aload_n (pc' := 92) hX dX12_qGoesOn_91 rfl rfl ?_
                  refine zt_aload_n (pc' := 93) hX dX12_qGoesOn_92 rfl rfl ?_
                  refine zt_get (pc' := 96) (v := .ref (X.1.1 + 235)) hX dX12_qGoesOn_93 rfl zf_X12_234 (by decide) zc_164 zs_46 (zrf_of (zv_46_98 hI1231 zc_164)) ?_
                  refine zt_aload_n (pc' := 97) hX dX12_qGoesOn_96 rfl rfl ?_
                  refine zt_get (pc' := 100) (v := .int (zI (s1229 164 99))) hX dX12_qGoesOn_97 rfl zf_X12_333 (by decide) zc_164 zs_46 rfl ?_
                  refine zt_iald (pc' := 101) hX dX12_qGoesOn_100 rfl (by decide) zc_235 zs_117 (by decide) ⟨by omega, by omega⟩ ?_
                  generalize hv1247 : s1229 235 ((s1229 164 99).toNat) = v1247
                  have bv1247 : -2147483648 ≤ v1247 ∧ v1247 ≤ 2147483647 := hv1247 ▸ zv_117 hI1231 zc_235 _
                  have u1248 : v1247 = 23 := hv1247.symm.trans ((row1244 _).trans (by rw [show (s1229 164 99).toNat = (s1186 164 99 - 1).toNat by omega]; exact t1211))
                  refine zt_bipush (pc' := 103) hX dX12_qGoesOn_101 rfl (by decide) (by decide) ?_
                  refine zt_icne (pc' := 106) (tgt := 110) hX dX12_qGoesOn_103 rfl (by decide) ⟨by omega, by omega⟩ ⟨by omega, by omega⟩ (fun c1249 => ?_) (fun c1249 => ?_)
                  · exact absurd c1249 (by omega)
                  · refine zt_iconst (pc' := 107) hX dX12_qGoesOn_106 rfl ?_
                    refine zt_goto (tgt := 112) hX dX12_qGoesOn_107 (by decide) ?_
                    refine zt_cVv (pc' := 115) hX dX12_qGoesOn_112 rfl zm_yX12_qCode zw_29_18 zc_164 (by decide) zs_46 (q := (RX12, TX12, 108)) rfl rfl (yc_X12_qCode _ _ s1229 hI1231 5 ⟨by omega, by omega⟩ (by omega)) rfl rfl (Nat.le_of_ble_eq_true rfl) (by decide) (fun r1250 s1251 hr1252 hp1253 => ?_)
                    obtain ⟨hI1254, hF1255, z1256⟩ := hp1253
                    have hF1257 := zOn_tr hF1232 hF1255 zi_c2
                    have hT1258 := yTq_rk hT1240 (yRq_c hF1255)
                    have hE1259 : yqs f s1251 = yPx f p11 := (yqs_rk (yRq_c hF1255)).trans hE1241
                    have b1260 := zv_46_2 hI1254 zc_164
                    have b1261 := zv_46_5 hI1254 zc_164
                    have b1262 := zv_46_97 hI1254 zc_164
                    have b1263 := zv_46_99 hI1254 zc_164
                    have b1264 := zv_46_100 hI1254 zc_164
                    have b1265 := zv_46_101 hI1254 zc_164
                    have b1266 := zv_46_51 hI1254 zc_164
                    have e1267 := hF1255 164 2 rfl
                    have e1268 := hF1255 164 5 rfl
                    have e1269 := hF1255 164 99 rfl
                    have e1270 := hF1255 164 100 rfl
                    have e1271 := hF1255 164 101 rfl
                    have e1272 := hF1255 164 51 rfl
                    refine zt_aload_n (pc' := 116) hX dX12_qGoesOn_115 rfl rfl ?_
                    refine zt_cVv (pc' := 119) hX dX12_qGoesOn_116 rfl zm_yX12_qEndsPart zw_31_0 zc_164 (by decide) zs_46 (q := (RX12, TX12, 108)) rfl rfl (yc_X12_qEndsPart _ _ s1251 hI1254 (by omega) (by omega) (by omega)) rfl rfl (Nat.le_of_ble_eq_true rfl) (by decide) (fun r1273 s1274 hr1275 hp1276 => ?_)
                    obtain ⟨hI1277, hF1278, z1279, z1280, z1281⟩ := hp1276
                    have hF1282 := zOn_tr hF1257 hF1278 zi_e2
                    have hT1283 := yTq_rk hT1258 (yRq_e hF1278)
                    have hE1284 : yqs f s1274 = yPx f p11 := (yqs_rk (yRq_e hF1278)).trans hE1259
                    have b1285 := zv_46_2 hI1277 zc_164
                    have b1286 := zv_46_5 hI1277 zc_164
                    have b1287 := zv_46_97 hI1277 zc_164
                    have b1288 := zv_46_99 hI1277 zc_164
                    have b1289 := zv_46_100 hI1277 zc_164
                    have b1290 := zv_46_101 hI1277 zc_164
                    have b1291 := zv_46_51 hI1277 zc_164
                    have e1292 := hF1278 164 2 rfl
                    have e1293 := hF1278 164 5 rfl
                    have e1294 := hF1278 164 101 rfl
                    have e1295 := hF1278 164 51 rfl
                    have n1296 := yClose (c := 23) n1183 hT12 hE13 g1168 (by decide) z1192 ⟨by omega, t1211, by omega⟩ (by omega) (by omega) (by omega) (by omega) (by omega) (fun j => (hF1255 235 j rfl).trans (row1244 j)) (by omega) hF1278 z1279 z1280 z1281 hE1284
                    clear z1281
                    refine zt_goto (tgt := 0) hX dX12_qGoesOn_119 (by decide) ?_
                    exact ih18 s1274 (yPx f p11) hI1277 hF1282 hT1283 hE1284 (by omega) n1296 (yms_x (p := p11) (m := 0) g15.1.1 (by omega) (by omega) (fun o => Or.inl ⟨yadv1 hT12 hE13 g15.1.1 (ykn (Or.inl (by rw [g1168]; decide))), by decide⟩) hm17)
              · refine zt_aload_n (pc' := 35) hX dX12_qGoesOn_34 rfl rfl ?_
                refine zt_cVi (pc' := 38) hX dX12_qGoesOn_35 rfl zm_yX12_qBracket zw_31_12 zc_164 (by decide) zs_46 (q := (RX12, TX12, 108)) rfl rfl (yc_X12_qBracket _ _ s38 hI41 (by omega)) rfl rfl (Nat.le_of_ble_eq_true rfl) (by decide) (fun r1297 s1298 hr1299 hp1300 => ?_)
                obtain ⟨rfl, q1301, q1302, z1303⟩ := hp1300
                have y1304 : r1297 = ybs s38 := z1303
                clear z1303
                refine zt_bipush (pc' := 40) hX dX12_qGoesOn_38 rfl (by decide) (by decide) ?_
                refine zt_icne (pc' := 43) (tgt := 122) hX dX12_qGoesOn_40 rfl (by decide) ⟨by omega, by omega⟩ ⟨by omega, by omega⟩ (fun c1305 => ?_) (fun c1305 => ?_)
                · refine zt_aload_n (pc' := 123) hX dX12_qGoesOn_122 rfl rfl ?_
                  refine zt_bipush (pc' := 125) hX dX12_qGoesOn_123 rfl (by decide) (by decide) ?_
                  refine zt_cVz (pc' := 128) hX dX12_qGoesOn_125 rfl zm_yX12_takesSign zw_27_14 zc_164 (by decide) zs_46 (q := (RX12, TX12, 108)) rfl rfl (yc_X12_takesSign _ _ s38 hI41 42 ⟨by omega, by omega⟩ (by omega) f hT45) rfl rfl (Nat.le_of_ble_eq_true rfl) (by decide) (fun r1306 s1307 hr1308 hp1309 => ?_)
                  obtain ⟨hI1310, hF1311, q1312, q1313, hT1314, z1315, z1316, z1317, z1318⟩ := hp1309
                  have hE1319 : yqs f s1307 = yPu f 42 p11 := by rw [z1315, hE49]
                  rw [hE49] at z1316
                  rw [hE49] at z1317
                  have hF1320 := zOn_tr hF50 hF1311 zi_12
                  have b1321 := zv_46_2 hI1310 zc_164
                  have b1322 := zv_46_5 hI1310 zc_164
                  have b1323 := zv_46_97 hI1310 zc_164
                  have b1324 := zv_46_99 hI1310 zc_164
                  have b1325 := zv_46_100 hI1310 zc_164
                  have b1326 := zv_46_101 hI1310 zc_164
                  have b1327 := zv_46_51 hI1310 zc_164
                  have e1328 := hF1311 164 97 rfl
                  have e1329 := hF1311 164 99 rfl
                  have e1330 := hF1311 164 100 rfl
                  have e1331 := hF1311 164 101 rfl
                  have e1332 := hF1311 164 51 rfl
                  have n1333 := yLn_fr n64 hF1311
                  have y1334 : ybs s1307 = ybs s38 := ybs_fr hF1311
                  replace z1317 : yIm _ _ := z1317
                  replace z1318 : yIm _ _ := z1318
                  rcases yspl z1316 with ⟨rfl, c1335⟩ | ⟨rfl, c1335⟩
                  · clear z1316
                    have hE1336 : yqs f s1307 = yPx f p11 := hE1319.trans (if_pos c1335)
                    have lo1337 := yLo_0 n1333 hT12 hE13 h4 (Or.inl c1335)
                    have u1338 := yHb1 hE1336 lo1337.1
                    obtain ⟨w1339, w1340⟩ := z1318 rfl
                    refine zt_ifne (pc' := 131) (tgt := 140) hX dX12_qGoesOn_128 rfl (by decide) ⟨by omega, by omega⟩ (fun c1341 => ?_) (fun c1341 => ?_)
                    · refine zt_aload_n (pc' := 141) hX dX12_qGoesOn_140 rfl rfl ?_
                      refine zt_get (pc' := 144) (v := .ref (X.1.1 + 165)) hX dX12_qGoesOn_141 rfl zf_X12_7 (by decide) zc_164 zs_46 (zrf_of (zv_46_0 hI1310 zc_164)) ?_
                      refine zt_aload_n (pc' := 145) hX dX12_qGoesOn_144 rfl rfl ?_
                      have b1342 := zv_46_2 hI1310 zc_164
                      refine zt_get (pc' := 148) (v := .int (zI (s1307 164 2))) hX dX12_qGoesOn_145 rfl zf_X12_252 (by decide) zc_164 zs_46 rfl ?_
                      refine zt_iconst (pc' := 149) hX dX12_qGoesOn_148 rfl ?_
                      refine zt_isub (pc' := 150) hX dX12_qGoesOn_149 rfl ?_
                      refine zt_iald (pc' := 151) hX dX12_qGoesOn_150 rfl (by decide) zc_165 zs_47 (by decide) ⟨by omega, by omega⟩ ?_
                      generalize hv1343 : s1307 165 (((s1307 164 2) - 1).toNat) = v1343
                      have bv1343 : 0 ≤ v1343 ∧ v1343 ≤ 255 := hv1343 ▸ zv_47 hI1310 zc_165 _
                      have u1344 : v1343 = 42 := hv1343.symm.trans w1340
                      refine zt_bipush (pc' := 153) hX dX12_qGoesOn_151 rfl (by decide) (by decide) ?_
                      refine zt_icne (pc' := 156) (tgt := 160) hX dX12_qGoesOn_153 rfl (by decide) ⟨by omega, by omega⟩ ⟨by omega, by omega⟩ (fun c1345 => ?_) (fun c1345 => ?_)
                      · exact absurd c1345 (by omega)
                      · refine zt_iconst (pc' := 157) hX dX12_qGoesOn_156 rfl ?_
                        refine zt_goto (tgt := 161) hX dX12_qGoesOn_157 (by decide) ?_
                        refine zt_istore_n (pc' := 162) (lv' := [some (.ref (X.1.1 + 164)), some (.int (zI 3))]) hX dX12_qGoesOn_161 rfl hL (by decide) rfl ?_
                        have L_162_1353 : ∀ (N : Nat) (s1346 : zSto) (p1349 : yP), zInv s1346 → zOn zQ2 σ s1346 → yTq f s1346 → yqs f s1346 = p1349 → (s1346 164 97 + s1346 164 99 ≤ 1640 ∧ -1800 ≤ s1346 164 100 ∧ s1346 164 100 ≤ 10) → yLo cb rl f k (2, ystk k σ, yqs f σ) σ s1346 p1349 → ((s1346 164 99).toNat) < N → zF X s1346 162 [some (.ref (X.1.1 + 164)), some (.int (zI 3))] [] := by
                          intro N
                          induction N with
                          | zero =>
                            intro s1346 p1349 hI1347 hF1348 hT1350 hE1351 g1352 g1353 hm1355
                            exact absurd hm1355 (Nat.not_lt_zero _)
                          | succ N ih1356 =>
                            intro s1346 p1349 hI1347 hF1348 hT1350 hE1351 g1352 g1353 hm1355
                            have b1357 := zv_46_2 hI1347 zc_164
                            have b1358 := zv_46_5 hI1347 zc_164
                            have b1359 := zv_46_97 hI1347 zc_164
                            have b1360 := zv_46_99 hI1347 zc_164
                            have b1361 := zv_46_100 hI1347 zc_164
                            have b1362 := zv_46_101 hI1347 zc_164
                            have b1363 := zv_46_51 hI1347 zc_164
                            have q1364 := 0
                            · obtain ⟨u1365, u1366, u1367, u1368⟩ := yLo_n g1353 hT1350 hE1351
                              refine zt_aload_n (pc' := 163) hX dX12_qGoesOn_162 rfl rfl ?_
                              refine zt_iconst (pc' := 164) hX dX12_qGoesOn_163 rfl ?_
                              refine zt_cVz (pc' := 167) hX dX12_qGoesOn_164 rfl zm_yX12_qIsOn zw_31_23 zc_164 (by decide) zs_46 (q := (RX12, TX12, 108)) rfl rfl (yc_X12_qIsOn _ _ s1346 hI1347 3 ⟨by omega, by omega⟩) rfl rfl (Nat.le_of_ble_eq_true rfl) (by decide) (fun r1369 s1370 hr1371 hp1372 => ?_)
                              obtain ⟨rfl, q1373, q1374, z1375⟩ := hp1372
                              rcases ysps z1375 with ⟨rfl, c1376⟩ | rfl
                              · clear z1375
                                refine zt_ifne (pc' := 170) (tgt := 178) hX dX12_qGoesOn_167 rfl (by decide) ⟨by omega, by omega⟩ (fun c1377 => ?_) (fun c1377 => ?_)
                                · refine zt_aload_n (pc' := 179) hX dX12_qGoesOn_178 rfl rfl ?_
                                  refine zt_cVv (pc' := 182) hX dX12_qGoesOn_179 rfl zm_yX12_qDrops zw_31_4 zc_164 (by decide) zs_46 (q := (RX12, TX12, 108)) rfl rfl (yc_X12_qDrops _ _ s1346 hI1347 (by omega) (by omega)) rfl rfl (Nat.le_of_ble_eq_true rfl) (by decide) (fun r1378 s1379 hr1380 hp1381 => ?_)
                                  obtain ⟨hI1382, hF1383, z1384⟩ := hp1381
                                  have hF1385 := zOn_tr hF1348 hF1383 zi_d2
                                  have hT1386 := yTq_rk hT1350 (yRq_d hF1383)
                                  have hE1387 : yqs f s1379 = p1349 := (yqs_rk (yRq_d hF1383)).trans hE1351
                                  have b1388 := zv_46_2 hI1382 zc_164
                                  have b1389 := zv_46_5 hI1382 zc_164
                                  have b1390 := zv_46_97 hI1382 zc_164
                                  have b1391 := zv_46_99 hI1382 zc_164
                                  have b1392 := zv_46_100 hI1382 zc_164
                                  have b1393 := zv_46_101 hI1382 zc_164
                                  have b1394 := zv_46_51 hI1382 zc_164
                                  have e1395 := hF1383 164 2 rfl
                                  have e1396 := hF1383 164 5 rfl
                                  have e1397 := hF1383 164 100 rfl
                                  have e1398 := hF1383 164 101 rfl
                                  have e1399 := hF1383 164 51 rfl
                                  have lo1400 := yLo_d g1353 hbl c1376.1 c1376.2 (by decide) hF1383 z1384
                                  refine zt_goto (tgt := 162) hX dX12_qGoesOn_182 (by decide) ?_
                                  exact ih1356 s1379 p1349 hI1382 hF1385 hT1386 hE1387 (by omega) lo1400 (by omega)
                                · exact absurd c1377 (by omega)
                              · clear z1375
                                refine zt_ifne (pc' := 170) (tgt := 178) hX dX12_qGoesOn_167 rfl (by decide) ⟨by omega, by omega⟩ (fun c1401 => ?_) (fun c1401 => ?_)
                                · exact absurd c1401 (by omega)
                                · refine zt_aload_n (pc' := 171) hX dX12_qGoesOn_170 rfl rfl ?_
                                  refine zt_iconst (pc' := 172) hX dX12_qGoesOn_171 rfl ?_
                                  refine zt_cVz (pc' := 175) hX dX12_qGoesOn_172 rfl zm_yX12_qIsOn zw_31_23 zc_164 (by decide) zs_46 (q := (RX12, TX12, 108)) rfl rfl (yc_X12_qIsOn _ _ s1346 hI1347 4 ⟨by omega, by omega⟩) rfl rfl (Nat.le_of_ble_eq_true rfl) (by decide) (fun r1402 s1403 hr1404 hp1405 => ?_)
                                  obtain ⟨rfl, q1406, q1407, z1408⟩ := hp1405
                                  rcases ysps z1408 with ⟨rfl, c1409⟩ | rfl
                                  · clear z1408
                                    refine zt_ifeq (pc' := 178) (tgt := 185) hX dX12_qGoesOn_175 rfl (by decide) ⟨by omega, by omega⟩ (fun c1410 => ?_) (fun c1410 => ?_)
                                    · exact absurd c1410 (by omega)
                                    · refine zt_aload_n (pc' := 179) hX dX12_qGoesOn_178 rfl rfl ?_
                                      refine zt_cVv (pc' := 182) hX dX12_qGoesOn_179 rfl zm_yX12_qDrops zw_31_4 zc_164 (by decide) zs_46 (q := (RX12, TX12, 108)) rfl rfl (yc_X12_qDrops _ _ s1346 hI1347 (by omega) (by omega)) rfl rfl (Nat.le_of_ble_eq_true rfl) (by decide) (fun r1411 s1412 hr1413 hp1414 => ?_)
                                      obtain ⟨hI1415, hF1416, z1417⟩ := hp1414
                                      have hF1418 := zOn_tr hF1348 hF1416 zi_d2
                                      have hT1419 := yTq_rk hT1350 (yRq_d hF1416)
                                      have hE1420 : yqs f s1412 = p1349 := (yqs_rk (yRq_d hF1416)).trans hE1351
                                      have b1421 := zv_46_2 hI1415 zc_164
                                      have b1422 := zv_46_5 hI1415 zc_164
                                      have b1423 := zv_46_97 hI1415 zc_164
                                      have b1424 := zv_46_99 hI1415 zc_164
                                      have b1425 := zv_46_100 hI1415 zc_164
                                      have b1426 := zv_46_101 hI1415 zc_164
                                      have b1427 := zv_46_51 hI1415 zc_164
                                      have e1428 := hF1416 164 2 rfl
                                      have e1429 := hF1416 164 5 rfl
                                      have e1430 := hF1416 164 100 rfl
                                      have e1431 := hF1416 164 101 rfl
                                      have e1432 := hF1416 164 51 rfl
                                      have lo1433 := yLo_d g1353 hbl c1409.1 c1409.2 (by decide) hF1416 z1417
                                      refine zt_goto (tgt := 162) hX dX12_qGoesOn_182 (by decide) ?_
                                      exact ih1356 s1412 p1349 hI1415 hF1418 hT1419 hE1420 (by omega) lo1433 (by omega)
                                  · clear z1408
                                    refine zt_ifeq (pc' := 178) (tgt := 185) hX dX12_qGoesOn_175 rfl (by decide) ⟨by omega, by omega⟩ (fun c1434 => ?_) (fun c1434 => ?_)
                                    · refine zt_aload_n (pc' := 186) hX dX12_qGoesOn_185 rfl rfl ?_
                                      refine zt_get (pc' := 189) (v := .ref (X.1.1 + 235)) hX dX12_qGoesOn_186 rfl zf_X12_234 (by decide) zc_164 zs_46 (zrf_of (zv_46_98 hI1347 zc_164)) ?_
                                      refine zt_aload_n (pc' := 190) hX dX12_qGoesOn_189 rfl rfl ?_
                                      have b1435 := zv_46_99 hI1347 zc_164
                                      refine zt_get (pc' := 193) (v := .int (zI (s1346 164 99))) hX dX12_qGoesOn_190 rfl zf_X12_333 (by decide) zc_164 zs_46 rfl ?_
                                      refine zt_iload_n (pc' := 194) hX dX12_qGoesOn_193 rfl rfl ?_
                                      refine zt_iast (pc' := 195) hX dX12_qGoesOn_194 rfl (by decide) zc_235 zs_117 (by decide) ⟨by omega, by omega⟩ ?_
                                      generalize hs1437 : zset s1346 235 ((s1346 164 99).toNat) 3 = s1436
                                      have hI1438 : zInv s1436 := hs1437 ▸ zp_117 hI1347 zc_235 ((s1346 164 99).toNat) ⟨by omega, by omega⟩
                                      have hF1439 : zOn zQ2 σ s1436 := hs1437 ▸ zOn_set hF1348 (zq2_235 (by omega))
                                      have hT1440 := yTq_rk hT1350 (yRq_set hs1437 zc_235 (by decide))
                                      have hE1441 : yqs f s1436 = p1349 := (yqs_rk (yRq_set hs1437 zc_235 (by decide))).trans hE1351
                                      have e1442 : s1436 164 2 = s1346 164 2 := by rw [← hs1437]; exact zset_k (zne_r zc_164 zc_235 (by decide))
                                      have e1443 : s1436 164 5 = s1346 164 5 := by rw [← hs1437]; exact zset_k (zne_r zc_164 zc_235 (by decide))
                                      have e1444 : s1436 164 97 = s1346 164 97 := by rw [← hs1437]; exact zset_k (zne_r zc_164 zc_235 (by decide))
                                      have e1445 : s1436 164 99 = s1346 164 99 := by rw [← hs1437]; exact zset_k (zne_r zc_164 zc_235 (by decide))
                                      have e1446 : s1436 164 100 = s1346 164 100 := by rw [← hs1437]; exact zset_k (zne_r zc_164 zc_235 (by decide))
                                      have e1447 : s1436 164 101 = s1346 164 101 := by rw [← hs1437]; exact zset_k (zne_r zc_164 zc_235 (by decide))
                                      have e1448 : s1436 164 51 = s1346 164 51 := by rw [← hs1437]; exact zset_k (zne_r zc_164 zc_235 (by decide))
                                      refine zt_aload_n (pc' := 196) hX dX12_qGoesOn_195 rfl rfl ?_
                                      refine zt_dup (pc' := 197) hX dX12_qGoesOn_196 rfl rfl ?_
                                      have b1449 := zv_46_99 hI1438 zc_164
                                      refine zt_get (pc' := 200) (v := .int (zI (s1436 164 99))) hX dX12_qGoesOn_197 rfl zf_X12_333 (by decide) zc_164 zs_46 rfl ?_
                                      refine zt_iconst (pc' := 201) hX dX12_qGoesOn_200 rfl ?_
                                      refine zt_iadd (pc' := 202) hX dX12_qGoesOn_201 rfl ?_
                                      refine zt_put (pc' := 205) (x := ((s1436 164 99) + 1)) hX dX12_qGoesOn_202 rfl zf_X12_333 (by decide) zc_164 zs_46 (fun q hq => by cases hq; rfl) rfl rfl rfl ?_
                                      generalize hs1451 : zset s1436 164 99 ((s1436 164 99) + 1) = s1450
                                      have hI1452 : zInv s1450 := hs1451 ▸ zp_46_99 hI1438 zc_164 ⟨by omega, by omega⟩
                                      have hF1453 : zOn zQ2 σ s1450 := hs1451 ▸ zOn_set hF1439 (by decide)
                                      have e1454 : s1450 164 2 = s1436 164 2 := by rw [← hs1451]; exact zset_j (by decide)
                                      have e1455 : s1450 164 5 = s1436 164 5 := by rw [← hs1451]; exact zset_j (by decide)
                                      have e1456 : s1450 164 97 = s1436 164 97 := by rw [← hs1451]; exact zset_j (by decide)
                                      have e1457 : s1450 164 99 = ((s1436 164 99) + 1) := by rw [← hs1451]; exact zset_s
                                      have e1458 : s1450 164 100 = s1436 164 100 := by rw [← hs1451]; exact zset_j (by decide)
                                      have e1459 : s1450 164 101 = s1436 164 101 := by rw [← hs1451]; exact zset_j (by decide)
                                      have e1460 : s1450 164 51 = s1436 164 51 := by rw [← hs1451]; exact zset_j (by decide)
                                      have hT1461 := yTq_rk hT1440 (yRq_j hs1451 (by decide))
                                      have hE1462 : yqs f s1450 = p1349 := (yqs_rk (yRq_j hs1451 (by decide))).trans hE1441
                                      refine zt_iconst (pc' := 206) hX dX12_qGoesOn_205 rfl ?_
                                      exact zt_zret hX hR dX12_qGoesOn_206 ⟨by omega, by omega⟩ ⟨hI1452, hF1453, by omega, by omega, hT1461, (by rw [hE1462]; exact Or.inl ⟨rfl, yLo_p g1353 hT1461 hE1462 (by omega) (by decide) hs1437 hs1451 rfl (by omega)⟩), ⟨by omega, by omega, by omega⟩⟩
                                    · exact absurd c1434 (by omega)
                        exact L_162_1353 _ s1307 (yPx f p11) hI1310 hF1320 hT1314 hE1336 (by omega) lo1337 (Nat.lt_succ_self _)
                    · exact absurd c1341 (by omega)
                  · clear z1316
                    have hE1463 : yqs f s1307 = p11 := hE1319.trans (if_neg c1335)
                    have u1464 := z1317 ⟨n1333.1.1, rfl⟩
                    have u1465 := yHb1 hE1463 n1333.1.1
                    refine zt_ifne (pc' := 131) (tgt := 140) hX dX12_qGoesOn_128 rfl (by decide) ⟨by omega, by omega⟩ (fun c1466 => ?_) (fun c1466 => ?_)
                    · exact absurd c1466 (by omega)
                    · refine zt_aload_n (pc' := 132) hX dX12_qGoesOn_131 rfl rfl ?_
                      refine zt_bipush (pc' := 134) hX dX12_qGoesOn_132 rfl (by decide) (by decide) ?_
                      refine zt_cVz (pc' := 137) hX dX12_qGoesOn_134 rfl zm_yX12_takesSign zw_27_14 zc_164 (by decide) zs_46 (q := (RX12, TX12, 108)) rfl rfl (yc_X12_takesSign _ _ s1307 hI1310 47 ⟨by omega, by omega⟩ (by omega) f hT1314) rfl rfl (Nat.le_of_ble_eq_true rfl) (by decide) (fun r1467 s1468 hr1469 hp1470 => ?_)
                      obtain ⟨hI1471, hF1472, q1473, q1474, hT1475, z1476, z1477, z1478, z1479⟩ := hp1470
                      have hE1480 : yqs f s1468 = yPu f 47 p11 := by rw [z1476, hE1463]
                      rw [hE1463] at z1477
                      rw [hE1463] at z1478
                      have hF1481 := zOn_tr hF1320 hF1472 zi_12
                      have b1482 := zv_46_2 hI1471 zc_164
                      have b1483 := zv_46_5 hI1471 zc_164
                      have b1484 := zv_46_97 hI1471 zc_164
                      have b1485 := zv_46_99 hI1471 zc_164
                      have b1486 := zv_46_100 hI1471 zc_164
                      have b1487 := zv_46_101 hI1471 zc_164
                      have b1488 := zv_46_51 hI1471 zc_164
                      have e1489 := hF1472 164 97 rfl
                      have e1490 := hF1472 164 99 rfl
                      have e1491 := hF1472 164 100 rfl
                      have e1492 := hF1472 164 101 rfl
                      have e1493 := hF1472 164 51 rfl
                      have n1494 := yLn_fr n1333 hF1472
                      have y1495 : ybs s1468 = ybs s1307 := ybs_fr hF1472
                      replace z1478 : yIm _ _ := z1478
                      replace z1479 : yIm _ _ := z1479
                      rcases yspl z1477 with ⟨rfl, c1496⟩ | ⟨rfl, c1496⟩
                      · clear z1477
                        have hE1497 : yqs f s1468 = yPx f p11 := hE1480.trans (if_pos c1496)
                        have lo1498 := yLo_0 n1494 hT12 hE13 h4 (Or.inr (Or.inl c1496))
                        have u1499 := yHb1 hE1497 lo1498.1
                        obtain ⟨w1500, w1501⟩ := z1479 rfl
                        refine zt_ifeq (pc' := 140) (tgt := 207) hX dX12_qGoesOn_137 rfl (by decide) ⟨by omega, by omega⟩ (fun c1502 => ?_) (fun c1502 => ?_)
                        · exact absurd c1502 (by omega)
                        · refine zt_aload_n (pc' := 141) hX dX12_qGoesOn_140 rfl rfl ?_
                          refine zt_get (pc' := 144) (v := .ref (X.1.1 + 165)) hX dX12_qGoesOn_141 rfl zf_X12_7 (by decide) zc_164 zs_46 (zrf_of (zv_46_0 hI1471 zc_164)) ?_
                          refine zt_aload_n (pc' := 145) hX dX12_qGoesOn_144 rfl rfl ?_
                          have b1503 := zv_46_2 hI1471 zc_164
                          refine zt_get (pc' := 148) (v := .int (zI (s1468 164 2))) hX dX12_qGoesOn_145 rfl zf_X12_252 (by decide) zc_164 zs_46 rfl ?_
                          refine zt_iconst (pc' := 149) hX dX12_qGoesOn_148 rfl ?_
                          refine zt_isub (pc' := 150) hX dX12_qGoesOn_149 rfl ?_
                          refine zt_iald (pc' := 151) hX dX12_qGoesOn_150 rfl (by decide) zc_165 zs_47 (by decide) ⟨by omega, by omega⟩ ?_
                          generalize hv1504 : s1468 165 (((s1468 164 2) - 1).toNat) = v1504
                          have bv1504 : 0 ≤ v1504 ∧ v1504 ≤ 255 := hv1504 ▸ zv_47 hI1471 zc_165 _
                          have u1505 : v1504 = 47 := hv1504.symm.trans w1501
                          refine zt_bipush (pc' := 153) hX dX12_qGoesOn_151 rfl (by decide) (by decide) ?_
                          refine zt_icne (pc' := 156) (tgt := 160) hX dX12_qGoesOn_153 rfl (by decide) ⟨by omega, by omega⟩ ⟨by omega, by omega⟩ (fun c1506 => ?_) (fun c1506 => ?_)
                          · refine zt_iconst (pc' := 161) hX dX12_qGoesOn_160 rfl ?_
                            refine zt_istore_n (pc' := 162) (lv' := [some (.ref (X.1.1 + 164)), some (.int (zI 4))]) hX dX12_qGoesOn_161 rfl hL (by decide) rfl ?_
                            have L_162_1514 : ∀ (N : Nat) (s1507 : zSto) (p1510 : yP), zInv s1507 → zOn zQ2 σ s1507 → yTq f s1507 → yqs f s1507 = p1510 → (s1507 164 97 + s1507 164 99 ≤ 1640 ∧ -1800 ≤ s1507 164 100 ∧ s1507 164 100 ≤ 10) → yLo cb rl f k (2, ystk k σ, yqs f σ) σ s1507 p1510 → ((s1507 164 99).toNat) < N → zF X s1507 162 [some (.ref (X.1.1 + 164)), some (.int (zI 4))] [] := by
                              intro N
                              induction N with
                              | zero =>
                                intro s1507 p1510 hI1508 hF1509 hT1511 hE1512 g1513 g1514 hm1516
                                exact absurd hm1516 (Nat.not_lt_zero _)
                              | succ N ih1517 =>
                                intro s1507 p1510 hI1508 hF1509 hT1511 hE1512 g1513 g1514 hm1516
                                have b1518 := zv_46_2 hI1508 zc_164
                                have b1519 := zv_46_5 hI1508 zc_164
                                have b1520 := zv_46_97 hI1508 zc_164
                                have b1521 := zv_46_99 hI1508 zc_164
                                have b1522 := zv_46_100 hI1508 zc_164
                                have b1523 := zv_46_101 hI1508 zc_164
                                have b1524 := zv_46_51 hI1508 zc_164
                                have q1525 := 0
                                · obtain ⟨u1526, u1527, u1528, u1529⟩ := yLo_n g1514 hT1511 hE1512
                                  refine zt_aload_n (pc' := 163) hX dX12_qGoesOn_162 rfl rfl ?_
                                  refine zt_iconst (pc' := 164) hX dX12_qGoesOn_163 rfl ?_
                                  refine zt_cVz (pc' := 167) hX dX12_qGoesOn_164 rfl zm_yX12_qIsOn zw_31_23 zc_164 (by decide) zs_46 (q := (RX12, TX12, 108)) rfl rfl (yc_X12_qIsOn _ _ s1507 hI1508 3 ⟨by omega, by omega⟩) rfl rfl (Nat.le_of_ble_eq_true rfl) (by decide) (fun r1530 s1531 hr1532 hp1533 => ?_)
                                  obtain ⟨rfl, q1534, q1535, z1536⟩ := hp1533
                                  rcases ysps z1536 with ⟨rfl, c1537⟩ | rfl
                                  · clear z1536
                                    refine zt_ifne (pc' := 170) (tgt := 178) hX dX12_qGoesOn_167 rfl (by decide) ⟨by omega, by omega⟩ (fun c1538 => ?_) (fun c1538 => ?_)
                                    · refine zt_aload_n (pc' := 179) hX dX12_qGoesOn_178 rfl rfl ?_
                                      refine zt_cVv (pc' := 182) hX dX12_qGoesOn_179 rfl zm_yX12_qDrops zw_31_4 zc_164 (by decide) zs_46 (q := (RX12, TX12, 108)) rfl rfl (yc_X12_qDrops _ _ s1507 hI1508 (by omega) (by omega)) rfl rfl (Nat.le_of_ble_eq_true rfl) (by decide) (fun r1539 s1540 hr1541 hp1542 => ?_)
                                      obtain ⟨hI1543, hF1544, z1545⟩ := hp1542
                                      have hF1546 := zOn_tr hF1509 hF1544 zi_d2
                                      have hT1547 := yTq_rk hT1511 (yRq_d hF1544)
                                      have hE1548 : yqs f s1540 = p1510 := (yqs_rk (yRq_d hF1544)).trans hE1512
                                      have b1549 := zv_46_2 hI1543 zc_164
                                      have b1550 := zv_46_5 hI1543 zc_164
                                      have b1551 := zv_46_97 hI1543 zc_164
                                      have b1552 := zv_46_99 hI1543 zc_164
                                      have b1553 := zv_46_100 hI1543 zc_164
                                      have b1554 := zv_46_101 hI1543 zc_164
                                      have b1555 := zv_46_51 hI1543 zc_164
                                      have e1556 := hF1544 164 2 rfl
                                      have e1557 := hF1544 164 5 rfl
                                      have e1558 := hF1544 164 100 rfl
                                      have e1559 := hF1544 164 101 rfl
                                      have e1560 := hF1544 164 51 rfl
                                      have lo1561 := yLo_d g1514 hbl c1537.1 c1537.2 (by decide) hF1544 z1545
                                      refine zt_goto (tgt := 162) hX dX12_qGoesOn_182 (by decide) ?_
                                      exact ih1517 s1540 p1510 hI1543 hF1546 hT1547 hE1548 (by omega) lo1561 (by omega)
                                    · exact absurd c1538 (by omega)
                                  · clear z1536
                                    refine zt_ifne (pc' := 170) (tgt := 178) hX dX12_qGoesOn_167 rfl (by decide) ⟨by omega, by omega⟩ (fun c1562 => ?_) (fun c1562 => ?_)
                                    · exact absurd c1562 (by omega)
                                    · refine zt_aload_n (pc' := 171) hX dX12_qGoesOn_170 rfl rfl ?_
                                      refine zt_iconst (pc' := 172) hX dX12_qGoesOn_171 rfl ?_
                                      refine zt_cVz (pc' := 175) hX dX12_qGoesOn_172 rfl zm_yX12_qIsOn zw_31_23 zc_164 (by decide) zs_46 (q := (RX12, TX12, 108)) rfl rfl (yc_X12_qIsOn _ _ s1507 hI1508 4 ⟨by omega, by omega⟩) rfl rfl (Nat.le_of_ble_eq_true rfl) (by decide) (fun r1563 s1564 hr1565 hp1566 => ?_)
                                      obtain ⟨rfl, q1567, q1568, z1569⟩ := hp1566
                                      rcases ysps z1569 with ⟨rfl, c1570⟩ | rfl
                                      · clear z1569
                                        refine zt_ifeq (pc' := 178) (tgt := 185) hX dX12_qGoesOn_175 rfl (by decide) ⟨by omega, by omega⟩ (fun c1571 => ?_) (fun c1571 => ?_)
                                        · exact absurd c1571 (by omega)
                                        · refine zt_aload_n (pc' := 179) hX dX12_qGoesOn_178 rfl rfl ?_
                                          refine zt_cVv (pc' := 182) hX dX12_qGoesOn_179 rfl zm_yX12_qDrops zw_31_4 zc_164 (by decide) zs_46 (q := (RX12, TX12, 108)) rfl rfl (yc_X12_qDrops _ _ s1507 hI1508 (by omega) (by omega)) rfl rfl (Nat.le_of_ble_eq_true rfl) (by decide) (fun r1572 s1573 hr1574 hp1575 => ?_)
                                          obtain ⟨hI1576, hF1577, z1578⟩ := hp1575
                                          have hF1579 := zOn_tr hF1509 hF1577 zi_d2
                                          have hT1580 := yTq_rk hT1511 (yRq_d hF1577)
                                          have hE1581 : yqs f s1573 = p1510 := (yqs_rk (yRq_d hF1577)).trans hE1512
                                          have b1582 := zv_46_2 hI1576 zc_164
                                          have b1583 := zv_46_5 hI1576 zc_164
                                          have b1584 := zv_46_97 hI1576 zc_164
                                          have b1585 := zv_46_99 hI1576 zc_164
                                          have b1586 := zv_46_100 hI1576 zc_164
                                          have b1587 := zv_46_101 hI1576 zc_164
                                          have b1588 := zv_46_51 hI1576 zc_164
                                          have e1589 := hF1577 164 2 rfl
                                          have e1590 := hF1577 164 5 rfl
                                          have e1591 := hF1577 164 100 rfl
                                          have e1592 := hF1577 164 101 rfl
                                          have e1593 := hF1577 164 51 rfl
                                          have lo1594 := yLo_d g1514 hbl c1570.1 c1570.2 (by decide) hF1577 z1578
                                          refine zt_goto (tgt := 162) hX dX12_qGoesOn_182 (by decide) ?_
                                          exact ih1517 s1573 p1510 hI1576 hF1579 hT1580 hE1581 (by omega) lo1594 (by omega)
                                      · clear z1569
                                        refine zt_ifeq (pc' := 178) (tgt := 185) hX dX12_qGoesOn_175 rfl (by decide) ⟨by omega, by omega⟩ (fun c1595 => ?_) (fun c1595 => ?_)
                                        · refine zt_aload_n (pc' := 186) hX dX12_qGoesOn_185 rfl rfl ?_
                                          refine zt_get (pc' := 189) (v := .ref (X.1.1 + 235)) hX dX12_qGoesOn_186 rfl zf_X12_234 (by decide) zc_164 zs_46 (zrf_of (zv_46_98 hI1508 zc_164)) ?_
                                          refine zt_aload_n (pc' := 190) hX dX12_qGoesOn_189 rfl rfl ?_
                                          have b1596 := zv_46_99 hI1508 zc_164
                                          refine zt_get (pc' := 193) (v := .int (zI (s1507 164 99))) hX dX12_qGoesOn_190 rfl zf_X12_333 (by decide) zc_164 zs_46 rfl ?_
                                          refine zt_iload_n (pc' := 194) hX dX12_qGoesOn_193 rfl rfl ?_
                                          refine zt_iast (pc' := 195) hX dX12_qGoesOn_194 rfl (by decide) zc_235 zs_117 (by decide) ⟨by omega, by omega⟩ ?_
                                          generalize hs1598 : zset s1507 235 ((s1507 164 99).toNat) 4 = s1597
                                          have hI1599 : zInv s1597 := hs1598 ▸ zp_117 hI1508 zc_235 ((s1507 164 99).toNat) ⟨by omega, by omega⟩
                                          have hF1600 : zOn zQ2 σ s1597 := hs1598 ▸ zOn_set hF1509 (zq2_235 (by omega))
                                          have hT1601 := yTq_rk hT1511 (yRq_set hs1598 zc_235 (by decide))
                                          have hE1602 : yqs f s1597 = p1510 := (yqs_rk (yRq_set hs1598 zc_235 (by decide))).trans hE1512
                                          have e1603 : s1597 164 2 = s1507 164 2 := by rw [← hs1598]; exact zset_k (zne_r zc_164 zc_235 (by decide))
                                          have e1604 : s1597 164 5 = s1507 164 5 := by rw [← hs1598]; exact zset_k (zne_r zc_164 zc_235 (by decide))
                                          have e1605 : s1597 164 97 = s1507 164 97 := by rw [← hs1598]; exact zset_k (zne_r zc_164 zc_235 (by decide))
                                          have e1606 : s1597 164 99 = s1507 164 99 := by rw [← hs1598]; exact zset_k (zne_r zc_164 zc_235 (by decide))
                                          have e1607 : s1597 164 100 = s1507 164 100 := by rw [← hs1598]; exact zset_k (zne_r zc_164 zc_235 (by decide))
                                          have e1608 : s1597 164 101 = s1507 164 101 := by rw [← hs1598]; exact zset_k (zne_r zc_164 zc_235 (by decide))
                                          have e1609 : s1597 164 51 = s1507 164 51 := by rw [← hs1598]; exact zset_k (zne_r zc_164 zc_235 (by decide))
                                          refine zt_aload_n (pc' := 196) hX dX12_qGoesOn_195 rfl rfl ?_
                                          refine zt_dup (pc' := 197) hX dX12_qGoesOn_196 rfl rfl ?_
                                          have b1610 := zv_46_99 hI1599 zc_164
                                          refine zt_get (pc' := 200) (v := .int (zI (s1597 164 99))) hX dX12_qGoesOn_197 rfl zf_X12_333 (by decide) zc_164 zs_46 rfl ?_
                                          refine zt_iconst (pc' := 201) hX dX12_qGoesOn_200 rfl ?_
                                          refine zt_iadd (pc' := 202) hX dX12_qGoesOn_201 rfl ?_
                                          refine zt_put (pc' := 205) (x := ((s1597 164 99) + 1)) hX dX12_qGoesOn_202 rfl zf_X12_333 (by decide) zc_164 zs_46 (fun q hq => by cases hq; rfl) rfl rfl rfl ?_
                                          generalize hs1612 : zset s1597 164 99 ((s1597 164 99) + 1) = s1611
                                          have hI1613 : zInv s1611 := hs1612 ▸ zp_46_99 hI1599 zc_164 ⟨by omega, by omega⟩
                                          have hF1614 : zOn zQ2 σ s1611 := hs1612 ▸ zOn_set hF1600 (by decide)
                                          have e1615 : s1611 164 2 = s1597 164 2 := by rw [← hs1612]; exact zset_j (by decide)
                                          have e1616 : s1611 164 5 = s1597 164 5 := by rw [← hs1612]; exact zset_j (by decide)
                                          have e1617 : s1611 164 97 = s1597 164 97 := by rw [← hs1612]; exact zset_j (by decide)
                                          have e1618 : s1611 164 99 = ((s1597 164 99) + 1) := by rw [← hs1612]; exact zset_s
                                          have e1619 : s1611 164 100 = s1597 164 100 := by rw [← hs1612]; exact zset_j (by decide)
                                          have e1620 : s1611 164 101 = s1597 164 101 := by rw [← hs1612]; exact zset_j (by decide)
                                          have e1621 : s1611 164 51 = s1597 164 51 := by rw [← hs1612]; exact zset_j (by decide)
                                          have hT1622 := yTq_rk hT1601 (yRq_j hs1612 (by decide))
                                          have hE1623 : yqs f s1611 = p1510 := (yqs_rk (yRq_j hs1612 (by decide))).trans hE1602
                                          refine zt_iconst (pc' := 206) hX dX12_qGoesOn_205 rfl ?_
                                          exact zt_zret hX hR dX12_qGoesOn_206 ⟨by omega, by omega⟩ ⟨hI1613, hF1614, by omega, by omega, hT1622, (by rw [hE1623]; exact Or.inl ⟨rfl, yLo_p g1514 hT1622 hE1623 (by omega) (by decide) hs1598 hs1612 rfl (by omega)⟩), ⟨by omega, by omega, by omega⟩⟩
                                        · exact absurd c1595 (by omega)
                            exact L_162_1514 _ s1468 (yPx f p11) hI1471 hF1481 hT1475 hE1497 (by omega) lo1498 (Nat.lt_succ_self _)
                          · exact absurd c1506 (by omega)
                      · clear z1477
                        have hE1624 : yqs f s1468 = p11 := hE1480.trans (if_neg c1496)
                        have u1625 := z1478 ⟨n1494.1.1, rfl⟩
                        have u1626 := yHb1 hE1624 n1494.1.1
                        refine zt_ifeq (pc' := 140) (tgt := 207) hX dX12_qGoesOn_137 rfl (by decide) ⟨by omega, by omega⟩ (fun c1627 => ?_) (fun c1627 => ?_)
                        · refine zt_aload_n (pc' := 208) hX dX12_qGoesOn_207 rfl rfl ?_
                          refine zt_bipush (pc' := 210) hX dX12_qGoesOn_208 rfl (by decide) (by decide) ?_
                          refine zt_cVz (pc' := 213) hX dX12_qGoesOn_210 rfl zm_yX12_takesSign zw_27_14 zc_164 (by decide) zs_46 (q := (RX12, TX12, 108)) rfl rfl (yc_X12_takesSign _ _ s1468 hI1471 43 ⟨by omega, by omega⟩ (by omega) f hT1475) rfl rfl (Nat.le_of_ble_eq_true rfl) (by decide) (fun r1628 s1629 hr1630 hp1631 => ?_)
                          obtain ⟨hI1632, hF1633, q1634, q1635, hT1636, z1637, z1638, z1639, z1640⟩ := hp1631
                          have hE1641 : yqs f s1629 = yPu f 43 p11 := by rw [z1637, hE1624]
                          rw [hE1624] at z1638
                          rw [hE1624] at z1639
                          have hF1642 := zOn_tr hF1481 hF1633 zi_12
                          have b1643 := zv_46_2 hI1632 zc_164
                          have b1644 := zv_46_5 hI1632 zc_164
                          have b1645 := zv_46_97 hI1632 zc_164
                          have b1646 := zv_46_99 hI1632 zc_164
                          have b1647 := zv_46_100 hI1632 zc_164
                          have b1648 := zv_46_101 hI1632 zc_164
                          have b1649 := zv_46_51 hI1632 zc_164
                          have e1650 := hF1633 164 97 rfl
                          have e1651 := hF1633 164 99 rfl
                          have e1652 := hF1633 164 100 rfl
                          have e1653 := hF1633 164 101 rfl
                          have e1654 := hF1633 164 51 rfl
                          have n1655 := yLn_fr n1494 hF1633
                          have y1656 : ybs s1629 = ybs s1468 := ybs_fr hF1633
                          replace z1639 : yIm _ _ := z1639
                          replace z1640 : yIm _ _ := z1640
                          rcases yspl z1638 with ⟨rfl, c1657⟩ | ⟨rfl, c1657⟩
                          · clear z1638
                            have hE1658 : yqs f s1629 = yPx f p11 := hE1641.trans (if_pos c1657)
                            have lo1659 := yLo_0 n1655 hT12 hE13 h4 (Or.inr (Or.inr (Or.inl c1657)))
                            have u1660 := yHb1 hE1658 lo1659.1
                            obtain ⟨w1661, w1662⟩ := z1640 rfl
                            refine zt_ifne (pc' := 216) (tgt := 225) hX dX12_qGoesOn_213 rfl (by decide) ⟨by omega, by omega⟩ (fun c1663 => ?_) (fun c1663 => ?_)
                            · refine zt_aload_n (pc' := 226) hX dX12_qGoesOn_225 rfl rfl ?_
                              refine zt_get (pc' := 229) (v := .ref (X.1.1 + 165)) hX dX12_qGoesOn_226 rfl zf_X12_7 (by decide) zc_164 zs_46 (zrf_of (zv_46_0 hI1632 zc_164)) ?_
                              refine zt_aload_n (pc' := 230) hX dX12_qGoesOn_229 rfl rfl ?_
                              have b1664 := zv_46_2 hI1632 zc_164
                              refine zt_get (pc' := 233) (v := .int (zI (s1629 164 2))) hX dX12_qGoesOn_230 rfl zf_X12_252 (by decide) zc_164 zs_46 rfl ?_
                              refine zt_iconst (pc' := 234) hX dX12_qGoesOn_233 rfl ?_
                              refine zt_isub (pc' := 235) hX dX12_qGoesOn_234 rfl ?_
                              refine zt_iald (pc' := 236) hX dX12_qGoesOn_235 rfl (by decide) zc_165 zs_47 (by decide) ⟨by omega, by omega⟩ ?_
                              generalize hv1665 : s1629 165 (((s1629 164 2) - 1).toNat) = v1665
                              have bv1665 : 0 ≤ v1665 ∧ v1665 ≤ 255 := hv1665 ▸ zv_47 hI1632 zc_165 _
                              have u1666 : v1665 = 43 := hv1665.symm.trans w1662
                              refine zt_bipush (pc' := 238) hX dX12_qGoesOn_236 rfl (by decide) (by decide) ?_
                              refine zt_icne (pc' := 241) (tgt := 245) hX dX12_qGoesOn_238 rfl (by decide) ⟨by omega, by omega⟩ ⟨by omega, by omega⟩ (fun c1667 => ?_) (fun c1667 => ?_)
                              · exact absurd c1667 (by omega)
                              · refine zt_iconst (pc' := 242) hX dX12_qGoesOn_241 rfl ?_
                                refine zt_goto (tgt := 246) hX dX12_qGoesOn_242 (by decide) ?_
                                refine zt_istore_n (pc' := 247) (lv' := [some (.ref (X.1.1 + 164)), some (.int (zI 1))]) hX dX12_qGoesOn_246 rfl hL (by decide) rfl ?_
                                have L_247_1675 : ∀ (N : Nat) (s1668 : zSto) (p1671 : yP), zInv s1668 → zOn zQ2 σ s1668 → yTq f s1668 → yqs f s1668 = p1671 → (s1668 164 97 + s1668 164 99 ≤ 1640 ∧ -1800 ≤ s1668 164 100 ∧ s1668 164 100 ≤ 10) → yLo cb rl f k (2, ystk k σ, yqs f σ) σ s1668 p1671 → ((s1668 164 99).toNat) < N → zF X s1668 247 [some (.ref (X.1.1 + 164)), some (.int (zI 1))] [] := by
                                  intro N
                                  induction N with
                                  | zero =>
                                    intro s1668 p1671 hI1669 hF1670 hT1672 hE1673 g1674 g1675 hm1677
                                    exact absurd hm1677 (Nat.not_lt_zero _)
                                  | succ N ih1678 =>
                                    intro s1668 p1671 hI1669 hF1670 hT1672 hE1673 g1674 g1675 hm1677
                                    have b1679 := zv_46_2 hI1669 zc_164
                                    have b1680 := zv_46_5 hI1669 zc_164
                                    have b1681 := zv_46_97 hI1669 zc_164
                                    have b1682 := zv_46_99 hI1669 zc_164
                                    have b1683 := zv_46_100 hI1669 zc_164
                                    have b1684 := zv_46_101 hI1669 zc_164
                                    have b1685 := zv_46_51 hI1669 zc_164
                                    have q1686 := 0
                                    · obtain ⟨u1687, u1688, u1689, u1690⟩ := yLo_n g1675 hT1672 hE1673
                                      refine zt_aload_n (pc' := 248) hX dX12_qGoesOn_247 rfl rfl ?_
                                      refine zt_iconst (pc' := 249) hX dX12_qGoesOn_248 rfl ?_
                                      refine zt_cVz (pc' := 252) hX dX12_qGoesOn_249 rfl zm_yX12_qIsOn zw_31_23 zc_164 (by decide) zs_46 (q := (RX12, TX12, 108)) rfl rfl (yc_X12_qIsOn _ _ s1668 hI1669 3 ⟨by omega, by omega⟩) rfl rfl (Nat.le_of_ble_eq_true rfl) (by decide) (fun r1691 s1692 hr1693 hp1694 => ?_)
                                      obtain ⟨rfl, q1695, q1696, z1697⟩ := hp1694
                                      rcases ysps z1697 with ⟨rfl, c1698⟩ | rfl
                                      · clear z1697
                                        refine zt_ifne (pc' := 255) (tgt := 279) hX dX12_qGoesOn_252 rfl (by decide) ⟨by omega, by omega⟩ (fun c1699 => ?_) (fun c1699 => ?_)
                                        · refine zt_aload_n (pc' := 280) hX dX12_qGoesOn_279 rfl rfl ?_
                                          refine zt_cVv (pc' := 283) hX dX12_qGoesOn_280 rfl zm_yX12_qDrops zw_31_4 zc_164 (by decide) zs_46 (q := (RX12, TX12, 108)) rfl rfl (yc_X12_qDrops _ _ s1668 hI1669 (by omega) (by omega)) rfl rfl (Nat.le_of_ble_eq_true rfl) (by decide) (fun r1700 s1701 hr1702 hp1703 => ?_)
                                          obtain ⟨hI1704, hF1705, z1706⟩ := hp1703
                                          have hF1707 := zOn_tr hF1670 hF1705 zi_d2
                                          have hT1708 := yTq_rk hT1672 (yRq_d hF1705)
                                          have hE1709 : yqs f s1701 = p1671 := (yqs_rk (yRq_d hF1705)).trans hE1673
                                          have b1710 := zv_46_2 hI1704 zc_164
                                          have b1711 := zv_46_5 hI1704 zc_164
                                          have b1712 := zv_46_97 hI1704 zc_164
                                          have b1713 := zv_46_99 hI1704 zc_164
                                          have b1714 := zv_46_100 hI1704 zc_164
                                          have b1715 := zv_46_101 hI1704 zc_164
                                          have b1716 := zv_46_51 hI1704 zc_164
                                          have e1717 := hF1705 164 2 rfl
                                          have e1718 := hF1705 164 5 rfl
                                          have e1719 := hF1705 164 100 rfl
                                          have e1720 := hF1705 164 101 rfl
                                          have e1721 := hF1705 164 51 rfl
                                          have lo1722 := yLo_d g1675 hbl c1698.1 c1698.2 (by decide) hF1705 z1706
                                          refine zt_goto (tgt := 247) hX dX12_qGoesOn_283 (by decide) ?_
                                          exact ih1678 s1701 p1671 hI1704 hF1707 hT1708 hE1709 (by omega) lo1722 (by omega)
                                        · exact absurd c1699 (by omega)
                                      · clear z1697
                                        refine zt_ifne (pc' := 255) (tgt := 279) hX dX12_qGoesOn_252 rfl (by decide) ⟨by omega, by omega⟩ (fun c1723 => ?_) (fun c1723 => ?_)
                                        · exact absurd c1723 (by omega)
                                        · refine zt_aload_n (pc' := 256) hX dX12_qGoesOn_255 rfl rfl ?_
                                          refine zt_iconst (pc' := 257) hX dX12_qGoesOn_256 rfl ?_
                                          refine zt_cVz (pc' := 260) hX dX12_qGoesOn_257 rfl zm_yX12_qIsOn zw_31_23 zc_164 (by decide) zs_46 (q := (RX12, TX12, 108)) rfl rfl (yc_X12_qIsOn _ _ s1668 hI1669 4 ⟨by omega, by omega⟩) rfl rfl (Nat.le_of_ble_eq_true rfl) (by decide) (fun r1724 s1725 hr1726 hp1727 => ?_)
                                          obtain ⟨rfl, q1728, q1729, z1730⟩ := hp1727
                                          rcases ysps z1730 with ⟨rfl, c1731⟩ | rfl
                                          · clear z1730
                                            refine zt_ifne (pc' := 263) (tgt := 279) hX dX12_qGoesOn_260 rfl (by decide) ⟨by omega, by omega⟩ (fun c1732 => ?_) (fun c1732 => ?_)
                                            · refine zt_aload_n (pc' := 280) hX dX12_qGoesOn_279 rfl rfl ?_
                                              refine zt_cVv (pc' := 283) hX dX12_qGoesOn_280 rfl zm_yX12_qDrops zw_31_4 zc_164 (by decide) zs_46 (q := (RX12, TX12, 108)) rfl rfl (yc_X12_qDrops _ _ s1668 hI1669 (by omega) (by omega)) rfl rfl (Nat.le_of_ble_eq_true rfl) (by decide) (fun r1733 s1734 hr1735 hp1736 => ?_)
                                              obtain ⟨hI1737, hF1738, z1739⟩ := hp1736
                                              have hF1740 := zOn_tr hF1670 hF1738 zi_d2
                                              have hT1741 := yTq_rk hT1672 (yRq_d hF1738)
                                              have hE1742 : yqs f s1734 = p1671 := (yqs_rk (yRq_d hF1738)).trans hE1673
                                              have b1743 := zv_46_2 hI1737 zc_164
                                              have b1744 := zv_46_5 hI1737 zc_164
                                              have b1745 := zv_46_97 hI1737 zc_164
                                              have b1746 := zv_46_99 hI1737 zc_164
                                              have b1747 := zv_46_100 hI1737 zc_164
                                              have b1748 := zv_46_101 hI1737 zc_164
                                              have b1749 := zv_46_51 hI1737 zc_164
                                              have e1750 := hF1738 164 2 rfl
                                              have e1751 := hF1738 164 5 rfl
                                              have e1752 := hF1738 164 100 rfl
                                              have e1753 := hF1738 164 101 rfl
                                              have e1754 := hF1738 164 51 rfl
                                              have lo1755 := yLo_d g1675 hbl c1731.1 c1731.2 (by decide) hF1738 z1739
                                              refine zt_goto (tgt := 247) hX dX12_qGoesOn_283 (by decide) ?_
                                              exact ih1678 s1734 p1671 hI1737 hF1740 hT1741 hE1742 (by omega) lo1755 (by omega)
                                            · exact absurd c1732 (by omega)
                                          · clear z1730
                                            refine zt_ifne (pc' := 263) (tgt := 279) hX dX12_qGoesOn_260 rfl (by decide) ⟨by omega, by omega⟩ (fun c1756 => ?_) (fun c1756 => ?_)
                                            · exact absurd c1756 (by omega)
                                            · refine zt_aload_n (pc' := 264) hX dX12_qGoesOn_263 rfl rfl ?_
                                              refine zt_iconst (pc' := 265) hX dX12_qGoesOn_264 rfl ?_
                                              refine zt_cVz (pc' := 268) hX dX12_qGoesOn_265 rfl zm_yX12_qIsOn zw_31_23 zc_164 (by decide) zs_46 (q := (RX12, TX12, 108)) rfl rfl (yc_X12_qIsOn _ _ s1668 hI1669 1 ⟨by omega, by omega⟩) rfl rfl (Nat.le_of_ble_eq_true rfl) (by decide) (fun r1757 s1758 hr1759 hp1760 => ?_)
                                              obtain ⟨rfl, q1761, q1762, z1763⟩ := hp1760
                                              rcases ysps z1763 with ⟨rfl, c1764⟩ | rfl
                                              · clear z1763
                                                refine zt_ifne (pc' := 271) (tgt := 279) hX dX12_qGoesOn_268 rfl (by decide) ⟨by omega, by omega⟩ (fun c1765 => ?_) (fun c1765 => ?_)
                                                · refine zt_aload_n (pc' := 280) hX dX12_qGoesOn_279 rfl rfl ?_
                                                  refine zt_cVv (pc' := 283) hX dX12_qGoesOn_280 rfl zm_yX12_qDrops zw_31_4 zc_164 (by decide) zs_46 (q := (RX12, TX12, 108)) rfl rfl (yc_X12_qDrops _ _ s1668 hI1669 (by omega) (by omega)) rfl rfl (Nat.le_of_ble_eq_true rfl) (by decide) (fun r1766 s1767 hr1768 hp1769 => ?_)
                                                  obtain ⟨hI1770, hF1771, z1772⟩ := hp1769
                                                  have hF1773 := zOn_tr hF1670 hF1771 zi_d2
                                                  have hT1774 := yTq_rk hT1672 (yRq_d hF1771)
                                                  have hE1775 : yqs f s1767 = p1671 := (yqs_rk (yRq_d hF1771)).trans hE1673
                                                  have b1776 := zv_46_2 hI1770 zc_164
                                                  have b1777 := zv_46_5 hI1770 zc_164
                                                  have b1778 := zv_46_97 hI1770 zc_164
                                                  have b1779 := zv_46_99 hI1770 zc_164
                                                  have b1780 := zv_46_100 hI1770 zc_164
                                                  have b1781 := zv_46_101 hI1770 zc_164
                                                  have b1782 := zv_46_51 hI1770 zc_164
                                                  have e1783 := hF1771 164 2 rfl
                                                  have e1784 := hF1771 164 5 rfl
                                                  have e1785 := hF1771 164 100 rfl
                                                  have e1786 := hF1771 164 101 rfl
                                                  have e1787 := hF1771 164 51 rfl
                                                  have lo1788 := yLo_d g1675 hbl c1764.1 c1764.2 (by decide) hF1771 z1772
                                                  refine zt_goto (tgt := 247) hX dX12_qGoesOn_283 (by decide) ?_
                                                  exact ih1678 s1767 p1671 hI1770 hF1773 hT1774 hE1775 (by omega) lo1788 (by omega)
                                                · exact absurd c1765 (by omega)
                                              · clear z1763
                                                refine zt_ifne (pc' := 271) (tgt := 279) hX dX12_qGoesOn_268 rfl (by decide) ⟨by omega, by omega⟩ (fun c1789 => ?_) (fun c1789 => ?_)
                                                · exact absurd c1789 (by omega)
                                                · refine zt_aload_n (pc' := 272) hX dX12_qGoesOn_271 rfl rfl ?_
                                                  refine zt_iconst (pc' := 273) hX dX12_qGoesOn_272 rfl ?_
                                                  refine zt_cVz (pc' := 276) hX dX12_qGoesOn_273 rfl zm_yX12_qIsOn zw_31_23 zc_164 (by decide) zs_46 (q := (RX12, TX12, 108)) rfl rfl (yc_X12_qIsOn _ _ s1668 hI1669 2 ⟨by omega, by omega⟩) rfl rfl (Nat.le_of_ble_eq_true rfl) (by decide) (fun r1790 s1791 hr1792 hp1793 => ?_)
                                                  obtain ⟨rfl, q1794, q1795, z1796⟩ := hp1793
                                                  rcases ysps z1796 with ⟨rfl, c1797⟩ | rfl
                                                  · clear z1796
                                                    refine zt_ifeq (pc' := 279) (tgt := 286) hX dX12_qGoesOn_276 rfl (by decide) ⟨by omega, by omega⟩ (fun c1798 => ?_) (fun c1798 => ?_)
                                                    · exact absurd c1798 (by omega)
                                                    · refine zt_aload_n (pc' := 280) hX dX12_qGoesOn_279 rfl rfl ?_
                                                      refine zt_cVv (pc' := 283) hX dX12_qGoesOn_280 rfl zm_yX12_qDrops zw_31_4 zc_164 (by decide) zs_46 (q := (RX12, TX12, 108)) rfl rfl (yc_X12_qDrops _ _ s1668 hI1669 (by omega) (by omega)) rfl rfl (Nat.le_of_ble_eq_true rfl) (by decide) (fun r1799 s1800 hr1801 hp1802 => ?_)
                                                      obtain ⟨hI1803, hF1804, z1805⟩ := hp1802
                                                      have hF1806 := zOn_tr hF1670 hF1804 zi_d2
                                                      have hT1807 := yTq_rk hT1672 (yRq_d hF1804)
                                                      have hE1808 : yqs f s1800 = p1671 := (yqs_rk (yRq_d hF1804)).trans hE1673
                                                      have b1809 := zv_46_2 hI1803 zc_164
                                                      have b1810 := zv_46_5 hI1803 zc_164
                                                      have b1811 := zv_46_97 hI1803 zc_164
                                                      have b1812 := zv_46_99 hI1803 zc_164
                                                      have b1813 := zv_46_100 hI1803 zc_164
                                                      have b1814 := zv_46_101 hI1803 zc_164
                                                      have b1815 := zv_46_51 hI1803 zc_164
                                                      have e1816 := hF1804 164 2 rfl
                                                      have e1817 := hF1804 164 5 rfl
                                                      have e1818 := hF1804 164 100 rfl
                                                      have e1819 := hF1804 164 101 rfl
                                                      have e1820 := hF1804 164 51 rfl
                                                      have lo1821 := yLo_d g1675 hbl c1797.1 c1797.2 (by decide) hF1804 z1805
                                                      refine zt_goto (tgt := 247) hX dX12_qGoesOn_283 (by decide) ?_
                                                      exact ih1678 s1800 p1671 hI1803 hF1806 hT1807 hE1808 (by omega) lo1821 (by omega)
                                                  · clear z1796
                                                    refine zt_ifeq (pc' := 279) (tgt := 286) hX dX12_qGoesOn_276 rfl (by decide) ⟨by omega, by omega⟩ (fun c1822 => ?_) (fun c1822 => ?_)
                                                    · refine zt_aload_n (pc' := 287) hX dX12_qGoesOn_286 rfl rfl ?_
                                                      refine zt_get (pc' := 290) (v := .ref (X.1.1 + 235)) hX dX12_qGoesOn_287 rfl zf_X12_234 (by decide) zc_164 zs_46 (zrf_of (zv_46_98 hI1669 zc_164)) ?_
                                                      refine zt_aload_n (pc' := 291) hX dX12_qGoesOn_290 rfl rfl ?_
                                                      have b1823 := zv_46_99 hI1669 zc_164
                                                      refine zt_get (pc' := 294) (v := .int (zI (s1668 164 99))) hX dX12_qGoesOn_291 rfl zf_X12_333 (by decide) zc_164 zs_46 rfl ?_
                                                      refine zt_iload_n (pc' := 295) hX dX12_qGoesOn_294 rfl rfl ?_
                                                      refine zt_iast (pc' := 296) hX dX12_qGoesOn_295 rfl (by decide) zc_235 zs_117 (by decide) ⟨by omega, by omega⟩ ?_
                                                      generalize hs1825 : zset s1668 235 ((s1668 164 99).toNat) 1 = s1824
                                                      have hI1826 : zInv s1824 := hs1825 ▸ zp_117 hI1669 zc_235 ((s1668 164 99).toNat) ⟨by omega, by omega⟩
                                                      have hF1827 : zOn zQ2 σ s1824 := hs1825 ▸ zOn_set hF1670 (zq2_235 (by omega))
                                                      have hT1828 := yTq_rk hT1672 (yRq_set hs1825 zc_235 (by decide))
                                                      have hE1829 : yqs f s1824 = p1671 := (yqs_rk (yRq_set hs1825 zc_235 (by decide))).trans hE1673
                                                      have e1830 : s1824 164 2 = s1668 164 2 := by rw [← hs1825]; exact zset_k (zne_r zc_164 zc_235 (by decide))
                                                      have e1831 : s1824 164 5 = s1668 164 5 := by rw [← hs1825]; exact zset_k (zne_r zc_164 zc_235 (by decide))
                                                      have e1832 : s1824 164 97 = s1668 164 97 := by rw [← hs1825]; exact zset_k (zne_r zc_164 zc_235 (by decide))
                                                      have e1833 : s1824 164 99 = s1668 164 99 := by rw [← hs1825]; exact zset_k (zne_r zc_164 zc_235 (by decide))
                                                      have e1834 : s1824 164 100 = s1668 164 100 := by rw [← hs1825]; exact zset_k (zne_r zc_164 zc_235 (by decide))
                                                      have e1835 : s1824 164 101 = s1668 164 101 := by rw [← hs1825]; exact zset_k (zne_r zc_164 zc_235 (by decide))
                                                      have e1836 : s1824 164 51 = s1668 164 51 := by rw [← hs1825]; exact zset_k (zne_r zc_164 zc_235 (by decide))
                                                      refine zt_aload_n (pc' := 297) hX dX12_qGoesOn_296 rfl rfl ?_
                                                      refine zt_dup (pc' := 298) hX dX12_qGoesOn_297 rfl rfl ?_
                                                      have b1837 := zv_46_99 hI1826 zc_164
                                                      refine zt_get (pc' := 301) (v := .int (zI (s1824 164 99))) hX dX12_qGoesOn_298 rfl zf_X12_333 (by decide) zc_164 zs_46 rfl ?_
                                                      refine zt_iconst (pc' := 302) hX dX12_qGoesOn_301 rfl ?_
                                                      refine zt_iadd (pc' := 303) hX dX12_qGoesOn_302 rfl ?_
                                                      refine zt_put (pc' := 306) (x := ((s1824 164 99) + 1)) hX dX12_qGoesOn_303 rfl zf_X12_333 (by decide) zc_164 zs_46 (fun q hq => by cases hq; rfl) rfl rfl rfl ?_
                                                      generalize hs1839 : zset s1824 164 99 ((s1824 164 99) + 1) = s1838
                                                      have hI1840 : zInv s1838 := hs1839 ▸ zp_46_99 hI1826 zc_164 ⟨by omega, by omega⟩
                                                      have hF1841 : zOn zQ2 σ s1838 := hs1839 ▸ zOn_set hF1827 (by decide)
                                                      have e1842 : s1838 164 2 = s1824 164 2 := by rw [← hs1839]; exact zset_j (by decide)
                                                      have e1843 : s1838 164 5 = s1824 164 5 := by rw [← hs1839]; exact zset_j (by decide)
                                                      have e1844 : s1838 164 97 = s1824 164 97 := by rw [← hs1839]; exact zset_j (by decide)
                                                      have e1845 : s1838 164 99 = ((s1824 164 99) + 1) := by rw [← hs1839]; exact zset_s
                                                      have e1846 : s1838 164 100 = s1824 164 100 := by rw [← hs1839]; exact zset_j (by decide)
                                                      have e1847 : s1838 164 101 = s1824 164 101 := by rw [← hs1839]; exact zset_j (by decide)
                                                      have e1848 : s1838 164 51 = s1824 164 51 := by rw [← hs1839]; exact zset_j (by decide)
                                                      have hT1849 := yTq_rk hT1828 (yRq_j hs1839 (by decide))
                                                      have hE1850 : yqs f s1838 = p1671 := (yqs_rk (yRq_j hs1839 (by decide))).trans hE1829
                                                      refine zt_iconst (pc' := 307) hX dX12_qGoesOn_306 rfl ?_
                                                      exact zt_zret hX hR dX12_qGoesOn_307 ⟨by omega, by omega⟩ ⟨hI1840, hF1841, by omega, by omega, hT1849, (by rw [hE1850]; exact Or.inl ⟨rfl, yLo_p g1675 hT1849 hE1850 (by omega) (by decide) hs1825 hs1839 rfl (by omega)⟩), ⟨by omega, by omega, by omega⟩⟩
                                                    · exact absurd c1822 (by omega)
                                exact L_247_1675 _ s1629 (yPx f p11) hI1632 hF1642 hT1636 hE1658 (by omega) lo1659 (Nat.lt_succ_self _)
                            · exact absurd c1663 (by omega)
                          · clear z1638
                            have hE1851 : yqs f s1629 = p11 := hE1641.trans (if_neg c1657)
                            have u1852 := z1639 ⟨n1655.1.1, rfl⟩
                            have u1853 := yHb1 hE1851 n1655.1.1
                            refine zt_ifne (pc' := 216) (tgt := 225) hX dX12_qGoesOn_213 rfl (by decide) ⟨by omega, by omega⟩ (fun c1854 => ?_) (fun c1854 => ?_)
                            · exact absurd c1854 (by omega)
                            · refine zt_aload_n (pc' := 217) hX dX12_qGoesOn_216 rfl rfl ?_
                              refine zt_bipush (pc' := 219) hX dX12_qGoesOn_217 rfl (by decide) (by decide) ?_
                              refine zt_cVz (pc' := 222) hX dX12_qGoesOn_219 rfl zm_yX12_takesSign zw_27_14 zc_164 (by decide) zs_46 (q := (RX12, TX12, 108)) rfl rfl (yc_X12_takesSign _ _ s1629 hI1632 45 ⟨by omega, by omega⟩ (by omega) f hT1636) rfl rfl (Nat.le_of_ble_eq_true rfl) (by decide) (fun r1855 s1856 hr1857 hp1858 => ?_)
                              obtain ⟨hI1859, hF1860, q1861, q1862, hT1863, z1864, z1865, z1866, z1867⟩ := hp1858
                              have hE1868 : yqs f s1856 = yPu f 45 p11 := by rw [z1864, hE1851]
                              rw [hE1851] at z1865
                              rw [hE1851] at z1866
                              have hF1869 := zOn_tr hF1642 hF1860 zi_12
                              have b1870 := zv_46_2 hI1859 zc_164
                              have b1871 := zv_46_5 hI1859 zc_164
                              have b1872 := zv_46_97 hI1859 zc_164
                              have b1873 := zv_46_99 hI1859 zc_164
                              have b1874 := zv_46_100 hI1859 zc_164
                              have b1875 := zv_46_101 hI1859 zc_164
                              have b1876 := zv_46_51 hI1859 zc_164
                              have e1877 := hF1860 164 97 rfl
                              have e1878 := hF1860 164 99 rfl
                              have e1879 := hF1860 164 100 rfl
                              have e1880 := hF1860 164 101 rfl
                              have e1881 := hF1860 164 51 rfl
                              have n1882 := yLn_fr n1655 hF1860
                              have y1883 : ybs s1856 = ybs s1629 := ybs_fr hF1860
                              replace z1866 : yIm _ _ := z1866
                              replace z1867 : yIm _ _ := z1867
                              rcases yspl z1865 with ⟨rfl, c1884⟩ | ⟨rfl, c1884⟩
                              · clear z1865
                                have hE1885 : yqs f s1856 = yPx f p11 := hE1868.trans (if_pos c1884)
                                have lo1886 := yLo_0 n1882 hT12 hE13 h4 (Or.inr (Or.inr (Or.inr c1884)))
                                have u1887 := yHb1 hE1885 lo1886.1
                                obtain ⟨w1888, w1889⟩ := z1867 rfl
                                refine zt_ifeq (pc' := 225) (tgt := 308) hX dX12_qGoesOn_222 rfl (by decide) ⟨by omega, by omega⟩ (fun c1890 => ?_) (fun c1890 => ?_)
                                · exact absurd c1890 (by omega)
                                · refine zt_aload_n (pc' := 226) hX dX12_qGoesOn_225 rfl rfl ?_
                                  refine zt_get (pc' := 229) (v := .ref (X.1.1 + 165)) hX dX12_qGoesOn_226 rfl zf_X12_7 (by decide) zc_164 zs_46 (zrf_of (zv_46_0 hI1859 zc_164)) ?_
                                  refine zt_aload_n (pc' := 230) hX dX12_qGoesOn_229 rfl rfl ?_
                                  have b1891 := zv_46_2 hI1859 zc_164
                                  refine zt_get (pc' := 233) (v := .int (zI (s1856 164 2))) hX dX12_qGoesOn_230 rfl zf_X12_252 (by decide) zc_164 zs_46 rfl ?_
                                  refine zt_iconst (pc' := 234) hX dX12_qGoesOn_233 rfl ?_
                                  refine zt_isub (pc' := 235) hX dX12_qGoesOn_234 rfl ?_
                                  refine zt_iald (pc' := 236) hX dX12_qGoesOn_235 rfl (by decide) zc_165 zs_47 (by decide) ⟨by omega, by omega⟩ ?_
                                  generalize hv1892 : s1856 165 (((s1856 164 2) - 1).toNat) = v1892
                                  have bv1892 : 0 ≤ v1892 ∧ v1892 ≤ 255 := hv1892 ▸ zv_47 hI1859 zc_165 _
                                  have u1893 : v1892 = 45 := hv1892.symm.trans w1889
                                  refine zt_bipush (pc' := 238) hX dX12_qGoesOn_236 rfl (by decide) (by decide) ?_
                                  refine zt_icne (pc' := 241) (tgt := 245) hX dX12_qGoesOn_238 rfl (by decide) ⟨by omega, by omega⟩ ⟨by omega, by omega⟩ (fun c1894 => ?_) (fun c1894 => ?_)
                                  · refine zt_iconst (pc' := 246) hX dX12_qGoesOn_245 rfl ?_
                                    refine zt_istore_n (pc' := 247) (lv' := [some (.ref (X.1.1 + 164)), some (.int (zI 2))]) hX dX12_qGoesOn_246 rfl hL (by decide) rfl ?_
                                    have L_247_1902 : ∀ (N : Nat) (s1895 : zSto) (p1898 : yP), zInv s1895 → zOn zQ2 σ s1895 → yTq f s1895 → yqs f s1895 = p1898 → (s1895 164 97 + s1895 164 99 ≤ 1640 ∧ -1800 ≤ s1895 164 100 ∧ s1895 164 100 ≤ 10) → yLo cb rl f k (2, ystk k σ, yqs f σ) σ s1895 p1898 → ((s1895 164 99).toNat) < N → zF X s1895 247 [some (.ref (X.1.1 + 164)), some (.int (zI 2))] [] := by
                                      intro N
                                      induction N with
                                      | zero =>
                                        intro s1895 p1898 hI1896 hF1897 hT1899 hE1900 g1901 g1902 hm1904
                                        exact absurd hm1904 (Nat.not_lt_zero _)
                                      | succ N ih1905 =>
                                        intro s1895 p1898 hI1896 hF1897 hT1899 hE1900 g1901 g1902 hm1904
                                        have b1906 := zv_46_2 hI1896 zc_164
                                        have b1907 := zv_46_5 hI1896 zc_164
                                        have b1908 := zv_46_97 hI1896 zc_164
                                        have b1909 := zv_46_99 hI1896 zc_164
                                        have b1910 := zv_46_100 hI1896 zc_164
                                        have b1911 := zv_46_101 hI1896 zc_164
                                        have b1912 := zv_46_51 hI1896 zc_164
                                        have q1913 := 0
                                        · obtain ⟨u1914, u1915, u1916, u1917⟩ := yLo_n g1902 hT1899 hE1900
                                          refine zt_aload_n (pc' := 248) hX dX12_qGoesOn_247 rfl rfl ?_
                                          refine zt_iconst (pc' := 249) hX dX12_qGoesOn_248 rfl ?_
                                          refine zt_cVz (pc' := 252) hX dX12_qGoesOn_249 rfl zm_yX12_qIsOn zw_31_23 zc_164 (by decide) zs_46 (q := (RX12, TX12, 108)) rfl rfl (yc_X12_qIsOn _ _ s1895 hI1896 3 ⟨by omega, by omega⟩) rfl rfl (Nat.le_of_ble_eq_true rfl) (by decide) (fun r1918 s1919 hr1920 hp1921 => ?_)
                                          obtain ⟨rfl, q1922, q1923, z1924⟩ := hp1921
                                          rcases ysps z1924 with ⟨rfl, c1925⟩ | rfl
                                          · clear z1924
                                            refine zt_ifne (pc' := 255) (tgt := 279) hX dX12_qGoesOn_252 rfl (by decide) ⟨by omega, by omega⟩ (fun c1926 => ?_) (fun c1926 => ?_)
                                            · refine zt_aload_n (pc' := 280) hX dX12_qGoesOn_279 rfl rfl ?_
                                              refine zt_cVv (pc' := 283) hX dX12_qGoesOn_280 rfl zm_yX12_qDrops zw_31_4 zc_164 (by decide) zs_46 (q := (RX12, TX12, 108)) rfl rfl (yc_X12_qDrops _ _ s1895 hI1896 (by omega) (by omega)) rfl rfl (Nat.le_of_ble_eq_true rfl) (by decide) (fun r1927 s1928 hr1929 hp1930 => ?_)
                                              obtain ⟨hI1931, hF1932, z1933⟩ := hp1930
                                              have hF1934 := zOn_tr hF1897 hF1932 zi_d2
                                              have hT1935 := yTq_rk hT1899 (yRq_d hF1932)
                                              have hE1936 : yqs f s1928 = p1898 := (yqs_rk (yRq_d hF1932)).trans hE1900
                                              have b1937 := zv_46_2 hI1931 zc_164
                                              have b1938 := zv_46_5 hI1931 zc_164
                                              have b1939 := zv_46_97 hI1931 zc_164
                                              have b1940 := zv_46_99 hI1931 zc_164
                                              have b1941 := zv_46_100 hI1931 zc_164
                                              have b1942 := zv_46_101 hI1931 zc_164
                                              have b1943 := zv_46_51 hI1931 zc_164
                                              have e1944 := hF1932 164 2 rfl
                                              have e1945 := hF1932 164 5 rfl
                                              have e1946 := hF1932 164 100 rfl
                                              have e1947 := hF1932 164 101 rfl
                                              have e1948 := hF1932 164 51 rfl
                                              have lo1949 := yLo_d g1902 hbl c1925.1 c1925.2 (by decide) hF1932 z1933
                                              refine zt_goto (tgt := 247) hX dX12_qGoesOn_283 (by decide) ?_
                                              exact ih1905 s1928 p1898 hI1931 hF1934 hT1935 hE1936 (by omega) lo1949 (by omega)
                                            · exact absurd c1926 (by omega)
                                          · clear z1924
                                            refine zt_ifne (pc' := 255) (tgt := 279) hX dX12_qGoesOn_252 rfl (by decide) ⟨by omega, by omega⟩ (fun c1950 => ?_) (fun c1950 => ?_)
                                            · exact absurd c1950 (by omega)
                                            · refine zt_aload_n (pc' := 256) hX dX12_qGoesOn_255 rfl rfl ?_
                                              refine zt_iconst (pc' := 257) hX dX12_qGoesOn_256 rfl ?_
                                              refine zt_cVz (pc' := 260) hX dX12_qGoesOn_257 rfl zm_yX12_qIsOn zw_31_23 zc_164 (by decide) zs_46 (q := (RX12, TX12, 108)) rfl rfl (yc_X12_qIsOn _ _ s1895 hI1896 4 ⟨by omega, by omega⟩) rfl rfl (Nat.le_of_ble_eq_true rfl) (by decide) (fun r1951 s1952 hr1953 hp1954 => ?_)
                                              obtain ⟨rfl, q1955, q1956, z1957⟩ := hp1954
                                              rcases ysps z1957 with ⟨rfl, c1958⟩ | rfl
                                              · clear z1957
                                                refine zt_ifne (pc' := 263) (tgt := 279) hX dX12_qGoesOn_260 rfl (by decide) ⟨by omega, by omega⟩ (fun c1959 => ?_) (fun c1959 => ?_)
                                                · refine zt_aload_n (pc' := 280) hX dX12_qGoesOn_279 rfl rfl ?_
                                                  refine zt_cVv (pc' := 283) hX dX12_qGoesOn_280 rfl zm_yX12_qDrops zw_31_4 zc_164 (by decide) zs_46 (q := (RX12, TX12, 108)) rfl rfl (yc_X12_qDrops _ _ s1895 hI1896 (by omega) (by omega)) rfl rfl (Nat.le_of_ble_eq_true rfl) (by decide) (fun r1960 s1961 hr1962 hp1963 => ?_)
                                                  obtain ⟨hI1964, hF1965, z1966⟩ := hp1963
                                                  have hF1967 := zOn_tr hF1897 hF1965 zi_d2
                                                  have hT1968 := yTq_rk hT1899 (yRq_d hF1965)
                                                  have hE1969 : yqs f s1961 = p1898 := (yqs_rk (yRq_d hF1965)).trans hE1900
                                                  have b1970 := zv_46_2 hI1964 zc_164
                                                  have b1971 := zv_46_5 hI1964 zc_164
                                                  have b1972 := zv_46_97 hI1964 zc_164
                                                  have b1973 := zv_46_99 hI1964 zc_164
                                                  have b1974 := zv_46_100 hI1964 zc_164
                                                  have b1975 := zv_46_101 hI1964 zc_164
                                                  have b1976 := zv_46_51 hI1964 zc_164
                                                  have e1977 := hF1965 164 2 rfl
                                                  have e1978 := hF1965 164 5 rfl
                                                  have e1979 := hF1965 164 100 rfl
                                                  have e1980 := hF1965 164 101 rfl
                                                  have e1981 := hF1965 164 51 rfl
                                                  have lo1982 := yLo_d g1902 hbl c1958.1 c1958.2 (by decide) hF1965 z1966
                                                  refine zt_goto (tgt := 247) hX dX12_qGoesOn_283 (by decide) ?_
                                                  exact ih1905 s1961 p1898 hI1964 hF1967 hT1968 hE1969 (by omega) lo1982 (by omega)
                                                · exact absurd c1959 (by omega)
                                              · clear z1957
                                                refine zt_ifne (pc' := 263) (tgt := 279) hX dX12_qGoesOn_260 rfl (by decide) ⟨by omega, by omega⟩ (fun c1983 => ?_) (fun c1983 => ?_)
                                                · exact absurd c1983 (by omega)
                                                · refine zt_aload_n (pc' := 264) hX dX12_qGoesOn_263 rfl rfl ?_
                                                  refine zt_iconst (pc' := 265) hX dX12_qGoesOn_264 rfl ?_
                                                  refine zt_cVz (pc' := 268) hX dX12_qGoesOn_265 rfl zm_yX12_qIsOn zw_31_23 zc_164 (by decide) zs_46 (q := (RX12, TX12, 108)) rfl rfl (yc_X12_qIsOn _ _ s1895 hI1896 1 ⟨by omega, by omega⟩) rfl rfl (Nat.le_of_ble_eq_true rfl) (by decide) (fun r1984 s1985 hr1986 hp1987 => ?_)
                                                  obtain ⟨rfl, q1988, q1989, z1990⟩ := hp1987
                                                  rcases ysps z1990 with ⟨rfl, c1991⟩ | rfl
                                                  · clear z1990
                                                    refine zt_ifne (pc' := 271) (tgt := 279) hX dX12_qGoesOn_268 rfl (by decide) ⟨by omega, by omega⟩ (fun c1992 => ?_) (fun c1992 => ?_)
                                                    · refine zt_aload_n (pc' := 280) hX dX12_qGoesOn_279 rfl rfl ?_
                                                      refine zt_cVv (pc' := 283) hX dX12_qGoesOn_280 rfl zm_yX12_qDrops zw_31_4 zc_164 (by decide) zs_46 (q := (RX12, TX12, 108)) rfl rfl (yc_X12_qDrops _ _ s1895 hI1896 (by omega) (by omega)) rfl rfl (Nat.le_of_ble_eq_true rfl) (by decide) (fun r1993 s1994 hr1995 hp1996 => ?_)
                                                      obtain ⟨hI1997, hF1998, z1999⟩ := hp1996
                                                      have hF2000 := zOn_tr hF1897 hF1998 zi_d2
                                                      have hT2001 := yTq_rk hT1899 (yRq_d hF1998)
                                                      have hE2002 : yqs f s1994 = p1898 := (yqs_rk (yRq_d hF1998)).trans hE1900
                                                      have b2003 := zv_46_2 hI1997 zc_164
                                                      have b2004 := zv_46_5 hI1997 zc_164
                                                      have b2005 := zv_46_97 hI1997 zc_164
                                                      have b2006 := zv_46_99 hI1997 zc_164
                                                      have b2007 := zv_46_100 hI1997 zc_164
                                                      have b2008 := zv_46_101 hI1997 zc_164
                                                      have b2009 := zv_46_51 hI1997 zc_164
                                                      have e2010 := hF1998 164 2 rfl
                                                      have e2011 := hF1998 164 5 rfl
                                                      have e2012 := hF1998 164 100 rfl
                                                      have e2013 := hF1998 164 101 rfl
                                                      have e2014 := hF1998 164 51 rfl
                                                      have lo2015 := yLo_d g1902 hbl c1991.1 c1991.2 (by decide) hF1998 z1999
                                                      refine zt_goto (tgt := 247) hX dX12_qGoesOn_283 (by decide) ?_
                                                      exact ih1905 s1994 p1898 hI1997 hF2000 hT2001 hE2002 (by omega) lo2015 (by omega)
                                                    · exact absurd c1992 (by omega)
                                                  · clear z1990
                                                    refine zt_ifne (pc' := 271) (tgt := 279) hX dX12_qGoesOn_268 rfl (by decide) ⟨by omega, by omega⟩ (fun c2016 => ?_) (fun c2016 => ?_)
                                                    · exact absurd c2016 (by omega)
                                                    · refine zt_aload_n (pc' := 272) hX dX12_qGoesOn_271 rfl rfl ?_
                                                      refine zt_iconst (pc' := 273) hX dX12_qGoesOn_272 rfl ?_
                                                      refine zt_cVz (pc' := 276) hX dX12_qGoesOn_273 rfl zm_yX12_qIsOn zw_31_23 zc_164 (by decide) zs_46 (q := (RX12, TX12, 108)) rfl rfl (yc_X12_qIsOn _ _ s1895 hI1896 2 ⟨by omega, by omega⟩) rfl rfl (Nat.le_of_ble_eq_true rfl) (by decide) (fun r2017 s2018 hr2019 hp2020 => ?_)
                                                      obtain ⟨rfl, q2021, q2022, z2023⟩ := hp2020
                                                      rcases ysps z2023 with ⟨rfl, c2024⟩ | rfl
                                                      · clear z2023
                                                        refine zt_ifeq (pc' := 279) (tgt := 286) hX dX12_qGoesOn_276 rfl (by decide) ⟨by omega, by omega⟩ (fun c2025 => ?_) (fun c2025 => ?_)
                                                        · exact absurd c2025 (by omega)
                                                        · refine zt_aload_n (pc' := 280) hX dX12_qGoesOn_279 rfl rfl ?_
                                                          refine zt_cVv (pc' := 283) hX dX12_qGoesOn_280 rfl zm_yX12_qDrops zw_31_4 zc_164 (by decide) zs_46 (q := (RX12, TX12, 108)) rfl rfl (yc_X12_qDrops _ _ s1895 hI1896 (by omega) (by omega)) rfl rfl (Nat.le_of_ble_eq_true rfl) (by decide) (fun r2026 s2027 hr2028 hp2029 => ?_)
                                                          obtain ⟨hI2030, hF2031, z2032⟩ := hp2029
                                                          have hF2033 := zOn_tr hF1897 hF2031 zi_d2
                                                          have hT2034 := yTq_rk hT1899 (yRq_d hF2031)
                                                          have hE2035 : yqs f s2027 = p1898 := (yqs_rk (yRq_d hF2031)).trans hE1900
                                                          have b2036 := zv_46_2 hI2030 zc_164
                                                          have b2037 := zv_46_5 hI2030 zc_164
                                                          have b2038 := zv_46_97 hI2030 zc_164
                                                          have b2039 := zv_46_99 hI2030 zc_164
                                                          have b2040 := zv_46_100 hI2030 zc_164
                                                          have b2041 := zv_46_101 hI2030 zc_164
                                                          have b2042 := zv_46_51 hI2030 zc_164
                                                          have e2043 := hF2031 164 2 rfl
                                                          have e2044 := hF2031 164 5 rfl
                                                          have e2045 := hF2031 164 100 rfl
                                                          have e2046 := hF2031 164 101 rfl
                                                          have e2047 := hF2031 164 51 rfl
                                                          have lo2048 := yLo_d g1902 hbl c2024.1 c2024.2 (by decide) hF2031 z2032
                                                          refine zt_goto (tgt := 247) hX dX12_qGoesOn_283 (by decide) ?_
                                                          exact ih1905 s2027 p1898 hI2030 hF2033 hT2034 hE2035 (by omega) lo2048 (by omega)
                                                      · clear z2023
                                                        refine zt_ifeq (pc' := 279) (tgt := 286) hX dX12_qGoesOn_276 rfl (by decide) ⟨by omega, by omega⟩ (fun c2049 => ?_) (fun c2049 => ?_)
                                                        · refine zt_aload_n (pc' := 287) hX dX12_qGoesOn_286 rfl rfl ?_
                                                          refine zt_get (pc' := 290) (v := .ref (X.1.1 + 235)) hX dX12_qGoesOn_287 rfl zf_X12_234 (by decide) zc_164 zs_46 (zrf_of (zv_46_98 hI1896 zc_164)) ?_
                                                          refine zt_aload_n (pc' := 291) hX dX12_qGoesOn_290 rfl rfl ?_
                                                          have b2050 := zv_46_99 hI1896 zc_164
                                                          refine zt_get (pc' := 294) (v := .int (zI (s1895 164 99))) hX dX12_qGoesOn_291 rfl zf_X12_333 (by decide) zc_164 zs_46 rfl ?_
                                                          refine zt_iload_n (pc' := 295) hX dX12_qGoesOn_294 rfl rfl ?_
                                                          refine zt_iast (pc' := 296) hX dX12_qGoesOn_295 rfl (by decide) zc_235 zs_117 (by decide) ⟨by omega, by omega⟩ ?_
                                                          generalize hs2052 : zset s1895 235 ((s1895 164 99).toNat) 2 = s2051
                                                          have hI2053 : zInv s2051 := hs2052 ▸ zp_117 hI1896 zc_235 ((s1895 164 99).toNat) ⟨by omega, by omega⟩
                                                          have hF2054 : zOn zQ2 σ s2051 := hs2052 ▸ zOn_set hF1897 (zq2_235 (by omega))
                                                          have hT2055 := yTq_rk hT1899 (yRq_set hs2052 zc_235 (by decide))
                                                          have hE2056 : yqs f s2051 = p1898 := (yqs_rk (yRq_set hs2052 zc_235 (by decide))).trans hE1900
                                                          have e2057 : s2051 164 2 = s1895 164 2 := by rw [← hs2052]; exact zset_k (zne_r zc_164 zc_235 (by decide))
                                                          have e2058 : s2051 164 5 = s1895 164 5 := by rw [← hs2052]; exact zset_k (zne_r zc_164 zc_235 (by decide))
                                                          have e2059 : s2051 164 97 = s1895 164 97 := by rw [← hs2052]; exact zset_k (zne_r zc_164 zc_235 (by decide))
                                                          have e2060 : s2051 164 99 = s1895 164 99 := by rw [← hs2052]; exact zset_k (zne_r zc_164 zc_235 (by decide))
                                                          have e2061 : s2051 164 100 = s1895 164 100 := by rw [← hs2052]; exact zset_k (zne_r zc_164 zc_235 (by decide))
                                                          have e2062 : s2051 164 101 = s1895 164 101 := by rw [← hs2052]; exact zset_k (zne_r zc_164 zc_235 (by decide))
                                                          have e2063 : s2051 164 51 = s1895 164 51 := by rw [← hs2052]; exact zset_k (zne_r zc_164 zc_235 (by decide))
                                                          refine zt_aload_n (pc' := 297) hX dX12_qGoesOn_296 rfl rfl ?_
                                                          refine zt_dup (pc' := 298) hX dX12_qGoesOn_297 rfl rfl ?_
                                                          have b2064 := zv_46_99 hI2053 zc_164
                                                          refine zt_get (pc' := 301) (v := .int (zI (s2051 164 99))) hX dX12_qGoesOn_298 rfl zf_X12_333 (by decide) zc_164 zs_46 rfl ?_
                                                          refine zt_iconst (pc' := 302) hX dX12_qGoesOn_301 rfl ?_
                                                          refine zt_iadd (pc' := 303) hX dX12_qGoesOn_302 rfl ?_
                                                          refine zt_put (pc' := 306) (x := ((s2051 164 99) + 1)) hX dX12_qGoesOn_303 rfl zf_X12_333 (by decide) zc_164 zs_46 (fun q hq => by cases hq; rfl) rfl rfl rfl ?_
                                                          generalize hs2066 : zset s2051 164 99 ((s2051 164 99) + 1) = s2065
                                                          have hI2067 : zInv s2065 := hs2066 ▸ zp_46_99 hI2053 zc_164 ⟨by omega, by omega⟩
                                                          have hF2068 : zOn zQ2 σ s2065 := hs2066 ▸ zOn_set hF2054 (by decide)
                                                          have e2069 : s2065 164 2 = s2051 164 2 := by rw [← hs2066]; exact zset_j (by decide)
                                                          have e2070 : s2065 164 5 = s2051 164 5 := by rw [← hs2066]; exact zset_j (by decide)
                                                          have e2071 : s2065 164 97 = s2051 164 97 := by rw [← hs2066]; exact zset_j (by decide)
                                                          have e2072 : s2065 164 99 = ((s2051 164 99) + 1) := by rw [← hs2066]; exact zset_s
                                                          have e2073 : s2065 164 100 = s2051 164 100 := by rw [← hs2066]; exact zset_j (by decide)
                                                          have e2074 : s2065 164 101 = s2051 164 101 := by rw [← hs2066]; exact zset_j (by decide)
                                                          have e2075 : s2065 164 51 = s2051 164 51 := by rw [← hs2066]; exact zset_j (by decide)
                                                          have hT2076 := yTq_rk hT2055 (yRq_j hs2066 (by decide))
                                                          have hE2077 : yqs f s2065 = p1898 := (yqs_rk (yRq_j hs2066 (by decide))).trans hE2056
                                                          refine zt_iconst (pc' := 307) hX dX12_qGoesOn_306 rfl ?_
                                                          exact zt_zret hX hR dX12_qGoesOn_307 ⟨by omega, by omega⟩ ⟨hI2067, hF2068, by omega, by omega, hT2076, (by rw [hE2077]; exact Or.inl ⟨rfl, yLo_p g1902 hT2076 hE2077 (by omega) (by decide) hs2052 hs2066 rfl (by omega)⟩), ⟨by omega, by omega, by omega⟩⟩
                                                        · exact absurd c2049 (by omega)
                                    exact L_247_1902 _ s1856 (yPx f p11) hI1859 hF1869 hT1863 hE1885 (by omega) lo1886 (Nat.lt_succ_self _)
                                  · exact absurd c1894 (by omega)
                              · clear z1865
                                have hE2078 : yqs f s1856 = p11 := hE1868.trans (if_neg c1884)
                                have u2079 := z1866 ⟨n1882.1.1, rfl⟩
                                have u2080 := yHb1 hE2078 n1882.1.1
                                refine zt_ifeq (pc' := 225) (tgt := 308) hX dX12_qGoesOn_222 rfl (by decide) ⟨by omega, by omega⟩ (fun c2081 => ?_) (fun c2081 => ?_)
                                · refine zt_aload_n (pc' := 309) hX dX12_qGoesOn_308 rfl rfl ?_
                                  refine zt_cVi (pc' := 312) hX dX12_qGoesOn_309 rfl zm_yX12_qBracket zw_31_12 zc_164 (by decide) zs_46 (q := (RX12, TX12, 108)) rfl rfl (yc_X12_qBracket _ _ s1856 hI1859 (by omega)) rfl rfl (Nat.le_of_ble_eq_true rfl) (by decide) (fun r2082 s2083 hr2084 hp2085 => ?_)
                                  obtain ⟨rfl, q2086, q2087, z2088⟩ := hp2085
                                  have y2089 : r2082 = ybs s1856 := z2088
                                  clear z2088
                                  refine zt_bipush (pc' := 314) hX dX12_qGoesOn_312 rfl (by decide) (by decide) ?_
                                  refine zt_iceq (pc' := 317) (tgt := 326) hX dX12_qGoesOn_314 rfl (by decide) ⟨by omega, by omega⟩ ⟨by omega, by omega⟩ (fun c2090 => ?_) (fun c2090 => ?_)
                                  · refine zt_aload_n (pc' := 327) hX dX12_qGoesOn_326 rfl rfl ?_
                                    refine zt_bipush (pc' := 329) hX dX12_qGoesOn_327 rfl (by decide) (by decide) ?_
                                    refine zt_cVv (pc' := 332) hX dX12_qGoesOn_329 rfl zm_yX12_asksSign zw_27_10 zc_164 (by decide) zs_46 (q := (RX12, TX12, 108)) rfl rfl (yc_X12_asksSign _ _ s1856 hI1859 44 ⟨by omega, by omega⟩ (by omega) f hT1863) rfl rfl (Nat.le_of_ble_eq_true rfl) (by decide) (fun r2091 s2092 hr2093 hp2094 => ?_)
                                    obtain ⟨hI2095, hF2096, hT2097, z2098⟩ := hp2094
                                    have hE2099 : yqs f s2092 = yPs f 44 p11 := by rw [z2098, hE2078]
                                    have hF2100 := zOn_tr hF1869 hF2096 zi_12
                                    have b2101 := zv_46_2 hI2095 zc_164
                                    have b2102 := zv_46_5 hI2095 zc_164
                                    have b2103 := zv_46_97 hI2095 zc_164
                                    have b2104 := zv_46_99 hI2095 zc_164
                                    have b2105 := zv_46_100 hI2095 zc_164
                                    have b2106 := zv_46_101 hI2095 zc_164
                                    have b2107 := zv_46_51 hI2095 zc_164
                                    have e2108 := hF2096 164 97 rfl
                                    have e2109 := hF2096 164 99 rfl
                                    have e2110 := hF2096 164 100 rfl
                                    have e2111 := hF2096 164 101 rfl
                                    have e2112 := hF2096 164 51 rfl
                                    have n2113 := yLn_fr n1882 hF2096
                                    have y2114 : ybs s2092 = ybs s1856 := ybs_fr hF2096
                                    refine zt_aload_n (pc' := 333) hX dX12_qGoesOn_332 rfl rfl ?_
                                    have b2115 := zv_46_5 hI2095 zc_164
                                    refine zt_get (pc' := 336) (v := .int (zI (s2092 164 5))) hX dX12_qGoesOn_333 rfl zf_X12_246 (by decide) zc_164 zs_46 rfl ?_
                                    refine zt_ifeq (pc' := 339) (tgt := 341) hX dX12_qGoesOn_336 rfl (by decide) ⟨by omega, by omega⟩ (fun c2116 => ?_) (fun c2116 => ?_)
                                    · have g2117 := yPs_k ((yHb hT2097 hE2099).1 (by omega))
                                      have hE2118 : yqs f s2092 = yPx f p11 := hE2099.trans (if_pos g2117)
                                      refine zt_aload_n (pc' := 342) hX dX12_qGoesOn_341 rfl rfl ?_
                                      refine zt_cVv (pc' := 345) hX dX12_qGoesOn_342 rfl zm_yX12_qDropsToBracket zw_31_19 zc_164 (by decide) zs_46 (q := (RX12, TX12, 108)) rfl rfl (yc_X12_qDropsToBracket _ _ s2092 hI2095 (by omega) (by omega)) rfl rfl (Nat.le_of_ble_eq_true rfl) (by decide) (fun r2119 s2120 hr2121 hp2122 => ?_)
                                      obtain ⟨hI2123, hF2124, z2125, z2126, z2127⟩ := hp2122
                                      have hF2128 := zOn_tr hF2100 hF2124 zi_d2
                                      have hT2129 := yTq_rk hT2097 (yRq_d hF2124)
                                      have hE2130 : yqs f s2120 = yPx f p11 := (yqs_rk (yRq_d hF2124)).trans hE2118
                                      have b2131 := zv_46_2 hI2123 zc_164
                                      have b2132 := zv_46_5 hI2123 zc_164
                                      have b2133 := zv_46_97 hI2123 zc_164
                                      have b2134 := zv_46_99 hI2123 zc_164
                                      have b2135 := zv_46_100 hI2123 zc_164
                                      have b2136 := zv_46_101 hI2123 zc_164
                                      have b2137 := zv_46_51 hI2123 zc_164
                                      have e2138 := hF2124 164 2 rfl
                                      have e2139 := hF2124 164 5 rfl
                                      have e2140 := hF2124 164 100 rfl
                                      have e2141 := hF2124 164 101 rfl
                                      have e2142 := hF2124 164 51 rfl
                                      have tp2143 := yTopb (c := 21) n2113 ⟨by omega, by omega⟩ z2126 z2127 (by omega) (by decide)
                                      clear z2127
                                      obtain ⟨t2144, t2145, t2146⟩ := tp2143
                                      refine zt_aload_n (pc' := 346) hX dX12_qGoesOn_345 rfl rfl ?_
                                      refine zt_get (pc' := 349) (v := .ref (X.1.1 + 235)) hX dX12_qGoesOn_346 rfl zf_X12_234 (by decide) zc_164 zs_46 (zrf_of (zv_46_98 hI2123 zc_164)) ?_
                                      refine zt_aload_n (pc' := 350) hX dX12_qGoesOn_349 rfl rfl ?_
                                      have b2147 := zv_46_99 hI2123 zc_164
                                      refine zt_get (pc' := 353) (v := .int (zI (s2120 164 99))) hX dX12_qGoesOn_350 rfl zf_X12_333 (by decide) zc_164 zs_46 rfl ?_
                                      refine zt_iconst (pc' := 354) hX dX12_qGoesOn_353 rfl ?_
                                      refine zt_isub (pc' := 355) hX dX12_qGoesOn_354 rfl ?_
                                      refine zt_dup2 (pc' := 356) hX dX12_qGoesOn_355 rfl rfl rfl ?_
                                      refine zt_iald (pc' := 357) hX dX12_qGoesOn_356 rfl (by decide) zc_235 zs_117 (by decide) ⟨by omega, by omega⟩ ?_
                                      generalize hv2148 : s2120 235 (((s2120 164 99) - 1).toNat) = v2148
                                      have bv2148 : -2147483648 ≤ v2148 ∧ v2148 ≤ 2147483647 := hv2148 ▸ zv_117 hI2123 zc_235 _
                                      have u2149 : v2148 = 21 := hv2148.symm.trans ((hF2124 235 _ rfl).trans t2145)
                                      refine zt_iconst (pc' := 358) hX dX12_qGoesOn_357 rfl ?_
                                      refine zt_iadd (pc' := 359) hX dX12_qGoesOn_358 rfl ?_
                                      refine zt_wrap (fun r2150 zr2150 lr2150 ur2150 => ?_)
                                      replace zr2150 := ywr_eq zr2150
                                      refine zt_iast (pc' := 360) hX dX12_qGoesOn_359 rfl (by decide) zc_235 zs_117 (by decide) ⟨by omega, by omega⟩ ?_
                                      generalize hs2152 : zset s2120 235 (((s2120 164 99) - 1).toNat) r2150 = s2151
                                      have hI2153 : zInv s2151 := hs2152 ▸ zp_117 hI2123 zc_235 (((s2120 164 99) - 1).toNat) ⟨by omega, by omega⟩
                                      have hF2154 : zOn zQ2 σ s2151 := hs2152 ▸ zOn_set hF2128 (zq2_235 (by omega))
                                      have hT2155 := yTq_rk hT2129 (yRq_set hs2152 zc_235 (by decide))
                                      have hE2156 : yqs f s2151 = yPx f p11 := (yqs_rk (yRq_set hs2152 zc_235 (by decide))).trans hE2130
                                      have e2157 : s2151 164 2 = s2120 164 2 := by rw [← hs2152]; exact zset_k (zne_r zc_164 zc_235 (by decide))
                                      have e2158 : s2151 164 5 = s2120 164 5 := by rw [← hs2152]; exact zset_k (zne_r zc_164 zc_235 (by decide))
                                      have e2159 : s2151 164 97 = s2120 164 97 := by rw [← hs2152]; exact zset_k (zne_r zc_164 zc_235 (by decide))
                                      have e2160 : s2151 164 99 = s2120 164 99 := by rw [← hs2152]; exact zset_k (zne_r zc_164 zc_235 (by decide))
                                      have e2161 : s2151 164 100 = s2120 164 100 := by rw [← hs2152]; exact zset_k (zne_r zc_164 zc_235 (by decide))
                                      have e2162 : s2151 164 101 = s2120 164 101 := by rw [← hs2152]; exact zset_k (zne_r zc_164 zc_235 (by decide))
                                      have e2163 : s2151 164 51 = s2120 164 51 := by rw [← hs2152]; exact zset_k (zne_r zc_164 zc_235 (by decide))
                                      refine zt_iconst (pc' := 361) hX dX12_qGoesOn_360 rfl ?_
                                      exact zt_zret hX hR dX12_qGoesOn_361 ⟨by omega, by omega⟩ ⟨hI2153, hF2154, by omega, by omega, hT2155, (by rw [hE2156]; exact Or.inl ⟨rfl, yComma (c := 21) n2113 hT12 hE13 g2117 (by decide) z2126 ⟨by omega, t2145, by omega⟩ ⟨by omega, by omega⟩ hF2124 (by omega) hs2152 (by first | rfl | omega) (by omega)⟩), ⟨by omega, by omega, by omega⟩⟩
                                    · refine zt_iconst (pc' := 340) hX dX12_qGoesOn_339 rfl ?_
                                      exact zt_zret hX hR dX12_qGoesOn_340 ⟨by omega, by omega⟩ ⟨hI2095, hF2100, by omega, by omega, hT2097, (by rw [hE2099]; exact yGon_f (yCommf n2113 (by omega) ⟨c1335, c1496, c1657, c1884⟩ ((yHb hT2097 hE2099).2 (by omega)))), ⟨by omega, by omega, by omega⟩⟩
                                  · refine zt_aload_n (pc' := 318) hX dX12_qGoesOn_317 rfl rfl ?_
                                    refine zt_cVi (pc' := 321) hX dX12_qGoesOn_318 rfl zm_yX12_qBracket zw_31_12 zc_164 (by decide) zs_46 (q := (RX12, TX12, 108)) rfl rfl (yc_X12_qBracket _ _ s1856 hI1859 (by omega)) rfl rfl (Nat.le_of_ble_eq_true rfl) (by decide) (fun r2164 s2165 hr2166 hp2167 => ?_)
                                    obtain ⟨rfl, q2168, q2169, z2170⟩ := hp2167
                                    have y2171 : r2164 = ybs s1856 := z2170
                                    clear z2170
                                    refine zt_bipush (pc' := 323) hX dX12_qGoesOn_321 rfl (by decide) (by decide) ?_
                                    refine zt_icne (pc' := 326) (tgt := 362) hX dX12_qGoesOn_323 rfl (by decide) ⟨by omega, by omega⟩ ⟨by omega, by omega⟩ (fun c2172 => ?_) (fun c2172 => ?_)
                                    · refine zt_aload_n (pc' := 363) hX dX12_qGoesOn_362 rfl rfl ?_
                                      refine zt_cVi (pc' := 366) hX dX12_qGoesOn_363 rfl zm_yX12_qBracket zw_31_12 zc_164 (by decide) zs_46 (q := (RX12, TX12, 108)) rfl rfl (yc_X12_qBracket _ _ s1856 hI1859 (by omega)) rfl rfl (Nat.le_of_ble_eq_true rfl) (by decide) (fun r2173 s2174 hr2175 hp2176 => ?_)
                                      obtain ⟨rfl, q2177, q2178, z2179⟩ := hp2176
                                      have y2180 : r2173 = ybs s1856 := z2179
                                      clear z2179
                                      refine zt_iconst (pc' := 367) hX dX12_qGoesOn_366 rfl ?_
                                      refine zt_iceq (pc' := 370) (tgt := 386) hX dX12_qGoesOn_367 rfl (by decide) ⟨by omega, by omega⟩ ⟨by omega, by omega⟩ (fun c2181 => ?_) (fun c2181 => ?_)
                                      · refine zt_iconst (pc' := 387) hX dX12_qGoesOn_386 rfl ?_
                                        exact zt_zret hX hR dX12_qGoesOn_387 ⟨by omega, by omega⟩ ⟨hI1859, hF1869, by omega, by omega, hT1863, (by rw [hE2078]; exact yGon_e n1882 (by omega) ⟨c1335, c1496, c1657, c1884⟩), ⟨by omega, by omega, by omega⟩⟩
                                      · refine zt_aload_n (pc' := 371) hX dX12_qGoesOn_370 rfl rfl ?_
                                        have b2182 := zv_46_5 hI1859 zc_164
                                        refine zt_get (pc' := 374) (v := .int (zI (s1856 164 5))) hX dX12_qGoesOn_371 rfl zf_X12_246 (by decide) zc_164 zs_46 rfl ?_
                                        refine zt_ifne (pc' := 377) (tgt := 386) hX dX12_qGoesOn_374 rfl (by decide) ⟨by omega, by omega⟩ (fun c2183 => ?_) (fun c2183 => ?_)
                                        · exact absurd c2183 (by omega)
                                        · refine zt_aload_n (pc' := 378) hX dX12_qGoesOn_377 rfl rfl ?_
                                          refine zt_iconst (pc' := 379) hX dX12_qGoesOn_378 rfl ?_
                                          refine zt_aload_n (pc' := 380) hX dX12_qGoesOn_379 rfl rfl ?_
                                          have b2184 := zv_46_2 hI1859 zc_164
                                          refine zt_get (pc' := 383) (v := .int (zI (s1856 164 2))) hX dX12_qGoesOn_380 rfl zf_X12_252 (by decide) zc_164 zs_46 rfl ?_
                                          refine zt_cVv (pc' := 386) hX dX12_qGoesOn_383 rfl zm_yX12_fail zw_26_19 zc_164 (by decide) zs_46 (q := (RX12, TX12, 108)) rfl rfl (yc_X12_fail _ _ s1856 hI1859 1 ⟨by omega, by omega⟩ (s1856 164 2) ⟨by omega, by omega⟩ f (yTq_w hT1863)) rfl rfl (Nat.le_of_ble_eq_true rfl) (by decide) (fun r2185 s2186 hr2187 hp2188 => ?_)
                                          obtain ⟨hI2189, hF2190, hT2191, z2192, z2193⟩ := hp2188
                                          have hE2194 : yqs f s2186 = yPno 1 (s1856 164 2) p11 := by rw [z2192, hE2078]
                                          have hF2195 := zOn_tr hF1869 hF2190 zi_12
                                          have b2196 := zv_46_2 hI2189 zc_164
                                          have b2197 := zv_46_5 hI2189 zc_164
                                          have b2198 := zv_46_97 hI2189 zc_164
                                          have b2199 := zv_46_99 hI2189 zc_164
                                          have b2200 := zv_46_100 hI2189 zc_164
                                          have b2201 := zv_46_101 hI2189 zc_164
                                          have b2202 := zv_46_51 hI2189 zc_164
                                          have e2203 := hF2190 164 97 rfl
                                          have e2204 := hF2190 164 99 rfl
                                          have e2205 := hF2190 164 100 rfl
                                          have e2206 := hF2190 164 101 rfl
                                          have e2207 := hF2190 164 51 rfl
                                          have n2208 := yLn_fr n1882 hF2190
                                          have y2209 : ybs s2186 = ybs s1856 := ybs_fr hF2190
                                          refine zt_iconst (pc' := 387) hX dX12_qGoesOn_386 rfl ?_
                                          exact zt_zret hX hR dX12_qGoesOn_387 ⟨by omega, by omega⟩ ⟨hI2189, hF2195, by omega, by omega, hT2191, (by exfalso; rcases yLn_b n2208 with t | t <;> omega), ⟨by omega, by omega, by omega⟩⟩
                                    · refine zt_aload_n (pc' := 327) hX dX12_qGoesOn_326 rfl rfl ?_
                                      refine zt_bipush (pc' := 329) hX dX12_qGoesOn_327 rfl (by decide) (by decide) ?_
                                      refine zt_cVv (pc' := 332) hX dX12_qGoesOn_329 rfl zm_yX12_asksSign zw_27_10 zc_164 (by decide) zs_46 (q := (RX12, TX12, 108)) rfl rfl (yc_X12_asksSign _ _ s1856 hI1859 44 ⟨by omega, by omega⟩ (by omega) f hT1863) rfl rfl (Nat.le_of_ble_eq_true rfl) (by decide) (fun r2210 s2211 hr2212 hp2213 => ?_)
                                      obtain ⟨hI2214, hF2215, hT2216, z2217⟩ := hp2213
                                      have hE2218 : yqs f s2211 = yPs f 44 p11 := by rw [z2217, hE2078]
                                      have hF2219 := zOn_tr hF1869 hF2215 zi_12
                                      have b2220 := zv_46_2 hI2214 zc_164
                                      have b2221 := zv_46_5 hI2214 zc_164
                                      have b2222 := zv_46_97 hI2214 zc_164
                                      have b2223 := zv_46_99 hI2214 zc_164
                                      have b2224 := zv_46_100 hI2214 zc_164
                                      have b2225 := zv_46_101 hI2214 zc_164
                                      have b2226 := zv_46_51 hI2214 zc_164
                                      have e2227 := hF2215 164 97 rfl
                                      have e2228 := hF2215 164 99 rfl
                                      have e2229 := hF2215 164 100 rfl
                                      have e2230 := hF2215 164 101 rfl
                                      have e2231 := hF2215 164 51 rfl
                                      have n2232 := yLn_fr n1882 hF2215
                                      have y2233 : ybs s2211 = ybs s1856 := ybs_fr hF2215
                                      refine zt_aload_n (pc' := 333) hX dX12_qGoesOn_332 rfl rfl ?_
                                      have b2234 := zv_46_5 hI2214 zc_164
                                      refine zt_get (pc' := 336) (v := .int (zI (s2211 164 5))) hX dX12_qGoesOn_333 rfl zf_X12_246 (by decide) zc_164 zs_46 rfl ?_
                                      refine zt_ifeq (pc' := 339) (tgt := 341) hX dX12_qGoesOn_336 rfl (by decide) ⟨by omega, by omega⟩ (fun c2235 => ?_) (fun c2235 => ?_)
                                      · have g2236 := yPs_k ((yHb hT2216 hE2218).1 (by omega))
                                        have hE2237 : yqs f s2211 = yPx f p11 := hE2218.trans (if_pos g2236)
                                        refine zt_aload_n (pc' := 342) hX dX12_qGoesOn_341 rfl rfl ?_
                                        refine zt_cVv (pc' := 345) hX dX12_qGoesOn_342 rfl zm_yX12_qDropsToBracket zw_31_19 zc_164 (by decide) zs_46 (q := (RX12, TX12, 108)) rfl rfl (yc_X12_qDropsToBracket _ _ s2211 hI2214 (by omega) (by omega)) rfl rfl (Nat.le_of_ble_eq_true rfl) (by decide) (fun r2238 s2239 hr2240 hp2241 => ?_)
                                        obtain ⟨hI2242, hF2243, z2244, z2245, z2246⟩ := hp2241
                                        have hF2247 := zOn_tr hF2219 hF2243 zi_d2
                                        have hT2248 := yTq_rk hT2216 (yRq_d hF2243)
                                        have hE2249 : yqs f s2239 = yPx f p11 := (yqs_rk (yRq_d hF2243)).trans hE2237
                                        have b2250 := zv_46_2 hI2242 zc_164
                                        have b2251 := zv_46_5 hI2242 zc_164
                                        have b2252 := zv_46_97 hI2242 zc_164
                                        have b2253 := zv_46_99 hI2242 zc_164
                                        have b2254 := zv_46_100 hI2242 zc_164
                                        have b2255 := zv_46_101 hI2242 zc_164
                                        have b2256 := zv_46_51 hI2242 zc_164
                                        have e2257 := hF2243 164 2 rfl
                                        have e2258 := hF2243 164 5 rfl
                                        have e2259 := hF2243 164 100 rfl
                                        have e2260 := hF2243 164 101 rfl
                                        have e2261 := hF2243 164 51 rfl
                                        have tp2262 := yTopb (c := 22) n2232 ⟨by omega, by omega⟩ z2245 z2246 (by omega) (by decide)
                                        clear z2246
                                        obtain ⟨t2263, t2264, t2265⟩ := tp2262
                                        refine zt_aload_n (pc' := 346) hX dX12_qGoesOn_345 rfl rfl ?_
                                        refine zt_get (pc' := 349) (v := .ref (X.1.1 + 235)) hX dX12_qGoesOn_346 rfl zf_X12_234 (by decide) zc_164 zs_46 (zrf_of (zv_46_98 hI2242 zc_164)) ?_
                                        refine zt_aload_n (pc' := 350) hX dX12_qGoesOn_349 rfl rfl ?_
                                        have b2266 := zv_46_99 hI2242 zc_164
                                        refine zt_get (pc' := 353) (v := .int (zI (s2239 164 99))) hX dX12_qGoesOn_350 rfl zf_X12_333 (by decide) zc_164 zs_46 rfl ?_
                                        refine zt_iconst (pc' := 354) hX dX12_qGoesOn_353 rfl ?_
                                        refine zt_isub (pc' := 355) hX dX12_qGoesOn_354 rfl ?_
                                        refine zt_dup2 (pc' := 356) hX dX12_qGoesOn_355 rfl rfl rfl ?_
                                        refine zt_iald (pc' := 357) hX dX12_qGoesOn_356 rfl (by decide) zc_235 zs_117 (by decide) ⟨by omega, by omega⟩ ?_
                                        generalize hv2267 : s2239 235 (((s2239 164 99) - 1).toNat) = v2267
                                        have bv2267 : -2147483648 ≤ v2267 ∧ v2267 ≤ 2147483647 := hv2267 ▸ zv_117 hI2242 zc_235 _
                                        have u2268 : v2267 = 22 := hv2267.symm.trans ((hF2243 235 _ rfl).trans t2264)
                                        refine zt_iconst (pc' := 358) hX dX12_qGoesOn_357 rfl ?_
                                        refine zt_iadd (pc' := 359) hX dX12_qGoesOn_358 rfl ?_
                                        refine zt_wrap (fun r2269 zr2269 lr2269 ur2269 => ?_)
                                        replace zr2269 := ywr_eq zr2269
                                        refine zt_iast (pc' := 360) hX dX12_qGoesOn_359 rfl (by decide) zc_235 zs_117 (by decide) ⟨by omega, by omega⟩ ?_
                                        generalize hs2271 : zset s2239 235 (((s2239 164 99) - 1).toNat) r2269 = s2270
                                        have hI2272 : zInv s2270 := hs2271 ▸ zp_117 hI2242 zc_235 (((s2239 164 99) - 1).toNat) ⟨by omega, by omega⟩
                                        have hF2273 : zOn zQ2 σ s2270 := hs2271 ▸ zOn_set hF2247 (zq2_235 (by omega))
                                        have hT2274 := yTq_rk hT2248 (yRq_set hs2271 zc_235 (by decide))
                                        have hE2275 : yqs f s2270 = yPx f p11 := (yqs_rk (yRq_set hs2271 zc_235 (by decide))).trans hE2249
                                        have e2276 : s2270 164 2 = s2239 164 2 := by rw [← hs2271]; exact zset_k (zne_r zc_164 zc_235 (by decide))
                                        have e2277 : s2270 164 5 = s2239 164 5 := by rw [← hs2271]; exact zset_k (zne_r zc_164 zc_235 (by decide))
                                        have e2278 : s2270 164 97 = s2239 164 97 := by rw [← hs2271]; exact zset_k (zne_r zc_164 zc_235 (by decide))
                                        have e2279 : s2270 164 99 = s2239 164 99 := by rw [← hs2271]; exact zset_k (zne_r zc_164 zc_235 (by decide))
                                        have e2280 : s2270 164 100 = s2239 164 100 := by rw [← hs2271]; exact zset_k (zne_r zc_164 zc_235 (by decide))
                                        have e2281 : s2270 164 101 = s2239 164 101 := by rw [← hs2271]; exact zset_k (zne_r zc_164 zc_235 (by decide))
                                        have e2282 : s2270 164 51 = s2239 164 51 := by rw [← hs2271]; exact zset_k (zne_r zc_164 zc_235 (by decide))
                                        refine zt_iconst (pc' := 361) hX dX12_qGoesOn_360 rfl ?_
                                        exact zt_zret hX hR dX12_qGoesOn_361 ⟨by omega, by omega⟩ ⟨hI2272, hF2273, by omega, by omega, hT2274, (by rw [hE2275]; exact Or.inl ⟨rfl, yComma (c := 22) n2232 hT12 hE13 g2236 (by decide) z2245 ⟨by omega, t2264, by omega⟩ ⟨by omega, by omega⟩ hF2243 (by omega) hs2271 (by first | rfl | omega) (by omega)⟩), ⟨by omega, by omega, by omega⟩⟩
                                      · refine zt_iconst (pc' := 340) hX dX12_qGoesOn_339 rfl ?_
                                        exact zt_zret hX hR dX12_qGoesOn_340 ⟨by omega, by omega⟩ ⟨hI2214, hF2219, by omega, by omega, hT2216, (by rw [hE2218]; exact yGon_f (yCommf n2232 (by omega) ⟨c1335, c1496, c1657, c1884⟩ ((yHb hT2216 hE2218).2 (by omega)))), ⟨by omega, by omega, by omega⟩⟩
                                · exact absurd c2081 (by omega)
                        · exact absurd c1627 (by omega)
                · have g2283 : yPg f p11 = 41 := ysg_p hT45 hE49 (by omega) (by omega) (hc67.trans (by omega)) ⟨by decide, by decide, by decide⟩
                  have u2284 := yat_lt (q := yPq p11) hT45 (by omega) (by rw [hc67]; omega)
                  refine zt_aload_n (pc' := 44) hX dX12_qGoesOn_43 rfl rfl ?_
                  refine zt_dup (pc' := 45) hX dX12_qGoesOn_44 rfl rfl ?_
                  have b2285 := zv_46_2 hI41 zc_164
                  refine zt_get (pc' := 48) (v := .int (zI (s38 164 2))) hX dX12_qGoesOn_45 rfl zf_X12_252 (by decide) zc_164 zs_46 rfl ?_
                  refine zt_iconst (pc' := 49) hX dX12_qGoesOn_48 rfl ?_
                  refine zt_iadd (pc' := 50) hX dX12_qGoesOn_49 rfl ?_
                  refine zt_put (pc' := 53) (x := ((s38 164 2) + 1)) hX dX12_qGoesOn_50 rfl zf_X12_252 (by decide) zc_164 zs_46 (fun q hq => by cases hq; rfl) rfl rfl rfl ?_
                  generalize hs2287 : zset s38 164 2 ((s38 164 2) + 1) = s2286
                  have hI2288 : zInv s2286 := hs2287 ▸ zp_46_2 hI41 zc_164 ⟨by omega, by omega⟩
                  have hF2289 : zOn zQ2 σ s2286 := hs2287 ▸ zOn_set hF50 (by decide)
                  have e2290 : s2286 164 2 = ((s38 164 2) + 1) := by rw [← hs2287]; exact zset_s
                  have e2291 : s2286 164 5 = s38 164 5 := by rw [← hs2287]; exact zset_j (by decide)
                  have e2292 : s2286 164 97 = s38 164 97 := by rw [← hs2287]; exact zset_j (by decide)
                  have e2293 : s2286 164 99 = s38 164 99 := by rw [← hs2287]; exact zset_j (by decide)
                  have e2294 : s2286 164 100 = s38 164 100 := by rw [← hs2287]; exact zset_j (by decide)
                  have e2295 : s2286 164 101 = s38 164 101 := by rw [← hs2287]; exact zset_j (by decide)
                  have e2296 : s2286 164 51 = s38 164 51 := by rw [← hs2287]; exact zset_j (by decide)
                  have h2297 := yL_at1 hT45 hE49 (by omega) (by omega) (hc67.trans (by omega)) ⟨by decide, by decide, by decide⟩ hs2287
                  have n2298 := yLn_fr n64 (hs2287 ▸ zOn_set (zOn_rf zQ1 _) (by decide))
                  have y2299 : ybs s2286 = ybs s38 := ybs_fr (hs2287 ▸ zOn_set (zOn_rf zQ1 _) (by decide))
                  refine zt_aload_n (pc' := 54) hX dX12_qGoesOn_53 rfl rfl ?_
                  refine zt_cVv (pc' := 57) hX dX12_qGoesOn_54 rfl zm_yX12_qDropsToBracket zw_31_19 zc_164 (by decide) zs_46 (q := (RX12, TX12, 108)) rfl rfl (yc_X12_qDropsToBracket _ _ s2286 hI2288 (by omega) (by omega)) rfl rfl (Nat.le_of_ble_eq_true rfl) (by decide) (fun r2300 s2301 hr2302 hp2303 => ?_)
                  obtain ⟨hI2304, hF2305, z2306, z2307, z2308⟩ := hp2303
                  have hF2309 := zOn_tr hF2289 hF2305 zi_d2
                  have hT2310 := yTq_rk h2297.1 (yRq_d hF2305)
                  have hE2311 : yqs f s2301 = yPx f p11 := (yqs_rk (yRq_d hF2305)).trans h2297.2.1
                  have b2312 := zv_46_2 hI2304 zc_164
                  have b2313 := zv_46_5 hI2304 zc_164
                  have b2314 := zv_46_97 hI2304 zc_164
                  have b2315 := zv_46_99 hI2304 zc_164
                  have b2316 := zv_46_100 hI2304 zc_164
                  have b2317 := zv_46_101 hI2304 zc_164
                  have b2318 := zv_46_51 hI2304 zc_164
                  have e2319 := hF2305 164 2 rfl
                  have e2320 := hF2305 164 5 rfl
                  have e2321 := hF2305 164 100 rfl
                  have e2322 := hF2305 164 101 rfl
                  have e2323 := hF2305 164 51 rfl
                  have tp2324 := yTopb (c := 24) n2298 ⟨by omega, by omega⟩ z2307 z2308 (by omega) (by decide)
                  clear z2308
                  obtain ⟨t2325, t2326, t2327⟩ := tp2324
                  refine zt_aload_n (pc' := 58) hX dX12_qGoesOn_57 rfl rfl ?_
                  refine zt_dup (pc' := 59) hX dX12_qGoesOn_58 rfl rfl ?_
                  have b2328 := zv_46_99 hI2304 zc_164
                  refine zt_get (pc' := 62) (v := .int (zI (s2301 164 99))) hX dX12_qGoesOn_59 rfl zf_X12_333 (by decide) zc_164 zs_46 rfl ?_
                  refine zt_iconst (pc' := 63) hX dX12_qGoesOn_62 rfl ?_
                  refine zt_isub (pc' := 64) hX dX12_qGoesOn_63 rfl ?_
                  refine zt_put (pc' := 67) (x := ((s2301 164 99) - 1)) hX dX12_qGoesOn_64 rfl zf_X12_333 (by decide) zc_164 zs_46 (fun q hq => by cases hq; rfl) rfl rfl rfl ?_
                  generalize hs2330 : zset s2301 164 99 ((s2301 164 99) - 1) = s2329
                  have hI2331 : zInv s2329 := hs2330 ▸ zp_46_99 hI2304 zc_164 ⟨by omega, by omega⟩
                  have hF2332 : zOn zQ2 σ s2329 := hs2330 ▸ zOn_set hF2309 (by decide)
                  have e2333 : s2329 164 2 = s2301 164 2 := by rw [← hs2330]; exact zset_j (by decide)
                  have e2334 : s2329 164 5 = s2301 164 5 := by rw [← hs2330]; exact zset_j (by decide)
                  have e2335 : s2329 164 97 = s2301 164 97 := by rw [← hs2330]; exact zset_j (by decide)
                  have e2336 : s2329 164 99 = ((s2301 164 99) - 1) := by rw [← hs2330]; exact zset_s
                  have e2337 : s2329 164 100 = s2301 164 100 := by rw [← hs2330]; exact zset_j (by decide)
                  have e2338 : s2329 164 101 = s2301 164 101 := by rw [← hs2330]; exact zset_j (by decide)
                  have e2339 : s2329 164 51 = s2301 164 51 := by rw [← hs2330]; exact zset_j (by decide)
                  have hT2340 := yTq_rk hT2310 (yRq_j hs2330 (by decide))
                  have hE2341 : yqs f s2329 = yPx f p11 := (yqs_rk (yRq_j hs2330 (by decide))).trans hE2311
                  refine zt_aload_n (pc' := 68) hX dX12_qGoesOn_67 rfl rfl ?_
                  refine zt_dup (pc' := 69) hX dX12_qGoesOn_68 rfl rfl ?_
                  have b2342 := zv_46_100 hI2331 zc_164
                  refine zt_get (pc' := 72) (v := .int (zI (s2329 164 100))) hX dX12_qGoesOn_69 rfl zf_X12_336 (by decide) zc_164 zs_46 rfl ?_
                  refine zt_iconst (pc' := 73) hX dX12_qGoesOn_72 rfl ?_
                  refine zt_isub (pc' := 74) hX dX12_qGoesOn_73 rfl ?_
                  refine zt_wrap (fun r2343 zr2343 lr2343 ur2343 => ?_)
                  replace zr2343 := ywr_eq zr2343
                  refine zt_put (pc' := 77) (x := r2343) hX dX12_qGoesOn_74 rfl zf_X12_336 (by decide) zc_164 zs_46 (fun q hq => by cases hq; rfl) rfl rfl rfl ?_
                  generalize hs2345 : zset s2329 164 100 r2343 = s2344
                  have hI2346 : zInv s2344 := hs2345 ▸ zp_46_100 hI2331 zc_164 ⟨by omega, by omega⟩
                  have hF2347 : zOn zQ2 σ s2344 := hs2345 ▸ zOn_set hF2332 (by decide)
                  have e2348 : s2344 164 2 = s2329 164 2 := by rw [← hs2345]; exact zset_j (by decide)
                  have e2349 : s2344 164 5 = s2329 164 5 := by rw [← hs2345]; exact zset_j (by decide)
                  have e2350 : s2344 164 97 = s2329 164 97 := by rw [← hs2345]; exact zset_j (by decide)
                  have e2351 : s2344 164 99 = s2329 164 99 := by rw [← hs2345]; exact zset_j (by decide)
                  have e2352 : s2344 164 100 = r2343 := by rw [← hs2345]; exact zset_s
                  have e2353 : s2344 164 101 = s2329 164 101 := by rw [← hs2345]; exact zset_j (by decide)
                  have e2354 : s2344 164 51 = s2329 164 51 := by rw [← hs2345]; exact zset_j (by decide)
                  have hT2355 := yTq_rk hT2340 (yRq_j hs2345 (by decide))
                  have hE2356 : yqs f s2344 = yPx f p11 := (yqs_rk (yRq_j hs2345 (by decide))).trans hE2341
                  refine zt_aload_n (pc' := 78) hX dX12_qGoesOn_77 rfl rfl ?_
                  refine zt_get (pc' := 81) (v := .ref (X.1.1 + 235)) hX dX12_qGoesOn_78 rfl zf_X12_234 (by decide) zc_164 zs_46 (zrf_of (zv_46_98 hI2346 zc_164)) ?_
                  refine zt_aload_n (pc' := 82) hX dX12_qGoesOn_81 rfl rfl ?_
                  have b2357 := zv_46_99 hI2346 zc_164
                  refine zt_get (pc' := 85) (v := .int (zI (s2344 164 99))) hX dX12_qGoesOn_82 rfl zf_X12_333 (by decide) zc_164 zs_46 rfl ?_
                  refine zt_iald (pc' := 86) hX dX12_qGoesOn_85 rfl (by decide) zc_235 zs_117 (by decide) ⟨by omega, by omega⟩ ?_
                  generalize hv2358 : s2344 235 ((s2344 164 99).toNat) = v2358
                  have bv2358 : -2147483648 ≤ v2358 ∧ v2358 ≤ 2147483647 := hv2358 ▸ zv_117 hI2346 zc_235 _
                  have row2359 : ∀ j, s2344 235 j = s2286 235 j := fun j => by rw [← hs2345, zset_k (by decide), ← hs2330, zset_k (by decide)]; exact hF2305 235 j rfl
                  have u2360 : v2358 = 24 := hv2358.symm.trans ((row2359 _).trans (by rw [show (s2344 164 99).toNat = (s2301 164 99 - 1).toNat by omega]; exact t2326))
                  refine zt_bipush (pc' := 88) hX dX12_qGoesOn_86 rfl (by decide) (by decide) ?_
                  refine zt_iceq (pc' := 91) (tgt := 115) hX dX12_qGoesOn_88 rfl (by decide) ⟨by omega, by omega⟩ ⟨by omega, by omega⟩ (fun c2361 => ?_) (fun c2361 => ?_)
                  · exact absurd c2361 (by omega)
                  · refine zt_aload_n (pc' := 92) hX dX12_qGoesOn_91 rfl rfl ?_
                    refine zt_aload_n (pc' := 93) hX dX12_qGoesOn_92 rfl rfl ?_
                    refine zt_get (pc' := 96) (v := .ref (X.1.1 + 235)) hX dX12_qGoesOn_93 rfl zf_X12_234 (by decide) zc_164 zs_46 (zrf_of (zv_46_98 hI2346 zc_164)) ?_
                    refine zt_aload_n (pc' := 97) hX dX12_qGoesOn_96 rfl rfl ?_
                    refine zt_get (pc' := 100) (v := .int (zI (s2344 164 99))) hX dX12_qGoesOn_97 rfl zf_X12_333 (by decide) zc_164 zs_46 rfl ?_
                    refine zt_iald (pc' := 101) hX dX12_qGoesOn_100 rfl (by decide) zc_235 zs_117 (by decide) ⟨by omega, by omega⟩ ?_
                    generalize hv2362 : s2344 235 ((s2344 164 99).toNat) = v2362
                    have bv2362 : -2147483648 ≤ v2362 ∧ v2362 ≤ 2147483647 := hv2362 ▸ zv_117 hI2346 zc_235 _
                    have u2363 : v2362 = 24 := hv2362.symm.trans ((row2359 _).trans (by rw [show (s2344 164 99).toNat = (s2301 164 99 - 1).toNat by omega]; exact t2326))
                    refine zt_bipush (pc' := 103) hX dX12_qGoesOn_101 rfl (by decide) (by decide) ?_
                    refine zt_icne (pc' := 106) (tgt := 110) hX dX12_qGoesOn_103 rfl (by decide) ⟨by omega, by omega⟩ ⟨by omega, by omega⟩ (fun c2364 => ?_) (fun c2364 => ?_)
                    · refine zt_bipush (pc' := 112) hX dX12_qGoesOn_110 rfl (by decide) (by decide) ?_
                      refine zt_cVv (pc' := 115) hX dX12_qGoesOn_112 rfl zm_yX12_qCode zw_29_18 zc_164 (by decide) zs_46 (q := (RX12, TX12, 108)) rfl rfl (yc_X12_qCode _ _ s2344 hI2346 6 ⟨by omega, by omega⟩ (by omega)) rfl rfl (Nat.le_of_ble_eq_true rfl) (by decide) (fun r2365 s2366 hr2367 hp2368 => ?_)
                      obtain ⟨hI2369, hF2370, z2371⟩ := hp2368
                      have hF2372 := zOn_tr hF2347 hF2370 zi_c2
                      have hT2373 := yTq_rk hT2355 (yRq_c hF2370)
                      have hE2374 : yqs f s2366 = yPx f p11 := (yqs_rk (yRq_c hF2370)).trans hE2356
                      have b2375 := zv_46_2 hI2369 zc_164
                      have b2376 := zv_46_5 hI2369 zc_164
                      have b2377 := zv_46_97 hI2369 zc_164
                      have b2378 := zv_46_99 hI2369 zc_164
                      have b2379 := zv_46_100 hI2369 zc_164
                      have b2380 := zv_46_101 hI2369 zc_164
                      have b2381 := zv_46_51 hI2369 zc_164
                      have e2382 := hF2370 164 2 rfl
                      have e2383 := hF2370 164 5 rfl
                      have e2384 := hF2370 164 99 rfl
                      have e2385 := hF2370 164 100 rfl
                      have e2386 := hF2370 164 101 rfl
                      have e2387 := hF2370 164 51 rfl
                      refine zt_aload_n (pc' := 116) hX dX12_qGoesOn_115 rfl rfl ?_
                      refine zt_cVv (pc' := 119) hX dX12_qGoesOn_116 rfl zm_yX12_qEndsPart zw_31_0 zc_164 (by decide) zs_46 (q := (RX12, TX12, 108)) rfl rfl (yc_X12_qEndsPart _ _ s2366 hI2369 (by omega) (by omega) (by omega)) rfl rfl (Nat.le_of_ble_eq_true rfl) (by decide) (fun r2388 s2389 hr2390 hp2391 => ?_)
                      obtain ⟨hI2392, hF2393, z2394, z2395, z2396⟩ := hp2391
                      have hF2397 := zOn_tr hF2372 hF2393 zi_e2
                      have hT2398 := yTq_rk hT2373 (yRq_e hF2393)
                      have hE2399 : yqs f s2389 = yPx f p11 := (yqs_rk (yRq_e hF2393)).trans hE2374
                      have b2400 := zv_46_2 hI2392 zc_164
                      have b2401 := zv_46_5 hI2392 zc_164
                      have b2402 := zv_46_97 hI2392 zc_164
                      have b2403 := zv_46_99 hI2392 zc_164
                      have b2404 := zv_46_100 hI2392 zc_164
                      have b2405 := zv_46_101 hI2392 zc_164
                      have b2406 := zv_46_51 hI2392 zc_164
                      have e2407 := hF2393 164 2 rfl
                      have e2408 := hF2393 164 5 rfl
                      have e2409 := hF2393 164 101 rfl
                      have e2410 := hF2393 164 51 rfl
                      have n2411 := yClose (c := 24) n2298 hT12 hE13 g2283 (by decide) z2307 ⟨by omega, t2326, by omega⟩ (by omega) (by omega) (by omega) (by omega) (by omega) (fun j => (hF2370 235 j rfl).trans (row2359 j)) (by omega) hF2393 z2394 z2395 z2396 hE2399
                      clear z2396
                      refine zt_goto (tgt := 0) hX dX12_qGoesOn_119 (by decide) ?_
                      exact ih18 s2389 (yPx f p11) hI2392 hF2397 hT2398 hE2399 (by omega) n2411 (yms_x (p := p11) (m := 0) g15.1.1 (by omega) (by omega) (fun o => Or.inl ⟨yadv1 hT12 hE13 g15.1.1 (ykn (Or.inl (by rw [g2283]; decide))), by decide⟩) hm17)
                    · exact absurd c2364 (by omega)
  exact L_0_15 _ σ (yqs f σ) hI hF hT hE0 (by omega) (⟨yLm_0 ho0 hlv, hnf⟩) (Nat.lt_succ_self _)
