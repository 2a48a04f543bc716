set_option maxRecDepth 100000 in
set_option maxHeartbeats 4000000 in
theorem yc_X12_qPartTold (l : Launch) (E : zEN) (σ : zSto) (hI : zInv σ) (hpre0 : σ 164 5 = 0) (f : Int → Int) (hT : yTq f σ) (cb rl : Int) (k : List Nat) (hrl : 0 ≤ rl ∧ rl ≤ 2) (hWd : yWd σ) (hlv : yLv cb rl k σ (yqs f σ)) : zCt l E yX12_qPartTold cX12_qPartTold 6 none 5 zNC zNC 0 0 σ [.ref (E.1 + 164)] (fun r σ' => zInv σ' ∧ zOn zQ2 σ σ' ∧ yTq f σ' ∧ (yJ rl f (1, ystk k σ, (yqs f σ)) (2, ystk k σ', (yqs f σ'))) ∧ (yPo (yqs f σ') = 1 → yLv cb rl k σ' (yqs f σ') ∧ ynf σ' ∧ σ' 164 101 = σ 164 101 ∧ yKp (σ 164 101) σ σ' ∧ yPq (yqs f σ) + 1 ≤ yPq (yqs f σ')) ∧ (σ' 164 97 + σ' 164 99 ≤ 1650 ∧ -1800 ≤ σ' 164 100 ∧ σ' 164 100 ≤ 10)) := by
  refine zCt_of2 [some (.ref (E.1 + 164)), none, none, none, none, none] (by decide +kernel) (Nat.le_of_ble_eq_true rfl) rfl ?_
  intro X hE_ hX hR hL hN
  subst hE_
  have hX : zok X cX12_qPartTold RX12 5 := hX
  have hF := zOn_rf zQ2 σ
  have hE0 : yqs f σ = yqs f σ := rfl
  have ho0 : yPo (yqs f σ) = 1 := (yHb hT rfl).1 (by omega)
  obtain ⟨un1, un2, un3, un4, un5, un6, un7, un8, un9⟩ := yLm_n (f := f) (m := 1) (yLm_0 ho0 hlv) hT rfl
  have b1 := zv_46_2 hI zc_164
  have b2 := zv_46_5 hI zc_164
  have b3 := zv_46_97 hI zc_164
  have b4 := zv_46_99 hI zc_164
  have b5 := zv_46_100 hI zc_164
  have b6 := zv_46_101 hI zc_164
  have b7 := zv_46_51 hI zc_164
  refine zt_iconst (pc' := 1) hX dX12_qPartTold_0 rfl ?_
  refine zt_istore_n (pc' := 2) (lv' := [some (.ref (X.1.1 + 164)), some (.int (zI 1)), none, none, none, none]) hX dX12_qPartTold_1 rfl hL (by decide) rfl ?_
  have L_2_18 : ∀ (N : Nat) (x8 : Int) (s11 : zSto) (p14 : yP), 0 ≤ x8 → x8 ≤ 1 → zInv s11 → zOn zQ2 σ s11 → yTq f s11 → yqs f s11 = p14 → (s11 164 97 + s11 164 99 ≤ 1640 ∧ 0 ≤ s11 164 100 ∧ s11 164 100 ≤ 10) → yLp cb rl f k (1, ystk k σ, yqs f σ) σ s11 p14 x8 → (yms p14 x8) < N → zF X s11 2 [some (.ref (X.1.1 + 164)), some (.int (zI x8)), none, none, none, none] [] := by
    intro N
    induction N with
    | zero =>
      intro x8 s11 p14 h9 h10 hI12 hF13 hT15 hE16 g17 g18 hm20
      exact absurd hm20 (Nat.not_lt_zero _)
    | succ N ih21 =>
      intro x8 s11 p14 h9 h10 hI12 hF13 hT15 hE16 g17 g18 hm20
      have b22 := zv_46_2 hI12 zc_164
      have b23 := zv_46_5 hI12 zc_164
      have b24 := zv_46_97 hI12 zc_164
      have b25 := zv_46_99 hI12 zc_164
      have b26 := zv_46_100 hI12 zc_164
      have b27 := zv_46_101 hI12 zc_164
      have b28 := zv_46_51 hI12 zc_164
      rcases yLp_c g18 with ⟨rfl, a29⟩ | ⟨rfl, o30⟩ | ⟨rfl, a31, n32⟩
      · obtain ⟨u33, u34, u35, u36, u37, u38, u39, u40, u41⟩ := yLm_n a29 hT15 hE16
        refine zt_iload_n (pc' := 3) hX dX12_qPartTold_2 rfl rfl ?_
        refine zt_ifeq (pc' := 6) (tgt := 186) hX dX12_qPartTold_3 rfl (by decide) ⟨by omega, by omega⟩ (fun c42 => ?_) (fun c42 => ?_)
        · exact absurd c42 (by omega)
        · refine zt_aload_n (pc' := 7) hX dX12_qPartTold_6 rfl rfl ?_
          have b43 := zv_46_5 hI12 zc_164
          refine zt_get (pc' := 10) (v := .int (zI (s11 164 5))) hX dX12_qPartTold_7 rfl zf_X12_246 (by decide) zc_164 zs_46 rfl ?_
          refine zt_ifne (pc' := 13) (tgt := 186) hX dX12_qPartTold_10 rfl (by decide) ⟨by omega, by omega⟩ (fun c44 => ?_) (fun c44 => ?_)
          · exact absurd c44 (by omega)
          · refine zt_aload_n (pc' := 14) hX dX12_qPartTold_13 rfl rfl ?_
            refine zt_cVi (pc' := 17) hX dX12_qPartTold_14 rfl zm_yX12_look zw_26_12 zc_164 (by decide) zs_46 (q := (RX12, TX12, 108)) rfl rfl (yc_X12_look _ _ s11 hI12 f hT15) rfl rfl (Nat.le_of_ble_eq_true rfl) (by decide) (fun r45 s46 hr47 hp48 => ?_)
            obtain ⟨hI49, hF50, q51, q52, hT53, z54, z55, z56⟩ := hp48
            have hE57 : yqs f s46 = p14 := by rw [z54, hE16]
            have hF58 := zOn_tr hF13 hF50 zi_a2
            have b59 := zv_46_2 hI49 zc_164
            have b60 := zv_46_5 hI49 zc_164
            have b61 := zv_46_97 hI49 zc_164
            have b62 := zv_46_99 hI49 zc_164
            have b63 := zv_46_100 hI49 zc_164
            have b64 := zv_46_101 hI49 zc_164
            have b65 := zv_46_51 hI49 zc_164
            have e66 := hF50 164 5 rfl
            have e67 := hF50 164 97 rfl
            have e68 := hF50 164 99 rfl
            have e69 := hF50 164 100 rfl
            have e70 := hF50 164 101 rfl
            have e71 := hF50 164 51 rfl
            have a72 := yLm_fr a29 (zOn_tr (zOn_rf zQ1 _) hF50 zi_a1)
            have hq73 : s46 164 2 = yPq p14 := yat_q hE16 (by omega) z55
            have hc74 : f (yPq p14) = r45 := by rw [← hq73]; exact z56.symm
            clear z55 z56
            refine zt_istore_n (pc' := 18) (lv' := [some (.ref (X.1.1 + 164)), some (.int (zI 1)), some (.int (zI r45)), none, none, none]) hX dX12_qPartTold_17 rfl hL (by decide) rfl ?_
            refine zt_aload_n (pc' := 19) hX dX12_qPartTold_18 rfl rfl ?_
            refine zt_bipush (pc' := 21) hX dX12_qPartTold_19 rfl (by decide) (by decide) ?_
            refine zt_bipush (pc' := 23) hX dX12_qPartTold_21 rfl (by decide) (by decide) ?_
            refine zt_cVi (pc' := 26) hX dX12_qPartTold_23 rfl zm_yX12_qWordOf zw_30_6 zc_164 (by decide) zs_46 (q := (RX12, TX12, 108)) rfl rfl (yc_X12_qWordOf _ _ s46 hI49 10 ⟨by omega, by omega⟩ 11 ⟨by omega, by omega⟩ f hT53 (yWd_2 hWd hF58)) rfl rfl (Nat.le_of_ble_eq_true rfl) (by decide) (fun r75 s76 hr77 hp78 => ?_)
            obtain ⟨hI79, hF80, q81, q82, hT83, z84, z85, z86⟩ := hp78
            have hE87 : yqs f s76 = p14 := by rw [z84, hE57]
            rw [hE57] at z85
            rw [hE57] at z86
            have hF88 := zOn_tr hF58 hF80 zi_a2
            have b89 := zv_46_2 hI79 zc_164
            have b90 := zv_46_5 hI79 zc_164
            have b91 := zv_46_97 hI79 zc_164
            have b92 := zv_46_99 hI79 zc_164
            have b93 := zv_46_100 hI79 zc_164
            have b94 := zv_46_101 hI79 zc_164
            have b95 := zv_46_51 hI79 zc_164
            have e96 := hF80 164 5 rfl
            have e97 := hF80 164 97 rfl
            have e98 := hF80 164 99 rfl
            have e99 := hF80 164 100 rfl
            have e100 := hF80 164 101 rfl
            have e101 := hF80 164 51 rfl
            have a102 := yLm_fr a72 (zOn_tr (zOn_rf zQ1 _) hF80 zi_a1)
            have hq103 := z86 a102.1
            clear z86
            have hw104 := yof_f (by omega) hrl z85
            clear z85
            replace hw104 : yOf rl f p14 r75 := hw104
            refine zt_istore_n (pc' := 27) (lv' := [some (.ref (X.1.1 + 164)), some (.int (zI 1)), some (.int (zI r45)), some (.int (zI r75)), none, none]) hX dX12_qPartTold_26 rfl hL (by decide) rfl ?_
            refine zt_iload_n (pc' := 28) hX dX12_qPartTold_27 rfl rfl ?_
            refine zt_bipush (pc' := 30) hX dX12_qPartTold_28 rfl (by decide) (by decide) ?_
            refine zt_icne (pc' := 33) (tgt := 56) hX dX12_qPartTold_30 rfl (by decide) ⟨by omega, by omega⟩ ⟨by omega, by omega⟩ (fun c105 => ?_) (fun c105 => ?_)
            · have ng106 : yPg f p14 ≠ 40 := ysg_n (by rw [hc74]; omega) ⟨by decide, by decide, by decide⟩
              refine zt_aload_n (pc' := 57) hX dX12_qPartTold_56 rfl rfl ?_
              refine zt_aload_n (pc' := 58) hX dX12_qPartTold_57 rfl rfl ?_
              refine zt_get (pc' := 61) (v := .ref (X.1.1 + 221)) hX dX12_qPartTold_58 rfl zf_X12_192 (by decide) zc_164 zs_46 (zrf_of (zv_46_83 hI79 zc_164)) ?_
              refine zt_cVz (pc' := 64) hX dX12_qPartTold_61 rfl zm_yX12_isHere zw_26_8 zc_164 (by decide) zs_46 (q := (RX12, TX12, 108)) rfl rfl (yc_X12_isHere _ _ s76 hI79 221 103 3 zc_221 (by decide) zs_103 (by decide) f hT83 25 (yrow_221 (yWd_2 hWd hF88)) (by decide)) rfl rfl (Nat.le_of_ble_eq_true rfl) (by decide) (fun r107 s108 hr109 hp110 => ?_)
              obtain ⟨hI111, hF112, q113, q114, hT115, z116, z117, z118, z119⟩ := hp110
              have hE120 : yqs f s108 = p14 := by rw [z116, hE87]
              rw [hE87] at z117
              rw [hE87] at z118
              have hF121 := zOn_tr hF88 hF112 zi_a2
              have b122 := zv_46_2 hI111 zc_164
              have b123 := zv_46_5 hI111 zc_164
              have b124 := zv_46_97 hI111 zc_164
              have b125 := zv_46_99 hI111 zc_164
              have b126 := zv_46_100 hI111 zc_164
              have b127 := zv_46_101 hI111 zc_164
              have b128 := zv_46_51 hI111 zc_164
              have e129 := hF112 164 5 rfl
              have e130 := hF112 164 97 rfl
              have e131 := hF112 164 99 rfl
              have e132 := hF112 164 100 rfl
              have e133 := hF112 164 101 rfl
              have e134 := hF112 164 51 rfl
              have a135 := yLm_fr a102 (zOn_tr (zOn_rf zQ1 _) hF112 zi_a1)
              have hq136 := z118 a135.1
              clear z118 z119
              rcases yspl z117 with ⟨rfl, c137⟩ | ⟨rfl, c137⟩
              · clear z117
                refine zt_ifne (pc' := 67) (tgt := 78) hX dX12_qPartTold_64 rfl (by decide) ⟨by omega, by omega⟩ (fun c138 => ?_) (fun c138 => ?_)
                · refine zt_aload_n (pc' := 79) hX dX12_qPartTold_78 rfl rfl ?_
                  refine zt_aload_n (pc' := 80) hX dX12_qPartTold_79 rfl rfl ?_
                  refine zt_get (pc' := 83) (v := .ref (X.1.1 + 221)) hX dX12_qPartTold_80 rfl zf_X12_192 (by decide) zc_164 zs_46 (zrf_of (zv_46_83 hI111 zc_164)) ?_
                  refine zt_cVz (pc' := 86) hX dX12_qPartTold_83 rfl zm_yX12_takes zw_26_4 zc_164 (by decide) zs_46 (q := (RX12, TX12, 108)) rfl rfl (yc_X12_takes _ _ s108 hI111 221 103 3 zc_221 (by decide) zs_103 (by decide) f hT115 25 (yrow_221 (yWd_2 hWd hF121)) (by decide)) rfl rfl (Nat.le_of_ble_eq_true rfl) (by decide) (fun r139 s140 hr141 hp142 => ?_)
                  obtain ⟨hI143, hF144, q145, q146, hT147, z148, z149, z150⟩ := hp142
                  have hE151 : yqs f s140 = yPt f 25 p14 := by rw [z148, hE120]
                  rw [hE120] at z149
                  rw [hE120] at z150
                  have hF152 := zOn_tr hF121 hF144 zi_12
                  have b153 := zv_46_2 hI143 zc_164
                  have b154 := zv_46_5 hI143 zc_164
                  have b155 := zv_46_97 hI143 zc_164
                  have b156 := zv_46_99 hI143 zc_164
                  have b157 := zv_46_100 hI143 zc_164
                  have b158 := zv_46_101 hI143 zc_164
                  have b159 := zv_46_51 hI143 zc_164
                  have e160 := hF144 164 97 rfl
                  have e161 := hF144 164 99 rfl
                  have e162 := hF144 164 100 rfl
                  have e163 := hF144 164 101 rfl
                  have e164 := hF144 164 51 rfl
                  have a165 := yLm_fr a135 hF144
                  clear z150
                  have hr166 := z149.1 c137
                  subst hr166
                  clear z149
                  have hE167 : yqs f s140 = yPx f p14 := hE151.trans (if_pos c137)
                  have a168 := yLm_st a165 hT15 hE16 (fun K => yJ_mm (Or.inl c137))
                  have u169 := yHb1 hE167 a168.1
                  refine zt_istore (pc' := 88) (lv' := [some (.ref (X.1.1 + 164)), some (.int (zI 1)), some (.int (zI r45)), some (.int (zI r75)), some (.int (zI 1)), none]) hX dX12_qPartTold_86 rfl hL (by decide) rfl ?_
                  refine zt_iload (pc' := 90) hX dX12_qPartTold_88 rfl rfl ?_
                  refine zt_ifne (pc' := 93) (tgt := 101) hX dX12_qPartTold_90 rfl (by decide) ⟨by omega, by omega⟩ (fun c170 => ?_) (fun c170 => ?_)
                  · refine zt_aload_n (pc' := 102) hX dX12_qPartTold_101 rfl rfl ?_
                    refine zt_cVi (pc' := 105) hX dX12_qPartTold_102 rfl zm_yX12_look zw_26_12 zc_164 (by decide) zs_46 (q := (RX12, TX12, 108)) rfl rfl (yc_X12_look _ _ s140 hI143 f hT147) rfl rfl (Nat.le_of_ble_eq_true rfl) (by decide) (fun r171 s172 hr173 hp174 => ?_)
                    obtain ⟨hI175, hF176, q177, q178, hT179, z180, z181, z182⟩ := hp174
                    have hE183 : yqs f s172 = (yPx f p14) := by rw [z180, hE167]
                    have hF184 := zOn_tr hF152 hF176 zi_a2
                    have b185 := zv_46_2 hI175 zc_164
                    have b186 := zv_46_5 hI175 zc_164
                    have b187 := zv_46_97 hI175 zc_164
                    have b188 := zv_46_99 hI175 zc_164
                    have b189 := zv_46_100 hI175 zc_164
                    have b190 := zv_46_101 hI175 zc_164
                    have b191 := zv_46_51 hI175 zc_164
                    have e192 := hF176 164 5 rfl
                    have e193 := hF176 164 97 rfl
                    have e194 := hF176 164 99 rfl
                    have e195 := hF176 164 100 rfl
                    have e196 := hF176 164 101 rfl
                    have e197 := hF176 164 51 rfl
                    have a198 := yLm_fr a168 (zOn_tr (zOn_rf zQ1 _) hF176 zi_a1)
                    have hq199 : s172 164 2 = yPq (yPx f p14) := yat_q hE167 (by omega) z181
                    have hc200 : f (yPq (yPx f p14)) = r171 := by rw [← hq199]; exact z182.symm
                    clear z181 z182
                    refine zt_bipush (pc' := 107) hX dX12_qPartTold_105 rfl (by decide) (by decide) ?_
                    refine zt_icne (pc' := 110) (tgt := 117) hX dX12_qPartTold_107 rfl (by decide) ⟨by omega, by omega⟩ ⟨by omega, by omega⟩ (fun c201 => ?_) (fun c201 => ?_)
                    · have ng202 : yPg f (yPx f p14) ≠ 40 := ysg_n (by rw [hc200]; omega) ⟨by decide, by decide, by decide⟩
                      refine zt_iconst (pc' := 118) hX dX12_qPartTold_117 rfl ?_
                      refine zt_istore (pc' := 120) (lv' := [some (.ref (X.1.1 + 164)), some (.int (zI 1)), some (.int (zI r45)), some (.int (zI r75)), some (.int (zI 1)), some (.int (zI (-1)))]) hX dX12_qPartTold_118 rfl hL (by decide) rfl ?_
                      refine zt_iload (pc' := 122) hX dX12_qPartTold_120 rfl rfl ?_
                      refine zt_iconst (pc' := 123) hX dX12_qPartTold_122 rfl ?_
                      refine zt_iceq (pc' := 126) (tgt := 144) hX dX12_qPartTold_123 rfl (by decide) ⟨by omega, by omega⟩ ⟨by omega, by omega⟩ (fun c203 => ?_) (fun c203 => ?_)
                      · refine zt_aload_n (pc' := 145) hX dX12_qPartTold_144 rfl rfl ?_
                        refine zt_bipush (pc' := 147) hX dX12_qPartTold_145 rfl (by decide) (by decide) ?_
                        refine zt_cVv (pc' := 150) hX dX12_qPartTold_147 rfl zm_yX12_asksSign zw_27_10 zc_164 (by decide) zs_46 (q := (RX12, TX12, 108)) rfl rfl (yc_X12_asksSign _ _ s172 hI175 40 ⟨by omega, by omega⟩ (by omega) f hT179) rfl rfl (Nat.le_of_ble_eq_true rfl) (by decide) (fun r204 s205 hr206 hp207 => ?_)
                        obtain ⟨hI208, hF209, hT210, z211⟩ := hp207
                        have hE212 : yqs f s205 = yPs f 40 (yPx f p14) := by rw [z211, hE183]
                        have hF213 := zOn_tr hF184 hF209 zi_12
                        have b214 := zv_46_2 hI208 zc_164
                        have b215 := zv_46_5 hI208 zc_164
                        have b216 := zv_46_97 hI208 zc_164
                        have b217 := zv_46_99 hI208 zc_164
                        have b218 := zv_46_100 hI208 zc_164
                        have b219 := zv_46_101 hI208 zc_164
                        have b220 := zv_46_51 hI208 zc_164
                        have e221 := hF209 164 97 rfl
                        have e222 := hF209 164 99 rfl
                        have e223 := hF209 164 100 rfl
                        have e224 := hF209 164 101 rfl
                        have e225 := hF209 164 51 rfl
                        have hE226 := hE212.trans (if_neg ng202)
                        refine zt_goto (tgt := 183) hX dX12_qPartTold_150 (by decide) ?_
                        refine zt_goto (tgt := 2) hX dX12_qPartTold_183 (by decide) ?_
                        refine zt_mask [true, true, false, false, false, false] rfl ?_
                        exact ih21 1 s205 (yPf 1 0 (yPx f p14)) (by omega) (by omega) hI208 hF213 hT210 hE226 (by omega) (Or.inr (Or.inl ⟨rfl, yLm_f a198 yPo_pf (fun K => yJ_prn ng202)⟩)) (yms_x (p := p14) (m := 1) a29.1 (by omega) (by omega) (fun o => absurd o (by first | (rw [yPo_no]; decide) | (rw [yPo_pf]; decide))) hm20)
                      · exact absurd c203 (by omega)
                    · have g227 : yPg f (yPx f p14) = 40 := ysg_p hT179 hE183 (by omega) (by omega) (hc200.trans (by omega)) ⟨by decide, by decide, by decide⟩
                      refine zt_aload_n (pc' := 111) hX dX12_qPartTold_110 rfl rfl ?_
                      have b228 := zv_46_2 hI175 zc_164
                      refine zt_get (pc' := 114) (v := .int (zI (s172 164 2))) hX dX12_qPartTold_111 rfl zf_X12_252 (by decide) zc_164 zs_46 rfl ?_
                      refine zt_goto (tgt := 118) hX dX12_qPartTold_114 (by decide) ?_
                      refine zt_istore (pc' := 120) (lv' := [some (.ref (X.1.1 + 164)), some (.int (zI 1)), some (.int (zI r45)), some (.int (zI r75)), some (.int (zI 1)), some (.int (zI (s172 164 2)))]) hX dX12_qPartTold_118 rfl hL (by decide) rfl ?_
                      refine zt_iload (pc' := 122) hX dX12_qPartTold_120 rfl rfl ?_
                      refine zt_iconst (pc' := 123) hX dX12_qPartTold_122 rfl ?_
                      refine zt_iceq (pc' := 126) (tgt := 144) hX dX12_qPartTold_123 rfl (by decide) ⟨by omega, by omega⟩ ⟨by omega, by omega⟩ (fun c229 => ?_) (fun c229 => ?_)
                      · exact absurd c229 (by omega)
                      · refine zt_aload_n (pc' := 127) hX dX12_qPartTold_126 rfl rfl ?_
                        refine zt_iload (pc' := 129) hX dX12_qPartTold_127 rfl rfl ?_
                        refine zt_ifeq (pc' := 132) (tgt := 137) hX dX12_qPartTold_129 rfl (by decide) ⟨by omega, by omega⟩ (fun c230 => ?_) (fun c230 => ?_)
                        · exact absurd c230 (by omega)
                        · refine zt_bipush (pc' := 134) hX dX12_qPartTold_132 rfl (by decide) (by decide) ?_
                          refine zt_goto (tgt := 139) hX dX12_qPartTold_134 (by decide) ?_
                          refine zt_iload (pc' := 141) hX dX12_qPartTold_139 rfl rfl ?_
                          refine zt_cVv (pc' := 144) hX dX12_qPartTold_141 rfl zm_yX12_qOpens zw_29_10 zc_164 (by decide) zs_46 (q := (RX12, TX12, 108)) rfl rfl (yc_X12_qOpens _ _ s172 hI175 21 ⟨by omega, by omega⟩ (s172 164 2) ⟨by omega, by omega⟩ (by omega) (by omega) (by omega) f hT179) rfl rfl (Nat.le_of_ble_eq_true rfl) (by decide) (fun r231 s232 hr233 hp234 => ?_)
                          obtain ⟨hI235, hF236, hT237, z238⟩ := hp234
                          rw [hE183] at z238
                          have hF239 := zOn_tr hF184 hF236 zi_o2
                          obtain ⟨p240, hE241⟩ : ∃ p, yqs f s232 = p := ⟨_, rfl⟩
                          rw [hE241] at z238
                          have b242 := zv_46_2 hI235 zc_164
                          have b243 := zv_46_5 hI235 zc_164
                          have b244 := zv_46_97 hI235 zc_164
                          have b245 := zv_46_99 hI235 zc_164
                          have b246 := zv_46_100 hI235 zc_164
                          have b247 := zv_46_101 hI235 zc_164
                          have b248 := zv_46_51 hI235 zc_164
                          have e249 := hF236 164 97 rfl
                          have e250 := hF236 164 101 rfl
                          have e251 := hF236 164 51 rfl
                          rcases z238 with ⟨d252, q253, x254, x255, x256⟩ | ⟨d252, q253, x254, x255, x256, x257, x258⟩
                          · have hE260 := hE241.trans q253
                            have u261 := yHb0 hE260 yPo_no
                            refine zt_aload_n (pc' := 145) hX dX12_qPartTold_144 rfl rfl ?_
                            refine zt_bipush (pc' := 147) hX dX12_qPartTold_145 rfl (by decide) (by decide) ?_
                            refine zt_cVv (pc' := 150) hX dX12_qPartTold_147 rfl zm_yX12_asksSign zw_27_10 zc_164 (by decide) zs_46 (q := (RX12, TX12, 108)) rfl rfl (yc_X12_asksSign _ _ s232 hI235 40 ⟨by omega, by omega⟩ (by omega) f hT237) rfl rfl (Nat.le_of_ble_eq_true rfl) (by decide) (fun r262 s263 hr264 hp265 => ?_)
                            obtain ⟨hI266, hF267, hT268, z269⟩ := hp265
                            have hE270 : yqs f s263 = yPs f 40 (yPno 4 (s172 164 2) (yPx f p14)) := by rw [z269, hE260]
                            have hF271 := zOn_tr hF239 hF267 zi_12
                            have b272 := zv_46_2 hI266 zc_164
                            have b273 := zv_46_5 hI266 zc_164
                            have b274 := zv_46_97 hI266 zc_164
                            have b275 := zv_46_99 hI266 zc_164
                            have b276 := zv_46_100 hI266 zc_164
                            have b277 := zv_46_101 hI266 zc_164
                            have b278 := zv_46_51 hI266 zc_164
                            have e279 := hF267 164 97 rfl
                            have e280 := hF267 164 99 rfl
                            have e281 := hF267 164 100 rfl
                            have e282 := hF267 164 101 rfl
                            have e283 := hF267 164 51 rfl
                            have hE284 := hE270.trans (yPs_no yPo_no).symm
                            refine zt_goto (tgt := 183) hX dX12_qPartTold_150 (by decide) ?_
                            refine zt_goto (tgt := 2) hX dX12_qPartTold_183 (by decide) ?_
                            refine zt_mask [true, true, false, false, false, false] rfl ?_
                            exact ih21 1 s263 (yPno 4 (s172 164 2) (yPx f p14)) (by omega) (by omega) hI266 hF271 hT268 hE284 (by omega) (Or.inr (Or.inl ⟨rfl, yLm_f6 a198 (by omega) (by omega) (fun K d => yJ_pr6 g227 d)⟩)) (yms_x (p := p14) (m := 1) a29.1 (by omega) (by omega) (fun o => absurd o (by first | (rw [yPo_no]; decide) | (rw [yPo_pf]; decide))) hm20)
                          · have hE285 := hE241.trans q253
                            have u286 := yHb1 hE285 a198.1
                            refine zt_aload_n (pc' := 145) hX dX12_qPartTold_144 rfl rfl ?_
                            refine zt_bipush (pc' := 147) hX dX12_qPartTold_145 rfl (by decide) (by decide) ?_
                            refine zt_cVv (pc' := 150) hX dX12_qPartTold_147 rfl zm_yX12_asksSign zw_27_10 zc_164 (by decide) zs_46 (q := (RX12, TX12, 108)) rfl rfl (yc_X12_asksSign _ _ s232 hI235 40 ⟨by omega, by omega⟩ (by omega) f hT237) rfl rfl (Nat.le_of_ble_eq_true rfl) (by decide) (fun r287 s288 hr289 hp290 => ?_)
                            obtain ⟨hI291, hF292, hT293, z294⟩ := hp290
                            have hE295 : yqs f s288 = yPs f 40 (yPx f p14) := by rw [z294, hE285]
                            have hF296 := zOn_tr hF239 hF292 zi_12
                            have b297 := zv_46_2 hI291 zc_164
                            have b298 := zv_46_5 hI291 zc_164
                            have b299 := zv_46_97 hI291 zc_164
                            have b300 := zv_46_99 hI291 zc_164
                            have b301 := zv_46_100 hI291 zc_164
                            have b302 := zv_46_101 hI291 zc_164
                            have b303 := zv_46_51 hI291 zc_164
                            have e304 := hF292 164 97 rfl
                            have e305 := hF292 164 99 rfl
                            have e306 := hF292 164 100 rfl
                            have e307 := hF292 164 101 rfl
                            have e308 := hF292 164 51 rfl
                            have hE309 := hE295.trans (if_pos g227)
                            refine zt_goto (tgt := 183) hX dX12_qPartTold_150 (by decide) ?_
                            refine zt_goto (tgt := 2) hX dX12_qPartTold_183 (by decide) ?_
                            refine zt_mask [true, true, false, false, false, false] rfl ?_
                            exact ih21 1 s288 (yPx f (yPx f p14)) (by omega) (by omega) hI291 hF296 hT293 hE309 (by omega) (Or.inl ⟨rfl, yLm_op (c := 21) a198 hT179 hE183 (by omega) (by omega) x254 x255 x256 x257 hF236 hF292 (by decide) (fun K d => yJ_pr g227 d) (ykn (Or.inl (by rw [g227]; decide)))⟩) (yms_x (p := p14) (m := 1) a29.1 (by omega) (by omega) (fun o => Or.inl ⟨(yadv2 hT15 hE16 a29.1 hT179 hE183 (ykn (Or.inl (by rw [g227]; decide)))), by decide⟩) hm20)
                  · exact absurd c170 (by omega)
                · exact absurd c138 (by omega)
              · clear z117
                refine zt_ifne (pc' := 67) (tgt := 78) hX dX12_qPartTold_64 rfl (by decide) ⟨by omega, by omega⟩ (fun c310 => ?_) (fun c310 => ?_)
                · exact absurd c310 (by omega)
                · refine zt_aload_n (pc' := 68) hX dX12_qPartTold_67 rfl rfl ?_
                  refine zt_aload_n (pc' := 69) hX dX12_qPartTold_68 rfl rfl ?_
                  refine zt_get (pc' := 72) (v := .ref (X.1.1 + 222)) hX dX12_qPartTold_69 rfl zf_X12_195 (by decide) zc_164 zs_46 (zrf_of (zv_46_84 hI111 zc_164)) ?_
                  refine zt_cVz (pc' := 75) hX dX12_qPartTold_72 rfl zm_yX12_isHere zw_26_8 zc_164 (by decide) zs_46 (q := (RX12, TX12, 108)) rfl rfl (yc_X12_isHere _ _ s108 hI111 222 104 3 zc_222 (by decide) zs_104 (by decide) f hT115 26 (yrow_222 (yWd_2 hWd hF121)) (by decide)) rfl rfl (Nat.le_of_ble_eq_true rfl) (by decide) (fun r311 s312 hr313 hp314 => ?_)
                  obtain ⟨hI315, hF316, q317, q318, hT319, z320, z321, z322, z323⟩ := hp314
                  have hE324 : yqs f s312 = p14 := by rw [z320, hE120]
                  rw [hE120] at z321
                  rw [hE120] at z322
                  have hF325 := zOn_tr hF121 hF316 zi_a2
                  have b326 := zv_46_2 hI315 zc_164
                  have b327 := zv_46_5 hI315 zc_164
                  have b328 := zv_46_97 hI315 zc_164
                  have b329 := zv_46_99 hI315 zc_164
                  have b330 := zv_46_100 hI315 zc_164
                  have b331 := zv_46_101 hI315 zc_164
                  have b332 := zv_46_51 hI315 zc_164
                  have e333 := hF316 164 5 rfl
                  have e334 := hF316 164 97 rfl
                  have e335 := hF316 164 99 rfl
                  have e336 := hF316 164 100 rfl
                  have e337 := hF316 164 101 rfl
                  have e338 := hF316 164 51 rfl
                  have a339 := yLm_fr a135 (zOn_tr (zOn_rf zQ1 _) hF316 zi_a1)
                  have hq340 := z322 a339.1
                  clear z322 z323
                  rcases yspl z321 with ⟨rfl, c341⟩ | ⟨rfl, c341⟩
                  · clear z321
                    refine zt_ifeq (pc' := 78) (tgt := 153) hX dX12_qPartTold_75 rfl (by decide) ⟨by omega, by omega⟩ (fun c342 => ?_) (fun c342 => ?_)
                    · exact absurd c342 (by omega)
                    · refine zt_aload_n (pc' := 79) hX dX12_qPartTold_78 rfl rfl ?_
                      refine zt_aload_n (pc' := 80) hX dX12_qPartTold_79 rfl rfl ?_
                      refine zt_get (pc' := 83) (v := .ref (X.1.1 + 221)) hX dX12_qPartTold_80 rfl zf_X12_192 (by decide) zc_164 zs_46 (zrf_of (zv_46_83 hI315 zc_164)) ?_
                      refine zt_cVz (pc' := 86) hX dX12_qPartTold_83 rfl zm_yX12_takes zw_26_4 zc_164 (by decide) zs_46 (q := (RX12, TX12, 108)) rfl rfl (yc_X12_takes _ _ s312 hI315 221 103 3 zc_221 (by decide) zs_103 (by decide) f hT319 25 (yrow_221 (yWd_2 hWd hF325)) (by decide)) rfl rfl (Nat.le_of_ble_eq_true rfl) (by decide) (fun r343 s344 hr345 hp346 => ?_)
                      obtain ⟨hI347, hF348, q349, q350, hT351, z352, z353, z354⟩ := hp346
                      have hE355 : yqs f s344 = yPt f 25 p14 := by rw [z352, hE324]
                      rw [hE324] at z353
                      rw [hE324] at z354
                      have hF356 := zOn_tr hF325 hF348 zi_12
                      have b357 := zv_46_2 hI347 zc_164
                      have b358 := zv_46_5 hI347 zc_164
                      have b359 := zv_46_97 hI347 zc_164
                      have b360 := zv_46_99 hI347 zc_164
                      have b361 := zv_46_100 hI347 zc_164
                      have b362 := zv_46_101 hI347 zc_164
                      have b363 := zv_46_51 hI347 zc_164
                      have e364 := hF348 164 97 rfl
                      have e365 := hF348 164 99 rfl
                      have e366 := hF348 164 100 rfl
                      have e367 := hF348 164 101 rfl
                      have e368 := hF348 164 51 rfl
                      have a369 := yLm_fr a339 hF348
                      clear z354
                      have hr370 := z353.2 c137
                      subst hr370
                      clear z353
                      have hE371 : yqs f s344 = p14 := hE355.trans (if_neg c137)
                      have u372 := yHb1 hE371 a369.1
                      refine zt_istore (pc' := 88) (lv' := [some (.ref (X.1.1 + 164)), some (.int (zI 1)), some (.int (zI r45)), some (.int (zI r75)), some (.int (zI 0)), none]) hX dX12_qPartTold_86 rfl hL (by decide) rfl ?_
                      refine zt_iload (pc' := 90) hX dX12_qPartTold_88 rfl rfl ?_
                      refine zt_ifne (pc' := 93) (tgt := 101) hX dX12_qPartTold_90 rfl (by decide) ⟨by omega, by omega⟩ (fun c373 => ?_) (fun c373 => ?_)
                      · exact absurd c373 (by omega)
                      · refine zt_aload_n (pc' := 94) hX dX12_qPartTold_93 rfl rfl ?_
                        refine zt_aload_n (pc' := 95) hX dX12_qPartTold_94 rfl rfl ?_
                        refine zt_get (pc' := 98) (v := .ref (X.1.1 + 222)) hX dX12_qPartTold_95 rfl zf_X12_195 (by decide) zc_164 zs_46 (zrf_of (zv_46_84 hI347 zc_164)) ?_
                        refine zt_cVv (pc' := 101) hX dX12_qPartTold_98 rfl zm_yX12_asks zw_26_0 zc_164 (by decide) zs_46 (q := (RX12, TX12, 108)) rfl rfl (yc_X12_asks _ _ s344 hI347 222 104 3 zc_222 (by decide) zs_104 (by decide) f hT351 26 (yrow_222 (yWd_2 hWd hF356)) (by decide)) rfl rfl (Nat.le_of_ble_eq_true rfl) (by decide) (fun r374 s375 hr376 hp377 => ?_)
                        obtain ⟨hI378, hF379, hT380, z381⟩ := hp377
                        have hE382 : yqs f s375 = yPw f 26 p14 := by rw [z381, hE371]
                        have hF383 := zOn_tr hF356 hF379 zi_12
                        have b384 := zv_46_2 hI378 zc_164
                        have b385 := zv_46_5 hI378 zc_164
                        have b386 := zv_46_97 hI378 zc_164
                        have b387 := zv_46_99 hI378 zc_164
                        have b388 := zv_46_100 hI378 zc_164
                        have b389 := zv_46_101 hI378 zc_164
                        have b390 := zv_46_51 hI378 zc_164
                        have e391 := hF379 164 97 rfl
                        have e392 := hF379 164 99 rfl
                        have e393 := hF379 164 100 rfl
                        have e394 := hF379 164 101 rfl
                        have e395 := hF379 164 51 rfl
                        have a396 := yLm_fr a369 hF379
                        have hE397 : yqs f s375 = yPx f p14 := hE382.trans (if_pos c341)
                        have a398 := yLm_st a396 hT15 hE16 (fun K => yJ_mm (Or.inr c341))
                        have u399 := yHb1 hE397 a398.1
                        refine zt_aload_n (pc' := 102) hX dX12_qPartTold_101 rfl rfl ?_
                        refine zt_cVi (pc' := 105) hX dX12_qPartTold_102 rfl zm_yX12_look zw_26_12 zc_164 (by decide) zs_46 (q := (RX12, TX12, 108)) rfl rfl (yc_X12_look _ _ s375 hI378 f hT380) rfl rfl (Nat.le_of_ble_eq_true rfl) (by decide) (fun r400 s401 hr402 hp403 => ?_)
                        obtain ⟨hI404, hF405, q406, q407, hT408, z409, z410, z411⟩ := hp403
                        have hE412 : yqs f s401 = (yPx f p14) := by rw [z409, hE397]
                        have hF413 := zOn_tr hF383 hF405 zi_a2
                        have b414 := zv_46_2 hI404 zc_164
                        have b415 := zv_46_5 hI404 zc_164
                        have b416 := zv_46_97 hI404 zc_164
                        have b417 := zv_46_99 hI404 zc_164
                        have b418 := zv_46_100 hI404 zc_164
                        have b419 := zv_46_101 hI404 zc_164
                        have b420 := zv_46_51 hI404 zc_164
                        have e421 := hF405 164 5 rfl
                        have e422 := hF405 164 97 rfl
                        have e423 := hF405 164 99 rfl
                        have e424 := hF405 164 100 rfl
                        have e425 := hF405 164 101 rfl
                        have e426 := hF405 164 51 rfl
                        have a427 := yLm_fr a398 (zOn_tr (zOn_rf zQ1 _) hF405 zi_a1)
                        have hq428 : s401 164 2 = yPq (yPx f p14) := yat_q hE397 (by omega) z410
                        have hc429 : f (yPq (yPx f p14)) = r400 := by rw [← hq428]; exact z411.symm
                        clear z410 z411
                        refine zt_bipush (pc' := 107) hX dX12_qPartTold_105 rfl (by decide) (by decide) ?_
                        refine zt_icne (pc' := 110) (tgt := 117) hX dX12_qPartTold_107 rfl (by decide) ⟨by omega, by omega⟩ ⟨by omega, by omega⟩ (fun c430 => ?_) (fun c430 => ?_)
                        · have ng431 : yPg f (yPx f p14) ≠ 40 := ysg_n (by rw [hc429]; omega) ⟨by decide, by decide, by decide⟩
                          refine zt_iconst (pc' := 118) hX dX12_qPartTold_117 rfl ?_
                          refine zt_istore (pc' := 120) (lv' := [some (.ref (X.1.1 + 164)), some (.int (zI 1)), some (.int (zI r45)), some (.int (zI r75)), some (.int (zI 0)), some (.int (zI (-1)))]) hX dX12_qPartTold_118 rfl hL (by decide) rfl ?_
                          refine zt_iload (pc' := 122) hX dX12_qPartTold_120 rfl rfl ?_
                          refine zt_iconst (pc' := 123) hX dX12_qPartTold_122 rfl ?_
                          refine zt_iceq (pc' := 126) (tgt := 144) hX dX12_qPartTold_123 rfl (by decide) ⟨by omega, by omega⟩ ⟨by omega, by omega⟩ (fun c432 => ?_) (fun c432 => ?_)
                          · refine zt_aload_n (pc' := 145) hX dX12_qPartTold_144 rfl rfl ?_
                            refine zt_bipush (pc' := 147) hX dX12_qPartTold_145 rfl (by decide) (by decide) ?_
                            refine zt_cVv (pc' := 150) hX dX12_qPartTold_147 rfl zm_yX12_asksSign zw_27_10 zc_164 (by decide) zs_46 (q := (RX12, TX12, 108)) rfl rfl (yc_X12_asksSign _ _ s401 hI404 40 ⟨by omega, by omega⟩ (by omega) f hT408) rfl rfl (Nat.le_of_ble_eq_true rfl) (by decide) (fun r433 s434 hr435 hp436 => ?_)
                            obtain ⟨hI437, hF438, hT439, z440⟩ := hp436
                            have hE441 : yqs f s434 = yPs f 40 (yPx f p14) := by rw [z440, hE412]
                            have hF442 := zOn_tr hF413 hF438 zi_12
                            have b443 := zv_46_2 hI437 zc_164
                            have b444 := zv_46_5 hI437 zc_164
                            have b445 := zv_46_97 hI437 zc_164
                            have b446 := zv_46_99 hI437 zc_164
                            have b447 := zv_46_100 hI437 zc_164
                            have b448 := zv_46_101 hI437 zc_164
                            have b449 := zv_46_51 hI437 zc_164
                            have e450 := hF438 164 97 rfl
                            have e451 := hF438 164 99 rfl
                            have e452 := hF438 164 100 rfl
                            have e453 := hF438 164 101 rfl
                            have e454 := hF438 164 51 rfl
                            have hE455 := hE441.trans (if_neg ng431)
                            refine zt_goto (tgt := 183) hX dX12_qPartTold_150 (by decide) ?_
                            refine zt_goto (tgt := 2) hX dX12_qPartTold_183 (by decide) ?_
                            refine zt_mask [true, true, false, false, false, false] rfl ?_
                            exact ih21 1 s434 (yPf 1 0 (yPx f p14)) (by omega) (by omega) hI437 hF442 hT439 hE455 (by omega) (Or.inr (Or.inl ⟨rfl, yLm_f a427 yPo_pf (fun K => yJ_prn ng431)⟩)) (yms_x (p := p14) (m := 1) a29.1 (by omega) (by omega) (fun o => absurd o (by first | (rw [yPo_no]; decide) | (rw [yPo_pf]; decide))) hm20)
                          · exact absurd c432 (by omega)
                        · have g456 : yPg f (yPx f p14) = 40 := ysg_p hT408 hE412 (by omega) (by omega) (hc429.trans (by omega)) ⟨by decide, by decide, by decide⟩
                          refine zt_aload_n (pc' := 111) hX dX12_qPartTold_110 rfl rfl ?_
                          have b457 := zv_46_2 hI404 zc_164
                          refine zt_get (pc' := 114) (v := .int (zI (s401 164 2))) hX dX12_qPartTold_111 rfl zf_X12_252 (by decide) zc_164 zs_46 rfl ?_
                          refine zt_goto (tgt := 118) hX dX12_qPartTold_114 (by decide) ?_
                          refine zt_istore (pc' := 120) (lv' := [some (.ref (X.1.1 + 164)), some (.int (zI 1)), some (.int (zI r45)), some (.int (zI r75)), some (.int (zI 0)), some (.int (zI (s401 164 2)))]) hX dX12_qPartTold_118 rfl hL (by decide) rfl ?_
                          refine zt_iload (pc' := 122) hX dX12_qPartTold_120 rfl rfl ?_
                          refine zt_iconst (pc' := 123) hX dX12_qPartTold_122 rfl ?_
                          refine zt_iceq (pc' := 126) (tgt := 144) hX dX12_qPartTold_123 rfl (by decide) ⟨by omega, by omega⟩ ⟨by omega, by omega⟩ (fun c458 => ?_) (fun c458 => ?_)
                          · exact absurd c458 (by omega)
                          · refine zt_aload_n (pc' := 127) hX dX12_qPartTold_126 rfl rfl ?_
                            refine zt_iload (pc' := 129) hX dX12_qPartTold_127 rfl rfl ?_
                            refine zt_ifeq (pc' := 132) (tgt := 137) hX dX12_qPartTold_129 rfl (by decide) ⟨by omega, by omega⟩ (fun c459 => ?_) (fun c459 => ?_)
                            · refine zt_bipush (pc' := 139) hX dX12_qPartTold_137 rfl (by decide) (by decide) ?_
                              refine zt_iload (pc' := 141) hX dX12_qPartTold_139 rfl rfl ?_
                              refine zt_cVv (pc' := 144) hX dX12_qPartTold_141 rfl zm_yX12_qOpens zw_29_10 zc_164 (by decide) zs_46 (q := (RX12, TX12, 108)) rfl rfl (yc_X12_qOpens _ _ s401 hI404 22 ⟨by omega, by omega⟩ (s401 164 2) ⟨by omega, by omega⟩ (by omega) (by omega) (by omega) f hT408) rfl rfl (Nat.le_of_ble_eq_true rfl) (by decide) (fun r460 s461 hr462 hp463 => ?_)
                              obtain ⟨hI464, hF465, hT466, z467⟩ := hp463
                              rw [hE412] at z467
                              have hF468 := zOn_tr hF413 hF465 zi_o2
                              obtain ⟨p469, hE470⟩ : ∃ p, yqs f s461 = p := ⟨_, rfl⟩
                              rw [hE470] at z467
                              have b471 := zv_46_2 hI464 zc_164
                              have b472 := zv_46_5 hI464 zc_164
                              have b473 := zv_46_97 hI464 zc_164
                              have b474 := zv_46_99 hI464 zc_164
                              have b475 := zv_46_100 hI464 zc_164
                              have b476 := zv_46_101 hI464 zc_164
                              have b477 := zv_46_51 hI464 zc_164
                              have e478 := hF465 164 97 rfl
                              have e479 := hF465 164 101 rfl
                              have e480 := hF465 164 51 rfl
                              rcases z467 with ⟨d481, q482, x483, x484, x485⟩ | ⟨d481, q482, x483, x484, x485, x486, x487⟩
                              · have hE489 := hE470.trans q482
                                have u490 := yHb0 hE489 yPo_no
                                refine zt_aload_n (pc' := 145) hX dX12_qPartTold_144 rfl rfl ?_
                                refine zt_bipush (pc' := 147) hX dX12_qPartTold_145 rfl (by decide) (by decide) ?_
                                refine zt_cVv (pc' := 150) hX dX12_qPartTold_147 rfl zm_yX12_asksSign zw_27_10 zc_164 (by decide) zs_46 (q := (RX12, TX12, 108)) rfl rfl (yc_X12_asksSign _ _ s461 hI464 40 ⟨by omega, by omega⟩ (by omega) f hT466) rfl rfl (Nat.le_of_ble_eq_true rfl) (by decide) (fun r491 s492 hr493 hp494 => ?_)
                                obtain ⟨hI495, hF496, hT497, z498⟩ := hp494
                                have hE499 : yqs f s492 = yPs f 40 (yPno 4 (s401 164 2) (yPx f p14)) := by rw [z498, hE489]
                                have hF500 := zOn_tr hF468 hF496 zi_12
                                have b501 := zv_46_2 hI495 zc_164
                                have b502 := zv_46_5 hI495 zc_164
                                have b503 := zv_46_97 hI495 zc_164
                                have b504 := zv_46_99 hI495 zc_164
                                have b505 := zv_46_100 hI495 zc_164
                                have b506 := zv_46_101 hI495 zc_164
                                have b507 := zv_46_51 hI495 zc_164
                                have e508 := hF496 164 97 rfl
                                have e509 := hF496 164 99 rfl
                                have e510 := hF496 164 100 rfl
                                have e511 := hF496 164 101 rfl
                                have e512 := hF496 164 51 rfl
                                have hE513 := hE499.trans (yPs_no yPo_no).symm
                                refine zt_goto (tgt := 183) hX dX12_qPartTold_150 (by decide) ?_
                                refine zt_goto (tgt := 2) hX dX12_qPartTold_183 (by decide) ?_
                                refine zt_mask [true, true, false, false, false, false] rfl ?_
                                exact ih21 1 s492 (yPno 4 (s401 164 2) (yPx f p14)) (by omega) (by omega) hI495 hF500 hT497 hE513 (by omega) (Or.inr (Or.inl ⟨rfl, yLm_f6 a427 (by omega) (by omega) (fun K d => yJ_pr6 g456 d)⟩)) (yms_x (p := p14) (m := 1) a29.1 (by omega) (by omega) (fun o => absurd o (by first | (rw [yPo_no]; decide) | (rw [yPo_pf]; decide))) hm20)
                              · have hE514 := hE470.trans q482
                                have u515 := yHb1 hE514 a427.1
                                refine zt_aload_n (pc' := 145) hX dX12_qPartTold_144 rfl rfl ?_
                                refine zt_bipush (pc' := 147) hX dX12_qPartTold_145 rfl (by decide) (by decide) ?_
                                refine zt_cVv (pc' := 150) hX dX12_qPartTold_147 rfl zm_yX12_asksSign zw_27_10 zc_164 (by decide) zs_46 (q := (RX12, TX12, 108)) rfl rfl (yc_X12_asksSign _ _ s461 hI464 40 ⟨by omega, by omega⟩ (by omega) f hT466) rfl rfl (Nat.le_of_ble_eq_true rfl) (by decide) (fun r516 s517 hr518 hp519 => ?_)
                                obtain ⟨hI520, hF521, hT522, z523⟩ := hp519
                                have hE524 : yqs f s517 = yPs f 40 (yPx f p14) := by rw [z523, hE514]
                                have hF525 := zOn_tr hF468 hF521 zi_12
                                have b526 := zv_46_2 hI520 zc_164
                                have b527 := zv_46_5 hI520 zc_164
                                have b528 := zv_46_97 hI520 zc_164
                                have b529 := zv_46_99 hI520 zc_164
                                have b530 := zv_46_100 hI520 zc_164
                                have b531 := zv_46_101 hI520 zc_164
                                have b532 := zv_46_51 hI520 zc_164
                                have e533 := hF521 164 97 rfl
                                have e534 := hF521 164 99 rfl
                                have e535 := hF521 164 100 rfl
                                have e536 := hF521 164 101 rfl
                                have e537 := hF521 164 51 rfl
                                have hE538 := hE524.trans (if_pos g456)
                                refine zt_goto (tgt := 183) hX dX12_qPartTold_150 (by decide) ?_
                                refine zt_goto (tgt := 2) hX dX12_qPartTold_183 (by decide) ?_
                                refine zt_mask [true, true, false, false, false, false] rfl ?_
                                exact ih21 1 s517 (yPx f (yPx f p14)) (by omega) (by omega) hI520 hF525 hT522 hE538 (by omega) (Or.inl ⟨rfl, yLm_op (c := 22) a427 hT408 hE412 (by omega) (by omega) x483 x484 x485 x486 hF465 hF521 (by decide) (fun K d => yJ_pr g456 d) (ykn (Or.inl (by rw [g456]; decide)))⟩) (yms_x (p := p14) (m := 1) a29.1 (by omega) (by omega) (fun o => Or.inl ⟨(yadv2 hT15 hE16 a29.1 hT408 hE412 (ykn (Or.inl (by rw [g456]; decide)))), by decide⟩) hm20)
                            · exact absurd c459 (by omega)
                  · clear z321
                    refine zt_ifeq (pc' := 78) (tgt := 153) hX dX12_qPartTold_75 rfl (by decide) ⟨by omega, by omega⟩ (fun c539 => ?_) (fun c539 => ?_)
                    · refine zt_iload_n (pc' := 154) hX dX12_qPartTold_153 rfl rfl ?_
                      refine zt_iconst (pc' := 155) hX dX12_qPartTold_154 rfl ?_
                      rcases yOf_c hw104 with ⟨rfl, w540, w541⟩ | ⟨rfl, w540⟩
                      · refine zt_iceq (pc' := 158) (tgt := 181) hX dX12_qPartTold_155 rfl (by decide) ⟨by omega, by omega⟩ ⟨by omega, by omega⟩ (fun c542 => ?_) (fun c542 => ?_)
                        · exact absurd c542 (by omega)
                        · refine zt_aload_n (pc' := 159) hX dX12_qPartTold_158 rfl rfl ?_
                          refine zt_bipush (pc' := 161) hX dX12_qPartTold_159 rfl (by decide) (by decide) ?_
                          refine zt_iload_n (pc' := 162) hX dX12_qPartTold_161 rfl rfl ?_
                          refine zt_iadd (pc' := 163) hX dX12_qPartTold_162 rfl ?_
                          rw [show (60 + 10 : Int) = 70 from rfl]
                          refine zt_bipush (pc' := 165) hX dX12_qPartTold_163 rfl (by decide) (by decide) ?_
                          refine zt_isub (pc' := 166) hX dX12_qPartTold_165 rfl ?_
                          rw [show (70 - 10 : Int) = 60 from rfl]
                          refine zt_aload_n (pc' := 167) hX dX12_qPartTold_166 rfl rfl ?_
                          have b543 := zv_46_2 hI315 zc_164
                          refine zt_get (pc' := 170) (v := .int (zI (s312 164 2))) hX dX12_qPartTold_167 rfl zf_X12_252 (by decide) zc_164 zs_46 rfl ?_
                          refine zt_cVv (pc' := 173) hX dX12_qPartTold_170 rfl zm_yX12_qOpens zw_29_10 zc_164 (by decide) zs_46 (q := (RX12, TX12, 108)) rfl rfl (yc_X12_qOpens _ _ s312 hI315 60 ⟨by omega, by omega⟩ (s312 164 2) ⟨by omega, by omega⟩ (by omega) (by omega) (by omega) f hT319) rfl rfl (Nat.le_of_ble_eq_true rfl) (by decide) (fun r544 s545 hr546 hp547 => ?_)
                          obtain ⟨hI548, hF549, hT550, z551⟩ := hp547
                          rw [hE324] at z551
                          have hF552 := zOn_tr hF325 hF549 zi_o2
                          obtain ⟨p553, hE554⟩ : ∃ p, yqs f s545 = p := ⟨_, rfl⟩
                          rw [hE554] at z551
                          have b555 := zv_46_2 hI548 zc_164
                          have b556 := zv_46_5 hI548 zc_164
                          have b557 := zv_46_97 hI548 zc_164
                          have b558 := zv_46_99 hI548 zc_164
                          have b559 := zv_46_100 hI548 zc_164
                          have b560 := zv_46_101 hI548 zc_164
                          have b561 := zv_46_51 hI548 zc_164
                          have e562 := hF549 164 97 rfl
                          have e563 := hF549 164 101 rfl
                          have e564 := hF549 164 51 rfl
                          rcases z551 with ⟨d565, q566, x567, x568, x569⟩ | ⟨d565, q566, x567, x568, x569, x570, x571⟩
                          · have hE573 := hE554.trans q566
                            have u574 := yHb0 hE573 yPo_no
                            refine zt_aload_n (pc' := 174) hX dX12_qPartTold_173 rfl rfl ?_
                            refine zt_iload_n (pc' := 175) hX dX12_qPartTold_174 rfl rfl ?_
                            refine zt_cVv (pc' := 178) hX dX12_qPartTold_175 rfl zm_yX12_qAsksWord zw_30_20 zc_164 (by decide) zs_46 (q := (RX12, TX12, 108)) rfl rfl (yc_X12_qAsksWord _ _ s545 hI548 10 ⟨by omega, by omega⟩ f hT550 (yWd_2 hWd hF552) (Or.inr (by rw [hE573]; exact yPo_no))) rfl rfl (Nat.le_of_ble_eq_true rfl) (by decide) (fun r575 s576 hr577 hp578 => ?_)
                            obtain ⟨hI579, hF580, hT581, z582⟩ := hp578
                            have hE583 : yqs f s576 = yPx f (yPno 4 (s312 164 2) p14) := by rw [z582, hE573]
                            have hF584 := zOn_tr hF552 hF580 zi_12
                            have b585 := zv_46_2 hI579 zc_164
                            have b586 := zv_46_5 hI579 zc_164
                            have b587 := zv_46_97 hI579 zc_164
                            have b588 := zv_46_99 hI579 zc_164
                            have b589 := zv_46_100 hI579 zc_164
                            have b590 := zv_46_101 hI579 zc_164
                            have b591 := zv_46_51 hI579 zc_164
                            have e592 := hF580 164 97 rfl
                            have e593 := hF580 164 99 rfl
                            have e594 := hF580 164 100 rfl
                            have e595 := hF580 164 101 rfl
                            have e596 := hF580 164 51 rfl
                            have hE597 := hE583.trans (yPx_0 yPo_no)
                            refine zt_goto (tgt := 183) hX dX12_qPartTold_178 (by decide) ?_
                            refine zt_goto (tgt := 2) hX dX12_qPartTold_183 (by decide) ?_
                            refine zt_mask [true, true, false, false, false, false] rfl ?_
                            exact ih21 1 s576 (yPno 4 (s312 164 2) p14) (by omega) (by omega) hI579 hF584 hT581 hE597 (by omega) (Or.inr (Or.inl ⟨rfl, yLm_f6 a339 (by omega) (by omega) (fun K d => yJ_far6 w540 w541 d)⟩)) (yms_x (p := p14) (m := 1) a29.1 (by omega) (by omega) (fun o => absurd o (by first | (rw [yPo_no]; decide) | (rw [yPo_pf]; decide))) hm20)
                          · have hE598 := hE554.trans q566
                            have u599 := yHb1 hE598 a339.1
                            refine zt_aload_n (pc' := 174) hX dX12_qPartTold_173 rfl rfl ?_
                            refine zt_iload_n (pc' := 175) hX dX12_qPartTold_174 rfl rfl ?_
                            refine zt_cVv (pc' := 178) hX dX12_qPartTold_175 rfl zm_yX12_qAsksWord zw_30_20 zc_164 (by decide) zs_46 (q := (RX12, TX12, 108)) rfl rfl (yc_X12_qAsksWord _ _ s545 hI548 10 ⟨by omega, by omega⟩ f hT550 (yWd_2 hWd hF552) (Or.inl (by rw [hE598, w540]; decide))) rfl rfl (Nat.le_of_ble_eq_true rfl) (by decide) (fun r600 s601 hr602 hp603 => ?_)
                            obtain ⟨hI604, hF605, hT606, z607⟩ := hp603
                            have hE608 : yqs f s601 = yPx f p14 := by rw [z607, hE598]
                            have hF609 := zOn_tr hF552 hF605 zi_12
                            have b610 := zv_46_2 hI604 zc_164
                            have b611 := zv_46_5 hI604 zc_164
                            have b612 := zv_46_97 hI604 zc_164
                            have b613 := zv_46_99 hI604 zc_164
                            have b614 := zv_46_100 hI604 zc_164
                            have b615 := zv_46_101 hI604 zc_164
                            have b616 := zv_46_51 hI604 zc_164
                            have e617 := hF605 164 97 rfl
                            have e618 := hF605 164 99 rfl
                            have e619 := hF605 164 100 rfl
                            have e620 := hF605 164 101 rfl
                            have e621 := hF605 164 51 rfl
                            refine zt_goto (tgt := 183) hX dX12_qPartTold_178 (by decide) ?_
                            refine zt_goto (tgt := 2) hX dX12_qPartTold_183 (by decide) ?_
                            refine zt_mask [true, true, false, false, false, false] rfl ?_
                            exact ih21 1 s601 (yPx f p14) (by omega) (by omega) hI604 hF609 hT606 hE608 (by omega) (Or.inl ⟨rfl, yLm_op (c := 60) a339 hT15 hE16 (by omega) (by omega) x567 x568 x569 x570 hF549 hF605 (by decide) (fun K d => yJ_far w540 w541 d) (ykn (Or.inr (Or.inl (by rw [w540]; decide))))⟩) (yms_x (p := p14) (m := 1) a29.1 (by omega) (by omega) (fun o => Or.inl ⟨(yadv1 hT15 hE16 a29.1 (ykn (Or.inr (Or.inl (by rw [w540]; decide))))), by decide⟩) hm20)
                      · refine zt_iceq (pc' := 158) (tgt := 181) hX dX12_qPartTold_155 rfl (by decide) ⟨by omega, by omega⟩ ⟨by omega, by omega⟩ (fun c622 => ?_) (fun c622 => ?_)
                        · refine zt_iconst (pc' := 182) hX dX12_qPartTold_181 rfl ?_
                          refine zt_istore_n (pc' := 183) (lv' := [some (.ref (X.1.1 + 164)), some (.int (zI 0)), some (.int (zI r45)), some (.int (zI (-1))), none, none]) hX dX12_qPartTold_182 rfl hL (by decide) rfl ?_
                          refine zt_goto (tgt := 2) hX dX12_qPartTold_183 (by decide) ?_
                          refine zt_mask [true, true, false, false, false, false] rfl ?_
                          exact ih21 0 s312 p14 (by omega) (by omega) hI315 hF325 hT319 hE324 (by omega) (Or.inr (Or.inr ⟨rfl, a339, ng106, c137, c341, w540⟩)) (yms_x (p := p14) (m := 1) a29.1 (by omega) (by omega) (fun o => Or.inr ⟨Int.le_refl _, by decide⟩) hm20)
                        · exact absurd c622 (by omega)
                    · exact absurd c539 (by omega)
            · have u623 := yat_lt (q := yPq p14) hT83 (by omega) (by rw [hc74]; omega)
              refine zt_aload_n (pc' := 34) hX dX12_qPartTold_33 rfl rfl ?_
              refine zt_bipush (pc' := 36) hX dX12_qPartTold_34 rfl (by decide) (by decide) ?_
              refine zt_aload_n (pc' := 37) hX dX12_qPartTold_36 rfl rfl ?_
              have b624 := zv_46_2 hI79 zc_164
              refine zt_get (pc' := 40) (v := .int (zI (s76 164 2))) hX dX12_qPartTold_37 rfl zf_X12_252 (by decide) zc_164 zs_46 rfl ?_
              refine zt_cVv (pc' := 43) hX dX12_qPartTold_40 rfl zm_yX12_qOpens zw_29_10 zc_164 (by decide) zs_46 (q := (RX12, TX12, 108)) rfl rfl (yc_X12_qOpens _ _ s76 hI79 20 ⟨by omega, by omega⟩ (s76 164 2) ⟨by omega, by omega⟩ (by omega) (by omega) (by omega) f hT83) rfl rfl (Nat.le_of_ble_eq_true rfl) (by decide) (fun r625 s626 hr627 hp628 => ?_)
              obtain ⟨hI629, hF630, hT631, z632⟩ := hp628
              rw [hE87] at z632
              have hF633 := zOn_tr hF88 hF630 zi_o2
              obtain ⟨p634, hE635⟩ : ∃ p, yqs f s626 = p := ⟨_, rfl⟩
              rw [hE635] at z632
              have b636 := zv_46_2 hI629 zc_164
              have b637 := zv_46_5 hI629 zc_164
              have b638 := zv_46_97 hI629 zc_164
              have b639 := zv_46_99 hI629 zc_164
              have b640 := zv_46_100 hI629 zc_164
              have b641 := zv_46_101 hI629 zc_164
              have b642 := zv_46_51 hI629 zc_164
              have e643 := hF630 164 97 rfl
              have e644 := hF630 164 101 rfl
              have e645 := hF630 164 51 rfl
              rcases z632 with ⟨d646, q647, x648, x649, x650⟩ | ⟨d646, q647, x648, x649, x650, x651, x652⟩
              · have hE654 := hE635.trans q647
                have u655 := yHb0 hE654 yPo_no
                refine zt_aload_n (pc' := 44) hX dX12_qPartTold_43 rfl rfl ?_
                refine zt_dup (pc' := 45) hX dX12_qPartTold_44 rfl rfl ?_
                have b656 := zv_46_2 hI629 zc_164
                refine zt_get (pc' := 48) (v := .int (zI (s626 164 2))) hX dX12_qPartTold_45 rfl zf_X12_252 (by decide) zc_164 zs_46 rfl ?_
                refine zt_iconst (pc' := 49) hX dX12_qPartTold_48 rfl ?_
                refine zt_iadd (pc' := 50) hX dX12_qPartTold_49 rfl ?_
                refine zt_put (pc' := 53) (x := ((s626 164 2) + 1)) hX dX12_qPartTold_50 rfl zf_X12_252 (by decide) zc_164 zs_46 (fun q hq => by cases hq; rfl) rfl rfl rfl ?_
                generalize hs658 : zset s626 164 2 ((s626 164 2) + 1) = s657
                have hI659 : zInv s657 := hs658 ▸ zp_46_2 hI629 zc_164 ⟨by omega, by omega⟩
                have hF660 : zOn zQ2 σ s657 := hs658 ▸ zOn_set hF633 (by decide)
                have e661 : s657 164 2 = ((s626 164 2) + 1) := by rw [← hs658]; exact zset_s
                have e662 : s657 164 5 = s626 164 5 := by rw [← hs658]; exact zset_j (by decide)
                have e663 : s657 164 97 = s626 164 97 := by rw [← hs658]; exact zset_j (by decide)
                have e664 : s657 164 99 = s626 164 99 := by rw [← hs658]; exact zset_j (by decide)
                have e665 : s657 164 100 = s626 164 100 := by rw [← hs658]; exact zset_j (by decide)
                have e666 : s657 164 101 = s626 164 101 := by rw [← hs658]; exact zset_j (by decide)
                have e667 : s657 164 51 = s626 164 51 := by rw [← hs658]; exact zset_j (by decide)
                have h668 := yL_at0 hT631 hE654 (by omega) (by rw [show s626 164 2 = yPq p14 by omega, hc74]; omega) hs658
                refine zt_goto (tgt := 183) hX dX12_qPartTold_53 (by decide) ?_
                refine zt_goto (tgt := 2) hX dX12_qPartTold_183 (by decide) ?_
                refine zt_mask [true, true, false, false, false, false] rfl ?_
                exact ih21 1 s657 (yPno 4 (s76 164 2) p14) (by omega) (by omega) hI659 hF660 h668.1 h668.2 (by omega) (Or.inr (Or.inl ⟨rfl, yLm_f6 a102 (by omega) (by omega) (fun K d => yJ_op6 (ysg_p hT83 hE87 (by omega) (by omega) (hc74.trans (by omega)) ⟨by decide, by decide, by decide⟩) d)⟩)) (yms_x (p := p14) (m := 1) a29.1 (by omega) (by omega) (fun o => absurd o (by first | (rw [yPo_no]; decide) | (rw [yPo_pf]; decide))) hm20)
              · have hE669 := hE635.trans q647
                have u670 := yHb1 hE669 a102.1
                refine zt_aload_n (pc' := 44) hX dX12_qPartTold_43 rfl rfl ?_
                refine zt_dup (pc' := 45) hX dX12_qPartTold_44 rfl rfl ?_
                have b671 := zv_46_2 hI629 zc_164
                refine zt_get (pc' := 48) (v := .int (zI (s626 164 2))) hX dX12_qPartTold_45 rfl zf_X12_252 (by decide) zc_164 zs_46 rfl ?_
                refine zt_iconst (pc' := 49) hX dX12_qPartTold_48 rfl ?_
                refine zt_iadd (pc' := 50) hX dX12_qPartTold_49 rfl ?_
                refine zt_put (pc' := 53) (x := ((s626 164 2) + 1)) hX dX12_qPartTold_50 rfl zf_X12_252 (by decide) zc_164 zs_46 (fun q hq => by cases hq; rfl) rfl rfl rfl ?_
                generalize hs673 : zset s626 164 2 ((s626 164 2) + 1) = s672
                have hI674 : zInv s672 := hs673 ▸ zp_46_2 hI629 zc_164 ⟨by omega, by omega⟩
                have hF675 : zOn zQ2 σ s672 := hs673 ▸ zOn_set hF633 (by decide)
                have e676 : s672 164 2 = ((s626 164 2) + 1) := by rw [← hs673]; exact zset_s
                have e677 : s672 164 5 = s626 164 5 := by rw [← hs673]; exact zset_j (by decide)
                have e678 : s672 164 97 = s626 164 97 := by rw [← hs673]; exact zset_j (by decide)
                have e679 : s672 164 99 = s626 164 99 := by rw [← hs673]; exact zset_j (by decide)
                have e680 : s672 164 100 = s626 164 100 := by rw [← hs673]; exact zset_j (by decide)
                have e681 : s672 164 101 = s626 164 101 := by rw [← hs673]; exact zset_j (by decide)
                have e682 : s672 164 51 = s626 164 51 := by rw [← hs673]; exact zset_j (by decide)
                have h683 := yL_at1 hT631 hE669 (by omega) (by omega) (hc74.trans (by omega)) ⟨by decide, by decide, by decide⟩ hs673
                refine zt_goto (tgt := 183) hX dX12_qPartTold_53 (by decide) ?_
                refine zt_goto (tgt := 2) hX dX12_qPartTold_183 (by decide) ?_
                refine zt_mask [true, true, false, false, false, false] rfl ?_
                exact ih21 1 s672 (yPx f p14) (by omega) (by omega) hI674 hF675 h683.1 h683.2.1 (by omega) (Or.inl ⟨rfl, yLm_op (c := 20) a102 hT15 hE16 (by omega) (by omega) x648 x649 x650 x651 hF630 (hs673 ▸ zOn_set (zOn_rf zQ1 _) (by decide)) (by decide) (fun K d => yJ_op1 (ysg_p hT83 hE87 (by omega) (by omega) (hc74.trans (by omega)) ⟨by decide, by decide, by decide⟩) d) (ykn (Or.inl (by rw [(ysg_p hT83 hE87 (by omega) (by omega) (hc74.trans (by omega)) ⟨by decide, by decide, by decide⟩)]; decide)))⟩) (yms_x (p := p14) (m := 1) a29.1 (by omega) (by omega) (fun o => Or.inl ⟨(yadv1 hT15 hE16 a29.1 (ykn (Or.inl (by rw [(ysg_p hT83 hE87 (by omega) (by omega) (hc74.trans (by omega)) ⟨by decide, by decide, by decide⟩)]; decide)))), by decide⟩) hm20)
      · have u684 := yHb0 hE16 o30.1
        refine zt_iload_n (pc' := 3) hX dX12_qPartTold_2 rfl rfl ?_
        refine zt_ifeq (pc' := 6) (tgt := 186) hX dX12_qPartTold_3 rfl (by decide) ⟨by omega, by omega⟩ (fun c685 => ?_) (fun c685 => ?_)
        · exact absurd c685 (by omega)
        · refine zt_aload_n (pc' := 7) hX dX12_qPartTold_6 rfl rfl ?_
          have b686 := zv_46_5 hI12 zc_164
          refine zt_get (pc' := 10) (v := .int (zI (s11 164 5))) hX dX12_qPartTold_7 rfl zf_X12_246 (by decide) zc_164 zs_46 rfl ?_
          refine zt_ifne (pc' := 13) (tgt := 186) hX dX12_qPartTold_10 rfl (by decide) ⟨by omega, by omega⟩ (fun c687 => ?_) (fun c687 => ?_)
          · refine zt_aload_n (pc' := 187) hX dX12_qPartTold_186 rfl rfl ?_
            refine zt_get (pc' := 190) (v := .int (zI (s11 164 5))) hX dX12_qPartTold_187 rfl zf_X12_246 (by decide) zc_164 zs_46 rfl ?_
            refine zt_ifeq (pc' := 193) (tgt := 194) hX dX12_qPartTold_190 rfl (by decide) ⟨by omega, by omega⟩ (fun c688 => ?_) (fun c688 => ?_)
            · exact absurd c688 (by omega)
            · exact zt_vret hX hR dX12_qPartTold_193 ⟨hI12, hF13, hT15, (by rw [hE16]; exact yJ_tr o30.2 (yJ_any o30.1)), (fun o => by rw [hE16] at o; have t := o30.1; omega), ⟨by omega, by omega, by omega⟩⟩
          · exact absurd c687 (by omega)
      · obtain ⟨u689, u690, u691, u692, u693, u694, u695, u696, u697⟩ := yLm_n a31 hT15 hE16
        refine zt_iload_n (pc' := 3) hX dX12_qPartTold_2 rfl rfl ?_
        refine zt_ifeq (pc' := 6) (tgt := 186) hX dX12_qPartTold_3 rfl (by decide) ⟨by omega, by omega⟩ (fun c698 => ?_) (fun c698 => ?_)
        · refine zt_aload_n (pc' := 187) hX dX12_qPartTold_186 rfl rfl ?_
          have b699 := zv_46_5 hI12 zc_164
          refine zt_get (pc' := 190) (v := .int (zI (s11 164 5))) hX dX12_qPartTold_187 rfl zf_X12_246 (by decide) zc_164 zs_46 rfl ?_
          refine zt_ifeq (pc' := 193) (tgt := 194) hX dX12_qPartTold_190 rfl (by decide) ⟨by omega, by omega⟩ (fun c700 => ?_) (fun c700 => ?_)
          · refine zt_aload_n (pc' := 195) hX dX12_qPartTold_194 rfl rfl ?_
            refine zt_iconst (pc' := 196) hX dX12_qPartTold_195 rfl ?_
            refine zt_bipush (pc' := 198) hX dX12_qPartTold_196 rfl (by decide) (by decide) ?_
            refine zt_cVi (pc' := 201) hX dX12_qPartTold_198 rfl zm_yX12_qWordOf zw_30_6 zc_164 (by decide) zs_46 (q := (RX12, TX12, 108)) rfl rfl (yc_X12_qWordOf _ _ s11 hI12 0 ⟨by omega, by omega⟩ 10 ⟨by omega, by omega⟩ f hT15 (yWd_2 hWd hF13)) rfl rfl (Nat.le_of_ble_eq_true rfl) (by decide) (fun r701 s702 hr703 hp704 => ?_)
            obtain ⟨hI705, hF706, q707, q708, hT709, z710, z711, z712⟩ := hp704
            have hE713 : yqs f s702 = p14 := by rw [z710, hE16]
            rw [hE16] at z711
            rw [hE16] at z712
            have hF714 := zOn_tr hF13 hF706 zi_a2
            have b715 := zv_46_2 hI705 zc_164
            have b716 := zv_46_5 hI705 zc_164
            have b717 := zv_46_97 hI705 zc_164
            have b718 := zv_46_99 hI705 zc_164
            have b719 := zv_46_100 hI705 zc_164
            have b720 := zv_46_101 hI705 zc_164
            have b721 := zv_46_51 hI705 zc_164
            have e722 := hF706 164 5 rfl
            have e723 := hF706 164 97 rfl
            have e724 := hF706 164 99 rfl
            have e725 := hF706 164 100 rfl
            have e726 := hF706 164 101 rfl
            have e727 := hF706 164 51 rfl
            have a728 := yLm_fr a31 (zOn_tr (zOn_rf zQ1 _) hF706 zi_a1)
            have hq729 := z712 a728.1
            clear z712
            have hw730 := yof_v (by omega) hrl z711
            clear z711
            replace hw730 : yVa rl f p14 r701 := hw730
            refine zt_istore_n (pc' := 202) (lv' := [some (.ref (X.1.1 + 164)), some (.int (zI 0)), some (.int (zI r701)), none, none, none]) hX dX12_qPartTold_201 rfl hL (by decide) rfl ?_
            rcases yVa_c hw730 with ⟨w731, w732, w733, w734⟩ | ⟨w731, w732⟩
            · refine zt_iload_n (pc' := 203) hX dX12_qPartTold_202 rfl rfl ?_
              refine zt_iconst (pc' := 204) hX dX12_qPartTold_203 rfl ?_
              refine zt_iceq (pc' := 207) (tgt := 212) hX dX12_qPartTold_204 rfl (by decide) ⟨by omega, by omega⟩ ⟨by omega, by omega⟩ (fun c735 => ?_) (fun c735 => ?_)
              · exact absurd c735 (by omega)
              · refine zt_aload_n (pc' := 208) hX dX12_qPartTold_207 rfl rfl ?_
                refine zt_iload_n (pc' := 209) hX dX12_qPartTold_208 rfl rfl ?_
                refine zt_cVv (pc' := 212) hX dX12_qPartTold_209 rfl zm_yX12_qAsksWord zw_30_20 zc_164 (by decide) zs_46 (q := (RX12, TX12, 108)) rfl rfl (yc_X12_qAsksWord _ _ s702 hI705 r701 ⟨by omega, by omega⟩ f hT709 (yWd_2 hWd hF714) (Or.inl (by rw [hE713]; exact w731))) rfl rfl (Nat.le_of_ble_eq_true rfl) (by decide) (fun r736 s737 hr738 hp739 => ?_)
                obtain ⟨hI740, hF741, hT742, z743⟩ := hp739
                have hE744 : yqs f s737 = yPx f p14 := by rw [z743, hE713]
                have hF745 := zOn_tr hF714 hF741 zi_12
                have b746 := zv_46_2 hI740 zc_164
                have b747 := zv_46_5 hI740 zc_164
                have b748 := zv_46_97 hI740 zc_164
                have b749 := zv_46_99 hI740 zc_164
                have b750 := zv_46_100 hI740 zc_164
                have b751 := zv_46_101 hI740 zc_164
                have b752 := zv_46_51 hI740 zc_164
                have e753 := hF741 164 97 rfl
                have e754 := hF741 164 99 rfl
                have e755 := hF741 164 100 rfl
                have e756 := hF741 164 101 rfl
                have e757 := hF741 164 51 rfl
                refine zt_aload_n (pc' := 213) hX dX12_qPartTold_212 rfl rfl ?_
                refine zt_iload_n (pc' := 214) hX dX12_qPartTold_213 rfl rfl ?_
                refine zt_iconst (pc' := 215) hX dX12_qPartTold_214 rfl ?_
                refine zt_iceq (pc' := 218) (tgt := 225) hX dX12_qPartTold_215 rfl (by decide) ⟨by omega, by omega⟩ ⟨by omega, by omega⟩ (fun c758 => ?_) (fun c758 => ?_)
                · exact absurd c758 (by omega)
                · refine zt_bipush (pc' := 220) hX dX12_qPartTold_218 rfl (by decide) (by decide) ?_
                  refine zt_iload_n (pc' := 221) hX dX12_qPartTold_220 rfl rfl ?_
                  refine zt_iadd (pc' := 222) hX dX12_qPartTold_221 rfl ?_
                  refine zt_goto (tgt := 237) hX dX12_qPartTold_222 (by decide) ?_
                  refine zt_cVv (pc' := 240) hX dX12_qPartTold_237 rfl zm_yX12_qCode zw_29_18 zc_164 (by decide) zs_46 (q := (RX12, TX12, 108)) rfl rfl (yc_X12_qCode _ _ s737 hI740 (40 + r701) ⟨by omega, by omega⟩ (by omega)) rfl rfl (Nat.le_of_ble_eq_true rfl) (by decide) (fun r759 s760 hr761 hp762 => ?_)
                  obtain ⟨hI763, hF764, z765⟩ := hp762
                  have hF766 := zOn_tr hF745 hF764 zi_c2
                  have hT767 := yTq_rk hT742 (yRq_c hF764)
                  have hE768 : yqs f s760 = yPx f p14 := (yqs_rk (yRq_c hF764)).trans hE744
                  have b769 := zv_46_2 hI763 zc_164
                  have b770 := zv_46_5 hI763 zc_164
                  have b771 := zv_46_97 hI763 zc_164
                  have b772 := zv_46_99 hI763 zc_164
                  have b773 := zv_46_100 hI763 zc_164
                  have b774 := zv_46_101 hI763 zc_164
                  have b775 := zv_46_51 hI763 zc_164
                  have e776 := hF764 164 2 rfl
                  have e777 := hF764 164 5 rfl
                  have e778 := hF764 164 99 rfl
                  have e779 := hF764 164 100 rfl
                  have e780 := hF764 164 101 rfl
                  have e781 := hF764 164 51 rfl
                  refine zt_aload_n (pc' := 241) hX dX12_qPartTold_240 rfl rfl ?_
                  refine zt_cVv (pc' := 244) hX dX12_qPartTold_241 rfl zm_yX12_qEndsPart zw_31_0 zc_164 (by decide) zs_46 (q := (RX12, TX12, 108)) rfl rfl (yc_X12_qEndsPart _ _ s760 hI763 (by omega) (by omega) (by omega)) rfl rfl (Nat.le_of_ble_eq_true rfl) (by decide) (fun r782 s783 hr784 hp785 => ?_)
                  obtain ⟨hI786, hF787, z788, z789, z790⟩ := hp785
                  have hF791 := zOn_tr hF766 hF787 zi_e2
                  have hT792 := yTq_rk hT767 (yRq_e hF787)
                  have hE793 : yqs f s783 = yPx f p14 := (yqs_rk (yRq_e hF787)).trans hE768
                  have b794 := zv_46_2 hI786 zc_164
                  have b795 := zv_46_5 hI786 zc_164
                  have b796 := zv_46_97 hI786 zc_164
                  have b797 := zv_46_99 hI786 zc_164
                  have b798 := zv_46_100 hI786 zc_164
                  have b799 := zv_46_101 hI786 zc_164
                  have b800 := zv_46_51 hI786 zc_164
                  have e801 := hF787 164 2 rfl
                  have e802 := hF787 164 5 rfl
                  have e803 := hF787 164 101 rfl
                  have e804 := hF787 164 51 rfl
                  have h805 := yPart_end a728 hT15 hE16 n32 (Or.inl ⟨w734, rfl⟩) hF741 hF764 z765 hF787 z788 z789 z790 hE793
                  exact zt_vret hX hR dX12_qPartTold_244 ⟨hI786, hF791, hT792, (by rw [hE793]; exact h805.1), (by rw [hE793]; exact h805.2), ⟨by omega, by omega, by omega⟩⟩
            · refine zt_iload_n (pc' := 203) hX dX12_qPartTold_202 rfl rfl ?_
              refine zt_iconst (pc' := 204) hX dX12_qPartTold_203 rfl ?_
              refine zt_iceq (pc' := 207) (tgt := 212) hX dX12_qPartTold_204 rfl (by decide) ⟨by omega, by omega⟩ ⟨by omega, by omega⟩ (fun c806 => ?_) (fun c806 => ?_)
              · refine zt_aload_n (pc' := 213) hX dX12_qPartTold_212 rfl rfl ?_
                refine zt_iload_n (pc' := 214) hX dX12_qPartTold_213 rfl rfl ?_
                refine zt_iconst (pc' := 215) hX dX12_qPartTold_214 rfl ?_
                refine zt_iceq (pc' := 218) (tgt := 225) hX dX12_qPartTold_215 rfl (by decide) ⟨by omega, by omega⟩ ⟨by omega, by omega⟩ (fun c807 => ?_) (fun c807 => ?_)
                · refine zt_sipush (pc' := 228) hX dX12_qPartTold_225 rfl (by decide) (by decide) ?_
                  refine zt_aload_n (pc' := 229) hX dX12_qPartTold_228 rfl rfl ?_
                  refine zt_iconst (pc' := 230) hX dX12_qPartTold_229 rfl ?_
                  refine zt_sipush (pc' := 233) hX dX12_qPartTold_230 rfl (by decide) (by decide) ?_
                  refine zt_cVi (pc' := 236) hX dX12_qPartTold_233 rfl zm_yX12_number zw_26_23 zc_164 (by decide) zs_46 (q := (RX12, TX12, 108)) rfl rfl (yc_X12_number _ _ s702 hI705 0 ⟨by omega, by omega⟩ 9999 ⟨by omega, by omega⟩ f hT709) rfl rfl (Nat.le_of_ble_eq_true rfl) (by decide) (fun r808 s809 hr810 hp811 => ?_)
                  obtain ⟨hI812, hF813, q814, q815, hT816, z817, z818⟩ := hp811
                  have hE819 : yqs f s809 = yPn f 0 9999 p14 := by rw [z817, hE713]
                  rw [hE713] at z818
                  have hF820 := zOn_tr hF714 hF813 zi_12
                  rw [hE819] at z818
                  have b821 := zv_46_2 hI812 zc_164
                  have b822 := zv_46_5 hI812 zc_164
                  have b823 := zv_46_97 hI812 zc_164
                  have b824 := zv_46_99 hI812 zc_164
                  have b825 := zv_46_100 hI812 zc_164
                  have b826 := zv_46_101 hI812 zc_164
                  have b827 := zv_46_51 hI812 zc_164
                  have e828 := hF813 164 97 rfl
                  have e829 := hF813 164 99 rfl
                  have e830 := hF813 164 100 rfl
                  have e831 := hF813 164 101 rfl
                  have e832 := hF813 164 51 rfl
                  clear z818
                  refine zt_iadd (pc' := 237) hX dX12_qPartTold_236 rfl ?_
                  refine zt_wrap (fun r833 zr833 lr833 ur833 => ?_)
                  clear zr833
                  refine zt_cVv (pc' := 240) hX dX12_qPartTold_237 rfl zm_yX12_qCode zw_29_18 zc_164 (by decide) zs_46 (q := (RX12, TX12, 108)) rfl rfl (yc_X12_qCode _ _ s809 hI812 r833 ⟨by omega, by omega⟩ (by omega)) rfl rfl (Nat.le_of_ble_eq_true rfl) (by decide) (fun r834 s835 hr836 hp837 => ?_)
                  obtain ⟨hI838, hF839, z840⟩ := hp837
                  have hF841 := zOn_tr hF820 hF839 zi_c2
                  have hT842 := yTq_rk hT816 (yRq_c hF839)
                  have hE843 : yqs f s835 = yPn f 0 9999 p14 := (yqs_rk (yRq_c hF839)).trans hE819
                  have b844 := zv_46_2 hI838 zc_164
                  have b845 := zv_46_5 hI838 zc_164
                  have b846 := zv_46_97 hI838 zc_164
                  have b847 := zv_46_99 hI838 zc_164
                  have b848 := zv_46_100 hI838 zc_164
                  have b849 := zv_46_101 hI838 zc_164
                  have b850 := zv_46_51 hI838 zc_164
                  have e851 := hF839 164 2 rfl
                  have e852 := hF839 164 5 rfl
                  have e853 := hF839 164 99 rfl
                  have e854 := hF839 164 100 rfl
                  have e855 := hF839 164 101 rfl
                  have e856 := hF839 164 51 rfl
                  refine zt_aload_n (pc' := 241) hX dX12_qPartTold_240 rfl rfl ?_
                  refine zt_cVv (pc' := 244) hX dX12_qPartTold_241 rfl zm_yX12_qEndsPart zw_31_0 zc_164 (by decide) zs_46 (q := (RX12, TX12, 108)) rfl rfl (yc_X12_qEndsPart _ _ s835 hI838 (by omega) (by omega) (by omega)) rfl rfl (Nat.le_of_ble_eq_true rfl) (by decide) (fun r857 s858 hr859 hp860 => ?_)
                  obtain ⟨hI861, hF862, z863, z864, z865⟩ := hp860
                  have hF866 := zOn_tr hF841 hF862 zi_e2
                  have hT867 := yTq_rk hT842 (yRq_e hF862)
                  have hE868 : yqs f s858 = yPn f 0 9999 p14 := (yqs_rk (yRq_e hF862)).trans hE843
                  have b869 := zv_46_2 hI861 zc_164
                  have b870 := zv_46_5 hI861 zc_164
                  have b871 := zv_46_97 hI861 zc_164
                  have b872 := zv_46_99 hI861 zc_164
                  have b873 := zv_46_100 hI861 zc_164
                  have b874 := zv_46_101 hI861 zc_164
                  have b875 := zv_46_51 hI861 zc_164
                  have e876 := hF862 164 2 rfl
                  have e877 := hF862 164 5 rfl
                  have e878 := hF862 164 101 rfl
                  have e879 := hF862 164 51 rfl
                  have h880 := yPart_end a728 hT15 hE16 n32 (Or.inr ⟨w732, rfl⟩) hF813 hF839 z840 hF862 z863 z864 z865 hE868
                  exact zt_vret hX hR dX12_qPartTold_244 ⟨hI861, hF866, hT867, (by rw [hE868]; exact h880.1), (by rw [hE868]; exact h880.2), ⟨by omega, by omega, by omega⟩⟩
                · exact absurd c807 (by omega)
              · exact absurd c806 (by omega)
          · exact absurd c700 (by omega)
        · exact absurd c698 (by omega)
  exact L_2_18 _ 1 σ (yqs f σ) (by omega) (by omega) hI hF hT hE0 (by omega) (Or.inl ⟨rfl, yLm_0 ho0 hlv⟩) (Nat.lt_succ_self _)
