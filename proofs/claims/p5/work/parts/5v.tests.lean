set_option maxRecDepth 100000 in
set_option maxHeartbeats 4000000 in
theorem yc_X12_qTest (l : Launch) (E : zEN) (σ : zSto) (hI : zInv σ) (hpre0 : σ 164 5 = 0) (hpre1 : σ 164 97 = 0) (hpre2 : σ 164 99 = 0) (hpre3 : σ 164 100 = 0) (hpre4 : σ 164 101 = 0) (f : Int → Int) (hT : yTq f σ) (cb rl : Int) (hrl : 0 ≤ rl ∧ rl ≤ 2) (hWd : yWd σ) (h51 : σ 164 51 = rl) (hcb : 0 ≤ cb ∧ cb ≤ yPq (yqs f σ)) : zCt l E yX12_qTest cX12_qTest 3 none 8 zNC zNC 0 0 σ [.ref (E.1 + 164)] (fun r σ' => zInv σ' ∧ zOn zQ2 σ σ' ∧ yTq f σ' ∧ (yTst rl f (yqs f σ) (yqs f σ')) ∧ (yPo (yqs f σ') = 1 → 0 ≤ cb ∧ cb + σ' 164 97 ≤ yPq (yqs f σ'))) := by
  refine zCt_of2 [some (.ref (E.1 + 164)), none, none] (by decide +kernel) (Nat.le_of_ble_eq_true rfl) rfl ?_
  intro X hE_ hX hR hL hN
  subst hE_
  have hX : zok X cX12_qTest RX12 8 := hX
  have hF := zOn_rf zQ2 σ
  have hE0 : yqs f σ = yqs f σ := rfl
  have ho0 : yPo (yqs f σ) = 1 := (yHb hT rfl).1 (by omega)
  have b1 := zv_46_2 hI zc_164
  have b2 := zv_46_5 hI zc_164
  have b3 := zv_46_97 hI zc_164
  have b4 := zv_46_99 hI zc_164
  have b5 := zv_46_100 hI zc_164
  have b6 := zv_46_101 hI zc_164
  have b7 := zv_46_51 hI zc_164
  refine zt_iconst (pc' := 1) hX dX12_qTest_0 rfl ?_
  refine zt_istore_n (pc' := 2) (lv' := [some (.ref (X.1.1 + 164)), some (.int (zI 1)), none]) hX dX12_qTest_1 rfl hL (by decide) rfl ?_
  have L_2_17 : ∀ (N : Nat) (x8 : Int) (s11 : zSto) (p14 : yP), 0 ≤ x8 → x8 ≤ 1 → zInv s11 → zOn zQ2 σ s11 → yTq f s11 → yqs f s11 = p14 → yTp cb rl f (4, [], yqs f σ) s11 p14 x8 → (ymt p14 x8) < N → zF X s11 2 [some (.ref (X.1.1 + 164)), some (.int (zI x8)), none] [] := by
    intro N
    induction N with
    | zero =>
      intro x8 s11 p14 h9 h10 hI12 hF13 hT15 hE16 g17 hm19
      exact absurd hm19 (Nat.not_lt_zero _)
    | succ N ih20 =>
      intro x8 s11 p14 h9 h10 hI12 hF13 hT15 hE16 g17 hm19
      have b21 := zv_46_2 hI12 zc_164
      have b22 := zv_46_5 hI12 zc_164
      have b23 := zv_46_97 hI12 zc_164
      have b24 := zv_46_99 hI12 zc_164
      have b25 := zv_46_100 hI12 zc_164
      have b26 := zv_46_101 hI12 zc_164
      have b27 := zv_46_51 hI12 zc_164
      rcases yTp_c g17 with ⟨rfl, a28⟩ | ⟨rfl, b29⟩ | ⟨rfl, d30⟩
      · obtain ⟨u31, u32, u33, u34, u35, u36, u37, u38, u39⟩ := yTl_n a28 (by decide) hT15 hE16
        refine zt_iload_n (pc' := 3) hX dX12_qTest_2 rfl rfl ?_
        refine zt_ifeq (pc' := 6) (tgt := 110) hX dX12_qTest_3 rfl (by decide) ⟨by omega, by omega⟩ (fun c40 => ?_) (fun c40 => ?_)
        · exact absurd c40 (by omega)
        · refine zt_aload_n (pc' := 7) hX dX12_qTest_6 rfl rfl ?_
          have b41 := zv_46_5 hI12 zc_164
          refine zt_get (pc' := 10) (v := .int (zI (s11 164 5))) hX dX12_qTest_7 rfl zf_X12_246 (by decide) zc_164 zs_46 rfl ?_
          refine zt_ifne (pc' := 13) (tgt := 110) hX dX12_qTest_10 rfl (by decide) ⟨by omega, by omega⟩ (fun c42 => ?_) (fun c42 => ?_)
          · exact absurd c42 (by omega)
          · refine zt_aload_n (pc' := 14) hX dX12_qTest_13 rfl rfl ?_
            refine zt_cVi (pc' := 17) hX dX12_qTest_14 rfl zm_yX12_look zw_26_12 zc_164 (by decide) zs_46 (q := (RX12, TX12, 108)) rfl rfl (yc_X12_look _ _ s11 hI12 f hT15) rfl rfl (Nat.le_of_ble_eq_true rfl) (by decide) (fun r43 s44 hr45 hp46 => ?_)
            obtain ⟨hI47, hF48, q49, q50, hT51, z52, z53, z54⟩ := hp46
            have hE55 : yqs f s44 = p14 := by rw [z52, hE16]
            have hF56 := zOn_tr hF13 hF48 zi_a2
            have b57 := zv_46_2 hI47 zc_164
            have b58 := zv_46_5 hI47 zc_164
            have b59 := zv_46_97 hI47 zc_164
            have b60 := zv_46_99 hI47 zc_164
            have b61 := zv_46_100 hI47 zc_164
            have b62 := zv_46_101 hI47 zc_164
            have b63 := zv_46_51 hI47 zc_164
            have e64 := hF48 164 5 rfl
            have e65 := hF48 164 97 rfl
            have e66 := hF48 164 99 rfl
            have e67 := hF48 164 100 rfl
            have e68 := hF48 164 101 rfl
            have e69 := hF48 164 51 rfl
            have l70 := yTl_fr a28 (zOn_tr (zOn_rf zQ1 _) hF48 zi_a1)
            have hq71 : s44 164 2 = yPq p14 := yat_q hE16 (by omega) z53
            have hc72 : f (yPq p14) = r43 := by rw [← hq71]; exact z54.symm
            clear z53 z54
            refine zt_istore_n (pc' := 18) (lv' := [some (.ref (X.1.1 + 164)), some (.int (zI 1)), some (.int (zI r43))]) hX dX12_qTest_17 rfl hL (by decide) rfl ?_
            refine zt_iload_n (pc' := 19) hX dX12_qTest_18 rfl rfl ?_
            refine zt_bipush (pc' := 21) hX dX12_qTest_19 rfl (by decide) (by decide) ?_
            refine zt_icne (pc' := 24) (tgt := 47) hX dX12_qTest_21 rfl (by decide) ⟨by omega, by omega⟩ ⟨by omega, by omega⟩ (fun c73 => ?_) (fun c73 => ?_)
            · have n9174 : yPg f p14 ≠ 91 := ysg_n (by rw [hc72]; omega) ⟨by decide, by decide, by decide⟩
              refine zt_aload_n (pc' := 48) hX dX12_qTest_47 rfl rfl ?_
              refine zt_aload_n (pc' := 49) hX dX12_qTest_48 rfl rfl ?_
              refine zt_get (pc' := 52) (v := .ref (X.1.1 + 217)) hX dX12_qTest_49 rfl zf_X12_180 (by decide) zc_164 zs_46 (zrf_of (zv_46_79 hI47 zc_164)) ?_
              refine zt_cVz (pc' := 55) hX dX12_qTest_52 rfl zm_yX12_isHere zw_26_8 zc_164 (by decide) zs_46 (q := (RX12, TX12, 108)) rfl rfl (yc_X12_isHere _ _ s44 hI47 217 99 3 zc_217 (by decide) zs_99 (by decide) f hT51 23 (yrow_217 (yWd_2 hWd hF56)) (by decide)) rfl rfl (Nat.le_of_ble_eq_true rfl) (by decide) (fun r75 s76 hr77 hp78 => ?_)
              obtain ⟨hI79, hF80, q81, q82, hT83, z84, z85, z86, z87⟩ := hp78
              have hE88 : yqs f s76 = p14 := by rw [z84, hE55]
              rw [hE55] at z85
              rw [hE55] at z86
              have hF89 := zOn_tr hF56 hF80 zi_a2
              have b90 := zv_46_2 hI79 zc_164
              have b91 := zv_46_5 hI79 zc_164
              have b92 := zv_46_97 hI79 zc_164
              have b93 := zv_46_99 hI79 zc_164
              have b94 := zv_46_100 hI79 zc_164
              have b95 := zv_46_101 hI79 zc_164
              have b96 := zv_46_51 hI79 zc_164
              have e97 := hF80 164 5 rfl
              have e98 := hF80 164 97 rfl
              have e99 := hF80 164 99 rfl
              have e100 := hF80 164 100 rfl
              have e101 := hF80 164 101 rfl
              have e102 := hF80 164 51 rfl
              have l103 := yTl_fr l70 (zOn_tr (zOn_rf zQ1 _) hF80 zi_a1)
              have hq104 := z86 l103.1
              clear z86 z87
              rcases yspl z85 with ⟨rfl, c105⟩ | ⟨rfl, c105⟩
              · clear z85
                refine zt_ifeq (pc' := 58) (tgt := 79) hX dX12_qTest_55 rfl (by decide) ⟨by omega, by omega⟩ (fun c106 => ?_) (fun c106 => ?_)
                · exact absurd c106 (by omega)
                · refine zt_aload_n (pc' := 59) hX dX12_qTest_58 rfl rfl ?_
                  refine zt_bipush (pc' := 61) hX dX12_qTest_59 rfl (by decide) (by decide) ?_
                  refine zt_aload_n (pc' := 62) hX dX12_qTest_61 rfl rfl ?_
                  have b107 := zv_46_2 hI79 zc_164
                  refine zt_get (pc' := 65) (v := .int (zI (s76 164 2))) hX dX12_qTest_62 rfl zf_X12_252 (by decide) zc_164 zs_46 rfl ?_
                  refine zt_cVv (pc' := 68) hX dX12_qTest_65 rfl zm_yX12_qOpens zw_29_10 zc_164 (by decide) zs_46 (q := (RX12, TX12, 108)) rfl rfl (yc_X12_qOpens _ _ s76 hI79 12 ⟨by omega, by omega⟩ (s76 164 2) ⟨by omega, by omega⟩ (by omega) (by omega) (by omega) f hT83) rfl rfl (Nat.le_of_ble_eq_true rfl) (by decide) (fun r108 s109 hr110 hp111 => ?_)
                  obtain ⟨hI112, hF113, hT114, z115⟩ := hp111
                  rw [hE88] at z115
                  have hF116 := zOn_tr hF89 hF113 zi_o2
                  obtain ⟨p117, hE118⟩ : ∃ p, yqs f s109 = p := ⟨_, rfl⟩
                  rw [hE118] at z115
                  have b119 := zv_46_2 hI112 zc_164
                  have b120 := zv_46_5 hI112 zc_164
                  have b121 := zv_46_97 hI112 zc_164
                  have b122 := zv_46_99 hI112 zc_164
                  have b123 := zv_46_100 hI112 zc_164
                  have b124 := zv_46_101 hI112 zc_164
                  have b125 := zv_46_51 hI112 zc_164
                  have e126 := hF113 164 97 rfl
                  have e127 := hF113 164 101 rfl
                  have e128 := hF113 164 51 rfl
                  rcases z115 with ⟨d129, q130, x131, x132, x133⟩ | ⟨d129, q130, x131, x132, x133, x134, x135⟩
                  · have hE137 := hE118.trans q130
                    have u138 := yHb0 hE137 yPo_no
                    refine zt_aload_n (pc' := 69) hX dX12_qTest_68 rfl rfl ?_
                    refine zt_aload_n (pc' := 70) hX dX12_qTest_69 rfl rfl ?_
                    refine zt_get (pc' := 73) (v := .ref (X.1.1 + 217)) hX dX12_qTest_70 rfl zf_X12_180 (by decide) zc_164 zs_46 (zrf_of (zv_46_79 hI112 zc_164)) ?_
                    refine zt_cVv (pc' := 76) hX dX12_qTest_73 rfl zm_yX12_asks zw_26_0 zc_164 (by decide) zs_46 (q := (RX12, TX12, 108)) rfl rfl (yc_X12_asks _ _ s109 hI112 217 99 3 zc_217 (by decide) zs_99 (by decide) f hT114 23 (yrow_217 (yWd_2 hWd hF116)) (by decide)) rfl rfl (Nat.le_of_ble_eq_true rfl) (by decide) (fun r139 s140 hr141 hp142 => ?_)
                    obtain ⟨hI143, hF144, hT145, z146⟩ := hp142
                    have hE147 : yqs f s140 = yPw f 23 (yPno 4 (s76 164 2) p14) := by rw [z146, hE137]
                    have hF148 := zOn_tr hF116 hF144 zi_12
                    have b149 := zv_46_2 hI143 zc_164
                    have b150 := zv_46_5 hI143 zc_164
                    have b151 := zv_46_97 hI143 zc_164
                    have b152 := zv_46_99 hI143 zc_164
                    have b153 := zv_46_100 hI143 zc_164
                    have b154 := zv_46_101 hI143 zc_164
                    have b155 := zv_46_51 hI143 zc_164
                    have e156 := hF144 164 97 rfl
                    have e157 := hF144 164 99 rfl
                    have e158 := hF144 164 100 rfl
                    have e159 := hF144 164 101 rfl
                    have e160 := hF144 164 51 rfl
                    have hE161 := hE147.trans (yPw_no yPo_no).symm
                    refine zt_goto (tgt := 2) hX dX12_qTest_76 (by decide) ?_
                    refine zt_mask [true, true, false] rfl ?_
                    exact ih20 1 s140 (yPno 4 (s76 164 2) p14) (by omega) (by omega) hI143 hF148 hT145 hE161 (Or.inr (Or.inl ⟨rfl, yTl_f6 l103 (by omega) (by omega) (fun K d => yJ_not6 c105 d)⟩)) (ymt_a a28.1 (by omega) (fun o => absurd o (by rw [yPo_no]; decide)) hm19)
                  · have hE162 := hE118.trans q130
                    have u163 := yHb1 hE162 l103.1
                    refine zt_aload_n (pc' := 69) hX dX12_qTest_68 rfl rfl ?_
                    refine zt_aload_n (pc' := 70) hX dX12_qTest_69 rfl rfl ?_
                    refine zt_get (pc' := 73) (v := .ref (X.1.1 + 217)) hX dX12_qTest_70 rfl zf_X12_180 (by decide) zc_164 zs_46 (zrf_of (zv_46_79 hI112 zc_164)) ?_
                    refine zt_cVv (pc' := 76) hX dX12_qTest_73 rfl zm_yX12_asks zw_26_0 zc_164 (by decide) zs_46 (q := (RX12, TX12, 108)) rfl rfl (yc_X12_asks _ _ s109 hI112 217 99 3 zc_217 (by decide) zs_99 (by decide) f hT114 23 (yrow_217 (yWd_2 hWd hF116)) (by decide)) rfl rfl (Nat.le_of_ble_eq_true rfl) (by decide) (fun r164 s165 hr166 hp167 => ?_)
                    obtain ⟨hI168, hF169, hT170, z171⟩ := hp167
                    have hE172 : yqs f s165 = yPw f 23 p14 := by rw [z171, hE162]
                    have hF173 := zOn_tr hF116 hF169 zi_12
                    have b174 := zv_46_2 hI168 zc_164
                    have b175 := zv_46_5 hI168 zc_164
                    have b176 := zv_46_97 hI168 zc_164
                    have b177 := zv_46_99 hI168 zc_164
                    have b178 := zv_46_100 hI168 zc_164
                    have b179 := zv_46_101 hI168 zc_164
                    have b180 := zv_46_51 hI168 zc_164
                    have e181 := hF169 164 97 rfl
                    have e182 := hF169 164 99 rfl
                    have e183 := hF169 164 100 rfl
                    have e184 := hF169 164 101 rfl
                    have e185 := hF169 164 51 rfl
                    have hE186 := hE172.trans (if_pos c105)
                    refine zt_goto (tgt := 2) hX dX12_qTest_76 (by decide) ?_
                    refine zt_mask [true, true, false] rfl ?_
                    exact ih20 1 s165 (yPx f p14) (by omega) (by omega) hI168 hF173 hT170 hE186 (Or.inl ⟨rfl, yTl_op (c := 12) (a := 8) l103 hT83 hE88 (by omega) (by omega) x131 x132 x133 x134 hF113 hF169 (by decide) (fun K d => yJ_not c105 d) (ykn (Or.inr (Or.inl (by rw [c105]; decide))))⟩) (ymt_a a28.1 (by omega) (fun _ => yadv1 hT83 hE88 l103.1 (ykn (Or.inr (Or.inl (by rw [c105]; decide))))) hm19)
              · clear z85
                refine zt_ifeq (pc' := 58) (tgt := 79) hX dX12_qTest_55 rfl (by decide) ⟨by omega, by omega⟩ (fun c187 => ?_) (fun c187 => ?_)
                · refine zt_aload_n (pc' := 80) hX dX12_qTest_79 rfl rfl ?_
                  refine zt_cVv (pc' := 83) hX dX12_qTest_80 rfl zm_yX12_qFact zw_29_14 zc_164 (by decide) zs_46 (q := (RX12, TX12, 108)) rfl rfl (yc_X12_qFact _ _ s76 hI79 (by omega) f hT83 cb rl (ysk (s76 235) 0 (s76 164 99).toNat) hrl (yWd_2 hWd hF89) ⟨l103.2.2.2.2.1, by omega, by omega⟩ (by rw [hE88]; exact yTl_bd l103) (yTl_bl l103) (by rw [hE88]; exact ⟨c105, n9174⟩)) rfl rfl (Nat.le_of_ble_eq_true rfl) (by decide) (fun r188 s189 hr190 hp191 => ?_)
                  obtain ⟨hI192, hF193, hT194, z195, z196, z197, z198⟩ := hp191
                  rw [hE88] at z195
                  rw [hE88] at z197
                  have hF199 := zOn_tr hF89 hF193 zi_id
                  obtain ⟨p200, hE201⟩ : ∃ p, yqs f s189 = p := ⟨_, rfl⟩
                  rw [hE201] at z195
                  rw [hE201] at z197
                  have b202 := zv_46_2 hI192 zc_164
                  have b203 := zv_46_5 hI192 zc_164
                  have b204 := zv_46_97 hI192 zc_164
                  have b205 := zv_46_99 hI192 zc_164
                  have b206 := zv_46_100 hI192 zc_164
                  have b207 := zv_46_101 hI192 zc_164
                  have b208 := zv_46_51 hI192 zc_164
                  refine zt_aload_n (pc' := 84) hX dX12_qTest_83 rfl rfl ?_
                  refine zt_cVv (pc' := 87) hX dX12_qTest_84 rfl zm_yX12_qDropsNots zw_32_3 zc_164 (by decide) zs_46 (q := (RX12, TX12, 108)) rfl rfl (yc_X12_qDropsNots _ _ s189 hI192 (by omega) (by omega)) rfl rfl (Nat.le_of_ble_eq_true rfl) (by decide) (fun r209 s210 hr211 hp212 => ?_)
                  obtain ⟨hI213, hF214, z215, z216, z217⟩ := hp212
                  have hF218 := zOn_tr hF199 hF214 zi_e2
                  have hT219 := yTq_rk hT194 (yRq_e hF214)
                  have hE220 : yqs f s210 = p200 := (yqs_rk (yRq_e hF214)).trans hE201
                  have b221 := zv_46_2 hI213 zc_164
                  have b222 := zv_46_5 hI213 zc_164
                  have b223 := zv_46_97 hI213 zc_164
                  have b224 := zv_46_99 hI213 zc_164
                  have b225 := zv_46_100 hI213 zc_164
                  have b226 := zv_46_101 hI213 zc_164
                  have b227 := zv_46_51 hI213 zc_164
                  have e228 := hF214 164 2 rfl
                  have e229 := hF214 164 5 rfl
                  have e230 := hF214 164 101 rfl
                  have e231 := hF214 164 51 rfl
                  replace z217 : yIo _ _ _ := z217
                  refine zt_aload_n (pc' := 88) hX dX12_qTest_87 rfl rfl ?_
                  have b232 := zv_46_5 hI213 zc_164
                  refine zt_get (pc' := 91) (v := .int (zI (s210 164 5))) hX dX12_qTest_88 rfl zf_X12_246 (by decide) zc_164 zs_46 rfl ?_
                  refine zt_ifne (pc' := 94) (tgt := 105) hX dX12_qTest_91 rfl (by decide) ⟨by omega, by omega⟩ (fun c233 => ?_) (fun c233 => ?_)
                  · have l234 : yTd cb rl f (4, [], yqs f σ) s210 p200 := yTd_b l103 z195 ((yHb hT219 hE220).2 (by omega))
                    refine zt_iconst (pc' := 106) hX dX12_qTest_105 rfl ?_
                    refine zt_istore_n (pc' := 107) (lv' := [some (.ref (X.1.1 + 164)), some (.int (zI 0)), some (.int (zI r43))]) hX dX12_qTest_106 rfl hL (by decide) rfl ?_
                    refine zt_goto (tgt := 2) hX dX12_qTest_107 (by decide) ?_
                    refine zt_mask [true, true, false] rfl ?_
                    exact ih20 0 s210 p200 (by omega) (by omega) hI213 hF218 hT219 hE220 (Or.inr (Or.inr ⟨rfl, l234⟩)) (ymt_d hm19)
                  · have o235 := (yHb hT219 hE220).1 (by omega)
                    have l236 := yTl_fact l103 z195 z197 z196 o235
                    have l237 := yTl_nots l236 hF214 z215 z216 (by omega) z217
                    obtain ⟨u238, u239, u240, u241, u242, u243, u244, u245, u246⟩ := yTl_n l237.1 (by decide) hT219 hE220
                    refine zt_aload_n (pc' := 95) hX dX12_qTest_94 rfl rfl ?_
                    refine zt_cVz (pc' := 98) hX dX12_qTest_95 rfl zm_yX12_qGoesOnTest zw_32_7 zc_164 (by decide) zs_46 (q := (RX12, TX12, 108)) rfl rfl (yc_X12_qGoesOnTest _ _ s210 hI213 (by omega) f hT219 cb rl (yWd_2 hWd hF218) (by rw [hE220]; exact yTl_re l237.1) l237.2) rfl rfl (Nat.le_of_ble_eq_true rfl) (by decide) (fun r247 s248 hr249 hp250 => ?_)
                    obtain ⟨hI251, hF252, q253, q254, hT255, z256, z257⟩ := hp250
                    rw [hE220] at z256
                    have hF258 := zOn_tr hF218 hF252 zi_id
                    obtain ⟨p259, hE260⟩ : ∃ p, yqs f s248 = p := ⟨_, rfl⟩
                    rw [hE260] at z256
                    have b261 := zv_46_2 hI251 zc_164
                    have b262 := zv_46_5 hI251 zc_164
                    have b263 := zv_46_97 hI251 zc_164
                    have b264 := zv_46_99 hI251 zc_164
                    have b265 := zv_46_100 hI251 zc_164
                    have b266 := zv_46_101 hI251 zc_164
                    have b267 := zv_46_51 hI251 zc_164
                    rcases yGt_c z256 with ⟨rfl, g268, g269⟩ | ⟨rfl, g270⟩
                    · have l271 := yTl_tr l237.1 g268
                      refine zt_ifeq (pc' := 101) (tgt := 105) hX dX12_qTest_98 rfl (by decide) ⟨by omega, by omega⟩ (fun c272 => ?_) (fun c272 => ?_)
                      · exact absurd c272 (by omega)
                      · refine zt_iconst (pc' := 102) hX dX12_qTest_101 rfl ?_
                        refine zt_goto (tgt := 106) hX dX12_qTest_102 (by decide) ?_
                        refine zt_istore_n (pc' := 107) (lv' := [some (.ref (X.1.1 + 164)), some (.int (zI 1)), some (.int (zI r43))]) hX dX12_qTest_106 rfl hL (by decide) rfl ?_
                        refine zt_goto (tgt := 2) hX dX12_qTest_107 (by decide) ?_
                        refine zt_mask [true, true, false] rfl ?_
                        exact ih20 1 s248 p259 (by omega) (by omega) hI251 hF258 hT255 hE260 (Or.inl ⟨rfl, l271⟩) (ymt_a a28.1 (by omega) (fun _ => (show yPq p14 + 1 ≤ yPq p259 from by have t := (z197 o235).2.2.2.2.2; have w : yPq p200 + 1 ≤ yPq p259 := g269; omega)) hm19)
                    · have l273 := yTd_g l237.1 g270
                      refine zt_ifeq (pc' := 101) (tgt := 105) hX dX12_qTest_98 rfl (by decide) ⟨by omega, by omega⟩ (fun c274 => ?_) (fun c274 => ?_)
                      · refine zt_iconst (pc' := 106) hX dX12_qTest_105 rfl ?_
                        refine zt_istore_n (pc' := 107) (lv' := [some (.ref (X.1.1 + 164)), some (.int (zI 0)), some (.int (zI r43))]) hX dX12_qTest_106 rfl hL (by decide) rfl ?_
                        refine zt_goto (tgt := 2) hX dX12_qTest_107 (by decide) ?_
                        refine zt_mask [true, true, false] rfl ?_
                        exact ih20 0 s248 p259 (by omega) (by omega) hI251 hF258 hT255 hE260 (Or.inr (Or.inr ⟨rfl, l273⟩)) (ymt_d hm19)
                      · exact absurd c274 (by omega)
                · exact absurd c187 (by omega)
            · have g275 : yPg f p14 = 91 := ysg_p hT51 hE55 (by omega) (by omega) (hc72.trans (by omega)) ⟨by decide, by decide, by decide⟩
              have u276 := yat_lt (q := yPq p14) hT51 (by omega) (by rw [hc72]; omega)
              refine zt_aload_n (pc' := 25) hX dX12_qTest_24 rfl rfl ?_
              refine zt_bipush (pc' := 27) hX dX12_qTest_25 rfl (by decide) (by decide) ?_
              refine zt_aload_n (pc' := 28) hX dX12_qTest_27 rfl rfl ?_
              have b277 := zv_46_2 hI47 zc_164
              refine zt_get (pc' := 31) (v := .int (zI (s44 164 2))) hX dX12_qTest_28 rfl zf_X12_252 (by decide) zc_164 zs_46 rfl ?_
              refine zt_cVv (pc' := 34) hX dX12_qTest_31 rfl zm_yX12_qOpens zw_29_10 zc_164 (by decide) zs_46 (q := (RX12, TX12, 108)) rfl rfl (yc_X12_qOpens _ _ s44 hI47 25 ⟨by omega, by omega⟩ (s44 164 2) ⟨by omega, by omega⟩ (by omega) (by omega) (by omega) f hT51) rfl rfl (Nat.le_of_ble_eq_true rfl) (by decide) (fun r278 s279 hr280 hp281 => ?_)
              obtain ⟨hI282, hF283, hT284, z285⟩ := hp281
              rw [hE55] at z285
              have hF286 := zOn_tr hF56 hF283 zi_o2
              obtain ⟨p287, hE288⟩ : ∃ p, yqs f s279 = p := ⟨_, rfl⟩
              rw [hE288] at z285
              have b289 := zv_46_2 hI282 zc_164
              have b290 := zv_46_5 hI282 zc_164
              have b291 := zv_46_97 hI282 zc_164
              have b292 := zv_46_99 hI282 zc_164
              have b293 := zv_46_100 hI282 zc_164
              have b294 := zv_46_101 hI282 zc_164
              have b295 := zv_46_51 hI282 zc_164
              have e296 := hF283 164 97 rfl
              have e297 := hF283 164 101 rfl
              have e298 := hF283 164 51 rfl
              rcases z285 with ⟨d299, q300, x301, x302, x303⟩ | ⟨d299, q300, x301, x302, x303, x304, x305⟩
              · have hE307 := hE288.trans q300
                have u308 := yHb0 hE307 yPo_no
                refine zt_aload_n (pc' := 35) hX dX12_qTest_34 rfl rfl ?_
                refine zt_dup (pc' := 36) hX dX12_qTest_35 rfl rfl ?_
                have b309 := zv_46_2 hI282 zc_164
                refine zt_get (pc' := 39) (v := .int (zI (s279 164 2))) hX dX12_qTest_36 rfl zf_X12_252 (by decide) zc_164 zs_46 rfl ?_
                refine zt_iconst (pc' := 40) hX dX12_qTest_39 rfl ?_
                refine zt_iadd (pc' := 41) hX dX12_qTest_40 rfl ?_
                refine zt_put (pc' := 44) (x := ((s279 164 2) + 1)) hX dX12_qTest_41 rfl zf_X12_252 (by decide) zc_164 zs_46 (fun q hq => by cases hq; rfl) rfl rfl rfl ?_
                generalize hs311 : zset s279 164 2 ((s279 164 2) + 1) = s310
                have hI312 : zInv s310 := hs311 ▸ zp_46_2 hI282 zc_164 ⟨by omega, by omega⟩
                have hF313 : zOn zQ2 σ s310 := hs311 ▸ zOn_set hF286 (by decide)
                have e314 : s310 164 2 = ((s279 164 2) + 1) := by rw [← hs311]; exact zset_s
                have e315 : s310 164 5 = s279 164 5 := by rw [← hs311]; exact zset_j (by decide)
                have e316 : s310 164 97 = s279 164 97 := by rw [← hs311]; exact zset_j (by decide)
                have e317 : s310 164 99 = s279 164 99 := by rw [← hs311]; exact zset_j (by decide)
                have e318 : s310 164 100 = s279 164 100 := by rw [← hs311]; exact zset_j (by decide)
                have e319 : s310 164 101 = s279 164 101 := by rw [← hs311]; exact zset_j (by decide)
                have e320 : s310 164 51 = s279 164 51 := by rw [← hs311]; exact zset_j (by decide)
                have h321 := yL_at0 hT284 hE307 (by omega) (by rw [show s279 164 2 = yPq p14 by omega, hc72]; omega) hs311
                refine zt_goto (tgt := 2) hX dX12_qTest_44 (by decide) ?_
                refine zt_mask [true, true, false] rfl ?_
                exact ih20 1 s310 (yPno 4 (s44 164 2) p14) (by omega) (by omega) hI312 hF313 h321.1 h321.2 (Or.inr (Or.inl ⟨rfl, yTl_f6 l70 (by omega) (by omega) (fun K d => yJ_sq6 g275 d)⟩)) (ymt_a a28.1 (by omega) (fun o => absurd o (by rw [yPo_no]; decide)) hm19)
              · have hE322 := hE288.trans q300
                have u323 := yHb1 hE322 l70.1
                refine zt_aload_n (pc' := 35) hX dX12_qTest_34 rfl rfl ?_
                refine zt_dup (pc' := 36) hX dX12_qTest_35 rfl rfl ?_
                have b324 := zv_46_2 hI282 zc_164
                refine zt_get (pc' := 39) (v := .int (zI (s279 164 2))) hX dX12_qTest_36 rfl zf_X12_252 (by decide) zc_164 zs_46 rfl ?_
                refine zt_iconst (pc' := 40) hX dX12_qTest_39 rfl ?_
                refine zt_iadd (pc' := 41) hX dX12_qTest_40 rfl ?_
                refine zt_put (pc' := 44) (x := ((s279 164 2) + 1)) hX dX12_qTest_41 rfl zf_X12_252 (by decide) zc_164 zs_46 (fun q hq => by cases hq; rfl) rfl rfl rfl ?_
                generalize hs326 : zset s279 164 2 ((s279 164 2) + 1) = s325
                have hI327 : zInv s325 := hs326 ▸ zp_46_2 hI282 zc_164 ⟨by omega, by omega⟩
                have hF328 : zOn zQ2 σ s325 := hs326 ▸ zOn_set hF286 (by decide)
                have e329 : s325 164 2 = ((s279 164 2) + 1) := by rw [← hs326]; exact zset_s
                have e330 : s325 164 5 = s279 164 5 := by rw [← hs326]; exact zset_j (by decide)
                have e331 : s325 164 97 = s279 164 97 := by rw [← hs326]; exact zset_j (by decide)
                have e332 : s325 164 99 = s279 164 99 := by rw [← hs326]; exact zset_j (by decide)
                have e333 : s325 164 100 = s279 164 100 := by rw [← hs326]; exact zset_j (by decide)
                have e334 : s325 164 101 = s279 164 101 := by rw [← hs326]; exact zset_j (by decide)
                have e335 : s325 164 51 = s279 164 51 := by rw [← hs326]; exact zset_j (by decide)
                have h336 := yL_at1 hT284 hE322 (by omega) (by omega) (show f (yPq _) = 91 from hc72.trans (by omega)) ⟨by decide, by decide, by decide⟩ hs326
                refine zt_goto (tgt := 2) hX dX12_qTest_44 (by decide) ?_
                refine zt_mask [true, true, false] rfl ?_
                exact ih20 1 s325 (yPx f p14) (by omega) (by omega) hI327 hF328 h336.1 h336.2.1 (Or.inl ⟨rfl, yTl_op (c := 25) (a := 7) l70 hT51 hE55 (by omega) (by omega) x301 x302 x303 x304 hF283 (hs326 ▸ zOn_set (zOn_rf zQ1 _) (by decide)) (by decide) (fun K d => yJ_sq g275 d) (ykn (Or.inl (by rw [g275]; decide)))⟩) (ymt_a a28.1 (by omega) (fun _ => yadv1 hT51 hE55 l70.1 (ykn (Or.inl (by rw [g275]; decide)))) hm19)
      · have u337 := yHb0 hE16 b29.1
        have d338 : yTd cb rl f (4, [], yqs f σ) s11 p14 := yTd_f b29
        refine zt_iload_n (pc' := 3) hX dX12_qTest_2 rfl rfl ?_
        refine zt_ifeq (pc' := 6) (tgt := 110) hX dX12_qTest_3 rfl (by decide) ⟨by omega, by omega⟩ (fun c339 => ?_) (fun c339 => ?_)
        · exact absurd c339 (by omega)
        · refine zt_aload_n (pc' := 7) hX dX12_qTest_6 rfl rfl ?_
          have b340 := zv_46_5 hI12 zc_164
          refine zt_get (pc' := 10) (v := .int (zI (s11 164 5))) hX dX12_qTest_7 rfl zf_X12_246 (by decide) zc_164 zs_46 rfl ?_
          refine zt_ifne (pc' := 13) (tgt := 110) hX dX12_qTest_10 rfl (by decide) ⟨by omega, by omega⟩ (fun c341 => ?_) (fun c341 => ?_)
          · have L_110_348 : ∀ (N : Nat) (s342 : zSto) (p345 : yP), zInv s342 → zOn zQ2 σ s342 → yTq f s342 → yqs f s342 = p345 → yTd cb rl f (4, [], yqs f σ) s342 p345 → ((s342 164 99).toNat) < N → zF X s342 110 [some (.ref (X.1.1 + 164)), none, none] [] := by
              intro N
              induction N with
              | zero =>
                intro s342 p345 hI343 hF344 hT346 hE347 g348 hm350
                exact absurd hm350 (Nat.not_lt_zero _)
              | succ N ih351 =>
                intro s342 p345 hI343 hF344 hT346 hE347 g348 hm350
                have b352 := zv_46_2 hI343 zc_164
                have b353 := zv_46_5 hI343 zc_164
                have b354 := zv_46_97 hI343 zc_164
                have b355 := zv_46_99 hI343 zc_164
                have b356 := zv_46_100 hI343 zc_164
                have b357 := zv_46_101 hI343 zc_164
                have b358 := zv_46_51 hI343 zc_164
                have q359 := 0
                · refine zt_aload_n (pc' := 111) hX dX12_qTest_110 rfl rfl ?_
                  have b360 := zv_46_5 hI343 zc_164
                  refine zt_get (pc' := 114) (v := .int (zI (s342 164 5))) hX dX12_qTest_111 rfl zf_X12_246 (by decide) zc_164 zs_46 rfl ?_
                  refine zt_ifne (pc' := 117) (tgt := 131) hX dX12_qTest_114 rfl (by decide) ⟨by omega, by omega⟩ (fun c361 => ?_) (fun c361 => ?_)
                  · exact zt_vret hX hR dX12_qTest_131 ⟨hI343, hF344, hT346, (by rw [hE347]; exact ⟨g348.1, g348.2.1, g348.2.2.1⟩), (by rw [hE347]; exact (fun o => by have t := g348.2.2.2 o; omega))⟩
                  · obtain ⟨u362, u363⟩ := yTd_n g348 hT346 hE347 (by omega)
                    refine zt_aload_n (pc' := 118) hX dX12_qTest_117 rfl rfl ?_
                    have b364 := zv_46_99 hI343 zc_164
                    refine zt_get (pc' := 121) (v := .int (zI (s342 164 99))) hX dX12_qTest_118 rfl zf_X12_333 (by decide) zc_164 zs_46 rfl ?_
                    refine zt_ifle (pc' := 124) (tgt := 131) hX dX12_qTest_121 rfl (by decide) ⟨by omega, by omega⟩ (fun c365 => ?_) (fun c365 => ?_)
                    · exact zt_vret hX hR dX12_qTest_131 ⟨hI343, hF344, hT346, (by rw [hE347]; exact ⟨g348.1, g348.2.1, g348.2.2.1⟩), (by rw [hE347]; exact (fun o => by have t := g348.2.2.2 o; omega))⟩
                    · refine zt_aload_n (pc' := 125) hX dX12_qTest_124 rfl rfl ?_
                      refine zt_cVv (pc' := 128) hX dX12_qTest_125 rfl zm_yX12_qDrops zw_31_4 zc_164 (by decide) zs_46 (q := (RX12, TX12, 108)) rfl rfl (yc_X12_qDrops _ _ s342 hI343 (by omega) (by omega)) rfl rfl (Nat.le_of_ble_eq_true rfl) (by decide) (fun r366 s367 hr368 hp369 => ?_)
                      obtain ⟨hI370, hF371, z372⟩ := hp369
                      have hF373 := zOn_tr hF344 hF371 zi_d2
                      have hT374 := yTq_rk hT346 (yRq_d hF371)
                      have hE375 : yqs f s367 = p345 := (yqs_rk (yRq_d hF371)).trans hE347
                      have b376 := zv_46_2 hI370 zc_164
                      have b377 := zv_46_5 hI370 zc_164
                      have b378 := zv_46_97 hI370 zc_164
                      have b379 := zv_46_99 hI370 zc_164
                      have b380 := zv_46_100 hI370 zc_164
                      have b381 := zv_46_101 hI370 zc_164
                      have b382 := zv_46_51 hI370 zc_164
                      have e383 := hF371 164 2 rfl
                      have e384 := hF371 164 5 rfl
                      have e385 := hF371 164 100 rfl
                      have e386 := hF371 164 101 rfl
                      have e387 := hF371 164 51 rfl
                      have d388 := yTd_d g348 (by omega) z372
                      refine zt_goto (tgt := 110) hX dX12_qTest_128 (by decide) ?_
                      exact ih351 s367 p345 hI370 hF373 hT374 hE375 d388 (by omega)
            refine zt_mask [true, false, false] rfl ?_
            exact L_110_348 _ s11 p14 hI12 hF13 hT15 hE16 d338 (Nat.lt_succ_self _)
          · exact absurd c341 (by omega)
      · refine zt_iload_n (pc' := 3) hX dX12_qTest_2 rfl rfl ?_
        refine zt_ifeq (pc' := 6) (tgt := 110) hX dX12_qTest_3 rfl (by decide) ⟨by omega, by omega⟩ (fun c389 => ?_) (fun c389 => ?_)
        · have L_110_396 : ∀ (N : Nat) (s390 : zSto) (p393 : yP), zInv s390 → zOn zQ2 σ s390 → yTq f s390 → yqs f s390 = p393 → yTd cb rl f (4, [], yqs f σ) s390 p393 → ((s390 164 99).toNat) < N → zF X s390 110 [some (.ref (X.1.1 + 164)), none, none] [] := by
            intro N
            induction N with
            | zero =>
              intro s390 p393 hI391 hF392 hT394 hE395 g396 hm398
              exact absurd hm398 (Nat.not_lt_zero _)
            | succ N ih399 =>
              intro s390 p393 hI391 hF392 hT394 hE395 g396 hm398
              have b400 := zv_46_2 hI391 zc_164
              have b401 := zv_46_5 hI391 zc_164
              have b402 := zv_46_97 hI391 zc_164
              have b403 := zv_46_99 hI391 zc_164
              have b404 := zv_46_100 hI391 zc_164
              have b405 := zv_46_101 hI391 zc_164
              have b406 := zv_46_51 hI391 zc_164
              have q407 := 0
              · refine zt_aload_n (pc' := 111) hX dX12_qTest_110 rfl rfl ?_
                have b408 := zv_46_5 hI391 zc_164
                refine zt_get (pc' := 114) (v := .int (zI (s390 164 5))) hX dX12_qTest_111 rfl zf_X12_246 (by decide) zc_164 zs_46 rfl ?_
                refine zt_ifne (pc' := 117) (tgt := 131) hX dX12_qTest_114 rfl (by decide) ⟨by omega, by omega⟩ (fun c409 => ?_) (fun c409 => ?_)
                · exact zt_vret hX hR dX12_qTest_131 ⟨hI391, hF392, hT394, (by rw [hE395]; exact ⟨g396.1, g396.2.1, g396.2.2.1⟩), (by rw [hE395]; exact (fun o => by have t := g396.2.2.2 o; omega))⟩
                · obtain ⟨u410, u411⟩ := yTd_n g396 hT394 hE395 (by omega)
                  refine zt_aload_n (pc' := 118) hX dX12_qTest_117 rfl rfl ?_
                  have b412 := zv_46_99 hI391 zc_164
                  refine zt_get (pc' := 121) (v := .int (zI (s390 164 99))) hX dX12_qTest_118 rfl zf_X12_333 (by decide) zc_164 zs_46 rfl ?_
                  refine zt_ifle (pc' := 124) (tgt := 131) hX dX12_qTest_121 rfl (by decide) ⟨by omega, by omega⟩ (fun c413 => ?_) (fun c413 => ?_)
                  · exact zt_vret hX hR dX12_qTest_131 ⟨hI391, hF392, hT394, (by rw [hE395]; exact ⟨g396.1, g396.2.1, g396.2.2.1⟩), (by rw [hE395]; exact (fun o => by have t := g396.2.2.2 o; omega))⟩
                  · refine zt_aload_n (pc' := 125) hX dX12_qTest_124 rfl rfl ?_
                    refine zt_cVv (pc' := 128) hX dX12_qTest_125 rfl zm_yX12_qDrops zw_31_4 zc_164 (by decide) zs_46 (q := (RX12, TX12, 108)) rfl rfl (yc_X12_qDrops _ _ s390 hI391 (by omega) (by omega)) rfl rfl (Nat.le_of_ble_eq_true rfl) (by decide) (fun r414 s415 hr416 hp417 => ?_)
                    obtain ⟨hI418, hF419, z420⟩ := hp417
                    have hF421 := zOn_tr hF392 hF419 zi_d2
                    have hT422 := yTq_rk hT394 (yRq_d hF419)
                    have hE423 : yqs f s415 = p393 := (yqs_rk (yRq_d hF419)).trans hE395
                    have b424 := zv_46_2 hI418 zc_164
                    have b425 := zv_46_5 hI418 zc_164
                    have b426 := zv_46_97 hI418 zc_164
                    have b427 := zv_46_99 hI418 zc_164
                    have b428 := zv_46_100 hI418 zc_164
                    have b429 := zv_46_101 hI418 zc_164
                    have b430 := zv_46_51 hI418 zc_164
                    have e431 := hF419 164 2 rfl
                    have e432 := hF419 164 5 rfl
                    have e433 := hF419 164 100 rfl
                    have e434 := hF419 164 101 rfl
                    have e435 := hF419 164 51 rfl
                    have d436 := yTd_d g396 (by omega) z420
                    refine zt_goto (tgt := 110) hX dX12_qTest_128 (by decide) ?_
                    exact ih399 s415 p393 hI418 hF421 hT422 hE423 d436 (by omega)
          refine zt_mask [true, false, false] rfl ?_
          exact L_110_396 _ s11 p14 hI12 hF13 hT15 hE16 d30 (Nat.lt_succ_self _)
        · exact absurd c389 (by omega)
  exact L_2_17 _ 1 σ (yqs f σ) (by omega) (by omega) hI hF hT hE0 (Or.inl ⟨rfl, yTl_0 ho0 (by omega) (by omega) (by omega) (by omega) h51 hcb⟩) (Nat.lt_succ_self _)
