set_option maxRecDepth 100000 in
set_option maxHeartbeats 4000000 in
theorem yc_X12_qGoesOnTest (l : Launch) (E : zEN) (σ : zSto) (hI : zInv σ) (hpre0 : σ 164 5 = 0) (f : Int → Int) (hT : yTq f σ) (cb rl : Int) (hWd : yWd σ) (hl : yTl cb rl f (5, ysk (σ 235) 0 (σ 164 99).toNat, yqs f σ) 5 0 σ (yqs f σ)) (ht : ytp σ) : zCt l E yX12_qGoesOnTest cX12_qGoesOnTest 1 (some .boolean) 3 zNC zNC 0 0 σ [.ref (E.1 + 164)] (fun r σ' => zInv σ' ∧ zOn zQ2 σ σ' ∧ 0 ≤ r ∧ r ≤ 1 ∧ yTq f σ' ∧ (yGt cb rl f (5, ysk (σ 235) 0 (σ 164 99).toNat, (yqs f σ)) σ' (yqs f σ') r) ∧ (σ' 164 97 + σ' 164 99 ≤ 1660 ∧ -1800 ≤ σ' 164 100 ∧ σ' 164 100 ≤ 10)) := by
  refine zCt_of2 [some (.ref (E.1 + 164))] (by decide +kernel) (Nat.le_of_ble_eq_true rfl) rfl ?_
  intro X hE_ hX hR hL hN
  subst hE_
  have hX : zok X cX12_qGoesOnTest RX12 3 := hX
  have hF := zOn_rf zQ2 σ
  have hE0 : yqs f σ = yqs f σ := rfl
  have ho0 : yPo (yqs f σ) = 1 := (yHb hT rfl).1 (by omega)
  have b1 := zv_46_2 hI zc_164
  have b2 := zv_46_5 hI zc_164
  have b3 := zv_46_97 hI zc_164
  have b4 := zv_46_99 hI zc_164
  have b5 := zv_46_100 hI zc_164
  have b6 := zv_46_101 hI zc_164
  have b7 := zv_46_51 hI zc_164
  have L_0_15 : ∀ (N : Nat) (s8 : zSto) (p11 : yP), zInv s8 → zOn zQ2 σ s8 → yTq f s8 → yqs f s8 = p11 → yTl cb rl f (5, ysk (σ 235) 0 (σ 164 99).toNat, yqs f σ) 5 0 s8 p11 → ytp s8 → (yms p11 0) < N → zF X s8 0 [some (.ref (X.1.1 + 164))] [] := by
    intro N
    induction N with
    | zero =>
      intro s8 p11 hI9 hF10 hT12 hE13 g14 g15 hm17
      exact absurd hm17 (Nat.not_lt_zero _)
    | succ N ih18 =>
      intro s8 p11 hI9 hF10 hT12 hE13 g14 g15 hm17
      have b19 := zv_46_2 hI9 zc_164
      have b20 := zv_46_5 hI9 zc_164
      have b21 := zv_46_97 hI9 zc_164
      have b22 := zv_46_99 hI9 zc_164
      have b23 := zv_46_100 hI9 zc_164
      have b24 := zv_46_101 hI9 zc_164
      have b25 := zv_46_51 hI9 zc_164
      have q26 := 0
      · obtain ⟨u27, u28, u29, u30, u31, u32, u33, u34, u35⟩ := yTl_n g14 (by decide) hT12 hE13
        refine zt_aload_n (pc' := 1) hX dX12_qGoesOnTest_0 rfl rfl ?_
        have b36 := zv_46_5 hI9 zc_164
        refine zt_get (pc' := 4) (v := .int (zI (s8 164 5))) hX dX12_qGoesOnTest_1 rfl zf_X12_246 (by decide) zc_164 zs_46 rfl ?_
        refine zt_ifne (pc' := 7) (tgt := 76) hX dX12_qGoesOnTest_4 rfl (by decide) ⟨by omega, by omega⟩ (fun c37 => ?_) (fun c37 => ?_)
        · exact absurd c37 (by omega)
        · refine zt_aload_n (pc' := 8) hX dX12_qGoesOnTest_7 rfl rfl ?_
          refine zt_cVi (pc' := 11) hX dX12_qGoesOnTest_8 rfl zm_yX12_look zw_26_12 zc_164 (by decide) zs_46 (q := (RX12, TX12, 108)) rfl rfl (yc_X12_look _ _ s8 hI9 f hT12) rfl rfl (Nat.le_of_ble_eq_true rfl) (by decide) (fun r38 s39 hr40 hp41 => ?_)
          obtain ⟨hI42, hF43, q44, q45, hT46, z47, z48, z49⟩ := hp41
          have hE50 : yqs f s39 = p11 := by rw [z47, hE13]
          have hF51 := zOn_tr hF10 hF43 zi_a2
          have b52 := zv_46_2 hI42 zc_164
          have b53 := zv_46_5 hI42 zc_164
          have b54 := zv_46_97 hI42 zc_164
          have b55 := zv_46_99 hI42 zc_164
          have b56 := zv_46_100 hI42 zc_164
          have b57 := zv_46_101 hI42 zc_164
          have b58 := zv_46_51 hI42 zc_164
          have e59 := hF43 164 5 rfl
          have e60 := hF43 164 97 rfl
          have e61 := hF43 164 99 rfl
          have e62 := hF43 164 100 rfl
          have e63 := hF43 164 101 rfl
          have e64 := hF43 164 51 rfl
          have o67 : zOn zQ1 _ s39 := (zOn_tr (zOn_rf zQ1 _) hF43 zi_a1)
          have l65 := yTl_fr g14 o67
          have t66 := ytp_fr g15 o67
          have hq68 : s39 164 2 = yPq p11 := yat_q hE13 (by omega) z48
          have hc69 : f (yPq p11) = r38 := by rw [← hq68]; exact z49.symm
          clear z48 z49
          refine zt_bipush (pc' := 13) hX dX12_qGoesOnTest_11 rfl (by decide) (by decide) ?_
          refine zt_icne (pc' := 16) (tgt := 76) hX dX12_qGoesOnTest_13 rfl (by decide) ⟨by omega, by omega⟩ ⟨by omega, by omega⟩ (fun c70 => ?_) (fun c70 => ?_)
          · have n9371 : yPg f p11 ≠ 93 := ysg_n (by rw [hc69]; omega) ⟨by decide, by decide, by decide⟩
            refine zt_aload_n (pc' := 77) hX dX12_qGoesOnTest_76 rfl rfl ?_
            refine zt_aload_n (pc' := 78) hX dX12_qGoesOnTest_77 rfl rfl ?_
            refine zt_get (pc' := 81) (v := .ref (X.1.1 + 218)) hX dX12_qGoesOnTest_78 rfl zf_X12_183 (by decide) zc_164 zs_46 (zrf_of (zv_46_80 hI42 zc_164)) ?_
            refine zt_cVz (pc' := 84) hX dX12_qGoesOnTest_81 rfl zm_yX12_takes zw_26_4 zc_164 (by decide) zs_46 (q := (RX12, TX12, 108)) rfl rfl (yc_X12_takes _ _ s39 hI42 218 100 3 zc_218 (by decide) zs_100 (by decide) f hT46 22 (yrow_218 (yWd_2 hWd hF51)) (by decide)) rfl rfl (Nat.le_of_ble_eq_true rfl) (by decide) (fun r72 s73 hr74 hp75 => ?_)
            obtain ⟨hI76, hF77, q78, q79, hT80, z81, z82, z83⟩ := hp75
            have hE84 : yqs f s73 = yPt f 22 p11 := by rw [z81, hE50]
            rw [hE50] at z82
            rw [hE50] at z83
            have hF85 := zOn_tr hF51 hF77 zi_12
            have b86 := zv_46_2 hI76 zc_164
            have b87 := zv_46_5 hI76 zc_164
            have b88 := zv_46_97 hI76 zc_164
            have b89 := zv_46_99 hI76 zc_164
            have b90 := zv_46_100 hI76 zc_164
            have b91 := zv_46_101 hI76 zc_164
            have b92 := zv_46_51 hI76 zc_164
            have e93 := hF77 164 97 rfl
            have e94 := hF77 164 99 rfl
            have e95 := hF77 164 100 rfl
            have e96 := hF77 164 101 rfl
            have e97 := hF77 164 51 rfl
            replace z83 : yIm _ _ := z83
            have o100 : zOn zQ1 _ s73 := hF77
            have l98 := yTl_fr l65 o100
            have t99 := ytp_fr t66 o100
            rcases yspl z82 with ⟨rfl, c101⟩ | ⟨rfl, c101⟩
            · clear z82
              have hE102 : yqs f s73 = yPx f p11 := hE84.trans (if_pos c101)
              have l103 := yTl_ao l98 t99 hT46 hE50 (Or.inl c101)
              have u104 := yHb1 hE102 l103.1
              have ad105 := yadv1 hT46 hE50 l65.1 (ykn (Or.inr (Or.inl (by rw [c101]; decide))))
              have ad106 : yPq (yqs f σ) ≤ yPq p11 := l65.2.2.2.2.2.2.2.2.2
              refine zt_ifeq (pc' := 87) (tgt := 126) hX dX12_qGoesOnTest_84 rfl (by decide) ⟨by omega, by omega⟩ (fun c107 => ?_) (fun c107 => ?_)
              · exact absurd c107 (by omega)
              · have L_87_116 : ∀ (N : Nat) (s108 : zSto) (p111 : yP), zInv s108 → zOn zQ2 σ s108 → yTq f s108 → yqs f s108 = p111 → yTl cb rl f (5, ysk (σ 235) 0 (σ 164 99).toNat, yqs f σ) 4 1 s108 p111 → ytp s108 → yPq (yqs f σ) + 1 ≤ yPq p111 → ((s108 164 99).toNat) < N → zF X s108 87 [some (.ref (X.1.1 + 164))] [] := by
                  intro N
                  induction N with
                  | zero =>
                    intro s108 p111 hI109 hF110 hT112 hE113 g114 g115 g116 hm118
                    exact absurd hm118 (Nat.not_lt_zero _)
                  | succ N ih119 =>
                    intro s108 p111 hI109 hF110 hT112 hE113 g114 g115 g116 hm118
                    have b120 := zv_46_2 hI109 zc_164
                    have b121 := zv_46_5 hI109 zc_164
                    have b122 := zv_46_97 hI109 zc_164
                    have b123 := zv_46_99 hI109 zc_164
                    have b124 := zv_46_100 hI109 zc_164
                    have b125 := zv_46_101 hI109 zc_164
                    have b126 := zv_46_51 hI109 zc_164
                    have q127 := 0
                    · obtain ⟨u128, u129, u130, u131, u132, u133, u134, u135, u136⟩ := yTl_n g114 (by decide) hT112 hE113
                      have u137 := g114.2.2.2.2.2.2.2.2.1
                      refine zt_aload_n (pc' := 88) hX dX12_qGoesOnTest_87 rfl rfl ?_
                      refine zt_bipush (pc' := 90) hX dX12_qGoesOnTest_88 rfl (by decide) (by decide) ?_
                      refine zt_cVz (pc' := 93) hX dX12_qGoesOnTest_90 rfl zm_yX12_qIsOn zw_31_23 zc_164 (by decide) zs_46 (q := (RX12, TX12, 108)) rfl rfl (yc_X12_qIsOn _ _ s108 hI109 10 ⟨by omega, by omega⟩) rfl rfl (Nat.le_of_ble_eq_true rfl) (by decide) (fun r138 s139 hr140 hp141 => ?_)
                      obtain ⟨rfl, q142, q143, z144⟩ := hp141
                      rcases ysps2 z144 with ⟨rfl, c145⟩ | ⟨rfl, c145⟩
                      · clear z144
                        refine zt_ifeq (pc' := 96) (tgt := 103) hX dX12_qGoesOnTest_93 rfl (by decide) ⟨by omega, by omega⟩ (fun c146 => ?_) (fun c146 => ?_)
                        · exact absurd c146 (by omega)
                        · refine zt_aload_n (pc' := 97) hX dX12_qGoesOnTest_96 rfl rfl ?_
                          refine zt_cVv (pc' := 100) hX dX12_qGoesOnTest_97 rfl zm_yX12_qDrops zw_31_4 zc_164 (by decide) zs_46 (q := (RX12, TX12, 108)) rfl rfl (yc_X12_qDrops _ _ s108 hI109 (by omega) (by omega)) rfl rfl (Nat.le_of_ble_eq_true rfl) (by decide) (fun r147 s148 hr149 hp150 => ?_)
                          obtain ⟨hI151, hF152, z153⟩ := hp150
                          have hF154 := zOn_tr hF110 hF152 zi_d2
                          have hT155 := yTq_rk hT112 (yRq_d hF152)
                          have hE156 : yqs f s148 = p111 := (yqs_rk (yRq_d hF152)).trans hE113
                          have b157 := zv_46_2 hI151 zc_164
                          have b158 := zv_46_5 hI151 zc_164
                          have b159 := zv_46_97 hI151 zc_164
                          have b160 := zv_46_99 hI151 zc_164
                          have b161 := zv_46_100 hI151 zc_164
                          have b162 := zv_46_101 hI151 zc_164
                          have b163 := zv_46_51 hI151 zc_164
                          have e164 := hF152 164 2 rfl
                          have e165 := hF152 164 5 rfl
                          have e166 := hF152 164 100 rfl
                          have e167 := hF152 164 101 rfl
                          have e168 := hF152 164 51 rfl
                          have v170 : s108 235 (s108 164 99 - 1).toNat = 10 ∨ s108 235 (s108 164 99 - 1).toNat = 11 := (Or.inl c145.2)
                          have d169 := yTl_d g114 (by omega) hF152 z153 v170
                          refine zt_goto (tgt := 87) hX dX12_qGoesOnTest_100 (by decide) ?_
                          exact ih119 s148 p111 hI151 hF154 hT155 hE156 (d169.1) (d169.2) (by omega) (by omega)
                      · clear z144
                        refine zt_ifeq (pc' := 96) (tgt := 103) hX dX12_qGoesOnTest_93 rfl (by decide) ⟨by omega, by omega⟩ (fun c171 => ?_) (fun c171 => ?_)
                        · refine zt_aload_n (pc' := 104) hX dX12_qGoesOnTest_103 rfl rfl ?_
                          refine zt_get (pc' := 107) (v := .ref (X.1.1 + 235)) hX dX12_qGoesOnTest_104 rfl zf_X12_234 (by decide) zc_164 zs_46 (zrf_of (zv_46_98 hI109 zc_164)) ?_
                          refine zt_aload_n (pc' := 108) hX dX12_qGoesOnTest_107 rfl rfl ?_
                          have b172 := zv_46_99 hI109 zc_164
                          refine zt_get (pc' := 111) (v := .int (zI (s108 164 99))) hX dX12_qGoesOnTest_108 rfl zf_X12_333 (by decide) zc_164 zs_46 rfl ?_
                          refine zt_bipush (pc' := 113) hX dX12_qGoesOnTest_111 rfl (by decide) (by decide) ?_
                          refine zt_iast (pc' := 114) hX dX12_qGoesOnTest_113 rfl (by decide) zc_235 zs_117 (by decide) ⟨by omega, by omega⟩ ?_
                          generalize hs174 : zset s108 235 ((s108 164 99).toNat) 10 = s173
                          have hI175 : zInv s173 := hs174 ▸ zp_117 hI109 zc_235 ((s108 164 99).toNat) ⟨by omega, by omega⟩
                          have hF176 : zOn zQ2 σ s173 := hs174 ▸ zOn_set hF110 (zq2_235 (by omega))
                          have hT177 := yTq_rk hT112 (yRq_set hs174 zc_235 (by decide))
                          have hE178 : yqs f s173 = p111 := (yqs_rk (yRq_set hs174 zc_235 (by decide))).trans hE113
                          have e179 : s173 164 2 = s108 164 2 := by rw [← hs174]; exact zset_k (zne_r zc_164 zc_235 (by decide))
                          have e180 : s173 164 5 = s108 164 5 := by rw [← hs174]; exact zset_k (zne_r zc_164 zc_235 (by decide))
                          have e181 : s173 164 97 = s108 164 97 := by rw [← hs174]; exact zset_k (zne_r zc_164 zc_235 (by decide))
                          have e182 : s173 164 99 = s108 164 99 := by rw [← hs174]; exact zset_k (zne_r zc_164 zc_235 (by decide))
                          have e183 : s173 164 100 = s108 164 100 := by rw [← hs174]; exact zset_k (zne_r zc_164 zc_235 (by decide))
                          have e184 : s173 164 101 = s108 164 101 := by rw [← hs174]; exact zset_k (zne_r zc_164 zc_235 (by decide))
                          have e185 : s173 164 51 = s108 164 51 := by rw [← hs174]; exact zset_k (zne_r zc_164 zc_235 (by decide))
                          refine zt_aload_n (pc' := 115) hX dX12_qGoesOnTest_114 rfl rfl ?_
                          refine zt_dup (pc' := 116) hX dX12_qGoesOnTest_115 rfl rfl ?_
                          have b186 := zv_46_99 hI175 zc_164
                          refine zt_get (pc' := 119) (v := .int (zI (s173 164 99))) hX dX12_qGoesOnTest_116 rfl zf_X12_333 (by decide) zc_164 zs_46 rfl ?_
                          refine zt_iconst (pc' := 120) hX dX12_qGoesOnTest_119 rfl ?_
                          refine zt_iadd (pc' := 121) hX dX12_qGoesOnTest_120 rfl ?_
                          refine zt_put (pc' := 124) (x := ((s173 164 99) + 1)) hX dX12_qGoesOnTest_121 rfl zf_X12_333 (by decide) zc_164 zs_46 (fun q hq => by cases hq; rfl) rfl rfl rfl ?_
                          generalize hs188 : zset s173 164 99 ((s173 164 99) + 1) = s187
                          have hI189 : zInv s187 := hs188 ▸ zp_46_99 hI175 zc_164 ⟨by omega, by omega⟩
                          have hF190 : zOn zQ2 σ s187 := hs188 ▸ zOn_set hF176 (by decide)
                          have e191 : s187 164 2 = s173 164 2 := by rw [← hs188]; exact zset_j (by decide)
                          have e192 : s187 164 5 = s173 164 5 := by rw [← hs188]; exact zset_j (by decide)
                          have e193 : s187 164 97 = s173 164 97 := by rw [← hs188]; exact zset_j (by decide)
                          have e194 : s187 164 99 = ((s173 164 99) + 1) := by rw [← hs188]; exact zset_s
                          have e195 : s187 164 100 = s173 164 100 := by rw [← hs188]; exact zset_j (by decide)
                          have e196 : s187 164 101 = s173 164 101 := by rw [← hs188]; exact zset_j (by decide)
                          have e197 : s187 164 51 = s173 164 51 := by rw [← hs188]; exact zset_j (by decide)
                          have hT198 := yTq_rk hT177 (yRq_j hs188 (by decide))
                          have hE199 : yqs f s187 = p111 := (yqs_rk (yRq_j hs188 (by decide))).trans hE178
                          refine zt_iconst (pc' := 125) hX dX12_qGoesOnTest_124 rfl ?_
                          exact zt_zret hX hR dX12_qGoesOnTest_125 ⟨by omega, by omega⟩ ⟨hI189, hF190, by omega, by omega, hT198, (by rw [hE199]; exact Or.inl ⟨rfl, yTl_p (c := 10) g114 g115 (by decide) hs174 hs188 rfl (by omega) (by omega) (by omega), (show yPq (yqs f σ) + 1 ≤ yPq p111 by omega)⟩), ⟨by omega, by omega, by omega⟩⟩
                        · exact absurd c171 (by omega)
                exact L_87_116 _ s73 (yPx f p11) hI76 hF85 hT80 hE102 l103 t99 (by omega) (Nat.lt_succ_self _)
            · clear z82
              have hE200 : yqs f s73 = p11 := hE84.trans (if_neg c101)
              have u201 := yHb1 hE200 l98.1
              have u202 := z83 ⟨l98.1, rfl⟩
              refine zt_ifeq (pc' := 87) (tgt := 126) hX dX12_qGoesOnTest_84 rfl (by decide) ⟨by omega, by omega⟩ (fun c203 => ?_) (fun c203 => ?_)
              · refine zt_aload_n (pc' := 127) hX dX12_qGoesOnTest_126 rfl rfl ?_
                refine zt_aload_n (pc' := 128) hX dX12_qGoesOnTest_127 rfl rfl ?_
                refine zt_get (pc' := 131) (v := .ref (X.1.1 + 219)) hX dX12_qGoesOnTest_128 rfl zf_X12_186 (by decide) zc_164 zs_46 (zrf_of (zv_46_81 hI76 zc_164)) ?_
                refine zt_cVz (pc' := 134) hX dX12_qGoesOnTest_131 rfl zm_yX12_takes zw_26_4 zc_164 (by decide) zs_46 (q := (RX12, TX12, 108)) rfl rfl (yc_X12_takes _ _ s73 hI76 219 101 2 zc_219 (by decide) zs_101 (by decide) f hT80 21 (yrow_219 (yWd_2 hWd hF85)) (by decide)) rfl rfl (Nat.le_of_ble_eq_true rfl) (by decide) (fun r204 s205 hr206 hp207 => ?_)
                obtain ⟨hI208, hF209, q210, q211, hT212, z213, z214, z215⟩ := hp207
                have hE216 : yqs f s205 = yPt f 21 p11 := by rw [z213, hE200]
                rw [hE200] at z214
                rw [hE200] at z215
                have hF217 := zOn_tr hF85 hF209 zi_12
                have b218 := zv_46_2 hI208 zc_164
                have b219 := zv_46_5 hI208 zc_164
                have b220 := zv_46_97 hI208 zc_164
                have b221 := zv_46_99 hI208 zc_164
                have b222 := zv_46_100 hI208 zc_164
                have b223 := zv_46_101 hI208 zc_164
                have b224 := zv_46_51 hI208 zc_164
                have e225 := hF209 164 97 rfl
                have e226 := hF209 164 99 rfl
                have e227 := hF209 164 100 rfl
                have e228 := hF209 164 101 rfl
                have e229 := hF209 164 51 rfl
                replace z215 : yIm _ _ := z215
                have o232 : zOn zQ1 _ s205 := hF209
                have l230 := yTl_fr l98 o232
                have t231 := ytp_fr t99 o232
                rcases yspl z214 with ⟨rfl, c233⟩ | ⟨rfl, c233⟩
                · clear z214
                  have hE234 : yqs f s205 = yPx f p11 := hE216.trans (if_pos c233)
                  have l235 := yTl_ao l230 t231 hT80 hE200 (Or.inr c233)
                  have u236 := yHb1 hE234 l235.1
                  have ad237 := yadv1 hT80 hE200 l98.1 (ykn (Or.inr (Or.inl (by rw [c233]; decide))))
                  have ad238 : yPq (yqs f σ) ≤ yPq p11 := l98.2.2.2.2.2.2.2.2.2
                  refine zt_ifeq (pc' := 137) (tgt := 185) hX dX12_qGoesOnTest_134 rfl (by decide) ⟨by omega, by omega⟩ (fun c239 => ?_) (fun c239 => ?_)
                  · exact absurd c239 (by omega)
                  · have L_137_248 : ∀ (N : Nat) (s240 : zSto) (p243 : yP), zInv s240 → zOn zQ2 σ s240 → yTq f s240 → yqs f s240 = p243 → yTl cb rl f (5, ysk (σ 235) 0 (σ 164 99).toNat, yqs f σ) 4 1 s240 p243 → ytp s240 → yPq (yqs f σ) + 1 ≤ yPq p243 → ((s240 164 99).toNat) < N → zF X s240 137 [some (.ref (X.1.1 + 164))] [] := by
                      intro N
                      induction N with
                      | zero =>
                        intro s240 p243 hI241 hF242 hT244 hE245 g246 g247 g248 hm250
                        exact absurd hm250 (Nat.not_lt_zero _)
                      | succ N ih251 =>
                        intro s240 p243 hI241 hF242 hT244 hE245 g246 g247 g248 hm250
                        have b252 := zv_46_2 hI241 zc_164
                        have b253 := zv_46_5 hI241 zc_164
                        have b254 := zv_46_97 hI241 zc_164
                        have b255 := zv_46_99 hI241 zc_164
                        have b256 := zv_46_100 hI241 zc_164
                        have b257 := zv_46_101 hI241 zc_164
                        have b258 := zv_46_51 hI241 zc_164
                        have q259 := 0
                        · obtain ⟨u260, u261, u262, u263, u264, u265, u266, u267, u268⟩ := yTl_n g246 (by decide) hT244 hE245
                          have u269 := g246.2.2.2.2.2.2.2.2.1
                          refine zt_aload_n (pc' := 138) hX dX12_qGoesOnTest_137 rfl rfl ?_
                          refine zt_bipush (pc' := 140) hX dX12_qGoesOnTest_138 rfl (by decide) (by decide) ?_
                          refine zt_cVz (pc' := 143) hX dX12_qGoesOnTest_140 rfl zm_yX12_qIsOn zw_31_23 zc_164 (by decide) zs_46 (q := (RX12, TX12, 108)) rfl rfl (yc_X12_qIsOn _ _ s240 hI241 10 ⟨by omega, by omega⟩) rfl rfl (Nat.le_of_ble_eq_true rfl) (by decide) (fun r270 s271 hr272 hp273 => ?_)
                          obtain ⟨rfl, q274, q275, z276⟩ := hp273
                          rcases ysps2 z276 with ⟨rfl, c277⟩ | ⟨rfl, c277⟩
                          · clear z276
                            refine zt_ifne (pc' := 146) (tgt := 155) hX dX12_qGoesOnTest_143 rfl (by decide) ⟨by omega, by omega⟩ (fun c278 => ?_) (fun c278 => ?_)
                            · refine zt_aload_n (pc' := 156) hX dX12_qGoesOnTest_155 rfl rfl ?_
                              refine zt_cVv (pc' := 159) hX dX12_qGoesOnTest_156 rfl zm_yX12_qDrops zw_31_4 zc_164 (by decide) zs_46 (q := (RX12, TX12, 108)) rfl rfl (yc_X12_qDrops _ _ s240 hI241 (by omega) (by omega)) rfl rfl (Nat.le_of_ble_eq_true rfl) (by decide) (fun r279 s280 hr281 hp282 => ?_)
                              obtain ⟨hI283, hF284, z285⟩ := hp282
                              have hF286 := zOn_tr hF242 hF284 zi_d2
                              have hT287 := yTq_rk hT244 (yRq_d hF284)
                              have hE288 : yqs f s280 = p243 := (yqs_rk (yRq_d hF284)).trans hE245
                              have b289 := zv_46_2 hI283 zc_164
                              have b290 := zv_46_5 hI283 zc_164
                              have b291 := zv_46_97 hI283 zc_164
                              have b292 := zv_46_99 hI283 zc_164
                              have b293 := zv_46_100 hI283 zc_164
                              have b294 := zv_46_101 hI283 zc_164
                              have b295 := zv_46_51 hI283 zc_164
                              have e296 := hF284 164 2 rfl
                              have e297 := hF284 164 5 rfl
                              have e298 := hF284 164 100 rfl
                              have e299 := hF284 164 101 rfl
                              have e300 := hF284 164 51 rfl
                              have v302 : s240 235 (s240 164 99 - 1).toNat = 10 ∨ s240 235 (s240 164 99 - 1).toNat = 11 := (Or.inl c277.2)
                              have d301 := yTl_d g246 (by omega) hF284 z285 v302
                              refine zt_goto (tgt := 137) hX dX12_qGoesOnTest_159 (by decide) ?_
                              exact ih251 s280 p243 hI283 hF286 hT287 hE288 (d301.1) (d301.2) (by omega) (by omega)
                            · exact absurd c278 (by omega)
                          · clear z276
                            refine zt_ifne (pc' := 146) (tgt := 155) hX dX12_qGoesOnTest_143 rfl (by decide) ⟨by omega, by omega⟩ (fun c303 => ?_) (fun c303 => ?_)
                            · exact absurd c303 (by omega)
                            · refine zt_aload_n (pc' := 147) hX dX12_qGoesOnTest_146 rfl rfl ?_
                              refine zt_bipush (pc' := 149) hX dX12_qGoesOnTest_147 rfl (by decide) (by decide) ?_
                              refine zt_cVz (pc' := 152) hX dX12_qGoesOnTest_149 rfl zm_yX12_qIsOn zw_31_23 zc_164 (by decide) zs_46 (q := (RX12, TX12, 108)) rfl rfl (yc_X12_qIsOn _ _ s240 hI241 11 ⟨by omega, by omega⟩) rfl rfl (Nat.le_of_ble_eq_true rfl) (by decide) (fun r304 s305 hr306 hp307 => ?_)
                              obtain ⟨rfl, q308, q309, z310⟩ := hp307
                              rcases ysps2 z310 with ⟨rfl, c311⟩ | ⟨rfl, c311⟩
                              · clear z310
                                refine zt_ifeq (pc' := 155) (tgt := 162) hX dX12_qGoesOnTest_152 rfl (by decide) ⟨by omega, by omega⟩ (fun c312 => ?_) (fun c312 => ?_)
                                · exact absurd c312 (by omega)
                                · refine zt_aload_n (pc' := 156) hX dX12_qGoesOnTest_155 rfl rfl ?_
                                  refine zt_cVv (pc' := 159) hX dX12_qGoesOnTest_156 rfl zm_yX12_qDrops zw_31_4 zc_164 (by decide) zs_46 (q := (RX12, TX12, 108)) rfl rfl (yc_X12_qDrops _ _ s240 hI241 (by omega) (by omega)) rfl rfl (Nat.le_of_ble_eq_true rfl) (by decide) (fun r313 s314 hr315 hp316 => ?_)
                                  obtain ⟨hI317, hF318, z319⟩ := hp316
                                  have hF320 := zOn_tr hF242 hF318 zi_d2
                                  have hT321 := yTq_rk hT244 (yRq_d hF318)
                                  have hE322 : yqs f s314 = p243 := (yqs_rk (yRq_d hF318)).trans hE245
                                  have b323 := zv_46_2 hI317 zc_164
                                  have b324 := zv_46_5 hI317 zc_164
                                  have b325 := zv_46_97 hI317 zc_164
                                  have b326 := zv_46_99 hI317 zc_164
                                  have b327 := zv_46_100 hI317 zc_164
                                  have b328 := zv_46_101 hI317 zc_164
                                  have b329 := zv_46_51 hI317 zc_164
                                  have e330 := hF318 164 2 rfl
                                  have e331 := hF318 164 5 rfl
                                  have e332 := hF318 164 100 rfl
                                  have e333 := hF318 164 101 rfl
                                  have e334 := hF318 164 51 rfl
                                  have v336 : s240 235 (s240 164 99 - 1).toNat = 10 ∨ s240 235 (s240 164 99 - 1).toNat = 11 := (Or.inr c311.2)
                                  have d335 := yTl_d g246 (by omega) hF318 z319 v336
                                  refine zt_goto (tgt := 137) hX dX12_qGoesOnTest_159 (by decide) ?_
                                  exact ih251 s314 p243 hI317 hF320 hT321 hE322 (d335.1) (d335.2) (by omega) (by omega)
                              · clear z310
                                refine zt_ifeq (pc' := 155) (tgt := 162) hX dX12_qGoesOnTest_152 rfl (by decide) ⟨by omega, by omega⟩ (fun c337 => ?_) (fun c337 => ?_)
                                · refine zt_aload_n (pc' := 163) hX dX12_qGoesOnTest_162 rfl rfl ?_
                                  refine zt_get (pc' := 166) (v := .ref (X.1.1 + 235)) hX dX12_qGoesOnTest_163 rfl zf_X12_234 (by decide) zc_164 zs_46 (zrf_of (zv_46_98 hI241 zc_164)) ?_
                                  refine zt_aload_n (pc' := 167) hX dX12_qGoesOnTest_166 rfl rfl ?_
                                  have b338 := zv_46_99 hI241 zc_164
                                  refine zt_get (pc' := 170) (v := .int (zI (s240 164 99))) hX dX12_qGoesOnTest_167 rfl zf_X12_333 (by decide) zc_164 zs_46 rfl ?_
                                  refine zt_bipush (pc' := 172) hX dX12_qGoesOnTest_170 rfl (by decide) (by decide) ?_
                                  refine zt_iast (pc' := 173) hX dX12_qGoesOnTest_172 rfl (by decide) zc_235 zs_117 (by decide) ⟨by omega, by omega⟩ ?_
                                  generalize hs340 : zset s240 235 ((s240 164 99).toNat) 11 = s339
                                  have hI341 : zInv s339 := hs340 ▸ zp_117 hI241 zc_235 ((s240 164 99).toNat) ⟨by omega, by omega⟩
                                  have hF342 : zOn zQ2 σ s339 := hs340 ▸ zOn_set hF242 (zq2_235 (by omega))
                                  have hT343 := yTq_rk hT244 (yRq_set hs340 zc_235 (by decide))
                                  have hE344 : yqs f s339 = p243 := (yqs_rk (yRq_set hs340 zc_235 (by decide))).trans hE245
                                  have e345 : s339 164 2 = s240 164 2 := by rw [← hs340]; exact zset_k (zne_r zc_164 zc_235 (by decide))
                                  have e346 : s339 164 5 = s240 164 5 := by rw [← hs340]; exact zset_k (zne_r zc_164 zc_235 (by decide))
                                  have e347 : s339 164 97 = s240 164 97 := by rw [← hs340]; exact zset_k (zne_r zc_164 zc_235 (by decide))
                                  have e348 : s339 164 99 = s240 164 99 := by rw [← hs340]; exact zset_k (zne_r zc_164 zc_235 (by decide))
                                  have e349 : s339 164 100 = s240 164 100 := by rw [← hs340]; exact zset_k (zne_r zc_164 zc_235 (by decide))
                                  have e350 : s339 164 101 = s240 164 101 := by rw [← hs340]; exact zset_k (zne_r zc_164 zc_235 (by decide))
                                  have e351 : s339 164 51 = s240 164 51 := by rw [← hs340]; exact zset_k (zne_r zc_164 zc_235 (by decide))
                                  refine zt_aload_n (pc' := 174) hX dX12_qGoesOnTest_173 rfl rfl ?_
                                  refine zt_dup (pc' := 175) hX dX12_qGoesOnTest_174 rfl rfl ?_
                                  have b352 := zv_46_99 hI341 zc_164
                                  refine zt_get (pc' := 178) (v := .int (zI (s339 164 99))) hX dX12_qGoesOnTest_175 rfl zf_X12_333 (by decide) zc_164 zs_46 rfl ?_
                                  refine zt_iconst (pc' := 179) hX dX12_qGoesOnTest_178 rfl ?_
                                  refine zt_iadd (pc' := 180) hX dX12_qGoesOnTest_179 rfl ?_
                                  refine zt_put (pc' := 183) (x := ((s339 164 99) + 1)) hX dX12_qGoesOnTest_180 rfl zf_X12_333 (by decide) zc_164 zs_46 (fun q hq => by cases hq; rfl) rfl rfl rfl ?_
                                  generalize hs354 : zset s339 164 99 ((s339 164 99) + 1) = s353
                                  have hI355 : zInv s353 := hs354 ▸ zp_46_99 hI341 zc_164 ⟨by omega, by omega⟩
                                  have hF356 : zOn zQ2 σ s353 := hs354 ▸ zOn_set hF342 (by decide)
                                  have e357 : s353 164 2 = s339 164 2 := by rw [← hs354]; exact zset_j (by decide)
                                  have e358 : s353 164 5 = s339 164 5 := by rw [← hs354]; exact zset_j (by decide)
                                  have e359 : s353 164 97 = s339 164 97 := by rw [← hs354]; exact zset_j (by decide)
                                  have e360 : s353 164 99 = ((s339 164 99) + 1) := by rw [← hs354]; exact zset_s
                                  have e361 : s353 164 100 = s339 164 100 := by rw [← hs354]; exact zset_j (by decide)
                                  have e362 : s353 164 101 = s339 164 101 := by rw [← hs354]; exact zset_j (by decide)
                                  have e363 : s353 164 51 = s339 164 51 := by rw [← hs354]; exact zset_j (by decide)
                                  have hT364 := yTq_rk hT343 (yRq_j hs354 (by decide))
                                  have hE365 : yqs f s353 = p243 := (yqs_rk (yRq_j hs354 (by decide))).trans hE344
                                  refine zt_iconst (pc' := 184) hX dX12_qGoesOnTest_183 rfl ?_
                                  exact zt_zret hX hR dX12_qGoesOnTest_184 ⟨by omega, by omega⟩ ⟨hI355, hF356, by omega, by omega, hT364, (by rw [hE365]; exact Or.inl ⟨rfl, yTl_p (c := 11) g246 g247 (by decide) hs340 hs354 rfl (by omega) (by omega) (by omega), (show yPq (yqs f σ) + 1 ≤ yPq p243 by omega)⟩), ⟨by omega, by omega, by omega⟩⟩
                                · exact absurd c337 (by omega)
                    exact L_137_248 _ s205 (yPx f p11) hI208 hF217 hT212 hE234 l235 t231 (by omega) (Nat.lt_succ_self _)
                · clear z214
                  have hE366 : yqs f s205 = p11 := hE216.trans (if_neg c233)
                  have u367 := yHb1 hE366 l230.1
                  have u368 := z215 ⟨l230.1, rfl⟩
                  refine zt_ifeq (pc' := 137) (tgt := 185) hX dX12_qGoesOnTest_134 rfl (by decide) ⟨by omega, by omega⟩ (fun c369 => ?_) (fun c369 => ?_)
                  · refine zt_aload_n (pc' := 186) hX dX12_qGoesOnTest_185 rfl rfl ?_
                    have b370 := zv_46_5 hI208 zc_164
                    refine zt_get (pc' := 189) (v := .int (zI (s205 164 5))) hX dX12_qGoesOnTest_186 rfl zf_X12_246 (by decide) zc_164 zs_46 rfl ?_
                    refine zt_ifne (pc' := 192) (tgt := 208) hX dX12_qGoesOnTest_189 rfl (by decide) ⟨by omega, by omega⟩ (fun c371 => ?_) (fun c371 => ?_)
                    · exact absurd c371 (by omega)
                    · refine zt_aload_n (pc' := 193) hX dX12_qGoesOnTest_192 rfl rfl ?_
                      refine zt_cVz (pc' := 196) hX dX12_qGoesOnTest_193 rfl zm_yX12_qHasSquare zw_32_11 zc_164 (by decide) zs_46 (q := (RX12, TX12, 108)) rfl rfl (yc_X12_qHasSquare _ _ s205 hI208 ) rfl rfl (Nat.le_of_ble_eq_true rfl) (by decide) (fun r372 s373 hr374 hp375 => ?_)
                      obtain ⟨rfl, q376, q377, z378⟩ := hp375
                      rcases ysqq z378 with ⟨rfl, q381⟩ | ⟨rfl, q381⟩
                      · refine zt_ifeq (pc' := 199) (tgt := 208) hX dX12_qGoesOnTest_196 rfl (by decide) ⟨by omega, by omega⟩ (fun c382 => ?_) (fun c382 => ?_)
                        · exact absurd c382 (by omega)
                        · refine zt_aload_n (pc' := 200) hX dX12_qGoesOnTest_199 rfl rfl ?_
                          refine zt_iconst (pc' := 201) hX dX12_qGoesOnTest_200 rfl ?_
                          refine zt_aload_n (pc' := 202) hX dX12_qGoesOnTest_201 rfl rfl ?_
                          have b383 := zv_46_2 hI208 zc_164
                          refine zt_get (pc' := 205) (v := .int (zI (s205 164 2))) hX dX12_qGoesOnTest_202 rfl zf_X12_252 (by decide) zc_164 zs_46 rfl ?_
                          refine zt_cVv (pc' := 208) hX dX12_qGoesOnTest_205 rfl zm_yX12_fail zw_26_19 zc_164 (by decide) zs_46 (q := (RX12, TX12, 108)) rfl rfl (yc_X12_fail _ _ s205 hI208 1 ⟨by omega, by omega⟩ (s205 164 2) ⟨by omega, by omega⟩ f (yTq_w hT212)) rfl rfl (Nat.le_of_ble_eq_true rfl) (by decide) (fun r384 s385 hr386 hp387 => ?_)
                          obtain ⟨hI388, hF389, hT390, z391, z392⟩ := hp387
                          have hE393 : yqs f s385 = yPno 1 (s205 164 2) p11 := by rw [z391, hE366]
                          have hF394 := zOn_tr hF217 hF389 zi_12
                          have b395 := zv_46_2 hI388 zc_164
                          have b396 := zv_46_5 hI388 zc_164
                          have b397 := zv_46_97 hI388 zc_164
                          have b398 := zv_46_99 hI388 zc_164
                          have b399 := zv_46_100 hI388 zc_164
                          have b400 := zv_46_101 hI388 zc_164
                          have b401 := zv_46_51 hI388 zc_164
                          have e402 := hF389 164 97 rfl
                          have e403 := hF389 164 99 rfl
                          have e404 := hF389 164 100 rfl
                          have e405 := hF389 164 101 rfl
                          have e406 := hF389 164 51 rfl
                          refine zt_iconst (pc' := 209) hX dX12_qGoesOnTest_208 rfl ?_
                          exact zt_zret hX hR dX12_qGoesOnTest_209 ⟨by omega, by omega⟩ ⟨hI388, hF394, by omega, by omega, hT390, (by rw [hE393]; exact (yGt_f l230 t231 ⟨c101, c233⟩ q381 n9371 (by omega))), ⟨by omega, by omega, by omega⟩⟩
                      · refine zt_ifeq (pc' := 199) (tgt := 208) hX dX12_qGoesOnTest_196 rfl (by decide) ⟨by omega, by omega⟩ (fun c407 => ?_) (fun c407 => ?_)
                        · refine zt_iconst (pc' := 209) hX dX12_qGoesOnTest_208 rfl ?_
                          exact zt_zret hX hR dX12_qGoesOnTest_209 ⟨by omega, by omega⟩ ⟨hI208, hF217, by omega, by omega, hT212, (by rw [hE366]; exact yGt_e l230 t231 ⟨c101, c233⟩ q381), ⟨by omega, by omega, by omega⟩⟩
                        · exact absurd c407 (by omega)
                  · exact absurd c369 (by omega)
              · exact absurd c203 (by omega)
          · refine zt_aload_n (pc' := 17) hX dX12_qGoesOnTest_16 rfl rfl ?_
            refine zt_cVz (pc' := 20) hX dX12_qGoesOnTest_17 rfl zm_yX12_qHasSquare zw_32_11 zc_164 (by decide) zs_46 (q := (RX12, TX12, 108)) rfl rfl (yc_X12_qHasSquare _ _ s39 hI42 ) rfl rfl (Nat.le_of_ble_eq_true rfl) (by decide) (fun r408 s409 hr410 hp411 => ?_)
            obtain ⟨rfl, q412, q413, z414⟩ := hp411
            rcases ysqq z414 with ⟨rfl, q417⟩ | ⟨rfl, q417⟩
            · refine zt_ifeq (pc' := 23) (tgt := 76) hX dX12_qGoesOnTest_20 rfl (by decide) ⟨by omega, by omega⟩ (fun c419 => ?_) (fun c419 => ?_)
              · exact absurd c419 (by omega)
              · have g420 : yPg f p11 = 93 := ysg_p hT46 hE50 (by omega) (by omega) (hc69.trans (by omega)) ⟨by decide, by decide, by decide⟩
                have u421 := yat_lt (q := yPq p11) hT46 (by omega) (by rw [hc69]; omega)
                have ad422 := yadv1 hT46 hE50 l65.1 (ykn (Or.inl (by rw [g420]; decide)))
                refine zt_aload_n (pc' := 24) hX dX12_qGoesOnTest_23 rfl rfl ?_
                refine zt_dup (pc' := 25) hX dX12_qGoesOnTest_24 rfl rfl ?_
                have b423 := zv_46_2 hI42 zc_164
                refine zt_get (pc' := 28) (v := .int (zI (s39 164 2))) hX dX12_qGoesOnTest_25 rfl zf_X12_252 (by decide) zc_164 zs_46 rfl ?_
                refine zt_iconst (pc' := 29) hX dX12_qGoesOnTest_28 rfl ?_
                refine zt_iadd (pc' := 30) hX dX12_qGoesOnTest_29 rfl ?_
                refine zt_put (pc' := 33) (x := ((s39 164 2) + 1)) hX dX12_qGoesOnTest_30 rfl zf_X12_252 (by decide) zc_164 zs_46 (fun q hq => by cases hq; rfl) rfl rfl rfl ?_
                generalize hs425 : zset s39 164 2 ((s39 164 2) + 1) = s424
                have hI426 : zInv s424 := hs425 ▸ zp_46_2 hI42 zc_164 ⟨by omega, by omega⟩
                have hF427 : zOn zQ2 σ s424 := hs425 ▸ zOn_set hF51 (by decide)
                have e428 : s424 164 2 = ((s39 164 2) + 1) := by rw [← hs425]; exact zset_s
                have e429 : s424 164 5 = s39 164 5 := by rw [← hs425]; exact zset_j (by decide)
                have e430 : s424 164 97 = s39 164 97 := by rw [← hs425]; exact zset_j (by decide)
                have e431 : s424 164 99 = s39 164 99 := by rw [← hs425]; exact zset_j (by decide)
                have e432 : s424 164 100 = s39 164 100 := by rw [← hs425]; exact zset_j (by decide)
                have e433 : s424 164 101 = s39 164 101 := by rw [← hs425]; exact zset_j (by decide)
                have e434 : s424 164 51 = s39 164 51 := by rw [← hs425]; exact zset_j (by decide)
                have h435 := yL_at1 hT46 hE50 (by omega) (by omega) (show f (yPq _) = 93 from hc69.trans (by omega)) ⟨by decide, by decide, by decide⟩ hs425
                have o438 : zOn zQ1 _ s424 := (hs425 ▸ zOn_set (zOn_rf zQ1 _) (by decide))
                have l436 := yTl_fr l65 o438
                have t437 := ytp_fr t66 o438
                have q439 : yqq (s424 235) (s424 164 99) := yqq_e q417 (by rw [← hs425]; exact funext (fun j => (zset_k (by decide)))) (by omega)
                have u440 := yHb1 h435.2.1 (yPo_px.trans l436.1)
                have L_33_450 : ∀ (N : Nat) (s441 : zSto) (p444 : yP), zInv s441 → zOn zQ2 σ s441 → yTq f s441 → yqs f s441 = p444 → p444 = yPx f p11 → yTl cb rl f (5, ysk (σ 235) 0 (σ 164 99).toNat, yqs f σ) 5 0 s441 p11 → ytp s441 → yqq (s441 235) (s441 164 99) → ((s441 164 99).toNat) < N → zF X s441 33 [some (.ref (X.1.1 + 164))] [] := by
                  intro N
                  induction N with
                  | zero =>
                    intro s441 p444 hI442 hF443 hT445 hE446 g447 g448 g449 g450 hm452
                    exact absurd hm452 (Nat.not_lt_zero _)
                  | succ N ih453 =>
                    intro s441 p444 hI442 hF443 hT445 hE446 g447 g448 g449 g450 hm452
                    have b454 := zv_46_2 hI442 zc_164
                    have b455 := zv_46_5 hI442 zc_164
                    have b456 := zv_46_97 hI442 zc_164
                    have b457 := zv_46_99 hI442 zc_164
                    have b458 := zv_46_100 hI442 zc_164
                    have b459 := zv_46_101 hI442 zc_164
                    have b460 := zv_46_51 hI442 zc_164
                    subst g447
                    · have u461 := yqq_n g450
                      have u462 := yHb1 hE446 (yPo_px.trans g448.1)
                      have u463 := g448.2.2.2.2.1
                      have u464 := g448.2.2.2.2.2.2.2.2.1
                      have u465 := g448.2.2.2.2.2.1
                      refine zt_aload_n (pc' := 34) hX dX12_qGoesOnTest_33 rfl rfl ?_
                      refine zt_bipush (pc' := 36) hX dX12_qGoesOnTest_34 rfl (by decide) (by decide) ?_
                      refine zt_cVz (pc' := 39) hX dX12_qGoesOnTest_36 rfl zm_yX12_qIsOn zw_31_23 zc_164 (by decide) zs_46 (q := (RX12, TX12, 108)) rfl rfl (yc_X12_qIsOn _ _ s441 hI442 25 ⟨by omega, by omega⟩) rfl rfl (Nat.le_of_ble_eq_true rfl) (by decide) (fun r466 s467 hr468 hp469 => ?_)
                      obtain ⟨rfl, q470, q471, z472⟩ := hp469
                      rcases ysps2 z472 with ⟨rfl, c473⟩ | ⟨rfl, c473⟩
                      · clear z472
                        refine zt_ifne (pc' := 42) (tgt := 49) hX dX12_qGoesOnTest_39 rfl (by decide) ⟨by omega, by omega⟩ (fun c474 => ?_) (fun c474 => ?_)
                        · refine zt_aload_n (pc' := 50) hX dX12_qGoesOnTest_49 rfl rfl ?_
                          refine zt_dup (pc' := 51) hX dX12_qGoesOnTest_50 rfl rfl ?_
                          have b475 := zv_46_99 hI442 zc_164
                          refine zt_get (pc' := 54) (v := .int (zI (s441 164 99))) hX dX12_qGoesOnTest_51 rfl zf_X12_333 (by decide) zc_164 zs_46 rfl ?_
                          refine zt_iconst (pc' := 55) hX dX12_qGoesOnTest_54 rfl ?_
                          refine zt_isub (pc' := 56) hX dX12_qGoesOnTest_55 rfl ?_
                          refine zt_put (pc' := 59) (x := ((s441 164 99) - 1)) hX dX12_qGoesOnTest_56 rfl zf_X12_333 (by decide) zc_164 zs_46 (fun q hq => by cases hq; rfl) rfl rfl rfl ?_
                          generalize hs477 : zset s441 164 99 ((s441 164 99) - 1) = s476
                          have hI478 : zInv s476 := hs477 ▸ zp_46_99 hI442 zc_164 ⟨by omega, by omega⟩
                          have hF479 : zOn zQ2 σ s476 := hs477 ▸ zOn_set hF443 (by decide)
                          have e480 : s476 164 2 = s441 164 2 := by rw [← hs477]; exact zset_j (by decide)
                          have e481 : s476 164 5 = s441 164 5 := by rw [← hs477]; exact zset_j (by decide)
                          have e482 : s476 164 97 = s441 164 97 := by rw [← hs477]; exact zset_j (by decide)
                          have e483 : s476 164 99 = ((s441 164 99) - 1) := by rw [← hs477]; exact zset_s
                          have e484 : s476 164 100 = s441 164 100 := by rw [← hs477]; exact zset_j (by decide)
                          have e485 : s476 164 101 = s441 164 101 := by rw [← hs477]; exact zset_j (by decide)
                          have e486 : s476 164 51 = s441 164 51 := by rw [← hs477]; exact zset_j (by decide)
                          have hT487 := yTq_rk hT445 (yRq_j hs477 (by decide))
                          have hE488 : yqs f s476 = yPx f p11 := (yqs_rk (yRq_j hs477 (by decide))).trans hE446
                          refine zt_aload_n (pc' := 60) hX dX12_qGoesOnTest_59 rfl rfl ?_
                          refine zt_dup (pc' := 61) hX dX12_qGoesOnTest_60 rfl rfl ?_
                          have b489 := zv_46_100 hI478 zc_164
                          refine zt_get (pc' := 64) (v := .int (zI (s476 164 100))) hX dX12_qGoesOnTest_61 rfl zf_X12_336 (by decide) zc_164 zs_46 rfl ?_
                          refine zt_iconst (pc' := 65) hX dX12_qGoesOnTest_64 rfl ?_
                          refine zt_isub (pc' := 66) hX dX12_qGoesOnTest_65 rfl ?_
                          refine zt_wrap (fun r490 zr490 lr490 ur490 => ?_)
                          replace zr490 := ywr_eq zr490
                          refine zt_put (pc' := 69) (x := r490) hX dX12_qGoesOnTest_66 rfl zf_X12_336 (by decide) zc_164 zs_46 (fun q hq => by cases hq; rfl) rfl rfl rfl ?_
                          generalize hs492 : zset s476 164 100 r490 = s491
                          have hI493 : zInv s491 := hs492 ▸ zp_46_100 hI478 zc_164 ⟨by omega, by omega⟩
                          have hF494 : zOn zQ2 σ s491 := hs492 ▸ zOn_set hF479 (by decide)
                          have e495 : s491 164 2 = s476 164 2 := by rw [← hs492]; exact zset_j (by decide)
                          have e496 : s491 164 5 = s476 164 5 := by rw [← hs492]; exact zset_j (by decide)
                          have e497 : s491 164 97 = s476 164 97 := by rw [← hs492]; exact zset_j (by decide)
                          have e498 : s491 164 99 = s476 164 99 := by rw [← hs492]; exact zset_j (by decide)
                          have e499 : s491 164 100 = r490 := by rw [← hs492]; exact zset_s
                          have e500 : s491 164 101 = s476 164 101 := by rw [← hs492]; exact zset_j (by decide)
                          have e501 : s491 164 51 = s476 164 51 := by rw [← hs492]; exact zset_j (by decide)
                          have hT502 := yTq_rk hT487 (yRq_j hs492 (by decide))
                          have hE503 : yqs f s491 = yPx f p11 := (yqs_rk (yRq_j hs492 (by decide))).trans hE488
                          have r504 : s491 235 = s441 235 := by rw [← hs492, ← hs477]; exact funext (fun j => (zset_k (by decide)).trans (zset_k (by decide)))
                          have l505 := yTl_sq g448 g420 c473 r504 (by omega) (by omega) (by omega) (by omega) (by omega) ad422
                          refine zt_aload_n (pc' := 70) hX dX12_qGoesOnTest_69 rfl rfl ?_
                          refine zt_cVv (pc' := 73) hX dX12_qGoesOnTest_70 rfl zm_yX12_qDropsNots zw_32_3 zc_164 (by decide) zs_46 (q := (RX12, TX12, 108)) rfl rfl (yc_X12_qDropsNots _ _ s491 hI493 (by omega) (by omega)) rfl rfl (Nat.le_of_ble_eq_true rfl) (by decide) (fun r506 s507 hr508 hp509 => ?_)
                          obtain ⟨hI510, hF511, z512, z513, z514⟩ := hp509
                          have hF515 := zOn_tr hF494 hF511 zi_e2
                          have hT516 := yTq_rk hT502 (yRq_e hF511)
                          have hE517 : yqs f s507 = yPx f p11 := (yqs_rk (yRq_e hF511)).trans hE503
                          have b518 := zv_46_2 hI510 zc_164
                          have b519 := zv_46_5 hI510 zc_164
                          have b520 := zv_46_97 hI510 zc_164
                          have b521 := zv_46_99 hI510 zc_164
                          have b522 := zv_46_100 hI510 zc_164
                          have b523 := zv_46_101 hI510 zc_164
                          have b524 := zv_46_51 hI510 zc_164
                          have e525 := hF511 164 2 rfl
                          have e526 := hF511 164 5 rfl
                          have e527 := hF511 164 101 rfl
                          have e528 := hF511 164 51 rfl
                          have l529 := yTl_nots l505 hF511 z512 z513 (by omega) z514
                          clear z514
                          refine zt_goto (tgt := 0) hX dX12_qGoesOnTest_73 (by decide) ?_
                          exact ih18 s507 (yPx f p11) hI510 hF515 hT516 hE517 (l529.1) (l529.2) (yms_x (p := p11) (m := 0) g14.1 (by omega) (by omega) (fun o => Or.inl ⟨ad422, by decide⟩) hm17)
                        · exact absurd c474 (by omega)
                      · clear z472
                        refine zt_ifne (pc' := 42) (tgt := 49) hX dX12_qGoesOnTest_39 rfl (by decide) ⟨by omega, by omega⟩ (fun c530 => ?_) (fun c530 => ?_)
                        · exact absurd c530 (by omega)
                        · refine zt_aload_n (pc' := 43) hX dX12_qGoesOnTest_42 rfl rfl ?_
                          refine zt_cVv (pc' := 46) hX dX12_qGoesOnTest_43 rfl zm_yX12_qDrops zw_31_4 zc_164 (by decide) zs_46 (q := (RX12, TX12, 108)) rfl rfl (yc_X12_qDrops _ _ s441 hI442 (by omega) (by omega)) rfl rfl (Nat.le_of_ble_eq_true rfl) (by decide) (fun r531 s532 hr533 hp534 => ?_)
                          obtain ⟨hI535, hF536, z537⟩ := hp534
                          have hF538 := zOn_tr hF443 hF536 zi_d2
                          have hT539 := yTq_rk hT445 (yRq_d hF536)
                          have hE540 : yqs f s532 = yPx f p11 := (yqs_rk (yRq_d hF536)).trans hE446
                          have b541 := zv_46_2 hI535 zc_164
                          have b542 := zv_46_5 hI535 zc_164
                          have b543 := zv_46_97 hI535 zc_164
                          have b544 := zv_46_99 hI535 zc_164
                          have b545 := zv_46_100 hI535 zc_164
                          have b546 := zv_46_101 hI535 zc_164
                          have b547 := zv_46_51 hI535 zc_164
                          have e548 := hF536 164 2 rfl
                          have e549 := hF536 164 5 rfl
                          have e550 := hF536 164 100 rfl
                          have e551 := hF536 164 101 rfl
                          have e552 := hF536 164 51 rfl
                          have v554 : s441 235 (s441 164 99 - 1).toNat = 10 ∨ s441 235 (s441 164 99 - 1).toNat = 11 := (yTl_top g448 g449 c473 (by omega))
                          have d553 := yTl_d g448 (by omega) hF536 z537 v554
                          have q555 : yqq (s532 235) (s532 164 99) := yqq_e (yqq_d g450 v554) (funext (fun j => hF536 235 j rfl)) (by omega)
                          refine zt_goto (tgt := 33) hX dX12_qGoesOnTest_46 (by decide) ?_
                          exact ih453 s532 (yPx f p11) hI535 hF538 hT539 hE540 rfl (d553.1) (d553.2) q555 (by omega)
                exact L_33_450 _ s424 (yPx f p11) hI426 hF427 h435.1 h435.2.1 rfl l436 t437 q439 (Nat.lt_succ_self _)
            · refine zt_ifeq (pc' := 23) (tgt := 76) hX dX12_qGoesOnTest_20 rfl (by decide) ⟨by omega, by omega⟩ (fun c556 => ?_) (fun c556 => ?_)
              · refine zt_aload_n (pc' := 77) hX dX12_qGoesOnTest_76 rfl rfl ?_
                refine zt_aload_n (pc' := 78) hX dX12_qGoesOnTest_77 rfl rfl ?_
                refine zt_get (pc' := 81) (v := .ref (X.1.1 + 218)) hX dX12_qGoesOnTest_78 rfl zf_X12_183 (by decide) zc_164 zs_46 (zrf_of (zv_46_80 hI42 zc_164)) ?_
                refine zt_cVz (pc' := 84) hX dX12_qGoesOnTest_81 rfl zm_yX12_takes zw_26_4 zc_164 (by decide) zs_46 (q := (RX12, TX12, 108)) rfl rfl (yc_X12_takes _ _ s39 hI42 218 100 3 zc_218 (by decide) zs_100 (by decide) f hT46 22 (yrow_218 (yWd_2 hWd hF51)) (by decide)) rfl rfl (Nat.le_of_ble_eq_true rfl) (by decide) (fun r557 s558 hr559 hp560 => ?_)
                obtain ⟨hI561, hF562, q563, q564, hT565, z566, z567, z568⟩ := hp560
                have hE569 : yqs f s558 = yPt f 22 p11 := by rw [z566, hE50]
                rw [hE50] at z567
                rw [hE50] at z568
                have hF570 := zOn_tr hF51 hF562 zi_12
                have b571 := zv_46_2 hI561 zc_164
                have b572 := zv_46_5 hI561 zc_164
                have b573 := zv_46_97 hI561 zc_164
                have b574 := zv_46_99 hI561 zc_164
                have b575 := zv_46_100 hI561 zc_164
                have b576 := zv_46_101 hI561 zc_164
                have b577 := zv_46_51 hI561 zc_164
                have e578 := hF562 164 97 rfl
                have e579 := hF562 164 99 rfl
                have e580 := hF562 164 100 rfl
                have e581 := hF562 164 101 rfl
                have e582 := hF562 164 51 rfl
                replace z568 : yIm _ _ := z568
                have o585 : zOn zQ1 _ s558 := hF562
                have l583 := yTl_fr l65 o585
                have t584 := ytp_fr t66 o585
                have q586 : ¬ yqq (s558 235) (s558 164 99) := fun h => q417 (yqq_e h (funext fun j => (o585 235 j rfl).symm) (o585 164 99 rfl).symm)
                rcases yspl z567 with ⟨rfl, c587⟩ | ⟨rfl, c587⟩
                · clear z567
                  have hE588 : yqs f s558 = yPx f p11 := hE569.trans (if_pos c587)
                  have l589 := yTl_ao l583 t584 hT46 hE50 (Or.inl c587)
                  have u590 := yHb1 hE588 l589.1
                  have ad591 := yadv1 hT46 hE50 l65.1 (ykn (Or.inr (Or.inl (by rw [c587]; decide))))
                  have ad592 : yPq (yqs f σ) ≤ yPq p11 := l65.2.2.2.2.2.2.2.2.2
                  refine zt_ifeq (pc' := 87) (tgt := 126) hX dX12_qGoesOnTest_84 rfl (by decide) ⟨by omega, by omega⟩ (fun c593 => ?_) (fun c593 => ?_)
                  · exact absurd c593 (by omega)
                  · have L_87_602 : ∀ (N : Nat) (s594 : zSto) (p597 : yP), zInv s594 → zOn zQ2 σ s594 → yTq f s594 → yqs f s594 = p597 → yTl cb rl f (5, ysk (σ 235) 0 (σ 164 99).toNat, yqs f σ) 4 1 s594 p597 → ytp s594 → yPq (yqs f σ) + 1 ≤ yPq p597 → ((s594 164 99).toNat) < N → zF X s594 87 [some (.ref (X.1.1 + 164))] [] := by
                      intro N
                      induction N with
                      | zero =>
                        intro s594 p597 hI595 hF596 hT598 hE599 g600 g601 g602 hm604
                        exact absurd hm604 (Nat.not_lt_zero _)
                      | succ N ih605 =>
                        intro s594 p597 hI595 hF596 hT598 hE599 g600 g601 g602 hm604
                        have b606 := zv_46_2 hI595 zc_164
                        have b607 := zv_46_5 hI595 zc_164
                        have b608 := zv_46_97 hI595 zc_164
                        have b609 := zv_46_99 hI595 zc_164
                        have b610 := zv_46_100 hI595 zc_164
                        have b611 := zv_46_101 hI595 zc_164
                        have b612 := zv_46_51 hI595 zc_164
                        have q613 := 0
                        · obtain ⟨u614, u615, u616, u617, u618, u619, u620, u621, u622⟩ := yTl_n g600 (by decide) hT598 hE599
                          have u623 := g600.2.2.2.2.2.2.2.2.1
                          refine zt_aload_n (pc' := 88) hX dX12_qGoesOnTest_87 rfl rfl ?_
                          refine zt_bipush (pc' := 90) hX dX12_qGoesOnTest_88 rfl (by decide) (by decide) ?_
                          refine zt_cVz (pc' := 93) hX dX12_qGoesOnTest_90 rfl zm_yX12_qIsOn zw_31_23 zc_164 (by decide) zs_46 (q := (RX12, TX12, 108)) rfl rfl (yc_X12_qIsOn _ _ s594 hI595 10 ⟨by omega, by omega⟩) rfl rfl (Nat.le_of_ble_eq_true rfl) (by decide) (fun r624 s625 hr626 hp627 => ?_)
                          obtain ⟨rfl, q628, q629, z630⟩ := hp627
                          rcases ysps2 z630 with ⟨rfl, c631⟩ | ⟨rfl, c631⟩
                          · clear z630
                            refine zt_ifeq (pc' := 96) (tgt := 103) hX dX12_qGoesOnTest_93 rfl (by decide) ⟨by omega, by omega⟩ (fun c632 => ?_) (fun c632 => ?_)
                            · exact absurd c632 (by omega)
                            · refine zt_aload_n (pc' := 97) hX dX12_qGoesOnTest_96 rfl rfl ?_
                              refine zt_cVv (pc' := 100) hX dX12_qGoesOnTest_97 rfl zm_yX12_qDrops zw_31_4 zc_164 (by decide) zs_46 (q := (RX12, TX12, 108)) rfl rfl (yc_X12_qDrops _ _ s594 hI595 (by omega) (by omega)) rfl rfl (Nat.le_of_ble_eq_true rfl) (by decide) (fun r633 s634 hr635 hp636 => ?_)
                              obtain ⟨hI637, hF638, z639⟩ := hp636
                              have hF640 := zOn_tr hF596 hF638 zi_d2
                              have hT641 := yTq_rk hT598 (yRq_d hF638)
                              have hE642 : yqs f s634 = p597 := (yqs_rk (yRq_d hF638)).trans hE599
                              have b643 := zv_46_2 hI637 zc_164
                              have b644 := zv_46_5 hI637 zc_164
                              have b645 := zv_46_97 hI637 zc_164
                              have b646 := zv_46_99 hI637 zc_164
                              have b647 := zv_46_100 hI637 zc_164
                              have b648 := zv_46_101 hI637 zc_164
                              have b649 := zv_46_51 hI637 zc_164
                              have e650 := hF638 164 2 rfl
                              have e651 := hF638 164 5 rfl
                              have e652 := hF638 164 100 rfl
                              have e653 := hF638 164 101 rfl
                              have e654 := hF638 164 51 rfl
                              have v656 : s594 235 (s594 164 99 - 1).toNat = 10 ∨ s594 235 (s594 164 99 - 1).toNat = 11 := (Or.inl c631.2)
                              have d655 := yTl_d g600 (by omega) hF638 z639 v656
                              refine zt_goto (tgt := 87) hX dX12_qGoesOnTest_100 (by decide) ?_
                              exact ih605 s634 p597 hI637 hF640 hT641 hE642 (d655.1) (d655.2) (by omega) (by omega)
                          · clear z630
                            refine zt_ifeq (pc' := 96) (tgt := 103) hX dX12_qGoesOnTest_93 rfl (by decide) ⟨by omega, by omega⟩ (fun c657 => ?_) (fun c657 => ?_)
                            · refine zt_aload_n (pc' := 104) hX dX12_qGoesOnTest_103 rfl rfl ?_
                              refine zt_get (pc' := 107) (v := .ref (X.1.1 + 235)) hX dX12_qGoesOnTest_104 rfl zf_X12_234 (by decide) zc_164 zs_46 (zrf_of (zv_46_98 hI595 zc_164)) ?_
                              refine zt_aload_n (pc' := 108) hX dX12_qGoesOnTest_107 rfl rfl ?_
                              have b658 := zv_46_99 hI595 zc_164
                              refine zt_get (pc' := 111) (v := .int (zI (s594 164 99))) hX dX12_qGoesOnTest_108 rfl zf_X12_333 (by decide) zc_164 zs_46 rfl ?_
                              refine zt_bipush (pc' := 113) hX dX12_qGoesOnTest_111 rfl (by decide) (by decide) ?_
                              refine zt_iast (pc' := 114) hX dX12_qGoesOnTest_113 rfl (by decide) zc_235 zs_117 (by decide) ⟨by omega, by omega⟩ ?_
                              generalize hs660 : zset s594 235 ((s594 164 99).toNat) 10 = s659
                              have hI661 : zInv s659 := hs660 ▸ zp_117 hI595 zc_235 ((s594 164 99).toNat) ⟨by omega, by omega⟩
                              have hF662 : zOn zQ2 σ s659 := hs660 ▸ zOn_set hF596 (zq2_235 (by omega))
                              have hT663 := yTq_rk hT598 (yRq_set hs660 zc_235 (by decide))
                              have hE664 : yqs f s659 = p597 := (yqs_rk (yRq_set hs660 zc_235 (by decide))).trans hE599
                              have e665 : s659 164 2 = s594 164 2 := by rw [← hs660]; exact zset_k (zne_r zc_164 zc_235 (by decide))
                              have e666 : s659 164 5 = s594 164 5 := by rw [← hs660]; exact zset_k (zne_r zc_164 zc_235 (by decide))
                              have e667 : s659 164 97 = s594 164 97 := by rw [← hs660]; exact zset_k (zne_r zc_164 zc_235 (by decide))
                              have e668 : s659 164 99 = s594 164 99 := by rw [← hs660]; exact zset_k (zne_r zc_164 zc_235 (by decide))
                              have e669 : s659 164 100 = s594 164 100 := by rw [← hs660]; exact zset_k (zne_r zc_164 zc_235 (by decide))
                              have e670 : s659 164 101 = s594 164 101 := by rw [← hs660]; exact zset_k (zne_r zc_164 zc_235 (by decide))
                              have e671 : s659 164 51 = s594 164 51 := by rw [← hs660]; exact zset_k (zne_r zc_164 zc_235 (by decide))
                              refine zt_aload_n (pc' := 115) hX dX12_qGoesOnTest_114 rfl rfl ?_
                              refine zt_dup (pc' := 116) hX dX12_qGoesOnTest_115 rfl rfl ?_
                              have b672 := zv_46_99 hI661 zc_164
                              refine zt_get (pc' := 119) (v := .int (zI (s659 164 99))) hX dX12_qGoesOnTest_116 rfl zf_X12_333 (by decide) zc_164 zs_46 rfl ?_
                              refine zt_iconst (pc' := 120) hX dX12_qGoesOnTest_119 rfl ?_
                              refine zt_iadd (pc' := 121) hX dX12_qGoesOnTest_120 rfl ?_
                              refine zt_put (pc' := 124) (x := ((s659 164 99) + 1)) hX dX12_qGoesOnTest_121 rfl zf_X12_333 (by decide) zc_164 zs_46 (fun q hq => by cases hq; rfl) rfl rfl rfl ?_
                              generalize hs674 : zset s659 164 99 ((s659 164 99) + 1) = s673
                              have hI675 : zInv s673 := hs674 ▸ zp_46_99 hI661 zc_164 ⟨by omega, by omega⟩
                              have hF676 : zOn zQ2 σ s673 := hs674 ▸ zOn_set hF662 (by decide)
                              have e677 : s673 164 2 = s659 164 2 := by rw [← hs674]; exact zset_j (by decide)
                              have e678 : s673 164 5 = s659 164 5 := by rw [← hs674]; exact zset_j (by decide)
                              have e679 : s673 164 97 = s659 164 97 := by rw [← hs674]; exact zset_j (by decide)
                              have e680 : s673 164 99 = ((s659 164 99) + 1) := by rw [← hs674]; exact zset_s
                              have e681 : s673 164 100 = s659 164 100 := by rw [← hs674]; exact zset_j (by decide)
                              have e682 : s673 164 101 = s659 164 101 := by rw [← hs674]; exact zset_j (by decide)
                              have e683 : s673 164 51 = s659 164 51 := by rw [← hs674]; exact zset_j (by decide)
                              have hT684 := yTq_rk hT663 (yRq_j hs674 (by decide))
                              have hE685 : yqs f s673 = p597 := (yqs_rk (yRq_j hs674 (by decide))).trans hE664
                              refine zt_iconst (pc' := 125) hX dX12_qGoesOnTest_124 rfl ?_
                              exact zt_zret hX hR dX12_qGoesOnTest_125 ⟨by omega, by omega⟩ ⟨hI675, hF676, by omega, by omega, hT684, (by rw [hE685]; exact Or.inl ⟨rfl, yTl_p (c := 10) g600 g601 (by decide) hs660 hs674 rfl (by omega) (by omega) (by omega), (show yPq (yqs f σ) + 1 ≤ yPq p597 by omega)⟩), ⟨by omega, by omega, by omega⟩⟩
                            · exact absurd c657 (by omega)
                    exact L_87_602 _ s558 (yPx f p11) hI561 hF570 hT565 hE588 l589 t584 (by omega) (Nat.lt_succ_self _)
                · clear z567
                  have hE686 : yqs f s558 = p11 := hE569.trans (if_neg c587)
                  have u687 := yHb1 hE686 l583.1
                  have u688 := z568 ⟨l583.1, rfl⟩
                  refine zt_ifeq (pc' := 87) (tgt := 126) hX dX12_qGoesOnTest_84 rfl (by decide) ⟨by omega, by omega⟩ (fun c689 => ?_) (fun c689 => ?_)
                  · refine zt_aload_n (pc' := 127) hX dX12_qGoesOnTest_126 rfl rfl ?_
                    refine zt_aload_n (pc' := 128) hX dX12_qGoesOnTest_127 rfl rfl ?_
                    refine zt_get (pc' := 131) (v := .ref (X.1.1 + 219)) hX dX12_qGoesOnTest_128 rfl zf_X12_186 (by decide) zc_164 zs_46 (zrf_of (zv_46_81 hI561 zc_164)) ?_
                    refine zt_cVz (pc' := 134) hX dX12_qGoesOnTest_131 rfl zm_yX12_takes zw_26_4 zc_164 (by decide) zs_46 (q := (RX12, TX12, 108)) rfl rfl (yc_X12_takes _ _ s558 hI561 219 101 2 zc_219 (by decide) zs_101 (by decide) f hT565 21 (yrow_219 (yWd_2 hWd hF570)) (by decide)) rfl rfl (Nat.le_of_ble_eq_true rfl) (by decide) (fun r690 s691 hr692 hp693 => ?_)
                    obtain ⟨hI694, hF695, q696, q697, hT698, z699, z700, z701⟩ := hp693
                    have hE702 : yqs f s691 = yPt f 21 p11 := by rw [z699, hE686]
                    rw [hE686] at z700
                    rw [hE686] at z701
                    have hF703 := zOn_tr hF570 hF695 zi_12
                    have b704 := zv_46_2 hI694 zc_164
                    have b705 := zv_46_5 hI694 zc_164
                    have b706 := zv_46_97 hI694 zc_164
                    have b707 := zv_46_99 hI694 zc_164
                    have b708 := zv_46_100 hI694 zc_164
                    have b709 := zv_46_101 hI694 zc_164
                    have b710 := zv_46_51 hI694 zc_164
                    have e711 := hF695 164 97 rfl
                    have e712 := hF695 164 99 rfl
                    have e713 := hF695 164 100 rfl
                    have e714 := hF695 164 101 rfl
                    have e715 := hF695 164 51 rfl
                    replace z701 : yIm _ _ := z701
                    have o718 : zOn zQ1 _ s691 := hF695
                    have l716 := yTl_fr l583 o718
                    have t717 := ytp_fr t584 o718
                    have q719 : ¬ yqq (s691 235) (s691 164 99) := fun h => q586 (yqq_e h (funext fun j => (o718 235 j rfl).symm) (o718 164 99 rfl).symm)
                    rcases yspl z700 with ⟨rfl, c720⟩ | ⟨rfl, c720⟩
                    · clear z700
                      have hE721 : yqs f s691 = yPx f p11 := hE702.trans (if_pos c720)
                      have l722 := yTl_ao l716 t717 hT565 hE686 (Or.inr c720)
                      have u723 := yHb1 hE721 l722.1
                      have ad724 := yadv1 hT565 hE686 l583.1 (ykn (Or.inr (Or.inl (by rw [c720]; decide))))
                      have ad725 : yPq (yqs f σ) ≤ yPq p11 := l583.2.2.2.2.2.2.2.2.2
                      refine zt_ifeq (pc' := 137) (tgt := 185) hX dX12_qGoesOnTest_134 rfl (by decide) ⟨by omega, by omega⟩ (fun c726 => ?_) (fun c726 => ?_)
                      · exact absurd c726 (by omega)
                      · have L_137_735 : ∀ (N : Nat) (s727 : zSto) (p730 : yP), zInv s727 → zOn zQ2 σ s727 → yTq f s727 → yqs f s727 = p730 → yTl cb rl f (5, ysk (σ 235) 0 (σ 164 99).toNat, yqs f σ) 4 1 s727 p730 → ytp s727 → yPq (yqs f σ) + 1 ≤ yPq p730 → ((s727 164 99).toNat) < N → zF X s727 137 [some (.ref (X.1.1 + 164))] [] := by
                          intro N
                          induction N with
                          | zero =>
                            intro s727 p730 hI728 hF729 hT731 hE732 g733 g734 g735 hm737
                            exact absurd hm737 (Nat.not_lt_zero _)
                          | succ N ih738 =>
                            intro s727 p730 hI728 hF729 hT731 hE732 g733 g734 g735 hm737
                            have b739 := zv_46_2 hI728 zc_164
                            have b740 := zv_46_5 hI728 zc_164
                            have b741 := zv_46_97 hI728 zc_164
                            have b742 := zv_46_99 hI728 zc_164
                            have b743 := zv_46_100 hI728 zc_164
                            have b744 := zv_46_101 hI728 zc_164
                            have b745 := zv_46_51 hI728 zc_164
                            have q746 := 0
                            · obtain ⟨u747, u748, u749, u750, u751, u752, u753, u754, u755⟩ := yTl_n g733 (by decide) hT731 hE732
                              have u756 := g733.2.2.2.2.2.2.2.2.1
                              refine zt_aload_n (pc' := 138) hX dX12_qGoesOnTest_137 rfl rfl ?_
                              refine zt_bipush (pc' := 140) hX dX12_qGoesOnTest_138 rfl (by decide) (by decide) ?_
                              refine zt_cVz (pc' := 143) hX dX12_qGoesOnTest_140 rfl zm_yX12_qIsOn zw_31_23 zc_164 (by decide) zs_46 (q := (RX12, TX12, 108)) rfl rfl (yc_X12_qIsOn _ _ s727 hI728 10 ⟨by omega, by omega⟩) rfl rfl (Nat.le_of_ble_eq_true rfl) (by decide) (fun r757 s758 hr759 hp760 => ?_)
                              obtain ⟨rfl, q761, q762, z763⟩ := hp760
                              rcases ysps2 z763 with ⟨rfl, c764⟩ | ⟨rfl, c764⟩
                              · clear z763
                                refine zt_ifne (pc' := 146) (tgt := 155) hX dX12_qGoesOnTest_143 rfl (by decide) ⟨by omega, by omega⟩ (fun c765 => ?_) (fun c765 => ?_)
                                · refine zt_aload_n (pc' := 156) hX dX12_qGoesOnTest_155 rfl rfl ?_
                                  refine zt_cVv (pc' := 159) hX dX12_qGoesOnTest_156 rfl zm_yX12_qDrops zw_31_4 zc_164 (by decide) zs_46 (q := (RX12, TX12, 108)) rfl rfl (yc_X12_qDrops _ _ s727 hI728 (by omega) (by omega)) rfl rfl (Nat.le_of_ble_eq_true rfl) (by decide) (fun r766 s767 hr768 hp769 => ?_)
                                  obtain ⟨hI770, hF771, z772⟩ := hp769
                                  have hF773 := zOn_tr hF729 hF771 zi_d2
                                  have hT774 := yTq_rk hT731 (yRq_d hF771)
                                  have hE775 : yqs f s767 = p730 := (yqs_rk (yRq_d hF771)).trans hE732
                                  have b776 := zv_46_2 hI770 zc_164
                                  have b777 := zv_46_5 hI770 zc_164
                                  have b778 := zv_46_97 hI770 zc_164
                                  have b779 := zv_46_99 hI770 zc_164
                                  have b780 := zv_46_100 hI770 zc_164
                                  have b781 := zv_46_101 hI770 zc_164
                                  have b782 := zv_46_51 hI770 zc_164
                                  have e783 := hF771 164 2 rfl
                                  have e784 := hF771 164 5 rfl
                                  have e785 := hF771 164 100 rfl
                                  have e786 := hF771 164 101 rfl
                                  have e787 := hF771 164 51 rfl
                                  have v789 : s727 235 (s727 164 99 - 1).toNat = 10 ∨ s727 235 (s727 164 99 - 1).toNat = 11 := (Or.inl c764.2)
                                  have d788 := yTl_d g733 (by omega) hF771 z772 v789
                                  refine zt_goto (tgt := 137) hX dX12_qGoesOnTest_159 (by decide) ?_
                                  exact ih738 s767 p730 hI770 hF773 hT774 hE775 (d788.1) (d788.2) (by omega) (by omega)
                                · exact absurd c765 (by omega)
                              · clear z763
                                refine zt_ifne (pc' := 146) (tgt := 155) hX dX12_qGoesOnTest_143 rfl (by decide) ⟨by omega, by omega⟩ (fun c790 => ?_) (fun c790 => ?_)
                                · exact absurd c790 (by omega)
                                · refine zt_aload_n (pc' := 147) hX dX12_qGoesOnTest_146 rfl rfl ?_
                                  refine zt_bipush (pc' := 149) hX dX12_qGoesOnTest_147 rfl (by decide) (by decide) ?_
                                  refine zt_cVz (pc' := 152) hX dX12_qGoesOnTest_149 rfl zm_yX12_qIsOn zw_31_23 zc_164 (by decide) zs_46 (q := (RX12, TX12, 108)) rfl rfl (yc_X12_qIsOn _ _ s727 hI728 11 ⟨by omega, by omega⟩) rfl rfl (Nat.le_of_ble_eq_true rfl) (by decide) (fun r791 s792 hr793 hp794 => ?_)
                                  obtain ⟨rfl, q795, q796, z797⟩ := hp794
                                  rcases ysps2 z797 with ⟨rfl, c798⟩ | ⟨rfl, c798⟩
                                  · clear z797
                                    refine zt_ifeq (pc' := 155) (tgt := 162) hX dX12_qGoesOnTest_152 rfl (by decide) ⟨by omega, by omega⟩ (fun c799 => ?_) (fun c799 => ?_)
                                    · exact absurd c799 (by omega)
                                    · refine zt_aload_n (pc' := 156) hX dX12_qGoesOnTest_155 rfl rfl ?_
                                      refine zt_cVv (pc' := 159) hX dX12_qGoesOnTest_156 rfl zm_yX12_qDrops zw_31_4 zc_164 (by decide) zs_46 (q := (RX12, TX12, 108)) rfl rfl (yc_X12_qDrops _ _ s727 hI728 (by omega) (by omega)) rfl rfl (Nat.le_of_ble_eq_true rfl) (by decide) (fun r800 s801 hr802 hp803 => ?_)
                                      obtain ⟨hI804, hF805, z806⟩ := hp803
                                      have hF807 := zOn_tr hF729 hF805 zi_d2
                                      have hT808 := yTq_rk hT731 (yRq_d hF805)
                                      have hE809 : yqs f s801 = p730 := (yqs_rk (yRq_d hF805)).trans hE732
                                      have b810 := zv_46_2 hI804 zc_164
                                      have b811 := zv_46_5 hI804 zc_164
                                      have b812 := zv_46_97 hI804 zc_164
                                      have b813 := zv_46_99 hI804 zc_164
                                      have b814 := zv_46_100 hI804 zc_164
                                      have b815 := zv_46_101 hI804 zc_164
                                      have b816 := zv_46_51 hI804 zc_164
                                      have e817 := hF805 164 2 rfl
                                      have e818 := hF805 164 5 rfl
                                      have e819 := hF805 164 100 rfl
                                      have e820 := hF805 164 101 rfl
                                      have e821 := hF805 164 51 rfl
                                      have v823 : s727 235 (s727 164 99 - 1).toNat = 10 ∨ s727 235 (s727 164 99 - 1).toNat = 11 := (Or.inr c798.2)
                                      have d822 := yTl_d g733 (by omega) hF805 z806 v823
                                      refine zt_goto (tgt := 137) hX dX12_qGoesOnTest_159 (by decide) ?_
                                      exact ih738 s801 p730 hI804 hF807 hT808 hE809 (d822.1) (d822.2) (by omega) (by omega)
                                  · clear z797
                                    refine zt_ifeq (pc' := 155) (tgt := 162) hX dX12_qGoesOnTest_152 rfl (by decide) ⟨by omega, by omega⟩ (fun c824 => ?_) (fun c824 => ?_)
                                    · refine zt_aload_n (pc' := 163) hX dX12_qGoesOnTest_162 rfl rfl ?_
                                      refine zt_get (pc' := 166) (v := .ref (X.1.1 + 235)) hX dX12_qGoesOnTest_163 rfl zf_X12_234 (by decide) zc_164 zs_46 (zrf_of (zv_46_98 hI728 zc_164)) ?_
                                      refine zt_aload_n (pc' := 167) hX dX12_qGoesOnTest_166 rfl rfl ?_
                                      have b825 := zv_46_99 hI728 zc_164
                                      refine zt_get (pc' := 170) (v := .int (zI (s727 164 99))) hX dX12_qGoesOnTest_167 rfl zf_X12_333 (by decide) zc_164 zs_46 rfl ?_
                                      refine zt_bipush (pc' := 172) hX dX12_qGoesOnTest_170 rfl (by decide) (by decide) ?_
                                      refine zt_iast (pc' := 173) hX dX12_qGoesOnTest_172 rfl (by decide) zc_235 zs_117 (by decide) ⟨by omega, by omega⟩ ?_
                                      generalize hs827 : zset s727 235 ((s727 164 99).toNat) 11 = s826
                                      have hI828 : zInv s826 := hs827 ▸ zp_117 hI728 zc_235 ((s727 164 99).toNat) ⟨by omega, by omega⟩
                                      have hF829 : zOn zQ2 σ s826 := hs827 ▸ zOn_set hF729 (zq2_235 (by omega))
                                      have hT830 := yTq_rk hT731 (yRq_set hs827 zc_235 (by decide))
                                      have hE831 : yqs f s826 = p730 := (yqs_rk (yRq_set hs827 zc_235 (by decide))).trans hE732
                                      have e832 : s826 164 2 = s727 164 2 := by rw [← hs827]; exact zset_k (zne_r zc_164 zc_235 (by decide))
                                      have e833 : s826 164 5 = s727 164 5 := by rw [← hs827]; exact zset_k (zne_r zc_164 zc_235 (by decide))
                                      have e834 : s826 164 97 = s727 164 97 := by rw [← hs827]; exact zset_k (zne_r zc_164 zc_235 (by decide))
                                      have e835 : s826 164 99 = s727 164 99 := by rw [← hs827]; exact zset_k (zne_r zc_164 zc_235 (by decide))
                                      have e836 : s826 164 100 = s727 164 100 := by rw [← hs827]; exact zset_k (zne_r zc_164 zc_235 (by decide))
                                      have e837 : s826 164 101 = s727 164 101 := by rw [← hs827]; exact zset_k (zne_r zc_164 zc_235 (by decide))
                                      have e838 : s826 164 51 = s727 164 51 := by rw [← hs827]; exact zset_k (zne_r zc_164 zc_235 (by decide))
                                      refine zt_aload_n (pc' := 174) hX dX12_qGoesOnTest_173 rfl rfl ?_
                                      refine zt_dup (pc' := 175) hX dX12_qGoesOnTest_174 rfl rfl ?_
                                      have b839 := zv_46_99 hI828 zc_164
                                      refine zt_get (pc' := 178) (v := .int (zI (s826 164 99))) hX dX12_qGoesOnTest_175 rfl zf_X12_333 (by decide) zc_164 zs_46 rfl ?_
                                      refine zt_iconst (pc' := 179) hX dX12_qGoesOnTest_178 rfl ?_
                                      refine zt_iadd (pc' := 180) hX dX12_qGoesOnTest_179 rfl ?_
                                      refine zt_put (pc' := 183) (x := ((s826 164 99) + 1)) hX dX12_qGoesOnTest_180 rfl zf_X12_333 (by decide) zc_164 zs_46 (fun q hq => by cases hq; rfl) rfl rfl rfl ?_
                                      generalize hs841 : zset s826 164 99 ((s826 164 99) + 1) = s840
                                      have hI842 : zInv s840 := hs841 ▸ zp_46_99 hI828 zc_164 ⟨by omega, by omega⟩
                                      have hF843 : zOn zQ2 σ s840 := hs841 ▸ zOn_set hF829 (by decide)
                                      have e844 : s840 164 2 = s826 164 2 := by rw [← hs841]; exact zset_j (by decide)
                                      have e845 : s840 164 5 = s826 164 5 := by rw [← hs841]; exact zset_j (by decide)
                                      have e846 : s840 164 97 = s826 164 97 := by rw [← hs841]; exact zset_j (by decide)
                                      have e847 : s840 164 99 = ((s826 164 99) + 1) := by rw [← hs841]; exact zset_s
                                      have e848 : s840 164 100 = s826 164 100 := by rw [← hs841]; exact zset_j (by decide)
                                      have e849 : s840 164 101 = s826 164 101 := by rw [← hs841]; exact zset_j (by decide)
                                      have e850 : s840 164 51 = s826 164 51 := by rw [← hs841]; exact zset_j (by decide)
                                      have hT851 := yTq_rk hT830 (yRq_j hs841 (by decide))
                                      have hE852 : yqs f s840 = p730 := (yqs_rk (yRq_j hs841 (by decide))).trans hE831
                                      refine zt_iconst (pc' := 184) hX dX12_qGoesOnTest_183 rfl ?_
                                      exact zt_zret hX hR dX12_qGoesOnTest_184 ⟨by omega, by omega⟩ ⟨hI842, hF843, by omega, by omega, hT851, (by rw [hE852]; exact Or.inl ⟨rfl, yTl_p (c := 11) g733 g734 (by decide) hs827 hs841 rfl (by omega) (by omega) (by omega), (show yPq (yqs f σ) + 1 ≤ yPq p730 by omega)⟩), ⟨by omega, by omega, by omega⟩⟩
                                    · exact absurd c824 (by omega)
                        exact L_137_735 _ s691 (yPx f p11) hI694 hF703 hT698 hE721 l722 t717 (by omega) (Nat.lt_succ_self _)
                    · clear z700
                      have hE853 : yqs f s691 = p11 := hE702.trans (if_neg c720)
                      have u854 := yHb1 hE853 l716.1
                      have u855 := z701 ⟨l716.1, rfl⟩
                      refine zt_ifeq (pc' := 137) (tgt := 185) hX dX12_qGoesOnTest_134 rfl (by decide) ⟨by omega, by omega⟩ (fun c856 => ?_) (fun c856 => ?_)
                      · refine zt_aload_n (pc' := 186) hX dX12_qGoesOnTest_185 rfl rfl ?_
                        have b857 := zv_46_5 hI694 zc_164
                        refine zt_get (pc' := 189) (v := .int (zI (s691 164 5))) hX dX12_qGoesOnTest_186 rfl zf_X12_246 (by decide) zc_164 zs_46 rfl ?_
                        refine zt_ifne (pc' := 192) (tgt := 208) hX dX12_qGoesOnTest_189 rfl (by decide) ⟨by omega, by omega⟩ (fun c858 => ?_) (fun c858 => ?_)
                        · exact absurd c858 (by omega)
                        · refine zt_aload_n (pc' := 193) hX dX12_qGoesOnTest_192 rfl rfl ?_
                          refine zt_cVz (pc' := 196) hX dX12_qGoesOnTest_193 rfl zm_yX12_qHasSquare zw_32_11 zc_164 (by decide) zs_46 (q := (RX12, TX12, 108)) rfl rfl (yc_X12_qHasSquare _ _ s691 hI694 ) rfl rfl (Nat.le_of_ble_eq_true rfl) (by decide) (fun r859 s860 hr861 hp862 => ?_)
                          obtain ⟨rfl, q863, q864, z865⟩ := hp862
                          rcases ysqq z865 with ⟨rfl, q868⟩ | ⟨rfl, q868⟩
                          · refine zt_ifeq (pc' := 199) (tgt := 208) hX dX12_qGoesOnTest_196 rfl (by decide) ⟨by omega, by omega⟩ (fun c869 => ?_) (fun c869 => ?_)
                            · exact absurd c869 (by omega)
                            · refine zt_aload_n (pc' := 200) hX dX12_qGoesOnTest_199 rfl rfl ?_
                              refine zt_iconst (pc' := 201) hX dX12_qGoesOnTest_200 rfl ?_
                              refine zt_aload_n (pc' := 202) hX dX12_qGoesOnTest_201 rfl rfl ?_
                              have b870 := zv_46_2 hI694 zc_164
                              refine zt_get (pc' := 205) (v := .int (zI (s691 164 2))) hX dX12_qGoesOnTest_202 rfl zf_X12_252 (by decide) zc_164 zs_46 rfl ?_
                              refine zt_cVv (pc' := 208) hX dX12_qGoesOnTest_205 rfl zm_yX12_fail zw_26_19 zc_164 (by decide) zs_46 (q := (RX12, TX12, 108)) rfl rfl (yc_X12_fail _ _ s691 hI694 1 ⟨by omega, by omega⟩ (s691 164 2) ⟨by omega, by omega⟩ f (yTq_w hT698)) rfl rfl (Nat.le_of_ble_eq_true rfl) (by decide) (fun r871 s872 hr873 hp874 => ?_)
                              obtain ⟨hI875, hF876, hT877, z878, z879⟩ := hp874
                              have hE880 : yqs f s872 = yPno 1 (s691 164 2) p11 := by rw [z878, hE853]
                              have hF881 := zOn_tr hF703 hF876 zi_12
                              have b882 := zv_46_2 hI875 zc_164
                              have b883 := zv_46_5 hI875 zc_164
                              have b884 := zv_46_97 hI875 zc_164
                              have b885 := zv_46_99 hI875 zc_164
                              have b886 := zv_46_100 hI875 zc_164
                              have b887 := zv_46_101 hI875 zc_164
                              have b888 := zv_46_51 hI875 zc_164
                              have e889 := hF876 164 97 rfl
                              have e890 := hF876 164 99 rfl
                              have e891 := hF876 164 100 rfl
                              have e892 := hF876 164 101 rfl
                              have e893 := hF876 164 51 rfl
                              refine zt_iconst (pc' := 209) hX dX12_qGoesOnTest_208 rfl ?_
                              exact zt_zret hX hR dX12_qGoesOnTest_209 ⟨by omega, by omega⟩ ⟨hI875, hF881, by omega, by omega, hT877, (by rw [hE880]; exact (absurd q868 q719)), ⟨by omega, by omega, by omega⟩⟩
                          · refine zt_ifeq (pc' := 199) (tgt := 208) hX dX12_qGoesOnTest_196 rfl (by decide) ⟨by omega, by omega⟩ (fun c894 => ?_) (fun c894 => ?_)
                            · refine zt_iconst (pc' := 209) hX dX12_qGoesOnTest_208 rfl ?_
                              exact zt_zret hX hR dX12_qGoesOnTest_209 ⟨by omega, by omega⟩ ⟨hI694, hF703, by omega, by omega, hT698, (by rw [hE853]; exact yGt_e l716 t717 ⟨c587, c720⟩ q868), ⟨by omega, by omega, by omega⟩⟩
                            · exact absurd c894 (by omega)
                      · exact absurd c856 (by omega)
                  · exact absurd c689 (by omega)
              · exact absurd c556 (by omega)
  exact L_0_15 _ σ (yqs f σ) hI hF hT hE0 hl ht (Nat.lt_succ_self _)
