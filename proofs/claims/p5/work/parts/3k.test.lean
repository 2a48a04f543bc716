set_option maxRecDepth 100000 in
set_option maxHeartbeats 1000000 in
theorem zc_X12_qGoesOnTest (l : Launch) (E : zEN) (σ : zSto) (hI : zInv σ) (hpre0 : σ 164 5 = 0) (hpre1 : σ 164 2 ≤ σ 164 3) (hpre2 : σ 164 97 + σ 164 99 ≤ σ 164 2) (hpre3 : zt σ = 1) (hpre4 : zBt σ + 1 ≤ zHt σ) : zCt l E yX12_qGoesOnTest cX12_qGoesOnTest 1 (some .boolean) 3 zNC zNC 0 0 σ [.ref (E.1 + 164)] (fun r σ' => zInv σ' ∧ zOn zQ2 σ σ' ∧ 0 ≤ r ∧ r ≤ 1 ∧ (σ' 164 2 ≤ σ 164 3) ∧ (σ 164 2 ≤ σ' 164 2) ∧ (σ' 164 101 = σ 164 101) ∧ (σ' 164 97 + σ' 164 99 + σ 164 2 ≤ σ 164 97 + σ 164 99 + σ' 164 2) ∧ (r = 1 → σ' 164 5 = 0) ∧ (σ' 164 5 = 0 → zt σ' = 1 ∧ zHt σ' - zBt σ' + r = zHt σ - zBt σ) ∧ (σ' 164 5 = 0 → r = 0 → zsq σ' = 0)) := by
  refine zCt_of2 [some (.ref (E.1 + 164))] (by decide +kernel) (Nat.le_of_ble_eq_true rfl) rfl ?_
  intro X hE hX hR hL hN
  subst hE
  have hX : zok X cX12_qGoesOnTest RX12 3 := hX
  have hF := zOn_rf zQ2 σ
  have b1 := zv_46_2 hI zc_164
  have b2 := zv_46_3 hI zc_164
  have b3 := zv_46_5 hI zc_164
  have b4 := zv_46_97 hI zc_164
  have b5 := zv_46_99 hI zc_164
  have b6 := zv_46_101 hI zc_164
  have L_0_15 : ∀ (N : Nat) (s7 : zSto), zInv s7 → zOn zQ2 σ s7 → (σ 164 2 ≤ s7 164 2 ∧ s7 164 2 ≤ σ 164 3) → s7 164 3 = σ 164 3 → s7 164 101 = σ 164 101 → s7 164 5 = 0 → s7 164 97 + s7 164 99 + σ 164 2 ≤ σ 164 97 + σ 164 99 + s7 164 2 → (zt s7 = 1 ∧ zHt s7 - zBt s7 = zHt σ - zBt σ) → ((1601 - s7 164 2).toNat) < N → zF X s7 0 [some (.ref (X.1.1 + 164))] [] := by
    intro N
    induction N with
    | zero =>
      intro s7 hI8 hF9 g10 g11 g12 g13 g14 g15 hm17
      exact absurd hm17 (Nat.not_lt_zero _)
    | succ N ih18 =>
      intro s7 hI8 hF9 g10 g11 g12 g13 g14 g15 hm17
      have b19 := zv_46_2 hI8 zc_164
      have b20 := zv_46_3 hI8 zc_164
      have b21 := zv_46_5 hI8 zc_164
      have b22 := zv_46_97 hI8 zc_164
      have b23 := zv_46_99 hI8 zc_164
      have b24 := zv_46_101 hI8 zc_164
      refine zt_aload_n (pc' := 1) hX dX12_qGoesOnTest_0 rfl rfl ?_
      have b25 := zv_46_5 hI8 zc_164
      refine zt_get (pc' := 4) (v := .int (zI (s7 164 5))) hX dX12_qGoesOnTest_1 rfl zf_X12_246 (by decide) zc_164 zs_46 rfl ?_
      have J_76_34 : ∀ (s26 : zSto), zInv s26 → zOn zQ2 σ s26 → (σ 164 2 ≤ s26 164 2 ∧ s26 164 2 ≤ σ 164 3) → s26 164 3 = σ 164 3 → s26 164 101 = σ 164 101 → s26 164 5 = 0 → s26 164 97 + s26 164 99 + σ 164 2 ≤ σ 164 97 + σ 164 99 + s26 164 2 → (zt s26 = 1 ∧ zHt s26 - zBt s26 = zHt σ - zBt σ) → zF X s26 76 [some (.ref (X.1.1 + 164))] [] := by
        intro s26 hI27 hF28 g29 g30 g31 g32 g33 g34
        have b36 := zv_46_2 hI27 zc_164
        have b37 := zv_46_3 hI27 zc_164
        have b38 := zv_46_5 hI27 zc_164
        have b39 := zv_46_97 hI27 zc_164
        have b40 := zv_46_99 hI27 zc_164
        have b41 := zv_46_101 hI27 zc_164
        refine zt_aload_n (pc' := 77) hX dX12_qGoesOnTest_76 rfl rfl ?_
        refine zt_aload_n (pc' := 78) hX dX12_qGoesOnTest_77 rfl rfl ?_
        refine zt_get (pc' := 81) (v := .ref (X.1.1 + 218)) hX dX12_qGoesOnTest_78 rfl zf_X12_183 (by decide) zc_164 zs_46 (zrf_of (zv_46_80 hI27 zc_164)) ?_
        refine zt_cVz (pc' := 84) hX dX12_qGoesOnTest_81 rfl zm_yX12_takes zw_26_4 zc_164 (by decide) zs_46 (q := (RX12, TX12, 108)) rfl rfl (zc_X12_takes _ _ s26 hI27 218 100 3 zc_218 (by decide) zs_100 (by decide)) rfl rfl (Nat.le_of_ble_eq_true rfl) (by decide) (fun r42 s43 hr44 hp45 => ?_)
        obtain ⟨hI46, hF47, q48, q49, z50, z51, z52⟩ := hp45
        obtain ⟨-, w54, w55, w56, -, -, w59, -⟩ := zE_q1 hF47
        have e61 := hF47 164 3 rfl
        have e62 := hF47 164 97 rfl
        have e63 := hF47 164 99 rfl
        have e64 := hF47 164 101 rfl
        have hF65 := zOn_tr hF28 hF47 zi_12
        have b66 := zv_46_2 hI46 zc_164
        have b67 := zv_46_3 hI46 zc_164
        have b68 := zv_46_5 hI46 zc_164
        have b69 := zv_46_97 hI46 zc_164
        have b70 := zv_46_99 hI46 zc_164
        have b71 := zv_46_101 hI46 zc_164
        replace z50 : _ ∧ _ := ⟨z50.1, z50.2 (by omega)⟩
        refine zt_ifeq (pc' := 87) (tgt := 126) hX dX12_qGoesOnTest_84 rfl (by decide) ⟨by omega, by omega⟩ (fun c72 => ?_) (fun c72 => ?_)
        · clear z51
          refine zt_aload_n (pc' := 127) hX dX12_qGoesOnTest_126 rfl rfl ?_
          refine zt_aload_n (pc' := 128) hX dX12_qGoesOnTest_127 rfl rfl ?_
          refine zt_get (pc' := 131) (v := .ref (X.1.1 + 219)) hX dX12_qGoesOnTest_128 rfl zf_X12_186 (by decide) zc_164 zs_46 (zrf_of (zv_46_81 hI46 zc_164)) ?_
          refine zt_cVz (pc' := 134) hX dX12_qGoesOnTest_131 rfl zm_yX12_takes zw_26_4 zc_164 (by decide) zs_46 (q := (RX12, TX12, 108)) rfl rfl (zc_X12_takes _ _ s43 hI46 219 101 2 zc_219 (by decide) zs_101 (by decide)) rfl rfl (Nat.le_of_ble_eq_true rfl) (by decide) (fun r73 s74 hr75 hp76 => ?_)
          obtain ⟨hI77, hF78, q79, q80, z81, z82, z83⟩ := hp76
          obtain ⟨-, w85, w86, w87, -, -, w90, -⟩ := zE_q1 hF78
          have e92 := hF78 164 3 rfl
          have e93 := hF78 164 97 rfl
          have e94 := hF78 164 99 rfl
          have e95 := hF78 164 101 rfl
          have hF96 := zOn_tr hF65 hF78 zi_12
          have b97 := zv_46_2 hI77 zc_164
          have b98 := zv_46_3 hI77 zc_164
          have b99 := zv_46_5 hI77 zc_164
          have b100 := zv_46_97 hI77 zc_164
          have b101 := zv_46_99 hI77 zc_164
          have b102 := zv_46_101 hI77 zc_164
          replace z81 : _ ∧ _ := ⟨z81.1, z81.2 (by omega)⟩
          refine zt_ifeq (pc' := 137) (tgt := 185) hX dX12_qGoesOnTest_134 rfl (by decide) ⟨by omega, by omega⟩ (fun c103 => ?_) (fun c103 => ?_)
          · clear z82
            refine zt_aload_n (pc' := 186) hX dX12_qGoesOnTest_185 rfl rfl ?_
            have b104 := zv_46_5 hI77 zc_164
            refine zt_get (pc' := 189) (v := .int (zI (s74 164 5))) hX dX12_qGoesOnTest_186 rfl zf_X12_246 (by decide) zc_164 zs_46 rfl ?_
            refine zt_ifne (pc' := 192) (tgt := 208) hX dX12_qGoesOnTest_189 rfl (by decide) ⟨by omega, by omega⟩ (fun c105 => ?_) (fun c105 => ?_)
            · refine zt_iconst (pc' := 209) hX dX12_qGoesOnTest_208 rfl ?_
              exact zt_zret hX hR dX12_qGoesOnTest_209 ⟨by omega, by omega⟩ ⟨hI77, hF96, by omega, by omega, by omega, by omega, by omega, by omega, by omega, (fun hb => by omega), (fun hb => by omega)⟩
            · refine zt_aload_n (pc' := 193) hX dX12_qGoesOnTest_192 rfl rfl ?_
              refine zt_cVz (pc' := 196) hX dX12_qGoesOnTest_193 rfl zm_yX12_qHasSquare zw_32_11 zc_164 (by decide) zs_46 (q := (RX12, TX12, 108)) rfl rfl (zc_X12_qHasSquare _ _ s74 hI77 ) rfl rfl (Nat.le_of_ble_eq_true rfl) (by decide) (fun r106 s107 hr108 hp109 => ?_)
              obtain ⟨rfl, q110, q111, z112⟩ := hp109
              refine zt_ifeq (pc' := 199) (tgt := 208) hX dX12_qGoesOnTest_196 rfl (by decide) ⟨by omega, by omega⟩ (fun c113 => ?_) (fun c113 => ?_)
              · refine zt_iconst (pc' := 209) hX dX12_qGoesOnTest_208 rfl ?_
                exact zt_zret hX hR dX12_qGoesOnTest_209 ⟨by omega, by omega⟩ ⟨hI77, hF96, by omega, by omega, by omega, by omega, by omega, by omega, by omega, (fun hb => by omega), (fun hb => by omega)⟩
              · refine zt_aload_n (pc' := 200) hX dX12_qGoesOnTest_199 rfl rfl ?_
                refine zt_iconst (pc' := 201) hX dX12_qGoesOnTest_200 rfl ?_
                refine zt_aload_n (pc' := 202) hX dX12_qGoesOnTest_201 rfl rfl ?_
                have b114 := zv_46_2 hI77 zc_164
                refine zt_get (pc' := 205) (v := .int (zI (s74 164 2))) hX dX12_qGoesOnTest_202 rfl zf_X12_252 (by decide) zc_164 zs_46 rfl ?_
                refine zt_cVv (pc' := 208) hX dX12_qGoesOnTest_205 rfl zm_yX12_fail zw_26_19 zc_164 (by decide) zs_46 (q := (RX12, TX12, 108)) rfl rfl (zc_X12_fail _ _ s74 hI77 1 ⟨by omega, by omega⟩ (s74 164 2) ⟨by omega, by omega⟩) rfl rfl (Nat.le_of_ble_eq_true rfl) (by decide) (fun r115 s116 hr117 hp118 => ?_)
                obtain ⟨hI119, hF120, z121, z122⟩ := hp118
                obtain ⟨-, w124, w125, w126, -, -, w129, -⟩ := zE_q1 hF120
                have e131 := hF120 164 3 rfl
                have e132 := hF120 164 97 rfl
                have e133 := hF120 164 99 rfl
                have e134 := hF120 164 101 rfl
                have hF135 := zOn_tr hF96 hF120 zi_12
                have b136 := zv_46_2 hI119 zc_164
                have b137 := zv_46_3 hI119 zc_164
                have b138 := zv_46_5 hI119 zc_164
                have b139 := zv_46_97 hI119 zc_164
                have b140 := zv_46_99 hI119 zc_164
                have b141 := zv_46_101 hI119 zc_164
                refine zt_iconst (pc' := 209) hX dX12_qGoesOnTest_208 rfl ?_
                exact zt_zret hX hR dX12_qGoesOnTest_209 ⟨by omega, by omega⟩ ⟨hI119, hF135, by omega, by omega, by omega, by omega, by omega, by omega, by omega, (fun hb => by omega), (fun hb => by omega)⟩
          · have qz82 := z82 (by omega)
            clear z82
            have L_137_151 : ∀ (N : Nat) (s142 : zSto), zInv s142 → zOn zQ2 σ s142 → s142 164 97 + s142 164 99 + σ 164 2 + 1 ≤ σ 164 97 + σ 164 99 + s142 164 2 → (σ 164 2 ≤ s142 164 2 ∧ s142 164 2 ≤ σ 164 3) → s142 164 3 = σ 164 3 → s142 164 101 = σ 164 101 → s142 164 5 = 0 → s142 164 97 + s142 164 99 + σ 164 2 ≤ σ 164 97 + σ 164 99 + s142 164 2 → (zt s142 = 1 ∧ zHt s142 - zBt s142 = zHt σ - zBt σ) → ((s142 164 99).toNat) < N → zF X s142 137 [some (.ref (X.1.1 + 164))] [] := by
              intro N
              induction N with
              | zero =>
                intro s142 hI143 hF144 g145 g146 g147 g148 g149 g150 g151 hm153
                exact absurd hm153 (Nat.not_lt_zero _)
              | succ N ih154 =>
                intro s142 hI143 hF144 g145 g146 g147 g148 g149 g150 g151 hm153
                have b155 := zv_46_2 hI143 zc_164
                have b156 := zv_46_3 hI143 zc_164
                have b157 := zv_46_5 hI143 zc_164
                have b158 := zv_46_97 hI143 zc_164
                have b159 := zv_46_99 hI143 zc_164
                have b160 := zv_46_101 hI143 zc_164
                refine zt_aload_n (pc' := 138) hX dX12_qGoesOnTest_137 rfl rfl ?_
                refine zt_bipush (pc' := 140) hX dX12_qGoesOnTest_138 rfl (by decide) (by decide) ?_
                refine zt_cVz (pc' := 143) hX dX12_qGoesOnTest_140 rfl zm_yX12_qIsOn zw_31_23 zc_164 (by decide) zs_46 (q := (RX12, TX12, 108)) rfl rfl (zc_X12_qIsOn _ _ s142 hI143 10 ⟨by omega, by omega⟩) rfl rfl (Nat.le_of_ble_eq_true rfl) (by decide) (fun r161 s162 hr163 hp164 => ?_)
                obtain ⟨rfl, q165, q166, z167, z168⟩ := hp164
                have J_155_169 : (1 ≤ s142 164 99 ∧ 10 ≤ s142 235 (s142 164 99 - 1).toNat ∧ s142 235 (s142 164 99 - 1).toNat ≤ 11) → zF X s142 155 [some (.ref (X.1.1 + 164))] [] := by
                  intro g169
                  refine zt_aload_n (pc' := 156) hX dX12_qGoesOnTest_155 rfl rfl ?_
                  refine zt_cVv (pc' := 159) hX dX12_qGoesOnTest_156 rfl zm_yX12_qDrops zw_31_4 zc_164 (by decide) zs_46 (q := (RX12, TX12, 108)) rfl rfl (zc_X12_qDrops_T _ _ s142 hI143 (by omega) (by omega) (by omega) (by omega) (by omega)) rfl rfl (Nat.le_of_ble_eq_true rfl) (by decide) (fun r171 s172 hr173 hp174 => ?_)
                  obtain ⟨hI175, hF176, z177, z178⟩ := hp174
                  have e179 := hF176 164 2 rfl
                  have e180 := hF176 164 3 rfl
                  have e181 := hF176 164 5 rfl
                  have e182 := hF176 164 101 rfl
                  have hF183 := zOn_tr hF144 hF176 zi_52
                  have b184 := zv_46_2 hI175 zc_164
                  have b185 := zv_46_3 hI175 zc_164
                  have b186 := zv_46_5 hI175 zc_164
                  have b187 := zv_46_97 hI175 zc_164
                  have b188 := zv_46_99 hI175 zc_164
                  have b189 := zv_46_101 hI175 zc_164
                  refine zt_goto (tgt := 137) hX dX12_qGoesOnTest_159 (by decide) ?_
                  exact ih154 s172 hI175 hF183 (by omega) (by omega) (by omega) (by omega) (by omega) (by omega) (by omega) (by omega)
                refine zt_ifne (pc' := 146) (tgt := 155) hX dX12_qGoesOnTest_143 rfl (by decide) ⟨by omega, by omega⟩ (fun c190 => ?_) (fun c190 => ?_)
                · have qz167 := z167 (by omega)
                  clear z167
                  clear z168
                  exact J_155_169 (by omega)
                · clear z167
                  have qz168 := z168 (by omega)
                  clear z168
                  refine zt_aload_n (pc' := 147) hX dX12_qGoesOnTest_146 rfl rfl ?_
                  refine zt_bipush (pc' := 149) hX dX12_qGoesOnTest_147 rfl (by decide) (by decide) ?_
                  refine zt_cVz (pc' := 152) hX dX12_qGoesOnTest_149 rfl zm_yX12_qIsOn zw_31_23 zc_164 (by decide) zs_46 (q := (RX12, TX12, 108)) rfl rfl (zc_X12_qIsOn _ _ s142 hI143 11 ⟨by omega, by omega⟩) rfl rfl (Nat.le_of_ble_eq_true rfl) (by decide) (fun r191 s192 hr193 hp194 => ?_)
                  obtain ⟨rfl, q195, q196, z197, z198⟩ := hp194
                  refine zt_ifeq (pc' := 155) (tgt := 162) hX dX12_qGoesOnTest_152 rfl (by decide) ⟨by omega, by omega⟩ (fun c199 => ?_) (fun c199 => ?_)
                  · clear z197
                    have qz198 := z198 (by omega)
                    clear z198
                    refine zt_aload_n (pc' := 163) hX dX12_qGoesOnTest_162 rfl rfl ?_
                    refine zt_get (pc' := 166) (v := .ref (X.1.1 + 235)) hX dX12_qGoesOnTest_163 rfl zf_X12_234 (by decide) zc_164 zs_46 (zrf_of (zv_46_98 hI143 zc_164)) ?_
                    refine zt_aload_n (pc' := 167) hX dX12_qGoesOnTest_166 rfl rfl ?_
                    have b200 := zv_46_99 hI143 zc_164
                    refine zt_get (pc' := 170) (v := .int (zI (s142 164 99))) hX dX12_qGoesOnTest_167 rfl zf_X12_333 (by decide) zc_164 zs_46 rfl ?_
                    refine zt_bipush (pc' := 172) hX dX12_qGoesOnTest_170 rfl (by decide) (by decide) ?_
                    refine zt_iast (pc' := 173) hX dX12_qGoesOnTest_172 rfl (by decide) zc_235 zs_117 (by decide) ⟨by omega, by omega⟩ ?_
                    generalize hs202 : zset s142 235 ((s142 164 99).toNat) 11 = s201
                    have hI203 : zInv s201 := hs202 ▸ zp_117 hI143 zc_235 ((s142 164 99).toNat) ⟨by omega, by omega⟩
                    have hF204 : zOn zQ2 σ s201 := hs202 ▸ zOn_set hF144 (zq2_235 (by omega))
                    have e205 : s201 164 2 = s142 164 2 := by rw [← hs202]; exact zset_k (zne_r zc_164 zc_235 (by decide))
                    have e206 : s201 164 3 = s142 164 3 := by rw [← hs202]; exact zset_k (zne_r zc_164 zc_235 (by decide))
                    have e207 : s201 164 5 = s142 164 5 := by rw [← hs202]; exact zset_k (zne_r zc_164 zc_235 (by decide))
                    have e208 : s201 164 97 = s142 164 97 := by rw [← hs202]; exact zset_k (zne_r zc_164 zc_235 (by decide))
                    have e209 : s201 164 99 = s142 164 99 := by rw [← hs202]; exact zset_k (zne_r zc_164 zc_235 (by decide))
                    have e210 : s201 164 101 = s142 164 101 := by rw [← hs202]; exact zset_k (zne_r zc_164 zc_235 (by decide))
                    refine zt_aload_n (pc' := 174) hX dX12_qGoesOnTest_173 rfl rfl ?_
                    refine zt_dup (pc' := 175) hX dX12_qGoesOnTest_174 rfl rfl ?_
                    have b211 := zv_46_99 hI203 zc_164
                    refine zt_get (pc' := 178) (v := .int (zI (s201 164 99))) hX dX12_qGoesOnTest_175 rfl zf_X12_333 (by decide) zc_164 zs_46 rfl ?_
                    refine zt_iconst (pc' := 179) hX dX12_qGoesOnTest_178 rfl ?_
                    refine zt_iadd (pc' := 180) hX dX12_qGoesOnTest_179 rfl ?_
                    refine zt_put (pc' := 183) (x := ((s201 164 99) + 1)) hX dX12_qGoesOnTest_180 rfl zf_X12_333 (by decide) zc_164 zs_46 (fun q hq => by cases hq; rfl) rfl rfl rfl ?_
                    generalize hs213 : zset s201 164 99 ((s201 164 99) + 1) = s212
                    have hI214 : zInv s212 := hs213 ▸ zp_46_99 hI203 zc_164 ⟨by omega, by omega⟩
                    have hF215 : zOn zQ2 σ s212 := hs213 ▸ zOn_set hF204 (by decide)
                    have e216 : s212 164 2 = s201 164 2 := by rw [← hs213]; exact zset_j (by decide)
                    have e217 : s212 164 3 = s201 164 3 := by rw [← hs213]; exact zset_j (by decide)
                    have e218 : s212 164 5 = s201 164 5 := by rw [← hs213]; exact zset_j (by decide)
                    have e219 : s212 164 97 = s201 164 97 := by rw [← hs213]; exact zset_j (by decide)
                    have e220 : s212 164 99 = ((s201 164 99) + 1) := by rw [← hs213]; exact zset_s
                    have e221 : s212 164 101 = s201 164 101 := by rw [← hs213]; exact zset_j (by decide)
                    obtain ⟨h222a, h222b⟩ := zpush_T hs202 hs213 (by omega) (by omega) (by omega)
                    replace h222a := h222a (by omega)
                    have h222w := (zw_v 11).2.1 (by omega)
                    refine zt_iconst (pc' := 184) hX dX12_qGoesOnTest_183 rfl ?_
                    exact zt_zret hX hR dX12_qGoesOnTest_184 ⟨by omega, by omega⟩ ⟨hI214, hF215, by omega, by omega, by omega, by omega, by omega, by omega, by omega, (fun hb => by omega), (fun hb => by omega)⟩
                  · have qz197 := z197 (by omega)
                    clear z197
                    clear z198
                    exact J_155_169 (by omega)
            exact L_137_151 _ s74 hI77 hF96 (by omega) (by omega) (by omega) (by omega) (by omega) (by omega) (by omega) (Nat.lt_succ_self _)
        · have qz51 := z51 (by omega)
          clear z51
          have L_87_232 : ∀ (N : Nat) (s223 : zSto), zInv s223 → zOn zQ2 σ s223 → s223 164 97 + s223 164 99 + σ 164 2 + 1 ≤ σ 164 97 + σ 164 99 + s223 164 2 → (σ 164 2 ≤ s223 164 2 ∧ s223 164 2 ≤ σ 164 3) → s223 164 3 = σ 164 3 → s223 164 101 = σ 164 101 → s223 164 5 = 0 → s223 164 97 + s223 164 99 + σ 164 2 ≤ σ 164 97 + σ 164 99 + s223 164 2 → (zt s223 = 1 ∧ zHt s223 - zBt s223 = zHt σ - zBt σ) → ((s223 164 99).toNat) < N → zF X s223 87 [some (.ref (X.1.1 + 164))] [] := by
            intro N
            induction N with
            | zero =>
              intro s223 hI224 hF225 g226 g227 g228 g229 g230 g231 g232 hm234
              exact absurd hm234 (Nat.not_lt_zero _)
            | succ N ih235 =>
              intro s223 hI224 hF225 g226 g227 g228 g229 g230 g231 g232 hm234
              have b236 := zv_46_2 hI224 zc_164
              have b237 := zv_46_3 hI224 zc_164
              have b238 := zv_46_5 hI224 zc_164
              have b239 := zv_46_97 hI224 zc_164
              have b240 := zv_46_99 hI224 zc_164
              have b241 := zv_46_101 hI224 zc_164
              refine zt_aload_n (pc' := 88) hX dX12_qGoesOnTest_87 rfl rfl ?_
              refine zt_bipush (pc' := 90) hX dX12_qGoesOnTest_88 rfl (by decide) (by decide) ?_
              refine zt_cVz (pc' := 93) hX dX12_qGoesOnTest_90 rfl zm_yX12_qIsOn zw_31_23 zc_164 (by decide) zs_46 (q := (RX12, TX12, 108)) rfl rfl (zc_X12_qIsOn _ _ s223 hI224 10 ⟨by omega, by omega⟩) rfl rfl (Nat.le_of_ble_eq_true rfl) (by decide) (fun r242 s243 hr244 hp245 => ?_)
              obtain ⟨rfl, q246, q247, z248, z249⟩ := hp245
              refine zt_ifeq (pc' := 96) (tgt := 103) hX dX12_qGoesOnTest_93 rfl (by decide) ⟨by omega, by omega⟩ (fun c250 => ?_) (fun c250 => ?_)
              · clear z248
                have qz249 := z249 (by omega)
                clear z249
                refine zt_aload_n (pc' := 104) hX dX12_qGoesOnTest_103 rfl rfl ?_
                refine zt_get (pc' := 107) (v := .ref (X.1.1 + 235)) hX dX12_qGoesOnTest_104 rfl zf_X12_234 (by decide) zc_164 zs_46 (zrf_of (zv_46_98 hI224 zc_164)) ?_
                refine zt_aload_n (pc' := 108) hX dX12_qGoesOnTest_107 rfl rfl ?_
                have b251 := zv_46_99 hI224 zc_164
                refine zt_get (pc' := 111) (v := .int (zI (s223 164 99))) hX dX12_qGoesOnTest_108 rfl zf_X12_333 (by decide) zc_164 zs_46 rfl ?_
                refine zt_bipush (pc' := 113) hX dX12_qGoesOnTest_111 rfl (by decide) (by decide) ?_
                refine zt_iast (pc' := 114) hX dX12_qGoesOnTest_113 rfl (by decide) zc_235 zs_117 (by decide) ⟨by omega, by omega⟩ ?_
                generalize hs253 : zset s223 235 ((s223 164 99).toNat) 10 = s252
                have hI254 : zInv s252 := hs253 ▸ zp_117 hI224 zc_235 ((s223 164 99).toNat) ⟨by omega, by omega⟩
                have hF255 : zOn zQ2 σ s252 := hs253 ▸ zOn_set hF225 (zq2_235 (by omega))
                have e256 : s252 164 2 = s223 164 2 := by rw [← hs253]; exact zset_k (zne_r zc_164 zc_235 (by decide))
                have e257 : s252 164 3 = s223 164 3 := by rw [← hs253]; exact zset_k (zne_r zc_164 zc_235 (by decide))
                have e258 : s252 164 5 = s223 164 5 := by rw [← hs253]; exact zset_k (zne_r zc_164 zc_235 (by decide))
                have e259 : s252 164 97 = s223 164 97 := by rw [← hs253]; exact zset_k (zne_r zc_164 zc_235 (by decide))
                have e260 : s252 164 99 = s223 164 99 := by rw [← hs253]; exact zset_k (zne_r zc_164 zc_235 (by decide))
                have e261 : s252 164 101 = s223 164 101 := by rw [← hs253]; exact zset_k (zne_r zc_164 zc_235 (by decide))
                refine zt_aload_n (pc' := 115) hX dX12_qGoesOnTest_114 rfl rfl ?_
                refine zt_dup (pc' := 116) hX dX12_qGoesOnTest_115 rfl rfl ?_
                have b262 := zv_46_99 hI254 zc_164
                refine zt_get (pc' := 119) (v := .int (zI (s252 164 99))) hX dX12_qGoesOnTest_116 rfl zf_X12_333 (by decide) zc_164 zs_46 rfl ?_
                refine zt_iconst (pc' := 120) hX dX12_qGoesOnTest_119 rfl ?_
                refine zt_iadd (pc' := 121) hX dX12_qGoesOnTest_120 rfl ?_
                refine zt_put (pc' := 124) (x := ((s252 164 99) + 1)) hX dX12_qGoesOnTest_121 rfl zf_X12_333 (by decide) zc_164 zs_46 (fun q hq => by cases hq; rfl) rfl rfl rfl ?_
                generalize hs264 : zset s252 164 99 ((s252 164 99) + 1) = s263
                have hI265 : zInv s263 := hs264 ▸ zp_46_99 hI254 zc_164 ⟨by omega, by omega⟩
                have hF266 : zOn zQ2 σ s263 := hs264 ▸ zOn_set hF255 (by decide)
                have e267 : s263 164 2 = s252 164 2 := by rw [← hs264]; exact zset_j (by decide)
                have e268 : s263 164 3 = s252 164 3 := by rw [← hs264]; exact zset_j (by decide)
                have e269 : s263 164 5 = s252 164 5 := by rw [← hs264]; exact zset_j (by decide)
                have e270 : s263 164 97 = s252 164 97 := by rw [← hs264]; exact zset_j (by decide)
                have e271 : s263 164 99 = ((s252 164 99) + 1) := by rw [← hs264]; exact zset_s
                have e272 : s263 164 101 = s252 164 101 := by rw [← hs264]; exact zset_j (by decide)
                obtain ⟨h273a, h273b⟩ := zpush_T hs253 hs264 (by omega) (by omega) (by omega)
                replace h273a := h273a (by omega)
                have h273w := (zw_v 10).2.1 (by omega)
                refine zt_iconst (pc' := 125) hX dX12_qGoesOnTest_124 rfl ?_
                exact zt_zret hX hR dX12_qGoesOnTest_125 ⟨by omega, by omega⟩ ⟨hI265, hF266, by omega, by omega, by omega, by omega, by omega, by omega, by omega, (fun hb => by omega), (fun hb => by omega)⟩
              · have qz248 := z248 (by omega)
                clear z248
                clear z249
                refine zt_aload_n (pc' := 97) hX dX12_qGoesOnTest_96 rfl rfl ?_
                refine zt_cVv (pc' := 100) hX dX12_qGoesOnTest_97 rfl zm_yX12_qDrops zw_31_4 zc_164 (by decide) zs_46 (q := (RX12, TX12, 108)) rfl rfl (zc_X12_qDrops_T _ _ s223 hI224 (by omega) (by omega) (by omega) (by omega) (by omega)) rfl rfl (Nat.le_of_ble_eq_true rfl) (by decide) (fun r274 s275 hr276 hp277 => ?_)
                obtain ⟨hI278, hF279, z280, z281⟩ := hp277
                have e282 := hF279 164 2 rfl
                have e283 := hF279 164 3 rfl
                have e284 := hF279 164 5 rfl
                have e285 := hF279 164 101 rfl
                have hF286 := zOn_tr hF225 hF279 zi_52
                have b287 := zv_46_2 hI278 zc_164
                have b288 := zv_46_3 hI278 zc_164
                have b289 := zv_46_5 hI278 zc_164
                have b290 := zv_46_97 hI278 zc_164
                have b291 := zv_46_99 hI278 zc_164
                have b292 := zv_46_101 hI278 zc_164
                refine zt_goto (tgt := 87) hX dX12_qGoesOnTest_100 (by decide) ?_
                exact ih235 s275 hI278 hF286 (by omega) (by omega) (by omega) (by omega) (by omega) (by omega) (by omega) (by omega)
          exact L_87_232 _ s43 hI46 hF65 (by omega) (by omega) (by omega) (by omega) (by omega) (by omega) (by omega) (Nat.lt_succ_self _)
      refine zt_ifne (pc' := 7) (tgt := 76) hX dX12_qGoesOnTest_4 rfl (by decide) ⟨by omega, by omega⟩ (fun c293 => ?_) (fun c293 => ?_)
      · exact J_76_34 s7 hI8 hF9 (by omega) (by omega) (by omega) (by omega) (by omega) (by omega)
      · refine zt_aload_n (pc' := 8) hX dX12_qGoesOnTest_7 rfl rfl ?_
        refine zt_cVi (pc' := 11) hX dX12_qGoesOnTest_8 rfl zm_yX12_look zw_26_12 zc_164 (by decide) zs_46 (q := (RX12, TX12, 108)) rfl rfl (zc_X12_look _ _ s7 hI8 ) rfl rfl (Nat.le_of_ble_eq_true rfl) (by decide) (fun r294 s295 hr296 hp297 => ?_)
        obtain ⟨hI298, hF299, q300, q301, z302, z303, z304, z305⟩ := hp297
        obtain ⟨-, w307, w308, w309, -, -, w312, -⟩ := zE_q1 hF299
        have e314 := hF299 164 3 rfl
        have e315 := hF299 164 97 rfl
        have e316 := hF299 164 99 rfl
        have e317 := hF299 164 101 rfl
        have hF318 := zOn_tr hF9 hF299 zi_12
        have b319 := zv_46_2 hI298 zc_164
        have b320 := zv_46_3 hI298 zc_164
        have b321 := zv_46_5 hI298 zc_164
        have b322 := zv_46_97 hI298 zc_164
        have b323 := zv_46_99 hI298 zc_164
        have b324 := zv_46_101 hI298 zc_164
        clear z305
        replace z302 : _ ∧ _ := ⟨z302.1, z302.2 (by omega)⟩
        refine zt_bipush (pc' := 13) hX dX12_qGoesOnTest_11 rfl (by decide) (by decide) ?_
        refine zt_icne (pc' := 16) (tgt := 76) hX dX12_qGoesOnTest_13 rfl (by decide) ⟨by omega, by omega⟩ ⟨by omega, by omega⟩ (fun c325 => ?_) (fun c325 => ?_)
        · exact J_76_34 s295 hI298 hF318 (by omega) (by omega) (by omega) (by omega) (by omega) (by omega)
        · have qz303 := z303 (by omega)
          clear z303
          refine zt_aload_n (pc' := 17) hX dX12_qGoesOnTest_16 rfl rfl ?_
          refine zt_cVz (pc' := 20) hX dX12_qGoesOnTest_17 rfl zm_yX12_qHasSquare zw_32_11 zc_164 (by decide) zs_46 (q := (RX12, TX12, 108)) rfl rfl (zc_X12_qHasSquare _ _ s295 hI298 ) rfl rfl (Nat.le_of_ble_eq_true rfl) (by decide) (fun r326 s327 hr328 hp329 => ?_)
          obtain ⟨rfl, q330, q331, z332⟩ := hp329
          refine zt_ifeq (pc' := 23) (tgt := 76) hX dX12_qGoesOnTest_20 rfl (by decide) ⟨by omega, by omega⟩ (fun c333 => ?_) (fun c333 => ?_)
          · exact J_76_34 s295 hI298 hF318 (by omega) (by omega) (by omega) (by omega) (by omega) (by omega)
          · refine zt_aload_n (pc' := 24) hX dX12_qGoesOnTest_23 rfl rfl ?_
            refine zt_dup (pc' := 25) hX dX12_qGoesOnTest_24 rfl rfl ?_
            have b334 := zv_46_2 hI298 zc_164
            refine zt_get (pc' := 28) (v := .int (zI (s295 164 2))) hX dX12_qGoesOnTest_25 rfl zf_X12_252 (by decide) zc_164 zs_46 rfl ?_
            refine zt_iconst (pc' := 29) hX dX12_qGoesOnTest_28 rfl ?_
            refine zt_iadd (pc' := 30) hX dX12_qGoesOnTest_29 rfl ?_
            refine zt_put (pc' := 33) (x := ((s295 164 2) + 1)) hX dX12_qGoesOnTest_30 rfl zf_X12_252 (by decide) zc_164 zs_46 (fun q hq => by cases hq; rfl) rfl rfl rfl ?_
            generalize hs336 : zset s295 164 2 ((s295 164 2) + 1) = s335
            have hI337 : zInv s335 := hs336 ▸ zp_46_2 hI298 zc_164 ⟨by omega, by omega⟩
            have hF338 : zOn zQ2 σ s335 := hs336 ▸ zOn_set hF318 (by decide)
            obtain ⟨-, w340, w341, w342, -, -, w345, -⟩ := zE_set hs336 (by decide)
            have e347 : s335 164 2 = ((s295 164 2) + 1) := by rw [← hs336]; exact zset_s
            have e348 : s335 164 3 = s295 164 3 := by rw [← hs336]; exact zset_j (by decide)
            have e349 : s335 164 5 = s295 164 5 := by rw [← hs336]; exact zset_j (by decide)
            have e350 : s335 164 97 = s295 164 97 := by rw [← hs336]; exact zset_j (by decide)
            have e351 : s335 164 99 = s295 164 99 := by rw [← hs336]; exact zset_j (by decide)
            have e352 : s335 164 101 = s295 164 101 := by rw [← hs336]; exact zset_j (by decide)
            have L_33_363 : ∀ (N : Nat) (s353 : zSto), zInv s353 → zOn zQ2 σ s353 → zsq s353 = 1 → s7 164 2 < s353 164 2 → (σ 164 2 ≤ s353 164 2 ∧ s353 164 2 ≤ σ 164 3) → s353 164 3 = σ 164 3 → s353 164 101 = σ 164 101 → s353 164 5 = 0 → s353 164 97 + s353 164 99 + σ 164 2 ≤ σ 164 97 + σ 164 99 + s353 164 2 → (zt s353 = 1 ∧ zHt s353 - zBt s353 = zHt σ - zBt σ) → ((s353 164 99).toNat) < N → zF X s353 33 [some (.ref (X.1.1 + 164))] [] := by
              intro N
              induction N with
              | zero =>
                intro s353 hI354 hF355 g356 g357 g358 g359 g360 g361 g362 g363 hm365
                exact absurd hm365 (Nat.not_lt_zero _)
              | succ N ih366 =>
                intro s353 hI354 hF355 g356 g357 g358 g359 g360 g361 g362 g363 hm365
                have b367 := zv_46_2 hI354 zc_164
                have b368 := zv_46_3 hI354 zc_164
                have b369 := zv_46_5 hI354 zc_164
                have b370 := zv_46_97 hI354 zc_164
                have b371 := zv_46_99 hI354 zc_164
                have b372 := zv_46_101 hI354 zc_164
                refine zt_aload_n (pc' := 34) hX dX12_qGoesOnTest_33 rfl rfl ?_
                refine zt_bipush (pc' := 36) hX dX12_qGoesOnTest_34 rfl (by decide) (by decide) ?_
                have h373 := zsq_p (s := s353) (by omega)
                refine zt_cVz (pc' := 39) hX dX12_qGoesOnTest_36 rfl zm_yX12_qIsOn zw_31_23 zc_164 (by decide) zs_46 (q := (RX12, TX12, 108)) rfl rfl (zc_X12_qIsOn _ _ s353 hI354 25 ⟨by omega, by omega⟩) rfl rfl (Nat.le_of_ble_eq_true rfl) (by decide) (fun r374 s375 hr376 hp377 => ?_)
                obtain ⟨rfl, q378, q379, z380, z381⟩ := hp377
                refine zt_ifne (pc' := 42) (tgt := 49) hX dX12_qGoesOnTest_39 rfl (by decide) ⟨by omega, by omega⟩ (fun c382 => ?_) (fun c382 => ?_)
                · have qz380 := z380 (by omega)
                  clear z380
                  clear z381
                  refine zt_aload_n (pc' := 50) hX dX12_qGoesOnTest_49 rfl rfl ?_
                  refine zt_dup (pc' := 51) hX dX12_qGoesOnTest_50 rfl rfl ?_
                  have b383 := zv_46_99 hI354 zc_164
                  refine zt_get (pc' := 54) (v := .int (zI (s353 164 99))) hX dX12_qGoesOnTest_51 rfl zf_X12_333 (by decide) zc_164 zs_46 rfl ?_
                  refine zt_iconst (pc' := 55) hX dX12_qGoesOnTest_54 rfl ?_
                  refine zt_isub (pc' := 56) hX dX12_qGoesOnTest_55 rfl ?_
                  refine zt_put (pc' := 59) (x := ((s353 164 99) - 1)) hX dX12_qGoesOnTest_56 rfl zf_X12_333 (by decide) zc_164 zs_46 (fun q hq => by cases hq; rfl) rfl rfl rfl ?_
                  generalize hs385 : zset s353 164 99 ((s353 164 99) - 1) = s384
                  have hI386 : zInv s384 := hs385 ▸ zp_46_99 hI354 zc_164 ⟨by omega, by omega⟩
                  have hF387 : zOn zQ2 σ s384 := hs385 ▸ zOn_set hF355 (by decide)
                  have e388 : s384 164 2 = s353 164 2 := by rw [← hs385]; exact zset_j (by decide)
                  have e389 : s384 164 3 = s353 164 3 := by rw [← hs385]; exact zset_j (by decide)
                  have e390 : s384 164 5 = s353 164 5 := by rw [← hs385]; exact zset_j (by decide)
                  have e391 : s384 164 97 = s353 164 97 := by rw [← hs385]; exact zset_j (by decide)
                  have e392 : s384 164 99 = ((s353 164 99) - 1) := by rw [← hs385]; exact zset_s
                  have e393 : s384 164 101 = s353 164 101 := by rw [← hs385]; exact zset_j (by decide)
                  have h394 := zpopT hs385 rfl (by omega) (by omega) (by omega) (by omega)
                  refine zt_aload_n (pc' := 60) hX dX12_qGoesOnTest_59 rfl rfl ?_
                  refine zt_dup (pc' := 61) hX dX12_qGoesOnTest_60 rfl rfl ?_
                  have b395 := zv_46_100 hI386 zc_164
                  have e396 : s384 164 100 = s353 164 100 := by rw [← hs385]; exact zset_j (by decide)
                  refine zt_get (pc' := 64) (v := .int (zI (s384 164 100))) hX dX12_qGoesOnTest_61 rfl zf_X12_336 (by decide) zc_164 zs_46 rfl ?_
                  refine zt_iconst (pc' := 65) hX dX12_qGoesOnTest_64 rfl ?_
                  refine zt_isub (pc' := 66) hX dX12_qGoesOnTest_65 rfl ?_
                  refine zt_wrap (fun r397 zr397 lr397 ur397 => ?_)
                  clear zr397
                  refine zt_put (pc' := 69) (x := r397) hX dX12_qGoesOnTest_66 rfl zf_X12_336 (by decide) zc_164 zs_46 (fun q hq => by cases hq; rfl) rfl rfl rfl ?_
                  generalize hs399 : zset s384 164 100 r397 = s398
                  have hI400 : zInv s398 := hs399 ▸ zp_46_100 hI386 zc_164 ⟨by omega, by omega⟩
                  have hF401 : zOn zQ2 σ s398 := hs399 ▸ zOn_set hF387 (by decide)
                  obtain ⟨-, w403, w404, w405, -, -, w408, -⟩ := zE_set hs399 (by decide)
                  have e410 : s398 164 2 = s384 164 2 := by rw [← hs399]; exact zset_j (by decide)
                  have e411 : s398 164 3 = s384 164 3 := by rw [← hs399]; exact zset_j (by decide)
                  have e412 : s398 164 5 = s384 164 5 := by rw [← hs399]; exact zset_j (by decide)
                  have e413 : s398 164 97 = s384 164 97 := by rw [← hs399]; exact zset_j (by decide)
                  have e414 : s398 164 99 = s384 164 99 := by rw [← hs399]; exact zset_j (by decide)
                  have e415 : s398 164 101 = s384 164 101 := by rw [← hs399]; exact zset_j (by decide)
                  refine zt_aload_n (pc' := 70) hX dX12_qGoesOnTest_69 rfl rfl ?_
                  refine zt_cVv (pc' := 73) hX dX12_qGoesOnTest_70 rfl zm_yX12_qDropsNots zw_32_3 zc_164 (by decide) zs_46 (q := (RX12, TX12, 108)) rfl rfl (zc_X12_qDropsNots _ _ s398 hI400 (by omega) (fun hb => by omega)) rfl rfl (Nat.le_of_ble_eq_true rfl) (by decide) (fun r416 s417 hr418 hp419 => ?_)
                  obtain ⟨hI420, hF421, z422, z423, z424⟩ := hp419
                  have e425 := hF421 164 2 rfl
                  have e426 := hF421 164 3 rfl
                  have e427 := hF421 164 5 rfl
                  have e428 := hF421 164 101 rfl
                  have hF429 := zOn_tr hF401 hF421 zi_52
                  have b430 := zv_46_2 hI420 zc_164
                  have b431 := zv_46_3 hI420 zc_164
                  have b432 := zv_46_5 hI420 zc_164
                  have b433 := zv_46_97 hI420 zc_164
                  have b434 := zv_46_99 hI420 zc_164
                  have b435 := zv_46_101 hI420 zc_164
                  refine zt_goto (tgt := 0) hX dX12_qGoesOnTest_73 (by decide) ?_
                  exact ih18 s417 hI420 hF429 (by omega) (by omega) (by omega) (by omega) (by omega) (by omega) (by omega)
                · clear z380
                  have qz381 := z381 (by omega)
                  clear z381
                  refine zt_aload_n (pc' := 43) hX dX12_qGoesOnTest_42 rfl rfl ?_
                  refine zt_cVv (pc' := 46) hX dX12_qGoesOnTest_43 rfl zm_yX12_qDrops zw_31_4 zc_164 (by decide) zs_46 (q := (RX12, TX12, 108)) rfl rfl (zc_X12_qDrops_T _ _ s353 hI354 (by omega) (by omega) (by omega) (by omega) (by omega)) rfl rfl (Nat.le_of_ble_eq_true rfl) (by decide) (fun r436 s437 hr438 hp439 => ?_)
                  obtain ⟨hI440, hF441, z442, z443⟩ := hp439
                  have e444 := hF441 164 2 rfl
                  have e445 := hF441 164 3 rfl
                  have e446 := hF441 164 5 rfl
                  have e447 := hF441 164 101 rfl
                  have hF448 := zOn_tr hF355 hF441 zi_52
                  have b449 := zv_46_2 hI440 zc_164
                  have b450 := zv_46_3 hI440 zc_164
                  have b451 := zv_46_5 hI440 zc_164
                  have b452 := zv_46_97 hI440 zc_164
                  have b453 := zv_46_99 hI440 zc_164
                  have b454 := zv_46_101 hI440 zc_164
                  refine zt_goto (tgt := 33) hX dX12_qGoesOnTest_46 (by decide) ?_
                  exact ih366 s437 hI440 hF448 (by omega) (by omega) (by omega) (by omega) (by omega) (by omega) (by omega) (by omega) (by omega)
            exact L_33_363 _ s335 hI337 hF338 (by omega) (by omega) (by omega) (by omega) (by omega) (by omega) (by omega) (by omega) (Nat.lt_succ_self _)
  exact L_0_15 _ σ hI hF (by omega) (by omega) (by omega) (by omega) (by omega) (by omega) (Nat.lt_succ_self _)

set_option maxRecDepth 100000 in
set_option maxHeartbeats 4000000 in
theorem zc_X12_qTest (l : Launch) (E : zEN) (σ : zSto) (hI : zInv σ) (hpre0 : σ 164 5 = 0) (hpre1 : σ 164 2 ≤ σ 164 3) (hpre2 : σ 164 97 + σ 164 99 ≤ σ 164 2) (hpre3 : zt σ = 1) (hpre4 : zBt σ ≤ zHt σ) : zCt l E yX12_qTest cX12_qTest 3 none 8 zNC zNC 0 0 σ [.ref (E.1 + 164)] (fun r σ' => zInv σ' ∧ zOn zQ2 σ σ' ∧ (σ' 164 2 ≤ σ 164 3) ∧ (σ 164 2 ≤ σ' 164 2) ∧ (σ' 164 101 = σ 164 101) ∧ (σ' 164 97 + σ' 164 99 + σ 164 2 ≤ σ 164 97 + σ 164 99 + σ' 164 2 + 1) ∧ (σ' 164 5 = 0 → σ' 164 97 + σ' 164 99 + σ 164 2 ≤ σ 164 97 + σ 164 99 + σ' 164 2) ∧ (σ' 164 5 = 0 → zt σ' = 1)) := by
  refine zCt_of2 [some (.ref (E.1 + 164)), none, none] (by decide +kernel) (Nat.le_of_ble_eq_true rfl) rfl ?_
  intro X hE hX hR hL hN
  subst hE
  have hX : zok X cX12_qTest RX12 8 := hX
  have hF := zOn_rf zQ2 σ
  have hbn := zBt_nn σ
  have b1 := zv_46_2 hI zc_164
  have b2 := zv_46_3 hI zc_164
  have b3 := zv_46_5 hI zc_164
  have b4 := zv_46_97 hI zc_164
  have b5 := zv_46_99 hI zc_164
  have b6 := zv_46_101 hI zc_164
  refine zt_iconst (pc' := 1) hX dX12_qTest_0 rfl ?_
  refine zt_istore_n (pc' := 2) (lv' := [some (.ref (X.1.1 + 164)), some (.int (zI 1)), none]) hX dX12_qTest_1 rfl hL (by decide) rfl ?_
  have L_2_20 : ∀ (N : Nat) (x7 : Int) (s10 : zSto), 0 ≤ x7 → x7 ≤ 1 → zInv s10 → zOn zQ2 σ s10 → (s10 164 5 = 0 → x7 = 1 → zHt s10 - zBt s10 = zHt σ - zBt σ) → (s10 164 5 = 0 → x7 = 0 → zHt s10 - zBt s10 = zHt σ - zBt σ + 1 ∧ zsq s10 = 0) → (σ 164 2 ≤ s10 164 2 ∧ s10 164 2 ≤ σ 164 3) → s10 164 3 = σ 164 3 → s10 164 101 = σ 164 101 → s10 164 97 + s10 164 99 + σ 164 2 ≤ σ 164 97 + σ 164 99 + s10 164 2 + 1 → (s10 164 5 = 0 → s10 164 97 + s10 164 99 + σ 164 2 ≤ σ 164 97 + σ 164 99 + s10 164 2) → (s10 164 5 = 0 → zt s10 = 1) → ((4 * (1601 - s10 164 2) + 2 * x7 + 1 - min (max (s10 164 5) (-(s10 164 5))) 1).toNat) < N → zF X s10 2 [some (.ref (X.1.1 + 164)), some (.int (zI x7)), none] [] := by
    intro N
    induction N with
    | zero =>
      intro x7 s10 h8 h9 hI11 hF12 g13 g14 g15 g16 g17 g18 g19 g20 hm22
      exact absurd hm22 (Nat.not_lt_zero _)
    | succ N ih23 =>
      intro x7 s10 h8 h9 hI11 hF12 g13 g14 g15 g16 g17 g18 g19 g20 hm22
      have b24 := zv_46_2 hI11 zc_164
      have b25 := zv_46_3 hI11 zc_164
      have b26 := zv_46_5 hI11 zc_164
      have b27 := zv_46_97 hI11 zc_164
      have b28 := zv_46_99 hI11 zc_164
      have b29 := zv_46_101 hI11 zc_164
      refine zt_iload_n (pc' := 3) hX dX12_qTest_2 rfl rfl ?_
      refine zt_ifeq (pc' := 6) (tgt := 110) hX dX12_qTest_3 rfl (by decide) ⟨by omega, by omega⟩ (fun c30 => ?_) (fun c30 => ?_)
      · have L_110_40 : ∀ (N : Nat) (s31 : zSto), zInv s31 → zOn zQ2 σ s31 → (s31 164 5 = 0 → zHt s31 - zBt s31 = zHt σ - zBt σ + 1 ∧ zsq s31 = 0) → (σ 164 2 ≤ s31 164 2 ∧ s31 164 2 ≤ σ 164 3) → s31 164 3 = σ 164 3 → s31 164 101 = σ 164 101 → s31 164 97 + s31 164 99 + σ 164 2 ≤ σ 164 97 + σ 164 99 + s31 164 2 + 1 → (s31 164 5 = 0 → s31 164 97 + s31 164 99 + σ 164 2 ≤ σ 164 97 + σ 164 99 + s31 164 2) → (s31 164 5 = 0 → zt s31 = 1) → ((s31 164 99).toNat) < N → zF X s31 110 [some (.ref (X.1.1 + 164)), none, none] [] := by
          clear g13 g14 g19 g20
          intro N
          induction N with
          | zero =>
            intro s31 hI32 hF33 g34 g35 g36 g37 g38 g39 g40 hm42
            exact absurd hm42 (Nat.not_lt_zero _)
          | succ N ih43 =>
            intro s31 hI32 hF33 g34 g35 g36 g37 g38 g39 g40 hm42
            have b44 := zv_46_2 hI32 zc_164
            have b45 := zv_46_3 hI32 zc_164
            have b46 := zv_46_5 hI32 zc_164
            have b47 := zv_46_97 hI32 zc_164
            have b48 := zv_46_99 hI32 zc_164
            have b49 := zv_46_101 hI32 zc_164
            refine zt_aload_n (pc' := 111) hX dX12_qTest_110 rfl rfl ?_
            have b50 := zv_46_5 hI32 zc_164
            refine zt_get (pc' := 114) (v := .int (zI (s31 164 5))) hX dX12_qTest_111 rfl zf_X12_246 (by decide) zc_164 zs_46 rfl ?_
            refine zt_ifne (pc' := 117) (tgt := 131) hX dX12_qTest_114 rfl (by decide) ⟨by omega, by omega⟩ (fun c51 => ?_) (fun c51 => ?_)
            · clear g40 g39 g34
              exact zt_vret hX hR dX12_qTest_131 ⟨hI32, hF33, by omega, by omega, by omega, by omega, (fun hb => by omega), (fun hb => by omega)⟩
            · have qg40 := g40 (by omega)
              have qg39 := g39 (by omega)
              have qg34 := g34 (by omega)
              clear g40 g39 g34
              refine zt_aload_n (pc' := 118) hX dX12_qTest_117 rfl rfl ?_
              have b52 := zv_46_99 hI32 zc_164
              refine zt_get (pc' := 121) (v := .int (zI (s31 164 99))) hX dX12_qTest_118 rfl zf_X12_333 (by decide) zc_164 zs_46 rfl ?_
              refine zt_ifle (pc' := 124) (tgt := 131) hX dX12_qTest_121 rfl (by decide) ⟨by omega, by omega⟩ (fun c53 => ?_) (fun c53 => ?_)
              · exact zt_vret hX hR dX12_qTest_131 ⟨hI32, hF33, by omega, by omega, by omega, by omega, (fun hb => by omega), (fun hb => by omega)⟩
              · refine zt_aload_n (pc' := 125) hX dX12_qTest_124 rfl rfl ?_
                have h54 := zsq_top (s := s31) rfl (by omega)
                have h54n := zBt_nn s31
                refine zt_cVv (pc' := 128) hX dX12_qTest_125 rfl zm_yX12_qDrops zw_31_4 zc_164 (by decide) zs_46 (q := (RX12, TX12, 108)) rfl rfl (zc_X12_qDrops_T _ _ s31 hI32 (by omega) (by omega) (by omega) (by omega) (by omega)) rfl rfl (Nat.le_of_ble_eq_true rfl) (by decide) (fun r55 s56 hr57 hp58 => ?_)
                obtain ⟨hI59, hF60, z61, z62⟩ := hp58
                have e63 := hF60 164 2 rfl
                have e64 := hF60 164 3 rfl
                have e65 := hF60 164 5 rfl
                have e66 := hF60 164 101 rfl
                have hF67 := zOn_tr hF33 hF60 zi_52
                have b68 := zv_46_2 hI59 zc_164
                have b69 := zv_46_3 hI59 zc_164
                have b70 := zv_46_5 hI59 zc_164
                have b71 := zv_46_97 hI59 zc_164
                have b72 := zv_46_99 hI59 zc_164
                have b73 := zv_46_101 hI59 zc_164
                refine zt_goto (tgt := 110) hX dX12_qTest_128 (by decide) ?_
                exact ih43 s56 hI59 hF67 (fun hb => by omega) (by omega) (by omega) (by omega) (by omega) (fun hb => by omega) (fun hb => by omega) (by omega)
        refine zt_mask [true, false, false] rfl ?_
        exact L_110_40 _ s10 hI11 hF12 (fun hb => by have qg20 := g20 (by omega); have qg19 := g19 (by omega); have qg14 := g14 (by omega); have qg13 := g13 (by omega); clear g20 g19 g14 g13; omega) (by omega) (by omega) (by omega) (by omega) (fun hb => by have qg20 := g20 (by omega); have qg19 := g19 (by omega); have qg14 := g14 (by omega); have qg13 := g13 (by omega); clear g20 g19 g14 g13; omega) (fun hb => by have qg20 := g20 (by omega); have qg19 := g19 (by omega); have qg14 := g14 (by omega); have qg13 := g13 (by omega); clear g20 g19 g14 g13; omega) (Nat.lt_succ_self _)
      · refine zt_aload_n (pc' := 7) hX dX12_qTest_6 rfl rfl ?_
        have b74 := zv_46_5 hI11 zc_164
        refine zt_get (pc' := 10) (v := .int (zI (s10 164 5))) hX dX12_qTest_7 rfl zf_X12_246 (by decide) zc_164 zs_46 rfl ?_
        refine zt_ifne (pc' := 13) (tgt := 110) hX dX12_qTest_10 rfl (by decide) ⟨by omega, by omega⟩ (fun c75 => ?_) (fun c75 => ?_)
        · clear g20 g19 g14 g13
          have L_110_85 : ∀ (N : Nat) (s76 : zSto), zInv s76 → zOn zQ2 σ s76 → (s76 164 5 = 0 → zHt s76 - zBt s76 = zHt σ - zBt σ + 1 ∧ zsq s76 = 0) → (σ 164 2 ≤ s76 164 2 ∧ s76 164 2 ≤ σ 164 3) → s76 164 3 = σ 164 3 → s76 164 101 = σ 164 101 → s76 164 97 + s76 164 99 + σ 164 2 ≤ σ 164 97 + σ 164 99 + s76 164 2 + 1 → (s76 164 5 = 0 → s76 164 97 + s76 164 99 + σ 164 2 ≤ σ 164 97 + σ 164 99 + s76 164 2) → (s76 164 5 = 0 → zt s76 = 1) → ((s76 164 99).toNat) < N → zF X s76 110 [some (.ref (X.1.1 + 164)), none, none] [] := by
            intro N
            induction N with
            | zero =>
              intro s76 hI77 hF78 g79 g80 g81 g82 g83 g84 g85 hm87
              exact absurd hm87 (Nat.not_lt_zero _)
            | succ N ih88 =>
              intro s76 hI77 hF78 g79 g80 g81 g82 g83 g84 g85 hm87
              have b89 := zv_46_2 hI77 zc_164
              have b90 := zv_46_3 hI77 zc_164
              have b91 := zv_46_5 hI77 zc_164
              have b92 := zv_46_97 hI77 zc_164
              have b93 := zv_46_99 hI77 zc_164
              have b94 := zv_46_101 hI77 zc_164
              refine zt_aload_n (pc' := 111) hX dX12_qTest_110 rfl rfl ?_
              have b95 := zv_46_5 hI77 zc_164
              refine zt_get (pc' := 114) (v := .int (zI (s76 164 5))) hX dX12_qTest_111 rfl zf_X12_246 (by decide) zc_164 zs_46 rfl ?_
              refine zt_ifne (pc' := 117) (tgt := 131) hX dX12_qTest_114 rfl (by decide) ⟨by omega, by omega⟩ (fun c96 => ?_) (fun c96 => ?_)
              · clear g85 g84 g79
                exact zt_vret hX hR dX12_qTest_131 ⟨hI77, hF78, by omega, by omega, by omega, by omega, (fun hb => by omega), (fun hb => by omega)⟩
              · have qg85 := g85 (by omega)
                have qg84 := g84 (by omega)
                have qg79 := g79 (by omega)
                clear g85 g84 g79
                refine zt_aload_n (pc' := 118) hX dX12_qTest_117 rfl rfl ?_
                have b97 := zv_46_99 hI77 zc_164
                refine zt_get (pc' := 121) (v := .int (zI (s76 164 99))) hX dX12_qTest_118 rfl zf_X12_333 (by decide) zc_164 zs_46 rfl ?_
                refine zt_ifle (pc' := 124) (tgt := 131) hX dX12_qTest_121 rfl (by decide) ⟨by omega, by omega⟩ (fun c98 => ?_) (fun c98 => ?_)
                · exact zt_vret hX hR dX12_qTest_131 ⟨hI77, hF78, by omega, by omega, by omega, by omega, (fun hb => by omega), (fun hb => by omega)⟩
                · refine zt_aload_n (pc' := 125) hX dX12_qTest_124 rfl rfl ?_
                  have h99 := zsq_top (s := s76) rfl (by omega)
                  have h99n := zBt_nn s76
                  refine zt_cVv (pc' := 128) hX dX12_qTest_125 rfl zm_yX12_qDrops zw_31_4 zc_164 (by decide) zs_46 (q := (RX12, TX12, 108)) rfl rfl (zc_X12_qDrops_T _ _ s76 hI77 (by omega) (by omega) (by omega) (by omega) (by omega)) rfl rfl (Nat.le_of_ble_eq_true rfl) (by decide) (fun r100 s101 hr102 hp103 => ?_)
                  obtain ⟨hI104, hF105, z106, z107⟩ := hp103
                  have e108 := hF105 164 2 rfl
                  have e109 := hF105 164 3 rfl
                  have e110 := hF105 164 5 rfl
                  have e111 := hF105 164 101 rfl
                  have hF112 := zOn_tr hF78 hF105 zi_52
                  have b113 := zv_46_2 hI104 zc_164
                  have b114 := zv_46_3 hI104 zc_164
                  have b115 := zv_46_5 hI104 zc_164
                  have b116 := zv_46_97 hI104 zc_164
                  have b117 := zv_46_99 hI104 zc_164
                  have b118 := zv_46_101 hI104 zc_164
                  refine zt_goto (tgt := 110) hX dX12_qTest_128 (by decide) ?_
                  exact ih88 s101 hI104 hF112 (fun hb => by omega) (by omega) (by omega) (by omega) (by omega) (fun hb => by omega) (fun hb => by omega) (by omega)
          refine zt_mask [true, false, false] rfl ?_
          exact L_110_85 _ s10 hI11 hF12 (fun hb => by omega) (by omega) (by omega) (by omega) (by omega) (fun hb => by omega) (fun hb => by omega) (Nat.lt_succ_self _)
        · have qg20 := g20 (by omega)
          have qg19 := g19 (by omega)
          have qg14 := g14 (by omega)
          have qg13 := g13 (by omega)
          clear g20 g19 g14 g13
          refine zt_aload_n (pc' := 14) hX dX12_qTest_13 rfl rfl ?_
          refine zt_cVi (pc' := 17) hX dX12_qTest_14 rfl zm_yX12_look zw_26_12 zc_164 (by decide) zs_46 (q := (RX12, TX12, 108)) rfl rfl (zc_X12_look _ _ s10 hI11 ) rfl rfl (Nat.le_of_ble_eq_true rfl) (by decide) (fun r119 s120 hr121 hp122 => ?_)
          obtain ⟨hI123, hF124, q125, q126, z127, z128, z129, z130⟩ := hp122
          obtain ⟨-, w132, w133, w134, -, -, w137, -⟩ := zE_q1 hF124
          have e139 := hF124 164 3 rfl
          have e140 := hF124 164 97 rfl
          have e141 := hF124 164 99 rfl
          have e142 := hF124 164 101 rfl
          have hF143 := zOn_tr hF12 hF124 zi_12
          have b144 := zv_46_2 hI123 zc_164
          have b145 := zv_46_3 hI123 zc_164
          have b146 := zv_46_5 hI123 zc_164
          have b147 := zv_46_97 hI123 zc_164
          have b148 := zv_46_99 hI123 zc_164
          have b149 := zv_46_101 hI123 zc_164
          clear z130
          replace z127 : _ ∧ _ := ⟨z127.1, z127.2 (by omega)⟩
          refine zt_istore_n (pc' := 18) (lv' := [some (.ref (X.1.1 + 164)), some (.int (zI x7)), some (.int (zI r119))]) hX dX12_qTest_17 rfl hL (by decide) rfl ?_
          refine zt_iload_n (pc' := 19) hX dX12_qTest_18 rfl rfl ?_
          refine zt_bipush (pc' := 21) hX dX12_qTest_19 rfl (by decide) (by decide) ?_
          refine zt_icne (pc' := 24) (tgt := 47) hX dX12_qTest_21 rfl (by decide) ⟨by omega, by omega⟩ ⟨by omega, by omega⟩ (fun c150 => ?_) (fun c150 => ?_)
          · refine zt_aload_n (pc' := 48) hX dX12_qTest_47 rfl rfl ?_
            refine zt_aload_n (pc' := 49) hX dX12_qTest_48 rfl rfl ?_
            refine zt_get (pc' := 52) (v := .ref (X.1.1 + 217)) hX dX12_qTest_49 rfl zf_X12_180 (by decide) zc_164 zs_46 (zrf_of (zv_46_79 hI123 zc_164)) ?_
            refine zt_cVz (pc' := 55) hX dX12_qTest_52 rfl zm_yX12_isHere zw_26_8 zc_164 (by decide) zs_46 (q := (RX12, TX12, 108)) rfl rfl (zc_X12_isHere _ _ s120 hI123 217 99 3 zc_217 (by decide) zs_99 (by decide)) rfl rfl (Nat.le_of_ble_eq_true rfl) (by decide) (fun r151 s152 hr153 hp154 => ?_)
            obtain ⟨hI155, hF156, q157, q158, z159, z160, z161, z162⟩ := hp154
            obtain ⟨-, w164, w165, w166, -, -, w169, -⟩ := zE_q1 hF156
            have e171 := hF156 164 3 rfl
            have e172 := hF156 164 97 rfl
            have e173 := hF156 164 99 rfl
            have e174 := hF156 164 101 rfl
            have hF175 := zOn_tr hF143 hF156 zi_12
            have b176 := zv_46_2 hI155 zc_164
            have b177 := zv_46_3 hI155 zc_164
            have b178 := zv_46_5 hI155 zc_164
            have b179 := zv_46_97 hI155 zc_164
            have b180 := zv_46_99 hI155 zc_164
            have b181 := zv_46_101 hI155 zc_164
            clear z162
            replace z159 : _ ∧ _ := ⟨z159.1, z159.2 (by omega)⟩
            refine zt_ifeq (pc' := 58) (tgt := 79) hX dX12_qTest_55 rfl (by decide) ⟨by omega, by omega⟩ (fun c182 => ?_) (fun c182 => ?_)
            · clear z160
              refine zt_aload_n (pc' := 80) hX dX12_qTest_79 rfl rfl ?_
              refine zt_cVv (pc' := 83) hX dX12_qTest_80 rfl zm_yX12_qFact zw_29_14 zc_164 (by decide) zs_46 (q := (RX12, TX12, 108)) rfl rfl (zc_X12_qFact _ _ s152 hI155 (by omega) (by omega) (by omega) (by omega) (by omega)) rfl rfl (Nat.le_of_ble_eq_true rfl) (by decide) (fun r183 s184 hr185 hp186 => ?_)
              obtain ⟨hI187, hF188, z189, z190, z191, z192, z193, z194⟩ := hp186
              have e195 := hF188 164 3 rfl
              have hF196 := zOn_tr hF175 hF188 zi_id
              have b197 := zv_46_2 hI187 zc_164
              have b198 := zv_46_3 hI187 zc_164
              have b199 := zv_46_5 hI187 zc_164
              have b200 := zv_46_97 hI187 zc_164
              have b201 := zv_46_99 hI187 zc_164
              have b202 := zv_46_101 hI187 zc_164
              have h203n := zBt_nn s184
              refine zt_aload_n (pc' := 84) hX dX12_qTest_83 rfl rfl ?_
              refine zt_cVv (pc' := 87) hX dX12_qTest_84 rfl zm_yX12_qDropsNots zw_32_3 zc_164 (by decide) zs_46 (q := (RX12, TX12, 108)) rfl rfl (zc_X12_qDropsNots _ _ s184 hI187 (by omega) (fun hb => by have qz194 := z194 (by omega); have qz193 := z193 (by omega); clear z194 z193; omega)) rfl rfl (Nat.le_of_ble_eq_true rfl) (by decide) (fun r204 s205 hr206 hp207 => ?_)
              obtain ⟨hI208, hF209, z210, z211, z212⟩ := hp207
              have e213 := hF209 164 2 rfl
              have e214 := hF209 164 3 rfl
              have e215 := hF209 164 5 rfl
              have e216 := hF209 164 101 rfl
              have hF217 := zOn_tr hF196 hF209 zi_52
              have b218 := zv_46_2 hI208 zc_164
              have b219 := zv_46_3 hI208 zc_164
              have b220 := zv_46_5 hI208 zc_164
              have b221 := zv_46_97 hI208 zc_164
              have b222 := zv_46_99 hI208 zc_164
              have b223 := zv_46_101 hI208 zc_164
              refine zt_aload_n (pc' := 88) hX dX12_qTest_87 rfl rfl ?_
              have b224 := zv_46_5 hI208 zc_164
              refine zt_get (pc' := 91) (v := .int (zI (s205 164 5))) hX dX12_qTest_88 rfl zf_X12_246 (by decide) zc_164 zs_46 rfl ?_
              have J_106_240 : ∀ (y225 : Int) (s228 : zSto), 0 ≤ y225 → y225 ≤ 1 → zInv s228 → zOn zQ2 σ s228 → (y225 = 1 → s228 164 5 = 0 ∧ zHt s228 - zBt s228 = zHt σ - zBt σ ∧ s10 164 2 < s228 164 2) → (s228 164 5 = 0 → y225 = 0 → zHt s228 - zBt s228 = zHt σ - zBt σ + 1 ∧ zsq s228 = 0) → s10 164 2 ≤ s228 164 2 → (0 ≤ y225 ∧ y225 ≤ 1) → (σ 164 2 ≤ s228 164 2 ∧ s228 164 2 ≤ σ 164 3) → s228 164 3 = σ 164 3 → s228 164 101 = σ 164 101 → s228 164 97 + s228 164 99 + σ 164 2 ≤ σ 164 97 + σ 164 99 + s228 164 2 + 1 → (s228 164 5 = 0 → s228 164 97 + s228 164 99 + σ 164 2 ≤ σ 164 97 + σ 164 99 + s228 164 2) → (s228 164 5 = 0 → zt s228 = 1) → zF X s228 106 [some (.ref (X.1.1 + 164)), none, none] [.int (zI y225)] := by
                clear z128 z193 z194
                intro y225 s228 h226 h227 hI229 hF230 g231 g232 g233 g234 g235 g236 g237 g238 g239 g240
                have b242 := zv_46_2 hI229 zc_164
                have b243 := zv_46_3 hI229 zc_164
                have b244 := zv_46_5 hI229 zc_164
                have b245 := zv_46_97 hI229 zc_164
                have b246 := zv_46_99 hI229 zc_164
                have b247 := zv_46_101 hI229 zc_164
                refine zt_istore_n (pc' := 107) (lv' := [some (.ref (X.1.1 + 164)), some (.int (zI y225)), none]) hX dX12_qTest_106 rfl hL (by decide) rfl ?_
                refine zt_goto (tgt := 2) hX dX12_qTest_107 (by decide) ?_
                exact ih23 y225 s228 (by omega) (by omega) hI229 hF230 (fun hb => by have qg240 := g240 (by omega); have qg239 := g239 (by omega); have qg232 := g232 (by omega); clear g240 g239 g232; omega) (fun hb => by have qg240 := g240 (by omega); have qg239 := g239 (by omega); have qg232 := g232 (by omega); clear g240 g239 g232; omega) (by omega) (by omega) (by omega) (by omega) (fun hb => by have qg240 := g240 (by omega); have qg239 := g239 (by omega); have qg232 := g232 (by omega); clear g240 g239 g232; omega) (fun hb => by have qg240 := g240 (by omega); have qg239 := g239 (by omega); have qg232 := g232 (by omega); clear g240 g239 g232; omega) (Decidable.byCases (p := s228 164 5 = 0) (fun hb => by have qg240 := g240 (by omega); have qg239 := g239 (by omega); have qg232 := g232 (by omega); clear g240 g239 g232; omega) (fun hb => by clear g232 g239 g240; omega))
              have J_105_258 : ∀ (s248 : zSto), zInv s248 → zOn zQ2 σ s248 → (s248 164 5 = 0 → zHt s248 - zBt s248 = zHt σ - zBt σ + 1 ∧ zsq s248 = 0) → s10 164 2 ≤ s248 164 2 → (σ 164 2 ≤ s248 164 2 ∧ s248 164 2 ≤ σ 164 3) → s248 164 3 = σ 164 3 → s248 164 101 = σ 164 101 → s248 164 97 + s248 164 99 + σ 164 2 ≤ σ 164 97 + σ 164 99 + s248 164 2 + 1 → (s248 164 5 = 0 → s248 164 97 + s248 164 99 + σ 164 2 ≤ σ 164 97 + σ 164 99 + s248 164 2) → (s248 164 5 = 0 → zt s248 = 1) → zF X s248 105 [some (.ref (X.1.1 + 164)), none, none] [] := by
                clear z128 z193 z194
                intro s248 hI249 hF250 g251 g252 g253 g254 g255 g256 g257 g258
                have b260 := zv_46_2 hI249 zc_164
                have b261 := zv_46_3 hI249 zc_164
                have b262 := zv_46_5 hI249 zc_164
                have b263 := zv_46_97 hI249 zc_164
                have b264 := zv_46_99 hI249 zc_164
                have b265 := zv_46_101 hI249 zc_164
                refine zt_iconst (pc' := 106) hX dX12_qTest_105 rfl ?_
                exact J_106_240 0 s248 (by omega) (by omega) hI249 hF250 (by omega) (fun hb => by have qg258 := g258 (by omega); have qg257 := g257 (by omega); have qg251 := g251 (by omega); clear g258 g257 g251; omega) (by omega) (by omega) (by omega) (by omega) (by omega) (by omega) (fun hb => by have qg258 := g258 (by omega); have qg257 := g257 (by omega); have qg251 := g251 (by omega); clear g258 g257 g251; omega) (fun hb => by have qg258 := g258 (by omega); have qg257 := g257 (by omega); have qg251 := g251 (by omega); clear g258 g257 g251; omega)
              refine zt_ifne (pc' := 94) (tgt := 105) hX dX12_qTest_91 rfl (by decide) ⟨by omega, by omega⟩ (fun c266 => ?_) (fun c266 => ?_)
              · clear z194 z193
                refine zt_mask [true, false, false] rfl ?_
                exact J_105_258 s205 hI208 hF217 (fun hb => by omega) (by omega) (by omega) (by omega) (by omega) (by omega) (fun hb => by omega) (fun hb => by omega)
              · have qz194 := z194 (by omega)
                have qz193 := z193 (by omega)
                clear z194 z193
                refine zt_aload_n (pc' := 95) hX dX12_qTest_94 rfl rfl ?_
                refine zt_cVz (pc' := 98) hX dX12_qTest_95 rfl zm_yX12_qGoesOnTest zw_32_7 zc_164 (by decide) zs_46 (q := (RX12, TX12, 108)) rfl rfl (zc_X12_qGoesOnTest _ _ s205 hI208 (by omega) (by omega) (by omega) (by omega) (by omega)) rfl rfl (Nat.le_of_ble_eq_true rfl) (by decide) (fun r267 s268 hr269 hp270 => ?_)
                obtain ⟨hI271, hF272, q273, q274, z275, z276, z277, z278, z279, z280, z281⟩ := hp270
                have e282 := hF272 164 3 rfl
                have hF283 := zOn_tr hF217 hF272 zi_id
                have b284 := zv_46_2 hI271 zc_164
                have b285 := zv_46_3 hI271 zc_164
                have b286 := zv_46_5 hI271 zc_164
                have b287 := zv_46_97 hI271 zc_164
                have b288 := zv_46_99 hI271 zc_164
                have b289 := zv_46_101 hI271 zc_164
                refine zt_ifeq (pc' := 101) (tgt := 105) hX dX12_qTest_98 rfl (by decide) ⟨by omega, by omega⟩ (fun c290 => ?_) (fun c290 => ?_)
                · clear z279
                  refine zt_mask [true, false, false] rfl ?_
                  exact J_105_258 s268 hI271 hF283 (fun hb => by have qz281 := z281 (by omega); have qz280 := z280 (by omega); clear z281 z280; omega) (by omega) (by omega) (by omega) (by omega) (by omega) (fun hb => by have qz281 := z281 (by omega); have qz280 := z280 (by omega); clear z281 z280; omega) (fun hb => by have qz281 := z281 (by omega); have qz280 := z280 (by omega); clear z281 z280; omega)
                · have qz279 := z279 (by omega)
                  clear z279
                  refine zt_iconst (pc' := 102) hX dX12_qTest_101 rfl ?_
                  refine zt_goto (tgt := 106) hX dX12_qTest_102 (by decide) ?_
                  refine zt_mask [true, false, false] rfl ?_
                  exact J_106_240 1 s268 (by omega) (by omega) hI271 hF283 (by omega) (fun hb => by have qz281 := z281 (by omega); have qz280 := z280 (by omega); clear z281 z280; omega) (by omega) (by omega) (by omega) (by omega) (by omega) (by omega) (fun hb => by have qz281 := z281 (by omega); have qz280 := z280 (by omega); clear z281 z280; omega) (fun hb => by have qz281 := z281 (by omega); have qz280 := z280 (by omega); clear z281 z280; omega)
            · have qz160 := z160 (by omega)
              clear z160
              refine zt_aload_n (pc' := 59) hX dX12_qTest_58 rfl rfl ?_
              refine zt_bipush (pc' := 61) hX dX12_qTest_59 rfl (by decide) (by decide) ?_
              refine zt_aload_n (pc' := 62) hX dX12_qTest_61 rfl rfl ?_
              have b291 := zv_46_2 hI155 zc_164
              refine zt_get (pc' := 65) (v := .int (zI (s152 164 2))) hX dX12_qTest_62 rfl zf_X12_252 (by decide) zc_164 zs_46 rfl ?_
              refine zt_cVv (pc' := 68) hX dX12_qTest_65 rfl zm_yX12_qOpens zw_29_10 zc_164 (by decide) zs_46 (q := (RX12, TX12, 108)) rfl rfl (zc_X12_qOpens_T _ _ s152 hI155 12 ⟨by omega, by omega⟩ (s152 164 2) ⟨by omega, by omega⟩ (by omega) (by omega)) rfl rfl (Nat.le_of_ble_eq_true rfl) (by decide) (fun r292 s293 hr294 hp295 => ?_)
              obtain ⟨hI296, hF297, z298, z299, z300, z301⟩ := hp295
              have e302 := hF297 164 3 rfl
              have hF303 := zOn_tr hF175 hF297 zi_id
              have b304 := zv_46_2 hI296 zc_164
              have b305 := zv_46_3 hI296 zc_164
              have b306 := zv_46_5 hI296 zc_164
              have b307 := zv_46_97 hI296 zc_164
              have b308 := zv_46_99 hI296 zc_164
              have b309 := zv_46_101 hI296 zc_164
              refine zt_aload_n (pc' := 69) hX dX12_qTest_68 rfl rfl ?_
              refine zt_aload_n (pc' := 70) hX dX12_qTest_69 rfl rfl ?_
              refine zt_get (pc' := 73) (v := .ref (X.1.1 + 217)) hX dX12_qTest_70 rfl zf_X12_180 (by decide) zc_164 zs_46 (zrf_of (zv_46_79 hI296 zc_164)) ?_
              refine zt_cVv (pc' := 76) hX dX12_qTest_73 rfl zm_yX12_asks zw_26_0 zc_164 (by decide) zs_46 (q := (RX12, TX12, 108)) rfl rfl (zc_X12_asks _ _ s293 hI296 217 99 3 zc_217 (by decide) zs_99 (by decide)) rfl rfl (Nat.le_of_ble_eq_true rfl) (by decide) (fun r310 s311 hr312 hp313 => ?_)
              obtain ⟨hI314, hF315, z316, z317⟩ := hp313
              obtain ⟨-, w319, w320, w321, -, -, w324, -⟩ := zE_q1 hF315
              have e326 := hF315 164 3 rfl
              have e327 := hF315 164 97 rfl
              have e328 := hF315 164 99 rfl
              have e329 := hF315 164 101 rfl
              have hF330 := zOn_tr hF303 hF315 zi_12
              have b331 := zv_46_2 hI314 zc_164
              have b332 := zv_46_3 hI314 zc_164
              have b333 := zv_46_5 hI314 zc_164
              have b334 := zv_46_97 hI314 zc_164
              have b335 := zv_46_99 hI314 zc_164
              have b336 := zv_46_101 hI314 zc_164
              replace z316 : _ ∧ _ := ⟨z316.1, z316.2 (by omega)⟩
              refine zt_goto (tgt := 2) hX dX12_qTest_76 (by decide) ?_
              refine zt_mask [true, true, false] rfl ?_
              exact ih23 x7 s311 (by omega) (by omega) hI314 hF330 (fun hb => by have qz317 := z317 (by omega); have qz301 := z301 (by omega); have qz300 := z300 (by omega); have qz299 := z299 (by omega); clear z317 z301 z300 z299; omega) (fun hb => by have qz317 := z317 (by omega); have qz301 := z301 (by omega); have qz300 := z300 (by omega); have qz299 := z299 (by omega); clear z317 z301 z300 z299; omega) (by omega) (by omega) (by omega) (by omega) (fun hb => by have qz317 := z317 (by omega); have qz301 := z301 (by omega); have qz300 := z300 (by omega); have qz299 := z299 (by omega); clear z317 z301 z300 z299; omega) (fun hb => by have qz317 := z317 (by omega); have qz301 := z301 (by omega); have qz300 := z300 (by omega); have qz299 := z299 (by omega); clear z317 z301 z300 z299; omega) (Decidable.byCases (p := s311 164 5 = 0) (fun hb => by have qz317 := z317 (by omega); have qz301 := z301 (by omega); have qz300 := z300 (by omega); have qz299 := z299 (by omega); clear z317 z301 z300 z299; omega) (fun hb => by clear z128 z299 z300 z301 z317; omega))
          · have qz128 := z128 (by omega)
            clear z128
            refine zt_aload_n (pc' := 25) hX dX12_qTest_24 rfl rfl ?_
            refine zt_bipush (pc' := 27) hX dX12_qTest_25 rfl (by decide) (by decide) ?_
            refine zt_aload_n (pc' := 28) hX dX12_qTest_27 rfl rfl ?_
            have b337 := zv_46_2 hI123 zc_164
            refine zt_get (pc' := 31) (v := .int (zI (s120 164 2))) hX dX12_qTest_28 rfl zf_X12_252 (by decide) zc_164 zs_46 rfl ?_
            refine zt_cVv (pc' := 34) hX dX12_qTest_31 rfl zm_yX12_qOpens zw_29_10 zc_164 (by decide) zs_46 (q := (RX12, TX12, 108)) rfl rfl (zc_X12_qOpens_T _ _ s120 hI123 25 ⟨by omega, by omega⟩ (s120 164 2) ⟨by omega, by omega⟩ (by omega) (by omega)) rfl rfl (Nat.le_of_ble_eq_true rfl) (by decide) (fun r338 s339 hr340 hp341 => ?_)
            obtain ⟨hI342, hF343, z344, z345, z346, z347⟩ := hp341
            have e348 := hF343 164 3 rfl
            have hF349 := zOn_tr hF143 hF343 zi_id
            have b350 := zv_46_2 hI342 zc_164
            have b351 := zv_46_3 hI342 zc_164
            have b352 := zv_46_5 hI342 zc_164
            have b353 := zv_46_97 hI342 zc_164
            have b354 := zv_46_99 hI342 zc_164
            have b355 := zv_46_101 hI342 zc_164
            refine zt_aload_n (pc' := 35) hX dX12_qTest_34 rfl rfl ?_
            refine zt_dup (pc' := 36) hX dX12_qTest_35 rfl rfl ?_
            have b356 := zv_46_2 hI342 zc_164
            refine zt_get (pc' := 39) (v := .int (zI (s339 164 2))) hX dX12_qTest_36 rfl zf_X12_252 (by decide) zc_164 zs_46 rfl ?_
            refine zt_iconst (pc' := 40) hX dX12_qTest_39 rfl ?_
            refine zt_iadd (pc' := 41) hX dX12_qTest_40 rfl ?_
            refine zt_put (pc' := 44) (x := ((s339 164 2) + 1)) hX dX12_qTest_41 rfl zf_X12_252 (by decide) zc_164 zs_46 (fun q hq => by cases hq; rfl) rfl rfl rfl ?_
            generalize hs358 : zset s339 164 2 ((s339 164 2) + 1) = s357
            have hI359 : zInv s357 := hs358 ▸ zp_46_2 hI342 zc_164 ⟨by omega, by omega⟩
            have hF360 : zOn zQ2 σ s357 := hs358 ▸ zOn_set hF349 (by decide)
            obtain ⟨-, w362, w363, w364, -, -, w367, -⟩ := zE_set hs358 (by decide)
            have e369 : s357 164 2 = ((s339 164 2) + 1) := by rw [← hs358]; exact zset_s
            have e370 : s357 164 3 = s339 164 3 := by rw [← hs358]; exact zset_j (by decide)
            have e371 : s357 164 5 = s339 164 5 := by rw [← hs358]; exact zset_j (by decide)
            have e372 : s357 164 97 = s339 164 97 := by rw [← hs358]; exact zset_j (by decide)
            have e373 : s357 164 99 = s339 164 99 := by rw [← hs358]; exact zset_j (by decide)
            have e374 : s357 164 101 = s339 164 101 := by rw [← hs358]; exact zset_j (by decide)
            refine zt_goto (tgt := 2) hX dX12_qTest_44 (by decide) ?_
            refine zt_mask [true, true, false] rfl ?_
            exact ih23 x7 s357 (by omega) (by omega) hI359 hF360 (fun hb => by have qz347 := z347 (by omega); have qz346 := z346 (by omega); have qz345 := z345 (by omega); clear z347 z346 z345; omega) (fun hb => by have qz347 := z347 (by omega); have qz346 := z346 (by omega); have qz345 := z345 (by omega); clear z347 z346 z345; omega) (by omega) (by omega) (by omega) (by omega) (fun hb => by have qz347 := z347 (by omega); have qz346 := z346 (by omega); have qz345 := z345 (by omega); clear z347 z346 z345; omega) (fun hb => by have qz347 := z347 (by omega); have qz346 := z346 (by omega); have qz345 := z345 (by omega); clear z347 z346 z345; omega) (Decidable.byCases (p := s357 164 5 = 0) (fun hb => by have qz347 := z347 (by omega); have qz346 := z346 (by omega); have qz345 := z345 (by omega); clear z347 z346 z345; omega) (fun hb => by clear z345 z346 z347; omega))
  exact L_2_20 _ 1 σ (by omega) (by omega) hI hF (fun hb => by omega) (fun hb => by omega) (by omega) (by omega) (by omega) (by omega) (fun hb => by omega) (fun hb => by omega) (Nat.lt_succ_self _)
