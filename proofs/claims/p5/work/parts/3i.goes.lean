set_option maxRecDepth 100000 in
set_option maxHeartbeats 1000000 in
theorem zc_X12_qGoesOn (l : Launch) (E : zEN) (σ : zSto) (hI : zInv σ) (hpre0 : σ 164 5 = 0) (hpre1 : σ 164 2 ≤ σ 164 3) (hpre2 : σ 164 97 + σ 164 99 ≤ σ 164 2) (hpre3 : σ 164 101 ≤ σ 164 99) (hpre4 : zr σ = 1) (hpre5 : zBt σ + 1 ≤ zHt σ) : zCt l E yX12_qGoesOn cX12_qGoesOn 2 (some .boolean) 3 zNC zNC 0 0 σ [.ref (E.1 + 164)] (fun r σ' => zInv σ' ∧ zOn zQ2 σ σ' ∧ 0 ≤ r ∧ r ≤ 1 ∧ (σ' 164 2 ≤ σ 164 3) ∧ (σ 164 2 ≤ σ' 164 2) ∧ (σ' 164 101 = σ 164 101) ∧ (σ 164 101 ≤ σ' 164 99) ∧ (σ' 164 97 + σ' 164 99 + σ 164 2 ≤ σ 164 97 + σ 164 99 + σ' 164 2) ∧ (r = 1 → σ' 164 5 = 0) ∧ (σ' 164 5 = 0 → zr σ' = 1 ∧ zHt σ' - zBt σ' + r = zHt σ - zBt σ) ∧ (σ' 164 5 = 0 → r = 0 → ztb σ' = -1) ∧ (zBb σ' = zBb σ ∧ zSb σ' = zSb σ)) := by
  refine zCt_of2 [some (.ref (E.1 + 164)), none] (by decide +kernel) (Nat.le_of_ble_eq_true rfl) rfl ?_
  intro X hE hX hR hL hN
  subst hE
  have hX : zok X cX12_qGoesOn RX12 3 := hX
  have hF := zOn_rf zQ2 σ
  have b1 := zv_46_2 hI zc_164
  have b2 := zv_46_3 hI zc_164
  have b3 := zv_46_5 hI zc_164
  have b4 := zv_46_97 hI zc_164
  have b5 := zv_46_99 hI zc_164
  have b6 := zv_46_101 hI zc_164
  have L_0_17 : ∀ (N : Nat) (s7 : zSto), zInv s7 → zOn zQ2 σ s7 → (σ 164 2 ≤ s7 164 2 ∧ s7 164 2 ≤ σ 164 3) → s7 164 3 = σ 164 3 → s7 164 101 = σ 164 101 → σ 164 101 ≤ s7 164 99 → s7 164 5 = 0 → s7 164 97 + s7 164 99 + σ 164 2 ≤ σ 164 97 + σ 164 99 + s7 164 2 → (zr s7 = 1 ∧ zHt s7 - zBt s7 = zHt σ - zBt σ) → (zBb s7 = zBb σ ∧ zSb s7 = zSb σ) → ((1601 - s7 164 2).toNat) < N → zF X s7 0 [some (.ref (X.1.1 + 164)), none] [] := by
    intro N
    induction N with
    | zero =>
      intro s7 hI8 hF9 g10 g11 g12 g13 g14 g15 g16 g17 hm19
      exact absurd hm19 (Nat.not_lt_zero _)
    | succ N ih20 =>
      intro s7 hI8 hF9 g10 g11 g12 g13 g14 g15 g16 g17 hm19
      have b21 := zv_46_2 hI8 zc_164
      have b22 := zv_46_3 hI8 zc_164
      have b23 := zv_46_5 hI8 zc_164
      have b24 := zv_46_97 hI8 zc_164
      have b25 := zv_46_99 hI8 zc_164
      have b26 := zv_46_101 hI8 zc_164
      refine zt_aload_n (pc' := 1) hX dX12_qGoesOn_0 rfl rfl ?_
      have b27 := zv_46_5 hI8 zc_164
      refine zt_get (pc' := 4) (v := .int (zI (s7 164 5))) hX dX12_qGoesOn_1 rfl zf_X12_246 (by decide) zc_164 zs_46 rfl ?_
      have J_122_38 : ∀ (s28 : zSto), zInv s28 → zOn zQ2 σ s28 → (σ 164 2 ≤ s28 164 2 ∧ s28 164 2 ≤ σ 164 3) → s28 164 3 = σ 164 3 → s28 164 101 = σ 164 101 → σ 164 101 ≤ s28 164 99 → s28 164 5 = 0 → s28 164 97 + s28 164 99 + σ 164 2 ≤ σ 164 97 + σ 164 99 + s28 164 2 → (zr s28 = 1 ∧ zHt s28 - zBt s28 = zHt σ - zBt σ) → (zBb s28 = zBb σ ∧ zSb s28 = zSb σ) → zF X s28 122 [some (.ref (X.1.1 + 164)), none] [] := by
        intro s28 hI29 hF30 g31 g32 g33 g34 g35 g36 g37 g38
        have b40 := zv_46_2 hI29 zc_164
        have b41 := zv_46_3 hI29 zc_164
        have b42 := zv_46_5 hI29 zc_164
        have b43 := zv_46_97 hI29 zc_164
        have b44 := zv_46_99 hI29 zc_164
        have b45 := zv_46_101 hI29 zc_164
        refine zt_aload_n (pc' := 123) hX dX12_qGoesOn_122 rfl rfl ?_
        refine zt_bipush (pc' := 125) hX dX12_qGoesOn_123 rfl (by decide) (by decide) ?_
        refine zt_cVz (pc' := 128) hX dX12_qGoesOn_125 rfl zm_yX12_takesSign zw_27_14 zc_164 (by decide) zs_46 (q := (RX12, TX12, 108)) rfl rfl (zc_X12_takesSign _ _ s28 hI29 42 ⟨by omega, by omega⟩) rfl rfl (Nat.le_of_ble_eq_true rfl) (by decide) (fun r46 s47 hr48 hp49 => ?_)
        obtain ⟨hI50, hF51, q52, q53, z54, z55, z56⟩ := hp49
        obtain ⟨w57, -, w59, w60, w61, w62, -, w64⟩ := zE_q1 hF51
        have e65 := hF51 164 3 rfl
        have e66 := hF51 164 97 rfl
        have e67 := hF51 164 99 rfl
        have e68 := hF51 164 101 rfl
        have hF69 := zOn_tr hF30 hF51 zi_12
        have b70 := zv_46_2 hI50 zc_164
        have b71 := zv_46_3 hI50 zc_164
        have b72 := zv_46_5 hI50 zc_164
        have b73 := zv_46_97 hI50 zc_164
        have b74 := zv_46_99 hI50 zc_164
        have b75 := zv_46_101 hI50 zc_164
        replace z54 : _ ∧ _ := ⟨z54.1, z54.2 (by omega)⟩
        have J_140_88 : ∀ (s76 : zSto), zInv s76 → zOn zQ2 σ s76 → s76 164 97 + s76 164 99 + σ 164 2 + 1 ≤ σ 164 97 + σ 164 99 + s76 164 2 → 1 ≤ s76 164 2 → (σ 164 2 ≤ s76 164 2 ∧ s76 164 2 ≤ σ 164 3) → s76 164 3 = σ 164 3 → s76 164 101 = σ 164 101 → σ 164 101 ≤ s76 164 99 → s76 164 5 = 0 → s76 164 97 + s76 164 99 + σ 164 2 ≤ σ 164 97 + σ 164 99 + s76 164 2 → (zr s76 = 1 ∧ zHt s76 - zBt s76 = zHt σ - zBt σ) → (zBb s76 = zBb σ ∧ zSb s76 = zSb σ) → zF X s76 140 [some (.ref (X.1.1 + 164)), none] [] := by
          clear z55
          intro s76 hI77 hF78 g79 g80 g81 g82 g83 g84 g85 g86 g87 g88
          have b90 := zv_46_2 hI77 zc_164
          have b91 := zv_46_3 hI77 zc_164
          have b92 := zv_46_5 hI77 zc_164
          have b93 := zv_46_97 hI77 zc_164
          have b94 := zv_46_99 hI77 zc_164
          have b95 := zv_46_101 hI77 zc_164
          refine zt_aload_n (pc' := 141) hX dX12_qGoesOn_140 rfl rfl ?_
          refine zt_get (pc' := 144) (v := .ref (X.1.1 + 165)) hX dX12_qGoesOn_141 rfl zf_X12_7 (by decide) zc_164 zs_46 (zrf_of (zv_46_0 hI77 zc_164)) ?_
          refine zt_aload_n (pc' := 145) hX dX12_qGoesOn_144 rfl rfl ?_
          have b96 := zv_46_2 hI77 zc_164
          refine zt_get (pc' := 148) (v := .int (zI (s76 164 2))) hX dX12_qGoesOn_145 rfl zf_X12_252 (by decide) zc_164 zs_46 rfl ?_
          refine zt_iconst (pc' := 149) hX dX12_qGoesOn_148 rfl ?_
          refine zt_isub (pc' := 150) hX dX12_qGoesOn_149 rfl ?_
          refine zt_iald (pc' := 151) hX dX12_qGoesOn_150 rfl (by decide) zc_165 zs_47 (by decide) ⟨by omega, by omega⟩ ?_
          generalize hv97 : s76 165 (((s76 164 2) - 1).toNat) = v97
          have bv97 : 0 ≤ v97 ∧ v97 ≤ 255 := hv97 ▸ zv_47 hI77 zc_165 _
          refine zt_bipush (pc' := 153) hX dX12_qGoesOn_151 rfl (by decide) (by decide) ?_
          have J_161_100 : ∀ (y98 : Int), 3 ≤ y98 → y98 ≤ 4 → zF X s76 161 [some (.ref (X.1.1 + 164)), none] [.int (zI y98)] := by
            intro y98 h99 h100
            refine zt_istore_n (pc' := 162) (lv' := [some (.ref (X.1.1 + 164)), some (.int (zI y98))]) hX dX12_qGoesOn_161 rfl hL (by decide) rfl ?_
            have L_162_113 : ∀ (N : Nat) (s102 : zSto), zInv s102 → zOn zQ2 σ s102 → s102 164 97 + s102 164 99 + σ 164 2 + 1 ≤ σ 164 97 + σ 164 99 + s102 164 2 → (σ 164 2 ≤ s102 164 2 ∧ s102 164 2 ≤ σ 164 3) → s102 164 3 = σ 164 3 → s102 164 101 = σ 164 101 → σ 164 101 ≤ s102 164 99 → s102 164 5 = 0 → s102 164 97 + s102 164 99 + σ 164 2 ≤ σ 164 97 + σ 164 99 + s102 164 2 → (zr s102 = 1 ∧ zHt s102 - zBt s102 = zHt σ - zBt σ) → (zBb s102 = zBb σ ∧ zSb s102 = zSb σ) → ((s102 164 99).toNat) < N → zF X s102 162 [some (.ref (X.1.1 + 164)), some (.int (zI y98))] [] := by
              intro N
              induction N with
              | zero =>
                intro s102 hI103 hF104 g105 g106 g107 g108 g109 g110 g111 g112 g113 hm115
                exact absurd hm115 (Nat.not_lt_zero _)
              | succ N ih116 =>
                intro s102 hI103 hF104 g105 g106 g107 g108 g109 g110 g111 g112 g113 hm115
                have b117 := zv_46_2 hI103 zc_164
                have b118 := zv_46_3 hI103 zc_164
                have b119 := zv_46_5 hI103 zc_164
                have b120 := zv_46_97 hI103 zc_164
                have b121 := zv_46_99 hI103 zc_164
                have b122 := zv_46_101 hI103 zc_164
                refine zt_aload_n (pc' := 163) hX dX12_qGoesOn_162 rfl rfl ?_
                refine zt_iconst (pc' := 164) hX dX12_qGoesOn_163 rfl ?_
                refine zt_cVz (pc' := 167) hX dX12_qGoesOn_164 rfl zm_yX12_qIsOn zw_31_23 zc_164 (by decide) zs_46 (q := (RX12, TX12, 108)) rfl rfl (zc_X12_qIsOn _ _ s102 hI103 3 ⟨by omega, by omega⟩) rfl rfl (Nat.le_of_ble_eq_true rfl) (by decide) (fun r123 s124 hr125 hp126 => ?_)
                obtain ⟨rfl, q127, q128, z129, z130⟩ := hp126
                have J_178_131 : (1 ≤ s102 164 99 ∧ 1 ≤ s102 235 (s102 164 99 - 1).toNat ∧ s102 235 (s102 164 99 - 1).toNat ≤ 4) → zF X s102 178 [some (.ref (X.1.1 + 164)), some (.int (zI y98))] [] := by
                  intro g131
                  refine zt_aload_n (pc' := 179) hX dX12_qGoesOn_178 rfl rfl ?_
                  have h133 := zr_on (s := s102) rfl (by omega) (by omega) ⟨by omega, by omega⟩ (by omega)
                  refine zt_cVv (pc' := 182) hX dX12_qGoesOn_179 rfl zm_yX12_qDrops zw_31_4 zc_164 (by decide) zs_46 (q := (RX12, TX12, 108)) rfl rfl (zc_X12_qDrops_S _ _ s102 hI103 (by omega) (by omega) (by omega) (by omega) (by omega)) rfl rfl (Nat.le_of_ble_eq_true rfl) (by decide) (fun r134 s135 hr136 hp137 => ?_)
                  obtain ⟨hI138, hF139, z140, z141⟩ := hp137
                  have e142 := hF139 164 2 rfl
                  have e143 := hF139 164 3 rfl
                  have e144 := hF139 164 5 rfl
                  have e145 := hF139 164 101 rfl
                  have hF146 := zOn_tr hF104 hF139 zi_52
                  have b147 := zv_46_2 hI138 zc_164
                  have b148 := zv_46_3 hI138 zc_164
                  have b149 := zv_46_5 hI138 zc_164
                  have b150 := zv_46_97 hI138 zc_164
                  have b151 := zv_46_99 hI138 zc_164
                  have b152 := zv_46_101 hI138 zc_164
                  refine zt_goto (tgt := 162) hX dX12_qGoesOn_182 (by decide) ?_
                  exact ih116 s135 hI138 hF146 (by omega) (by omega) (by omega) (by omega) (by omega) (by omega) (by omega) (by omega) (by omega) (by omega)
                refine zt_ifne (pc' := 170) (tgt := 178) hX dX12_qGoesOn_167 rfl (by decide) ⟨by omega, by omega⟩ (fun c153 => ?_) (fun c153 => ?_)
                · have qz129 := z129 (by omega)
                  clear z129
                  clear z130
                  exact J_178_131 (by omega)
                · clear z129
                  have qz130 := z130 (by omega)
                  clear z130
                  refine zt_aload_n (pc' := 171) hX dX12_qGoesOn_170 rfl rfl ?_
                  refine zt_iconst (pc' := 172) hX dX12_qGoesOn_171 rfl ?_
                  refine zt_cVz (pc' := 175) hX dX12_qGoesOn_172 rfl zm_yX12_qIsOn zw_31_23 zc_164 (by decide) zs_46 (q := (RX12, TX12, 108)) rfl rfl (zc_X12_qIsOn _ _ s102 hI103 4 ⟨by omega, by omega⟩) rfl rfl (Nat.le_of_ble_eq_true rfl) (by decide) (fun r154 s155 hr156 hp157 => ?_)
                  obtain ⟨rfl, q158, q159, z160, z161⟩ := hp157
                  refine zt_ifeq (pc' := 178) (tgt := 185) hX dX12_qGoesOn_175 rfl (by decide) ⟨by omega, by omega⟩ (fun c162 => ?_) (fun c162 => ?_)
                  · clear z160
                    have qz161 := z161 (by omega)
                    clear z161
                    refine zt_aload_n (pc' := 186) hX dX12_qGoesOn_185 rfl rfl ?_
                    refine zt_get (pc' := 189) (v := .ref (X.1.1 + 235)) hX dX12_qGoesOn_186 rfl zf_X12_234 (by decide) zc_164 zs_46 (zrf_of (zv_46_98 hI103 zc_164)) ?_
                    refine zt_aload_n (pc' := 190) hX dX12_qGoesOn_189 rfl rfl ?_
                    have b163 := zv_46_99 hI103 zc_164
                    refine zt_get (pc' := 193) (v := .int (zI (s102 164 99))) hX dX12_qGoesOn_190 rfl zf_X12_333 (by decide) zc_164 zs_46 rfl ?_
                    refine zt_iload_n (pc' := 194) hX dX12_qGoesOn_193 rfl rfl ?_
                    refine zt_iast (pc' := 195) hX dX12_qGoesOn_194 rfl (by decide) zc_235 zs_117 (by decide) ⟨by omega, by omega⟩ ?_
                    generalize hs165 : zset s102 235 ((s102 164 99).toNat) y98 = s164
                    have hI166 : zInv s164 := hs165 ▸ zp_117 hI103 zc_235 ((s102 164 99).toNat) ⟨by omega, by omega⟩
                    have hF167 : zOn zQ2 σ s164 := hs165 ▸ zOn_set hF104 (zq2_235 (by omega))
                    have e168 : s164 164 2 = s102 164 2 := by rw [← hs165]; exact zset_k (zne_r zc_164 zc_235 (by decide))
                    have e169 : s164 164 3 = s102 164 3 := by rw [← hs165]; exact zset_k (zne_r zc_164 zc_235 (by decide))
                    have e170 : s164 164 5 = s102 164 5 := by rw [← hs165]; exact zset_k (zne_r zc_164 zc_235 (by decide))
                    have e171 : s164 164 97 = s102 164 97 := by rw [← hs165]; exact zset_k (zne_r zc_164 zc_235 (by decide))
                    have e172 : s164 164 99 = s102 164 99 := by rw [← hs165]; exact zset_k (zne_r zc_164 zc_235 (by decide))
                    have e173 : s164 164 101 = s102 164 101 := by rw [← hs165]; exact zset_k (zne_r zc_164 zc_235 (by decide))
                    refine zt_aload_n (pc' := 196) hX dX12_qGoesOn_195 rfl rfl ?_
                    refine zt_dup (pc' := 197) hX dX12_qGoesOn_196 rfl rfl ?_
                    have b174 := zv_46_99 hI166 zc_164
                    refine zt_get (pc' := 200) (v := .int (zI (s164 164 99))) hX dX12_qGoesOn_197 rfl zf_X12_333 (by decide) zc_164 zs_46 rfl ?_
                    refine zt_iconst (pc' := 201) hX dX12_qGoesOn_200 rfl ?_
                    refine zt_iadd (pc' := 202) hX dX12_qGoesOn_201 rfl ?_
                    refine zt_put (pc' := 205) (x := ((s164 164 99) + 1)) hX dX12_qGoesOn_202 rfl zf_X12_333 (by decide) zc_164 zs_46 (fun q hq => by cases hq; rfl) rfl rfl rfl ?_
                    generalize hs176 : zset s164 164 99 ((s164 164 99) + 1) = s175
                    have hI177 : zInv s175 := hs176 ▸ zp_46_99 hI166 zc_164 ⟨by omega, by omega⟩
                    have hF178 : zOn zQ2 σ s175 := hs176 ▸ zOn_set hF167 (by decide)
                    have e179 : s175 164 2 = s164 164 2 := by rw [← hs176]; exact zset_j (by decide)
                    have e180 : s175 164 3 = s164 164 3 := by rw [← hs176]; exact zset_j (by decide)
                    have e181 : s175 164 5 = s164 164 5 := by rw [← hs176]; exact zset_j (by decide)
                    have e182 : s175 164 97 = s164 164 97 := by rw [← hs176]; exact zset_j (by decide)
                    have e183 : s175 164 99 = ((s164 164 99) + 1) := by rw [← hs176]; exact zset_s
                    have e184 : s175 164 101 = s164 164 101 := by rw [← hs176]; exact zset_j (by decide)
                    obtain ⟨h185a, h185b⟩ := zpush_S hs165 hs176 (by omega) (by omega) (by omega) (by omega)
                    replace h185a := h185a (by omega)
                    have h185w := (zw_v y98).1 ⟨by omega, by omega⟩
                    refine zt_iconst (pc' := 206) hX dX12_qGoesOn_205 rfl ?_
                    exact zt_zret hX hR dX12_qGoesOn_206 ⟨by omega, by omega⟩ ⟨hI177, hF178, by omega, by omega, by omega, by omega, by omega, by omega, by omega, by omega, (fun hb => by omega), (fun hb => by omega), by omega⟩
                  · have qz160 := z160 (by omega)
                    clear z160
                    clear z161
                    exact J_178_131 (by omega)
            exact L_162_113 _ s76 hI77 hF78 (by omega) (by omega) (by omega) (by omega) (by omega) (by omega) (by omega) (by omega) (by omega) (Nat.lt_succ_self _)
          refine zt_icne (pc' := 156) (tgt := 160) hX dX12_qGoesOn_153 rfl (by decide) ⟨by omega, by omega⟩ ⟨by omega, by omega⟩ (fun c186 => ?_) (fun c186 => ?_)
          · refine zt_iconst (pc' := 161) hX dX12_qGoesOn_160 rfl ?_
            exact J_161_100 4 (by omega) (by omega)
          · refine zt_iconst (pc' := 157) hX dX12_qGoesOn_156 rfl ?_
            refine zt_goto (tgt := 161) hX dX12_qGoesOn_157 (by decide) ?_
            exact J_161_100 3 (by omega) (by omega)
        refine zt_ifne (pc' := 131) (tgt := 140) hX dX12_qGoesOn_128 rfl (by decide) ⟨by omega, by omega⟩ (fun c187 => ?_) (fun c187 => ?_)
        · have qz55 := z55 (by omega)
          clear z55
          exact J_140_88 s47 hI50 hF69 (by omega) (by omega) (by omega) (by omega) (by omega) (by omega) (by omega) (by omega) (by omega) (by omega)
        · clear z55
          refine zt_aload_n (pc' := 132) hX dX12_qGoesOn_131 rfl rfl ?_
          refine zt_bipush (pc' := 134) hX dX12_qGoesOn_132 rfl (by decide) (by decide) ?_
          refine zt_cVz (pc' := 137) hX dX12_qGoesOn_134 rfl zm_yX12_takesSign zw_27_14 zc_164 (by decide) zs_46 (q := (RX12, TX12, 108)) rfl rfl (zc_X12_takesSign _ _ s47 hI50 47 ⟨by omega, by omega⟩) rfl rfl (Nat.le_of_ble_eq_true rfl) (by decide) (fun r188 s189 hr190 hp191 => ?_)
          obtain ⟨hI192, hF193, q194, q195, z196, z197, z198⟩ := hp191
          obtain ⟨w199, -, w201, w202, w203, w204, -, w206⟩ := zE_q1 hF193
          have e207 := hF193 164 3 rfl
          have e208 := hF193 164 97 rfl
          have e209 := hF193 164 99 rfl
          have e210 := hF193 164 101 rfl
          have hF211 := zOn_tr hF69 hF193 zi_12
          have b212 := zv_46_2 hI192 zc_164
          have b213 := zv_46_3 hI192 zc_164
          have b214 := zv_46_5 hI192 zc_164
          have b215 := zv_46_97 hI192 zc_164
          have b216 := zv_46_99 hI192 zc_164
          have b217 := zv_46_101 hI192 zc_164
          replace z196 : _ ∧ _ := ⟨z196.1, z196.2 (by omega)⟩
          refine zt_ifeq (pc' := 140) (tgt := 207) hX dX12_qGoesOn_137 rfl (by decide) ⟨by omega, by omega⟩ (fun c218 => ?_) (fun c218 => ?_)
          · clear z197
            refine zt_aload_n (pc' := 208) hX dX12_qGoesOn_207 rfl rfl ?_
            refine zt_bipush (pc' := 210) hX dX12_qGoesOn_208 rfl (by decide) (by decide) ?_
            refine zt_cVz (pc' := 213) hX dX12_qGoesOn_210 rfl zm_yX12_takesSign zw_27_14 zc_164 (by decide) zs_46 (q := (RX12, TX12, 108)) rfl rfl (zc_X12_takesSign _ _ s189 hI192 43 ⟨by omega, by omega⟩) rfl rfl (Nat.le_of_ble_eq_true rfl) (by decide) (fun r219 s220 hr221 hp222 => ?_)
            obtain ⟨hI223, hF224, q225, q226, z227, z228, z229⟩ := hp222
            obtain ⟨w230, -, w232, w233, w234, w235, -, w237⟩ := zE_q1 hF224
            have e238 := hF224 164 3 rfl
            have e239 := hF224 164 97 rfl
            have e240 := hF224 164 99 rfl
            have e241 := hF224 164 101 rfl
            have hF242 := zOn_tr hF211 hF224 zi_12
            have b243 := zv_46_2 hI223 zc_164
            have b244 := zv_46_3 hI223 zc_164
            have b245 := zv_46_5 hI223 zc_164
            have b246 := zv_46_97 hI223 zc_164
            have b247 := zv_46_99 hI223 zc_164
            have b248 := zv_46_101 hI223 zc_164
            replace z227 : _ ∧ _ := ⟨z227.1, z227.2 (by omega)⟩
            have J_225_261 : ∀ (s249 : zSto), zInv s249 → zOn zQ2 σ s249 → s249 164 97 + s249 164 99 + σ 164 2 + 1 ≤ σ 164 97 + σ 164 99 + s249 164 2 → 1 ≤ s249 164 2 → (σ 164 2 ≤ s249 164 2 ∧ s249 164 2 ≤ σ 164 3) → s249 164 3 = σ 164 3 → s249 164 101 = σ 164 101 → σ 164 101 ≤ s249 164 99 → s249 164 5 = 0 → s249 164 97 + s249 164 99 + σ 164 2 ≤ σ 164 97 + σ 164 99 + s249 164 2 → (zr s249 = 1 ∧ zHt s249 - zBt s249 = zHt σ - zBt σ) → (zBb s249 = zBb σ ∧ zSb s249 = zSb σ) → zF X s249 225 [some (.ref (X.1.1 + 164)), none] [] := by
              clear z228
              intro s249 hI250 hF251 g252 g253 g254 g255 g256 g257 g258 g259 g260 g261
              have b263 := zv_46_2 hI250 zc_164
              have b264 := zv_46_3 hI250 zc_164
              have b265 := zv_46_5 hI250 zc_164
              have b266 := zv_46_97 hI250 zc_164
              have b267 := zv_46_99 hI250 zc_164
              have b268 := zv_46_101 hI250 zc_164
              refine zt_aload_n (pc' := 226) hX dX12_qGoesOn_225 rfl rfl ?_
              refine zt_get (pc' := 229) (v := .ref (X.1.1 + 165)) hX dX12_qGoesOn_226 rfl zf_X12_7 (by decide) zc_164 zs_46 (zrf_of (zv_46_0 hI250 zc_164)) ?_
              refine zt_aload_n (pc' := 230) hX dX12_qGoesOn_229 rfl rfl ?_
              have b269 := zv_46_2 hI250 zc_164
              refine zt_get (pc' := 233) (v := .int (zI (s249 164 2))) hX dX12_qGoesOn_230 rfl zf_X12_252 (by decide) zc_164 zs_46 rfl ?_
              refine zt_iconst (pc' := 234) hX dX12_qGoesOn_233 rfl ?_
              refine zt_isub (pc' := 235) hX dX12_qGoesOn_234 rfl ?_
              refine zt_iald (pc' := 236) hX dX12_qGoesOn_235 rfl (by decide) zc_165 zs_47 (by decide) ⟨by omega, by omega⟩ ?_
              generalize hv270 : s249 165 (((s249 164 2) - 1).toNat) = v270
              have bv270 : 0 ≤ v270 ∧ v270 ≤ 255 := hv270 ▸ zv_47 hI250 zc_165 _
              refine zt_bipush (pc' := 238) hX dX12_qGoesOn_236 rfl (by decide) (by decide) ?_
              have J_246_273 : ∀ (y271 : Int), 1 ≤ y271 → y271 ≤ 2 → zF X s249 246 [some (.ref (X.1.1 + 164)), none] [.int (zI y271)] := by
                intro y271 h272 h273
                refine zt_istore_n (pc' := 247) (lv' := [some (.ref (X.1.1 + 164)), some (.int (zI y271))]) hX dX12_qGoesOn_246 rfl hL (by decide) rfl ?_
                have L_247_286 : ∀ (N : Nat) (s275 : zSto), zInv s275 → zOn zQ2 σ s275 → s275 164 97 + s275 164 99 + σ 164 2 + 1 ≤ σ 164 97 + σ 164 99 + s275 164 2 → (σ 164 2 ≤ s275 164 2 ∧ s275 164 2 ≤ σ 164 3) → s275 164 3 = σ 164 3 → s275 164 101 = σ 164 101 → σ 164 101 ≤ s275 164 99 → s275 164 5 = 0 → s275 164 97 + s275 164 99 + σ 164 2 ≤ σ 164 97 + σ 164 99 + s275 164 2 → (zr s275 = 1 ∧ zHt s275 - zBt s275 = zHt σ - zBt σ) → (zBb s275 = zBb σ ∧ zSb s275 = zSb σ) → ((s275 164 99).toNat) < N → zF X s275 247 [some (.ref (X.1.1 + 164)), some (.int (zI y271))] [] := by
                  intro N
                  induction N with
                  | zero =>
                    intro s275 hI276 hF277 g278 g279 g280 g281 g282 g283 g284 g285 g286 hm288
                    exact absurd hm288 (Nat.not_lt_zero _)
                  | succ N ih289 =>
                    intro s275 hI276 hF277 g278 g279 g280 g281 g282 g283 g284 g285 g286 hm288
                    have b290 := zv_46_2 hI276 zc_164
                    have b291 := zv_46_3 hI276 zc_164
                    have b292 := zv_46_5 hI276 zc_164
                    have b293 := zv_46_97 hI276 zc_164
                    have b294 := zv_46_99 hI276 zc_164
                    have b295 := zv_46_101 hI276 zc_164
                    refine zt_aload_n (pc' := 248) hX dX12_qGoesOn_247 rfl rfl ?_
                    refine zt_iconst (pc' := 249) hX dX12_qGoesOn_248 rfl ?_
                    refine zt_cVz (pc' := 252) hX dX12_qGoesOn_249 rfl zm_yX12_qIsOn zw_31_23 zc_164 (by decide) zs_46 (q := (RX12, TX12, 108)) rfl rfl (zc_X12_qIsOn _ _ s275 hI276 3 ⟨by omega, by omega⟩) rfl rfl (Nat.le_of_ble_eq_true rfl) (by decide) (fun r296 s297 hr298 hp299 => ?_)
                    obtain ⟨rfl, q300, q301, z302, z303⟩ := hp299
                    have J_279_304 : (1 ≤ s275 164 99 ∧ 1 ≤ s275 235 (s275 164 99 - 1).toNat ∧ s275 235 (s275 164 99 - 1).toNat ≤ 4) → zF X s275 279 [some (.ref (X.1.1 + 164)), some (.int (zI y271))] [] := by
                      intro g304
                      refine zt_aload_n (pc' := 280) hX dX12_qGoesOn_279 rfl rfl ?_
                      have h306 := zr_on (s := s275) rfl (by omega) (by omega) ⟨by omega, by omega⟩ (by omega)
                      refine zt_cVv (pc' := 283) hX dX12_qGoesOn_280 rfl zm_yX12_qDrops zw_31_4 zc_164 (by decide) zs_46 (q := (RX12, TX12, 108)) rfl rfl (zc_X12_qDrops_S _ _ s275 hI276 (by omega) (by omega) (by omega) (by omega) (by omega)) rfl rfl (Nat.le_of_ble_eq_true rfl) (by decide) (fun r307 s308 hr309 hp310 => ?_)
                      obtain ⟨hI311, hF312, z313, z314⟩ := hp310
                      have e315 := hF312 164 2 rfl
                      have e316 := hF312 164 3 rfl
                      have e317 := hF312 164 5 rfl
                      have e318 := hF312 164 101 rfl
                      have hF319 := zOn_tr hF277 hF312 zi_52
                      have b320 := zv_46_2 hI311 zc_164
                      have b321 := zv_46_3 hI311 zc_164
                      have b322 := zv_46_5 hI311 zc_164
                      have b323 := zv_46_97 hI311 zc_164
                      have b324 := zv_46_99 hI311 zc_164
                      have b325 := zv_46_101 hI311 zc_164
                      refine zt_goto (tgt := 247) hX dX12_qGoesOn_283 (by decide) ?_
                      exact ih289 s308 hI311 hF319 (by omega) (by omega) (by omega) (by omega) (by omega) (by omega) (by omega) (by omega) (by omega) (by omega)
                    refine zt_ifne (pc' := 255) (tgt := 279) hX dX12_qGoesOn_252 rfl (by decide) ⟨by omega, by omega⟩ (fun c326 => ?_) (fun c326 => ?_)
                    · have qz302 := z302 (by omega)
                      clear z302
                      clear z303
                      exact J_279_304 (by omega)
                    · clear z302
                      have qz303 := z303 (by omega)
                      clear z303
                      refine zt_aload_n (pc' := 256) hX dX12_qGoesOn_255 rfl rfl ?_
                      refine zt_iconst (pc' := 257) hX dX12_qGoesOn_256 rfl ?_
                      refine zt_cVz (pc' := 260) hX dX12_qGoesOn_257 rfl zm_yX12_qIsOn zw_31_23 zc_164 (by decide) zs_46 (q := (RX12, TX12, 108)) rfl rfl (zc_X12_qIsOn _ _ s275 hI276 4 ⟨by omega, by omega⟩) rfl rfl (Nat.le_of_ble_eq_true rfl) (by decide) (fun r327 s328 hr329 hp330 => ?_)
                      obtain ⟨rfl, q331, q332, z333, z334⟩ := hp330
                      refine zt_ifne (pc' := 263) (tgt := 279) hX dX12_qGoesOn_260 rfl (by decide) ⟨by omega, by omega⟩ (fun c335 => ?_) (fun c335 => ?_)
                      · have qz333 := z333 (by omega)
                        clear z333
                        clear z334
                        exact J_279_304 (by omega)
                      · clear z333
                        have qz334 := z334 (by omega)
                        clear z334
                        refine zt_aload_n (pc' := 264) hX dX12_qGoesOn_263 rfl rfl ?_
                        refine zt_iconst (pc' := 265) hX dX12_qGoesOn_264 rfl ?_
                        refine zt_cVz (pc' := 268) hX dX12_qGoesOn_265 rfl zm_yX12_qIsOn zw_31_23 zc_164 (by decide) zs_46 (q := (RX12, TX12, 108)) rfl rfl (zc_X12_qIsOn _ _ s275 hI276 1 ⟨by omega, by omega⟩) rfl rfl (Nat.le_of_ble_eq_true rfl) (by decide) (fun r336 s337 hr338 hp339 => ?_)
                        obtain ⟨rfl, q340, q341, z342, z343⟩ := hp339
                        refine zt_ifne (pc' := 271) (tgt := 279) hX dX12_qGoesOn_268 rfl (by decide) ⟨by omega, by omega⟩ (fun c344 => ?_) (fun c344 => ?_)
                        · have qz342 := z342 (by omega)
                          clear z342
                          clear z343
                          exact J_279_304 (by omega)
                        · clear z342
                          have qz343 := z343 (by omega)
                          clear z343
                          refine zt_aload_n (pc' := 272) hX dX12_qGoesOn_271 rfl rfl ?_
                          refine zt_iconst (pc' := 273) hX dX12_qGoesOn_272 rfl ?_
                          refine zt_cVz (pc' := 276) hX dX12_qGoesOn_273 rfl zm_yX12_qIsOn zw_31_23 zc_164 (by decide) zs_46 (q := (RX12, TX12, 108)) rfl rfl (zc_X12_qIsOn _ _ s275 hI276 2 ⟨by omega, by omega⟩) rfl rfl (Nat.le_of_ble_eq_true rfl) (by decide) (fun r345 s346 hr347 hp348 => ?_)
                          obtain ⟨rfl, q349, q350, z351, z352⟩ := hp348
                          refine zt_ifeq (pc' := 279) (tgt := 286) hX dX12_qGoesOn_276 rfl (by decide) ⟨by omega, by omega⟩ (fun c353 => ?_) (fun c353 => ?_)
                          · clear z351
                            have qz352 := z352 (by omega)
                            clear z352
                            refine zt_aload_n (pc' := 287) hX dX12_qGoesOn_286 rfl rfl ?_
                            refine zt_get (pc' := 290) (v := .ref (X.1.1 + 235)) hX dX12_qGoesOn_287 rfl zf_X12_234 (by decide) zc_164 zs_46 (zrf_of (zv_46_98 hI276 zc_164)) ?_
                            refine zt_aload_n (pc' := 291) hX dX12_qGoesOn_290 rfl rfl ?_
                            have b354 := zv_46_99 hI276 zc_164
                            refine zt_get (pc' := 294) (v := .int (zI (s275 164 99))) hX dX12_qGoesOn_291 rfl zf_X12_333 (by decide) zc_164 zs_46 rfl ?_
                            refine zt_iload_n (pc' := 295) hX dX12_qGoesOn_294 rfl rfl ?_
                            refine zt_iast (pc' := 296) hX dX12_qGoesOn_295 rfl (by decide) zc_235 zs_117 (by decide) ⟨by omega, by omega⟩ ?_
                            generalize hs356 : zset s275 235 ((s275 164 99).toNat) y271 = s355
                            have hI357 : zInv s355 := hs356 ▸ zp_117 hI276 zc_235 ((s275 164 99).toNat) ⟨by omega, by omega⟩
                            have hF358 : zOn zQ2 σ s355 := hs356 ▸ zOn_set hF277 (zq2_235 (by omega))
                            have e359 : s355 164 2 = s275 164 2 := by rw [← hs356]; exact zset_k (zne_r zc_164 zc_235 (by decide))
                            have e360 : s355 164 3 = s275 164 3 := by rw [← hs356]; exact zset_k (zne_r zc_164 zc_235 (by decide))
                            have e361 : s355 164 5 = s275 164 5 := by rw [← hs356]; exact zset_k (zne_r zc_164 zc_235 (by decide))
                            have e362 : s355 164 97 = s275 164 97 := by rw [← hs356]; exact zset_k (zne_r zc_164 zc_235 (by decide))
                            have e363 : s355 164 99 = s275 164 99 := by rw [← hs356]; exact zset_k (zne_r zc_164 zc_235 (by decide))
                            have e364 : s355 164 101 = s275 164 101 := by rw [← hs356]; exact zset_k (zne_r zc_164 zc_235 (by decide))
                            refine zt_aload_n (pc' := 297) hX dX12_qGoesOn_296 rfl rfl ?_
                            refine zt_dup (pc' := 298) hX dX12_qGoesOn_297 rfl rfl ?_
                            have b365 := zv_46_99 hI357 zc_164
                            refine zt_get (pc' := 301) (v := .int (zI (s355 164 99))) hX dX12_qGoesOn_298 rfl zf_X12_333 (by decide) zc_164 zs_46 rfl ?_
                            refine zt_iconst (pc' := 302) hX dX12_qGoesOn_301 rfl ?_
                            refine zt_iadd (pc' := 303) hX dX12_qGoesOn_302 rfl ?_
                            refine zt_put (pc' := 306) (x := ((s355 164 99) + 1)) hX dX12_qGoesOn_303 rfl zf_X12_333 (by decide) zc_164 zs_46 (fun q hq => by cases hq; rfl) rfl rfl rfl ?_
                            generalize hs367 : zset s355 164 99 ((s355 164 99) + 1) = s366
                            have hI368 : zInv s366 := hs367 ▸ zp_46_99 hI357 zc_164 ⟨by omega, by omega⟩
                            have hF369 : zOn zQ2 σ s366 := hs367 ▸ zOn_set hF358 (by decide)
                            have e370 : s366 164 2 = s355 164 2 := by rw [← hs367]; exact zset_j (by decide)
                            have e371 : s366 164 3 = s355 164 3 := by rw [← hs367]; exact zset_j (by decide)
                            have e372 : s366 164 5 = s355 164 5 := by rw [← hs367]; exact zset_j (by decide)
                            have e373 : s366 164 97 = s355 164 97 := by rw [← hs367]; exact zset_j (by decide)
                            have e374 : s366 164 99 = ((s355 164 99) + 1) := by rw [← hs367]; exact zset_s
                            have e375 : s366 164 101 = s355 164 101 := by rw [← hs367]; exact zset_j (by decide)
                            obtain ⟨h376a, h376b⟩ := zpush_S hs356 hs367 (by omega) (by omega) (by omega) (by omega)
                            replace h376a := h376a (by omega)
                            have h376w := (zw_v y271).1 ⟨by omega, by omega⟩
                            refine zt_iconst (pc' := 307) hX dX12_qGoesOn_306 rfl ?_
                            exact zt_zret hX hR dX12_qGoesOn_307 ⟨by omega, by omega⟩ ⟨hI368, hF369, by omega, by omega, by omega, by omega, by omega, by omega, by omega, by omega, (fun hb => by omega), (fun hb => by omega), by omega⟩
                          · have qz351 := z351 (by omega)
                            clear z351
                            clear z352
                            exact J_279_304 (by omega)
                exact L_247_286 _ s249 hI250 hF251 (by omega) (by omega) (by omega) (by omega) (by omega) (by omega) (by omega) (by omega) (by omega) (Nat.lt_succ_self _)
              refine zt_icne (pc' := 241) (tgt := 245) hX dX12_qGoesOn_238 rfl (by decide) ⟨by omega, by omega⟩ ⟨by omega, by omega⟩ (fun c377 => ?_) (fun c377 => ?_)
              · refine zt_iconst (pc' := 246) hX dX12_qGoesOn_245 rfl ?_
                exact J_246_273 2 (by omega) (by omega)
              · refine zt_iconst (pc' := 242) hX dX12_qGoesOn_241 rfl ?_
                refine zt_goto (tgt := 246) hX dX12_qGoesOn_242 (by decide) ?_
                exact J_246_273 1 (by omega) (by omega)
            refine zt_ifne (pc' := 216) (tgt := 225) hX dX12_qGoesOn_213 rfl (by decide) ⟨by omega, by omega⟩ (fun c378 => ?_) (fun c378 => ?_)
            · have qz228 := z228 (by omega)
              clear z228
              exact J_225_261 s220 hI223 hF242 (by omega) (by omega) (by omega) (by omega) (by omega) (by omega) (by omega) (by omega) (by omega) (by omega)
            · clear z228
              refine zt_aload_n (pc' := 217) hX dX12_qGoesOn_216 rfl rfl ?_
              refine zt_bipush (pc' := 219) hX dX12_qGoesOn_217 rfl (by decide) (by decide) ?_
              refine zt_cVz (pc' := 222) hX dX12_qGoesOn_219 rfl zm_yX12_takesSign zw_27_14 zc_164 (by decide) zs_46 (q := (RX12, TX12, 108)) rfl rfl (zc_X12_takesSign _ _ s220 hI223 45 ⟨by omega, by omega⟩) rfl rfl (Nat.le_of_ble_eq_true rfl) (by decide) (fun r379 s380 hr381 hp382 => ?_)
              obtain ⟨hI383, hF384, q385, q386, z387, z388, z389⟩ := hp382
              obtain ⟨w390, -, w392, w393, w394, w395, -, w397⟩ := zE_q1 hF384
              have e398 := hF384 164 3 rfl
              have e399 := hF384 164 97 rfl
              have e400 := hF384 164 99 rfl
              have e401 := hF384 164 101 rfl
              have hF402 := zOn_tr hF242 hF384 zi_12
              have b403 := zv_46_2 hI383 zc_164
              have b404 := zv_46_3 hI383 zc_164
              have b405 := zv_46_5 hI383 zc_164
              have b406 := zv_46_97 hI383 zc_164
              have b407 := zv_46_99 hI383 zc_164
              have b408 := zv_46_101 hI383 zc_164
              replace z387 : _ ∧ _ := ⟨z387.1, z387.2 (by omega)⟩
              refine zt_ifeq (pc' := 225) (tgt := 308) hX dX12_qGoesOn_222 rfl (by decide) ⟨by omega, by omega⟩ (fun c409 => ?_) (fun c409 => ?_)
              · clear z388
                refine zt_aload_n (pc' := 309) hX dX12_qGoesOn_308 rfl rfl ?_
                refine zt_cVi (pc' := 312) hX dX12_qGoesOn_309 rfl zm_yX12_qBracket zw_31_12 zc_164 (by decide) zs_46 (q := (RX12, TX12, 108)) rfl rfl (zc_X12_qBracket _ _ s380 hI383 (by omega)) rfl rfl (Nat.le_of_ble_eq_true rfl) (by decide) (fun r410 s411 hr412 hp413 => ?_)
                obtain ⟨rfl, q414, q415, z416⟩ := hp413
                refine zt_bipush (pc' := 314) hX dX12_qGoesOn_312 rfl (by decide) (by decide) ?_
                have J_326_417 : (ztb s380 = 21 ∨ ztb s380 = 22) → zF X s380 326 [some (.ref (X.1.1 + 164)), none] [] := by
                  intro g417
                  refine zt_aload_n (pc' := 327) hX dX12_qGoesOn_326 rfl rfl ?_
                  refine zt_bipush (pc' := 329) hX dX12_qGoesOn_327 rfl (by decide) (by decide) ?_
                  refine zt_cVv (pc' := 332) hX dX12_qGoesOn_329 rfl zm_yX12_asksSign zw_27_10 zc_164 (by decide) zs_46 (q := (RX12, TX12, 108)) rfl rfl (zc_X12_asksSign _ _ s380 hI383 44 ⟨by omega, by omega⟩) rfl rfl (Nat.le_of_ble_eq_true rfl) (by decide) (fun r419 s420 hr421 hp422 => ?_)
                  obtain ⟨hI423, hF424, z425, z426⟩ := hp422
                  obtain ⟨w427, -, w429, w430, w431, w432, -, w434⟩ := zE_q1 hF424
                  have e435 := hF424 164 3 rfl
                  have e436 := hF424 164 97 rfl
                  have e437 := hF424 164 99 rfl
                  have e438 := hF424 164 101 rfl
                  have hF439 := zOn_tr hF402 hF424 zi_12
                  have b440 := zv_46_2 hI423 zc_164
                  have b441 := zv_46_3 hI423 zc_164
                  have b442 := zv_46_5 hI423 zc_164
                  have b443 := zv_46_97 hI423 zc_164
                  have b444 := zv_46_99 hI423 zc_164
                  have b445 := zv_46_101 hI423 zc_164
                  replace z425 : _ ∧ _ := ⟨z425.1, z425.2 (by omega)⟩
                  refine zt_aload_n (pc' := 333) hX dX12_qGoesOn_332 rfl rfl ?_
                  have b446 := zv_46_5 hI423 zc_164
                  refine zt_get (pc' := 336) (v := .int (zI (s420 164 5))) hX dX12_qGoesOn_333 rfl zf_X12_246 (by decide) zc_164 zs_46 rfl ?_
                  refine zt_ifeq (pc' := 339) (tgt := 341) hX dX12_qGoesOn_336 rfl (by decide) ⟨by omega, by omega⟩ (fun c447 => ?_) (fun c447 => ?_)
                  · have qz426 := z426 (by omega)
                    clear z426
                    refine zt_aload_n (pc' := 342) hX dX12_qGoesOn_341 rfl rfl ?_
                    refine zt_cVv (pc' := 345) hX dX12_qGoesOn_342 rfl zm_yX12_qDropsToBracket zw_31_19 zc_164 (by decide) zs_46 (q := (RX12, TX12, 108)) rfl rfl (zc_X12_qDropsToBracket _ _ s420 hI423 (by omega) (by omega) (by omega) (by omega)) rfl rfl (Nat.le_of_ble_eq_true rfl) (by decide) (fun r448 s449 hr450 hp451 => ?_)
                    obtain ⟨hI452, hF453, z454, z455, z456, z457⟩ := hp451
                    have e458 := hF453 164 2 rfl
                    have e459 := hF453 164 3 rfl
                    have e460 := hF453 164 5 rfl
                    have e461 := hF453 164 101 rfl
                    have hF462 := zOn_tr hF439 hF453 zi_52
                    have b463 := zv_46_2 hI452 zc_164
                    have b464 := zv_46_3 hI452 zc_164
                    have b465 := zv_46_5 hI452 zc_164
                    have b466 := zv_46_97 hI452 zc_164
                    have b467 := zv_46_99 hI452 zc_164
                    have b468 := zv_46_101 hI452 zc_164
                    replace z457 := z457 (by omega)
                    refine zt_aload_n (pc' := 346) hX dX12_qGoesOn_345 rfl rfl ?_
                    refine zt_get (pc' := 349) (v := .ref (X.1.1 + 235)) hX dX12_qGoesOn_346 rfl zf_X12_234 (by decide) zc_164 zs_46 (zrf_of (zv_46_98 hI452 zc_164)) ?_
                    refine zt_aload_n (pc' := 350) hX dX12_qGoesOn_349 rfl rfl ?_
                    have b470 := zv_46_99 hI452 zc_164
                    refine zt_get (pc' := 353) (v := .int (zI (s449 164 99))) hX dX12_qGoesOn_350 rfl zf_X12_333 (by decide) zc_164 zs_46 rfl ?_
                    refine zt_iconst (pc' := 354) hX dX12_qGoesOn_353 rfl ?_
                    refine zt_isub (pc' := 355) hX dX12_qGoesOn_354 rfl ?_
                    refine zt_dup2 (pc' := 356) hX dX12_qGoesOn_355 rfl rfl rfl ?_
                    refine zt_iald (pc' := 357) hX dX12_qGoesOn_356 rfl (by decide) zc_235 zs_117 (by decide) ⟨by omega, by omega⟩ ?_
                    generalize hv471 : s449 235 (((s449 164 99) - 1).toNat) = v471
                    have bv471 : -2147483648 ≤ v471 ∧ v471 ≤ 2147483647 := hv471 ▸ zv_117 hI452 zc_235 _
                    refine zt_iconst (pc' := 358) hX dX12_qGoesOn_357 rfl ?_
                    refine zt_iadd (pc' := 359) hX dX12_qGoesOn_358 rfl ?_
                    refine zt_iast (pc' := 360) hX dX12_qGoesOn_359 rfl (by decide) zc_235 zs_117 (by decide) ⟨by omega, by omega⟩ ?_
                    generalize hs473 : zset s449 235 (((s449 164 99) - 1).toNat) (v471 + 2) = s472
                    have hI474 : zInv s472 := hs473 ▸ zp_117 hI452 zc_235 (((s449 164 99) - 1).toNat) ⟨by omega, by omega⟩
                    have hF475 : zOn zQ2 σ s472 := hs473 ▸ zOn_set hF462 (zq2_235 (by omega))
                    have e476 : s472 164 2 = s449 164 2 := by rw [← hs473]; exact zset_k (zne_r zc_164 zc_235 (by decide))
                    have e477 : s472 164 3 = s449 164 3 := by rw [← hs473]; exact zset_k (zne_r zc_164 zc_235 (by decide))
                    have e478 : s472 164 5 = s449 164 5 := by rw [← hs473]; exact zset_k (zne_r zc_164 zc_235 (by decide))
                    have e479 : s472 164 97 = s449 164 97 := by rw [← hs473]; exact zset_k (zne_r zc_164 zc_235 (by decide))
                    have e480 : s472 164 99 = s449 164 99 := by rw [← hs473]; exact zset_k (zne_r zc_164 zc_235 (by decide))
                    have e481 : s472 164 101 = s449 164 101 := by rw [← hs473]; exact zset_k (zne_r zc_164 zc_235 (by decide))
                    obtain ⟨h482a, h482b⟩ := zcomma hs473 (by omega) (by omega) (by omega) (by omega) (by omega)
                    replace h482a := h482a (by omega)
                    refine zt_iconst (pc' := 361) hX dX12_qGoesOn_360 rfl ?_
                    exact zt_zret hX hR dX12_qGoesOn_361 ⟨by omega, by omega⟩ ⟨hI474, hF475, by omega, by omega, by omega, by omega, by omega, by omega, by omega, by omega, (fun hb => by omega), (fun hb => by omega), by omega⟩
                  · clear z426
                    refine zt_iconst (pc' := 340) hX dX12_qGoesOn_339 rfl ?_
                    exact zt_zret hX hR dX12_qGoesOn_340 ⟨by omega, by omega⟩ ⟨hI423, hF439, by omega, by omega, by omega, by omega, by omega, by omega, by omega, by omega, (fun hb => by omega), (fun hb => by omega), by omega⟩
                refine zt_iceq (pc' := 317) (tgt := 326) hX dX12_qGoesOn_314 rfl (by decide) ⟨by omega, by omega⟩ ⟨by omega, by omega⟩ (fun c483 => ?_) (fun c483 => ?_)
                · exact J_326_417 (by omega)
                · refine zt_aload_n (pc' := 318) hX dX12_qGoesOn_317 rfl rfl ?_
                  refine zt_cVi (pc' := 321) hX dX12_qGoesOn_318 rfl zm_yX12_qBracket zw_31_12 zc_164 (by decide) zs_46 (q := (RX12, TX12, 108)) rfl rfl (zc_X12_qBracket _ _ s380 hI383 (by omega)) rfl rfl (Nat.le_of_ble_eq_true rfl) (by decide) (fun r484 s485 hr486 hp487 => ?_)
                  obtain ⟨rfl, q488, q489, z490⟩ := hp487
                  refine zt_bipush (pc' := 323) hX dX12_qGoesOn_321 rfl (by decide) (by decide) ?_
                  refine zt_icne (pc' := 326) (tgt := 362) hX dX12_qGoesOn_323 rfl (by decide) ⟨by omega, by omega⟩ ⟨by omega, by omega⟩ (fun c491 => ?_) (fun c491 => ?_)
                  · refine zt_aload_n (pc' := 363) hX dX12_qGoesOn_362 rfl rfl ?_
                    refine zt_cVi (pc' := 366) hX dX12_qGoesOn_363 rfl zm_yX12_qBracket zw_31_12 zc_164 (by decide) zs_46 (q := (RX12, TX12, 108)) rfl rfl (zc_X12_qBracket _ _ s380 hI383 (by omega)) rfl rfl (Nat.le_of_ble_eq_true rfl) (by decide) (fun r492 s493 hr494 hp495 => ?_)
                    obtain ⟨rfl, q496, q497, z498⟩ := hp495
                    refine zt_iconst (pc' := 367) hX dX12_qGoesOn_366 rfl ?_
                    refine zt_iceq (pc' := 370) (tgt := 386) hX dX12_qGoesOn_367 rfl (by decide) ⟨by omega, by omega⟩ ⟨by omega, by omega⟩ (fun c499 => ?_) (fun c499 => ?_)
                    · refine zt_iconst (pc' := 387) hX dX12_qGoesOn_386 rfl ?_
                      exact zt_zret hX hR dX12_qGoesOn_387 ⟨by omega, by omega⟩ ⟨hI383, hF402, by omega, by omega, by omega, by omega, by omega, by omega, by omega, by omega, (fun hb => by omega), (fun hb => by omega), by omega⟩
                    · refine zt_aload_n (pc' := 371) hX dX12_qGoesOn_370 rfl rfl ?_
                      have b500 := zv_46_5 hI383 zc_164
                      refine zt_get (pc' := 374) (v := .int (zI (s380 164 5))) hX dX12_qGoesOn_371 rfl zf_X12_246 (by decide) zc_164 zs_46 rfl ?_
                      refine zt_ifne (pc' := 377) (tgt := 386) hX dX12_qGoesOn_374 rfl (by decide) ⟨by omega, by omega⟩ (fun c501 => ?_) (fun c501 => ?_)
                      · refine zt_iconst (pc' := 387) hX dX12_qGoesOn_386 rfl ?_
                        exact zt_zret hX hR dX12_qGoesOn_387 ⟨by omega, by omega⟩ ⟨hI383, hF402, by omega, by omega, by omega, by omega, by omega, by omega, by omega, by omega, (fun hb => by omega), (fun hb => by omega), by omega⟩
                      · refine zt_aload_n (pc' := 378) hX dX12_qGoesOn_377 rfl rfl ?_
                        refine zt_iconst (pc' := 379) hX dX12_qGoesOn_378 rfl ?_
                        refine zt_aload_n (pc' := 380) hX dX12_qGoesOn_379 rfl rfl ?_
                        have b502 := zv_46_2 hI383 zc_164
                        refine zt_get (pc' := 383) (v := .int (zI (s380 164 2))) hX dX12_qGoesOn_380 rfl zf_X12_252 (by decide) zc_164 zs_46 rfl ?_
                        refine zt_cVv (pc' := 386) hX dX12_qGoesOn_383 rfl zm_yX12_fail zw_26_19 zc_164 (by decide) zs_46 (q := (RX12, TX12, 108)) rfl rfl (zc_X12_fail _ _ s380 hI383 1 ⟨by omega, by omega⟩ (s380 164 2) ⟨by omega, by omega⟩) rfl rfl (Nat.le_of_ble_eq_true rfl) (by decide) (fun r503 s504 hr505 hp506 => ?_)
                        obtain ⟨hI507, hF508, z509, z510⟩ := hp506
                        obtain ⟨w511, -, w513, w514, w515, w516, -, w518⟩ := zE_q1 hF508
                        have e519 := hF508 164 3 rfl
                        have e520 := hF508 164 97 rfl
                        have e521 := hF508 164 99 rfl
                        have e522 := hF508 164 101 rfl
                        have hF523 := zOn_tr hF402 hF508 zi_12
                        have b524 := zv_46_2 hI507 zc_164
                        have b525 := zv_46_3 hI507 zc_164
                        have b526 := zv_46_5 hI507 zc_164
                        have b527 := zv_46_97 hI507 zc_164
                        have b528 := zv_46_99 hI507 zc_164
                        have b529 := zv_46_101 hI507 zc_164
                        refine zt_iconst (pc' := 387) hX dX12_qGoesOn_386 rfl ?_
                        exact zt_zret hX hR dX12_qGoesOn_387 ⟨by omega, by omega⟩ ⟨hI507, hF523, by omega, by omega, by omega, by omega, by omega, by omega, by omega, by omega, (fun hb => by omega), (fun hb => by omega), by omega⟩
                  · exact J_326_417 (by omega)
              · have qz388 := z388 (by omega)
                clear z388
                exact J_225_261 s380 hI383 hF402 (by omega) (by omega) (by omega) (by omega) (by omega) (by omega) (by omega) (by omega) (by omega) (by omega)
          · have qz197 := z197 (by omega)
            clear z197
            exact J_140_88 s189 hI192 hF211 (by omega) (by omega) (by omega) (by omega) (by omega) (by omega) (by omega) (by omega) (by omega) (by omega)
      refine zt_ifne (pc' := 7) (tgt := 122) hX dX12_qGoesOn_4 rfl (by decide) ⟨by omega, by omega⟩ (fun c530 => ?_) (fun c530 => ?_)
      · exact J_122_38 s7 hI8 hF9 (by omega) (by omega) (by omega) (by omega) (by omega) (by omega) (by omega) (by omega)
      · refine zt_aload_n (pc' := 8) hX dX12_qGoesOn_7 rfl rfl ?_
        refine zt_cVi (pc' := 11) hX dX12_qGoesOn_8 rfl zm_yX12_look zw_26_12 zc_164 (by decide) zs_46 (q := (RX12, TX12, 108)) rfl rfl (zc_X12_look _ _ s7 hI8 ) rfl rfl (Nat.le_of_ble_eq_true rfl) (by decide) (fun r531 s532 hr533 hp534 => ?_)
        obtain ⟨hI535, hF536, q537, q538, z539, z540, z541, z542⟩ := hp534
        obtain ⟨w543, -, w545, w546, w547, w548, -, w550⟩ := zE_q1 hF536
        have e551 := hF536 164 3 rfl
        have e552 := hF536 164 97 rfl
        have e553 := hF536 164 99 rfl
        have e554 := hF536 164 101 rfl
        have hF555 := zOn_tr hF9 hF536 zi_12
        have b556 := zv_46_2 hI535 zc_164
        have b557 := zv_46_3 hI535 zc_164
        have b558 := zv_46_5 hI535 zc_164
        have b559 := zv_46_97 hI535 zc_164
        have b560 := zv_46_99 hI535 zc_164
        have b561 := zv_46_101 hI535 zc_164
        clear z542
        replace z539 : _ ∧ _ := ⟨z539.1, z539.2 (by omega)⟩
        refine zt_bipush (pc' := 13) hX dX12_qGoesOn_11 rfl (by decide) (by decide) ?_
        refine zt_icne (pc' := 16) (tgt := 122) hX dX12_qGoesOn_13 rfl (by decide) ⟨by omega, by omega⟩ ⟨by omega, by omega⟩ (fun c562 => ?_) (fun c562 => ?_)
        · exact J_122_38 s532 hI535 hF555 (by omega) (by omega) (by omega) (by omega) (by omega) (by omega) (by omega) (by omega)
        · have qz540 := z540 (by omega)
          clear z540
          refine zt_aload_n (pc' := 17) hX dX12_qGoesOn_16 rfl rfl ?_
          refine zt_cVi (pc' := 20) hX dX12_qGoesOn_17 rfl zm_yX12_qBracket zw_31_12 zc_164 (by decide) zs_46 (q := (RX12, TX12, 108)) rfl rfl (zc_X12_qBracket _ _ s532 hI535 (by omega)) rfl rfl (Nat.le_of_ble_eq_true rfl) (by decide) (fun r563 s564 hr565 hp566 => ?_)
          obtain ⟨rfl, q567, q568, z569⟩ := hp566
          refine zt_bipush (pc' := 22) hX dX12_qGoesOn_20 rfl (by decide) (by decide) ?_
          have J_43_570 : (ztb s532 = 20 ∨ ztb s532 = 23 ∨ ztb s532 = 24) → zF X s532 43 [some (.ref (X.1.1 + 164)), none] [] := by
            intro g570
            refine zt_aload_n (pc' := 44) hX dX12_qGoesOn_43 rfl rfl ?_
            refine zt_dup (pc' := 45) hX dX12_qGoesOn_44 rfl rfl ?_
            have b572 := zv_46_2 hI535 zc_164
            refine zt_get (pc' := 48) (v := .int (zI (s532 164 2))) hX dX12_qGoesOn_45 rfl zf_X12_252 (by decide) zc_164 zs_46 rfl ?_
            refine zt_iconst (pc' := 49) hX dX12_qGoesOn_48 rfl ?_
            refine zt_iadd (pc' := 50) hX dX12_qGoesOn_49 rfl ?_
            refine zt_put (pc' := 53) (x := ((s532 164 2) + 1)) hX dX12_qGoesOn_50 rfl zf_X12_252 (by decide) zc_164 zs_46 (fun q hq => by cases hq; rfl) rfl rfl rfl ?_
            generalize hs574 : zset s532 164 2 ((s532 164 2) + 1) = s573
            have hI575 : zInv s573 := hs574 ▸ zp_46_2 hI535 zc_164 ⟨by omega, by omega⟩
            have hF576 : zOn zQ2 σ s573 := hs574 ▸ zOn_set hF555 (by decide)
            obtain ⟨w577, -, w579, w580, w581, w582, -, w584⟩ := zE_set hs574 (by decide)
            have e585 : s573 164 2 = ((s532 164 2) + 1) := by rw [← hs574]; exact zset_s
            have e586 : s573 164 3 = s532 164 3 := by rw [← hs574]; exact zset_j (by decide)
            have e587 : s573 164 5 = s532 164 5 := by rw [← hs574]; exact zset_j (by decide)
            have e588 : s573 164 97 = s532 164 97 := by rw [← hs574]; exact zset_j (by decide)
            have e589 : s573 164 99 = s532 164 99 := by rw [← hs574]; exact zset_j (by decide)
            have e590 : s573 164 101 = s532 164 101 := by rw [← hs574]; exact zset_j (by decide)
            refine zt_aload_n (pc' := 54) hX dX12_qGoesOn_53 rfl rfl ?_
            refine zt_cVv (pc' := 57) hX dX12_qGoesOn_54 rfl zm_yX12_qDropsToBracket zw_31_19 zc_164 (by decide) zs_46 (q := (RX12, TX12, 108)) rfl rfl (zc_X12_qDropsToBracket _ _ s573 hI575 (by omega) (by omega) (by omega) (by omega)) rfl rfl (Nat.le_of_ble_eq_true rfl) (by decide) (fun r591 s592 hr593 hp594 => ?_)
            obtain ⟨hI595, hF596, z597, z598, z599, z600⟩ := hp594
            have e601 := hF596 164 2 rfl
            have e602 := hF596 164 3 rfl
            have e603 := hF596 164 5 rfl
            have e604 := hF596 164 101 rfl
            have hF605 := zOn_tr hF576 hF596 zi_52
            have b606 := zv_46_2 hI595 zc_164
            have b607 := zv_46_3 hI595 zc_164
            have b608 := zv_46_5 hI595 zc_164
            have b609 := zv_46_97 hI595 zc_164
            have b610 := zv_46_99 hI595 zc_164
            have b611 := zv_46_101 hI595 zc_164
            replace z600 := z600 (by omega)
            refine zt_aload_n (pc' := 58) hX dX12_qGoesOn_57 rfl rfl ?_
            refine zt_dup (pc' := 59) hX dX12_qGoesOn_58 rfl rfl ?_
            have b613 := zv_46_99 hI595 zc_164
            refine zt_get (pc' := 62) (v := .int (zI (s592 164 99))) hX dX12_qGoesOn_59 rfl zf_X12_333 (by decide) zc_164 zs_46 rfl ?_
            refine zt_iconst (pc' := 63) hX dX12_qGoesOn_62 rfl ?_
            refine zt_isub (pc' := 64) hX dX12_qGoesOn_63 rfl ?_
            refine zt_put (pc' := 67) (x := ((s592 164 99) - 1)) hX dX12_qGoesOn_64 rfl zf_X12_333 (by decide) zc_164 zs_46 (fun q hq => by cases hq; rfl) rfl rfl rfl ?_
            generalize hs615 : zset s592 164 99 ((s592 164 99) - 1) = s614
            have hI616 : zInv s614 := hs615 ▸ zp_46_99 hI595 zc_164 ⟨by omega, by omega⟩
            have hF617 : zOn zQ2 σ s614 := hs615 ▸ zOn_set hF605 (by decide)
            have e618 : s614 164 2 = s592 164 2 := by rw [← hs615]; exact zset_j (by decide)
            have e619 : s614 164 3 = s592 164 3 := by rw [← hs615]; exact zset_j (by decide)
            have e620 : s614 164 5 = s592 164 5 := by rw [← hs615]; exact zset_j (by decide)
            have e621 : s614 164 97 = s592 164 97 := by rw [← hs615]; exact zset_j (by decide)
            have e622 : s614 164 99 = ((s592 164 99) - 1) := by rw [← hs615]; exact zset_s
            have e623 : s614 164 101 = s592 164 101 := by rw [← hs615]; exact zset_j (by decide)
            have h624 := zpopS hs615 rfl (by omega) (by omega) (by omega) (by omega)
            refine zt_aload_n (pc' := 68) hX dX12_qGoesOn_67 rfl rfl ?_
            refine zt_dup (pc' := 69) hX dX12_qGoesOn_68 rfl rfl ?_
            have b625 := zv_46_100 hI616 zc_164
            have e626 : s614 164 100 = s592 164 100 := by rw [← hs615]; exact zset_j (by decide)
            refine zt_get (pc' := 72) (v := .int (zI (s614 164 100))) hX dX12_qGoesOn_69 rfl zf_X12_336 (by decide) zc_164 zs_46 rfl ?_
            refine zt_iconst (pc' := 73) hX dX12_qGoesOn_72 rfl ?_
            refine zt_isub (pc' := 74) hX dX12_qGoesOn_73 rfl ?_
            refine zt_wrap (fun r627 zr627 lr627 ur627 => ?_)
            clear zr627
            refine zt_put (pc' := 77) (x := r627) hX dX12_qGoesOn_74 rfl zf_X12_336 (by decide) zc_164 zs_46 (fun q hq => by cases hq; rfl) rfl rfl rfl ?_
            generalize hs629 : zset s614 164 100 r627 = s628
            have hI630 : zInv s628 := hs629 ▸ zp_46_100 hI616 zc_164 ⟨by omega, by omega⟩
            have hF631 : zOn zQ2 σ s628 := hs629 ▸ zOn_set hF617 (by decide)
            obtain ⟨w632, -, w634, w635, w636, w637, -, w639⟩ := zE_set hs629 (by decide)
            have e640 : s628 164 2 = s614 164 2 := by rw [← hs629]; exact zset_j (by decide)
            have e641 : s628 164 3 = s614 164 3 := by rw [← hs629]; exact zset_j (by decide)
            have e642 : s628 164 5 = s614 164 5 := by rw [← hs629]; exact zset_j (by decide)
            have e643 : s628 164 97 = s614 164 97 := by rw [← hs629]; exact zset_j (by decide)
            have e644 : s628 164 99 = s614 164 99 := by rw [← hs629]; exact zset_j (by decide)
            have e645 : s628 164 101 = s614 164 101 := by rw [← hs629]; exact zset_j (by decide)
            have h646 := ztopP hs615 hs629 (by decide)
            refine zt_aload_n (pc' := 78) hX dX12_qGoesOn_77 rfl rfl ?_
            refine zt_get (pc' := 81) (v := .ref (X.1.1 + 235)) hX dX12_qGoesOn_78 rfl zf_X12_234 (by decide) zc_164 zs_46 (zrf_of (zv_46_98 hI630 zc_164)) ?_
            refine zt_aload_n (pc' := 82) hX dX12_qGoesOn_81 rfl rfl ?_
            have b647 := zv_46_99 hI630 zc_164
            refine zt_get (pc' := 85) (v := .int (zI (s628 164 99))) hX dX12_qGoesOn_82 rfl zf_X12_333 (by decide) zc_164 zs_46 rfl ?_
            refine zt_iald (pc' := 86) hX dX12_qGoesOn_85 rfl (by decide) zc_235 zs_117 (by decide) ⟨by omega, by omega⟩ ?_
            generalize hv648 : s628 235 ((s628 164 99).toNat) = v648
            have bv648 : -2147483648 ≤ v648 ∧ v648 ≤ 2147483647 := hv648 ▸ zv_117 hI630 zc_235 _
            refine zt_bipush (pc' := 88) hX dX12_qGoesOn_86 rfl (by decide) (by decide) ?_
            have J_115_660 : ∀ (s649 : zSto), zInv s649 → zOn zQ2 σ s649 → s7 164 2 < s649 164 2 → (σ 164 2 ≤ s649 164 2 ∧ s649 164 2 ≤ σ 164 3) → s649 164 3 = σ 164 3 → s649 164 101 = σ 164 101 → σ 164 101 ≤ s649 164 99 → s649 164 5 = 0 → s649 164 97 + s649 164 99 + σ 164 2 ≤ σ 164 97 + σ 164 99 + s649 164 2 → (zr s649 = 1 ∧ zHt s649 - zBt s649 = zHt σ - zBt σ) → (zBb s649 = zBb σ ∧ zSb s649 = zSb σ) → zF X s649 115 [some (.ref (X.1.1 + 164)), none] [] := by
              intro s649 hI650 hF651 g652 g653 g654 g655 g656 g657 g658 g659 g660
              have b662 := zv_46_2 hI650 zc_164
              have b663 := zv_46_3 hI650 zc_164
              have b664 := zv_46_5 hI650 zc_164
              have b665 := zv_46_97 hI650 zc_164
              have b666 := zv_46_99 hI650 zc_164
              have b667 := zv_46_101 hI650 zc_164
              refine zt_aload_n (pc' := 116) hX dX12_qGoesOn_115 rfl rfl ?_
              refine zt_cVv (pc' := 119) hX dX12_qGoesOn_116 rfl zm_yX12_qEndsPart zw_31_0 zc_164 (by decide) zs_46 (q := (RX12, TX12, 108)) rfl rfl (zc_X12_qEndsPart _ _ s649 hI650 (by omega) (by omega) (fun hb => by omega)) rfl rfl (Nat.le_of_ble_eq_true rfl) (by decide) (fun r668 s669 hr670 hp671 => ?_)
              obtain ⟨hI672, hF673, z674, z675, z676, z677⟩ := hp671
              have e678 := hF673 164 2 rfl
              have e679 := hF673 164 3 rfl
              have e680 := hF673 164 5 rfl
              have e681 := hF673 164 101 rfl
              have hF682 := zOn_tr hF651 hF673 zi_52
              have b683 := zv_46_2 hI672 zc_164
              have b684 := zv_46_3 hI672 zc_164
              have b685 := zv_46_5 hI672 zc_164
              have b686 := zv_46_97 hI672 zc_164
              have b687 := zv_46_99 hI672 zc_164
              have b688 := zv_46_101 hI672 zc_164
              refine zt_goto (tgt := 0) hX dX12_qGoesOn_119 (by decide) ?_
              exact ih20 s669 hI672 hF682 (by omega) (by omega) (by omega) (by omega) (by omega) (by omega) (by omega) (by omega) (by omega)
            refine zt_iceq (pc' := 91) (tgt := 115) hX dX12_qGoesOn_88 rfl (by decide) ⟨by omega, by omega⟩ ⟨by omega, by omega⟩ (fun c689 => ?_) (fun c689 => ?_)
            · exact J_115_660 s628 hI630 hF631 (by omega) (by omega) (by omega) (by omega) (by omega) (by omega) (by omega) (by omega) (by omega)
            · refine zt_aload_n (pc' := 92) hX dX12_qGoesOn_91 rfl rfl ?_
              refine zt_aload_n (pc' := 93) hX dX12_qGoesOn_92 rfl rfl ?_
              refine zt_get (pc' := 96) (v := .ref (X.1.1 + 235)) hX dX12_qGoesOn_93 rfl zf_X12_234 (by decide) zc_164 zs_46 (zrf_of (zv_46_98 hI630 zc_164)) ?_
              refine zt_aload_n (pc' := 97) hX dX12_qGoesOn_96 rfl rfl ?_
              refine zt_get (pc' := 100) (v := .int (zI (s628 164 99))) hX dX12_qGoesOn_97 rfl zf_X12_333 (by decide) zc_164 zs_46 rfl ?_
              refine zt_iald (pc' := 101) hX dX12_qGoesOn_100 rfl (by decide) zc_235 zs_117 (by decide) ⟨by omega, by omega⟩ ?_
              generalize hv690 : s628 235 ((s628 164 99).toNat) = v690
              have bv690 : -2147483648 ≤ v690 ∧ v690 ≤ 2147483647 := hv690 ▸ zv_117 hI630 zc_235 _
              refine zt_bipush (pc' := 103) hX dX12_qGoesOn_101 rfl (by decide) (by decide) ?_
              have J_112_693 : ∀ (y691 : Int), 5 ≤ y691 → y691 ≤ 6 → zF X s628 112 [some (.ref (X.1.1 + 164)), none] [.int (zI y691), .ref (X.1.1 + 164)] := by
                intro y691 h692 h693
                refine zt_cVv (pc' := 115) hX dX12_qGoesOn_112 rfl zm_yX12_qCode zw_29_18 zc_164 (by decide) zs_46 (q := (RX12, TX12, 108)) rfl rfl (zc_X12_qCode _ _ s628 hI630 y691 ⟨by omega, by omega⟩ (by omega)) rfl rfl (Nat.le_of_ble_eq_true rfl) (by decide) (fun r695 s696 hr697 hp698 => ?_)
                obtain ⟨hI699, hF700, z701⟩ := hp698
                have e702 := hF700 164 2 rfl
                have e703 := hF700 164 3 rfl
                have e704 := hF700 164 5 rfl
                have e705 := hF700 164 101 rfl
                have hF706 := zOn_tr hF631 hF700 zi_52
                have b707 := zv_46_2 hI699 zc_164
                have b708 := zv_46_3 hI699 zc_164
                have b709 := zv_46_5 hI699 zc_164
                have b710 := zv_46_97 hI699 zc_164
                have b711 := zv_46_99 hI699 zc_164
                have b712 := zv_46_101 hI699 zc_164
                have h713e := zcd_e z701 (by omega)
                have h713 := zcd_bn z701 (by omega) ⟨by omega, by omega⟩ (by omega) (by omega)
                exact J_115_660 s696 hI699 hF706 (by omega) (by omega) (by omega) (by omega) (by omega) (by omega) (by omega) (by omega) (by omega)
              refine zt_icne (pc' := 106) (tgt := 110) hX dX12_qGoesOn_103 rfl (by decide) ⟨by omega, by omega⟩ ⟨by omega, by omega⟩ (fun c714 => ?_) (fun c714 => ?_)
              · refine zt_bipush (pc' := 112) hX dX12_qGoesOn_110 rfl (by decide) (by decide) ?_
                exact J_112_693 6 (by omega) (by omega)
              · refine zt_iconst (pc' := 107) hX dX12_qGoesOn_106 rfl ?_
                refine zt_goto (tgt := 112) hX dX12_qGoesOn_107 (by decide) ?_
                exact J_112_693 5 (by omega) (by omega)
          refine zt_iceq (pc' := 25) (tgt := 43) hX dX12_qGoesOn_22 rfl (by decide) ⟨by omega, by omega⟩ ⟨by omega, by omega⟩ (fun c715 => ?_) (fun c715 => ?_)
          · exact J_43_570 (by omega)
          · refine zt_aload_n (pc' := 26) hX dX12_qGoesOn_25 rfl rfl ?_
            refine zt_cVi (pc' := 29) hX dX12_qGoesOn_26 rfl zm_yX12_qBracket zw_31_12 zc_164 (by decide) zs_46 (q := (RX12, TX12, 108)) rfl rfl (zc_X12_qBracket _ _ s532 hI535 (by omega)) rfl rfl (Nat.le_of_ble_eq_true rfl) (by decide) (fun r716 s717 hr718 hp719 => ?_)
            obtain ⟨rfl, q720, q721, z722⟩ := hp719
            refine zt_bipush (pc' := 31) hX dX12_qGoesOn_29 rfl (by decide) (by decide) ?_
            refine zt_iceq (pc' := 34) (tgt := 43) hX dX12_qGoesOn_31 rfl (by decide) ⟨by omega, by omega⟩ ⟨by omega, by omega⟩ (fun c723 => ?_) (fun c723 => ?_)
            · exact J_43_570 (by omega)
            · refine zt_aload_n (pc' := 35) hX dX12_qGoesOn_34 rfl rfl ?_
              refine zt_cVi (pc' := 38) hX dX12_qGoesOn_35 rfl zm_yX12_qBracket zw_31_12 zc_164 (by decide) zs_46 (q := (RX12, TX12, 108)) rfl rfl (zc_X12_qBracket _ _ s532 hI535 (by omega)) rfl rfl (Nat.le_of_ble_eq_true rfl) (by decide) (fun r724 s725 hr726 hp727 => ?_)
              obtain ⟨rfl, q728, q729, z730⟩ := hp727
              refine zt_bipush (pc' := 40) hX dX12_qGoesOn_38 rfl (by decide) (by decide) ?_
              refine zt_icne (pc' := 43) (tgt := 122) hX dX12_qGoesOn_40 rfl (by decide) ⟨by omega, by omega⟩ ⟨by omega, by omega⟩ (fun c731 => ?_) (fun c731 => ?_)
              · exact J_122_38 s532 hI535 hF555 (by omega) (by omega) (by omega) (by omega) (by omega) (by omega) (by omega) (by omega)
              · exact J_43_570 (by omega)
  exact L_0_17 _ σ hI hF (by omega) (by omega) (by omega) (by omega) (by omega) (by omega) (by omega) (by omega) (Nat.lt_succ_self _)
