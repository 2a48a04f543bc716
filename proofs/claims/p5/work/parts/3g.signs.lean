set_option maxRecDepth 100000 in
set_option maxHeartbeats 1000000 in
theorem zc_X12_qWordHere (l : Launch) (E : zEN) (σ : zSto) (hI : zInv σ) (hpre0 : σ 164 2 ≤ σ 164 3) : zCt l E yX12_qWordHere cX12_qWordHere 1 (some .int) 2 zNC zNC 0 0 σ [.ref (E.1 + 164)] (fun r σ' => zInv σ' ∧ zOn zQ1 σ σ' ∧ -1 ≤ r ∧ r ≤ 10 ∧ (σ 164 2 ≤ σ' 164 2 ∧ (σ 164 2 ≤ σ 164 3 → σ' 164 2 ≤ σ 164 3)) ∧ (σ' 164 5 = σ 164 5) ∧ (zsb σ = 1 → σ' 164 2 = σ 164 2 ∧ zsb σ' = 1)) := by
  refine zCt_of2 [some (.ref (E.1 + 164))] (by decide +kernel) (Nat.le_of_ble_eq_true rfl) rfl ?_
  intro X hE hX hR hL hN
  subst hE
  have hX : zok X cX12_qWordHere RX12 2 := hX
  have hF := zOn_rf zQ1 σ
  have b1 := zv_46_2 hI zc_164
  have b2 := zv_46_3 hI zc_164
  have b3 := zv_46_5 hI zc_164
  have b4 := zv_46_4 hI zc_164
  refine zt_aload_n (pc' := 1) hX dX12_qWordHere_0 rfl rfl ?_
  refine zt_aload_n (pc' := 2) hX dX12_qWordHere_1 rfl rfl ?_
  refine zt_get (pc' := 5) (v := .ref (X.1.1 + 223)) hX dX12_qWordHere_2 rfl zf_X12_198 (by decide) zc_164 zs_46 (zrf_of (zv_46_85 hI zc_164)) ?_
  refine zt_cVz (pc' := 8) hX dX12_qWordHere_5 rfl zm_yX12_isHere zw_26_8 zc_164 (by decide) zs_46 (q := (RX12, TX12, 108)) rfl rfl (zc_X12_isHere _ _ σ hI 223 105 4 zc_223 (by decide) zs_105 (by decide)) rfl rfl (Nat.le_of_ble_eq_true rfl) (by decide) (fun r5 s6 hr7 hp8 => ?_)
  obtain ⟨hI9, hF10, q11, q12, z13, z14, z15, z16⟩ := hp8
  have e17 := hF10 164 3 rfl
  have hF18 := zOn_tr hF hF10 zi_id
  have b19 := zv_46_2 hI9 zc_164
  have b20 := zv_46_3 hI9 zc_164
  have b21 := zv_46_5 hI9 zc_164
  have b22 := zv_46_4 hI9 zc_164
  replace z13 : _ ∧ _ := ⟨z13.1, z13.2 (by omega)⟩
  refine zt_ifeq (pc' := 11) (tgt := 13) hX dX12_qWordHere_8 rfl (by decide) ⟨by omega, by omega⟩ (fun c23 => ?_) (fun c23 => ?_)
  · clear z14
    refine zt_aload_n (pc' := 14) hX dX12_qWordHere_13 rfl rfl ?_
    refine zt_aload_n (pc' := 15) hX dX12_qWordHere_14 rfl rfl ?_
    refine zt_get (pc' := 18) (v := .ref (X.1.1 + 224)) hX dX12_qWordHere_15 rfl zf_X12_201 (by decide) zc_164 zs_46 (zrf_of (zv_46_86 hI9 zc_164)) ?_
    refine zt_cVz (pc' := 21) hX dX12_qWordHere_18 rfl zm_yX12_isHere zw_26_8 zc_164 (by decide) zs_46 (q := (RX12, TX12, 108)) rfl rfl (zc_X12_isHere _ _ s6 hI9 224 106 6 zc_224 (by decide) zs_106 (by decide)) rfl rfl (Nat.le_of_ble_eq_true rfl) (by decide) (fun r24 s25 hr26 hp27 => ?_)
    obtain ⟨hI28, hF29, q30, q31, z32, z33, z34, z35⟩ := hp27
    have e36 := hF29 164 3 rfl
    have hF37 := zOn_tr hF18 hF29 zi_id
    have b38 := zv_46_2 hI28 zc_164
    have b39 := zv_46_3 hI28 zc_164
    have b40 := zv_46_5 hI28 zc_164
    have b41 := zv_46_4 hI28 zc_164
    replace z32 : _ ∧ _ := ⟨z32.1, z32.2 (by omega)⟩
    have zc42 : zsb σ = 1 → s25 164 2 = σ 164 2 ∧ zsb s25 = 1 := fun h => ⟨(z35 (z16 h).2).1.trans (z16 h).1, (z35 (z16 h).2).2⟩
    clear z35 z16
    refine zt_ifeq (pc' := 24) (tgt := 26) hX dX12_qWordHere_21 rfl (by decide) ⟨by omega, by omega⟩ (fun c43 => ?_) (fun c43 => ?_)
    · clear z33
      refine zt_aload_n (pc' := 27) hX dX12_qWordHere_26 rfl rfl ?_
      refine zt_aload_n (pc' := 28) hX dX12_qWordHere_27 rfl rfl ?_
      refine zt_get (pc' := 31) (v := .ref (X.1.1 + 225)) hX dX12_qWordHere_28 rfl zf_X12_204 (by decide) zc_164 zs_46 (zrf_of (zv_46_87 hI28 zc_164)) ?_
      refine zt_cVz (pc' := 34) hX dX12_qWordHere_31 rfl zm_yX12_isHere zw_26_8 zc_164 (by decide) zs_46 (q := (RX12, TX12, 108)) rfl rfl (zc_X12_isHere _ _ s25 hI28 225 107 6 zc_225 (by decide) zs_107 (by decide)) rfl rfl (Nat.le_of_ble_eq_true rfl) (by decide) (fun r44 s45 hr46 hp47 => ?_)
      obtain ⟨hI48, hF49, q50, q51, z52, z53, z54, z55⟩ := hp47
      have e56 := hF49 164 3 rfl
      have hF57 := zOn_tr hF37 hF49 zi_id
      have b58 := zv_46_2 hI48 zc_164
      have b59 := zv_46_3 hI48 zc_164
      have b60 := zv_46_5 hI48 zc_164
      have b61 := zv_46_4 hI48 zc_164
      replace z52 : _ ∧ _ := ⟨z52.1, z52.2 (by omega)⟩
      have zc62 : zsb σ = 1 → s45 164 2 = σ 164 2 ∧ zsb s45 = 1 := fun h => ⟨(z55 (zc42 h).2).1.trans (zc42 h).1, (z55 (zc42 h).2).2⟩
      clear z55 zc42
      refine zt_ifeq (pc' := 37) (tgt := 39) hX dX12_qWordHere_34 rfl (by decide) ⟨by omega, by omega⟩ (fun c63 => ?_) (fun c63 => ?_)
      · clear z53
        refine zt_aload_n (pc' := 40) hX dX12_qWordHere_39 rfl rfl ?_
        refine zt_aload_n (pc' := 41) hX dX12_qWordHere_40 rfl rfl ?_
        refine zt_get (pc' := 44) (v := .ref (X.1.1 + 226)) hX dX12_qWordHere_41 rfl zf_X12_207 (by decide) zc_164 zs_46 (zrf_of (zv_46_88 hI48 zc_164)) ?_
        refine zt_cVz (pc' := 47) hX dX12_qWordHere_44 rfl zm_yX12_isHere zw_26_8 zc_164 (by decide) zs_46 (q := (RX12, TX12, 108)) rfl rfl (zc_X12_isHere _ _ s45 hI48 226 108 5 zc_226 (by decide) zs_108 (by decide)) rfl rfl (Nat.le_of_ble_eq_true rfl) (by decide) (fun r64 s65 hr66 hp67 => ?_)
        obtain ⟨hI68, hF69, q70, q71, z72, z73, z74, z75⟩ := hp67
        have e76 := hF69 164 3 rfl
        have hF77 := zOn_tr hF57 hF69 zi_id
        have b78 := zv_46_2 hI68 zc_164
        have b79 := zv_46_3 hI68 zc_164
        have b80 := zv_46_5 hI68 zc_164
        have b81 := zv_46_4 hI68 zc_164
        replace z72 : _ ∧ _ := ⟨z72.1, z72.2 (by omega)⟩
        have zc82 : zsb σ = 1 → s65 164 2 = σ 164 2 ∧ zsb s65 = 1 := fun h => ⟨(z75 (zc62 h).2).1.trans (zc62 h).1, (z75 (zc62 h).2).2⟩
        clear z75 zc62
        refine zt_ifeq (pc' := 50) (tgt := 52) hX dX12_qWordHere_47 rfl (by decide) ⟨by omega, by omega⟩ (fun c83 => ?_) (fun c83 => ?_)
        · clear z73
          refine zt_aload_n (pc' := 53) hX dX12_qWordHere_52 rfl rfl ?_
          refine zt_aload_n (pc' := 54) hX dX12_qWordHere_53 rfl rfl ?_
          refine zt_get (pc' := 57) (v := .ref (X.1.1 + 227)) hX dX12_qWordHere_54 rfl zf_X12_210 (by decide) zc_164 zs_46 (zrf_of (zv_46_89 hI68 zc_164)) ?_
          refine zt_cVz (pc' := 60) hX dX12_qWordHere_57 rfl zm_yX12_isHere zw_26_8 zc_164 (by decide) zs_46 (q := (RX12, TX12, 108)) rfl rfl (zc_X12_isHere _ _ s65 hI68 227 109 5 zc_227 (by decide) zs_109 (by decide)) rfl rfl (Nat.le_of_ble_eq_true rfl) (by decide) (fun r84 s85 hr86 hp87 => ?_)
          obtain ⟨hI88, hF89, q90, q91, z92, z93, z94, z95⟩ := hp87
          have e96 := hF89 164 3 rfl
          have hF97 := zOn_tr hF77 hF89 zi_id
          have b98 := zv_46_2 hI88 zc_164
          have b99 := zv_46_3 hI88 zc_164
          have b100 := zv_46_5 hI88 zc_164
          have b101 := zv_46_4 hI88 zc_164
          replace z92 : _ ∧ _ := ⟨z92.1, z92.2 (by omega)⟩
          have zc102 : zsb σ = 1 → s85 164 2 = σ 164 2 ∧ zsb s85 = 1 := fun h => ⟨(z95 (zc82 h).2).1.trans (zc82 h).1, (z95 (zc82 h).2).2⟩
          clear z95 zc82
          refine zt_ifeq (pc' := 63) (tgt := 65) hX dX12_qWordHere_60 rfl (by decide) ⟨by omega, by omega⟩ (fun c103 => ?_) (fun c103 => ?_)
          · clear z93
            refine zt_aload_n (pc' := 66) hX dX12_qWordHere_65 rfl rfl ?_
            refine zt_aload_n (pc' := 67) hX dX12_qWordHere_66 rfl rfl ?_
            refine zt_get (pc' := 70) (v := .ref (X.1.1 + 228)) hX dX12_qWordHere_67 rfl zf_X12_213 (by decide) zc_164 zs_46 (zrf_of (zv_46_90 hI88 zc_164)) ?_
            refine zt_cVz (pc' := 73) hX dX12_qWordHere_70 rfl zm_yX12_isHere zw_26_8 zc_164 (by decide) zs_46 (q := (RX12, TX12, 108)) rfl rfl (zc_X12_isHere _ _ s85 hI88 228 110 4 zc_228 (by decide) zs_110 (by decide)) rfl rfl (Nat.le_of_ble_eq_true rfl) (by decide) (fun r104 s105 hr106 hp107 => ?_)
            obtain ⟨hI108, hF109, q110, q111, z112, z113, z114, z115⟩ := hp107
            have e116 := hF109 164 3 rfl
            have hF117 := zOn_tr hF97 hF109 zi_id
            have b118 := zv_46_2 hI108 zc_164
            have b119 := zv_46_3 hI108 zc_164
            have b120 := zv_46_5 hI108 zc_164
            have b121 := zv_46_4 hI108 zc_164
            replace z112 : _ ∧ _ := ⟨z112.1, z112.2 (by omega)⟩
            have zc122 : zsb σ = 1 → s105 164 2 = σ 164 2 ∧ zsb s105 = 1 := fun h => ⟨(z115 (zc102 h).2).1.trans (zc102 h).1, (z115 (zc102 h).2).2⟩
            clear z115 zc102
            refine zt_ifeq (pc' := 76) (tgt := 78) hX dX12_qWordHere_73 rfl (by decide) ⟨by omega, by omega⟩ (fun c123 => ?_) (fun c123 => ?_)
            · clear z113
              refine zt_aload_n (pc' := 79) hX dX12_qWordHere_78 rfl rfl ?_
              refine zt_aload_n (pc' := 80) hX dX12_qWordHere_79 rfl rfl ?_
              refine zt_get (pc' := 83) (v := .ref (X.1.1 + 229)) hX dX12_qWordHere_80 rfl zf_X12_216 (by decide) zc_164 zs_46 (zrf_of (zv_46_91 hI108 zc_164)) ?_
              refine zt_cVz (pc' := 86) hX dX12_qWordHere_83 rfl zm_yX12_isHere zw_26_8 zc_164 (by decide) zs_46 (q := (RX12, TX12, 108)) rfl rfl (zc_X12_isHere _ _ s105 hI108 229 111 6 zc_229 (by decide) zs_111 (by decide)) rfl rfl (Nat.le_of_ble_eq_true rfl) (by decide) (fun r124 s125 hr126 hp127 => ?_)
              obtain ⟨hI128, hF129, q130, q131, z132, z133, z134, z135⟩ := hp127
              have e136 := hF129 164 3 rfl
              have hF137 := zOn_tr hF117 hF129 zi_id
              have b138 := zv_46_2 hI128 zc_164
              have b139 := zv_46_3 hI128 zc_164
              have b140 := zv_46_5 hI128 zc_164
              have b141 := zv_46_4 hI128 zc_164
              replace z132 : _ ∧ _ := ⟨z132.1, z132.2 (by omega)⟩
              have zc142 : zsb σ = 1 → s125 164 2 = σ 164 2 ∧ zsb s125 = 1 := fun h => ⟨(z135 (zc122 h).2).1.trans (zc122 h).1, (z135 (zc122 h).2).2⟩
              clear z135 zc122
              refine zt_ifeq (pc' := 89) (tgt := 92) hX dX12_qWordHere_86 rfl (by decide) ⟨by omega, by omega⟩ (fun c143 => ?_) (fun c143 => ?_)
              · clear z133
                refine zt_aload_n (pc' := 93) hX dX12_qWordHere_92 rfl rfl ?_
                refine zt_aload_n (pc' := 94) hX dX12_qWordHere_93 rfl rfl ?_
                refine zt_get (pc' := 97) (v := .ref (X.1.1 + 230)) hX dX12_qWordHere_94 rfl zf_X12_219 (by decide) zc_164 zs_46 (zrf_of (zv_46_92 hI128 zc_164)) ?_
                refine zt_cVz (pc' := 100) hX dX12_qWordHere_97 rfl zm_yX12_isHere zw_26_8 zc_164 (by decide) zs_46 (q := (RX12, TX12, 108)) rfl rfl (zc_X12_isHere _ _ s125 hI128 230 112 6 zc_230 (by decide) zs_112 (by decide)) rfl rfl (Nat.le_of_ble_eq_true rfl) (by decide) (fun r144 s145 hr146 hp147 => ?_)
                obtain ⟨hI148, hF149, q150, q151, z152, z153, z154, z155⟩ := hp147
                have e156 := hF149 164 3 rfl
                have hF157 := zOn_tr hF137 hF149 zi_id
                have b158 := zv_46_2 hI148 zc_164
                have b159 := zv_46_3 hI148 zc_164
                have b160 := zv_46_5 hI148 zc_164
                have b161 := zv_46_4 hI148 zc_164
                replace z152 : _ ∧ _ := ⟨z152.1, z152.2 (by omega)⟩
                have zc162 : zsb σ = 1 → s145 164 2 = σ 164 2 ∧ zsb s145 = 1 := fun h => ⟨(z155 (zc142 h).2).1.trans (zc142 h).1, (z155 (zc142 h).2).2⟩
                clear z155 zc142
                refine zt_ifeq (pc' := 103) (tgt := 106) hX dX12_qWordHere_100 rfl (by decide) ⟨by omega, by omega⟩ (fun c163 => ?_) (fun c163 => ?_)
                · clear z153
                  refine zt_aload_n (pc' := 107) hX dX12_qWordHere_106 rfl rfl ?_
                  refine zt_aload_n (pc' := 108) hX dX12_qWordHere_107 rfl rfl ?_
                  refine zt_get (pc' := 111) (v := .ref (X.1.1 + 231)) hX dX12_qWordHere_108 rfl zf_X12_222 (by decide) zc_164 zs_46 (zrf_of (zv_46_93 hI148 zc_164)) ?_
                  refine zt_cVz (pc' := 114) hX dX12_qWordHere_111 rfl zm_yX12_isHere zw_26_8 zc_164 (by decide) zs_46 (q := (RX12, TX12, 108)) rfl rfl (zc_X12_isHere _ _ s145 hI148 231 113 3 zc_231 (by decide) zs_113 (by decide)) rfl rfl (Nat.le_of_ble_eq_true rfl) (by decide) (fun r164 s165 hr166 hp167 => ?_)
                  obtain ⟨hI168, hF169, q170, q171, z172, z173, z174, z175⟩ := hp167
                  have e176 := hF169 164 3 rfl
                  have hF177 := zOn_tr hF157 hF169 zi_id
                  have b178 := zv_46_2 hI168 zc_164
                  have b179 := zv_46_3 hI168 zc_164
                  have b180 := zv_46_5 hI168 zc_164
                  have b181 := zv_46_4 hI168 zc_164
                  replace z172 : _ ∧ _ := ⟨z172.1, z172.2 (by omega)⟩
                  have zc182 : zsb σ = 1 → s165 164 2 = σ 164 2 ∧ zsb s165 = 1 := fun h => ⟨(z175 (zc162 h).2).1.trans (zc162 h).1, (z175 (zc162 h).2).2⟩
                  clear z175 zc162
                  refine zt_ifeq (pc' := 117) (tgt := 120) hX dX12_qWordHere_114 rfl (by decide) ⟨by omega, by omega⟩ (fun c183 => ?_) (fun c183 => ?_)
                  · clear z173
                    refine zt_aload_n (pc' := 121) hX dX12_qWordHere_120 rfl rfl ?_
                    refine zt_aload_n (pc' := 122) hX dX12_qWordHere_121 rfl rfl ?_
                    refine zt_get (pc' := 125) (v := .ref (X.1.1 + 232)) hX dX12_qWordHere_122 rfl zf_X12_225 (by decide) zc_164 zs_46 (zrf_of (zv_46_94 hI168 zc_164)) ?_
                    refine zt_cVz (pc' := 128) hX dX12_qWordHere_125 rfl zm_yX12_isHere zw_26_8 zc_164 (by decide) zs_46 (q := (RX12, TX12, 108)) rfl rfl (zc_X12_isHere _ _ s165 hI168 232 114 5 zc_232 (by decide) zs_114 (by decide)) rfl rfl (Nat.le_of_ble_eq_true rfl) (by decide) (fun r184 s185 hr186 hp187 => ?_)
                    obtain ⟨hI188, hF189, q190, q191, z192, z193, z194, z195⟩ := hp187
                    have e196 := hF189 164 3 rfl
                    have hF197 := zOn_tr hF177 hF189 zi_id
                    have b198 := zv_46_2 hI188 zc_164
                    have b199 := zv_46_3 hI188 zc_164
                    have b200 := zv_46_5 hI188 zc_164
                    have b201 := zv_46_4 hI188 zc_164
                    replace z192 : _ ∧ _ := ⟨z192.1, z192.2 (by omega)⟩
                    have zc202 : zsb σ = 1 → s185 164 2 = σ 164 2 ∧ zsb s185 = 1 := fun h => ⟨(z195 (zc182 h).2).1.trans (zc182 h).1, (z195 (zc182 h).2).2⟩
                    clear z195 zc182
                    refine zt_ifeq (pc' := 131) (tgt := 134) hX dX12_qWordHere_128 rfl (by decide) ⟨by omega, by omega⟩ (fun c203 => ?_) (fun c203 => ?_)
                    · clear z193
                      refine zt_aload_n (pc' := 135) hX dX12_qWordHere_134 rfl rfl ?_
                      refine zt_aload_n (pc' := 136) hX dX12_qWordHere_135 rfl rfl ?_
                      refine zt_get (pc' := 139) (v := .ref (X.1.1 + 233)) hX dX12_qWordHere_136 rfl zf_X12_228 (by decide) zc_164 zs_46 (zrf_of (zv_46_95 hI188 zc_164)) ?_
                      refine zt_cVz (pc' := 142) hX dX12_qWordHere_139 rfl zm_yX12_isHere zw_26_8 zc_164 (by decide) zs_46 (q := (RX12, TX12, 108)) rfl rfl (zc_X12_isHere _ _ s185 hI188 233 115 3 zc_233 (by decide) zs_115 (by decide)) rfl rfl (Nat.le_of_ble_eq_true rfl) (by decide) (fun r204 s205 hr206 hp207 => ?_)
                      obtain ⟨hI208, hF209, q210, q211, z212, z213, z214, z215⟩ := hp207
                      have e216 := hF209 164 3 rfl
                      have hF217 := zOn_tr hF197 hF209 zi_id
                      have b218 := zv_46_2 hI208 zc_164
                      have b219 := zv_46_3 hI208 zc_164
                      have b220 := zv_46_5 hI208 zc_164
                      have b221 := zv_46_4 hI208 zc_164
                      replace z212 : _ ∧ _ := ⟨z212.1, z212.2 (by omega)⟩
                      have zc222 : zsb σ = 1 → s205 164 2 = σ 164 2 ∧ zsb s205 = 1 := fun h => ⟨(z215 (zc202 h).2).1.trans (zc202 h).1, (z215 (zc202 h).2).2⟩
                      clear z215 zc202
                      refine zt_ifeq (pc' := 145) (tgt := 148) hX dX12_qWordHere_142 rfl (by decide) ⟨by omega, by omega⟩ (fun c223 => ?_) (fun c223 => ?_)
                      · clear z213
                        refine zt_iconst (pc' := 149) hX dX12_qWordHere_148 rfl ?_
                        exact zt_iret hX hR dX12_qWordHere_149 ⟨by omega, by omega⟩ ⟨hI208, hF217, by omega, by omega, by omega, by omega, by omega⟩
                      · have qz213 := z213 (by omega)
                        clear z213
                        refine zt_bipush (pc' := 147) hX dX12_qWordHere_145 rfl (by decide) (by decide) ?_
                        exact zt_iret hX hR dX12_qWordHere_147 ⟨by omega, by omega⟩ ⟨hI208, hF217, by omega, by omega, by omega, by omega, by omega⟩
                    · have qz193 := z193 (by omega)
                      clear z193
                      refine zt_bipush (pc' := 133) hX dX12_qWordHere_131 rfl (by decide) (by decide) ?_
                      exact zt_iret hX hR dX12_qWordHere_133 ⟨by omega, by omega⟩ ⟨hI188, hF197, by omega, by omega, by omega, by omega, by omega⟩
                  · have qz173 := z173 (by omega)
                    clear z173
                    refine zt_bipush (pc' := 119) hX dX12_qWordHere_117 rfl (by decide) (by decide) ?_
                    exact zt_iret hX hR dX12_qWordHere_119 ⟨by omega, by omega⟩ ⟨hI168, hF177, by omega, by omega, by omega, by omega, by omega⟩
                · have qz153 := z153 (by omega)
                  clear z153
                  refine zt_bipush (pc' := 105) hX dX12_qWordHere_103 rfl (by decide) (by decide) ?_
                  exact zt_iret hX hR dX12_qWordHere_105 ⟨by omega, by omega⟩ ⟨hI148, hF157, by omega, by omega, by omega, by omega, by omega⟩
              · have qz133 := z133 (by omega)
                clear z133
                refine zt_bipush (pc' := 91) hX dX12_qWordHere_89 rfl (by decide) (by decide) ?_
                exact zt_iret hX hR dX12_qWordHere_91 ⟨by omega, by omega⟩ ⟨hI128, hF137, by omega, by omega, by omega, by omega, by omega⟩
            · have qz113 := z113 (by omega)
              clear z113
              refine zt_iconst (pc' := 77) hX dX12_qWordHere_76 rfl ?_
              exact zt_iret hX hR dX12_qWordHere_77 ⟨by omega, by omega⟩ ⟨hI108, hF117, by omega, by omega, by omega, by omega, by omega⟩
          · have qz93 := z93 (by omega)
            clear z93
            refine zt_iconst (pc' := 64) hX dX12_qWordHere_63 rfl ?_
            exact zt_iret hX hR dX12_qWordHere_64 ⟨by omega, by omega⟩ ⟨hI88, hF97, by omega, by omega, by omega, by omega, by omega⟩
        · have qz73 := z73 (by omega)
          clear z73
          refine zt_iconst (pc' := 51) hX dX12_qWordHere_50 rfl ?_
          exact zt_iret hX hR dX12_qWordHere_51 ⟨by omega, by omega⟩ ⟨hI68, hF77, by omega, by omega, by omega, by omega, by omega⟩
      · have qz53 := z53 (by omega)
        clear z53
        refine zt_iconst (pc' := 38) hX dX12_qWordHere_37 rfl ?_
        exact zt_iret hX hR dX12_qWordHere_38 ⟨by omega, by omega⟩ ⟨hI48, hF57, by omega, by omega, by omega, by omega, by omega⟩
    · have qz33 := z33 (by omega)
      clear z33
      refine zt_iconst (pc' := 25) hX dX12_qWordHere_24 rfl ?_
      exact zt_iret hX hR dX12_qWordHere_25 ⟨by omega, by omega⟩ ⟨hI28, hF37, by omega, by omega, by omega, by omega, by omega⟩
  · have qz14 := z14 (by omega)
    clear z14
    refine zt_iconst (pc' := 12) hX dX12_qWordHere_11 rfl ?_
    exact zt_iret hX hR dX12_qWordHere_12 ⟨by omega, by omega⟩ ⟨hI9, hF18, by omega, by omega, by omega, by omega, by omega⟩

set_option maxRecDepth 100000 in
set_option maxHeartbeats 1000000 in
theorem zc_X12_qWordOf (l : Launch) (E : zEN) (σ : zSto) (hI : zInv σ) (a1_ : Int) (ha1_ : -2147483648 ≤ a1_ ∧ a1_ ≤ 2147483647) (a2_ : Int) (ha2_ : -2147483648 ≤ a2_ ∧ a2_ ≤ 2147483647) (hpre0 : σ 164 2 ≤ σ 164 3) : zCt l E yX12_qWordOf cX12_qWordOf 4 (some .int) 3 zNC zNC 0 0 σ [.ref (E.1 + 164), .int (zI a1_), .int (zI a2_)] (fun r σ' => zInv σ' ∧ zOn zQ1 σ σ' ∧ -1 ≤ r ∧ r ≤ 10 ∧ (σ 164 2 ≤ σ' 164 2 ∧ (σ 164 2 ≤ σ 164 3 → σ' 164 2 ≤ σ 164 3)) ∧ (σ' 164 5 = σ 164 5) ∧ (zsb σ = 1 → σ' 164 2 = σ 164 2 ∧ zsb σ' = 1) ∧ (r ≠ -1 → a1_ ≤ r ∧ r < a2_)) := by
  refine zCt_of2 [some (.ref (E.1 + 164)), some (.int (zI a1_)), some (.int (zI a2_)), none] (by decide +kernel) (Nat.le_of_ble_eq_true rfl) rfl ?_
  intro X hE hX hR hL hN
  subst hE
  have hX : zok X cX12_qWordOf RX12 3 := hX
  have hF := zOn_rf zQ1 σ
  have b1 := zv_46_2 hI zc_164
  have b2 := zv_46_3 hI zc_164
  have b3 := zv_46_5 hI zc_164
  have b4 := zv_46_4 hI zc_164
  refine zt_aload_n (pc' := 1) hX dX12_qWordOf_0 rfl rfl ?_
  refine zt_cVi (pc' := 4) hX dX12_qWordOf_1 rfl zm_yX12_qWordHere zw_30_10 zc_164 (by decide) zs_46 (q := (RX12, TX12, 108)) rfl rfl (zc_X12_qWordHere _ _ σ hI (by omega)) rfl rfl (Nat.le_of_ble_eq_true rfl) (by decide) (fun r5 s6 hr7 hp8 => ?_)
  obtain ⟨hI9, hF10, q11, q12, z13, z14, z15⟩ := hp8
  have e16 := hF10 164 3 rfl
  have hF17 := zOn_tr hF hF10 zi_id
  have b18 := zv_46_2 hI9 zc_164
  have b19 := zv_46_3 hI9 zc_164
  have b20 := zv_46_5 hI9 zc_164
  have b21 := zv_46_4 hI9 zc_164
  replace z13 : _ ∧ _ := ⟨z13.1, z13.2 (by omega)⟩
  refine zt_istore_n (pc' := 5) (lv' := [some (.ref (X.1.1 + 164)), some (.int (zI a1_)), some (.int (zI a2_)), some (.int (zI r5))]) hX dX12_qWordOf_4 rfl hL (by decide) rfl ?_
  refine zt_iload_n (pc' := 6) hX dX12_qWordOf_5 rfl rfl ?_
  refine zt_iload_n (pc' := 7) hX dX12_qWordOf_6 rfl rfl ?_
  refine zt_iclt (pc' := 10) (tgt := 27) hX dX12_qWordOf_7 rfl (by decide) ⟨by omega, by omega⟩ ⟨by omega, by omega⟩ (fun c22 => ?_) (fun c22 => ?_)
  · refine zt_iconst (pc' := 28) hX dX12_qWordOf_27 rfl ?_
    exact zt_iret hX hR dX12_qWordOf_28 ⟨by omega, by omega⟩ ⟨hI9, hF17, by omega, by omega, by omega, by omega, by omega, by omega⟩
  · refine zt_iload_n (pc' := 11) hX dX12_qWordOf_10 rfl rfl ?_
    refine zt_iload_n (pc' := 12) hX dX12_qWordOf_11 rfl rfl ?_
    refine zt_icge (pc' := 15) (tgt := 27) hX dX12_qWordOf_12 rfl (by decide) ⟨by omega, by omega⟩ ⟨by omega, by omega⟩ (fun c23 => ?_) (fun c23 => ?_)
    · refine zt_iconst (pc' := 28) hX dX12_qWordOf_27 rfl ?_
      exact zt_iret hX hR dX12_qWordOf_28 ⟨by omega, by omega⟩ ⟨hI9, hF17, by omega, by omega, by omega, by omega, by omega, by omega⟩
    · refine zt_aload_n (pc' := 16) hX dX12_qWordOf_15 rfl rfl ?_
      refine zt_iload_n (pc' := 17) hX dX12_qWordOf_16 rfl rfl ?_
      refine zt_cVz (pc' := 20) hX dX12_qWordOf_17 rfl zm_yX12_isAllowed zw_30_14 zc_164 (by decide) zs_46 (q := (RX12, TX12, 108)) rfl rfl (zc_X12_isAllowed _ _ s6 hI9 r5 ⟨by omega, by omega⟩) rfl rfl (Nat.le_of_ble_eq_true rfl) (by decide) (fun r24 s25 hr26 hp27 => ?_)
      obtain ⟨rfl, q28, q29⟩ := hp27
      refine zt_ifeq (pc' := 23) (tgt := 27) hX dX12_qWordOf_20 rfl (by decide) ⟨by omega, by omega⟩ (fun c30 => ?_) (fun c30 => ?_)
      · refine zt_iconst (pc' := 28) hX dX12_qWordOf_27 rfl ?_
        exact zt_iret hX hR dX12_qWordOf_28 ⟨by omega, by omega⟩ ⟨hI9, hF17, by omega, by omega, by omega, by omega, by omega, by omega⟩
      · refine zt_iload_n (pc' := 24) hX dX12_qWordOf_23 rfl rfl ?_
        refine zt_goto (tgt := 28) hX dX12_qWordOf_24 (by decide) ?_
        exact zt_iret hX hR dX12_qWordOf_28 ⟨by omega, by omega⟩ ⟨hI9, hF17, by omega, by omega, by omega, by omega, by omega, by omega⟩

set_option maxRecDepth 100000 in
set_option maxHeartbeats 1000000 in
theorem zc_X12_qAsksWord (l : Launch) (E : zEN) (σ : zSto) (hI : zInv σ) (a1_ : Int) (ha1_ : -2147483648 ≤ a1_ ∧ a1_ ≤ 2147483647) (hpre0 : σ 164 2 ≤ σ 164 3) : zCt l E yX12_qAsksWord cX12_qAsksWord 2 none 4 zNC zNC 0 0 σ [.ref (E.1 + 164), .int (zI a1_)] (fun r σ' => zInv σ' ∧ zOn zQ1 σ σ' ∧ (σ 164 2 ≤ σ' 164 2 ∧ (σ 164 2 ≤ σ 164 3 → σ' 164 2 ≤ σ 164 3)) ∧ (σ' 164 5 = 0 → σ 164 5 = 0 ∧ σ 164 2 + 2 ≤ σ' 164 2)) := by
  refine zCt_of2 [some (.ref (E.1 + 164)), some (.int (zI a1_))] (by decide +kernel) (Nat.le_of_ble_eq_true rfl) rfl ?_
  intro X hE hX hR hL hN
  subst hE
  have hX : zok X cX12_qAsksWord RX12 4 := hX
  have hF := zOn_rf zQ1 σ
  have b1 := zv_46_2 hI zc_164
  have b2 := zv_46_3 hI zc_164
  have b3 := zv_46_5 hI zc_164
  have b4 := zv_46_4 hI zc_164
  refine zt_iload_n (pc' := 1) hX dX12_qAsksWord_0 rfl rfl ?_
  rcases (show a1_ = 0 ∨ a1_ = 1 ∨ a1_ = 2 ∨ a1_ = 3 ∨ a1_ = 4 ∨ a1_ = 5 ∨ a1_ = 6 ∨ a1_ = 7 ∨ a1_ = 8 ∨ a1_ = 9 ∨ (a1_ < 0 ∨ 9 < a1_) by omega) with c5 | c5 | c5 | c5 | c5 | c5 | c5 | c5 | c5 | c5 | c5
  · refine zt_tsIn (v := 0) (tgt := 56) hX dX12_qAsksWord_1 c5 (by decide) (by decide) (by decide) rfl (by decide) ?_
    refine zt_aload_n (pc' := 57) hX dX12_qAsksWord_56 rfl rfl ?_
    refine zt_aload_n (pc' := 58) hX dX12_qAsksWord_57 rfl rfl ?_
    refine zt_get (pc' := 61) (v := .ref (X.1.1 + 223)) hX dX12_qAsksWord_58 rfl zf_X12_198 (by decide) zc_164 zs_46 (zrf_of (zv_46_85 hI zc_164)) ?_
    refine zt_cVv (pc' := 64) hX dX12_qAsksWord_61 rfl zm_yX12_asks zw_26_0 zc_164 (by decide) zs_46 (q := (RX12, TX12, 108)) rfl rfl (zc_X12_asks _ _ σ hI 223 105 4 zc_223 (by decide) zs_105 (by decide)) rfl rfl (Nat.le_of_ble_eq_true rfl) (by decide) (fun r6 s7 hr8 hp9 => ?_)
    obtain ⟨hI10, hF11, z12, z13⟩ := hp9
    have e14 := hF11 164 3 rfl
    have hF15 := zOn_tr hF hF11 zi_id
    have b16 := zv_46_2 hI10 zc_164
    have b17 := zv_46_3 hI10 zc_164
    have b18 := zv_46_5 hI10 zc_164
    have b19 := zv_46_4 hI10 zc_164
    replace z12 : _ ∧ _ := ⟨z12.1, z12.2 (by omega)⟩
    refine zt_goto (tgt := 174) hX dX12_qAsksWord_64 (by decide) ?_
    exact zt_vret hX hR dX12_qAsksWord_174 ⟨hI10, hF15, by omega, (fun hb => by have qz13 := z13 (by omega); clear z13; omega)⟩
  · refine zt_tsIn (v := 1) (tgt := 67) hX dX12_qAsksWord_1 c5 (by decide) (by decide) (by decide) rfl (by decide) ?_
    refine zt_aload_n (pc' := 68) hX dX12_qAsksWord_67 rfl rfl ?_
    refine zt_aload_n (pc' := 69) hX dX12_qAsksWord_68 rfl rfl ?_
    refine zt_get (pc' := 72) (v := .ref (X.1.1 + 224)) hX dX12_qAsksWord_69 rfl zf_X12_201 (by decide) zc_164 zs_46 (zrf_of (zv_46_86 hI zc_164)) ?_
    refine zt_cVv (pc' := 75) hX dX12_qAsksWord_72 rfl zm_yX12_asks zw_26_0 zc_164 (by decide) zs_46 (q := (RX12, TX12, 108)) rfl rfl (zc_X12_asks _ _ σ hI 224 106 6 zc_224 (by decide) zs_106 (by decide)) rfl rfl (Nat.le_of_ble_eq_true rfl) (by decide) (fun r20 s21 hr22 hp23 => ?_)
    obtain ⟨hI24, hF25, z26, z27⟩ := hp23
    have e28 := hF25 164 3 rfl
    have hF29 := zOn_tr hF hF25 zi_id
    have b30 := zv_46_2 hI24 zc_164
    have b31 := zv_46_3 hI24 zc_164
    have b32 := zv_46_5 hI24 zc_164
    have b33 := zv_46_4 hI24 zc_164
    replace z26 : _ ∧ _ := ⟨z26.1, z26.2 (by omega)⟩
    refine zt_goto (tgt := 174) hX dX12_qAsksWord_75 (by decide) ?_
    exact zt_vret hX hR dX12_qAsksWord_174 ⟨hI24, hF29, by omega, (fun hb => by have qz27 := z27 (by omega); clear z27; omega)⟩
  · refine zt_tsIn (v := 2) (tgt := 78) hX dX12_qAsksWord_1 c5 (by decide) (by decide) (by decide) rfl (by decide) ?_
    refine zt_aload_n (pc' := 79) hX dX12_qAsksWord_78 rfl rfl ?_
    refine zt_aload_n (pc' := 80) hX dX12_qAsksWord_79 rfl rfl ?_
    refine zt_get (pc' := 83) (v := .ref (X.1.1 + 225)) hX dX12_qAsksWord_80 rfl zf_X12_204 (by decide) zc_164 zs_46 (zrf_of (zv_46_87 hI zc_164)) ?_
    refine zt_cVv (pc' := 86) hX dX12_qAsksWord_83 rfl zm_yX12_asks zw_26_0 zc_164 (by decide) zs_46 (q := (RX12, TX12, 108)) rfl rfl (zc_X12_asks _ _ σ hI 225 107 6 zc_225 (by decide) zs_107 (by decide)) rfl rfl (Nat.le_of_ble_eq_true rfl) (by decide) (fun r34 s35 hr36 hp37 => ?_)
    obtain ⟨hI38, hF39, z40, z41⟩ := hp37
    have e42 := hF39 164 3 rfl
    have hF43 := zOn_tr hF hF39 zi_id
    have b44 := zv_46_2 hI38 zc_164
    have b45 := zv_46_3 hI38 zc_164
    have b46 := zv_46_5 hI38 zc_164
    have b47 := zv_46_4 hI38 zc_164
    replace z40 : _ ∧ _ := ⟨z40.1, z40.2 (by omega)⟩
    refine zt_goto (tgt := 174) hX dX12_qAsksWord_86 (by decide) ?_
    exact zt_vret hX hR dX12_qAsksWord_174 ⟨hI38, hF43, by omega, (fun hb => by have qz41 := z41 (by omega); clear z41; omega)⟩
  · refine zt_tsIn (v := 3) (tgt := 89) hX dX12_qAsksWord_1 c5 (by decide) (by decide) (by decide) rfl (by decide) ?_
    refine zt_aload_n (pc' := 90) hX dX12_qAsksWord_89 rfl rfl ?_
    refine zt_aload_n (pc' := 91) hX dX12_qAsksWord_90 rfl rfl ?_
    refine zt_get (pc' := 94) (v := .ref (X.1.1 + 226)) hX dX12_qAsksWord_91 rfl zf_X12_207 (by decide) zc_164 zs_46 (zrf_of (zv_46_88 hI zc_164)) ?_
    refine zt_cVv (pc' := 97) hX dX12_qAsksWord_94 rfl zm_yX12_asks zw_26_0 zc_164 (by decide) zs_46 (q := (RX12, TX12, 108)) rfl rfl (zc_X12_asks _ _ σ hI 226 108 5 zc_226 (by decide) zs_108 (by decide)) rfl rfl (Nat.le_of_ble_eq_true rfl) (by decide) (fun r48 s49 hr50 hp51 => ?_)
    obtain ⟨hI52, hF53, z54, z55⟩ := hp51
    have e56 := hF53 164 3 rfl
    have hF57 := zOn_tr hF hF53 zi_id
    have b58 := zv_46_2 hI52 zc_164
    have b59 := zv_46_3 hI52 zc_164
    have b60 := zv_46_5 hI52 zc_164
    have b61 := zv_46_4 hI52 zc_164
    replace z54 : _ ∧ _ := ⟨z54.1, z54.2 (by omega)⟩
    refine zt_goto (tgt := 174) hX dX12_qAsksWord_97 (by decide) ?_
    exact zt_vret hX hR dX12_qAsksWord_174 ⟨hI52, hF57, by omega, (fun hb => by have qz55 := z55 (by omega); clear z55; omega)⟩
  · refine zt_tsIn (v := 4) (tgt := 100) hX dX12_qAsksWord_1 c5 (by decide) (by decide) (by decide) rfl (by decide) ?_
    refine zt_aload_n (pc' := 101) hX dX12_qAsksWord_100 rfl rfl ?_
    refine zt_aload_n (pc' := 102) hX dX12_qAsksWord_101 rfl rfl ?_
    refine zt_get (pc' := 105) (v := .ref (X.1.1 + 227)) hX dX12_qAsksWord_102 rfl zf_X12_210 (by decide) zc_164 zs_46 (zrf_of (zv_46_89 hI zc_164)) ?_
    refine zt_cVv (pc' := 108) hX dX12_qAsksWord_105 rfl zm_yX12_asks zw_26_0 zc_164 (by decide) zs_46 (q := (RX12, TX12, 108)) rfl rfl (zc_X12_asks _ _ σ hI 227 109 5 zc_227 (by decide) zs_109 (by decide)) rfl rfl (Nat.le_of_ble_eq_true rfl) (by decide) (fun r62 s63 hr64 hp65 => ?_)
    obtain ⟨hI66, hF67, z68, z69⟩ := hp65
    have e70 := hF67 164 3 rfl
    have hF71 := zOn_tr hF hF67 zi_id
    have b72 := zv_46_2 hI66 zc_164
    have b73 := zv_46_3 hI66 zc_164
    have b74 := zv_46_5 hI66 zc_164
    have b75 := zv_46_4 hI66 zc_164
    replace z68 : _ ∧ _ := ⟨z68.1, z68.2 (by omega)⟩
    refine zt_goto (tgt := 174) hX dX12_qAsksWord_108 (by decide) ?_
    exact zt_vret hX hR dX12_qAsksWord_174 ⟨hI66, hF71, by omega, (fun hb => by have qz69 := z69 (by omega); clear z69; omega)⟩
  · refine zt_tsIn (v := 5) (tgt := 111) hX dX12_qAsksWord_1 c5 (by decide) (by decide) (by decide) rfl (by decide) ?_
    refine zt_aload_n (pc' := 112) hX dX12_qAsksWord_111 rfl rfl ?_
    refine zt_aload_n (pc' := 113) hX dX12_qAsksWord_112 rfl rfl ?_
    refine zt_get (pc' := 116) (v := .ref (X.1.1 + 228)) hX dX12_qAsksWord_113 rfl zf_X12_213 (by decide) zc_164 zs_46 (zrf_of (zv_46_90 hI zc_164)) ?_
    refine zt_cVv (pc' := 119) hX dX12_qAsksWord_116 rfl zm_yX12_asks zw_26_0 zc_164 (by decide) zs_46 (q := (RX12, TX12, 108)) rfl rfl (zc_X12_asks _ _ σ hI 228 110 4 zc_228 (by decide) zs_110 (by decide)) rfl rfl (Nat.le_of_ble_eq_true rfl) (by decide) (fun r76 s77 hr78 hp79 => ?_)
    obtain ⟨hI80, hF81, z82, z83⟩ := hp79
    have e84 := hF81 164 3 rfl
    have hF85 := zOn_tr hF hF81 zi_id
    have b86 := zv_46_2 hI80 zc_164
    have b87 := zv_46_3 hI80 zc_164
    have b88 := zv_46_5 hI80 zc_164
    have b89 := zv_46_4 hI80 zc_164
    replace z82 : _ ∧ _ := ⟨z82.1, z82.2 (by omega)⟩
    refine zt_goto (tgt := 174) hX dX12_qAsksWord_119 (by decide) ?_
    exact zt_vret hX hR dX12_qAsksWord_174 ⟨hI80, hF85, by omega, (fun hb => by have qz83 := z83 (by omega); clear z83; omega)⟩
  · refine zt_tsIn (v := 6) (tgt := 122) hX dX12_qAsksWord_1 c5 (by decide) (by decide) (by decide) rfl (by decide) ?_
    refine zt_aload_n (pc' := 123) hX dX12_qAsksWord_122 rfl rfl ?_
    refine zt_aload_n (pc' := 124) hX dX12_qAsksWord_123 rfl rfl ?_
    refine zt_get (pc' := 127) (v := .ref (X.1.1 + 229)) hX dX12_qAsksWord_124 rfl zf_X12_216 (by decide) zc_164 zs_46 (zrf_of (zv_46_91 hI zc_164)) ?_
    refine zt_cVv (pc' := 130) hX dX12_qAsksWord_127 rfl zm_yX12_asks zw_26_0 zc_164 (by decide) zs_46 (q := (RX12, TX12, 108)) rfl rfl (zc_X12_asks _ _ σ hI 229 111 6 zc_229 (by decide) zs_111 (by decide)) rfl rfl (Nat.le_of_ble_eq_true rfl) (by decide) (fun r90 s91 hr92 hp93 => ?_)
    obtain ⟨hI94, hF95, z96, z97⟩ := hp93
    have e98 := hF95 164 3 rfl
    have hF99 := zOn_tr hF hF95 zi_id
    have b100 := zv_46_2 hI94 zc_164
    have b101 := zv_46_3 hI94 zc_164
    have b102 := zv_46_5 hI94 zc_164
    have b103 := zv_46_4 hI94 zc_164
    replace z96 : _ ∧ _ := ⟨z96.1, z96.2 (by omega)⟩
    refine zt_goto (tgt := 174) hX dX12_qAsksWord_130 (by decide) ?_
    exact zt_vret hX hR dX12_qAsksWord_174 ⟨hI94, hF99, by omega, (fun hb => by have qz97 := z97 (by omega); clear z97; omega)⟩
  · refine zt_tsIn (v := 7) (tgt := 133) hX dX12_qAsksWord_1 c5 (by decide) (by decide) (by decide) rfl (by decide) ?_
    refine zt_aload_n (pc' := 134) hX dX12_qAsksWord_133 rfl rfl ?_
    refine zt_aload_n (pc' := 135) hX dX12_qAsksWord_134 rfl rfl ?_
    refine zt_get (pc' := 138) (v := .ref (X.1.1 + 230)) hX dX12_qAsksWord_135 rfl zf_X12_219 (by decide) zc_164 zs_46 (zrf_of (zv_46_92 hI zc_164)) ?_
    refine zt_cVv (pc' := 141) hX dX12_qAsksWord_138 rfl zm_yX12_asks zw_26_0 zc_164 (by decide) zs_46 (q := (RX12, TX12, 108)) rfl rfl (zc_X12_asks _ _ σ hI 230 112 6 zc_230 (by decide) zs_112 (by decide)) rfl rfl (Nat.le_of_ble_eq_true rfl) (by decide) (fun r104 s105 hr106 hp107 => ?_)
    obtain ⟨hI108, hF109, z110, z111⟩ := hp107
    have e112 := hF109 164 3 rfl
    have hF113 := zOn_tr hF hF109 zi_id
    have b114 := zv_46_2 hI108 zc_164
    have b115 := zv_46_3 hI108 zc_164
    have b116 := zv_46_5 hI108 zc_164
    have b117 := zv_46_4 hI108 zc_164
    replace z110 : _ ∧ _ := ⟨z110.1, z110.2 (by omega)⟩
    refine zt_goto (tgt := 174) hX dX12_qAsksWord_141 (by decide) ?_
    exact zt_vret hX hR dX12_qAsksWord_174 ⟨hI108, hF113, by omega, (fun hb => by have qz111 := z111 (by omega); clear z111; omega)⟩
  · refine zt_tsIn (v := 8) (tgt := 144) hX dX12_qAsksWord_1 c5 (by decide) (by decide) (by decide) rfl (by decide) ?_
    refine zt_aload_n (pc' := 145) hX dX12_qAsksWord_144 rfl rfl ?_
    refine zt_aload_n (pc' := 146) hX dX12_qAsksWord_145 rfl rfl ?_
    refine zt_get (pc' := 149) (v := .ref (X.1.1 + 231)) hX dX12_qAsksWord_146 rfl zf_X12_222 (by decide) zc_164 zs_46 (zrf_of (zv_46_93 hI zc_164)) ?_
    refine zt_cVv (pc' := 152) hX dX12_qAsksWord_149 rfl zm_yX12_asks zw_26_0 zc_164 (by decide) zs_46 (q := (RX12, TX12, 108)) rfl rfl (zc_X12_asks _ _ σ hI 231 113 3 zc_231 (by decide) zs_113 (by decide)) rfl rfl (Nat.le_of_ble_eq_true rfl) (by decide) (fun r118 s119 hr120 hp121 => ?_)
    obtain ⟨hI122, hF123, z124, z125⟩ := hp121
    have e126 := hF123 164 3 rfl
    have hF127 := zOn_tr hF hF123 zi_id
    have b128 := zv_46_2 hI122 zc_164
    have b129 := zv_46_3 hI122 zc_164
    have b130 := zv_46_5 hI122 zc_164
    have b131 := zv_46_4 hI122 zc_164
    replace z124 : _ ∧ _ := ⟨z124.1, z124.2 (by omega)⟩
    refine zt_goto (tgt := 174) hX dX12_qAsksWord_152 (by decide) ?_
    exact zt_vret hX hR dX12_qAsksWord_174 ⟨hI122, hF127, by omega, (fun hb => by have qz125 := z125 (by omega); clear z125; omega)⟩
  · refine zt_tsIn (v := 9) (tgt := 155) hX dX12_qAsksWord_1 c5 (by decide) (by decide) (by decide) rfl (by decide) ?_
    refine zt_aload_n (pc' := 156) hX dX12_qAsksWord_155 rfl rfl ?_
    refine zt_aload_n (pc' := 157) hX dX12_qAsksWord_156 rfl rfl ?_
    refine zt_get (pc' := 160) (v := .ref (X.1.1 + 232)) hX dX12_qAsksWord_157 rfl zf_X12_225 (by decide) zc_164 zs_46 (zrf_of (zv_46_94 hI zc_164)) ?_
    refine zt_cVv (pc' := 163) hX dX12_qAsksWord_160 rfl zm_yX12_asks zw_26_0 zc_164 (by decide) zs_46 (q := (RX12, TX12, 108)) rfl rfl (zc_X12_asks _ _ σ hI 232 114 5 zc_232 (by decide) zs_114 (by decide)) rfl rfl (Nat.le_of_ble_eq_true rfl) (by decide) (fun r132 s133 hr134 hp135 => ?_)
    obtain ⟨hI136, hF137, z138, z139⟩ := hp135
    have e140 := hF137 164 3 rfl
    have hF141 := zOn_tr hF hF137 zi_id
    have b142 := zv_46_2 hI136 zc_164
    have b143 := zv_46_3 hI136 zc_164
    have b144 := zv_46_5 hI136 zc_164
    have b145 := zv_46_4 hI136 zc_164
    replace z138 : _ ∧ _ := ⟨z138.1, z138.2 (by omega)⟩
    refine zt_goto (tgt := 174) hX dX12_qAsksWord_163 (by decide) ?_
    exact zt_vret hX hR dX12_qAsksWord_174 ⟨hI136, hF141, by omega, (fun hb => by have qz139 := z139 (by omega); clear z139; omega)⟩
  · refine zt_tsOut (tgt := 166) hX dX12_qAsksWord_1 ⟨by omega, by omega⟩ c5 (by decide) ?_
    refine zt_aload_n (pc' := 167) hX dX12_qAsksWord_166 rfl rfl ?_
    refine zt_aload_n (pc' := 168) hX dX12_qAsksWord_167 rfl rfl ?_
    refine zt_get (pc' := 171) (v := .ref (X.1.1 + 233)) hX dX12_qAsksWord_168 rfl zf_X12_228 (by decide) zc_164 zs_46 (zrf_of (zv_46_95 hI zc_164)) ?_
    refine zt_cVv (pc' := 174) hX dX12_qAsksWord_171 rfl zm_yX12_asks zw_26_0 zc_164 (by decide) zs_46 (q := (RX12, TX12, 108)) rfl rfl (zc_X12_asks _ _ σ hI 233 115 3 zc_233 (by decide) zs_115 (by decide)) rfl rfl (Nat.le_of_ble_eq_true rfl) (by decide) (fun r146 s147 hr148 hp149 => ?_)
    obtain ⟨hI150, hF151, z152, z153⟩ := hp149
    have e154 := hF151 164 3 rfl
    have hF155 := zOn_tr hF hF151 zi_id
    have b156 := zv_46_2 hI150 zc_164
    have b157 := zv_46_3 hI150 zc_164
    have b158 := zv_46_5 hI150 zc_164
    have b159 := zv_46_4 hI150 zc_164
    replace z152 : _ ∧ _ := ⟨z152.1, z152.2 (by omega)⟩
    exact zt_vret hX hR dX12_qAsksWord_174 ⟨hI150, hF155, by omega, (fun hb => by have qz153 := z153 (by omega); clear z153; omega)⟩

set_option maxRecDepth 100000 in
set_option maxHeartbeats 1000000 in
theorem zc_X12_qKind (l : Launch) (E : zEN) (σ : zSto) (hI : zInv σ) (hpre0 : σ 164 2 ≤ σ 164 3) : zCt l E yX12_qKind cX12_qKind 2 (some .int) 4 zNC zNC 0 0 σ [.ref (E.1 + 164)] (fun r σ' => zInv σ' ∧ zOn zQ1 σ σ' ∧ 0 ≤ r ∧ r ≤ 5 ∧ (σ 164 2 ≤ σ' 164 2 ∧ (σ 164 2 ≤ σ 164 3 → σ' 164 2 ≤ σ 164 3)) ∧ (σ' 164 5 = 0 → σ 164 5 = 0)) := by
  refine zCt_of2 [some (.ref (E.1 + 164)), none] (by decide +kernel) (Nat.le_of_ble_eq_true rfl) rfl ?_
  intro X hE hX hR hL hN
  subst hE
  have hX : zok X cX12_qKind RX12 4 := hX
  have hF := zOn_rf zQ1 σ
  have b1 := zv_46_2 hI zc_164
  have b2 := zv_46_3 hI zc_164
  have b3 := zv_46_5 hI zc_164
  have b4 := zv_46_4 hI zc_164
  refine zt_aload_n (pc' := 1) hX dX12_qKind_0 rfl rfl ?_
  refine zt_aload_n (pc' := 2) hX dX12_qKind_1 rfl rfl ?_
  refine zt_get (pc' := 5) (v := .ref (X.1.1 + 211)) hX dX12_qKind_2 rfl zf_X12_162 (by decide) zc_164 zs_46 (zrf_of (zv_46_73 hI zc_164)) ?_
  refine zt_cVz (pc' := 8) hX dX12_qKind_5 rfl zm_yX12_takes zw_26_4 zc_164 (by decide) zs_46 (q := (RX12, TX12, 108)) rfl rfl (zc_X12_takes _ _ σ hI 211 93 5 zc_211 (by decide) zs_93 (by decide)) rfl rfl (Nat.le_of_ble_eq_true rfl) (by decide) (fun r5 s6 hr7 hp8 => ?_)
  obtain ⟨hI9, hF10, q11, q12, z13, z14, z15⟩ := hp8
  have e16 := hF10 164 3 rfl
  have hF17 := zOn_tr hF hF10 zi_id
  have b18 := zv_46_2 hI9 zc_164
  have b19 := zv_46_3 hI9 zc_164
  have b20 := zv_46_5 hI9 zc_164
  have b21 := zv_46_4 hI9 zc_164
  replace z13 : _ ∧ _ := ⟨z13.1, z13.2 (by omega)⟩
  have J_76_30 : ∀ (y22 : Int) (s25 : zSto), 0 ≤ y22 → y22 ≤ 5 → zInv s25 → zOn zQ1 σ s25 → (σ 164 2 ≤ s25 164 2 ∧ (σ 164 2 ≤ σ 164 3 → s25 164 2 ≤ σ 164 3)) → s25 164 3 = σ 164 3 → (s25 164 5 = 0 → σ 164 5 = 0) → zF X s25 76 [some (.ref (X.1.1 + 164)), none] [.int (zI y22)] := by
    clear z14
    intro y22 s25 h23 h24 hI26 hF27 g28 g29 g30
    have b32 := zv_46_2 hI26 zc_164
    have b33 := zv_46_3 hI26 zc_164
    have b34 := zv_46_5 hI26 zc_164
    have b35 := zv_46_4 hI26 zc_164
    refine zt_istore_n (pc' := 77) (lv' := [some (.ref (X.1.1 + 164)), some (.int (zI y22))]) hX dX12_qKind_76 rfl hL (by decide) rfl ?_
    refine zt_iload_n (pc' := 78) hX dX12_qKind_77 rfl rfl ?_
    refine zt_iconst (pc' := 79) hX dX12_qKind_78 rfl ?_
    refine zt_icne (pc' := 82) (tgt := 90) hX dX12_qKind_79 rfl (by decide) ⟨by omega, by omega⟩ ⟨by omega, by omega⟩ (fun c36 => ?_) (fun c36 => ?_)
    · refine zt_iload_n (pc' := 91) hX dX12_qKind_90 rfl rfl ?_
      exact zt_iret hX hR dX12_qKind_91 ⟨by omega, by omega⟩ ⟨hI26, hF27, by omega, by omega, by omega, (fun hb => by have qg30 := g30 (by omega); clear g30; omega)⟩
    · refine zt_aload_n (pc' := 83) hX dX12_qKind_82 rfl rfl ?_
      refine zt_aload_n (pc' := 84) hX dX12_qKind_83 rfl rfl ?_
      refine zt_get (pc' := 87) (v := .ref (X.1.1 + 216)) hX dX12_qKind_84 rfl zf_X12_177 (by decide) zc_164 zs_46 (zrf_of (zv_46_78 hI26 zc_164)) ?_
      refine zt_cVv (pc' := 90) hX dX12_qKind_87 rfl zm_yX12_asks zw_26_0 zc_164 (by decide) zs_46 (q := (RX12, TX12, 108)) rfl rfl (zc_X12_asks _ _ s25 hI26 216 98 5 zc_216 (by decide) zs_98 (by decide)) rfl rfl (Nat.le_of_ble_eq_true rfl) (by decide) (fun r37 s38 hr39 hp40 => ?_)
      obtain ⟨hI41, hF42, z43, z44⟩ := hp40
      have e45 := hF42 164 3 rfl
      have hF46 := zOn_tr hF27 hF42 zi_id
      have b47 := zv_46_2 hI41 zc_164
      have b48 := zv_46_3 hI41 zc_164
      have b49 := zv_46_5 hI41 zc_164
      have b50 := zv_46_4 hI41 zc_164
      replace z43 : _ ∧ _ := ⟨z43.1, z43.2 (by omega)⟩
      refine zt_iload_n (pc' := 91) hX dX12_qKind_90 rfl rfl ?_
      exact zt_iret hX hR dX12_qKind_91 ⟨by omega, by omega⟩ ⟨hI41, hF46, by omega, by omega, by omega, (fun hb => by have qz44 := z44 (by omega); have qg30 := g30 (by omega); clear z44 g30; omega)⟩
  refine zt_ifeq (pc' := 11) (tgt := 15) hX dX12_qKind_8 rfl (by decide) ⟨by omega, by omega⟩ (fun c51 => ?_) (fun c51 => ?_)
  · clear z14
    refine zt_aload_n (pc' := 16) hX dX12_qKind_15 rfl rfl ?_
    refine zt_aload_n (pc' := 17) hX dX12_qKind_16 rfl rfl ?_
    refine zt_get (pc' := 20) (v := .ref (X.1.1 + 212)) hX dX12_qKind_17 rfl zf_X12_165 (by decide) zc_164 zs_46 (zrf_of (zv_46_74 hI9 zc_164)) ?_
    refine zt_cVz (pc' := 23) hX dX12_qKind_20 rfl zm_yX12_takes zw_26_4 zc_164 (by decide) zs_46 (q := (RX12, TX12, 108)) rfl rfl (zc_X12_takes _ _ s6 hI9 212 94 4 zc_212 (by decide) zs_94 (by decide)) rfl rfl (Nat.le_of_ble_eq_true rfl) (by decide) (fun r52 s53 hr54 hp55 => ?_)
    obtain ⟨hI56, hF57, q58, q59, z60, z61, z62⟩ := hp55
    have e63 := hF57 164 3 rfl
    have hF64 := zOn_tr hF17 hF57 zi_id
    have b65 := zv_46_2 hI56 zc_164
    have b66 := zv_46_3 hI56 zc_164
    have b67 := zv_46_5 hI56 zc_164
    have b68 := zv_46_4 hI56 zc_164
    replace z60 : _ ∧ _ := ⟨z60.1, z60.2 (by omega)⟩
    refine zt_ifeq (pc' := 26) (tgt := 30) hX dX12_qKind_23 rfl (by decide) ⟨by omega, by omega⟩ (fun c69 => ?_) (fun c69 => ?_)
    · clear z61
      refine zt_aload_n (pc' := 31) hX dX12_qKind_30 rfl rfl ?_
      refine zt_aload_n (pc' := 32) hX dX12_qKind_31 rfl rfl ?_
      refine zt_get (pc' := 35) (v := .ref (X.1.1 + 213)) hX dX12_qKind_32 rfl zf_X12_168 (by decide) zc_164 zs_46 (zrf_of (zv_46_75 hI56 zc_164)) ?_
      refine zt_cVz (pc' := 38) hX dX12_qKind_35 rfl zm_yX12_takes zw_26_4 zc_164 (by decide) zs_46 (q := (RX12, TX12, 108)) rfl rfl (zc_X12_takes _ _ s53 hI56 213 95 5 zc_213 (by decide) zs_95 (by decide)) rfl rfl (Nat.le_of_ble_eq_true rfl) (by decide) (fun r70 s71 hr72 hp73 => ?_)
      obtain ⟨hI74, hF75, q76, q77, z78, z79, z80⟩ := hp73
      have e81 := hF75 164 3 rfl
      have hF82 := zOn_tr hF64 hF75 zi_id
      have b83 := zv_46_2 hI74 zc_164
      have b84 := zv_46_3 hI74 zc_164
      have b85 := zv_46_5 hI74 zc_164
      have b86 := zv_46_4 hI74 zc_164
      replace z78 : _ ∧ _ := ⟨z78.1, z78.2 (by omega)⟩
      refine zt_ifeq (pc' := 41) (tgt := 45) hX dX12_qKind_38 rfl (by decide) ⟨by omega, by omega⟩ (fun c87 => ?_) (fun c87 => ?_)
      · clear z79
        refine zt_aload_n (pc' := 46) hX dX12_qKind_45 rfl rfl ?_
        refine zt_aload_n (pc' := 47) hX dX12_qKind_46 rfl rfl ?_
        refine zt_get (pc' := 50) (v := .ref (X.1.1 + 214)) hX dX12_qKind_47 rfl zf_X12_171 (by decide) zc_164 zs_46 (zrf_of (zv_46_76 hI74 zc_164)) ?_
        refine zt_cVz (pc' := 53) hX dX12_qKind_50 rfl zm_yX12_takes zw_26_4 zc_164 (by decide) zs_46 (q := (RX12, TX12, 108)) rfl rfl (zc_X12_takes _ _ s71 hI74 214 96 5 zc_214 (by decide) zs_96 (by decide)) rfl rfl (Nat.le_of_ble_eq_true rfl) (by decide) (fun r88 s89 hr90 hp91 => ?_)
        obtain ⟨hI92, hF93, q94, q95, z96, z97, z98⟩ := hp91
        have e99 := hF93 164 3 rfl
        have hF100 := zOn_tr hF82 hF93 zi_id
        have b101 := zv_46_2 hI92 zc_164
        have b102 := zv_46_3 hI92 zc_164
        have b103 := zv_46_5 hI92 zc_164
        have b104 := zv_46_4 hI92 zc_164
        replace z96 : _ ∧ _ := ⟨z96.1, z96.2 (by omega)⟩
        refine zt_ifeq (pc' := 56) (tgt := 60) hX dX12_qKind_53 rfl (by decide) ⟨by omega, by omega⟩ (fun c105 => ?_) (fun c105 => ?_)
        · clear z97
          refine zt_aload_n (pc' := 61) hX dX12_qKind_60 rfl rfl ?_
          refine zt_aload_n (pc' := 62) hX dX12_qKind_61 rfl rfl ?_
          refine zt_get (pc' := 65) (v := .ref (X.1.1 + 215)) hX dX12_qKind_62 rfl zf_X12_174 (by decide) zc_164 zs_46 (zrf_of (zv_46_77 hI92 zc_164)) ?_
          refine zt_cVz (pc' := 68) hX dX12_qKind_65 rfl zm_yX12_takes zw_26_4 zc_164 (by decide) zs_46 (q := (RX12, TX12, 108)) rfl rfl (zc_X12_takes _ _ s89 hI92 215 97 4 zc_215 (by decide) zs_97 (by decide)) rfl rfl (Nat.le_of_ble_eq_true rfl) (by decide) (fun r106 s107 hr108 hp109 => ?_)
          obtain ⟨hI110, hF111, q112, q113, z114, z115, z116⟩ := hp109
          have e117 := hF111 164 3 rfl
          have hF118 := zOn_tr hF100 hF111 zi_id
          have b119 := zv_46_2 hI110 zc_164
          have b120 := zv_46_3 hI110 zc_164
          have b121 := zv_46_5 hI110 zc_164
          have b122 := zv_46_4 hI110 zc_164
          replace z114 : _ ∧ _ := ⟨z114.1, z114.2 (by omega)⟩
          refine zt_ifeq (pc' := 71) (tgt := 75) hX dX12_qKind_68 rfl (by decide) ⟨by omega, by omega⟩ (fun c123 => ?_) (fun c123 => ?_)
          · clear z115
            refine zt_iconst (pc' := 76) hX dX12_qKind_75 rfl ?_
            exact J_76_30 5 s107 (by omega) (by omega) hI110 hF118 (by omega) (by omega) (fun hb => by omega)
          · have qz115 := z115 (by omega)
            clear z115
            refine zt_iconst (pc' := 72) hX dX12_qKind_71 rfl ?_
            refine zt_goto (tgt := 76) hX dX12_qKind_72 (by decide) ?_
            exact J_76_30 4 s107 (by omega) (by omega) hI110 hF118 (by omega) (by omega) (fun hb => by omega)
        · have qz97 := z97 (by omega)
          clear z97
          refine zt_iconst (pc' := 57) hX dX12_qKind_56 rfl ?_
          refine zt_goto (tgt := 76) hX dX12_qKind_57 (by decide) ?_
          exact J_76_30 3 s89 (by omega) (by omega) hI92 hF100 (by omega) (by omega) (fun hb => by omega)
      · have qz79 := z79 (by omega)
        clear z79
        refine zt_iconst (pc' := 42) hX dX12_qKind_41 rfl ?_
        refine zt_goto (tgt := 76) hX dX12_qKind_42 (by decide) ?_
        exact J_76_30 2 s71 (by omega) (by omega) hI74 hF82 (by omega) (by omega) (fun hb => by omega)
    · have qz61 := z61 (by omega)
      clear z61
      refine zt_iconst (pc' := 27) hX dX12_qKind_26 rfl ?_
      refine zt_goto (tgt := 76) hX dX12_qKind_27 (by decide) ?_
      exact J_76_30 1 s53 (by omega) (by omega) hI56 hF64 (by omega) (by omega) (fun hb => by omega)
  · have qz14 := z14 (by omega)
    clear z14
    refine zt_iconst (pc' := 12) hX dX12_qKind_11 rfl ?_
    refine zt_goto (tgt := 76) hX dX12_qKind_12 (by decide) ?_
    exact J_76_30 0 s6 (by omega) (by omega) hI9 hF17 (by omega) (by omega) (fun hb => by omega)

set_option maxRecDepth 100000 in
set_option maxHeartbeats 1000000 in
theorem zc_X12_qIsBracket (l : Launch) (E : zEN) (σ : zSto)  (a0_ : Int) (ha0_ : -2147483648 ≤ a0_ ∧ a0_ ≤ 2147483647) : zCt l E yX12_qIsBracket cX12_qIsBracket 1 (some .boolean) 0 zNC zNC 0 0 σ [.int (zI a0_)] (fun r σ' => σ = σ' ∧ 0 ≤ r ∧ r ≤ 1 ∧ ((r = 1 → 20 ≤ a0_ ∧ a0_ ≤ 24) ∧ (r = 0 → a0_ < 20 ∨ 24 < a0_))) := by
  refine zCt_of2 [some (.int (zI a0_))] (by decide +kernel) (Nat.le_of_ble_eq_true rfl) rfl ?_
  intro X hE hX hR hL hN
  subst hE
  have hX : zok X cX12_qIsBracket RX12 0 := hX
  refine zt_iload_n (pc' := 1) hX dX12_qIsBracket_0 rfl rfl ?_
  refine zt_bipush (pc' := 3) hX dX12_qIsBracket_1 rfl (by decide) (by decide) ?_
  refine zt_iclt (pc' := 6) (tgt := 16) hX dX12_qIsBracket_3 rfl (by decide) ⟨by omega, by omega⟩ ⟨by omega, by omega⟩ (fun c1 => ?_) (fun c1 => ?_)
  · refine zt_iconst (pc' := 17) hX dX12_qIsBracket_16 rfl ?_
    exact zt_zret hX hR dX12_qIsBracket_17 ⟨by omega, by omega⟩ ⟨rfl, by omega, by omega, by omega⟩
  · refine zt_iload_n (pc' := 7) hX dX12_qIsBracket_6 rfl rfl ?_
    refine zt_bipush (pc' := 9) hX dX12_qIsBracket_7 rfl (by decide) (by decide) ?_
    refine zt_icgt (pc' := 12) (tgt := 16) hX dX12_qIsBracket_9 rfl (by decide) ⟨by omega, by omega⟩ ⟨by omega, by omega⟩ (fun c2 => ?_) (fun c2 => ?_)
    · refine zt_iconst (pc' := 17) hX dX12_qIsBracket_16 rfl ?_
      exact zt_zret hX hR dX12_qIsBracket_17 ⟨by omega, by omega⟩ ⟨rfl, by omega, by omega, by omega⟩
    · refine zt_iconst (pc' := 13) hX dX12_qIsBracket_12 rfl ?_
      refine zt_goto (tgt := 17) hX dX12_qIsBracket_13 (by decide) ?_
      exact zt_zret hX hR dX12_qIsBracket_17 ⟨by omega, by omega⟩ ⟨rfl, by omega, by omega, by omega⟩

set_option maxRecDepth 100000 in
set_option maxHeartbeats 1000000 in
theorem zc_X12_qIsOn (l : Launch) (E : zEN) (σ : zSto) (hI : zInv σ) (a1_ : Int) (ha1_ : -2147483648 ≤ a1_ ∧ a1_ ≤ 2147483647) : zCt l E yX12_qIsOn cX12_qIsOn 2 (some .boolean) 0 zNC zNC 0 0 σ [.ref (E.1 + 164), .int (zI a1_)] (fun r σ' => σ = σ' ∧ 0 ≤ r ∧ r ≤ 1 ∧ (r = 1 → 1 ≤ σ 164 99 ∧ σ 235 (σ 164 99 - 1).toNat = a1_) ∧ (r = 0 → σ 164 99 ≤ 0 ∨ σ 235 (σ 164 99 - 1).toNat ≠ a1_)) := by
  refine zCt_of2 [some (.ref (E.1 + 164)), some (.int (zI a1_))] (by decide +kernel) (Nat.le_of_ble_eq_true rfl) rfl ?_
  intro X hE hX hR hL hN
  subst hE
  have hX : zok X cX12_qIsOn RX12 0 := hX
  refine zt_aload_n (pc' := 1) hX dX12_qIsOn_0 rfl rfl ?_
  have b1 := zv_46_99 hI zc_164
  refine zt_get (pc' := 4) (v := .int (zI (σ 164 99))) hX dX12_qIsOn_1 rfl zf_X12_333 (by decide) zc_164 zs_46 rfl ?_
  refine zt_ifle (pc' := 7) (tgt := 26) hX dX12_qIsOn_4 rfl (by decide) ⟨by omega, by omega⟩ (fun c2 => ?_) (fun c2 => ?_)
  · refine zt_iconst (pc' := 27) hX dX12_qIsOn_26 rfl ?_
    exact zt_zret hX hR dX12_qIsOn_27 ⟨by omega, by omega⟩ ⟨rfl, by omega, by omega, by omega, by omega⟩
  · refine zt_aload_n (pc' := 8) hX dX12_qIsOn_7 rfl rfl ?_
    refine zt_get (pc' := 11) (v := .ref (X.1.1 + 235)) hX dX12_qIsOn_8 rfl zf_X12_234 (by decide) zc_164 zs_46 (zrf_of (zv_46_98 hI zc_164)) ?_
    refine zt_aload_n (pc' := 12) hX dX12_qIsOn_11 rfl rfl ?_
    refine zt_get (pc' := 15) (v := .int (zI (σ 164 99))) hX dX12_qIsOn_12 rfl zf_X12_333 (by decide) zc_164 zs_46 rfl ?_
    refine zt_iconst (pc' := 16) hX dX12_qIsOn_15 rfl ?_
    refine zt_isub (pc' := 17) hX dX12_qIsOn_16 rfl ?_
    refine zt_iald (pc' := 18) hX dX12_qIsOn_17 rfl (by decide) zc_235 zs_117 (by decide) ⟨by omega, by omega⟩ ?_
    generalize hv3 : σ 235 (((σ 164 99) - 1).toNat) = v3
    have bv3 : -2147483648 ≤ v3 ∧ v3 ≤ 2147483647 := hv3 ▸ zv_117 hI zc_235 _
    refine zt_iload_n (pc' := 19) hX dX12_qIsOn_18 rfl rfl ?_
    refine zt_icne (pc' := 22) (tgt := 26) hX dX12_qIsOn_19 rfl (by decide) ⟨by omega, by omega⟩ ⟨by omega, by omega⟩ (fun c4 => ?_) (fun c4 => ?_)
    · refine zt_iconst (pc' := 27) hX dX12_qIsOn_26 rfl ?_
      exact zt_zret hX hR dX12_qIsOn_27 ⟨by omega, by omega⟩ ⟨rfl, by omega, by omega, by omega, by omega⟩
    · refine zt_iconst (pc' := 23) hX dX12_qIsOn_22 rfl ?_
      refine zt_goto (tgt := 27) hX dX12_qIsOn_23 (by decide) ?_
      exact zt_zret hX hR dX12_qIsOn_27 ⟨by omega, by omega⟩ ⟨rfl, by omega, by omega, by omega, by omega⟩

set_option maxRecDepth 100000 in
set_option maxHeartbeats 1000000 in
theorem zc_X12_qCode (l : Launch) (E : zEN) (σ : zSto) (hI : zInv σ) (a1_ : Int) (ha1_ : -2147483648 ≤ a1_ ∧ a1_ ≤ 2147483647) (hpre0 : σ 164 97 ≤ 1699) : zCt l E yX12_qCode cX12_qCode 2 none 0 zNC zNC 0 0 σ [.ref (E.1 + 164), .int (zI a1_)] (fun r σ' => zInv σ' ∧ zOn zQ5 σ σ' ∧ (σ' = zcd σ a1_)) := by
  refine zCt_of2 [some (.ref (E.1 + 164)), some (.int (zI a1_))] (by decide +kernel) (Nat.le_of_ble_eq_true rfl) rfl ?_
  intro X hE hX hR hL hN
  subst hE
  have hX : zok X cX12_qCode RX12 0 := hX
  have hF := zOn_rf zQ5 σ
  have b1 := zv_46_97 hI zc_164
  refine zt_aload_n (pc' := 1) hX dX12_qCode_0 rfl rfl ?_
  refine zt_get (pc' := 4) (v := .ref (X.1.1 + 234)) hX dX12_qCode_1 rfl zf_X12_231 (by decide) zc_164 zs_46 (zrf_of (zv_46_96 hI zc_164)) ?_
  refine zt_aload_n (pc' := 5) hX dX12_qCode_4 rfl rfl ?_
  have b2 := zv_46_97 hI zc_164
  refine zt_get (pc' := 8) (v := .int (zI (σ 164 97))) hX dX12_qCode_5 rfl zf_X12_330 (by decide) zc_164 zs_46 rfl ?_
  refine zt_iload_n (pc' := 9) hX dX12_qCode_8 rfl rfl ?_
  refine zt_iast (pc' := 10) hX dX12_qCode_9 rfl (by decide) zc_234 zs_116 (by decide) ⟨by omega, by omega⟩ ?_
  generalize hs4 : zset σ 234 ((σ 164 97).toNat) a1_ = s3
  have hI5 : zInv s3 := hs4 ▸ zp_116 hI zc_234 ((σ 164 97).toNat) ⟨by omega, by omega⟩
  have hF6 : zOn zQ5 σ s3 := hs4 ▸ zOn_set hF (zq5_234 (by omega))
  have e7 : s3 164 97 = σ 164 97 := by rw [← hs4]; exact zset_k (zne_r zc_164 zc_234 (by decide))
  refine zt_aload_n (pc' := 11) hX dX12_qCode_10 rfl rfl ?_
  refine zt_dup (pc' := 12) hX dX12_qCode_11 rfl rfl ?_
  have b8 := zv_46_97 hI5 zc_164
  refine zt_get (pc' := 15) (v := .int (zI (s3 164 97))) hX dX12_qCode_12 rfl zf_X12_330 (by decide) zc_164 zs_46 rfl ?_
  refine zt_iconst (pc' := 16) hX dX12_qCode_15 rfl ?_
  refine zt_iadd (pc' := 17) hX dX12_qCode_16 rfl ?_
  refine zt_put (pc' := 20) (x := ((s3 164 97) + 1)) hX dX12_qCode_17 rfl zf_X12_330 (by decide) zc_164 zs_46 (fun q hq => by cases hq; rfl) rfl rfl rfl ?_
  generalize hs10 : zset s3 164 97 ((s3 164 97) + 1) = s9
  have hI11 : zInv s9 := hs10 ▸ zp_46_97 hI5 zc_164 ⟨by omega, by omega⟩
  have hF12 : zOn zQ5 σ s9 := hs10 ▸ zOn_set hF6 (by decide)
  have e13 : s9 164 97 = ((s3 164 97) + 1) := by rw [← hs10]; exact zset_s
  exact zt_vret hX hR dX12_qCode_20 ⟨hI11, hF12, zcd_1 hs4 hs10 rfl (by omega)⟩

set_option maxRecDepth 100000 in
set_option maxHeartbeats 1000000 in
theorem zc_X12_qDrops_S (l : Launch) (E : zEN) (σ : zSto) (hI : zInv σ) (hpre0 : σ 164 97 ≤ 1699) (hpre1 : σ 164 101 < σ 164 99) (hpre2 : zr σ = 1) (hpre3 : zBt σ + 1 ≤ zHt σ) (hpre4 : ¬ (20 ≤ σ 235 (σ 164 99 - 1).toNat ∧ σ 235 (σ 164 99 - 1).toNat ≤ 24)) : zCt l E yX12_qDrops cX12_qDrops 1 none 1 zNC zNC 0 0 σ [.ref (E.1 + 164)] (fun r σ' => zInv σ' ∧ zOn zQ5 σ σ' ∧ (σ' 164 97 = σ 164 97 + 1 ∧ σ' 164 99 = σ 164 99 - 1) ∧ (zr σ' = 1 ∧ zHt σ' - zBt σ' = zHt σ - zBt σ ∧ ztb σ' = ztb σ ∧ zBb σ' = zBb σ ∧ zSb σ' = zSb σ)) := by
  refine zCt_of2 [some (.ref (E.1 + 164))] (by decide +kernel) (Nat.le_of_ble_eq_true rfl) rfl ?_
  intro X hE hX hR hL hN
  subst hE
  have hX : zok X cX12_qDrops RX12 1 := hX
  have hF := zOn_rf zQ5 σ
  have b1 := zv_46_97 hI zc_164
  have b2 := zv_46_99 hI zc_164
  have b3 := zv_46_101 hI zc_164
  refine zt_aload_n (pc' := 1) hX dX12_qDrops_0 rfl rfl ?_
  refine zt_dup (pc' := 2) hX dX12_qDrops_1 rfl rfl ?_
  have b4 := zv_46_99 hI zc_164
  refine zt_get (pc' := 5) (v := .int (zI (σ 164 99))) hX dX12_qDrops_2 rfl zf_X12_333 (by decide) zc_164 zs_46 rfl ?_
  refine zt_iconst (pc' := 6) hX dX12_qDrops_5 rfl ?_
  refine zt_isub (pc' := 7) hX dX12_qDrops_6 rfl ?_
  refine zt_put (pc' := 10) (x := ((σ 164 99) - 1)) hX dX12_qDrops_7 rfl zf_X12_333 (by decide) zc_164 zs_46 (fun q hq => by cases hq; rfl) rfl rfl rfl ?_
  generalize hs6 : zset σ 164 99 ((σ 164 99) - 1) = s5
  have hI7 : zInv s5 := hs6 ▸ zp_46_99 hI zc_164 ⟨by omega, by omega⟩
  have hF8 : zOn zQ5 σ s5 := hs6 ▸ zOn_set hF (by decide)
  have e9 : s5 164 97 = σ 164 97 := by rw [← hs6]; exact zset_j (by decide)
  have e10 : s5 164 99 = ((σ 164 99) - 1) := by rw [← hs6]; exact zset_s
  have e11 : s5 164 101 = σ 164 101 := by rw [← hs6]; exact zset_j (by decide)
  refine zt_aload_n (pc' := 11) hX dX12_qDrops_10 rfl rfl ?_
  refine zt_aload_n (pc' := 12) hX dX12_qDrops_11 rfl rfl ?_
  refine zt_get (pc' := 15) (v := .ref (X.1.1 + 235)) hX dX12_qDrops_12 rfl zf_X12_234 (by decide) zc_164 zs_46 (zrf_of (zv_46_98 hI7 zc_164)) ?_
  refine zt_aload_n (pc' := 16) hX dX12_qDrops_15 rfl rfl ?_
  have b12 := zv_46_99 hI7 zc_164
  refine zt_get (pc' := 19) (v := .int (zI (s5 164 99))) hX dX12_qDrops_16 rfl zf_X12_333 (by decide) zc_164 zs_46 rfl ?_
  refine zt_iald (pc' := 20) hX dX12_qDrops_19 rfl (by decide) zc_235 zs_117 (by decide) ⟨by omega, by omega⟩ ?_
  generalize hv13 : s5 235 ((s5 164 99).toNat) = v13
  have bv13 : -2147483648 ≤ v13 ∧ v13 ≤ 2147483647 := hv13 ▸ zv_117 hI7 zc_235 _
  refine zt_cVv (pc' := 23) hX dX12_qDrops_20 rfl zm_yX12_qCode zw_29_18 zc_164 (by decide) zs_46 (q := (RX12, TX12, 108)) rfl rfl (zc_X12_qCode _ _ s5 hI7 v13 ⟨by omega, by omega⟩ (by omega)) rfl rfl (Nat.le_of_ble_eq_true rfl) (by decide) (fun r14 s15 hr16 hp17 => ?_)
  obtain ⟨hI18, hF19, z20⟩ := hp17
  have e21 := hF19 164 101 rfl
  have hF22 := zOn_tr hF8 hF19 zi_id
  have b23 := zv_46_97 hI18 zc_164
  have b24 := zv_46_99 hI18 zc_164
  have b25 := zv_46_101 hI18 zc_164
  have h26 := zcd_f z20
  have zf := zdr_S hs6 rfl hv13 z20 (by omega) (by omega) hpre1 hpre2 hpre3 hpre4
  exact zt_vret hX hR dX12_qDrops_23 ⟨hI18, hF22, by omega, zf⟩

set_option maxRecDepth 100000 in
set_option maxHeartbeats 1000000 in
theorem zc_X12_qDrops_T (l : Launch) (E : zEN) (σ : zSto) (hI : zInv σ) (hpre0 : σ 164 97 ≤ 1699) (hpre1 : 1 ≤ σ 164 99) (hpre2 : zt σ = 1) (hpre3 : zBt σ + 1 ≤ zHt σ) (hpre4 : σ 235 (σ 164 99 - 1).toNat ≠ 25) : zCt l E yX12_qDrops cX12_qDrops 1 none 1 zNC zNC 0 0 σ [.ref (E.1 + 164)] (fun r σ' => zInv σ' ∧ zOn zQ5 σ σ' ∧ (σ' 164 97 = σ 164 97 + 1 ∧ σ' 164 99 = σ 164 99 - 1) ∧ (zt σ' = 1 ∧ zHt σ' - zBt σ' = zHt σ - zBt σ ∧ zsq σ' = zsq σ)) := by
  refine zCt_of2 [some (.ref (E.1 + 164))] (by decide +kernel) (Nat.le_of_ble_eq_true rfl) rfl ?_
  intro X hE hX hR hL hN
  subst hE
  have hX : zok X cX12_qDrops RX12 1 := hX
  have hF := zOn_rf zQ5 σ
  have b1 := zv_46_97 hI zc_164
  have b2 := zv_46_99 hI zc_164
  have b3 := zv_46_101 hI zc_164
  refine zt_aload_n (pc' := 1) hX dX12_qDrops_0 rfl rfl ?_
  refine zt_dup (pc' := 2) hX dX12_qDrops_1 rfl rfl ?_
  have b4 := zv_46_99 hI zc_164
  refine zt_get (pc' := 5) (v := .int (zI (σ 164 99))) hX dX12_qDrops_2 rfl zf_X12_333 (by decide) zc_164 zs_46 rfl ?_
  refine zt_iconst (pc' := 6) hX dX12_qDrops_5 rfl ?_
  refine zt_isub (pc' := 7) hX dX12_qDrops_6 rfl ?_
  refine zt_put (pc' := 10) (x := ((σ 164 99) - 1)) hX dX12_qDrops_7 rfl zf_X12_333 (by decide) zc_164 zs_46 (fun q hq => by cases hq; rfl) rfl rfl rfl ?_
  generalize hs6 : zset σ 164 99 ((σ 164 99) - 1) = s5
  have hI7 : zInv s5 := hs6 ▸ zp_46_99 hI zc_164 ⟨by omega, by omega⟩
  have hF8 : zOn zQ5 σ s5 := hs6 ▸ zOn_set hF (by decide)
  have e9 : s5 164 97 = σ 164 97 := by rw [← hs6]; exact zset_j (by decide)
  have e10 : s5 164 99 = ((σ 164 99) - 1) := by rw [← hs6]; exact zset_s
  have e11 : s5 164 101 = σ 164 101 := by rw [← hs6]; exact zset_j (by decide)
  refine zt_aload_n (pc' := 11) hX dX12_qDrops_10 rfl rfl ?_
  refine zt_aload_n (pc' := 12) hX dX12_qDrops_11 rfl rfl ?_
  refine zt_get (pc' := 15) (v := .ref (X.1.1 + 235)) hX dX12_qDrops_12 rfl zf_X12_234 (by decide) zc_164 zs_46 (zrf_of (zv_46_98 hI7 zc_164)) ?_
  refine zt_aload_n (pc' := 16) hX dX12_qDrops_15 rfl rfl ?_
  have b12 := zv_46_99 hI7 zc_164
  refine zt_get (pc' := 19) (v := .int (zI (s5 164 99))) hX dX12_qDrops_16 rfl zf_X12_333 (by decide) zc_164 zs_46 rfl ?_
  refine zt_iald (pc' := 20) hX dX12_qDrops_19 rfl (by decide) zc_235 zs_117 (by decide) ⟨by omega, by omega⟩ ?_
  generalize hv13 : s5 235 ((s5 164 99).toNat) = v13
  have bv13 : -2147483648 ≤ v13 ∧ v13 ≤ 2147483647 := hv13 ▸ zv_117 hI7 zc_235 _
  refine zt_cVv (pc' := 23) hX dX12_qDrops_20 rfl zm_yX12_qCode zw_29_18 zc_164 (by decide) zs_46 (q := (RX12, TX12, 108)) rfl rfl (zc_X12_qCode _ _ s5 hI7 v13 ⟨by omega, by omega⟩ (by omega)) rfl rfl (Nat.le_of_ble_eq_true rfl) (by decide) (fun r14 s15 hr16 hp17 => ?_)
  obtain ⟨hI18, hF19, z20⟩ := hp17
  have e21 := hF19 164 101 rfl
  have hF22 := zOn_tr hF8 hF19 zi_id
  have b23 := zv_46_97 hI18 zc_164
  have b24 := zv_46_99 hI18 zc_164
  have b25 := zv_46_101 hI18 zc_164
  have h26 := zcd_f z20
  have zf := zdr_T hs6 rfl hv13 z20 (by omega) (by omega) hpre1 hpre2 hpre3 hpre4
  exact zt_vret hX hR dX12_qDrops_23 ⟨hI18, hF22, by omega, zf⟩

set_option maxRecDepth 100000 in
set_option maxHeartbeats 1000000 in
theorem zc_X12_qOpens_S (l : Launch) (E : zEN) (σ : zSto) (hI : zInv σ) (a1_ : Int) (ha1_ : 20 ≤ a1_ ∧ a1_ ≤ 60) (a2_ : Int) (ha2_ : -2147483648 ≤ a2_ ∧ a2_ ≤ 2147483647) (hpre0 : σ 164 99 ≤ 1699) (hpre1 : σ 164 101 ≤ σ 164 99) (hpre2 : a1_ ≤ 22 ∨ a1_ = 60) : zCt l E yX12_qOpens cX12_qOpens 3 none 1 zNC zNC 0 0 σ [.ref (E.1 + 164), .int (zI a1_), .int (zI a2_)] (fun r σ' => zInv σ' ∧ zOn zQ2 σ σ' ∧ (σ' 164 2 = σ 164 2 ∧ σ' 164 97 = σ 164 97 ∧ σ' 164 101 = σ 164 101 ∧ σ 164 99 ≤ σ' 164 99 ∧ σ' 164 99 ≤ σ 164 99 + 1) ∧ (σ' 164 5 = 0 → σ 164 5 = 0) ∧ (σ' 164 5 = 0 → zr σ = 1 → zr σ' = 1) ∧ (σ' 164 5 = 0 → zHt σ' = zHt σ ∧ zBt σ' = zBt σ) ∧ (zBb σ' = zBb σ ∧ zSb σ' = zSb σ)) := by
  refine zCt_of2 [some (.ref (E.1 + 164)), some (.int (zI a1_)), some (.int (zI a2_))] (by decide +kernel) (Nat.le_of_ble_eq_true rfl) rfl ?_
  intro X hE hX hR hL hN
  subst hE
  have hX : zok X cX12_qOpens RX12 1 := hX
  have hF := zOn_rf zQ2 σ
  have b1 := zv_46_2 hI zc_164
  have b2 := zv_46_3 hI zc_164
  have b3 := zv_46_5 hI zc_164
  have b4 := zv_46_97 hI zc_164
  have b5 := zv_46_99 hI zc_164
  have b6 := zv_46_101 hI zc_164
  refine zt_aload_n (pc' := 1) hX dX12_qOpens_0 rfl rfl ?_
  have b7 := zv_46_5 hI zc_164
  refine zt_get (pc' := 4) (v := .int (zI (σ 164 5))) hX dX12_qOpens_1 rfl zf_X12_246 (by decide) zc_164 zs_46 rfl ?_
  refine zt_ifeq (pc' := 7) (tgt := 8) hX dX12_qOpens_4 rfl (by decide) ⟨by omega, by omega⟩ (fun c8 => ?_) (fun c8 => ?_)
  · refine zt_aload_n (pc' := 9) hX dX12_qOpens_8 rfl rfl ?_
    have b9 := zv_46_100 hI zc_164
    refine zt_get (pc' := 12) (v := .int (zI (σ 164 100))) hX dX12_qOpens_9 rfl zf_X12_336 (by decide) zc_164 zs_46 rfl ?_
    refine zt_bipush (pc' := 14) hX dX12_qOpens_12 rfl (by decide) (by decide) ?_
    refine zt_icne (pc' := 17) (tgt := 24) hX dX12_qOpens_14 rfl (by decide) ⟨by omega, by omega⟩ ⟨by omega, by omega⟩ (fun c10 => ?_) (fun c10 => ?_)
    · refine zt_aload_n (pc' := 25) hX dX12_qOpens_24 rfl rfl ?_
      refine zt_dup (pc' := 26) hX dX12_qOpens_25 rfl rfl ?_
      refine zt_get (pc' := 29) (v := .int (zI (σ 164 100))) hX dX12_qOpens_26 rfl zf_X12_336 (by decide) zc_164 zs_46 rfl ?_
      refine zt_iconst (pc' := 30) hX dX12_qOpens_29 rfl ?_
      refine zt_iadd (pc' := 31) hX dX12_qOpens_30 rfl ?_
      refine zt_wrap (fun r11 zr11 lr11 ur11 => ?_)
      clear zr11
      refine zt_put (pc' := 34) (x := r11) hX dX12_qOpens_31 rfl zf_X12_336 (by decide) zc_164 zs_46 (fun q hq => by cases hq; rfl) rfl rfl rfl ?_
      generalize hs13 : zset σ 164 100 r11 = s12
      have hI14 : zInv s12 := hs13 ▸ zp_46_100 hI zc_164 ⟨by omega, by omega⟩
      have hF15 : zOn zQ2 σ s12 := hs13 ▸ zOn_set hF (by decide)
      obtain ⟨w16, -, w18, w19, w20, w21, -, w23⟩ := zE_set hs13 (by decide)
      have e24 : s12 164 2 = σ 164 2 := by rw [← hs13]; exact zset_j (by decide)
      have e25 : s12 164 3 = σ 164 3 := by rw [← hs13]; exact zset_j (by decide)
      have e26 : s12 164 5 = σ 164 5 := by rw [← hs13]; exact zset_j (by decide)
      have e27 : s12 164 97 = σ 164 97 := by rw [← hs13]; exact zset_j (by decide)
      have e28 : s12 164 99 = σ 164 99 := by rw [← hs13]; exact zset_j (by decide)
      have e29 : s12 164 101 = σ 164 101 := by rw [← hs13]; exact zset_j (by decide)
      refine zt_aload_n (pc' := 35) hX dX12_qOpens_34 rfl rfl ?_
      refine zt_get (pc' := 38) (v := .ref (X.1.1 + 235)) hX dX12_qOpens_35 rfl zf_X12_234 (by decide) zc_164 zs_46 (zrf_of (zv_46_98 hI14 zc_164)) ?_
      refine zt_aload_n (pc' := 39) hX dX12_qOpens_38 rfl rfl ?_
      have b30 := zv_46_99 hI14 zc_164
      refine zt_get (pc' := 42) (v := .int (zI (s12 164 99))) hX dX12_qOpens_39 rfl zf_X12_333 (by decide) zc_164 zs_46 rfl ?_
      refine zt_iload_n (pc' := 43) hX dX12_qOpens_42 rfl rfl ?_
      refine zt_iast (pc' := 44) hX dX12_qOpens_43 rfl (by decide) zc_235 zs_117 (by decide) ⟨by omega, by omega⟩ ?_
      generalize hs32 : zset s12 235 ((s12 164 99).toNat) a1_ = s31
      have hI33 : zInv s31 := hs32 ▸ zp_117 hI14 zc_235 ((s12 164 99).toNat) ⟨by omega, by omega⟩
      have hF34 : zOn zQ2 σ s31 := hs32 ▸ zOn_set hF15 (zq2_235 (by omega))
      have e35 : s31 164 2 = s12 164 2 := by rw [← hs32]; exact zset_k (zne_r zc_164 zc_235 (by decide))
      have e36 : s31 164 3 = s12 164 3 := by rw [← hs32]; exact zset_k (zne_r zc_164 zc_235 (by decide))
      have e37 : s31 164 5 = s12 164 5 := by rw [← hs32]; exact zset_k (zne_r zc_164 zc_235 (by decide))
      have e38 : s31 164 97 = s12 164 97 := by rw [← hs32]; exact zset_k (zne_r zc_164 zc_235 (by decide))
      have e39 : s31 164 99 = s12 164 99 := by rw [← hs32]; exact zset_k (zne_r zc_164 zc_235 (by decide))
      have e40 : s31 164 101 = s12 164 101 := by rw [← hs32]; exact zset_k (zne_r zc_164 zc_235 (by decide))
      refine zt_aload_n (pc' := 45) hX dX12_qOpens_44 rfl rfl ?_
      refine zt_dup (pc' := 46) hX dX12_qOpens_45 rfl rfl ?_
      have b41 := zv_46_99 hI33 zc_164
      refine zt_get (pc' := 49) (v := .int (zI (s31 164 99))) hX dX12_qOpens_46 rfl zf_X12_333 (by decide) zc_164 zs_46 rfl ?_
      refine zt_iconst (pc' := 50) hX dX12_qOpens_49 rfl ?_
      refine zt_iadd (pc' := 51) hX dX12_qOpens_50 rfl ?_
      refine zt_put (pc' := 54) (x := ((s31 164 99) + 1)) hX dX12_qOpens_51 rfl zf_X12_333 (by decide) zc_164 zs_46 (fun q hq => by cases hq; rfl) rfl rfl rfl ?_
      generalize hs43 : zset s31 164 99 ((s31 164 99) + 1) = s42
      have hI44 : zInv s42 := hs43 ▸ zp_46_99 hI33 zc_164 ⟨by omega, by omega⟩
      have hF45 : zOn zQ2 σ s42 := hs43 ▸ zOn_set hF34 (by decide)
      have e46 : s42 164 2 = s31 164 2 := by rw [← hs43]; exact zset_j (by decide)
      have e47 : s42 164 3 = s31 164 3 := by rw [← hs43]; exact zset_j (by decide)
      have e48 : s42 164 5 = s31 164 5 := by rw [← hs43]; exact zset_j (by decide)
      have e49 : s42 164 97 = s31 164 97 := by rw [← hs43]; exact zset_j (by decide)
      have e50 : s42 164 99 = ((s31 164 99) + 1) := by rw [← hs43]; exact zset_s
      have e51 : s42 164 101 = s31 164 101 := by rw [← hs43]; exact zset_j (by decide)
      have h52 := zpush_S hs32 hs43 (by omega) (by omega) (by omega) (by omega)
      have h52w := zw_v a1_
      exact zt_vret hX hR dX12_qOpens_54 ⟨hI44, hF45, by omega, (fun hb => by omega), (fun hb => by omega), (fun hb => by omega), by omega⟩
    · refine zt_aload_n (pc' := 18) hX dX12_qOpens_17 rfl rfl ?_
      refine zt_iconst (pc' := 19) hX dX12_qOpens_18 rfl ?_
      refine zt_iload_n (pc' := 20) hX dX12_qOpens_19 rfl rfl ?_
      refine zt_cVv (pc' := 23) hX dX12_qOpens_20 rfl zm_yX12_fail zw_26_19 zc_164 (by decide) zs_46 (q := (RX12, TX12, 108)) rfl rfl (zc_X12_fail _ _ σ hI 4 ⟨by omega, by omega⟩ a2_ ⟨by omega, by omega⟩) rfl rfl (Nat.le_of_ble_eq_true rfl) (by decide) (fun r53 s54 hr55 hp56 => ?_)
      obtain ⟨hI57, hF58, z59, z60⟩ := hp56
      obtain ⟨w61, -, w63, w64, w65, w66, -, w68⟩ := zE_q1 hF58
      have e69 := hF58 164 3 rfl
      have e70 := hF58 164 97 rfl
      have e71 := hF58 164 99 rfl
      have e72 := hF58 164 101 rfl
      have hF73 := zOn_tr hF hF58 zi_12
      have b74 := zv_46_2 hI57 zc_164
      have b75 := zv_46_3 hI57 zc_164
      have b76 := zv_46_5 hI57 zc_164
      have b77 := zv_46_97 hI57 zc_164
      have b78 := zv_46_99 hI57 zc_164
      have b79 := zv_46_101 hI57 zc_164
      exact zt_vret hX hR dX12_qOpens_23 ⟨hI57, hF73, by omega, (fun hb => by omega), (fun hb => by omega), (fun hb => by omega), by omega⟩
  · exact zt_vret hX hR dX12_qOpens_7 ⟨hI, hF, by omega, (fun hb => by omega), (fun hb => by omega), (fun hb => by omega), by omega⟩

set_option maxRecDepth 100000 in
set_option maxHeartbeats 1000000 in
theorem zc_X12_qOpens_T (l : Launch) (E : zEN) (σ : zSto) (hI : zInv σ) (a1_ : Int) (ha1_ : 12 ≤ a1_ ∧ a1_ ≤ 25) (a2_ : Int) (ha2_ : -2147483648 ≤ a2_ ∧ a2_ ≤ 2147483647) (hpre0 : σ 164 99 ≤ 1699) (hpre1 : a1_ = 12 ∨ a1_ = 25) : zCt l E yX12_qOpens cX12_qOpens 3 none 1 zNC zNC 0 0 σ [.ref (E.1 + 164), .int (zI a1_), .int (zI a2_)] (fun r σ' => zInv σ' ∧ zOn zQ2 σ σ' ∧ (σ' 164 2 = σ 164 2 ∧ σ' 164 97 = σ 164 97 ∧ σ' 164 101 = σ 164 101 ∧ σ 164 99 ≤ σ' 164 99 ∧ σ' 164 99 ≤ σ 164 99 + 1) ∧ (σ' 164 5 = 0 → σ 164 5 = 0) ∧ (σ' 164 5 = 0 → zt σ = 1 → zt σ' = 1) ∧ (σ' 164 5 = 0 → zHt σ' = zHt σ ∧ zBt σ' = zBt σ)) := by
  refine zCt_of2 [some (.ref (E.1 + 164)), some (.int (zI a1_)), some (.int (zI a2_))] (by decide +kernel) (Nat.le_of_ble_eq_true rfl) rfl ?_
  intro X hE hX hR hL hN
  subst hE
  have hX : zok X cX12_qOpens RX12 1 := hX
  have hF := zOn_rf zQ2 σ
  have b1 := zv_46_2 hI zc_164
  have b2 := zv_46_3 hI zc_164
  have b3 := zv_46_5 hI zc_164
  have b4 := zv_46_97 hI zc_164
  have b5 := zv_46_99 hI zc_164
  have b6 := zv_46_101 hI zc_164
  refine zt_aload_n (pc' := 1) hX dX12_qOpens_0 rfl rfl ?_
  have b7 := zv_46_5 hI zc_164
  refine zt_get (pc' := 4) (v := .int (zI (σ 164 5))) hX dX12_qOpens_1 rfl zf_X12_246 (by decide) zc_164 zs_46 rfl ?_
  refine zt_ifeq (pc' := 7) (tgt := 8) hX dX12_qOpens_4 rfl (by decide) ⟨by omega, by omega⟩ (fun c8 => ?_) (fun c8 => ?_)
  · refine zt_aload_n (pc' := 9) hX dX12_qOpens_8 rfl rfl ?_
    have b9 := zv_46_100 hI zc_164
    refine zt_get (pc' := 12) (v := .int (zI (σ 164 100))) hX dX12_qOpens_9 rfl zf_X12_336 (by decide) zc_164 zs_46 rfl ?_
    refine zt_bipush (pc' := 14) hX dX12_qOpens_12 rfl (by decide) (by decide) ?_
    refine zt_icne (pc' := 17) (tgt := 24) hX dX12_qOpens_14 rfl (by decide) ⟨by omega, by omega⟩ ⟨by omega, by omega⟩ (fun c10 => ?_) (fun c10 => ?_)
    · refine zt_aload_n (pc' := 25) hX dX12_qOpens_24 rfl rfl ?_
      refine zt_dup (pc' := 26) hX dX12_qOpens_25 rfl rfl ?_
      refine zt_get (pc' := 29) (v := .int (zI (σ 164 100))) hX dX12_qOpens_26 rfl zf_X12_336 (by decide) zc_164 zs_46 rfl ?_
      refine zt_iconst (pc' := 30) hX dX12_qOpens_29 rfl ?_
      refine zt_iadd (pc' := 31) hX dX12_qOpens_30 rfl ?_
      refine zt_wrap (fun r11 zr11 lr11 ur11 => ?_)
      clear zr11
      refine zt_put (pc' := 34) (x := r11) hX dX12_qOpens_31 rfl zf_X12_336 (by decide) zc_164 zs_46 (fun q hq => by cases hq; rfl) rfl rfl rfl ?_
      generalize hs13 : zset σ 164 100 r11 = s12
      have hI14 : zInv s12 := hs13 ▸ zp_46_100 hI zc_164 ⟨by omega, by omega⟩
      have hF15 : zOn zQ2 σ s12 := hs13 ▸ zOn_set hF (by decide)
      obtain ⟨-, w17, w18, w19, -, -, w22, -⟩ := zE_set hs13 (by decide)
      have e24 : s12 164 2 = σ 164 2 := by rw [← hs13]; exact zset_j (by decide)
      have e25 : s12 164 3 = σ 164 3 := by rw [← hs13]; exact zset_j (by decide)
      have e26 : s12 164 5 = σ 164 5 := by rw [← hs13]; exact zset_j (by decide)
      have e27 : s12 164 97 = σ 164 97 := by rw [← hs13]; exact zset_j (by decide)
      have e28 : s12 164 99 = σ 164 99 := by rw [← hs13]; exact zset_j (by decide)
      have e29 : s12 164 101 = σ 164 101 := by rw [← hs13]; exact zset_j (by decide)
      refine zt_aload_n (pc' := 35) hX dX12_qOpens_34 rfl rfl ?_
      refine zt_get (pc' := 38) (v := .ref (X.1.1 + 235)) hX dX12_qOpens_35 rfl zf_X12_234 (by decide) zc_164 zs_46 (zrf_of (zv_46_98 hI14 zc_164)) ?_
      refine zt_aload_n (pc' := 39) hX dX12_qOpens_38 rfl rfl ?_
      have b30 := zv_46_99 hI14 zc_164
      refine zt_get (pc' := 42) (v := .int (zI (s12 164 99))) hX dX12_qOpens_39 rfl zf_X12_333 (by decide) zc_164 zs_46 rfl ?_
      refine zt_iload_n (pc' := 43) hX dX12_qOpens_42 rfl rfl ?_
      refine zt_iast (pc' := 44) hX dX12_qOpens_43 rfl (by decide) zc_235 zs_117 (by decide) ⟨by omega, by omega⟩ ?_
      generalize hs32 : zset s12 235 ((s12 164 99).toNat) a1_ = s31
      have hI33 : zInv s31 := hs32 ▸ zp_117 hI14 zc_235 ((s12 164 99).toNat) ⟨by omega, by omega⟩
      have hF34 : zOn zQ2 σ s31 := hs32 ▸ zOn_set hF15 (zq2_235 (by omega))
      have e35 : s31 164 2 = s12 164 2 := by rw [← hs32]; exact zset_k (zne_r zc_164 zc_235 (by decide))
      have e36 : s31 164 3 = s12 164 3 := by rw [← hs32]; exact zset_k (zne_r zc_164 zc_235 (by decide))
      have e37 : s31 164 5 = s12 164 5 := by rw [← hs32]; exact zset_k (zne_r zc_164 zc_235 (by decide))
      have e38 : s31 164 97 = s12 164 97 := by rw [← hs32]; exact zset_k (zne_r zc_164 zc_235 (by decide))
      have e39 : s31 164 99 = s12 164 99 := by rw [← hs32]; exact zset_k (zne_r zc_164 zc_235 (by decide))
      have e40 : s31 164 101 = s12 164 101 := by rw [← hs32]; exact zset_k (zne_r zc_164 zc_235 (by decide))
      refine zt_aload_n (pc' := 45) hX dX12_qOpens_44 rfl rfl ?_
      refine zt_dup (pc' := 46) hX dX12_qOpens_45 rfl rfl ?_
      have b41 := zv_46_99 hI33 zc_164
      refine zt_get (pc' := 49) (v := .int (zI (s31 164 99))) hX dX12_qOpens_46 rfl zf_X12_333 (by decide) zc_164 zs_46 rfl ?_
      refine zt_iconst (pc' := 50) hX dX12_qOpens_49 rfl ?_
      refine zt_iadd (pc' := 51) hX dX12_qOpens_50 rfl ?_
      refine zt_put (pc' := 54) (x := ((s31 164 99) + 1)) hX dX12_qOpens_51 rfl zf_X12_333 (by decide) zc_164 zs_46 (fun q hq => by cases hq; rfl) rfl rfl rfl ?_
      generalize hs43 : zset s31 164 99 ((s31 164 99) + 1) = s42
      have hI44 : zInv s42 := hs43 ▸ zp_46_99 hI33 zc_164 ⟨by omega, by omega⟩
      have hF45 : zOn zQ2 σ s42 := hs43 ▸ zOn_set hF34 (by decide)
      have e46 : s42 164 2 = s31 164 2 := by rw [← hs43]; exact zset_j (by decide)
      have e47 : s42 164 3 = s31 164 3 := by rw [← hs43]; exact zset_j (by decide)
      have e48 : s42 164 5 = s31 164 5 := by rw [← hs43]; exact zset_j (by decide)
      have e49 : s42 164 97 = s31 164 97 := by rw [← hs43]; exact zset_j (by decide)
      have e50 : s42 164 99 = ((s31 164 99) + 1) := by rw [← hs43]; exact zset_s
      have e51 : s42 164 101 = s31 164 101 := by rw [← hs43]; exact zset_j (by decide)
      have h52 := zpush_T hs32 hs43 (by omega) (by omega) (by omega)
      have h52w := zw_v a1_
      exact zt_vret hX hR dX12_qOpens_54 ⟨hI44, hF45, by omega, (fun hb => by omega), (fun hb => by omega), (fun hb => by omega)⟩
    · refine zt_aload_n (pc' := 18) hX dX12_qOpens_17 rfl rfl ?_
      refine zt_iconst (pc' := 19) hX dX12_qOpens_18 rfl ?_
      refine zt_iload_n (pc' := 20) hX dX12_qOpens_19 rfl rfl ?_
      refine zt_cVv (pc' := 23) hX dX12_qOpens_20 rfl zm_yX12_fail zw_26_19 zc_164 (by decide) zs_46 (q := (RX12, TX12, 108)) rfl rfl (zc_X12_fail _ _ σ hI 4 ⟨by omega, by omega⟩ a2_ ⟨by omega, by omega⟩) rfl rfl (Nat.le_of_ble_eq_true rfl) (by decide) (fun r53 s54 hr55 hp56 => ?_)
      obtain ⟨hI57, hF58, z59, z60⟩ := hp56
      obtain ⟨-, w62, w63, w64, -, -, w67, -⟩ := zE_q1 hF58
      have e69 := hF58 164 3 rfl
      have e70 := hF58 164 97 rfl
      have e71 := hF58 164 99 rfl
      have e72 := hF58 164 101 rfl
      have hF73 := zOn_tr hF hF58 zi_12
      have b74 := zv_46_2 hI57 zc_164
      have b75 := zv_46_3 hI57 zc_164
      have b76 := zv_46_5 hI57 zc_164
      have b77 := zv_46_97 hI57 zc_164
      have b78 := zv_46_99 hI57 zc_164
      have b79 := zv_46_101 hI57 zc_164
      exact zt_vret hX hR dX12_qOpens_23 ⟨hI57, hF73, by omega, (fun hb => by omega), (fun hb => by omega), (fun hb => by omega)⟩
  · exact zt_vret hX hR dX12_qOpens_7 ⟨hI, hF, by omega, (fun hb => by omega), (fun hb => by omega), (fun hb => by omega)⟩

set_option maxRecDepth 100000 in
set_option maxHeartbeats 1000000 in
theorem zc_X12_qBracket (l : Launch) (E : zEN) (σ : zSto) (hI : zInv σ) (hpre0 : σ 164 101 ≤ σ 164 99) : zCt l E yX12_qBracket cX12_qBracket 2 (some .int) 1 zNC zNC 0 0 σ [.ref (E.1 + 164)] (fun r σ' => σ = σ' ∧ -1 ≤ r ∧ r ≤ 24 ∧ (r = ztb σ)) := by
  refine zCt_of2 [some (.ref (E.1 + 164)), none] (by decide +kernel) (Nat.le_of_ble_eq_true rfl) rfl ?_
  intro X hE hX hR hL hN
  subst hE
  have hX : zok X cX12_qBracket RX12 1 := hX
  have b1 := zv_46_99 hI zc_164
  have b2 := zv_46_101 hI zc_164
  refine zt_aload_n (pc' := 1) hX dX12_qBracket_0 rfl rfl ?_
  have b3 := zv_46_99 hI zc_164
  refine zt_get (pc' := 4) (v := .int (zI (σ 164 99))) hX dX12_qBracket_1 rfl zf_X12_333 (by decide) zc_164 zs_46 rfl ?_
  refine zt_iconst (pc' := 5) hX dX12_qBracket_4 rfl ?_
  refine zt_isub (pc' := 6) hX dX12_qBracket_5 rfl ?_
  refine zt_istore_n (pc' := 7) (lv' := [some (.ref (X.1.1 + 164)), some (.int (zI ((σ 164 99) - 1)))]) hX dX12_qBracket_6 rfl hL (by decide) rfl ?_
  have h4 : ztk σ (((σ 164 99) - 1) + 1) = ztb σ := (congrArg (ztk σ) (show ((σ 164 99) - 1) + 1 = σ 164 99 by omega)).trans (ztk_w σ)
  have L_7_10 : ∀ (N : Nat) (x5 : Int), -1 ≤ x5 → x5 ≤ 1699 → ztk σ (x5 + 1) = ztb σ → σ 164 101 ≤ x5 + 1 → x5 < σ 164 99 → ((x5 - (-2)).toNat) < N → zF X σ 7 [some (.ref (X.1.1 + 164)), some (.int (zI x5))] [] := by
    intro N
    induction N with
    | zero =>
      intro x5 h6 h7 g8 g9 g10 hm12
      exact absurd hm12 (Nat.not_lt_zero _)
    | succ N ih13 =>
      intro x5 h6 h7 g8 g9 g10 hm12
      refine zt_iload_n (pc' := 8) hX dX12_qBracket_7 rfl rfl ?_
      refine zt_aload_n (pc' := 9) hX dX12_qBracket_8 rfl rfl ?_
      have b14 := zv_46_101 hI zc_164
      refine zt_get (pc' := 12) (v := .int (zI (σ 164 101))) hX dX12_qBracket_9 rfl zf_X12_339 (by decide) zc_164 zs_46 rfl ?_
      have h15 : x5 + 1 ≤ σ 164 101 → ztk σ (x5 + 1) = -1 := fun h => ztk_no h
      have J_33_20 : ztk σ (x5 + 1) = ztb σ → σ 164 101 ≤ x5 + 1 → x5 < σ 164 99 → (ztb σ = -1 ∨ σ 164 101 ≤ x5) → (σ 164 101 ≤ x5 → 20 ≤ ztb σ ∧ ztb σ ≤ 24 ∧ σ 235 (x5).toNat = ztb σ) → zF X σ 33 [some (.ref (X.1.1 + 164)), some (.int (zI x5))] [] := by
        intro g16 g17 g18 g19 g20
        refine zt_iload_n (pc' := 34) hX dX12_qBracket_33 rfl rfl ?_
        refine zt_aload_n (pc' := 35) hX dX12_qBracket_34 rfl rfl ?_
        refine zt_get (pc' := 38) (v := .int (zI (σ 164 101))) hX dX12_qBracket_35 rfl zf_X12_339 (by decide) zc_164 zs_46 rfl ?_
        have h22 : x5 + 1 ≤ σ 164 101 → ztk σ (x5 + 1) = -1 := fun h => ztk_no h
        refine zt_iclt (pc' := 41) (tgt := 50) hX dX12_qBracket_38 rfl (by decide) ⟨by omega, by omega⟩ ⟨by omega, by omega⟩ (fun c23 => ?_) (fun c23 => ?_)
        · refine zt_iconst (pc' := 51) hX dX12_qBracket_50 rfl ?_
          exact zt_iret hX hR dX12_qBracket_51 ⟨by omega, by omega⟩ ⟨rfl, by omega, by omega, by omega⟩
        · refine zt_aload_n (pc' := 42) hX dX12_qBracket_41 rfl rfl ?_
          refine zt_get (pc' := 45) (v := .ref (X.1.1 + 235)) hX dX12_qBracket_42 rfl zf_X12_234 (by decide) zc_164 zs_46 (zrf_of (zv_46_98 hI zc_164)) ?_
          refine zt_iload_n (pc' := 46) hX dX12_qBracket_45 rfl rfl ?_
          refine zt_iald (pc' := 47) hX dX12_qBracket_46 rfl (by decide) zc_235 zs_117 (by decide) ⟨by omega, by omega⟩ ?_
          generalize hv24 : σ 235 (x5.toNat) = v24
          have bv24 : -2147483648 ≤ v24 ∧ v24 ≤ 2147483647 := hv24 ▸ zv_117 hI zc_235 _
          have h25 := ztk_s hv24 (by omega) (by omega)
          refine zt_goto (tgt := 51) hX dX12_qBracket_47 (by decide) ?_
          exact zt_iret hX hR dX12_qBracket_51 ⟨by omega, by omega⟩ ⟨rfl, by omega, by omega, by omega⟩
      refine zt_iclt (pc' := 15) (tgt := 33) hX dX12_qBracket_12 rfl (by decide) ⟨by omega, by omega⟩ ⟨by omega, by omega⟩ (fun c26 => ?_) (fun c26 => ?_)
      · exact J_33_20 (by omega) (by omega) (by omega) (by omega) (by omega)
      · refine zt_aload_n (pc' := 16) hX dX12_qBracket_15 rfl rfl ?_
        refine zt_get (pc' := 19) (v := .ref (X.1.1 + 235)) hX dX12_qBracket_16 rfl zf_X12_234 (by decide) zc_164 zs_46 (zrf_of (zv_46_98 hI zc_164)) ?_
        refine zt_iload_n (pc' := 20) hX dX12_qBracket_19 rfl rfl ?_
        refine zt_iald (pc' := 21) hX dX12_qBracket_20 rfl (by decide) zc_235 zs_117 (by decide) ⟨by omega, by omega⟩ ?_
        generalize hv27 : σ 235 (x5.toNat) = v27
        have bv27 : -2147483648 ≤ v27 ∧ v27 ≤ 2147483647 := hv27 ▸ zv_117 hI zc_235 _
        have h28 := ztk_s hv27 (by omega) (by omega)
        have h28e : ztk σ (x5 + (-1) + 1) = ztk σ x5 := congrArg (ztk σ) (by omega)
        refine zt_cSz (pc' := 24) hX dX12_qBracket_21 rfl zm_yX12_qIsBracket zw_31_16 (zc_X12_qIsBracket _ _ σ  v27 ⟨by omega, by omega⟩) rfl rfl (Nat.le_of_ble_eq_true rfl) (by decide) (fun r29 s30 hr31 hp32 => ?_)
        obtain ⟨rfl, q33, q34, z35⟩ := hp32
        refine zt_ifne (pc' := 27) (tgt := 33) hX dX12_qBracket_24 rfl (by decide) ⟨by omega, by omega⟩ (fun c36 => ?_) (fun c36 => ?_)
        · exact J_33_20 (by omega) (by omega) (by omega) (by omega) (by omega)
        · refine zt_iinc (pc' := 30) (lv' := [some (.ref (X.1.1 + 164)), some (.int (zI (x5 + (-1))))]) hX dX12_qBracket_27 rfl rfl hL (by decide) rfl ?_
          refine zt_goto (tgt := 7) hX dX12_qBracket_30 (by decide) ?_
          exact ih13 (x5 + (-1)) (by omega) (by omega) (by omega) (by omega) (by omega) (by omega)
  exact L_7_10 _ ((σ 164 99) - 1) (by omega) (by omega) (by omega) (by omega) (by omega) (Nat.lt_succ_self _)

set_option maxRecDepth 100000 in
set_option maxHeartbeats 1000000 in
theorem zc_X12_qDropsToBracket (l : Launch) (E : zEN) (σ : zSto) (hI : zInv σ) (hpre0 : σ 164 97 + σ 164 99 ≤ 1700) (hpre1 : σ 164 101 ≤ σ 164 99) (hpre2 : zr σ = 1) (hpre3 : zBt σ + 1 ≤ zHt σ) : zCt l E yX12_qDropsToBracket cX12_qDropsToBracket 1 none 2 zNC zNC 0 0 σ [.ref (E.1 + 164)] (fun r σ' => zInv σ' ∧ zOn zQ5 σ σ' ∧ (σ' 164 97 + σ' 164 99 = σ 164 97 + σ 164 99) ∧ (σ 164 101 ≤ σ' 164 99 ∧ σ' 164 99 ≤ σ 164 99) ∧ (zr σ' = 1 ∧ zHt σ' - zBt σ' = zHt σ - zBt σ ∧ zBb σ' = zBb σ ∧ zSb σ' = zSb σ) ∧ (ztb σ ≠ -1 → σ 164 101 < σ' 164 99 ∧ σ' 235 (σ' 164 99 - 1).toNat = ztb σ)) := by
  refine zCt_of2 [some (.ref (E.1 + 164))] (by decide +kernel) (Nat.le_of_ble_eq_true rfl) rfl ?_
  intro X hE hX hR hL hN
  subst hE
  have hX : zok X cX12_qDropsToBracket RX12 2 := hX
  have hF := zOn_rf zQ5 σ
  have b1 := zv_46_5 hI zc_164
  have b2 := zv_46_97 hI zc_164
  have b3 := zv_46_99 hI zc_164
  have b4 := zv_46_101 hI zc_164
  have L_0_13 : ∀ (N : Nat) (s5 : zSto), zInv s5 → zOn zQ5 σ s5 → s5 164 97 + s5 164 99 = σ 164 97 + σ 164 99 → s5 164 101 = σ 164 101 → s5 164 5 = σ 164 5 → s5 164 99 ≤ σ 164 99 → s5 164 101 ≤ s5 164 99 → (zr s5 = 1 ∧ zHt s5 - zBt s5 = zHt σ - zBt σ ∧ ztb s5 = ztb σ ∧ zBb s5 = zBb σ ∧ zSb s5 = zSb σ) → ((s5 164 99).toNat) < N → zF X s5 0 [some (.ref (X.1.1 + 164))] [] := by
    intro N
    induction N with
    | zero =>
      intro s5 hI6 hF7 g8 g9 g10 g11 g12 g13 hm15
      exact absurd hm15 (Nat.not_lt_zero _)
    | succ N ih16 =>
      intro s5 hI6 hF7 g8 g9 g10 g11 g12 g13 hm15
      have b17 := zv_46_5 hI6 zc_164
      have b18 := zv_46_97 hI6 zc_164
      have b19 := zv_46_99 hI6 zc_164
      have b20 := zv_46_101 hI6 zc_164
      refine zt_aload_n (pc' := 1) hX dX12_qDropsToBracket_0 rfl rfl ?_
      have b21 := zv_46_99 hI6 zc_164
      refine zt_get (pc' := 4) (v := .int (zI (s5 164 99))) hX dX12_qDropsToBracket_1 rfl zf_X12_333 (by decide) zc_164 zs_46 rfl ?_
      refine zt_aload_n (pc' := 5) hX dX12_qDropsToBracket_4 rfl rfl ?_
      have b22 := zv_46_101 hI6 zc_164
      refine zt_get (pc' := 8) (v := .int (zI (s5 164 101))) hX dX12_qDropsToBracket_5 rfl zf_X12_339 (by decide) zc_164 zs_46 rfl ?_
      have h23 : s5 164 99 ≤ s5 164 101 → ztb s5 = -1 := fun h => ztb_no h
      refine zt_icle (pc' := 11) (tgt := 35) hX dX12_qDropsToBracket_8 rfl (by decide) ⟨by omega, by omega⟩ ⟨by omega, by omega⟩ (fun c24 => ?_) (fun c24 => ?_)
      · exact zt_vret hX hR dX12_qDropsToBracket_35 ⟨hI6, hF7, by omega, by omega, by omega, by omega⟩
      · refine zt_aload_n (pc' := 12) hX dX12_qDropsToBracket_11 rfl rfl ?_
        refine zt_get (pc' := 15) (v := .ref (X.1.1 + 235)) hX dX12_qDropsToBracket_12 rfl zf_X12_234 (by decide) zc_164 zs_46 (zrf_of (zv_46_98 hI6 zc_164)) ?_
        refine zt_aload_n (pc' := 16) hX dX12_qDropsToBracket_15 rfl rfl ?_
        refine zt_get (pc' := 19) (v := .int (zI (s5 164 99))) hX dX12_qDropsToBracket_16 rfl zf_X12_333 (by decide) zc_164 zs_46 rfl ?_
        refine zt_iconst (pc' := 20) hX dX12_qDropsToBracket_19 rfl ?_
        refine zt_isub (pc' := 21) hX dX12_qDropsToBracket_20 rfl ?_
        refine zt_iald (pc' := 22) hX dX12_qDropsToBracket_21 rfl (by decide) zc_235 zs_117 (by decide) ⟨by omega, by omega⟩ ?_
        generalize hv25 : s5 235 (((s5 164 99) - 1).toNat) = v25
        have bv25 : -2147483648 ≤ v25 ∧ v25 ≤ 2147483647 := hv25 ▸ zv_117 hI6 zc_235 _
        have h26 := ztb_top hv25 (by omega) (by omega)
        refine zt_cSz (pc' := 25) hX dX12_qDropsToBracket_22 rfl zm_yX12_qIsBracket zw_31_16 (zc_X12_qIsBracket _ _ s5  v25 ⟨by omega, by omega⟩) rfl rfl (Nat.le_of_ble_eq_true rfl) (by decide) (fun r27 s28 hr29 hp30 => ?_)
        obtain ⟨rfl, q31, q32, z33⟩ := hp30
        refine zt_ifne (pc' := 28) (tgt := 35) hX dX12_qDropsToBracket_25 rfl (by decide) ⟨by omega, by omega⟩ (fun c34 => ?_) (fun c34 => ?_)
        · exact zt_vret hX hR dX12_qDropsToBracket_35 ⟨hI6, hF7, by omega, by omega, by omega, by omega⟩
        · refine zt_aload_n (pc' := 29) hX dX12_qDropsToBracket_28 rfl rfl ?_
          refine zt_cVv (pc' := 32) hX dX12_qDropsToBracket_29 rfl zm_yX12_qDrops zw_31_4 zc_164 (by decide) zs_46 (q := (RX12, TX12, 108)) rfl rfl (zc_X12_qDrops_S _ _ s5 hI6 (by omega) (by omega) (by omega) (by omega) (by omega)) rfl rfl (Nat.le_of_ble_eq_true rfl) (by decide) (fun r35 s36 hr37 hp38 => ?_)
          obtain ⟨hI39, hF40, z41, z42⟩ := hp38
          have e43 := hF40 164 5 rfl
          have e44 := hF40 164 101 rfl
          have hF45 := zOn_tr hF7 hF40 zi_id
          have b46 := zv_46_5 hI39 zc_164
          have b47 := zv_46_97 hI39 zc_164
          have b48 := zv_46_99 hI39 zc_164
          have b49 := zv_46_101 hI39 zc_164
          refine zt_goto (tgt := 0) hX dX12_qDropsToBracket_32 (by decide) ?_
          exact ih16 s36 hI39 hF45 (by omega) (by omega) (by omega) (by omega) (by omega) (by omega) (by omega)
  exact L_0_13 _ σ hI hF (by omega) (by omega) (by omega) (by omega) (by omega) (by omega) (Nat.lt_succ_self _)

set_option maxRecDepth 100000 in
set_option maxHeartbeats 1000000 in
theorem zc_X12_qEndsPart (l : Launch) (E : zEN) (σ : zSto) (hI : zInv σ) (hpre0 : σ 164 97 + σ 164 99 ≤ 1700) (hpre1 : σ 164 101 ≤ σ 164 99) (hpre2 : σ 164 5 = 0 → zr σ = 1 ∧ zBt σ + 1 ≤ zHt σ) : zCt l E yX12_qEndsPart cX12_qEndsPart 1 none 2 zNC zNC 0 0 σ [.ref (E.1 + 164)] (fun r σ' => zInv σ' ∧ zOn zQ5 σ σ' ∧ (σ' 164 97 + σ' 164 99 = σ 164 97 + σ 164 99) ∧ (σ 164 101 ≤ σ' 164 99 ∧ σ' 164 99 ≤ σ 164 99) ∧ (σ 164 5 = 0 → zr σ' = 1 ∧ zHt σ' - zBt σ' = zHt σ - zBt σ) ∧ (zBb σ' = zBb σ ∧ zSb σ' = zSb σ)) := by
  refine zCt_of2 [some (.ref (E.1 + 164))] (by decide +kernel) (Nat.le_of_ble_eq_true rfl) rfl ?_
  intro X hE hX hR hL hN
  subst hE
  have hX : zok X cX12_qEndsPart RX12 2 := hX
  have hF := zOn_rf zQ5 σ
  have b1 := zv_46_5 hI zc_164
  have b2 := zv_46_97 hI zc_164
  have b3 := zv_46_99 hI zc_164
  have b4 := zv_46_101 hI zc_164
  have L_0_14 : ∀ (N : Nat) (s5 : zSto), zInv s5 → zOn zQ5 σ s5 → s5 164 97 + s5 164 99 = σ 164 97 + σ 164 99 → s5 164 101 = σ 164 101 → s5 164 5 = σ 164 5 → s5 164 99 ≤ σ 164 99 → s5 164 101 ≤ s5 164 99 → (σ 164 5 = 0 → zr s5 = 1 ∧ zHt s5 - zBt s5 = zHt σ - zBt σ) → (zBb s5 = zBb σ ∧ zSb s5 = zSb σ) → ((s5 164 99).toNat) < N → zF X s5 0 [some (.ref (X.1.1 + 164))] [] := by
    intro N
    induction N with
    | zero =>
      intro s5 hI6 hF7 g8 g9 g10 g11 g12 g13 g14 hm16
      exact absurd hm16 (Nat.not_lt_zero _)
    | succ N ih17 =>
      intro s5 hI6 hF7 g8 g9 g10 g11 g12 g13 g14 hm16
      have b18 := zv_46_5 hI6 zc_164
      have b19 := zv_46_97 hI6 zc_164
      have b20 := zv_46_99 hI6 zc_164
      have b21 := zv_46_101 hI6 zc_164
      refine zt_aload_n (pc' := 1) hX dX12_qEndsPart_0 rfl rfl ?_
      have b22 := zv_46_5 hI6 zc_164
      refine zt_get (pc' := 4) (v := .int (zI (s5 164 5))) hX dX12_qEndsPart_1 rfl zf_X12_246 (by decide) zc_164 zs_46 rfl ?_
      refine zt_ifne (pc' := 7) (tgt := 51) hX dX12_qEndsPart_4 rfl (by decide) ⟨by omega, by omega⟩ (fun c23 => ?_) (fun c23 => ?_)
      · exact zt_vret hX hR dX12_qEndsPart_51 ⟨hI6, hF7, by omega, by omega, by omega, by omega⟩
      · refine zt_aload_n (pc' := 8) hX dX12_qEndsPart_7 rfl rfl ?_
        have b24 := zv_46_99 hI6 zc_164
        refine zt_get (pc' := 11) (v := .int (zI (s5 164 99))) hX dX12_qEndsPart_8 rfl zf_X12_333 (by decide) zc_164 zs_46 rfl ?_
        refine zt_aload_n (pc' := 12) hX dX12_qEndsPart_11 rfl rfl ?_
        have b25 := zv_46_101 hI6 zc_164
        refine zt_get (pc' := 15) (v := .int (zI (s5 164 101))) hX dX12_qEndsPart_12 rfl zf_X12_339 (by decide) zc_164 zs_46 rfl ?_
        refine zt_icle (pc' := 18) (tgt := 51) hX dX12_qEndsPart_15 rfl (by decide) ⟨by omega, by omega⟩ ⟨by omega, by omega⟩ (fun c26 => ?_) (fun c26 => ?_)
        · exact zt_vret hX hR dX12_qEndsPart_51 ⟨hI6, hF7, by omega, by omega, by omega, by omega⟩
        · refine zt_aload_n (pc' := 19) hX dX12_qEndsPart_18 rfl rfl ?_
          refine zt_get (pc' := 22) (v := .ref (X.1.1 + 235)) hX dX12_qEndsPart_19 rfl zf_X12_234 (by decide) zc_164 zs_46 (zrf_of (zv_46_98 hI6 zc_164)) ?_
          refine zt_aload_n (pc' := 23) hX dX12_qEndsPart_22 rfl rfl ?_
          refine zt_get (pc' := 26) (v := .int (zI (s5 164 99))) hX dX12_qEndsPart_23 rfl zf_X12_333 (by decide) zc_164 zs_46 rfl ?_
          refine zt_iconst (pc' := 27) hX dX12_qEndsPart_26 rfl ?_
          refine zt_isub (pc' := 28) hX dX12_qEndsPart_27 rfl ?_
          refine zt_iald (pc' := 29) hX dX12_qEndsPart_28 rfl (by decide) zc_235 zs_117 (by decide) ⟨by omega, by omega⟩ ?_
          generalize hv27 : s5 235 (((s5 164 99) - 1).toNat) = v27
          have bv27 : -2147483648 ≤ v27 ∧ v27 ≤ 2147483647 := hv27 ▸ zv_117 hI6 zc_235 _
          refine zt_bipush (pc' := 31) hX dX12_qEndsPart_29 rfl (by decide) (by decide) ?_
          refine zt_iclt (pc' := 34) (tgt := 51) hX dX12_qEndsPart_31 rfl (by decide) ⟨by omega, by omega⟩ ⟨by omega, by omega⟩ (fun c28 => ?_) (fun c28 => ?_)
          · exact zt_vret hX hR dX12_qEndsPart_51 ⟨hI6, hF7, by omega, by omega, by omega, by omega⟩
          · refine zt_aload_n (pc' := 35) hX dX12_qEndsPart_34 rfl rfl ?_
            refine zt_dup (pc' := 36) hX dX12_qEndsPart_35 rfl rfl ?_
            have b29 := zv_46_100 hI6 zc_164
            refine zt_get (pc' := 39) (v := .int (zI (s5 164 100))) hX dX12_qEndsPart_36 rfl zf_X12_336 (by decide) zc_164 zs_46 rfl ?_
            refine zt_iconst (pc' := 40) hX dX12_qEndsPart_39 rfl ?_
            refine zt_isub (pc' := 41) hX dX12_qEndsPart_40 rfl ?_
            refine zt_wrap (fun r30 zr30 lr30 ur30 => ?_)
            clear zr30
            refine zt_put (pc' := 44) (x := r30) hX dX12_qEndsPart_41 rfl zf_X12_336 (by decide) zc_164 zs_46 (fun q hq => by cases hq; rfl) rfl rfl rfl ?_
            generalize hs32 : zset s5 164 100 r30 = s31
            have hI33 : zInv s31 := hs32 ▸ zp_46_100 hI6 zc_164 ⟨by omega, by omega⟩
            have hF34 : zOn zQ5 σ s31 := hs32 ▸ zOn_set hF7 (by decide)
            obtain ⟨w35, -, w37, w38, w39, w40, -, w42⟩ := zE_set hs32 (by decide)
            have e43 : s31 164 5 = s5 164 5 := by rw [← hs32]; exact zset_j (by decide)
            have e44 : s31 164 97 = s5 164 97 := by rw [← hs32]; exact zset_j (by decide)
            have e45 : s31 164 99 = s5 164 99 := by rw [← hs32]; exact zset_j (by decide)
            have e46 : s31 164 101 = s5 164 101 := by rw [← hs32]; exact zset_j (by decide)
            have h47 := ztopE hs32 (by decide)
            refine zt_aload_n (pc' := 45) hX dX12_qEndsPart_44 rfl rfl ?_
            refine zt_cVv (pc' := 48) hX dX12_qEndsPart_45 rfl zm_yX12_qDrops zw_31_4 zc_164 (by decide) zs_46 (q := (RX12, TX12, 108)) rfl rfl (zc_X12_qDrops_S _ _ s31 hI33 (by omega) (by omega) (by omega) (by omega) (by omega)) rfl rfl (Nat.le_of_ble_eq_true rfl) (by decide) (fun r48 s49 hr50 hp51 => ?_)
            obtain ⟨hI52, hF53, z54, z55⟩ := hp51
            have e56 := hF53 164 5 rfl
            have e57 := hF53 164 101 rfl
            have hF58 := zOn_tr hF34 hF53 zi_id
            have b59 := zv_46_5 hI52 zc_164
            have b60 := zv_46_97 hI52 zc_164
            have b61 := zv_46_99 hI52 zc_164
            have b62 := zv_46_101 hI52 zc_164
            refine zt_goto (tgt := 0) hX dX12_qEndsPart_48 (by decide) ?_
            exact ih17 s49 hI52 hF58 (by omega) (by omega) (by omega) (by omega) (by omega) (by omega) (by omega) (by omega)
  exact L_0_14 _ σ hI hF (by omega) (by omega) (by omega) (by omega) (by omega) (by omega) (by omega) (Nat.lt_succ_self _)

set_option maxRecDepth 100000 in
set_option maxHeartbeats 1000000 in
theorem zc_X12_qDropsNots (l : Launch) (E : zEN) (σ : zSto) (hI : zInv σ) (hpre0 : σ 164 97 + σ 164 99 ≤ 1700) (hpre1 : σ 164 5 = 0 → zt σ = 1 ∧ zBt σ + 1 ≤ zHt σ) : zCt l E yX12_qDropsNots cX12_qDropsNots 1 none 2 zNC zNC 0 0 σ [.ref (E.1 + 164)] (fun r σ' => zInv σ' ∧ zOn zQ5 σ σ' ∧ (σ' 164 97 + σ' 164 99 = σ 164 97 + σ 164 99) ∧ (σ' 164 99 ≤ σ 164 99) ∧ (σ 164 5 = 0 → zt σ' = 1 ∧ zHt σ' - zBt σ' = zHt σ - zBt σ ∧ zsq σ' = zsq σ)) := by
  refine zCt_of2 [some (.ref (E.1 + 164))] (by decide +kernel) (Nat.le_of_ble_eq_true rfl) rfl ?_
  intro X hE hX hR hL hN
  subst hE
  have hX : zok X cX12_qDropsNots RX12 2 := hX
  have hF := zOn_rf zQ5 σ
  have b1 := zv_46_5 hI zc_164
  have b2 := zv_46_97 hI zc_164
  have b3 := zv_46_99 hI zc_164
  have b4 := zv_46_101 hI zc_164
  have L_0_12 : ∀ (N : Nat) (s5 : zSto), zInv s5 → zOn zQ5 σ s5 → s5 164 97 + s5 164 99 = σ 164 97 + σ 164 99 → s5 164 101 = σ 164 101 → s5 164 5 = σ 164 5 → s5 164 99 ≤ σ 164 99 → (σ 164 5 = 0 → zt s5 = 1 ∧ zHt s5 - zBt s5 = zHt σ - zBt σ ∧ zsq s5 = zsq σ) → ((s5 164 99).toNat) < N → zF X s5 0 [some (.ref (X.1.1 + 164))] [] := by
    intro N
    induction N with
    | zero =>
      intro s5 hI6 hF7 g8 g9 g10 g11 g12 hm14
      exact absurd hm14 (Nat.not_lt_zero _)
    | succ N ih15 =>
      intro s5 hI6 hF7 g8 g9 g10 g11 g12 hm14
      have b16 := zv_46_5 hI6 zc_164
      have b17 := zv_46_97 hI6 zc_164
      have b18 := zv_46_99 hI6 zc_164
      have b19 := zv_46_101 hI6 zc_164
      refine zt_aload_n (pc' := 1) hX dX12_qDropsNots_0 rfl rfl ?_
      have b20 := zv_46_5 hI6 zc_164
      refine zt_get (pc' := 4) (v := .int (zI (s5 164 5))) hX dX12_qDropsNots_1 rfl zf_X12_246 (by decide) zc_164 zs_46 rfl ?_
      refine zt_ifne (pc' := 7) (tgt := 33) hX dX12_qDropsNots_4 rfl (by decide) ⟨by omega, by omega⟩ (fun c21 => ?_) (fun c21 => ?_)
      · exact zt_vret hX hR dX12_qDropsNots_33 ⟨hI6, hF7, by omega, by omega, by omega⟩
      · refine zt_aload_n (pc' := 8) hX dX12_qDropsNots_7 rfl rfl ?_
        refine zt_bipush (pc' := 10) hX dX12_qDropsNots_8 rfl (by decide) (by decide) ?_
        refine zt_cVz (pc' := 13) hX dX12_qDropsNots_10 rfl zm_yX12_qIsOn zw_31_23 zc_164 (by decide) zs_46 (q := (RX12, TX12, 108)) rfl rfl (zc_X12_qIsOn _ _ s5 hI6 12 ⟨by omega, by omega⟩) rfl rfl (Nat.le_of_ble_eq_true rfl) (by decide) (fun r22 s23 hr24 hp25 => ?_)
        obtain ⟨rfl, q26, q27, z28, z29⟩ := hp25
        refine zt_ifeq (pc' := 16) (tgt := 33) hX dX12_qDropsNots_13 rfl (by decide) ⟨by omega, by omega⟩ (fun c30 => ?_) (fun c30 => ?_)
        · clear z28
          have qz29 := z29 (by omega)
          clear z29
          exact zt_vret hX hR dX12_qDropsNots_33 ⟨hI6, hF7, by omega, by omega, by omega⟩
        · have qz28 := z28 (by omega)
          clear z28
          clear z29
          refine zt_aload_n (pc' := 17) hX dX12_qDropsNots_16 rfl rfl ?_
          refine zt_dup (pc' := 18) hX dX12_qDropsNots_17 rfl rfl ?_
          have b31 := zv_46_100 hI6 zc_164
          refine zt_get (pc' := 21) (v := .int (zI (s5 164 100))) hX dX12_qDropsNots_18 rfl zf_X12_336 (by decide) zc_164 zs_46 rfl ?_
          refine zt_iconst (pc' := 22) hX dX12_qDropsNots_21 rfl ?_
          refine zt_isub (pc' := 23) hX dX12_qDropsNots_22 rfl ?_
          refine zt_wrap (fun r32 zr32 lr32 ur32 => ?_)
          clear zr32
          refine zt_put (pc' := 26) (x := r32) hX dX12_qDropsNots_23 rfl zf_X12_336 (by decide) zc_164 zs_46 (fun q hq => by cases hq; rfl) rfl rfl rfl ?_
          generalize hs34 : zset s5 164 100 r32 = s33
          have hI35 : zInv s33 := hs34 ▸ zp_46_100 hI6 zc_164 ⟨by omega, by omega⟩
          have hF36 : zOn zQ5 σ s33 := hs34 ▸ zOn_set hF7 (by decide)
          obtain ⟨-, w38, w39, w40, -, -, w43, -⟩ := zE_set hs34 (by decide)
          have e45 : s33 164 5 = s5 164 5 := by rw [← hs34]; exact zset_j (by decide)
          have e46 : s33 164 97 = s5 164 97 := by rw [← hs34]; exact zset_j (by decide)
          have e47 : s33 164 99 = s5 164 99 := by rw [← hs34]; exact zset_j (by decide)
          have e48 : s33 164 101 = s5 164 101 := by rw [← hs34]; exact zset_j (by decide)
          have h49 := ztopE hs34 (by decide)
          refine zt_aload_n (pc' := 27) hX dX12_qDropsNots_26 rfl rfl ?_
          refine zt_cVv (pc' := 30) hX dX12_qDropsNots_27 rfl zm_yX12_qDrops zw_31_4 zc_164 (by decide) zs_46 (q := (RX12, TX12, 108)) rfl rfl (zc_X12_qDrops_T _ _ s33 hI35 (by omega) (by omega) (by omega) (by omega) (by omega)) rfl rfl (Nat.le_of_ble_eq_true rfl) (by decide) (fun r50 s51 hr52 hp53 => ?_)
          obtain ⟨hI54, hF55, z56, z57⟩ := hp53
          have e58 := hF55 164 5 rfl
          have e59 := hF55 164 101 rfl
          have hF60 := zOn_tr hF36 hF55 zi_id
          have b61 := zv_46_5 hI54 zc_164
          have b62 := zv_46_97 hI54 zc_164
          have b63 := zv_46_99 hI54 zc_164
          have b64 := zv_46_101 hI54 zc_164
          refine zt_goto (tgt := 0) hX dX12_qDropsNots_30 (by decide) ?_
          exact ih15 s51 hI54 hF60 (by omega) (by omega) (by omega) (by omega) (by omega) (by omega)
  exact L_0_12 _ σ hI hF (by omega) (by omega) (by omega) (by omega) (by omega) (Nat.lt_succ_self _)

set_option maxRecDepth 100000 in
set_option maxHeartbeats 1000000 in
theorem zc_X12_qHasSquare (l : Launch) (E : zEN) (σ : zSto) (hI : zInv σ)  : zCt l E yX12_qHasSquare cX12_qHasSquare 2 (some .boolean) 0 zNC zNC 0 0 σ [.ref (E.1 + 164)] (fun r σ' => σ = σ' ∧ 0 ≤ r ∧ r ≤ 1 ∧ (r = zsq σ)) := by
  refine zCt_of2 [some (.ref (E.1 + 164)), none] (by decide +kernel) (Nat.le_of_ble_eq_true rfl) rfl ?_
  intro X hE hX hR hL hN
  subst hE
  have hX : zok X cX12_qHasSquare RX12 0 := hX
  have b1 := zv_46_99 hI zc_164
  refine zt_iconst (pc' := 1) hX dX12_qHasSquare_0 rfl ?_
  refine zt_istore_n (pc' := 2) (lv' := [some (.ref (X.1.1 + 164)), some (.int (zI 0))]) hX dX12_qHasSquare_1 rfl hL (by decide) rfl ?_
  have h2 := zsk_0 σ
  have L_2_7 : ∀ (N : Nat) (x3 : Int), 0 ≤ x3 → x3 ≤ 1700 → zsk σ x3 = 0 → x3 ≤ σ 164 99 → ((1701 - x3).toNat) < N → zF X σ 2 [some (.ref (X.1.1 + 164)), some (.int (zI x3))] [] := by
    intro N
    induction N with
    | zero =>
      intro x3 h4 h5 g6 g7 hm9
      exact absurd hm9 (Nat.not_lt_zero _)
    | succ N ih10 =>
      intro x3 h4 h5 g6 g7 hm9
      refine zt_iload_n (pc' := 3) hX dX12_qHasSquare_2 rfl rfl ?_
      refine zt_aload_n (pc' := 4) hX dX12_qHasSquare_3 rfl rfl ?_
      have b11 := zv_46_99 hI zc_164
      refine zt_get (pc' := 7) (v := .int (zI (σ 164 99))) hX dX12_qHasSquare_4 rfl zf_X12_333 (by decide) zc_164 zs_46 rfl ?_
      have h12 : x3 = σ 164 99 → zsk σ x3 = zsq σ := fun h => by rw [h]; exact zsk_w σ
      refine zt_icge (pc' := 10) (tgt := 29) hX dX12_qHasSquare_7 rfl (by decide) ⟨by omega, by omega⟩ ⟨by omega, by omega⟩ (fun c13 => ?_) (fun c13 => ?_)
      · refine zt_iconst (pc' := 30) hX dX12_qHasSquare_29 rfl ?_
        exact zt_zret hX hR dX12_qHasSquare_30 ⟨by omega, by omega⟩ ⟨rfl, by omega, by omega, by omega⟩
      · refine zt_aload_n (pc' := 11) hX dX12_qHasSquare_10 rfl rfl ?_
        refine zt_get (pc' := 14) (v := .ref (X.1.1 + 235)) hX dX12_qHasSquare_11 rfl zf_X12_234 (by decide) zc_164 zs_46 (zrf_of (zv_46_98 hI zc_164)) ?_
        refine zt_iload_n (pc' := 15) hX dX12_qHasSquare_14 rfl rfl ?_
        refine zt_iald (pc' := 16) hX dX12_qHasSquare_15 rfl (by decide) zc_235 zs_117 (by decide) ⟨by omega, by omega⟩ ?_
        generalize hv14 : σ 235 (x3.toNat) = v14
        have bv14 : -2147483648 ≤ v14 ∧ v14 ≤ 2147483647 := hv14 ▸ zv_117 hI zc_235 _
        have h15 := zsk_s hv14 (by omega) (by omega)
        refine zt_bipush (pc' := 18) hX dX12_qHasSquare_16 rfl (by decide) (by decide) ?_
        refine zt_icne (pc' := 21) (tgt := 23) hX dX12_qHasSquare_18 rfl (by decide) ⟨by omega, by omega⟩ ⟨by omega, by omega⟩ (fun c16 => ?_) (fun c16 => ?_)
        · refine zt_iinc (pc' := 26) (lv' := [some (.ref (X.1.1 + 164)), some (.int (zI (x3 + 1)))]) hX dX12_qHasSquare_23 rfl rfl hL (by decide) rfl ?_
          refine zt_goto (tgt := 2) hX dX12_qHasSquare_26 (by decide) ?_
          exact ih10 (x3 + 1) (by omega) (by omega) (by omega) (by omega) (by omega)
        · refine zt_iconst (pc' := 22) hX dX12_qHasSquare_21 rfl ?_
          exact zt_zret hX hR dX12_qHasSquare_22 ⟨by omega, by omega⟩ ⟨rfl, by omega, by omega, by omega⟩
  exact L_2_7 _ 0 (by omega) (by omega) (by omega) (by omega) (Nat.lt_succ_self _)
