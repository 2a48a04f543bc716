set_option maxRecDepth 100000 in
set_option maxHeartbeats 4000000 in
theorem zc_X12_qPartTold (l : Launch) (E : zEN) (σ : zSto) (hI : zInv σ) (hpre0 : σ 164 5 = 0) (hpre1 : σ 164 2 ≤ σ 164 3) (hpre2 : σ 164 97 + σ 164 99 ≤ σ 164 2) (hpre3 : σ 164 101 ≤ σ 164 99) (hpre4 : zr σ = 1) (hpre5 : zBt σ ≤ zHt σ) : zCt l E yX12_qPartTold cX12_qPartTold 6 none 5 zNC zNC 0 0 σ [.ref (E.1 + 164)] (fun r σ' => zInv σ' ∧ zOn zQ2 σ σ' ∧ (σ' 164 2 ≤ σ 164 3) ∧ (σ 164 2 ≤ σ' 164 2) ∧ (σ' 164 101 = σ 164 101) ∧ (σ 164 101 ≤ σ' 164 99) ∧ (σ' 164 97 + σ' 164 99 + σ 164 2 ≤ σ 164 97 + σ 164 99 + σ' 164 2 + 1) ∧ (σ' 164 5 = 0 → σ' 164 97 + σ' 164 99 + σ 164 2 ≤ σ 164 97 + σ 164 99 + σ' 164 2) ∧ (σ' 164 5 = 0 → zr σ' = 1 ∧ zHt σ' - zBt σ' = zHt σ - zBt σ + 1 ∧ σ 164 2 < σ' 164 2) ∧ (zBb σ' = zBb σ ∧ zSb σ' = zSb σ)) := by
  refine zCt_of2 [some (.ref (E.1 + 164)), none, none, none, none, none] (by decide +kernel) (Nat.le_of_ble_eq_true rfl) rfl ?_
  intro X hE hX hR hL hN
  subst hE
  have hX : zok X cX12_qPartTold RX12 5 := hX
  have hF := zOn_rf zQ2 σ
  have hbn := zBt_nn σ
  have b1 := zv_46_2 hI zc_164
  have b2 := zv_46_3 hI zc_164
  have b3 := zv_46_5 hI zc_164
  have b4 := zv_46_97 hI zc_164
  have b5 := zv_46_99 hI zc_164
  have b6 := zv_46_101 hI zc_164
  refine zt_iconst (pc' := 1) hX dX12_qPartTold_0 rfl ?_
  refine zt_istore_n (pc' := 2) (lv' := [some (.ref (X.1.1 + 164)), some (.int (zI 1)), none, none, none, none]) hX dX12_qPartTold_1 rfl hL (by decide) rfl ?_
  have L_2_20 : ∀ (N : Nat) (x7 : Int) (s10 : zSto), 0 ≤ x7 → x7 ≤ 1 → zInv s10 → zOn zQ2 σ s10 → (σ 164 2 ≤ s10 164 2 ∧ s10 164 2 ≤ σ 164 3) → s10 164 3 = σ 164 3 → s10 164 101 = σ 164 101 → σ 164 101 ≤ s10 164 99 → s10 164 97 + s10 164 99 + σ 164 2 ≤ σ 164 97 + σ 164 99 + s10 164 2 + 1 → (s10 164 5 = 0 → s10 164 97 + s10 164 99 + σ 164 2 ≤ σ 164 97 + σ 164 99 + s10 164 2) → (s10 164 5 = 0 → zr s10 = 1 ∧ zHt s10 - zBt s10 = zHt σ - zBt σ) → (zBb s10 = zBb σ ∧ zSb s10 = zSb σ) → ((4 * (1601 - s10 164 2) + 2 * x7 + 1 - min (max (s10 164 5) (-(s10 164 5))) 1).toNat) < N → zF X s10 2 [some (.ref (X.1.1 + 164)), some (.int (zI x7)), none, none, none, none] [] := by
    intro N
    induction N with
    | zero =>
      intro x7 s10 h8 h9 hI11 hF12 g13 g14 g15 g16 g17 g18 g19 g20 hm22
      exact absurd hm22 (Nat.not_lt_zero _)
    | succ N ih23 =>
      intro x7 s10 h8 h9 hI11 hF12 g13 g14 g15 g16 g17 g18 g19 g20 hm22
      have b24 := zv_46_2 hI11 zc_164
      have b25 := zv_46_3 hI11 zc_164
      have b26 := zv_46_5 hI11 zc_164
      have b27 := zv_46_97 hI11 zc_164
      have b28 := zv_46_99 hI11 zc_164
      have b29 := zv_46_101 hI11 zc_164
      refine zt_iload_n (pc' := 3) hX dX12_qPartTold_2 rfl rfl ?_
      have J_186_29 : zF X s10 186 [some (.ref (X.1.1 + 164)), none, none, none, none, none] [] := by
        refine zt_aload_n (pc' := 187) hX dX12_qPartTold_186 rfl rfl ?_
        have b31 := zv_46_5 hI11 zc_164
        refine zt_get (pc' := 190) (v := .int (zI (s10 164 5))) hX dX12_qPartTold_187 rfl zf_X12_246 (by decide) zc_164 zs_46 rfl ?_
        refine zt_ifeq (pc' := 193) (tgt := 194) hX dX12_qPartTold_190 rfl (by decide) ⟨by omega, by omega⟩ (fun c32 => ?_) (fun c32 => ?_)
        · have qg19 := g19 (by omega)
          have qg18 := g18 (by omega)
          clear g19 g18
          refine zt_aload_n (pc' := 195) hX dX12_qPartTold_194 rfl rfl ?_
          refine zt_iconst (pc' := 196) hX dX12_qPartTold_195 rfl ?_
          refine zt_bipush (pc' := 198) hX dX12_qPartTold_196 rfl (by decide) (by decide) ?_
          refine zt_cVi (pc' := 201) hX dX12_qPartTold_198 rfl zm_yX12_qWordOf zw_30_6 zc_164 (by decide) zs_46 (q := (RX12, TX12, 108)) rfl rfl (zc_X12_qWordOf _ _ s10 hI11 0 ⟨by omega, by omega⟩ 10 ⟨by omega, by omega⟩ (by omega)) rfl rfl (Nat.le_of_ble_eq_true rfl) (by decide) (fun r33 s34 hr35 hp36 => ?_)
          obtain ⟨hI37, hF38, q39, q40, z41, z42, z43, z44⟩ := hp36
          obtain ⟨w45, -, w47, w48, w49, w50, -, w52⟩ := zE_q1 hF38
          have e53 := hF38 164 3 rfl
          have e54 := hF38 164 97 rfl
          have e55 := hF38 164 99 rfl
          have e56 := hF38 164 101 rfl
          have hF57 := zOn_tr hF12 hF38 zi_12
          have b58 := zv_46_2 hI37 zc_164
          have b59 := zv_46_3 hI37 zc_164
          have b60 := zv_46_5 hI37 zc_164
          have b61 := zv_46_97 hI37 zc_164
          have b62 := zv_46_99 hI37 zc_164
          have b63 := zv_46_101 hI37 zc_164
          replace z41 : _ ∧ _ := ⟨z41.1, z41.2 (by omega)⟩
          refine zt_istore_n (pc' := 202) (lv' := [some (.ref (X.1.1 + 164)), none, some (.int (zI r33)), none, none, none]) hX dX12_qPartTold_201 rfl hL (by decide) rfl ?_
          refine zt_iload_n (pc' := 203) hX dX12_qPartTold_202 rfl rfl ?_
          refine zt_iconst (pc' := 204) hX dX12_qPartTold_203 rfl ?_
          have J_212_78 : ∀ (s64 : zSto), zInv s64 → zOn zQ2 σ s64 → s64 164 97 + s64 164 99 + σ 164 2 ≤ σ 164 97 + σ 164 99 + s64 164 2 → (r33 = -1 → s64 164 5 = 0) → (s64 164 5 = 0 → r33 ≠ -1 → σ 164 2 < s64 164 2) → (s64 164 5 = 0 → r33 ≠ -1 → s64 164 97 + s64 164 99 + σ 164 2 + 1 ≤ σ 164 97 + σ 164 99 + s64 164 2) → (σ 164 2 ≤ s64 164 2 ∧ s64 164 2 ≤ σ 164 3) → s64 164 3 = σ 164 3 → s64 164 101 = σ 164 101 → σ 164 101 ≤ s64 164 99 → s64 164 97 + s64 164 99 + σ 164 2 ≤ σ 164 97 + σ 164 99 + s64 164 2 + 1 → (s64 164 5 = 0 → s64 164 97 + s64 164 99 + σ 164 2 ≤ σ 164 97 + σ 164 99 + s64 164 2) → (s64 164 5 = 0 → zr s64 = 1 ∧ zHt s64 - zBt s64 = zHt σ - zBt σ) → (zBb s64 = zBb σ ∧ zSb s64 = zSb σ) → zF X s64 212 [some (.ref (X.1.1 + 164)), none, some (.int (zI r33)), none, none, none] [] := by
            clear z43 z44
            intro s64 hI65 hF66 g67 g68 g69 g70 g71 g72 g73 g74 g75 g76 g77 g78
            have b80 := zv_46_2 hI65 zc_164
            have b81 := zv_46_3 hI65 zc_164
            have b82 := zv_46_5 hI65 zc_164
            have b83 := zv_46_97 hI65 zc_164
            have b84 := zv_46_99 hI65 zc_164
            have b85 := zv_46_101 hI65 zc_164
            refine zt_aload_n (pc' := 213) hX dX12_qPartTold_212 rfl rfl ?_
            refine zt_iload_n (pc' := 214) hX dX12_qPartTold_213 rfl rfl ?_
            refine zt_iconst (pc' := 215) hX dX12_qPartTold_214 rfl ?_
            have J_237_103 : ∀ (y86 : Int) (s89 : zSto), -2147483648 ≤ y86 → y86 ≤ 2147483647 → zInv s89 → zOn zQ2 σ s89 → s89 164 97 + s89 164 99 + σ 164 2 ≤ σ 164 97 + σ 164 99 + s89 164 2 → (s89 164 5 = 0 → (40 ≤ y86 ∧ y86 < 60) ∨ 1000 ≤ y86) → (s89 164 5 = 0 → s89 164 97 + s89 164 99 + σ 164 2 + 1 ≤ σ 164 97 + σ 164 99 + s89 164 2) → (s89 164 5 = 0 → σ 164 2 < s89 164 2) → (σ 164 2 ≤ s89 164 2 ∧ s89 164 2 ≤ σ 164 3) → s89 164 3 = σ 164 3 → s89 164 101 = σ 164 101 → σ 164 101 ≤ s89 164 99 → s89 164 97 + s89 164 99 + σ 164 2 ≤ σ 164 97 + σ 164 99 + s89 164 2 + 1 → (s89 164 5 = 0 → s89 164 97 + s89 164 99 + σ 164 2 ≤ σ 164 97 + σ 164 99 + s89 164 2) → (s89 164 5 = 0 → zr s89 = 1 ∧ zHt s89 - zBt s89 = zHt σ - zBt σ) → (zBb s89 = zBb σ ∧ zSb s89 = zSb σ) → zF X s89 237 [some (.ref (X.1.1 + 164)), none, none, none, none, none] [.int (zI y86), .ref (X.1.1 + 164)] := by
              clear g69 g70 g76 g77
              intro y86 s89 h87 h88 hI90 hF91 g92 g93 g94 g95 g96 g97 g98 g99 g100 g101 g102 g103
              have b105 := zv_46_2 hI90 zc_164
              have b106 := zv_46_3 hI90 zc_164
              have b107 := zv_46_5 hI90 zc_164
              have b108 := zv_46_97 hI90 zc_164
              have b109 := zv_46_99 hI90 zc_164
              have b110 := zv_46_101 hI90 zc_164
              refine zt_cVv (pc' := 240) hX dX12_qPartTold_237 rfl zm_yX12_qCode zw_29_18 zc_164 (by decide) zs_46 (q := (RX12, TX12, 108)) rfl rfl (zc_X12_qCode _ _ s89 hI90 y86 ⟨by omega, by omega⟩ (by omega)) rfl rfl (Nat.le_of_ble_eq_true rfl) (by decide) (fun r111 s112 hr113 hp114 => ?_)
              obtain ⟨hI115, hF116, z117⟩ := hp114
              have e118 := hF116 164 2 rfl
              have e119 := hF116 164 3 rfl
              have e120 := hF116 164 5 rfl
              have e121 := hF116 164 101 rfl
              have hF122 := zOn_tr hF91 hF116 zi_52
              have b123 := zv_46_2 hI115 zc_164
              have b124 := zv_46_3 hI115 zc_164
              have b125 := zv_46_5 hI115 zc_164
              have b126 := zv_46_97 hI115 zc_164
              have b127 := zv_46_99 hI115 zc_164
              have b128 := zv_46_101 hI115 zc_164
              have h129 := zcd_h z117 (by omega)
              have h129r := zcd_ri z117 (by omega)
              have h129f := zcd_f z117
              have h129d : (40 ≤ y86 ∧ y86 < 60) ∨ 1000 ≤ y86 ∨ y86 = 13 → zdl y86 = 1 ∧ znd y86 = 0 := fun h => zdo h
              have h129n := zBt_nn s89
              refine zt_aload_n (pc' := 241) hX dX12_qPartTold_240 rfl rfl ?_
              refine zt_cVv (pc' := 244) hX dX12_qPartTold_241 rfl zm_yX12_qEndsPart zw_31_0 zc_164 (by decide) zs_46 (q := (RX12, TX12, 108)) rfl rfl (zc_X12_qEndsPart _ _ s112 hI115 (by omega) (by omega) (fun hb => by have qg102 := g102 (by omega); have qg101 := g101 (by omega); have qg95 := g95 (by omega); have qg94 := g94 (by omega); have qg93 := g93 (by omega); clear g102 g101 g95 g94 g93; omega)) rfl rfl (Nat.le_of_ble_eq_true rfl) (by decide) (fun r130 s131 hr132 hp133 => ?_)
              obtain ⟨hI134, hF135, z136, z137, z138, z139⟩ := hp133
              have e140 := hF135 164 2 rfl
              have e141 := hF135 164 3 rfl
              have e142 := hF135 164 5 rfl
              have e143 := hF135 164 101 rfl
              have hF144 := zOn_tr hF122 hF135 zi_52
              have b145 := zv_46_2 hI134 zc_164
              have b146 := zv_46_3 hI134 zc_164
              have b147 := zv_46_5 hI134 zc_164
              have b148 := zv_46_97 hI134 zc_164
              have b149 := zv_46_99 hI134 zc_164
              have b150 := zv_46_101 hI134 zc_164
              exact zt_vret hX hR dX12_qPartTold_244 ⟨hI134, hF144, by omega, by omega, by omega, by omega, by omega, (fun hb => by have qg102 := g102 (by omega); have qg101 := g101 (by omega); have qg95 := g95 (by omega); have qg94 := g94 (by omega); have qg93 := g93 (by omega); clear g102 g101 g95 g94 g93; omega), (fun hb => by have qg102 := g102 (by omega); have qg101 := g101 (by omega); have qg95 := g95 (by omega); have qg94 := g94 (by omega); have qg93 := g93 (by omega); clear g102 g101 g95 g94 g93; omega), by omega⟩
            refine zt_iceq (pc' := 218) (tgt := 225) hX dX12_qPartTold_215 rfl (by decide) ⟨by omega, by omega⟩ ⟨by omega, by omega⟩ (fun c151 => ?_) (fun c151 => ?_)
            · refine zt_sipush (pc' := 228) hX dX12_qPartTold_225 rfl (by decide) (by decide) ?_
              refine zt_aload_n (pc' := 229) hX dX12_qPartTold_228 rfl rfl ?_
              refine zt_iconst (pc' := 230) hX dX12_qPartTold_229 rfl ?_
              refine zt_sipush (pc' := 233) hX dX12_qPartTold_230 rfl (by decide) (by decide) ?_
              refine zt_cVi (pc' := 236) hX dX12_qPartTold_233 rfl zm_yX12_number zw_26_23 zc_164 (by decide) zs_46 (q := (RX12, TX12, 108)) rfl rfl (zc_X12_number _ _ s64 hI65 0 ⟨by omega, by omega⟩ 9999 ⟨by omega, by omega⟩) rfl rfl (Nat.le_of_ble_eq_true rfl) (by decide) (fun r152 s153 hr154 hp155 => ?_)
              obtain ⟨hI156, hF157, q158, q159, z160, z161, z162⟩ := hp155
              obtain ⟨w163, -, w165, w166, w167, w168, -, w170⟩ := zE_q1 hF157
              have e171 := hF157 164 3 rfl
              have e172 := hF157 164 97 rfl
              have e173 := hF157 164 99 rfl
              have e174 := hF157 164 101 rfl
              have hF175 := zOn_tr hF66 hF157 zi_12
              have b176 := zv_46_2 hI156 zc_164
              have b177 := zv_46_3 hI156 zc_164
              have b178 := zv_46_5 hI156 zc_164
              have b179 := zv_46_97 hI156 zc_164
              have b180 := zv_46_99 hI156 zc_164
              have b181 := zv_46_101 hI156 zc_164
              replace z160 : _ ∧ _ := ⟨z160.1, z160.2 (by omega)⟩
              clear z162
              refine zt_iadd (pc' := 237) hX dX12_qPartTold_236 rfl ?_
              refine zt_wrap (fun r182 zr182 lr182 ur182 => ?_)
              replace zr182 := zwr_eq zr182
              refine zt_mask [true, false, false, false, false, false] rfl ?_
              exact J_237_103 r182 s153 (by omega) (by omega) hI156 hF175 (by omega) (fun hb => by have qz161 := z161 (by omega); have qg77 := g77 (by omega); have qg76 := g76 (by omega); have qg70 := g70 (by omega); have qg69 := g69 (by omega); clear z161 g77 g76 g70 g69; omega) (fun hb => by have qz161 := z161 (by omega); have qg77 := g77 (by omega); have qg76 := g76 (by omega); have qg70 := g70 (by omega); have qg69 := g69 (by omega); clear z161 g77 g76 g70 g69; omega) (fun hb => by have qz161 := z161 (by omega); have qg77 := g77 (by omega); have qg76 := g76 (by omega); have qg70 := g70 (by omega); have qg69 := g69 (by omega); clear z161 g77 g76 g70 g69; omega) (by omega) (by omega) (by omega) (by omega) (by omega) (fun hb => by have qz161 := z161 (by omega); have qg77 := g77 (by omega); have qg76 := g76 (by omega); have qg70 := g70 (by omega); have qg69 := g69 (by omega); clear z161 g77 g76 g70 g69; omega) (fun hb => by have qz161 := z161 (by omega); have qg77 := g77 (by omega); have qg76 := g76 (by omega); have qg70 := g70 (by omega); have qg69 := g69 (by omega); clear z161 g77 g76 g70 g69; omega) (by omega)
            · refine zt_bipush (pc' := 220) hX dX12_qPartTold_218 rfl (by decide) (by decide) ?_
              refine zt_iload_n (pc' := 221) hX dX12_qPartTold_220 rfl rfl ?_
              refine zt_iadd (pc' := 222) hX dX12_qPartTold_221 rfl ?_
              refine zt_goto (tgt := 237) hX dX12_qPartTold_222 (by decide) ?_
              refine zt_mask [true, false, false, false, false, false] rfl ?_
              exact J_237_103 (40 + r33) s64 (by omega) (by omega) hI65 hF66 (by omega) (fun hb => by have qg77 := g77 (by omega); have qg76 := g76 (by omega); have qg70 := g70 (by omega); have qg69 := g69 (by omega); clear g77 g76 g70 g69; omega) (fun hb => by have qg77 := g77 (by omega); have qg76 := g76 (by omega); have qg70 := g70 (by omega); have qg69 := g69 (by omega); clear g77 g76 g70 g69; omega) (fun hb => by have qg77 := g77 (by omega); have qg76 := g76 (by omega); have qg70 := g70 (by omega); have qg69 := g69 (by omega); clear g77 g76 g70 g69; omega) (by omega) (by omega) (by omega) (by omega) (by omega) (fun hb => by have qg77 := g77 (by omega); have qg76 := g76 (by omega); have qg70 := g70 (by omega); have qg69 := g69 (by omega); clear g77 g76 g70 g69; omega) (fun hb => by have qg77 := g77 (by omega); have qg76 := g76 (by omega); have qg70 := g70 (by omega); have qg69 := g69 (by omega); clear g77 g76 g70 g69; omega) (by omega)
          refine zt_iceq (pc' := 207) (tgt := 212) hX dX12_qPartTold_204 rfl (by decide) ⟨by omega, by omega⟩ ⟨by omega, by omega⟩ (fun c183 => ?_) (fun c183 => ?_)
          · clear z43
            clear z44
            exact J_212_78 s34 hI37 hF57 (by omega) (by omega) (fun hb => by omega) (fun hb => by omega) (by omega) (by omega) (by omega) (by omega) (by omega) (fun hb => by omega) (fun hb => by omega) (by omega)
          · clear z43
            have qz44 := z44 (by omega)
            clear z44
            refine zt_aload_n (pc' := 208) hX dX12_qPartTold_207 rfl rfl ?_
            refine zt_iload_n (pc' := 209) hX dX12_qPartTold_208 rfl rfl ?_
            refine zt_cVv (pc' := 212) hX dX12_qPartTold_209 rfl zm_yX12_qAsksWord zw_30_20 zc_164 (by decide) zs_46 (q := (RX12, TX12, 108)) rfl rfl (zc_X12_qAsksWord _ _ s34 hI37 r33 ⟨by omega, by omega⟩ (by omega)) rfl rfl (Nat.le_of_ble_eq_true rfl) (by decide) (fun r184 s185 hr186 hp187 => ?_)
            obtain ⟨hI188, hF189, z190, z191⟩ := hp187
            obtain ⟨w192, -, w194, w195, w196, w197, -, w199⟩ := zE_q1 hF189
            have e200 := hF189 164 3 rfl
            have e201 := hF189 164 97 rfl
            have e202 := hF189 164 99 rfl
            have e203 := hF189 164 101 rfl
            have hF204 := zOn_tr hF57 hF189 zi_12
            have b205 := zv_46_2 hI188 zc_164
            have b206 := zv_46_3 hI188 zc_164
            have b207 := zv_46_5 hI188 zc_164
            have b208 := zv_46_97 hI188 zc_164
            have b209 := zv_46_99 hI188 zc_164
            have b210 := zv_46_101 hI188 zc_164
            replace z190 : _ ∧ _ := ⟨z190.1, z190.2 (by omega)⟩
            exact J_212_78 s185 hI188 hF204 (by omega) (by omega) (fun hb => by have qz191 := z191 (by omega); clear z191; omega) (fun hb => by have qz191 := z191 (by omega); clear z191; omega) (by omega) (by omega) (by omega) (by omega) (by omega) (fun hb => by have qz191 := z191 (by omega); clear z191; omega) (fun hb => by have qz191 := z191 (by omega); clear z191; omega) (by omega)
        · clear g19 g18
          exact zt_vret hX hR dX12_qPartTold_193 ⟨hI11, hF12, by omega, by omega, by omega, by omega, by omega, (fun hb => by omega), (fun hb => by omega), by omega⟩
      refine zt_ifeq (pc' := 6) (tgt := 186) hX dX12_qPartTold_3 rfl (by decide) ⟨by omega, by omega⟩ (fun c211 => ?_) (fun c211 => ?_)
      · refine zt_mask [true, false, false, false, false, false] rfl ?_
        exact J_186_29
      · refine zt_aload_n (pc' := 7) hX dX12_qPartTold_6 rfl rfl ?_
        have b212 := zv_46_5 hI11 zc_164
        refine zt_get (pc' := 10) (v := .int (zI (s10 164 5))) hX dX12_qPartTold_7 rfl zf_X12_246 (by decide) zc_164 zs_46 rfl ?_
        refine zt_ifne (pc' := 13) (tgt := 186) hX dX12_qPartTold_10 rfl (by decide) ⟨by omega, by omega⟩ (fun c213 => ?_) (fun c213 => ?_)
        · clear g19 g18
          refine zt_mask [true, false, false, false, false, false] rfl ?_
          exact J_186_29
        · have qg19 := g19 (by omega)
          have qg18 := g18 (by omega)
          clear g19 g18
          refine zt_aload_n (pc' := 14) hX dX12_qPartTold_13 rfl rfl ?_
          refine zt_cVi (pc' := 17) hX dX12_qPartTold_14 rfl zm_yX12_look zw_26_12 zc_164 (by decide) zs_46 (q := (RX12, TX12, 108)) rfl rfl (zc_X12_look _ _ s10 hI11 ) rfl rfl (Nat.le_of_ble_eq_true rfl) (by decide) (fun r214 s215 hr216 hp217 => ?_)
          obtain ⟨hI218, hF219, q220, q221, z222, z223, z224, z225⟩ := hp217
          obtain ⟨w226, -, w228, w229, w230, w231, -, w233⟩ := zE_q1 hF219
          have e234 := hF219 164 3 rfl
          have e235 := hF219 164 97 rfl
          have e236 := hF219 164 99 rfl
          have e237 := hF219 164 101 rfl
          have hF238 := zOn_tr hF12 hF219 zi_12
          have b239 := zv_46_2 hI218 zc_164
          have b240 := zv_46_3 hI218 zc_164
          have b241 := zv_46_5 hI218 zc_164
          have b242 := zv_46_97 hI218 zc_164
          have b243 := zv_46_99 hI218 zc_164
          have b244 := zv_46_101 hI218 zc_164
          replace z222 : _ ∧ _ := ⟨z222.1, z222.2 (by omega)⟩
          refine zt_istore_n (pc' := 18) (lv' := [some (.ref (X.1.1 + 164)), some (.int (zI x7)), some (.int (zI r214)), none, none, none]) hX dX12_qPartTold_17 rfl hL (by decide) rfl ?_
          refine zt_aload_n (pc' := 19) hX dX12_qPartTold_18 rfl rfl ?_
          refine zt_bipush (pc' := 21) hX dX12_qPartTold_19 rfl (by decide) (by decide) ?_
          refine zt_bipush (pc' := 23) hX dX12_qPartTold_21 rfl (by decide) (by decide) ?_
          refine zt_cVi (pc' := 26) hX dX12_qPartTold_23 rfl zm_yX12_qWordOf zw_30_6 zc_164 (by decide) zs_46 (q := (RX12, TX12, 108)) rfl rfl (zc_X12_qWordOf _ _ s215 hI218 10 ⟨by omega, by omega⟩ 11 ⟨by omega, by omega⟩ (by omega)) rfl rfl (Nat.le_of_ble_eq_true rfl) (by decide) (fun r245 s246 hr247 hp248 => ?_)
          obtain ⟨hI249, hF250, q251, q252, z253, z254, z255, z256⟩ := hp248
          obtain ⟨w257, -, w259, w260, w261, w262, -, w264⟩ := zE_q1 hF250
          have e265 := hF250 164 3 rfl
          have e266 := hF250 164 97 rfl
          have e267 := hF250 164 99 rfl
          have e268 := hF250 164 101 rfl
          have hF269 := zOn_tr hF238 hF250 zi_12
          have b270 := zv_46_2 hI249 zc_164
          have b271 := zv_46_3 hI249 zc_164
          have b272 := zv_46_5 hI249 zc_164
          have b273 := zv_46_97 hI249 zc_164
          have b274 := zv_46_99 hI249 zc_164
          have b275 := zv_46_101 hI249 zc_164
          replace z253 : _ ∧ _ := ⟨z253.1, z253.2 (by omega)⟩
          refine zt_istore_n (pc' := 27) (lv' := [some (.ref (X.1.1 + 164)), some (.int (zI x7)), some (.int (zI r214)), some (.int (zI r245)), none, none]) hX dX12_qPartTold_26 rfl hL (by decide) rfl ?_
          refine zt_iload_n (pc' := 28) hX dX12_qPartTold_27 rfl rfl ?_
          refine zt_bipush (pc' := 30) hX dX12_qPartTold_28 rfl (by decide) (by decide) ?_
          have J_183_292 : ∀ (x276 : Int) (s279 : zSto), 0 ≤ x276 → x276 ≤ 1 → zInv s279 → zOn zQ2 σ s279 → s10 164 2 ≤ s279 164 2 → (s279 164 5 ≠ 0 ∨ x276 = 0 ∨ s10 164 2 < s279 164 2) → (x276 ≤ 1 ∧ 0 ≤ x276) → (σ 164 2 ≤ s279 164 2 ∧ s279 164 2 ≤ σ 164 3) → s279 164 3 = σ 164 3 → s279 164 101 = σ 164 101 → σ 164 101 ≤ s279 164 99 → s279 164 97 + s279 164 99 + σ 164 2 ≤ σ 164 97 + σ 164 99 + s279 164 2 + 1 → (s279 164 5 = 0 → s279 164 97 + s279 164 99 + σ 164 2 ≤ σ 164 97 + σ 164 99 + s279 164 2) → (s279 164 5 = 0 → zr s279 = 1 ∧ zHt s279 - zBt s279 = zHt σ - zBt σ) → (zBb s279 = zBb σ ∧ zSb s279 = zSb σ) → zF X s279 183 [some (.ref (X.1.1 + 164)), some (.int (zI x276)), none, none, none, none] [] := by
            clear z223 z225 z255 z256
            intro x276 s279 h277 h278 hI280 hF281 g282 g283 g284 g285 g286 g287 g288 g289 g290 g291 g292
            have b294 := zv_46_2 hI280 zc_164
            have b295 := zv_46_3 hI280 zc_164
            have b296 := zv_46_5 hI280 zc_164
            have b297 := zv_46_97 hI280 zc_164
            have b298 := zv_46_99 hI280 zc_164
            have b299 := zv_46_101 hI280 zc_164
            refine zt_goto (tgt := 2) hX dX12_qPartTold_183 (by decide) ?_
            exact ih23 x276 s279 (by omega) (by omega) hI280 hF281 (by omega) (by omega) (by omega) (by omega) (by omega) (fun hb => by have qg291 := g291 (by omega); have qg290 := g290 (by omega); clear g291 g290; omega) (fun hb => by have qg291 := g291 (by omega); have qg290 := g290 (by omega); clear g291 g290; omega) (by omega) (by omega)
          refine zt_icne (pc' := 33) (tgt := 56) hX dX12_qPartTold_30 rfl (by decide) ⟨by omega, by omega⟩ ⟨by omega, by omega⟩ (fun c300 => ?_) (fun c300 => ?_)
          · clear z255 z225
            refine zt_aload_n (pc' := 57) hX dX12_qPartTold_56 rfl rfl ?_
            refine zt_aload_n (pc' := 58) hX dX12_qPartTold_57 rfl rfl ?_
            refine zt_get (pc' := 61) (v := .ref (X.1.1 + 221)) hX dX12_qPartTold_58 rfl zf_X12_192 (by decide) zc_164 zs_46 (zrf_of (zv_46_83 hI249 zc_164)) ?_
            refine zt_cVz (pc' := 64) hX dX12_qPartTold_61 rfl zm_yX12_isHere zw_26_8 zc_164 (by decide) zs_46 (q := (RX12, TX12, 108)) rfl rfl (zc_X12_isHere _ _ s246 hI249 221 103 3 zc_221 (by decide) zs_103 (by decide)) rfl rfl (Nat.le_of_ble_eq_true rfl) (by decide) (fun r301 s302 hr303 hp304 => ?_)
            obtain ⟨hI305, hF306, q307, q308, z309, z310, z311, z312⟩ := hp304
            obtain ⟨w313, -, w315, w316, w317, w318, -, w320⟩ := zE_q1 hF306
            have e321 := hF306 164 3 rfl
            have e322 := hF306 164 97 rfl
            have e323 := hF306 164 99 rfl
            have e324 := hF306 164 101 rfl
            have hF325 := zOn_tr hF269 hF306 zi_12
            have b326 := zv_46_2 hI305 zc_164
            have b327 := zv_46_3 hI305 zc_164
            have b328 := zv_46_5 hI305 zc_164
            have b329 := zv_46_97 hI305 zc_164
            have b330 := zv_46_99 hI305 zc_164
            have b331 := zv_46_101 hI305 zc_164
            replace z309 : _ ∧ _ := ⟨z309.1, z309.2 (by omega)⟩
            have J_78_344 : ∀ (s332 : zSto), zInv s332 → zOn zQ2 σ s332 → s332 164 5 = 0 → s10 164 2 ≤ s332 164 2 → (σ 164 2 ≤ s332 164 2 ∧ s332 164 2 ≤ σ 164 3) → s332 164 3 = σ 164 3 → s332 164 101 = σ 164 101 → σ 164 101 ≤ s332 164 99 → s332 164 97 + s332 164 99 + σ 164 2 ≤ σ 164 97 + σ 164 99 + s332 164 2 + 1 → (s332 164 5 = 0 → s332 164 97 + s332 164 99 + σ 164 2 ≤ σ 164 97 + σ 164 99 + s332 164 2) → (s332 164 5 = 0 → zr s332 = 1 ∧ zHt s332 - zBt s332 = zHt σ - zBt σ) → (zBb s332 = zBb σ ∧ zSb s332 = zSb σ) → zF X s332 78 [some (.ref (X.1.1 + 164)), some (.int (zI x7)), none, none, none, none] [] := by
              clear z223 z256 z310 z312
              intro s332 hI333 hF334 g335 g336 g337 g338 g339 g340 g341 g342 g343 g344
              have b346 := zv_46_2 hI333 zc_164
              have b347 := zv_46_3 hI333 zc_164
              have b348 := zv_46_5 hI333 zc_164
              have b349 := zv_46_97 hI333 zc_164
              have b350 := zv_46_99 hI333 zc_164
              have b351 := zv_46_101 hI333 zc_164
              refine zt_aload_n (pc' := 79) hX dX12_qPartTold_78 rfl rfl ?_
              refine zt_aload_n (pc' := 80) hX dX12_qPartTold_79 rfl rfl ?_
              refine zt_get (pc' := 83) (v := .ref (X.1.1 + 221)) hX dX12_qPartTold_80 rfl zf_X12_192 (by decide) zc_164 zs_46 (zrf_of (zv_46_83 hI333 zc_164)) ?_
              refine zt_cVz (pc' := 86) hX dX12_qPartTold_83 rfl zm_yX12_takes zw_26_4 zc_164 (by decide) zs_46 (q := (RX12, TX12, 108)) rfl rfl (zc_X12_takes _ _ s332 hI333 221 103 3 zc_221 (by decide) zs_103 (by decide)) rfl rfl (Nat.le_of_ble_eq_true rfl) (by decide) (fun r352 s353 hr354 hp355 => ?_)
              obtain ⟨hI356, hF357, q358, q359, z360, z361, z362⟩ := hp355
              obtain ⟨w363, -, w365, w366, w367, w368, -, w370⟩ := zE_q1 hF357
              have e371 := hF357 164 3 rfl
              have e372 := hF357 164 97 rfl
              have e373 := hF357 164 99 rfl
              have e374 := hF357 164 101 rfl
              have hF375 := zOn_tr hF334 hF357 zi_12
              have b376 := zv_46_2 hI356 zc_164
              have b377 := zv_46_3 hI356 zc_164
              have b378 := zv_46_5 hI356 zc_164
              have b379 := zv_46_97 hI356 zc_164
              have b380 := zv_46_99 hI356 zc_164
              have b381 := zv_46_101 hI356 zc_164
              replace z360 : _ ∧ _ := ⟨z360.1, z360.2 (by omega)⟩
              refine zt_istore (pc' := 88) (lv' := [some (.ref (X.1.1 + 164)), some (.int (zI x7)), none, none, some (.int (zI r352)), none]) hX dX12_qPartTold_86 rfl hL (by decide) rfl ?_
              refine zt_iload (pc' := 90) hX dX12_qPartTold_88 rfl rfl ?_
              have J_101_395 : ∀ (s382 : zSto), zInv s382 → zOn zQ2 σ s382 → s382 164 97 + s382 164 99 + σ 164 2 ≤ σ 164 97 + σ 164 99 + s382 164 2 → s10 164 2 ≤ s382 164 2 → (s382 164 5 = 0 → s382 164 97 + s382 164 99 + σ 164 2 + 2 ≤ σ 164 97 + σ 164 99 + s382 164 2 ∧ s10 164 2 < s382 164 2) → (σ 164 2 ≤ s382 164 2 ∧ s382 164 2 ≤ σ 164 3) → s382 164 3 = σ 164 3 → s382 164 101 = σ 164 101 → σ 164 101 ≤ s382 164 99 → s382 164 97 + s382 164 99 + σ 164 2 ≤ σ 164 97 + σ 164 99 + s382 164 2 + 1 → (s382 164 5 = 0 → s382 164 97 + s382 164 99 + σ 164 2 ≤ σ 164 97 + σ 164 99 + s382 164 2) → (s382 164 5 = 0 → zr s382 = 1 ∧ zHt s382 - zBt s382 = zHt σ - zBt σ) → (zBb s382 = zBb σ ∧ zSb s382 = zSb σ) → zF X s382 101 [some (.ref (X.1.1 + 164)), some (.int (zI x7)), none, none, some (.int (zI r352)), none] [] := by
                clear g342 g343 z361
                intro s382 hI383 hF384 g385 g386 g387 g388 g389 g390 g391 g392 g393 g394 g395
                have b397 := zv_46_2 hI383 zc_164
                have b398 := zv_46_3 hI383 zc_164
                have b399 := zv_46_5 hI383 zc_164
                have b400 := zv_46_97 hI383 zc_164
                have b401 := zv_46_99 hI383 zc_164
                have b402 := zv_46_101 hI383 zc_164
                refine zt_aload_n (pc' := 102) hX dX12_qPartTold_101 rfl rfl ?_
                refine zt_cVi (pc' := 105) hX dX12_qPartTold_102 rfl zm_yX12_look zw_26_12 zc_164 (by decide) zs_46 (q := (RX12, TX12, 108)) rfl rfl (zc_X12_look _ _ s382 hI383 ) rfl rfl (Nat.le_of_ble_eq_true rfl) (by decide) (fun r403 s404 hr405 hp406 => ?_)
                obtain ⟨hI407, hF408, q409, q410, z411, z412, z413, z414⟩ := hp406
                obtain ⟨w415, -, w417, w418, w419, w420, -, w422⟩ := zE_q1 hF408
                have e423 := hF408 164 3 rfl
                have e424 := hF408 164 97 rfl
                have e425 := hF408 164 99 rfl
                have e426 := hF408 164 101 rfl
                have hF427 := zOn_tr hF384 hF408 zi_12
                have b428 := zv_46_2 hI407 zc_164
                have b429 := zv_46_3 hI407 zc_164
                have b430 := zv_46_5 hI407 zc_164
                have b431 := zv_46_97 hI407 zc_164
                have b432 := zv_46_99 hI407 zc_164
                have b433 := zv_46_101 hI407 zc_164
                replace z411 : _ ∧ _ := ⟨z411.1, z411.2 (by omega)⟩
                refine zt_bipush (pc' := 107) hX dX12_qPartTold_105 rfl (by decide) (by decide) ?_
                have J_118_436 : ∀ (y434 : Int), -1 ≤ y434 → y434 ≤ 1600 → zF X s404 118 [some (.ref (X.1.1 + 164)), some (.int (zI x7)), none, none, some (.int (zI r352)), none] [.int (zI y434)] := by
                  intro y434 h435 h436
                  refine zt_istore (pc' := 120) (lv' := [some (.ref (X.1.1 + 164)), some (.int (zI x7)), none, none, some (.int (zI r352)), some (.int (zI y434))]) hX dX12_qPartTold_118 rfl hL (by decide) rfl ?_
                  refine zt_iload (pc' := 122) hX dX12_qPartTold_120 rfl rfl ?_
                  refine zt_iconst (pc' := 123) hX dX12_qPartTold_122 rfl ?_
                  have J_144_450 : ∀ (s438 : zSto), zInv s438 → zOn zQ2 σ s438 → (s438 164 5 = 0 → s438 164 97 + s438 164 99 + σ 164 2 + 1 ≤ σ 164 97 + σ 164 99 + s438 164 2 ∧ s10 164 2 < s438 164 2) → s10 164 2 ≤ s438 164 2 → (σ 164 2 ≤ s438 164 2 ∧ s438 164 2 ≤ σ 164 3) → s438 164 3 = σ 164 3 → s438 164 101 = σ 164 101 → σ 164 101 ≤ s438 164 99 → s438 164 97 + s438 164 99 + σ 164 2 ≤ σ 164 97 + σ 164 99 + s438 164 2 + 1 → (s438 164 5 = 0 → s438 164 97 + s438 164 99 + σ 164 2 ≤ σ 164 97 + σ 164 99 + s438 164 2) → (s438 164 5 = 0 → zr s438 = 1 ∧ zHt s438 - zBt s438 = zHt σ - zBt σ) → (zBb s438 = zBb σ ∧ zSb s438 = zSb σ) → zF X s438 144 [some (.ref (X.1.1 + 164)), some (.int (zI x7)), none, none, none, none] [] := by
                    clear g387 g393 g394 z412 z414
                    intro s438 hI439 hF440 g441 g442 g443 g444 g445 g446 g447 g448 g449 g450
                    have b452 := zv_46_2 hI439 zc_164
                    have b453 := zv_46_3 hI439 zc_164
                    have b454 := zv_46_5 hI439 zc_164
                    have b455 := zv_46_97 hI439 zc_164
                    have b456 := zv_46_99 hI439 zc_164
                    have b457 := zv_46_101 hI439 zc_164
                    refine zt_aload_n (pc' := 145) hX dX12_qPartTold_144 rfl rfl ?_
                    refine zt_bipush (pc' := 147) hX dX12_qPartTold_145 rfl (by decide) (by decide) ?_
                    refine zt_cVv (pc' := 150) hX dX12_qPartTold_147 rfl zm_yX12_asksSign zw_27_10 zc_164 (by decide) zs_46 (q := (RX12, TX12, 108)) rfl rfl (zc_X12_asksSign _ _ s438 hI439 40 ⟨by omega, by omega⟩) rfl rfl (Nat.le_of_ble_eq_true rfl) (by decide) (fun r458 s459 hr460 hp461 => ?_)
                    obtain ⟨hI462, hF463, z464, z465⟩ := hp461
                    obtain ⟨w466, -, w468, w469, w470, w471, -, w473⟩ := zE_q1 hF463
                    have e474 := hF463 164 3 rfl
                    have e475 := hF463 164 97 rfl
                    have e476 := hF463 164 99 rfl
                    have e477 := hF463 164 101 rfl
                    have hF478 := zOn_tr hF440 hF463 zi_12
                    have b479 := zv_46_2 hI462 zc_164
                    have b480 := zv_46_3 hI462 zc_164
                    have b481 := zv_46_5 hI462 zc_164
                    have b482 := zv_46_97 hI462 zc_164
                    have b483 := zv_46_99 hI462 zc_164
                    have b484 := zv_46_101 hI462 zc_164
                    replace z464 : _ ∧ _ := ⟨z464.1, z464.2 (by omega)⟩
                    refine zt_goto (tgt := 183) hX dX12_qPartTold_150 (by decide) ?_
                    exact J_183_292 x7 s459 (by omega) (by omega) hI462 hF478 (by omega) (by omega) (by omega) (by omega) (by omega) (by omega) (by omega) (by omega) (fun hb => by have qz465 := z465 (by omega); have qg449 := g449 (by omega); have qg448 := g448 (by omega); have qg441 := g441 (by omega); clear z465 g449 g448 g441; omega) (fun hb => by have qz465 := z465 (by omega); have qg449 := g449 (by omega); have qg448 := g448 (by omega); have qg441 := g441 (by omega); clear z465 g449 g448 g441; omega) (by omega)
                  refine zt_iceq (pc' := 126) (tgt := 144) hX dX12_qPartTold_123 rfl (by decide) ⟨by omega, by omega⟩ ⟨by omega, by omega⟩ (fun c485 => ?_) (fun c485 => ?_)
                  · refine zt_mask [true, true, false, false, false, false] rfl ?_
                    exact J_144_450 s404 hI407 hF427 (fun hb => by have qg394 := g394 (by omega); have qg393 := g393 (by omega); have qg387 := g387 (by omega); clear g394 g393 g387; omega) (by omega) (by omega) (by omega) (by omega) (by omega) (by omega) (fun hb => by have qg394 := g394 (by omega); have qg393 := g393 (by omega); have qg387 := g387 (by omega); clear g394 g393 g387; omega) (fun hb => by have qg394 := g394 (by omega); have qg393 := g393 (by omega); have qg387 := g387 (by omega); clear g394 g393 g387; omega) (by omega)
                  · refine zt_aload_n (pc' := 127) hX dX12_qPartTold_126 rfl rfl ?_
                    refine zt_iload (pc' := 129) hX dX12_qPartTold_127 rfl rfl ?_
                    have J_139_488 : ∀ (y486 : Int), 21 ≤ y486 → y486 ≤ 22 → zF X s404 139 [some (.ref (X.1.1 + 164)), some (.int (zI x7)), none, none, none, some (.int (zI y434))] [.int (zI y486), .ref (X.1.1 + 164)] := by
                      intro y486 h487 h488
                      refine zt_iload (pc' := 141) hX dX12_qPartTold_139 rfl rfl ?_
                      refine zt_cVv (pc' := 144) hX dX12_qPartTold_141 rfl zm_yX12_qOpens zw_29_10 zc_164 (by decide) zs_46 (q := (RX12, TX12, 108)) rfl rfl (zc_X12_qOpens_S _ _ s404 hI407 y486 ⟨by omega, by omega⟩ y434 ⟨by omega, by omega⟩ (by omega) (by omega) (by omega)) rfl rfl (Nat.le_of_ble_eq_true rfl) (by decide) (fun r490 s491 hr492 hp493 => ?_)
                      obtain ⟨hI494, hF495, z496, z497, z498, z499, z500⟩ := hp493
                      have e501 := hF495 164 3 rfl
                      have hF502 := zOn_tr hF427 hF495 zi_id
                      have b503 := zv_46_2 hI494 zc_164
                      have b504 := zv_46_3 hI494 zc_164
                      have b505 := zv_46_5 hI494 zc_164
                      have b506 := zv_46_97 hI494 zc_164
                      have b507 := zv_46_99 hI494 zc_164
                      have b508 := zv_46_101 hI494 zc_164
                      refine zt_mask [true, true, false, false, false, false] rfl ?_
                      exact J_144_450 s491 hI494 hF502 (fun hb => by have qz499 := z499 (by omega); have qz498 := z498 (by omega); have qz497 := z497 (by omega); have qg394 := g394 (by omega); have qg393 := g393 (by omega); have qg387 := g387 (by omega); clear z499 z498 z497 g394 g393 g387; omega) (by omega) (by omega) (by omega) (by omega) (by omega) (by omega) (fun hb => by have qz499 := z499 (by omega); have qz498 := z498 (by omega); have qz497 := z497 (by omega); have qg394 := g394 (by omega); have qg393 := g393 (by omega); have qg387 := g387 (by omega); clear z499 z498 z497 g394 g393 g387; omega) (fun hb => by have qz499 := z499 (by omega); have qz498 := z498 (by omega); have qz497 := z497 (by omega); have qg394 := g394 (by omega); have qg393 := g393 (by omega); have qg387 := g387 (by omega); clear z499 z498 z497 g394 g393 g387; omega) (by omega)
                    refine zt_ifeq (pc' := 132) (tgt := 137) hX dX12_qPartTold_129 rfl (by decide) ⟨by omega, by omega⟩ (fun c509 => ?_) (fun c509 => ?_)
                    · refine zt_bipush (pc' := 139) hX dX12_qPartTold_137 rfl (by decide) (by decide) ?_
                      refine zt_mask [true, true, false, false, false, true] rfl ?_
                      exact J_139_488 22 (by omega) (by omega)
                    · refine zt_bipush (pc' := 134) hX dX12_qPartTold_132 rfl (by decide) (by decide) ?_
                      refine zt_goto (tgt := 139) hX dX12_qPartTold_134 (by decide) ?_
                      refine zt_mask [true, true, false, false, false, true] rfl ?_
                      exact J_139_488 21 (by omega) (by omega)
                refine zt_icne (pc' := 110) (tgt := 117) hX dX12_qPartTold_107 rfl (by decide) ⟨by omega, by omega⟩ ⟨by omega, by omega⟩ (fun c510 => ?_) (fun c510 => ?_)
                · clear z414
                  refine zt_iconst (pc' := 118) hX dX12_qPartTold_117 rfl ?_
                  exact J_118_436 (-1) (by omega) (by omega)
                · have qz412 := z412 (by omega)
                  clear z412
                  have qz414 := z414 (by omega)
                  clear z414
                  refine zt_aload_n (pc' := 111) hX dX12_qPartTold_110 rfl rfl ?_
                  have b511 := zv_46_2 hI407 zc_164
                  refine zt_get (pc' := 114) (v := .int (zI (s404 164 2))) hX dX12_qPartTold_111 rfl zf_X12_252 (by decide) zc_164 zs_46 rfl ?_
                  refine zt_goto (tgt := 118) hX dX12_qPartTold_114 (by decide) ?_
                  exact J_118_436 (s404 164 2) (by omega) (by omega)
              refine zt_ifne (pc' := 93) (tgt := 101) hX dX12_qPartTold_90 rfl (by decide) ⟨by omega, by omega⟩ (fun c512 => ?_) (fun c512 => ?_)
              · have qz361 := z361 (by omega)
                clear z361
                exact J_101_395 s353 hI356 hF375 (by omega) (by omega) (fun hb => by have qg343 := g343 (by omega); have qg342 := g342 (by omega); clear g343 g342; omega) (by omega) (by omega) (by omega) (by omega) (by omega) (fun hb => by have qg343 := g343 (by omega); have qg342 := g342 (by omega); clear g343 g342; omega) (fun hb => by have qg343 := g343 (by omega); have qg342 := g342 (by omega); clear g343 g342; omega) (by omega)
              · clear z361
                refine zt_aload_n (pc' := 94) hX dX12_qPartTold_93 rfl rfl ?_
                refine zt_aload_n (pc' := 95) hX dX12_qPartTold_94 rfl rfl ?_
                refine zt_get (pc' := 98) (v := .ref (X.1.1 + 222)) hX dX12_qPartTold_95 rfl zf_X12_195 (by decide) zc_164 zs_46 (zrf_of (zv_46_84 hI356 zc_164)) ?_
                refine zt_cVv (pc' := 101) hX dX12_qPartTold_98 rfl zm_yX12_asks zw_26_0 zc_164 (by decide) zs_46 (q := (RX12, TX12, 108)) rfl rfl (zc_X12_asks _ _ s353 hI356 222 104 3 zc_222 (by decide) zs_104 (by decide)) rfl rfl (Nat.le_of_ble_eq_true rfl) (by decide) (fun r513 s514 hr515 hp516 => ?_)
                obtain ⟨hI517, hF518, z519, z520⟩ := hp516
                obtain ⟨w521, -, w523, w524, w525, w526, -, w528⟩ := zE_q1 hF518
                have e529 := hF518 164 3 rfl
                have e530 := hF518 164 97 rfl
                have e531 := hF518 164 99 rfl
                have e532 := hF518 164 101 rfl
                have hF533 := zOn_tr hF375 hF518 zi_12
                have b534 := zv_46_2 hI517 zc_164
                have b535 := zv_46_3 hI517 zc_164
                have b536 := zv_46_5 hI517 zc_164
                have b537 := zv_46_97 hI517 zc_164
                have b538 := zv_46_99 hI517 zc_164
                have b539 := zv_46_101 hI517 zc_164
                replace z519 : _ ∧ _ := ⟨z519.1, z519.2 (by omega)⟩
                exact J_101_395 s514 hI517 hF533 (by omega) (by omega) (fun hb => by have qz520 := z520 (by omega); have qg343 := g343 (by omega); have qg342 := g342 (by omega); clear z520 g343 g342; omega) (by omega) (by omega) (by omega) (by omega) (by omega) (fun hb => by have qz520 := z520 (by omega); have qg343 := g343 (by omega); have qg342 := g342 (by omega); clear z520 g343 g342; omega) (fun hb => by have qz520 := z520 (by omega); have qg343 := g343 (by omega); have qg342 := g342 (by omega); clear z520 g343 g342; omega) (by omega)
            refine zt_ifne (pc' := 67) (tgt := 78) hX dX12_qPartTold_64 rfl (by decide) ⟨by omega, by omega⟩ (fun c540 => ?_) (fun c540 => ?_)
            · have qz310 := z310 (by omega)
              clear z310
              refine zt_mask [true, true, false, false, false, false] rfl ?_
              exact J_78_344 s302 hI305 hF325 (by omega) (by omega) (by omega) (by omega) (by omega) (by omega) (by omega) (fun hb => by omega) (fun hb => by omega) (by omega)
            · clear z310
              refine zt_aload_n (pc' := 68) hX dX12_qPartTold_67 rfl rfl ?_
              refine zt_aload_n (pc' := 69) hX dX12_qPartTold_68 rfl rfl ?_
              refine zt_get (pc' := 72) (v := .ref (X.1.1 + 222)) hX dX12_qPartTold_69 rfl zf_X12_195 (by decide) zc_164 zs_46 (zrf_of (zv_46_84 hI305 zc_164)) ?_
              refine zt_cVz (pc' := 75) hX dX12_qPartTold_72 rfl zm_yX12_isHere zw_26_8 zc_164 (by decide) zs_46 (q := (RX12, TX12, 108)) rfl rfl (zc_X12_isHere _ _ s302 hI305 222 104 3 zc_222 (by decide) zs_104 (by decide)) rfl rfl (Nat.le_of_ble_eq_true rfl) (by decide) (fun r541 s542 hr543 hp544 => ?_)
              obtain ⟨hI545, hF546, q547, q548, z549, z550, z551, z552⟩ := hp544
              obtain ⟨w553, -, w555, w556, w557, w558, -, w560⟩ := zE_q1 hF546
              have e561 := hF546 164 3 rfl
              have e562 := hF546 164 97 rfl
              have e563 := hF546 164 99 rfl
              have e564 := hF546 164 101 rfl
              have hF565 := zOn_tr hF325 hF546 zi_12
              have b566 := zv_46_2 hI545 zc_164
              have b567 := zv_46_3 hI545 zc_164
              have b568 := zv_46_5 hI545 zc_164
              have b569 := zv_46_97 hI545 zc_164
              have b570 := zv_46_99 hI545 zc_164
              have b571 := zv_46_101 hI545 zc_164
              replace z549 : _ ∧ _ := ⟨z549.1, z549.2 (by omega)⟩
              refine zt_ifeq (pc' := 78) (tgt := 153) hX dX12_qPartTold_75 rfl (by decide) ⟨by omega, by omega⟩ (fun c572 => ?_) (fun c572 => ?_)
              · clear z550
                refine zt_iload_n (pc' := 154) hX dX12_qPartTold_153 rfl rfl ?_
                refine zt_iconst (pc' := 155) hX dX12_qPartTold_154 rfl ?_
                refine zt_iceq (pc' := 158) (tgt := 181) hX dX12_qPartTold_155 rfl (by decide) ⟨by omega, by omega⟩ ⟨by omega, by omega⟩ (fun c573 => ?_) (fun c573 => ?_)
                · clear z552 z312
                  clear z256
                  refine zt_iconst (pc' := 182) hX dX12_qPartTold_181 rfl ?_
                  refine zt_istore_n (pc' := 183) (lv' := [some (.ref (X.1.1 + 164)), some (.int (zI 0)), some (.int (zI r214)), some (.int (zI r245)), none, none]) hX dX12_qPartTold_182 rfl hL (by decide) rfl ?_
                  refine zt_mask [true, true, false, false, false, false] rfl ?_
                  exact J_183_292 0 s542 (by omega) (by omega) hI545 hF565 (by omega) (by omega) (by omega) (by omega) (by omega) (by omega) (by omega) (by omega) (fun hb => by omega) (fun hb => by omega) (by omega)
                · clear z552 z312
                  have qz256 := z256 (by omega)
                  clear z256
                  refine zt_aload_n (pc' := 159) hX dX12_qPartTold_158 rfl rfl ?_
                  refine zt_bipush (pc' := 161) hX dX12_qPartTold_159 rfl (by decide) (by decide) ?_
                  refine zt_iload_n (pc' := 162) hX dX12_qPartTold_161 rfl rfl ?_
                  refine zt_iadd (pc' := 163) hX dX12_qPartTold_162 rfl ?_
                  refine zt_bipush (pc' := 165) hX dX12_qPartTold_163 rfl (by decide) (by decide) ?_
                  refine zt_isub (pc' := 166) hX dX12_qPartTold_165 rfl ?_
                  refine zt_aload_n (pc' := 167) hX dX12_qPartTold_166 rfl rfl ?_
                  have b574 := zv_46_2 hI545 zc_164
                  refine zt_get (pc' := 170) (v := .int (zI (s542 164 2))) hX dX12_qPartTold_167 rfl zf_X12_252 (by decide) zc_164 zs_46 rfl ?_
                  refine zt_cVv (pc' := 173) hX dX12_qPartTold_170 rfl zm_yX12_qOpens zw_29_10 zc_164 (by decide) zs_46 (q := (RX12, TX12, 108)) rfl rfl (zc_X12_qOpens_S _ _ s542 hI545 ((60 + r245) - 10) ⟨by omega, by omega⟩ (s542 164 2) ⟨by omega, by omega⟩ (by omega) (by omega) (by omega)) rfl rfl (Nat.le_of_ble_eq_true rfl) (by decide) (fun r575 s576 hr577 hp578 => ?_)
                  obtain ⟨hI579, hF580, z581, z582, z583, z584, z585⟩ := hp578
                  have e586 := hF580 164 3 rfl
                  have hF587 := zOn_tr hF565 hF580 zi_id
                  have b588 := zv_46_2 hI579 zc_164
                  have b589 := zv_46_3 hI579 zc_164
                  have b590 := zv_46_5 hI579 zc_164
                  have b591 := zv_46_97 hI579 zc_164
                  have b592 := zv_46_99 hI579 zc_164
                  have b593 := zv_46_101 hI579 zc_164
                  refine zt_aload_n (pc' := 174) hX dX12_qPartTold_173 rfl rfl ?_
                  refine zt_iload_n (pc' := 175) hX dX12_qPartTold_174 rfl rfl ?_
                  refine zt_cVv (pc' := 178) hX dX12_qPartTold_175 rfl zm_yX12_qAsksWord zw_30_20 zc_164 (by decide) zs_46 (q := (RX12, TX12, 108)) rfl rfl (zc_X12_qAsksWord _ _ s576 hI579 r245 ⟨by omega, by omega⟩ (by omega)) rfl rfl (Nat.le_of_ble_eq_true rfl) (by decide) (fun r594 s595 hr596 hp597 => ?_)
                  obtain ⟨hI598, hF599, z600, z601⟩ := hp597
                  obtain ⟨w602, -, w604, w605, w606, w607, -, w609⟩ := zE_q1 hF599
                  have e610 := hF599 164 3 rfl
                  have e611 := hF599 164 97 rfl
                  have e612 := hF599 164 99 rfl
                  have e613 := hF599 164 101 rfl
                  have hF614 := zOn_tr hF587 hF599 zi_12
                  have b615 := zv_46_2 hI598 zc_164
                  have b616 := zv_46_3 hI598 zc_164
                  have b617 := zv_46_5 hI598 zc_164
                  have b618 := zv_46_97 hI598 zc_164
                  have b619 := zv_46_99 hI598 zc_164
                  have b620 := zv_46_101 hI598 zc_164
                  replace z600 : _ ∧ _ := ⟨z600.1, z600.2 (by omega)⟩
                  refine zt_goto (tgt := 183) hX dX12_qPartTold_178 (by decide) ?_
                  refine zt_mask [true, true, false, false, false, false] rfl ?_
                  exact J_183_292 x7 s595 (by omega) (by omega) hI598 hF614 (by omega) (by omega) (by omega) (by omega) (by omega) (by omega) (by omega) (by omega) (fun hb => by have qz601 := z601 (by omega); have qz584 := z584 (by omega); have qz583 := z583 (by omega); have qz582 := z582 (by omega); clear z601 z584 z583 z582; omega) (fun hb => by have qz601 := z601 (by omega); have qz584 := z584 (by omega); have qz583 := z583 (by omega); have qz582 := z582 (by omega); clear z601 z584 z583 z582; omega) (by omega)
              · have qz550 := z550 (by omega)
                clear z550
                refine zt_mask [true, true, false, false, false, false] rfl ?_
                exact J_78_344 s542 hI545 hF565 (by omega) (by omega) (by omega) (by omega) (by omega) (by omega) (by omega) (fun hb => by omega) (fun hb => by omega) (by omega)
          · have qz223 := z223 (by omega)
            clear z223
            have qz225 := z225 (by omega)
            have qz255 := z255 (by omega)
            clear z225 z255
            refine zt_aload_n (pc' := 34) hX dX12_qPartTold_33 rfl rfl ?_
            refine zt_bipush (pc' := 36) hX dX12_qPartTold_34 rfl (by decide) (by decide) ?_
            refine zt_aload_n (pc' := 37) hX dX12_qPartTold_36 rfl rfl ?_
            have b621 := zv_46_2 hI249 zc_164
            refine zt_get (pc' := 40) (v := .int (zI (s246 164 2))) hX dX12_qPartTold_37 rfl zf_X12_252 (by decide) zc_164 zs_46 rfl ?_
            refine zt_cVv (pc' := 43) hX dX12_qPartTold_40 rfl zm_yX12_qOpens zw_29_10 zc_164 (by decide) zs_46 (q := (RX12, TX12, 108)) rfl rfl (zc_X12_qOpens_S _ _ s246 hI249 20 ⟨by omega, by omega⟩ (s246 164 2) ⟨by omega, by omega⟩ (by omega) (by omega) (by omega)) rfl rfl (Nat.le_of_ble_eq_true rfl) (by decide) (fun r622 s623 hr624 hp625 => ?_)
            obtain ⟨hI626, hF627, z628, z629, z630, z631, z632⟩ := hp625
            have e633 := hF627 164 3 rfl
            have hF634 := zOn_tr hF269 hF627 zi_id
            have b635 := zv_46_2 hI626 zc_164
            have b636 := zv_46_3 hI626 zc_164
            have b637 := zv_46_5 hI626 zc_164
            have b638 := zv_46_97 hI626 zc_164
            have b639 := zv_46_99 hI626 zc_164
            have b640 := zv_46_101 hI626 zc_164
            refine zt_aload_n (pc' := 44) hX dX12_qPartTold_43 rfl rfl ?_
            refine zt_dup (pc' := 45) hX dX12_qPartTold_44 rfl rfl ?_
            have b641 := zv_46_2 hI626 zc_164
            refine zt_get (pc' := 48) (v := .int (zI (s623 164 2))) hX dX12_qPartTold_45 rfl zf_X12_252 (by decide) zc_164 zs_46 rfl ?_
            refine zt_iconst (pc' := 49) hX dX12_qPartTold_48 rfl ?_
            refine zt_iadd (pc' := 50) hX dX12_qPartTold_49 rfl ?_
            refine zt_put (pc' := 53) (x := ((s623 164 2) + 1)) hX dX12_qPartTold_50 rfl zf_X12_252 (by decide) zc_164 zs_46 (fun q hq => by cases hq; rfl) rfl rfl rfl ?_
            generalize hs643 : zset s623 164 2 ((s623 164 2) + 1) = s642
            have hI644 : zInv s642 := hs643 ▸ zp_46_2 hI626 zc_164 ⟨by omega, by omega⟩
            have hF645 : zOn zQ2 σ s642 := hs643 ▸ zOn_set hF634 (by decide)
            obtain ⟨w646, -, w648, w649, w650, w651, -, w653⟩ := zE_set hs643 (by decide)
            have e654 : s642 164 2 = ((s623 164 2) + 1) := by rw [← hs643]; exact zset_s
            have e655 : s642 164 3 = s623 164 3 := by rw [← hs643]; exact zset_j (by decide)
            have e656 : s642 164 5 = s623 164 5 := by rw [← hs643]; exact zset_j (by decide)
            have e657 : s642 164 97 = s623 164 97 := by rw [← hs643]; exact zset_j (by decide)
            have e658 : s642 164 99 = s623 164 99 := by rw [← hs643]; exact zset_j (by decide)
            have e659 : s642 164 101 = s623 164 101 := by rw [← hs643]; exact zset_j (by decide)
            refine zt_goto (tgt := 183) hX dX12_qPartTold_53 (by decide) ?_
            refine zt_mask [true, true, false, false, false, false] rfl ?_
            exact J_183_292 x7 s642 (by omega) (by omega) hI644 hF645 (by omega) (by omega) (by omega) (by omega) (by omega) (by omega) (by omega) (by omega) (fun hb => by have qz631 := z631 (by omega); have qz630 := z630 (by omega); have qz629 := z629 (by omega); clear z631 z630 z629; omega) (fun hb => by have qz631 := z631 (by omega); have qz630 := z630 (by omega); have qz629 := z629 (by omega); clear z631 z630 z629; omega) (by omega)
  exact L_2_20 _ 1 σ (by omega) (by omega) hI hF (by omega) (by omega) (by omega) (by omega) (by omega) (fun hb => by omega) (fun hb => by omega) (by omega) (Nat.lt_succ_self _)

set_option maxRecDepth 100000 in
set_option maxHeartbeats 4000000 in
theorem zc_X12_qGoesOn (l : Launch) (E : zEN) (σ : zSto) (hI : zInv σ) (hpre0 : σ 164 5 = 0) (hpre1 : σ 164 2 ≤ σ 164 3) (hpre2 : σ 164 97 + σ 164 99 ≤ σ 164 2) (hpre3 : σ 164 101 ≤ σ 164 99) (hpre4 : zr σ = 1) (hpre5 : zBt σ + 1 ≤ zHt σ) : zCt l E yX12_qGoesOn cX12_qGoesOn 2 (some .boolean) 3 zNC zNC 0 0 σ [.ref (E.1 + 164)] (fun r σ' => zInv σ' ∧ zOn zQ2 σ σ' ∧ 0 ≤ r ∧ r ≤ 1 ∧ (σ' 164 2 ≤ σ 164 3) ∧ (σ 164 2 ≤ σ' 164 2) ∧ (σ' 164 101 = σ 164 101) ∧ (σ 164 101 ≤ σ' 164 99) ∧ (σ' 164 97 + σ' 164 99 + σ 164 2 ≤ σ 164 97 + σ 164 99 + σ' 164 2) ∧ (r = 1 → σ' 164 5 = 0) ∧ (σ' 164 5 = 0 → zr σ' = 1 ∧ zHt σ' - zBt σ' + r = zHt σ - zBt σ) ∧ (σ' 164 5 = 0 → r = 0 → ztb σ' = -1) ∧ (zBb σ' = zBb σ ∧ zSb σ' = zSb σ)) := by
  refine zCt_of2 [some (.ref (E.1 + 164)), none] (by decide +kernel) (Nat.le_of_ble_eq_true rfl) rfl ?_
  intro X hE hX hR hL hN
  subst hE
  have hX : zok X cX12_qGoesOn RX12 3 := hX
  have hF := zOn_rf zQ2 σ
  have b1 := zv_46_2 hI zc_164
  have b2 := zv_46_3 hI zc_164
  have b3 := zv_46_5 hI zc_164
  have b4 := zv_46_97 hI zc_164
  have b5 := zv_46_99 hI zc_164
  have b6 := zv_46_101 hI zc_164
  have L_0_17 : ∀ (N : Nat) (s7 : zSto), zInv s7 → zOn zQ2 σ s7 → (σ 164 2 ≤ s7 164 2 ∧ s7 164 2 ≤ σ 164 3) → s7 164 3 = σ 164 3 → s7 164 101 = σ 164 101 → σ 164 101 ≤ s7 164 99 → s7 164 5 = 0 → s7 164 97 + s7 164 99 + σ 164 2 ≤ σ 164 97 + σ 164 99 + s7 164 2 → (zr s7 = 1 ∧ zHt s7 - zBt s7 = zHt σ - zBt σ) → (zBb s7 = zBb σ ∧ zSb s7 = zSb σ) → ((1601 - s7 164 2).toNat) < N → zF X s7 0 [some (.ref (X.1.1 + 164)), none] [] := by
    intro N
    induction N with
    | zero =>
      intro s7 hI8 hF9 g10 g11 g12 g13 g14 g15 g16 g17 hm19
      exact absurd hm19 (Nat.not_lt_zero _)
    | succ N ih20 =>
      intro s7 hI8 hF9 g10 g11 g12 g13 g14 g15 g16 g17 hm19
      have b21 := zv_46_2 hI8 zc_164
      have b22 := zv_46_3 hI8 zc_164
      have b23 := zv_46_5 hI8 zc_164
      have b24 := zv_46_97 hI8 zc_164
      have b25 := zv_46_99 hI8 zc_164
      have b26 := zv_46_101 hI8 zc_164
      refine zt_aload_n (pc' := 1) hX dX12_qGoesOn_0 rfl rfl ?_
      have b27 := zv_46_5 hI8 zc_164
      refine zt_get (pc' := 4) (v := .int (zI (s7 164 5))) hX dX12_qGoesOn_1 rfl zf_X12_246 (by decide) zc_164 zs_46 rfl ?_
      have J_122_38 : ∀ (s28 : zSto), zInv s28 → zOn zQ2 σ s28 → (σ 164 2 ≤ s28 164 2 ∧ s28 164 2 ≤ σ 164 3) → s28 164 3 = σ 164 3 → s28 164 101 = σ 164 101 → σ 164 101 ≤ s28 164 99 → s28 164 5 = 0 → s28 164 97 + s28 164 99 + σ 164 2 ≤ σ 164 97 + σ 164 99 + s28 164 2 → (zr s28 = 1 ∧ zHt s28 - zBt s28 = zHt σ - zBt σ) → (zBb s28 = zBb σ ∧ zSb s28 = zSb σ) → zF X s28 122 [some (.ref (X.1.1 + 164)), none] [] := by
        intro s28 hI29 hF30 g31 g32 g33 g34 g35 g36 g37 g38
        have b40 := zv_46_2 hI29 zc_164
        have b41 := zv_46_3 hI29 zc_164
        have b42 := zv_46_5 hI29 zc_164
        have b43 := zv_46_97 hI29 zc_164
        have b44 := zv_46_99 hI29 zc_164
        have b45 := zv_46_101 hI29 zc_164
        refine zt_aload_n (pc' := 123) hX dX12_qGoesOn_122 rfl rfl ?_
        refine zt_bipush (pc' := 125) hX dX12_qGoesOn_123 rfl (by decide) (by decide) ?_
        refine zt_cVz (pc' := 128) hX dX12_qGoesOn_125 rfl zm_yX12_takesSign zw_27_14 zc_164 (by decide) zs_46 (q := (RX12, TX12, 108)) rfl rfl (zc_X12_takesSign _ _ s28 hI29 42 ⟨by omega, by omega⟩) rfl rfl (Nat.le_of_ble_eq_true rfl) (by decide) (fun r46 s47 hr48 hp49 => ?_)
        obtain ⟨hI50, hF51, q52, q53, z54, z55, z56⟩ := hp49
        obtain ⟨w57, -, w59, w60, w61, w62, -, w64⟩ := zE_q1 hF51
        have e65 := hF51 164 3 rfl
        have e66 := hF51 164 97 rfl
        have e67 := hF51 164 99 rfl
        have e68 := hF51 164 101 rfl
        have hF69 := zOn_tr hF30 hF51 zi_12
        have b70 := zv_46_2 hI50 zc_164
        have b71 := zv_46_3 hI50 zc_164
        have b72 := zv_46_5 hI50 zc_164
        have b73 := zv_46_97 hI50 zc_164
        have b74 := zv_46_99 hI50 zc_164
        have b75 := zv_46_101 hI50 zc_164
        replace z54 : _ ∧ _ := ⟨z54.1, z54.2 (by omega)⟩
        have J_140_88 : ∀ (s76 : zSto), zInv s76 → zOn zQ2 σ s76 → s76 164 97 + s76 164 99 + σ 164 2 + 1 ≤ σ 164 97 + σ 164 99 + s76 164 2 → 1 ≤ s76 164 2 → (σ 164 2 ≤ s76 164 2 ∧ s76 164 2 ≤ σ 164 3) → s76 164 3 = σ 164 3 → s76 164 101 = σ 164 101 → σ 164 101 ≤ s76 164 99 → s76 164 5 = 0 → s76 164 97 + s76 164 99 + σ 164 2 ≤ σ 164 97 + σ 164 99 + s76 164 2 → (zr s76 = 1 ∧ zHt s76 - zBt s76 = zHt σ - zBt σ) → (zBb s76 = zBb σ ∧ zSb s76 = zSb σ) → zF X s76 140 [some (.ref (X.1.1 + 164)), none] [] := by
          clear z55
          intro s76 hI77 hF78 g79 g80 g81 g82 g83 g84 g85 g86 g87 g88
          have b90 := zv_46_2 hI77 zc_164
          have b91 := zv_46_3 hI77 zc_164
          have b92 := zv_46_5 hI77 zc_164
          have b93 := zv_46_97 hI77 zc_164
          have b94 := zv_46_99 hI77 zc_164
          have b95 := zv_46_101 hI77 zc_164
          refine zt_aload_n (pc' := 141) hX dX12_qGoesOn_140 rfl rfl ?_
          refine zt_get (pc' := 144) (v := .ref (X.1.1 + 165)) hX dX12_qGoesOn_141 rfl zf_X12_7 (by decide) zc_164 zs_46 (zrf_of (zv_46_0 hI77 zc_164)) ?_
          refine zt_aload_n (pc' := 145) hX dX12_qGoesOn_144 rfl rfl ?_
          have b96 := zv_46_2 hI77 zc_164
          refine zt_get (pc' := 148) (v := .int (zI (s76 164 2))) hX dX12_qGoesOn_145 rfl zf_X12_252 (by decide) zc_164 zs_46 rfl ?_
          refine zt_iconst (pc' := 149) hX dX12_qGoesOn_148 rfl ?_
          refine zt_isub (pc' := 150) hX dX12_qGoesOn_149 rfl ?_
          refine zt_iald (pc' := 151) hX dX12_qGoesOn_150 rfl (by decide) zc_165 zs_47 (by decide) ⟨by omega, by omega⟩ ?_
          generalize hv97 : s76 165 (((s76 164 2) - 1).toNat) = v97
          have bv97 : 0 ≤ v97 ∧ v97 ≤ 255 := hv97 ▸ zv_47 hI77 zc_165 _
          refine zt_bipush (pc' := 153) hX dX12_qGoesOn_151 rfl (by decide) (by decide) ?_
          have J_161_100 : ∀ (y98 : Int), 3 ≤ y98 → y98 ≤ 4 → zF X s76 161 [some (.ref (X.1.1 + 164)), none] [.int (zI y98)] := by
            intro y98 h99 h100
            refine zt_istore_n (pc' := 162) (lv' := [some (.ref (X.1.1 + 164)), some (.int (zI y98))]) hX dX12_qGoesOn_161 rfl hL (by decide) rfl ?_
            have L_162_113 : ∀ (N : Nat) (s102 : zSto), zInv s102 → zOn zQ2 σ s102 → s102 164 97 + s102 164 99 + σ 164 2 + 1 ≤ σ 164 97 + σ 164 99 + s102 164 2 → (σ 164 2 ≤ s102 164 2 ∧ s102 164 2 ≤ σ 164 3) → s102 164 3 = σ 164 3 → s102 164 101 = σ 164 101 → σ 164 101 ≤ s102 164 99 → s102 164 5 = 0 → s102 164 97 + s102 164 99 + σ 164 2 ≤ σ 164 97 + σ 164 99 + s102 164 2 → (zr s102 = 1 ∧ zHt s102 - zBt s102 = zHt σ - zBt σ) → (zBb s102 = zBb σ ∧ zSb s102 = zSb σ) → ((s102 164 99).toNat) < N → zF X s102 162 [some (.ref (X.1.1 + 164)), some (.int (zI y98))] [] := by
              intro N
              induction N with
              | zero =>
                intro s102 hI103 hF104 g105 g106 g107 g108 g109 g110 g111 g112 g113 hm115
                exact absurd hm115 (Nat.not_lt_zero _)
              | succ N ih116 =>
                intro s102 hI103 hF104 g105 g106 g107 g108 g109 g110 g111 g112 g113 hm115
                have b117 := zv_46_2 hI103 zc_164
                have b118 := zv_46_3 hI103 zc_164
                have b119 := zv_46_5 hI103 zc_164
                have b120 := zv_46_97 hI103 zc_164
                have b121 := zv_46_99 hI103 zc_164
                have b122 := zv_46_101 hI103 zc_164
                refine zt_aload_n (pc' := 163) hX dX12_qGoesOn_162 rfl rfl ?_
                refine zt_iconst (pc' := 164) hX dX12_qGoesOn_163 rfl ?_
                refine zt_cVz (pc' := 167) hX dX12_qGoesOn_164 rfl zm_yX12_qIsOn zw_31_23 zc_164 (by decide) zs_46 (q := (RX12, TX12, 108)) rfl rfl (zc_X12_qIsOn _ _ s102 hI103 3 ⟨by omega, by omega⟩) rfl rfl (Nat.le_of_ble_eq_true rfl) (by decide) (fun r123 s124 hr125 hp126 => ?_)
                obtain ⟨rfl, q127, q128, z129, z130⟩ := hp126
                have J_178_131 : (1 ≤ s102 164 99 ∧ 1 ≤ s102 235 (s102 164 99 - 1).toNat ∧ s102 235 (s102 164 99 - 1).toNat ≤ 4) → zF X s102 178 [some (.ref (X.1.1 + 164)), some (.int (zI y98))] [] := by
                  intro g131
                  refine zt_aload_n (pc' := 179) hX dX12_qGoesOn_178 rfl rfl ?_
                  have h133 := fun (h : 1 ≤ s102 164 99) (h2 : 1 ≤ s102 235 (s102 164 99 - 1).toNat ∧ s102 235 (s102 164 99 - 1).toNat ≤ 4) => zr_on (s := s102) rfl h (by omega) h2 (by omega)
                  refine zt_cVv (pc' := 182) hX dX12_qGoesOn_179 rfl zm_yX12_qDrops zw_31_4 zc_164 (by decide) zs_46 (q := (RX12, TX12, 108)) rfl rfl (zc_X12_qDrops_S _ _ s102 hI103 (by omega) (by omega) (by omega) (by omega) (by omega)) rfl rfl (Nat.le_of_ble_eq_true rfl) (by decide) (fun r134 s135 hr136 hp137 => ?_)
                  obtain ⟨hI138, hF139, z140, z141⟩ := hp137
                  have e142 := hF139 164 2 rfl
                  have e143 := hF139 164 3 rfl
                  have e144 := hF139 164 5 rfl
                  have e145 := hF139 164 101 rfl
                  have hF146 := zOn_tr hF104 hF139 zi_52
                  have b147 := zv_46_2 hI138 zc_164
                  have b148 := zv_46_3 hI138 zc_164
                  have b149 := zv_46_5 hI138 zc_164
                  have b150 := zv_46_97 hI138 zc_164
                  have b151 := zv_46_99 hI138 zc_164
                  have b152 := zv_46_101 hI138 zc_164
                  refine zt_goto (tgt := 162) hX dX12_qGoesOn_182 (by decide) ?_
                  exact ih116 s135 hI138 hF146 (by omega) (by omega) (by omega) (by omega) (by omega) (by omega) (by omega) (by omega) (by omega) (by omega)
                refine zt_ifne (pc' := 170) (tgt := 178) hX dX12_qGoesOn_167 rfl (by decide) ⟨by omega, by omega⟩ (fun c153 => ?_) (fun c153 => ?_)
                · have qz129 := z129 (by omega)
                  clear z129
                  clear z130
                  exact J_178_131 (by omega)
                · clear z129
                  have qz130 := z130 (by omega)
                  clear z130
                  refine zt_aload_n (pc' := 171) hX dX12_qGoesOn_170 rfl rfl ?_
                  refine zt_iconst (pc' := 172) hX dX12_qGoesOn_171 rfl ?_
                  refine zt_cVz (pc' := 175) hX dX12_qGoesOn_172 rfl zm_yX12_qIsOn zw_31_23 zc_164 (by decide) zs_46 (q := (RX12, TX12, 108)) rfl rfl (zc_X12_qIsOn _ _ s102 hI103 4 ⟨by omega, by omega⟩) rfl rfl (Nat.le_of_ble_eq_true rfl) (by decide) (fun r154 s155 hr156 hp157 => ?_)
                  obtain ⟨rfl, q158, q159, z160, z161⟩ := hp157
                  refine zt_ifeq (pc' := 178) (tgt := 185) hX dX12_qGoesOn_175 rfl (by decide) ⟨by omega, by omega⟩ (fun c162 => ?_) (fun c162 => ?_)
                  · clear z160
                    have qz161 := z161 (by omega)
                    clear z161
                    refine zt_aload_n (pc' := 186) hX dX12_qGoesOn_185 rfl rfl ?_
                    refine zt_get (pc' := 189) (v := .ref (X.1.1 + 235)) hX dX12_qGoesOn_186 rfl zf_X12_234 (by decide) zc_164 zs_46 (zrf_of (zv_46_98 hI103 zc_164)) ?_
                    refine zt_aload_n (pc' := 190) hX dX12_qGoesOn_189 rfl rfl ?_
                    have b163 := zv_46_99 hI103 zc_164
                    refine zt_get (pc' := 193) (v := .int (zI (s102 164 99))) hX dX12_qGoesOn_190 rfl zf_X12_333 (by decide) zc_164 zs_46 rfl ?_
                    refine zt_iload_n (pc' := 194) hX dX12_qGoesOn_193 rfl rfl ?_
                    refine zt_iast (pc' := 195) hX dX12_qGoesOn_194 rfl (by decide) zc_235 zs_117 (by decide) ⟨by omega, by omega⟩ ?_
                    generalize hs165 : zset s102 235 ((s102 164 99).toNat) y98 = s164
                    have hI166 : zInv s164 := hs165 ▸ zp_117 hI103 zc_235 ((s102 164 99).toNat) ⟨by omega, by omega⟩
                    have hF167 : zOn zQ2 σ s164 := hs165 ▸ zOn_set hF104 (zq2_235 (by omega))
                    have e168 : s164 164 2 = s102 164 2 := by rw [← hs165]; exact zset_k (zne_r zc_164 zc_235 (by decide))
                    have e169 : s164 164 3 = s102 164 3 := by rw [← hs165]; exact zset_k (zne_r zc_164 zc_235 (by decide))
                    have e170 : s164 164 5 = s102 164 5 := by rw [← hs165]; exact zset_k (zne_r zc_164 zc_235 (by decide))
                    have e171 : s164 164 97 = s102 164 97 := by rw [← hs165]; exact zset_k (zne_r zc_164 zc_235 (by decide))
                    have e172 : s164 164 99 = s102 164 99 := by rw [← hs165]; exact zset_k (zne_r zc_164 zc_235 (by decide))
                    have e173 : s164 164 101 = s102 164 101 := by rw [← hs165]; exact zset_k (zne_r zc_164 zc_235 (by decide))
                    refine zt_aload_n (pc' := 196) hX dX12_qGoesOn_195 rfl rfl ?_
                    refine zt_dup (pc' := 197) hX dX12_qGoesOn_196 rfl rfl ?_
                    have b174 := zv_46_99 hI166 zc_164
                    refine zt_get (pc' := 200) (v := .int (zI (s164 164 99))) hX dX12_qGoesOn_197 rfl zf_X12_333 (by decide) zc_164 zs_46 rfl ?_
                    refine zt_iconst (pc' := 201) hX dX12_qGoesOn_200 rfl ?_
                    refine zt_iadd (pc' := 202) hX dX12_qGoesOn_201 rfl ?_
                    refine zt_put (pc' := 205) (x := ((s164 164 99) + 1)) hX dX12_qGoesOn_202 rfl zf_X12_333 (by decide) zc_164 zs_46 (fun q hq => by cases hq; rfl) rfl rfl rfl ?_
                    generalize hs176 : zset s164 164 99 ((s164 164 99) + 1) = s175
                    have hI177 : zInv s175 := hs176 ▸ zp_46_99 hI166 zc_164 ⟨by omega, by omega⟩
                    have hF178 : zOn zQ2 σ s175 := hs176 ▸ zOn_set hF167 (by decide)
                    have e179 : s175 164 2 = s164 164 2 := by rw [← hs176]; exact zset_j (by decide)
                    have e180 : s175 164 3 = s164 164 3 := by rw [← hs176]; exact zset_j (by decide)
                    have e181 : s175 164 5 = s164 164 5 := by rw [← hs176]; exact zset_j (by decide)
                    have e182 : s175 164 97 = s164 164 97 := by rw [← hs176]; exact zset_j (by decide)
                    have e183 : s175 164 99 = ((s164 164 99) + 1) := by rw [← hs176]; exact zset_s
                    have e184 : s175 164 101 = s164 164 101 := by rw [← hs176]; exact zset_j (by decide)
                    have h185 := zpush_S hs165 hs176 (by omega) (by omega) (by omega) (by omega)
                    have h185w := zw_v y98
                    refine zt_iconst (pc' := 206) hX dX12_qGoesOn_205 rfl ?_
                    exact zt_zret hX hR dX12_qGoesOn_206 ⟨by omega, by omega⟩ ⟨hI177, hF178, by omega, by omega, by omega, by omega, by omega, by omega, by omega, by omega, (fun hb => by omega), (fun hb => by omega), by omega⟩
                  · have qz160 := z160 (by omega)
                    clear z160
                    clear z161
                    exact J_178_131 (by omega)
            exact L_162_113 _ s76 hI77 hF78 (by omega) (by omega) (by omega) (by omega) (by omega) (by omega) (by omega) (by omega) (by omega) (Nat.lt_succ_self _)
          refine zt_icne (pc' := 156) (tgt := 160) hX dX12_qGoesOn_153 rfl (by decide) ⟨by omega, by omega⟩ ⟨by omega, by omega⟩ (fun c186 => ?_) (fun c186 => ?_)
          · refine zt_iconst (pc' := 161) hX dX12_qGoesOn_160 rfl ?_
            exact J_161_100 4 (by omega) (by omega)
          · refine zt_iconst (pc' := 157) hX dX12_qGoesOn_156 rfl ?_
            refine zt_goto (tgt := 161) hX dX12_qGoesOn_157 (by decide) ?_
            exact J_161_100 3 (by omega) (by omega)
        refine zt_ifne (pc' := 131) (tgt := 140) hX dX12_qGoesOn_128 rfl (by decide) ⟨by omega, by omega⟩ (fun c187 => ?_) (fun c187 => ?_)
        · have qz55 := z55 (by omega)
          clear z55
          exact J_140_88 s47 hI50 hF69 (by omega) (by omega) (by omega) (by omega) (by omega) (by omega) (by omega) (by omega) (by omega) (by omega)
        · clear z55
          refine zt_aload_n (pc' := 132) hX dX12_qGoesOn_131 rfl rfl ?_
          refine zt_bipush (pc' := 134) hX dX12_qGoesOn_132 rfl (by decide) (by decide) ?_
          refine zt_cVz (pc' := 137) hX dX12_qGoesOn_134 rfl zm_yX12_takesSign zw_27_14 zc_164 (by decide) zs_46 (q := (RX12, TX12, 108)) rfl rfl (zc_X12_takesSign _ _ s47 hI50 47 ⟨by omega, by omega⟩) rfl rfl (Nat.le_of_ble_eq_true rfl) (by decide) (fun r188 s189 hr190 hp191 => ?_)
          obtain ⟨hI192, hF193, q194, q195, z196, z197, z198⟩ := hp191
          obtain ⟨w199, -, w201, w202, w203, w204, -, w206⟩ := zE_q1 hF193
          have e207 := hF193 164 3 rfl
          have e208 := hF193 164 97 rfl
          have e209 := hF193 164 99 rfl
          have e210 := hF193 164 101 rfl
          have hF211 := zOn_tr hF69 hF193 zi_12
          have b212 := zv_46_2 hI192 zc_164
          have b213 := zv_46_3 hI192 zc_164
          have b214 := zv_46_5 hI192 zc_164
          have b215 := zv_46_97 hI192 zc_164
          have b216 := zv_46_99 hI192 zc_164
          have b217 := zv_46_101 hI192 zc_164
          replace z196 : _ ∧ _ := ⟨z196.1, z196.2 (by omega)⟩
          refine zt_ifeq (pc' := 140) (tgt := 207) hX dX12_qGoesOn_137 rfl (by decide) ⟨by omega, by omega⟩ (fun c218 => ?_) (fun c218 => ?_)
          · clear z197
            refine zt_aload_n (pc' := 208) hX dX12_qGoesOn_207 rfl rfl ?_
            refine zt_bipush (pc' := 210) hX dX12_qGoesOn_208 rfl (by decide) (by decide) ?_
            refine zt_cVz (pc' := 213) hX dX12_qGoesOn_210 rfl zm_yX12_takesSign zw_27_14 zc_164 (by decide) zs_46 (q := (RX12, TX12, 108)) rfl rfl (zc_X12_takesSign _ _ s189 hI192 43 ⟨by omega, by omega⟩) rfl rfl (Nat.le_of_ble_eq_true rfl) (by decide) (fun r219 s220 hr221 hp222 => ?_)
            obtain ⟨hI223, hF224, q225, q226, z227, z228, z229⟩ := hp222
            obtain ⟨w230, -, w232, w233, w234, w235, -, w237⟩ := zE_q1 hF224
            have e238 := hF224 164 3 rfl
            have e239 := hF224 164 97 rfl
            have e240 := hF224 164 99 rfl
            have e241 := hF224 164 101 rfl
            have hF242 := zOn_tr hF211 hF224 zi_12
            have b243 := zv_46_2 hI223 zc_164
            have b244 := zv_46_3 hI223 zc_164
            have b245 := zv_46_5 hI223 zc_164
            have b246 := zv_46_97 hI223 zc_164
            have b247 := zv_46_99 hI223 zc_164
            have b248 := zv_46_101 hI223 zc_164
            replace z227 : _ ∧ _ := ⟨z227.1, z227.2 (by omega)⟩
            have J_225_261 : ∀ (s249 : zSto), zInv s249 → zOn zQ2 σ s249 → s249 164 97 + s249 164 99 + σ 164 2 + 1 ≤ σ 164 97 + σ 164 99 + s249 164 2 → 1 ≤ s249 164 2 → (σ 164 2 ≤ s249 164 2 ∧ s249 164 2 ≤ σ 164 3) → s249 164 3 = σ 164 3 → s249 164 101 = σ 164 101 → σ 164 101 ≤ s249 164 99 → s249 164 5 = 0 → s249 164 97 + s249 164 99 + σ 164 2 ≤ σ 164 97 + σ 164 99 + s249 164 2 → (zr s249 = 1 ∧ zHt s249 - zBt s249 = zHt σ - zBt σ) → (zBb s249 = zBb σ ∧ zSb s249 = zSb σ) → zF X s249 225 [some (.ref (X.1.1 + 164)), none] [] := by
              clear z228
              intro s249 hI250 hF251 g252 g253 g254 g255 g256 g257 g258 g259 g260 g261
              have b263 := zv_46_2 hI250 zc_164
              have b264 := zv_46_3 hI250 zc_164
              have b265 := zv_46_5 hI250 zc_164
              have b266 := zv_46_97 hI250 zc_164
              have b267 := zv_46_99 hI250 zc_164
              have b268 := zv_46_101 hI250 zc_164
              refine zt_aload_n (pc' := 226) hX dX12_qGoesOn_225 rfl rfl ?_
              refine zt_get (pc' := 229) (v := .ref (X.1.1 + 165)) hX dX12_qGoesOn_226 rfl zf_X12_7 (by decide) zc_164 zs_46 (zrf_of (zv_46_0 hI250 zc_164)) ?_
              refine zt_aload_n (pc' := 230) hX dX12_qGoesOn_229 rfl rfl ?_
              have b269 := zv_46_2 hI250 zc_164
              refine zt_get (pc' := 233) (v := .int (zI (s249 164 2))) hX dX12_qGoesOn_230 rfl zf_X12_252 (by decide) zc_164 zs_46 rfl ?_
              refine zt_iconst (pc' := 234) hX dX12_qGoesOn_233 rfl ?_
              refine zt_isub (pc' := 235) hX dX12_qGoesOn_234 rfl ?_
              refine zt_iald (pc' := 236) hX dX12_qGoesOn_235 rfl (by decide) zc_165 zs_47 (by decide) ⟨by omega, by omega⟩ ?_
              generalize hv270 : s249 165 (((s249 164 2) - 1).toNat) = v270
              have bv270 : 0 ≤ v270 ∧ v270 ≤ 255 := hv270 ▸ zv_47 hI250 zc_165 _
              refine zt_bipush (pc' := 238) hX dX12_qGoesOn_236 rfl (by decide) (by decide) ?_
              have J_246_273 : ∀ (y271 : Int), 1 ≤ y271 → y271 ≤ 2 → zF X s249 246 [some (.ref (X.1.1 + 164)), none] [.int (zI y271)] := by
                intro y271 h272 h273
                refine zt_istore_n (pc' := 247) (lv' := [some (.ref (X.1.1 + 164)), some (.int (zI y271))]) hX dX12_qGoesOn_246 rfl hL (by decide) rfl ?_
                have L_247_286 : ∀ (N : Nat) (s275 : zSto), zInv s275 → zOn zQ2 σ s275 → s275 164 97 + s275 164 99 + σ 164 2 + 1 ≤ σ 164 97 + σ 164 99 + s275 164 2 → (σ 164 2 ≤ s275 164 2 ∧ s275 164 2 ≤ σ 164 3) → s275 164 3 = σ 164 3 → s275 164 101 = σ 164 101 → σ 164 101 ≤ s275 164 99 → s275 164 5 = 0 → s275 164 97 + s275 164 99 + σ 164 2 ≤ σ 164 97 + σ 164 99 + s275 164 2 → (zr s275 = 1 ∧ zHt s275 - zBt s275 = zHt σ - zBt σ) → (zBb s275 = zBb σ ∧ zSb s275 = zSb σ) → ((s275 164 99).toNat) < N → zF X s275 247 [some (.ref (X.1.1 + 164)), some (.int (zI y271))] [] := by
                  intro N
                  induction N with
                  | zero =>
                    intro s275 hI276 hF277 g278 g279 g280 g281 g282 g283 g284 g285 g286 hm288
                    exact absurd hm288 (Nat.not_lt_zero _)
                  | succ N ih289 =>
                    intro s275 hI276 hF277 g278 g279 g280 g281 g282 g283 g284 g285 g286 hm288
                    have b290 := zv_46_2 hI276 zc_164
                    have b291 := zv_46_3 hI276 zc_164
                    have b292 := zv_46_5 hI276 zc_164
                    have b293 := zv_46_97 hI276 zc_164
                    have b294 := zv_46_99 hI276 zc_164
                    have b295 := zv_46_101 hI276 zc_164
                    refine zt_aload_n (pc' := 248) hX dX12_qGoesOn_247 rfl rfl ?_
                    refine zt_iconst (pc' := 249) hX dX12_qGoesOn_248 rfl ?_
                    refine zt_cVz (pc' := 252) hX dX12_qGoesOn_249 rfl zm_yX12_qIsOn zw_31_23 zc_164 (by decide) zs_46 (q := (RX12, TX12, 108)) rfl rfl (zc_X12_qIsOn _ _ s275 hI276 3 ⟨by omega, by omega⟩) rfl rfl (Nat.le_of_ble_eq_true rfl) (by decide) (fun r296 s297 hr298 hp299 => ?_)
                    obtain ⟨rfl, q300, q301, z302, z303⟩ := hp299
                    have J_279_304 : (1 ≤ s275 164 99 ∧ 1 ≤ s275 235 (s275 164 99 - 1).toNat ∧ s275 235 (s275 164 99 - 1).toNat ≤ 4) → zF X s275 279 [some (.ref (X.1.1 + 164)), some (.int (zI y271))] [] := by
                      intro g304
                      refine zt_aload_n (pc' := 280) hX dX12_qGoesOn_279 rfl rfl ?_
                      have h306 := fun (h : 1 ≤ s275 164 99) (h2 : 1 ≤ s275 235 (s275 164 99 - 1).toNat ∧ s275 235 (s275 164 99 - 1).toNat ≤ 4) => zr_on (s := s275) rfl h (by omega) h2 (by omega)
                      refine zt_cVv (pc' := 283) hX dX12_qGoesOn_280 rfl zm_yX12_qDrops zw_31_4 zc_164 (by decide) zs_46 (q := (RX12, TX12, 108)) rfl rfl (zc_X12_qDrops_S _ _ s275 hI276 (by omega) (by omega) (by omega) (by omega) (by omega)) rfl rfl (Nat.le_of_ble_eq_true rfl) (by decide) (fun r307 s308 hr309 hp310 => ?_)
                      obtain ⟨hI311, hF312, z313, z314⟩ := hp310
                      have e315 := hF312 164 2 rfl
                      have e316 := hF312 164 3 rfl
                      have e317 := hF312 164 5 rfl
                      have e318 := hF312 164 101 rfl
                      have hF319 := zOn_tr hF277 hF312 zi_52
                      have b320 := zv_46_2 hI311 zc_164
                      have b321 := zv_46_3 hI311 zc_164
                      have b322 := zv_46_5 hI311 zc_164
                      have b323 := zv_46_97 hI311 zc_164
                      have b324 := zv_46_99 hI311 zc_164
                      have b325 := zv_46_101 hI311 zc_164
                      refine zt_goto (tgt := 247) hX dX12_qGoesOn_283 (by decide) ?_
                      exact ih289 s308 hI311 hF319 (by omega) (by omega) (by omega) (by omega) (by omega) (by omega) (by omega) (by omega) (by omega) (by omega)
                    refine zt_ifne (pc' := 255) (tgt := 279) hX dX12_qGoesOn_252 rfl (by decide) ⟨by omega, by omega⟩ (fun c326 => ?_) (fun c326 => ?_)
                    · have qz302 := z302 (by omega)
                      clear z302
                      clear z303
                      exact J_279_304 (by omega)
                    · clear z302
                      have qz303 := z303 (by omega)
                      clear z303
                      refine zt_aload_n (pc' := 256) hX dX12_qGoesOn_255 rfl rfl ?_
                      refine zt_iconst (pc' := 257) hX dX12_qGoesOn_256 rfl ?_
                      refine zt_cVz (pc' := 260) hX dX12_qGoesOn_257 rfl zm_yX12_qIsOn zw_31_23 zc_164 (by decide) zs_46 (q := (RX12, TX12, 108)) rfl rfl (zc_X12_qIsOn _ _ s275 hI276 4 ⟨by omega, by omega⟩) rfl rfl (Nat.le_of_ble_eq_true rfl) (by decide) (fun r327 s328 hr329 hp330 => ?_)
                      obtain ⟨rfl, q331, q332, z333, z334⟩ := hp330
                      refine zt_ifne (pc' := 263) (tgt := 279) hX dX12_qGoesOn_260 rfl (by decide) ⟨by omega, by omega⟩ (fun c335 => ?_) (fun c335 => ?_)
                      · have qz333 := z333 (by omega)
                        clear z333
                        clear z334
                        exact J_279_304 (by omega)
                      · clear z333
                        have qz334 := z334 (by omega)
                        clear z334
                        refine zt_aload_n (pc' := 264) hX dX12_qGoesOn_263 rfl rfl ?_
                        refine zt_iconst (pc' := 265) hX dX12_qGoesOn_264 rfl ?_
                        refine zt_cVz (pc' := 268) hX dX12_qGoesOn_265 rfl zm_yX12_qIsOn zw_31_23 zc_164 (by decide) zs_46 (q := (RX12, TX12, 108)) rfl rfl (zc_X12_qIsOn _ _ s275 hI276 1 ⟨by omega, by omega⟩) rfl rfl (Nat.le_of_ble_eq_true rfl) (by decide) (fun r336 s337 hr338 hp339 => ?_)
                        obtain ⟨rfl, q340, q341, z342, z343⟩ := hp339
                        refine zt_ifne (pc' := 271) (tgt := 279) hX dX12_qGoesOn_268 rfl (by decide) ⟨by omega, by omega⟩ (fun c344 => ?_) (fun c344 => ?_)
                        · have qz342 := z342 (by omega)
                          clear z342
                          clear z343
                          exact J_279_304 (by omega)
                        · clear z342
                          have qz343 := z343 (by omega)
                          clear z343
                          refine zt_aload_n (pc' := 272) hX dX12_qGoesOn_271 rfl rfl ?_
                          refine zt_iconst (pc' := 273) hX dX12_qGoesOn_272 rfl ?_
                          refine zt_cVz (pc' := 276) hX dX12_qGoesOn_273 rfl zm_yX12_qIsOn zw_31_23 zc_164 (by decide) zs_46 (q := (RX12, TX12, 108)) rfl rfl (zc_X12_qIsOn _ _ s275 hI276 2 ⟨by omega, by omega⟩) rfl rfl (Nat.le_of_ble_eq_true rfl) (by decide) (fun r345 s346 hr347 hp348 => ?_)
                          obtain ⟨rfl, q349, q350, z351, z352⟩ := hp348
                          refine zt_ifeq (pc' := 279) (tgt := 286) hX dX12_qGoesOn_276 rfl (by decide) ⟨by omega, by omega⟩ (fun c353 => ?_) (fun c353 => ?_)
                          · clear z351
                            have qz352 := z352 (by omega)
                            clear z352
                            refine zt_aload_n (pc' := 287) hX dX12_qGoesOn_286 rfl rfl ?_
                            refine zt_get (pc' := 290) (v := .ref (X.1.1 + 235)) hX dX12_qGoesOn_287 rfl zf_X12_234 (by decide) zc_164 zs_46 (zrf_of (zv_46_98 hI276 zc_164)) ?_
                            refine zt_aload_n (pc' := 291) hX dX12_qGoesOn_290 rfl rfl ?_
                            have b354 := zv_46_99 hI276 zc_164
                            refine zt_get (pc' := 294) (v := .int (zI (s275 164 99))) hX dX12_qGoesOn_291 rfl zf_X12_333 (by decide) zc_164 zs_46 rfl ?_
                            refine zt_iload_n (pc' := 295) hX dX12_qGoesOn_294 rfl rfl ?_
                            refine zt_iast (pc' := 296) hX dX12_qGoesOn_295 rfl (by decide) zc_235 zs_117 (by decide) ⟨by omega, by omega⟩ ?_
                            generalize hs356 : zset s275 235 ((s275 164 99).toNat) y271 = s355
                            have hI357 : zInv s355 := hs356 ▸ zp_117 hI276 zc_235 ((s275 164 99).toNat) ⟨by omega, by omega⟩
                            have hF358 : zOn zQ2 σ s355 := hs356 ▸ zOn_set hF277 (zq2_235 (by omega))
                            have e359 : s355 164 2 = s275 164 2 := by rw [← hs356]; exact zset_k (zne_r zc_164 zc_235 (by decide))
                            have e360 : s355 164 3 = s275 164 3 := by rw [← hs356]; exact zset_k (zne_r zc_164 zc_235 (by decide))
                            have e361 : s355 164 5 = s275 164 5 := by rw [← hs356]; exact zset_k (zne_r zc_164 zc_235 (by decide))
                            have e362 : s355 164 97 = s275 164 97 := by rw [← hs356]; exact zset_k (zne_r zc_164 zc_235 (by decide))
                            have e363 : s355 164 99 = s275 164 99 := by rw [← hs356]; exact zset_k (zne_r zc_164 zc_235 (by decide))
                            have e364 : s355 164 101 = s275 164 101 := by rw [← hs356]; exact zset_k (zne_r zc_164 zc_235 (by decide))
                            refine zt_aload_n (pc' := 297) hX dX12_qGoesOn_296 rfl rfl ?_
                            refine zt_dup (pc' := 298) hX dX12_qGoesOn_297 rfl rfl ?_
                            have b365 := zv_46_99 hI357 zc_164
                            refine zt_get (pc' := 301) (v := .int (zI (s355 164 99))) hX dX12_qGoesOn_298 rfl zf_X12_333 (by decide) zc_164 zs_46 rfl ?_
                            refine zt_iconst (pc' := 302) hX dX12_qGoesOn_301 rfl ?_
                            refine zt_iadd (pc' := 303) hX dX12_qGoesOn_302 rfl ?_
                            refine zt_put (pc' := 306) (x := ((s355 164 99) + 1)) hX dX12_qGoesOn_303 rfl zf_X12_333 (by decide) zc_164 zs_46 (fun q hq => by cases hq; rfl) rfl rfl rfl ?_
                            generalize hs367 : zset s355 164 99 ((s355 164 99) + 1) = s366
                            have hI368 : zInv s366 := hs367 ▸ zp_46_99 hI357 zc_164 ⟨by omega, by omega⟩
                            have hF369 : zOn zQ2 σ s366 := hs367 ▸ zOn_set hF358 (by decide)
                            have e370 : s366 164 2 = s355 164 2 := by rw [← hs367]; exact zset_j (by decide)
                            have e371 : s366 164 3 = s355 164 3 := by rw [← hs367]; exact zset_j (by decide)
                            have e372 : s366 164 5 = s355 164 5 := by rw [← hs367]; exact zset_j (by decide)
                            have e373 : s366 164 97 = s355 164 97 := by rw [← hs367]; exact zset_j (by decide)
                            have e374 : s366 164 99 = ((s355 164 99) + 1) := by rw [← hs367]; exact zset_s
                            have e375 : s366 164 101 = s355 164 101 := by rw [← hs367]; exact zset_j (by decide)
                            have h376 := zpush_S hs356 hs367 (by omega) (by omega) (by omega) (by omega)
                            have h376w := zw_v y271
                            refine zt_iconst (pc' := 307) hX dX12_qGoesOn_306 rfl ?_
                            exact zt_zret hX hR dX12_qGoesOn_307 ⟨by omega, by omega⟩ ⟨hI368, hF369, by omega, by omega, by omega, by omega, by omega, by omega, by omega, by omega, (fun hb => by omega), (fun hb => by omega), by omega⟩
                          · have qz351 := z351 (by omega)
                            clear z351
                            clear z352
                            exact J_279_304 (by omega)
                exact L_247_286 _ s249 hI250 hF251 (by omega) (by omega) (by omega) (by omega) (by omega) (by omega) (by omega) (by omega) (by omega) (Nat.lt_succ_self _)
              refine zt_icne (pc' := 241) (tgt := 245) hX dX12_qGoesOn_238 rfl (by decide) ⟨by omega, by omega⟩ ⟨by omega, by omega⟩ (fun c377 => ?_) (fun c377 => ?_)
              · refine zt_iconst (pc' := 246) hX dX12_qGoesOn_245 rfl ?_
                exact J_246_273 2 (by omega) (by omega)
              · refine zt_iconst (pc' := 242) hX dX12_qGoesOn_241 rfl ?_
                refine zt_goto (tgt := 246) hX dX12_qGoesOn_242 (by decide) ?_
                exact J_246_273 1 (by omega) (by omega)
            refine zt_ifne (pc' := 216) (tgt := 225) hX dX12_qGoesOn_213 rfl (by decide) ⟨by omega, by omega⟩ (fun c378 => ?_) (fun c378 => ?_)
            · have qz228 := z228 (by omega)
              clear z228
              exact J_225_261 s220 hI223 hF242 (by omega) (by omega) (by omega) (by omega) (by omega) (by omega) (by omega) (by omega) (by omega) (by omega)
            · clear z228
              refine zt_aload_n (pc' := 217) hX dX12_qGoesOn_216 rfl rfl ?_
              refine zt_bipush (pc' := 219) hX dX12_qGoesOn_217 rfl (by decide) (by decide) ?_
              refine zt_cVz (pc' := 222) hX dX12_qGoesOn_219 rfl zm_yX12_takesSign zw_27_14 zc_164 (by decide) zs_46 (q := (RX12, TX12, 108)) rfl rfl (zc_X12_takesSign _ _ s220 hI223 45 ⟨by omega, by omega⟩) rfl rfl (Nat.le_of_ble_eq_true rfl) (by decide) (fun r379 s380 hr381 hp382 => ?_)
              obtain ⟨hI383, hF384, q385, q386, z387, z388, z389⟩ := hp382
              obtain ⟨w390, -, w392, w393, w394, w395, -, w397⟩ := zE_q1 hF384
              have e398 := hF384 164 3 rfl
              have e399 := hF384 164 97 rfl
              have e400 := hF384 164 99 rfl
              have e401 := hF384 164 101 rfl
              have hF402 := zOn_tr hF242 hF384 zi_12
              have b403 := zv_46_2 hI383 zc_164
              have b404 := zv_46_3 hI383 zc_164
              have b405 := zv_46_5 hI383 zc_164
              have b406 := zv_46_97 hI383 zc_164
              have b407 := zv_46_99 hI383 zc_164
              have b408 := zv_46_101 hI383 zc_164
              replace z387 : _ ∧ _ := ⟨z387.1, z387.2 (by omega)⟩
              refine zt_ifeq (pc' := 225) (tgt := 308) hX dX12_qGoesOn_222 rfl (by decide) ⟨by omega, by omega⟩ (fun c409 => ?_) (fun c409 => ?_)
              · clear z388
                refine zt_aload_n (pc' := 309) hX dX12_qGoesOn_308 rfl rfl ?_
                refine zt_cVi (pc' := 312) hX dX12_qGoesOn_309 rfl zm_yX12_qBracket zw_31_12 zc_164 (by decide) zs_46 (q := (RX12, TX12, 108)) rfl rfl (zc_X12_qBracket _ _ s380 hI383 (by omega)) rfl rfl (Nat.le_of_ble_eq_true rfl) (by decide) (fun r410 s411 hr412 hp413 => ?_)
                obtain ⟨rfl, q414, q415, z416⟩ := hp413
                refine zt_bipush (pc' := 314) hX dX12_qGoesOn_312 rfl (by decide) (by decide) ?_
                have J_326_417 : (ztb s380 = 21 ∨ ztb s380 = 22) → zF X s380 326 [some (.ref (X.1.1 + 164)), none] [] := by
                  intro g417
                  refine zt_aload_n (pc' := 327) hX dX12_qGoesOn_326 rfl rfl ?_
                  refine zt_bipush (pc' := 329) hX dX12_qGoesOn_327 rfl (by decide) (by decide) ?_
                  refine zt_cVv (pc' := 332) hX dX12_qGoesOn_329 rfl zm_yX12_asksSign zw_27_10 zc_164 (by decide) zs_46 (q := (RX12, TX12, 108)) rfl rfl (zc_X12_asksSign _ _ s380 hI383 44 ⟨by omega, by omega⟩) rfl rfl (Nat.le_of_ble_eq_true rfl) (by decide) (fun r419 s420 hr421 hp422 => ?_)
                  obtain ⟨hI423, hF424, z425, z426⟩ := hp422
                  obtain ⟨w427, -, w429, w430, w431, w432, -, w434⟩ := zE_q1 hF424
                  have e435 := hF424 164 3 rfl
                  have e436 := hF424 164 97 rfl
                  have e437 := hF424 164 99 rfl
                  have e438 := hF424 164 101 rfl
                  have hF439 := zOn_tr hF402 hF424 zi_12
                  have b440 := zv_46_2 hI423 zc_164
                  have b441 := zv_46_3 hI423 zc_164
                  have b442 := zv_46_5 hI423 zc_164
                  have b443 := zv_46_97 hI423 zc_164
                  have b444 := zv_46_99 hI423 zc_164
                  have b445 := zv_46_101 hI423 zc_164
                  replace z425 : _ ∧ _ := ⟨z425.1, z425.2 (by omega)⟩
                  refine zt_aload_n (pc' := 333) hX dX12_qGoesOn_332 rfl rfl ?_
                  have b446 := zv_46_5 hI423 zc_164
                  refine zt_get (pc' := 336) (v := .int (zI (s420 164 5))) hX dX12_qGoesOn_333 rfl zf_X12_246 (by decide) zc_164 zs_46 rfl ?_
                  refine zt_ifeq (pc' := 339) (tgt := 341) hX dX12_qGoesOn_336 rfl (by decide) ⟨by omega, by omega⟩ (fun c447 => ?_) (fun c447 => ?_)
                  · have qz426 := z426 (by omega)
                    clear z426
                    refine zt_aload_n (pc' := 342) hX dX12_qGoesOn_341 rfl rfl ?_
                    refine zt_cVv (pc' := 345) hX dX12_qGoesOn_342 rfl zm_yX12_qDropsToBracket zw_31_19 zc_164 (by decide) zs_46 (q := (RX12, TX12, 108)) rfl rfl (zc_X12_qDropsToBracket _ _ s420 hI423 (by omega) (by omega) (by omega) (by omega)) rfl rfl (Nat.le_of_ble_eq_true rfl) (by decide) (fun r448 s449 hr450 hp451 => ?_)
                    obtain ⟨hI452, hF453, z454, z455, z456, z457⟩ := hp451
                    have e458 := hF453 164 2 rfl
                    have e459 := hF453 164 3 rfl
                    have e460 := hF453 164 5 rfl
                    have e461 := hF453 164 101 rfl
                    have hF462 := zOn_tr hF439 hF453 zi_52
                    have b463 := zv_46_2 hI452 zc_164
                    have b464 := zv_46_3 hI452 zc_164
                    have b465 := zv_46_5 hI452 zc_164
                    have b466 := zv_46_97 hI452 zc_164
                    have b467 := zv_46_99 hI452 zc_164
                    have b468 := zv_46_101 hI452 zc_164
                    refine zt_aload_n (pc' := 346) hX dX12_qGoesOn_345 rfl rfl ?_
                    refine zt_get (pc' := 349) (v := .ref (X.1.1 + 235)) hX dX12_qGoesOn_346 rfl zf_X12_234 (by decide) zc_164 zs_46 (zrf_of (zv_46_98 hI452 zc_164)) ?_
                    refine zt_aload_n (pc' := 350) hX dX12_qGoesOn_349 rfl rfl ?_
                    have b469 := zv_46_99 hI452 zc_164
                    refine zt_get (pc' := 353) (v := .int (zI (s449 164 99))) hX dX12_qGoesOn_350 rfl zf_X12_333 (by decide) zc_164 zs_46 rfl ?_
                    refine zt_iconst (pc' := 354) hX dX12_qGoesOn_353 rfl ?_
                    refine zt_isub (pc' := 355) hX dX12_qGoesOn_354 rfl ?_
                    refine zt_dup2 (pc' := 356) hX dX12_qGoesOn_355 rfl rfl rfl ?_
                    refine zt_iald (pc' := 357) hX dX12_qGoesOn_356 rfl (by decide) zc_235 zs_117 (by decide) ⟨by omega, by omega⟩ ?_
                    generalize hv470 : s449 235 (((s449 164 99) - 1).toNat) = v470
                    have bv470 : -2147483648 ≤ v470 ∧ v470 ≤ 2147483647 := hv470 ▸ zv_117 hI452 zc_235 _
                    refine zt_iconst (pc' := 358) hX dX12_qGoesOn_357 rfl ?_
                    refine zt_iadd (pc' := 359) hX dX12_qGoesOn_358 rfl ?_
                    refine zt_iast (pc' := 360) hX dX12_qGoesOn_359 rfl (by decide) zc_235 zs_117 (by decide) ⟨by omega, by omega⟩ ?_
                    generalize hs472 : zset s449 235 (((s449 164 99) - 1).toNat) (v470 + 2) = s471
                    have hI473 : zInv s471 := hs472 ▸ zp_117 hI452 zc_235 (((s449 164 99) - 1).toNat) ⟨by omega, by omega⟩
                    have hF474 : zOn zQ2 σ s471 := hs472 ▸ zOn_set hF462 (zq2_235 (by omega))
                    have e475 : s471 164 2 = s449 164 2 := by rw [← hs472]; exact zset_k (zne_r zc_164 zc_235 (by decide))
                    have e476 : s471 164 3 = s449 164 3 := by rw [← hs472]; exact zset_k (zne_r zc_164 zc_235 (by decide))
                    have e477 : s471 164 5 = s449 164 5 := by rw [← hs472]; exact zset_k (zne_r zc_164 zc_235 (by decide))
                    have e478 : s471 164 97 = s449 164 97 := by rw [← hs472]; exact zset_k (zne_r zc_164 zc_235 (by decide))
                    have e479 : s471 164 99 = s449 164 99 := by rw [← hs472]; exact zset_k (zne_r zc_164 zc_235 (by decide))
                    have e480 : s471 164 101 = s449 164 101 := by rw [← hs472]; exact zset_k (zne_r zc_164 zc_235 (by decide))
                    have h481 := zcomma hs472 (by omega) (by omega) (by omega) (by omega) (by omega)
                    refine zt_iconst (pc' := 361) hX dX12_qGoesOn_360 rfl ?_
                    exact zt_zret hX hR dX12_qGoesOn_361 ⟨by omega, by omega⟩ ⟨hI473, hF474, by omega, by omega, by omega, by omega, by omega, by omega, by omega, by omega, (fun hb => by omega), (fun hb => by omega), by omega⟩
                  · clear z426
                    refine zt_iconst (pc' := 340) hX dX12_qGoesOn_339 rfl ?_
                    exact zt_zret hX hR dX12_qGoesOn_340 ⟨by omega, by omega⟩ ⟨hI423, hF439, by omega, by omega, by omega, by omega, by omega, by omega, by omega, by omega, (fun hb => by omega), (fun hb => by omega), by omega⟩
                refine zt_iceq (pc' := 317) (tgt := 326) hX dX12_qGoesOn_314 rfl (by decide) ⟨by omega, by omega⟩ ⟨by omega, by omega⟩ (fun c482 => ?_) (fun c482 => ?_)
                · exact J_326_417 (by omega)
                · refine zt_aload_n (pc' := 318) hX dX12_qGoesOn_317 rfl rfl ?_
                  refine zt_cVi (pc' := 321) hX dX12_qGoesOn_318 rfl zm_yX12_qBracket zw_31_12 zc_164 (by decide) zs_46 (q := (RX12, TX12, 108)) rfl rfl (zc_X12_qBracket _ _ s380 hI383 (by omega)) rfl rfl (Nat.le_of_ble_eq_true rfl) (by decide) (fun r483 s484 hr485 hp486 => ?_)
                  obtain ⟨rfl, q487, q488, z489⟩ := hp486
                  refine zt_bipush (pc' := 323) hX dX12_qGoesOn_321 rfl (by decide) (by decide) ?_
                  refine zt_icne (pc' := 326) (tgt := 362) hX dX12_qGoesOn_323 rfl (by decide) ⟨by omega, by omega⟩ ⟨by omega, by omega⟩ (fun c490 => ?_) (fun c490 => ?_)
                  · refine zt_aload_n (pc' := 363) hX dX12_qGoesOn_362 rfl rfl ?_
                    refine zt_cVi (pc' := 366) hX dX12_qGoesOn_363 rfl zm_yX12_qBracket zw_31_12 zc_164 (by decide) zs_46 (q := (RX12, TX12, 108)) rfl rfl (zc_X12_qBracket _ _ s380 hI383 (by omega)) rfl rfl (Nat.le_of_ble_eq_true rfl) (by decide) (fun r491 s492 hr493 hp494 => ?_)
                    obtain ⟨rfl, q495, q496, z497⟩ := hp494
                    refine zt_iconst (pc' := 367) hX dX12_qGoesOn_366 rfl ?_
                    refine zt_iceq (pc' := 370) (tgt := 386) hX dX12_qGoesOn_367 rfl (by decide) ⟨by omega, by omega⟩ ⟨by omega, by omega⟩ (fun c498 => ?_) (fun c498 => ?_)
                    · refine zt_iconst (pc' := 387) hX dX12_qGoesOn_386 rfl ?_
                      exact zt_zret hX hR dX12_qGoesOn_387 ⟨by omega, by omega⟩ ⟨hI383, hF402, by omega, by omega, by omega, by omega, by omega, by omega, by omega, by omega, (fun hb => by omega), (fun hb => by omega), by omega⟩
                    · refine zt_aload_n (pc' := 371) hX dX12_qGoesOn_370 rfl rfl ?_
                      have b499 := zv_46_5 hI383 zc_164
                      refine zt_get (pc' := 374) (v := .int (zI (s380 164 5))) hX dX12_qGoesOn_371 rfl zf_X12_246 (by decide) zc_164 zs_46 rfl ?_
                      refine zt_ifne (pc' := 377) (tgt := 386) hX dX12_qGoesOn_374 rfl (by decide) ⟨by omega, by omega⟩ (fun c500 => ?_) (fun c500 => ?_)
                      · refine zt_iconst (pc' := 387) hX dX12_qGoesOn_386 rfl ?_
                        exact zt_zret hX hR dX12_qGoesOn_387 ⟨by omega, by omega⟩ ⟨hI383, hF402, by omega, by omega, by omega, by omega, by omega, by omega, by omega, by omega, (fun hb => by omega), (fun hb => by omega), by omega⟩
                      · refine zt_aload_n (pc' := 378) hX dX12_qGoesOn_377 rfl rfl ?_
                        refine zt_iconst (pc' := 379) hX dX12_qGoesOn_378 rfl ?_
                        refine zt_aload_n (pc' := 380) hX dX12_qGoesOn_379 rfl rfl ?_
                        have b501 := zv_46_2 hI383 zc_164
                        refine zt_get (pc' := 383) (v := .int (zI (s380 164 2))) hX dX12_qGoesOn_380 rfl zf_X12_252 (by decide) zc_164 zs_46 rfl ?_
                        refine zt_cVv (pc' := 386) hX dX12_qGoesOn_383 rfl zm_yX12_fail zw_26_19 zc_164 (by decide) zs_46 (q := (RX12, TX12, 108)) rfl rfl (zc_X12_fail _ _ s380 hI383 1 ⟨by omega, by omega⟩ (s380 164 2) ⟨by omega, by omega⟩) rfl rfl (Nat.le_of_ble_eq_true rfl) (by decide) (fun r502 s503 hr504 hp505 => ?_)
                        obtain ⟨hI506, hF507, z508, z509⟩ := hp505
                        obtain ⟨w510, -, w512, w513, w514, w515, -, w517⟩ := zE_q1 hF507
                        have e518 := hF507 164 3 rfl
                        have e519 := hF507 164 97 rfl
                        have e520 := hF507 164 99 rfl
                        have e521 := hF507 164 101 rfl
                        have hF522 := zOn_tr hF402 hF507 zi_12
                        have b523 := zv_46_2 hI506 zc_164
                        have b524 := zv_46_3 hI506 zc_164
                        have b525 := zv_46_5 hI506 zc_164
                        have b526 := zv_46_97 hI506 zc_164
                        have b527 := zv_46_99 hI506 zc_164
                        have b528 := zv_46_101 hI506 zc_164
                        refine zt_iconst (pc' := 387) hX dX12_qGoesOn_386 rfl ?_
                        exact zt_zret hX hR dX12_qGoesOn_387 ⟨by omega, by omega⟩ ⟨hI506, hF522, by omega, by omega, by omega, by omega, by omega, by omega, by omega, by omega, (fun hb => by omega), (fun hb => by omega), by omega⟩
                  · exact J_326_417 (by omega)
              · have qz388 := z388 (by omega)
                clear z388
                exact J_225_261 s380 hI383 hF402 (by omega) (by omega) (by omega) (by omega) (by omega) (by omega) (by omega) (by omega) (by omega) (by omega)
          · have qz197 := z197 (by omega)
            clear z197
            exact J_140_88 s189 hI192 hF211 (by omega) (by omega) (by omega) (by omega) (by omega) (by omega) (by omega) (by omega) (by omega) (by omega)
      refine zt_ifne (pc' := 7) (tgt := 122) hX dX12_qGoesOn_4 rfl (by decide) ⟨by omega, by omega⟩ (fun c529 => ?_) (fun c529 => ?_)
      · exact J_122_38 s7 hI8 hF9 (by omega) (by omega) (by omega) (by omega) (by omega) (by omega) (by omega) (by omega)
      · refine zt_aload_n (pc' := 8) hX dX12_qGoesOn_7 rfl rfl ?_
        refine zt_cVi (pc' := 11) hX dX12_qGoesOn_8 rfl zm_yX12_look zw_26_12 zc_164 (by decide) zs_46 (q := (RX12, TX12, 108)) rfl rfl (zc_X12_look _ _ s7 hI8 ) rfl rfl (Nat.le_of_ble_eq_true rfl) (by decide) (fun r530 s531 hr532 hp533 => ?_)
        obtain ⟨hI534, hF535, q536, q537, z538, z539, z540, z541⟩ := hp533
        obtain ⟨w542, -, w544, w545, w546, w547, -, w549⟩ := zE_q1 hF535
        have e550 := hF535 164 3 rfl
        have e551 := hF535 164 97 rfl
        have e552 := hF535 164 99 rfl
        have e553 := hF535 164 101 rfl
        have hF554 := zOn_tr hF9 hF535 zi_12
        have b555 := zv_46_2 hI534 zc_164
        have b556 := zv_46_3 hI534 zc_164
        have b557 := zv_46_5 hI534 zc_164
        have b558 := zv_46_97 hI534 zc_164
        have b559 := zv_46_99 hI534 zc_164
        have b560 := zv_46_101 hI534 zc_164
        clear z541
        replace z538 : _ ∧ _ := ⟨z538.1, z538.2 (by omega)⟩
        refine zt_bipush (pc' := 13) hX dX12_qGoesOn_11 rfl (by decide) (by decide) ?_
        refine zt_icne (pc' := 16) (tgt := 122) hX dX12_qGoesOn_13 rfl (by decide) ⟨by omega, by omega⟩ ⟨by omega, by omega⟩ (fun c561 => ?_) (fun c561 => ?_)
        · exact J_122_38 s531 hI534 hF554 (by omega) (by omega) (by omega) (by omega) (by omega) (by omega) (by omega) (by omega)
        · have qz539 := z539 (by omega)
          clear z539
          refine zt_aload_n (pc' := 17) hX dX12_qGoesOn_16 rfl rfl ?_
          refine zt_cVi (pc' := 20) hX dX12_qGoesOn_17 rfl zm_yX12_qBracket zw_31_12 zc_164 (by decide) zs_46 (q := (RX12, TX12, 108)) rfl rfl (zc_X12_qBracket _ _ s531 hI534 (by omega)) rfl rfl (Nat.le_of_ble_eq_true rfl) (by decide) (fun r562 s563 hr564 hp565 => ?_)
          obtain ⟨rfl, q566, q567, z568⟩ := hp565
          refine zt_bipush (pc' := 22) hX dX12_qGoesOn_20 rfl (by decide) (by decide) ?_
          have J_43_569 : (ztb s531 = 20 ∨ ztb s531 = 23 ∨ ztb s531 = 24) → zF X s531 43 [some (.ref (X.1.1 + 164)), none] [] := by
            intro g569
            refine zt_aload_n (pc' := 44) hX dX12_qGoesOn_43 rfl rfl ?_
            refine zt_dup (pc' := 45) hX dX12_qGoesOn_44 rfl rfl ?_
            have b571 := zv_46_2 hI534 zc_164
            refine zt_get (pc' := 48) (v := .int (zI (s531 164 2))) hX dX12_qGoesOn_45 rfl zf_X12_252 (by decide) zc_164 zs_46 rfl ?_
            refine zt_iconst (pc' := 49) hX dX12_qGoesOn_48 rfl ?_
            refine zt_iadd (pc' := 50) hX dX12_qGoesOn_49 rfl ?_
            refine zt_put (pc' := 53) (x := ((s531 164 2) + 1)) hX dX12_qGoesOn_50 rfl zf_X12_252 (by decide) zc_164 zs_46 (fun q hq => by cases hq; rfl) rfl rfl rfl ?_
            generalize hs573 : zset s531 164 2 ((s531 164 2) + 1) = s572
            have hI574 : zInv s572 := hs573 ▸ zp_46_2 hI534 zc_164 ⟨by omega, by omega⟩
            have hF575 : zOn zQ2 σ s572 := hs573 ▸ zOn_set hF554 (by decide)
            obtain ⟨w576, -, w578, w579, w580, w581, -, w583⟩ := zE_set hs573 (by decide)
            have e584 : s572 164 2 = ((s531 164 2) + 1) := by rw [← hs573]; exact zset_s
            have e585 : s572 164 3 = s531 164 3 := by rw [← hs573]; exact zset_j (by decide)
            have e586 : s572 164 5 = s531 164 5 := by rw [← hs573]; exact zset_j (by decide)
            have e587 : s572 164 97 = s531 164 97 := by rw [← hs573]; exact zset_j (by decide)
            have e588 : s572 164 99 = s531 164 99 := by rw [← hs573]; exact zset_j (by decide)
            have e589 : s572 164 101 = s531 164 101 := by rw [← hs573]; exact zset_j (by decide)
            refine zt_aload_n (pc' := 54) hX dX12_qGoesOn_53 rfl rfl ?_
            refine zt_cVv (pc' := 57) hX dX12_qGoesOn_54 rfl zm_yX12_qDropsToBracket zw_31_19 zc_164 (by decide) zs_46 (q := (RX12, TX12, 108)) rfl rfl (zc_X12_qDropsToBracket _ _ s572 hI574 (by omega) (by omega) (by omega) (by omega)) rfl rfl (Nat.le_of_ble_eq_true rfl) (by decide) (fun r590 s591 hr592 hp593 => ?_)
            obtain ⟨hI594, hF595, z596, z597, z598, z599⟩ := hp593
            have e600 := hF595 164 2 rfl
            have e601 := hF595 164 3 rfl
            have e602 := hF595 164 5 rfl
            have e603 := hF595 164 101 rfl
            have hF604 := zOn_tr hF575 hF595 zi_52
            have b605 := zv_46_2 hI594 zc_164
            have b606 := zv_46_3 hI594 zc_164
            have b607 := zv_46_5 hI594 zc_164
            have b608 := zv_46_97 hI594 zc_164
            have b609 := zv_46_99 hI594 zc_164
            have b610 := zv_46_101 hI594 zc_164
            refine zt_aload_n (pc' := 58) hX dX12_qGoesOn_57 rfl rfl ?_
            refine zt_dup (pc' := 59) hX dX12_qGoesOn_58 rfl rfl ?_
            have b611 := zv_46_99 hI594 zc_164
            refine zt_get (pc' := 62) (v := .int (zI (s591 164 99))) hX dX12_qGoesOn_59 rfl zf_X12_333 (by decide) zc_164 zs_46 rfl ?_
            refine zt_iconst (pc' := 63) hX dX12_qGoesOn_62 rfl ?_
            refine zt_isub (pc' := 64) hX dX12_qGoesOn_63 rfl ?_
            refine zt_put (pc' := 67) (x := ((s591 164 99) - 1)) hX dX12_qGoesOn_64 rfl zf_X12_333 (by decide) zc_164 zs_46 (fun q hq => by cases hq; rfl) rfl rfl rfl ?_
            generalize hs613 : zset s591 164 99 ((s591 164 99) - 1) = s612
            have hI614 : zInv s612 := hs613 ▸ zp_46_99 hI594 zc_164 ⟨by omega, by omega⟩
            have hF615 : zOn zQ2 σ s612 := hs613 ▸ zOn_set hF604 (by decide)
            have e616 : s612 164 2 = s591 164 2 := by rw [← hs613]; exact zset_j (by decide)
            have e617 : s612 164 3 = s591 164 3 := by rw [← hs613]; exact zset_j (by decide)
            have e618 : s612 164 5 = s591 164 5 := by rw [← hs613]; exact zset_j (by decide)
            have e619 : s612 164 97 = s591 164 97 := by rw [← hs613]; exact zset_j (by decide)
            have e620 : s612 164 99 = ((s591 164 99) - 1) := by rw [← hs613]; exact zset_s
            have e621 : s612 164 101 = s591 164 101 := by rw [← hs613]; exact zset_j (by decide)
            have h622 := zpop hs613 rfl (by omega) (by omega)
            have h622w := zw_v (s591 235 (s591 164 99 - 1).toNat)
            have h622n := zBt_nn s612
            refine zt_aload_n (pc' := 68) hX dX12_qGoesOn_67 rfl rfl ?_
            refine zt_dup (pc' := 69) hX dX12_qGoesOn_68 rfl rfl ?_
            have b623 := zv_46_100 hI614 zc_164
            have e624 : s612 164 100 = s591 164 100 := by rw [← hs613]; exact zset_j (by decide)
            refine zt_get (pc' := 72) (v := .int (zI (s612 164 100))) hX dX12_qGoesOn_69 rfl zf_X12_336 (by decide) zc_164 zs_46 rfl ?_
            refine zt_iconst (pc' := 73) hX dX12_qGoesOn_72 rfl ?_
            refine zt_isub (pc' := 74) hX dX12_qGoesOn_73 rfl ?_
            refine zt_wrap (fun r625 zr625 lr625 ur625 => ?_)
            clear zr625
            refine zt_put (pc' := 77) (x := r625) hX dX12_qGoesOn_74 rfl zf_X12_336 (by decide) zc_164 zs_46 (fun q hq => by cases hq; rfl) rfl rfl rfl ?_
            generalize hs627 : zset s612 164 100 r625 = s626
            have hI628 : zInv s626 := hs627 ▸ zp_46_100 hI614 zc_164 ⟨by omega, by omega⟩
            have hF629 : zOn zQ2 σ s626 := hs627 ▸ zOn_set hF615 (by decide)
            obtain ⟨w630, -, w632, w633, w634, w635, -, w637⟩ := zE_set hs627 (by decide)
            have e638 : s626 164 2 = s612 164 2 := by rw [← hs627]; exact zset_j (by decide)
            have e639 : s626 164 3 = s612 164 3 := by rw [← hs627]; exact zset_j (by decide)
            have e640 : s626 164 5 = s612 164 5 := by rw [← hs627]; exact zset_j (by decide)
            have e641 : s626 164 97 = s612 164 97 := by rw [← hs627]; exact zset_j (by decide)
            have e642 : s626 164 99 = s612 164 99 := by rw [← hs627]; exact zset_j (by decide)
            have e643 : s626 164 101 = s612 164 101 := by rw [← hs627]; exact zset_j (by decide)
            have h644 := ztopP hs613 hs627 (by decide)
            refine zt_aload_n (pc' := 78) hX dX12_qGoesOn_77 rfl rfl ?_
            refine zt_get (pc' := 81) (v := .ref (X.1.1 + 235)) hX dX12_qGoesOn_78 rfl zf_X12_234 (by decide) zc_164 zs_46 (zrf_of (zv_46_98 hI628 zc_164)) ?_
            refine zt_aload_n (pc' := 82) hX dX12_qGoesOn_81 rfl rfl ?_
            have b645 := zv_46_99 hI628 zc_164
            refine zt_get (pc' := 85) (v := .int (zI (s626 164 99))) hX dX12_qGoesOn_82 rfl zf_X12_333 (by decide) zc_164 zs_46 rfl ?_
            refine zt_iald (pc' := 86) hX dX12_qGoesOn_85 rfl (by decide) zc_235 zs_117 (by decide) ⟨by omega, by omega⟩ ?_
            generalize hv646 : s626 235 ((s626 164 99).toNat) = v646
            have bv646 : -2147483648 ≤ v646 ∧ v646 ≤ 2147483647 := hv646 ▸ zv_117 hI628 zc_235 _
            refine zt_bipush (pc' := 88) hX dX12_qGoesOn_86 rfl (by decide) (by decide) ?_
            have J_115_658 : ∀ (s647 : zSto), zInv s647 → zOn zQ2 σ s647 → s7 164 2 < s647 164 2 → (σ 164 2 ≤ s647 164 2 ∧ s647 164 2 ≤ σ 164 3) → s647 164 3 = σ 164 3 → s647 164 101 = σ 164 101 → σ 164 101 ≤ s647 164 99 → s647 164 5 = 0 → s647 164 97 + s647 164 99 + σ 164 2 ≤ σ 164 97 + σ 164 99 + s647 164 2 → (zr s647 = 1 ∧ zHt s647 - zBt s647 = zHt σ - zBt σ) → (zBb s647 = zBb σ ∧ zSb s647 = zSb σ) → zF X s647 115 [some (.ref (X.1.1 + 164)), none] [] := by
              intro s647 hI648 hF649 g650 g651 g652 g653 g654 g655 g656 g657 g658
              have b660 := zv_46_2 hI648 zc_164
              have b661 := zv_46_3 hI648 zc_164
              have b662 := zv_46_5 hI648 zc_164
              have b663 := zv_46_97 hI648 zc_164
              have b664 := zv_46_99 hI648 zc_164
              have b665 := zv_46_101 hI648 zc_164
              refine zt_aload_n (pc' := 116) hX dX12_qGoesOn_115 rfl rfl ?_
              refine zt_cVv (pc' := 119) hX dX12_qGoesOn_116 rfl zm_yX12_qEndsPart zw_31_0 zc_164 (by decide) zs_46 (q := (RX12, TX12, 108)) rfl rfl (zc_X12_qEndsPart _ _ s647 hI648 (by omega) (by omega) (fun hb => by omega)) rfl rfl (Nat.le_of_ble_eq_true rfl) (by decide) (fun r666 s667 hr668 hp669 => ?_)
              obtain ⟨hI670, hF671, z672, z673, z674, z675⟩ := hp669
              have e676 := hF671 164 2 rfl
              have e677 := hF671 164 3 rfl
              have e678 := hF671 164 5 rfl
              have e679 := hF671 164 101 rfl
              have hF680 := zOn_tr hF649 hF671 zi_52
              have b681 := zv_46_2 hI670 zc_164
              have b682 := zv_46_3 hI670 zc_164
              have b683 := zv_46_5 hI670 zc_164
              have b684 := zv_46_97 hI670 zc_164
              have b685 := zv_46_99 hI670 zc_164
              have b686 := zv_46_101 hI670 zc_164
              refine zt_goto (tgt := 0) hX dX12_qGoesOn_119 (by decide) ?_
              exact ih20 s667 hI670 hF680 (by omega) (by omega) (by omega) (by omega) (by omega) (by omega) (by omega) (by omega) (by omega)
            refine zt_iceq (pc' := 91) (tgt := 115) hX dX12_qGoesOn_88 rfl (by decide) ⟨by omega, by omega⟩ ⟨by omega, by omega⟩ (fun c687 => ?_) (fun c687 => ?_)
            · exact J_115_658 s626 hI628 hF629 (by omega) (by omega) (by omega) (by omega) (by omega) (by omega) (by omega) (by omega) (by omega)
            · refine zt_aload_n (pc' := 92) hX dX12_qGoesOn_91 rfl rfl ?_
              refine zt_aload_n (pc' := 93) hX dX12_qGoesOn_92 rfl rfl ?_
              refine zt_get (pc' := 96) (v := .ref (X.1.1 + 235)) hX dX12_qGoesOn_93 rfl zf_X12_234 (by decide) zc_164 zs_46 (zrf_of (zv_46_98 hI628 zc_164)) ?_
              refine zt_aload_n (pc' := 97) hX dX12_qGoesOn_96 rfl rfl ?_
              refine zt_get (pc' := 100) (v := .int (zI (s626 164 99))) hX dX12_qGoesOn_97 rfl zf_X12_333 (by decide) zc_164 zs_46 rfl ?_
              refine zt_iald (pc' := 101) hX dX12_qGoesOn_100 rfl (by decide) zc_235 zs_117 (by decide) ⟨by omega, by omega⟩ ?_
              generalize hv688 : s626 235 ((s626 164 99).toNat) = v688
              have bv688 : -2147483648 ≤ v688 ∧ v688 ≤ 2147483647 := hv688 ▸ zv_117 hI628 zc_235 _
              refine zt_bipush (pc' := 103) hX dX12_qGoesOn_101 rfl (by decide) (by decide) ?_
              have J_112_691 : ∀ (y689 : Int), 5 ≤ y689 → y689 ≤ 6 → zF X s626 112 [some (.ref (X.1.1 + 164)), none] [.int (zI y689), .ref (X.1.1 + 164)] := by
                intro y689 h690 h691
                refine zt_cVv (pc' := 115) hX dX12_qGoesOn_112 rfl zm_yX12_qCode zw_29_18 zc_164 (by decide) zs_46 (q := (RX12, TX12, 108)) rfl rfl (zc_X12_qCode _ _ s626 hI628 y689 ⟨by omega, by omega⟩ (by omega)) rfl rfl (Nat.le_of_ble_eq_true rfl) (by decide) (fun r693 s694 hr695 hp696 => ?_)
                obtain ⟨hI697, hF698, z699⟩ := hp696
                have e700 := hF698 164 2 rfl
                have e701 := hF698 164 3 rfl
                have e702 := hF698 164 5 rfl
                have e703 := hF698 164 101 rfl
                have hF704 := zOn_tr hF629 hF698 zi_52
                have b705 := zv_46_2 hI697 zc_164
                have b706 := zv_46_3 hI697 zc_164
                have b707 := zv_46_5 hI697 zc_164
                have b708 := zv_46_97 hI697 zc_164
                have b709 := zv_46_99 hI697 zc_164
                have b710 := zv_46_101 hI697 zc_164
                have h711 := zcd_h z699 (by omega)
                have h711r := zcd_ri z699 (by omega)
                have h711f := zcd_f z699
                have h711d := zdb (v := y689) (by omega)
                exact J_115_658 s694 hI697 hF704 (by omega) (by omega) (by omega) (by omega) (by omega) (by omega) (by omega) (by omega) (by omega)
              refine zt_icne (pc' := 106) (tgt := 110) hX dX12_qGoesOn_103 rfl (by decide) ⟨by omega, by omega⟩ ⟨by omega, by omega⟩ (fun c712 => ?_) (fun c712 => ?_)
              · refine zt_bipush (pc' := 112) hX dX12_qGoesOn_110 rfl (by decide) (by decide) ?_
                exact J_112_691 6 (by omega) (by omega)
              · refine zt_iconst (pc' := 107) hX dX12_qGoesOn_106 rfl ?_
                refine zt_goto (tgt := 112) hX dX12_qGoesOn_107 (by decide) ?_
                exact J_112_691 5 (by omega) (by omega)
          refine zt_iceq (pc' := 25) (tgt := 43) hX dX12_qGoesOn_22 rfl (by decide) ⟨by omega, by omega⟩ ⟨by omega, by omega⟩ (fun c713 => ?_) (fun c713 => ?_)
          · exact J_43_569 (by omega)
          · refine zt_aload_n (pc' := 26) hX dX12_qGoesOn_25 rfl rfl ?_
            refine zt_cVi (pc' := 29) hX dX12_qGoesOn_26 rfl zm_yX12_qBracket zw_31_12 zc_164 (by decide) zs_46 (q := (RX12, TX12, 108)) rfl rfl (zc_X12_qBracket _ _ s531 hI534 (by omega)) rfl rfl (Nat.le_of_ble_eq_true rfl) (by decide) (fun r714 s715 hr716 hp717 => ?_)
            obtain ⟨rfl, q718, q719, z720⟩ := hp717
            refine zt_bipush (pc' := 31) hX dX12_qGoesOn_29 rfl (by decide) (by decide) ?_
            refine zt_iceq (pc' := 34) (tgt := 43) hX dX12_qGoesOn_31 rfl (by decide) ⟨by omega, by omega⟩ ⟨by omega, by omega⟩ (fun c721 => ?_) (fun c721 => ?_)
            · exact J_43_569 (by omega)
            · refine zt_aload_n (pc' := 35) hX dX12_qGoesOn_34 rfl rfl ?_
              refine zt_cVi (pc' := 38) hX dX12_qGoesOn_35 rfl zm_yX12_qBracket zw_31_12 zc_164 (by decide) zs_46 (q := (RX12, TX12, 108)) rfl rfl (zc_X12_qBracket _ _ s531 hI534 (by omega)) rfl rfl (Nat.le_of_ble_eq_true rfl) (by decide) (fun r722 s723 hr724 hp725 => ?_)
              obtain ⟨rfl, q726, q727, z728⟩ := hp725
              refine zt_bipush (pc' := 40) hX dX12_qGoesOn_38 rfl (by decide) (by decide) ?_
              refine zt_icne (pc' := 43) (tgt := 122) hX dX12_qGoesOn_40 rfl (by decide) ⟨by omega, by omega⟩ ⟨by omega, by omega⟩ (fun c729 => ?_) (fun c729 => ?_)
              · exact J_122_38 s531 hI534 hF554 (by omega) (by omega) (by omega) (by omega) (by omega) (by omega) (by omega) (by omega)
              · exact J_43_569 (by omega)
  exact L_0_17 _ σ hI hF (by omega) (by omega) (by omega) (by omega) (by omega) (by omega) (by omega) (by omega) (Nat.lt_succ_self _)
