set_option maxRecDepth 100000 in
set_option maxHeartbeats 1000000 in
theorem zc_X12_qPartTold (l : Launch) (E : zEN) (σ : zSto) (hI : zInv σ) (hpre0 : σ 164 5 = 0) (hpre1 : σ 164 2 ≤ σ 164 3) (hpre2 : σ 164 97 + σ 164 99 ≤ σ 164 2) (hpre3 : σ 164 101 ≤ σ 164 99) (hpre4 : zr σ = 1) (hpre5 : zBt σ ≤ zHt σ) : zCt l E yX12_qPartTold cX12_qPartTold 6 none 5 zNC zNC 0 0 σ [.ref (E.1 + 164)] (fun r σ' => zInv σ' ∧ zOn zQ2 σ σ' ∧ (σ' 164 2 ≤ σ 164 3) ∧ (σ 164 2 ≤ σ' 164 2) ∧ (σ' 164 101 = σ 164 101) ∧ (σ 164 101 ≤ σ' 164 99) ∧ (σ' 164 97 + σ' 164 99 + σ 164 2 ≤ σ 164 97 + σ 164 99 + σ' 164 2 + 1) ∧ (σ' 164 5 = 0 → σ' 164 97 + σ' 164 99 + σ 164 2 ≤ σ 164 97 + σ 164 99 + σ' 164 2) ∧ (σ' 164 5 = 0 → zr σ' = 1 ∧ zHt σ' - zBt σ' = zHt σ - zBt σ + 1 ∧ σ 164 2 < σ' 164 2) ∧ (zBb σ' = zBb σ ∧ zSb σ' = zSb σ)) := by
  refine zCt_of2 [some (.ref (E.1 + 164)), none, none, none, none, none] (by decide +kernel) (Nat.le_of_ble_eq_true rfl) rfl ?_
  intro X hE hX hR hL hN
  subst hE
  have hX : zok X cX12_qPartTold RX12 5 := hX
  have hF := zOn_rf zQ2 σ
  have hbn := zBt_nn σ
  have b1 := zv_46_2 hI zc_164
  have b2 := zv_46_3 hI zc_164
  have b3 := zv_46_5 hI zc_164
  have b4 := zv_46_97 hI zc_164
  have b5 := zv_46_99 hI zc_164
  have b6 := zv_46_101 hI zc_164
  refine zt_iconst (pc' := 1) hX dX12_qPartTold_0 rfl ?_
  refine zt_istore_n (pc' := 2) (lv' := [some (.ref (X.1.1 + 164)), some (.int (zI 1)), none, none, none, none]) hX dX12_qPartTold_1 rfl hL (by decide) rfl ?_
  have L_2_20 : ∀ (N : Nat) (x7 : Int) (s10 : zSto), 0 ≤ x7 → x7 ≤ 1 → zInv s10 → zOn zQ2 σ s10 → (σ 164 2 ≤ s10 164 2 ∧ s10 164 2 ≤ σ 164 3) → s10 164 3 = σ 164 3 → s10 164 101 = σ 164 101 → σ 164 101 ≤ s10 164 99 → s10 164 97 + s10 164 99 + σ 164 2 ≤ σ 164 97 + σ 164 99 + s10 164 2 + 1 → (s10 164 5 = 0 → s10 164 97 + s10 164 99 + σ 164 2 ≤ σ 164 97 + σ 164 99 + s10 164 2) → (s10 164 5 = 0 → zr s10 = 1 ∧ zHt s10 - zBt s10 = zHt σ - zBt σ) → (zBb s10 = zBb σ ∧ zSb s10 = zSb σ) → ((4 * (1601 - s10 164 2) + 2 * x7 + 1 - min (max (s10 164 5) (-(s10 164 5))) 1).toNat) < N → zF X s10 2 [some (.ref (X.1.1 + 164)), some (.int (zI x7)), none, none, none, none] [] := by
    intro N
    induction N with
    | zero =>
      intro x7 s10 h8 h9 hI11 hF12 g13 g14 g15 g16 g17 g18 g19 g20 hm22
      exact absurd hm22 (Nat.not_lt_zero _)
    | succ N ih23 =>
      intro x7 s10 h8 h9 hI11 hF12 g13 g14 g15 g16 g17 g18 g19 g20 hm22
      have b24 := zv_46_2 hI11 zc_164
      have b25 := zv_46_3 hI11 zc_164
      have b26 := zv_46_5 hI11 zc_164
      have b27 := zv_46_97 hI11 zc_164
      have b28 := zv_46_99 hI11 zc_164
      have b29 := zv_46_101 hI11 zc_164
      refine zt_iload_n (pc' := 3) hX dX12_qPartTold_2 rfl rfl ?_
      have J_186_29 : zF X s10 186 [some (.ref (X.1.1 + 164)), none, none, none, none, none] [] := by
        refine zt_aload_n (pc' := 187) hX dX12_qPartTold_186 rfl rfl ?_
        have b31 := zv_46_5 hI11 zc_164
        refine zt_get (pc' := 190) (v := .int (zI (s10 164 5))) hX dX12_qPartTold_187 rfl zf_X12_246 (by decide) zc_164 zs_46 rfl ?_
        refine zt_ifeq (pc' := 193) (tgt := 194) hX dX12_qPartTold_190 rfl (by decide) ⟨by omega, by omega⟩ (fun c32 => ?_) (fun c32 => ?_)
        · have qg19 := g19 (by omega)
          have qg18 := g18 (by omega)
          clear g19 g18
          refine zt_aload_n (pc' := 195) hX dX12_qPartTold_194 rfl rfl ?_
          refine zt_iconst (pc' := 196) hX dX12_qPartTold_195 rfl ?_
          refine zt_bipush (pc' := 198) hX dX12_qPartTold_196 rfl (by decide) (by decide) ?_
          refine zt_cVi (pc' := 201) hX dX12_qPartTold_198 rfl zm_yX12_qWordOf zw_30_6 zc_164 (by decide) zs_46 (q := (RX12, TX12, 108)) rfl rfl (zc_X12_qWordOf _ _ s10 hI11 0 ⟨by omega, by omega⟩ 10 ⟨by omega, by omega⟩ (by omega)) rfl rfl (Nat.le_of_ble_eq_true rfl) (by decide) (fun r33 s34 hr35 hp36 => ?_)
          obtain ⟨hI37, hF38, q39, q40, z41, z42, z43, z44⟩ := hp36
          obtain ⟨w45, -, w47, w48, w49, w50, -, w52⟩ := zE_q1 hF38
          have e53 := hF38 164 3 rfl
          have e54 := hF38 164 97 rfl
          have e55 := hF38 164 99 rfl
          have e56 := hF38 164 101 rfl
          have hF57 := zOn_tr hF12 hF38 zi_12
          have b58 := zv_46_2 hI37 zc_164
          have b59 := zv_46_3 hI37 zc_164
          have b60 := zv_46_5 hI37 zc_164
          have b61 := zv_46_97 hI37 zc_164
          have b62 := zv_46_99 hI37 zc_164
          have b63 := zv_46_101 hI37 zc_164
          replace z41 : _ ∧ _ := ⟨z41.1, z41.2 (by omega)⟩
          refine zt_istore_n (pc' := 202) (lv' := [some (.ref (X.1.1 + 164)), none, some (.int (zI r33)), none, none, none]) hX dX12_qPartTold_201 rfl hL (by decide) rfl ?_
          refine zt_iload_n (pc' := 203) hX dX12_qPartTold_202 rfl rfl ?_
          refine zt_iconst (pc' := 204) hX dX12_qPartTold_203 rfl ?_
          have J_212_78 : ∀ (s64 : zSto), zInv s64 → zOn zQ2 σ s64 → s64 164 97 + s64 164 99 + σ 164 2 ≤ σ 164 97 + σ 164 99 + s64 164 2 → (r33 = -1 → s64 164 5 = 0) → (s64 164 5 = 0 → r33 ≠ -1 → σ 164 2 < s64 164 2) → (s64 164 5 = 0 → r33 ≠ -1 → s64 164 97 + s64 164 99 + σ 164 2 + 1 ≤ σ 164 97 + σ 164 99 + s64 164 2) → (σ 164 2 ≤ s64 164 2 ∧ s64 164 2 ≤ σ 164 3) → s64 164 3 = σ 164 3 → s64 164 101 = σ 164 101 → σ 164 101 ≤ s64 164 99 → s64 164 97 + s64 164 99 + σ 164 2 ≤ σ 164 97 + σ 164 99 + s64 164 2 + 1 → (s64 164 5 = 0 → s64 164 97 + s64 164 99 + σ 164 2 ≤ σ 164 97 + σ 164 99 + s64 164 2) → (s64 164 5 = 0 → zr s64 = 1 ∧ zHt s64 - zBt s64 = zHt σ - zBt σ) → (zBb s64 = zBb σ ∧ zSb s64 = zSb σ) → zF X s64 212 [some (.ref (X.1.1 + 164)), none, some (.int (zI r33)), none, none, none] [] := by
            clear z43 z44
            intro s64 hI65 hF66 g67 g68 g69 g70 g71 g72 g73 g74 g75 g76 g77 g78
            have b80 := zv_46_2 hI65 zc_164
            have b81 := zv_46_3 hI65 zc_164
            have b82 := zv_46_5 hI65 zc_164
            have b83 := zv_46_97 hI65 zc_164
            have b84 := zv_46_99 hI65 zc_164
            have b85 := zv_46_101 hI65 zc_164
            refine zt_aload_n (pc' := 213) hX dX12_qPartTold_212 rfl rfl ?_
            refine zt_iload_n (pc' := 214) hX dX12_qPartTold_213 rfl rfl ?_
            refine zt_iconst (pc' := 215) hX dX12_qPartTold_214 rfl ?_
            have J_237_103 : ∀ (y86 : Int) (s89 : zSto), -2147483648 ≤ y86 → y86 ≤ 2147483647 → zInv s89 → zOn zQ2 σ s89 → s89 164 97 + s89 164 99 + σ 164 2 ≤ σ 164 97 + σ 164 99 + s89 164 2 → (s89 164 5 = 0 → (40 ≤ y86 ∧ y86 < 60) ∨ 1000 ≤ y86) → (s89 164 5 = 0 → s89 164 97 + s89 164 99 + σ 164 2 + 1 ≤ σ 164 97 + σ 164 99 + s89 164 2) → (s89 164 5 = 0 → σ 164 2 < s89 164 2) → (σ 164 2 ≤ s89 164 2 ∧ s89 164 2 ≤ σ 164 3) → s89 164 3 = σ 164 3 → s89 164 101 = σ 164 101 → σ 164 101 ≤ s89 164 99 → s89 164 97 + s89 164 99 + σ 164 2 ≤ σ 164 97 + σ 164 99 + s89 164 2 + 1 → (s89 164 5 = 0 → s89 164 97 + s89 164 99 + σ 164 2 ≤ σ 164 97 + σ 164 99 + s89 164 2) → (s89 164 5 = 0 → zr s89 = 1 ∧ zHt s89 - zBt s89 = zHt σ - zBt σ) → (zBb s89 = zBb σ ∧ zSb s89 = zSb σ) → zF X s89 237 [some (.ref (X.1.1 + 164)), none, none, none, none, none] [.int (zI y86), .ref (X.1.1 + 164)] := by
              clear g69 g70 g76 g77
              intro y86 s89 h87 h88 hI90 hF91 g92 g93 g94 g95 g96 g97 g98 g99 g100 g101 g102 g103
              have b105 := zv_46_2 hI90 zc_164
              have b106 := zv_46_3 hI90 zc_164
              have b107 := zv_46_5 hI90 zc_164
              have b108 := zv_46_97 hI90 zc_164
              have b109 := zv_46_99 hI90 zc_164
              have b110 := zv_46_101 hI90 zc_164
              refine zt_cVv (pc' := 240) hX dX12_qPartTold_237 rfl zm_yX12_qCode zw_29_18 zc_164 (by decide) zs_46 (q := (RX12, TX12, 108)) rfl rfl (zc_X12_qCode _ _ s89 hI90 y86 ⟨by omega, by omega⟩ (by omega)) rfl rfl (Nat.le_of_ble_eq_true rfl) (by decide) (fun r111 s112 hr113 hp114 => ?_)
              obtain ⟨hI115, hF116, z117⟩ := hp114
              have e118 := hF116 164 2 rfl
              have e119 := hF116 164 3 rfl
              have e120 := hF116 164 5 rfl
              have e121 := hF116 164 101 rfl
              have hF122 := zOn_tr hF91 hF116 zi_52
              have b123 := zv_46_2 hI115 zc_164
              have b124 := zv_46_3 hI115 zc_164
              have b125 := zv_46_5 hI115 zc_164
              have b126 := zv_46_97 hI115 zc_164
              have b127 := zv_46_99 hI115 zc_164
              have b128 := zv_46_101 hI115 zc_164
              have h129e := zcd_e z117 (by omega)
              have h129n := zBt_nn s89
              have h129 : s89 164 5 = 0 → zr s112 = 1 ∧ zHt s112 = zHt s89 + 1 := fun hb => zcd_op z117 (by omega) (by have qg102 := g102 (by omega); have qg101 := g101 (by omega); have qg95 := g95 (by omega); have qg94 := g94 (by omega); have qg93 := g93 (by omega); clear g102 g101 g95 g94 g93; omega) (by have qg102 := g102 (by omega); have qg101 := g101 (by omega); have qg95 := g95 (by omega); have qg94 := g94 (by omega); have qg93 := g93 (by omega); clear g102 g101 g95 g94 g93; omega) (by have qg102 := g102 (by omega); have qg101 := g101 (by omega); have qg95 := g95 (by omega); have qg94 := g94 (by omega); have qg93 := g93 (by omega); clear g102 g101 g95 g94 g93; omega)
              refine zt_aload_n (pc' := 241) hX dX12_qPartTold_240 rfl rfl ?_
              refine zt_cVv (pc' := 244) hX dX12_qPartTold_241 rfl zm_yX12_qEndsPart zw_31_0 zc_164 (by decide) zs_46 (q := (RX12, TX12, 108)) rfl rfl (zc_X12_qEndsPart _ _ s112 hI115 (by omega) (by omega) (fun hb => by have qh129 := h129 (by omega); have qg102 := g102 (by omega); have qg101 := g101 (by omega); have qg95 := g95 (by omega); have qg94 := g94 (by omega); have qg93 := g93 (by omega); clear h129 g102 g101 g95 g94 g93; omega)) rfl rfl (Nat.le_of_ble_eq_true rfl) (by decide) (fun r130 s131 hr132 hp133 => ?_)
              obtain ⟨hI134, hF135, z136, z137, z138, z139⟩ := hp133
              have e140 := hF135 164 2 rfl
              have e141 := hF135 164 3 rfl
              have e142 := hF135 164 5 rfl
              have e143 := hF135 164 101 rfl
              have hF144 := zOn_tr hF122 hF135 zi_52
              have b145 := zv_46_2 hI134 zc_164
              have b146 := zv_46_3 hI134 zc_164
              have b147 := zv_46_5 hI134 zc_164
              have b148 := zv_46_97 hI134 zc_164
              have b149 := zv_46_99 hI134 zc_164
              have b150 := zv_46_101 hI134 zc_164
              exact zt_vret hX hR dX12_qPartTold_244 ⟨hI134, hF144, by omega, by omega, by omega, by omega, by omega, (fun hb => by have qh129 := h129 (by omega); have qg102 := g102 (by omega); have qg101 := g101 (by omega); have qg95 := g95 (by omega); have qg94 := g94 (by omega); have qg93 := g93 (by omega); clear h129 g102 g101 g95 g94 g93; omega), (fun hb => by have qh129 := h129 (by omega); have qg102 := g102 (by omega); have qg101 := g101 (by omega); have qg95 := g95 (by omega); have qg94 := g94 (by omega); have qg93 := g93 (by omega); clear h129 g102 g101 g95 g94 g93; omega), by omega⟩
            refine zt_iceq (pc' := 218) (tgt := 225) hX dX12_qPartTold_215 rfl (by decide) ⟨by omega, by omega⟩ ⟨by omega, by omega⟩ (fun c151 => ?_) (fun c151 => ?_)
            · refine zt_sipush (pc' := 228) hX dX12_qPartTold_225 rfl (by decide) (by decide) ?_
              refine zt_aload_n (pc' := 229) hX dX12_qPartTold_228 rfl rfl ?_
              refine zt_iconst (pc' := 230) hX dX12_qPartTold_229 rfl ?_
              refine zt_sipush (pc' := 233) hX dX12_qPartTold_230 rfl (by decide) (by decide) ?_
              refine zt_cVi (pc' := 236) hX dX12_qPartTold_233 rfl zm_yX12_number zw_26_23 zc_164 (by decide) zs_46 (q := (RX12, TX12, 108)) rfl rfl (zc_X12_number _ _ s64 hI65 0 ⟨by omega, by omega⟩ 9999 ⟨by omega, by omega⟩) rfl rfl (Nat.le_of_ble_eq_true rfl) (by decide) (fun r152 s153 hr154 hp155 => ?_)
              obtain ⟨hI156, hF157, q158, q159, z160, z161, z162⟩ := hp155
              obtain ⟨w163, -, w165, w166, w167, w168, -, w170⟩ := zE_q1 hF157
              have e171 := hF157 164 3 rfl
              have e172 := hF157 164 97 rfl
              have e173 := hF157 164 99 rfl
              have e174 := hF157 164 101 rfl
              have hF175 := zOn_tr hF66 hF157 zi_12
              have b176 := zv_46_2 hI156 zc_164
              have b177 := zv_46_3 hI156 zc_164
              have b178 := zv_46_5 hI156 zc_164
              have b179 := zv_46_97 hI156 zc_164
              have b180 := zv_46_99 hI156 zc_164
              have b181 := zv_46_101 hI156 zc_164
              replace z160 : _ ∧ _ := ⟨z160.1, z160.2 (by omega)⟩
              clear z162
              refine zt_iadd (pc' := 237) hX dX12_qPartTold_236 rfl ?_
              refine zt_wrap (fun r182 zr182 lr182 ur182 => ?_)
              replace zr182 := zwr_eq zr182
              refine zt_mask [true, false, false, false, false, false] rfl ?_
              exact J_237_103 r182 s153 (by omega) (by omega) hI156 hF175 (by omega) (fun hb => by have qz161 := z161 (by omega); have qg77 := g77 (by omega); have qg76 := g76 (by omega); have qg70 := g70 (by omega); have qg69 := g69 (by omega); clear z161 g77 g76 g70 g69; omega) (fun hb => by have qz161 := z161 (by omega); have qg77 := g77 (by omega); have qg76 := g76 (by omega); have qg70 := g70 (by omega); have qg69 := g69 (by omega); clear z161 g77 g76 g70 g69; omega) (fun hb => by have qz161 := z161 (by omega); have qg77 := g77 (by omega); have qg76 := g76 (by omega); have qg70 := g70 (by omega); have qg69 := g69 (by omega); clear z161 g77 g76 g70 g69; omega) (by omega) (by omega) (by omega) (by omega) (by omega) (fun hb => by have qz161 := z161 (by omega); have qg77 := g77 (by omega); have qg76 := g76 (by omega); have qg70 := g70 (by omega); have qg69 := g69 (by omega); clear z161 g77 g76 g70 g69; omega) (fun hb => by have qz161 := z161 (by omega); have qg77 := g77 (by omega); have qg76 := g76 (by omega); have qg70 := g70 (by omega); have qg69 := g69 (by omega); clear z161 g77 g76 g70 g69; omega) (by omega)
            · refine zt_bipush (pc' := 220) hX dX12_qPartTold_218 rfl (by decide) (by decide) ?_
              refine zt_iload_n (pc' := 221) hX dX12_qPartTold_220 rfl rfl ?_
              refine zt_iadd (pc' := 222) hX dX12_qPartTold_221 rfl ?_
              refine zt_goto (tgt := 237) hX dX12_qPartTold_222 (by decide) ?_
              refine zt_mask [true, false, false, false, false, false] rfl ?_
              exact J_237_103 (40 + r33) s64 (by omega) (by omega) hI65 hF66 (by omega) (fun hb => by have qg77 := g77 (by omega); have qg76 := g76 (by omega); have qg70 := g70 (by omega); have qg69 := g69 (by omega); clear g77 g76 g70 g69; omega) (fun hb => by have qg77 := g77 (by omega); have qg76 := g76 (by omega); have qg70 := g70 (by omega); have qg69 := g69 (by omega); clear g77 g76 g70 g69; omega) (fun hb => by have qg77 := g77 (by omega); have qg76 := g76 (by omega); have qg70 := g70 (by omega); have qg69 := g69 (by omega); clear g77 g76 g70 g69; omega) (by omega) (by omega) (by omega) (by omega) (by omega) (fun hb => by have qg77 := g77 (by omega); have qg76 := g76 (by omega); have qg70 := g70 (by omega); have qg69 := g69 (by omega); clear g77 g76 g70 g69; omega) (fun hb => by have qg77 := g77 (by omega); have qg76 := g76 (by omega); have qg70 := g70 (by omega); have qg69 := g69 (by omega); clear g77 g76 g70 g69; omega) (by omega)
          refine zt_iceq (pc' := 207) (tgt := 212) hX dX12_qPartTold_204 rfl (by decide) ⟨by omega, by omega⟩ ⟨by omega, by omega⟩ (fun c183 => ?_) (fun c183 => ?_)
          · clear z43
            clear z44
            exact J_212_78 s34 hI37 hF57 (by omega) (by omega) (fun hb => by omega) (fun hb => by omega) (by omega) (by omega) (by omega) (by omega) (by omega) (fun hb => by omega) (fun hb => by omega) (by omega)
          · clear z43
            have qz44 := z44 (by omega)
            clear z44
            refine zt_aload_n (pc' := 208) hX dX12_qPartTold_207 rfl rfl ?_
            refine zt_iload_n (pc' := 209) hX dX12_qPartTold_208 rfl rfl ?_
            refine zt_cVv (pc' := 212) hX dX12_qPartTold_209 rfl zm_yX12_qAsksWord zw_30_20 zc_164 (by decide) zs_46 (q := (RX12, TX12, 108)) rfl rfl (zc_X12_qAsksWord _ _ s34 hI37 r33 ⟨by omega, by omega⟩ (by omega)) rfl rfl (Nat.le_of_ble_eq_true rfl) (by decide) (fun r184 s185 hr186 hp187 => ?_)
            obtain ⟨hI188, hF189, z190, z191⟩ := hp187
            obtain ⟨w192, -, w194, w195, w196, w197, -, w199⟩ := zE_q1 hF189
            have e200 := hF189 164 3 rfl
            have e201 := hF189 164 97 rfl
            have e202 := hF189 164 99 rfl
            have e203 := hF189 164 101 rfl
            have hF204 := zOn_tr hF57 hF189 zi_12
            have b205 := zv_46_2 hI188 zc_164
            have b206 := zv_46_3 hI188 zc_164
            have b207 := zv_46_5 hI188 zc_164
            have b208 := zv_46_97 hI188 zc_164
            have b209 := zv_46_99 hI188 zc_164
            have b210 := zv_46_101 hI188 zc_164
            replace z190 : _ ∧ _ := ⟨z190.1, z190.2 (by omega)⟩
            exact J_212_78 s185 hI188 hF204 (by omega) (by omega) (fun hb => by have qz191 := z191 (by omega); clear z191; omega) (fun hb => by have qz191 := z191 (by omega); clear z191; omega) (by omega) (by omega) (by omega) (by omega) (by omega) (fun hb => by have qz191 := z191 (by omega); clear z191; omega) (fun hb => by have qz191 := z191 (by omega); clear z191; omega) (by omega)
        · clear g19 g18
          exact zt_vret hX hR dX12_qPartTold_193 ⟨hI11, hF12, by omega, by omega, by omega, by omega, by omega, (fun hb => by omega), (fun hb => by omega), by omega⟩
      refine zt_ifeq (pc' := 6) (tgt := 186) hX dX12_qPartTold_3 rfl (by decide) ⟨by omega, by omega⟩ (fun c211 => ?_) (fun c211 => ?_)
      · refine zt_mask [true, false, false, false, false, false] rfl ?_
        exact J_186_29
      · refine zt_aload_n (pc' := 7) hX dX12_qPartTold_6 rfl rfl ?_
        have b212 := zv_46_5 hI11 zc_164
        refine zt_get (pc' := 10) (v := .int (zI (s10 164 5))) hX dX12_qPartTold_7 rfl zf_X12_246 (by decide) zc_164 zs_46 rfl ?_
        refine zt_ifne (pc' := 13) (tgt := 186) hX dX12_qPartTold_10 rfl (by decide) ⟨by omega, by omega⟩ (fun c213 => ?_) (fun c213 => ?_)
        · clear g19 g18
          refine zt_mask [true, false, false, false, false, false] rfl ?_
          exact J_186_29
        · have qg19 := g19 (by omega)
          have qg18 := g18 (by omega)
          clear g19 g18
          refine zt_aload_n (pc' := 14) hX dX12_qPartTold_13 rfl rfl ?_
          refine zt_cVi (pc' := 17) hX dX12_qPartTold_14 rfl zm_yX12_look zw_26_12 zc_164 (by decide) zs_46 (q := (RX12, TX12, 108)) rfl rfl (zc_X12_look _ _ s10 hI11 ) rfl rfl (Nat.le_of_ble_eq_true rfl) (by decide) (fun r214 s215 hr216 hp217 => ?_)
          obtain ⟨hI218, hF219, q220, q221, z222, z223, z224, z225⟩ := hp217
          obtain ⟨w226, -, w228, w229, w230, w231, -, w233⟩ := zE_q1 hF219
          have e234 := hF219 164 3 rfl
          have e235 := hF219 164 97 rfl
          have e236 := hF219 164 99 rfl
          have e237 := hF219 164 101 rfl
          have hF238 := zOn_tr hF12 hF219 zi_12
          have b239 := zv_46_2 hI218 zc_164
          have b240 := zv_46_3 hI218 zc_164
          have b241 := zv_46_5 hI218 zc_164
          have b242 := zv_46_97 hI218 zc_164
          have b243 := zv_46_99 hI218 zc_164
          have b244 := zv_46_101 hI218 zc_164
          clear z225
          replace z222 : _ ∧ _ := ⟨z222.1, z222.2 (by omega)⟩
          refine zt_istore_n (pc' := 18) (lv' := [some (.ref (X.1.1 + 164)), some (.int (zI x7)), some (.int (zI r214)), none, none, none]) hX dX12_qPartTold_17 rfl hL (by decide) rfl ?_
          refine zt_aload_n (pc' := 19) hX dX12_qPartTold_18 rfl rfl ?_
          refine zt_bipush (pc' := 21) hX dX12_qPartTold_19 rfl (by decide) (by decide) ?_
          refine zt_bipush (pc' := 23) hX dX12_qPartTold_21 rfl (by decide) (by decide) ?_
          refine zt_cVi (pc' := 26) hX dX12_qPartTold_23 rfl zm_yX12_qWordOf zw_30_6 zc_164 (by decide) zs_46 (q := (RX12, TX12, 108)) rfl rfl (zc_X12_qWordOf _ _ s215 hI218 10 ⟨by omega, by omega⟩ 11 ⟨by omega, by omega⟩ (by omega)) rfl rfl (Nat.le_of_ble_eq_true rfl) (by decide) (fun r245 s246 hr247 hp248 => ?_)
          obtain ⟨hI249, hF250, q251, q252, z253, z254, z255, z256⟩ := hp248
          obtain ⟨w257, -, w259, w260, w261, w262, -, w264⟩ := zE_q1 hF250
          have e265 := hF250 164 3 rfl
          have e266 := hF250 164 97 rfl
          have e267 := hF250 164 99 rfl
          have e268 := hF250 164 101 rfl
          have hF269 := zOn_tr hF238 hF250 zi_12
          have b270 := zv_46_2 hI249 zc_164
          have b271 := zv_46_3 hI249 zc_164
          have b272 := zv_46_5 hI249 zc_164
          have b273 := zv_46_97 hI249 zc_164
          have b274 := zv_46_99 hI249 zc_164
          have b275 := zv_46_101 hI249 zc_164
          replace z253 : _ ∧ _ := ⟨z253.1, z253.2 (by omega)⟩
          refine zt_istore_n (pc' := 27) (lv' := [some (.ref (X.1.1 + 164)), some (.int (zI x7)), some (.int (zI r214)), some (.int (zI r245)), none, none]) hX dX12_qPartTold_26 rfl hL (by decide) rfl ?_
          refine zt_iload_n (pc' := 28) hX dX12_qPartTold_27 rfl rfl ?_
          refine zt_bipush (pc' := 30) hX dX12_qPartTold_28 rfl (by decide) (by decide) ?_
          have J_183_292 : ∀ (x276 : Int) (s279 : zSto), 0 ≤ x276 → x276 ≤ 1 → zInv s279 → zOn zQ2 σ s279 → s10 164 2 ≤ s279 164 2 → (s279 164 5 ≠ 0 ∨ x276 = 0 ∨ s10 164 2 < s279 164 2) → (x276 ≤ 1 ∧ 0 ≤ x276) → (σ 164 2 ≤ s279 164 2 ∧ s279 164 2 ≤ σ 164 3) → s279 164 3 = σ 164 3 → s279 164 101 = σ 164 101 → σ 164 101 ≤ s279 164 99 → s279 164 97 + s279 164 99 + σ 164 2 ≤ σ 164 97 + σ 164 99 + s279 164 2 + 1 → (s279 164 5 = 0 → s279 164 97 + s279 164 99 + σ 164 2 ≤ σ 164 97 + σ 164 99 + s279 164 2) → (s279 164 5 = 0 → zr s279 = 1 ∧ zHt s279 - zBt s279 = zHt σ - zBt σ) → (zBb s279 = zBb σ ∧ zSb s279 = zSb σ) → zF X s279 183 [some (.ref (X.1.1 + 164)), some (.int (zI x276)), none, none, none, none] [] := by
            clear z223 z255 z256
            intro x276 s279 h277 h278 hI280 hF281 g282 g283 g284 g285 g286 g287 g288 g289 g290 g291 g292
            have b294 := zv_46_2 hI280 zc_164
            have b295 := zv_46_3 hI280 zc_164
            have b296 := zv_46_5 hI280 zc_164
            have b297 := zv_46_97 hI280 zc_164
            have b298 := zv_46_99 hI280 zc_164
            have b299 := zv_46_101 hI280 zc_164
            refine zt_goto (tgt := 2) hX dX12_qPartTold_183 (by decide) ?_
            exact ih23 x276 s279 (by omega) (by omega) hI280 hF281 (by omega) (by omega) (by omega) (by omega) (by omega) (fun hb => by have qg291 := g291 (by omega); have qg290 := g290 (by omega); clear g291 g290; omega) (fun hb => by have qg291 := g291 (by omega); have qg290 := g290 (by omega); clear g291 g290; omega) (by omega) (Decidable.byCases (p := s279 164 5 = 0) (fun hb => by have qg291 := g291 (by omega); have qg290 := g290 (by omega); clear g291 g290; omega) (fun hb => by clear g290 g291; omega))
          refine zt_icne (pc' := 33) (tgt := 56) hX dX12_qPartTold_30 rfl (by decide) ⟨by omega, by omega⟩ ⟨by omega, by omega⟩ (fun c300 => ?_) (fun c300 => ?_)
          · clear z255
            refine zt_aload_n (pc' := 57) hX dX12_qPartTold_56 rfl rfl ?_
            refine zt_aload_n (pc' := 58) hX dX12_qPartTold_57 rfl rfl ?_
            refine zt_get (pc' := 61) (v := .ref (X.1.1 + 221)) hX dX12_qPartTold_58 rfl zf_X12_192 (by decide) zc_164 zs_46 (zrf_of (zv_46_83 hI249 zc_164)) ?_
            refine zt_cVz (pc' := 64) hX dX12_qPartTold_61 rfl zm_yX12_isHere zw_26_8 zc_164 (by decide) zs_46 (q := (RX12, TX12, 108)) rfl rfl (zc_X12_isHere _ _ s246 hI249 221 103 3 zc_221 (by decide) zs_103 (by decide)) rfl rfl (Nat.le_of_ble_eq_true rfl) (by decide) (fun r301 s302 hr303 hp304 => ?_)
            obtain ⟨hI305, hF306, q307, q308, z309, z310, z311, z312⟩ := hp304
            obtain ⟨w313, -, w315, w316, w317, w318, -, w320⟩ := zE_q1 hF306
            have e321 := hF306 164 3 rfl
            have e322 := hF306 164 97 rfl
            have e323 := hF306 164 99 rfl
            have e324 := hF306 164 101 rfl
            have hF325 := zOn_tr hF269 hF306 zi_12
            have b326 := zv_46_2 hI305 zc_164
            have b327 := zv_46_3 hI305 zc_164
            have b328 := zv_46_5 hI305 zc_164
            have b329 := zv_46_97 hI305 zc_164
            have b330 := zv_46_99 hI305 zc_164
            have b331 := zv_46_101 hI305 zc_164
            replace z309 : _ ∧ _ := ⟨z309.1, z309.2 (by omega)⟩
            have J_78_344 : ∀ (s332 : zSto), zInv s332 → zOn zQ2 σ s332 → s332 164 5 = 0 → s10 164 2 ≤ s332 164 2 → (σ 164 2 ≤ s332 164 2 ∧ s332 164 2 ≤ σ 164 3) → s332 164 3 = σ 164 3 → s332 164 101 = σ 164 101 → σ 164 101 ≤ s332 164 99 → s332 164 97 + s332 164 99 + σ 164 2 ≤ σ 164 97 + σ 164 99 + s332 164 2 + 1 → (s332 164 5 = 0 → s332 164 97 + s332 164 99 + σ 164 2 ≤ σ 164 97 + σ 164 99 + s332 164 2) → (s332 164 5 = 0 → zr s332 = 1 ∧ zHt s332 - zBt s332 = zHt σ - zBt σ) → (zBb s332 = zBb σ ∧ zSb s332 = zSb σ) → zF X s332 78 [some (.ref (X.1.1 + 164)), some (.int (zI x7)), none, none, none, none] [] := by
              clear z223 z256 z310 z312
              intro s332 hI333 hF334 g335 g336 g337 g338 g339 g340 g341 g342 g343 g344
              have b346 := zv_46_2 hI333 zc_164
              have b347 := zv_46_3 hI333 zc_164
              have b348 := zv_46_5 hI333 zc_164
              have b349 := zv_46_97 hI333 zc_164
              have b350 := zv_46_99 hI333 zc_164
              have b351 := zv_46_101 hI333 zc_164
              refine zt_aload_n (pc' := 79) hX dX12_qPartTold_78 rfl rfl ?_
              refine zt_aload_n (pc' := 80) hX dX12_qPartTold_79 rfl rfl ?_
              refine zt_get (pc' := 83) (v := .ref (X.1.1 + 221)) hX dX12_qPartTold_80 rfl zf_X12_192 (by decide) zc_164 zs_46 (zrf_of (zv_46_83 hI333 zc_164)) ?_
              refine zt_cVz (pc' := 86) hX dX12_qPartTold_83 rfl zm_yX12_takes zw_26_4 zc_164 (by decide) zs_46 (q := (RX12, TX12, 108)) rfl rfl (zc_X12_takes _ _ s332 hI333 221 103 3 zc_221 (by decide) zs_103 (by decide)) rfl rfl (Nat.le_of_ble_eq_true rfl) (by decide) (fun r352 s353 hr354 hp355 => ?_)
              obtain ⟨hI356, hF357, q358, q359, z360, z361, z362⟩ := hp355
              obtain ⟨w363, -, w365, w366, w367, w368, -, w370⟩ := zE_q1 hF357
              have e371 := hF357 164 3 rfl
              have e372 := hF357 164 97 rfl
              have e373 := hF357 164 99 rfl
              have e374 := hF357 164 101 rfl
              have hF375 := zOn_tr hF334 hF357 zi_12
              have b376 := zv_46_2 hI356 zc_164
              have b377 := zv_46_3 hI356 zc_164
              have b378 := zv_46_5 hI356 zc_164
              have b379 := zv_46_97 hI356 zc_164
              have b380 := zv_46_99 hI356 zc_164
              have b381 := zv_46_101 hI356 zc_164
              replace z360 : _ ∧ _ := ⟨z360.1, z360.2 (by omega)⟩
              refine zt_istore (pc' := 88) (lv' := [some (.ref (X.1.1 + 164)), some (.int (zI x7)), none, none, some (.int (zI r352)), none]) hX dX12_qPartTold_86 rfl hL (by decide) rfl ?_
              refine zt_iload (pc' := 90) hX dX12_qPartTold_88 rfl rfl ?_
              have J_101_395 : ∀ (s382 : zSto), zInv s382 → zOn zQ2 σ s382 → s382 164 97 + s382 164 99 + σ 164 2 ≤ σ 164 97 + σ 164 99 + s382 164 2 → s10 164 2 ≤ s382 164 2 → (s382 164 5 = 0 → s382 164 97 + s382 164 99 + σ 164 2 + 2 ≤ σ 164 97 + σ 164 99 + s382 164 2 ∧ s10 164 2 < s382 164 2) → (σ 164 2 ≤ s382 164 2 ∧ s382 164 2 ≤ σ 164 3) → s382 164 3 = σ 164 3 → s382 164 101 = σ 164 101 → σ 164 101 ≤ s382 164 99 → s382 164 97 + s382 164 99 + σ 164 2 ≤ σ 164 97 + σ 164 99 + s382 164 2 + 1 → (s382 164 5 = 0 → s382 164 97 + s382 164 99 + σ 164 2 ≤ σ 164 97 + σ 164 99 + s382 164 2) → (s382 164 5 = 0 → zr s382 = 1 ∧ zHt s382 - zBt s382 = zHt σ - zBt σ) → (zBb s382 = zBb σ ∧ zSb s382 = zSb σ) → zF X s382 101 [some (.ref (X.1.1 + 164)), some (.int (zI x7)), none, none, some (.int (zI r352)), none] [] := by
                clear g342 g343 z361
                intro s382 hI383 hF384 g385 g386 g387 g388 g389 g390 g391 g392 g393 g394 g395
                have b397 := zv_46_2 hI383 zc_164
                have b398 := zv_46_3 hI383 zc_164
                have b399 := zv_46_5 hI383 zc_164
                have b400 := zv_46_97 hI383 zc_164
                have b401 := zv_46_99 hI383 zc_164
                have b402 := zv_46_101 hI383 zc_164
                refine zt_aload_n (pc' := 102) hX dX12_qPartTold_101 rfl rfl ?_
                refine zt_cVi (pc' := 105) hX dX12_qPartTold_102 rfl zm_yX12_look zw_26_12 zc_164 (by decide) zs_46 (q := (RX12, TX12, 108)) rfl rfl (zc_X12_look _ _ s382 hI383 ) rfl rfl (Nat.le_of_ble_eq_true rfl) (by decide) (fun r403 s404 hr405 hp406 => ?_)
                obtain ⟨hI407, hF408, q409, q410, z411, z412, z413, z414⟩ := hp406
                obtain ⟨w415, -, w417, w418, w419, w420, -, w422⟩ := zE_q1 hF408
                have e423 := hF408 164 3 rfl
                have e424 := hF408 164 97 rfl
                have e425 := hF408 164 99 rfl
                have e426 := hF408 164 101 rfl
                have hF427 := zOn_tr hF384 hF408 zi_12
                have b428 := zv_46_2 hI407 zc_164
                have b429 := zv_46_3 hI407 zc_164
                have b430 := zv_46_5 hI407 zc_164
                have b431 := zv_46_97 hI407 zc_164
                have b432 := zv_46_99 hI407 zc_164
                have b433 := zv_46_101 hI407 zc_164
                clear z414
                replace z411 : _ ∧ _ := ⟨z411.1, z411.2 (by omega)⟩
                refine zt_bipush (pc' := 107) hX dX12_qPartTold_105 rfl (by decide) (by decide) ?_
                have J_118_436 : ∀ (y434 : Int), -1 ≤ y434 → y434 ≤ 1600 → zF X s404 118 [some (.ref (X.1.1 + 164)), some (.int (zI x7)), none, none, some (.int (zI r352)), none] [.int (zI y434)] := by
                  intro y434 h435 h436
                  refine zt_istore (pc' := 120) (lv' := [some (.ref (X.1.1 + 164)), some (.int (zI x7)), none, none, some (.int (zI r352)), some (.int (zI y434))]) hX dX12_qPartTold_118 rfl hL (by decide) rfl ?_
                  refine zt_iload (pc' := 122) hX dX12_qPartTold_120 rfl rfl ?_
                  refine zt_iconst (pc' := 123) hX dX12_qPartTold_122 rfl ?_
                  have J_144_450 : ∀ (s438 : zSto), zInv s438 → zOn zQ2 σ s438 → (s438 164 5 = 0 → s438 164 97 + s438 164 99 + σ 164 2 + 1 ≤ σ 164 97 + σ 164 99 + s438 164 2 ∧ s10 164 2 < s438 164 2) → s10 164 2 ≤ s438 164 2 → (σ 164 2 ≤ s438 164 2 ∧ s438 164 2 ≤ σ 164 3) → s438 164 3 = σ 164 3 → s438 164 101 = σ 164 101 → σ 164 101 ≤ s438 164 99 → s438 164 97 + s438 164 99 + σ 164 2 ≤ σ 164 97 + σ 164 99 + s438 164 2 + 1 → (s438 164 5 = 0 → s438 164 97 + s438 164 99 + σ 164 2 ≤ σ 164 97 + σ 164 99 + s438 164 2) → (s438 164 5 = 0 → zr s438 = 1 ∧ zHt s438 - zBt s438 = zHt σ - zBt σ) → (zBb s438 = zBb σ ∧ zSb s438 = zSb σ) → zF X s438 144 [some (.ref (X.1.1 + 164)), some (.int (zI x7)), none, none, none, none] [] := by
                    clear g387 g393 g394 z412
                    intro s438 hI439 hF440 g441 g442 g443 g444 g445 g446 g447 g448 g449 g450
                    have b452 := zv_46_2 hI439 zc_164
                    have b453 := zv_46_3 hI439 zc_164
                    have b454 := zv_46_5 hI439 zc_164
                    have b455 := zv_46_97 hI439 zc_164
                    have b456 := zv_46_99 hI439 zc_164
                    have b457 := zv_46_101 hI439 zc_164
                    refine zt_aload_n (pc' := 145) hX dX12_qPartTold_144 rfl rfl ?_
                    refine zt_bipush (pc' := 147) hX dX12_qPartTold_145 rfl (by decide) (by decide) ?_
                    refine zt_cVv (pc' := 150) hX dX12_qPartTold_147 rfl zm_yX12_asksSign zw_27_10 zc_164 (by decide) zs_46 (q := (RX12, TX12, 108)) rfl rfl (zc_X12_asksSign _ _ s438 hI439 40 ⟨by omega, by omega⟩) rfl rfl (Nat.le_of_ble_eq_true rfl) (by decide) (fun r458 s459 hr460 hp461 => ?_)
                    obtain ⟨hI462, hF463, z464, z465⟩ := hp461
                    obtain ⟨w466, -, w468, w469, w470, w471, -, w473⟩ := zE_q1 hF463
                    have e474 := hF463 164 3 rfl
                    have e475 := hF463 164 97 rfl
                    have e476 := hF463 164 99 rfl
                    have e477 := hF463 164 101 rfl
                    have hF478 := zOn_tr hF440 hF463 zi_12
                    have b479 := zv_46_2 hI462 zc_164
                    have b480 := zv_46_3 hI462 zc_164
                    have b481 := zv_46_5 hI462 zc_164
                    have b482 := zv_46_97 hI462 zc_164
                    have b483 := zv_46_99 hI462 zc_164
                    have b484 := zv_46_101 hI462 zc_164
                    replace z464 : _ ∧ _ := ⟨z464.1, z464.2 (by omega)⟩
                    refine zt_goto (tgt := 183) hX dX12_qPartTold_150 (by decide) ?_
                    exact J_183_292 x7 s459 (by omega) (by omega) hI462 hF478 (by omega) (by omega) (by omega) (by omega) (by omega) (by omega) (by omega) (by omega) (fun hb => by have qz465 := z465 (by omega); have qg449 := g449 (by omega); have qg448 := g448 (by omega); have qg441 := g441 (by omega); clear z465 g449 g448 g441; omega) (fun hb => by have qz465 := z465 (by omega); have qg449 := g449 (by omega); have qg448 := g448 (by omega); have qg441 := g441 (by omega); clear z465 g449 g448 g441; omega) (by omega)
                  refine zt_iceq (pc' := 126) (tgt := 144) hX dX12_qPartTold_123 rfl (by decide) ⟨by omega, by omega⟩ ⟨by omega, by omega⟩ (fun c485 => ?_) (fun c485 => ?_)
                  · refine zt_mask [true, true, false, false, false, false] rfl ?_
                    exact J_144_450 s404 hI407 hF427 (fun hb => by have qg394 := g394 (by omega); have qg393 := g393 (by omega); have qg387 := g387 (by omega); clear g394 g393 g387; omega) (by omega) (by omega) (by omega) (by omega) (by omega) (by omega) (fun hb => by have qg394 := g394 (by omega); have qg393 := g393 (by omega); have qg387 := g387 (by omega); clear g394 g393 g387; omega) (fun hb => by have qg394 := g394 (by omega); have qg393 := g393 (by omega); have qg387 := g387 (by omega); clear g394 g393 g387; omega) (by omega)
                  · refine zt_aload_n (pc' := 127) hX dX12_qPartTold_126 rfl rfl ?_
                    refine zt_iload (pc' := 129) hX dX12_qPartTold_127 rfl rfl ?_
                    have J_139_488 : ∀ (y486 : Int), 21 ≤ y486 → y486 ≤ 22 → zF X s404 139 [some (.ref (X.1.1 + 164)), some (.int (zI x7)), none, none, none, some (.int (zI y434))] [.int (zI y486), .ref (X.1.1 + 164)] := by
                      intro y486 h487 h488
                      refine zt_iload (pc' := 141) hX dX12_qPartTold_139 rfl rfl ?_
                      refine zt_cVv (pc' := 144) hX dX12_qPartTold_141 rfl zm_yX12_qOpens zw_29_10 zc_164 (by decide) zs_46 (q := (RX12, TX12, 108)) rfl rfl (zc_X12_qOpens_S _ _ s404 hI407 y486 ⟨by omega, by omega⟩ y434 ⟨by omega, by omega⟩ (by omega) (by omega) (by omega)) rfl rfl (Nat.le_of_ble_eq_true rfl) (by decide) (fun r490 s491 hr492 hp493 => ?_)
                      obtain ⟨hI494, hF495, z496, z497, z498, z499, z500⟩ := hp493
                      have e501 := hF495 164 3 rfl
                      have hF502 := zOn_tr hF427 hF495 zi_id
                      have b503 := zv_46_2 hI494 zc_164
                      have b504 := zv_46_3 hI494 zc_164
                      have b505 := zv_46_5 hI494 zc_164
                      have b506 := zv_46_97 hI494 zc_164
                      have b507 := zv_46_99 hI494 zc_164
                      have b508 := zv_46_101 hI494 zc_164
                      refine zt_mask [true, true, false, false, false, false] rfl ?_
                      exact J_144_450 s491 hI494 hF502 (fun hb => by have qz499 := z499 (by omega); have qz498 := z498 (by omega); have qz497 := z497 (by omega); have qg394 := g394 (by omega); have qg393 := g393 (by omega); have qg387 := g387 (by omega); clear z499 z498 z497 g394 g393 g387; omega) (by omega) (by omega) (by omega) (by omega) (by omega) (by omega) (fun hb => by have qz499 := z499 (by omega); have qz498 := z498 (by omega); have qz497 := z497 (by omega); have qg394 := g394 (by omega); have qg393 := g393 (by omega); have qg387 := g387 (by omega); clear z499 z498 z497 g394 g393 g387; omega) (fun hb => by have qz499 := z499 (by omega); have qz498 := z498 (by omega); have qz497 := z497 (by omega); have qg394 := g394 (by omega); have qg393 := g393 (by omega); have qg387 := g387 (by omega); clear z499 z498 z497 g394 g393 g387; omega) (by omega)
                    refine zt_ifeq (pc' := 132) (tgt := 137) hX dX12_qPartTold_129 rfl (by decide) ⟨by omega, by omega⟩ (fun c509 => ?_) (fun c509 => ?_)
                    · refine zt_bipush (pc' := 139) hX dX12_qPartTold_137 rfl (by decide) (by decide) ?_
                      refine zt_mask [true, true, false, false, false, true] rfl ?_
                      exact J_139_488 22 (by omega) (by omega)
                    · refine zt_bipush (pc' := 134) hX dX12_qPartTold_132 rfl (by decide) (by decide) ?_
                      refine zt_goto (tgt := 139) hX dX12_qPartTold_134 (by decide) ?_
                      refine zt_mask [true, true, false, false, false, true] rfl ?_
                      exact J_139_488 21 (by omega) (by omega)
                refine zt_icne (pc' := 110) (tgt := 117) hX dX12_qPartTold_107 rfl (by decide) ⟨by omega, by omega⟩ ⟨by omega, by omega⟩ (fun c510 => ?_) (fun c510 => ?_)
                · refine zt_iconst (pc' := 118) hX dX12_qPartTold_117 rfl ?_
                  exact J_118_436 (-1) (by omega) (by omega)
                · have qz412 := z412 (by omega)
                  clear z412
                  refine zt_aload_n (pc' := 111) hX dX12_qPartTold_110 rfl rfl ?_
                  have b511 := zv_46_2 hI407 zc_164
                  refine zt_get (pc' := 114) (v := .int (zI (s404 164 2))) hX dX12_qPartTold_111 rfl zf_X12_252 (by decide) zc_164 zs_46 rfl ?_
                  refine zt_goto (tgt := 118) hX dX12_qPartTold_114 (by decide) ?_
                  exact J_118_436 (s404 164 2) (by omega) (by omega)
              refine zt_ifne (pc' := 93) (tgt := 101) hX dX12_qPartTold_90 rfl (by decide) ⟨by omega, by omega⟩ (fun c512 => ?_) (fun c512 => ?_)
              · have qz361 := z361 (by omega)
                clear z361
                exact J_101_395 s353 hI356 hF375 (by omega) (by omega) (fun hb => by have qg343 := g343 (by omega); have qg342 := g342 (by omega); clear g343 g342; omega) (by omega) (by omega) (by omega) (by omega) (by omega) (fun hb => by have qg343 := g343 (by omega); have qg342 := g342 (by omega); clear g343 g342; omega) (fun hb => by have qg343 := g343 (by omega); have qg342 := g342 (by omega); clear g343 g342; omega) (by omega)
              · clear z361
                refine zt_aload_n (pc' := 94) hX dX12_qPartTold_93 rfl rfl ?_
                refine zt_aload_n (pc' := 95) hX dX12_qPartTold_94 rfl rfl ?_
                refine zt_get (pc' := 98) (v := .ref (X.1.1 + 222)) hX dX12_qPartTold_95 rfl zf_X12_195 (by decide) zc_164 zs_46 (zrf_of (zv_46_84 hI356 zc_164)) ?_
                refine zt_cVv (pc' := 101) hX dX12_qPartTold_98 rfl zm_yX12_asks zw_26_0 zc_164 (by decide) zs_46 (q := (RX12, TX12, 108)) rfl rfl (zc_X12_asks _ _ s353 hI356 222 104 3 zc_222 (by decide) zs_104 (by decide)) rfl rfl (Nat.le_of_ble_eq_true rfl) (by decide) (fun r513 s514 hr515 hp516 => ?_)
                obtain ⟨hI517, hF518, z519, z520⟩ := hp516
                obtain ⟨w521, -, w523, w524, w525, w526, -, w528⟩ := zE_q1 hF518
                have e529 := hF518 164 3 rfl
                have e530 := hF518 164 97 rfl
                have e531 := hF518 164 99 rfl
                have e532 := hF518 164 101 rfl
                have hF533 := zOn_tr hF375 hF518 zi_12
                have b534 := zv_46_2 hI517 zc_164
                have b535 := zv_46_3 hI517 zc_164
                have b536 := zv_46_5 hI517 zc_164
                have b537 := zv_46_97 hI517 zc_164
                have b538 := zv_46_99 hI517 zc_164
                have b539 := zv_46_101 hI517 zc_164
                replace z519 : _ ∧ _ := ⟨z519.1, z519.2 (by omega)⟩
                exact J_101_395 s514 hI517 hF533 (by omega) (by omega) (fun hb => by have qz520 := z520 (by omega); have qg343 := g343 (by omega); have qg342 := g342 (by omega); clear z520 g343 g342; omega) (by omega) (by omega) (by omega) (by omega) (by omega) (fun hb => by have qz520 := z520 (by omega); have qg343 := g343 (by omega); have qg342 := g342 (by omega); clear z520 g343 g342; omega) (fun hb => by have qz520 := z520 (by omega); have qg343 := g343 (by omega); have qg342 := g342 (by omega); clear z520 g343 g342; omega) (by omega)
            refine zt_ifne (pc' := 67) (tgt := 78) hX dX12_qPartTold_64 rfl (by decide) ⟨by omega, by omega⟩ (fun c540 => ?_) (fun c540 => ?_)
            · have qz310 := z310 (by omega)
              clear z310
              refine zt_mask [true, true, false, false, false, false] rfl ?_
              exact J_78_344 s302 hI305 hF325 (by omega) (by omega) (by omega) (by omega) (by omega) (by omega) (by omega) (fun hb => by omega) (fun hb => by omega) (by omega)
            · clear z310
              refine zt_aload_n (pc' := 68) hX dX12_qPartTold_67 rfl rfl ?_
              refine zt_aload_n (pc' := 69) hX dX12_qPartTold_68 rfl rfl ?_
              refine zt_get (pc' := 72) (v := .ref (X.1.1 + 222)) hX dX12_qPartTold_69 rfl zf_X12_195 (by decide) zc_164 zs_46 (zrf_of (zv_46_84 hI305 zc_164)) ?_
              refine zt_cVz (pc' := 75) hX dX12_qPartTold_72 rfl zm_yX12_isHere zw_26_8 zc_164 (by decide) zs_46 (q := (RX12, TX12, 108)) rfl rfl (zc_X12_isHere _ _ s302 hI305 222 104 3 zc_222 (by decide) zs_104 (by decide)) rfl rfl (Nat.le_of_ble_eq_true rfl) (by decide) (fun r541 s542 hr543 hp544 => ?_)
              obtain ⟨hI545, hF546, q547, q548, z549, z550, z551, z552⟩ := hp544
              obtain ⟨w553, -, w555, w556, w557, w558, -, w560⟩ := zE_q1 hF546
              have e561 := hF546 164 3 rfl
              have e562 := hF546 164 97 rfl
              have e563 := hF546 164 99 rfl
              have e564 := hF546 164 101 rfl
              have hF565 := zOn_tr hF325 hF546 zi_12
              have b566 := zv_46_2 hI545 zc_164
              have b567 := zv_46_3 hI545 zc_164
              have b568 := zv_46_5 hI545 zc_164
              have b569 := zv_46_97 hI545 zc_164
              have b570 := zv_46_99 hI545 zc_164
              have b571 := zv_46_101 hI545 zc_164
              replace z549 : _ ∧ _ := ⟨z549.1, z549.2 (by omega)⟩
              refine zt_ifeq (pc' := 78) (tgt := 153) hX dX12_qPartTold_75 rfl (by decide) ⟨by omega, by omega⟩ (fun c572 => ?_) (fun c572 => ?_)
              · clear z550
                refine zt_iload_n (pc' := 154) hX dX12_qPartTold_153 rfl rfl ?_
                refine zt_iconst (pc' := 155) hX dX12_qPartTold_154 rfl ?_
                refine zt_iceq (pc' := 158) (tgt := 181) hX dX12_qPartTold_155 rfl (by decide) ⟨by omega, by omega⟩ ⟨by omega, by omega⟩ (fun c573 => ?_) (fun c573 => ?_)
                · clear z552 z312
                  clear z256
                  refine zt_iconst (pc' := 182) hX dX12_qPartTold_181 rfl ?_
                  refine zt_istore_n (pc' := 183) (lv' := [some (.ref (X.1.1 + 164)), some (.int (zI 0)), some (.int (zI r214)), some (.int (zI r245)), none, none]) hX dX12_qPartTold_182 rfl hL (by decide) rfl ?_
                  refine zt_mask [true, true, false, false, false, false] rfl ?_
                  exact J_183_292 0 s542 (by omega) (by omega) hI545 hF565 (by omega) (by omega) (by omega) (by omega) (by omega) (by omega) (by omega) (by omega) (fun hb => by omega) (fun hb => by omega) (by omega)
                · clear z552 z312
                  have qz256 := z256 (by omega)
                  clear z256
                  refine zt_aload_n (pc' := 159) hX dX12_qPartTold_158 rfl rfl ?_
                  refine zt_bipush (pc' := 161) hX dX12_qPartTold_159 rfl (by decide) (by decide) ?_
                  refine zt_iload_n (pc' := 162) hX dX12_qPartTold_161 rfl rfl ?_
                  refine zt_iadd (pc' := 163) hX dX12_qPartTold_162 rfl ?_
                  refine zt_bipush (pc' := 165) hX dX12_qPartTold_163 rfl (by decide) (by decide) ?_
                  refine zt_isub (pc' := 166) hX dX12_qPartTold_165 rfl ?_
                  refine zt_aload_n (pc' := 167) hX dX12_qPartTold_166 rfl rfl ?_
                  have b574 := zv_46_2 hI545 zc_164
                  refine zt_get (pc' := 170) (v := .int (zI (s542 164 2))) hX dX12_qPartTold_167 rfl zf_X12_252 (by decide) zc_164 zs_46 rfl ?_
                  refine zt_cVv (pc' := 173) hX dX12_qPartTold_170 rfl zm_yX12_qOpens zw_29_10 zc_164 (by decide) zs_46 (q := (RX12, TX12, 108)) rfl rfl (zc_X12_qOpens_S _ _ s542 hI545 ((60 + r245) - 10) ⟨by omega, by omega⟩ (s542 164 2) ⟨by omega, by omega⟩ (by omega) (by omega) (by omega)) rfl rfl (Nat.le_of_ble_eq_true rfl) (by decide) (fun r575 s576 hr577 hp578 => ?_)
                  obtain ⟨hI579, hF580, z581, z582, z583, z584, z585⟩ := hp578
                  have e586 := hF580 164 3 rfl
                  have hF587 := zOn_tr hF565 hF580 zi_id
                  have b588 := zv_46_2 hI579 zc_164
                  have b589 := zv_46_3 hI579 zc_164
                  have b590 := zv_46_5 hI579 zc_164
                  have b591 := zv_46_97 hI579 zc_164
                  have b592 := zv_46_99 hI579 zc_164
                  have b593 := zv_46_101 hI579 zc_164
                  refine zt_aload_n (pc' := 174) hX dX12_qPartTold_173 rfl rfl ?_
                  refine zt_iload_n (pc' := 175) hX dX12_qPartTold_174 rfl rfl ?_
                  refine zt_cVv (pc' := 178) hX dX12_qPartTold_175 rfl zm_yX12_qAsksWord zw_30_20 zc_164 (by decide) zs_46 (q := (RX12, TX12, 108)) rfl rfl (zc_X12_qAsksWord _ _ s576 hI579 r245 ⟨by omega, by omega⟩ (by omega)) rfl rfl (Nat.le_of_ble_eq_true rfl) (by decide) (fun r594 s595 hr596 hp597 => ?_)
                  obtain ⟨hI598, hF599, z600, z601⟩ := hp597
                  obtain ⟨w602, -, w604, w605, w606, w607, -, w609⟩ := zE_q1 hF599
                  have e610 := hF599 164 3 rfl
                  have e611 := hF599 164 97 rfl
                  have e612 := hF599 164 99 rfl
                  have e613 := hF599 164 101 rfl
                  have hF614 := zOn_tr hF587 hF599 zi_12
                  have b615 := zv_46_2 hI598 zc_164
                  have b616 := zv_46_3 hI598 zc_164
                  have b617 := zv_46_5 hI598 zc_164
                  have b618 := zv_46_97 hI598 zc_164
                  have b619 := zv_46_99 hI598 zc_164
                  have b620 := zv_46_101 hI598 zc_164
                  replace z600 : _ ∧ _ := ⟨z600.1, z600.2 (by omega)⟩
                  refine zt_goto (tgt := 183) hX dX12_qPartTold_178 (by decide) ?_
                  refine zt_mask [true, true, false, false, false, false] rfl ?_
                  exact J_183_292 x7 s595 (by omega) (by omega) hI598 hF614 (by omega) (by omega) (by omega) (by omega) (by omega) (by omega) (by omega) (by omega) (fun hb => by have qz601 := z601 (by omega); have qz584 := z584 (by omega); have qz583 := z583 (by omega); have qz582 := z582 (by omega); clear z601 z584 z583 z582; omega) (fun hb => by have qz601 := z601 (by omega); have qz584 := z584 (by omega); have qz583 := z583 (by omega); have qz582 := z582 (by omega); clear z601 z584 z583 z582; omega) (by omega)
              · have qz550 := z550 (by omega)
                clear z550
                refine zt_mask [true, true, false, false, false, false] rfl ?_
                exact J_78_344 s542 hI545 hF565 (by omega) (by omega) (by omega) (by omega) (by omega) (by omega) (by omega) (fun hb => by omega) (fun hb => by omega) (by omega)
          · have qz223 := z223 (by omega)
            clear z223
            have qz255 := z255 (by omega)
            clear z255
            refine zt_aload_n (pc' := 34) hX dX12_qPartTold_33 rfl rfl ?_
            refine zt_bipush (pc' := 36) hX dX12_qPartTold_34 rfl (by decide) (by decide) ?_
            refine zt_aload_n (pc' := 37) hX dX12_qPartTold_36 rfl rfl ?_
            have b621 := zv_46_2 hI249 zc_164
            refine zt_get (pc' := 40) (v := .int (zI (s246 164 2))) hX dX12_qPartTold_37 rfl zf_X12_252 (by decide) zc_164 zs_46 rfl ?_
            refine zt_cVv (pc' := 43) hX dX12_qPartTold_40 rfl zm_yX12_qOpens zw_29_10 zc_164 (by decide) zs_46 (q := (RX12, TX12, 108)) rfl rfl (zc_X12_qOpens_S _ _ s246 hI249 20 ⟨by omega, by omega⟩ (s246 164 2) ⟨by omega, by omega⟩ (by omega) (by omega) (by omega)) rfl rfl (Nat.le_of_ble_eq_true rfl) (by decide) (fun r622 s623 hr624 hp625 => ?_)
            obtain ⟨hI626, hF627, z628, z629, z630, z631, z632⟩ := hp625
            have e633 := hF627 164 3 rfl
            have hF634 := zOn_tr hF269 hF627 zi_id
            have b635 := zv_46_2 hI626 zc_164
            have b636 := zv_46_3 hI626 zc_164
            have b637 := zv_46_5 hI626 zc_164
            have b638 := zv_46_97 hI626 zc_164
            have b639 := zv_46_99 hI626 zc_164
            have b640 := zv_46_101 hI626 zc_164
            refine zt_aload_n (pc' := 44) hX dX12_qPartTold_43 rfl rfl ?_
            refine zt_dup (pc' := 45) hX dX12_qPartTold_44 rfl rfl ?_
            have b641 := zv_46_2 hI626 zc_164
            refine zt_get (pc' := 48) (v := .int (zI (s623 164 2))) hX dX12_qPartTold_45 rfl zf_X12_252 (by decide) zc_164 zs_46 rfl ?_
            refine zt_iconst (pc' := 49) hX dX12_qPartTold_48 rfl ?_
            refine zt_iadd (pc' := 50) hX dX12_qPartTold_49 rfl ?_
            refine zt_put (pc' := 53) (x := ((s623 164 2) + 1)) hX dX12_qPartTold_50 rfl zf_X12_252 (by decide) zc_164 zs_46 (fun q hq => by cases hq; rfl) rfl rfl rfl ?_
            generalize hs643 : zset s623 164 2 ((s623 164 2) + 1) = s642
            have hI644 : zInv s642 := hs643 ▸ zp_46_2 hI626 zc_164 ⟨by omega, by omega⟩
            have hF645 : zOn zQ2 σ s642 := hs643 ▸ zOn_set hF634 (by decide)
            obtain ⟨w646, -, w648, w649, w650, w651, -, w653⟩ := zE_set hs643 (by decide)
            have e654 : s642 164 2 = ((s623 164 2) + 1) := by rw [← hs643]; exact zset_s
            have e655 : s642 164 3 = s623 164 3 := by rw [← hs643]; exact zset_j (by decide)
            have e656 : s642 164 5 = s623 164 5 := by rw [← hs643]; exact zset_j (by decide)
            have e657 : s642 164 97 = s623 164 97 := by rw [← hs643]; exact zset_j (by decide)
            have e658 : s642 164 99 = s623 164 99 := by rw [← hs643]; exact zset_j (by decide)
            have e659 : s642 164 101 = s623 164 101 := by rw [← hs643]; exact zset_j (by decide)
            refine zt_goto (tgt := 183) hX dX12_qPartTold_53 (by decide) ?_
            refine zt_mask [true, true, false, false, false, false] rfl ?_
            exact J_183_292 x7 s642 (by omega) (by omega) hI644 hF645 (by omega) (by omega) (by omega) (by omega) (by omega) (by omega) (by omega) (by omega) (fun hb => by have qz631 := z631 (by omega); have qz630 := z630 (by omega); have qz629 := z629 (by omega); clear z631 z630 z629; omega) (fun hb => by have qz631 := z631 (by omega); have qz630 := z630 (by omega); have qz629 := z629 (by omega); clear z631 z630 z629; omega) (by omega)
  exact L_2_20 _ 1 σ (by omega) (by omega) hI hF (by omega) (by omega) (by omega) (by omega) (by omega) (fun hb => by omega) (fun hb => by omega) (by omega) (Nat.lt_succ_self _)
