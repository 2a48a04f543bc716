set_option maxRecDepth 100000 in
set_option maxHeartbeats 4000000 in
theorem zc_X12_qPartTold (l : Launch) (E : zEN) (σ : zSto) (hI : zInv σ) (hpre0 : σ 164 5 = 0) (hpre1 : σ 164 2 ≤ σ 164 3) (hpre2 : σ 164 97 + σ 164 99 ≤ σ 164 2) (hpre3 : σ 164 101 ≤ σ 164 99) (hpre4 : zr σ = 1) (hpre5 : zBt σ ≤ zHt σ) : zCt l E yX12_qPartTold cX12_qPartTold 6 none 5 zNC zNC 0 0 σ [.ref (E.1 + 164)] (fun r σ' => zInv σ' ∧ zOn zQ2 σ σ' ∧ (σ' 164 2 ≤ σ 164 3) ∧ (σ 164 2 ≤ σ' 164 2) ∧ (σ' 164 101 = σ 164 101) ∧ (σ 164 101 ≤ σ' 164 99) ∧ (σ' 164 97 + σ' 164 99 + σ 164 2 ≤ σ 164 97 + σ 164 99 + σ' 164 2 + 1) ∧ (σ' 164 5 = 0 → σ' 164 97 + σ' 164 99 + σ 164 2 ≤ σ 164 97 + σ 164 99 + σ' 164 2) ∧ (σ' 164 5 = 0 → zr σ' = 1 ∧ zHt σ' - zBt σ' = zHt σ - zBt σ + 1 ∧ σ 164 2 < σ' 164 2) ∧ (zBb σ' = zBb σ ∧ zSb σ' = zSb σ)) := by
  refine zCt_of2 [some (.ref (E.1 + 164)), none, none, none, none, none] (by decide +kernel) (Nat.le_of_ble_eq_true rfl) rfl ?_
  intro X hE hX hR hL hN
  subst hE
  have hX : zok X cX12_qPartTold RX12 5 := hX
  have hF := zOn_rf zQ2 σ
  have hbn := zBt_nn σ
  have b1 := zv_46_2 hI zc_164
  have b2 := zv_46_3 hI zc_164
  have b3 := zv_46_5 hI zc_164
  have b4 := zv_46_97 hI zc_164
  have b5 := zv_46_99 hI zc_164
  have b6 := zv_46_101 hI zc_164
  refine zt_iconst (pc' := 1) hX dX12_qPartTold_0 rfl ?_
  refine zt_istore_n (pc' := 2) (lv' := [some (.ref (X.1.1 + 164)), some (.int (zI 1)), none, none, none, none]) hX dX12_qPartTold_1 rfl hL (by decide) rfl ?_
  have L_2_20 : ∀ (N : Nat) (x7 : Int) (s10 : zSto), 0 ≤ x7 → x7 ≤ 1 → zInv s10 → zOn zQ2 σ s10 → (σ 164 2 ≤ s10 164 2 ∧ s10 164 2 ≤ σ 164 3) → s10 164 3 = σ 164 3 → s10 164 101 = σ 164 101 → σ 164 101 ≤ s10 164 99 → s10 164 97 + s10 164 99 + σ 164 2 ≤ σ 164 97 + σ 164 99 + s10 164 2 + 1 → (s10 164 5 = 0 → s10 164 97 + s10 164 99 + σ 164 2 ≤ σ 164 97 + σ 164 99 + s10 164 2) → (s10 164 5 = 0 → zr s10 = 1 ∧ zHt s10 - zBt s10 = zHt σ - zBt σ) → (zBb s10 = zBb σ ∧ zSb s10 = zSb σ) → ((4 * (1601 - s10 164 2) + 2 * x7 + 1 - min (max (s10 164 5) (-(s10 164 5))) 1).toNat) < N → zF X s10 2 [some (.ref (X.1.1 + 164)), some (.int (zI x7)), none, none, none, none] [] := by
    intro N
    induction N with
    | zero =>
      intro x7 s10 h8 h9 hI11 hF12 g13 g14 g15 g16 g17 g18 g19 g20 hm22
      exact absurd hm22 (Nat.not_lt_zero _)
    | succ N ih23 =>
      intro x7 s10 h8 h9 hI11 hF12 g13 g14 g15 g16 g17 g18 g19 g20 hm22
      have b24 := zv_46_2 hI11 zc_164
      have b25 := zv_46_3 hI11 zc_164
      have b26 := zv_46_5 hI11 zc_164
      have b27 := zv_46_97 hI11 zc_164
      have b28 := zv_46_99 hI11 zc_164
      have b29 := zv_46_101 hI11 zc_164
      refine zt_iload_n (pc' := 3) hX dX12_qPartTold_2 rfl rfl ?_
      have J_186_29 : zF X s10 186 [some (.ref (X.1.1 + 164)), none, none, none, none, none] [] := by
        refine zt_aload_n (pc' := 187) hX dX12_qPartTold_186 rfl rfl ?_
        have b31 := zv_46_5 hI11 zc_164
        refine zt_get (pc' := 190) (v := .int (zI (s10 164 5))) hX dX12_qPartTold_187 rfl zf_X12_246 (by decide) zc_164 zs_46 rfl ?_
        refine zt_ifeq (pc' := 193) (tgt := 194) hX dX12_qPartTold_190 rfl (by decide) ⟨by omega, by omega⟩ (fun c32 => ?_) (fun c32 => ?_)
        · refine zt_aload_n (pc' := 195) hX dX12_qPartTold_194 rfl rfl ?_
          refine zt_iconst (pc' := 196) hX dX12_qPartTold_195 rfl ?_
          refine zt_bipush (pc' := 198) hX dX12_qPartTold_196 rfl (by decide) (by decide) ?_
          refine zt_cVi (pc' := 201) hX dX12_qPartTold_198 rfl zm_yX12_qWordOf zw_30_6 zc_164 (by decide) zs_46 (q := (RX12, TX12, 108)) rfl rfl (zc_X12_qWordOf _ _ s10 hI11 0 ⟨by omega, by omega⟩ 10 ⟨by omega, by omega⟩) rfl rfl (Nat.le_of_ble_eq_true rfl) (by decide) (fun r33 s34 hr35 hp36 => ?_)
          obtain ⟨hI37, hF38, q39, q40, z41, z42, z43⟩ := hp36
          obtain ⟨w44, -, w46, w47, w48, w49, -, w51⟩ := zE_q1 hF38
          have e52 := hF38 164 3 rfl
          have e53 := hF38 164 97 rfl
          have e54 := hF38 164 99 rfl
          have e55 := hF38 164 101 rfl
          have hF56 := zOn_tr hF12 hF38 zi_12
          have b57 := zv_46_2 hI37 zc_164
          have b58 := zv_46_3 hI37 zc_164
          have b59 := zv_46_5 hI37 zc_164
          have b60 := zv_46_97 hI37 zc_164
          have b61 := zv_46_99 hI37 zc_164
          have b62 := zv_46_101 hI37 zc_164
          refine zt_istore_n (pc' := 202) (lv' := [some (.ref (X.1.1 + 164)), none, some (.int (zI r33)), none, none, none]) hX dX12_qPartTold_201 rfl hL (by decide) rfl ?_
          refine zt_iload_n (pc' := 203) hX dX12_qPartTold_202 rfl rfl ?_
          refine zt_iconst (pc' := 204) hX dX12_qPartTold_203 rfl ?_
          have J_212_76 : ∀ (s63 : zSto), zInv s63 → zOn zQ2 σ s63 → s63 164 97 + s63 164 99 + σ 164 2 ≤ σ 164 97 + σ 164 99 + s63 164 2 → (r33 = -1 → s63 164 5 = 0) → (r33 ≠ -1 ∧ s63 164 5 = 0 → s63 164 97 + s63 164 99 + σ 164 2 + 1 ≤ σ 164 97 + σ 164 99 + s63 164 2) → (σ 164 2 ≤ s63 164 2 ∧ s63 164 2 ≤ σ 164 3) → s63 164 3 = σ 164 3 → s63 164 101 = σ 164 101 → σ 164 101 ≤ s63 164 99 → s63 164 97 + s63 164 99 + σ 164 2 ≤ σ 164 97 + σ 164 99 + s63 164 2 + 1 → (s63 164 5 = 0 → s63 164 97 + s63 164 99 + σ 164 2 ≤ σ 164 97 + σ 164 99 + s63 164 2) → (s63 164 5 = 0 → zr s63 = 1 ∧ zHt s63 - zBt s63 = zHt σ - zBt σ) → (zBb s63 = zBb σ ∧ zSb s63 = zSb σ) → zF X s63 212 [some (.ref (X.1.1 + 164)), none, some (.int (zI r33)), none, none, none] [] := by
            intro s63 hI64 hF65 g66 g67 g68 g69 g70 g71 g72 g73 g74 g75 g76
            have b78 := zv_46_2 hI64 zc_164
            have b79 := zv_46_3 hI64 zc_164
            have b80 := zv_46_5 hI64 zc_164
            have b81 := zv_46_97 hI64 zc_164
            have b82 := zv_46_99 hI64 zc_164
            have b83 := zv_46_101 hI64 zc_164
            refine zt_aload_n (pc' := 213) hX dX12_qPartTold_212 rfl rfl ?_
            refine zt_iload_n (pc' := 214) hX dX12_qPartTold_213 rfl rfl ?_
            refine zt_iconst (pc' := 215) hX dX12_qPartTold_214 rfl ?_
            have J_237_101 : ∀ (y84 : Int) (s87 : zSto), -2147483648 ≤ y84 → y84 ≤ 2147483647 → zInv s87 → zOn zQ2 σ s87 → s87 164 97 + s87 164 99 + σ 164 2 ≤ σ 164 97 + σ 164 99 + s87 164 2 → (s87 164 5 = 0 → (40 ≤ y84 ∧ y84 < 60) ∨ 1000 ≤ y84) → (s87 164 5 = 0 → s87 164 97 + s87 164 99 + σ 164 2 + 1 ≤ σ 164 97 + σ 164 99 + s87 164 2) → (s87 164 5 = 0 → σ 164 2 < s87 164 2) → (σ 164 2 ≤ s87 164 2 ∧ s87 164 2 ≤ σ 164 3) → s87 164 3 = σ 164 3 → s87 164 101 = σ 164 101 → σ 164 101 ≤ s87 164 99 → s87 164 97 + s87 164 99 + σ 164 2 ≤ σ 164 97 + σ 164 99 + s87 164 2 + 1 → (s87 164 5 = 0 → s87 164 97 + s87 164 99 + σ 164 2 ≤ σ 164 97 + σ 164 99 + s87 164 2) → (s87 164 5 = 0 → zr s87 = 1 ∧ zHt s87 - zBt s87 = zHt σ - zBt σ) → (zBb s87 = zBb σ ∧ zSb s87 = zSb σ) → zF X s87 237 [some (.ref (X.1.1 + 164)), none, none, none, none, none] [.int (zI y84), .ref (X.1.1 + 164)] := by
              intro y84 s87 h85 h86 hI88 hF89 g90 g91 g92 g93 g94 g95 g96 g97 g98 g99 g100 g101
              have b103 := zv_46_2 hI88 zc_164
              have b104 := zv_46_3 hI88 zc_164
              have b105 := zv_46_5 hI88 zc_164
              have b106 := zv_46_97 hI88 zc_164
              have b107 := zv_46_99 hI88 zc_164
              have b108 := zv_46_101 hI88 zc_164
              refine zt_cVv (pc' := 240) hX dX12_qPartTold_237 rfl zm_yX12_qCode zw_29_18 zc_164 (by decide) zs_46 (q := (RX12, TX12, 108)) rfl rfl (zc_X12_qCode _ _ s87 hI88 y84 ⟨by omega, by omega⟩ (by omega)) rfl rfl (Nat.le_of_ble_eq_true rfl) (by decide) (fun r109 s110 hr111 hp112 => ?_)
              obtain ⟨hI113, hF114, z115⟩ := hp112
              have e116 := hF114 164 2 rfl
              have e117 := hF114 164 3 rfl
              have e118 := hF114 164 5 rfl
              have e119 := hF114 164 101 rfl
              have hF120 := zOn_tr hF89 hF114 zi_52
              have b121 := zv_46_2 hI113 zc_164
              have b122 := zv_46_3 hI113 zc_164
              have b123 := zv_46_5 hI113 zc_164
              have b124 := zv_46_97 hI113 zc_164
              have b125 := zv_46_99 hI113 zc_164
              have b126 := zv_46_101 hI113 zc_164
              have h127 := zcd_h z115 (by omega)
              have h127r := zcd_ri z115 (by omega)
              have h127f := zcd_f z115
              have h127d : (40 ≤ y84 ∧ y84 < 60) ∨ 1000 ≤ y84 ∨ y84 = 13 → zdl y84 = 1 ∧ znd y84 = 0 := fun h => zdo h
              have h127n := zBt_nn s87
              refine zt_aload_n (pc' := 241) hX dX12_qPartTold_240 rfl rfl ?_
              refine zt_cVv (pc' := 244) hX dX12_qPartTold_241 rfl zm_yX12_qEndsPart zw_31_0 zc_164 (by decide) zs_46 (q := (RX12, TX12, 108)) rfl rfl (zc_X12_qEndsPart _ _ s110 hI113 (by omega) (by omega) (by omega)) rfl rfl (Nat.le_of_ble_eq_true rfl) (by decide) (fun r128 s129 hr130 hp131 => ?_)
              obtain ⟨hI132, hF133, z134, z135, z136, z137⟩ := hp131
              have e138 := hF133 164 2 rfl
              have e139 := hF133 164 3 rfl
              have e140 := hF133 164 5 rfl
              have e141 := hF133 164 101 rfl
              have hF142 := zOn_tr hF120 hF133 zi_52
              have b143 := zv_46_2 hI132 zc_164
              have b144 := zv_46_3 hI132 zc_164
              have b145 := zv_46_5 hI132 zc_164
              have b146 := zv_46_97 hI132 zc_164
              have b147 := zv_46_99 hI132 zc_164
              have b148 := zv_46_101 hI132 zc_164
              exact zt_vret hX hR dX12_qPartTold_244 ⟨hI132, hF142, by omega, by omega, by omega, by omega, by omega, by omega, by omega, by omega⟩
            refine zt_iceq (pc' := 218) (tgt := 225) hX dX12_qPartTold_215 rfl (by decide) ⟨by omega, by omega⟩ ⟨by omega, by omega⟩ (fun c149 => ?_) (fun c149 => ?_)
            · refine zt_sipush (pc' := 228) hX dX12_qPartTold_225 rfl (by decide) (by decide) ?_
              refine zt_aload_n (pc' := 229) hX dX12_qPartTold_228 rfl rfl ?_
              refine zt_iconst (pc' := 230) hX dX12_qPartTold_229 rfl ?_
              refine zt_sipush (pc' := 233) hX dX12_qPartTold_230 rfl (by decide) (by decide) ?_
              refine zt_cVi (pc' := 236) hX dX12_qPartTold_233 rfl zm_yX12_number zw_26_23 zc_164 (by decide) zs_46 (q := (RX12, TX12, 108)) rfl rfl (zc_X12_number _ _ s63 hI64 0 ⟨by omega, by omega⟩ 9999 ⟨by omega, by omega⟩) rfl rfl (Nat.le_of_ble_eq_true rfl) (by decide) (fun r150 s151 hr152 hp153 => ?_)
              obtain ⟨hI154, hF155, q156, q157, z158, z159, z160⟩ := hp153
              obtain ⟨w161, -, w163, w164, w165, w166, -, w168⟩ := zE_q1 hF155
              have e169 := hF155 164 3 rfl
              have e170 := hF155 164 97 rfl
              have e171 := hF155 164 99 rfl
              have e172 := hF155 164 101 rfl
              have hF173 := zOn_tr hF65 hF155 zi_12
              have b174 := zv_46_2 hI154 zc_164
              have b175 := zv_46_3 hI154 zc_164
              have b176 := zv_46_5 hI154 zc_164
              have b177 := zv_46_97 hI154 zc_164
              have b178 := zv_46_99 hI154 zc_164
              have b179 := zv_46_101 hI154 zc_164
              refine zt_iadd (pc' := 237) hX dX12_qPartTold_236 rfl ?_
              refine zt_wrap (fun r180 zr180 lr180 ur180 => ?_)
              replace zr180 := zwr_eq zr180
              refine zt_mask [true, false, false, false, false, false] rfl ?_
              exact J_237_101 r180 s151 (by omega) (by omega) hI154 hF173 (by omega) (by omega) (by omega) (by omega) (by omega) (by omega) (by omega) (by omega) (by omega) (by omega) (by omega) (by omega)
            · refine zt_bipush (pc' := 220) hX dX12_qPartTold_218 rfl (by decide) (by decide) ?_
              refine zt_iload_n (pc' := 221) hX dX12_qPartTold_220 rfl rfl ?_
              refine zt_iadd (pc' := 222) hX dX12_qPartTold_221 rfl ?_
              refine zt_goto (tgt := 237) hX dX12_qPartTold_222 (by decide) ?_
              refine zt_mask [true, false, false, false, false, false] rfl ?_
              exact J_237_101 (40 + r33) s63 (by omega) (by omega) hI64 hF65 (by omega) (by omega) (by omega) (by omega) (by omega) (by omega) (by omega) (by omega) (by omega) (by omega) (by omega) (by omega)
          refine zt_iceq (pc' := 207) (tgt := 212) hX dX12_qPartTold_204 rfl (by decide) ⟨by omega, by omega⟩ ⟨by omega, by omega⟩ (fun c181 => ?_) (fun c181 => ?_)
          · exact J_212_76 s34 hI37 hF56 (by omega) (by omega) (by omega) (by omega) (by omega) (by omega) (by omega) (by omega) (by omega) (by omega) (by omega)
          · refine zt_aload_n (pc' := 208) hX dX12_qPartTold_207 rfl rfl ?_
            refine zt_iload_n (pc' := 209) hX dX12_qPartTold_208 rfl rfl ?_
            refine zt_cVv (pc' := 212) hX dX12_qPartTold_209 rfl zm_yX12_qAsksWord zw_30_20 zc_164 (by decide) zs_46 (q := (RX12, TX12, 108)) rfl rfl (zc_X12_qAsksWord _ _ s34 hI37 r33 ⟨by omega, by omega⟩) rfl rfl (Nat.le_of_ble_eq_true rfl) (by decide) (fun r182 s183 hr184 hp185 => ?_)
            obtain ⟨hI186, hF187, z188, z189⟩ := hp185
            obtain ⟨w190, -, w192, w193, w194, w195, -, w197⟩ := zE_q1 hF187
            have e198 := hF187 164 3 rfl
            have e199 := hF187 164 97 rfl
            have e200 := hF187 164 99 rfl
            have e201 := hF187 164 101 rfl
            have hF202 := zOn_tr hF56 hF187 zi_12
            have b203 := zv_46_2 hI186 zc_164
            have b204 := zv_46_3 hI186 zc_164
            have b205 := zv_46_5 hI186 zc_164
            have b206 := zv_46_97 hI186 zc_164
            have b207 := zv_46_99 hI186 zc_164
            have b208 := zv_46_101 hI186 zc_164
            exact J_212_76 s183 hI186 hF202 (by omega) (by omega) (by omega) (by omega) (by omega) (by omega) (by omega) (by omega) (by omega) (by omega) (by omega)
        · exact zt_vret hX hR dX12_qPartTold_193 ⟨hI11, hF12, by omega, by omega, by omega, by omega, by omega, by omega, by omega, by omega⟩
      refine zt_ifeq (pc' := 6) (tgt := 186) hX dX12_qPartTold_3 rfl (by decide) ⟨by omega, by omega⟩ (fun c209 => ?_) (fun c209 => ?_)
      · refine zt_mask [true, false, false, false, false, false] rfl ?_
        exact J_186_29
      · refine zt_aload_n (pc' := 7) hX dX12_qPartTold_6 rfl rfl ?_
        have b210 := zv_46_5 hI11 zc_164
        refine zt_get (pc' := 10) (v := .int (zI (s10 164 5))) hX dX12_qPartTold_7 rfl zf_X12_246 (by decide) zc_164 zs_46 rfl ?_
        refine zt_ifne (pc' := 13) (tgt := 186) hX dX12_qPartTold_10 rfl (by decide) ⟨by omega, by omega⟩ (fun c211 => ?_) (fun c211 => ?_)
        · refine zt_mask [true, false, false, false, false, false] rfl ?_
          exact J_186_29
        · refine zt_aload_n (pc' := 14) hX dX12_qPartTold_13 rfl rfl ?_
          refine zt_cVi (pc' := 17) hX dX12_qPartTold_14 rfl zm_yX12_look zw_26_12 zc_164 (by decide) zs_46 (q := (RX12, TX12, 108)) rfl rfl (zc_X12_look _ _ s10 hI11 ) rfl rfl (Nat.le_of_ble_eq_true rfl) (by decide) (fun r212 s213 hr214 hp215 => ?_)
          obtain ⟨hI216, hF217, q218, q219, z220, z221, z222⟩ := hp215
          obtain ⟨w223, -, w225, w226, w227, w228, -, w230⟩ := zE_q1 hF217
          have e231 := hF217 164 3 rfl
          have e232 := hF217 164 97 rfl
          have e233 := hF217 164 99 rfl
          have e234 := hF217 164 101 rfl
          have hF235 := zOn_tr hF12 hF217 zi_12
          have b236 := zv_46_2 hI216 zc_164
          have b237 := zv_46_3 hI216 zc_164
          have b238 := zv_46_5 hI216 zc_164
          have b239 := zv_46_97 hI216 zc_164
          have b240 := zv_46_99 hI216 zc_164
          have b241 := zv_46_101 hI216 zc_164
          refine zt_istore_n (pc' := 18) (lv' := [some (.ref (X.1.1 + 164)), some (.int (zI x7)), some (.int (zI r212)), none, none, none]) hX dX12_qPartTold_17 rfl hL (by decide) rfl ?_
          refine zt_aload_n (pc' := 19) hX dX12_qPartTold_18 rfl rfl ?_
          refine zt_bipush (pc' := 21) hX dX12_qPartTold_19 rfl (by decide) (by decide) ?_
          refine zt_bipush (pc' := 23) hX dX12_qPartTold_21 rfl (by decide) (by decide) ?_
          refine zt_cVi (pc' := 26) hX dX12_qPartTold_23 rfl zm_yX12_qWordOf zw_30_6 zc_164 (by decide) zs_46 (q := (RX12, TX12, 108)) rfl rfl (zc_X12_qWordOf _ _ s213 hI216 10 ⟨by omega, by omega⟩ 11 ⟨by omega, by omega⟩) rfl rfl (Nat.le_of_ble_eq_true rfl) (by decide) (fun r242 s243 hr244 hp245 => ?_)
          obtain ⟨hI246, hF247, q248, q249, z250, z251, z252⟩ := hp245
          obtain ⟨w253, -, w255, w256, w257, w258, -, w260⟩ := zE_q1 hF247
          have e261 := hF247 164 3 rfl
          have e262 := hF247 164 97 rfl
          have e263 := hF247 164 99 rfl
          have e264 := hF247 164 101 rfl
          have hF265 := zOn_tr hF235 hF247 zi_12
          have b266 := zv_46_2 hI246 zc_164
          have b267 := zv_46_3 hI246 zc_164
          have b268 := zv_46_5 hI246 zc_164
          have b269 := zv_46_97 hI246 zc_164
          have b270 := zv_46_99 hI246 zc_164
          have b271 := zv_46_101 hI246 zc_164
          refine zt_istore_n (pc' := 27) (lv' := [some (.ref (X.1.1 + 164)), some (.int (zI x7)), some (.int (zI r212)), some (.int (zI r242)), none, none]) hX dX12_qPartTold_26 rfl hL (by decide) rfl ?_
          refine zt_iload_n (pc' := 28) hX dX12_qPartTold_27 rfl rfl ?_
          refine zt_bipush (pc' := 30) hX dX12_qPartTold_28 rfl (by decide) (by decide) ?_
          have J_183_288 : ∀ (x272 : Int) (s275 : zSto), 0 ≤ x272 → x272 ≤ 1 → zInv s275 → zOn zQ2 σ s275 → s10 164 2 ≤ s275 164 2 → (s275 164 5 ≠ 0 ∨ x272 = 0 ∨ s10 164 2 < s275 164 2) → (x272 ≤ 1 ∧ 0 ≤ x272) → (σ 164 2 ≤ s275 164 2 ∧ s275 164 2 ≤ σ 164 3) → s275 164 3 = σ 164 3 → s275 164 101 = σ 164 101 → σ 164 101 ≤ s275 164 99 → s275 164 97 + s275 164 99 + σ 164 2 ≤ σ 164 97 + σ 164 99 + s275 164 2 + 1 → (s275 164 5 = 0 → s275 164 97 + s275 164 99 + σ 164 2 ≤ σ 164 97 + σ 164 99 + s275 164 2) → (s275 164 5 = 0 → zr s275 = 1 ∧ zHt s275 - zBt s275 = zHt σ - zBt σ) → (zBb s275 = zBb σ ∧ zSb s275 = zSb σ) → zF X s275 183 [some (.ref (X.1.1 + 164)), some (.int (zI x272)), none, none, none, none] [] := by
            intro x272 s275 h273 h274 hI276 hF277 g278 g279 g280 g281 g282 g283 g284 g285 g286 g287 g288
            have b290 := zv_46_2 hI276 zc_164
            have b291 := zv_46_3 hI276 zc_164
            have b292 := zv_46_5 hI276 zc_164
            have b293 := zv_46_97 hI276 zc_164
            have b294 := zv_46_99 hI276 zc_164
            have b295 := zv_46_101 hI276 zc_164
            refine zt_goto (tgt := 2) hX dX12_qPartTold_183 (by decide) ?_
            exact ih23 x272 s275 (by omega) (by omega) hI276 hF277 (by omega) (by omega) (by omega) (by omega) (by omega) (by omega) (by omega) (by omega) (by omega)
          refine zt_icne (pc' := 33) (tgt := 56) hX dX12_qPartTold_30 rfl (by decide) ⟨by omega, by omega⟩ ⟨by omega, by omega⟩ (fun c296 => ?_) (fun c296 => ?_)
          · refine zt_aload_n (pc' := 57) hX dX12_qPartTold_56 rfl rfl ?_
            refine zt_aload_n (pc' := 58) hX dX12_qPartTold_57 rfl rfl ?_
            refine zt_get (pc' := 61) (v := .ref (X.1.1 + 221)) hX dX12_qPartTold_58 rfl zf_X12_192 (by decide) zc_164 zs_46 (zrf_of (zv_46_83 hI246 zc_164)) ?_
            refine zt_cVz (pc' := 64) hX dX12_qPartTold_61 rfl zm_yX12_isHere zw_26_8 zc_164 (by decide) zs_46 (q := (RX12, TX12, 108)) rfl rfl (zc_X12_isHere _ _ s243 hI246 221 103 3 zc_221 (by decide) zs_103 (by decide)) rfl rfl (Nat.le_of_ble_eq_true rfl) (by decide) (fun r297 s298 hr299 hp300 => ?_)
            obtain ⟨hI301, hF302, q303, q304, z305, z306, z307⟩ := hp300
            obtain ⟨w308, -, w310, w311, w312, w313, -, w315⟩ := zE_q1 hF302
            have e316 := hF302 164 3 rfl
            have e317 := hF302 164 97 rfl
            have e318 := hF302 164 99 rfl
            have e319 := hF302 164 101 rfl
            have hF320 := zOn_tr hF265 hF302 zi_12
            have b321 := zv_46_2 hI301 zc_164
            have b322 := zv_46_3 hI301 zc_164
            have b323 := zv_46_5 hI301 zc_164
            have b324 := zv_46_97 hI301 zc_164
            have b325 := zv_46_99 hI301 zc_164
            have b326 := zv_46_101 hI301 zc_164
            have J_78_339 : ∀ (s327 : zSto), zInv s327 → zOn zQ2 σ s327 → s327 164 5 = 0 → s10 164 2 ≤ s327 164 2 → (σ 164 2 ≤ s327 164 2 ∧ s327 164 2 ≤ σ 164 3) → s327 164 3 = σ 164 3 → s327 164 101 = σ 164 101 → σ 164 101 ≤ s327 164 99 → s327 164 97 + s327 164 99 + σ 164 2 ≤ σ 164 97 + σ 164 99 + s327 164 2 + 1 → (s327 164 5 = 0 → s327 164 97 + s327 164 99 + σ 164 2 ≤ σ 164 97 + σ 164 99 + s327 164 2) → (s327 164 5 = 0 → zr s327 = 1 ∧ zHt s327 - zBt s327 = zHt σ - zBt σ) → (zBb s327 = zBb σ ∧ zSb s327 = zSb σ) → zF X s327 78 [some (.ref (X.1.1 + 164)), some (.int (zI x7)), none, none, none, none] [] := by
              intro s327 hI328 hF329 g330 g331 g332 g333 g334 g335 g336 g337 g338 g339
              have b341 := zv_46_2 hI328 zc_164
              have b342 := zv_46_3 hI328 zc_164
              have b343 := zv_46_5 hI328 zc_164
              have b344 := zv_46_97 hI328 zc_164
              have b345 := zv_46_99 hI328 zc_164
              have b346 := zv_46_101 hI328 zc_164
              refine zt_aload_n (pc' := 79) hX dX12_qPartTold_78 rfl rfl ?_
              refine zt_aload_n (pc' := 80) hX dX12_qPartTold_79 rfl rfl ?_
              refine zt_get (pc' := 83) (v := .ref (X.1.1 + 221)) hX dX12_qPartTold_80 rfl zf_X12_192 (by decide) zc_164 zs_46 (zrf_of (zv_46_83 hI328 zc_164)) ?_
              refine zt_cVz (pc' := 86) hX dX12_qPartTold_83 rfl zm_yX12_takes zw_26_4 zc_164 (by decide) zs_46 (q := (RX12, TX12, 108)) rfl rfl (zc_X12_takes _ _ s327 hI328 221 103 3 zc_221 (by decide) zs_103 (by decide)) rfl rfl (Nat.le_of_ble_eq_true rfl) (by decide) (fun r347 s348 hr349 hp350 => ?_)
              obtain ⟨hI351, hF352, q353, q354, z355, z356, z357⟩ := hp350
              obtain ⟨w358, -, w360, w361, w362, w363, -, w365⟩ := zE_q1 hF352
              have e366 := hF352 164 3 rfl
              have e367 := hF352 164 97 rfl
              have e368 := hF352 164 99 rfl
              have e369 := hF352 164 101 rfl
              have hF370 := zOn_tr hF329 hF352 zi_12
              have b371 := zv_46_2 hI351 zc_164
              have b372 := zv_46_3 hI351 zc_164
              have b373 := zv_46_5 hI351 zc_164
              have b374 := zv_46_97 hI351 zc_164
              have b375 := zv_46_99 hI351 zc_164
              have b376 := zv_46_101 hI351 zc_164
              refine zt_istore (pc' := 88) (lv' := [some (.ref (X.1.1 + 164)), some (.int (zI x7)), none, none, some (.int (zI r347)), none]) hX dX12_qPartTold_86 rfl hL (by decide) rfl ?_
              refine zt_iload (pc' := 90) hX dX12_qPartTold_88 rfl rfl ?_
              have J_101_388 : ∀ (s377 : zSto), zInv s377 → zOn zQ2 σ s377 → (s377 164 5 = 0 → s377 164 97 + s377 164 99 + σ 164 2 + 2 ≤ σ 164 97 + σ 164 99 + s377 164 2 ∧ s10 164 2 < s377 164 2) → (σ 164 2 ≤ s377 164 2 ∧ s377 164 2 ≤ σ 164 3) → s377 164 3 = σ 164 3 → s377 164 101 = σ 164 101 → σ 164 101 ≤ s377 164 99 → s377 164 97 + s377 164 99 + σ 164 2 ≤ σ 164 97 + σ 164 99 + s377 164 2 + 1 → (s377 164 5 = 0 → s377 164 97 + s377 164 99 + σ 164 2 ≤ σ 164 97 + σ 164 99 + s377 164 2) → (s377 164 5 = 0 → zr s377 = 1 ∧ zHt s377 - zBt s377 = zHt σ - zBt σ) → (zBb s377 = zBb σ ∧ zSb s377 = zSb σ) → zF X s377 101 [some (.ref (X.1.1 + 164)), some (.int (zI x7)), none, none, some (.int (zI r347)), none] [] := by
                intro s377 hI378 hF379 g380 g381 g382 g383 g384 g385 g386 g387 g388
                have b390 := zv_46_2 hI378 zc_164
                have b391 := zv_46_3 hI378 zc_164
                have b392 := zv_46_5 hI378 zc_164
                have b393 := zv_46_97 hI378 zc_164
                have b394 := zv_46_99 hI378 zc_164
                have b395 := zv_46_101 hI378 zc_164
                refine zt_aload_n (pc' := 102) hX dX12_qPartTold_101 rfl rfl ?_
                refine zt_cVi (pc' := 105) hX dX12_qPartTold_102 rfl zm_yX12_look zw_26_12 zc_164 (by decide) zs_46 (q := (RX12, TX12, 108)) rfl rfl (zc_X12_look _ _ s377 hI378 ) rfl rfl (Nat.le_of_ble_eq_true rfl) (by decide) (fun r396 s397 hr398 hp399 => ?_)
                obtain ⟨hI400, hF401, q402, q403, z404, z405, z406⟩ := hp399
                obtain ⟨w407, -, w409, w410, w411, w412, -, w414⟩ := zE_q1 hF401
                have e415 := hF401 164 3 rfl
                have e416 := hF401 164 97 rfl
                have e417 := hF401 164 99 rfl
                have e418 := hF401 164 101 rfl
                have hF419 := zOn_tr hF379 hF401 zi_12
                have b420 := zv_46_2 hI400 zc_164
                have b421 := zv_46_3 hI400 zc_164
                have b422 := zv_46_5 hI400 zc_164
                have b423 := zv_46_97 hI400 zc_164
                have b424 := zv_46_99 hI400 zc_164
                have b425 := zv_46_101 hI400 zc_164
                refine zt_bipush (pc' := 107) hX dX12_qPartTold_105 rfl (by decide) (by decide) ?_
                have J_118_428 : ∀ (y426 : Int), -1 ≤ y426 → y426 ≤ 1600 → zF X s397 118 [some (.ref (X.1.1 + 164)), some (.int (zI x7)), none, none, some (.int (zI r347)), none] [.int (zI y426)] := by
                  intro y426 h427 h428
                  refine zt_istore (pc' := 120) (lv' := [some (.ref (X.1.1 + 164)), some (.int (zI x7)), none, none, some (.int (zI r347)), some (.int (zI y426))]) hX dX12_qPartTold_118 rfl hL (by decide) rfl ?_
                  refine zt_iload (pc' := 122) hX dX12_qPartTold_120 rfl rfl ?_
                  refine zt_iconst (pc' := 123) hX dX12_qPartTold_122 rfl ?_
                  have J_144_442 : ∀ (s430 : zSto), zInv s430 → zOn zQ2 σ s430 → (s430 164 5 = 0 → s430 164 97 + s430 164 99 + σ 164 2 + 1 ≤ σ 164 97 + σ 164 99 + s430 164 2 ∧ s10 164 2 < s430 164 2) → s10 164 2 ≤ s430 164 2 → (σ 164 2 ≤ s430 164 2 ∧ s430 164 2 ≤ σ 164 3) → s430 164 3 = σ 164 3 → s430 164 101 = σ 164 101 → σ 164 101 ≤ s430 164 99 → s430 164 97 + s430 164 99 + σ 164 2 ≤ σ 164 97 + σ 164 99 + s430 164 2 + 1 → (s430 164 5 = 0 → s430 164 97 + s430 164 99 + σ 164 2 ≤ σ 164 97 + σ 164 99 + s430 164 2) → (s430 164 5 = 0 → zr s430 = 1 ∧ zHt s430 - zBt s430 = zHt σ - zBt σ) → (zBb s430 = zBb σ ∧ zSb s430 = zSb σ) → zF X s430 144 [some (.ref (X.1.1 + 164)), some (.int (zI x7)), none, none, none, none] [] := by
                    intro s430 hI431 hF432 g433 g434 g435 g436 g437 g438 g439 g440 g441 g442
                    have b444 := zv_46_2 hI431 zc_164
                    have b445 := zv_46_3 hI431 zc_164
                    have b446 := zv_46_5 hI431 zc_164
                    have b447 := zv_46_97 hI431 zc_164
                    have b448 := zv_46_99 hI431 zc_164
                    have b449 := zv_46_101 hI431 zc_164
                    refine zt_aload_n (pc' := 145) hX dX12_qPartTold_144 rfl rfl ?_
                    refine zt_bipush (pc' := 147) hX dX12_qPartTold_145 rfl (by decide) (by decide) ?_
                    refine zt_cVv (pc' := 150) hX dX12_qPartTold_147 rfl zm_yX12_asksSign zw_27_10 zc_164 (by decide) zs_46 (q := (RX12, TX12, 108)) rfl rfl (zc_X12_asksSign _ _ s430 hI431 40 ⟨by omega, by omega⟩) rfl rfl (Nat.le_of_ble_eq_true rfl) (by decide) (fun r450 s451 hr452 hp453 => ?_)
                    obtain ⟨hI454, hF455, z456, z457⟩ := hp453
                    obtain ⟨w458, -, w460, w461, w462, w463, -, w465⟩ := zE_q1 hF455
                    have e466 := hF455 164 3 rfl
                    have e467 := hF455 164 97 rfl
                    have e468 := hF455 164 99 rfl
                    have e469 := hF455 164 101 rfl
                    have hF470 := zOn_tr hF432 hF455 zi_12
                    have b471 := zv_46_2 hI454 zc_164
                    have b472 := zv_46_3 hI454 zc_164
                    have b473 := zv_46_5 hI454 zc_164
                    have b474 := zv_46_97 hI454 zc_164
                    have b475 := zv_46_99 hI454 zc_164
                    have b476 := zv_46_101 hI454 zc_164
                    refine zt_goto (tgt := 183) hX dX12_qPartTold_150 (by decide) ?_
                    exact J_183_288 x7 s451 (by omega) (by omega) hI454 hF470 (by omega) (by omega) (by omega) (by omega) (by omega) (by omega) (by omega) (by omega) (by omega) (by omega) (by omega)
                  refine zt_iceq (pc' := 126) (tgt := 144) hX dX12_qPartTold_123 rfl (by decide) ⟨by omega, by omega⟩ ⟨by omega, by omega⟩ (fun c477 => ?_) (fun c477 => ?_)
                  · refine zt_mask [true, true, false, false, false, false] rfl ?_
                    exact J_144_442 s397 hI400 hF419 (by omega) (by omega) (by omega) (by omega) (by omega) (by omega) (by omega) (by omega) (by omega) (by omega)
                  · refine zt_aload_n (pc' := 127) hX dX12_qPartTold_126 rfl rfl ?_
                    refine zt_iload (pc' := 129) hX dX12_qPartTold_127 rfl rfl ?_
                    have J_139_480 : ∀ (y478 : Int), 21 ≤ y478 → y478 ≤ 22 → zF X s397 139 [some (.ref (X.1.1 + 164)), some (.int (zI x7)), none, none, none, some (.int (zI y426))] [.int (zI y478), .ref (X.1.1 + 164)] := by
                      intro y478 h479 h480
                      refine zt_iload (pc' := 141) hX dX12_qPartTold_139 rfl rfl ?_
                      refine zt_cVv (pc' := 144) hX dX12_qPartTold_141 rfl zm_yX12_qOpens zw_29_10 zc_164 (by decide) zs_46 (q := (RX12, TX12, 108)) rfl rfl (zc_X12_qOpens_S _ _ s397 hI400 y478 ⟨by omega, by omega⟩ y426 ⟨by omega, by omega⟩ (by omega) (by omega) (by omega)) rfl rfl (Nat.le_of_ble_eq_true rfl) (by decide) (fun r482 s483 hr484 hp485 => ?_)
                      obtain ⟨hI486, hF487, z488, z489, z490, z491, z492⟩ := hp485
                      have e493 := hF487 164 3 rfl
                      have hF494 := zOn_tr hF419 hF487 zi_id
                      have b495 := zv_46_2 hI486 zc_164
                      have b496 := zv_46_3 hI486 zc_164
                      have b497 := zv_46_5 hI486 zc_164
                      have b498 := zv_46_97 hI486 zc_164
                      have b499 := zv_46_99 hI486 zc_164
                      have b500 := zv_46_101 hI486 zc_164
                      refine zt_mask [true, true, false, false, false, false] rfl ?_
                      exact J_144_442 s483 hI486 hF494 (by omega) (by omega) (by omega) (by omega) (by omega) (by omega) (by omega) (by omega) (by omega) (by omega)
                    refine zt_ifeq (pc' := 132) (tgt := 137) hX dX12_qPartTold_129 rfl (by decide) ⟨by omega, by omega⟩ (fun c501 => ?_) (fun c501 => ?_)
                    · refine zt_bipush (pc' := 139) hX dX12_qPartTold_137 rfl (by decide) (by decide) ?_
                      refine zt_mask [true, true, false, false, false, true] rfl ?_
                      exact J_139_480 22 (by omega) (by omega)
                    · refine zt_bipush (pc' := 134) hX dX12_qPartTold_132 rfl (by decide) (by decide) ?_
                      refine zt_goto (tgt := 139) hX dX12_qPartTold_134 (by decide) ?_
                      refine zt_mask [true, true, false, false, false, true] rfl ?_
                      exact J_139_480 21 (by omega) (by omega)
                refine zt_icne (pc' := 110) (tgt := 117) hX dX12_qPartTold_107 rfl (by decide) ⟨by omega, by omega⟩ ⟨by omega, by omega⟩ (fun c502 => ?_) (fun c502 => ?_)
                · refine zt_iconst (pc' := 118) hX dX12_qPartTold_117 rfl ?_
                  exact J_118_428 (-1) (by omega) (by omega)
                · refine zt_aload_n (pc' := 111) hX dX12_qPartTold_110 rfl rfl ?_
                  have b503 := zv_46_2 hI400 zc_164
                  refine zt_get (pc' := 114) (v := .int (zI (s397 164 2))) hX dX12_qPartTold_111 rfl zf_X12_252 (by decide) zc_164 zs_46 rfl ?_
                  refine zt_goto (tgt := 118) hX dX12_qPartTold_114 (by decide) ?_
                  exact J_118_428 (s397 164 2) (by omega) (by omega)
              refine zt_ifne (pc' := 93) (tgt := 101) hX dX12_qPartTold_90 rfl (by decide) ⟨by omega, by omega⟩ (fun c504 => ?_) (fun c504 => ?_)
              · exact J_101_388 s348 hI351 hF370 (by omega) (by omega) (by omega) (by omega) (by omega) (by omega) (by omega) (by omega) (by omega)
              · refine zt_aload_n (pc' := 94) hX dX12_qPartTold_93 rfl rfl ?_
                refine zt_aload_n (pc' := 95) hX dX12_qPartTold_94 rfl rfl ?_
                refine zt_get (pc' := 98) (v := .ref (X.1.1 + 222)) hX dX12_qPartTold_95 rfl zf_X12_195 (by decide) zc_164 zs_46 (zrf_of (zv_46_84 hI351 zc_164)) ?_
                refine zt_cVv (pc' := 101) hX dX12_qPartTold_98 rfl zm_yX12_asks zw_26_0 zc_164 (by decide) zs_46 (q := (RX12, TX12, 108)) rfl rfl (zc_X12_asks _ _ s348 hI351 222 104 3 zc_222 (by decide) zs_104 (by decide)) rfl rfl (Nat.le_of_ble_eq_true rfl) (by decide) (fun r505 s506 hr507 hp508 => ?_)
                obtain ⟨hI509, hF510, z511, z512⟩ := hp508
                obtain ⟨w513, -, w515, w516, w517, w518, -, w520⟩ := zE_q1 hF510
                have e521 := hF510 164 3 rfl
                have e522 := hF510 164 97 rfl
                have e523 := hF510 164 99 rfl
                have e524 := hF510 164 101 rfl
                have hF525 := zOn_tr hF370 hF510 zi_12
                have b526 := zv_46_2 hI509 zc_164
                have b527 := zv_46_3 hI509 zc_164
                have b528 := zv_46_5 hI509 zc_164
                have b529 := zv_46_97 hI509 zc_164
                have b530 := zv_46_99 hI509 zc_164
                have b531 := zv_46_101 hI509 zc_164
                exact J_101_388 s506 hI509 hF525 (by omega) (by omega) (by omega) (by omega) (by omega) (by omega) (by omega) (by omega) (by omega)
            refine zt_ifne (pc' := 67) (tgt := 78) hX dX12_qPartTold_64 rfl (by decide) ⟨by omega, by omega⟩ (fun c532 => ?_) (fun c532 => ?_)
            · refine zt_mask [true, true, false, false, false, false] rfl ?_
              exact J_78_339 s298 hI301 hF320 (by omega) (by omega) (by omega) (by omega) (by omega) (by omega) (by omega) (by omega) (by omega) (by omega)
            · refine zt_aload_n (pc' := 68) hX dX12_qPartTold_67 rfl rfl ?_
              refine zt_aload_n (pc' := 69) hX dX12_qPartTold_68 rfl rfl ?_
              refine zt_get (pc' := 72) (v := .ref (X.1.1 + 222)) hX dX12_qPartTold_69 rfl zf_X12_195 (by decide) zc_164 zs_46 (zrf_of (zv_46_84 hI301 zc_164)) ?_
              refine zt_cVz (pc' := 75) hX dX12_qPartTold_72 rfl zm_yX12_isHere zw_26_8 zc_164 (by decide) zs_46 (q := (RX12, TX12, 108)) rfl rfl (zc_X12_isHere _ _ s298 hI301 222 104 3 zc_222 (by decide) zs_104 (by decide)) rfl rfl (Nat.le_of_ble_eq_true rfl) (by decide) (fun r533 s534 hr535 hp536 => ?_)
              obtain ⟨hI537, hF538, q539, q540, z541, z542, z543⟩ := hp536
              obtain ⟨w544, -, w546, w547, w548, w549, -, w551⟩ := zE_q1 hF538
              have e552 := hF538 164 3 rfl
              have e553 := hF538 164 97 rfl
              have e554 := hF538 164 99 rfl
              have e555 := hF538 164 101 rfl
              have hF556 := zOn_tr hF320 hF538 zi_12
              have b557 := zv_46_2 hI537 zc_164
              have b558 := zv_46_3 hI537 zc_164
              have b559 := zv_46_5 hI537 zc_164
              have b560 := zv_46_97 hI537 zc_164
              have b561 := zv_46_99 hI537 zc_164
              have b562 := zv_46_101 hI537 zc_164
              refine zt_ifeq (pc' := 78) (tgt := 153) hX dX12_qPartTold_75 rfl (by decide) ⟨by omega, by omega⟩ (fun c563 => ?_) (fun c563 => ?_)
              · refine zt_iload_n (pc' := 154) hX dX12_qPartTold_153 rfl rfl ?_
                refine zt_iconst (pc' := 155) hX dX12_qPartTold_154 rfl ?_
                refine zt_iceq (pc' := 158) (tgt := 181) hX dX12_qPartTold_155 rfl (by decide) ⟨by omega, by omega⟩ ⟨by omega, by omega⟩ (fun c564 => ?_) (fun c564 => ?_)
                · refine zt_iconst (pc' := 182) hX dX12_qPartTold_181 rfl ?_
                  refine zt_istore_n (pc' := 183) (lv' := [some (.ref (X.1.1 + 164)), some (.int (zI 0)), some (.int (zI r212)), some (.int (zI r242)), none, none]) hX dX12_qPartTold_182 rfl hL (by decide) rfl ?_
                  refine zt_mask [true, true, false, false, false, false] rfl ?_
                  exact J_183_288 0 s534 (by omega) (by omega) hI537 hF556 (by omega) (by omega) (by omega) (by omega) (by omega) (by omega) (by omega) (by omega) (by omega) (by omega) (by omega)
                · refine zt_aload_n (pc' := 159) hX dX12_qPartTold_158 rfl rfl ?_
                  refine zt_bipush (pc' := 161) hX dX12_qPartTold_159 rfl (by decide) (by decide) ?_
                  refine zt_iload_n (pc' := 162) hX dX12_qPartTold_161 rfl rfl ?_
                  refine zt_iadd (pc' := 163) hX dX12_qPartTold_162 rfl ?_
                  refine zt_bipush (pc' := 165) hX dX12_qPartTold_163 rfl (by decide) (by decide) ?_
                  refine zt_isub (pc' := 166) hX dX12_qPartTold_165 rfl ?_
                  refine zt_aload_n (pc' := 167) hX dX12_qPartTold_166 rfl rfl ?_
                  have b565 := zv_46_2 hI537 zc_164
                  refine zt_get (pc' := 170) (v := .int (zI (s534 164 2))) hX dX12_qPartTold_167 rfl zf_X12_252 (by decide) zc_164 zs_46 rfl ?_
                  refine zt_cVv (pc' := 173) hX dX12_qPartTold_170 rfl zm_yX12_qOpens zw_29_10 zc_164 (by decide) zs_46 (q := (RX12, TX12, 108)) rfl rfl (zc_X12_qOpens_S _ _ s534 hI537 ((60 + r242) - 10) ⟨by omega, by omega⟩ (s534 164 2) ⟨by omega, by omega⟩ (by omega) (by omega) (by omega)) rfl rfl (Nat.le_of_ble_eq_true rfl) (by decide) (fun r566 s567 hr568 hp569 => ?_)
                  obtain ⟨hI570, hF571, z572, z573, z574, z575, z576⟩ := hp569
                  have e577 := hF571 164 3 rfl
                  have hF578 := zOn_tr hF556 hF571 zi_id
                  have b579 := zv_46_2 hI570 zc_164
                  have b580 := zv_46_3 hI570 zc_164
                  have b581 := zv_46_5 hI570 zc_164
                  have b582 := zv_46_97 hI570 zc_164
                  have b583 := zv_46_99 hI570 zc_164
                  have b584 := zv_46_101 hI570 zc_164
                  refine zt_aload_n (pc' := 174) hX dX12_qPartTold_173 rfl rfl ?_
                  refine zt_iload_n (pc' := 175) hX dX12_qPartTold_174 rfl rfl ?_
                  refine zt_cVv (pc' := 178) hX dX12_qPartTold_175 rfl zm_yX12_qAsksWord zw_30_20 zc_164 (by decide) zs_46 (q := (RX12, TX12, 108)) rfl rfl (zc_X12_qAsksWord _ _ s567 hI570 r242 ⟨by omega, by omega⟩) rfl rfl (Nat.le_of_ble_eq_true rfl) (by decide) (fun r585 s586 hr587 hp588 => ?_)
                  obtain ⟨hI589, hF590, z591, z592⟩ := hp588
                  obtain ⟨w593, -, w595, w596, w597, w598, -, w600⟩ := zE_q1 hF590
                  have e601 := hF590 164 3 rfl
                  have e602 := hF590 164 97 rfl
                  have e603 := hF590 164 99 rfl
                  have e604 := hF590 164 101 rfl
                  have hF605 := zOn_tr hF578 hF590 zi_12
                  have b606 := zv_46_2 hI589 zc_164
                  have b607 := zv_46_3 hI589 zc_164
                  have b608 := zv_46_5 hI589 zc_164
                  have b609 := zv_46_97 hI589 zc_164
                  have b610 := zv_46_99 hI589 zc_164
                  have b611 := zv_46_101 hI589 zc_164
                  refine zt_goto (tgt := 183) hX dX12_qPartTold_178 (by decide) ?_
                  refine zt_mask [true, true, false, false, false, false] rfl ?_
                  exact J_183_288 x7 s586 (by omega) (by omega) hI589 hF605 (by omega) (by omega) (by omega) (by omega) (by omega) (by omega) (by omega) (by omega) (by omega) (by omega) (by omega)
              · refine zt_mask [true, true, false, false, false, false] rfl ?_
                exact J_78_339 s534 hI537 hF556 (by omega) (by omega) (by omega) (by omega) (by omega) (by omega) (by omega) (by omega) (by omega) (by omega)
          · refine zt_aload_n (pc' := 34) hX dX12_qPartTold_33 rfl rfl ?_
            refine zt_bipush (pc' := 36) hX dX12_qPartTold_34 rfl (by decide) (by decide) ?_
            refine zt_aload_n (pc' := 37) hX dX12_qPartTold_36 rfl rfl ?_
            have b612 := zv_46_2 hI246 zc_164
            refine zt_get (pc' := 40) (v := .int (zI (s243 164 2))) hX dX12_qPartTold_37 rfl zf_X12_252 (by decide) zc_164 zs_46 rfl ?_
            refine zt_cVv (pc' := 43) hX dX12_qPartTold_40 rfl zm_yX12_qOpens zw_29_10 zc_164 (by decide) zs_46 (q := (RX12, TX12, 108)) rfl rfl (zc_X12_qOpens_S _ _ s243 hI246 20 ⟨by omega, by omega⟩ (s243 164 2) ⟨by omega, by omega⟩ (by omega) (by omega) (by omega)) rfl rfl (Nat.le_of_ble_eq_true rfl) (by decide) (fun r613 s614 hr615 hp616 => ?_)
            obtain ⟨hI617, hF618, z619, z620, z621, z622, z623⟩ := hp616
            have e624 := hF618 164 3 rfl
            have hF625 := zOn_tr hF265 hF618 zi_id
            have b626 := zv_46_2 hI617 zc_164
            have b627 := zv_46_3 hI617 zc_164
            have b628 := zv_46_5 hI617 zc_164
            have b629 := zv_46_97 hI617 zc_164
            have b630 := zv_46_99 hI617 zc_164
            have b631 := zv_46_101 hI617 zc_164
            refine zt_aload_n (pc' := 44) hX dX12_qPartTold_43 rfl rfl ?_
            refine zt_dup (pc' := 45) hX dX12_qPartTold_44 rfl rfl ?_
            have b632 := zv_46_2 hI617 zc_164
            refine zt_get (pc' := 48) (v := .int (zI (s614 164 2))) hX dX12_qPartTold_45 rfl zf_X12_252 (by decide) zc_164 zs_46 rfl ?_
            refine zt_iconst (pc' := 49) hX dX12_qPartTold_48 rfl ?_
            refine zt_iadd (pc' := 50) hX dX12_qPartTold_49 rfl ?_
            refine zt_put (pc' := 53) (x := ((s614 164 2) + 1)) hX dX12_qPartTold_50 rfl zf_X12_252 (by decide) zc_164 zs_46 (fun q hq => by cases hq; rfl) rfl rfl rfl ?_
            generalize hs634 : zset s614 164 2 ((s614 164 2) + 1) = s633
            have hI635 : zInv s633 := hs634 ▸ zp_46_2 hI617 zc_164 ⟨by omega, by omega⟩
            have hF636 : zOn zQ2 σ s633 := hs634 ▸ zOn_set hF625 (by decide)
            obtain ⟨w637, -, w639, w640, w641, w642, -, w644⟩ := zE_set hs634 (by decide)
            have e645 : s633 164 2 = ((s614 164 2) + 1) := by rw [← hs634]; exact zset_s
            have e646 : s633 164 3 = s614 164 3 := by rw [← hs634]; exact zset_j (by decide)
            have e647 : s633 164 5 = s614 164 5 := by rw [← hs634]; exact zset_j (by decide)
            have e648 : s633 164 97 = s614 164 97 := by rw [← hs634]; exact zset_j (by decide)
            have e649 : s633 164 99 = s614 164 99 := by rw [← hs634]; exact zset_j (by decide)
            have e650 : s633 164 101 = s614 164 101 := by rw [← hs634]; exact zset_j (by decide)
            refine zt_goto (tgt := 183) hX dX12_qPartTold_53 (by decide) ?_
            refine zt_mask [true, true, false, false, false, false] rfl ?_
            exact J_183_288 x7 s633 (by omega) (by omega) hI635 hF636 (by omega) (by omega) (by omega) (by omega) (by omega) (by omega) (by omega) (by omega) (by omega) (by omega) (by omega)
  exact L_2_20 _ 1 σ (by omega) (by omega) hI hF (by omega) (by omega) (by omega) (by omega) (by omega) (by omega) (by omega) (by omega) (Nat.lt_succ_self _)

set_option maxRecDepth 100000 in
set_option maxHeartbeats 4000000 in
theorem zc_X12_qGoesOn (l : Launch) (E : zEN) (σ : zSto) (hI : zInv σ) (hpre0 : σ 164 5 = 0) (hpre1 : σ 164 2 ≤ σ 164 3) (hpre2 : σ 164 97 + σ 164 99 ≤ σ 164 2) (hpre3 : σ 164 101 ≤ σ 164 99) (hpre4 : zr σ = 1) (hpre5 : zBt σ + 1 ≤ zHt σ) : zCt l E yX12_qGoesOn cX12_qGoesOn 2 (some .boolean) 3 zNC zNC 0 0 σ [.ref (E.1 + 164)] (fun r σ' => zInv σ' ∧ zOn zQ2 σ σ' ∧ 0 ≤ r ∧ r ≤ 1 ∧ (σ' 164 2 ≤ σ 164 3) ∧ (σ 164 2 ≤ σ' 164 2) ∧ (σ' 164 101 = σ 164 101) ∧ (σ 164 101 ≤ σ' 164 99) ∧ (σ' 164 97 + σ' 164 99 + σ 164 2 ≤ σ 164 97 + σ 164 99 + σ' 164 2) ∧ (r = 1 → σ' 164 5 = 0) ∧ (σ' 164 5 = 0 → zr σ' = 1 ∧ zHt σ' - zBt σ' + r = zHt σ - zBt σ) ∧ (r = 0 ∧ σ' 164 5 = 0 → ztb σ' = -1) ∧ (zBb σ' = zBb σ ∧ zSb σ' = zSb σ)) := by
  refine zCt_of2 [some (.ref (E.1 + 164)), none] (by decide +kernel) (Nat.le_of_ble_eq_true rfl) rfl ?_
  intro X hE hX hR hL hN
  subst hE
  have hX : zok X cX12_qGoesOn RX12 3 := hX
  have hF := zOn_rf zQ2 σ
  have b1 := zv_46_2 hI zc_164
  have b2 := zv_46_3 hI zc_164
  have b3 := zv_46_5 hI zc_164
  have b4 := zv_46_97 hI zc_164
  have b5 := zv_46_99 hI zc_164
  have b6 := zv_46_101 hI zc_164
  have L_0_17 : ∀ (N : Nat) (s7 : zSto), zInv s7 → zOn zQ2 σ s7 → (σ 164 2 ≤ s7 164 2 ∧ s7 164 2 ≤ σ 164 3) → s7 164 3 = σ 164 3 → s7 164 101 = σ 164 101 → σ 164 101 ≤ s7 164 99 → s7 164 5 = 0 → s7 164 97 + s7 164 99 + σ 164 2 ≤ σ 164 97 + σ 164 99 + s7 164 2 → (zr s7 = 1 ∧ zHt s7 - zBt s7 = zHt σ - zBt σ) → (zBb s7 = zBb σ ∧ zSb s7 = zSb σ) → ((1601 - s7 164 2).toNat) < N → zF X s7 0 [some (.ref (X.1.1 + 164)), none] [] := by
    intro N
    induction N with
    | zero =>
      intro s7 hI8 hF9 g10 g11 g12 g13 g14 g15 g16 g17 hm19
      exact absurd hm19 (Nat.not_lt_zero _)
    | succ N ih20 =>
      intro s7 hI8 hF9 g10 g11 g12 g13 g14 g15 g16 g17 hm19
      have b21 := zv_46_2 hI8 zc_164
      have b22 := zv_46_3 hI8 zc_164
      have b23 := zv_46_5 hI8 zc_164
      have b24 := zv_46_97 hI8 zc_164
      have b25 := zv_46_99 hI8 zc_164
      have b26 := zv_46_101 hI8 zc_164
      refine zt_aload_n (pc' := 1) hX dX12_qGoesOn_0 rfl rfl ?_
      have b27 := zv_46_5 hI8 zc_164
      refine zt_get (pc' := 4) (v := .int (zI (s7 164 5))) hX dX12_qGoesOn_1 rfl zf_X12_246 (by decide) zc_164 zs_46 rfl ?_
      have J_122_38 : ∀ (s28 : zSto), zInv s28 → zOn zQ2 σ s28 → (σ 164 2 ≤ s28 164 2 ∧ s28 164 2 ≤ σ 164 3) → s28 164 3 = σ 164 3 → s28 164 101 = σ 164 101 → σ 164 101 ≤ s28 164 99 → s28 164 5 = 0 → s28 164 97 + s28 164 99 + σ 164 2 ≤ σ 164 97 + σ 164 99 + s28 164 2 → (zr s28 = 1 ∧ zHt s28 - zBt s28 = zHt σ - zBt σ) → (zBb s28 = zBb σ ∧ zSb s28 = zSb σ) → zF X s28 122 [some (.ref (X.1.1 + 164)), none] [] := by
        intro s28 hI29 hF30 g31 g32 g33 g34 g35 g36 g37 g38
        have b40 := zv_46_2 hI29 zc_164
        have b41 := zv_46_3 hI29 zc_164
        have b42 := zv_46_5 hI29 zc_164
        have b43 := zv_46_97 hI29 zc_164
        have b44 := zv_46_99 hI29 zc_164
        have b45 := zv_46_101 hI29 zc_164
        refine zt_aload_n (pc' := 123) hX dX12_qGoesOn_122 rfl rfl ?_
        refine zt_bipush (pc' := 125) hX dX12_qGoesOn_123 rfl (by decide) (by decide) ?_
        refine zt_cVz (pc' := 128) hX dX12_qGoesOn_125 rfl zm_yX12_takesSign zw_27_14 zc_164 (by decide) zs_46 (q := (RX12, TX12, 108)) rfl rfl (zc_X12_takesSign _ _ s28 hI29 42 ⟨by omega, by omega⟩) rfl rfl (Nat.le_of_ble_eq_true rfl) (by decide) (fun r46 s47 hr48 hp49 => ?_)
        obtain ⟨hI50, hF51, q52, q53, z54, z55, z56⟩ := hp49
        obtain ⟨w57, -, w59, w60, w61, w62, -, w64⟩ := zE_q1 hF51
        have e65 := hF51 164 3 rfl
        have e66 := hF51 164 97 rfl
        have e67 := hF51 164 99 rfl
        have e68 := hF51 164 101 rfl
        have hF69 := zOn_tr hF30 hF51 zi_12
        have b70 := zv_46_2 hI50 zc_164
        have b71 := zv_46_3 hI50 zc_164
        have b72 := zv_46_5 hI50 zc_164
        have b73 := zv_46_97 hI50 zc_164
        have b74 := zv_46_99 hI50 zc_164
        have b75 := zv_46_101 hI50 zc_164
        have J_140_88 : ∀ (s76 : zSto), zInv s76 → zOn zQ2 σ s76 → s76 164 97 + s76 164 99 + σ 164 2 + 1 ≤ σ 164 97 + σ 164 99 + s76 164 2 → 1 ≤ s76 164 2 → (σ 164 2 ≤ s76 164 2 ∧ s76 164 2 ≤ σ 164 3) → s76 164 3 = σ 164 3 → s76 164 101 = σ 164 101 → σ 164 101 ≤ s76 164 99 → s76 164 5 = 0 → s76 164 97 + s76 164 99 + σ 164 2 ≤ σ 164 97 + σ 164 99 + s76 164 2 → (zr s76 = 1 ∧ zHt s76 - zBt s76 = zHt σ - zBt σ) → (zBb s76 = zBb σ ∧ zSb s76 = zSb σ) → zF X s76 140 [some (.ref (X.1.1 + 164)), none] [] := by
          intro s76 hI77 hF78 g79 g80 g81 g82 g83 g84 g85 g86 g87 g88
          have b90 := zv_46_2 hI77 zc_164
          have b91 := zv_46_3 hI77 zc_164
          have b92 := zv_46_5 hI77 zc_164
          have b93 := zv_46_97 hI77 zc_164
          have b94 := zv_46_99 hI77 zc_164
          have b95 := zv_46_101 hI77 zc_164
          refine zt_aload_n (pc' := 141) hX dX12_qGoesOn_140 rfl rfl ?_
          refine zt_get (pc' := 144) (v := .ref (X.1.1 + 165)) hX dX12_qGoesOn_141 rfl zf_X12_7 (by decide) zc_164 zs_46 (zrf_of (zv_46_0 hI77 zc_164)) ?_
          refine zt_aload_n (pc' := 145) hX dX12_qGoesOn_144 rfl rfl ?_
          have b96 := zv_46_2 hI77 zc_164
          refine zt_get (pc' := 148) (v := .int (zI (s76 164 2))) hX dX12_qGoesOn_145 rfl zf_X12_252 (by decide) zc_164 zs_46 rfl ?_
          refine zt_iconst (pc' := 149) hX dX12_qGoesOn_148 rfl ?_
          refine zt_isub (pc' := 150) hX dX12_qGoesOn_149 rfl ?_
          refine zt_iald (pc' := 151) hX dX12_qGoesOn_150 rfl (by decide) zc_165 zs_47 (by decide) ⟨by omega, by omega⟩ ?_
          generalize hv97 : s76 165 (((s76 164 2) - 1).toNat) = v97
          have bv97 : 0 ≤ v97 ∧ v97 ≤ 255 := hv97 ▸ zv_47 hI77 zc_165 _
          refine zt_bipush (pc' := 153) hX dX12_qGoesOn_151 rfl (by decide) (by decide) ?_
          have J_161_100 : ∀ (y98 : Int), 3 ≤ y98 → y98 ≤ 4 → zF X s76 161 [some (.ref (X.1.1 + 164)), none] [.int (zI y98)] := by
            intro y98 h99 h100
            refine zt_istore_n (pc' := 162) (lv' := [some (.ref (X.1.1 + 164)), some (.int (zI y98))]) hX dX12_qGoesOn_161 rfl hL (by decide) rfl ?_
            have L_162_113 : ∀ (N : Nat) (s102 : zSto), zInv s102 → zOn zQ2 σ s102 → s102 164 97 + s102 164 99 + σ 164 2 + 1 ≤ σ 164 97 + σ 164 99 + s102 164 2 → (σ 164 2 ≤ s102 164 2 ∧ s102 164 2 ≤ σ 164 3) → s102 164 3 = σ 164 3 → s102 164 101 = σ 164 101 → σ 164 101 ≤ s102 164 99 → s102 164 5 = 0 → s102 164 97 + s102 164 99 + σ 164 2 ≤ σ 164 97 + σ 164 99 + s102 164 2 → (zr s102 = 1 ∧ zHt s102 - zBt s102 = zHt σ - zBt σ) → (zBb s102 = zBb σ ∧ zSb s102 = zSb σ) → ((s102 164 99).toNat) < N → zF X s102 162 [some (.ref (X.1.1 + 164)), some (.int (zI y98))] [] := by
              intro N
              induction N with
              | zero =>
                intro s102 hI103 hF104 g105 g106 g107 g108 g109 g110 g111 g112 g113 hm115
                exact absurd hm115 (Nat.not_lt_zero _)
              | succ N ih116 =>
                intro s102 hI103 hF104 g105 g106 g107 g108 g109 g110 g111 g112 g113 hm115
                have b117 := zv_46_2 hI103 zc_164
                have b118 := zv_46_3 hI103 zc_164
                have b119 := zv_46_5 hI103 zc_164
                have b120 := zv_46_97 hI103 zc_164
                have b121 := zv_46_99 hI103 zc_164
                have b122 := zv_46_101 hI103 zc_164
                refine zt_aload_n (pc' := 163) hX dX12_qGoesOn_162 rfl rfl ?_
                refine zt_iconst (pc' := 164) hX dX12_qGoesOn_163 rfl ?_
                refine zt_cVz (pc' := 167) hX dX12_qGoesOn_164 rfl zm_yX12_qIsOn zw_31_23 zc_164 (by decide) zs_46 (q := (RX12, TX12, 108)) rfl rfl (zc_X12_qIsOn _ _ s102 hI103 3 ⟨by omega, by omega⟩) rfl rfl (Nat.le_of_ble_eq_true rfl) (by decide) (fun r123 s124 hr125 hp126 => ?_)
                obtain ⟨rfl, q127, q128, z129, z130⟩ := hp126
                have J_178_131 : (1 ≤ s102 164 99 ∧ 1 ≤ s102 235 (s102 164 99 - 1).toNat ∧ s102 235 (s102 164 99 - 1).toNat ≤ 4) → zF X s102 178 [some (.ref (X.1.1 + 164)), some (.int (zI y98))] [] := by
                  intro g131
                  refine zt_aload_n (pc' := 179) hX dX12_qGoesOn_178 rfl rfl ?_
                  have h133 := fun (h : 1 ≤ s102 164 99) (h2 : 1 ≤ s102 235 (s102 164 99 - 1).toNat ∧ s102 235 (s102 164 99 - 1).toNat ≤ 4) => zr_on (s := s102) rfl h (by omega) h2 (by omega)
                  refine zt_cVv (pc' := 182) hX dX12_qGoesOn_179 rfl zm_yX12_qDrops zw_31_4 zc_164 (by decide) zs_46 (q := (RX12, TX12, 108)) rfl rfl (zc_X12_qDrops_S _ _ s102 hI103 (by omega) (by omega) (by omega) (by omega) (by omega)) rfl rfl (Nat.le_of_ble_eq_true rfl) (by decide) (fun r134 s135 hr136 hp137 => ?_)
                  obtain ⟨hI138, hF139, z140, z141⟩ := hp137
                  have e142 := hF139 164 2 rfl
                  have e143 := hF139 164 3 rfl
                  have e144 := hF139 164 5 rfl
                  have e145 := hF139 164 101 rfl
                  have hF146 := zOn_tr hF104 hF139 zi_52
                  have b147 := zv_46_2 hI138 zc_164
                  have b148 := zv_46_3 hI138 zc_164
                  have b149 := zv_46_5 hI138 zc_164
                  have b150 := zv_46_97 hI138 zc_164
                  have b151 := zv_46_99 hI138 zc_164
                  have b152 := zv_46_101 hI138 zc_164
                  refine zt_goto (tgt := 162) hX dX12_qGoesOn_182 (by decide) ?_
                  exact ih116 s135 hI138 hF146 (by omega) (by omega) (by omega) (by omega) (by omega) (by omega) (by omega) (by omega) (by omega) (by omega)
                refine zt_ifne (pc' := 170) (tgt := 178) hX dX12_qGoesOn_167 rfl (by decide) ⟨by omega, by omega⟩ (fun c153 => ?_) (fun c153 => ?_)
                · exact J_178_131 (by omega)
                · refine zt_aload_n (pc' := 171) hX dX12_qGoesOn_170 rfl rfl ?_
                  refine zt_iconst (pc' := 172) hX dX12_qGoesOn_171 rfl ?_
                  refine zt_cVz (pc' := 175) hX dX12_qGoesOn_172 rfl zm_yX12_qIsOn zw_31_23 zc_164 (by decide) zs_46 (q := (RX12, TX12, 108)) rfl rfl (zc_X12_qIsOn _ _ s102 hI103 4 ⟨by omega, by omega⟩) rfl rfl (Nat.le_of_ble_eq_true rfl) (by decide) (fun r154 s155 hr156 hp157 => ?_)
                  obtain ⟨rfl, q158, q159, z160, z161⟩ := hp157
                  refine zt_ifeq (pc' := 178) (tgt := 185) hX dX12_qGoesOn_175 rfl (by decide) ⟨by omega, by omega⟩ (fun c162 => ?_) (fun c162 => ?_)
                  · refine zt_aload_n (pc' := 186) hX dX12_qGoesOn_185 rfl rfl ?_
                    refine zt_get (pc' := 189) (v := .ref (X.1.1 + 235)) hX dX12_qGoesOn_186 rfl zf_X12_234 (by decide) zc_164 zs_46 (zrf_of (zv_46_98 hI103 zc_164)) ?_
                    refine zt_aload_n (pc' := 190) hX dX12_qGoesOn_189 rfl rfl ?_
                    have b163 := zv_46_99 hI103 zc_164
                    refine zt_get (pc' := 193) (v := .int (zI (s102 164 99))) hX dX12_qGoesOn_190 rfl zf_X12_333 (by decide) zc_164 zs_46 rfl ?_
                    refine zt_iload_n (pc' := 194) hX dX12_qGoesOn_193 rfl rfl ?_
                    refine zt_iast (pc' := 195) hX dX12_qGoesOn_194 rfl (by decide) zc_235 zs_117 (by decide) ⟨by omega, by omega⟩ ?_
                    generalize hs165 : zset s102 235 ((s102 164 99).toNat) y98 = s164
                    have hI166 : zInv s164 := hs165 ▸ zp_117 hI103 zc_235 ((s102 164 99).toNat) ⟨by omega, by omega⟩
                    have hF167 : zOn zQ2 σ s164 := hs165 ▸ zOn_set hF104 (zq2_235 (by omega))
                    have e168 : s164 164 2 = s102 164 2 := by rw [← hs165]; exact zset_k (zne_r zc_164 zc_235 (by decide))
                    have e169 : s164 164 3 = s102 164 3 := by rw [← hs165]; exact zset_k (zne_r zc_164 zc_235 (by decide))
                    have e170 : s164 164 5 = s102 164 5 := by rw [← hs165]; exact zset_k (zne_r zc_164 zc_235 (by decide))
                    have e171 : s164 164 97 = s102 164 97 := by rw [← hs165]; exact zset_k (zne_r zc_164 zc_235 (by decide))
                    have e172 : s164 164 99 = s102 164 99 := by rw [← hs165]; exact zset_k (zne_r zc_164 zc_235 (by decide))
                    have e173 : s164 164 101 = s102 164 101 := by rw [← hs165]; exact zset_k (zne_r zc_164 zc_235 (by decide))
                    refine zt_aload_n (pc' := 196) hX dX12_qGoesOn_195 rfl rfl ?_
                    refine zt_dup (pc' := 197) hX dX12_qGoesOn_196 rfl rfl ?_
                    have b174 := zv_46_99 hI166 zc_164
                    refine zt_get (pc' := 200) (v := .int (zI (s164 164 99))) hX dX12_qGoesOn_197 rfl zf_X12_333 (by decide) zc_164 zs_46 rfl ?_
                    refine zt_iconst (pc' := 201) hX dX12_qGoesOn_200 rfl ?_
                    refine zt_iadd (pc' := 202) hX dX12_qGoesOn_201 rfl ?_
                    refine zt_put (pc' := 205) (x := ((s164 164 99) + 1)) hX dX12_qGoesOn_202 rfl zf_X12_333 (by decide) zc_164 zs_46 (fun q hq => by cases hq; rfl) rfl rfl rfl ?_
                    generalize hs176 : zset s164 164 99 ((s164 164 99) + 1) = s175
                    have hI177 : zInv s175 := hs176 ▸ zp_46_99 hI166 zc_164 ⟨by omega, by omega⟩
                    have hF178 : zOn zQ2 σ s175 := hs176 ▸ zOn_set hF167 (by decide)
                    have e179 : s175 164 2 = s164 164 2 := by rw [← hs176]; exact zset_j (by decide)
                    have e180 : s175 164 3 = s164 164 3 := by rw [← hs176]; exact zset_j (by decide)
                    have e181 : s175 164 5 = s164 164 5 := by rw [← hs176]; exact zset_j (by decide)
                    have e182 : s175 164 97 = s164 164 97 := by rw [← hs176]; exact zset_j (by decide)
                    have e183 : s175 164 99 = ((s164 164 99) + 1) := by rw [← hs176]; exact zset_s
                    have e184 : s175 164 101 = s164 164 101 := by rw [← hs176]; exact zset_j (by decide)
                    have h185 := zpush_S hs165 hs176 (by omega) (by omega) (by omega) (by omega)
                    have h185w := zw_v y98
                    refine zt_iconst (pc' := 206) hX dX12_qGoesOn_205 rfl ?_
                    exact zt_zret hX hR dX12_qGoesOn_206 ⟨by omega, by omega⟩ ⟨hI177, hF178, by omega, by omega, by omega, by omega, by omega, by omega, by omega, by omega, by omega, by omega, by omega⟩
                  · exact J_178_131 (by omega)
            exact L_162_113 _ s76 hI77 hF78 (by omega) (by omega) (by omega) (by omega) (by omega) (by omega) (by omega) (by omega) (by omega) (Nat.lt_succ_self _)
          refine zt_icne (pc' := 156) (tgt := 160) hX dX12_qGoesOn_153 rfl (by decide) ⟨by omega, by omega⟩ ⟨by omega, by omega⟩ (fun c186 => ?_) (fun c186 => ?_)
          · refine zt_iconst (pc' := 161) hX dX12_qGoesOn_160 rfl ?_
            exact J_161_100 4 (by omega) (by omega)
          · refine zt_iconst (pc' := 157) hX dX12_qGoesOn_156 rfl ?_
            refine zt_goto (tgt := 161) hX dX12_qGoesOn_157 (by decide) ?_
            exact J_161_100 3 (by omega) (by omega)
        refine zt_ifne (pc' := 131) (tgt := 140) hX dX12_qGoesOn_128 rfl (by decide) ⟨by omega, by omega⟩ (fun c187 => ?_) (fun c187 => ?_)
        · exact J_140_88 s47 hI50 hF69 (by omega) (by omega) (by omega) (by omega) (by omega) (by omega) (by omega) (by omega) (by omega) (by omega)
        · refine zt_aload_n (pc' := 132) hX dX12_qGoesOn_131 rfl rfl ?_
          refine zt_bipush (pc' := 134) hX dX12_qGoesOn_132 rfl (by decide) (by decide) ?_
          refine zt_cVz (pc' := 137) hX dX12_qGoesOn_134 rfl zm_yX12_takesSign zw_27_14 zc_164 (by decide) zs_46 (q := (RX12, TX12, 108)) rfl rfl (zc_X12_takesSign _ _ s47 hI50 47 ⟨by omega, by omega⟩) rfl rfl (Nat.le_of_ble_eq_true rfl) (by decide) (fun r188 s189 hr190 hp191 => ?_)
          obtain ⟨hI192, hF193, q194, q195, z196, z197, z198⟩ := hp191
          obtain ⟨w199, -, w201, w202, w203, w204, -, w206⟩ := zE_q1 hF193
          have e207 := hF193 164 3 rfl
          have e208 := hF193 164 97 rfl
          have e209 := hF193 164 99 rfl
          have e210 := hF193 164 101 rfl
          have hF211 := zOn_tr hF69 hF193 zi_12
          have b212 := zv_46_2 hI192 zc_164
          have b213 := zv_46_3 hI192 zc_164
          have b214 := zv_46_5 hI192 zc_164
          have b215 := zv_46_97 hI192 zc_164
          have b216 := zv_46_99 hI192 zc_164
          have b217 := zv_46_101 hI192 zc_164
          refine zt_ifeq (pc' := 140) (tgt := 207) hX dX12_qGoesOn_137 rfl (by decide) ⟨by omega, by omega⟩ (fun c218 => ?_) (fun c218 => ?_)
          · refine zt_aload_n (pc' := 208) hX dX12_qGoesOn_207 rfl rfl ?_
            refine zt_bipush (pc' := 210) hX dX12_qGoesOn_208 rfl (by decide) (by decide) ?_
            refine zt_cVz (pc' := 213) hX dX12_qGoesOn_210 rfl zm_yX12_takesSign zw_27_14 zc_164 (by decide) zs_46 (q := (RX12, TX12, 108)) rfl rfl (zc_X12_takesSign _ _ s189 hI192 43 ⟨by omega, by omega⟩) rfl rfl (Nat.le_of_ble_eq_true rfl) (by decide) (fun r219 s220 hr221 hp222 => ?_)
            obtain ⟨hI223, hF224, q225, q226, z227, z228, z229⟩ := hp222
            obtain ⟨w230, -, w232, w233, w234, w235, -, w237⟩ := zE_q1 hF224
            have e238 := hF224 164 3 rfl
            have e239 := hF224 164 97 rfl
            have e240 := hF224 164 99 rfl
            have e241 := hF224 164 101 rfl
            have hF242 := zOn_tr hF211 hF224 zi_12
            have b243 := zv_46_2 hI223 zc_164
            have b244 := zv_46_3 hI223 zc_164
            have b245 := zv_46_5 hI223 zc_164
            have b246 := zv_46_97 hI223 zc_164
            have b247 := zv_46_99 hI223 zc_164
            have b248 := zv_46_101 hI223 zc_164
            have J_225_261 : ∀ (s249 : zSto), zInv s249 → zOn zQ2 σ s249 → s249 164 97 + s249 164 99 + σ 164 2 + 1 ≤ σ 164 97 + σ 164 99 + s249 164 2 → 1 ≤ s249 164 2 → (σ 164 2 ≤ s249 164 2 ∧ s249 164 2 ≤ σ 164 3) → s249 164 3 = σ 164 3 → s249 164 101 = σ 164 101 → σ 164 101 ≤ s249 164 99 → s249 164 5 = 0 → s249 164 97 + s249 164 99 + σ 164 2 ≤ σ 164 97 + σ 164 99 + s249 164 2 → (zr s249 = 1 ∧ zHt s249 - zBt s249 = zHt σ - zBt σ) → (zBb s249 = zBb σ ∧ zSb s249 = zSb σ) → zF X s249 225 [some (.ref (X.1.1 + 164)), none] [] := by
              intro s249 hI250 hF251 g252 g253 g254 g255 g256 g257 g258 g259 g260 g261
              have b263 := zv_46_2 hI250 zc_164
              have b264 := zv_46_3 hI250 zc_164
              have b265 := zv_46_5 hI250 zc_164
              have b266 := zv_46_97 hI250 zc_164
              have b267 := zv_46_99 hI250 zc_164
              have b268 := zv_46_101 hI250 zc_164
              refine zt_aload_n (pc' := 226) hX dX12_qGoesOn_225 rfl rfl ?_
              refine zt_get (pc' := 229) (v := .ref (X.1.1 + 165)) hX dX12_qGoesOn_226 rfl zf_X12_7 (by decide) zc_164 zs_46 (zrf_of (zv_46_0 hI250 zc_164)) ?_
              refine zt_aload_n (pc' := 230) hX dX12_qGoesOn_229 rfl rfl ?_
              have b269 := zv_46_2 hI250 zc_164
              refine zt_get (pc' := 233) (v := .int (zI (s249 164 2))) hX dX12_qGoesOn_230 rfl zf_X12_252 (by decide) zc_164 zs_46 rfl ?_
              refine zt_iconst (pc' := 234) hX dX12_qGoesOn_233 rfl ?_
              refine zt_isub (pc' := 235) hX dX12_qGoesOn_234 rfl ?_
              refine zt_iald (pc' := 236) hX dX12_qGoesOn_235 rfl (by decide) zc_165 zs_47 (by decide) ⟨by omega, by omega⟩ ?_
              generalize hv270 : s249 165 (((s249 164 2) - 1).toNat) = v270
              have bv270 : 0 ≤ v270 ∧ v270 ≤ 255 := hv270 ▸ zv_47 hI250 zc_165 _
              refine zt_bipush (pc' := 238) hX dX12_qGoesOn_236 rfl (by decide) (by decide) ?_
              have J_246_273 : ∀ (y271 : Int), 1 ≤ y271 → y271 ≤ 2 → zF X s249 246 [some (.ref (X.1.1 + 164)), none] [.int (zI y271)] := by
                intro y271 h272 h273
                refine zt_istore_n (pc' := 247) (lv' := [some (.ref (X.1.1 + 164)), some (.int (zI y271))]) hX dX12_qGoesOn_246 rfl hL (by decide) rfl ?_
                have L_247_286 : ∀ (N : Nat) (s275 : zSto), zInv s275 → zOn zQ2 σ s275 → s275 164 97 + s275 164 99 + σ 164 2 + 1 ≤ σ 164 97 + σ 164 99 + s275 164 2 → (σ 164 2 ≤ s275 164 2 ∧ s275 164 2 ≤ σ 164 3) → s275 164 3 = σ 164 3 → s275 164 101 = σ 164 101 → σ 164 101 ≤ s275 164 99 → s275 164 5 = 0 → s275 164 97 + s275 164 99 + σ 164 2 ≤ σ 164 97 + σ 164 99 + s275 164 2 → (zr s275 = 1 ∧ zHt s275 - zBt s275 = zHt σ - zBt σ) → (zBb s275 = zBb σ ∧ zSb s275 = zSb σ) → ((s275 164 99).toNat) < N → zF X s275 247 [some (.ref (X.1.1 + 164)), some (.int (zI y271))] [] := by
                  intro N
                  induction N with
                  | zero =>
                    intro s275 hI276 hF277 g278 g279 g280 g281 g282 g283 g284 g285 g286 hm288
                    exact absurd hm288 (Nat.not_lt_zero _)
                  | succ N ih289 =>
                    intro s275 hI276 hF277 g278 g279 g280 g281 g282 g283 g284 g285 g286 hm288
                    have b290 := zv_46_2 hI276 zc_164
                    have b291 := zv_46_3 hI276 zc_164
                    have b292 := zv_46_5 hI276 zc_164
                    have b293 := zv_46_97 hI276 zc_164
                    have b294 := zv_46_99 hI276 zc_164
                    have b295 := zv_46_101 hI276 zc_164
                    refine zt_aload_n (pc' := 248) hX dX12_qGoesOn_247 rfl rfl ?_
                    refine zt_iconst (pc' := 249) hX dX12_qGoesOn_248 rfl ?_
                    refine zt_cVz (pc' := 252) hX dX12_qGoesOn_249 rfl zm_yX12_qIsOn zw_31_23 zc_164 (by decide) zs_46 (q := (RX12, TX12, 108)) rfl rfl (zc_X12_qIsOn _ _ s275 hI276 3 ⟨by omega, by omega⟩) rfl rfl (Nat.le_of_ble_eq_true rfl) (by decide) (fun r296 s297 hr298 hp299 => ?_)
                    obtain ⟨rfl, q300, q301, z302, z303⟩ := hp299
                    have J_279_304 : (1 ≤ s275 164 99 ∧ 1 ≤ s275 235 (s275 164 99 - 1).toNat ∧ s275 235 (s275 164 99 - 1).toNat ≤ 4) → zF X s275 279 [some (.ref (X.1.1 + 164)), some (.int (zI y271))] [] := by
                      intro g304
                      refine zt_aload_n (pc' := 280) hX dX12_qGoesOn_279 rfl rfl ?_
                      have h306 := fun (h : 1 ≤ s275 164 99) (h2 : 1 ≤ s275 235 (s275 164 99 - 1).toNat ∧ s275 235 (s275 164 99 - 1).toNat ≤ 4) => zr_on (s := s275) rfl h (by omega) h2 (by omega)
                      refine zt_cVv (pc' := 283) hX dX12_qGoesOn_280 rfl zm_yX12_qDrops zw_31_4 zc_164 (by decide) zs_46 (q := (RX12, TX12, 108)) rfl rfl (zc_X12_qDrops_S _ _ s275 hI276 (by omega) (by omega) (by omega) (by omega) (by omega)) rfl rfl (Nat.le_of_ble_eq_true rfl) (by decide) (fun r307 s308 hr309 hp310 => ?_)
                      obtain ⟨hI311, hF312, z313, z314⟩ := hp310
                      have e315 := hF312 164 2 rfl
                      have e316 := hF312 164 3 rfl
                      have e317 := hF312 164 5 rfl
                      have e318 := hF312 164 101 rfl
                      have hF319 := zOn_tr hF277 hF312 zi_52
                      have b320 := zv_46_2 hI311 zc_164
                      have b321 := zv_46_3 hI311 zc_164
                      have b322 := zv_46_5 hI311 zc_164
                      have b323 := zv_46_97 hI311 zc_164
                      have b324 := zv_46_99 hI311 zc_164
                      have b325 := zv_46_101 hI311 zc_164
                      refine zt_goto (tgt := 247) hX dX12_qGoesOn_283 (by decide) ?_
                      exact ih289 s308 hI311 hF319 (by omega) (by omega) (by omega) (by omega) (by omega) (by omega) (by omega) (by omega) (by omega) (by omega)
                    refine zt_ifne (pc' := 255) (tgt := 279) hX dX12_qGoesOn_252 rfl (by decide) ⟨by omega, by omega⟩ (fun c326 => ?_) (fun c326 => ?_)
                    · exact J_279_304 (by omega)
                    · refine zt_aload_n (pc' := 256) hX dX12_qGoesOn_255 rfl rfl ?_
                      refine zt_iconst (pc' := 257) hX dX12_qGoesOn_256 rfl ?_
                      refine zt_cVz (pc' := 260) hX dX12_qGoesOn_257 rfl zm_yX12_qIsOn zw_31_23 zc_164 (by decide) zs_46 (q := (RX12, TX12, 108)) rfl rfl (zc_X12_qIsOn _ _ s275 hI276 4 ⟨by omega, by omega⟩) rfl rfl (Nat.le_of_ble_eq_true rfl) (by decide) (fun r327 s328 hr329 hp330 => ?_)
                      obtain ⟨rfl, q331, q332, z333, z334⟩ := hp330
                      refine zt_ifne (pc' := 263) (tgt := 279) hX dX12_qGoesOn_260 rfl (by decide) ⟨by omega, by omega⟩ (fun c335 => ?_) (fun c335 => ?_)
                      · exact J_279_304 (by omega)
                      · refine zt_aload_n (pc' := 264) hX dX12_qGoesOn_263 rfl rfl ?_
                        refine zt_iconst (pc' := 265) hX dX12_qGoesOn_264 rfl ?_
                        refine zt_cVz (pc' := 268) hX dX12_qGoesOn_265 rfl zm_yX12_qIsOn zw_31_23 zc_164 (by decide) zs_46 (q := (RX12, TX12, 108)) rfl rfl (zc_X12_qIsOn _ _ s275 hI276 1 ⟨by omega, by omega⟩) rfl rfl (Nat.le_of_ble_eq_true rfl) (by decide) (fun r336 s337 hr338 hp339 => ?_)
                        obtain ⟨rfl, q340, q341, z342, z343⟩ := hp339
                        refine zt_ifne (pc' := 271) (tgt := 279) hX dX12_qGoesOn_268 rfl (by decide) ⟨by omega, by omega⟩ (fun c344 => ?_) (fun c344 => ?_)
                        · exact J_279_304 (by omega)
                        · refine zt_aload_n (pc' := 272) hX dX12_qGoesOn_271 rfl rfl ?_
                          refine zt_iconst (pc' := 273) hX dX12_qGoesOn_272 rfl ?_
                          refine zt_cVz (pc' := 276) hX dX12_qGoesOn_273 rfl zm_yX12_qIsOn zw_31_23 zc_164 (by decide) zs_46 (q := (RX12, TX12, 108)) rfl rfl (zc_X12_qIsOn _ _ s275 hI276 2 ⟨by omega, by omega⟩) rfl rfl (Nat.le_of_ble_eq_true rfl) (by decide) (fun r345 s346 hr347 hp348 => ?_)
                          obtain ⟨rfl, q349, q350, z351, z352⟩ := hp348
                          refine zt_ifeq (pc' := 279) (tgt := 286) hX dX12_qGoesOn_276 rfl (by decide) ⟨by omega, by omega⟩ (fun c353 => ?_) (fun c353 => ?_)
                          · refine zt_aload_n (pc' := 287) hX dX12_qGoesOn_286 rfl rfl ?_
                            refine zt_get (pc' := 290) (v := .ref (X.1.1 + 235)) hX dX12_qGoesOn_287 rfl zf_X12_234 (by decide) zc_164 zs_46 (zrf_of (zv_46_98 hI276 zc_164)) ?_
                            refine zt_aload_n (pc' := 291) hX dX12_qGoesOn_290 rfl rfl ?_
                            have b354 := zv_46_99 hI276 zc_164
                            refine zt_get (pc' := 294) (v := .int (zI (s275 164 99))) hX dX12_qGoesOn_291 rfl zf_X12_333 (by decide) zc_164 zs_46 rfl ?_
                            refine zt_iload_n (pc' := 295) hX dX12_qGoesOn_294 rfl rfl ?_
                            refine zt_iast (pc' := 296) hX dX12_qGoesOn_295 rfl (by decide) zc_235 zs_117 (by decide) ⟨by omega, by omega⟩ ?_
                            generalize hs356 : zset s275 235 ((s275 164 99).toNat) y271 = s355
                            have hI357 : zInv s355 := hs356 ▸ zp_117 hI276 zc_235 ((s275 164 99).toNat) ⟨by omega, by omega⟩
                            have hF358 : zOn zQ2 σ s355 := hs356 ▸ zOn_set hF277 (zq2_235 (by omega))
                            have e359 : s355 164 2 = s275 164 2 := by rw [← hs356]; exact zset_k (zne_r zc_164 zc_235 (by decide))
                            have e360 : s355 164 3 = s275 164 3 := by rw [← hs356]; exact zset_k (zne_r zc_164 zc_235 (by decide))
                            have e361 : s355 164 5 = s275 164 5 := by rw [← hs356]; exact zset_k (zne_r zc_164 zc_235 (by decide))
                            have e362 : s355 164 97 = s275 164 97 := by rw [← hs356]; exact zset_k (zne_r zc_164 zc_235 (by decide))
                            have e363 : s355 164 99 = s275 164 99 := by rw [← hs356]; exact zset_k (zne_r zc_164 zc_235 (by decide))
                            have e364 : s355 164 101 = s275 164 101 := by rw [← hs356]; exact zset_k (zne_r zc_164 zc_235 (by decide))
                            refine zt_aload_n (pc' := 297) hX dX12_qGoesOn_296 rfl rfl ?_
                            refine zt_dup (pc' := 298) hX dX12_qGoesOn_297 rfl rfl ?_
                            have b365 := zv_46_99 hI357 zc_164
                            refine zt_get (pc' := 301) (v := .int (zI (s355 164 99))) hX dX12_qGoesOn_298 rfl zf_X12_333 (by decide) zc_164 zs_46 rfl ?_
                            refine zt_iconst (pc' := 302) hX dX12_qGoesOn_301 rfl ?_
                            refine zt_iadd (pc' := 303) hX dX12_qGoesOn_302 rfl ?_
                            refine zt_put (pc' := 306) (x := ((s355 164 99) + 1)) hX dX12_qGoesOn_303 rfl zf_X12_333 (by decide) zc_164 zs_46 (fun q hq => by cases hq; rfl) rfl rfl rfl ?_
                            generalize hs367 : zset s355 164 99 ((s355 164 99) + 1) = s366
                            have hI368 : zInv s366 := hs367 ▸ zp_46_99 hI357 zc_164 ⟨by omega, by omega⟩
                            have hF369 : zOn zQ2 σ s366 := hs367 ▸ zOn_set hF358 (by decide)
                            have e370 : s366 164 2 = s355 164 2 := by rw [← hs367]; exact zset_j (by decide)
                            have e371 : s366 164 3 = s355 164 3 := by rw [← hs367]; exact zset_j (by decide)
                            have e372 : s366 164 5 = s355 164 5 := by rw [← hs367]; exact zset_j (by decide)
                            have e373 : s366 164 97 = s355 164 97 := by rw [← hs367]; exact zset_j (by decide)
                            have e374 : s366 164 99 = ((s355 164 99) + 1) := by rw [← hs367]; exact zset_s
                            have e375 : s366 164 101 = s355 164 101 := by rw [← hs367]; exact zset_j (by decide)
                            have h376 := zpush_S hs356 hs367 (by omega) (by omega) (by omega) (by omega)
                            have h376w := zw_v y271
                            refine zt_iconst (pc' := 307) hX dX12_qGoesOn_306 rfl ?_
                            exact zt_zret hX hR dX12_qGoesOn_307 ⟨by omega, by omega⟩ ⟨hI368, hF369, by omega, by omega, by omega, by omega, by omega, by omega, by omega, by omega, by omega, by omega, by omega⟩
                          · exact J_279_304 (by omega)
                exact L_247_286 _ s249 hI250 hF251 (by omega) (by omega) (by omega) (by omega) (by omega) (by omega) (by omega) (by omega) (by omega) (Nat.lt_succ_self _)
              refine zt_icne (pc' := 241) (tgt := 245) hX dX12_qGoesOn_238 rfl (by decide) ⟨by omega, by omega⟩ ⟨by omega, by omega⟩ (fun c377 => ?_) (fun c377 => ?_)
              · refine zt_iconst (pc' := 246) hX dX12_qGoesOn_245 rfl ?_
                exact J_246_273 2 (by omega) (by omega)
              · refine zt_iconst (pc' := 242) hX dX12_qGoesOn_241 rfl ?_
                refine zt_goto (tgt := 246) hX dX12_qGoesOn_242 (by decide) ?_
                exact J_246_273 1 (by omega) (by omega)
            refine zt_ifne (pc' := 216) (tgt := 225) hX dX12_qGoesOn_213 rfl (by decide) ⟨by omega, by omega⟩ (fun c378 => ?_) (fun c378 => ?_)
            · exact J_225_261 s220 hI223 hF242 (by omega) (by omega) (by omega) (by omega) (by omega) (by omega) (by omega) (by omega) (by omega) (by omega)
            · refine zt_aload_n (pc' := 217) hX dX12_qGoesOn_216 rfl rfl ?_
              refine zt_bipush (pc' := 219) hX dX12_qGoesOn_217 rfl (by decide) (by decide) ?_
              refine zt_cVz (pc' := 222) hX dX12_qGoesOn_219 rfl zm_yX12_takesSign zw_27_14 zc_164 (by decide) zs_46 (q := (RX12, TX12, 108)) rfl rfl (zc_X12_takesSign _ _ s220 hI223 45 ⟨by omega, by omega⟩) rfl rfl (Nat.le_of_ble_eq_true rfl) (by decide) (fun r379 s380 hr381 hp382 => ?_)
              obtain ⟨hI383, hF384, q385, q386, z387, z388, z389⟩ := hp382
              obtain ⟨w390, -, w392, w393, w394, w395, -, w397⟩ := zE_q1 hF384
              have e398 := hF384 164 3 rfl
              have e399 := hF384 164 97 rfl
              have e400 := hF384 164 99 rfl
              have e401 := hF384 164 101 rfl
              have hF402 := zOn_tr hF242 hF384 zi_12
              have b403 := zv_46_2 hI383 zc_164
              have b404 := zv_46_3 hI383 zc_164
              have b405 := zv_46_5 hI383 zc_164
              have b406 := zv_46_97 hI383 zc_164
              have b407 := zv_46_99 hI383 zc_164
              have b408 := zv_46_101 hI383 zc_164
              refine zt_ifeq (pc' := 225) (tgt := 308) hX dX12_qGoesOn_222 rfl (by decide) ⟨by omega, by omega⟩ (fun c409 => ?_) (fun c409 => ?_)
              · refine zt_aload_n (pc' := 309) hX dX12_qGoesOn_308 rfl rfl ?_
                refine zt_cVi (pc' := 312) hX dX12_qGoesOn_309 rfl zm_yX12_qBracket zw_31_12 zc_164 (by decide) zs_46 (q := (RX12, TX12, 108)) rfl rfl (zc_X12_qBracket _ _ s380 hI383 (by omega)) rfl rfl (Nat.le_of_ble_eq_true rfl) (by decide) (fun r410 s411 hr412 hp413 => ?_)
                obtain ⟨rfl, q414, q415, z416⟩ := hp413
                refine zt_bipush (pc' := 314) hX dX12_qGoesOn_312 rfl (by decide) (by decide) ?_
                have J_326_417 : (ztb s380 = 21 ∨ ztb s380 = 22) → zF X s380 326 [some (.ref (X.1.1 + 164)), none] [] := by
                  intro g417
                  refine zt_aload_n (pc' := 327) hX dX12_qGoesOn_326 rfl rfl ?_
                  refine zt_bipush (pc' := 329) hX dX12_qGoesOn_327 rfl (by decide) (by decide) ?_
                  refine zt_cVv (pc' := 332) hX dX12_qGoesOn_329 rfl zm_yX12_asksSign zw_27_10 zc_164 (by decide) zs_46 (q := (RX12, TX12, 108)) rfl rfl (zc_X12_asksSign _ _ s380 hI383 44 ⟨by omega, by omega⟩) rfl rfl (Nat.le_of_ble_eq_true rfl) (by decide) (fun r419 s420 hr421 hp422 => ?_)
                  obtain ⟨hI423, hF424, z425, z426⟩ := hp422
                  obtain ⟨w427, -, w429, w430, w431, w432, -, w434⟩ := zE_q1 hF424
                  have e435 := hF424 164 3 rfl
                  have e436 := hF424 164 97 rfl
                  have e437 := hF424 164 99 rfl
                  have e438 := hF424 164 101 rfl
                  have hF439 := zOn_tr hF402 hF424 zi_12
                  have b440 := zv_46_2 hI423 zc_164
                  have b441 := zv_46_3 hI423 zc_164
                  have b442 := zv_46_5 hI423 zc_164
                  have b443 := zv_46_97 hI423 zc_164
                  have b444 := zv_46_99 hI423 zc_164
                  have b445 := zv_46_101 hI423 zc_164
                  refine zt_aload_n (pc' := 333) hX dX12_qGoesOn_332 rfl rfl ?_
                  have b446 := zv_46_5 hI423 zc_164
                  refine zt_get (pc' := 336) (v := .int (zI (s420 164 5))) hX dX12_qGoesOn_333 rfl zf_X12_246 (by decide) zc_164 zs_46 rfl ?_
                  refine zt_ifeq (pc' := 339) (tgt := 341) hX dX12_qGoesOn_336 rfl (by decide) ⟨by omega, by omega⟩ (fun c447 => ?_) (fun c447 => ?_)
                  · refine zt_aload_n (pc' := 342) hX dX12_qGoesOn_341 rfl rfl ?_
                    refine zt_cVv (pc' := 345) hX dX12_qGoesOn_342 rfl zm_yX12_qDropsToBracket zw_31_19 zc_164 (by decide) zs_46 (q := (RX12, TX12, 108)) rfl rfl (zc_X12_qDropsToBracket _ _ s420 hI423 (by omega) (by omega) (by omega) (by omega)) rfl rfl (Nat.le_of_ble_eq_true rfl) (by decide) (fun r448 s449 hr450 hp451 => ?_)
                    obtain ⟨hI452, hF453, z454, z455, z456, z457⟩ := hp451
                    have e458 := hF453 164 2 rfl
                    have e459 := hF453 164 3 rfl
                    have e460 := hF453 164 5 rfl
                    have e461 := hF453 164 101 rfl
                    have hF462 := zOn_tr hF439 hF453 zi_52
                    have b463 := zv_46_2 hI452 zc_164
                    have b464 := zv_46_3 hI452 zc_164
                    have b465 := zv_46_5 hI452 zc_164
                    have b466 := zv_46_97 hI452 zc_164
                    have b467 := zv_46_99 hI452 zc_164
                    have b468 := zv_46_101 hI452 zc_164
                    refine zt_aload_n (pc' := 346) hX dX12_qGoesOn_345 rfl rfl ?_
                    refine zt_get (pc' := 349) (v := .ref (X.1.1 + 235)) hX dX12_qGoesOn_346 rfl zf_X12_234 (by decide) zc_164 zs_46 (zrf_of (zv_46_98 hI452 zc_164)) ?_
                    refine zt_aload_n (pc' := 350) hX dX12_qGoesOn_349 rfl rfl ?_
                    have b469 := zv_46_99 hI452 zc_164
                    refine zt_get (pc' := 353) (v := .int (zI (s449 164 99))) hX dX12_qGoesOn_350 rfl zf_X12_333 (by decide) zc_164 zs_46 rfl ?_
                    refine zt_iconst (pc' := 354) hX dX12_qGoesOn_353 rfl ?_
                    refine zt_isub (pc' := 355) hX dX12_qGoesOn_354 rfl ?_
                    refine zt_dup2 (pc' := 356) hX dX12_qGoesOn_355 rfl rfl rfl ?_
                    refine zt_iald (pc' := 357) hX dX12_qGoesOn_356 rfl (by decide) zc_235 zs_117 (by decide) ⟨by omega, by omega⟩ ?_
                    generalize hv470 : s449 235 (((s449 164 99) - 1).toNat) = v470
                    have bv470 : -2147483648 ≤ v470 ∧ v470 ≤ 2147483647 := hv470 ▸ zv_117 hI452 zc_235 _
                    refine zt_iconst (pc' := 358) hX dX12_qGoesOn_357 rfl ?_
                    refine zt_iadd (pc' := 359) hX dX12_qGoesOn_358 rfl ?_
                    refine zt_iast (pc' := 360) hX dX12_qGoesOn_359 rfl (by decide) zc_235 zs_117 (by decide) ⟨by omega, by omega⟩ ?_
                    generalize hs472 : zset s449 235 (((s449 164 99) - 1).toNat) (v470 + 2) = s471
                    have hI473 : zInv s471 := hs472 ▸ zp_117 hI452 zc_235 (((s449 164 99) - 1).toNat) ⟨by omega, by omega⟩
                    have hF474 : zOn zQ2 σ s471 := hs472 ▸ zOn_set hF462 (zq2_235 (by omega))
                    have e475 : s471 164 2 = s449 164 2 := by rw [← hs472]; exact zset_k (zne_r zc_164 zc_235 (by decide))
                    have e476 : s471 164 3 = s449 164 3 := by rw [← hs472]; exact zset_k (zne_r zc_164 zc_235 (by decide))
                    have e477 : s471 164 5 = s449 164 5 := by rw [← hs472]; exact zset_k (zne_r zc_164 zc_235 (by decide))
                    have e478 : s471 164 97 = s449 164 97 := by rw [← hs472]; exact zset_k (zne_r zc_164 zc_235 (by decide))
                    have e479 : s471 164 99 = s449 164 99 := by rw [← hs472]; exact zset_k (zne_r zc_164 zc_235 (by decide))
                    have e480 : s471 164 101 = s449 164 101 := by rw [← hs472]; exact zset_k (zne_r zc_164 zc_235 (by decide))
                    have h481 := zcomma hs472 (by omega) (by omega) (by omega) (by omega) (by omega)
                    refine zt_iconst (pc' := 361) hX dX12_qGoesOn_360 rfl ?_
                    exact zt_zret hX hR dX12_qGoesOn_361 ⟨by omega, by omega⟩ ⟨hI473, hF474, by omega, by omega, by omega, by omega, by omega, by omega, by omega, by omega, by omega, by omega, by omega⟩
                  · refine zt_iconst (pc' := 340) hX dX12_qGoesOn_339 rfl ?_
                    exact zt_zret hX hR dX12_qGoesOn_340 ⟨by omega, by omega⟩ ⟨hI423, hF439, by omega, by omega, by omega, by omega, by omega, by omega, by omega, by omega, by omega, by omega, by omega⟩
                refine zt_iceq (pc' := 317) (tgt := 326) hX dX12_qGoesOn_314 rfl (by decide) ⟨by omega, by omega⟩ ⟨by omega, by omega⟩ (fun c482 => ?_) (fun c482 => ?_)
                · exact J_326_417 (by omega)
                · refine zt_aload_n (pc' := 318) hX dX12_qGoesOn_317 rfl rfl ?_
                  refine zt_cVi (pc' := 321) hX dX12_qGoesOn_318 rfl zm_yX12_qBracket zw_31_12 zc_164 (by decide) zs_46 (q := (RX12, TX12, 108)) rfl rfl (zc_X12_qBracket _ _ s380 hI383 (by omega)) rfl rfl (Nat.le_of_ble_eq_true rfl) (by decide) (fun r483 s484 hr485 hp486 => ?_)
                  obtain ⟨rfl, q487, q488, z489⟩ := hp486
                  refine zt_bipush (pc' := 323) hX dX12_qGoesOn_321 rfl (by decide) (by decide) ?_
                  refine zt_icne (pc' := 326) (tgt := 362) hX dX12_qGoesOn_323 rfl (by decide) ⟨by omega, by omega⟩ ⟨by omega, by omega⟩ (fun c490 => ?_) (fun c490 => ?_)
                  · refine zt_aload_n (pc' := 363) hX dX12_qGoesOn_362 rfl rfl ?_
                    refine zt_cVi (pc' := 366) hX dX12_qGoesOn_363 rfl zm_yX12_qBracket zw_31_12 zc_164 (by decide) zs_46 (q := (RX12, TX12, 108)) rfl rfl (zc_X12_qBracket _ _ s380 hI383 (by omega)) rfl rfl (Nat.le_of_ble_eq_true rfl) (by decide) (fun r491 s492 hr493 hp494 => ?_)
                    obtain ⟨rfl, q495, q496, z497⟩ := hp494
                    refine zt_iconst (pc' := 367) hX dX12_qGoesOn_366 rfl ?_
                    refine zt_iceq (pc' := 370) (tgt := 386) hX dX12_qGoesOn_367 rfl (by decide) ⟨by omega, by omega⟩ ⟨by omega, by omega⟩ (fun c498 => ?_) (fun c498 => ?_)
                    · refine zt_iconst (pc' := 387) hX dX12_qGoesOn_386 rfl ?_
                      exact zt_zret hX hR dX12_qGoesOn_387 ⟨by omega, by omega⟩ ⟨hI383, hF402, by omega, by omega, by omega, by omega, by omega, by omega, by omega, by omega, by omega, by omega, by omega⟩
                    · refine zt_aload_n (pc' := 371) hX dX12_qGoesOn_370 rfl rfl ?_
                      have b499 := zv_46_5 hI383 zc_164
                      refine zt_get (pc' := 374) (v := .int (zI (s380 164 5))) hX dX12_qGoesOn_371 rfl zf_X12_246 (by decide) zc_164 zs_46 rfl ?_
                      refine zt_ifne (pc' := 377) (tgt := 386) hX dX12_qGoesOn_374 rfl (by decide) ⟨by omega, by omega⟩ (fun c500 => ?_) (fun c500 => ?_)
                      · refine zt_iconst (pc' := 387) hX dX12_qGoesOn_386 rfl ?_
                        exact zt_zret hX hR dX12_qGoesOn_387 ⟨by omega, by omega⟩ ⟨hI383, hF402, by omega, by omega, by omega, by omega, by omega, by omega, by omega, by omega, by omega, by omega, by omega⟩
                      · refine zt_aload_n (pc' := 378) hX dX12_qGoesOn_377 rfl rfl ?_
                        refine zt_iconst (pc' := 379) hX dX12_qGoesOn_378 rfl ?_
                        refine zt_aload_n (pc' := 380) hX dX12_qGoesOn_379 rfl rfl ?_
                        have b501 := zv_46_2 hI383 zc_164
                        refine zt_get (pc' := 383) (v := .int (zI (s380 164 2))) hX dX12_qGoesOn_380 rfl zf_X12_252 (by decide) zc_164 zs_46 rfl ?_
                        refine zt_cVv (pc' := 386) hX dX12_qGoesOn_383 rfl zm_yX12_fail zw_26_19 zc_164 (by decide) zs_46 (q := (RX12, TX12, 108)) rfl rfl (zc_X12_fail _ _ s380 hI383 1 ⟨by omega, by omega⟩ (s380 164 2) ⟨by omega, by omega⟩) rfl rfl (Nat.le_of_ble_eq_true rfl) (by decide) (fun r502 s503 hr504 hp505 => ?_)
                        obtain ⟨hI506, hF507, z508, z509⟩ := hp505
                        obtain ⟨w510, -, w512, w513, w514, w515, -, w517⟩ := zE_q1 hF507
                        have e518 := hF507 164 3 rfl
                        have e519 := hF507 164 97 rfl
                        have e520 := hF507 164 99 rfl
                        have e521 := hF507 164 101 rfl
                        have hF522 := zOn_tr hF402 hF507 zi_12
                        have b523 := zv_46_2 hI506 zc_164
                        have b524 := zv_46_3 hI506 zc_164
                        have b525 := zv_46_5 hI506 zc_164
                        have b526 := zv_46_97 hI506 zc_164
                        have b527 := zv_46_99 hI506 zc_164
                        have b528 := zv_46_101 hI506 zc_164
                        refine zt_iconst (pc' := 387) hX dX12_qGoesOn_386 rfl ?_
                        exact zt_zret hX hR dX12_qGoesOn_387 ⟨by omega, by omega⟩ ⟨hI506, hF522, by omega, by omega, by omega, by omega, by omega, by omega, by omega, by omega, by omega, by omega, by omega⟩
                  · exact J_326_417 (by omega)
              · exact J_225_261 s380 hI383 hF402 (by omega) (by omega) (by omega) (by omega) (by omega) (by omega) (by omega) (by omega) (by omega) (by omega)
          · exact J_140_88 s189 hI192 hF211 (by omega) (by omega) (by omega) (by omega) (by omega) (by omega) (by omega) (by omega) (by omega) (by omega)
      refine zt_ifne (pc' := 7) (tgt := 122) hX dX12_qGoesOn_4 rfl (by decide) ⟨by omega, by omega⟩ (fun c529 => ?_) (fun c529 => ?_)
      · exact J_122_38 s7 hI8 hF9 (by omega) (by omega) (by omega) (by omega) (by omega) (by omega) (by omega) (by omega)
      · refine zt_aload_n (pc' := 8) hX dX12_qGoesOn_7 rfl rfl ?_
        refine zt_cVi (pc' := 11) hX dX12_qGoesOn_8 rfl zm_yX12_look zw_26_12 zc_164 (by decide) zs_46 (q := (RX12, TX12, 108)) rfl rfl (zc_X12_look _ _ s7 hI8 ) rfl rfl (Nat.le_of_ble_eq_true rfl) (by decide) (fun r530 s531 hr532 hp533 => ?_)
        obtain ⟨hI534, hF535, q536, q537, z538, z539, z540⟩ := hp533
        obtain ⟨w541, -, w543, w544, w545, w546, -, w548⟩ := zE_q1 hF535
        have e549 := hF535 164 3 rfl
        have e550 := hF535 164 97 rfl
        have e551 := hF535 164 99 rfl
        have e552 := hF535 164 101 rfl
        have hF553 := zOn_tr hF9 hF535 zi_12
        have b554 := zv_46_2 hI534 zc_164
        have b555 := zv_46_3 hI534 zc_164
        have b556 := zv_46_5 hI534 zc_164
        have b557 := zv_46_97 hI534 zc_164
        have b558 := zv_46_99 hI534 zc_164
        have b559 := zv_46_101 hI534 zc_164
        refine zt_bipush (pc' := 13) hX dX12_qGoesOn_11 rfl (by decide) (by decide) ?_
        refine zt_icne (pc' := 16) (tgt := 122) hX dX12_qGoesOn_13 rfl (by decide) ⟨by omega, by omega⟩ ⟨by omega, by omega⟩ (fun c560 => ?_) (fun c560 => ?_)
        · exact J_122_38 s531 hI534 hF553 (by omega) (by omega) (by omega) (by omega) (by omega) (by omega) (by omega) (by omega)
        · refine zt_aload_n (pc' := 17) hX dX12_qGoesOn_16 rfl rfl ?_
          refine zt_cVi (pc' := 20) hX dX12_qGoesOn_17 rfl zm_yX12_qBracket zw_31_12 zc_164 (by decide) zs_46 (q := (RX12, TX12, 108)) rfl rfl (zc_X12_qBracket _ _ s531 hI534 (by omega)) rfl rfl (Nat.le_of_ble_eq_true rfl) (by decide) (fun r561 s562 hr563 hp564 => ?_)
          obtain ⟨rfl, q565, q566, z567⟩ := hp564
          refine zt_bipush (pc' := 22) hX dX12_qGoesOn_20 rfl (by decide) (by decide) ?_
          have J_43_568 : (ztb s531 = 20 ∨ ztb s531 = 23 ∨ ztb s531 = 24) → zF X s531 43 [some (.ref (X.1.1 + 164)), none] [] := by
            intro g568
            refine zt_aload_n (pc' := 44) hX dX12_qGoesOn_43 rfl rfl ?_
            refine zt_dup (pc' := 45) hX dX12_qGoesOn_44 rfl rfl ?_
            have b570 := zv_46_2 hI534 zc_164
            refine zt_get (pc' := 48) (v := .int (zI (s531 164 2))) hX dX12_qGoesOn_45 rfl zf_X12_252 (by decide) zc_164 zs_46 rfl ?_
            refine zt_iconst (pc' := 49) hX dX12_qGoesOn_48 rfl ?_
            refine zt_iadd (pc' := 50) hX dX12_qGoesOn_49 rfl ?_
            refine zt_put (pc' := 53) (x := ((s531 164 2) + 1)) hX dX12_qGoesOn_50 rfl zf_X12_252 (by decide) zc_164 zs_46 (fun q hq => by cases hq; rfl) rfl rfl rfl ?_
            generalize hs572 : zset s531 164 2 ((s531 164 2) + 1) = s571
            have hI573 : zInv s571 := hs572 ▸ zp_46_2 hI534 zc_164 ⟨by omega, by omega⟩
            have hF574 : zOn zQ2 σ s571 := hs572 ▸ zOn_set hF553 (by decide)
            obtain ⟨w575, -, w577, w578, w579, w580, -, w582⟩ := zE_set hs572 (by decide)
            have e583 : s571 164 2 = ((s531 164 2) + 1) := by rw [← hs572]; exact zset_s
            have e584 : s571 164 3 = s531 164 3 := by rw [← hs572]; exact zset_j (by decide)
            have e585 : s571 164 5 = s531 164 5 := by rw [← hs572]; exact zset_j (by decide)
            have e586 : s571 164 97 = s531 164 97 := by rw [← hs572]; exact zset_j (by decide)
            have e587 : s571 164 99 = s531 164 99 := by rw [← hs572]; exact zset_j (by decide)
            have e588 : s571 164 101 = s531 164 101 := by rw [← hs572]; exact zset_j (by decide)
            refine zt_aload_n (pc' := 54) hX dX12_qGoesOn_53 rfl rfl ?_
            refine zt_cVv (pc' := 57) hX dX12_qGoesOn_54 rfl zm_yX12_qDropsToBracket zw_31_19 zc_164 (by decide) zs_46 (q := (RX12, TX12, 108)) rfl rfl (zc_X12_qDropsToBracket _ _ s571 hI573 (by omega) (by omega) (by omega) (by omega)) rfl rfl (Nat.le_of_ble_eq_true rfl) (by decide) (fun r589 s590 hr591 hp592 => ?_)
            obtain ⟨hI593, hF594, z595, z596, z597, z598⟩ := hp592
            have e599 := hF594 164 2 rfl
            have e600 := hF594 164 3 rfl
            have e601 := hF594 164 5 rfl
            have e602 := hF594 164 101 rfl
            have hF603 := zOn_tr hF574 hF594 zi_52
            have b604 := zv_46_2 hI593 zc_164
            have b605 := zv_46_3 hI593 zc_164
            have b606 := zv_46_5 hI593 zc_164
            have b607 := zv_46_97 hI593 zc_164
            have b608 := zv_46_99 hI593 zc_164
            have b609 := zv_46_101 hI593 zc_164
            refine zt_aload_n (pc' := 58) hX dX12_qGoesOn_57 rfl rfl ?_
            refine zt_dup (pc' := 59) hX dX12_qGoesOn_58 rfl rfl ?_
            have b610 := zv_46_99 hI593 zc_164
            refine zt_get (pc' := 62) (v := .int (zI (s590 164 99))) hX dX12_qGoesOn_59 rfl zf_X12_333 (by decide) zc_164 zs_46 rfl ?_
            refine zt_iconst (pc' := 63) hX dX12_qGoesOn_62 rfl ?_
            refine zt_isub (pc' := 64) hX dX12_qGoesOn_63 rfl ?_
            refine zt_put (pc' := 67) (x := ((s590 164 99) - 1)) hX dX12_qGoesOn_64 rfl zf_X12_333 (by decide) zc_164 zs_46 (fun q hq => by cases hq; rfl) rfl rfl rfl ?_
            generalize hs612 : zset s590 164 99 ((s590 164 99) - 1) = s611
            have hI613 : zInv s611 := hs612 ▸ zp_46_99 hI593 zc_164 ⟨by omega, by omega⟩
            have hF614 : zOn zQ2 σ s611 := hs612 ▸ zOn_set hF603 (by decide)
            have e615 : s611 164 2 = s590 164 2 := by rw [← hs612]; exact zset_j (by decide)
            have e616 : s611 164 3 = s590 164 3 := by rw [← hs612]; exact zset_j (by decide)
            have e617 : s611 164 5 = s590 164 5 := by rw [← hs612]; exact zset_j (by decide)
            have e618 : s611 164 97 = s590 164 97 := by rw [← hs612]; exact zset_j (by decide)
            have e619 : s611 164 99 = ((s590 164 99) - 1) := by rw [← hs612]; exact zset_s
            have e620 : s611 164 101 = s590 164 101 := by rw [← hs612]; exact zset_j (by decide)
            have h621 := zpop hs612 rfl (by omega) (by omega)
            have h621w := zw_v (s590 235 (s590 164 99 - 1).toNat)
            have h621n := zBt_nn s611
            refine zt_aload_n (pc' := 68) hX dX12_qGoesOn_67 rfl rfl ?_
            refine zt_dup (pc' := 69) hX dX12_qGoesOn_68 rfl rfl ?_
            have b622 := zv_46_100 hI613 zc_164
            have e623 : s611 164 100 = s590 164 100 := by rw [← hs612]; exact zset_j (by decide)
            refine zt_get (pc' := 72) (v := .int (zI (s611 164 100))) hX dX12_qGoesOn_69 rfl zf_X12_336 (by decide) zc_164 zs_46 rfl ?_
            refine zt_iconst (pc' := 73) hX dX12_qGoesOn_72 rfl ?_
            refine zt_isub (pc' := 74) hX dX12_qGoesOn_73 rfl ?_
            refine zt_wrap (fun r624 zr624 lr624 ur624 => ?_)
            clear zr624
            refine zt_put (pc' := 77) (x := r624) hX dX12_qGoesOn_74 rfl zf_X12_336 (by decide) zc_164 zs_46 (fun q hq => by cases hq; rfl) rfl rfl rfl ?_
            generalize hs626 : zset s611 164 100 r624 = s625
            have hI627 : zInv s625 := hs626 ▸ zp_46_100 hI613 zc_164 ⟨by omega, by omega⟩
            have hF628 : zOn zQ2 σ s625 := hs626 ▸ zOn_set hF614 (by decide)
            obtain ⟨w629, -, w631, w632, w633, w634, -, w636⟩ := zE_set hs626 (by decide)
            have e637 : s625 164 2 = s611 164 2 := by rw [← hs626]; exact zset_j (by decide)
            have e638 : s625 164 3 = s611 164 3 := by rw [← hs626]; exact zset_j (by decide)
            have e639 : s625 164 5 = s611 164 5 := by rw [← hs626]; exact zset_j (by decide)
            have e640 : s625 164 97 = s611 164 97 := by rw [← hs626]; exact zset_j (by decide)
            have e641 : s625 164 99 = s611 164 99 := by rw [← hs626]; exact zset_j (by decide)
            have e642 : s625 164 101 = s611 164 101 := by rw [← hs626]; exact zset_j (by decide)
            have h643 := ztopP hs612 hs626 (by decide)
            refine zt_aload_n (pc' := 78) hX dX12_qGoesOn_77 rfl rfl ?_
            refine zt_get (pc' := 81) (v := .ref (X.1.1 + 235)) hX dX12_qGoesOn_78 rfl zf_X12_234 (by decide) zc_164 zs_46 (zrf_of (zv_46_98 hI627 zc_164)) ?_
            refine zt_aload_n (pc' := 82) hX dX12_qGoesOn_81 rfl rfl ?_
            have b644 := zv_46_99 hI627 zc_164
            refine zt_get (pc' := 85) (v := .int (zI (s625 164 99))) hX dX12_qGoesOn_82 rfl zf_X12_333 (by decide) zc_164 zs_46 rfl ?_
            refine zt_iald (pc' := 86) hX dX12_qGoesOn_85 rfl (by decide) zc_235 zs_117 (by decide) ⟨by omega, by omega⟩ ?_
            generalize hv645 : s625 235 ((s625 164 99).toNat) = v645
            have bv645 : -2147483648 ≤ v645 ∧ v645 ≤ 2147483647 := hv645 ▸ zv_117 hI627 zc_235 _
            refine zt_bipush (pc' := 88) hX dX12_qGoesOn_86 rfl (by decide) (by decide) ?_
            have J_115_657 : ∀ (s646 : zSto), zInv s646 → zOn zQ2 σ s646 → s7 164 2 < s646 164 2 → (σ 164 2 ≤ s646 164 2 ∧ s646 164 2 ≤ σ 164 3) → s646 164 3 = σ 164 3 → s646 164 101 = σ 164 101 → σ 164 101 ≤ s646 164 99 → s646 164 5 = 0 → s646 164 97 + s646 164 99 + σ 164 2 ≤ σ 164 97 + σ 164 99 + s646 164 2 → (zr s646 = 1 ∧ zHt s646 - zBt s646 = zHt σ - zBt σ) → (zBb s646 = zBb σ ∧ zSb s646 = zSb σ) → zF X s646 115 [some (.ref (X.1.1 + 164)), none] [] := by
              intro s646 hI647 hF648 g649 g650 g651 g652 g653 g654 g655 g656 g657
              have b659 := zv_46_2 hI647 zc_164
              have b660 := zv_46_3 hI647 zc_164
              have b661 := zv_46_5 hI647 zc_164
              have b662 := zv_46_97 hI647 zc_164
              have b663 := zv_46_99 hI647 zc_164
              have b664 := zv_46_101 hI647 zc_164
              refine zt_aload_n (pc' := 116) hX dX12_qGoesOn_115 rfl rfl ?_
              refine zt_cVv (pc' := 119) hX dX12_qGoesOn_116 rfl zm_yX12_qEndsPart zw_31_0 zc_164 (by decide) zs_46 (q := (RX12, TX12, 108)) rfl rfl (zc_X12_qEndsPart _ _ s646 hI647 (by omega) (by omega) (by omega)) rfl rfl (Nat.le_of_ble_eq_true rfl) (by decide) (fun r665 s666 hr667 hp668 => ?_)
              obtain ⟨hI669, hF670, z671, z672, z673, z674⟩ := hp668
              have e675 := hF670 164 2 rfl
              have e676 := hF670 164 3 rfl
              have e677 := hF670 164 5 rfl
              have e678 := hF670 164 101 rfl
              have hF679 := zOn_tr hF648 hF670 zi_52
              have b680 := zv_46_2 hI669 zc_164
              have b681 := zv_46_3 hI669 zc_164
              have b682 := zv_46_5 hI669 zc_164
              have b683 := zv_46_97 hI669 zc_164
              have b684 := zv_46_99 hI669 zc_164
              have b685 := zv_46_101 hI669 zc_164
              refine zt_goto (tgt := 0) hX dX12_qGoesOn_119 (by decide) ?_
              exact ih20 s666 hI669 hF679 (by omega) (by omega) (by omega) (by omega) (by omega) (by omega) (by omega) (by omega) (by omega)
            refine zt_iceq (pc' := 91) (tgt := 115) hX dX12_qGoesOn_88 rfl (by decide) ⟨by omega, by omega⟩ ⟨by omega, by omega⟩ (fun c686 => ?_) (fun c686 => ?_)
            · exact J_115_657 s625 hI627 hF628 (by omega) (by omega) (by omega) (by omega) (by omega) (by omega) (by omega) (by omega) (by omega)
            · refine zt_aload_n (pc' := 92) hX dX12_qGoesOn_91 rfl rfl ?_
              refine zt_aload_n (pc' := 93) hX dX12_qGoesOn_92 rfl rfl ?_
              refine zt_get (pc' := 96) (v := .ref (X.1.1 + 235)) hX dX12_qGoesOn_93 rfl zf_X12_234 (by decide) zc_164 zs_46 (zrf_of (zv_46_98 hI627 zc_164)) ?_
              refine zt_aload_n (pc' := 97) hX dX12_qGoesOn_96 rfl rfl ?_
              refine zt_get (pc' := 100) (v := .int (zI (s625 164 99))) hX dX12_qGoesOn_97 rfl zf_X12_333 (by decide) zc_164 zs_46 rfl ?_
              refine zt_iald (pc' := 101) hX dX12_qGoesOn_100 rfl (by decide) zc_235 zs_117 (by decide) ⟨by omega, by omega⟩ ?_
              generalize hv687 : s625 235 ((s625 164 99).toNat) = v687
              have bv687 : -2147483648 ≤ v687 ∧ v687 ≤ 2147483647 := hv687 ▸ zv_117 hI627 zc_235 _
              refine zt_bipush (pc' := 103) hX dX12_qGoesOn_101 rfl (by decide) (by decide) ?_
              have J_112_690 : ∀ (y688 : Int), 5 ≤ y688 → y688 ≤ 6 → zF X s625 112 [some (.ref (X.1.1 + 164)), none] [.int (zI y688), .ref (X.1.1 + 164)] := by
                intro y688 h689 h690
                refine zt_cVv (pc' := 115) hX dX12_qGoesOn_112 rfl zm_yX12_qCode zw_29_18 zc_164 (by decide) zs_46 (q := (RX12, TX12, 108)) rfl rfl (zc_X12_qCode _ _ s625 hI627 y688 ⟨by omega, by omega⟩ (by omega)) rfl rfl (Nat.le_of_ble_eq_true rfl) (by decide) (fun r692 s693 hr694 hp695 => ?_)
                obtain ⟨hI696, hF697, z698⟩ := hp695
                have e699 := hF697 164 2 rfl
                have e700 := hF697 164 3 rfl
                have e701 := hF697 164 5 rfl
                have e702 := hF697 164 101 rfl
                have hF703 := zOn_tr hF628 hF697 zi_52
                have b704 := zv_46_2 hI696 zc_164
                have b705 := zv_46_3 hI696 zc_164
                have b706 := zv_46_5 hI696 zc_164
                have b707 := zv_46_97 hI696 zc_164
                have b708 := zv_46_99 hI696 zc_164
                have b709 := zv_46_101 hI696 zc_164
                have h710 := zcd_h z698 (by omega)
                have h710r := zcd_ri z698 (by omega)
                have h710f := zcd_f z698
                have h710d := zdb (v := y688) (by omega)
                exact J_115_657 s693 hI696 hF703 (by omega) (by omega) (by omega) (by omega) (by omega) (by omega) (by omega) (by omega) (by omega)
              refine zt_icne (pc' := 106) (tgt := 110) hX dX12_qGoesOn_103 rfl (by decide) ⟨by omega, by omega⟩ ⟨by omega, by omega⟩ (fun c711 => ?_) (fun c711 => ?_)
              · refine zt_bipush (pc' := 112) hX dX12_qGoesOn_110 rfl (by decide) (by decide) ?_
                exact J_112_690 6 (by omega) (by omega)
              · refine zt_iconst (pc' := 107) hX dX12_qGoesOn_106 rfl ?_
                refine zt_goto (tgt := 112) hX dX12_qGoesOn_107 (by decide) ?_
                exact J_112_690 5 (by omega) (by omega)
          refine zt_iceq (pc' := 25) (tgt := 43) hX dX12_qGoesOn_22 rfl (by decide) ⟨by omega, by omega⟩ ⟨by omega, by omega⟩ (fun c712 => ?_) (fun c712 => ?_)
          · exact J_43_568 (by omega)
          · refine zt_aload_n (pc' := 26) hX dX12_qGoesOn_25 rfl rfl ?_
            refine zt_cVi (pc' := 29) hX dX12_qGoesOn_26 rfl zm_yX12_qBracket zw_31_12 zc_164 (by decide) zs_46 (q := (RX12, TX12, 108)) rfl rfl (zc_X12_qBracket _ _ s531 hI534 (by omega)) rfl rfl (Nat.le_of_ble_eq_true rfl) (by decide) (fun r713 s714 hr715 hp716 => ?_)
            obtain ⟨rfl, q717, q718, z719⟩ := hp716
            refine zt_bipush (pc' := 31) hX dX12_qGoesOn_29 rfl (by decide) (by decide) ?_
            refine zt_iceq (pc' := 34) (tgt := 43) hX dX12_qGoesOn_31 rfl (by decide) ⟨by omega, by omega⟩ ⟨by omega, by omega⟩ (fun c720 => ?_) (fun c720 => ?_)
            · exact J_43_568 (by omega)
            · refine zt_aload_n (pc' := 35) hX dX12_qGoesOn_34 rfl rfl ?_
              refine zt_cVi (pc' := 38) hX dX12_qGoesOn_35 rfl zm_yX12_qBracket zw_31_12 zc_164 (by decide) zs_46 (q := (RX12, TX12, 108)) rfl rfl (zc_X12_qBracket _ _ s531 hI534 (by omega)) rfl rfl (Nat.le_of_ble_eq_true rfl) (by decide) (fun r721 s722 hr723 hp724 => ?_)
              obtain ⟨rfl, q725, q726, z727⟩ := hp724
              refine zt_bipush (pc' := 40) hX dX12_qGoesOn_38 rfl (by decide) (by decide) ?_
              refine zt_icne (pc' := 43) (tgt := 122) hX dX12_qGoesOn_40 rfl (by decide) ⟨by omega, by omega⟩ ⟨by omega, by omega⟩ (fun c728 => ?_) (fun c728 => ?_)
              · exact J_122_38 s531 hI534 hF553 (by omega) (by omega) (by omega) (by omega) (by omega) (by omega) (by omega) (by omega)
              · exact J_43_568 (by omega)
  exact L_0_17 _ σ hI hF (by omega) (by omega) (by omega) (by omega) (by omega) (by omega) (by omega) (by omega) (Nat.lt_succ_self _)
