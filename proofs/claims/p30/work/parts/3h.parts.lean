set_option maxRecDepth 100000 in
set_option maxHeartbeats 4000000 in
theorem zc_X12_qPartTold (l : Launch) (E : zEN) (σ : zSto) (hI : zInv σ) (hpre0 : σ 164 5 = 0) (hpre1 : σ 164 2 ≤ σ 164 3) (hpre2 : σ 164 97 + σ 164 99 ≤ σ 164 2) (hpre3 : σ 164 101 ≤ σ 164 99) (hpre4 : zr σ = 1) (hpre5 : zBt σ ≤ zHt σ) : zCt l E yX12_qPartTold cX12_qPartTold 6 none 5 zNC zNC 0 0 σ [.ref (E.1 + 164)] (fun r σ' => zInv σ' ∧ zOn zQ2 σ σ' ∧ (σ' 164 2 ≤ σ 164 3) ∧ (σ 164 2 ≤ σ' 164 2) ∧ (σ' 164 101 = σ 164 101) ∧ (σ 164 101 ≤ σ' 164 99) ∧ (σ' 164 97 + σ' 164 99 + σ 164 2 ≤ σ 164 97 + σ 164 99 + σ' 164 2 + 1) ∧ (σ' 164 5 = 0 → σ' 164 97 + σ' 164 99 + σ 164 2 ≤ σ 164 97 + σ 164 99 + σ' 164 2) ∧ (σ' 164 5 = 0 → zr σ' = 1 ∧ zHt σ' - zBt σ' = zHt σ - zBt σ + 1 ∧ σ 164 2 < σ' 164 2) ∧ (zBb σ' = zBb σ ∧ zSb σ' = zSb σ)) := by
  refine zCt_of2 [some (.ref (E.1 + 164)), none, none, none, none, none] (by decide +kernel) (Nat.le_of_ble_eq_true rfl) rfl ?_
  intro X hE hX hR hL hN
  subst hE
  have hX : zok X cX12_qPartTold RX12 5 := hX
  have hF := zOn_rf zQ2 σ
  have hbn := zBt_nn σ
  have b1 := zv_46_2 hI zc_164
  have b2 := zv_46_3 hI zc_164
  have b3 := zv_46_5 hI zc_164
  have b4 := zv_46_97 hI zc_164
  have b5 := zv_46_99 hI zc_164
  have b6 := zv_46_101 hI zc_164
  refine zt_iconst (pc' := 1) hX dX12_qPartTold_0 rfl ?_
  refine zt_istore_n (pc' := 2) (lv' := [some (.ref (X.1.1 + 164)), some (.int (zI 1)), none, none, none, none]) hX dX12_qPartTold_1 rfl hL (by decide) rfl ?_
  have L_2_20 : ∀ (N : Nat) (x7 : Int) (s10 : zSto), 0 ≤ x7 → x7 ≤ 1 → zInv s10 → zOn zQ2 σ s10 → (σ 164 2 ≤ s10 164 2 ∧ s10 164 2 ≤ σ 164 3) → s10 164 3 = σ 164 3 → s10 164 101 = σ 164 101 → σ 164 101 ≤ s10 164 99 → s10 164 97 + s10 164 99 + σ 164 2 ≤ σ 164 97 + σ 164 99 + s10 164 2 + 1 → (s10 164 5 = 0 → s10 164 97 + s10 164 99 + σ 164 2 ≤ σ 164 97 + σ 164 99 + s10 164 2) → (s10 164 5 = 0 → zr s10 = 1 ∧ zHt s10 - zBt s10 = zHt σ - zBt σ) → (zBb s10 = zBb σ ∧ zSb s10 = zSb σ) → ((4 * (1601 - s10 164 2) + 2 * x7 + 1 - min (max (s10 164 5) (-(s10 164 5))) 1).toNat) < N → zF X s10 2 [some (.ref (X.1.1 + 164)), some (.int (zI x7)), none, none, none, none] [] := by
    intro N
    induction N with
    | zero =>
      intro x7 s10 h8 h9 hI11 hF12 g13 g14 g15 g16 g17 g18 g19 g20 hm22
      exact absurd hm22 (Nat.not_lt_zero _)
    | succ N ih23 =>
      intro x7 s10 h8 h9 hI11 hF12 g13 g14 g15 g16 g17 g18 g19 g20 hm22
      have b24 := zv_46_2 hI11 zc_164
      have b25 := zv_46_3 hI11 zc_164
      have b26 := zv_46_5 hI11 zc_164
      have b27 := zv_46_97 hI11 zc_164
      have b28 := zv_46_99 hI11 zc_164
      have b29 := zv_46_101 hI11 zc_164
      refine zt_iload_n (pc' := 3) hX dX12_qPartTold_2 rfl rfl ?_
      have J_186_29 : zF X s10 186 [some (.ref (X.1.1 + 164)), none, none, none, none, none] [] := by
        refine zt_aload_n (pc' := 187) hX dX12_qPartTold_186 rfl rfl ?_
        have b31 := zv_46_5 hI11 zc_164
        refine zt_get (pc' := 190) (v := .int (zI (s10 164 5))) hX dX12_qPartTold_187 rfl zf_X12_246 (by decide) zc_164 zs_46 rfl ?_
        refine zt_ifeq (pc' := 193) (tgt := 194) hX dX12_qPartTold_190 rfl (by decide) ⟨by omega, by omega⟩ (fun c32 => ?_) (fun c32 => ?_)
        · refine zt_aload_n (pc' := 195) hX dX12_qPartTold_194 rfl rfl ?_
          refine zt_iconst (pc' := 196) hX dX12_qPartTold_195 rfl ?_
          refine zt_bipush (pc' := 198) hX dX12_qPartTold_196 rfl (by decide) (by decide) ?_
          refine zt_cVi (pc' := 201) hX dX12_qPartTold_198 rfl zm_yX12_qWordOf zw_30_6 zc_164 (by decide) zs_46 (q := (RX12, TX12, 108)) rfl rfl (zc_X12_qWordOf _ _ s10 hI11 0 ⟨by omega, by omega⟩ 10 ⟨by omega, by omega⟩) rfl rfl (Nat.le_of_ble_eq_true rfl) (by decide) (fun r33 s34 hr35 hp36 => ?_)
          obtain ⟨hI37, hF38, q39, q40, z41, z42, z43⟩ := hp36
          obtain ⟨w44, -, w46, w47, w48, w49, -, w51⟩ := zE_q1 hF38
          have e52 := hF38 164 3 rfl
          have e53 := hF38 164 97 rfl
          have e54 := hF38 164 99 rfl
          have e55 := hF38 164 101 rfl
          have hF56 := zOn_tr hF12 hF38 zi_12
          have b57 := zv_46_2 hI37 zc_164
          have b58 := zv_46_3 hI37 zc_164
          have b59 := zv_46_5 hI37 zc_164
          have b60 := zv_46_97 hI37 zc_164
          have b61 := zv_46_99 hI37 zc_164
          have b62 := zv_46_101 hI37 zc_164
          refine zt_istore_n (pc' := 202) (lv' := [some (.ref (X.1.1 + 164)), none, some (.int (zI r33)), none, none, none]) hX dX12_qPartTold_201 rfl hL (by decide) rfl ?_
          refine zt_iload_n (pc' := 203) hX dX12_qPartTold_202 rfl rfl ?_
          refine zt_iconst (pc' := 204) hX dX12_qPartTold_203 rfl ?_
          have J_212_76 : ∀ (s63 : zSto), zInv s63 → zOn zQ2 σ s63 → s63 164 97 + s63 164 99 + σ 164 2 ≤ σ 164 97 + σ 164 99 + s63 164 2 → (r33 = -1 → s63 164 5 = 0) → (r33 ≠ -1 ∧ s63 164 5 = 0 → s63 164 97 + s63 164 99 + σ 164 2 + 1 ≤ σ 164 97 + σ 164 99 + s63 164 2) → (σ 164 2 ≤ s63 164 2 ∧ s63 164 2 ≤ σ 164 3) → s63 164 3 = σ 164 3 → s63 164 101 = σ 164 101 → σ 164 101 ≤ s63 164 99 → s63 164 97 + s63 164 99 + σ 164 2 ≤ σ 164 97 + σ 164 99 + s63 164 2 + 1 → (s63 164 5 = 0 → s63 164 97 + s63 164 99 + σ 164 2 ≤ σ 164 97 + σ 164 99 + s63 164 2) → (s63 164 5 = 0 → zr s63 = 1 ∧ zHt s63 - zBt s63 = zHt σ - zBt σ) → (zBb s63 = zBb σ ∧ zSb s63 = zSb σ) → zF X s63 212 [some (.ref (X.1.1 + 164)), none, some (.int (zI r33)), none, none, none] [] := by
            intro s63 hI64 hF65 g66 g67 g68 g69 g70 g71 g72 g73 g74 g75 g76
            have b78 := zv_46_2 hI64 zc_164
            have b79 := zv_46_3 hI64 zc_164
            have b80 := zv_46_5 hI64 zc_164
            have b81 := zv_46_97 hI64 zc_164
            have b82 := zv_46_99 hI64 zc_164
            have b83 := zv_46_101 hI64 zc_164
            refine zt_aload_n (pc' := 213) hX dX12_qPartTold_212 rfl rfl ?_
            refine zt_iload_n (pc' := 214) hX dX12_qPartTold_213 rfl rfl ?_
            refine zt_iconst (pc' := 215) hX dX12_qPartTold_214 rfl ?_
            have J_237_101 : ∀ (y84 : Int) (s87 : zSto), -2147483648 ≤ y84 → y84 ≤ 2147483647 → zInv s87 → zOn zQ2 σ s87 → s87 164 97 + s87 164 99 + σ 164 2 ≤ σ 164 97 + σ 164 99 + s87 164 2 → (s87 164 5 = 0 → (40 ≤ y84 ∧ y84 < 60) ∨ 1000 ≤ y84) → (s87 164 5 = 0 → s87 164 97 + s87 164 99 + σ 164 2 + 1 ≤ σ 164 97 + σ 164 99 + s87 164 2) → (s87 164 5 = 0 → σ 164 2 < s87 164 2) → (σ 164 2 ≤ s87 164 2 ∧ s87 164 2 ≤ σ 164 3) → s87 164 3 = σ 164 3 → s87 164 101 = σ 164 101 → σ 164 101 ≤ s87 164 99 → s87 164 97 + s87 164 99 + σ 164 2 ≤ σ 164 97 + σ 164 99 + s87 164 2 + 1 → (s87 164 5 = 0 → s87 164 97 + s87 164 99 + σ 164 2 ≤ σ 164 97 + σ 164 99 + s87 164 2) → (s87 164 5 = 0 → zr s87 = 1 ∧ zHt s87 - zBt s87 = zHt σ - zBt σ) → (zBb s87 = zBb σ ∧ zSb s87 = zSb σ) → zF X s87 237 [some (.ref (X.1.1 + 164)), none, none, none, none, none] [.int (zI y84), .ref (X.1.1 + 164)] := by
              intro y84 s87 h85 h86 hI88 hF89 g90 g91 g92 g93 g94 g95 g96 g97 g98 g99 g100 g101
              have b103 := zv_46_2 hI88 zc_164
              have b104 := zv_46_3 hI88 zc_164
              have b105 := zv_46_5 hI88 zc_164
              have b106 := zv_46_97 hI88 zc_164
              have b107 := zv_46_99 hI88 zc_164
              have b108 := zv_46_101 hI88 zc_164
              refine zt_cVv (pc' := 240) hX dX12_qPartTold_237 rfl zm_yX12_qCode zw_29_18 zc_164 (by decide) zs_46 (q := (RX12, TX12, 108)) rfl rfl (zc_X12_qCode _ _ s87 hI88 y84 ⟨by omega, by omega⟩ (by omega)) rfl rfl (Nat.le_of_ble_eq_true rfl) (by decide) (fun r109 s110 hr111 hp112 => ?_)
              obtain ⟨hI113, hF114, z115⟩ := hp112
              have e116 := hF114 164 2 rfl
              have e117 := hF114 164 3 rfl
              have e118 := hF114 164 5 rfl
              have e119 := hF114 164 101 rfl
              have hF120 := zOn_tr hF89 hF114 zi_52
              have b121 := zv_46_2 hI113 zc_164
              have b122 := zv_46_3 hI113 zc_164
              have b123 := zv_46_5 hI113 zc_164
              have b124 := zv_46_97 hI113 zc_164
              have b125 := zv_46_99 hI113 zc_164
              have b126 := zv_46_101 hI113 zc_164
              have h127 := zcd_h z115 (by omega)
              have h128r := zcd_ri z115 (by omega)
              have h129f := zcd_f z115
              have h130d : (40 ≤ y84 ∧ y84 < 60) ∨ 1000 ≤ y84 ∨ y84 = 13 → zdl y84 = 1 ∧ znd y84 = 0 := fun h => zdo h
              have h131n := zBt_nn s87
              refine zt_aload_n (pc' := 241) hX dX12_qPartTold_240 rfl rfl ?_
              refine zt_cVv (pc' := 244) hX dX12_qPartTold_241 rfl zm_yX12_qEndsPart zw_31_0 zc_164 (by decide) zs_46 (q := (RX12, TX12, 108)) rfl rfl (zc_X12_qEndsPart _ _ s110 hI113 (by omega) (by omega) (by omega)) rfl rfl (Nat.le_of_ble_eq_true rfl) (by decide) (fun r132 s133 hr134 hp135 => ?_)
              obtain ⟨hI136, hF137, z138, z139, z140, z141⟩ := hp135
              have e142 := hF137 164 2 rfl
              have e143 := hF137 164 3 rfl
              have e144 := hF137 164 5 rfl
              have e145 := hF137 164 101 rfl
              have hF146 := zOn_tr hF120 hF137 zi_52
              have b147 := zv_46_2 hI136 zc_164
              have b148 := zv_46_3 hI136 zc_164
              have b149 := zv_46_5 hI136 zc_164
              have b150 := zv_46_97 hI136 zc_164
              have b151 := zv_46_99 hI136 zc_164
              have b152 := zv_46_101 hI136 zc_164
              exact zt_vret hX hR dX12_qPartTold_244 ⟨hI136, hF146, by omega, by omega, by omega, by omega, by omega, by omega, by omega, by omega⟩
            refine zt_iceq (pc' := 218) (tgt := 225) hX dX12_qPartTold_215 rfl (by decide) ⟨by omega, by omega⟩ ⟨by omega, by omega⟩ (fun c153 => ?_) (fun c153 => ?_)
            · refine zt_sipush (pc' := 228) hX dX12_qPartTold_225 rfl (by decide) (by decide) ?_
              refine zt_aload_n (pc' := 229) hX dX12_qPartTold_228 rfl rfl ?_
              refine zt_iconst (pc' := 230) hX dX12_qPartTold_229 rfl ?_
              refine zt_sipush (pc' := 233) hX dX12_qPartTold_230 rfl (by decide) (by decide) ?_
              refine zt_cVi (pc' := 236) hX dX12_qPartTold_233 rfl zm_yX12_number zw_26_23 zc_164 (by decide) zs_46 (q := (RX12, TX12, 108)) rfl rfl (zc_X12_number _ _ s63 hI64 0 ⟨by omega, by omega⟩ 9999 ⟨by omega, by omega⟩) rfl rfl (Nat.le_of_ble_eq_true rfl) (by decide) (fun r154 s155 hr156 hp157 => ?_)
              obtain ⟨hI158, hF159, q160, q161, z162, z163, z164⟩ := hp157
              obtain ⟨w165, -, w167, w168, w169, w170, -, w172⟩ := zE_q1 hF159
              have e173 := hF159 164 3 rfl
              have e174 := hF159 164 97 rfl
              have e175 := hF159 164 99 rfl
              have e176 := hF159 164 101 rfl
              have hF177 := zOn_tr hF65 hF159 zi_12
              have b178 := zv_46_2 hI158 zc_164
              have b179 := zv_46_3 hI158 zc_164
              have b180 := zv_46_5 hI158 zc_164
              have b181 := zv_46_97 hI158 zc_164
              have b182 := zv_46_99 hI158 zc_164
              have b183 := zv_46_101 hI158 zc_164
              refine zt_iadd (pc' := 237) hX dX12_qPartTold_236 rfl ?_
              refine zt_wrap (fun r184 zr184 lr184 ur184 => ?_)
              replace zr184 := zwr_eq zr184
              refine zt_mask [true, false, false, false, false, false] rfl ?_
              exact J_237_101 r184 s155 (by omega) (by omega) hI158 hF177 (by omega) (by omega) (by omega) (by omega) (by omega) (by omega) (by omega) (by omega) (by omega) (by omega) (by omega) (by omega)
            · refine zt_bipush (pc' := 220) hX dX12_qPartTold_218 rfl (by decide) (by decide) ?_
              refine zt_iload_n (pc' := 221) hX dX12_qPartTold_220 rfl rfl ?_
              refine zt_iadd (pc' := 222) hX dX12_qPartTold_221 rfl ?_
              refine zt_goto (tgt := 237) hX dX12_qPartTold_222 (by decide) ?_
              refine zt_mask [true, false, false, false, false, false] rfl ?_
              exact J_237_101 (40 + r33) s63 (by omega) (by omega) hI64 hF65 (by omega) (by omega) (by omega) (by omega) (by omega) (by omega) (by omega) (by omega) (by omega) (by omega) (by omega) (by omega)
          refine zt_iceq (pc' := 207) (tgt := 212) hX dX12_qPartTold_204 rfl (by decide) ⟨by omega, by omega⟩ ⟨by omega, by omega⟩ (fun c185 => ?_) (fun c185 => ?_)
          · exact J_212_76 s34 hI37 hF56 (by omega) (by omega) (by omega) (by omega) (by omega) (by omega) (by omega) (by omega) (by omega) (by omega) (by omega)
          · refine zt_aload_n (pc' := 208) hX dX12_qPartTold_207 rfl rfl ?_
            refine zt_iload_n (pc' := 209) hX dX12_qPartTold_208 rfl rfl ?_
            refine zt_cVv (pc' := 212) hX dX12_qPartTold_209 rfl zm_yX12_qAsksWord zw_30_20 zc_164 (by decide) zs_46 (q := (RX12, TX12, 108)) rfl rfl (zc_X12_qAsksWord _ _ s34 hI37 r33 ⟨by omega, by omega⟩) rfl rfl (Nat.le_of_ble_eq_true rfl) (by decide) (fun r186 s187 hr188 hp189 => ?_)
            obtain ⟨hI190, hF191, z192, z193⟩ := hp189
            obtain ⟨w194, -, w196, w197, w198, w199, -, w201⟩ := zE_q1 hF191
            have e202 := hF191 164 3 rfl
            have e203 := hF191 164 97 rfl
            have e204 := hF191 164 99 rfl
            have e205 := hF191 164 101 rfl
            have hF206 := zOn_tr hF56 hF191 zi_12
            have b207 := zv_46_2 hI190 zc_164
            have b208 := zv_46_3 hI190 zc_164
            have b209 := zv_46_5 hI190 zc_164
            have b210 := zv_46_97 hI190 zc_164
            have b211 := zv_46_99 hI190 zc_164
            have b212 := zv_46_101 hI190 zc_164
            exact J_212_76 s187 hI190 hF206 (by omega) (by omega) (by omega) (by omega) (by omega) (by omega) (by omega) (by omega) (by omega) (by omega) (by omega)
        · exact zt_vret hX hR dX12_qPartTold_193 ⟨hI11, hF12, by omega, by omega, by omega, by omega, by omega, by omega, by omega, by omega⟩
      refine zt_ifeq (pc' := 6) (tgt := 186) hX dX12_qPartTold_3 rfl (by decide) ⟨by omega, by omega⟩ (fun c213 => ?_) (fun c213 => ?_)
      · refine zt_mask [true, false, false, false, false, false] rfl ?_
        exact J_186_29
      · refine zt_aload_n (pc' := 7) hX dX12_qPartTold_6 rfl rfl ?_
        have b214 := zv_46_5 hI11 zc_164
        refine zt_get (pc' := 10) (v := .int (zI (s10 164 5))) hX dX12_qPartTold_7 rfl zf_X12_246 (by decide) zc_164 zs_46 rfl ?_
        refine zt_ifne (pc' := 13) (tgt := 186) hX dX12_qPartTold_10 rfl (by decide) ⟨by omega, by omega⟩ (fun c215 => ?_) (fun c215 => ?_)
        · refine zt_mask [true, false, false, false, false, false] rfl ?_
          exact J_186_29
        · refine zt_aload_n (pc' := 14) hX dX12_qPartTold_13 rfl rfl ?_
          refine zt_cVi (pc' := 17) hX dX12_qPartTold_14 rfl zm_yX12_look zw_26_12 zc_164 (by decide) zs_46 (q := (RX12, TX12, 108)) rfl rfl (zc_X12_look _ _ s10 hI11 ) rfl rfl (Nat.le_of_ble_eq_true rfl) (by decide) (fun r216 s217 hr218 hp219 => ?_)
          obtain ⟨hI220, hF221, q222, q223, z224, z225, z226⟩ := hp219
          obtain ⟨w227, -, w229, w230, w231, w232, -, w234⟩ := zE_q1 hF221
          have e235 := hF221 164 3 rfl
          have e236 := hF221 164 97 rfl
          have e237 := hF221 164 99 rfl
          have e238 := hF221 164 101 rfl
          have hF239 := zOn_tr hF12 hF221 zi_12
          have b240 := zv_46_2 hI220 zc_164
          have b241 := zv_46_3 hI220 zc_164
          have b242 := zv_46_5 hI220 zc_164
          have b243 := zv_46_97 hI220 zc_164
          have b244 := zv_46_99 hI220 zc_164
          have b245 := zv_46_101 hI220 zc_164
          refine zt_istore_n (pc' := 18) (lv' := [some (.ref (X.1.1 + 164)), some (.int (zI x7)), some (.int (zI r216)), none, none, none]) hX dX12_qPartTold_17 rfl hL (by decide) rfl ?_
          refine zt_aload_n (pc' := 19) hX dX12_qPartTold_18 rfl rfl ?_
          refine zt_bipush (pc' := 21) hX dX12_qPartTold_19 rfl (by decide) (by decide) ?_
          refine zt_bipush (pc' := 23) hX dX12_qPartTold_21 rfl (by decide) (by decide) ?_
          refine zt_cVi (pc' := 26) hX dX12_qPartTold_23 rfl zm_yX12_qWordOf zw_30_6 zc_164 (by decide) zs_46 (q := (RX12, TX12, 108)) rfl rfl (zc_X12_qWordOf _ _ s217 hI220 10 ⟨by omega, by omega⟩ 11 ⟨by omega, by omega⟩) rfl rfl (Nat.le_of_ble_eq_true rfl) (by decide) (fun r246 s247 hr248 hp249 => ?_)
          obtain ⟨hI250, hF251, q252, q253, z254, z255, z256⟩ := hp249
          obtain ⟨w257, -, w259, w260, w261, w262, -, w264⟩ := zE_q1 hF251
          have e265 := hF251 164 3 rfl
          have e266 := hF251 164 97 rfl
          have e267 := hF251 164 99 rfl
          have e268 := hF251 164 101 rfl
          have hF269 := zOn_tr hF239 hF251 zi_12
          have b270 := zv_46_2 hI250 zc_164
          have b271 := zv_46_3 hI250 zc_164
          have b272 := zv_46_5 hI250 zc_164
          have b273 := zv_46_97 hI250 zc_164
          have b274 := zv_46_99 hI250 zc_164
          have b275 := zv_46_101 hI250 zc_164
          refine zt_istore_n (pc' := 27) (lv' := [some (.ref (X.1.1 + 164)), some (.int (zI x7)), some (.int (zI r216)), some (.int (zI r246)), none, none]) hX dX12_qPartTold_26 rfl hL (by decide) rfl ?_
          refine zt_iload_n (pc' := 28) hX dX12_qPartTold_27 rfl rfl ?_
          refine zt_bipush (pc' := 30) hX dX12_qPartTold_28 rfl (by decide) (by decide) ?_
          have J_183_292 : ∀ (x276 : Int) (s279 : zSto), 0 ≤ x276 → x276 ≤ 1 → zInv s279 → zOn zQ2 σ s279 → s10 164 2 ≤ s279 164 2 → (s279 164 5 ≠ 0 ∨ x276 = 0 ∨ s10 164 2 < s279 164 2) → (x276 ≤ 1 ∧ 0 ≤ x276) → (σ 164 2 ≤ s279 164 2 ∧ s279 164 2 ≤ σ 164 3) → s279 164 3 = σ 164 3 → s279 164 101 = σ 164 101 → σ 164 101 ≤ s279 164 99 → s279 164 97 + s279 164 99 + σ 164 2 ≤ σ 164 97 + σ 164 99 + s279 164 2 + 1 → (s279 164 5 = 0 → s279 164 97 + s279 164 99 + σ 164 2 ≤ σ 164 97 + σ 164 99 + s279 164 2) → (s279 164 5 = 0 → zr s279 = 1 ∧ zHt s279 - zBt s279 = zHt σ - zBt σ) → (zBb s279 = zBb σ ∧ zSb s279 = zSb σ) → zF X s279 183 [some (.ref (X.1.1 + 164)), some (.int (zI x276)), none, none, none, none] [] := by
            intro x276 s279 h277 h278 hI280 hF281 g282 g283 g284 g285 g286 g287 g288 g289 g290 g291 g292
            have b294 := zv_46_2 hI280 zc_164
            have b295 := zv_46_3 hI280 zc_164
            have b296 := zv_46_5 hI280 zc_164
            have b297 := zv_46_97 hI280 zc_164
            have b298 := zv_46_99 hI280 zc_164
            have b299 := zv_46_101 hI280 zc_164
            refine zt_goto (tgt := 2) hX dX12_qPartTold_183 (by decide) ?_
            exact ih23 x276 s279 (by omega) (by omega) hI280 hF281 (by omega) (by omega) (by omega) (by omega) (by omega) (by omega) (by omega) (by omega) (by omega)
          refine zt_icne (pc' := 33) (tgt := 56) hX dX12_qPartTold_30 rfl (by decide) ⟨by omega, by omega⟩ ⟨by omega, by omega⟩ (fun c300 => ?_) (fun c300 => ?_)
          · refine zt_aload_n (pc' := 57) hX dX12_qPartTold_56 rfl rfl ?_
            refine zt_aload_n (pc' := 58) hX dX12_qPartTold_57 rfl rfl ?_
            refine zt_get (pc' := 61) (v := .ref (X.1.1 + 221)) hX dX12_qPartTold_58 rfl zf_X12_192 (by decide) zc_164 zs_46 (zrf_of (zv_46_83 hI250 zc_164)) ?_
            refine zt_cVz (pc' := 64) hX dX12_qPartTold_61 rfl zm_yX12_isHere zw_26_8 zc_164 (by decide) zs_46 (q := (RX12, TX12, 108)) rfl rfl (zc_X12_isHere _ _ s247 hI250 221 103 3 zc_221 (by decide) zs_103 (by decide)) rfl rfl (Nat.le_of_ble_eq_true rfl) (by decide) (fun r301 s302 hr303 hp304 => ?_)
            obtain ⟨hI305, hF306, q307, q308, z309, z310, z311⟩ := hp304
            obtain ⟨w312, -, w314, w315, w316, w317, -, w319⟩ := zE_q1 hF306
            have e320 := hF306 164 3 rfl
            have e321 := hF306 164 97 rfl
            have e322 := hF306 164 99 rfl
            have e323 := hF306 164 101 rfl
            have hF324 := zOn_tr hF269 hF306 zi_12
            have b325 := zv_46_2 hI305 zc_164
            have b326 := zv_46_3 hI305 zc_164
            have b327 := zv_46_5 hI305 zc_164
            have b328 := zv_46_97 hI305 zc_164
            have b329 := zv_46_99 hI305 zc_164
            have b330 := zv_46_101 hI305 zc_164
            have J_78_343 : ∀ (s331 : zSto), zInv s331 → zOn zQ2 σ s331 → s331 164 5 = 0 → s10 164 2 ≤ s331 164 2 → (σ 164 2 ≤ s331 164 2 ∧ s331 164 2 ≤ σ 164 3) → s331 164 3 = σ 164 3 → s331 164 101 = σ 164 101 → σ 164 101 ≤ s331 164 99 → s331 164 97 + s331 164 99 + σ 164 2 ≤ σ 164 97 + σ 164 99 + s331 164 2 + 1 → (s331 164 5 = 0 → s331 164 97 + s331 164 99 + σ 164 2 ≤ σ 164 97 + σ 164 99 + s331 164 2) → (s331 164 5 = 0 → zr s331 = 1 ∧ zHt s331 - zBt s331 = zHt σ - zBt σ) → (zBb s331 = zBb σ ∧ zSb s331 = zSb σ) → zF X s331 78 [some (.ref (X.1.1 + 164)), some (.int (zI x7)), none, none, none, none] [] := by
              intro s331 hI332 hF333 g334 g335 g336 g337 g338 g339 g340 g341 g342 g343
              have b345 := zv_46_2 hI332 zc_164
              have b346 := zv_46_3 hI332 zc_164
              have b347 := zv_46_5 hI332 zc_164
              have b348 := zv_46_97 hI332 zc_164
              have b349 := zv_46_99 hI332 zc_164
              have b350 := zv_46_101 hI332 zc_164
              refine zt_aload_n (pc' := 79) hX dX12_qPartTold_78 rfl rfl ?_
              refine zt_aload_n (pc' := 80) hX dX12_qPartTold_79 rfl rfl ?_
              refine zt_get (pc' := 83) (v := .ref (X.1.1 + 221)) hX dX12_qPartTold_80 rfl zf_X12_192 (by decide) zc_164 zs_46 (zrf_of (zv_46_83 hI332 zc_164)) ?_
              refine zt_cVz (pc' := 86) hX dX12_qPartTold_83 rfl zm_yX12_takes zw_26_4 zc_164 (by decide) zs_46 (q := (RX12, TX12, 108)) rfl rfl (zc_X12_takes _ _ s331 hI332 221 103 3 zc_221 (by decide) zs_103 (by decide)) rfl rfl (Nat.le_of_ble_eq_true rfl) (by decide) (fun r351 s352 hr353 hp354 => ?_)
              obtain ⟨hI355, hF356, q357, q358, z359, z360, z361⟩ := hp354
              obtain ⟨w362, -, w364, w365, w366, w367, -, w369⟩ := zE_q1 hF356
              have e370 := hF356 164 3 rfl
              have e371 := hF356 164 97 rfl
              have e372 := hF356 164 99 rfl
              have e373 := hF356 164 101 rfl
              have hF374 := zOn_tr hF333 hF356 zi_12
              have b375 := zv_46_2 hI355 zc_164
              have b376 := zv_46_3 hI355 zc_164
              have b377 := zv_46_5 hI355 zc_164
              have b378 := zv_46_97 hI355 zc_164
              have b379 := zv_46_99 hI355 zc_164
              have b380 := zv_46_101 hI355 zc_164
              refine zt_istore (pc' := 88) (lv' := [some (.ref (X.1.1 + 164)), some (.int (zI x7)), none, none, some (.int (zI r351)), none]) hX dX12_qPartTold_86 rfl hL (by decide) rfl ?_
              refine zt_iload (pc' := 90) hX dX12_qPartTold_88 rfl rfl ?_
              have J_101_392 : ∀ (s381 : zSto), zInv s381 → zOn zQ2 σ s381 → (s381 164 5 = 0 → s381 164 97 + s381 164 99 + σ 164 2 + 2 ≤ σ 164 97 + σ 164 99 + s381 164 2 ∧ s10 164 2 < s381 164 2) → (σ 164 2 ≤ s381 164 2 ∧ s381 164 2 ≤ σ 164 3) → s381 164 3 = σ 164 3 → s381 164 101 = σ 164 101 → σ 164 101 ≤ s381 164 99 → s381 164 97 + s381 164 99 + σ 164 2 ≤ σ 164 97 + σ 164 99 + s381 164 2 + 1 → (s381 164 5 = 0 → s381 164 97 + s381 164 99 + σ 164 2 ≤ σ 164 97 + σ 164 99 + s381 164 2) → (s381 164 5 = 0 → zr s381 = 1 ∧ zHt s381 - zBt s381 = zHt σ - zBt σ) → (zBb s381 = zBb σ ∧ zSb s381 = zSb σ) → zF X s381 101 [some (.ref (X.1.1 + 164)), some (.int (zI x7)), none, none, some (.int (zI r351)), none] [] := by
                intro s381 hI382 hF383 g384 g385 g386 g387 g388 g389 g390 g391 g392
                have b394 := zv_46_2 hI382 zc_164
                have b395 := zv_46_3 hI382 zc_164
                have b396 := zv_46_5 hI382 zc_164
                have b397 := zv_46_97 hI382 zc_164
                have b398 := zv_46_99 hI382 zc_164
                have b399 := zv_46_101 hI382 zc_164
                refine zt_aload_n (pc' := 102) hX dX12_qPartTold_101 rfl rfl ?_
                refine zt_cVi (pc' := 105) hX dX12_qPartTold_102 rfl zm_yX12_look zw_26_12 zc_164 (by decide) zs_46 (q := (RX12, TX12, 108)) rfl rfl (zc_X12_look _ _ s381 hI382 ) rfl rfl (Nat.le_of_ble_eq_true rfl) (by decide) (fun r400 s401 hr402 hp403 => ?_)
                obtain ⟨hI404, hF405, q406, q407, z408, z409, z410⟩ := hp403
                obtain ⟨w411, -, w413, w414, w415, w416, -, w418⟩ := zE_q1 hF405
                have e419 := hF405 164 3 rfl
                have e420 := hF405 164 97 rfl
                have e421 := hF405 164 99 rfl
                have e422 := hF405 164 101 rfl
                have hF423 := zOn_tr hF383 hF405 zi_12
                have b424 := zv_46_2 hI404 zc_164
                have b425 := zv_46_3 hI404 zc_164
                have b426 := zv_46_5 hI404 zc_164
                have b427 := zv_46_97 hI404 zc_164
                have b428 := zv_46_99 hI404 zc_164
                have b429 := zv_46_101 hI404 zc_164
                refine zt_bipush (pc' := 107) hX dX12_qPartTold_105 rfl (by decide) (by decide) ?_
                have J_118_432 : ∀ (y430 : Int), -1 ≤ y430 → y430 ≤ 1600 → zF X s401 118 [some (.ref (X.1.1 + 164)), some (.int (zI x7)), none, none, some (.int (zI r351)), none] [.int (zI y430)] := by
                  intro y430 h431 h432
                  refine zt_istore (pc' := 120) (lv' := [some (.ref (X.1.1 + 164)), some (.int (zI x7)), none, none, some (.int (zI r351)), some (.int (zI y430))]) hX dX12_qPartTold_118 rfl hL (by decide) rfl ?_
                  refine zt_iload (pc' := 122) hX dX12_qPartTold_120 rfl rfl ?_
                  refine zt_iconst (pc' := 123) hX dX12_qPartTold_122 rfl ?_
                  have J_144_446 : ∀ (s434 : zSto), zInv s434 → zOn zQ2 σ s434 → (s434 164 5 = 0 → s434 164 97 + s434 164 99 + σ 164 2 + 1 ≤ σ 164 97 + σ 164 99 + s434 164 2 ∧ s10 164 2 < s434 164 2) → s10 164 2 ≤ s434 164 2 → (σ 164 2 ≤ s434 164 2 ∧ s434 164 2 ≤ σ 164 3) → s434 164 3 = σ 164 3 → s434 164 101 = σ 164 101 → σ 164 101 ≤ s434 164 99 → s434 164 97 + s434 164 99 + σ 164 2 ≤ σ 164 97 + σ 164 99 + s434 164 2 + 1 → (s434 164 5 = 0 → s434 164 97 + s434 164 99 + σ 164 2 ≤ σ 164 97 + σ 164 99 + s434 164 2) → (s434 164 5 = 0 → zr s434 = 1 ∧ zHt s434 - zBt s434 = zHt σ - zBt σ) → (zBb s434 = zBb σ ∧ zSb s434 = zSb σ) → zF X s434 144 [some (.ref (X.1.1 + 164)), some (.int (zI x7)), none, none, none, none] [] := by
                    intro s434 hI435 hF436 g437 g438 g439 g440 g441 g442 g443 g444 g445 g446
                    have b448 := zv_46_2 hI435 zc_164
                    have b449 := zv_46_3 hI435 zc_164
                    have b450 := zv_46_5 hI435 zc_164
                    have b451 := zv_46_97 hI435 zc_164
                    have b452 := zv_46_99 hI435 zc_164
                    have b453 := zv_46_101 hI435 zc_164
                    refine zt_aload_n (pc' := 145) hX dX12_qPartTold_144 rfl rfl ?_
                    refine zt_bipush (pc' := 147) hX dX12_qPartTold_145 rfl (by decide) (by decide) ?_
                    refine zt_cVv (pc' := 150) hX dX12_qPartTold_147 rfl zm_yX12_asksSign zw_27_10 zc_164 (by decide) zs_46 (q := (RX12, TX12, 108)) rfl rfl (zc_X12_asksSign _ _ s434 hI435 40 ⟨by omega, by omega⟩) rfl rfl (Nat.le_of_ble_eq_true rfl) (by decide) (fun r454 s455 hr456 hp457 => ?_)
                    obtain ⟨hI458, hF459, z460, z461⟩ := hp457
                    obtain ⟨w462, -, w464, w465, w466, w467, -, w469⟩ := zE_q1 hF459
                    have e470 := hF459 164 3 rfl
                    have e471 := hF459 164 97 rfl
                    have e472 := hF459 164 99 rfl
                    have e473 := hF459 164 101 rfl
                    have hF474 := zOn_tr hF436 hF459 zi_12
                    have b475 := zv_46_2 hI458 zc_164
                    have b476 := zv_46_3 hI458 zc_164
                    have b477 := zv_46_5 hI458 zc_164
                    have b478 := zv_46_97 hI458 zc_164
                    have b479 := zv_46_99 hI458 zc_164
                    have b480 := zv_46_101 hI458 zc_164
                    refine zt_goto (tgt := 183) hX dX12_qPartTold_150 (by decide) ?_
                    exact J_183_292 x7 s455 (by omega) (by omega) hI458 hF474 (by omega) (by omega) (by omega) (by omega) (by omega) (by omega) (by omega) (by omega) (by omega) (by omega) (by omega)
                  refine zt_iceq (pc' := 126) (tgt := 144) hX dX12_qPartTold_123 rfl (by decide) ⟨by omega, by omega⟩ ⟨by omega, by omega⟩ (fun c481 => ?_) (fun c481 => ?_)
                  · refine zt_mask [true, true, false, false, false, false] rfl ?_
                    exact J_144_446 s401 hI404 hF423 (by omega) (by omega) (by omega) (by omega) (by omega) (by omega) (by omega) (by omega) (by omega) (by omega)
                  · refine zt_aload_n (pc' := 127) hX dX12_qPartTold_126 rfl rfl ?_
                    refine zt_iload (pc' := 129) hX dX12_qPartTold_127 rfl rfl ?_
                    have J_139_484 : ∀ (y482 : Int), 21 ≤ y482 → y482 ≤ 22 → zF X s401 139 [some (.ref (X.1.1 + 164)), some (.int (zI x7)), none, none, none, some (.int (zI y430))] [.int (zI y482), .ref (X.1.1 + 164)] := by
                      intro y482 h483 h484
                      refine zt_iload (pc' := 141) hX dX12_qPartTold_139 rfl rfl ?_
                      refine zt_cVv (pc' := 144) hX dX12_qPartTold_141 rfl zm_yX12_qOpens zw_29_10 zc_164 (by decide) zs_46 (q := (RX12, TX12, 108)) rfl rfl (zc_X12_qOpens_S _ _ s401 hI404 y482 ⟨by omega, by omega⟩ y430 ⟨by omega, by omega⟩ (by omega) (by omega) (by omega)) rfl rfl (Nat.le_of_ble_eq_true rfl) (by decide) (fun r486 s487 hr488 hp489 => ?_)
                      obtain ⟨hI490, hF491, z492, z493, z494, z495, z496⟩ := hp489
                      have e497 := hF491 164 3 rfl
                      have hF498 := zOn_tr hF423 hF491 zi_id
                      have b499 := zv_46_2 hI490 zc_164
                      have b500 := zv_46_3 hI490 zc_164
                      have b501 := zv_46_5 hI490 zc_164
                      have b502 := zv_46_97 hI490 zc_164
                      have b503 := zv_46_99 hI490 zc_164
                      have b504 := zv_46_101 hI490 zc_164
                      refine zt_mask [true, true, false, false, false, false] rfl ?_
                      exact J_144_446 s487 hI490 hF498 (by omega) (by omega) (by omega) (by omega) (by omega) (by omega) (by omega) (by omega) (by omega) (by omega)
                    refine zt_ifeq (pc' := 132) (tgt := 137) hX dX12_qPartTold_129 rfl (by decide) ⟨by omega, by omega⟩ (fun c505 => ?_) (fun c505 => ?_)
                    · refine zt_bipush (pc' := 139) hX dX12_qPartTold_137 rfl (by decide) (by decide) ?_
                      refine zt_mask [true, true, false, false, false, true] rfl ?_
                      exact J_139_484 22 (by omega) (by omega)
                    · refine zt_bipush (pc' := 134) hX dX12_qPartTold_132 rfl (by decide) (by decide) ?_
                      refine zt_goto (tgt := 139) hX dX12_qPartTold_134 (by decide) ?_
                      refine zt_mask [true, true, false, false, false, true] rfl ?_
                      exact J_139_484 21 (by omega) (by omega)
                refine zt_icne (pc' := 110) (tgt := 117) hX dX12_qPartTold_107 rfl (by decide) ⟨by omega, by omega⟩ ⟨by omega, by omega⟩ (fun c506 => ?_) (fun c506 => ?_)
                · refine zt_iconst (pc' := 118) hX dX12_qPartTold_117 rfl ?_
                  exact J_118_432 (-1) (by omega) (by omega)
                · refine zt_aload_n (pc' := 111) hX dX12_qPartTold_110 rfl rfl ?_
                  have b507 := zv_46_2 hI404 zc_164
                  refine zt_get (pc' := 114) (v := .int (zI (s401 164 2))) hX dX12_qPartTold_111 rfl zf_X12_252 (by decide) zc_164 zs_46 rfl ?_
                  refine zt_goto (tgt := 118) hX dX12_qPartTold_114 (by decide) ?_
                  exact J_118_432 (s401 164 2) (by omega) (by omega)
              refine zt_ifne (pc' := 93) (tgt := 101) hX dX12_qPartTold_90 rfl (by decide) ⟨by omega, by omega⟩ (fun c508 => ?_) (fun c508 => ?_)
              · exact J_101_392 s352 hI355 hF374 (by omega) (by omega) (by omega) (by omega) (by omega) (by omega) (by omega) (by omega) (by omega)
              · refine zt_aload_n (pc' := 94) hX dX12_qPartTold_93 rfl rfl ?_
                refine zt_aload_n (pc' := 95) hX dX12_qPartTold_94 rfl rfl ?_
                refine zt_get (pc' := 98) (v := .ref (X.1.1 + 222)) hX dX12_qPartTold_95 rfl zf_X12_195 (by decide) zc_164 zs_46 (zrf_of (zv_46_84 hI355 zc_164)) ?_
                refine zt_cVv (pc' := 101) hX dX12_qPartTold_98 rfl zm_yX12_asks zw_26_0 zc_164 (by decide) zs_46 (q := (RX12, TX12, 108)) rfl rfl (zc_X12_asks _ _ s352 hI355 222 104 3 zc_222 (by decide) zs_104 (by decide)) rfl rfl (Nat.le_of_ble_eq_true rfl) (by decide) (fun r509 s510 hr511 hp512 => ?_)
                obtain ⟨hI513, hF514, z515, z516⟩ := hp512
                obtain ⟨w517, -, w519, w520, w521, w522, -, w524⟩ := zE_q1 hF514
                have e525 := hF514 164 3 rfl
                have e526 := hF514 164 97 rfl
                have e527 := hF514 164 99 rfl
                have e528 := hF514 164 101 rfl
                have hF529 := zOn_tr hF374 hF514 zi_12
                have b530 := zv_46_2 hI513 zc_164
                have b531 := zv_46_3 hI513 zc_164
                have b532 := zv_46_5 hI513 zc_164
                have b533 := zv_46_97 hI513 zc_164
                have b534 := zv_46_99 hI513 zc_164
                have b535 := zv_46_101 hI513 zc_164
                exact J_101_392 s510 hI513 hF529 (by omega) (by omega) (by omega) (by omega) (by omega) (by omega) (by omega) (by omega) (by omega)
            refine zt_ifne (pc' := 67) (tgt := 78) hX dX12_qPartTold_64 rfl (by decide) ⟨by omega, by omega⟩ (fun c536 => ?_) (fun c536 => ?_)
            · refine zt_mask [true, true, false, false, false, false] rfl ?_
              exact J_78_343 s302 hI305 hF324 (by omega) (by omega) (by omega) (by omega) (by omega) (by omega) (by omega) (by omega) (by omega) (by omega)
            · refine zt_aload_n (pc' := 68) hX dX12_qPartTold_67 rfl rfl ?_
              refine zt_aload_n (pc' := 69) hX dX12_qPartTold_68 rfl rfl ?_
              refine zt_get (pc' := 72) (v := .ref (X.1.1 + 222)) hX dX12_qPartTold_69 rfl zf_X12_195 (by decide) zc_164 zs_46 (zrf_of (zv_46_84 hI305 zc_164)) ?_
              refine zt_cVz (pc' := 75) hX dX12_qPartTold_72 rfl zm_yX12_isHere zw_26_8 zc_164 (by decide) zs_46 (q := (RX12, TX12, 108)) rfl rfl (zc_X12_isHere _ _ s302 hI305 222 104 3 zc_222 (by decide) zs_104 (by decide)) rfl rfl (Nat.le_of_ble_eq_true rfl) (by decide) (fun r537 s538 hr539 hp540 => ?_)
              obtain ⟨hI541, hF542, q543, q544, z545, z546, z547⟩ := hp540
              obtain ⟨w548, -, w550, w551, w552, w553, -, w555⟩ := zE_q1 hF542
              have e556 := hF542 164 3 rfl
              have e557 := hF542 164 97 rfl
              have e558 := hF542 164 99 rfl
              have e559 := hF542 164 101 rfl
              have hF560 := zOn_tr hF324 hF542 zi_12
              have b561 := zv_46_2 hI541 zc_164
              have b562 := zv_46_3 hI541 zc_164
              have b563 := zv_46_5 hI541 zc_164
              have b564 := zv_46_97 hI541 zc_164
              have b565 := zv_46_99 hI541 zc_164
              have b566 := zv_46_101 hI541 zc_164
              refine zt_ifeq (pc' := 78) (tgt := 153) hX dX12_qPartTold_75 rfl (by decide) ⟨by omega, by omega⟩ (fun c567 => ?_) (fun c567 => ?_)
              · refine zt_iload_n (pc' := 154) hX dX12_qPartTold_153 rfl rfl ?_
                refine zt_iconst (pc' := 155) hX dX12_qPartTold_154 rfl ?_
                refine zt_iceq (pc' := 158) (tgt := 181) hX dX12_qPartTold_155 rfl (by decide) ⟨by omega, by omega⟩ ⟨by omega, by omega⟩ (fun c568 => ?_) (fun c568 => ?_)
                · refine zt_iconst (pc' := 182) hX dX12_qPartTold_181 rfl ?_
                  refine zt_istore_n (pc' := 183) (lv' := [some (.ref (X.1.1 + 164)), some (.int (zI 0)), some (.int (zI r216)), some (.int (zI r246)), none, none]) hX dX12_qPartTold_182 rfl hL (by decide) rfl ?_
                  refine zt_mask [true, true, false, false, false, false] rfl ?_
                  exact J_183_292 0 s538 (by omega) (by omega) hI541 hF560 (by omega) (by omega) (by omega) (by omega) (by omega) (by omega) (by omega) (by omega) (by omega) (by omega) (by omega)
                · refine zt_aload_n (pc' := 159) hX dX12_qPartTold_158 rfl rfl ?_
                  refine zt_bipush (pc' := 161) hX dX12_qPartTold_159 rfl (by decide) (by decide) ?_
                  refine zt_iload_n (pc' := 162) hX dX12_qPartTold_161 rfl rfl ?_
                  refine zt_iadd (pc' := 163) hX dX12_qPartTold_162 rfl ?_
                  refine zt_bipush (pc' := 165) hX dX12_qPartTold_163 rfl (by decide) (by decide) ?_
                  refine zt_isub (pc' := 166) hX dX12_qPartTold_165 rfl ?_
                  refine zt_aload_n (pc' := 167) hX dX12_qPartTold_166 rfl rfl ?_
                  have b569 := zv_46_2 hI541 zc_164
                  refine zt_get (pc' := 170) (v := .int (zI (s538 164 2))) hX dX12_qPartTold_167 rfl zf_X12_252 (by decide) zc_164 zs_46 rfl ?_
                  refine zt_cVv (pc' := 173) hX dX12_qPartTold_170 rfl zm_yX12_qOpens zw_29_10 zc_164 (by decide) zs_46 (q := (RX12, TX12, 108)) rfl rfl (zc_X12_qOpens_S _ _ s538 hI541 ((60 + r246) - 10) ⟨by omega, by omega⟩ (s538 164 2) ⟨by omega, by omega⟩ (by omega) (by omega) (by omega)) rfl rfl (Nat.le_of_ble_eq_true rfl) (by decide) (fun r570 s571 hr572 hp573 => ?_)
                  obtain ⟨hI574, hF575, z576, z577, z578, z579, z580⟩ := hp573
                  have e581 := hF575 164 3 rfl
                  have hF582 := zOn_tr hF560 hF575 zi_id
                  have b583 := zv_46_2 hI574 zc_164
                  have b584 := zv_46_3 hI574 zc_164
                  have b585 := zv_46_5 hI574 zc_164
                  have b586 := zv_46_97 hI574 zc_164
                  have b587 := zv_46_99 hI574 zc_164
                  have b588 := zv_46_101 hI574 zc_164
                  refine zt_aload_n (pc' := 174) hX dX12_qPartTold_173 rfl rfl ?_
                  refine zt_iload_n (pc' := 175) hX dX12_qPartTold_174 rfl rfl ?_
                  refine zt_cVv (pc' := 178) hX dX12_qPartTold_175 rfl zm_yX12_qAsksWord zw_30_20 zc_164 (by decide) zs_46 (q := (RX12, TX12, 108)) rfl rfl (zc_X12_qAsksWord _ _ s571 hI574 r246 ⟨by omega, by omega⟩) rfl rfl (Nat.le_of_ble_eq_true rfl) (by decide) (fun r589 s590 hr591 hp592 => ?_)
                  obtain ⟨hI593, hF594, z595, z596⟩ := hp592
                  obtain ⟨w597, -, w599, w600, w601, w602, -, w604⟩ := zE_q1 hF594
                  have e605 := hF594 164 3 rfl
                  have e606 := hF594 164 97 rfl
                  have e607 := hF594 164 99 rfl
                  have e608 := hF594 164 101 rfl
                  have hF609 := zOn_tr hF582 hF594 zi_12
                  have b610 := zv_46_2 hI593 zc_164
                  have b611 := zv_46_3 hI593 zc_164
                  have b612 := zv_46_5 hI593 zc_164
                  have b613 := zv_46_97 hI593 zc_164
                  have b614 := zv_46_99 hI593 zc_164
                  have b615 := zv_46_101 hI593 zc_164
                  refine zt_goto (tgt := 183) hX dX12_qPartTold_178 (by decide) ?_
                  refine zt_mask [true, true, false, false, false, false] rfl ?_
                  exact J_183_292 x7 s590 (by omega) (by omega) hI593 hF609 (by omega) (by omega) (by omega) (by omega) (by omega) (by omega) (by omega) (by omega) (by omega) (by omega) (by omega)
              · refine zt_mask [true, true, false, false, false, false] rfl ?_
                exact J_78_343 s538 hI541 hF560 (by omega) (by omega) (by omega) (by omega) (by omega) (by omega) (by omega) (by omega) (by omega) (by omega)
          · refine zt_aload_n (pc' := 34) hX dX12_qPartTold_33 rfl rfl ?_
            refine zt_bipush (pc' := 36) hX dX12_qPartTold_34 rfl (by decide) (by decide) ?_
            refine zt_aload_n (pc' := 37) hX dX12_qPartTold_36 rfl rfl ?_
            have b616 := zv_46_2 hI250 zc_164
            refine zt_get (pc' := 40) (v := .int (zI (s247 164 2))) hX dX12_qPartTold_37 rfl zf_X12_252 (by decide) zc_164 zs_46 rfl ?_
            refine zt_cVv (pc' := 43) hX dX12_qPartTold_40 rfl zm_yX12_qOpens zw_29_10 zc_164 (by decide) zs_46 (q := (RX12, TX12, 108)) rfl rfl (zc_X12_qOpens_S _ _ s247 hI250 20 ⟨by omega, by omega⟩ (s247 164 2) ⟨by omega, by omega⟩ (by omega) (by omega) (by omega)) rfl rfl (Nat.le_of_ble_eq_true rfl) (by decide) (fun r617 s618 hr619 hp620 => ?_)
            obtain ⟨hI621, hF622, z623, z624, z625, z626, z627⟩ := hp620
            have e628 := hF622 164 3 rfl
            have hF629 := zOn_tr hF269 hF622 zi_id
            have b630 := zv_46_2 hI621 zc_164
            have b631 := zv_46_3 hI621 zc_164
            have b632 := zv_46_5 hI621 zc_164
            have b633 := zv_46_97 hI621 zc_164
            have b634 := zv_46_99 hI621 zc_164
            have b635 := zv_46_101 hI621 zc_164
            refine zt_aload_n (pc' := 44) hX dX12_qPartTold_43 rfl rfl ?_
            refine zt_dup (pc' := 45) hX dX12_qPartTold_44 rfl rfl ?_
            have b636 := zv_46_2 hI621 zc_164
            refine zt_get (pc' := 48) (v := .int (zI (s618 164 2))) hX dX12_qPartTold_45 rfl zf_X12_252 (by decide) zc_164 zs_46 rfl ?_
            refine zt_iconst (pc' := 49) hX dX12_qPartTold_48 rfl ?_
            refine zt_iadd (pc' := 50) hX dX12_qPartTold_49 rfl ?_
            refine zt_put (pc' := 53) (x := ((s618 164 2) + 1)) hX dX12_qPartTold_50 rfl zf_X12_252 (by decide) zc_164 zs_46 (fun q hq => by cases hq; rfl) rfl rfl rfl ?_
            generalize hs638 : zset s618 164 2 ((s618 164 2) + 1) = s637
            have hI639 : zInv s637 := hs638 ▸ zp_46_2 hI621 zc_164 ⟨by omega, by omega⟩
            have hF640 : zOn zQ2 σ s637 := hs638 ▸ zOn_set hF629 (by decide)
            obtain ⟨w641, -, w643, w644, w645, w646, -, w648⟩ := zE_set hs638 (by decide)
            have e649 : s637 164 2 = ((s618 164 2) + 1) := by rw [← hs638]; exact zset_s
            have e650 : s637 164 3 = s618 164 3 := by rw [← hs638]; exact zset_j (by decide)
            have e651 : s637 164 5 = s618 164 5 := by rw [← hs638]; exact zset_j (by decide)
            have e652 : s637 164 97 = s618 164 97 := by rw [← hs638]; exact zset_j (by decide)
            have e653 : s637 164 99 = s618 164 99 := by rw [← hs638]; exact zset_j (by decide)
            have e654 : s637 164 101 = s618 164 101 := by rw [← hs638]; exact zset_j (by decide)
            refine zt_goto (tgt := 183) hX dX12_qPartTold_53 (by decide) ?_
            refine zt_mask [true, true, false, false, false, false] rfl ?_
            exact J_183_292 x7 s637 (by omega) (by omega) hI639 hF640 (by omega) (by omega) (by omega) (by omega) (by omega) (by omega) (by omega) (by omega) (by omega) (by omega) (by omega)
  exact L_2_20 _ 1 σ (by omega) (by omega) hI hF (by omega) (by omega) (by omega) (by omega) (by omega) (by omega) (by omega) (by omega) (Nat.lt_succ_self _)

set_option maxRecDepth 100000 in
set_option maxHeartbeats 4000000 in
theorem zc_X12_qGoesOn (l : Launch) (E : zEN) (σ : zSto) (hI : zInv σ) (hpre0 : σ 164 5 = 0) (hpre1 : σ 164 2 ≤ σ 164 3) (hpre2 : σ 164 97 + σ 164 99 ≤ σ 164 2) (hpre3 : σ 164 101 ≤ σ 164 99) (hpre4 : zr σ = 1) (hpre5 : zBt σ + 1 ≤ zHt σ) : zCt l E yX12_qGoesOn cX12_qGoesOn 2 (some .boolean) 3 zNC zNC 0 0 σ [.ref (E.1 + 164)] (fun r σ' => zInv σ' ∧ zOn zQ2 σ σ' ∧ 0 ≤ r ∧ r ≤ 1 ∧ (σ' 164 2 ≤ σ 164 3) ∧ (σ 164 2 ≤ σ' 164 2) ∧ (σ' 164 101 = σ 164 101) ∧ (σ 164 101 ≤ σ' 164 99) ∧ (σ' 164 97 + σ' 164 99 + σ 164 2 ≤ σ 164 97 + σ 164 99 + σ' 164 2) ∧ (r = 1 → σ' 164 5 = 0) ∧ (σ' 164 5 = 0 → zr σ' = 1 ∧ zHt σ' - zBt σ' + r = zHt σ - zBt σ) ∧ (r = 0 ∧ σ' 164 5 = 0 → ztb σ' = -1) ∧ (zBb σ' = zBb σ ∧ zSb σ' = zSb σ)) := by
  refine zCt_of2 [some (.ref (E.1 + 164)), none] (by decide +kernel) (Nat.le_of_ble_eq_true rfl) rfl ?_
  intro X hE hX hR hL hN
  subst hE
  have hX : zok X cX12_qGoesOn RX12 3 := hX
  have hF := zOn_rf zQ2 σ
  have b1 := zv_46_2 hI zc_164
  have b2 := zv_46_3 hI zc_164
  have b3 := zv_46_5 hI zc_164
  have b4 := zv_46_97 hI zc_164
  have b5 := zv_46_99 hI zc_164
  have b6 := zv_46_101 hI zc_164
  have L_0_17 : ∀ (N : Nat) (s7 : zSto), zInv s7 → zOn zQ2 σ s7 → (σ 164 2 ≤ s7 164 2 ∧ s7 164 2 ≤ σ 164 3) → s7 164 3 = σ 164 3 → s7 164 101 = σ 164 101 → σ 164 101 ≤ s7 164 99 → s7 164 5 = 0 → s7 164 97 + s7 164 99 + σ 164 2 ≤ σ 164 97 + σ 164 99 + s7 164 2 → (zr s7 = 1 ∧ zHt s7 - zBt s7 = zHt σ - zBt σ) → (zBb s7 = zBb σ ∧ zSb s7 = zSb σ) → ((1601 - s7 164 2).toNat) < N → zF X s7 0 [some (.ref (X.1.1 + 164)), none] [] := by
    intro N
    induction N with
    | zero =>
      intro s7 hI8 hF9 g10 g11 g12 g13 g14 g15 g16 g17 hm19
      exact absurd hm19 (Nat.not_lt_zero _)
    | succ N ih20 =>
      intro s7 hI8 hF9 g10 g11 g12 g13 g14 g15 g16 g17 hm19
      have b21 := zv_46_2 hI8 zc_164
      have b22 := zv_46_3 hI8 zc_164
      have b23 := zv_46_5 hI8 zc_164
      have b24 := zv_46_97 hI8 zc_164
      have b25 := zv_46_99 hI8 zc_164
      have b26 := zv_46_101 hI8 zc_164
      refine zt_aload_n (pc' := 1) hX dX12_qGoesOn_0 rfl rfl ?_
      have b27 := zv_46_5 hI8 zc_164
      refine zt_get (pc' := 4) (v := .int (zI (s7 164 5))) hX dX12_qGoesOn_1 rfl zf_X12_246 (by decide) zc_164 zs_46 rfl ?_
      have J_122_38 : ∀ (s28 : zSto), zInv s28 → zOn zQ2 σ s28 → (σ 164 2 ≤ s28 164 2 ∧ s28 164 2 ≤ σ 164 3) → s28 164 3 = σ 164 3 → s28 164 101 = σ 164 101 → σ 164 101 ≤ s28 164 99 → s28 164 5 = 0 → s28 164 97 + s28 164 99 + σ 164 2 ≤ σ 164 97 + σ 164 99 + s28 164 2 → (zr s28 = 1 ∧ zHt s28 - zBt s28 = zHt σ - zBt σ) → (zBb s28 = zBb σ ∧ zSb s28 = zSb σ) → zF X s28 122 [some (.ref (X.1.1 + 164)), none] [] := by
        intro s28 hI29 hF30 g31 g32 g33 g34 g35 g36 g37 g38
        have b40 := zv_46_2 hI29 zc_164
        have b41 := zv_46_3 hI29 zc_164
        have b42 := zv_46_5 hI29 zc_164
        have b43 := zv_46_97 hI29 zc_164
        have b44 := zv_46_99 hI29 zc_164
        have b45 := zv_46_101 hI29 zc_164
        refine zt_aload_n (pc' := 123) hX dX12_qGoesOn_122 rfl rfl ?_
        refine zt_bipush (pc' := 125) hX dX12_qGoesOn_123 rfl (by decide) (by decide) ?_
        refine zt_cVz (pc' := 128) hX dX12_qGoesOn_125 rfl zm_yX12_takesSign zw_27_14 zc_164 (by decide) zs_46 (q := (RX12, TX12, 108)) rfl rfl (zc_X12_takesSign _ _ s28 hI29 42 ⟨by omega, by omega⟩) rfl rfl (Nat.le_of_ble_eq_true rfl) (by decide) (fun r46 s47 hr48 hp49 => ?_)
        obtain ⟨hI50, hF51, q52, q53, z54, z55, z56⟩ := hp49
        obtain ⟨w57, -, w59, w60, w61, w62, -, w64⟩ := zE_q1 hF51
        have e65 := hF51 164 3 rfl
        have e66 := hF51 164 97 rfl
        have e67 := hF51 164 99 rfl
        have e68 := hF51 164 101 rfl
        have hF69 := zOn_tr hF30 hF51 zi_12
        have b70 := zv_46_2 hI50 zc_164
        have b71 := zv_46_3 hI50 zc_164
        have b72 := zv_46_5 hI50 zc_164
        have b73 := zv_46_97 hI50 zc_164
        have b74 := zv_46_99 hI50 zc_164
        have b75 := zv_46_101 hI50 zc_164
        have J_140_88 : ∀ (s76 : zSto), zInv s76 → zOn zQ2 σ s76 → s76 164 97 + s76 164 99 + σ 164 2 + 1 ≤ σ 164 97 + σ 164 99 + s76 164 2 → 1 ≤ s76 164 2 → (σ 164 2 ≤ s76 164 2 ∧ s76 164 2 ≤ σ 164 3) → s76 164 3 = σ 164 3 → s76 164 101 = σ 164 101 → σ 164 101 ≤ s76 164 99 → s76 164 5 = 0 → s76 164 97 + s76 164 99 + σ 164 2 ≤ σ 164 97 + σ 164 99 + s76 164 2 → (zr s76 = 1 ∧ zHt s76 - zBt s76 = zHt σ - zBt σ) → (zBb s76 = zBb σ ∧ zSb s76 = zSb σ) → zF X s76 140 [some (.ref (X.1.1 + 164)), none] [] := by
          intro s76 hI77 hF78 g79 g80 g81 g82 g83 g84 g85 g86 g87 g88
          have b90 := zv_46_2 hI77 zc_164
          have b91 := zv_46_3 hI77 zc_164
          have b92 := zv_46_5 hI77 zc_164
          have b93 := zv_46_97 hI77 zc_164
          have b94 := zv_46_99 hI77 zc_164
          have b95 := zv_46_101 hI77 zc_164
          refine zt_aload_n (pc' := 141) hX dX12_qGoesOn_140 rfl rfl ?_
          refine zt_get (pc' := 144) (v := .ref (X.1.1 + 165)) hX dX12_qGoesOn_141 rfl zf_X12_7 (by decide) zc_164 zs_46 (zrf_of (zv_46_0 hI77 zc_164)) ?_
          refine zt_aload_n (pc' := 145) hX dX12_qGoesOn_144 rfl rfl ?_
          have b96 := zv_46_2 hI77 zc_164
          refine zt_get (pc' := 148) (v := .int (zI (s76 164 2))) hX dX12_qGoesOn_145 rfl zf_X12_252 (by decide) zc_164 zs_46 rfl ?_
          refine zt_iconst (pc' := 149) hX dX12_qGoesOn_148 rfl ?_
          refine zt_isub (pc' := 150) hX dX12_qGoesOn_149 rfl ?_
          refine zt_iald (pc' := 151) hX dX12_qGoesOn_150 rfl (by decide) zc_165 zs_47 (by decide) ⟨by omega, by omega⟩ ?_
          generalize hv97 : s76 165 (((s76 164 2) - 1).toNat) = v97
          have bv97 : 0 ≤ v97 ∧ v97 ≤ 255 := hv97 ▸ zv_47 hI77 zc_165 _
          refine zt_bipush (pc' := 153) hX dX12_qGoesOn_151 rfl (by decide) (by decide) ?_
          have J_161_100 : ∀ (y98 : Int), 3 ≤ y98 → y98 ≤ 4 → zF X s76 161 [some (.ref (X.1.1 + 164)), none] [.int (zI y98)] := by
            intro y98 h99 h100
            refine zt_istore_n (pc' := 162) (lv' := [some (.ref (X.1.1 + 164)), some (.int (zI y98))]) hX dX12_qGoesOn_161 rfl hL (by decide) rfl ?_
            have L_162_113 : ∀ (N : Nat) (s102 : zSto), zInv s102 → zOn zQ2 σ s102 → s102 164 97 + s102 164 99 + σ 164 2 + 1 ≤ σ 164 97 + σ 164 99 + s102 164 2 → (σ 164 2 ≤ s102 164 2 ∧ s102 164 2 ≤ σ 164 3) → s102 164 3 = σ 164 3 → s102 164 101 = σ 164 101 → σ 164 101 ≤ s102 164 99 → s102 164 5 = 0 → s102 164 97 + s102 164 99 + σ 164 2 ≤ σ 164 97 + σ 164 99 + s102 164 2 → (zr s102 = 1 ∧ zHt s102 - zBt s102 = zHt σ - zBt σ) → (zBb s102 = zBb σ ∧ zSb s102 = zSb σ) → ((s102 164 99).toNat) < N → zF X s102 162 [some (.ref (X.1.1 + 164)), some (.int (zI y98))] [] := by
              intro N
              induction N with
              | zero =>
                intro s102 hI103 hF104 g105 g106 g107 g108 g109 g110 g111 g112 g113 hm115
                exact absurd hm115 (Nat.not_lt_zero _)
              | succ N ih116 =>
                intro s102 hI103 hF104 g105 g106 g107 g108 g109 g110 g111 g112 g113 hm115
                have b117 := zv_46_2 hI103 zc_164
                have b118 := zv_46_3 hI103 zc_164
                have b119 := zv_46_5 hI103 zc_164
                have b120 := zv_46_97 hI103 zc_164
                have b121 := zv_46_99 hI103 zc_164
                have b122 := zv_46_101 hI103 zc_164
                refine zt_aload_n (pc' := 163) hX dX12_qGoesOn_162 rfl rfl ?_
                refine zt_iconst (pc' := 164) hX dX12_qGoesOn_163 rfl ?_
                refine zt_cVz (pc' := 167) hX dX12_qGoesOn_164 rfl zm_yX12_qIsOn zw_31_23 zc_164 (by decide) zs_46 (q := (RX12, TX12, 108)) rfl rfl (zc_X12_qIsOn _ _ s102 hI103 3 ⟨by omega, by omega⟩) rfl rfl (Nat.le_of_ble_eq_true rfl) (by decide) (fun r123 s124 hr125 hp126 => ?_)
                obtain ⟨rfl, q127, q128, z129, z130⟩ := hp126
                have J_178_131 : (1 ≤ s102 164 99 ∧ 1 ≤ s102 235 (s102 164 99 - 1).toNat ∧ s102 235 (s102 164 99 - 1).toNat ≤ 4) → zF X s102 178 [some (.ref (X.1.1 + 164)), some (.int (zI y98))] [] := by
                  intro g131
                  refine zt_aload_n (pc' := 179) hX dX12_qGoesOn_178 rfl rfl ?_
                  have h133 := fun (h : 1 ≤ s102 164 99) (h2 : 1 ≤ s102 235 (s102 164 99 - 1).toNat ∧ s102 235 (s102 164 99 - 1).toNat ≤ 4) => zr_on (s := s102) rfl h (by omega) h2 (by omega)
                  refine zt_cVv (pc' := 182) hX dX12_qGoesOn_179 rfl zm_yX12_qDrops zw_31_4 zc_164 (by decide) zs_46 (q := (RX12, TX12, 108)) rfl rfl (zc_X12_qDrops_S _ _ s102 hI103 (by omega) (by omega) (by omega) (by omega) (by omega)) rfl rfl (Nat.le_of_ble_eq_true rfl) (by decide) (fun r134 s135 hr136 hp137 => ?_)
                  obtain ⟨hI138, hF139, z140, z141⟩ := hp137
                  have e142 := hF139 164 2 rfl
                  have e143 := hF139 164 3 rfl
                  have e144 := hF139 164 5 rfl
                  have e145 := hF139 164 101 rfl
                  have hF146 := zOn_tr hF104 hF139 zi_52
                  have b147 := zv_46_2 hI138 zc_164
                  have b148 := zv_46_3 hI138 zc_164
                  have b149 := zv_46_5 hI138 zc_164
                  have b150 := zv_46_97 hI138 zc_164
                  have b151 := zv_46_99 hI138 zc_164
                  have b152 := zv_46_101 hI138 zc_164
                  refine zt_goto (tgt := 162) hX dX12_qGoesOn_182 (by decide) ?_
                  exact ih116 s135 hI138 hF146 (by omega) (by omega) (by omega) (by omega) (by omega) (by omega) (by omega) (by omega) (by omega) (by omega)
                refine zt_ifne (pc' := 170) (tgt := 178) hX dX12_qGoesOn_167 rfl (by decide) ⟨by omega, by omega⟩ (fun c153 => ?_) (fun c153 => ?_)
                · exact J_178_131 (by omega)
                · refine zt_aload_n (pc' := 171) hX dX12_qGoesOn_170 rfl rfl ?_
                  refine zt_iconst (pc' := 172) hX dX12_qGoesOn_171 rfl ?_
                  refine zt_cVz (pc' := 175) hX dX12_qGoesOn_172 rfl zm_yX12_qIsOn zw_31_23 zc_164 (by decide) zs_46 (q := (RX12, TX12, 108)) rfl rfl (zc_X12_qIsOn _ _ s102 hI103 4 ⟨by omega, by omega⟩) rfl rfl (Nat.le_of_ble_eq_true rfl) (by decide) (fun r154 s155 hr156 hp157 => ?_)
                  obtain ⟨rfl, q158, q159, z160, z161⟩ := hp157
                  refine zt_ifeq (pc' := 178) (tgt := 185) hX dX12_qGoesOn_175 rfl (by decide) ⟨by omega, by omega⟩ (fun c162 => ?_) (fun c162 => ?_)
                  · refine zt_aload_n (pc' := 186) hX dX12_qGoesOn_185 rfl rfl ?_
                    refine zt_get (pc' := 189) (v := .ref (X.1.1 + 235)) hX dX12_qGoesOn_186 rfl zf_X12_234 (by decide) zc_164 zs_46 (zrf_of (zv_46_98 hI103 zc_164)) ?_
                    refine zt_aload_n (pc' := 190) hX dX12_qGoesOn_189 rfl rfl ?_
                    have b163 := zv_46_99 hI103 zc_164
                    refine zt_get (pc' := 193) (v := .int (zI (s102 164 99))) hX dX12_qGoesOn_190 rfl zf_X12_333 (by decide) zc_164 zs_46 rfl ?_
                    refine zt_iload_n (pc' := 194) hX dX12_qGoesOn_193 rfl rfl ?_
                    refine zt_iast (pc' := 195) hX dX12_qGoesOn_194 rfl (by decide) zc_235 zs_117 (by decide) ⟨by omega, by omega⟩ ?_
                    generalize hs165 : zset s102 235 ((s102 164 99).toNat) y98 = s164
                    have hI166 : zInv s164 := hs165 ▸ zp_117 hI103 zc_235 ((s102 164 99).toNat) ⟨by omega, by omega⟩
                    have hF167 : zOn zQ2 σ s164 := hs165 ▸ zOn_set hF104 (zq2_235 (by omega))
                    have e168 : s164 164 2 = s102 164 2 := by rw [← hs165]; exact zset_k (zne_r zc_164 zc_235 (by decide))
                    have e169 : s164 164 3 = s102 164 3 := by rw [← hs165]; exact zset_k (zne_r zc_164 zc_235 (by decide))
                    have e170 : s164 164 5 = s102 164 5 := by rw [← hs165]; exact zset_k (zne_r zc_164 zc_235 (by decide))
                    have e171 : s164 164 97 = s102 164 97 := by rw [← hs165]; exact zset_k (zne_r zc_164 zc_235 (by decide))
                    have e172 : s164 164 99 = s102 164 99 := by rw [← hs165]; exact zset_k (zne_r zc_164 zc_235 (by decide))
                    have e173 : s164 164 101 = s102 164 101 := by rw [← hs165]; exact zset_k (zne_r zc_164 zc_235 (by decide))
                    refine zt_aload_n (pc' := 196) hX dX12_qGoesOn_195 rfl rfl ?_
                    refine zt_dup (pc' := 197) hX dX12_qGoesOn_196 rfl rfl ?_
                    have b174 := zv_46_99 hI166 zc_164
                    refine zt_get (pc' := 200) (v := .int (zI (s164 164 99))) hX dX12_qGoesOn_197 rfl zf_X12_333 (by decide) zc_164 zs_46 rfl ?_
                    refine zt_iconst (pc' := 201) hX dX12_qGoesOn_200 rfl ?_
                    refine zt_iadd (pc' := 202) hX dX12_qGoesOn_201 rfl ?_
                    refine zt_put (pc' := 205) (x := ((s164 164 99) + 1)) hX dX12_qGoesOn_202 rfl zf_X12_333 (by decide) zc_164 zs_46 (fun q hq => by cases hq; rfl) rfl rfl rfl ?_
                    generalize hs176 : zset s164 164 99 ((s164 164 99) + 1) = s175
                    have hI177 : zInv s175 := hs176 ▸ zp_46_99 hI166 zc_164 ⟨by omega, by omega⟩
                    have hF178 : zOn zQ2 σ s175 := hs176 ▸ zOn_set hF167 (by decide)
                    have e179 : s175 164 2 = s164 164 2 := by rw [← hs176]; exact zset_j (by decide)
                    have e180 : s175 164 3 = s164 164 3 := by rw [← hs176]; exact zset_j (by decide)
                    have e181 : s175 164 5 = s164 164 5 := by rw [← hs176]; exact zset_j (by decide)
                    have e182 : s175 164 97 = s164 164 97 := by rw [← hs176]; exact zset_j (by decide)
                    have e183 : s175 164 99 = ((s164 164 99) + 1) := by rw [← hs176]; exact zset_s
                    have e184 : s175 164 101 = s164 164 101 := by rw [← hs176]; exact zset_j (by decide)
                    have h185 := zpush_S hs165 hs176 (by omega) (by omega) (by omega) (by omega)
                    have h186w := zw_v y98
                    refine zt_iconst (pc' := 206) hX dX12_qGoesOn_205 rfl ?_
                    exact zt_zret hX hR dX12_qGoesOn_206 ⟨by omega, by omega⟩ ⟨hI177, hF178, by omega, by omega, by omega, by omega, by omega, by omega, by omega, by omega, by omega, by omega, by omega⟩
                  · exact J_178_131 (by omega)
            exact L_162_113 _ s76 hI77 hF78 (by omega) (by omega) (by omega) (by omega) (by omega) (by omega) (by omega) (by omega) (by omega) (Nat.lt_succ_self _)
          refine zt_icne (pc' := 156) (tgt := 160) hX dX12_qGoesOn_153 rfl (by decide) ⟨by omega, by omega⟩ ⟨by omega, by omega⟩ (fun c187 => ?_) (fun c187 => ?_)
          · refine zt_iconst (pc' := 161) hX dX12_qGoesOn_160 rfl ?_
            exact J_161_100 4 (by omega) (by omega)
          · refine zt_iconst (pc' := 157) hX dX12_qGoesOn_156 rfl ?_
            refine zt_goto (tgt := 161) hX dX12_qGoesOn_157 (by decide) ?_
            exact J_161_100 3 (by omega) (by omega)
        refine zt_ifne (pc' := 131) (tgt := 140) hX dX12_qGoesOn_128 rfl (by decide) ⟨by omega, by omega⟩ (fun c188 => ?_) (fun c188 => ?_)
        · exact J_140_88 s47 hI50 hF69 (by omega) (by omega) (by omega) (by omega) (by omega) (by omega) (by omega) (by omega) (by omega) (by omega)
        · refine zt_aload_n (pc' := 132) hX dX12_qGoesOn_131 rfl rfl ?_
          refine zt_bipush (pc' := 134) hX dX12_qGoesOn_132 rfl (by decide) (by decide) ?_
          refine zt_cVz (pc' := 137) hX dX12_qGoesOn_134 rfl zm_yX12_takesSign zw_27_14 zc_164 (by decide) zs_46 (q := (RX12, TX12, 108)) rfl rfl (zc_X12_takesSign _ _ s47 hI50 47 ⟨by omega, by omega⟩) rfl rfl (Nat.le_of_ble_eq_true rfl) (by decide) (fun r189 s190 hr191 hp192 => ?_)
          obtain ⟨hI193, hF194, q195, q196, z197, z198, z199⟩ := hp192
          obtain ⟨w200, -, w202, w203, w204, w205, -, w207⟩ := zE_q1 hF194
          have e208 := hF194 164 3 rfl
          have e209 := hF194 164 97 rfl
          have e210 := hF194 164 99 rfl
          have e211 := hF194 164 101 rfl
          have hF212 := zOn_tr hF69 hF194 zi_12
          have b213 := zv_46_2 hI193 zc_164
          have b214 := zv_46_3 hI193 zc_164
          have b215 := zv_46_5 hI193 zc_164
          have b216 := zv_46_97 hI193 zc_164
          have b217 := zv_46_99 hI193 zc_164
          have b218 := zv_46_101 hI193 zc_164
          refine zt_ifeq (pc' := 140) (tgt := 207) hX dX12_qGoesOn_137 rfl (by decide) ⟨by omega, by omega⟩ (fun c219 => ?_) (fun c219 => ?_)
          · refine zt_aload_n (pc' := 208) hX dX12_qGoesOn_207 rfl rfl ?_
            refine zt_bipush (pc' := 210) hX dX12_qGoesOn_208 rfl (by decide) (by decide) ?_
            refine zt_cVz (pc' := 213) hX dX12_qGoesOn_210 rfl zm_yX12_takesSign zw_27_14 zc_164 (by decide) zs_46 (q := (RX12, TX12, 108)) rfl rfl (zc_X12_takesSign _ _ s190 hI193 43 ⟨by omega, by omega⟩) rfl rfl (Nat.le_of_ble_eq_true rfl) (by decide) (fun r220 s221 hr222 hp223 => ?_)
            obtain ⟨hI224, hF225, q226, q227, z228, z229, z230⟩ := hp223
            obtain ⟨w231, -, w233, w234, w235, w236, -, w238⟩ := zE_q1 hF225
            have e239 := hF225 164 3 rfl
            have e240 := hF225 164 97 rfl
            have e241 := hF225 164 99 rfl
            have e242 := hF225 164 101 rfl
            have hF243 := zOn_tr hF212 hF225 zi_12
            have b244 := zv_46_2 hI224 zc_164
            have b245 := zv_46_3 hI224 zc_164
            have b246 := zv_46_5 hI224 zc_164
            have b247 := zv_46_97 hI224 zc_164
            have b248 := zv_46_99 hI224 zc_164
            have b249 := zv_46_101 hI224 zc_164
            have J_225_262 : ∀ (s250 : zSto), zInv s250 → zOn zQ2 σ s250 → s250 164 97 + s250 164 99 + σ 164 2 + 1 ≤ σ 164 97 + σ 164 99 + s250 164 2 → 1 ≤ s250 164 2 → (σ 164 2 ≤ s250 164 2 ∧ s250 164 2 ≤ σ 164 3) → s250 164 3 = σ 164 3 → s250 164 101 = σ 164 101 → σ 164 101 ≤ s250 164 99 → s250 164 5 = 0 → s250 164 97 + s250 164 99 + σ 164 2 ≤ σ 164 97 + σ 164 99 + s250 164 2 → (zr s250 = 1 ∧ zHt s250 - zBt s250 = zHt σ - zBt σ) → (zBb s250 = zBb σ ∧ zSb s250 = zSb σ) → zF X s250 225 [some (.ref (X.1.1 + 164)), none] [] := by
              intro s250 hI251 hF252 g253 g254 g255 g256 g257 g258 g259 g260 g261 g262
              have b264 := zv_46_2 hI251 zc_164
              have b265 := zv_46_3 hI251 zc_164
              have b266 := zv_46_5 hI251 zc_164
              have b267 := zv_46_97 hI251 zc_164
              have b268 := zv_46_99 hI251 zc_164
              have b269 := zv_46_101 hI251 zc_164
              refine zt_aload_n (pc' := 226) hX dX12_qGoesOn_225 rfl rfl ?_
              refine zt_get (pc' := 229) (v := .ref (X.1.1 + 165)) hX dX12_qGoesOn_226 rfl zf_X12_7 (by decide) zc_164 zs_46 (zrf_of (zv_46_0 hI251 zc_164)) ?_
              refine zt_aload_n (pc' := 230) hX dX12_qGoesOn_229 rfl rfl ?_
              have b270 := zv_46_2 hI251 zc_164
              refine zt_get (pc' := 233) (v := .int (zI (s250 164 2))) hX dX12_qGoesOn_230 rfl zf_X12_252 (by decide) zc_164 zs_46 rfl ?_
              refine zt_iconst (pc' := 234) hX dX12_qGoesOn_233 rfl ?_
              refine zt_isub (pc' := 235) hX dX12_qGoesOn_234 rfl ?_
              refine zt_iald (pc' := 236) hX dX12_qGoesOn_235 rfl (by decide) zc_165 zs_47 (by decide) ⟨by omega, by omega⟩ ?_
              generalize hv271 : s250 165 (((s250 164 2) - 1).toNat) = v271
              have bv271 : 0 ≤ v271 ∧ v271 ≤ 255 := hv271 ▸ zv_47 hI251 zc_165 _
              refine zt_bipush (pc' := 238) hX dX12_qGoesOn_236 rfl (by decide) (by decide) ?_
              have J_246_274 : ∀ (y272 : Int), 1 ≤ y272 → y272 ≤ 2 → zF X s250 246 [some (.ref (X.1.1 + 164)), none] [.int (zI y272)] := by
                intro y272 h273 h274
                refine zt_istore_n (pc' := 247) (lv' := [some (.ref (X.1.1 + 164)), some (.int (zI y272))]) hX dX12_qGoesOn_246 rfl hL (by decide) rfl ?_
                have L_247_287 : ∀ (N : Nat) (s276 : zSto), zInv s276 → zOn zQ2 σ s276 → s276 164 97 + s276 164 99 + σ 164 2 + 1 ≤ σ 164 97 + σ 164 99 + s276 164 2 → (σ 164 2 ≤ s276 164 2 ∧ s276 164 2 ≤ σ 164 3) → s276 164 3 = σ 164 3 → s276 164 101 = σ 164 101 → σ 164 101 ≤ s276 164 99 → s276 164 5 = 0 → s276 164 97 + s276 164 99 + σ 164 2 ≤ σ 164 97 + σ 164 99 + s276 164 2 → (zr s276 = 1 ∧ zHt s276 - zBt s276 = zHt σ - zBt σ) → (zBb s276 = zBb σ ∧ zSb s276 = zSb σ) → ((s276 164 99).toNat) < N → zF X s276 247 [some (.ref (X.1.1 + 164)), some (.int (zI y272))] [] := by
                  intro N
                  induction N with
                  | zero =>
                    intro s276 hI277 hF278 g279 g280 g281 g282 g283 g284 g285 g286 g287 hm289
                    exact absurd hm289 (Nat.not_lt_zero _)
                  | succ N ih290 =>
                    intro s276 hI277 hF278 g279 g280 g281 g282 g283 g284 g285 g286 g287 hm289
                    have b291 := zv_46_2 hI277 zc_164
                    have b292 := zv_46_3 hI277 zc_164
                    have b293 := zv_46_5 hI277 zc_164
                    have b294 := zv_46_97 hI277 zc_164
                    have b295 := zv_46_99 hI277 zc_164
                    have b296 := zv_46_101 hI277 zc_164
                    refine zt_aload_n (pc' := 248) hX dX12_qGoesOn_247 rfl rfl ?_
                    refine zt_iconst (pc' := 249) hX dX12_qGoesOn_248 rfl ?_
                    refine zt_cVz (pc' := 252) hX dX12_qGoesOn_249 rfl zm_yX12_qIsOn zw_31_23 zc_164 (by decide) zs_46 (q := (RX12, TX12, 108)) rfl rfl (zc_X12_qIsOn _ _ s276 hI277 3 ⟨by omega, by omega⟩) rfl rfl (Nat.le_of_ble_eq_true rfl) (by decide) (fun r297 s298 hr299 hp300 => ?_)
                    obtain ⟨rfl, q301, q302, z303, z304⟩ := hp300
                    have J_279_305 : (1 ≤ s276 164 99 ∧ 1 ≤ s276 235 (s276 164 99 - 1).toNat ∧ s276 235 (s276 164 99 - 1).toNat ≤ 4) → zF X s276 279 [some (.ref (X.1.1 + 164)), some (.int (zI y272))] [] := by
                      intro g305
                      refine zt_aload_n (pc' := 280) hX dX12_qGoesOn_279 rfl rfl ?_
                      have h307 := fun (h : 1 ≤ s276 164 99) (h2 : 1 ≤ s276 235 (s276 164 99 - 1).toNat ∧ s276 235 (s276 164 99 - 1).toNat ≤ 4) => zr_on (s := s276) rfl h (by omega) h2 (by omega)
                      refine zt_cVv (pc' := 283) hX dX12_qGoesOn_280 rfl zm_yX12_qDrops zw_31_4 zc_164 (by decide) zs_46 (q := (RX12, TX12, 108)) rfl rfl (zc_X12_qDrops_S _ _ s276 hI277 (by omega) (by omega) (by omega) (by omega) (by omega)) rfl rfl (Nat.le_of_ble_eq_true rfl) (by decide) (fun r308 s309 hr310 hp311 => ?_)
                      obtain ⟨hI312, hF313, z314, z315⟩ := hp311
                      have e316 := hF313 164 2 rfl
                      have e317 := hF313 164 3 rfl
                      have e318 := hF313 164 5 rfl
                      have e319 := hF313 164 101 rfl
                      have hF320 := zOn_tr hF278 hF313 zi_52
                      have b321 := zv_46_2 hI312 zc_164
                      have b322 := zv_46_3 hI312 zc_164
                      have b323 := zv_46_5 hI312 zc_164
                      have b324 := zv_46_97 hI312 zc_164
                      have b325 := zv_46_99 hI312 zc_164
                      have b326 := zv_46_101 hI312 zc_164
                      refine zt_goto (tgt := 247) hX dX12_qGoesOn_283 (by decide) ?_
                      exact ih290 s309 hI312 hF320 (by omega) (by omega) (by omega) (by omega) (by omega) (by omega) (by omega) (by omega) (by omega) (by omega)
                    refine zt_ifne (pc' := 255) (tgt := 279) hX dX12_qGoesOn_252 rfl (by decide) ⟨by omega, by omega⟩ (fun c327 => ?_) (fun c327 => ?_)
                    · exact J_279_305 (by omega)
                    · refine zt_aload_n (pc' := 256) hX dX12_qGoesOn_255 rfl rfl ?_
                      refine zt_iconst (pc' := 257) hX dX12_qGoesOn_256 rfl ?_
                      refine zt_cVz (pc' := 260) hX dX12_qGoesOn_257 rfl zm_yX12_qIsOn zw_31_23 zc_164 (by decide) zs_46 (q := (RX12, TX12, 108)) rfl rfl (zc_X12_qIsOn _ _ s276 hI277 4 ⟨by omega, by omega⟩) rfl rfl (Nat.le_of_ble_eq_true rfl) (by decide) (fun r328 s329 hr330 hp331 => ?_)
                      obtain ⟨rfl, q332, q333, z334, z335⟩ := hp331
                      refine zt_ifne (pc' := 263) (tgt := 279) hX dX12_qGoesOn_260 rfl (by decide) ⟨by omega, by omega⟩ (fun c336 => ?_) (fun c336 => ?_)
                      · exact J_279_305 (by omega)
                      · refine zt_aload_n (pc' := 264) hX dX12_qGoesOn_263 rfl rfl ?_
                        refine zt_iconst (pc' := 265) hX dX12_qGoesOn_264 rfl ?_
                        refine zt_cVz (pc' := 268) hX dX12_qGoesOn_265 rfl zm_yX12_qIsOn zw_31_23 zc_164 (by decide) zs_46 (q := (RX12, TX12, 108)) rfl rfl (zc_X12_qIsOn _ _ s276 hI277 1 ⟨by omega, by omega⟩) rfl rfl (Nat.le_of_ble_eq_true rfl) (by decide) (fun r337 s338 hr339 hp340 => ?_)
                        obtain ⟨rfl, q341, q342, z343, z344⟩ := hp340
                        refine zt_ifne (pc' := 271) (tgt := 279) hX dX12_qGoesOn_268 rfl (by decide) ⟨by omega, by omega⟩ (fun c345 => ?_) (fun c345 => ?_)
                        · exact J_279_305 (by omega)
                        · refine zt_aload_n (pc' := 272) hX dX12_qGoesOn_271 rfl rfl ?_
                          refine zt_iconst (pc' := 273) hX dX12_qGoesOn_272 rfl ?_
                          refine zt_cVz (pc' := 276) hX dX12_qGoesOn_273 rfl zm_yX12_qIsOn zw_31_23 zc_164 (by decide) zs_46 (q := (RX12, TX12, 108)) rfl rfl (zc_X12_qIsOn _ _ s276 hI277 2 ⟨by omega, by omega⟩) rfl rfl (Nat.le_of_ble_eq_true rfl) (by decide) (fun r346 s347 hr348 hp349 => ?_)
                          obtain ⟨rfl, q350, q351, z352, z353⟩ := hp349
                          refine zt_ifeq (pc' := 279) (tgt := 286) hX dX12_qGoesOn_276 rfl (by decide) ⟨by omega, by omega⟩ (fun c354 => ?_) (fun c354 => ?_)
                          · refine zt_aload_n (pc' := 287) hX dX12_qGoesOn_286 rfl rfl ?_
                            refine zt_get (pc' := 290) (v := .ref (X.1.1 + 235)) hX dX12_qGoesOn_287 rfl zf_X12_234 (by decide) zc_164 zs_46 (zrf_of (zv_46_98 hI277 zc_164)) ?_
                            refine zt_aload_n (pc' := 291) hX dX12_qGoesOn_290 rfl rfl ?_
                            have b355 := zv_46_99 hI277 zc_164
                            refine zt_get (pc' := 294) (v := .int (zI (s276 164 99))) hX dX12_qGoesOn_291 rfl zf_X12_333 (by decide) zc_164 zs_46 rfl ?_
                            refine zt_iload_n (pc' := 295) hX dX12_qGoesOn_294 rfl rfl ?_
                            refine zt_iast (pc' := 296) hX dX12_qGoesOn_295 rfl (by decide) zc_235 zs_117 (by decide) ⟨by omega, by omega⟩ ?_
                            generalize hs357 : zset s276 235 ((s276 164 99).toNat) y272 = s356
                            have hI358 : zInv s356 := hs357 ▸ zp_117 hI277 zc_235 ((s276 164 99).toNat) ⟨by omega, by omega⟩
                            have hF359 : zOn zQ2 σ s356 := hs357 ▸ zOn_set hF278 (zq2_235 (by omega))
                            have e360 : s356 164 2 = s276 164 2 := by rw [← hs357]; exact zset_k (zne_r zc_164 zc_235 (by decide))
                            have e361 : s356 164 3 = s276 164 3 := by rw [← hs357]; exact zset_k (zne_r zc_164 zc_235 (by decide))
                            have e362 : s356 164 5 = s276 164 5 := by rw [← hs357]; exact zset_k (zne_r zc_164 zc_235 (by decide))
                            have e363 : s356 164 97 = s276 164 97 := by rw [← hs357]; exact zset_k (zne_r zc_164 zc_235 (by decide))
                            have e364 : s356 164 99 = s276 164 99 := by rw [← hs357]; exact zset_k (zne_r zc_164 zc_235 (by decide))
                            have e365 : s356 164 101 = s276 164 101 := by rw [← hs357]; exact zset_k (zne_r zc_164 zc_235 (by decide))
                            refine zt_aload_n (pc' := 297) hX dX12_qGoesOn_296 rfl rfl ?_
                            refine zt_dup (pc' := 298) hX dX12_qGoesOn_297 rfl rfl ?_
                            have b366 := zv_46_99 hI358 zc_164
                            refine zt_get (pc' := 301) (v := .int (zI (s356 164 99))) hX dX12_qGoesOn_298 rfl zf_X12_333 (by decide) zc_164 zs_46 rfl ?_
                            refine zt_iconst (pc' := 302) hX dX12_qGoesOn_301 rfl ?_
                            refine zt_iadd (pc' := 303) hX dX12_qGoesOn_302 rfl ?_
                            refine zt_put (pc' := 306) (x := ((s356 164 99) + 1)) hX dX12_qGoesOn_303 rfl zf_X12_333 (by decide) zc_164 zs_46 (fun q hq => by cases hq; rfl) rfl rfl rfl ?_
                            generalize hs368 : zset s356 164 99 ((s356 164 99) + 1) = s367
                            have hI369 : zInv s367 := hs368 ▸ zp_46_99 hI358 zc_164 ⟨by omega, by omega⟩
                            have hF370 : zOn zQ2 σ s367 := hs368 ▸ zOn_set hF359 (by decide)
                            have e371 : s367 164 2 = s356 164 2 := by rw [← hs368]; exact zset_j (by decide)
                            have e372 : s367 164 3 = s356 164 3 := by rw [← hs368]; exact zset_j (by decide)
                            have e373 : s367 164 5 = s356 164 5 := by rw [← hs368]; exact zset_j (by decide)
                            have e374 : s367 164 97 = s356 164 97 := by rw [← hs368]; exact zset_j (by decide)
                            have e375 : s367 164 99 = ((s356 164 99) + 1) := by rw [← hs368]; exact zset_s
                            have e376 : s367 164 101 = s356 164 101 := by rw [← hs368]; exact zset_j (by decide)
                            have h377 := zpush_S hs357 hs368 (by omega) (by omega) (by omega) (by omega)
                            have h378w := zw_v y272
                            refine zt_iconst (pc' := 307) hX dX12_qGoesOn_306 rfl ?_
                            exact zt_zret hX hR dX12_qGoesOn_307 ⟨by omega, by omega⟩ ⟨hI369, hF370, by omega, by omega, by omega, by omega, by omega, by omega, by omega, by omega, by omega, by omega, by omega⟩
                          · exact J_279_305 (by omega)
                exact L_247_287 _ s250 hI251 hF252 (by omega) (by omega) (by omega) (by omega) (by omega) (by omega) (by omega) (by omega) (by omega) (Nat.lt_succ_self _)
              refine zt_icne (pc' := 241) (tgt := 245) hX dX12_qGoesOn_238 rfl (by decide) ⟨by omega, by omega⟩ ⟨by omega, by omega⟩ (fun c379 => ?_) (fun c379 => ?_)
              · refine zt_iconst (pc' := 246) hX dX12_qGoesOn_245 rfl ?_
                exact J_246_274 2 (by omega) (by omega)
              · refine zt_iconst (pc' := 242) hX dX12_qGoesOn_241 rfl ?_
                refine zt_goto (tgt := 246) hX dX12_qGoesOn_242 (by decide) ?_
                exact J_246_274 1 (by omega) (by omega)
            refine zt_ifne (pc' := 216) (tgt := 225) hX dX12_qGoesOn_213 rfl (by decide) ⟨by omega, by omega⟩ (fun c380 => ?_) (fun c380 => ?_)
            · exact J_225_262 s221 hI224 hF243 (by omega) (by omega) (by omega) (by omega) (by omega) (by omega) (by omega) (by omega) (by omega) (by omega)
            · refine zt_aload_n (pc' := 217) hX dX12_qGoesOn_216 rfl rfl ?_
              refine zt_bipush (pc' := 219) hX dX12_qGoesOn_217 rfl (by decide) (by decide) ?_
              refine zt_cVz (pc' := 222) hX dX12_qGoesOn_219 rfl zm_yX12_takesSign zw_27_14 zc_164 (by decide) zs_46 (q := (RX12, TX12, 108)) rfl rfl (zc_X12_takesSign _ _ s221 hI224 45 ⟨by omega, by omega⟩) rfl rfl (Nat.le_of_ble_eq_true rfl) (by decide) (fun r381 s382 hr383 hp384 => ?_)
              obtain ⟨hI385, hF386, q387, q388, z389, z390, z391⟩ := hp384
              obtain ⟨w392, -, w394, w395, w396, w397, -, w399⟩ := zE_q1 hF386
              have e400 := hF386 164 3 rfl
              have e401 := hF386 164 97 rfl
              have e402 := hF386 164 99 rfl
              have e403 := hF386 164 101 rfl
              have hF404 := zOn_tr hF243 hF386 zi_12
              have b405 := zv_46_2 hI385 zc_164
              have b406 := zv_46_3 hI385 zc_164
              have b407 := zv_46_5 hI385 zc_164
              have b408 := zv_46_97 hI385 zc_164
              have b409 := zv_46_99 hI385 zc_164
              have b410 := zv_46_101 hI385 zc_164
              refine zt_ifeq (pc' := 225) (tgt := 308) hX dX12_qGoesOn_222 rfl (by decide) ⟨by omega, by omega⟩ (fun c411 => ?_) (fun c411 => ?_)
              · refine zt_aload_n (pc' := 309) hX dX12_qGoesOn_308 rfl rfl ?_
                refine zt_cVi (pc' := 312) hX dX12_qGoesOn_309 rfl zm_yX12_qBracket zw_31_12 zc_164 (by decide) zs_46 (q := (RX12, TX12, 108)) rfl rfl (zc_X12_qBracket _ _ s382 hI385 (by omega)) rfl rfl (Nat.le_of_ble_eq_true rfl) (by decide) (fun r412 s413 hr414 hp415 => ?_)
                obtain ⟨rfl, q416, q417, z418⟩ := hp415
                refine zt_bipush (pc' := 314) hX dX12_qGoesOn_312 rfl (by decide) (by decide) ?_
                have J_326_419 : (ztb s382 = 21 ∨ ztb s382 = 22) → zF X s382 326 [some (.ref (X.1.1 + 164)), none] [] := by
                  intro g419
                  refine zt_aload_n (pc' := 327) hX dX12_qGoesOn_326 rfl rfl ?_
                  refine zt_bipush (pc' := 329) hX dX12_qGoesOn_327 rfl (by decide) (by decide) ?_
                  refine zt_cVv (pc' := 332) hX dX12_qGoesOn_329 rfl zm_yX12_asksSign zw_27_10 zc_164 (by decide) zs_46 (q := (RX12, TX12, 108)) rfl rfl (zc_X12_asksSign _ _ s382 hI385 44 ⟨by omega, by omega⟩) rfl rfl (Nat.le_of_ble_eq_true rfl) (by decide) (fun r421 s422 hr423 hp424 => ?_)
                  obtain ⟨hI425, hF426, z427, z428⟩ := hp424
                  obtain ⟨w429, -, w431, w432, w433, w434, -, w436⟩ := zE_q1 hF426
                  have e437 := hF426 164 3 rfl
                  have e438 := hF426 164 97 rfl
                  have e439 := hF426 164 99 rfl
                  have e440 := hF426 164 101 rfl
                  have hF441 := zOn_tr hF404 hF426 zi_12
                  have b442 := zv_46_2 hI425 zc_164
                  have b443 := zv_46_3 hI425 zc_164
                  have b444 := zv_46_5 hI425 zc_164
                  have b445 := zv_46_97 hI425 zc_164
                  have b446 := zv_46_99 hI425 zc_164
                  have b447 := zv_46_101 hI425 zc_164
                  refine zt_aload_n (pc' := 333) hX dX12_qGoesOn_332 rfl rfl ?_
                  have b448 := zv_46_5 hI425 zc_164
                  refine zt_get (pc' := 336) (v := .int (zI (s422 164 5))) hX dX12_qGoesOn_333 rfl zf_X12_246 (by decide) zc_164 zs_46 rfl ?_
                  refine zt_ifeq (pc' := 339) (tgt := 341) hX dX12_qGoesOn_336 rfl (by decide) ⟨by omega, by omega⟩ (fun c449 => ?_) (fun c449 => ?_)
                  · refine zt_aload_n (pc' := 342) hX dX12_qGoesOn_341 rfl rfl ?_
                    refine zt_cVv (pc' := 345) hX dX12_qGoesOn_342 rfl zm_yX12_qDropsToBracket zw_31_19 zc_164 (by decide) zs_46 (q := (RX12, TX12, 108)) rfl rfl (zc_X12_qDropsToBracket _ _ s422 hI425 (by omega) (by omega) (by omega) (by omega)) rfl rfl (Nat.le_of_ble_eq_true rfl) (by decide) (fun r450 s451 hr452 hp453 => ?_)
                    obtain ⟨hI454, hF455, z456, z457, z458, z459⟩ := hp453
                    have e460 := hF455 164 2 rfl
                    have e461 := hF455 164 3 rfl
                    have e462 := hF455 164 5 rfl
                    have e463 := hF455 164 101 rfl
                    have hF464 := zOn_tr hF441 hF455 zi_52
                    have b465 := zv_46_2 hI454 zc_164
                    have b466 := zv_46_3 hI454 zc_164
                    have b467 := zv_46_5 hI454 zc_164
                    have b468 := zv_46_97 hI454 zc_164
                    have b469 := zv_46_99 hI454 zc_164
                    have b470 := zv_46_101 hI454 zc_164
                    refine zt_aload_n (pc' := 346) hX dX12_qGoesOn_345 rfl rfl ?_
                    refine zt_get (pc' := 349) (v := .ref (X.1.1 + 235)) hX dX12_qGoesOn_346 rfl zf_X12_234 (by decide) zc_164 zs_46 (zrf_of (zv_46_98 hI454 zc_164)) ?_
                    refine zt_aload_n (pc' := 350) hX dX12_qGoesOn_349 rfl rfl ?_
                    have b471 := zv_46_99 hI454 zc_164
                    refine zt_get (pc' := 353) (v := .int (zI (s451 164 99))) hX dX12_qGoesOn_350 rfl zf_X12_333 (by decide) zc_164 zs_46 rfl ?_
                    refine zt_iconst (pc' := 354) hX dX12_qGoesOn_353 rfl ?_
                    refine zt_isub (pc' := 355) hX dX12_qGoesOn_354 rfl ?_
                    refine zt_dup2 (pc' := 356) hX dX12_qGoesOn_355 rfl rfl rfl ?_
                    refine zt_iald (pc' := 357) hX dX12_qGoesOn_356 rfl (by decide) zc_235 zs_117 (by decide) ⟨by omega, by omega⟩ ?_
                    generalize hv472 : s451 235 (((s451 164 99) - 1).toNat) = v472
                    have bv472 : -2147483648 ≤ v472 ∧ v472 ≤ 2147483647 := hv472 ▸ zv_117 hI454 zc_235 _
                    refine zt_iconst (pc' := 358) hX dX12_qGoesOn_357 rfl ?_
                    refine zt_iadd (pc' := 359) hX dX12_qGoesOn_358 rfl ?_
                    refine zt_iast (pc' := 360) hX dX12_qGoesOn_359 rfl (by decide) zc_235 zs_117 (by decide) ⟨by omega, by omega⟩ ?_
                    generalize hs474 : zset s451 235 (((s451 164 99) - 1).toNat) (v472 + 2) = s473
                    have hI475 : zInv s473 := hs474 ▸ zp_117 hI454 zc_235 (((s451 164 99) - 1).toNat) ⟨by omega, by omega⟩
                    have hF476 : zOn zQ2 σ s473 := hs474 ▸ zOn_set hF464 (zq2_235 (by omega))
                    have e477 : s473 164 2 = s451 164 2 := by rw [← hs474]; exact zset_k (zne_r zc_164 zc_235 (by decide))
                    have e478 : s473 164 3 = s451 164 3 := by rw [← hs474]; exact zset_k (zne_r zc_164 zc_235 (by decide))
                    have e479 : s473 164 5 = s451 164 5 := by rw [← hs474]; exact zset_k (zne_r zc_164 zc_235 (by decide))
                    have e480 : s473 164 97 = s451 164 97 := by rw [← hs474]; exact zset_k (zne_r zc_164 zc_235 (by decide))
                    have e481 : s473 164 99 = s451 164 99 := by rw [← hs474]; exact zset_k (zne_r zc_164 zc_235 (by decide))
                    have e482 : s473 164 101 = s451 164 101 := by rw [← hs474]; exact zset_k (zne_r zc_164 zc_235 (by decide))
                    have h483 := zcomma hs474 (by omega) (by omega) (by omega) (by omega) (by omega)
                    refine zt_iconst (pc' := 361) hX dX12_qGoesOn_360 rfl ?_
                    exact zt_zret hX hR dX12_qGoesOn_361 ⟨by omega, by omega⟩ ⟨hI475, hF476, by omega, by omega, by omega, by omega, by omega, by omega, by omega, by omega, by omega, by omega, by omega⟩
                  · refine zt_iconst (pc' := 340) hX dX12_qGoesOn_339 rfl ?_
                    exact zt_zret hX hR dX12_qGoesOn_340 ⟨by omega, by omega⟩ ⟨hI425, hF441, by omega, by omega, by omega, by omega, by omega, by omega, by omega, by omega, by omega, by omega, by omega⟩
                refine zt_iceq (pc' := 317) (tgt := 326) hX dX12_qGoesOn_314 rfl (by decide) ⟨by omega, by omega⟩ ⟨by omega, by omega⟩ (fun c484 => ?_) (fun c484 => ?_)
                · exact J_326_419 (by omega)
                · refine zt_aload_n (pc' := 318) hX dX12_qGoesOn_317 rfl rfl ?_
                  refine zt_cVi (pc' := 321) hX dX12_qGoesOn_318 rfl zm_yX12_qBracket zw_31_12 zc_164 (by decide) zs_46 (q := (RX12, TX12, 108)) rfl rfl (zc_X12_qBracket _ _ s382 hI385 (by omega)) rfl rfl (Nat.le_of_ble_eq_true rfl) (by decide) (fun r485 s486 hr487 hp488 => ?_)
                  obtain ⟨rfl, q489, q490, z491⟩ := hp488
                  refine zt_bipush (pc' := 323) hX dX12_qGoesOn_321 rfl (by decide) (by decide) ?_
                  refine zt_icne (pc' := 326) (tgt := 362) hX dX12_qGoesOn_323 rfl (by decide) ⟨by omega, by omega⟩ ⟨by omega, by omega⟩ (fun c492 => ?_) (fun c492 => ?_)
                  · refine zt_aload_n (pc' := 363) hX dX12_qGoesOn_362 rfl rfl ?_
                    refine zt_cVi (pc' := 366) hX dX12_qGoesOn_363 rfl zm_yX12_qBracket zw_31_12 zc_164 (by decide) zs_46 (q := (RX12, TX12, 108)) rfl rfl (zc_X12_qBracket _ _ s382 hI385 (by omega)) rfl rfl (Nat.le_of_ble_eq_true rfl) (by decide) (fun r493 s494 hr495 hp496 => ?_)
                    obtain ⟨rfl, q497, q498, z499⟩ := hp496
                    refine zt_iconst (pc' := 367) hX dX12_qGoesOn_366 rfl ?_
                    refine zt_iceq (pc' := 370) (tgt := 386) hX dX12_qGoesOn_367 rfl (by decide) ⟨by omega, by omega⟩ ⟨by omega, by omega⟩ (fun c500 => ?_) (fun c500 => ?_)
                    · refine zt_iconst (pc' := 387) hX dX12_qGoesOn_386 rfl ?_
                      exact zt_zret hX hR dX12_qGoesOn_387 ⟨by omega, by omega⟩ ⟨hI385, hF404, by omega, by omega, by omega, by omega, by omega, by omega, by omega, by omega, by omega, by omega, by omega⟩
                    · refine zt_aload_n (pc' := 371) hX dX12_qGoesOn_370 rfl rfl ?_
                      have b501 := zv_46_5 hI385 zc_164
                      refine zt_get (pc' := 374) (v := .int (zI (s382 164 5))) hX dX12_qGoesOn_371 rfl zf_X12_246 (by decide) zc_164 zs_46 rfl ?_
                      refine zt_ifne (pc' := 377) (tgt := 386) hX dX12_qGoesOn_374 rfl (by decide) ⟨by omega, by omega⟩ (fun c502 => ?_) (fun c502 => ?_)
                      · refine zt_iconst (pc' := 387) hX dX12_qGoesOn_386 rfl ?_
                        exact zt_zret hX hR dX12_qGoesOn_387 ⟨by omega, by omega⟩ ⟨hI385, hF404, by omega, by omega, by omega, by omega, by omega, by omega, by omega, by omega, by omega, by omega, by omega⟩
                      · refine zt_aload_n (pc' := 378) hX dX12_qGoesOn_377 rfl rfl ?_
                        refine zt_iconst (pc' := 379) hX dX12_qGoesOn_378 rfl ?_
                        refine zt_aload_n (pc' := 380) hX dX12_qGoesOn_379 rfl rfl ?_
                        have b503 := zv_46_2 hI385 zc_164
                        refine zt_get (pc' := 383) (v := .int (zI (s382 164 2))) hX dX12_qGoesOn_380 rfl zf_X12_252 (by decide) zc_164 zs_46 rfl ?_
                        refine zt_cVv (pc' := 386) hX dX12_qGoesOn_383 rfl zm_yX12_fail zw_26_19 zc_164 (by decide) zs_46 (q := (RX12, TX12, 108)) rfl rfl (zc_X12_fail _ _ s382 hI385 1 ⟨by omega, by omega⟩ (s382 164 2) ⟨by omega, by omega⟩) rfl rfl (Nat.le_of_ble_eq_true rfl) (by decide) (fun r504 s505 hr506 hp507 => ?_)
                        obtain ⟨hI508, hF509, z510, z511⟩ := hp507
                        obtain ⟨w512, -, w514, w515, w516, w517, -, w519⟩ := zE_q1 hF509
                        have e520 := hF509 164 3 rfl
                        have e521 := hF509 164 97 rfl
                        have e522 := hF509 164 99 rfl
                        have e523 := hF509 164 101 rfl
                        have hF524 := zOn_tr hF404 hF509 zi_12
                        have b525 := zv_46_2 hI508 zc_164
                        have b526 := zv_46_3 hI508 zc_164
                        have b527 := zv_46_5 hI508 zc_164
                        have b528 := zv_46_97 hI508 zc_164
                        have b529 := zv_46_99 hI508 zc_164
                        have b530 := zv_46_101 hI508 zc_164
                        refine zt_iconst (pc' := 387) hX dX12_qGoesOn_386 rfl ?_
                        exact zt_zret hX hR dX12_qGoesOn_387 ⟨by omega, by omega⟩ ⟨hI508, hF524, by omega, by omega, by omega, by omega, by omega, by omega, by omega, by omega, by omega, by omega, by omega⟩
                  · exact J_326_419 (by omega)
              · exact J_225_262 s382 hI385 hF404 (by omega) (by omega) (by omega) (by omega) (by omega) (by omega) (by omega) (by omega) (by omega) (by omega)
          · exact J_140_88 s190 hI193 hF212 (by omega) (by omega) (by omega) (by omega) (by omega) (by omega) (by omega) (by omega) (by omega) (by omega)
      refine zt_ifne (pc' := 7) (tgt := 122) hX dX12_qGoesOn_4 rfl (by decide) ⟨by omega, by omega⟩ (fun c531 => ?_) (fun c531 => ?_)
      · exact J_122_38 s7 hI8 hF9 (by omega) (by omega) (by omega) (by omega) (by omega) (by omega) (by omega) (by omega)
      · refine zt_aload_n (pc' := 8) hX dX12_qGoesOn_7 rfl rfl ?_
        refine zt_cVi (pc' := 11) hX dX12_qGoesOn_8 rfl zm_yX12_look zw_26_12 zc_164 (by decide) zs_46 (q := (RX12, TX12, 108)) rfl rfl (zc_X12_look _ _ s7 hI8 ) rfl rfl (Nat.le_of_ble_eq_true rfl) (by decide) (fun r532 s533 hr534 hp535 => ?_)
        obtain ⟨hI536, hF537, q538, q539, z540, z541, z542⟩ := hp535
        obtain ⟨w543, -, w545, w546, w547, w548, -, w550⟩ := zE_q1 hF537
        have e551 := hF537 164 3 rfl
        have e552 := hF537 164 97 rfl
        have e553 := hF537 164 99 rfl
        have e554 := hF537 164 101 rfl
        have hF555 := zOn_tr hF9 hF537 zi_12
        have b556 := zv_46_2 hI536 zc_164
        have b557 := zv_46_3 hI536 zc_164
        have b558 := zv_46_5 hI536 zc_164
        have b559 := zv_46_97 hI536 zc_164
        have b560 := zv_46_99 hI536 zc_164
        have b561 := zv_46_101 hI536 zc_164
        refine zt_bipush (pc' := 13) hX dX12_qGoesOn_11 rfl (by decide) (by decide) ?_
        refine zt_icne (pc' := 16) (tgt := 122) hX dX12_qGoesOn_13 rfl (by decide) ⟨by omega, by omega⟩ ⟨by omega, by omega⟩ (fun c562 => ?_) (fun c562 => ?_)
        · exact J_122_38 s533 hI536 hF555 (by omega) (by omega) (by omega) (by omega) (by omega) (by omega) (by omega) (by omega)
        · refine zt_aload_n (pc' := 17) hX dX12_qGoesOn_16 rfl rfl ?_
          refine zt_cVi (pc' := 20) hX dX12_qGoesOn_17 rfl zm_yX12_qBracket zw_31_12 zc_164 (by decide) zs_46 (q := (RX12, TX12, 108)) rfl rfl (zc_X12_qBracket _ _ s533 hI536 (by omega)) rfl rfl (Nat.le_of_ble_eq_true rfl) (by decide) (fun r563 s564 hr565 hp566 => ?_)
          obtain ⟨rfl, q567, q568, z569⟩ := hp566
          refine zt_bipush (pc' := 22) hX dX12_qGoesOn_20 rfl (by decide) (by decide) ?_
          have J_43_570 : (ztb s533 = 20 ∨ ztb s533 = 23 ∨ ztb s533 = 24) → zF X s533 43 [some (.ref (X.1.1 + 164)), none] [] := by
            intro g570
            refine zt_aload_n (pc' := 44) hX dX12_qGoesOn_43 rfl rfl ?_
            refine zt_dup (pc' := 45) hX dX12_qGoesOn_44 rfl rfl ?_
            have b572 := zv_46_2 hI536 zc_164
            refine zt_get (pc' := 48) (v := .int (zI (s533 164 2))) hX dX12_qGoesOn_45 rfl zf_X12_252 (by decide) zc_164 zs_46 rfl ?_
            refine zt_iconst (pc' := 49) hX dX12_qGoesOn_48 rfl ?_
            refine zt_iadd (pc' := 50) hX dX12_qGoesOn_49 rfl ?_
            refine zt_put (pc' := 53) (x := ((s533 164 2) + 1)) hX dX12_qGoesOn_50 rfl zf_X12_252 (by decide) zc_164 zs_46 (fun q hq => by cases hq; rfl) rfl rfl rfl ?_
            generalize hs574 : zset s533 164 2 ((s533 164 2) + 1) = s573
            have hI575 : zInv s573 := hs574 ▸ zp_46_2 hI536 zc_164 ⟨by omega, by omega⟩
            have hF576 : zOn zQ2 σ s573 := hs574 ▸ zOn_set hF555 (by decide)
            obtain ⟨w577, -, w579, w580, w581, w582, -, w584⟩ := zE_set hs574 (by decide)
            have e585 : s573 164 2 = ((s533 164 2) + 1) := by rw [← hs574]; exact zset_s
            have e586 : s573 164 3 = s533 164 3 := by rw [← hs574]; exact zset_j (by decide)
            have e587 : s573 164 5 = s533 164 5 := by rw [← hs574]; exact zset_j (by decide)
            have e588 : s573 164 97 = s533 164 97 := by rw [← hs574]; exact zset_j (by decide)
            have e589 : s573 164 99 = s533 164 99 := by rw [← hs574]; exact zset_j (by decide)
            have e590 : s573 164 101 = s533 164 101 := by rw [← hs574]; exact zset_j (by decide)
            refine zt_aload_n (pc' := 54) hX dX12_qGoesOn_53 rfl rfl ?_
            refine zt_cVv (pc' := 57) hX dX12_qGoesOn_54 rfl zm_yX12_qDropsToBracket zw_31_19 zc_164 (by decide) zs_46 (q := (RX12, TX12, 108)) rfl rfl (zc_X12_qDropsToBracket _ _ s573 hI575 (by omega) (by omega) (by omega) (by omega)) rfl rfl (Nat.le_of_ble_eq_true rfl) (by decide) (fun r591 s592 hr593 hp594 => ?_)
            obtain ⟨hI595, hF596, z597, z598, z599, z600⟩ := hp594
            have e601 := hF596 164 2 rfl
            have e602 := hF596 164 3 rfl
            have e603 := hF596 164 5 rfl
            have e604 := hF596 164 101 rfl
            have hF605 := zOn_tr hF576 hF596 zi_52
            have b606 := zv_46_2 hI595 zc_164
            have b607 := zv_46_3 hI595 zc_164
            have b608 := zv_46_5 hI595 zc_164
            have b609 := zv_46_97 hI595 zc_164
            have b610 := zv_46_99 hI595 zc_164
            have b611 := zv_46_101 hI595 zc_164
            refine zt_aload_n (pc' := 58) hX dX12_qGoesOn_57 rfl rfl ?_
            refine zt_dup (pc' := 59) hX dX12_qGoesOn_58 rfl rfl ?_
            have b612 := zv_46_99 hI595 zc_164
            refine zt_get (pc' := 62) (v := .int (zI (s592 164 99))) hX dX12_qGoesOn_59 rfl zf_X12_333 (by decide) zc_164 zs_46 rfl ?_
            refine zt_iconst (pc' := 63) hX dX12_qGoesOn_62 rfl ?_
            refine zt_isub (pc' := 64) hX dX12_qGoesOn_63 rfl ?_
            refine zt_put (pc' := 67) (x := ((s592 164 99) - 1)) hX dX12_qGoesOn_64 rfl zf_X12_333 (by decide) zc_164 zs_46 (fun q hq => by cases hq; rfl) rfl rfl rfl ?_
            generalize hs614 : zset s592 164 99 ((s592 164 99) - 1) = s613
            have hI615 : zInv s613 := hs614 ▸ zp_46_99 hI595 zc_164 ⟨by omega, by omega⟩
            have hF616 : zOn zQ2 σ s613 := hs614 ▸ zOn_set hF605 (by decide)
            have e617 : s613 164 2 = s592 164 2 := by rw [← hs614]; exact zset_j (by decide)
            have e618 : s613 164 3 = s592 164 3 := by rw [← hs614]; exact zset_j (by decide)
            have e619 : s613 164 5 = s592 164 5 := by rw [← hs614]; exact zset_j (by decide)
            have e620 : s613 164 97 = s592 164 97 := by rw [← hs614]; exact zset_j (by decide)
            have e621 : s613 164 99 = ((s592 164 99) - 1) := by rw [← hs614]; exact zset_s
            have e622 : s613 164 101 = s592 164 101 := by rw [← hs614]; exact zset_j (by decide)
            have h623 := zpop hs614 rfl (by omega) (by omega)
            have h624w := zw_v (s592 235 (s592 164 99 - 1).toNat)
            have h625n := zBt_nn s613
            refine zt_aload_n (pc' := 68) hX dX12_qGoesOn_67 rfl rfl ?_
            refine zt_dup (pc' := 69) hX dX12_qGoesOn_68 rfl rfl ?_
            have b626 := zv_46_100 hI615 zc_164
            have e627 : s613 164 100 = s592 164 100 := by rw [← hs614]; exact zset_j (by decide)
            refine zt_get (pc' := 72) (v := .int (zI (s613 164 100))) hX dX12_qGoesOn_69 rfl zf_X12_336 (by decide) zc_164 zs_46 rfl ?_
            refine zt_iconst (pc' := 73) hX dX12_qGoesOn_72 rfl ?_
            refine zt_isub (pc' := 74) hX dX12_qGoesOn_73 rfl ?_
            refine zt_wrap (fun r628 zr628 lr628 ur628 => ?_)
            clear zr628
            refine zt_put (pc' := 77) (x := r628) hX dX12_qGoesOn_74 rfl zf_X12_336 (by decide) zc_164 zs_46 (fun q hq => by cases hq; rfl) rfl rfl rfl ?_
            generalize hs630 : zset s613 164 100 r628 = s629
            have hI631 : zInv s629 := hs630 ▸ zp_46_100 hI615 zc_164 ⟨by omega, by omega⟩
            have hF632 : zOn zQ2 σ s629 := hs630 ▸ zOn_set hF616 (by decide)
            obtain ⟨w633, -, w635, w636, w637, w638, -, w640⟩ := zE_set hs630 (by decide)
            have e641 : s629 164 2 = s613 164 2 := by rw [← hs630]; exact zset_j (by decide)
            have e642 : s629 164 3 = s613 164 3 := by rw [← hs630]; exact zset_j (by decide)
            have e643 : s629 164 5 = s613 164 5 := by rw [← hs630]; exact zset_j (by decide)
            have e644 : s629 164 97 = s613 164 97 := by rw [← hs630]; exact zset_j (by decide)
            have e645 : s629 164 99 = s613 164 99 := by rw [← hs630]; exact zset_j (by decide)
            have e646 : s629 164 101 = s613 164 101 := by rw [← hs630]; exact zset_j (by decide)
            have h647 := ztopP hs614 hs630 (by decide)
            refine zt_aload_n (pc' := 78) hX dX12_qGoesOn_77 rfl rfl ?_
            refine zt_get (pc' := 81) (v := .ref (X.1.1 + 235)) hX dX12_qGoesOn_78 rfl zf_X12_234 (by decide) zc_164 zs_46 (zrf_of (zv_46_98 hI631 zc_164)) ?_
            refine zt_aload_n (pc' := 82) hX dX12_qGoesOn_81 rfl rfl ?_
            have b648 := zv_46_99 hI631 zc_164
            refine zt_get (pc' := 85) (v := .int (zI (s629 164 99))) hX dX12_qGoesOn_82 rfl zf_X12_333 (by decide) zc_164 zs_46 rfl ?_
            refine zt_iald (pc' := 86) hX dX12_qGoesOn_85 rfl (by decide) zc_235 zs_117 (by decide) ⟨by omega, by omega⟩ ?_
            generalize hv649 : s629 235 ((s629 164 99).toNat) = v649
            have bv649 : -2147483648 ≤ v649 ∧ v649 ≤ 2147483647 := hv649 ▸ zv_117 hI631 zc_235 _
            refine zt_bipush (pc' := 88) hX dX12_qGoesOn_86 rfl (by decide) (by decide) ?_
            have J_115_661 : ∀ (s650 : zSto), zInv s650 → zOn zQ2 σ s650 → s7 164 2 < s650 164 2 → (σ 164 2 ≤ s650 164 2 ∧ s650 164 2 ≤ σ 164 3) → s650 164 3 = σ 164 3 → s650 164 101 = σ 164 101 → σ 164 101 ≤ s650 164 99 → s650 164 5 = 0 → s650 164 97 + s650 164 99 + σ 164 2 ≤ σ 164 97 + σ 164 99 + s650 164 2 → (zr s650 = 1 ∧ zHt s650 - zBt s650 = zHt σ - zBt σ) → (zBb s650 = zBb σ ∧ zSb s650 = zSb σ) → zF X s650 115 [some (.ref (X.1.1 + 164)), none] [] := by
              intro s650 hI651 hF652 g653 g654 g655 g656 g657 g658 g659 g660 g661
              have b663 := zv_46_2 hI651 zc_164
              have b664 := zv_46_3 hI651 zc_164
              have b665 := zv_46_5 hI651 zc_164
              have b666 := zv_46_97 hI651 zc_164
              have b667 := zv_46_99 hI651 zc_164
              have b668 := zv_46_101 hI651 zc_164
              refine zt_aload_n (pc' := 116) hX dX12_qGoesOn_115 rfl rfl ?_
              refine zt_cVv (pc' := 119) hX dX12_qGoesOn_116 rfl zm_yX12_qEndsPart zw_31_0 zc_164 (by decide) zs_46 (q := (RX12, TX12, 108)) rfl rfl (zc_X12_qEndsPart _ _ s650 hI651 (by omega) (by omega) (by omega)) rfl rfl (Nat.le_of_ble_eq_true rfl) (by decide) (fun r669 s670 hr671 hp672 => ?_)
              obtain ⟨hI673, hF674, z675, z676, z677, z678⟩ := hp672
              have e679 := hF674 164 2 rfl
              have e680 := hF674 164 3 rfl
              have e681 := hF674 164 5 rfl
              have e682 := hF674 164 101 rfl
              have hF683 := zOn_tr hF652 hF674 zi_52
              have b684 := zv_46_2 hI673 zc_164
              have b685 := zv_46_3 hI673 zc_164
              have b686 := zv_46_5 hI673 zc_164
              have b687 := zv_46_97 hI673 zc_164
              have b688 := zv_46_99 hI673 zc_164
              have b689 := zv_46_101 hI673 zc_164
              refine zt_goto (tgt := 0) hX dX12_qGoesOn_119 (by decide) ?_
              exact ih20 s670 hI673 hF683 (by omega) (by omega) (by omega) (by omega) (by omega) (by omega) (by omega) (by omega) (by omega)
            refine zt_iceq (pc' := 91) (tgt := 115) hX dX12_qGoesOn_88 rfl (by decide) ⟨by omega, by omega⟩ ⟨by omega, by omega⟩ (fun c690 => ?_) (fun c690 => ?_)
            · exact J_115_661 s629 hI631 hF632 (by omega) (by omega) (by omega) (by omega) (by omega) (by omega) (by omega) (by omega) (by omega)
            · refine zt_aload_n (pc' := 92) hX dX12_qGoesOn_91 rfl rfl ?_
              refine zt_aload_n (pc' := 93) hX dX12_qGoesOn_92 rfl rfl ?_
              refine zt_get (pc' := 96) (v := .ref (X.1.1 + 235)) hX dX12_qGoesOn_93 rfl zf_X12_234 (by decide) zc_164 zs_46 (zrf_of (zv_46_98 hI631 zc_164)) ?_
              refine zt_aload_n (pc' := 97) hX dX12_qGoesOn_96 rfl rfl ?_
              refine zt_get (pc' := 100) (v := .int (zI (s629 164 99))) hX dX12_qGoesOn_97 rfl zf_X12_333 (by decide) zc_164 zs_46 rfl ?_
              refine zt_iald (pc' := 101) hX dX12_qGoesOn_100 rfl (by decide) zc_235 zs_117 (by decide) ⟨by omega, by omega⟩ ?_
              generalize hv691 : s629 235 ((s629 164 99).toNat) = v691
              have bv691 : -2147483648 ≤ v691 ∧ v691 ≤ 2147483647 := hv691 ▸ zv_117 hI631 zc_235 _
              refine zt_bipush (pc' := 103) hX dX12_qGoesOn_101 rfl (by decide) (by decide) ?_
              have J_112_694 : ∀ (y692 : Int), 5 ≤ y692 → y692 ≤ 6 → zF X s629 112 [some (.ref (X.1.1 + 164)), none] [.int (zI y692), .ref (X.1.1 + 164)] := by
                intro y692 h693 h694
                refine zt_cVv (pc' := 115) hX dX12_qGoesOn_112 rfl zm_yX12_qCode zw_29_18 zc_164 (by decide) zs_46 (q := (RX12, TX12, 108)) rfl rfl (zc_X12_qCode _ _ s629 hI631 y692 ⟨by omega, by omega⟩ (by omega)) rfl rfl (Nat.le_of_ble_eq_true rfl) (by decide) (fun r696 s697 hr698 hp699 => ?_)
                obtain ⟨hI700, hF701, z702⟩ := hp699
                have e703 := hF701 164 2 rfl
                have e704 := hF701 164 3 rfl
                have e705 := hF701 164 5 rfl
                have e706 := hF701 164 101 rfl
                have hF707 := zOn_tr hF632 hF701 zi_52
                have b708 := zv_46_2 hI700 zc_164
                have b709 := zv_46_3 hI700 zc_164
                have b710 := zv_46_5 hI700 zc_164
                have b711 := zv_46_97 hI700 zc_164
                have b712 := zv_46_99 hI700 zc_164
                have b713 := zv_46_101 hI700 zc_164
                have h714 := zcd_h z702 (by omega)
                have h715r := zcd_ri z702 (by omega)
                have h716f := zcd_f z702
                have h717d := zdb (v := y692) (by omega)
                exact J_115_661 s697 hI700 hF707 (by omega) (by omega) (by omega) (by omega) (by omega) (by omega) (by omega) (by omega) (by omega)
              refine zt_icne (pc' := 106) (tgt := 110) hX dX12_qGoesOn_103 rfl (by decide) ⟨by omega, by omega⟩ ⟨by omega, by omega⟩ (fun c718 => ?_) (fun c718 => ?_)
              · refine zt_bipush (pc' := 112) hX dX12_qGoesOn_110 rfl (by decide) (by decide) ?_
                exact J_112_694 6 (by omega) (by omega)
              · refine zt_iconst (pc' := 107) hX dX12_qGoesOn_106 rfl ?_
                refine zt_goto (tgt := 112) hX dX12_qGoesOn_107 (by decide) ?_
                exact J_112_694 5 (by omega) (by omega)
          refine zt_iceq (pc' := 25) (tgt := 43) hX dX12_qGoesOn_22 rfl (by decide) ⟨by omega, by omega⟩ ⟨by omega, by omega⟩ (fun c719 => ?_) (fun c719 => ?_)
          · exact J_43_570 (by omega)
          · refine zt_aload_n (pc' := 26) hX dX12_qGoesOn_25 rfl rfl ?_
            refine zt_cVi (pc' := 29) hX dX12_qGoesOn_26 rfl zm_yX12_qBracket zw_31_12 zc_164 (by decide) zs_46 (q := (RX12, TX12, 108)) rfl rfl (zc_X12_qBracket _ _ s533 hI536 (by omega)) rfl rfl (Nat.le_of_ble_eq_true rfl) (by decide) (fun r720 s721 hr722 hp723 => ?_)
            obtain ⟨rfl, q724, q725, z726⟩ := hp723
            refine zt_bipush (pc' := 31) hX dX12_qGoesOn_29 rfl (by decide) (by decide) ?_
            refine zt_iceq (pc' := 34) (tgt := 43) hX dX12_qGoesOn_31 rfl (by decide) ⟨by omega, by omega⟩ ⟨by omega, by omega⟩ (fun c727 => ?_) (fun c727 => ?_)
            · exact J_43_570 (by omega)
            · refine zt_aload_n (pc' := 35) hX dX12_qGoesOn_34 rfl rfl ?_
              refine zt_cVi (pc' := 38) hX dX12_qGoesOn_35 rfl zm_yX12_qBracket zw_31_12 zc_164 (by decide) zs_46 (q := (RX12, TX12, 108)) rfl rfl (zc_X12_qBracket _ _ s533 hI536 (by omega)) rfl rfl (Nat.le_of_ble_eq_true rfl) (by decide) (fun r728 s729 hr730 hp731 => ?_)
              obtain ⟨rfl, q732, q733, z734⟩ := hp731
              refine zt_bipush (pc' := 40) hX dX12_qGoesOn_38 rfl (by decide) (by decide) ?_
              refine zt_icne (pc' := 43) (tgt := 122) hX dX12_qGoesOn_40 rfl (by decide) ⟨by omega, by omega⟩ ⟨by omega, by omega⟩ (fun c735 => ?_) (fun c735 => ?_)
              · exact J_122_38 s533 hI536 hF555 (by omega) (by omega) (by omega) (by omega) (by omega) (by omega) (by omega) (by omega)
              · exact J_43_570 (by omega)
  exact L_0_17 _ σ hI hF (by omega) (by omega) (by omega) (by omega) (by omega) (by omega) (by omega) (by omega) (Nat.lt_succ_self _)
