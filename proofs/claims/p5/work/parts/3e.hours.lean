set_option maxRecDepth 100000 in
set_option maxHeartbeats 4000000 in
theorem zc_X12_hourGoes (l : Launch) (E : zEN) (σ : zSto) (hI : zInv σ) (hW : zWF σ) : zCt l E yX12_hourGoes cX12_hourGoes 4 none 6 zNC zNC 0 0 σ [.ref (E.1 + 164)] (fun r σ' => zInv σ' ∧ zGM σ σ') := by
  refine zCt_of2 [some (.ref (E.1 + 164)), none, none, none] (by decide +kernel) (Nat.le_of_ble_eq_true rfl) rfl ?_
  intro X hE hX hR hL hN
  subst hE
  have hX : zok X cX12_hourGoes RX12 6 := hX
  have hF := zGM_rf σ
  refine zt_aload_n (pc' := 1) hX dX12_hourGoes_0 rfl rfl ?_
  refine zt_cVi (pc' := 4) hX dX12_hourGoes_1 rfl zm_yX12_holders zw_38_12 zc_164 (by decide) zs_46 (q := (RX12, TX12, 108)) rfl rfl (zc_X12_holders _ _ σ hI (zWF_M hW hF)) rfl rfl (Nat.le_of_ble_eq_true rfl) (by decide) (fun r1 s2 hr3 hp4 => ?_)
  obtain ⟨hI5, hF6, q7, q8⟩ := hp4
  have hF9 := zGM_tr hF hF6
  refine zt_istore_n (pc' := 5) (lv' := [some (.ref (X.1.1 + 164)), some (.int (zI r1)), none, none]) hX dX12_hourGoes_4 rfl hL (by decide) rfl ?_
  refine zt_aload_n (pc' := 6) hX dX12_hourGoes_5 rfl rfl ?_
  refine zt_cVv (pc' := 9) hX dX12_hourGoes_6 rfl zm_yX12_laysLoads zw_44_15 zc_164 (by decide) zs_46 (q := (RX12, TX12, 108)) rfl rfl (zc_X12_laysLoads _ _ s2 hI5 (zWF_M hW hF9)) rfl rfl (Nat.le_of_ble_eq_true rfl) (by decide) (fun r10 s11 hr12 hp13 => ?_)
  obtain ⟨hI14, hF15⟩ := hp13
  have hF16 := zGM_tr hF9 hF15
  refine zt_iconst (pc' := 10) hX dX12_hourGoes_9 rfl ?_
  refine zt_istore_n (pc' := 11) (lv' := [some (.ref (X.1.1 + 164)), some (.int (zI r1)), some (.int (zI 0)), none]) hX dX12_hourGoes_10 rfl hL (by decide) rfl ?_
  have L_11_22 : ∀ (N : Nat) (x17 : Int) (s20 : zSto), 0 ≤ x17 → x17 ≤ 36 → zInv s20 → zGM σ s20 → ((37 - x17).toNat) < N → zF X s20 11 [some (.ref (X.1.1 + 164)), some (.int (zI r1)), some (.int (zI x17)), none] [] := by
    intro N
    induction N with
    | zero =>
      intro x17 s20 h18 h19 hI21 hF22 hm24
      exact absurd hm24 (Nat.not_lt_zero _)
    | succ N ih25 =>
      intro x17 s20 h18 h19 hI21 hF22 hm24
      refine zt_iload_n (pc' := 12) hX dX12_hourGoes_11 rfl rfl ?_
      refine zt_aload_n (pc' := 13) hX dX12_hourGoes_12 rfl rfl ?_
      refine zt_cVi (pc' := 16) hX dX12_hourGoes_13 rfl zm_yX12_cellMany zw_44_19 zc_164 (by decide) zs_46 (q := (RX12, TX12, 108)) rfl rfl (zc_X12_cellMany _ _ s20 hI21 ) rfl rfl (Nat.le_of_ble_eq_true rfl) (by decide) (fun r26 s27 hr28 hp29 => ?_)
      obtain ⟨rfl, q30, q31, z32⟩ := hp29
      refine zt_icge (pc' := 19) (tgt := 59) hX dX12_hourGoes_16 rfl (by decide) ⟨by omega, by omega⟩ ⟨by omega, by omega⟩ (fun c33 => ?_) (fun c33 => ?_)
      · refine zt_iconst (pc' := 60) hX dX12_hourGoes_59 rfl ?_
        refine zt_istore_n (pc' := 61) (lv' := [some (.ref (X.1.1 + 164)), some (.int (zI r1)), some (.int (zI 0)), none]) hX dX12_hourGoes_60 rfl hL (by decide) rfl ?_
        have L_61_39 : ∀ (N : Nat) (x34 : Int) (s37 : zSto), 0 ≤ x34 → x34 ≤ 36 → zInv s37 → zGM σ s37 → ((37 - x34).toNat) < N → zF X s37 61 [some (.ref (X.1.1 + 164)), some (.int (zI r1)), some (.int (zI x34)), none] [] := by
          intro N
          induction N with
          | zero =>
            intro x34 s37 h35 h36 hI38 hF39 hm41
            exact absurd hm41 (Nat.not_lt_zero _)
          | succ N ih42 =>
            intro x34 s37 h35 h36 hI38 hF39 hm41
            refine zt_iload_n (pc' := 62) hX dX12_hourGoes_61 rfl rfl ?_
            refine zt_aload_n (pc' := 63) hX dX12_hourGoes_62 rfl rfl ?_
            refine zt_cVi (pc' := 66) hX dX12_hourGoes_63 rfl zm_yX12_cellMany zw_44_19 zc_164 (by decide) zs_46 (q := (RX12, TX12, 108)) rfl rfl (zc_X12_cellMany _ _ s37 hI38 ) rfl rfl (Nat.le_of_ble_eq_true rfl) (by decide) (fun r43 s44 hr45 hp46 => ?_)
            obtain ⟨rfl, q47, q48, z49⟩ := hp46
            refine zt_icge (pc' := 69) (tgt := 117) hX dX12_hourGoes_66 rfl (by decide) ⟨by omega, by omega⟩ ⟨by omega, by omega⟩ (fun c50 => ?_) (fun c50 => ?_)
            · refine zt_iconst (pc' := 118) hX dX12_hourGoes_117 rfl ?_
              refine zt_istore_n (pc' := 119) (lv' := [some (.ref (X.1.1 + 164)), some (.int (zI r1)), some (.int (zI 0)), none]) hX dX12_hourGoes_118 rfl hL (by decide) rfl ?_
              have L_119_56 : ∀ (N : Nat) (x51 : Int) (s54 : zSto), 0 ≤ x51 → x51 ≤ 10 → zInv s54 → zGM σ s54 → ((11 - x51).toNat) < N → zF X s54 119 [some (.ref (X.1.1 + 164)), some (.int (zI r1)), some (.int (zI x51)), none] [] := by
                intro N
                induction N with
                | zero =>
                  intro x51 s54 h52 h53 hI55 hF56 hm58
                  exact absurd hm58 (Nat.not_lt_zero _)
                | succ N ih59 =>
                  intro x51 s54 h52 h53 hI55 hF56 hm58
                  refine zt_iload_n (pc' := 120) hX dX12_hourGoes_119 rfl rfl ?_
                  refine zt_aload_n (pc' := 121) hX dX12_hourGoes_120 rfl rfl ?_
                  refine zt_cVi (pc' := 124) hX dX12_hourGoes_121 rfl zm_yX12_peopleMany zw_38_4 zc_164 (by decide) zs_46 (q := (RX12, TX12, 108)) rfl rfl (zc_X12_peopleMany _ _ s54 hI55 ) rfl rfl (Nat.le_of_ble_eq_true rfl) (by decide) (fun r60 s61 hr62 hp63 => ?_)
                  obtain ⟨rfl, q64, q65, z66⟩ := hp63
                  refine zt_icge (pc' := 127) (tgt := 211) hX dX12_hourGoes_124 rfl (by decide) ⟨by omega, by omega⟩ ⟨by omega, by omega⟩ (fun c67 => ?_) (fun c67 => ?_)
                  · refine zt_aload_n (pc' := 212) hX dX12_hourGoes_211 rfl rfl ?_
                    refine zt_get (pc' := 215) (v := .ref (X.1.1 + 203)) hX dX12_hourGoes_212 rfl zf_X12_130 (by decide) zc_164 zs_46 (zrf_of (zv_46_52 hI55 zc_164)) ?_
                    refine zt_iconst (pc' := 216) hX dX12_hourGoes_215 rfl ?_
                    refine zt_dup2 (pc' := 217) hX dX12_hourGoes_216 rfl rfl rfl ?_
                    refine zt_iald (pc' := 218) hX dX12_hourGoes_217 rfl (by decide) zc_203 zs_85 (by decide) ⟨by omega, by omega⟩ ?_
                    rw [show Int.toNat 0 = 0 from rfl]
                    have b69 := zv_85 hI55 zc_203 0
                    refine zt_iconst (pc' := 219) hX dX12_hourGoes_218 rfl ?_
                    refine zt_iadd (pc' := 220) hX dX12_hourGoes_219 rfl ?_
                    refine zt_wrap (fun r70 zr70 lr70 ur70 => ?_)
                    clear zr70
                    refine zt_iast (pc' := 221) hX dX12_hourGoes_220 rfl (by decide) zc_203 zs_85 (by decide) ⟨by omega, by omega⟩ ?_
                    rw [show Int.toNat 0 = 0 from rfl]
                    generalize hs72 : zset s54 203 0 r70 = s71
                    have hI73 : zInv s71 := hs72 ▸ zp_85 hI55 zc_203 0 (by omega)
                    have hF74 : zGM σ s71 := hs72 ▸ zGM_set hF56 zc_203 (by decide) zk_85 (Or.inl (by decide)) (by decide)
                    exact zt_vret hX hR dX12_hourGoes_221 ⟨hI73, hF74⟩
                  · refine zt_bipush (pc' := 129) hX dX12_hourGoes_127 rfl (by decide) (by decide) ?_
                    refine zt_iconst (pc' := 130) hX dX12_hourGoes_129 rfl ?_
                    refine zt_iload_n (pc' := 131) hX dX12_hourGoes_130 rfl rfl ?_
                    refine zt_imul (pc' := 132) hX dX12_hourGoes_131 rfl ?_
                    refine zt_iadd (pc' := 133) hX dX12_hourGoes_132 rfl ?_
                    refine zt_iconst (pc' := 134) hX dX12_hourGoes_133 rfl ?_
                    refine zt_iadd (pc' := 135) hX dX12_hourGoes_134 rfl ?_
                    refine zt_istore_n (pc' := 136) (lv' := [some (.ref (X.1.1 + 164)), some (.int (zI r1)), some (.int (zI x51)), some (.int (zI ((37 + (3 * x51)) + 1)))]) hX dX12_hourGoes_135 rfl hL (by decide) rfl ?_
                    refine zt_iload_n (pc' := 137) hX dX12_hourGoes_136 rfl rfl ?_
                    refine zt_iload_n (pc' := 138) hX dX12_hourGoes_137 rfl rfl ?_
                    refine zt_ishr (pc' := 139) hX dX12_hourGoes_138 rfl (fun r75 zr75 lr75 ur75 => ?_)
                    clear zr75
                    refine zt_iconst (pc' := 140) hX dX12_hourGoes_139 rfl ?_
                    refine zt_iandm (pc' := 141) hX dX12_hourGoes_140 rfl 1 (by decide +kernel) (by decide) (fun r76 er76 lr76 ur76 => ?_)
                    have ur76 : r76 ≤ 1 := by omega
                    refine zt_iconst (pc' := 142) hX dX12_hourGoes_141 rfl ?_
                    have J_205_79 : ∀ (s77 : zSto), zInv s77 → zGM σ s77 → zF X s77 205 [some (.ref (X.1.1 + 164)), some (.int (zI r1)), some (.int (zI x51)), none] [] := by
                      intro s77 hI78 hF79
                      refine zt_iinc (pc' := 208) (lv' := [some (.ref (X.1.1 + 164)), some (.int (zI r1)), some (.int (zI (x51 + 1))), none]) hX dX12_hourGoes_205 rfl rfl hL (by decide) rfl ?_
                      refine zt_goto (tgt := 119) hX dX12_hourGoes_208 (by decide) ?_
                      exact ih59 (x51 + 1) s77 (by omega) (by omega) hI78 hF79 (by omega)
                    refine zt_icne (pc' := 145) (tgt := 178) hX dX12_hourGoes_142 rfl (by decide) ⟨by omega, by omega⟩ ⟨by omega, by omega⟩ (fun c81 => ?_) (fun c81 => ?_)
                    · refine zt_aload_n (pc' := 179) hX dX12_hourGoes_178 rfl rfl ?_
                      refine zt_get (pc' := 182) (v := .ref (X.1.1 + 203)) hX dX12_hourGoes_179 rfl zf_X12_130 (by decide) zc_164 zs_46 (zrf_of (zv_46_52 hI55 zc_164)) ?_
                      refine zt_iload_n (pc' := 183) hX dX12_hourGoes_182 rfl rfl ?_
                      refine zt_aload_n (pc' := 184) hX dX12_hourGoes_183 rfl rfl ?_
                      refine zt_get (pc' := 187) (v := .ref (X.1.1 + 203)) hX dX12_hourGoes_184 rfl zf_X12_130 (by decide) zc_164 zs_46 (zrf_of (zv_46_52 hI55 zc_164)) ?_
                      refine zt_iload_n (pc' := 188) hX dX12_hourGoes_187 rfl rfl ?_
                      refine zt_iald (pc' := 189) hX dX12_hourGoes_188 rfl (by decide) zc_203 zs_85 (by decide) ⟨by omega, by omega⟩ ?_
                      have bv82 := zv_85 hI55 zc_203 (((37 + (3 * x51)) + 1).toNat)
                      generalize hv82 : s54 203 (((37 + (3 * x51)) + 1).toNat) = v82 at bv82 ⊢
                      have J_204_85 : ∀ (y83 : Int), -2147483648 ≤ y83 → y83 ≤ 2147483647 → zF X s54 204 [some (.ref (X.1.1 + 164)), some (.int (zI r1)), some (.int (zI x51)), none] [.int (zI y83), .int (zI ((37 + (3 * x51)) + 1)), .ref (X.1.1 + 203)] := by
                        intro y83 h84 h85
                        refine zt_iast (pc' := 205) hX dX12_hourGoes_204 rfl (by decide) zc_203 zs_85 (by decide) ⟨by omega, by omega⟩ ?_
                        generalize hs88 : zset s54 203 (((37 + (3 * x51)) + 1).toNat) y83 = s87
                        have hI89 : zInv s87 := hs88 ▸ zp_85 hI55 zc_203 (((37 + (3 * x51)) + 1).toNat) (by omega)
                        have hF90 : zGM σ s87 := hs88 ▸ zGM_set hF56 zc_203 (by decide) zk_85 (Or.inl (by decide)) (by decide)
                        exact J_205_79 s87 hI89 hF90
                      refine zt_ifne (pc' := 192) (tgt := 196) hX dX12_hourGoes_189 rfl (by decide) ⟨by omega, by omega⟩ (fun c91 => ?_) (fun c91 => ?_)
                      · refine zt_aload_n (pc' := 197) hX dX12_hourGoes_196 rfl rfl ?_
                        refine zt_get (pc' := 200) (v := .ref (X.1.1 + 203)) hX dX12_hourGoes_197 rfl zf_X12_130 (by decide) zc_164 zs_46 (zrf_of (zv_46_52 hI55 zc_164)) ?_
                        refine zt_iload_n (pc' := 201) hX dX12_hourGoes_200 rfl rfl ?_
                        refine zt_iald (pc' := 202) hX dX12_hourGoes_201 rfl (by decide) zc_203 zs_85 (by decide) ⟨by omega, by omega⟩ ?_
                        have bv92 := zv_85 hI55 zc_203 (((37 + (3 * x51)) + 1).toNat)
                        generalize hv92 : s54 203 (((37 + (3 * x51)) + 1).toNat) = v92 at bv92 ⊢
                        refine zt_iconst (pc' := 203) hX dX12_hourGoes_202 rfl ?_
                        refine zt_isub (pc' := 204) hX dX12_hourGoes_203 rfl ?_
                        refine zt_wrap (fun r93 zr93 lr93 ur93 => ?_)
                        clear zr93
                        refine zt_mask [true, true, true, false] rfl ?_
                        exact J_204_85 r93 (by omega) (by omega)
                      · refine zt_iconst (pc' := 193) hX dX12_hourGoes_192 rfl ?_
                        refine zt_goto (tgt := 204) hX dX12_hourGoes_193 (by decide) ?_
                        refine zt_mask [true, true, true, false] rfl ?_
                        exact J_204_85 0 (by omega) (by omega)
                    · refine zt_aload_n (pc' := 146) hX dX12_hourGoes_145 rfl rfl ?_
                      refine zt_get (pc' := 149) (v := .ref (X.1.1 + 203)) hX dX12_hourGoes_146 rfl zf_X12_130 (by decide) zc_164 zs_46 (zrf_of (zv_46_52 hI55 zc_164)) ?_
                      refine zt_iload_n (pc' := 150) hX dX12_hourGoes_149 rfl rfl ?_
                      refine zt_aload_n (pc' := 151) hX dX12_hourGoes_150 rfl rfl ?_
                      refine zt_get (pc' := 154) (v := .ref (X.1.1 + 203)) hX dX12_hourGoes_151 rfl zf_X12_130 (by decide) zc_164 zs_46 (zrf_of (zv_46_52 hI55 zc_164)) ?_
                      refine zt_iload_n (pc' := 155) hX dX12_hourGoes_154 rfl rfl ?_
                      refine zt_iald (pc' := 156) hX dX12_hourGoes_155 rfl (by decide) zc_203 zs_85 (by decide) ⟨by omega, by omega⟩ ?_
                      have bv94 := zv_85 hI55 zc_203 (((37 + (3 * x51)) + 1).toNat)
                      generalize hv94 : s54 203 (((37 + (3 * x51)) + 1).toNat) = v94 at bv94 ⊢
                      refine zt_bipush (pc' := 158) hX dX12_hourGoes_156 rfl (by decide) (by decide) ?_
                      have J_174_97 : ∀ (y95 : Int), -2147483648 ≤ y95 → y95 ≤ 2147483647 → zF X s54 174 [some (.ref (X.1.1 + 164)), some (.int (zI r1)), some (.int (zI x51)), none] [.int (zI y95), .int (zI ((37 + (3 * x51)) + 1)), .ref (X.1.1 + 203)] := by
                        intro y95 h96 h97
                        refine zt_iast (pc' := 175) hX dX12_hourGoes_174 rfl (by decide) zc_203 zs_85 (by decide) ⟨by omega, by omega⟩ ?_
                        generalize hs100 : zset s54 203 (((37 + (3 * x51)) + 1).toNat) y95 = s99
                        have hI101 : zInv s99 := hs100 ▸ zp_85 hI55 zc_203 (((37 + (3 * x51)) + 1).toNat) (by omega)
                        have hF102 : zGM σ s99 := hs100 ▸ zGM_set hF56 zc_203 (by decide) zk_85 (Or.inl (by decide)) (by decide)
                        refine zt_goto (tgt := 205) hX dX12_hourGoes_175 (by decide) ?_
                        exact J_205_79 s99 hI101 hF102
                      refine zt_icne (pc' := 161) (tgt := 166) hX dX12_hourGoes_158 rfl (by decide) ⟨by omega, by omega⟩ ⟨by omega, by omega⟩ (fun c103 => ?_) (fun c103 => ?_)
                      · refine zt_aload_n (pc' := 167) hX dX12_hourGoes_166 rfl rfl ?_
                        refine zt_get (pc' := 170) (v := .ref (X.1.1 + 203)) hX dX12_hourGoes_167 rfl zf_X12_130 (by decide) zc_164 zs_46 (zrf_of (zv_46_52 hI55 zc_164)) ?_
                        refine zt_iload_n (pc' := 171) hX dX12_hourGoes_170 rfl rfl ?_
                        refine zt_iald (pc' := 172) hX dX12_hourGoes_171 rfl (by decide) zc_203 zs_85 (by decide) ⟨by omega, by omega⟩ ?_
                        have bv104 := zv_85 hI55 zc_203 (((37 + (3 * x51)) + 1).toNat)
                        generalize hv104 : s54 203 (((37 + (3 * x51)) + 1).toNat) = v104 at bv104 ⊢
                        refine zt_iconst (pc' := 173) hX dX12_hourGoes_172 rfl ?_
                        refine zt_iadd (pc' := 174) hX dX12_hourGoes_173 rfl ?_
                        refine zt_wrap (fun r105 zr105 lr105 ur105 => ?_)
                        clear zr105
                        refine zt_mask [true, true, true, false] rfl ?_
                        exact J_174_97 r105 (by omega) (by omega)
                      · refine zt_bipush (pc' := 163) hX dX12_hourGoes_161 rfl (by decide) (by decide) ?_
                        refine zt_goto (tgt := 174) hX dX12_hourGoes_163 (by decide) ?_
                        refine zt_mask [true, true, true, false] rfl ?_
                        exact J_174_97 99 (by omega) (by omega)
              exact L_119_56 _ 0 s37 (by omega) (by omega) hI38 hF39 (Nat.lt_succ_self _)
            · refine zt_aload_n (pc' := 70) hX dX12_hourGoes_69 rfl rfl ?_
              refine zt_iload_n (pc' := 71) hX dX12_hourGoes_70 rfl rfl ?_
              refine zt_cVi (pc' := 74) hX dX12_hourGoes_71 rfl zm_yX12_cellOf zw_44_23 zc_164 (by decide) zs_46 (q := (RX12, TX12, 108)) rfl rfl (zc_X12_cellOf _ _ s37 hI38 x34 ⟨by omega, by omega⟩ (by omega)) rfl rfl (Nat.le_of_ble_eq_true rfl) (by decide) (fun r106 s107 hr108 hp109 => ?_)
              obtain ⟨rfl, q110, q111⟩ := hp109
              refine zt_istore_n (pc' := 75) (lv' := [some (.ref (X.1.1 + 164)), some (.int (zI r1)), some (.int (zI x34)), some (.int (zI r106))]) hX dX12_hourGoes_74 rfl hL (by decide) rfl ?_
              refine zt_aload_n (pc' := 76) hX dX12_hourGoes_75 rfl rfl ?_
              refine zt_get (pc' := 79) (v := .ref (X.1.1 + 206)) hX dX12_hourGoes_76 rfl zf_X12_142 (by decide) zc_164 zs_46 (zrf_of (zv_46_61 hI38 zc_164)) ?_
              refine zt_iload_n (pc' := 80) hX dX12_hourGoes_79 rfl rfl ?_
              refine zt_zald (pc' := 81) hX dX12_hourGoes_80 rfl (by decide) zc_206 zs_88 (by decide) ⟨by omega, by omega⟩ ?_
              generalize hv112 : s37 206 (r106.toNat) = v112
              have bv112 : 0 ≤ v112 ∧ v112 ≤ 1 := hv112 ▸ zv_88 hI38 zc_206 _
              have J_111_115 : ∀ (s113 : zSto), zInv s113 → zGM σ s113 → zF X s113 111 [some (.ref (X.1.1 + 164)), some (.int (zI r1)), some (.int (zI x34)), none] [] := by
                intro s113 hI114 hF115
                refine zt_iinc (pc' := 114) (lv' := [some (.ref (X.1.1 + 164)), some (.int (zI r1)), some (.int (zI (x34 + 1))), none]) hX dX12_hourGoes_111 rfl rfl hL (by decide) rfl ?_
                refine zt_goto (tgt := 61) hX dX12_hourGoes_114 (by decide) ?_
                exact ih42 (x34 + 1) s113 (by omega) (by omega) hI114 hF115 (by omega)
              refine zt_ifne (pc' := 84) (tgt := 87) hX dX12_hourGoes_81 rfl (by decide) ⟨by omega, by omega⟩ (fun c117 => ?_) (fun c117 => ?_)
              · refine zt_aload_n (pc' := 88) hX dX12_hourGoes_87 rfl rfl ?_
                refine zt_get (pc' := 91) (v := .ref (X.1.1 + 203)) hX dX12_hourGoes_88 rfl zf_X12_130 (by decide) zc_164 zs_46 (zrf_of (zv_46_52 hI38 zc_164)) ?_
                refine zt_iconst (pc' := 92) hX dX12_hourGoes_91 rfl ?_
                refine zt_iload_n (pc' := 93) hX dX12_hourGoes_92 rfl rfl ?_
                refine zt_iadd (pc' := 94) hX dX12_hourGoes_93 rfl ?_
                refine zt_iconst (pc' := 95) hX dX12_hourGoes_94 rfl ?_
                refine zt_iast (pc' := 96) hX dX12_hourGoes_95 rfl (by decide) zc_203 zs_85 (by decide) ⟨by omega, by omega⟩ ?_
                generalize hs119 : zset s37 203 ((1 + r106).toNat) 1 = s118
                have hI120 : zInv s118 := hs119 ▸ zp_85 hI38 zc_203 ((1 + r106).toNat) (by omega)
                have hF121 : zGM σ s118 := hs119 ▸ zGM_set hF39 zc_203 (by decide) zk_85 (Or.inl (by decide)) (by decide)
                refine zt_aload_n (pc' := 97) hX dX12_hourGoes_96 rfl rfl ?_
                refine zt_dup (pc' := 98) hX dX12_hourGoes_97 rfl rfl ?_
                have b122 := zv_46_60 hI120 zc_164
                have e123 : s118 164 60 = s37 164 60 := by rw [← hs119]; exact zset_k (zne_r zc_164 zc_203 (by decide))
                refine zt_get (pc' := 101) (v := .int (zI (s118 164 60))) hX dX12_hourGoes_98 rfl zf_X12_457 (by decide) zc_164 zs_46 rfl ?_
                refine zt_iconst (pc' := 102) hX dX12_hourGoes_101 rfl ?_
                refine zt_iadd (pc' := 103) hX dX12_hourGoes_102 rfl ?_
                refine zt_wrap (fun r124 zr124 lr124 ur124 => ?_)
                clear zr124
                refine zt_put (pc' := 106) (x := r124) hX dX12_hourGoes_103 rfl zf_X12_457 (by decide) zc_164 zs_46 (fun q hq => by cases hq; rfl) rfl rfl rfl ?_
                generalize hs126 : zset s118 164 60 r124 = s125
                have hI127 : zInv s125 := hs126 ▸ zp_46_60 hI120 zc_164 ⟨by omega, by omega⟩
                have hF128 : zGM σ s125 := hs126 ▸ zGM_set hF121 zc_164 (by decide) zk_46 (Or.inr (by decide)) (by decide)
                refine zt_aload_n (pc' := 107) hX dX12_hourGoes_106 rfl rfl ?_
                refine zt_iload_n (pc' := 108) hX dX12_hourGoes_107 rfl rfl ?_
                refine zt_cVv (pc' := 111) hX dX12_hourGoes_108 rfl zm_yX12_isKept zw_50_11 zc_164 (by decide) zs_46 (q := (RX12, TX12, 108)) rfl rfl (zc_X12_isKept _ _ s125 hI127 r106 ⟨by omega, by omega⟩) rfl rfl (Nat.le_of_ble_eq_true rfl) (by decide) (fun r129 s130 hr131 hp132 => ?_)
                obtain ⟨hI133, hF134⟩ := hp132
                have hF135 := zGM_tr hF128 hF134
                refine zt_mask [true, true, true, false] rfl ?_
                exact J_111_115 s130 hI133 hF135
              · refine zt_goto (tgt := 111) hX dX12_hourGoes_84 (by decide) ?_
                refine zt_mask [true, true, true, false] rfl ?_
                exact J_111_115 s37 hI38 hF39
        exact L_61_39 _ 0 s20 (by omega) (by omega) hI21 hF22 (Nat.lt_succ_self _)
      · refine zt_aload_n (pc' := 20) hX dX12_hourGoes_19 rfl rfl ?_
        refine zt_iload_n (pc' := 21) hX dX12_hourGoes_20 rfl rfl ?_
        refine zt_cVi (pc' := 24) hX dX12_hourGoes_21 rfl zm_yX12_cellOf zw_44_23 zc_164 (by decide) zs_46 (q := (RX12, TX12, 108)) rfl rfl (zc_X12_cellOf _ _ s20 hI21 x17 ⟨by omega, by omega⟩ (by omega)) rfl rfl (Nat.le_of_ble_eq_true rfl) (by decide) (fun r136 s137 hr138 hp139 => ?_)
        obtain ⟨rfl, q140, q141⟩ := hp139
        refine zt_istore_n (pc' := 25) (lv' := [some (.ref (X.1.1 + 164)), some (.int (zI r1)), some (.int (zI x17)), some (.int (zI r136))]) hX dX12_hourGoes_24 rfl hL (by decide) rfl ?_
        refine zt_aload_n (pc' := 26) hX dX12_hourGoes_25 rfl rfl ?_
        refine zt_get (pc' := 29) (v := .ref (X.1.1 + 206)) hX dX12_hourGoes_26 rfl zf_X12_142 (by decide) zc_164 zs_46 (zrf_of (zv_46_61 hI21 zc_164)) ?_
        refine zt_iload_n (pc' := 30) hX dX12_hourGoes_29 rfl rfl ?_
        refine zt_aload_n (pc' := 31) hX dX12_hourGoes_30 rfl rfl ?_
        refine zt_iload_n (pc' := 32) hX dX12_hourGoes_31 rfl rfl ?_
        refine zt_cVz (pc' := 35) hX dX12_hourGoes_32 rfl zm_yX12_isCracked zw_45_3 zc_164 (by decide) zs_46 (q := (RX12, TX12, 108)) rfl rfl (zc_X12_isCracked _ _ s20 hI21 r136 ⟨by omega, by omega⟩) rfl rfl (Nat.le_of_ble_eq_true rfl) (by decide) (fun r142 s143 hr144 hp145 => ?_)
        obtain ⟨rfl, q146, q147⟩ := hp145
        have J_52_150 : ∀ (y148 : Int), 0 ≤ y148 → y148 ≤ 1 → zF X s20 52 [some (.ref (X.1.1 + 164)), some (.int (zI r1)), some (.int (zI x17)), none] [.int (zI y148), .int (zI r136), .ref (X.1.1 + 206)] := by
          intro y148 h149 h150
          refine zt_zast (pc' := 53) hX dX12_hourGoes_52 rfl (by decide) zc_206 zs_88 (by decide) ⟨by omega, by omega⟩ ⟨by omega, by omega⟩ ?_
          generalize hs153 : zset s20 206 (r136.toNat) y148 = s152
          have hI154 : zInv s152 := hs153 ▸ zp_88 hI21 zc_206 (r136.toNat) ⟨by omega, by omega⟩
          have hF155 : zGM σ s152 := hs153 ▸ zGM_set hF22 zc_206 (by decide) zk_88 (Or.inl (by decide)) (by decide)
          refine zt_iinc (pc' := 56) (lv' := [some (.ref (X.1.1 + 164)), some (.int (zI r1)), some (.int (zI (x17 + 1))), none]) hX dX12_hourGoes_53 rfl rfl hL (by decide) rfl ?_
          refine zt_goto (tgt := 11) hX dX12_hourGoes_56 (by decide) ?_
          exact ih25 (x17 + 1) s152 (by omega) (by omega) hI154 hF155 (by omega)
        have J_51_155 : zF X s20 51 [some (.ref (X.1.1 + 164)), some (.int (zI r1)), some (.int (zI x17)), none] [.int (zI r136), .ref (X.1.1 + 206)] := by
          refine zt_iconst (pc' := 52) hX dX12_hourGoes_51 rfl ?_
          exact J_52_150 0 (by omega) (by omega)
        refine zt_ifne (pc' := 38) (tgt := 51) hX dX12_hourGoes_35 rfl (by decide) ⟨by omega, by omega⟩ (fun c157 => ?_) (fun c157 => ?_)
        · refine zt_mask [true, true, true, false] rfl ?_
          exact J_51_155
        · refine zt_aload_n (pc' := 39) hX dX12_hourGoes_38 rfl rfl ?_
          refine zt_iload_n (pc' := 40) hX dX12_hourGoes_39 rfl rfl ?_
          refine zt_iload_n (pc' := 41) hX dX12_hourGoes_40 rfl rfl ?_
          refine zt_cVi (pc' := 44) hX dX12_hourGoes_41 rfl zm_yX12_slackBy zw_46_3 zc_164 (by decide) zs_46 (q := (RX12, TX12, 108)) rfl rfl (zc_X12_slackBy _ _ s20 hI21 r1 ⟨by omega, by omega⟩ r136 ⟨by omega, by omega⟩) rfl rfl (Nat.le_of_ble_eq_true rfl) (by decide) (fun r158 s159 hr160 hp161 => ?_)
          obtain ⟨rfl, q162, q163⟩ := hp161
          refine zt_ifge (pc' := 47) (tgt := 51) hX dX12_hourGoes_44 rfl (by decide) ⟨by omega, by omega⟩ (fun c164 => ?_) (fun c164 => ?_)
          · refine zt_mask [true, true, true, false] rfl ?_
            exact J_51_155
          · refine zt_iconst (pc' := 48) hX dX12_hourGoes_47 rfl ?_
            refine zt_goto (tgt := 52) hX dX12_hourGoes_48 (by decide) ?_
            refine zt_mask [true, true, true, false] rfl ?_
            exact J_52_150 1 (by omega) (by omega)
  exact L_11_22 _ 0 s11 (by omega) (by omega) hI14 hF16 (Nat.lt_succ_self _)

set_option maxRecDepth 100000 in
set_option maxHeartbeats 4000000 in
theorem zc_X12_hoursGo (l : Launch) (E : zEN) (σ : zSto) (hI : zInv σ) (a1_ : Int) (ha1_ : 0 ≤ a1_ ∧ a1_ ≤ 1000) (hW : zWF σ) : zCt l E yX12_hoursGo cX12_hoursGo 3 none 7 zNC zNC 0 0 σ [.ref (E.1 + 164), .int (zI a1_)] (fun r σ' => zInv σ' ∧ zGM σ σ') := by
  refine zCt_of2 [some (.ref (E.1 + 164)), some (.int (zI a1_)), none] (by decide +kernel) (Nat.le_of_ble_eq_true rfl) rfl ?_
  intro X hE hX hR hL hN
  subst hE
  have hX : zok X cX12_hoursGo RX12 7 := hX
  have hF := zGM_rf σ
  refine zt_iconst (pc' := 1) hX dX12_hoursGo_0 rfl ?_
  refine zt_istore_n (pc' := 2) (lv' := [some (.ref (X.1.1 + 164)), some (.int (zI a1_)), some (.int (zI 0))]) hX dX12_hoursGo_1 rfl hL (by decide) rfl ?_
  have L_2_6 : ∀ (N : Nat) (x1 : Int) (s4 : zSto), 0 ≤ x1 → x1 ≤ 1000 → zInv s4 → zGM σ s4 → ((1001 - x1).toNat) < N → zF X s4 2 [some (.ref (X.1.1 + 164)), some (.int (zI a1_)), some (.int (zI x1))] [] := by
    intro N
    induction N with
    | zero =>
      intro x1 s4 h2 h3 hI5 hF6 hm8
      exact absurd hm8 (Nat.not_lt_zero _)
    | succ N ih9 =>
      intro x1 s4 h2 h3 hI5 hF6 hm8
      refine zt_iload_n (pc' := 3) hX dX12_hoursGo_2 rfl rfl ?_
      refine zt_iload_n (pc' := 4) hX dX12_hoursGo_3 rfl rfl ?_
      refine zt_icge (pc' := 7) (tgt := 17) hX dX12_hoursGo_4 rfl (by decide) ⟨by omega, by omega⟩ ⟨by omega, by omega⟩ (fun c10 => ?_) (fun c10 => ?_)
      · exact zt_vret hX hR dX12_hoursGo_17 ⟨hI5, hF6⟩
      · refine zt_aload_n (pc' := 8) hX dX12_hoursGo_7 rfl rfl ?_
        refine zt_cVv (pc' := 11) hX dX12_hoursGo_8 rfl zm_yX12_hourGoes zw_50_7 zc_164 (by decide) zs_46 (q := (RX12, TX12, 108)) rfl rfl (zc_X12_hourGoes _ _ s4 hI5 (zWF_M hW hF6)) rfl rfl (Nat.le_of_ble_eq_true rfl) (by decide) (fun r11 s12 hr13 hp14 => ?_)
        obtain ⟨hI15, hF16⟩ := hp14
        have hF17 := zGM_tr hF6 hF16
        refine zt_iinc (pc' := 14) (lv' := [some (.ref (X.1.1 + 164)), some (.int (zI a1_)), some (.int (zI (x1 + 1)))]) hX dX12_hoursGo_11 rfl rfl hL (by decide) rfl ?_
        refine zt_goto (tgt := 2) hX dX12_hoursGo_14 (by decide) ?_
        exact ih9 (x1 + 1) s12 (by omega) (by omega) hI15 hF17 (by omega)
  exact L_2_6 _ 0 σ (by omega) (by omega) hI hF (Nat.lt_succ_self _)

set_option maxRecDepth 100000 in
set_option maxHeartbeats 4000000 in
theorem zc_X12_cell (l : Launch) (E : zEN) (σ : zSto) (hI : zInv σ) (a1_ : Int) (ha1_ : -2147483648 ≤ a1_ ∧ a1_ ≤ 2147483647) (a2_ : Int) (ha2_ : -2147483648 ≤ a2_ ∧ a2_ ≤ 2147483647) (a3_ : Int) (ha3_ : -2147483648 ≤ a3_ ∧ a3_ ≤ 2147483647) (hW : zWF σ) : zCt l E yX12_cell cX12_cell 5 (some .int) 6 zNC zNC 0 0 σ [.ref (E.1 + 164), .int (zI a1_), .int (zI a2_), .int (zI a3_)] (fun r σ' => zInv σ' ∧ zGM σ σ' ∧ -2147483648 ≤ r ∧ r ≤ 2147483647) := by
  refine zCt_of2 [some (.ref (E.1 + 164)), some (.int (zI a1_)), some (.int (zI a2_)), some (.int (zI a3_)), none] (by decide +kernel) (Nat.le_of_ble_eq_true rfl) rfl ?_
  intro X hE hX hR hL hN
  subst hE
  have hX : zok X cX12_cell RX12 6 := hX
  have hF := zGM_rf σ
  refine zt_aload_n (pc' := 1) hX dX12_cell_0 rfl rfl ?_
  refine zt_iload_n (pc' := 2) hX dX12_cell_1 rfl rfl ?_
  refine zt_iload_n (pc' := 3) hX dX12_cell_2 rfl rfl ?_
  refine zt_cVi (pc' := 6) hX dX12_cell_3 rfl zm_yX12_cellAt zw_44_11 zc_164 (by decide) zs_46 (q := (RX12, TX12, 108)) rfl rfl (zc_X12_cellAt _ _ σ hI a1_ ⟨by omega, by omega⟩ a2_ ⟨by omega, by omega⟩) rfl rfl (Nat.le_of_ble_eq_true rfl) (by decide) (fun r1 s2 hr3 hp4 => ?_)
  obtain ⟨rfl, q5, q6⟩ := hp4
  refine zt_istore (pc' := 8) (lv' := [some (.ref (X.1.1 + 164)), some (.int (zI a1_)), some (.int (zI a2_)), some (.int (zI a3_)), some (.int (zI r1))]) hX dX12_cell_6 rfl hL (by decide) rfl ?_
  refine zt_iload (pc' := 10) hX dX12_cell_8 rfl rfl ?_
  refine zt_iconst (pc' := 11) hX dX12_cell_10 rfl ?_
  refine zt_icne (pc' := 14) (tgt := 16) hX dX12_cell_11 rfl (by decide) ⟨by omega, by omega⟩ ⟨by omega, by omega⟩ (fun c7 => ?_) (fun c7 => ?_)
  · refine zt_aload_n (pc' := 17) hX dX12_cell_16 rfl rfl ?_
    refine zt_cVv (pc' := 20) hX dX12_cell_17 rfl zm_yX12_laysLoads zw_44_15 zc_164 (by decide) zs_46 (q := (RX12, TX12, 108)) rfl rfl (zc_X12_laysLoads _ _ σ hI (zWF_M hW hF)) rfl rfl (Nat.le_of_ble_eq_true rfl) (by decide) (fun r8 s9 hr10 hp11 => ?_)
    obtain ⟨hI12, hF13⟩ := hp11
    have hF14 := zGM_tr hF hF13
    refine zt_iload_n (pc' := 21) hX dX12_cell_20 rfl rfl ?_
    rcases (show a3_ = 0 ∨ a3_ = 1 ∨ a3_ = 2 ∨ a3_ = 3 ∨ (a3_ < 0 ∨ 3 < a3_) by omega) with c15 | c15 | c15 | c15 | c15
    · refine zt_tsIn (v := 0) (tgt := 52) hX dX12_cell_21 c15 (by decide) (by decide) (by decide) rfl (by decide) ?_
      refine zt_aload_n (pc' := 53) hX dX12_cell_52 rfl rfl ?_
      refine zt_get (pc' := 56) (v := .ref (X.1.1 + 197)) hX dX12_cell_53 rfl zf_X12_112 (by decide) zc_164 zs_46 (zrf_of (zv_46_42 hI12 zc_164)) ?_
      refine zt_bipush (pc' := 58) hX dX12_cell_56 rfl (by decide) (by decide) ?_
      refine zt_iload (pc' := 60) hX dX12_cell_58 rfl rfl ?_
      refine zt_iadd (pc' := 61) hX dX12_cell_60 rfl ?_
      refine zt_iald (pc' := 62) hX dX12_cell_61 rfl (by decide) zc_197 zs_79 (by decide) ⟨by omega, by omega⟩ ?_
      generalize hv16 : s9 197 ((36 + r1).toNat) = v16
      have bv16 : -2147483648 ≤ v16 ∧ v16 ≤ 2147483647 := hv16 ▸ zv_79 hI12 zc_197 _
      exact zt_iret hX hR dX12_cell_62 ⟨by omega, by omega⟩ ⟨hI12, hF14, by omega, by omega⟩
    · refine zt_tsIn (v := 1) (tgt := 63) hX dX12_cell_21 c15 (by decide) (by decide) (by decide) rfl (by decide) ?_
      refine zt_aload_n (pc' := 64) hX dX12_cell_63 rfl rfl ?_
      refine zt_iload (pc' := 66) hX dX12_cell_64 rfl rfl ?_
      refine zt_cVz (pc' := 69) hX dX12_cell_66 rfl zm_yX12_isCracked zw_45_3 zc_164 (by decide) zs_46 (q := (RX12, TX12, 108)) rfl rfl (zc_X12_isCracked _ _ s9 hI12 r1 ⟨by omega, by omega⟩) rfl rfl (Nat.le_of_ble_eq_true rfl) (by decide) (fun r17 s18 hr19 hp20 => ?_)
      obtain ⟨rfl, q21, q22⟩ := hp20
      refine zt_ifeq (pc' := 72) (tgt := 76) hX dX12_cell_69 rfl (by decide) ⟨by omega, by omega⟩ (fun c23 => ?_) (fun c23 => ?_)
      · refine zt_iconst (pc' := 77) hX dX12_cell_76 rfl ?_
        exact zt_iret hX hR dX12_cell_77 ⟨by omega, by omega⟩ ⟨hI12, hF14, by omega, by omega⟩
      · refine zt_iconst (pc' := 73) hX dX12_cell_72 rfl ?_
        refine zt_goto (tgt := 77) hX dX12_cell_73 (by decide) ?_
        exact zt_iret hX hR dX12_cell_77 ⟨by omega, by omega⟩ ⟨hI12, hF14, by omega, by omega⟩
    · refine zt_tsIn (v := 2) (tgt := 78) hX dX12_cell_21 c15 (by decide) (by decide) (by decide) rfl (by decide) ?_
      refine zt_aload_n (pc' := 79) hX dX12_cell_78 rfl rfl ?_
      refine zt_get (pc' := 82) (v := .ref (X.1.1 + 205)) hX dX12_cell_79 rfl zf_X12_136 (by decide) zc_164 zs_46 (zrf_of (zv_46_57 hI12 zc_164)) ?_
      refine zt_iload (pc' := 84) hX dX12_cell_82 rfl rfl ?_
      refine zt_iald (pc' := 85) hX dX12_cell_84 rfl (by decide) zc_205 zs_87 (by decide) ⟨by omega, by omega⟩ ?_
      generalize hv24 : s9 205 (r1.toNat) = v24
      have bv24 : -2147483648 ≤ v24 ∧ v24 ≤ 2147483647 := hv24 ▸ zv_87 hI12 zc_205 _
      exact zt_iret hX hR dX12_cell_85 ⟨by omega, by omega⟩ ⟨hI12, hF14, by omega, by omega⟩
    · refine zt_tsIn (v := 3) (tgt := 86) hX dX12_cell_21 c15 (by decide) (by decide) (by decide) rfl (by decide) ?_
      refine zt_aload_n (pc' := 87) hX dX12_cell_86 rfl rfl ?_
      refine zt_iload (pc' := 89) hX dX12_cell_87 rfl rfl ?_
      refine zt_cVi (pc' := 92) hX dX12_cell_89 rfl zm_yX12_standsAt zw_45_12 zc_164 (by decide) zs_46 (q := (RX12, TX12, 108)) rfl rfl (zc_X12_standsAt _ _ s9 hI12 r1 ⟨by omega, by omega⟩) rfl rfl (Nat.le_of_ble_eq_true rfl) (by decide) (fun r25 s26 hr27 hp28 => ?_)
      obtain ⟨rfl, q29, q30⟩ := hp28
      exact zt_iret hX hR dX12_cell_92 ⟨by omega, by omega⟩ ⟨hI12, hF14, by omega, by omega⟩
    · refine zt_tsOut (tgt := 93) hX dX12_cell_21 ⟨by omega, by omega⟩ c15 (by decide) ?_
      refine zt_iconst (pc' := 94) hX dX12_cell_93 rfl ?_
      exact zt_iret hX hR dX12_cell_94 ⟨by omega, by omega⟩ ⟨hI12, hF14, by omega, by omega⟩
  · refine zt_iconst (pc' := 15) hX dX12_cell_14 rfl ?_
    exact zt_iret hX hR dX12_cell_15 ⟨by omega, by omega⟩ ⟨hI, hF, by omega, by omega⟩

set_option maxRecDepth 100000 in
set_option maxHeartbeats 4000000 in
theorem zc_X12_slack (l : Launch) (E : zEN) (σ : zSto) (hI : zInv σ) (a1_ : Int) (ha1_ : -2147483648 ≤ a1_ ∧ a1_ ≤ 2147483647) (a2_ : Int) (ha2_ : -2147483648 ≤ a2_ ∧ a2_ ≤ 2147483647) (hW : zWF σ) : zCt l E yX12_slack cX12_slack 4 (some .long) 6 zNC zNC 0 0 σ [.ref (E.1 + 164), .int (zI a1_), .int (zI a2_)] (fun r σ' => zInv σ' ∧ zGM σ σ' ∧ -9223372036854775808 ≤ r ∧ r ≤ 9223372036854775807) := by
  refine zCt_of2 [some (.ref (E.1 + 164)), some (.int (zI a1_)), some (.int (zI a2_)), none] (by decide +kernel) (Nat.le_of_ble_eq_true rfl) rfl ?_
  intro X hE hX hR hL hN
  subst hE
  have hX : zok X cX12_slack RX12 6 := hX
  have hF := zGM_rf σ
  refine zt_aload_n (pc' := 1) hX dX12_slack_0 rfl rfl ?_
  refine zt_iload_n (pc' := 2) hX dX12_slack_1 rfl rfl ?_
  refine zt_iload_n (pc' := 3) hX dX12_slack_2 rfl rfl ?_
  refine zt_cVi (pc' := 6) hX dX12_slack_3 rfl zm_yX12_cellAt zw_44_11 zc_164 (by decide) zs_46 (q := (RX12, TX12, 108)) rfl rfl (zc_X12_cellAt _ _ σ hI a1_ ⟨by omega, by omega⟩ a2_ ⟨by omega, by omega⟩) rfl rfl (Nat.le_of_ble_eq_true rfl) (by decide) (fun r1 s2 hr3 hp4 => ?_)
  obtain ⟨rfl, q5, q6⟩ := hp4
  refine zt_istore_n (pc' := 7) (lv' := [some (.ref (X.1.1 + 164)), some (.int (zI a1_)), some (.int (zI a2_)), some (.int (zI r1))]) hX dX12_slack_6 rfl hL (by decide) rfl ?_
  refine zt_iload_n (pc' := 8) hX dX12_slack_7 rfl rfl ?_
  refine zt_iconst (pc' := 9) hX dX12_slack_8 rfl ?_
  refine zt_icne (pc' := 12) (tgt := 16) hX dX12_slack_9 rfl (by decide) ⟨by omega, by omega⟩ ⟨by omega, by omega⟩ (fun c7 => ?_) (fun c7 => ?_)
  · refine zt_aload_n (pc' := 17) hX dX12_slack_16 rfl rfl ?_
    refine zt_cVv (pc' := 20) hX dX12_slack_17 rfl zm_yX12_laysLoads zw_44_15 zc_164 (by decide) zs_46 (q := (RX12, TX12, 108)) rfl rfl (zc_X12_laysLoads _ _ σ hI (zWF_M hW hF)) rfl rfl (Nat.le_of_ble_eq_true rfl) (by decide) (fun r8 s9 hr10 hp11 => ?_)
    obtain ⟨hI12, hF13⟩ := hp11
    have hF14 := zGM_tr hF hF13
    refine zt_aload_n (pc' := 21) hX dX12_slack_20 rfl rfl ?_
    refine zt_aload_n (pc' := 22) hX dX12_slack_21 rfl rfl ?_
    refine zt_cVi (pc' := 25) hX dX12_slack_22 rfl zm_yX12_holders zw_38_12 zc_164 (by decide) zs_46 (q := (RX12, TX12, 108)) rfl rfl (zc_X12_holders _ _ s9 hI12 (zWF_M hW hF14)) rfl rfl (Nat.le_of_ble_eq_true rfl) (by decide) (fun r15 s16 hr17 hp18 => ?_)
    obtain ⟨hI19, hF20, q21, q22⟩ := hp18
    have hF23 := zGM_tr hF14 hF20
    refine zt_iload_n (pc' := 26) hX dX12_slack_25 rfl rfl ?_
    refine zt_cVi (pc' := 29) hX dX12_slack_26 rfl zm_yX12_slackBy zw_46_3 zc_164 (by decide) zs_46 (q := (RX12, TX12, 108)) rfl rfl (zc_X12_slackBy _ _ s16 hI19 r15 ⟨by omega, by omega⟩ r1 ⟨by omega, by omega⟩) rfl rfl (Nat.le_of_ble_eq_true rfl) (by decide) (fun r24 s25 hr26 hp27 => ?_)
    obtain ⟨rfl, q28, q29⟩ := hp27
    refine zt_i2l (pc' := 30) hX dX12_slack_29 rfl ⟨by omega, by omega⟩ ?_
    exact zt_lret hX hR dX12_slack_30 ⟨by omega, by omega⟩ ⟨hI19, hF23, by omega, by omega⟩
  · refine zt_ldc2 (pc' := 15) (x := (-1000000000000000)) hX dX12_slack_12 rfl zw_46_2 (by decide +kernel) ?_
    exact zt_lret hX hR dX12_slack_15 ⟨by omega, by omega⟩ ⟨hI, hF, by omega, by omega⟩

set_option maxRecDepth 100000 in
set_option maxHeartbeats 4000000 in
theorem zc_X12_person (l : Launch) (E : zEN) (σ : zSto) (hI : zInv σ) (a1_ : Int) (ha1_ : -2147483648 ≤ a1_ ∧ a1_ ≤ 2147483647) (a2_ : Int) (ha2_ : -2147483648 ≤ a2_ ∧ a2_ ≤ 2147483647) (hW : zWF σ) : zCt l E yX12_person cX12_person 3 (some .int) 5 zNC zNC 0 0 σ [.ref (E.1 + 164), .int (zI a1_), .int (zI a2_)] (fun r σ' => zInv σ' ∧ zGM σ σ' ∧ -2147483648 ≤ r ∧ r ≤ 2147483647) := by
  refine zCt_of2 [some (.ref (E.1 + 164)), some (.int (zI a1_)), some (.int (zI a2_))] (by decide +kernel) (Nat.le_of_ble_eq_true rfl) rfl ?_
  intro X hE hX hR hL hN
  subst hE
  have hX : zok X cX12_person RX12 5 := hX
  have hF := zGM_rf σ
  refine zt_aload_n (pc' := 1) hX dX12_person_0 rfl rfl ?_
  refine zt_iload_n (pc' := 2) hX dX12_person_1 rfl rfl ?_
  refine zt_cVz (pc' := 5) hX dX12_person_2 rfl zm_yX12_isPerson zw_41_16 zc_164 (by decide) zs_46 (q := (RX12, TX12, 108)) rfl rfl (zc_X12_isPerson _ _ σ hI a1_ ⟨by omega, by omega⟩) rfl rfl (Nat.le_of_ble_eq_true rfl) (by decide) (fun r1 s2 hr3 hp4 => ?_)
  obtain ⟨rfl, q5, q6, z7⟩ := hp4
  refine zt_ifne (pc' := 8) (tgt := 10) hX dX12_person_5 rfl (by decide) ⟨by omega, by omega⟩ (fun c8 => ?_) (fun c8 => ?_)
  · refine zt_iload_n (pc' := 11) hX dX12_person_10 rfl rfl ?_
    rcases (show a2_ = 0 ∨ a2_ = 1 ∨ a2_ = 2 ∨ a2_ = 3 ∨ a2_ = 4 ∨ a2_ = 5 ∨ (a2_ < 0 ∨ 5 < a2_) by omega) with c9 | c9 | c9 | c9 | c9 | c9 | c9
    · refine zt_tsIn (v := 0) (tgt := 48) hX dX12_person_11 c9 (by decide) (by decide) (by decide) rfl (by decide) ?_
      refine zt_aload_n (pc' := 49) hX dX12_person_48 rfl rfl ?_
      refine zt_iload_n (pc' := 50) hX dX12_person_49 rfl rfl ?_
      refine zt_cVi (pc' := 53) hX dX12_person_50 rfl zm_yX12_placeOf zw_40_0 zc_164 (by decide) zs_46 (q := (RX12, TX12, 108)) rfl rfl (zc_X12_placeOf _ _ σ hI a1_ ⟨by omega, by omega⟩) rfl rfl (Nat.le_of_ble_eq_true rfl) (by decide) (fun r10 s11 hr12 hp13 => ?_)
      obtain ⟨rfl, q14, q15⟩ := hp13
      refine zt_bipush (pc' := 55) hX dX12_person_53 rfl (by decide) (by decide) ?_
      refine zt_irem (pc' := 56) hX dX12_person_55 rfl ⟨by omega, by omega⟩ ⟨by omega, by omega⟩ (fun r16 er16 br16 nr16 => ?_)
      rw [ztm_p (by omega)] at er16
      exact zt_iret hX hR dX12_person_56 ⟨by omega, by omega⟩ ⟨hI, hF, by omega, by omega⟩
    · refine zt_tsIn (v := 1) (tgt := 57) hX dX12_person_11 c9 (by decide) (by decide) (by decide) rfl (by decide) ?_
      refine zt_aload_n (pc' := 58) hX dX12_person_57 rfl rfl ?_
      refine zt_iload_n (pc' := 59) hX dX12_person_58 rfl rfl ?_
      refine zt_cVi (pc' := 62) hX dX12_person_59 rfl zm_yX12_placeOf zw_40_0 zc_164 (by decide) zs_46 (q := (RX12, TX12, 108)) rfl rfl (zc_X12_placeOf _ _ σ hI a1_ ⟨by omega, by omega⟩) rfl rfl (Nat.le_of_ble_eq_true rfl) (by decide) (fun r17 s18 hr19 hp20 => ?_)
      obtain ⟨rfl, q21, q22⟩ := hp20
      refine zt_bipush (pc' := 64) hX dX12_person_62 rfl (by decide) (by decide) ?_
      refine zt_idiv (pc' := 65) hX dX12_person_64 rfl ⟨by omega, by omega⟩ ⟨by omega, by omega⟩ (fun r23 er23 br23 => ?_)
      rw [ztd_p (by omega)] at er23
      exact zt_iret hX hR dX12_person_65 ⟨by omega, by omega⟩ ⟨hI, hF, by omega, by omega⟩
    · refine zt_tsIn (v := 2) (tgt := 66) hX dX12_person_11 c9 (by decide) (by decide) (by decide) rfl (by decide) ?_
      refine zt_aload_n (pc' := 67) hX dX12_person_66 rfl rfl ?_
      refine zt_iload_n (pc' := 68) hX dX12_person_67 rfl rfl ?_
      refine zt_cVi (pc' := 71) hX dX12_person_68 rfl zm_yX12_strengthOf zw_39_11 zc_164 (by decide) zs_46 (q := (RX12, TX12, 108)) rfl rfl (zc_X12_strengthOf _ _ σ hI a1_ ⟨by omega, by omega⟩) rfl rfl (Nat.le_of_ble_eq_true rfl) (by decide) (fun r24 s25 hr26 hp27 => ?_)
      obtain ⟨rfl, q28, q29, z30⟩ := hp27
      exact zt_iret hX hR dX12_person_71 ⟨by omega, by omega⟩ ⟨hI, hF, by omega, by omega⟩
    · refine zt_tsIn (v := 3) (tgt := 72) hX dX12_person_11 c9 (by decide) (by decide) (by decide) rfl (by decide) ?_
      refine zt_aload_n (pc' := 73) hX dX12_person_72 rfl rfl ?_
      refine zt_iload_n (pc' := 74) hX dX12_person_73 rfl rfl ?_
      refine zt_cVi (pc' := 77) hX dX12_person_74 rfl zm_yX12_tiredOf zw_39_16 zc_164 (by decide) zs_46 (q := (RX12, TX12, 108)) rfl rfl (zc_X12_tiredOf _ _ σ hI a1_ ⟨by omega, by omega⟩) rfl rfl (Nat.le_of_ble_eq_true rfl) (by decide) (fun r31 s32 hr33 hp34 => ?_)
      obtain ⟨rfl, q35, q36⟩ := hp34
      exact zt_iret hX hR dX12_person_77 ⟨by omega, by omega⟩ ⟨hI, hF, by omega, by omega⟩
    · refine zt_tsIn (v := 4) (tgt := 78) hX dX12_person_11 c9 (by decide) (by decide) (by decide) rfl (by decide) ?_
      refine zt_aload_n (pc' := 79) hX dX12_person_78 rfl rfl ?_
      refine zt_cVi (pc' := 82) hX dX12_person_79 rfl zm_yX12_holders zw_38_12 zc_164 (by decide) zs_46 (q := (RX12, TX12, 108)) rfl rfl (zc_X12_holders _ _ σ hI (zWF_M hW hF)) rfl rfl (Nat.le_of_ble_eq_true rfl) (by decide) (fun r37 s38 hr39 hp40 => ?_)
      obtain ⟨hI41, hF42, q43, q44⟩ := hp40
      have hF45 := zGM_tr hF hF42
      refine zt_iload_n (pc' := 83) hX dX12_person_82 rfl rfl ?_
      refine zt_ishr (pc' := 84) hX dX12_person_83 rfl (fun r46 zr46 lr46 ur46 => ?_)
      clear zr46
      refine zt_iconst (pc' := 85) hX dX12_person_84 rfl ?_
      refine zt_iandm (pc' := 86) hX dX12_person_85 rfl 1 (by decide +kernel) (by decide) (fun r47 er47 lr47 ur47 => ?_)
      have ur47 : r47 ≤ 1 := by omega
      exact zt_iret hX hR dX12_person_86 ⟨by omega, by omega⟩ ⟨hI41, hF45, by omega, by omega⟩
    · refine zt_tsIn (v := 5) (tgt := 87) hX dX12_person_11 c9 (by decide) (by decide) (by decide) rfl (by decide) ?_
      refine zt_aload_n (pc' := 88) hX dX12_person_87 rfl rfl ?_
      refine zt_iload_n (pc' := 89) hX dX12_person_88 rfl rfl ?_
      refine zt_cVz (pc' := 92) hX dX12_person_89 rfl zm_yX12_isAtRest zw_38_16 zc_164 (by decide) zs_46 (q := (RX12, TX12, 108)) rfl rfl (zc_X12_isAtRest _ _ σ hI a1_ ⟨by omega, by omega⟩) rfl rfl (Nat.le_of_ble_eq_true rfl) (by decide) (fun r48 s49 hr50 hp51 => ?_)
      obtain ⟨rfl, q52, q53⟩ := hp51
      refine zt_ifeq (pc' := 95) (tgt := 99) hX dX12_person_92 rfl (by decide) ⟨by omega, by omega⟩ (fun c54 => ?_) (fun c54 => ?_)
      · refine zt_iconst (pc' := 100) hX dX12_person_99 rfl ?_
        exact zt_iret hX hR dX12_person_100 ⟨by omega, by omega⟩ ⟨hI, hF, by omega, by omega⟩
      · refine zt_iconst (pc' := 96) hX dX12_person_95 rfl ?_
        refine zt_goto (tgt := 100) hX dX12_person_96 (by decide) ?_
        exact zt_iret hX hR dX12_person_100 ⟨by omega, by omega⟩ ⟨hI, hF, by omega, by omega⟩
    · refine zt_tsOut (tgt := 101) hX dX12_person_11 ⟨by omega, by omega⟩ c9 (by decide) ?_
      refine zt_iconst (pc' := 102) hX dX12_person_101 rfl ?_
      exact zt_iret hX hR dX12_person_102 ⟨by omega, by omega⟩ ⟨hI, hF, by omega, by omega⟩
  · refine zt_iconst (pc' := 9) hX dX12_person_8 rfl ?_
    exact zt_iret hX hR dX12_person_9 ⟨by omega, by omega⟩ ⟨hI, hF, by omega, by omega⟩

set_option maxRecDepth 100000 in
set_option maxHeartbeats 4000000 in
theorem zc_X12_later (l : Launch) (E : zEN) (σ : zSto) (hI : zInv σ) (a1_ : Int) (ha1_ : -2147483648 ≤ a1_ ∧ a1_ ≤ 2147483647) (a2_ : Int) (ha2_ : -2147483648 ≤ a2_ ∧ a2_ ≤ 2147483647) (hW : zWF σ) : zCt l E yX12_later cX12_later 4 (some .int) 8 zNC zNC 0 0 σ [.ref (E.1 + 164), .int (zI a1_), .int (zI a2_)] (fun r σ' => zInv σ' ∧ zGM σ σ' ∧ -2147483648 ≤ r ∧ r ≤ 2147483647) := by
  refine zCt_of2 [some (.ref (E.1 + 164)), some (.int (zI a1_)), some (.int (zI a2_)), none] (by decide +kernel) (Nat.le_of_ble_eq_true rfl) rfl ?_
  intro X hE hX hR hL hN
  subst hE
  have hX : zok X cX12_later RX12 8 := hX
  have hF := zGM_rf σ
  refine zt_aload_n (pc' := 1) hX dX12_later_0 rfl rfl ?_
  refine zt_iload_n (pc' := 2) hX dX12_later_1 rfl rfl ?_
  refine zt_iconst (pc' := 3) hX dX12_later_2 rfl ?_
  refine zt_bipush (pc' := 5) hX dX12_later_3 rfl (by decide) (by decide) ?_
  refine zt_cVz (pc' := 8) hX dX12_later_5 rfl zm_yX12_isAhead zw_49_17 zc_164 (by decide) zs_46 (q := (RX12, TX12, 108)) rfl rfl (zc_X12_isAhead _ _ σ hI a1_ ⟨by omega, by omega⟩ 0 ⟨by omega, by omega⟩ 60 ⟨by omega, by omega⟩) rfl rfl (Nat.le_of_ble_eq_true rfl) (by decide) (fun r1 s2 hr3 hp4 => ?_)
  obtain ⟨rfl, q5, q6, z7⟩ := hp4
  refine zt_ifeq (pc' := 11) (tgt := 23) hX dX12_later_8 rfl (by decide) ⟨by omega, by omega⟩ (fun c8 => ?_) (fun c8 => ?_)
  · refine zt_iconst (pc' := 24) hX dX12_later_23 rfl ?_
    exact zt_iret hX hR dX12_later_24 ⟨by omega, by omega⟩ ⟨hI, hF, by omega, by omega⟩
  · refine zt_iload_n (pc' := 12) hX dX12_later_11 rfl rfl ?_
    refine zt_i2l (pc' := 13) hX dX12_later_12 rfl ⟨by omega, by omega⟩ ?_
    refine zt_lconst (pc' := 14) (y := 0) hX dX12_later_13 rfl (by decide +kernel) ?_
    refine zt_ldc2 (pc' := 17) (x := 2) hX dX12_later_14 rfl zw_47_21 (by decide +kernel) ?_
    refine zt_cSz (pc' := 20) hX dX12_later_17 rfl zm_yX12_isIn zw_27_7 (zc_X12_isIn _ _ σ  a2_ ⟨by omega, by omega⟩ 0 ⟨by omega, by omega⟩ 2 ⟨by omega, by omega⟩) rfl rfl (Nat.le_of_ble_eq_true rfl) (by decide) (fun r9 s10 hr11 hp12 => ?_)
    obtain ⟨rfl, q13, q14, z15⟩ := hp12
    refine zt_ifne (pc' := 23) (tgt := 25) hX dX12_later_20 rfl (by decide) ⟨by omega, by omega⟩ (fun c16 => ?_) (fun c16 => ?_)
    · refine zt_aload_n (pc' := 26) hX dX12_later_25 rfl rfl ?_
      refine zt_cVv (pc' := 29) hX dX12_later_26 rfl zm_yX12_putsAside zw_49_21 zc_164 (by decide) zs_46 (q := (RX12, TX12, 108)) rfl rfl (zc_X12_putsAside _ _ σ hI ) rfl rfl (Nat.le_of_ble_eq_true rfl) (by decide) (fun r17 s18 hr19 hp20 => ?_)
      obtain ⟨hI21, hF22⟩ := hp20
      have hF23 := zGM_tr hF hF22
      refine zt_aload_n (pc' := 30) hX dX12_later_29 rfl rfl ?_
      refine zt_iload_n (pc' := 31) hX dX12_later_30 rfl rfl ?_
      refine zt_cVv (pc' := 34) hX dX12_later_31 rfl zm_yX12_hoursGo zw_50_3 zc_164 (by decide) zs_46 (q := (RX12, TX12, 108)) rfl rfl (zc_X12_hoursGo _ _ s18 hI21 a1_ ⟨by omega, by omega⟩ (zWF_M hW hF23)) rfl rfl (Nat.le_of_ble_eq_true rfl) (by decide) (fun r24 s25 hr26 hp27 => ?_)
      obtain ⟨hI28, hF29⟩ := hp27
      have hF30 := zGM_tr hF23 hF29
      refine zt_iload_n (pc' := 35) hX dX12_later_34 rfl rfl ?_
      have J_61_36 : ∀ (y31 : Int) (s34 : zSto), -2147483648 ≤ y31 → y31 ≤ 2147483647 → zInv s34 → zGM σ s34 → zF X s34 61 [some (.ref (X.1.1 + 164)), none, none, none] [.int (zI y31)] := by
        intro y31 s34 h32 h33 hI35 hF36
        refine zt_istore_n (pc' := 62) (lv' := [some (.ref (X.1.1 + 164)), none, none, some (.int (zI y31))]) hX dX12_later_61 rfl hL (by decide) rfl ?_
        refine zt_aload_n (pc' := 63) hX dX12_later_62 rfl rfl ?_
        refine zt_cVv (pc' := 66) hX dX12_later_63 rfl zm_yX12_takesBack zw_50_19 zc_164 (by decide) zs_46 (q := (RX12, TX12, 108)) rfl rfl (zc_X12_takesBack _ _ s34 hI35 ) rfl rfl (Nat.le_of_ble_eq_true rfl) (by decide) (fun r38 s39 hr40 hp41 => ?_)
        obtain ⟨hI42, hF43⟩ := hp41
        have hF44 := zGM_tr hF36 hF43
        refine zt_iload_n (pc' := 67) hX dX12_later_66 rfl rfl ?_
        exact zt_iret hX hR dX12_later_67 ⟨by omega, by omega⟩ ⟨hI42, hF44, by omega, by omega⟩
      refine zt_ifne (pc' := 38) (tgt := 45) hX dX12_later_35 rfl (by decide) ⟨by omega, by omega⟩ (fun c45 => ?_) (fun c45 => ?_)
      · refine zt_iload_n (pc' := 46) hX dX12_later_45 rfl rfl ?_
        refine zt_iconst (pc' := 47) hX dX12_later_46 rfl ?_
        refine zt_icne (pc' := 50) (tgt := 57) hX dX12_later_47 rfl (by decide) ⟨by omega, by omega⟩ ⟨by omega, by omega⟩ (fun c46 => ?_) (fun c46 => ?_)
        · refine zt_aload_n (pc' := 58) hX dX12_later_57 rfl rfl ?_
          refine zt_cVi (pc' := 61) hX dX12_later_58 rfl zm_yX12_tiredAll zw_50_15 zc_164 (by decide) zs_46 (q := (RX12, TX12, 108)) rfl rfl (zc_X12_tiredAll _ _ s25 hI28 ) rfl rfl (Nat.le_of_ble_eq_true rfl) (by decide) (fun r47 s48 hr49 hp50 => ?_)
          obtain ⟨rfl, q51, q52⟩ := hp50
          refine zt_mask [true, false, false, false] rfl ?_
          exact J_61_36 r47 s25 (by omega) (by omega) hI28 hF30
        · refine zt_aload_n (pc' := 51) hX dX12_later_50 rfl rfl ?_
          refine zt_cVi (pc' := 54) hX dX12_later_51 rfl zm_yX12_holders zw_38_12 zc_164 (by decide) zs_46 (q := (RX12, TX12, 108)) rfl rfl (zc_X12_holders _ _ s25 hI28 (zWF_M hW hF30)) rfl rfl (Nat.le_of_ble_eq_true rfl) (by decide) (fun r53 s54 hr55 hp56 => ?_)
          obtain ⟨hI57, hF58, q59, q60⟩ := hp56
          have hF61 := zGM_tr hF30 hF58
          refine zt_goto (tgt := 61) hX dX12_later_54 (by decide) ?_
          refine zt_mask [true, false, false, false] rfl ?_
          exact J_61_36 r53 s54 (by omega) (by omega) hI57 hF61
      · refine zt_aload_n (pc' := 39) hX dX12_later_38 rfl rfl ?_
        refine zt_cVi (pc' := 42) hX dX12_later_39 rfl zm_yX12_crackedMany zw_38_8 zc_164 (by decide) zs_46 (q := (RX12, TX12, 108)) rfl rfl (zc_X12_crackedMany _ _ s25 hI28 ) rfl rfl (Nat.le_of_ble_eq_true rfl) (by decide) (fun r62 s63 hr64 hp65 => ?_)
        obtain ⟨rfl, q66, q67⟩ := hp65
        refine zt_goto (tgt := 61) hX dX12_later_42 (by decide) ?_
        refine zt_mask [true, false, false, false] rfl ?_
        exact J_61_36 r62 s25 (by omega) (by omega) hI28 hF30
    · refine zt_iconst (pc' := 24) hX dX12_later_23 rfl ?_
      exact zt_iret hX hR dX12_later_24 ⟨by omega, by omega⟩ ⟨hI, hF, by omega, by omega⟩

set_option maxRecDepth 100000 in
set_option maxHeartbeats 4000000 in
theorem zc_X12_next (l : Launch) (E : zEN) (σ : zSto) (hI : zInv σ) (hW : zWF σ) : zCt l E yX12_next cX12_next 3 (some .int) 7 zNC zNC 0 0 σ [.ref (E.1 + 164)] (fun r σ' => zInv σ' ∧ zGM σ σ' ∧ -2147483648 ≤ r ∧ r ≤ 2147483647) := by
  refine zCt_of2 [some (.ref (E.1 + 164)), none, none] (by decide +kernel) (Nat.le_of_ble_eq_true rfl) rfl ?_
  intro X hE hX hR hL hN
  subst hE
  have hX : zok X cX12_next RX12 7 := hX
  have hF := zGM_rf σ
  refine zt_aload_n (pc' := 1) hX dX12_next_0 rfl rfl ?_
  have b1 := zv_46_50 hI zc_164
  refine zt_get (pc' := 4) (v := .int (zI (σ 164 50))) hX dX12_next_1 rfl zf_X12_375 (by decide) zc_164 zs_46 rfl ?_
  refine zt_ifne (pc' := 7) (tgt := 9) hX dX12_next_4 rfl (by decide) ⟨by omega, by omega⟩ (fun c2 => ?_) (fun c2 => ?_)
  · refine zt_iconst (pc' := 10) hX dX12_next_9 rfl ?_
    refine zt_istore_n (pc' := 11) (lv' := [some (.ref (X.1.1 + 164)), some (.int (zI (-1))), none]) hX dX12_next_10 rfl hL (by decide) rfl ?_
    refine zt_aload_n (pc' := 12) hX dX12_next_11 rfl rfl ?_
    refine zt_cVv (pc' := 15) hX dX12_next_12 rfl zm_yX12_putsAside zw_49_21 zc_164 (by decide) zs_46 (q := (RX12, TX12, 108)) rfl rfl (zc_X12_putsAside _ _ σ hI ) rfl rfl (Nat.le_of_ble_eq_true rfl) (by decide) (fun r3 s4 hr5 hp6 => ?_)
    obtain ⟨hI7, hF8⟩ := hp6
    have hF9 := zGM_tr hF hF8
    refine zt_iconst (pc' := 16) hX dX12_next_15 rfl ?_
    refine zt_istore_n (pc' := 17) (lv' := [some (.ref (X.1.1 + 164)), some (.int (zI (-1))), some (.int (zI 1))]) hX dX12_next_16 rfl hL (by decide) rfl ?_
    have L_17_18 : ∀ (N : Nat) (x10 : Int) (x13 : Int) (s16 : zSto), -1 ≤ x10 → x10 ≤ 60 → 1 ≤ x13 → x13 ≤ 61 → zInv s16 → zGM σ s16 → ((62 - x13).toNat) < N → zF X s16 17 [some (.ref (X.1.1 + 164)), some (.int (zI x10)), some (.int (zI x13))] [] := by
      intro N
      induction N with
      | zero =>
        intro x10 x13 s16 h11 h12 h14 h15 hI17 hF18 hm20
        exact absurd hm20 (Nat.not_lt_zero _)
      | succ N ih21 =>
        intro x10 x13 s16 h11 h12 h14 h15 hI17 hF18 hm20
        refine zt_iload_n (pc' := 18) hX dX12_next_17 rfl rfl ?_
        refine zt_bipush (pc' := 20) hX dX12_next_18 rfl (by decide) (by decide) ?_
        have J_59_21 : zF X s16 59 [some (.ref (X.1.1 + 164)), some (.int (zI x10)), none] [] := by
          refine zt_aload_n (pc' := 60) hX dX12_next_59 rfl rfl ?_
          refine zt_cVv (pc' := 63) hX dX12_next_60 rfl zm_yX12_takesBack zw_50_19 zc_164 (by decide) zs_46 (q := (RX12, TX12, 108)) rfl rfl (zc_X12_takesBack _ _ s16 hI17 ) rfl rfl (Nat.le_of_ble_eq_true rfl) (by decide) (fun r23 s24 hr25 hp26 => ?_)
          obtain ⟨hI27, hF28⟩ := hp26
          have hF29 := zGM_tr hF18 hF28
          refine zt_iload_n (pc' := 64) hX dX12_next_63 rfl rfl ?_
          exact zt_iret hX hR dX12_next_64 ⟨by omega, by omega⟩ ⟨hI27, hF29, by omega, by omega⟩
        refine zt_icgt (pc' := 23) (tgt := 59) hX dX12_next_20 rfl (by decide) ⟨by omega, by omega⟩ ⟨by omega, by omega⟩ (fun c30 => ?_) (fun c30 => ?_)
        · refine zt_mask [true, true, false] rfl ?_
          exact J_59_21
        · refine zt_iload_n (pc' := 24) hX dX12_next_23 rfl rfl ?_
          refine zt_iconst (pc' := 25) hX dX12_next_24 rfl ?_
          refine zt_icne (pc' := 28) (tgt := 59) hX dX12_next_25 rfl (by decide) ⟨by omega, by omega⟩ ⟨by omega, by omega⟩ (fun c31 => ?_) (fun c31 => ?_)
          · refine zt_mask [true, true, false] rfl ?_
            exact J_59_21
          · refine zt_aload_n (pc' := 29) hX dX12_next_28 rfl rfl ?_
            refine zt_get (pc' := 32) (v := .ref (X.1.1 + 203)) hX dX12_next_29 rfl zf_X12_130 (by decide) zc_164 zs_46 (zrf_of (zv_46_52 hI17 zc_164)) ?_
            refine zt_iconst (pc' := 33) hX dX12_next_32 rfl ?_
            refine zt_iald (pc' := 34) hX dX12_next_33 rfl (by decide) zc_203 zs_85 (by decide) ⟨by omega, by omega⟩ ?_
            rw [show Int.toNat 0 = 0 from rfl]
            have b33 := zv_85 hI17 zc_203 0
            refine zt_sipush (pc' := 37) hX dX12_next_34 rfl (by decide) (by decide) ?_
            refine zt_icge (pc' := 40) (tgt := 59) hX dX12_next_37 rfl (by decide) ⟨by omega, by omega⟩ ⟨by omega, by omega⟩ (fun c34 => ?_) (fun c34 => ?_)
            · refine zt_mask [true, true, false] rfl ?_
              exact J_59_21
            · refine zt_aload_n (pc' := 41) hX dX12_next_40 rfl rfl ?_
              refine zt_cVv (pc' := 44) hX dX12_next_41 rfl zm_yX12_hourGoes zw_50_7 zc_164 (by decide) zs_46 (q := (RX12, TX12, 108)) rfl rfl (zc_X12_hourGoes _ _ s16 hI17 (zWF_M hW hF18)) rfl rfl (Nat.le_of_ble_eq_true rfl) (by decide) (fun r35 s36 hr37 hp38 => ?_)
              obtain ⟨hI39, hF40⟩ := hp38
              have hF41 := zGM_tr hF18 hF40
              refine zt_aload_n (pc' := 45) hX dX12_next_44 rfl rfl ?_
              have b42 := zv_46_60 hI39 zc_164
              refine zt_get (pc' := 48) (v := .int (zI (s36 164 60))) hX dX12_next_45 rfl zf_X12_457 (by decide) zc_164 zs_46 rfl ?_
              have J_53_45 : ∀ (x43 : Int), -1 ≤ x43 → x43 ≤ 60 → zF X s36 53 [some (.ref (X.1.1 + 164)), some (.int (zI x43)), some (.int (zI x13))] [] := by
                intro x43 h44 h45
                refine zt_iinc (pc' := 56) (lv' := [some (.ref (X.1.1 + 164)), some (.int (zI x43)), some (.int (zI (x13 + 1)))]) hX dX12_next_53 rfl rfl hL (by decide) rfl ?_
                refine zt_goto (tgt := 17) hX dX12_next_56 (by decide) ?_
                exact ih21 x43 (x13 + 1) s36 (by omega) (by omega) (by omega) (by omega) hI39 hF41 (by omega)
              refine zt_ifle (pc' := 51) (tgt := 53) hX dX12_next_48 rfl (by decide) ⟨by omega, by omega⟩ (fun c47 => ?_) (fun c47 => ?_)
              · exact J_53_45 x10 (by omega) (by omega)
              · refine zt_iload_n (pc' := 52) hX dX12_next_51 rfl rfl ?_
                refine zt_istore_n (pc' := 53) (lv' := [some (.ref (X.1.1 + 164)), some (.int (zI x13)), some (.int (zI x13))]) hX dX12_next_52 rfl hL (by decide) rfl ?_
                exact J_53_45 x13 (by omega) (by omega)
    exact L_17_18 _ (-1) 1 s4 (by omega) (by omega) (by omega) (by omega) hI7 hF9 (Nat.lt_succ_self _)
  · refine zt_iconst (pc' := 8) hX dX12_next_7 rfl ?_
    exact zt_iret hX hR dX12_next_8 ⟨by omega, by omega⟩ ⟨hI, hF, by omega, by omega⟩

set_option maxRecDepth 100000 in
set_option maxHeartbeats 4000000 in
theorem zc_X12_lasts (l : Launch) (E : zEN) (σ : zSto) (hI : zInv σ) (a1_ : Int) (ha1_ : -2147483648 ≤ a1_ ∧ a1_ ≤ 2147483647) (hpre0 : σ 164 54 = 0) (hW : zWF σ) : zCt l E yX12_lasts cX12_lasts 5 (some .int) 7 zNC zNC 0 0 σ [.ref (E.1 + 164), .int (zI a1_)] (fun r σ' => zInv σ' ∧ zGL σ σ' ∧ -2147483648 ≤ r ∧ r ≤ 2147483647 ∧ (σ' 164 54 = 0)) := by
  refine zCt_of2 [some (.ref (E.1 + 164)), some (.int (zI a1_)), none, none, none] (by decide +kernel) (Nat.le_of_ble_eq_true rfl) rfl ?_
  intro X hE hX hR hL hN
  subst hE
  have hX : zok X cX12_lasts RX12 7 := hX
  have hF := zGL_rf σ
  have b1 := zv_46_54 hI zc_164
  refine zt_aload_n (pc' := 1) hX dX12_lasts_0 rfl rfl ?_
  refine zt_iload_n (pc' := 2) hX dX12_lasts_1 rfl rfl ?_
  refine zt_iconst (pc' := 3) hX dX12_lasts_2 rfl ?_
  refine zt_bipush (pc' := 5) hX dX12_lasts_3 rfl (by decide) (by decide) ?_
  refine zt_cVz (pc' := 8) hX dX12_lasts_5 rfl zm_yX12_isAhead zw_49_17 zc_164 (by decide) zs_46 (q := (RX12, TX12, 108)) rfl rfl (zc_X12_isAhead _ _ σ hI a1_ ⟨by omega, by omega⟩ 1 ⟨by omega, by omega⟩ 30 ⟨by omega, by omega⟩) rfl rfl (Nat.le_of_ble_eq_true rfl) (by decide) (fun r2 s3 hr4 hp5 => ?_)
  obtain ⟨rfl, q6, q7, z8⟩ := hp5
  refine zt_ifne (pc' := 11) (tgt := 13) hX dX12_lasts_8 rfl (by decide) ⟨by omega, by omega⟩ (fun c9 => ?_) (fun c9 => ?_)
  · refine zt_iconst (pc' := 14) hX dX12_lasts_13 rfl ?_
    refine zt_istore_n (pc' := 15) (lv' := [some (.ref (X.1.1 + 164)), some (.int (zI a1_)), some (.int (zI (-1))), none, none]) hX dX12_lasts_14 rfl hL (by decide) rfl ?_
    refine zt_aload_n (pc' := 16) hX dX12_lasts_15 rfl rfl ?_
    refine zt_cVv (pc' := 19) hX dX12_lasts_16 rfl zm_yX12_putsAside zw_49_21 zc_164 (by decide) zs_46 (q := (RX12, TX12, 108)) rfl rfl (zc_X12_putsAside _ _ σ hI ) rfl rfl (Nat.le_of_ble_eq_true rfl) (by decide) (fun r10 s11 hr12 hp13 => ?_)
    obtain ⟨hI14, hF15⟩ := hp13
    have e16 := hF15.2.2
    have hF17 := zGL_tr hF (zGL_of hF15)
    have b18 := zv_46_54 hI14 zc_164
    refine zt_iconst (pc' := 20) hX dX12_lasts_19 rfl ?_
    refine zt_istore_n (pc' := 21) (lv' := [some (.ref (X.1.1 + 164)), some (.int (zI a1_)), some (.int (zI (-1))), some (.int (zI 0)), none]) hX dX12_lasts_20 rfl hL (by decide) rfl ?_
    have L_21_27 : ∀ (N : Nat) (x19 : Int) (x22 : Int) (s25 : zSto), -1 ≤ x19 → x19 ≤ 99 → 0 ≤ x22 → x22 ≤ 100 → zInv s25 → zGL σ s25 → ((101 - x22).toNat) < N → zF X s25 21 [some (.ref (X.1.1 + 164)), some (.int (zI a1_)), some (.int (zI x19)), some (.int (zI x22)), none] [] := by
      intro N
      induction N with
      | zero =>
        intro x19 x22 s25 h20 h21 h23 h24 hI26 hF27 hm29
        exact absurd hm29 (Nat.not_lt_zero _)
      | succ N ih30 =>
        intro x19 x22 s25 h20 h21 h23 h24 hI26 hF27 hm29
        have b31 := zv_46_54 hI26 zc_164
        refine zt_iload_n (pc' := 22) hX dX12_lasts_21 rfl rfl ?_
        refine zt_bipush (pc' := 24) hX dX12_lasts_22 rfl (by decide) (by decide) ?_
        have J_82_31 : zF X s25 82 [some (.ref (X.1.1 + 164)), none, some (.int (zI x19)), none, none] [] := by
          refine zt_aload_n (pc' := 83) hX dX12_lasts_82 rfl rfl ?_
          refine zt_iconst (pc' := 84) hX dX12_lasts_83 rfl ?_
          refine zt_put (pc' := 87) (x := 0) hX dX12_lasts_84 rfl zf_X12_388 (by decide) zc_164 zs_46 (fun q hq => by cases hq; rfl) rfl rfl rfl ?_
          generalize hs34 : zset s25 164 54 0 = s33
          have hI35 : zInv s33 := hs34 ▸ zp_46_54 hI26 zc_164 ⟨by omega, by omega⟩
          have hF36 : zGL σ s33 := hs34 ▸ zGL_set hF27 zc_164 (by decide) zk_46 (Or.inr (by decide)) (by decide)
          have e37 : s33 164 54 = 0 := by rw [← hs34]; exact zset_s
          refine zt_aload_n (pc' := 88) hX dX12_lasts_87 rfl rfl ?_
          refine zt_cVv (pc' := 91) hX dX12_lasts_88 rfl zm_yX12_takesBack zw_50_19 zc_164 (by decide) zs_46 (q := (RX12, TX12, 108)) rfl rfl (zc_X12_takesBack _ _ s33 hI35 ) rfl rfl (Nat.le_of_ble_eq_true rfl) (by decide) (fun r38 s39 hr40 hp41 => ?_)
          obtain ⟨hI42, hF43⟩ := hp41
          have e44 := hF43.2.2
          have hF45 := zGL_tr hF36 (zGL_of hF43)
          have b46 := zv_46_54 hI42 zc_164
          refine zt_iload_n (pc' := 92) hX dX12_lasts_91 rfl rfl ?_
          exact zt_iret hX hR dX12_lasts_92 ⟨by omega, by omega⟩ ⟨hI42, hF45, by omega, by omega, by omega⟩
        refine zt_icgt (pc' := 27) (tgt := 82) hX dX12_lasts_24 rfl (by decide) ⟨by omega, by omega⟩ ⟨by omega, by omega⟩ (fun c47 => ?_) (fun c47 => ?_)
        · refine zt_mask [true, false, true, false, false] rfl ?_
          exact J_82_31
        · refine zt_iload_n (pc' := 28) hX dX12_lasts_27 rfl rfl ?_
          refine zt_iconst (pc' := 29) hX dX12_lasts_28 rfl ?_
          refine zt_icne (pc' := 32) (tgt := 82) hX dX12_lasts_29 rfl (by decide) ⟨by omega, by omega⟩ ⟨by omega, by omega⟩ (fun c48 => ?_) (fun c48 => ?_)
          · refine zt_mask [true, false, true, false, false] rfl ?_
            exact J_82_31
          · refine zt_aload_n (pc' := 33) hX dX12_lasts_32 rfl rfl ?_
            refine zt_iload_n (pc' := 34) hX dX12_lasts_33 rfl rfl ?_
            refine zt_put (pc' := 37) (x := x22) hX dX12_lasts_34 rfl zf_X12_388 (by decide) zc_164 zs_46 (fun q hq => by cases hq; rfl) rfl rfl rfl ?_
            generalize hs50 : zset s25 164 54 x22 = s49
            have hI51 : zInv s49 := hs50 ▸ zp_46_54 hI26 zc_164 ⟨by omega, by omega⟩
            have hF52 : zGL σ s49 := hs50 ▸ zGL_set hF27 zc_164 (by decide) zk_46 (Or.inr (by decide)) (by decide)
            have e53 : s49 164 54 = x22 := by rw [← hs50]; exact zset_s
            refine zt_iconst (pc' := 38) hX dX12_lasts_37 rfl ?_
            refine zt_istore (pc' := 40) (lv' := [some (.ref (X.1.1 + 164)), some (.int (zI a1_)), some (.int (zI x19)), some (.int (zI x22)), some (.int (zI 0))]) hX dX12_lasts_38 rfl hL (by decide) rfl ?_
            have L_40_59 : ∀ (N : Nat) (x54 : Int) (s57 : zSto), 0 ≤ x54 → x54 ≤ 100 → zInv s57 → zGL σ s57 → ((101 - x54).toNat) < N → zF X s57 40 [some (.ref (X.1.1 + 164)), some (.int (zI a1_)), some (.int (zI x19)), some (.int (zI x22)), some (.int (zI x54))] [] := by
              intro N
              induction N with
              | zero =>
                intro x54 s57 h55 h56 hI58 hF59 hm61
                exact absurd hm61 (Nat.not_lt_zero _)
              | succ N ih62 =>
                intro x54 s57 h55 h56 hI58 hF59 hm61
                have b63 := zv_46_54 hI58 zc_164
                refine zt_iload (pc' := 42) hX dX12_lasts_40 rfl rfl ?_
                refine zt_iload_n (pc' := 43) hX dX12_lasts_42 rfl rfl ?_
                have J_63_63 : zF X s57 63 [some (.ref (X.1.1 + 164)), some (.int (zI a1_)), some (.int (zI x19)), some (.int (zI x22)), none] [] := by
                  refine zt_aload_n (pc' := 64) hX dX12_lasts_63 rfl rfl ?_
                  have b65 := zv_46_60 hI58 zc_164
                  refine zt_get (pc' := 67) (v := .int (zI (s57 164 60))) hX dX12_lasts_64 rfl zf_X12_457 (by decide) zc_164 zs_46 rfl ?_
                  have J_72_68 : ∀ (x66 : Int), -1 ≤ x66 → x66 ≤ 99 → zF X s57 72 [some (.ref (X.1.1 + 164)), some (.int (zI a1_)), some (.int (zI x66)), some (.int (zI x22)), none] [] := by
                    intro x66 h67 h68
                    refine zt_aload_n (pc' := 73) hX dX12_lasts_72 rfl rfl ?_
                    refine zt_cVv (pc' := 76) hX dX12_lasts_73 rfl zm_yX12_triesAnew zw_51_20 zc_164 (by decide) zs_46 (q := (RX12, TX12, 108)) rfl rfl (zc_X12_triesAnew _ _ s57 hI58 ) rfl rfl (Nat.le_of_ble_eq_true rfl) (by decide) (fun r70 s71 hr72 hp73 => ?_)
                    obtain ⟨hI74, hF75⟩ := hp73
                    have e76 := hF75.2.2
                    have hF77 := zGL_tr hF59 (zGL_of hF75)
                    have b78 := zv_46_54 hI74 zc_164
                    refine zt_iinc (pc' := 79) (lv' := [some (.ref (X.1.1 + 164)), some (.int (zI a1_)), some (.int (zI x66)), some (.int (zI (x22 + 1))), none]) hX dX12_lasts_76 rfl rfl hL (by decide) rfl ?_
                    refine zt_goto (tgt := 21) hX dX12_lasts_79 (by decide) ?_
                    exact ih30 x66 (x22 + 1) s71 (by omega) (by omega) (by omega) (by omega) hI74 hF77 (by omega)
                  refine zt_ifne (pc' := 70) (tgt := 72) hX dX12_lasts_67 rfl (by decide) ⟨by omega, by omega⟩ (fun c79 => ?_) (fun c79 => ?_)
                  · exact J_72_68 x19 (by omega) (by omega)
                  · refine zt_iload_n (pc' := 71) hX dX12_lasts_70 rfl rfl ?_
                    refine zt_istore_n (pc' := 72) (lv' := [some (.ref (X.1.1 + 164)), some (.int (zI a1_)), some (.int (zI x22)), some (.int (zI x22)), none]) hX dX12_lasts_71 rfl hL (by decide) rfl ?_
                    exact J_72_68 x22 (by omega) (by omega)
                refine zt_icge (pc' := 46) (tgt := 63) hX dX12_lasts_43 rfl (by decide) ⟨by omega, by omega⟩ ⟨by omega, by omega⟩ (fun c80 => ?_) (fun c80 => ?_)
                · refine zt_mask [true, true, true, true, false] rfl ?_
                  exact J_63_63
                · refine zt_aload_n (pc' := 47) hX dX12_lasts_46 rfl rfl ?_
                  have b81 := zv_46_60 hI58 zc_164
                  refine zt_get (pc' := 50) (v := .int (zI (s57 164 60))) hX dX12_lasts_47 rfl zf_X12_457 (by decide) zc_164 zs_46 rfl ?_
                  refine zt_ifne (pc' := 53) (tgt := 63) hX dX12_lasts_50 rfl (by decide) ⟨by omega, by omega⟩ (fun c82 => ?_) (fun c82 => ?_)
                  · refine zt_mask [true, true, true, true, false] rfl ?_
                    exact J_63_63
                  · refine zt_aload_n (pc' := 54) hX dX12_lasts_53 rfl rfl ?_
                    refine zt_cVv (pc' := 57) hX dX12_lasts_54 rfl zm_yX12_hourGoes zw_50_7 zc_164 (by decide) zs_46 (q := (RX12, TX12, 108)) rfl rfl (zc_X12_hourGoes _ _ s57 hI58 (zWF_L hW hF59)) rfl rfl (Nat.le_of_ble_eq_true rfl) (by decide) (fun r83 s84 hr85 hp86 => ?_)
                    obtain ⟨hI87, hF88⟩ := hp86
                    have e89 := hF88.2.2
                    have hF90 := zGL_tr hF59 (zGL_of hF88)
                    have b91 := zv_46_54 hI87 zc_164
                    refine zt_iinc (pc' := 60) (lv' := [some (.ref (X.1.1 + 164)), some (.int (zI a1_)), some (.int (zI x19)), some (.int (zI x22)), some (.int (zI (x54 + 1)))]) hX dX12_lasts_57 rfl rfl hL (by decide) rfl ?_
                    refine zt_goto (tgt := 40) hX dX12_lasts_60 (by decide) ?_
                    exact ih62 (x54 + 1) s84 (by omega) (by omega) hI87 hF90 (by omega)
            exact L_40_59 _ 0 s49 (by omega) (by omega) hI51 hF52 (Nat.lt_succ_self _)
    exact L_21_27 _ (-1) 0 s11 (by omega) (by omega) (by omega) (by omega) hI14 hF17 (Nat.lt_succ_self _)
  · refine zt_iconst (pc' := 12) hX dX12_lasts_11 rfl ?_
    exact zt_iret hX hR dX12_lasts_12 ⟨by omega, by omega⟩ ⟨hI, hF, by omega, by omega, by omega⟩

set_option maxRecDepth 100000 in
set_option maxHeartbeats 4000000 in
theorem zc_X12_free (l : Launch) (E : zEN) (σ : zSto) (hI : zInv σ) (hW : zWF σ) : zCt l E yX12_free cX12_free 5 (some .int) 6 zNC zNC 0 0 σ [.ref (E.1 + 164)] (fun r σ' => zInv σ' ∧ zGM σ σ' ∧ -2147483648 ≤ r ∧ r ≤ 2147483647) := by
  refine zCt_of2 [some (.ref (E.1 + 164)), none, none, none, none] (by decide +kernel) (Nat.le_of_ble_eq_true rfl) rfl ?_
  intro X hE hX hR hL hN
  subst hE
  have hX : zok X cX12_free RX12 6 := hX
  have hF := zGM_rf σ
  refine zt_aload_n (pc' := 1) hX dX12_free_0 rfl rfl ?_
  have b1 := zv_46_50 hI zc_164
  refine zt_get (pc' := 4) (v := .int (zI (σ 164 50))) hX dX12_free_1 rfl zf_X12_375 (by decide) zc_164 zs_46 rfl ?_
  refine zt_ifne (pc' := 7) (tgt := 9) hX dX12_free_4 rfl (by decide) ⟨by omega, by omega⟩ (fun c2 => ?_) (fun c2 => ?_)
  · refine zt_aload_n (pc' := 10) hX dX12_free_9 rfl rfl ?_
    refine zt_cVv (pc' := 13) hX dX12_free_10 rfl zm_yX12_laysLoads zw_44_15 zc_164 (by decide) zs_46 (q := (RX12, TX12, 108)) rfl rfl (zc_X12_laysLoads _ _ σ hI (zWF_M hW hF)) rfl rfl (Nat.le_of_ble_eq_true rfl) (by decide) (fun r3 s4 hr5 hp6 => ?_)
    obtain ⟨hI7, hF8⟩ := hp6
    have hF9 := zGM_tr hF hF8
    refine zt_aload_n (pc' := 14) hX dX12_free_13 rfl rfl ?_
    refine zt_cVi (pc' := 17) hX dX12_free_14 rfl zm_yX12_holders zw_38_12 zc_164 (by decide) zs_46 (q := (RX12, TX12, 108)) rfl rfl (zc_X12_holders _ _ s4 hI7 (zWF_M hW hF9)) rfl rfl (Nat.le_of_ble_eq_true rfl) (by decide) (fun r10 s11 hr12 hp13 => ?_)
    obtain ⟨hI14, hF15, q16, q17⟩ := hp13
    have hF18 := zGM_tr hF9 hF15
    refine zt_istore_n (pc' := 18) (lv' := [some (.ref (X.1.1 + 164)), some (.int (zI r10)), none, none, none]) hX dX12_free_17 rfl hL (by decide) rfl ?_
    refine zt_aload_n (pc' := 19) hX dX12_free_18 rfl rfl ?_
    refine zt_iload_n (pc' := 20) hX dX12_free_19 rfl rfl ?_
    refine zt_cVi (pc' := 23) hX dX12_free_20 rfl zm_yX12_cracksBy zw_52_16 zc_164 (by decide) zs_46 (q := (RX12, TX12, 108)) rfl rfl (zc_X12_cracksBy _ _ s11 hI14 r10 ⟨by omega, by omega⟩) rfl rfl (Nat.le_of_ble_eq_true rfl) (by decide) (fun r19 s20 hr21 hp22 => ?_)
    obtain ⟨rfl, q23, q24⟩ := hp22
    refine zt_istore_n (pc' := 24) (lv' := [some (.ref (X.1.1 + 164)), some (.int (zI r10)), some (.int (zI r19)), none, none]) hX dX12_free_23 rfl hL (by decide) rfl ?_
    refine zt_iconst (pc' := 25) hX dX12_free_24 rfl ?_
    refine zt_istore_n (pc' := 26) (lv' := [some (.ref (X.1.1 + 164)), some (.int (zI r10)), some (.int (zI r19)), some (.int (zI 0)), none]) hX dX12_free_25 rfl hL (by decide) rfl ?_
    refine zt_iconst (pc' := 27) hX dX12_free_26 rfl ?_
    refine zt_istore (pc' := 29) (lv' := [some (.ref (X.1.1 + 164)), some (.int (zI r10)), some (.int (zI r19)), some (.int (zI 0)), some (.int (zI 0))]) hX dX12_free_27 rfl hL (by decide) rfl ?_
    have L_29_30 : ∀ (N : Nat) (x25 : Int) (x28 : Int), -2147483648 ≤ x25 → x25 ≤ 2147483647 → 0 ≤ x28 → x28 ≤ 10 → ((11 - x28).toNat) < N → zF X s11 29 [some (.ref (X.1.1 + 164)), some (.int (zI r10)), some (.int (zI r19)), some (.int (zI x25)), some (.int (zI x28))] [] := by
      intro N
      induction N with
      | zero =>
        intro x25 x28 h26 h27 h29 h30 hm32
        exact absurd hm32 (Nat.not_lt_zero _)
      | succ N ih33 =>
        intro x25 x28 h26 h27 h29 h30 hm32
        refine zt_iload (pc' := 31) hX dX12_free_29 rfl rfl ?_
        refine zt_aload_n (pc' := 32) hX dX12_free_31 rfl rfl ?_
        refine zt_cVi (pc' := 35) hX dX12_free_32 rfl zm_yX12_peopleMany zw_38_4 zc_164 (by decide) zs_46 (q := (RX12, TX12, 108)) rfl rfl (zc_X12_peopleMany _ _ s11 hI14 ) rfl rfl (Nat.le_of_ble_eq_true rfl) (by decide) (fun r34 s35 hr36 hp37 => ?_)
        obtain ⟨rfl, q38, q39, z40⟩ := hp37
        refine zt_icge (pc' := 38) (tgt := 77) hX dX12_free_35 rfl (by decide) ⟨by omega, by omega⟩ ⟨by omega, by omega⟩ (fun c41 => ?_) (fun c41 => ?_)
        · refine zt_iload_n (pc' := 78) hX dX12_free_77 rfl rfl ?_
          exact zt_iret hX hR dX12_free_78 ⟨by omega, by omega⟩ ⟨hI14, hF18, by omega, by omega⟩
        · refine zt_iload_n (pc' := 39) hX dX12_free_38 rfl rfl ?_
          refine zt_iload (pc' := 41) hX dX12_free_39 rfl rfl ?_
          refine zt_ishr (pc' := 42) hX dX12_free_41 rfl (fun r42 zr42 lr42 ur42 => ?_)
          clear zr42
          refine zt_iconst (pc' := 43) hX dX12_free_42 rfl ?_
          refine zt_iandm (pc' := 44) hX dX12_free_43 rfl 1 (by decide +kernel) (by decide) (fun r43 er43 lr43 ur43 => ?_)
          have ur43 : r43 ≤ 1 := by omega
          refine zt_iconst (pc' := 45) hX dX12_free_44 rfl ?_
          have J_71_46 : ∀ (x44 : Int), -2147483648 ≤ x44 → x44 ≤ 2147483647 → zF X s11 71 [some (.ref (X.1.1 + 164)), some (.int (zI r10)), some (.int (zI r19)), some (.int (zI x44)), some (.int (zI x28))] [] := by
            intro x44 h45 h46
            refine zt_iinc (pc' := 74) (lv' := [some (.ref (X.1.1 + 164)), some (.int (zI r10)), some (.int (zI r19)), some (.int (zI x44)), some (.int (zI (x28 + 1)))]) hX dX12_free_71 rfl rfl hL (by decide) rfl ?_
            refine zt_goto (tgt := 29) hX dX12_free_74 (by decide) ?_
            exact ih33 x44 (x28 + 1) (by omega) (by omega) (by omega) (by omega) (by omega)
          refine zt_icne (pc' := 48) (tgt := 71) hX dX12_free_45 rfl (by decide) ⟨by omega, by omega⟩ ⟨by omega, by omega⟩ (fun c48 => ?_) (fun c48 => ?_)
          · exact J_71_46 x25 (by omega) (by omega)
          · refine zt_aload_n (pc' := 49) hX dX12_free_48 rfl rfl ?_
            refine zt_iload_n (pc' := 50) hX dX12_free_49 rfl rfl ?_
            refine zt_iconst (pc' := 51) hX dX12_free_50 rfl ?_
            refine zt_iload (pc' := 53) hX dX12_free_51 rfl rfl ?_
            refine zt_ishl1 9 (pc' := 54) hX dX12_free_53 rfl ⟨by omega, by omega⟩ (by decide) (fun r49 er49 lr49 ur49 => ?_)
            have ur49 : r49 ≤ 512 := by omega
            refine zt_iconst (pc' := 55) hX dX12_free_54 rfl ?_
            refine zt_ixor (pc' := 56) hX dX12_free_55 rfl (fun r50 zr50 lr50 ur50 => ?_)
            clear zr50
            refine zt_iand (pc' := 57) hX dX12_free_56 rfl (fun r51 zr51 lr51 ur51 => ?_)
            clear zr51
            refine zt_cVi (pc' := 60) hX dX12_free_57 rfl zm_yX12_cracksBy zw_52_16 zc_164 (by decide) zs_46 (q := (RX12, TX12, 108)) rfl rfl (zc_X12_cracksBy _ _ s11 hI14 r51 ⟨by omega, by omega⟩) rfl rfl (Nat.le_of_ble_eq_true rfl) (by decide) (fun r52 s53 hr54 hp55 => ?_)
            obtain ⟨rfl, q56, q57⟩ := hp55
            refine zt_iload_n (pc' := 61) hX dX12_free_60 rfl rfl ?_
            refine zt_icne (pc' := 64) (tgt := 71) hX dX12_free_61 rfl (by decide) ⟨by omega, by omega⟩ ⟨by omega, by omega⟩ (fun c58 => ?_) (fun c58 => ?_)
            · exact J_71_46 x25 (by omega) (by omega)
            · refine zt_iload_n (pc' := 65) hX dX12_free_64 rfl rfl ?_
              refine zt_iconst (pc' := 66) hX dX12_free_65 rfl ?_
              refine zt_iload (pc' := 68) hX dX12_free_66 rfl rfl ?_
              refine zt_ishl1 9 (pc' := 69) hX dX12_free_68 rfl ⟨by omega, by omega⟩ (by decide) (fun r59 er59 lr59 ur59 => ?_)
              have ur59 : r59 ≤ 512 := by omega
              refine zt_ior (pc' := 70) hX dX12_free_69 rfl (fun r60 zr60 lr60 ur60 => ?_)
              clear zr60
              refine zt_istore_n (pc' := 71) (lv' := [some (.ref (X.1.1 + 164)), some (.int (zI r10)), some (.int (zI r19)), some (.int (zI r60)), some (.int (zI x28))]) hX dX12_free_70 rfl hL (by decide) rfl ?_
              exact J_71_46 r60 (by omega) (by omega)
    exact L_29_30 _ 0 0 (by omega) (by omega) (by omega) (by omega) (Nat.lt_succ_self _)
  · refine zt_iconst (pc' := 8) hX dX12_free_7 rfl ?_
    exact zt_iret hX hR dX12_free_8 ⟨by omega, by omega⟩ ⟨hI, hF, by omega, by omega⟩

set_option maxRecDepth 100000 in
set_option maxHeartbeats 4000000 in
theorem zc_X12_stand (l : Launch) (E : zEN) (σ : zSto) (hI : zInv σ) (a1_ : Int) (ha1_ : -2147483648 ≤ a1_ ∧ a1_ ≤ 2147483647) (a2_ : Int) (ha2_ : -2147483648 ≤ a2_ ∧ a2_ ≤ 2147483647) (hW : zWF σ) : zCt l E yX12_stand cX12_stand 10 (some .int) 6 zNC zNC 0 0 σ [.ref (E.1 + 164), .int (zI a1_), .int (zI a2_)] (fun r σ' => zInv σ' ∧ zGM σ σ' ∧ -2147483648 ≤ r ∧ r ≤ 2147483647) := by
  refine zCt_of2 [some (.ref (E.1 + 164)), some (.int (zI a1_)), some (.int (zI a2_)), none, none, none, none, none, none, none] (by decide +kernel) (Nat.le_of_ble_eq_true rfl) rfl ?_
  intro X hE hX hR hL hN
  subst hE
  have hX : zok X cX12_stand RX12 6 := hX
  have hF := zGM_rf σ
  refine zt_aload_n (pc' := 1) hX dX12_stand_0 rfl rfl ?_
  refine zt_iload_n (pc' := 2) hX dX12_stand_1 rfl rfl ?_
  refine zt_cVz (pc' := 5) hX dX12_stand_2 rfl zm_yX12_isPerson zw_41_16 zc_164 (by decide) zs_46 (q := (RX12, TX12, 108)) rfl rfl (zc_X12_isPerson _ _ σ hI a1_ ⟨by omega, by omega⟩) rfl rfl (Nat.le_of_ble_eq_true rfl) (by decide) (fun r1 s2 hr3 hp4 => ?_)
  obtain ⟨rfl, q5, q6, z7⟩ := hp4
  refine zt_ifeq (pc' := 8) (tgt := 28) hX dX12_stand_5 rfl (by decide) ⟨by omega, by omega⟩ (fun c8 => ?_) (fun c8 => ?_)
  · refine zt_iconst (pc' := 29) hX dX12_stand_28 rfl ?_
    exact zt_iret hX hR dX12_stand_29 ⟨by omega, by omega⟩ ⟨hI, hF, by omega, by omega⟩
  · refine zt_aload_n (pc' := 9) hX dX12_stand_8 rfl rfl ?_
    refine zt_iload_n (pc' := 10) hX dX12_stand_9 rfl rfl ?_
    refine zt_cVz (pc' := 13) hX dX12_stand_10 rfl zm_yX12_isAtRest zw_38_16 zc_164 (by decide) zs_46 (q := (RX12, TX12, 108)) rfl rfl (zc_X12_isAtRest _ _ σ hI a1_ ⟨by omega, by omega⟩) rfl rfl (Nat.le_of_ble_eq_true rfl) (by decide) (fun r9 s10 hr11 hp12 => ?_)
    obtain ⟨rfl, q13, q14⟩ := hp12
    refine zt_ifne (pc' := 16) (tgt := 28) hX dX12_stand_13 rfl (by decide) ⟨by omega, by omega⟩ (fun c15 => ?_) (fun c15 => ?_)
    · refine zt_iconst (pc' := 29) hX dX12_stand_28 rfl ?_
      exact zt_iret hX hR dX12_stand_29 ⟨by omega, by omega⟩ ⟨hI, hF, by omega, by omega⟩
    · refine zt_iload_n (pc' := 17) hX dX12_stand_16 rfl rfl ?_
      refine zt_i2l (pc' := 18) hX dX12_stand_17 rfl ⟨by omega, by omega⟩ ?_
      refine zt_lconst (pc' := 19) (y := 0) hX dX12_stand_18 rfl (by decide +kernel) ?_
      refine zt_ldc2 (pc' := 22) (x := 2) hX dX12_stand_19 rfl zw_47_21 (by decide +kernel) ?_
      refine zt_cSz (pc' := 25) hX dX12_stand_22 rfl zm_yX12_isIn zw_27_7 (zc_X12_isIn _ _ σ  a2_ ⟨by omega, by omega⟩ 0 ⟨by omega, by omega⟩ 2 ⟨by omega, by omega⟩) rfl rfl (Nat.le_of_ble_eq_true rfl) (by decide) (fun r16 s17 hr18 hp19 => ?_)
      obtain ⟨rfl, q20, q21, z22⟩ := hp19
      refine zt_ifne (pc' := 28) (tgt := 30) hX dX12_stand_25 rfl (by decide) ⟨by omega, by omega⟩ (fun c23 => ?_) (fun c23 => ?_)
      · refine zt_aload_n (pc' := 31) hX dX12_stand_30 rfl rfl ?_
        refine zt_cVv (pc' := 34) hX dX12_stand_31 rfl zm_yX12_laysLoads zw_44_15 zc_164 (by decide) zs_46 (q := (RX12, TX12, 108)) rfl rfl (zc_X12_laysLoads _ _ σ hI (zWF_M hW hF)) rfl rfl (Nat.le_of_ble_eq_true rfl) (by decide) (fun r24 s25 hr26 hp27 => ?_)
        obtain ⟨hI28, hF29⟩ := hp27
        have hF30 := zGM_tr hF hF29
        refine zt_aload_n (pc' := 35) hX dX12_stand_34 rfl rfl ?_
        refine zt_cVi (pc' := 38) hX dX12_stand_35 rfl zm_yX12_holders zw_38_12 zc_164 (by decide) zs_46 (q := (RX12, TX12, 108)) rfl rfl (zc_X12_holders _ _ s25 hI28 (zWF_M hW hF30)) rfl rfl (Nat.le_of_ble_eq_true rfl) (by decide) (fun r31 s32 hr33 hp34 => ?_)
        obtain ⟨hI35, hF36, q37, q38⟩ := hp34
        have hF39 := zGM_tr hF30 hF36
        refine zt_iconst (pc' := 39) hX dX12_stand_38 rfl ?_
        refine zt_iload_n (pc' := 40) hX dX12_stand_39 rfl rfl ?_
        refine zt_ishl1 9 (pc' := 41) hX dX12_stand_40 rfl ⟨by omega, by omega⟩ (by decide) (fun r40 er40 lr40 ur40 => ?_)
        have ur40 : r40 ≤ 512 := by omega
        refine zt_iconst (pc' := 42) hX dX12_stand_41 rfl ?_
        refine zt_ixor (pc' := 43) hX dX12_stand_42 rfl (fun r41 zr41 lr41 ur41 => ?_)
        clear zr41
        refine zt_iand (pc' := 44) hX dX12_stand_43 rfl (fun r42 zr42 lr42 ur42 => ?_)
        clear zr42
        refine zt_istore_n (pc' := 45) (lv' := [some (.ref (X.1.1 + 164)), some (.int (zI a1_)), some (.int (zI a2_)), some (.int (zI r42)), none, none, none, none, none, none]) hX dX12_stand_44 rfl hL (by decide) rfl ?_
        refine zt_iconst (pc' := 46) hX dX12_stand_45 rfl ?_
        refine zt_istore (pc' := 48) (lv' := [some (.ref (X.1.1 + 164)), some (.int (zI a1_)), some (.int (zI a2_)), some (.int (zI r42)), some (.int (zI (-1))), none, none, none, none, none]) hX dX12_stand_46 rfl hL (by decide) rfl ?_
        refine zt_iconst (pc' := 49) hX dX12_stand_48 rfl ?_
        refine zt_istore (pc' := 51) (lv' := [some (.ref (X.1.1 + 164)), some (.int (zI a1_)), some (.int (zI a2_)), some (.int (zI r42)), some (.int (zI (-1))), some (.int (zI 0)), none, none, none, none]) hX dX12_stand_49 rfl hL (by decide) rfl ?_
        refine zt_iconst (pc' := 52) hX dX12_stand_51 rfl ?_
        refine zt_istore (pc' := 54) (lv' := [some (.ref (X.1.1 + 164)), some (.int (zI a1_)), some (.int (zI a2_)), some (.int (zI r42)), some (.int (zI (-1))), some (.int (zI 0)), some (.int (zI 0)), none, none, none]) hX dX12_stand_52 rfl hL (by decide) rfl ?_
        refine zt_iconst (pc' := 55) hX dX12_stand_54 rfl ?_
        refine zt_istore (pc' := 57) (lv' := [some (.ref (X.1.1 + 164)), some (.int (zI a1_)), some (.int (zI a2_)), some (.int (zI r42)), some (.int (zI (-1))), some (.int (zI 0)), some (.int (zI 0)), some (.int (zI 0)), none, none]) hX dX12_stand_55 rfl hL (by decide) rfl ?_
        have L_57_57 : ∀ (N : Nat) (x43 : Int) (x46 : Int) (x49 : Int) (x52 : Int) (s55 : zSto), -1 ≤ x43 → x43 ≤ 35 → -2147483648 ≤ x46 → x46 ≤ 2147483647 → -2147483648 ≤ x49 → x49 ≤ 2147483647 → 0 ≤ x52 → x52 ≤ 36 → zInv s55 → zGM σ s55 → ((37 - x52).toNat) < N → zF X s55 57 [some (.ref (X.1.1 + 164)), some (.int (zI a1_)), some (.int (zI a2_)), some (.int (zI r42)), some (.int (zI x43)), some (.int (zI x46)), some (.int (zI x49)), some (.int (zI x52)), none, none] [] := by
          intro N
          induction N with
          | zero =>
            intro x43 x46 x49 x52 s55 h44 h45 h47 h48 h50 h51 h53 h54 hI56 hF57 hm59
            exact absurd hm59 (Nat.not_lt_zero _)
          | succ N ih60 =>
            intro x43 x46 x49 x52 s55 h44 h45 h47 h48 h50 h51 h53 h54 hI56 hF57 hm59
            refine zt_iload (pc' := 59) hX dX12_stand_57 rfl rfl ?_
            refine zt_aload_n (pc' := 60) hX dX12_stand_59 rfl rfl ?_
            refine zt_cVi (pc' := 63) hX dX12_stand_60 rfl zm_yX12_cellMany zw_44_19 zc_164 (by decide) zs_46 (q := (RX12, TX12, 108)) rfl rfl (zc_X12_cellMany _ _ s55 hI56 ) rfl rfl (Nat.le_of_ble_eq_true rfl) (by decide) (fun r61 s62 hr63 hp64 => ?_)
            obtain ⟨rfl, q65, q66, z67⟩ := hp64
            refine zt_icge (pc' := 66) (tgt := 163) hX dX12_stand_63 rfl (by decide) ⟨by omega, by omega⟩ ⟨by omega, by omega⟩ (fun c68 => ?_) (fun c68 => ?_)
            · refine zt_iload_n (pc' := 164) hX dX12_stand_163 rfl rfl ?_
              refine zt_ifne (pc' := 167) (tgt := 175) hX dX12_stand_164 rfl (by decide) ⟨by omega, by omega⟩ (fun c69 => ?_) (fun c69 => ?_)
              · refine zt_iload_n (pc' := 176) hX dX12_stand_175 rfl rfl ?_
                refine zt_iconst (pc' := 177) hX dX12_stand_176 rfl ?_
                refine zt_icne (pc' := 180) (tgt := 188) hX dX12_stand_177 rfl (by decide) ⟨by omega, by omega⟩ ⟨by omega, by omega⟩ (fun c70 => ?_) (fun c70 => ?_)
                · refine zt_iload (pc' := 190) hX dX12_stand_188 rfl rfl ?_
                  exact zt_iret hX hR dX12_stand_190 ⟨by omega, by omega⟩ ⟨hI56, hF57, by omega, by omega⟩
                · refine zt_iload (pc' := 182) hX dX12_stand_180 rfl rfl ?_
                  refine zt_bipush (pc' := 184) hX dX12_stand_182 rfl (by decide) (by decide) ?_
                  refine zt_idiv (pc' := 185) hX dX12_stand_184 rfl ⟨by omega, by omega⟩ ⟨by omega, by omega⟩ (fun r71 er71 br71 => ?_)
                  refine zt_goto (tgt := 190) hX dX12_stand_185 (by decide) ?_
                  exact zt_iret hX hR dX12_stand_190 ⟨by omega, by omega⟩ ⟨hI56, hF57, by omega, by omega⟩
              · refine zt_iload (pc' := 169) hX dX12_stand_167 rfl rfl ?_
                refine zt_bipush (pc' := 171) hX dX12_stand_169 rfl (by decide) (by decide) ?_
                refine zt_irem (pc' := 172) hX dX12_stand_171 rfl ⟨by omega, by omega⟩ ⟨by omega, by omega⟩ (fun r72 er72 br72 nr72 => ?_)
                refine zt_goto (tgt := 190) hX dX12_stand_172 (by decide) ?_
                exact zt_iret hX hR dX12_stand_190 ⟨by omega, by omega⟩ ⟨hI56, hF57, by omega, by omega⟩
            · refine zt_aload_n (pc' := 67) hX dX12_stand_66 rfl rfl ?_
              refine zt_iload (pc' := 69) hX dX12_stand_67 rfl rfl ?_
              refine zt_cVi (pc' := 72) hX dX12_stand_69 rfl zm_yX12_cellOf zw_44_23 zc_164 (by decide) zs_46 (q := (RX12, TX12, 108)) rfl rfl (zc_X12_cellOf _ _ s55 hI56 x52 ⟨by omega, by omega⟩ (by omega)) rfl rfl (Nat.le_of_ble_eq_true rfl) (by decide) (fun r73 s74 hr75 hp76 => ?_)
              obtain ⟨rfl, q77, q78⟩ := hp76
              refine zt_istore (pc' := 74) (lv' := [some (.ref (X.1.1 + 164)), some (.int (zI a1_)), some (.int (zI a2_)), some (.int (zI r42)), some (.int (zI x43)), some (.int (zI x46)), some (.int (zI x49)), some (.int (zI x52)), some (.int (zI r73)), none]) hX dX12_stand_72 rfl hL (by decide) rfl ?_
              refine zt_aload_n (pc' := 75) hX dX12_stand_74 rfl rfl ?_
              refine zt_iload (pc' := 77) hX dX12_stand_75 rfl rfl ?_
              refine zt_cVi (pc' := 80) hX dX12_stand_77 rfl zm_yX12_standsAt zw_45_12 zc_164 (by decide) zs_46 (q := (RX12, TX12, 108)) rfl rfl (zc_X12_standsAt _ _ s55 hI56 r73 ⟨by omega, by omega⟩) rfl rfl (Nat.le_of_ble_eq_true rfl) (by decide) (fun r79 s80 hr81 hp82 => ?_)
              obtain ⟨rfl, q83, q84⟩ := hp82
              refine zt_istore (pc' := 82) (lv' := [some (.ref (X.1.1 + 164)), some (.int (zI a1_)), some (.int (zI a2_)), some (.int (zI r42)), some (.int (zI x43)), some (.int (zI x46)), some (.int (zI x49)), some (.int (zI x52)), some (.int (zI r73)), some (.int (zI r79))]) hX dX12_stand_80 rfl hL (by decide) rfl ?_
              refine zt_iload (pc' := 84) hX dX12_stand_82 rfl rfl ?_
              refine zt_iconst (pc' := 85) hX dX12_stand_84 rfl ?_
              have J_157_96 : ∀ (x85 : Int) (x88 : Int) (x91 : Int) (s94 : zSto), -1 ≤ x85 → x85 ≤ 35 → -2147483648 ≤ x88 → x88 ≤ 2147483647 → -2147483648 ≤ x91 → x91 ≤ 2147483647 → zInv s94 → zGM σ s94 → zF X s94 157 [some (.ref (X.1.1 + 164)), some (.int (zI a1_)), some (.int (zI a2_)), some (.int (zI r42)), some (.int (zI x85)), some (.int (zI x88)), some (.int (zI x91)), some (.int (zI x52)), none, none] [] := by
                intro x85 x88 x91 s94 h86 h87 h89 h90 h92 h93 hI95 hF96
                refine zt_iinc (pc' := 160) (lv' := [some (.ref (X.1.1 + 164)), some (.int (zI a1_)), some (.int (zI a2_)), some (.int (zI r42)), some (.int (zI x85)), some (.int (zI x88)), some (.int (zI x91)), some (.int (zI (x52 + 1))), none, none]) hX dX12_stand_157 rfl rfl hL (by decide) rfl ?_
                refine zt_goto (tgt := 57) hX dX12_stand_160 (by decide) ?_
                exact ih60 x85 x88 x91 (x52 + 1) s94 (by omega) (by omega) (by omega) (by omega) (by omega) (by omega) (by omega) (by omega) hI95 hF96 (by omega)
              have J_97_97 : zF X s55 97 [some (.ref (X.1.1 + 164)), some (.int (zI a1_)), some (.int (zI a2_)), some (.int (zI r42)), some (.int (zI x43)), some (.int (zI x46)), some (.int (zI x49)), some (.int (zI x52)), some (.int (zI r73)), none] [] := by
                refine zt_aload_n (pc' := 98) hX dX12_stand_97 rfl rfl ?_
                refine zt_iload_n (pc' := 99) hX dX12_stand_98 rfl rfl ?_
                refine zt_iload (pc' := 101) hX dX12_stand_99 rfl rfl ?_
                refine zt_iload_n (pc' := 102) hX dX12_stand_101 rfl rfl ?_
                refine zt_cVv (pc' := 105) hX dX12_stand_102 rfl zm_yX12_standsTry zw_55_6 zc_164 (by decide) zs_46 (q := (RX12, TX12, 108)) rfl rfl (zc_X12_standsTry _ _ s55 hI56 a1_ ⟨by omega, by omega⟩ r73 ⟨by omega, by omega⟩ r42 ⟨by omega, by omega⟩) rfl rfl (Nat.le_of_ble_eq_true rfl) (by decide) (fun r99 s100 hr101 hp102 => ?_)
                obtain ⟨hI103, hF104⟩ := hp102
                have hF105 := zGM_tr hF57 hF104
                refine zt_iload (pc' := 107) hX dX12_stand_105 rfl rfl ?_
                refine zt_iconst (pc' := 108) hX dX12_stand_107 rfl ?_
                have J_141_105 : zF X s100 141 [some (.ref (X.1.1 + 164)), some (.int (zI a1_)), some (.int (zI a2_)), some (.int (zI r42)), none, none, none, some (.int (zI x52)), some (.int (zI r73)), none] [] := by
                  refine zt_iload (pc' := 143) hX dX12_stand_141 rfl rfl ?_
                  refine zt_istore (pc' := 145) (lv' := [some (.ref (X.1.1 + 164)), some (.int (zI a1_)), some (.int (zI a2_)), some (.int (zI r42)), some (.int (zI r73)), none, none, some (.int (zI x52)), some (.int (zI r73)), none]) hX dX12_stand_143 rfl hL (by decide) rfl ?_
                  refine zt_aload_n (pc' := 146) hX dX12_stand_145 rfl rfl ?_
                  have b107 := zv_46_62 hI103 zc_164
                  refine zt_get (pc' := 149) (v := .int (zI (s100 164 62))) hX dX12_stand_146 rfl zf_X12_513 (by decide) zc_164 zs_46 rfl ?_
                  refine zt_istore (pc' := 151) (lv' := [some (.ref (X.1.1 + 164)), some (.int (zI a1_)), some (.int (zI a2_)), some (.int (zI r42)), some (.int (zI r73)), some (.int (zI (s100 164 62))), none, some (.int (zI x52)), some (.int (zI r73)), none]) hX dX12_stand_149 rfl hL (by decide) rfl ?_
                  refine zt_aload_n (pc' := 152) hX dX12_stand_151 rfl rfl ?_
                  have b108 := zv_46_63 hI103 zc_164
                  refine zt_get (pc' := 155) (v := .int (zI (s100 164 63))) hX dX12_stand_152 rfl zf_X12_516 (by decide) zc_164 zs_46 rfl ?_
                  refine zt_istore (pc' := 157) (lv' := [some (.ref (X.1.1 + 164)), some (.int (zI a1_)), some (.int (zI a2_)), some (.int (zI r42)), some (.int (zI r73)), some (.int (zI (s100 164 62))), some (.int (zI (s100 164 63))), some (.int (zI x52)), some (.int (zI r73)), none]) hX dX12_stand_155 rfl hL (by decide) rfl ?_
                  refine zt_mask [true, true, true, true, true, true, true, true, false, false] rfl ?_
                  exact J_157_96 r73 (s100 164 62) (s100 164 63) s100 (by omega) (by omega) (by omega) (by omega) (by omega) (by omega) hI103 hF105
                refine zt_iceq (pc' := 111) (tgt := 141) hX dX12_stand_108 rfl (by decide) ⟨by omega, by omega⟩ ⟨by omega, by omega⟩ (fun c109 => ?_) (fun c109 => ?_)
                · refine zt_mask [true, true, true, true, false, false, false, true, true, false] rfl ?_
                  exact J_141_105
                · refine zt_aload_n (pc' := 112) hX dX12_stand_111 rfl rfl ?_
                  have b110 := zv_46_62 hI103 zc_164
                  refine zt_get (pc' := 115) (v := .int (zI (s100 164 62))) hX dX12_stand_112 rfl zf_X12_513 (by decide) zc_164 zs_46 rfl ?_
                  refine zt_iload (pc' := 117) hX dX12_stand_115 rfl rfl ?_
                  refine zt_icgt (pc' := 120) (tgt := 157) hX dX12_stand_117 rfl (by decide) ⟨by omega, by omega⟩ ⟨by omega, by omega⟩ (fun c111 => ?_) (fun c111 => ?_)
                  · refine zt_mask [true, true, true, true, true, true, true, true, false, false] rfl ?_
                    exact J_157_96 x43 x46 x49 s100 (by omega) (by omega) (by omega) (by omega) (by omega) (by omega) hI103 hF105
                  · refine zt_aload_n (pc' := 121) hX dX12_stand_120 rfl rfl ?_
                    refine zt_get (pc' := 124) (v := .int (zI (s100 164 62))) hX dX12_stand_121 rfl zf_X12_513 (by decide) zc_164 zs_46 rfl ?_
                    refine zt_iload (pc' := 126) hX dX12_stand_124 rfl rfl ?_
                    refine zt_icne (pc' := 129) (tgt := 141) hX dX12_stand_126 rfl (by decide) ⟨by omega, by omega⟩ ⟨by omega, by omega⟩ (fun c112 => ?_) (fun c112 => ?_)
                    · refine zt_mask [true, true, true, true, false, false, false, true, true, false] rfl ?_
                      exact J_141_105
                    · refine zt_aload_n (pc' := 130) hX dX12_stand_129 rfl rfl ?_
                      have b113 := zv_46_63 hI103 zc_164
                      refine zt_get (pc' := 133) (v := .int (zI (s100 164 63))) hX dX12_stand_130 rfl zf_X12_516 (by decide) zc_164 zs_46 rfl ?_
                      refine zt_iload (pc' := 135) hX dX12_stand_133 rfl rfl ?_
                      refine zt_icgt (pc' := 138) (tgt := 141) hX dX12_stand_135 rfl (by decide) ⟨by omega, by omega⟩ ⟨by omega, by omega⟩ (fun c114 => ?_) (fun c114 => ?_)
                      · refine zt_mask [true, true, true, true, false, false, false, true, true, false] rfl ?_
                        exact J_141_105
                      · refine zt_goto (tgt := 157) hX dX12_stand_138 (by decide) ?_
                        refine zt_mask [true, true, true, true, true, true, true, true, false, false] rfl ?_
                        exact J_157_96 x43 x46 x49 s100 (by omega) (by omega) (by omega) (by omega) (by omega) (by omega) hI103 hF105
              refine zt_iceq (pc' := 88) (tgt := 97) hX dX12_stand_85 rfl (by decide) ⟨by omega, by omega⟩ ⟨by omega, by omega⟩ (fun c115 => ?_) (fun c115 => ?_)
              · refine zt_mask [true, true, true, true, true, true, true, true, true, false] rfl ?_
                exact J_97_97
              · refine zt_iload (pc' := 90) hX dX12_stand_88 rfl rfl ?_
                refine zt_iload_n (pc' := 91) hX dX12_stand_90 rfl rfl ?_
                refine zt_iceq (pc' := 94) (tgt := 97) hX dX12_stand_91 rfl (by decide) ⟨by omega, by omega⟩ ⟨by omega, by omega⟩ (fun c116 => ?_) (fun c116 => ?_)
                · refine zt_mask [true, true, true, true, true, true, true, true, true, false] rfl ?_
                  exact J_97_97
                · refine zt_goto (tgt := 157) hX dX12_stand_94 (by decide) ?_
                  refine zt_mask [true, true, true, true, true, true, true, true, false, false] rfl ?_
                  exact J_157_96 x43 x46 x49 s55 (by omega) (by omega) (by omega) (by omega) (by omega) (by omega) hI56 hF57
        exact L_57_57 _ (-1) 0 0 0 s32 (by omega) (by omega) (by omega) (by omega) (by omega) (by omega) (by omega) (by omega) hI35 hF39 (Nat.lt_succ_self _)
      · refine zt_iconst (pc' := 29) hX dX12_stand_28 rfl ?_
        exact zt_iret hX hR dX12_stand_29 ⟨by omega, by omega⟩ ⟨hI, hF, by omega, by omega⟩

set_option maxRecDepth 100000 in
set_option maxHeartbeats 4000000 in
theorem zc_X12_weak (l : Launch) (E : zEN) (σ : zSto) (hI : zInv σ) (a1_ : Int) (ha1_ : -2147483648 ≤ a1_ ∧ a1_ ≤ 2147483647) (hW : zWF σ) : zCt l E yX12_weak cX12_weak 6 (some .int) 6 zNC zNC 0 0 σ [.ref (E.1 + 164), .int (zI a1_)] (fun r σ' => zInv σ' ∧ zGM σ σ' ∧ -2147483648 ≤ r ∧ r ≤ 2147483647) := by
  refine zCt_of2 [some (.ref (E.1 + 164)), some (.int (zI a1_)), none, none, none, none] (by decide +kernel) (Nat.le_of_ble_eq_true rfl) rfl ?_
  intro X hE hX hR hL hN
  subst hE
  have hX : zok X cX12_weak RX12 6 := hX
  have hF := zGM_rf σ
  refine zt_aload_n (pc' := 1) hX dX12_weak_0 rfl rfl ?_
  have b1 := zv_46_50 hI zc_164
  refine zt_get (pc' := 4) (v := .int (zI (σ 164 50))) hX dX12_weak_1 rfl zf_X12_375 (by decide) zc_164 zs_46 rfl ?_
  refine zt_ifeq (pc' := 7) (tgt := 17) hX dX12_weak_4 rfl (by decide) ⟨by omega, by omega⟩ (fun c2 => ?_) (fun c2 => ?_)
  · refine zt_iconst (pc' := 18) hX dX12_weak_17 rfl ?_
    exact zt_iret hX hR dX12_weak_18 ⟨by omega, by omega⟩ ⟨hI, hF, by omega, by omega⟩
  · refine zt_iload_n (pc' := 8) hX dX12_weak_7 rfl rfl ?_
    refine zt_i2l (pc' := 9) hX dX12_weak_8 rfl ⟨by omega, by omega⟩ ?_
    refine zt_lconst (pc' := 10) (y := 0) hX dX12_weak_9 rfl (by decide +kernel) ?_
    refine zt_lconst (pc' := 11) (y := 1) hX dX12_weak_10 rfl (by decide +kernel) ?_
    refine zt_cSz (pc' := 14) hX dX12_weak_11 rfl zm_yX12_isIn zw_27_7 (zc_X12_isIn _ _ σ  a1_ ⟨by omega, by omega⟩ 0 ⟨by omega, by omega⟩ 1 ⟨by omega, by omega⟩) rfl rfl (Nat.le_of_ble_eq_true rfl) (by decide) (fun r3 s4 hr5 hp6 => ?_)
    obtain ⟨rfl, q7, q8, z9⟩ := hp6
    refine zt_ifne (pc' := 17) (tgt := 19) hX dX12_weak_14 rfl (by decide) ⟨by omega, by omega⟩ (fun c10 => ?_) (fun c10 => ?_)
    · refine zt_aload_n (pc' := 20) hX dX12_weak_19 rfl rfl ?_
      refine zt_cVv (pc' := 23) hX dX12_weak_20 rfl zm_yX12_laysLoads zw_44_15 zc_164 (by decide) zs_46 (q := (RX12, TX12, 108)) rfl rfl (zc_X12_laysLoads _ _ σ hI (zWF_M hW hF)) rfl rfl (Nat.le_of_ble_eq_true rfl) (by decide) (fun r11 s12 hr13 hp14 => ?_)
      obtain ⟨hI15, hF16⟩ := hp14
      have hF17 := zGM_tr hF hF16
      refine zt_aload_n (pc' := 24) hX dX12_weak_23 rfl rfl ?_
      refine zt_cVi (pc' := 27) hX dX12_weak_24 rfl zm_yX12_holders zw_38_12 zc_164 (by decide) zs_46 (q := (RX12, TX12, 108)) rfl rfl (zc_X12_holders _ _ s12 hI15 (zWF_M hW hF17)) rfl rfl (Nat.le_of_ble_eq_true rfl) (by decide) (fun r18 s19 hr20 hp21 => ?_)
      obtain ⟨hI22, hF23, q24, q25⟩ := hp21
      have hF26 := zGM_tr hF17 hF23
      refine zt_istore_n (pc' := 28) (lv' := [some (.ref (X.1.1 + 164)), some (.int (zI a1_)), some (.int (zI r18)), none, none, none]) hX dX12_weak_27 rfl hL (by decide) rfl ?_
      refine zt_iconst (pc' := 29) hX dX12_weak_28 rfl ?_
      refine zt_istore_n (pc' := 30) (lv' := [some (.ref (X.1.1 + 164)), some (.int (zI a1_)), some (.int (zI r18)), some (.int (zI (-1))), none, none]) hX dX12_weak_29 rfl hL (by decide) rfl ?_
      refine zt_iconst (pc' := 31) hX dX12_weak_30 rfl ?_
      refine zt_istore (pc' := 33) (lv' := [some (.ref (X.1.1 + 164)), some (.int (zI a1_)), some (.int (zI r18)), some (.int (zI (-1))), some (.int (zI 0)), none]) hX dX12_weak_31 rfl hL (by decide) rfl ?_
      have L_33_32 : ∀ (N : Nat) (x27 : Int) (x30 : Int), -1 ≤ x27 → x27 ≤ 35 → 0 ≤ x30 → x30 ≤ 36 → ((37 - x30).toNat) < N → zF X s19 33 [some (.ref (X.1.1 + 164)), some (.int (zI a1_)), some (.int (zI r18)), some (.int (zI x27)), some (.int (zI x30)), none] [] := by
        intro N
        induction N with
        | zero =>
          intro x27 x30 h28 h29 h31 h32 hm34
          exact absurd hm34 (Nat.not_lt_zero _)
        | succ N ih35 =>
          intro x27 x30 h28 h29 h31 h32 hm34
          refine zt_iload (pc' := 35) hX dX12_weak_33 rfl rfl ?_
          refine zt_aload_n (pc' := 36) hX dX12_weak_35 rfl rfl ?_
          refine zt_cVi (pc' := 39) hX dX12_weak_36 rfl zm_yX12_cellMany zw_44_19 zc_164 (by decide) zs_46 (q := (RX12, TX12, 108)) rfl rfl (zc_X12_cellMany _ _ s19 hI22 ) rfl rfl (Nat.le_of_ble_eq_true rfl) (by decide) (fun r36 s37 hr38 hp39 => ?_)
          obtain ⟨rfl, q40, q41, z42⟩ := hp39
          refine zt_icge (pc' := 42) (tgt := 89) hX dX12_weak_39 rfl (by decide) ⟨by omega, by omega⟩ ⟨by omega, by omega⟩ (fun c43 => ?_) (fun c43 => ?_)
          · refine zt_iload_n (pc' := 90) hX dX12_weak_89 rfl rfl ?_
            refine zt_iconst (pc' := 91) hX dX12_weak_90 rfl ?_
            refine zt_icne (pc' := 94) (tgt := 98) hX dX12_weak_91 rfl (by decide) ⟨by omega, by omega⟩ ⟨by omega, by omega⟩ (fun c44 => ?_) (fun c44 => ?_)
            · refine zt_iload_n (pc' := 99) hX dX12_weak_98 rfl rfl ?_
              refine zt_ifne (pc' := 102) (tgt := 109) hX dX12_weak_99 rfl (by decide) ⟨by omega, by omega⟩ (fun c45 => ?_) (fun c45 => ?_)
              · refine zt_iload_n (pc' := 110) hX dX12_weak_109 rfl rfl ?_
                refine zt_bipush (pc' := 112) hX dX12_weak_110 rfl (by decide) (by decide) ?_
                refine zt_idiv (pc' := 113) hX dX12_weak_112 rfl ⟨by omega, by omega⟩ ⟨by omega, by omega⟩ (fun r46 er46 br46 => ?_)
                rw [ztd_p (by omega)] at er46
                exact zt_iret hX hR dX12_weak_113 ⟨by omega, by omega⟩ ⟨hI22, hF26, by omega, by omega⟩
              · refine zt_iload_n (pc' := 103) hX dX12_weak_102 rfl rfl ?_
                refine zt_bipush (pc' := 105) hX dX12_weak_103 rfl (by decide) (by decide) ?_
                refine zt_irem (pc' := 106) hX dX12_weak_105 rfl ⟨by omega, by omega⟩ ⟨by omega, by omega⟩ (fun r47 er47 br47 nr47 => ?_)
                rw [ztm_p (by omega)] at er47
                refine zt_goto (tgt := 113) hX dX12_weak_106 (by decide) ?_
                exact zt_iret hX hR dX12_weak_113 ⟨by omega, by omega⟩ ⟨hI22, hF26, by omega, by omega⟩
            · refine zt_iconst (pc' := 95) hX dX12_weak_94 rfl ?_
              refine zt_goto (tgt := 113) hX dX12_weak_95 (by decide) ?_
              exact zt_iret hX hR dX12_weak_113 ⟨by omega, by omega⟩ ⟨hI22, hF26, by omega, by omega⟩
          · refine zt_aload_n (pc' := 43) hX dX12_weak_42 rfl rfl ?_
            refine zt_iload (pc' := 45) hX dX12_weak_43 rfl rfl ?_
            refine zt_cVi (pc' := 48) hX dX12_weak_45 rfl zm_yX12_cellOf zw_44_23 zc_164 (by decide) zs_46 (q := (RX12, TX12, 108)) rfl rfl (zc_X12_cellOf _ _ s19 hI22 x30 ⟨by omega, by omega⟩ (by omega)) rfl rfl (Nat.le_of_ble_eq_true rfl) (by decide) (fun r48 s49 hr50 hp51 => ?_)
            obtain ⟨rfl, q52, q53⟩ := hp51
            refine zt_istore (pc' := 50) (lv' := [some (.ref (X.1.1 + 164)), some (.int (zI a1_)), some (.int (zI r18)), some (.int (zI x27)), some (.int (zI x30)), some (.int (zI r48))]) hX dX12_weak_48 rfl hL (by decide) rfl ?_
            refine zt_aload_n (pc' := 51) hX dX12_weak_50 rfl rfl ?_
            refine zt_iload (pc' := 53) hX dX12_weak_51 rfl rfl ?_
            refine zt_cVz (pc' := 56) hX dX12_weak_53 rfl zm_yX12_isCracked zw_45_3 zc_164 (by decide) zs_46 (q := (RX12, TX12, 108)) rfl rfl (zc_X12_isCracked _ _ s19 hI22 r48 ⟨by omega, by omega⟩) rfl rfl (Nat.le_of_ble_eq_true rfl) (by decide) (fun r54 s55 hr56 hp57 => ?_)
            obtain ⟨rfl, q58, q59⟩ := hp57
            have J_83_62 : ∀ (x60 : Int), -1 ≤ x60 → x60 ≤ 35 → zF X s19 83 [some (.ref (X.1.1 + 164)), some (.int (zI a1_)), some (.int (zI r18)), some (.int (zI x60)), some (.int (zI x30)), none] [] := by
              intro x60 h61 h62
              refine zt_iinc (pc' := 86) (lv' := [some (.ref (X.1.1 + 164)), some (.int (zI a1_)), some (.int (zI r18)), some (.int (zI x60)), some (.int (zI (x30 + 1))), none]) hX dX12_weak_83 rfl rfl hL (by decide) rfl ?_
              refine zt_goto (tgt := 33) hX dX12_weak_86 (by decide) ?_
              exact ih35 x60 (x30 + 1) (by omega) (by omega) (by omega) (by omega) (by omega)
            refine zt_ifne (pc' := 59) (tgt := 83) hX dX12_weak_56 rfl (by decide) ⟨by omega, by omega⟩ (fun c64 => ?_) (fun c64 => ?_)
            · refine zt_mask [true, true, true, true, true, false] rfl ?_
              exact J_83_62 x27 (by omega) (by omega)
            · refine zt_iload_n (pc' := 60) hX dX12_weak_59 rfl rfl ?_
              refine zt_iconst (pc' := 61) hX dX12_weak_60 rfl ?_
              have J_80_64 : zF X s19 80 [some (.ref (X.1.1 + 164)), some (.int (zI a1_)), some (.int (zI r18)), none, some (.int (zI x30)), some (.int (zI r48))] [] := by
                refine zt_iload (pc' := 82) hX dX12_weak_80 rfl rfl ?_
                refine zt_istore_n (pc' := 83) (lv' := [some (.ref (X.1.1 + 164)), some (.int (zI a1_)), some (.int (zI r18)), some (.int (zI r48)), some (.int (zI x30)), some (.int (zI r48))]) hX dX12_weak_82 rfl hL (by decide) rfl ?_
                refine zt_mask [true, true, true, true, true, false] rfl ?_
                exact J_83_62 r48 (by omega) (by omega)
              refine zt_iceq (pc' := 64) (tgt := 80) hX dX12_weak_61 rfl (by decide) ⟨by omega, by omega⟩ ⟨by omega, by omega⟩ (fun c66 => ?_) (fun c66 => ?_)
              · refine zt_mask [true, true, true, false, true, true] rfl ?_
                exact J_80_64
              · refine zt_aload_n (pc' := 65) hX dX12_weak_64 rfl rfl ?_
                refine zt_iload_n (pc' := 66) hX dX12_weak_65 rfl rfl ?_
                refine zt_iload (pc' := 68) hX dX12_weak_66 rfl rfl ?_
                refine zt_cVi (pc' := 71) hX dX12_weak_68 rfl zm_yX12_slackBy zw_46_3 zc_164 (by decide) zs_46 (q := (RX12, TX12, 108)) rfl rfl (zc_X12_slackBy _ _ s19 hI22 r18 ⟨by omega, by omega⟩ r48 ⟨by omega, by omega⟩) rfl rfl (Nat.le_of_ble_eq_true rfl) (by decide) (fun r67 s68 hr69 hp70 => ?_)
                obtain ⟨rfl, q71, q72⟩ := hp70
                refine zt_aload_n (pc' := 72) hX dX12_weak_71 rfl rfl ?_
                refine zt_iload_n (pc' := 73) hX dX12_weak_72 rfl rfl ?_
                refine zt_iload_n (pc' := 74) hX dX12_weak_73 rfl rfl ?_
                refine zt_cVi (pc' := 77) hX dX12_weak_74 rfl zm_yX12_slackBy zw_46_3 zc_164 (by decide) zs_46 (q := (RX12, TX12, 108)) rfl rfl (zc_X12_slackBy _ _ s19 hI22 r18 ⟨by omega, by omega⟩ x27 ⟨by omega, by omega⟩) rfl rfl (Nat.le_of_ble_eq_true rfl) (by decide) (fun r73 s74 hr75 hp76 => ?_)
                obtain ⟨rfl, q77, q78⟩ := hp76
                refine zt_icge (pc' := 80) (tgt := 83) hX dX12_weak_77 rfl (by decide) ⟨by omega, by omega⟩ ⟨by omega, by omega⟩ (fun c79 => ?_) (fun c79 => ?_)
                · refine zt_mask [true, true, true, true, true, false] rfl ?_
                  exact J_83_62 x27 (by omega) (by omega)
                · refine zt_mask [true, true, true, false, true, true] rfl ?_
                  exact J_80_64
      exact L_33_32 _ (-1) 0 (by omega) (by omega) (by omega) (by omega) (Nat.lt_succ_self _)
    · refine zt_iconst (pc' := 18) hX dX12_weak_17 rfl ?_
      exact zt_iret hX hR dX12_weak_18 ⟨by omega, by omega⟩ ⟨hI, hF, by omega, by omega⟩

set_option maxRecDepth 100000 in
set_option maxHeartbeats 4000000 in
theorem zc_X12_mends (l : Launch) (E : zEN) (σ : zSto) (hI : zInv σ) (a1_ : Int) (ha1_ : -2147483648 ≤ a1_ ∧ a1_ ≤ 2147483647) (a2_ : Int) (ha2_ : -2147483648 ≤ a2_ ∧ a2_ ≤ 2147483647) (hW : zWF σ) : zCt l E yX12_mends cX12_mends 8 (some .int) 8 zNC zNC 0 0 σ [.ref (E.1 + 164), .int (zI a1_), .int (zI a2_)] (fun r σ' => zInv σ' ∧ zGM σ σ' ∧ -2147483648 ≤ r ∧ r ≤ 2147483647) := by
  refine zCt_of2 [some (.ref (E.1 + 164)), some (.int (zI a1_)), some (.int (zI a2_)), none, none, none, none, none] (by decide +kernel) (Nat.le_of_ble_eq_true rfl) rfl ?_
  intro X hE hX hR hL hN
  subst hE
  have hX : zok X cX12_mends RX12 8 := hX
  have hF := zGM_rf σ
  refine zt_aload_n (pc' := 1) hX dX12_mends_0 rfl rfl ?_
  refine zt_iload_n (pc' := 2) hX dX12_mends_1 rfl rfl ?_
  refine zt_iconst (pc' := 3) hX dX12_mends_2 rfl ?_
  refine zt_bipush (pc' := 5) hX dX12_mends_3 rfl (by decide) (by decide) ?_
  refine zt_cVz (pc' := 8) hX dX12_mends_5 rfl zm_yX12_isAhead zw_49_17 zc_164 (by decide) zs_46 (q := (RX12, TX12, 108)) rfl rfl (zc_X12_isAhead _ _ σ hI a1_ ⟨by omega, by omega⟩ 1 ⟨by omega, by omega⟩ 30 ⟨by omega, by omega⟩) rfl rfl (Nat.le_of_ble_eq_true rfl) (by decide) (fun r1 s2 hr3 hp4 => ?_)
  obtain ⟨rfl, q5, q6, z7⟩ := hp4
  refine zt_ifeq (pc' := 11) (tgt := 23) hX dX12_mends_8 rfl (by decide) ⟨by omega, by omega⟩ (fun c8 => ?_) (fun c8 => ?_)
  · refine zt_iconst (pc' := 24) hX dX12_mends_23 rfl ?_
    exact zt_iret hX hR dX12_mends_24 ⟨by omega, by omega⟩ ⟨hI, hF, by omega, by omega⟩
  · refine zt_iload_n (pc' := 12) hX dX12_mends_11 rfl rfl ?_
    refine zt_i2l (pc' := 13) hX dX12_mends_12 rfl ⟨by omega, by omega⟩ ?_
    refine zt_lconst (pc' := 14) (y := 0) hX dX12_mends_13 rfl (by decide +kernel) ?_
    refine zt_ldc2 (pc' := 17) (x := 2) hX dX12_mends_14 rfl zw_47_21 (by decide +kernel) ?_
    refine zt_cSz (pc' := 20) hX dX12_mends_17 rfl zm_yX12_isIn zw_27_7 (zc_X12_isIn _ _ σ  a2_ ⟨by omega, by omega⟩ 0 ⟨by omega, by omega⟩ 2 ⟨by omega, by omega⟩) rfl rfl (Nat.le_of_ble_eq_true rfl) (by decide) (fun r9 s10 hr11 hp12 => ?_)
    obtain ⟨rfl, q13, q14, z15⟩ := hp12
    refine zt_ifne (pc' := 23) (tgt := 25) hX dX12_mends_20 rfl (by decide) ⟨by omega, by omega⟩ (fun c16 => ?_) (fun c16 => ?_)
    · refine zt_iconst (pc' := 26) hX dX12_mends_25 rfl ?_
      refine zt_istore_n (pc' := 27) (lv' := [some (.ref (X.1.1 + 164)), some (.int (zI a1_)), some (.int (zI a2_)), some (.int (zI (-1))), none, none, none, none]) hX dX12_mends_26 rfl hL (by decide) rfl ?_
      refine zt_iconst (pc' := 28) hX dX12_mends_27 rfl ?_
      refine zt_istore (pc' := 30) (lv' := [some (.ref (X.1.1 + 164)), some (.int (zI a1_)), some (.int (zI a2_)), some (.int (zI (-1))), some (.int (zI 0)), none, none, none]) hX dX12_mends_28 rfl hL (by decide) rfl ?_
      refine zt_aload_n (pc' := 31) hX dX12_mends_30 rfl rfl ?_
      refine zt_cVv (pc' := 34) hX dX12_mends_31 rfl zm_yX12_putsAside zw_49_21 zc_164 (by decide) zs_46 (q := (RX12, TX12, 108)) rfl rfl (zc_X12_putsAside _ _ σ hI ) rfl rfl (Nat.le_of_ble_eq_true rfl) (by decide) (fun r17 s18 hr19 hp20 => ?_)
      obtain ⟨hI21, hF22⟩ := hp20
      have hF23 := zGM_tr hF hF22
      refine zt_iconst (pc' := 35) hX dX12_mends_34 rfl ?_
      refine zt_istore (pc' := 37) (lv' := [some (.ref (X.1.1 + 164)), some (.int (zI a1_)), some (.int (zI a2_)), some (.int (zI (-1))), some (.int (zI 0)), some (.int (zI 0)), none, none]) hX dX12_mends_35 rfl hL (by decide) rfl ?_
      have L_37_35 : ∀ (N : Nat) (x24 : Int) (x27 : Int) (x30 : Int) (s33 : zSto), -1 ≤ x24 → x24 ≤ 35 → -2147483648 ≤ x27 → x27 ≤ 2147483647 → 0 ≤ x30 → x30 ≤ 36 → zInv s33 → zGM σ s33 → ((37 - x30).toNat) < N → zF X s33 37 [some (.ref (X.1.1 + 164)), some (.int (zI a1_)), some (.int (zI a2_)), some (.int (zI x24)), some (.int (zI x27)), some (.int (zI x30)), none, none] [] := by
        intro N
        induction N with
        | zero =>
          intro x24 x27 x30 s33 h25 h26 h28 h29 h31 h32 hI34 hF35 hm37
          exact absurd hm37 (Nat.not_lt_zero _)
        | succ N ih38 =>
          intro x24 x27 x30 s33 h25 h26 h28 h29 h31 h32 hI34 hF35 hm37
          refine zt_iload (pc' := 39) hX dX12_mends_37 rfl rfl ?_
          refine zt_aload_n (pc' := 40) hX dX12_mends_39 rfl rfl ?_
          refine zt_cVi (pc' := 43) hX dX12_mends_40 rfl zm_yX12_cellMany zw_44_19 zc_164 (by decide) zs_46 (q := (RX12, TX12, 108)) rfl rfl (zc_X12_cellMany _ _ s33 hI34 ) rfl rfl (Nat.le_of_ble_eq_true rfl) (by decide) (fun r39 s40 hr41 hp42 => ?_)
          obtain ⟨rfl, q43, q44, z45⟩ := hp42
          refine zt_icge (pc' := 46) (tgt := 119) hX dX12_mends_43 rfl (by decide) ⟨by omega, by omega⟩ ⟨by omega, by omega⟩ (fun c46 => ?_) (fun c46 => ?_)
          · refine zt_aload_n (pc' := 120) hX dX12_mends_119 rfl rfl ?_
            refine zt_cVv (pc' := 123) hX dX12_mends_120 rfl zm_yX12_takesBack zw_50_19 zc_164 (by decide) zs_46 (q := (RX12, TX12, 108)) rfl rfl (zc_X12_takesBack _ _ s33 hI34 ) rfl rfl (Nat.le_of_ble_eq_true rfl) (by decide) (fun r47 s48 hr49 hp50 => ?_)
            obtain ⟨hI51, hF52⟩ := hp50
            have hF53 := zGM_tr hF35 hF52
            refine zt_iload_n (pc' := 124) hX dX12_mends_123 rfl rfl ?_
            refine zt_iconst (pc' := 125) hX dX12_mends_124 rfl ?_
            refine zt_icne (pc' := 128) (tgt := 132) hX dX12_mends_125 rfl (by decide) ⟨by omega, by omega⟩ ⟨by omega, by omega⟩ (fun c54 => ?_) (fun c54 => ?_)
            · refine zt_iload_n (pc' := 133) hX dX12_mends_132 rfl rfl ?_
              refine zt_ifne (pc' := 136) (tgt := 143) hX dX12_mends_133 rfl (by decide) ⟨by omega, by omega⟩ (fun c55 => ?_) (fun c55 => ?_)
              · refine zt_iload_n (pc' := 144) hX dX12_mends_143 rfl rfl ?_
                refine zt_iconst (pc' := 145) hX dX12_mends_144 rfl ?_
                refine zt_icne (pc' := 148) (tgt := 155) hX dX12_mends_145 rfl (by decide) ⟨by omega, by omega⟩ ⟨by omega, by omega⟩ (fun c56 => ?_) (fun c56 => ?_)
                · refine zt_iload (pc' := 157) hX dX12_mends_155 rfl rfl ?_
                  exact zt_iret hX hR dX12_mends_157 ⟨by omega, by omega⟩ ⟨hI51, hF53, by omega, by omega⟩
                · refine zt_iload_n (pc' := 149) hX dX12_mends_148 rfl rfl ?_
                  refine zt_bipush (pc' := 151) hX dX12_mends_149 rfl (by decide) (by decide) ?_
                  refine zt_idiv (pc' := 152) hX dX12_mends_151 rfl ⟨by omega, by omega⟩ ⟨by omega, by omega⟩ (fun r57 er57 br57 => ?_)
                  rw [ztd_p (by omega)] at er57
                  refine zt_goto (tgt := 157) hX dX12_mends_152 (by decide) ?_
                  exact zt_iret hX hR dX12_mends_157 ⟨by omega, by omega⟩ ⟨hI51, hF53, by omega, by omega⟩
              · refine zt_iload_n (pc' := 137) hX dX12_mends_136 rfl rfl ?_
                refine zt_bipush (pc' := 139) hX dX12_mends_137 rfl (by decide) (by decide) ?_
                refine zt_irem (pc' := 140) hX dX12_mends_139 rfl ⟨by omega, by omega⟩ ⟨by omega, by omega⟩ (fun r58 er58 br58 nr58 => ?_)
                rw [ztm_p (by omega)] at er58
                refine zt_goto (tgt := 157) hX dX12_mends_140 (by decide) ?_
                exact zt_iret hX hR dX12_mends_157 ⟨by omega, by omega⟩ ⟨hI51, hF53, by omega, by omega⟩
            · refine zt_iconst (pc' := 129) hX dX12_mends_128 rfl ?_
              refine zt_goto (tgt := 157) hX dX12_mends_129 (by decide) ?_
              exact zt_iret hX hR dX12_mends_157 ⟨by omega, by omega⟩ ⟨hI51, hF53, by omega, by omega⟩
          · refine zt_aload_n (pc' := 47) hX dX12_mends_46 rfl rfl ?_
            refine zt_iload (pc' := 49) hX dX12_mends_47 rfl rfl ?_
            refine zt_cVi (pc' := 52) hX dX12_mends_49 rfl zm_yX12_cellOf zw_44_23 zc_164 (by decide) zs_46 (q := (RX12, TX12, 108)) rfl rfl (zc_X12_cellOf _ _ s33 hI34 x30 ⟨by omega, by omega⟩ (by omega)) rfl rfl (Nat.le_of_ble_eq_true rfl) (by decide) (fun r59 s60 hr61 hp62 => ?_)
            obtain ⟨rfl, q63, q64⟩ := hp62
            refine zt_istore (pc' := 54) (lv' := [some (.ref (X.1.1 + 164)), some (.int (zI a1_)), some (.int (zI a2_)), some (.int (zI x24)), some (.int (zI x27)), some (.int (zI x30)), some (.int (zI r59)), none]) hX dX12_mends_52 rfl hL (by decide) rfl ?_
            refine zt_aload_n (pc' := 55) hX dX12_mends_54 rfl rfl ?_
            refine zt_iload (pc' := 57) hX dX12_mends_55 rfl rfl ?_
            refine zt_cVz (pc' := 60) hX dX12_mends_57 rfl zm_yX12_isCracked zw_45_3 zc_164 (by decide) zs_46 (q := (RX12, TX12, 108)) rfl rfl (zc_X12_isCracked _ _ s33 hI34 r59 ⟨by omega, by omega⟩) rfl rfl (Nat.le_of_ble_eq_true rfl) (by decide) (fun r65 s66 hr67 hp68 => ?_)
            obtain ⟨rfl, q69, q70⟩ := hp68
            have J_113_79 : ∀ (x71 : Int) (x74 : Int) (s77 : zSto), -1 ≤ x71 → x71 ≤ 35 → -2147483648 ≤ x74 → x74 ≤ 2147483647 → zInv s77 → zGM σ s77 → zF X s77 113 [some (.ref (X.1.1 + 164)), some (.int (zI a1_)), some (.int (zI a2_)), some (.int (zI x71)), some (.int (zI x74)), some (.int (zI x30)), none, none] [] := by
              intro x71 x74 s77 h72 h73 h75 h76 hI78 hF79
              refine zt_iinc (pc' := 116) (lv' := [some (.ref (X.1.1 + 164)), some (.int (zI a1_)), some (.int (zI a2_)), some (.int (zI x71)), some (.int (zI x74)), some (.int (zI (x30 + 1))), none, none]) hX dX12_mends_113 rfl rfl hL (by decide) rfl ?_
              refine zt_goto (tgt := 37) hX dX12_mends_116 (by decide) ?_
              exact ih38 x71 x74 (x30 + 1) s77 (by omega) (by omega) (by omega) (by omega) (by omega) (by omega) hI78 hF79 (by omega)
            refine zt_ifne (pc' := 63) (tgt := 66) hX dX12_mends_60 rfl (by decide) ⟨by omega, by omega⟩ (fun c81 => ?_) (fun c81 => ?_)
            · refine zt_aload_n (pc' := 67) hX dX12_mends_66 rfl rfl ?_
              refine zt_get (pc' := 70) (v := .ref (X.1.1 + 203)) hX dX12_mends_67 rfl zf_X12_130 (by decide) zc_164 zs_46 (zrf_of (zv_46_52 hI34 zc_164)) ?_
              refine zt_iconst (pc' := 71) hX dX12_mends_70 rfl ?_
              refine zt_iload (pc' := 73) hX dX12_mends_71 rfl rfl ?_
              refine zt_iadd (pc' := 74) hX dX12_mends_73 rfl ?_
              refine zt_iconst (pc' := 75) hX dX12_mends_74 rfl ?_
              refine zt_iast (pc' := 76) hX dX12_mends_75 rfl (by decide) zc_203 zs_85 (by decide) ⟨by omega, by omega⟩ ?_
              generalize hs83 : zset s33 203 ((1 + r59).toNat) 0 = s82
              have hI84 : zInv s82 := hs83 ▸ zp_85 hI34 zc_203 ((1 + r59).toNat) (by omega)
              have hF85 : zGM σ s82 := hs83 ▸ zGM_set hF35 zc_203 (by decide) zk_85 (Or.inl (by decide)) (by decide)
              refine zt_aload_n (pc' := 77) hX dX12_mends_76 rfl rfl ?_
              refine zt_iload_n (pc' := 78) hX dX12_mends_77 rfl rfl ?_
              refine zt_cVv (pc' := 81) hX dX12_mends_78 rfl zm_yX12_hoursGo zw_50_3 zc_164 (by decide) zs_46 (q := (RX12, TX12, 108)) rfl rfl (zc_X12_hoursGo _ _ s82 hI84 a1_ ⟨by omega, by omega⟩ (zWF_M hW hF85)) rfl rfl (Nat.le_of_ble_eq_true rfl) (by decide) (fun r86 s87 hr88 hp89 => ?_)
              obtain ⟨hI90, hF91⟩ := hp89
              have hF92 := zGM_tr hF85 hF91
              refine zt_aload_n (pc' := 82) hX dX12_mends_81 rfl rfl ?_
              refine zt_cVi (pc' := 85) hX dX12_mends_82 rfl zm_yX12_crackedMany zw_38_8 zc_164 (by decide) zs_46 (q := (RX12, TX12, 108)) rfl rfl (zc_X12_crackedMany _ _ s87 hI90 ) rfl rfl (Nat.le_of_ble_eq_true rfl) (by decide) (fun r93 s94 hr95 hp96 => ?_)
              obtain ⟨rfl, q97, q98⟩ := hp96
              refine zt_istore (pc' := 87) (lv' := [some (.ref (X.1.1 + 164)), some (.int (zI a1_)), some (.int (zI a2_)), some (.int (zI x24)), some (.int (zI x27)), some (.int (zI x30)), some (.int (zI r59)), some (.int (zI r93))]) hX dX12_mends_85 rfl hL (by decide) rfl ?_
              refine zt_aload_n (pc' := 88) hX dX12_mends_87 rfl rfl ?_
              refine zt_cVv (pc' := 91) hX dX12_mends_88 rfl zm_yX12_triesAnew zw_51_20 zc_164 (by decide) zs_46 (q := (RX12, TX12, 108)) rfl rfl (zc_X12_triesAnew _ _ s87 hI90 ) rfl rfl (Nat.le_of_ble_eq_true rfl) (by decide) (fun r99 s100 hr101 hp102 => ?_)
              obtain ⟨hI103, hF104⟩ := hp102
              have hF105 := zGM_tr hF92 hF104
              refine zt_iload_n (pc' := 92) hX dX12_mends_91 rfl rfl ?_
              refine zt_iconst (pc' := 93) hX dX12_mends_92 rfl ?_
              have J_106_105 : zF X s100 106 [some (.ref (X.1.1 + 164)), some (.int (zI a1_)), some (.int (zI a2_)), none, none, some (.int (zI x30)), some (.int (zI r59)), some (.int (zI r93))] [] := by
                refine zt_iload (pc' := 108) hX dX12_mends_106 rfl rfl ?_
                refine zt_istore_n (pc' := 109) (lv' := [some (.ref (X.1.1 + 164)), some (.int (zI a1_)), some (.int (zI a2_)), some (.int (zI r59)), none, some (.int (zI x30)), some (.int (zI r59)), some (.int (zI r93))]) hX dX12_mends_108 rfl hL (by decide) rfl ?_
                refine zt_iload (pc' := 111) hX dX12_mends_109 rfl rfl ?_
                refine zt_istore (pc' := 113) (lv' := [some (.ref (X.1.1 + 164)), some (.int (zI a1_)), some (.int (zI a2_)), some (.int (zI r59)), some (.int (zI r93)), some (.int (zI x30)), some (.int (zI r59)), some (.int (zI r93))]) hX dX12_mends_111 rfl hL (by decide) rfl ?_
                refine zt_mask [true, true, true, true, true, true, false, false] rfl ?_
                exact J_113_79 r59 r93 s100 (by omega) (by omega) (by omega) (by omega) hI103 hF105
              refine zt_iceq (pc' := 96) (tgt := 106) hX dX12_mends_93 rfl (by decide) ⟨by omega, by omega⟩ ⟨by omega, by omega⟩ (fun c107 => ?_) (fun c107 => ?_)
              · refine zt_mask [true, true, true, false, false, true, true, true] rfl ?_
                exact J_106_105
              · refine zt_iload (pc' := 98) hX dX12_mends_96 rfl rfl ?_
                refine zt_iload (pc' := 100) hX dX12_mends_98 rfl rfl ?_
                refine zt_iclt (pc' := 103) (tgt := 106) hX dX12_mends_100 rfl (by decide) ⟨by omega, by omega⟩ ⟨by omega, by omega⟩ (fun c108 => ?_) (fun c108 => ?_)
                · refine zt_mask [true, true, true, false, false, true, true, true] rfl ?_
                  exact J_106_105
                · refine zt_goto (tgt := 113) hX dX12_mends_103 (by decide) ?_
                  refine zt_mask [true, true, true, true, true, true, false, false] rfl ?_
                  exact J_113_79 x24 x27 s100 (by omega) (by omega) (by omega) (by omega) hI103 hF105
            · refine zt_goto (tgt := 113) hX dX12_mends_63 (by decide) ?_
              refine zt_mask [true, true, true, true, true, true, false, false] rfl ?_
              exact J_113_79 x24 x27 s33 (by omega) (by omega) (by omega) (by omega) hI34 hF35
      exact L_37_35 _ (-1) 0 0 s18 (by omega) (by omega) (by omega) (by omega) (by omega) (by omega) hI21 hF23 (Nat.lt_succ_self _)
    · refine zt_iconst (pc' := 24) hX dX12_mends_23 rfl ?_
      exact zt_iret hX hR dX12_mends_24 ⟨by omega, by omega⟩ ⟨hI, hF, by omega, by omega⟩

set_option maxRecDepth 100000 in
set_option maxHeartbeats 4000000 in
theorem zc_X12_laysSets (l : Launch) (E : zEN) (σ : zSto) (hI : zInv σ) (hW : zWF σ) : zCt l E yX12_laysSets cX12_laysSets 3 none 6 zNC zNC 0 0 σ [.ref (E.1 + 164)] (fun r σ' => zInv σ' ∧ zGM σ σ') := by
  refine zCt_of2 [some (.ref (E.1 + 164)), none, none] (by decide +kernel) (Nat.le_of_ble_eq_true rfl) rfl ?_
  intro X hE hX hR hL hN
  subst hE
  have hX : zok X cX12_laysSets RX12 6 := hX
  have hF := zGM_rf σ
  have b1 := zv_46_67 hI zc_164
  refine zt_aload_n (pc' := 1) hX dX12_laysSets_0 rfl rfl ?_
  refine zt_cVv (pc' := 4) hX dX12_laysSets_1 rfl zm_yX12_laysLoads zw_44_15 zc_164 (by decide) zs_46 (q := (RX12, TX12, 108)) rfl rfl (zc_X12_laysLoads _ _ σ hI (zWF_M hW hF)) rfl rfl (Nat.le_of_ble_eq_true rfl) (by decide) (fun r2 s3 hr4 hp5 => ?_)
  obtain ⟨hI6, hF7⟩ := hp5
  have hF8 := zGM_tr hF hF7
  have b9 := zv_46_67 hI6 zc_164
  refine zt_aload_n (pc' := 5) hX dX12_laysSets_4 rfl rfl ?_
  refine zt_cVi (pc' := 8) hX dX12_laysSets_5 rfl zm_yX12_awake zw_40_22 zc_164 (by decide) zs_46 (q := (RX12, TX12, 108)) rfl rfl (zc_X12_awake _ _ s3 hI6 ) rfl rfl (Nat.le_of_ble_eq_true rfl) (by decide) (fun r10 s11 hr12 hp13 => ?_)
  obtain ⟨rfl, q14, q15⟩ := hp13
  refine zt_istore_n (pc' := 9) (lv' := [some (.ref (X.1.1 + 164)), some (.int (zI r10)), none]) hX dX12_laysSets_8 rfl hL (by decide) rfl ?_
  refine zt_aload_n (pc' := 10) hX dX12_laysSets_9 rfl rfl ?_
  refine zt_iconst (pc' := 11) hX dX12_laysSets_10 rfl ?_
  refine zt_put (pc' := 14) (x := 0) hX dX12_laysSets_11 rfl zf_X12_526 (by decide) zc_164 zs_46 (fun q hq => by cases hq; rfl) rfl rfl rfl ?_
  generalize hs17 : zset s3 164 67 0 = s16
  have hI18 : zInv s16 := hs17 ▸ zp_46_67 hI6 zc_164 ⟨by omega, by omega⟩
  have hF19 : zGM σ s16 := hs17 ▸ zGM_set hF8 zc_164 (by decide) zk_46 (Or.inr (by decide)) (by decide)
  have e20 : s16 164 67 = 0 := by rw [← hs17]; exact zset_s
  refine zt_iconst (pc' := 15) hX dX12_laysSets_14 rfl ?_
  refine zt_istore_n (pc' := 16) (lv' := [some (.ref (X.1.1 + 164)), some (.int (zI r10)), some (.int (zI 0))]) hX dX12_laysSets_15 rfl hL (by decide) rfl ?_
  have L_16_27 : ∀ (N : Nat) (x21 : Int) (s24 : zSto), 0 ≤ x21 → x21 ≤ 1024 → zInv s24 → zGM σ s24 → s24 164 67 ≤ x21 → ((1025 - x21).toNat) < N → zF X s24 16 [some (.ref (X.1.1 + 164)), some (.int (zI r10)), some (.int (zI x21))] [] := by
    intro N
    induction N with
    | zero =>
      intro x21 s24 h22 h23 hI25 hF26 g27 hm29
      exact absurd hm29 (Nat.not_lt_zero _)
    | succ N ih30 =>
      intro x21 s24 h22 h23 hI25 hF26 g27 hm29
      have b31 := zv_46_67 hI25 zc_164
      refine zt_iload_n (pc' := 17) hX dX12_laysSets_16 rfl rfl ?_
      refine zt_iconst (pc' := 18) hX dX12_laysSets_17 rfl ?_
      refine zt_aload_n (pc' := 19) hX dX12_laysSets_18 rfl rfl ?_
      refine zt_cVi (pc' := 22) hX dX12_laysSets_19 rfl zm_yX12_peopleMany zw_38_4 zc_164 (by decide) zs_46 (q := (RX12, TX12, 108)) rfl rfl (zc_X12_peopleMany _ _ s24 hI25 ) rfl rfl (Nat.le_of_ble_eq_true rfl) (by decide) (fun r32 s33 hr34 hp35 => ?_)
      obtain ⟨rfl, q36, q37, z38⟩ := hp35
      refine zt_ishl1 10 (pc' := 23) hX dX12_laysSets_22 rfl ⟨by omega, by omega⟩ (by decide) (fun r39 er39 lr39 ur39 => ?_)
      have ur39 : r39 ≤ 1024 := by omega
      refine zt_icge (pc' := 26) (tgt := 71) hX dX12_laysSets_23 rfl (by decide) ⟨by omega, by omega⟩ ⟨by omega, by omega⟩ (fun c40 => ?_) (fun c40 => ?_)
      · exact zt_vret hX hR dX12_laysSets_71 ⟨hI25, hF26⟩
      · refine zt_iload_n (pc' := 27) hX dX12_laysSets_26 rfl rfl ?_
        refine zt_iload_n (pc' := 28) hX dX12_laysSets_27 rfl rfl ?_
        refine zt_iconst (pc' := 29) hX dX12_laysSets_28 rfl ?_
        refine zt_ixor (pc' := 30) hX dX12_laysSets_29 rfl (fun r41 zr41 lr41 ur41 => ?_)
        clear zr41
        refine zt_iand (pc' := 31) hX dX12_laysSets_30 rfl (fun r42 zr42 lr42 ur42 => ?_)
        clear zr42
        have J_65_46 : ∀ (s43 : zSto), zInv s43 → zGM σ s43 → s43 164 67 ≤ x21 + 1 → zF X s43 65 [some (.ref (X.1.1 + 164)), some (.int (zI r10)), some (.int (zI x21))] [] := by
          intro s43 hI44 hF45 g46
          have b48 := zv_46_67 hI44 zc_164
          refine zt_iinc (pc' := 68) (lv' := [some (.ref (X.1.1 + 164)), some (.int (zI r10)), some (.int (zI (x21 + 1)))]) hX dX12_laysSets_65 rfl rfl hL (by decide) rfl ?_
          refine zt_goto (tgt := 16) hX dX12_laysSets_68 (by decide) ?_
          exact ih30 (x21 + 1) s43 (by omega) (by omega) hI44 hF45 (by omega) (by omega)
        refine zt_ifne (pc' := 34) (tgt := 65) hX dX12_laysSets_31 rfl (by decide) ⟨by omega, by omega⟩ (fun c49 => ?_) (fun c49 => ?_)
        · exact J_65_46 s24 hI25 hF26 (by omega)
        · refine zt_aload_n (pc' := 35) hX dX12_laysSets_34 rfl rfl ?_
          refine zt_iload_n (pc' := 36) hX dX12_laysSets_35 rfl rfl ?_
          refine zt_cVz (pc' := 39) hX dX12_laysSets_36 rfl zm_yX12_isAsHeard zw_58_19 zc_164 (by decide) zs_46 (q := (RX12, TX12, 108)) rfl rfl (zc_X12_isAsHeard _ _ s24 hI25 x21 ⟨by omega, by omega⟩) rfl rfl (Nat.le_of_ble_eq_true rfl) (by decide) (fun r50 s51 hr52 hp53 => ?_)
          obtain ⟨rfl, q54, q55⟩ := hp53
          refine zt_ifne (pc' := 42) (tgt := 45) hX dX12_laysSets_39 rfl (by decide) ⟨by omega, by omega⟩ (fun c56 => ?_) (fun c56 => ?_)
          · refine zt_aload_n (pc' := 46) hX dX12_laysSets_45 rfl rfl ?_
            refine zt_get (pc' := 49) (v := .ref (X.1.1 + 208)) hX dX12_laysSets_46 rfl zf_X12_149 (by decide) zc_164 zs_46 (zrf_of (zv_46_66 hI25 zc_164)) ?_
            refine zt_aload_n (pc' := 50) hX dX12_laysSets_49 rfl rfl ?_
            have b57 := zv_46_67 hI25 zc_164
            refine zt_get (pc' := 53) (v := .int (zI (s24 164 67))) hX dX12_laysSets_50 rfl zf_X12_526 (by decide) zc_164 zs_46 rfl ?_
            refine zt_iload_n (pc' := 54) hX dX12_laysSets_53 rfl rfl ?_
            refine zt_iast (pc' := 55) hX dX12_laysSets_54 rfl (by decide) zc_208 zs_90 (by decide) ⟨by omega, by omega⟩ ?_
            generalize hs59 : zset s24 208 ((s24 164 67).toNat) x21 = s58
            have hI60 : zInv s58 := hs59 ▸ zp_90 hI25 zc_208 ((s24 164 67).toNat) ⟨by omega, by omega⟩
            have hF61 : zGM σ s58 := hs59 ▸ zGM_set hF26 zc_208 (by decide) zk_90 (Or.inl (by decide)) (by decide)
            have e62 : s58 164 67 = s24 164 67 := by rw [← hs59]; exact zset_k (zne_r zc_164 zc_208 (by decide))
            refine zt_aload_n (pc' := 56) hX dX12_laysSets_55 rfl rfl ?_
            refine zt_dup (pc' := 57) hX dX12_laysSets_56 rfl rfl ?_
            have b63 := zv_46_67 hI60 zc_164
            refine zt_get (pc' := 60) (v := .int (zI (s58 164 67))) hX dX12_laysSets_57 rfl zf_X12_526 (by decide) zc_164 zs_46 rfl ?_
            refine zt_iconst (pc' := 61) hX dX12_laysSets_60 rfl ?_
            refine zt_iadd (pc' := 62) hX dX12_laysSets_61 rfl ?_
            refine zt_put (pc' := 65) (x := ((s58 164 67) + 1)) hX dX12_laysSets_62 rfl zf_X12_526 (by decide) zc_164 zs_46 (fun q hq => by cases hq; rfl) rfl rfl rfl ?_
            generalize hs65 : zset s58 164 67 ((s58 164 67) + 1) = s64
            have hI66 : zInv s64 := hs65 ▸ zp_46_67 hI60 zc_164 ⟨by omega, by omega⟩
            have hF67 : zGM σ s64 := hs65 ▸ zGM_set hF61 zc_164 (by decide) zk_46 (Or.inr (by decide)) (by decide)
            have e68 : s64 164 67 = ((s58 164 67) + 1) := by rw [← hs65]; exact zset_s
            exact J_65_46 s64 hI66 hF67 (by omega)
          · refine zt_goto (tgt := 65) hX dX12_laysSets_42 (by decide) ?_
            exact J_65_46 s24 hI25 hF26 (by omega)
  exact L_16_27 _ 0 s16 (by omega) (by omega) hI18 hF19 (by omega) (Nat.lt_succ_self _)

set_option maxRecDepth 100000 in
set_option maxHeartbeats 4000000 in
theorem zc_X12_hours (l : Launch) (E : zEN) (σ : zSto) (hI : zInv σ) (a1_ : Int) (ha1_ : -2147483648 ≤ a1_ ∧ a1_ ≤ 2147483647) (hW : zWF σ) : zCt l E yX12_hours cX12_hours 2 (some .int) 8 zNC zNC 0 0 σ [.ref (E.1 + 164), .int (zI a1_)] (fun r σ' => zInv σ' ∧ zGM σ σ' ∧ -2147483648 ≤ r ∧ r ≤ 2147483647) := by
  refine zCt_of2 [some (.ref (E.1 + 164)), some (.int (zI a1_))] (by decide +kernel) (Nat.le_of_ble_eq_true rfl) rfl ?_
  intro X hE hX hR hL hN
  subst hE
  have hX : zok X cX12_hours RX12 8 := hX
  have hF := zGM_rf σ
  refine zt_aload_n (pc' := 1) hX dX12_hours_0 rfl rfl ?_
  refine zt_iload_n (pc' := 2) hX dX12_hours_1 rfl rfl ?_
  refine zt_iconst (pc' := 3) hX dX12_hours_2 rfl ?_
  refine zt_bipush (pc' := 5) hX dX12_hours_3 rfl (by decide) (by decide) ?_
  refine zt_cVz (pc' := 8) hX dX12_hours_5 rfl zm_yX12_isAhead zw_49_17 zc_164 (by decide) zs_46 (q := (RX12, TX12, 108)) rfl rfl (zc_X12_isAhead _ _ σ hI a1_ ⟨by omega, by omega⟩ 1 ⟨by omega, by omega⟩ 100 ⟨by omega, by omega⟩) rfl rfl (Nat.le_of_ble_eq_true rfl) (by decide) (fun r1 s2 hr3 hp4 => ?_)
  obtain ⟨rfl, q5, q6, z7⟩ := hp4
  refine zt_ifne (pc' := 11) (tgt := 17) hX dX12_hours_8 rfl (by decide) ⟨by omega, by omega⟩ (fun c8 => ?_) (fun c8 => ?_)
  · refine zt_aload_n (pc' := 18) hX dX12_hours_17 rfl rfl ?_
    refine zt_cVv (pc' := 21) hX dX12_hours_18 rfl zm_yX12_keeps zw_60_23 zc_164 (by decide) zs_46 (q := (RX12, TX12, 108)) rfl rfl (zc_X12_keeps _ _ σ hI ) rfl rfl (Nat.le_of_ble_eq_true rfl) (by decide) (fun r9 s10 hr11 hp12 => ?_)
    obtain ⟨hI13, hF14⟩ := hp12
    have hF15 := zGM_tr hF hF14
    refine zt_aload_n (pc' := 22) hX dX12_hours_21 rfl rfl ?_
    refine zt_iconst (pc' := 23) hX dX12_hours_22 rfl ?_
    refine zt_put (pc' := 26) (x := 0) hX dX12_hours_23 rfl zf_X12_457 (by decide) zc_164 zs_46 (fun q hq => by cases hq; rfl) rfl rfl rfl ?_
    generalize hs17 : zset s10 164 60 0 = s16
    have hI18 : zInv s16 := hs17 ▸ zp_46_60 hI13 zc_164 ⟨by omega, by omega⟩
    have hF19 : zGM σ s16 := hs17 ▸ zGM_set hF15 zc_164 (by decide) zk_46 (Or.inr (by decide)) (by decide)
    refine zt_aload_n (pc' := 27) hX dX12_hours_26 rfl rfl ?_
    refine zt_iload_n (pc' := 28) hX dX12_hours_27 rfl rfl ?_
    refine zt_cVv (pc' := 31) hX dX12_hours_28 rfl zm_yX12_hoursGo zw_50_3 zc_164 (by decide) zs_46 (q := (RX12, TX12, 108)) rfl rfl (zc_X12_hoursGo _ _ s16 hI18 a1_ ⟨by omega, by omega⟩ (zWF_M hW hF19)) rfl rfl (Nat.le_of_ble_eq_true rfl) (by decide) (fun r20 s21 hr22 hp23 => ?_)
    obtain ⟨hI24, hF25⟩ := hp23
    have hF26 := zGM_tr hF19 hF25
    refine zt_aload_n (pc' := 32) hX dX12_hours_31 rfl rfl ?_
    have b27 := zv_46_60 hI24 zc_164
    refine zt_get (pc' := 35) (v := .int (zI (s21 164 60))) hX dX12_hours_32 rfl zf_X12_457 (by decide) zc_164 zs_46 rfl ?_
    exact zt_iret hX hR dX12_hours_35 ⟨by omega, by omega⟩ ⟨hI24, hF26, by omega, by omega⟩
  · refine zt_aload_n (pc' := 12) hX dX12_hours_11 rfl rfl ?_
    refine zt_iconst (pc' := 13) hX dX12_hours_12 rfl ?_
    refine zt_cVi (pc' := 16) hX dX12_hours_13 rfl zm_yX12_refuses zw_57_10 zc_164 (by decide) zs_46 (q := (RX12, TX12, 108)) rfl rfl (zc_X12_refuses _ _ σ hI 3 ⟨by omega, by omega⟩) rfl rfl (Nat.le_of_ble_eq_true rfl) (by decide) (fun r28 s29 hr30 hp31 => ?_)
    obtain ⟨hI32, hF33, q34, q35⟩ := hp31
    have hF36 := zGM_tr hF hF33
    exact zt_iret hX hR dX12_hours_16 ⟨by omega, by omega⟩ ⟨hI32, hF36, by omega, by omega⟩

set_option maxRecDepth 100000 in
set_option maxHeartbeats 4000000 in
theorem zc_X12_who (l : Launch) (E : zEN) (σ : zSto) (hI : zInv σ) (a1_ : Int) (ha1_ : -2147483648 ≤ a1_ ∧ a1_ ≤ 2147483647) (hW : zWF σ) : zCt l E yX12_who cX12_who 5 (some .int) 7 zNC zNC 0 0 σ [.ref (E.1 + 164), .int (zI a1_)] (fun r σ' => zInv σ' ∧ zGM σ σ' ∧ -2147483648 ≤ r ∧ r ≤ 2147483647) := by
  refine zCt_of2 [some (.ref (E.1 + 164)), some (.int (zI a1_)), none, none, none] (by decide +kernel) (Nat.le_of_ble_eq_true rfl) rfl ?_
  intro X hE hX hR hL hN
  subst hE
  have hX : zok X cX12_who RX12 7 := hX
  have hF := zGM_rf σ
  refine zt_aload_n (pc' := 1) hX dX12_who_0 rfl rfl ?_
  have b1 := zv_46_50 hI zc_164
  refine zt_get (pc' := 4) (v := .int (zI (σ 164 50))) hX dX12_who_1 rfl zf_X12_375 (by decide) zc_164 zs_46 rfl ?_
  refine zt_ifeq (pc' := 7) (tgt := 19) hX dX12_who_4 rfl (by decide) ⟨by omega, by omega⟩ (fun c2 => ?_) (fun c2 => ?_)
  · refine zt_iconst (pc' := 20) hX dX12_who_19 rfl ?_
    exact zt_iret hX hR dX12_who_20 ⟨by omega, by omega⟩ ⟨hI, hF, by omega, by omega⟩
  · refine zt_iload_n (pc' := 8) hX dX12_who_7 rfl rfl ?_
    refine zt_i2l (pc' := 9) hX dX12_who_8 rfl ⟨by omega, by omega⟩ ?_
    refine zt_lconst (pc' := 10) (y := 0) hX dX12_who_9 rfl (by decide +kernel) ?_
    refine zt_ldc2 (pc' := 13) (x := 2) hX dX12_who_10 rfl zw_47_21 (by decide +kernel) ?_
    refine zt_cSz (pc' := 16) hX dX12_who_13 rfl zm_yX12_isIn zw_27_7 (zc_X12_isIn _ _ σ  a1_ ⟨by omega, by omega⟩ 0 ⟨by omega, by omega⟩ 2 ⟨by omega, by omega⟩) rfl rfl (Nat.le_of_ble_eq_true rfl) (by decide) (fun r3 s4 hr5 hp6 => ?_)
    obtain ⟨rfl, q7, q8, z9⟩ := hp6
    refine zt_ifne (pc' := 19) (tgt := 21) hX dX12_who_16 rfl (by decide) ⟨by omega, by omega⟩ (fun c10 => ?_) (fun c10 => ?_)
    · refine zt_aload_n (pc' := 22) hX dX12_who_21 rfl rfl ?_
      refine zt_cVv (pc' := 25) hX dX12_who_22 rfl zm_yX12_laysSets zw_58_15 zc_164 (by decide) zs_46 (q := (RX12, TX12, 108)) rfl rfl (zc_X12_laysSets _ _ σ hI (zWF_M hW hF)) rfl rfl (Nat.le_of_ble_eq_true rfl) (by decide) (fun r11 s12 hr13 hp14 => ?_)
      obtain ⟨hI15, hF16⟩ := hp14
      have hF17 := zGM_tr hF hF16
      refine zt_iconst (pc' := 26) hX dX12_who_25 rfl ?_
      refine zt_aload_n (pc' := 27) hX dX12_who_26 rfl rfl ?_
      refine zt_cVi (pc' := 30) hX dX12_who_27 rfl zm_yX12_peopleMany zw_38_4 zc_164 (by decide) zs_46 (q := (RX12, TX12, 108)) rfl rfl (zc_X12_peopleMany _ _ s12 hI15 ) rfl rfl (Nat.le_of_ble_eq_true rfl) (by decide) (fun r18 s19 hr20 hp21 => ?_)
      obtain ⟨rfl, q22, q23, z24⟩ := hp21
      refine zt_ishl1 10 (pc' := 31) hX dX12_who_30 rfl ⟨by omega, by omega⟩ (by decide) (fun r25 er25 lr25 ur25 => ?_)
      have ur25 : r25 ≤ 1024 := by omega
      refine zt_iconst (pc' := 32) hX dX12_who_31 rfl ?_
      refine zt_isub (pc' := 33) hX dX12_who_32 rfl ?_
      refine zt_istore_n (pc' := 34) (lv' := [some (.ref (X.1.1 + 164)), some (.int (zI a1_)), some (.int (zI (r25 - 1))), none, none]) hX dX12_who_33 rfl hL (by decide) rfl ?_
      refine zt_iconst (pc' := 35) hX dX12_who_34 rfl ?_
      refine zt_istore_n (pc' := 36) (lv' := [some (.ref (X.1.1 + 164)), some (.int (zI a1_)), some (.int (zI (r25 - 1))), some (.int (zI 0)), none]) hX dX12_who_35 rfl hL (by decide) rfl ?_
      refine zt_iconst (pc' := 37) hX dX12_who_36 rfl ?_
      refine zt_istore (pc' := 39) (lv' := [some (.ref (X.1.1 + 164)), some (.int (zI a1_)), some (.int (zI (r25 - 1))), some (.int (zI 0)), some (.int (zI 0))]) hX dX12_who_37 rfl hL (by decide) rfl ?_
      have L_39_34 : ∀ (N : Nat) (x26 : Int) (x29 : Int) (x32 : Int), -2147483648 ≤ x26 → x26 ≤ 2147483647 → -2147483648 ≤ x29 → x29 ≤ 2147483647 → 0 ≤ x32 → x32 ≤ 1024 → ((1025 - x32).toNat) < N → zF X s12 39 [some (.ref (X.1.1 + 164)), some (.int (zI a1_)), some (.int (zI x26)), some (.int (zI x29)), some (.int (zI x32))] [] := by
        intro N
        induction N with
        | zero =>
          intro x26 x29 x32 h27 h28 h30 h31 h33 h34 hm36
          exact absurd hm36 (Nat.not_lt_zero _)
        | succ N ih37 =>
          intro x26 x29 x32 h27 h28 h30 h31 h33 h34 hm36
          refine zt_iload (pc' := 41) hX dX12_who_39 rfl rfl ?_
          refine zt_aload_n (pc' := 42) hX dX12_who_41 rfl rfl ?_
          have b38 := zv_46_67 hI15 zc_164
          refine zt_get (pc' := 45) (v := .int (zI (s12 164 67))) hX dX12_who_42 rfl zf_X12_526 (by decide) zc_164 zs_46 rfl ?_
          refine zt_icge (pc' := 48) (tgt := 74) hX dX12_who_45 rfl (by decide) ⟨by omega, by omega⟩ ⟨by omega, by omega⟩ (fun c39 => ?_) (fun c39 => ?_)
          · refine zt_iload_n (pc' := 75) hX dX12_who_74 rfl rfl ?_
            refine zt_ifne (pc' := 78) (tgt := 85) hX dX12_who_75 rfl (by decide) ⟨by omega, by omega⟩ (fun c40 => ?_) (fun c40 => ?_)
            · refine zt_iload_n (pc' := 86) hX dX12_who_85 rfl rfl ?_
              refine zt_iconst (pc' := 87) hX dX12_who_86 rfl ?_
              refine zt_icne (pc' := 90) (tgt := 105) hX dX12_who_87 rfl (by decide) ⟨by omega, by omega⟩ ⟨by omega, by omega⟩ (fun c41 => ?_) (fun c41 => ?_)
              · refine zt_iload_n (pc' := 106) hX dX12_who_105 rfl rfl ?_
                exact zt_iret hX hR dX12_who_106 ⟨by omega, by omega⟩ ⟨hI15, hF17, by omega, by omega⟩
              · refine zt_aload_n (pc' := 91) hX dX12_who_90 rfl rfl ?_
                refine zt_get (pc' := 94) (v := .int (zI (s12 164 67))) hX dX12_who_91 rfl zf_X12_526 (by decide) zc_164 zs_46 rfl ?_
                refine zt_ifne (pc' := 97) (tgt := 101) hX dX12_who_94 rfl (by decide) ⟨by omega, by omega⟩ (fun c42 => ?_) (fun c42 => ?_)
                · refine zt_iload_n (pc' := 102) hX dX12_who_101 rfl rfl ?_
                  refine zt_goto (tgt := 106) hX dX12_who_102 (by decide) ?_
                  exact zt_iret hX hR dX12_who_106 ⟨by omega, by omega⟩ ⟨hI15, hF17, by omega, by omega⟩
                · refine zt_iconst (pc' := 98) hX dX12_who_97 rfl ?_
                  refine zt_goto (tgt := 106) hX dX12_who_98 (by decide) ?_
                  exact zt_iret hX hR dX12_who_106 ⟨by omega, by omega⟩ ⟨hI15, hF17, by omega, by omega⟩
            · refine zt_aload_n (pc' := 79) hX dX12_who_78 rfl rfl ?_
              refine zt_get (pc' := 82) (v := .int (zI (s12 164 67))) hX dX12_who_79 rfl zf_X12_526 (by decide) zc_164 zs_46 rfl ?_
              refine zt_goto (tgt := 106) hX dX12_who_82 (by decide) ?_
              exact zt_iret hX hR dX12_who_106 ⟨by omega, by omega⟩ ⟨hI15, hF17, by omega, by omega⟩
          · refine zt_iload_n (pc' := 49) hX dX12_who_48 rfl rfl ?_
            refine zt_aload_n (pc' := 50) hX dX12_who_49 rfl rfl ?_
            refine zt_get (pc' := 53) (v := .ref (X.1.1 + 208)) hX dX12_who_50 rfl zf_X12_149 (by decide) zc_164 zs_46 (zrf_of (zv_46_66 hI15 zc_164)) ?_
            refine zt_iload (pc' := 55) hX dX12_who_53 rfl rfl ?_
            refine zt_iald (pc' := 56) hX dX12_who_55 rfl (by decide) zc_208 zs_90 (by decide) ⟨by omega, by omega⟩ ?_
            generalize hv43 : s12 208 (x32.toNat) = v43
            have bv43 : -2147483648 ≤ v43 ∧ v43 ≤ 2147483647 := hv43 ▸ zv_90 hI15 zc_208 _
            refine zt_iand (pc' := 57) hX dX12_who_56 rfl (fun r44 zr44 lr44 ur44 => ?_)
            clear zr44
            refine zt_istore_n (pc' := 58) (lv' := [some (.ref (X.1.1 + 164)), some (.int (zI a1_)), some (.int (zI r44)), some (.int (zI x29)), some (.int (zI x32))]) hX dX12_who_57 rfl hL (by decide) rfl ?_
            refine zt_iload_n (pc' := 59) hX dX12_who_58 rfl rfl ?_
            refine zt_aload_n (pc' := 60) hX dX12_who_59 rfl rfl ?_
            refine zt_get (pc' := 63) (v := .ref (X.1.1 + 208)) hX dX12_who_60 rfl zf_X12_149 (by decide) zc_164 zs_46 (zrf_of (zv_46_66 hI15 zc_164)) ?_
            refine zt_iload (pc' := 65) hX dX12_who_63 rfl rfl ?_
            refine zt_iald (pc' := 66) hX dX12_who_65 rfl (by decide) zc_208 zs_90 (by decide) ⟨by omega, by omega⟩ ?_
            generalize hv45 : s12 208 (x32.toNat) = v45
            have bv45 : -2147483648 ≤ v45 ∧ v45 ≤ 2147483647 := hv45 ▸ zv_90 hI15 zc_208 _
            refine zt_ior (pc' := 67) hX dX12_who_66 rfl (fun r46 zr46 lr46 ur46 => ?_)
            clear zr46
            refine zt_istore_n (pc' := 68) (lv' := [some (.ref (X.1.1 + 164)), some (.int (zI a1_)), some (.int (zI r44)), some (.int (zI r46)), some (.int (zI x32))]) hX dX12_who_67 rfl hL (by decide) rfl ?_
            refine zt_iinc (pc' := 71) (lv' := [some (.ref (X.1.1 + 164)), some (.int (zI a1_)), some (.int (zI r44)), some (.int (zI r46)), some (.int (zI (x32 + 1)))]) hX dX12_who_68 rfl rfl hL (by decide) rfl ?_
            refine zt_goto (tgt := 39) hX dX12_who_71 (by decide) ?_
            exact ih37 r44 r46 (x32 + 1) (by omega) (by omega) (by omega) (by omega) (by omega) (by omega) (by omega)
      exact L_39_34 _ (r25 - 1) 0 0 (by omega) (by omega) (by omega) (by omega) (by omega) (by omega) (Nat.lt_succ_self _)
    · refine zt_iconst (pc' := 20) hX dX12_who_19 rfl ?_
      exact zt_iret hX hR dX12_who_20 ⟨by omega, by omega⟩ ⟨hI, hF, by omega, by omega⟩

set_option maxRecDepth 100000 in
set_option maxHeartbeats 4000000 in
theorem zc_X12_chance (l : Launch) (E : zEN) (σ : zSto) (hI : zInv σ) (a1_ : Int) (ha1_ : -2147483648 ≤ a1_ ∧ a1_ ≤ 2147483647) (hW : zWF σ) : zCt l E yX12_chance cX12_chance 4 (some .int) 7 zNC zNC 0 0 σ [.ref (E.1 + 164), .int (zI a1_)] (fun r σ' => zInv σ' ∧ zGM σ σ' ∧ -2147483648 ≤ r ∧ r ≤ 2147483647) := by
  refine zCt_of2 [some (.ref (E.1 + 164)), some (.int (zI a1_)), none, none] (by decide +kernel) (Nat.le_of_ble_eq_true rfl) rfl ?_
  intro X hE hX hR hL hN
  subst hE
  have hX : zok X cX12_chance RX12 7 := hX
  have hF := zGM_rf σ
  have b1 := zv_46_50 hI zc_164
  refine zt_aload_n (pc' := 1) hX dX12_chance_0 rfl rfl ?_
  refine zt_iload_n (pc' := 2) hX dX12_chance_1 rfl rfl ?_
  refine zt_iconst (pc' := 3) hX dX12_chance_2 rfl ?_
  refine zt_bipush (pc' := 5) hX dX12_chance_3 rfl (by decide) (by decide) ?_
  refine zt_cVz (pc' := 8) hX dX12_chance_5 rfl zm_yX12_isAhead zw_49_17 zc_164 (by decide) zs_46 (q := (RX12, TX12, 108)) rfl rfl (zc_X12_isAhead _ _ σ hI a1_ ⟨by omega, by omega⟩ 1 ⟨by omega, by omega⟩ 100 ⟨by omega, by omega⟩) rfl rfl (Nat.le_of_ble_eq_true rfl) (by decide) (fun r2 s3 hr4 hp5 => ?_)
  obtain ⟨rfl, q6, q7, z8⟩ := hp5
  refine zt_ifne (pc' := 11) (tgt := 17) hX dX12_chance_8 rfl (by decide) ⟨by omega, by omega⟩ (fun c9 => ?_) (fun c9 => ?_)
  · refine zt_aload_n (pc' := 18) hX dX12_chance_17 rfl rfl ?_
    refine zt_cVv (pc' := 21) hX dX12_chance_18 rfl zm_yX12_keeps zw_60_23 zc_164 (by decide) zs_46 (q := (RX12, TX12, 108)) rfl rfl (zc_X12_keeps _ _ σ hI ) rfl rfl (Nat.le_of_ble_eq_true rfl) (by decide) (fun r10 s11 hr12 hp13 => ?_)
    obtain ⟨hI14, hF15⟩ := hp13
    have e16 := hF15.2.1.2.2.2.2.1
    have hF17 := zGM_tr hF hF15
    have b18 := zv_46_50 hI14 zc_164
    refine zt_iconst (pc' := 22) hX dX12_chance_21 rfl ?_
    refine zt_istore_n (pc' := 23) (lv' := [some (.ref (X.1.1 + 164)), some (.int (zI a1_)), some (.int (zI 0)), none]) hX dX12_chance_22 rfl hL (by decide) rfl ?_
    refine zt_iconst (pc' := 24) hX dX12_chance_23 rfl ?_
    refine zt_istore_n (pc' := 25) (lv' := [some (.ref (X.1.1 + 164)), some (.int (zI a1_)), some (.int (zI 0)), some (.int (zI 0))]) hX dX12_chance_24 rfl hL (by decide) rfl ?_
    have L_25_28 : ∀ (N : Nat) (x19 : Int) (x22 : Int) (s25 : zSto), -2147483648 ≤ x19 → x19 ≤ 2147483647 → 0 ≤ x22 → x22 ≤ 100 → zInv s25 → zGM σ s25 → s25 164 50 = 1 → ((101 - x22).toNat) < N → zF X s25 25 [some (.ref (X.1.1 + 164)), some (.int (zI a1_)), some (.int (zI x19)), some (.int (zI x22))] [] := by
      intro N
      induction N with
      | zero =>
        intro x19 x22 s25 h20 h21 h23 h24 hI26 hF27 g28 hm30
        exact absurd hm30 (Nat.not_lt_zero _)
      | succ N ih31 =>
        intro x19 x22 s25 h20 h21 h23 h24 hI26 hF27 g28 hm30
        have b32 := zv_46_50 hI26 zc_164
        refine zt_iload_n (pc' := 26) hX dX12_chance_25 rfl rfl ?_
        refine zt_iload_n (pc' := 27) hX dX12_chance_26 rfl rfl ?_
        refine zt_icge (pc' := 30) (tgt := 79) hX dX12_chance_27 rfl (by decide) ⟨by omega, by omega⟩ ⟨by omega, by omega⟩ (fun c33 => ?_) (fun c33 => ?_)
        · refine zt_iload_n (pc' := 80) hX dX12_chance_79 rfl rfl ?_
          exact zt_iret hX hR dX12_chance_80 ⟨by omega, by omega⟩ ⟨hI26, hF27, by omega, by omega⟩
        · refine zt_aload_n (pc' := 31) hX dX12_chance_30 rfl rfl ?_
          refine zt_bipush (pc' := 33) hX dX12_chance_31 rfl (by decide) (by decide) ?_
          refine zt_cVi (pc' := 36) hX dX12_chance_33 rfl zm_yX12_drawOf zw_63_6 zc_164 (by decide) zs_46 (q := (RX12, TX12, 108)) rfl rfl (zc_X12_drawOf _ _ s25 hI26 100 ⟨by omega, by omega⟩) rfl rfl (Nat.le_of_ble_eq_true rfl) (by decide) (fun r34 s35 hr36 hp37 => ?_)
          obtain ⟨hI38, hF39, q40, q41, z42⟩ := hp37
          have e43 := hF39.2.1.2.2.2.2.1
          have hF44 := zGM_tr hF27 hF39
          have b45 := zv_46_50 hI38 zc_164
          have h46 := zpr_M hF39
          refine zt_aload_n (pc' := 37) hX dX12_chance_36 rfl rfl ?_
          refine zt_get (pc' := 40) (v := .ref (X.1.1 + 199)) hX dX12_chance_37 rfl zf_X12_118 (by decide) zc_164 zs_46 (zrf_of (zv_46_44 hI38 zc_164)) ?_
          refine zt_iconst (pc' := 41) hX dX12_chance_40 rfl ?_
          refine zt_iald (pc' := 42) hX dX12_chance_41 rfl (by decide) zc_199 zs_81 (by decide) ⟨by omega, by omega⟩ ?_
          rw [show Int.toNat 5 = 5 from rfl]
          have b48 := zv_81 hI38 zc_199 5
          have J_64_55 : ∀ (x49 : Int) (s52 : zSto), -2147483648 ≤ x49 → x49 ≤ 2147483647 → zInv s52 → zGM σ s52 → s52 164 50 = 1 → zF X s52 64 [some (.ref (X.1.1 + 164)), some (.int (zI a1_)), some (.int (zI x49)), some (.int (zI x22))] [] := by
            intro x49 s52 h50 h51 hI53 hF54 g55
            have b57 := zv_46_50 hI53 zc_164
            refine zt_aload_n (pc' := 65) hX dX12_chance_64 rfl rfl ?_
            refine zt_cVv (pc' := 68) hX dX12_chance_65 rfl zm_yX12_hourGoes zw_50_7 zc_164 (by decide) zs_46 (q := (RX12, TX12, 108)) rfl rfl (zc_X12_hourGoes _ _ s52 hI53 (zWF_M hW hF54)) rfl rfl (Nat.le_of_ble_eq_true rfl) (by decide) (fun r58 s59 hr60 hp61 => ?_)
            obtain ⟨hI62, hF63⟩ := hp61
            have e64 := hF63.2.1.2.2.2.2.1
            have hF65 := zGM_tr hF54 hF63
            have b66 := zv_46_50 hI62 zc_164
            refine zt_aload_n (pc' := 69) hX dX12_chance_68 rfl rfl ?_
            refine zt_iconst (pc' := 70) hX dX12_chance_69 rfl ?_
            refine zt_put (pc' := 73) (x := (-1)) hX dX12_chance_70 rfl zf_X12_139 (by decide) zc_164 zs_46 (fun q hq => by cases hq; rfl) rfl rfl rfl ?_
            generalize hs68 : zset s59 164 58 (-1) = s67
            have hI69 : zInv s67 := hs68 ▸ zp_46_58 hI62 zc_164 ⟨by omega, by omega⟩
            have hF70 : zGM σ s67 := hs68 ▸ zGM_set hF65 zc_164 (by decide) zk_46 (Or.inr (by decide)) (by decide)
            have e71 : s67 164 50 = s59 164 50 := by rw [← hs68]; exact zset_j (by decide)
            refine zt_iinc (pc' := 76) (lv' := [some (.ref (X.1.1 + 164)), some (.int (zI a1_)), some (.int (zI x49)), some (.int (zI (x22 + 1)))]) hX dX12_chance_73 rfl rfl hL (by decide) rfl ?_
            refine zt_goto (tgt := 25) hX dX12_chance_76 (by decide) ?_
            exact ih31 x49 (x22 + 1) s67 (by omega) (by omega) (by omega) (by omega) hI69 hF70 (by omega) (by omega)
          refine zt_icge (pc' := 45) (tgt := 64) hX dX12_chance_42 rfl (by decide) ⟨by omega, by omega⟩ ⟨by omega, by omega⟩ (fun c72 => ?_) (fun c72 => ?_)
          · exact J_64_55 x19 s35 (by omega) (by omega) hI38 hF44 (by omega)
          · refine zt_aload_n (pc' := 46) hX dX12_chance_45 rfl rfl ?_
            refine zt_aload_n (pc' := 47) hX dX12_chance_46 rfl rfl ?_
            refine zt_aload_n (pc' := 48) hX dX12_chance_47 rfl rfl ?_
            refine zt_aload_n (pc' := 49) hX dX12_chance_48 rfl rfl ?_
            refine zt_cVi (pc' := 52) hX dX12_chance_49 rfl zm_yX12_cellMany zw_44_19 zc_164 (by decide) zs_46 (q := (RX12, TX12, 108)) rfl rfl (zc_X12_cellMany _ _ s35 hI38 ) rfl rfl (Nat.le_of_ble_eq_true rfl) (by decide) (fun r73 s74 hr75 hp76 => ?_)
            obtain ⟨rfl, q77, q78, z79⟩ := hp76
            have h80 := (zWF_M hW hF44).2.2
            refine zt_cVi (pc' := 55) hX dX12_chance_52 rfl zm_yX12_drawOf zw_63_6 zc_164 (by decide) zs_46 (q := (RX12, TX12, 108)) rfl rfl (zc_X12_drawOf _ _ s35 hI38 r73 ⟨by omega, by omega⟩) rfl rfl (Nat.le_of_ble_eq_true rfl) (by decide) (fun r81 s82 hr83 hp84 => ?_)
            obtain ⟨hI85, hF86, q87, q88, z89⟩ := hp84
            have e90 := hF86.2.1.2.2.2.2.1
            have hF91 := zGM_tr hF44 hF86
            have b92 := zv_46_50 hI85 zc_164
            have h93 := zpr_M hF86
            refine zt_cVi (pc' := 58) hX dX12_chance_55 rfl zm_yX12_cellOf zw_44_23 zc_164 (by decide) zs_46 (q := (RX12, TX12, 108)) rfl rfl (zc_X12_cellOf _ _ s82 hI85 r81 ⟨by omega, by omega⟩ (by omega)) rfl rfl (Nat.le_of_ble_eq_true rfl) (by decide) (fun r94 s95 hr96 hp97 => ?_)
            obtain ⟨rfl, q98, q99⟩ := hp97
            refine zt_put (pc' := 61) (x := r94) hX dX12_chance_58 rfl zf_X12_139 (by decide) zc_164 zs_46 (fun q hq => by cases hq; rfl) rfl rfl rfl ?_
            generalize hs101 : zset s82 164 58 r94 = s100
            have hI102 : zInv s100 := hs101 ▸ zp_46_58 hI85 zc_164 ⟨by omega, by omega⟩
            have hF103 : zGM σ s100 := hs101 ▸ zGM_set hF91 zc_164 (by decide) zk_46 (Or.inr (by decide)) (by decide)
            have e104 : s100 164 50 = s82 164 50 := by rw [← hs101]; exact zset_j (by decide)
            refine zt_iinc (pc' := 64) (lv' := [some (.ref (X.1.1 + 164)), some (.int (zI a1_)), some (.int (zI (x19 + 1))), some (.int (zI x22))]) hX dX12_chance_61 rfl rfl hL (by decide) rfl ?_
            obtain ⟨r105, er105, lr105, ur105⟩ := zwr (x19 + 1)
            rw [← er105]
            exact J_64_55 r105 s100 (by omega) (by omega) hI102 hF103 (by omega)
    exact L_25_28 _ 0 0 s11 (by omega) (by omega) (by omega) (by omega) hI14 hF17 (by omega) (Nat.lt_succ_self _)
  · refine zt_aload_n (pc' := 12) hX dX12_chance_11 rfl rfl ?_
    refine zt_iconst (pc' := 13) hX dX12_chance_12 rfl ?_
    refine zt_cVi (pc' := 16) hX dX12_chance_13 rfl zm_yX12_refuses zw_57_10 zc_164 (by decide) zs_46 (q := (RX12, TX12, 108)) rfl rfl (zc_X12_refuses _ _ σ hI 3 ⟨by omega, by omega⟩) rfl rfl (Nat.le_of_ble_eq_true rfl) (by decide) (fun r106 s107 hr108 hp109 => ?_)
    obtain ⟨hI110, hF111, q112, q113⟩ := hp109
    have e114 := hF111.2.1.2.2.2.2.1
    have hF115 := zGM_tr hF hF111
    have b116 := zv_46_50 hI110 zc_164
    exact zt_iret hX hR dX12_chance_16 ⟨by omega, by omega⟩ ⟨hI110, hF115, by omega, by omega⟩

set_option maxRecDepth 100000 in
set_option maxHeartbeats 4000000 in
theorem zc_X12_mostAlike (l : Launch) (E : zEN) (σ : zSto) (hI : zInv σ) (a1_ : Int) (ha1_ : 0 ≤ a1_ ∧ a1_ ≤ 35) (hpre0 : σ 164 54 = 0) : zCt l E yX12_mostAlike cX12_mostAlike 5 (some .int) 3 zNC zNC 0 0 σ [.ref (E.1 + 164), .int (zI a1_)] (fun r σ' => zInv σ' ∧ zGM σ σ' ∧ -2147483648 ≤ r ∧ r ≤ 2147483647) := by
  refine zCt_of2 [some (.ref (E.1 + 164)), some (.int (zI a1_)), none, none, none] (by decide +kernel) (Nat.le_of_ble_eq_true rfl) rfl ?_
  intro X hE hX hR hL hN
  subst hE
  have hX : zok X cX12_mostAlike RX12 3 := hX
  have hF := zGM_rf σ
  have b1 := zv_46_54 hI zc_164
  refine zt_iconst (pc' := 1) hX dX12_mostAlike_0 rfl ?_
  refine zt_istore_n (pc' := 2) (lv' := [some (.ref (X.1.1 + 164)), some (.int (zI a1_)), some (.int (zI 0)), none, none]) hX dX12_mostAlike_1 rfl hL (by decide) rfl ?_
  refine zt_iconst (pc' := 3) hX dX12_mostAlike_2 rfl ?_
  refine zt_istore_n (pc' := 4) (lv' := [some (.ref (X.1.1 + 164)), some (.int (zI a1_)), some (.int (zI 0)), some (.int (zI 0)), none]) hX dX12_mostAlike_3 rfl hL (by decide) rfl ?_
  have L_4_8 : ∀ (N : Nat) (x2 : Int) (s5 : zSto), 0 ≤ x2 → x2 ≤ 1000 → zInv s5 → zGM σ s5 → s5 164 54 = 0 → ((1001 - x2).toNat) < N → zF X s5 4 [some (.ref (X.1.1 + 164)), some (.int (zI a1_)), some (.int (zI 0)), some (.int (zI x2)), none] [] := by
    intro N
    induction N with
    | zero =>
      intro x2 s5 h3 h4 hI6 hF7 g8 hm10
      exact absurd hm10 (Nat.not_lt_zero _)
    | succ N ih11 =>
      intro x2 s5 h3 h4 hI6 hF7 g8 hm10
      have b12 := zv_46_54 hI6 zc_164
      refine zt_iload_n (pc' := 5) hX dX12_mostAlike_4 rfl rfl ?_
      refine zt_sipush (pc' := 8) hX dX12_mostAlike_5 rfl (by decide) (by decide) ?_
      refine zt_icge (pc' := 11) (tgt := 24) hX dX12_mostAlike_8 rfl (by decide) ⟨by omega, by omega⟩ ⟨by omega, by omega⟩ (fun c13 => ?_) (fun c13 => ?_)
      · refine zt_iconst (pc' := 25) hX dX12_mostAlike_24 rfl ?_
        refine zt_istore_n (pc' := 26) (lv' := [some (.ref (X.1.1 + 164)), some (.int (zI a1_)), some (.int (zI 0)), some (.int (zI 0)), none]) hX dX12_mostAlike_25 rfl hL (by decide) rfl ?_
        have L_26_23 : ∀ (N : Nat) (x14 : Int) (x17 : Int) (s20 : zSto), -2147483648 ≤ x14 → x14 ≤ 2147483647 → 0 ≤ x17 → x17 ≤ 1024 → zInv s20 → zGM σ s20 → s20 164 54 = 0 → ((1025 - x17).toNat) < N → zF X s20 26 [some (.ref (X.1.1 + 164)), some (.int (zI a1_)), some (.int (zI x14)), some (.int (zI x17)), none] [] := by
          intro N
          induction N with
          | zero =>
            intro x14 x17 s20 h15 h16 h18 h19 hI21 hF22 g23 hm25
            exact absurd hm25 (Nat.not_lt_zero _)
          | succ N ih26 =>
            intro x14 x17 s20 h15 h16 h18 h19 hI21 hF22 g23 hm25
            have b27 := zv_46_54 hI21 zc_164
            refine zt_iload_n (pc' := 27) hX dX12_mostAlike_26 rfl rfl ?_
            refine zt_aload_n (pc' := 28) hX dX12_mostAlike_27 rfl rfl ?_
            have b28 := zv_46_67 hI21 zc_164
            refine zt_get (pc' := 31) (v := .int (zI (s20 164 67))) hX dX12_mostAlike_28 rfl zf_X12_526 (by decide) zc_164 zs_46 rfl ?_
            refine zt_icge (pc' := 34) (tgt := 83) hX dX12_mostAlike_31 rfl (by decide) ⟨by omega, by omega⟩ ⟨by omega, by omega⟩ (fun c29 => ?_) (fun c29 => ?_)
            · refine zt_iload_n (pc' := 84) hX dX12_mostAlike_83 rfl rfl ?_
              exact zt_iret hX hR dX12_mostAlike_84 ⟨by omega, by omega⟩ ⟨hI21, hF22, by omega, by omega⟩
            · refine zt_aload_n (pc' := 35) hX dX12_mostAlike_34 rfl rfl ?_
              refine zt_aload_n (pc' := 36) hX dX12_mostAlike_35 rfl rfl ?_
              refine zt_get (pc' := 39) (v := .ref (X.1.1 + 208)) hX dX12_mostAlike_36 rfl zf_X12_149 (by decide) zc_164 zs_46 (zrf_of (zv_46_66 hI21 zc_164)) ?_
              refine zt_iload_n (pc' := 40) hX dX12_mostAlike_39 rfl rfl ?_
              refine zt_iald (pc' := 41) hX dX12_mostAlike_40 rfl (by decide) zc_208 zs_90 (by decide) ⟨by omega, by omega⟩ ?_
              generalize hv30 : s20 208 (x17.toNat) = v30
              have bv30 : -2147483648 ≤ v30 ∧ v30 ≤ 2147483647 := hv30 ▸ zv_90 hI21 zc_208 _
              refine zt_iload_n (pc' := 42) hX dX12_mostAlike_41 rfl rfl ?_
              refine zt_cVi (pc' := 45) hX dX12_mostAlike_42 rfl zm_yX12_liftBy zw_46_7 zc_164 (by decide) zs_46 (q := (RX12, TX12, 108)) rfl rfl (zc_X12_liftBy _ _ s20 hI21 v30 ⟨by omega, by omega⟩ a1_ ⟨by omega, by omega⟩) rfl rfl (Nat.le_of_ble_eq_true rfl) (by decide) (fun r31 s32 hr33 hp34 => ?_)
              obtain ⟨rfl, q35, q36, z37⟩ := hp34
              refine zt_istore (pc' := 47) (lv' := [some (.ref (X.1.1 + 164)), some (.int (zI a1_)), some (.int (zI x14)), some (.int (zI x17)), some (.int (zI r31))]) hX dX12_mostAlike_45 rfl hL (by decide) rfl ?_
              refine zt_aload_n (pc' := 48) hX dX12_mostAlike_47 rfl rfl ?_
              refine zt_get (pc' := 51) (v := .ref (X.1.1 + 209)) hX dX12_mostAlike_48 rfl zf_X12_152 (by decide) zc_164 zs_46 (zrf_of (zv_46_68 hI21 zc_164)) ?_
              refine zt_iload (pc' := 53) hX dX12_mostAlike_51 rfl rfl ?_
              refine zt_dup2 (pc' := 54) hX dX12_mostAlike_53 rfl rfl rfl ?_
              refine zt_iald (pc' := 55) hX dX12_mostAlike_54 rfl (by decide) zc_209 zs_91 (by decide) ⟨by omega, by omega⟩ ?_
              generalize hv38 : s20 209 (r31.toNat) = v38
              have bv38 : -2147483648 ≤ v38 ∧ v38 ≤ 2147483647 := hv38 ▸ zv_91 hI21 zc_209 _
              refine zt_iconst (pc' := 56) hX dX12_mostAlike_55 rfl ?_
              refine zt_iadd (pc' := 57) hX dX12_mostAlike_56 rfl ?_
              refine zt_wrap (fun r39 zr39 lr39 ur39 => ?_)
              clear zr39
              refine zt_iast (pc' := 58) hX dX12_mostAlike_57 rfl (by decide) zc_209 zs_91 (by decide) ⟨by omega, by omega⟩ ?_
              generalize hs41 : zset s20 209 (r31.toNat) r39 = s40
              have hI42 : zInv s40 := hs41 ▸ zp_91 hI21 zc_209 (r31.toNat) ⟨by omega, by omega⟩
              have hF43 : zGM σ s40 := hs41 ▸ zGM_set hF22 zc_209 (by decide) zk_91 (Or.inl (by decide)) (by decide)
              have e44 : s40 164 54 = s20 164 54 := by rw [← hs41]; exact zset_k (zne_r zc_164 zc_209 (by decide))
              refine zt_aload_n (pc' := 59) hX dX12_mostAlike_58 rfl rfl ?_
              refine zt_get (pc' := 62) (v := .ref (X.1.1 + 209)) hX dX12_mostAlike_59 rfl zf_X12_152 (by decide) zc_164 zs_46 (zrf_of (zv_46_68 hI42 zc_164)) ?_
              refine zt_iload (pc' := 64) hX dX12_mostAlike_62 rfl rfl ?_
              refine zt_iald (pc' := 65) hX dX12_mostAlike_64 rfl (by decide) zc_209 zs_91 (by decide) ⟨by omega, by omega⟩ ?_
              generalize hv45 : s40 209 (r31.toNat) = v45
              have bv45 : -2147483648 ≤ v45 ∧ v45 ≤ 2147483647 := hv45 ▸ zv_91 hI42 zc_209 _
              refine zt_iload_n (pc' := 66) hX dX12_mostAlike_65 rfl rfl ?_
              have J_77_48 : ∀ (x46 : Int), -2147483648 ≤ x46 → x46 ≤ 2147483647 → zF X s40 77 [some (.ref (X.1.1 + 164)), some (.int (zI a1_)), some (.int (zI x46)), some (.int (zI x17)), none] [] := by
                intro x46 h47 h48
                refine zt_iinc (pc' := 80) (lv' := [some (.ref (X.1.1 + 164)), some (.int (zI a1_)), some (.int (zI x46)), some (.int (zI (x17 + 1))), none]) hX dX12_mostAlike_77 rfl rfl hL (by decide) rfl ?_
                refine zt_goto (tgt := 26) hX dX12_mostAlike_80 (by decide) ?_
                exact ih26 x46 (x17 + 1) s40 (by omega) (by omega) (by omega) (by omega) hI42 hF43 (by omega) (by omega)
              refine zt_icle (pc' := 69) (tgt := 77) hX dX12_mostAlike_66 rfl (by decide) ⟨by omega, by omega⟩ ⟨by omega, by omega⟩ (fun c50 => ?_) (fun c50 => ?_)
              · refine zt_mask [true, true, true, true, false] rfl ?_
                exact J_77_48 x14 (by omega) (by omega)
              · refine zt_aload_n (pc' := 70) hX dX12_mostAlike_69 rfl rfl ?_
                refine zt_get (pc' := 73) (v := .ref (X.1.1 + 209)) hX dX12_mostAlike_70 rfl zf_X12_152 (by decide) zc_164 zs_46 (zrf_of (zv_46_68 hI42 zc_164)) ?_
                refine zt_iload (pc' := 75) hX dX12_mostAlike_73 rfl rfl ?_
                refine zt_iald (pc' := 76) hX dX12_mostAlike_75 rfl (by decide) zc_209 zs_91 (by decide) ⟨by omega, by omega⟩ ?_
                generalize hv51 : s40 209 (r31.toNat) = v51
                have bv51 : -2147483648 ≤ v51 ∧ v51 ≤ 2147483647 := hv51 ▸ zv_91 hI42 zc_209 _
                refine zt_istore_n (pc' := 77) (lv' := [some (.ref (X.1.1 + 164)), some (.int (zI a1_)), some (.int (zI v51)), some (.int (zI x17)), some (.int (zI r31))]) hX dX12_mostAlike_76 rfl hL (by decide) rfl ?_
                refine zt_mask [true, true, true, true, false] rfl ?_
                exact J_77_48 v51 (by omega) (by omega)
        exact L_26_23 _ 0 0 s5 (by omega) (by omega) (by omega) (by omega) hI6 hF7 (by omega) (Nat.lt_succ_self _)
      · refine zt_aload_n (pc' := 12) hX dX12_mostAlike_11 rfl rfl ?_
        refine zt_get (pc' := 15) (v := .ref (X.1.1 + 209)) hX dX12_mostAlike_12 rfl zf_X12_152 (by decide) zc_164 zs_46 (zrf_of (zv_46_68 hI6 zc_164)) ?_
        refine zt_iload_n (pc' := 16) hX dX12_mostAlike_15 rfl rfl ?_
        refine zt_iconst (pc' := 17) hX dX12_mostAlike_16 rfl ?_
        refine zt_iast (pc' := 18) hX dX12_mostAlike_17 rfl (by decide) zc_209 zs_91 (by decide) ⟨by omega, by omega⟩ ?_
        generalize hs53 : zset s5 209 (x2.toNat) 0 = s52
        have hI54 : zInv s52 := hs53 ▸ zp_91 hI6 zc_209 (x2.toNat) ⟨by omega, by omega⟩
        have hF55 : zGM σ s52 := hs53 ▸ zGM_set hF7 zc_209 (by decide) zk_91 (Or.inl (by decide)) (by decide)
        have e56 : s52 164 54 = s5 164 54 := by rw [← hs53]; exact zset_k (zne_r zc_164 zc_209 (by decide))
        refine zt_iinc (pc' := 21) (lv' := [some (.ref (X.1.1 + 164)), some (.int (zI a1_)), some (.int (zI 0)), some (.int (zI (x2 + 1))), none]) hX dX12_mostAlike_18 rfl rfl hL (by decide) rfl ?_
        refine zt_goto (tgt := 4) hX dX12_mostAlike_21 (by decide) ?_
        exact ih11 (x2 + 1) s52 (by omega) (by omega) hI54 hF55 (by omega) (by omega)
  exact L_4_8 _ 0 σ (by omega) (by omega) hI hF (by omega) (Nat.lt_succ_self _)

set_option maxRecDepth 100000 in
set_option maxHeartbeats 4000000 in
theorem zc_X12_knock (l : Launch) (E : zEN) (σ : zSto) (hI : zInv σ) (a1_ : Int) (ha1_ : -2147483648 ≤ a1_ ∧ a1_ ≤ 2147483647) (hpre0 : σ 164 54 = 0) (hW : zWF σ) : zCt l E yX12_knock cX12_knock 7 (some .int) 7 zNC zNC 0 0 σ [.ref (E.1 + 164), .int (zI a1_)] (fun r σ' => zInv σ' ∧ zGM σ σ' ∧ -2147483648 ≤ r ∧ r ≤ 2147483647) := by
  refine zCt_of2 [some (.ref (E.1 + 164)), some (.int (zI a1_)), none, none, none, none, none] (by decide +kernel) (Nat.le_of_ble_eq_true rfl) rfl ?_
  intro X hE hX hR hL hN
  subst hE
  have hX : zok X cX12_knock RX12 7 := hX
  have hF := zGM_rf σ
  have b1 := zv_46_54 hI zc_164
  refine zt_aload_n (pc' := 1) hX dX12_knock_0 rfl rfl ?_
  have b2 := zv_46_50 hI zc_164
  refine zt_get (pc' := 4) (v := .int (zI (σ 164 50))) hX dX12_knock_1 rfl zf_X12_375 (by decide) zc_164 zs_46 rfl ?_
  refine zt_ifeq (pc' := 7) (tgt := 19) hX dX12_knock_4 rfl (by decide) ⟨by omega, by omega⟩ (fun c3 => ?_) (fun c3 => ?_)
  · refine zt_iconst (pc' := 20) hX dX12_knock_19 rfl ?_
    exact zt_iret hX hR dX12_knock_20 ⟨by omega, by omega⟩ ⟨hI, hF, by omega, by omega⟩
  · refine zt_iload_n (pc' := 8) hX dX12_knock_7 rfl rfl ?_
    refine zt_i2l (pc' := 9) hX dX12_knock_8 rfl ⟨by omega, by omega⟩ ?_
    refine zt_lconst (pc' := 10) (y := 0) hX dX12_knock_9 rfl (by decide +kernel) ?_
    refine zt_ldc2 (pc' := 13) (x := 2) hX dX12_knock_10 rfl zw_47_21 (by decide +kernel) ?_
    refine zt_cSz (pc' := 16) hX dX12_knock_13 rfl zm_yX12_isIn zw_27_7 (zc_X12_isIn _ _ σ  a1_ ⟨by omega, by omega⟩ 0 ⟨by omega, by omega⟩ 2 ⟨by omega, by omega⟩) rfl rfl (Nat.le_of_ble_eq_true rfl) (by decide) (fun r4 s5 hr6 hp7 => ?_)
    obtain ⟨rfl, q8, q9, z10⟩ := hp7
    refine zt_ifne (pc' := 19) (tgt := 21) hX dX12_knock_16 rfl (by decide) ⟨by omega, by omega⟩ (fun c11 => ?_) (fun c11 => ?_)
    · refine zt_aload_n (pc' := 22) hX dX12_knock_21 rfl rfl ?_
      refine zt_cVv (pc' := 25) hX dX12_knock_22 rfl zm_yX12_laysSets zw_58_15 zc_164 (by decide) zs_46 (q := (RX12, TX12, 108)) rfl rfl (zc_X12_laysSets _ _ σ hI (zWF_M hW hF)) rfl rfl (Nat.le_of_ble_eq_true rfl) (by decide) (fun r12 s13 hr14 hp15 => ?_)
      obtain ⟨hI16, hF17⟩ := hp15
      have e18 := hF17.2.2
      have hF19 := zGM_tr hF hF17
      have b20 := zv_46_54 hI16 zc_164
      refine zt_iconst (pc' := 26) hX dX12_knock_25 rfl ?_
      refine zt_istore_n (pc' := 27) (lv' := [some (.ref (X.1.1 + 164)), some (.int (zI a1_)), some (.int (zI (-1))), none, none, none, none]) hX dX12_knock_26 rfl hL (by decide) rfl ?_
      refine zt_iconst (pc' := 28) hX dX12_knock_27 rfl ?_
      refine zt_istore_n (pc' := 29) (lv' := [some (.ref (X.1.1 + 164)), some (.int (zI a1_)), some (.int (zI (-1))), some (.int (zI 0)), none, none, none]) hX dX12_knock_28 rfl hL (by decide) rfl ?_
      refine zt_iconst (pc' := 30) hX dX12_knock_29 rfl ?_
      refine zt_istore (pc' := 32) (lv' := [some (.ref (X.1.1 + 164)), some (.int (zI a1_)), some (.int (zI (-1))), some (.int (zI 0)), some (.int (zI 0)), none, none]) hX dX12_knock_30 rfl hL (by decide) rfl ?_
      have L_32_33 : ∀ (N : Nat) (x21 : Int) (x24 : Int) (x27 : Int) (s30 : zSto), -1 ≤ x21 → x21 ≤ 35 → -2147483648 ≤ x24 → x24 ≤ 2147483647 → 0 ≤ x27 → x27 ≤ 36 → zInv s30 → zGM σ s30 → s30 164 54 = 0 → ((37 - x27).toNat) < N → zF X s30 32 [some (.ref (X.1.1 + 164)), some (.int (zI a1_)), some (.int (zI x21)), some (.int (zI x24)), some (.int (zI x27)), none, none] [] := by
        intro N
        induction N with
        | zero =>
          intro x21 x24 x27 s30 h22 h23 h25 h26 h28 h29 hI31 hF32 g33 hm35
          exact absurd hm35 (Nat.not_lt_zero _)
        | succ N ih36 =>
          intro x21 x24 x27 s30 h22 h23 h25 h26 h28 h29 hI31 hF32 g33 hm35
          have b37 := zv_46_54 hI31 zc_164
          refine zt_iload (pc' := 34) hX dX12_knock_32 rfl rfl ?_
          refine zt_aload_n (pc' := 35) hX dX12_knock_34 rfl rfl ?_
          refine zt_cVi (pc' := 38) hX dX12_knock_35 rfl zm_yX12_cellMany zw_44_19 zc_164 (by decide) zs_46 (q := (RX12, TX12, 108)) rfl rfl (zc_X12_cellMany _ _ s30 hI31 ) rfl rfl (Nat.le_of_ble_eq_true rfl) (by decide) (fun r38 s39 hr40 hp41 => ?_)
          obtain ⟨rfl, q42, q43, z44⟩ := hp41
          have J_102_44 : zF X s30 102 [none, some (.int (zI a1_)), some (.int (zI x21)), some (.int (zI x24)), none, none, none] [] := by
            refine zt_iload_n (pc' := 103) hX dX12_knock_102 rfl rfl ?_
            refine zt_iconst (pc' := 104) hX dX12_knock_103 rfl ?_
            refine zt_icne (pc' := 107) (tgt := 111) hX dX12_knock_104 rfl (by decide) ⟨by omega, by omega⟩ ⟨by omega, by omega⟩ (fun c46 => ?_) (fun c46 => ?_)
            · refine zt_iload_n (pc' := 112) hX dX12_knock_111 rfl rfl ?_
              refine zt_ifne (pc' := 115) (tgt := 122) hX dX12_knock_112 rfl (by decide) ⟨by omega, by omega⟩ (fun c47 => ?_) (fun c47 => ?_)
              · refine zt_iload_n (pc' := 123) hX dX12_knock_122 rfl rfl ?_
                refine zt_iconst (pc' := 124) hX dX12_knock_123 rfl ?_
                refine zt_icne (pc' := 127) (tgt := 134) hX dX12_knock_124 rfl (by decide) ⟨by omega, by omega⟩ ⟨by omega, by omega⟩ (fun c48 => ?_) (fun c48 => ?_)
                · refine zt_iload_n (pc' := 135) hX dX12_knock_134 rfl rfl ?_
                  exact zt_iret hX hR dX12_knock_135 ⟨by omega, by omega⟩ ⟨hI31, hF32, by omega, by omega⟩
                · refine zt_iload_n (pc' := 128) hX dX12_knock_127 rfl rfl ?_
                  refine zt_bipush (pc' := 130) hX dX12_knock_128 rfl (by decide) (by decide) ?_
                  refine zt_idiv (pc' := 131) hX dX12_knock_130 rfl ⟨by omega, by omega⟩ ⟨by omega, by omega⟩ (fun r49 er49 br49 => ?_)
                  rw [ztd_p (by omega)] at er49
                  refine zt_goto (tgt := 135) hX dX12_knock_131 (by decide) ?_
                  exact zt_iret hX hR dX12_knock_135 ⟨by omega, by omega⟩ ⟨hI31, hF32, by omega, by omega⟩
              · refine zt_iload_n (pc' := 116) hX dX12_knock_115 rfl rfl ?_
                refine zt_bipush (pc' := 118) hX dX12_knock_116 rfl (by decide) (by decide) ?_
                refine zt_irem (pc' := 119) hX dX12_knock_118 rfl ⟨by omega, by omega⟩ ⟨by omega, by omega⟩ (fun r50 er50 br50 nr50 => ?_)
                rw [ztm_p (by omega)] at er50
                refine zt_goto (tgt := 135) hX dX12_knock_119 (by decide) ?_
                exact zt_iret hX hR dX12_knock_135 ⟨by omega, by omega⟩ ⟨hI31, hF32, by omega, by omega⟩
            · refine zt_iconst (pc' := 108) hX dX12_knock_107 rfl ?_
              refine zt_goto (tgt := 135) hX dX12_knock_108 (by decide) ?_
              exact zt_iret hX hR dX12_knock_135 ⟨by omega, by omega⟩ ⟨hI31, hF32, by omega, by omega⟩
          refine zt_icge (pc' := 41) (tgt := 102) hX dX12_knock_38 rfl (by decide) ⟨by omega, by omega⟩ ⟨by omega, by omega⟩ (fun c51 => ?_) (fun c51 => ?_)
          · refine zt_mask [false, true, true, true, false, false, false] rfl ?_
            exact J_102_44
          · refine zt_aload_n (pc' := 42) hX dX12_knock_41 rfl rfl ?_
            have b52 := zv_46_67 hI31 zc_164
            refine zt_get (pc' := 45) (v := .int (zI (s30 164 67))) hX dX12_knock_42 rfl zf_X12_526 (by decide) zc_164 zs_46 rfl ?_
            refine zt_ifle (pc' := 48) (tgt := 102) hX dX12_knock_45 rfl (by decide) ⟨by omega, by omega⟩ (fun c53 => ?_) (fun c53 => ?_)
            · refine zt_mask [false, true, true, true, false, false, false] rfl ?_
              exact J_102_44
            · refine zt_aload_n (pc' := 49) hX dX12_knock_48 rfl rfl ?_
              refine zt_iload (pc' := 51) hX dX12_knock_49 rfl rfl ?_
              refine zt_cVi (pc' := 54) hX dX12_knock_51 rfl zm_yX12_cellOf zw_44_23 zc_164 (by decide) zs_46 (q := (RX12, TX12, 108)) rfl rfl (zc_X12_cellOf _ _ s30 hI31 x27 ⟨by omega, by omega⟩ (by omega)) rfl rfl (Nat.le_of_ble_eq_true rfl) (by decide) (fun r54 s55 hr56 hp57 => ?_)
              obtain ⟨rfl, q58, q59⟩ := hp57
              refine zt_istore (pc' := 56) (lv' := [some (.ref (X.1.1 + 164)), some (.int (zI a1_)), some (.int (zI x21)), some (.int (zI x24)), some (.int (zI x27)), some (.int (zI r54)), none]) hX dX12_knock_54 rfl hL (by decide) rfl ?_
              refine zt_aload_n (pc' := 57) hX dX12_knock_56 rfl rfl ?_
              refine zt_iload (pc' := 59) hX dX12_knock_57 rfl rfl ?_
              refine zt_cVz (pc' := 62) hX dX12_knock_59 rfl zm_yX12_isCracked zw_45_3 zc_164 (by decide) zs_46 (q := (RX12, TX12, 108)) rfl rfl (zc_X12_isCracked _ _ s30 hI31 r54 ⟨by omega, by omega⟩) rfl rfl (Nat.le_of_ble_eq_true rfl) (by decide) (fun r60 s61 hr62 hp63 => ?_)
              obtain ⟨rfl, q64, q65⟩ := hp63
              have J_96_75 : ∀ (x66 : Int) (x69 : Int) (s72 : zSto), -1 ≤ x66 → x66 ≤ 35 → -2147483648 ≤ x69 → x69 ≤ 2147483647 → zInv s72 → zGM σ s72 → s72 164 54 = 0 → zF X s72 96 [some (.ref (X.1.1 + 164)), some (.int (zI a1_)), some (.int (zI x66)), some (.int (zI x69)), some (.int (zI x27)), none, none] [] := by
                intro x66 x69 s72 h67 h68 h70 h71 hI73 hF74 g75
                have b77 := zv_46_54 hI73 zc_164
                refine zt_iinc (pc' := 99) (lv' := [some (.ref (X.1.1 + 164)), some (.int (zI a1_)), some (.int (zI x66)), some (.int (zI x69)), some (.int (zI (x27 + 1))), none, none]) hX dX12_knock_96 rfl rfl hL (by decide) rfl ?_
                refine zt_goto (tgt := 32) hX dX12_knock_99 (by decide) ?_
                exact ih36 x66 x69 (x27 + 1) s72 (by omega) (by omega) (by omega) (by omega) (by omega) (by omega) hI73 hF74 (by omega) (by omega)
              refine zt_ifeq (pc' := 65) (tgt := 68) hX dX12_knock_62 rfl (by decide) ⟨by omega, by omega⟩ (fun c78 => ?_) (fun c78 => ?_)
              · refine zt_aload_n (pc' := 69) hX dX12_knock_68 rfl rfl ?_
                refine zt_iload (pc' := 71) hX dX12_knock_69 rfl rfl ?_
                refine zt_cVi (pc' := 74) hX dX12_knock_71 rfl zm_yX12_mostAlike zw_59_17 zc_164 (by decide) zs_46 (q := (RX12, TX12, 108)) rfl rfl (zc_X12_mostAlike _ _ s30 hI31 r54 ⟨by omega, by omega⟩ (by omega)) rfl rfl (Nat.le_of_ble_eq_true rfl) (by decide) (fun r79 s80 hr81 hp82 => ?_)
                obtain ⟨hI83, hF84, q85, q86⟩ := hp82
                have e87 := hF84.2.2
                have hF88 := zGM_tr hF32 hF84
                have b89 := zv_46_54 hI83 zc_164
                refine zt_istore (pc' := 76) (lv' := [some (.ref (X.1.1 + 164)), some (.int (zI a1_)), some (.int (zI x21)), some (.int (zI x24)), some (.int (zI x27)), some (.int (zI r54)), some (.int (zI r79))]) hX dX12_knock_74 rfl hL (by decide) rfl ?_
                refine zt_iload_n (pc' := 77) hX dX12_knock_76 rfl rfl ?_
                refine zt_iconst (pc' := 78) hX dX12_knock_77 rfl ?_
                have J_90_89 : zF X s80 90 [some (.ref (X.1.1 + 164)), some (.int (zI a1_)), none, none, some (.int (zI x27)), some (.int (zI r54)), some (.int (zI r79))] [] := by
                  refine zt_iload (pc' := 92) hX dX12_knock_90 rfl rfl ?_
                  refine zt_istore_n (pc' := 93) (lv' := [some (.ref (X.1.1 + 164)), some (.int (zI a1_)), some (.int (zI r54)), none, some (.int (zI x27)), some (.int (zI r54)), some (.int (zI r79))]) hX dX12_knock_92 rfl hL (by decide) rfl ?_
                  refine zt_iload (pc' := 95) hX dX12_knock_93 rfl rfl ?_
                  refine zt_istore_n (pc' := 96) (lv' := [some (.ref (X.1.1 + 164)), some (.int (zI a1_)), some (.int (zI r54)), some (.int (zI r79)), some (.int (zI x27)), some (.int (zI r54)), some (.int (zI r79))]) hX dX12_knock_95 rfl hL (by decide) rfl ?_
                  refine zt_mask [true, true, true, true, true, false, false] rfl ?_
                  exact J_96_75 r54 r79 s80 (by omega) (by omega) (by omega) (by omega) hI83 hF88 (by omega)
                refine zt_iceq (pc' := 81) (tgt := 90) hX dX12_knock_78 rfl (by decide) ⟨by omega, by omega⟩ ⟨by omega, by omega⟩ (fun c91 => ?_) (fun c91 => ?_)
                · refine zt_mask [true, true, false, false, true, true, true] rfl ?_
                  exact J_90_89
                · refine zt_iload (pc' := 83) hX dX12_knock_81 rfl rfl ?_
                  refine zt_iload_n (pc' := 84) hX dX12_knock_83 rfl rfl ?_
                  refine zt_iclt (pc' := 87) (tgt := 90) hX dX12_knock_84 rfl (by decide) ⟨by omega, by omega⟩ ⟨by omega, by omega⟩ (fun c92 => ?_) (fun c92 => ?_)
                  · refine zt_mask [true, true, false, false, true, true, true] rfl ?_
                    exact J_90_89
                  · refine zt_goto (tgt := 96) hX dX12_knock_87 (by decide) ?_
                    refine zt_mask [true, true, true, true, true, false, false] rfl ?_
                    exact J_96_75 x21 x24 s80 (by omega) (by omega) (by omega) (by omega) hI83 hF88 (by omega)
              · refine zt_goto (tgt := 96) hX dX12_knock_65 (by decide) ?_
                refine zt_mask [true, true, true, true, true, false, false] rfl ?_
                exact J_96_75 x21 x24 s30 (by omega) (by omega) (by omega) (by omega) hI31 hF32 (by omega)
      exact L_32_33 _ (-1) 0 0 s13 (by omega) (by omega) (by omega) (by omega) (by omega) (by omega) hI16 hF19 (by omega) (Nat.lt_succ_self _)
    · refine zt_iconst (pc' := 20) hX dX12_knock_19 rfl ?_
      exact zt_iret hX hR dX12_knock_20 ⟨by omega, by omega⟩ ⟨hI, hF, by omega, by omega⟩

set_option maxRecDepth 100000 in
set_option maxHeartbeats 4000000 in
theorem zc_X12_feed (l : Launch) (E : zEN) (σ : zSto) (hI : zInv σ) (a1_ : Int) (ha1_ : -2147483648 ≤ a1_ ∧ a1_ ≤ 2147483647) (a2_ : Int) (ha2_ : -2147483648 ≤ a2_ ∧ a2_ ≤ 2147483647) (a3_ : Int) (ha3_ : -2147483648 ≤ a3_ ∧ a3_ ≤ 2147483647) (a4_ : Int) (ha4_ : -2147483648 ≤ a4_ ∧ a4_ ≤ 2147483647) (a5_ : Int) (ha5_ : -2147483648 ≤ a5_ ∧ a5_ ≤ 2147483647) : zCt l E yX12_feed cX12_feed 8 (some .int) 0 zNC zNC 0 0 σ [.ref (E.1 + 164), .int (zI a1_), .int (zI a2_), .int (zI a3_), .int (zI a4_), .int (zI a5_)] (fun r σ' => zInv σ' ∧ zGT σ σ' ∧ -1 ≤ r ∧ r ≤ 1600 ∧ ((σ 164 1 > 1580 → r = -1 ∧ σ' 164 1 = σ 164 1) ∧ (σ 164 1 ≤ 1580 → r = σ 164 1 + 20 ∧ σ' 164 1 = σ 164 1 + 20))) := by
  refine zCt_of2 [some (.ref (E.1 + 164)), some (.int (zI a1_)), some (.int (zI a2_)), some (.int (zI a3_)), some (.int (zI a4_)), some (.int (zI a5_)), none, none] (by decide +kernel) (Nat.le_of_ble_eq_true rfl) rfl ?_
  intro X hE hX hR hL hN
  subst hE
  have hX : zok X cX12_feed RX12 0 := hX
  have hF := zGT_rf σ
  have b1 := zv_46_1 hI zc_164
  refine zt_aload_n (pc' := 1) hX dX12_feed_0 rfl rfl ?_
  have b2 := zv_46_1 hI zc_164
  refine zt_get (pc' := 4) (v := .int (zI (σ 164 1))) hX dX12_feed_1 rfl zf_X12_243 (by decide) zc_164 zs_46 rfl ?_
  refine zt_bipush (pc' := 6) hX dX12_feed_4 rfl (by decide) (by decide) ?_
  refine zt_iadd (pc' := 7) hX dX12_feed_6 rfl ?_
  refine zt_sipush (pc' := 10) hX dX12_feed_7 rfl (by decide) (by decide) ?_
  refine zt_icle (pc' := 13) (tgt := 25) hX dX12_feed_10 rfl (by decide) ⟨by omega, by omega⟩ ⟨by omega, by omega⟩ (fun c3 => ?_) (fun c3 => ?_)
  · refine zt_iconst (pc' := 26) hX dX12_feed_25 rfl ?_
    refine zt_istore (pc' := 28) (lv' := [some (.ref (X.1.1 + 164)), some (.int (zI a1_)), some (.int (zI a2_)), some (.int (zI a3_)), some (.int (zI a4_)), some (.int (zI a5_)), some (.int (zI 0)), none]) hX dX12_feed_26 rfl hL (by decide) rfl ?_
    have L_28_10 : ∀ (N : Nat) (x4 : Int) (s7 : zSto), 0 ≤ x4 → x4 ≤ 20 → zInv s7 → zGT σ s7 → s7 164 1 = σ 164 1 + x4 → ((21 - x4).toNat) < N → zF X s7 28 [some (.ref (X.1.1 + 164)), some (.int (zI a1_)), some (.int (zI a2_)), some (.int (zI a3_)), some (.int (zI a4_)), some (.int (zI a5_)), some (.int (zI x4)), none] [] := by
      intro N
      induction N with
      | zero =>
        intro x4 s7 h5 h6 hI8 hF9 g10 hm12
        exact absurd hm12 (Nat.not_lt_zero _)
      | succ N ih13 =>
        intro x4 s7 h5 h6 hI8 hF9 g10 hm12
        have b14 := zv_46_1 hI8 zc_164
        refine zt_iload (pc' := 30) hX dX12_feed_28 rfl rfl ?_
        refine zt_bipush (pc' := 32) hX dX12_feed_30 rfl (by decide) (by decide) ?_
        refine zt_icge (pc' := 35) (tgt := 124) hX dX12_feed_32 rfl (by decide) ⟨by omega, by omega⟩ ⟨by omega, by omega⟩ (fun c15 => ?_) (fun c15 => ?_)
        · refine zt_aload_n (pc' := 125) hX dX12_feed_124 rfl rfl ?_
          have b16 := zv_46_1 hI8 zc_164
          refine zt_get (pc' := 128) (v := .int (zI (s7 164 1))) hX dX12_feed_125 rfl zf_X12_243 (by decide) zc_164 zs_46 rfl ?_
          exact zt_iret hX hR dX12_feed_128 ⟨by omega, by omega⟩ ⟨hI8, hF9, by omega, by omega, by omega⟩
        · refine zt_iload (pc' := 37) hX dX12_feed_35 rfl rfl ?_
          refine zt_iconst (pc' := 38) hX dX12_feed_37 rfl ?_
          have J_81_19 : ∀ (y17 : Int), -2147483648 ≤ y17 → y17 ≤ 2147483647 → zF X s7 81 [some (.ref (X.1.1 + 164)), some (.int (zI a1_)), some (.int (zI a2_)), some (.int (zI a3_)), some (.int (zI a4_)), some (.int (zI a5_)), some (.int (zI x4)), none] [.int (zI y17)] := by
            intro y17 h18 h19
            refine zt_istore (pc' := 83) (lv' := [some (.ref (X.1.1 + 164)), some (.int (zI a1_)), some (.int (zI a2_)), some (.int (zI a3_)), some (.int (zI a4_)), some (.int (zI a5_)), some (.int (zI x4)), some (.int (zI y17))]) hX dX12_feed_81 rfl hL (by decide) rfl ?_
            refine zt_aload_n (pc' := 84) hX dX12_feed_83 rfl rfl ?_
            refine zt_get (pc' := 87) (v := .ref (X.1.1 + 165)) hX dX12_feed_84 rfl zf_X12_7 (by decide) zc_164 zs_46 (zrf_of (zv_46_0 hI8 zc_164)) ?_
            refine zt_aload_n (pc' := 88) hX dX12_feed_87 rfl rfl ?_
            have b21 := zv_46_1 hI8 zc_164
            refine zt_get (pc' := 91) (v := .int (zI (s7 164 1))) hX dX12_feed_88 rfl zf_X12_243 (by decide) zc_164 zs_46 rfl ?_
            refine zt_iload (pc' := 93) hX dX12_feed_91 rfl rfl ?_
            refine zt_bipush (pc' := 95) hX dX12_feed_93 rfl (by decide) (by decide) ?_
            refine zt_iconst (pc' := 96) hX dX12_feed_95 rfl ?_
            refine zt_iload (pc' := 98) hX dX12_feed_96 rfl rfl ?_
            refine zt_iconst (pc' := 99) hX dX12_feed_98 rfl ?_
            refine zt_irem (pc' := 100) hX dX12_feed_99 rfl ⟨by omega, by omega⟩ ⟨by omega, by omega⟩ (fun r22 er22 br22 nr22 => ?_)
            rw [ztm_p (by omega)] at er22
            refine zt_isub (pc' := 101) hX dX12_feed_100 rfl ?_
            refine zt_imul (pc' := 102) hX dX12_feed_101 rfl ?_
            refine zt_ishr (pc' := 103) hX dX12_feed_102 rfl (fun r23 zr23 lr23 ur23 => ?_)
            clear zr23
            refine zt_sipush (pc' := 106) hX dX12_feed_103 rfl (by decide) (by decide) ?_
            refine zt_iandm (pc' := 107) hX dX12_feed_106 rfl 8 (by decide +kernel) (by decide) (fun r24 er24 lr24 ur24 => ?_)
            have ur24 : r24 ≤ 255 := by omega
            refine zt_iast (pc' := 108) hX dX12_feed_107 rfl (by decide) zc_165 zs_47 (by decide) ⟨by omega, by omega⟩ ?_
            generalize hs26 : zset s7 165 ((s7 164 1).toNat) r24 = s25
            have hI27 : zInv s25 := hs26 ▸ zp_47 hI8 zc_165 ((s7 164 1).toNat) ⟨by omega, by omega⟩
            have hF28 : zGT σ s25 := hs26 ▸ zGT_set hF9 zc_165 (by decide) zkt_47 (Or.inl (by decide)) (by decide)
            have e29 : s25 164 1 = s7 164 1 := by rw [← hs26]; exact zset_k (zne_r zc_164 zc_165 (by decide))
            refine zt_aload_n (pc' := 109) hX dX12_feed_108 rfl rfl ?_
            refine zt_dup (pc' := 110) hX dX12_feed_109 rfl rfl ?_
            have b30 := zv_46_1 hI27 zc_164
            refine zt_get (pc' := 113) (v := .int (zI (s25 164 1))) hX dX12_feed_110 rfl zf_X12_243 (by decide) zc_164 zs_46 rfl ?_
            refine zt_iconst (pc' := 114) hX dX12_feed_113 rfl ?_
            refine zt_iadd (pc' := 115) hX dX12_feed_114 rfl ?_
            refine zt_put (pc' := 118) (x := ((s25 164 1) + 1)) hX dX12_feed_115 rfl zf_X12_243 (by decide) zc_164 zs_46 (fun q hq => by cases hq; rfl) rfl rfl rfl ?_
            generalize hs32 : zset s25 164 1 ((s25 164 1) + 1) = s31
            have hI33 : zInv s31 := hs32 ▸ zp_46_1 hI27 zc_164 ⟨by omega, by omega⟩
            have hF34 : zGT σ s31 := hs32 ▸ zGT_set hF28 zc_164 (by decide) zkt_46 (Or.inr (by decide)) (by decide)
            have e35 : s31 164 1 = ((s25 164 1) + 1) := by rw [← hs32]; exact zset_s
            refine zt_iinc (pc' := 121) (lv' := [some (.ref (X.1.1 + 164)), some (.int (zI a1_)), some (.int (zI a2_)), some (.int (zI a3_)), some (.int (zI a4_)), some (.int (zI a5_)), some (.int (zI (x4 + 1))), some (.int (zI y17))]) hX dX12_feed_118 rfl rfl hL (by decide) rfl ?_
            refine zt_goto (tgt := 28) hX dX12_feed_121 (by decide) ?_
            refine zt_mask [true, true, true, true, true, true, true, false] rfl ?_
            exact ih13 (x4 + 1) s31 (by omega) (by omega) hI33 (by omega) (by omega) (by omega)
          refine zt_icge (pc' := 41) (tgt := 45) hX dX12_feed_38 rfl (by decide) ⟨by omega, by omega⟩ ⟨by omega, by omega⟩ (fun c36 => ?_) (fun c36 => ?_)
          · refine zt_iload (pc' := 47) hX dX12_feed_45 rfl rfl ?_
            refine zt_bipush (pc' := 49) hX dX12_feed_47 rfl (by decide) (by decide) ?_
            refine zt_icge (pc' := 52) (tgt := 56) hX dX12_feed_49 rfl (by decide) ⟨by omega, by omega⟩ ⟨by omega, by omega⟩ (fun c37 => ?_) (fun c37 => ?_)
            · refine zt_iload (pc' := 58) hX dX12_feed_56 rfl rfl ?_
              refine zt_bipush (pc' := 60) hX dX12_feed_58 rfl (by decide) (by decide) ?_
              refine zt_icge (pc' := 63) (tgt := 67) hX dX12_feed_60 rfl (by decide) ⟨by omega, by omega⟩ ⟨by omega, by omega⟩ (fun c38 => ?_) (fun c38 => ?_)
              · refine zt_iload (pc' := 69) hX dX12_feed_67 rfl rfl ?_
                refine zt_bipush (pc' := 71) hX dX12_feed_69 rfl (by decide) (by decide) ?_
                refine zt_icge (pc' := 74) (tgt := 79) hX dX12_feed_71 rfl (by decide) ⟨by omega, by omega⟩ ⟨by omega, by omega⟩ (fun c39 => ?_) (fun c39 => ?_)
                · refine zt_iload (pc' := 81) hX dX12_feed_79 rfl rfl ?_
                  exact J_81_19 a5_ (by omega) (by omega)
                · refine zt_iload (pc' := 76) hX dX12_feed_74 rfl rfl ?_
                  refine zt_goto (tgt := 81) hX dX12_feed_76 (by decide) ?_
                  exact J_81_19 a4_ (by omega) (by omega)
              · refine zt_iload_n (pc' := 64) hX dX12_feed_63 rfl rfl ?_
                refine zt_goto (tgt := 81) hX dX12_feed_64 (by decide) ?_
                exact J_81_19 a3_ (by omega) (by omega)
            · refine zt_iload_n (pc' := 53) hX dX12_feed_52 rfl rfl ?_
              refine zt_goto (tgt := 81) hX dX12_feed_53 (by decide) ?_
              exact J_81_19 a2_ (by omega) (by omega)
          · refine zt_iload_n (pc' := 42) hX dX12_feed_41 rfl rfl ?_
            refine zt_goto (tgt := 81) hX dX12_feed_42 (by decide) ?_
            exact J_81_19 a1_ (by omega) (by omega)
    exact L_28_10 _ 0 σ (by omega) (by omega) hI (by omega) (by omega) (Nat.lt_succ_self _)
  · refine zt_aload_n (pc' := 14) hX dX12_feed_13 rfl rfl ?_
    refine zt_get (pc' := 17) (v := .ref (X.1.1 + 166)) hX dX12_feed_14 rfl zf_X12_17 (by decide) zc_164 zs_46 (zrf_of (zv_46_9 hI zc_164)) ?_
    refine zt_iconst (pc' := 18) hX dX12_feed_17 rfl ?_
    refine zt_dup2 (pc' := 19) hX dX12_feed_18 rfl rfl rfl ?_
    refine zt_iald (pc' := 20) hX dX12_feed_19 rfl (by decide) zc_166 zs_48 (by decide) ⟨by omega, by omega⟩ ?_
    rw [show Int.toNat 0 = 0 from rfl]
    have b41 := zv_48 hI zc_166 0
    refine zt_iconst (pc' := 21) hX dX12_feed_20 rfl ?_
    refine zt_iadd (pc' := 22) hX dX12_feed_21 rfl ?_
    refine zt_wrap (fun r42 zr42 lr42 ur42 => ?_)
    clear zr42
    refine zt_iast (pc' := 23) hX dX12_feed_22 rfl (by decide) zc_166 zs_48 (by decide) ⟨by omega, by omega⟩ ?_
    rw [show Int.toNat 0 = 0 from rfl]
    generalize hs44 : zset σ 166 0 r42 = s43
    have hI45 : zInv s43 := hs44 ▸ zp_48 hI zc_166 0 ⟨by omega, by omega⟩
    have hF46 : zGT σ s43 := hs44 ▸ zGT_set hF zc_166 (by decide) zkt_48 (Or.inl (by decide)) (by decide)
    have e47 : s43 164 1 = σ 164 1 := by rw [← hs44]; exact zset_k (zne_r zc_164 zc_166 (by decide))
    refine zt_iconst (pc' := 24) hX dX12_feed_23 rfl ?_
    exact zt_iret hX hR dX12_feed_24 ⟨by omega, by omega⟩ ⟨hI45, hF46, by omega, by omega, by omega⟩

set_option maxRecDepth 100000 in
set_option maxHeartbeats 4000000 in
theorem zc_X12_end (l : Launch) (E : zEN) (σ : zSto) (hI : zInv σ) (a1_ : Int) (ha1_ : -2147483648 ≤ a1_ ∧ a1_ ≤ 2147483647) : zCt l E yX12_end cX12_end 2 (some .boolean) 0 zNC zNC 0 0 σ [.ref (E.1 + 164), .int (zI a1_)] (fun r σ' => zInv σ' ∧ zGN σ σ' ∧ 0 ≤ r ∧ r ≤ 1 ∧ ((0 ≤ a1_ ∧ a1_ ≤ σ 164 1 → r = 1 ∧ σ' 164 1 = a1_) ∧ (¬ (0 ≤ a1_ ∧ a1_ ≤ σ 164 1) → r = 0 ∧ σ' 164 1 = σ 164 1)) ∧ (σ' 164 7 = σ 164 7) ∧ (σ' 164 8 = σ 164 8)) := by
  refine zCt_of2 [some (.ref (E.1 + 164)), some (.int (zI a1_))] (by decide +kernel) (Nat.le_of_ble_eq_true rfl) rfl ?_
  intro X hE hX hR hL hN
  subst hE
  have hX : zok X cX12_end RX12 0 := hX
  have hF := zGN_rf σ
  have b1 := zv_46_1 hI zc_164
  have b2 := zv_46_7 hI zc_164
  have b3 := zv_46_8 hI zc_164
  refine zt_iload_n (pc' := 1) hX dX12_end_0 rfl rfl ?_
  have J_12_4 : (¬ (0 ≤ a1_ ∧ a1_ ≤ σ 164 1)) → zF X σ 12 [some (.ref (X.1.1 + 164)), none] [] := by
    intro g4
    refine zt_aload_n (pc' := 13) hX dX12_end_12 rfl rfl ?_
    refine zt_get (pc' := 16) (v := .ref (X.1.1 + 166)) hX dX12_end_13 rfl zf_X12_17 (by decide) zc_164 zs_46 (zrf_of (zv_46_9 hI zc_164)) ?_
    refine zt_iconst (pc' := 17) hX dX12_end_16 rfl ?_
    refine zt_dup2 (pc' := 18) hX dX12_end_17 rfl rfl rfl ?_
    refine zt_iald (pc' := 19) hX dX12_end_18 rfl (by decide) zc_166 zs_48 (by decide) ⟨by omega, by omega⟩ ?_
    rw [show Int.toNat 0 = 0 from rfl]
    have b7 := zv_48 hI zc_166 0
    refine zt_iconst (pc' := 20) hX dX12_end_19 rfl ?_
    refine zt_iadd (pc' := 21) hX dX12_end_20 rfl ?_
    refine zt_wrap (fun r8 zr8 lr8 ur8 => ?_)
    clear zr8
    refine zt_iast (pc' := 22) hX dX12_end_21 rfl (by decide) zc_166 zs_48 (by decide) ⟨by omega, by omega⟩ ?_
    rw [show Int.toNat 0 = 0 from rfl]
    generalize hs10 : zset σ 166 0 r8 = s9
    have hI11 : zInv s9 := hs10 ▸ zp_48 hI zc_166 0 ⟨by omega, by omega⟩
    have hF12 : zGN σ s9 := hs10 ▸ zGN_set hF zc_166 (by decide) zk_48 (Or.inl (by decide)) (by decide)
    have e13 : s9 164 1 = σ 164 1 := by rw [← hs10]; exact zset_k (zne_r zc_164 zc_166 (by decide))
    have e14 : s9 164 7 = σ 164 7 := by rw [← hs10]; exact zset_k (zne_r zc_164 zc_166 (by decide))
    have e15 : s9 164 8 = σ 164 8 := by rw [← hs10]; exact zset_k (zne_r zc_164 zc_166 (by decide))
    refine zt_iconst (pc' := 23) hX dX12_end_22 rfl ?_
    exact zt_zret hX hR dX12_end_23 ⟨by omega, by omega⟩ ⟨hI11, hF12, by omega, by omega, by omega, by omega, by omega⟩
  refine zt_iflt (pc' := 4) (tgt := 12) hX dX12_end_1 rfl (by decide) ⟨by omega, by omega⟩ (fun c16 => ?_) (fun c16 => ?_)
  · refine zt_mask [true, false] rfl ?_
    exact J_12_4 (by omega)
  · refine zt_iload_n (pc' := 5) hX dX12_end_4 rfl rfl ?_
    refine zt_aload_n (pc' := 6) hX dX12_end_5 rfl rfl ?_
    have b17 := zv_46_1 hI zc_164
    refine zt_get (pc' := 9) (v := .int (zI (σ 164 1))) hX dX12_end_6 rfl zf_X12_243 (by decide) zc_164 zs_46 rfl ?_
    refine zt_icle (pc' := 12) (tgt := 24) hX dX12_end_9 rfl (by decide) ⟨by omega, by omega⟩ ⟨by omega, by omega⟩ (fun c18 => ?_) (fun c18 => ?_)
    · refine zt_aload_n (pc' := 25) hX dX12_end_24 rfl rfl ?_
      refine zt_iload_n (pc' := 26) hX dX12_end_25 rfl rfl ?_
      refine zt_put (pc' := 29) (x := a1_) hX dX12_end_26 rfl zf_X12_243 (by decide) zc_164 zs_46 (fun q hq => by cases hq; rfl) rfl rfl rfl ?_
      generalize hs20 : zset σ 164 1 a1_ = s19
      have hI21 : zInv s19 := hs20 ▸ zp_46_1 hI zc_164 ⟨by omega, by omega⟩
      have hF22 : zGN σ s19 := hs20 ▸ zGN_set hF zc_164 (by decide) zk_46 (Or.inr (by decide)) (by decide)
      have e23 : s19 164 1 = a1_ := by rw [← hs20]; exact zset_s
      have e24 : s19 164 7 = σ 164 7 := by rw [← hs20]; exact zset_j (by decide)
      have e25 : s19 164 8 = σ 164 8 := by rw [← hs20]; exact zset_j (by decide)
      refine zt_iconst (pc' := 30) hX dX12_end_29 rfl ?_
      exact zt_zret hX hR dX12_end_30 ⟨by omega, by omega⟩ ⟨hI21, hF22, by omega, by omega, by omega, by omega, by omega⟩
    · refine zt_mask [true, false] rfl ?_
      exact J_12_4 (by omega)
