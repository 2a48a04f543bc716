set_option maxRecDepth 100000 in
set_option maxHeartbeats 4000000 in
theorem yd_X12_sound (l : Launch) (E : zEN) (σ : zSto) (hI : zInv σ) (hNe : yPne σ) : zCt l E yX12_sound cX12_sound 4 (some .int) 2 zNC zNC 0 0 σ [.ref (E.1 + 164)] (fun r σ' => zInv σ' ∧ zOn zSm σ σ' ∧ -2147483648 ≤ r ∧ r ≤ 2147483647 ∧ (ySx (yW σ) (σ 164 1) (σ 194 3) (σ 194 4) r)) := by
  refine zCt_of2 [some (.ref (E.1 + 164)), none, none, none] (by decide +kernel) (Nat.le_of_ble_eq_true rfl) rfl ?_
  intro X hE_ hX hR hL hN
  subst hE_
  have hX : zok X cX12_sound RX12 2 := hX
  have hF := zOn_rf zSm σ
  have b1 := zv_46_1 hI zc_164
  have b2 := zv_46_50 hI zc_164
  have b3 := zv_46_64 hI zc_164
  refine zt_aload_n (pc' := 1) hX dX12_sound_0 rfl rfl ?_
  have b4 := zv_46_1 hI zc_164
  refine zt_get (pc' := 4) (v := .int (zI (σ 164 1))) hX dX12_sound_1 rfl zf_X12_243 (by decide) zc_164 zs_46 rfl ?_
  refine zt_istore_n (pc' := 5) (lv' := [some (.ref (X.1.1 + 164)), some (.int (zI (σ 164 1))), none, none]) hX dX12_sound_4 rfl hL (by decide) rfl ?_
  refine zt_aload_n (pc' := 6) hX dX12_sound_5 rfl rfl ?_
  refine zt_iconst (pc' := 7) hX dX12_sound_6 rfl ?_
  refine zt_put (pc' := 10) (x := 0) hX dX12_sound_7 rfl zf_X12_243 (by decide) zc_164 zs_46 (fun q hq => by cases hq; rfl) rfl rfl rfl ?_
  generalize hs6 : zset σ 164 1 0 = s5
  have hI7 : zInv s5 := hs6 ▸ zp_46_1 hI zc_164 ⟨by omega, by omega⟩
  have hF8 : zOn zSm σ s5 := hs6 ▸ zOn_set hF rfl
  have e9 : s5 164 1 = 0 := by rw [← hs6]; exact zset_s
  have e10 : s5 164 50 = σ 164 50 := by rw [← hs6]; exact zset_j (by decide)
  have e11 : s5 164 64 = σ 164 64 := by rw [← hs6]; exact zset_j (by decide)
  have e12 : s5 194 3 = σ 194 3 := by rw [← hs6]; exact zset_k (zne_r zc_194 zc_164 (by decide))
  have e13 : s5 194 4 = σ 194 4 := by rw [← hs6]; exact zset_k (zne_r zc_194 zc_164 (by decide))
  refine zt_aload_n (pc' := 11) hX dX12_sound_10 rfl rfl ?_
  have b14 := zv_46_50 hI7 zc_164
  refine zt_get (pc' := 14) (v := .int (zI (s5 164 50))) hX dX12_sound_11 rfl zf_X12_375 (by decide) zc_164 zs_46 rfl ?_
  refine zt_ifeq (pc' := 17) (tgt := 39) hX dX12_sound_14 rfl (by decide) ⟨by omega, by omega⟩ (fun c15 => ?_) (fun c15 => ?_)
  · refine zt_iconst (pc' := 40) hX dX12_sound_39 rfl ?_
    refine zt_istore_n (pc' := 41) (lv' := [some (.ref (X.1.1 + 164)), some (.int (zI (σ 164 1))), some (.int (zI 0)), none]) hX dX12_sound_40 rfl hL (by decide) rfl ?_
    refine zt_iconst (pc' := 42) hX dX12_sound_41 rfl ?_
    refine zt_istore_n (pc' := 43) (lv' := [some (.ref (X.1.1 + 164)), some (.int (zI (σ 164 1))), some (.int (zI 0)), some (.int (zI 0))]) hX dX12_sound_42 rfl hL (by decide) rfl ?_
    have L_43_26 : ∀ (N : Nat) (x16 : Int) (x19 : Int), 0 ≤ x16 → x16 ≤ 1 → 0 ≤ x19 → x19 ≤ 1603 → 0 ≤ x19 → x19 ≤ 1603 → 0 ≤ x16 → x16 ≤ 1 → ySy (yW σ) (σ 164 1) (σ 194 3) (σ 194 4) x16 x19 → ((1604 - x19).toNat) < N → zF X s5 43 [some (.ref (X.1.1 + 164)), some (.int (zI (σ 164 1))), some (.int (zI x16)), some (.int (zI x19))] [] := by
      intro N
      induction N with
      | zero =>
        intro x16 x19 h17 h18 h20 h21 g22 g23 g24 g25 g26 hm28
        exact absurd hm28 (Nat.not_lt_zero _)
      | succ N ih29 =>
        intro x16 x19 h17 h18 h20 h21 g22 g23 g24 g25 g26 hm28
        rcases g26 with ⟨hv30, ma31, mb32, md33⟩ | ⟨hv30, mx34⟩
        · have u35 := yPne_2 hNe ma31.2.2.2
          refine zt_iload_n (pc' := 44) hX dX12_sound_43 rfl rfl ?_
          refine zt_iload_n (pc' := 45) hX dX12_sound_44 rfl rfl ?_
          refine zt_icge (pc' := 48) (tgt := 86) hX dX12_sound_45 rfl (by decide) ⟨by omega, by omega⟩ ⟨by omega, by omega⟩ (fun c36 => ?_) (fun c36 => ?_)
          · refine zt_iload_n (pc' := 87) hX dX12_sound_86 rfl rfl ?_
            refine zt_ifne (pc' := 90) (tgt := 96) hX dX12_sound_87 rfl (by decide) ⟨by omega, by omega⟩ (fun c37 => ?_) (fun c37 => ?_)
            · refine zt_aload_n (pc' := 97) hX dX12_sound_96 rfl rfl ?_
              refine zt_iload_n (pc' := 98) hX dX12_sound_97 rfl rfl ?_
              refine zt_iconst (pc' := 99) hX dX12_sound_98 rfl ?_
              refine zt_idiv (pc' := 100) hX dX12_sound_99 rfl ⟨by omega, by omega⟩ ⟨by omega, by omega⟩ (fun r38 er38 br38 => ?_)
              rw [ztd_p (by omega)] at er38
              refine zt_put (pc' := 103) (x := r38) hX dX12_sound_100 rfl zf_X12_382 (by decide) zc_164 zs_46 (fun q hq => by cases hq; rfl) rfl rfl rfl ?_
              generalize hs40 : zset s5 164 64 r38 = s39
              have hI41 : zInv s39 := hs40 ▸ zp_46_64 hI7 zc_164 ⟨by omega, by omega⟩
              have hF42 : zOn zSm σ s39 := hs40 ▸ zOn_set hF8 rfl
              have e43 : s39 164 1 = s5 164 1 := by rw [← hs40]; exact zset_j (by decide)
              have e44 : s39 164 50 = s5 164 50 := by rw [← hs40]; exact zset_j (by decide)
              have e45 : s39 164 64 = r38 := by rw [← hs40]; exact zset_s
              have e46 : s39 194 3 = s5 194 3 := by rw [← hs40]; exact zset_k (zne_r zc_194 zc_164 (by decide))
              have e47 : s39 194 4 = s5 194 4 := by rw [← hs40]; exact zset_k (zne_r zc_194 zc_164 (by decide))
              refine zt_iconst (pc' := 104) hX dX12_sound_103 rfl ?_
              refine zt_istore_n (pc' := 105) (lv' := [some (.ref (X.1.1 + 164)), some (.int (zI (σ 164 1))), some (.int (zI x16)), some (.int (zI 0))]) hX dX12_sound_104 rfl hL (by decide) rfl ?_
              have L_105_60 : ∀ (N : Nat) (x48 : Int) (s51 : zSto), 0 ≤ x48 → x48 ≤ 12 → zInv s51 → zOn zSm σ s51 → 0 ≤ x48 → x48 ≤ 12 → s51 164 64 = σ 164 1 / 4 → s51 164 50 = σ 164 50 → s51 194 3 = σ 194 3 → s51 194 4 = σ 194 4 → ySd (yW σ) (σ 194 3) (σ 194 4) (σ 164 1 / 4) → ((13 - x48).toNat) < N → zF X s51 105 [some (.ref (X.1.1 + 164)), none, none, some (.int (zI x48))] [] := by
                intro N
                induction N with
                | zero =>
                  intro x48 s51 h49 h50 hI52 hF53 g54 g55 g56 g57 g58 g59 g60 hm62
                  exact absurd hm62 (Nat.not_lt_zero _)
                | succ N ih63 =>
                  intro x48 s51 h49 h50 hI52 hF53 g54 g55 g56 g57 g58 g59 g60 hm62
                  have b64 := zv_46_1 hI52 zc_164
                  have b65 := zv_46_50 hI52 zc_164
                  have b66 := zv_46_64 hI52 zc_164
                  refine zt_iload_n (pc' := 106) hX dX12_sound_105 rfl rfl ?_
                  refine zt_aload_n (pc' := 107) hX dX12_sound_106 rfl rfl ?_
                  have b67 := zv_46_64 hI52 zc_164
                  refine zt_get (pc' := 110) (v := .int (zI (s51 164 64))) hX dX12_sound_107 rfl zf_X12_382 (by decide) zc_164 zs_46 rfl ?_
                  refine zt_icge (pc' := 113) (tgt := 188) hX dX12_sound_110 rfl (by decide) ⟨by omega, by omega⟩ ⟨by omega, by omega⟩ (fun c68 => ?_) (fun c68 => ?_)
                  · refine zt_aload_n (pc' := 189) hX dX12_sound_188 rfl rfl ?_
                    refine zt_get (pc' := 192) (v := .int (zI (s51 164 64))) hX dX12_sound_189 rfl zf_X12_382 (by decide) zc_164 zs_46 rfl ?_
                    exact zt_iret hX hR dX12_sound_192 ⟨by omega, by omega⟩ ⟨hI52, hF53, by omega, by omega, (ySx_y ma31 g60 (by omega))⟩
                  · refine zt_aload_n (pc' := 114) hX dX12_sound_113 rfl rfl ?_
                    refine zt_get (pc' := 117) (v := .ref (X.1.1 + 207)) hX dX12_sound_114 rfl zf_X12_146 (by decide) zc_164 zs_46 (zrf_of (zv_46_65 hI52 zc_164)) ?_
                    refine zt_iconst (pc' := 118) hX dX12_sound_117 rfl ?_
                    refine zt_iload_n (pc' := 119) hX dX12_sound_118 rfl rfl ?_
                    refine zt_imul (pc' := 120) hX dX12_sound_119 rfl ?_
                    refine zt_aload_n (pc' := 121) hX dX12_sound_120 rfl rfl ?_
                    refine zt_aload_n (pc' := 122) hX dX12_sound_121 rfl rfl ?_
                    refine zt_get (pc' := 125) (v := .ref (X.1.1 + 165)) hX dX12_sound_122 rfl zf_X12_7 (by decide) zc_164 zs_46 (zrf_of (zv_46_0 hI52 zc_164)) ?_
                    refine zt_iconst (pc' := 126) hX dX12_sound_125 rfl ?_
                    refine zt_iload_n (pc' := 127) hX dX12_sound_126 rfl rfl ?_
                    refine zt_imul (pc' := 128) hX dX12_sound_127 rfl ?_
                    refine zt_iald (pc' := 129) hX dX12_sound_128 rfl (by decide) zc_165 zs_47 (by decide) ⟨by omega, by omega⟩ ?_
                    generalize hv69 : s51 165 ((4 * x48).toNat) = v69
                    have bv69 : 0 ≤ v69 ∧ v69 ≤ 255 := hv69 ▸ zv_47 hI52 zc_165 _
                    refine zt_aload_n (pc' := 130) hX dX12_sound_129 rfl rfl ?_
                    refine zt_get (pc' := 133) (v := .ref (X.1.1 + 165)) hX dX12_sound_130 rfl zf_X12_7 (by decide) zc_164 zs_46 (zrf_of (zv_46_0 hI52 zc_164)) ?_
                    refine zt_iconst (pc' := 134) hX dX12_sound_133 rfl ?_
                    refine zt_iload_n (pc' := 135) hX dX12_sound_134 rfl rfl ?_
                    refine zt_imul (pc' := 136) hX dX12_sound_135 rfl ?_
                    refine zt_iconst (pc' := 137) hX dX12_sound_136 rfl ?_
                    refine zt_iadd (pc' := 138) hX dX12_sound_137 rfl ?_
                    refine zt_iald (pc' := 139) hX dX12_sound_138 rfl (by decide) zc_165 zs_47 (by decide) ⟨by omega, by omega⟩ ?_
                    generalize hv70 : s51 165 (((4 * x48) + 1).toNat) = v70
                    have bv70 : 0 ≤ v70 ∧ v70 ≤ 255 := hv70 ▸ zv_47 hI52 zc_165 _
                    refine zt_cVi (pc' := 142) hX dX12_sound_139 rfl zm_yX12_cellAt zw_44_11 zc_164 (by decide) zs_46 (q := (RX12, TX12, 108)) rfl rfl (zc_X12_cellAt_C _ _ s51 hI52 v69 ⟨by omega, by omega⟩ v70 ⟨by omega, by omega⟩) rfl rfl (Nat.le_of_ble_eq_true rfl) (by decide) (fun r71 s72 hr73 hp74 => ?_)
                    obtain ⟨rfl, q75, q76, z77, z78⟩ := hp74
                    clear z77
                    have hr79 : r71 ≠ -1 := z78 (by have q1 := ySd_a g60 (k := x48) (by omega) (by omega) rfl; have q2 := ySd_b g60 (k := x48) (by omega) (by omega) rfl; have t1 : v69 = yW σ (4 * x48) := (hv69.symm.trans (yW_j (u := (4 * x48)) (hF53 165 _ rfl) (by omega) (by omega))); have t2 : v70 = yW σ (4 * x48 + 1) := (hv70.symm.trans (yW_j (u := (4 * x48 + 1)) (hF53 165 _ rfl) (by omega) (by omega))); omega)
                    clear z78
                    refine zt_iast (pc' := 143) hX dX12_sound_142 rfl (by decide) zc_207 zs_89 (by decide) ⟨by omega, by omega⟩ ?_
                    generalize hs81 : zset s51 207 ((2 * x48).toNat) r71 = s80
                    have hI82 : zInv s80 := hs81 ▸ zp_89 hI52 zc_207 ((2 * x48).toNat) (by omega)
                    have hF83 : zOn zSm σ s80 := hs81 ▸ zOn_set hF53 rfl
                    have e84 : s80 164 1 = s51 164 1 := by rw [← hs81]; exact zset_k (zne_r zc_164 zc_207 (by decide))
                    have e85 : s80 164 50 = s51 164 50 := by rw [← hs81]; exact zset_k (zne_r zc_164 zc_207 (by decide))
                    have e86 : s80 164 64 = s51 164 64 := by rw [← hs81]; exact zset_k (zne_r zc_164 zc_207 (by decide))
                    have e87 : s80 194 3 = s51 194 3 := by rw [← hs81]; exact zset_k (zne_r zc_194 zc_207 (by decide))
                    have e88 : s80 194 4 = s51 194 4 := by rw [← hs81]; exact zset_k (zne_r zc_194 zc_207 (by decide))
                    refine zt_aload_n (pc' := 144) hX dX12_sound_143 rfl rfl ?_
                    refine zt_get (pc' := 147) (v := .ref (X.1.1 + 207)) hX dX12_sound_144 rfl zf_X12_146 (by decide) zc_164 zs_46 (zrf_of (zv_46_65 hI82 zc_164)) ?_
                    refine zt_iconst (pc' := 148) hX dX12_sound_147 rfl ?_
                    refine zt_iload_n (pc' := 149) hX dX12_sound_148 rfl rfl ?_
                    refine zt_imul (pc' := 150) hX dX12_sound_149 rfl ?_
                    refine zt_iconst (pc' := 151) hX dX12_sound_150 rfl ?_
                    refine zt_iadd (pc' := 152) hX dX12_sound_151 rfl ?_
                    refine zt_sipush (pc' := 155) hX dX12_sound_152 rfl (by decide) (by decide) ?_
                    refine zt_aload_n (pc' := 156) hX dX12_sound_155 rfl rfl ?_
                    refine zt_get (pc' := 159) (v := .ref (X.1.1 + 165)) hX dX12_sound_156 rfl zf_X12_7 (by decide) zc_164 zs_46 (zrf_of (zv_46_0 hI82 zc_164)) ?_
                    refine zt_iconst (pc' := 160) hX dX12_sound_159 rfl ?_
                    refine zt_iload_n (pc' := 161) hX dX12_sound_160 rfl rfl ?_
                    refine zt_imul (pc' := 162) hX dX12_sound_161 rfl ?_
                    refine zt_iconst (pc' := 163) hX dX12_sound_162 rfl ?_
                    refine zt_iadd (pc' := 164) hX dX12_sound_163 rfl ?_
                    refine zt_iald (pc' := 165) hX dX12_sound_164 rfl (by decide) zc_165 zs_47 (by decide) ⟨by omega, by omega⟩ ?_
                    generalize hv89 : s80 165 (((4 * x48) + 2).toNat) = v89
                    have bv89 : 0 ≤ v89 ∧ v89 ≤ 255 := hv89 ▸ zv_47 hI82 zc_165 _
                    refine zt_imul (pc' := 166) hX dX12_sound_165 rfl ?_
                    refine zt_aload_n (pc' := 167) hX dX12_sound_166 rfl rfl ?_
                    refine zt_get (pc' := 170) (v := .ref (X.1.1 + 165)) hX dX12_sound_167 rfl zf_X12_7 (by decide) zc_164 zs_46 (zrf_of (zv_46_0 hI82 zc_164)) ?_
                    refine zt_iconst (pc' := 171) hX dX12_sound_170 rfl ?_
                    refine zt_iload_n (pc' := 172) hX dX12_sound_171 rfl rfl ?_
                    refine zt_imul (pc' := 173) hX dX12_sound_172 rfl ?_
                    refine zt_iconst (pc' := 174) hX dX12_sound_173 rfl ?_
                    refine zt_iadd (pc' := 175) hX dX12_sound_174 rfl ?_
                    refine zt_iald (pc' := 176) hX dX12_sound_175 rfl (by decide) zc_165 zs_47 (by decide) ⟨by omega, by omega⟩ ?_
                    generalize hv90 : s80 165 (((4 * x48) + 3).toNat) = v90
                    have bv90 : 0 ≤ v90 ∧ v90 ≤ 255 := hv90 ▸ zv_47 hI82 zc_165 _
                    refine zt_iadd (pc' := 177) hX dX12_sound_176 rfl ?_
                    refine zt_sipush (pc' := 180) hX dX12_sound_177 rfl (by decide) (by decide) ?_
                    refine zt_isub (pc' := 181) hX dX12_sound_180 rfl ?_
                    refine zt_iast (pc' := 182) hX dX12_sound_181 rfl (by decide) zc_207 zs_89 (by decide) ⟨by omega, by omega⟩ ?_
                    generalize hs92 : zset s80 207 (((2 * x48) + 1).toNat) (((256 * v89) + v90) - 500) = s91
                    have hI93 : zInv s91 := hs92 ▸ zp_89 hI82 zc_207 (((2 * x48) + 1).toNat) (by omega)
                    have hF94 : zOn zSm σ s91 := hs92 ▸ zOn_set hF83 rfl
                    have e95 : s91 164 1 = s80 164 1 := by rw [← hs92]; exact zset_k (zne_r zc_164 zc_207 (by decide))
                    have e96 : s91 164 50 = s80 164 50 := by rw [← hs92]; exact zset_k (zne_r zc_164 zc_207 (by decide))
                    have e97 : s91 164 64 = s80 164 64 := by rw [← hs92]; exact zset_k (zne_r zc_164 zc_207 (by decide))
                    have e98 : s91 194 3 = s80 194 3 := by rw [← hs92]; exact zset_k (zne_r zc_194 zc_207 (by decide))
                    have e99 : s91 194 4 = s80 194 4 := by rw [← hs92]; exact zset_k (zne_r zc_194 zc_207 (by decide))
                    refine zt_iinc (pc' := 185) (lv' := [some (.ref (X.1.1 + 164)), none, none, some (.int (zI (x48 + 1)))]) hX dX12_sound_182 rfl rfl hL (by decide) rfl ?_
                    refine zt_goto (tgt := 105) hX dX12_sound_185 (by decide) ?_
                    exact ih63 (x48 + 1) s91 (by omega) (by omega) hI93 hF94 (by omega) (by omega) (by omega) (by omega) (by omega) (by omega) g60 (by omega)
              refine zt_mask [true, false, false, true] rfl ?_
              exact L_105_60 _ 0 s39 (by omega) (by omega) hI41 hF42 (by omega) (by omega) (by omega) (by omega) (by omega) (by omega) (ySd_le md33 (by omega)) (Nat.lt_succ_self _)
            · exact absurd c37 (by omega)
          · refine zt_iload_n (pc' := 49) hX dX12_sound_48 rfl rfl ?_
            refine zt_ifeq (pc' := 52) (tgt := 86) hX dX12_sound_49 rfl (by decide) ⟨by omega, by omega⟩ (fun c100 => ?_) (fun c100 => ?_)
            · exact absurd c100 (by omega)
            · refine zt_aload_n (pc' := 53) hX dX12_sound_52 rfl rfl ?_
              refine zt_aload_n (pc' := 54) hX dX12_sound_53 rfl rfl ?_
              refine zt_get (pc' := 57) (v := .ref (X.1.1 + 165)) hX dX12_sound_54 rfl zf_X12_7 (by decide) zc_164 zs_46 (zrf_of (zv_46_0 hI7 zc_164)) ?_
              refine zt_iload_n (pc' := 58) hX dX12_sound_57 rfl rfl ?_
              refine zt_iald (pc' := 59) hX dX12_sound_58 rfl (by decide) zc_165 zs_47 (by decide) ⟨by omega, by omega⟩ ?_
              generalize hv101 : s5 165 (x19.toNat) = v101
              have bv101 : 0 ≤ v101 ∧ v101 ≤ 255 := hv101 ▸ zv_47 hI7 zc_165 _
              refine zt_aload_n (pc' := 60) hX dX12_sound_59 rfl rfl ?_
              refine zt_get (pc' := 63) (v := .ref (X.1.1 + 165)) hX dX12_sound_60 rfl zf_X12_7 (by decide) zc_164 zs_46 (zrf_of (zv_46_0 hI7 zc_164)) ?_
              refine zt_iload_n (pc' := 64) hX dX12_sound_63 rfl rfl ?_
              refine zt_iconst (pc' := 65) hX dX12_sound_64 rfl ?_
              refine zt_iadd (pc' := 66) hX dX12_sound_65 rfl ?_
              refine zt_iald (pc' := 67) hX dX12_sound_66 rfl (by decide) zc_165 zs_47 (by decide) ⟨by omega, by omega⟩ ?_
              generalize hv102 : s5 165 ((x19 + 1).toNat) = v102
              have bv102 : 0 ≤ v102 ∧ v102 ≤ 255 := hv102 ▸ zv_47 hI7 zc_165 _
              refine zt_cVi (pc' := 70) hX dX12_sound_67 rfl zm_yX12_cellAt zw_44_11 zc_164 (by decide) zs_46 (q := (RX12, TX12, 108)) rfl rfl (zc_X12_cellAt_C _ _ s5 hI7 v101 ⟨by omega, by omega⟩ v102 ⟨by omega, by omega⟩) rfl rfl (Nat.le_of_ble_eq_true rfl) (by decide) (fun r103 s104 hr105 hp106 => ?_)
              obtain ⟨rfl, q107, q108, z109, z110⟩ := hp106
              replace z109 : yIm _ _ := z109
              replace z110 : yIm _ _ := z110
              refine zt_iconst (pc' := 71) hX dX12_sound_70 rfl ?_
              refine zt_iceq (pc' := 74) (tgt := 78) hX dX12_sound_71 rfl (by decide) ⟨by omega, by omega⟩ ⟨by omega, by omega⟩ (fun c111 => ?_) (fun c111 => ?_)
              · refine zt_iconst (pc' := 79) hX dX12_sound_78 rfl ?_
                refine zt_istore_n (pc' := 80) (lv' := [some (.ref (X.1.1 + 164)), some (.int (zI (σ 164 1))), some (.int (zI 0)), some (.int (zI x19))]) hX dX12_sound_79 rfl hL (by decide) rfl ?_
                refine zt_iinc (pc' := 83) (lv' := [some (.ref (X.1.1 + 164)), some (.int (zI (σ 164 1))), some (.int (zI 0)), some (.int (zI (x19 + 4)))]) hX dX12_sound_80 rfl rfl hL (by decide) rfl ?_
                refine zt_goto (tgt := 43) hX dX12_sound_83 (by decide) ?_
                exact ih29 0 (x19 + 4) (by omega) (by omega) (by omega) (by omega) (by omega) (by omega) (by omega) (by omega) (ySy_k mb32 (by omega) (by omega) (hv101.symm.trans (yW_j (u := x19) (hF8 165 _ rfl) (by omega) (by omega))) rfl (hv102.symm.trans (yW_j (u := (x19 + 1)) (hF8 165 _ rfl) (by omega) (by omega))) rfl (fun h => absurd (show _ = (-1 : Int) by omega) (z110 (by have q := (yPne_1 hNe (by omega)).2; omega))) _) (by omega)
              · refine zt_iconst (pc' := 75) hX dX12_sound_74 rfl ?_
                refine zt_goto (tgt := 79) hX dX12_sound_75 (by decide) ?_
                refine zt_istore_n (pc' := 80) (lv' := [some (.ref (X.1.1 + 164)), some (.int (zI (σ 164 1))), some (.int (zI 1)), some (.int (zI x19))]) hX dX12_sound_79 rfl hL (by decide) rfl ?_
                refine zt_iinc (pc' := 83) (lv' := [some (.ref (X.1.1 + 164)), some (.int (zI (σ 164 1))), some (.int (zI 1)), some (.int (zI (x19 + 4)))]) hX dX12_sound_80 rfl rfl hL (by decide) rfl ?_
                refine zt_goto (tgt := 43) hX dX12_sound_83 (by decide) ?_
                exact ih29 1 (x19 + 4) (by omega) (by omega) (by omega) (by omega) (by omega) (by omega) (by omega) (by omega) (ySy_s ma31 mb32 md33 (hv101.symm.trans (yW_j (u := x19) (hF8 165 _ rfl) (by omega) (by omega))) rfl (hv102.symm.trans (yW_j (u := (x19 + 1)) (hF8 165 _ rfl) (by omega) (by omega))) rfl (by have q := z109 (by omega); omega)) (by omega)
        · refine zt_iload_n (pc' := 44) hX dX12_sound_43 rfl rfl ?_
          refine zt_iload_n (pc' := 45) hX dX12_sound_44 rfl rfl ?_
          refine zt_icge (pc' := 48) (tgt := 86) hX dX12_sound_45 rfl (by decide) ⟨by omega, by omega⟩ ⟨by omega, by omega⟩ (fun c112 => ?_) (fun c112 => ?_)
          · refine zt_iload_n (pc' := 87) hX dX12_sound_86 rfl rfl ?_
            refine zt_ifne (pc' := 90) (tgt := 96) hX dX12_sound_87 rfl (by decide) ⟨by omega, by omega⟩ (fun c113 => ?_) (fun c113 => ?_)
            · exact absurd c113 (by omega)
            · refine zt_aload_n (pc' := 91) hX dX12_sound_90 rfl rfl ?_
              refine zt_iconst (pc' := 92) hX dX12_sound_91 rfl ?_
              refine zt_cVi (pc' := 95) hX dX12_sound_92 rfl zm_yX12_refuses zw_57_10 zc_164 (by decide) zs_46 (q := (RX12, TX12, 108)) rfl rfl (zc_X12_refuses _ _ s5 hI7 1 ⟨by omega, by omega⟩) rfl rfl (Nat.le_of_ble_eq_true rfl) (by decide) (fun r114 s115 hr116 hp117 => ?_)
              obtain ⟨hI118, hF119, q120, q121⟩ := hp117
              have hF122 := zOn_tr hF8 (zSm_N hF119) zi_id
              have b123 := zv_46_1 hI118 zc_164
              have b124 := zv_46_50 hI118 zc_164
              have b125 := zv_46_64 hI118 zc_164
              exact zt_iret hX hR dX12_sound_95 ⟨by omega, by omega⟩ ⟨hI118, hF122, by omega, by omega, (by rw [show r114 = -1 by omega]; exact mx34)⟩
          · refine zt_iload_n (pc' := 49) hX dX12_sound_48 rfl rfl ?_
            refine zt_ifeq (pc' := 52) (tgt := 86) hX dX12_sound_49 rfl (by decide) ⟨by omega, by omega⟩ (fun c126 => ?_) (fun c126 => ?_)
            · refine zt_iload_n (pc' := 87) hX dX12_sound_86 rfl rfl ?_
              refine zt_ifne (pc' := 90) (tgt := 96) hX dX12_sound_87 rfl (by decide) ⟨by omega, by omega⟩ (fun c127 => ?_) (fun c127 => ?_)
              · exact absurd c127 (by omega)
              · refine zt_aload_n (pc' := 91) hX dX12_sound_90 rfl rfl ?_
                refine zt_iconst (pc' := 92) hX dX12_sound_91 rfl ?_
                refine zt_cVi (pc' := 95) hX dX12_sound_92 rfl zm_yX12_refuses zw_57_10 zc_164 (by decide) zs_46 (q := (RX12, TX12, 108)) rfl rfl (zc_X12_refuses _ _ s5 hI7 1 ⟨by omega, by omega⟩) rfl rfl (Nat.le_of_ble_eq_true rfl) (by decide) (fun r128 s129 hr130 hp131 => ?_)
                obtain ⟨hI132, hF133, q134, q135⟩ := hp131
                have hF136 := zOn_tr hF8 (zSm_N hF133) zi_id
                have b137 := zv_46_1 hI132 zc_164
                have b138 := zv_46_50 hI132 zc_164
                have b139 := zv_46_64 hI132 zc_164
                exact zt_iret hX hR dX12_sound_95 ⟨by omega, by omega⟩ ⟨hI132, hF136, by omega, by omega, (by rw [show r128 = -1 by omega]; exact mx34)⟩
            · exact absurd c126 (by omega)
    exact L_43_26 _ 0 0 (by omega) (by omega) (by omega) (by omega) (by omega) (by omega) (by omega) (by omega) (Or.inr ⟨rfl, ySx_n (fun h => by have q := yPne_0 hNe; omega) rfl⟩) (Nat.lt_succ_self _)
  · refine zt_iload_n (pc' := 18) hX dX12_sound_17 rfl rfl ?_
    refine zt_ifle (pc' := 21) (tgt := 39) hX dX12_sound_18 rfl (by decide) ⟨by omega, by omega⟩ (fun c140 => ?_) (fun c140 => ?_)
    · refine zt_iconst (pc' := 40) hX dX12_sound_39 rfl ?_
      refine zt_istore_n (pc' := 41) (lv' := [some (.ref (X.1.1 + 164)), some (.int (zI (σ 164 1))), some (.int (zI 0)), none]) hX dX12_sound_40 rfl hL (by decide) rfl ?_
      refine zt_iconst (pc' := 42) hX dX12_sound_41 rfl ?_
      refine zt_istore_n (pc' := 43) (lv' := [some (.ref (X.1.1 + 164)), some (.int (zI (σ 164 1))), some (.int (zI 0)), some (.int (zI 0))]) hX dX12_sound_42 rfl hL (by decide) rfl ?_
      have L_43_151 : ∀ (N : Nat) (x141 : Int) (x144 : Int), 0 ≤ x141 → x141 ≤ 1 → 0 ≤ x144 → x144 ≤ 1603 → 0 ≤ x144 → x144 ≤ 1603 → 0 ≤ x141 → x141 ≤ 1 → ySy (yW σ) (σ 164 1) (σ 194 3) (σ 194 4) x141 x144 → ((1604 - x144).toNat) < N → zF X s5 43 [some (.ref (X.1.1 + 164)), some (.int (zI (σ 164 1))), some (.int (zI x141)), some (.int (zI x144))] [] := by
        intro N
        induction N with
        | zero =>
          intro x141 x144 h142 h143 h145 h146 g147 g148 g149 g150 g151 hm153
          exact absurd hm153 (Nat.not_lt_zero _)
        | succ N ih154 =>
          intro x141 x144 h142 h143 h145 h146 g147 g148 g149 g150 g151 hm153
          rcases g151 with ⟨hv155, ma156, mb157, md158⟩ | ⟨hv155, mx159⟩
          · have u160 := yPne_2 hNe ma156.2.2.2
            refine zt_iload_n (pc' := 44) hX dX12_sound_43 rfl rfl ?_
            refine zt_iload_n (pc' := 45) hX dX12_sound_44 rfl rfl ?_
            refine zt_icge (pc' := 48) (tgt := 86) hX dX12_sound_45 rfl (by decide) ⟨by omega, by omega⟩ ⟨by omega, by omega⟩ (fun c161 => ?_) (fun c161 => ?_)
            · refine zt_iload_n (pc' := 87) hX dX12_sound_86 rfl rfl ?_
              refine zt_ifne (pc' := 90) (tgt := 96) hX dX12_sound_87 rfl (by decide) ⟨by omega, by omega⟩ (fun c162 => ?_) (fun c162 => ?_)
              · refine zt_aload_n (pc' := 97) hX dX12_sound_96 rfl rfl ?_
                refine zt_iload_n (pc' := 98) hX dX12_sound_97 rfl rfl ?_
                refine zt_iconst (pc' := 99) hX dX12_sound_98 rfl ?_
                refine zt_idiv (pc' := 100) hX dX12_sound_99 rfl ⟨by omega, by omega⟩ ⟨by omega, by omega⟩ (fun r163 er163 br163 => ?_)
                rw [ztd_p (by omega)] at er163
                refine zt_put (pc' := 103) (x := r163) hX dX12_sound_100 rfl zf_X12_382 (by decide) zc_164 zs_46 (fun q hq => by cases hq; rfl) rfl rfl rfl ?_
                generalize hs165 : zset s5 164 64 r163 = s164
                have hI166 : zInv s164 := hs165 ▸ zp_46_64 hI7 zc_164 ⟨by omega, by omega⟩
                have hF167 : zOn zSm σ s164 := hs165 ▸ zOn_set hF8 rfl
                have e168 : s164 164 1 = s5 164 1 := by rw [← hs165]; exact zset_j (by decide)
                have e169 : s164 164 50 = s5 164 50 := by rw [← hs165]; exact zset_j (by decide)
                have e170 : s164 164 64 = r163 := by rw [← hs165]; exact zset_s
                have e171 : s164 194 3 = s5 194 3 := by rw [← hs165]; exact zset_k (zne_r zc_194 zc_164 (by decide))
                have e172 : s164 194 4 = s5 194 4 := by rw [← hs165]; exact zset_k (zne_r zc_194 zc_164 (by decide))
                refine zt_iconst (pc' := 104) hX dX12_sound_103 rfl ?_
                refine zt_istore_n (pc' := 105) (lv' := [some (.ref (X.1.1 + 164)), some (.int (zI (σ 164 1))), some (.int (zI x141)), some (.int (zI 0))]) hX dX12_sound_104 rfl hL (by decide) rfl ?_
                have L_105_185 : ∀ (N : Nat) (x173 : Int) (s176 : zSto), 0 ≤ x173 → x173 ≤ 12 → zInv s176 → zOn zSm σ s176 → 0 ≤ x173 → x173 ≤ 12 → s176 164 64 = σ 164 1 / 4 → s176 164 50 = σ 164 50 → s176 194 3 = σ 194 3 → s176 194 4 = σ 194 4 → ySd (yW σ) (σ 194 3) (σ 194 4) (σ 164 1 / 4) → ((13 - x173).toNat) < N → zF X s176 105 [some (.ref (X.1.1 + 164)), none, none, some (.int (zI x173))] [] := by
                  intro N
                  induction N with
                  | zero =>
                    intro x173 s176 h174 h175 hI177 hF178 g179 g180 g181 g182 g183 g184 g185 hm187
                    exact absurd hm187 (Nat.not_lt_zero _)
                  | succ N ih188 =>
                    intro x173 s176 h174 h175 hI177 hF178 g179 g180 g181 g182 g183 g184 g185 hm187
                    have b189 := zv_46_1 hI177 zc_164
                    have b190 := zv_46_50 hI177 zc_164
                    have b191 := zv_46_64 hI177 zc_164
                    refine zt_iload_n (pc' := 106) hX dX12_sound_105 rfl rfl ?_
                    refine zt_aload_n (pc' := 107) hX dX12_sound_106 rfl rfl ?_
                    have b192 := zv_46_64 hI177 zc_164
                    refine zt_get (pc' := 110) (v := .int (zI (s176 164 64))) hX dX12_sound_107 rfl zf_X12_382 (by decide) zc_164 zs_46 rfl ?_
                    refine zt_icge (pc' := 113) (tgt := 188) hX dX12_sound_110 rfl (by decide) ⟨by omega, by omega⟩ ⟨by omega, by omega⟩ (fun c193 => ?_) (fun c193 => ?_)
                    · refine zt_aload_n (pc' := 189) hX dX12_sound_188 rfl rfl ?_
                      refine zt_get (pc' := 192) (v := .int (zI (s176 164 64))) hX dX12_sound_189 rfl zf_X12_382 (by decide) zc_164 zs_46 rfl ?_
                      exact zt_iret hX hR dX12_sound_192 ⟨by omega, by omega⟩ ⟨hI177, hF178, by omega, by omega, (ySx_y ma156 g185 (by omega))⟩
                    · refine zt_aload_n (pc' := 114) hX dX12_sound_113 rfl rfl ?_
                      refine zt_get (pc' := 117) (v := .ref (X.1.1 + 207)) hX dX12_sound_114 rfl zf_X12_146 (by decide) zc_164 zs_46 (zrf_of (zv_46_65 hI177 zc_164)) ?_
                      refine zt_iconst (pc' := 118) hX dX12_sound_117 rfl ?_
                      refine zt_iload_n (pc' := 119) hX dX12_sound_118 rfl rfl ?_
                      refine zt_imul (pc' := 120) hX dX12_sound_119 rfl ?_
                      refine zt_aload_n (pc' := 121) hX dX12_sound_120 rfl rfl ?_
                      refine zt_aload_n (pc' := 122) hX dX12_sound_121 rfl rfl ?_
                      refine zt_get (pc' := 125) (v := .ref (X.1.1 + 165)) hX dX12_sound_122 rfl zf_X12_7 (by decide) zc_164 zs_46 (zrf_of (zv_46_0 hI177 zc_164)) ?_
                      refine zt_iconst (pc' := 126) hX dX12_sound_125 rfl ?_
                      refine zt_iload_n (pc' := 127) hX dX12_sound_126 rfl rfl ?_
                      refine zt_imul (pc' := 128) hX dX12_sound_127 rfl ?_
                      refine zt_iald (pc' := 129) hX dX12_sound_128 rfl (by decide) zc_165 zs_47 (by decide) ⟨by omega, by omega⟩ ?_
                      generalize hv194 : s176 165 ((4 * x173).toNat) = v194
                      have bv194 : 0 ≤ v194 ∧ v194 ≤ 255 := hv194 ▸ zv_47 hI177 zc_165 _
                      refine zt_aload_n (pc' := 130) hX dX12_sound_129 rfl rfl ?_
                      refine zt_get (pc' := 133) (v := .ref (X.1.1 + 165)) hX dX12_sound_130 rfl zf_X12_7 (by decide) zc_164 zs_46 (zrf_of (zv_46_0 hI177 zc_164)) ?_
                      refine zt_iconst (pc' := 134) hX dX12_sound_133 rfl ?_
                      refine zt_iload_n (pc' := 135) hX dX12_sound_134 rfl rfl ?_
                      refine zt_imul (pc' := 136) hX dX12_sound_135 rfl ?_
                      refine zt_iconst (pc' := 137) hX dX12_sound_136 rfl ?_
                      refine zt_iadd (pc' := 138) hX dX12_sound_137 rfl ?_
                      refine zt_iald (pc' := 139) hX dX12_sound_138 rfl (by decide) zc_165 zs_47 (by decide) ⟨by omega, by omega⟩ ?_
                      generalize hv195 : s176 165 (((4 * x173) + 1).toNat) = v195
                      have bv195 : 0 ≤ v195 ∧ v195 ≤ 255 := hv195 ▸ zv_47 hI177 zc_165 _
                      refine zt_cVi (pc' := 142) hX dX12_sound_139 rfl zm_yX12_cellAt zw_44_11 zc_164 (by decide) zs_46 (q := (RX12, TX12, 108)) rfl rfl (zc_X12_cellAt_C _ _ s176 hI177 v194 ⟨by omega, by omega⟩ v195 ⟨by omega, by omega⟩) rfl rfl (Nat.le_of_ble_eq_true rfl) (by decide) (fun r196 s197 hr198 hp199 => ?_)
                      obtain ⟨rfl, q200, q201, z202, z203⟩ := hp199
                      clear z202
                      have hr204 : r196 ≠ -1 := z203 (by have q1 := ySd_a g185 (k := x173) (by omega) (by omega) rfl; have q2 := ySd_b g185 (k := x173) (by omega) (by omega) rfl; have t1 : v194 = yW σ (4 * x173) := (hv194.symm.trans (yW_j (u := (4 * x173)) (hF178 165 _ rfl) (by omega) (by omega))); have t2 : v195 = yW σ (4 * x173 + 1) := (hv195.symm.trans (yW_j (u := (4 * x173 + 1)) (hF178 165 _ rfl) (by omega) (by omega))); omega)
                      clear z203
                      refine zt_iast (pc' := 143) hX dX12_sound_142 rfl (by decide) zc_207 zs_89 (by decide) ⟨by omega, by omega⟩ ?_
                      generalize hs206 : zset s176 207 ((2 * x173).toNat) r196 = s205
                      have hI207 : zInv s205 := hs206 ▸ zp_89 hI177 zc_207 ((2 * x173).toNat) (by omega)
                      have hF208 : zOn zSm σ s205 := hs206 ▸ zOn_set hF178 rfl
                      have e209 : s205 164 1 = s176 164 1 := by rw [← hs206]; exact zset_k (zne_r zc_164 zc_207 (by decide))
                      have e210 : s205 164 50 = s176 164 50 := by rw [← hs206]; exact zset_k (zne_r zc_164 zc_207 (by decide))
                      have e211 : s205 164 64 = s176 164 64 := by rw [← hs206]; exact zset_k (zne_r zc_164 zc_207 (by decide))
                      have e212 : s205 194 3 = s176 194 3 := by rw [← hs206]; exact zset_k (zne_r zc_194 zc_207 (by decide))
                      have e213 : s205 194 4 = s176 194 4 := by rw [← hs206]; exact zset_k (zne_r zc_194 zc_207 (by decide))
                      refine zt_aload_n (pc' := 144) hX dX12_sound_143 rfl rfl ?_
                      refine zt_get (pc' := 147) (v := .ref (X.1.1 + 207)) hX dX12_sound_144 rfl zf_X12_146 (by decide) zc_164 zs_46 (zrf_of (zv_46_65 hI207 zc_164)) ?_
                      refine zt_iconst (pc' := 148) hX dX12_sound_147 rfl ?_
                      refine zt_iload_n (pc' := 149) hX dX12_sound_148 rfl rfl ?_
                      refine zt_imul (pc' := 150) hX dX12_sound_149 rfl ?_
                      refine zt_iconst (pc' := 151) hX dX12_sound_150 rfl ?_
                      refine zt_iadd (pc' := 152) hX dX12_sound_151 rfl ?_
                      refine zt_sipush (pc' := 155) hX dX12_sound_152 rfl (by decide) (by decide) ?_
                      refine zt_aload_n (pc' := 156) hX dX12_sound_155 rfl rfl ?_
                      refine zt_get (pc' := 159) (v := .ref (X.1.1 + 165)) hX dX12_sound_156 rfl zf_X12_7 (by decide) zc_164 zs_46 (zrf_of (zv_46_0 hI207 zc_164)) ?_
                      refine zt_iconst (pc' := 160) hX dX12_sound_159 rfl ?_
                      refine zt_iload_n (pc' := 161) hX dX12_sound_160 rfl rfl ?_
                      refine zt_imul (pc' := 162) hX dX12_sound_161 rfl ?_
                      refine zt_iconst (pc' := 163) hX dX12_sound_162 rfl ?_
                      refine zt_iadd (pc' := 164) hX dX12_sound_163 rfl ?_
                      refine zt_iald (pc' := 165) hX dX12_sound_164 rfl (by decide) zc_165 zs_47 (by decide) ⟨by omega, by omega⟩ ?_
                      generalize hv214 : s205 165 (((4 * x173) + 2).toNat) = v214
                      have bv214 : 0 ≤ v214 ∧ v214 ≤ 255 := hv214 ▸ zv_47 hI207 zc_165 _
                      refine zt_imul (pc' := 166) hX dX12_sound_165 rfl ?_
                      refine zt_aload_n (pc' := 167) hX dX12_sound_166 rfl rfl ?_
                      refine zt_get (pc' := 170) (v := .ref (X.1.1 + 165)) hX dX12_sound_167 rfl zf_X12_7 (by decide) zc_164 zs_46 (zrf_of (zv_46_0 hI207 zc_164)) ?_
                      refine zt_iconst (pc' := 171) hX dX12_sound_170 rfl ?_
                      refine zt_iload_n (pc' := 172) hX dX12_sound_171 rfl rfl ?_
                      refine zt_imul (pc' := 173) hX dX12_sound_172 rfl ?_
                      refine zt_iconst (pc' := 174) hX dX12_sound_173 rfl ?_
                      refine zt_iadd (pc' := 175) hX dX12_sound_174 rfl ?_
                      refine zt_iald (pc' := 176) hX dX12_sound_175 rfl (by decide) zc_165 zs_47 (by decide) ⟨by omega, by omega⟩ ?_
                      generalize hv215 : s205 165 (((4 * x173) + 3).toNat) = v215
                      have bv215 : 0 ≤ v215 ∧ v215 ≤ 255 := hv215 ▸ zv_47 hI207 zc_165 _
                      refine zt_iadd (pc' := 177) hX dX12_sound_176 rfl ?_
                      refine zt_sipush (pc' := 180) hX dX12_sound_177 rfl (by decide) (by decide) ?_
                      refine zt_isub (pc' := 181) hX dX12_sound_180 rfl ?_
                      refine zt_iast (pc' := 182) hX dX12_sound_181 rfl (by decide) zc_207 zs_89 (by decide) ⟨by omega, by omega⟩ ?_
                      generalize hs217 : zset s205 207 (((2 * x173) + 1).toNat) (((256 * v214) + v215) - 500) = s216
                      have hI218 : zInv s216 := hs217 ▸ zp_89 hI207 zc_207 (((2 * x173) + 1).toNat) (by omega)
                      have hF219 : zOn zSm σ s216 := hs217 ▸ zOn_set hF208 rfl
                      have e220 : s216 164 1 = s205 164 1 := by rw [← hs217]; exact zset_k (zne_r zc_164 zc_207 (by decide))
                      have e221 : s216 164 50 = s205 164 50 := by rw [← hs217]; exact zset_k (zne_r zc_164 zc_207 (by decide))
                      have e222 : s216 164 64 = s205 164 64 := by rw [← hs217]; exact zset_k (zne_r zc_164 zc_207 (by decide))
                      have e223 : s216 194 3 = s205 194 3 := by rw [← hs217]; exact zset_k (zne_r zc_194 zc_207 (by decide))
                      have e224 : s216 194 4 = s205 194 4 := by rw [← hs217]; exact zset_k (zne_r zc_194 zc_207 (by decide))
                      refine zt_iinc (pc' := 185) (lv' := [some (.ref (X.1.1 + 164)), none, none, some (.int (zI (x173 + 1)))]) hX dX12_sound_182 rfl rfl hL (by decide) rfl ?_
                      refine zt_goto (tgt := 105) hX dX12_sound_185 (by decide) ?_
                      exact ih188 (x173 + 1) s216 (by omega) (by omega) hI218 hF219 (by omega) (by omega) (by omega) (by omega) (by omega) (by omega) g185 (by omega)
                refine zt_mask [true, false, false, true] rfl ?_
                exact L_105_185 _ 0 s164 (by omega) (by omega) hI166 hF167 (by omega) (by omega) (by omega) (by omega) (by omega) (by omega) (ySd_le md158 (by omega)) (Nat.lt_succ_self _)
              · exact absurd c162 (by omega)
            · refine zt_iload_n (pc' := 49) hX dX12_sound_48 rfl rfl ?_
              refine zt_ifeq (pc' := 52) (tgt := 86) hX dX12_sound_49 rfl (by decide) ⟨by omega, by omega⟩ (fun c225 => ?_) (fun c225 => ?_)
              · exact absurd c225 (by omega)
              · refine zt_aload_n (pc' := 53) hX dX12_sound_52 rfl rfl ?_
                refine zt_aload_n (pc' := 54) hX dX12_sound_53 rfl rfl ?_
                refine zt_get (pc' := 57) (v := .ref (X.1.1 + 165)) hX dX12_sound_54 rfl zf_X12_7 (by decide) zc_164 zs_46 (zrf_of (zv_46_0 hI7 zc_164)) ?_
                refine zt_iload_n (pc' := 58) hX dX12_sound_57 rfl rfl ?_
                refine zt_iald (pc' := 59) hX dX12_sound_58 rfl (by decide) zc_165 zs_47 (by decide) ⟨by omega, by omega⟩ ?_
                generalize hv226 : s5 165 (x144.toNat) = v226
                have bv226 : 0 ≤ v226 ∧ v226 ≤ 255 := hv226 ▸ zv_47 hI7 zc_165 _
                refine zt_aload_n (pc' := 60) hX dX12_sound_59 rfl rfl ?_
                refine zt_get (pc' := 63) (v := .ref (X.1.1 + 165)) hX dX12_sound_60 rfl zf_X12_7 (by decide) zc_164 zs_46 (zrf_of (zv_46_0 hI7 zc_164)) ?_
                refine zt_iload_n (pc' := 64) hX dX12_sound_63 rfl rfl ?_
                refine zt_iconst (pc' := 65) hX dX12_sound_64 rfl ?_
                refine zt_iadd (pc' := 66) hX dX12_sound_65 rfl ?_
                refine zt_iald (pc' := 67) hX dX12_sound_66 rfl (by decide) zc_165 zs_47 (by decide) ⟨by omega, by omega⟩ ?_
                generalize hv227 : s5 165 ((x144 + 1).toNat) = v227
                have bv227 : 0 ≤ v227 ∧ v227 ≤ 255 := hv227 ▸ zv_47 hI7 zc_165 _
                refine zt_cVi (pc' := 70) hX dX12_sound_67 rfl zm_yX12_cellAt zw_44_11 zc_164 (by decide) zs_46 (q := (RX12, TX12, 108)) rfl rfl (zc_X12_cellAt_C _ _ s5 hI7 v226 ⟨by omega, by omega⟩ v227 ⟨by omega, by omega⟩) rfl rfl (Nat.le_of_ble_eq_true rfl) (by decide) (fun r228 s229 hr230 hp231 => ?_)
                obtain ⟨rfl, q232, q233, z234, z235⟩ := hp231
                replace z234 : yIm _ _ := z234
                replace z235 : yIm _ _ := z235
                refine zt_iconst (pc' := 71) hX dX12_sound_70 rfl ?_
                refine zt_iceq (pc' := 74) (tgt := 78) hX dX12_sound_71 rfl (by decide) ⟨by omega, by omega⟩ ⟨by omega, by omega⟩ (fun c236 => ?_) (fun c236 => ?_)
                · refine zt_iconst (pc' := 79) hX dX12_sound_78 rfl ?_
                  refine zt_istore_n (pc' := 80) (lv' := [some (.ref (X.1.1 + 164)), some (.int (zI (σ 164 1))), some (.int (zI 0)), some (.int (zI x144))]) hX dX12_sound_79 rfl hL (by decide) rfl ?_
                  refine zt_iinc (pc' := 83) (lv' := [some (.ref (X.1.1 + 164)), some (.int (zI (σ 164 1))), some (.int (zI 0)), some (.int (zI (x144 + 4)))]) hX dX12_sound_80 rfl rfl hL (by decide) rfl ?_
                  refine zt_goto (tgt := 43) hX dX12_sound_83 (by decide) ?_
                  exact ih154 0 (x144 + 4) (by omega) (by omega) (by omega) (by omega) (by omega) (by omega) (by omega) (by omega) (ySy_k mb157 (by omega) (by omega) (hv226.symm.trans (yW_j (u := x144) (hF8 165 _ rfl) (by omega) (by omega))) rfl (hv227.symm.trans (yW_j (u := (x144 + 1)) (hF8 165 _ rfl) (by omega) (by omega))) rfl (fun h => absurd (show _ = (-1 : Int) by omega) (z235 (by have q := (yPne_1 hNe (by omega)).2; omega))) _) (by omega)
                · refine zt_iconst (pc' := 75) hX dX12_sound_74 rfl ?_
                  refine zt_goto (tgt := 79) hX dX12_sound_75 (by decide) ?_
                  refine zt_istore_n (pc' := 80) (lv' := [some (.ref (X.1.1 + 164)), some (.int (zI (σ 164 1))), some (.int (zI 1)), some (.int (zI x144))]) hX dX12_sound_79 rfl hL (by decide) rfl ?_
                  refine zt_iinc (pc' := 83) (lv' := [some (.ref (X.1.1 + 164)), some (.int (zI (σ 164 1))), some (.int (zI 1)), some (.int (zI (x144 + 4)))]) hX dX12_sound_80 rfl rfl hL (by decide) rfl ?_
                  refine zt_goto (tgt := 43) hX dX12_sound_83 (by decide) ?_
                  exact ih154 1 (x144 + 4) (by omega) (by omega) (by omega) (by omega) (by omega) (by omega) (by omega) (by omega) (ySy_s ma156 mb157 md158 (hv226.symm.trans (yW_j (u := x144) (hF8 165 _ rfl) (by omega) (by omega))) rfl (hv227.symm.trans (yW_j (u := (x144 + 1)) (hF8 165 _ rfl) (by omega) (by omega))) rfl (by have q := z234 (by omega); omega)) (by omega)
          · refine zt_iload_n (pc' := 44) hX dX12_sound_43 rfl rfl ?_
            refine zt_iload_n (pc' := 45) hX dX12_sound_44 rfl rfl ?_
            refine zt_icge (pc' := 48) (tgt := 86) hX dX12_sound_45 rfl (by decide) ⟨by omega, by omega⟩ ⟨by omega, by omega⟩ (fun c237 => ?_) (fun c237 => ?_)
            · refine zt_iload_n (pc' := 87) hX dX12_sound_86 rfl rfl ?_
              refine zt_ifne (pc' := 90) (tgt := 96) hX dX12_sound_87 rfl (by decide) ⟨by omega, by omega⟩ (fun c238 => ?_) (fun c238 => ?_)
              · exact absurd c238 (by omega)
              · refine zt_aload_n (pc' := 91) hX dX12_sound_90 rfl rfl ?_
                refine zt_iconst (pc' := 92) hX dX12_sound_91 rfl ?_
                refine zt_cVi (pc' := 95) hX dX12_sound_92 rfl zm_yX12_refuses zw_57_10 zc_164 (by decide) zs_46 (q := (RX12, TX12, 108)) rfl rfl (zc_X12_refuses _ _ s5 hI7 1 ⟨by omega, by omega⟩) rfl rfl (Nat.le_of_ble_eq_true rfl) (by decide) (fun r239 s240 hr241 hp242 => ?_)
                obtain ⟨hI243, hF244, q245, q246⟩ := hp242
                have hF247 := zOn_tr hF8 (zSm_N hF244) zi_id
                have b248 := zv_46_1 hI243 zc_164
                have b249 := zv_46_50 hI243 zc_164
                have b250 := zv_46_64 hI243 zc_164
                exact zt_iret hX hR dX12_sound_95 ⟨by omega, by omega⟩ ⟨hI243, hF247, by omega, by omega, (by rw [show r239 = -1 by omega]; exact mx159)⟩
            · refine zt_iload_n (pc' := 49) hX dX12_sound_48 rfl rfl ?_
              refine zt_ifeq (pc' := 52) (tgt := 86) hX dX12_sound_49 rfl (by decide) ⟨by omega, by omega⟩ (fun c251 => ?_) (fun c251 => ?_)
              · refine zt_iload_n (pc' := 87) hX dX12_sound_86 rfl rfl ?_
                refine zt_ifne (pc' := 90) (tgt := 96) hX dX12_sound_87 rfl (by decide) ⟨by omega, by omega⟩ (fun c252 => ?_) (fun c252 => ?_)
                · exact absurd c252 (by omega)
                · refine zt_aload_n (pc' := 91) hX dX12_sound_90 rfl rfl ?_
                  refine zt_iconst (pc' := 92) hX dX12_sound_91 rfl ?_
                  refine zt_cVi (pc' := 95) hX dX12_sound_92 rfl zm_yX12_refuses zw_57_10 zc_164 (by decide) zs_46 (q := (RX12, TX12, 108)) rfl rfl (zc_X12_refuses _ _ s5 hI7 1 ⟨by omega, by omega⟩) rfl rfl (Nat.le_of_ble_eq_true rfl) (by decide) (fun r253 s254 hr255 hp256 => ?_)
                  obtain ⟨hI257, hF258, q259, q260⟩ := hp256
                  have hF261 := zOn_tr hF8 (zSm_N hF258) zi_id
                  have b262 := zv_46_1 hI257 zc_164
                  have b263 := zv_46_50 hI257 zc_164
                  have b264 := zv_46_64 hI257 zc_164
                  exact zt_iret hX hR dX12_sound_95 ⟨by omega, by omega⟩ ⟨hI257, hF261, by omega, by omega, (by rw [show r253 = -1 by omega]; exact mx159)⟩
              · exact absurd c251 (by omega)
      exact L_43_151 _ 0 0 (by omega) (by omega) (by omega) (by omega) (by omega) (by omega) (by omega) (by omega) (Or.inr ⟨rfl, ySx_n (fun h => by have q := yPne_0 hNe; omega) rfl⟩) (Nat.lt_succ_self _)
    · refine zt_iload_n (pc' := 22) hX dX12_sound_21 rfl rfl ?_
      refine zt_iconst (pc' := 23) hX dX12_sound_22 rfl ?_
      refine zt_irem (pc' := 24) hX dX12_sound_23 rfl ⟨by omega, by omega⟩ ⟨by omega, by omega⟩ (fun r265 er265 br265 nr265 => ?_)
      rw [ztm_p (by omega)] at er265
      refine zt_ifne (pc' := 27) (tgt := 39) hX dX12_sound_24 rfl (by decide) ⟨by omega, by omega⟩ (fun c266 => ?_) (fun c266 => ?_)
      · refine zt_iconst (pc' := 40) hX dX12_sound_39 rfl ?_
        refine zt_istore_n (pc' := 41) (lv' := [some (.ref (X.1.1 + 164)), some (.int (zI (σ 164 1))), some (.int (zI 0)), none]) hX dX12_sound_40 rfl hL (by decide) rfl ?_
        refine zt_iconst (pc' := 42) hX dX12_sound_41 rfl ?_
        refine zt_istore_n (pc' := 43) (lv' := [some (.ref (X.1.1 + 164)), some (.int (zI (σ 164 1))), some (.int (zI 0)), some (.int (zI 0))]) hX dX12_sound_42 rfl hL (by decide) rfl ?_
        have L_43_277 : ∀ (N : Nat) (x267 : Int) (x270 : Int), 0 ≤ x267 → x267 ≤ 1 → 0 ≤ x270 → x270 ≤ 1603 → 0 ≤ x270 → x270 ≤ 1603 → 0 ≤ x267 → x267 ≤ 1 → ySy (yW σ) (σ 164 1) (σ 194 3) (σ 194 4) x267 x270 → ((1604 - x270).toNat) < N → zF X s5 43 [some (.ref (X.1.1 + 164)), some (.int (zI (σ 164 1))), some (.int (zI x267)), some (.int (zI x270))] [] := by
          intro N
          induction N with
          | zero =>
            intro x267 x270 h268 h269 h271 h272 g273 g274 g275 g276 g277 hm279
            exact absurd hm279 (Nat.not_lt_zero _)
          | succ N ih280 =>
            intro x267 x270 h268 h269 h271 h272 g273 g274 g275 g276 g277 hm279
            rcases g277 with ⟨hv281, ma282, mb283, md284⟩ | ⟨hv281, mx285⟩
            · have u286 := yPne_2 hNe ma282.2.2.2
              refine zt_iload_n (pc' := 44) hX dX12_sound_43 rfl rfl ?_
              refine zt_iload_n (pc' := 45) hX dX12_sound_44 rfl rfl ?_
              refine zt_icge (pc' := 48) (tgt := 86) hX dX12_sound_45 rfl (by decide) ⟨by omega, by omega⟩ ⟨by omega, by omega⟩ (fun c287 => ?_) (fun c287 => ?_)
              · refine zt_iload_n (pc' := 87) hX dX12_sound_86 rfl rfl ?_
                refine zt_ifne (pc' := 90) (tgt := 96) hX dX12_sound_87 rfl (by decide) ⟨by omega, by omega⟩ (fun c288 => ?_) (fun c288 => ?_)
                · refine zt_aload_n (pc' := 97) hX dX12_sound_96 rfl rfl ?_
                  refine zt_iload_n (pc' := 98) hX dX12_sound_97 rfl rfl ?_
                  refine zt_iconst (pc' := 99) hX dX12_sound_98 rfl ?_
                  refine zt_idiv (pc' := 100) hX dX12_sound_99 rfl ⟨by omega, by omega⟩ ⟨by omega, by omega⟩ (fun r289 er289 br289 => ?_)
                  rw [ztd_p (by omega)] at er289
                  refine zt_put (pc' := 103) (x := r289) hX dX12_sound_100 rfl zf_X12_382 (by decide) zc_164 zs_46 (fun q hq => by cases hq; rfl) rfl rfl rfl ?_
                  generalize hs291 : zset s5 164 64 r289 = s290
                  have hI292 : zInv s290 := hs291 ▸ zp_46_64 hI7 zc_164 ⟨by omega, by omega⟩
                  have hF293 : zOn zSm σ s290 := hs291 ▸ zOn_set hF8 rfl
                  have e294 : s290 164 1 = s5 164 1 := by rw [← hs291]; exact zset_j (by decide)
                  have e295 : s290 164 50 = s5 164 50 := by rw [← hs291]; exact zset_j (by decide)
                  have e296 : s290 164 64 = r289 := by rw [← hs291]; exact zset_s
                  have e297 : s290 194 3 = s5 194 3 := by rw [← hs291]; exact zset_k (zne_r zc_194 zc_164 (by decide))
                  have e298 : s290 194 4 = s5 194 4 := by rw [← hs291]; exact zset_k (zne_r zc_194 zc_164 (by decide))
                  refine zt_iconst (pc' := 104) hX dX12_sound_103 rfl ?_
                  refine zt_istore_n (pc' := 105) (lv' := [some (.ref (X.1.1 + 164)), some (.int (zI (σ 164 1))), some (.int (zI x267)), some (.int (zI 0))]) hX dX12_sound_104 rfl hL (by decide) rfl ?_
                  have L_105_311 : ∀ (N : Nat) (x299 : Int) (s302 : zSto), 0 ≤ x299 → x299 ≤ 12 → zInv s302 → zOn zSm σ s302 → 0 ≤ x299 → x299 ≤ 12 → s302 164 64 = σ 164 1 / 4 → s302 164 50 = σ 164 50 → s302 194 3 = σ 194 3 → s302 194 4 = σ 194 4 → ySd (yW σ) (σ 194 3) (σ 194 4) (σ 164 1 / 4) → ((13 - x299).toNat) < N → zF X s302 105 [some (.ref (X.1.1 + 164)), none, none, some (.int (zI x299))] [] := by
                    intro N
                    induction N with
                    | zero =>
                      intro x299 s302 h300 h301 hI303 hF304 g305 g306 g307 g308 g309 g310 g311 hm313
                      exact absurd hm313 (Nat.not_lt_zero _)
                    | succ N ih314 =>
                      intro x299 s302 h300 h301 hI303 hF304 g305 g306 g307 g308 g309 g310 g311 hm313
                      have b315 := zv_46_1 hI303 zc_164
                      have b316 := zv_46_50 hI303 zc_164
                      have b317 := zv_46_64 hI303 zc_164
                      refine zt_iload_n (pc' := 106) hX dX12_sound_105 rfl rfl ?_
                      refine zt_aload_n (pc' := 107) hX dX12_sound_106 rfl rfl ?_
                      have b318 := zv_46_64 hI303 zc_164
                      refine zt_get (pc' := 110) (v := .int (zI (s302 164 64))) hX dX12_sound_107 rfl zf_X12_382 (by decide) zc_164 zs_46 rfl ?_
                      refine zt_icge (pc' := 113) (tgt := 188) hX dX12_sound_110 rfl (by decide) ⟨by omega, by omega⟩ ⟨by omega, by omega⟩ (fun c319 => ?_) (fun c319 => ?_)
                      · refine zt_aload_n (pc' := 189) hX dX12_sound_188 rfl rfl ?_
                        refine zt_get (pc' := 192) (v := .int (zI (s302 164 64))) hX dX12_sound_189 rfl zf_X12_382 (by decide) zc_164 zs_46 rfl ?_
                        exact zt_iret hX hR dX12_sound_192 ⟨by omega, by omega⟩ ⟨hI303, hF304, by omega, by omega, (ySx_y ma282 g311 (by omega))⟩
                      · refine zt_aload_n (pc' := 114) hX dX12_sound_113 rfl rfl ?_
                        refine zt_get (pc' := 117) (v := .ref (X.1.1 + 207)) hX dX12_sound_114 rfl zf_X12_146 (by decide) zc_164 zs_46 (zrf_of (zv_46_65 hI303 zc_164)) ?_
                        refine zt_iconst (pc' := 118) hX dX12_sound_117 rfl ?_
                        refine zt_iload_n (pc' := 119) hX dX12_sound_118 rfl rfl ?_
                        refine zt_imul (pc' := 120) hX dX12_sound_119 rfl ?_
                        refine zt_aload_n (pc' := 121) hX dX12_sound_120 rfl rfl ?_
                        refine zt_aload_n (pc' := 122) hX dX12_sound_121 rfl rfl ?_
                        refine zt_get (pc' := 125) (v := .ref (X.1.1 + 165)) hX dX12_sound_122 rfl zf_X12_7 (by decide) zc_164 zs_46 (zrf_of (zv_46_0 hI303 zc_164)) ?_
                        refine zt_iconst (pc' := 126) hX dX12_sound_125 rfl ?_
                        refine zt_iload_n (pc' := 127) hX dX12_sound_126 rfl rfl ?_
                        refine zt_imul (pc' := 128) hX dX12_sound_127 rfl ?_
                        refine zt_iald (pc' := 129) hX dX12_sound_128 rfl (by decide) zc_165 zs_47 (by decide) ⟨by omega, by omega⟩ ?_
                        generalize hv320 : s302 165 ((4 * x299).toNat) = v320
                        have bv320 : 0 ≤ v320 ∧ v320 ≤ 255 := hv320 ▸ zv_47 hI303 zc_165 _
                        refine zt_aload_n (pc' := 130) hX dX12_sound_129 rfl rfl ?_
                        refine zt_get (pc' := 133) (v := .ref (X.1.1 + 165)) hX dX12_sound_130 rfl zf_X12_7 (by decide) zc_164 zs_46 (zrf_of (zv_46_0 hI303 zc_164)) ?_
                        refine zt_iconst (pc' := 134) hX dX12_sound_133 rfl ?_
                        refine zt_iload_n (pc' := 135) hX dX12_sound_134 rfl rfl ?_
                        refine zt_imul (pc' := 136) hX dX12_sound_135 rfl ?_
                        refine zt_iconst (pc' := 137) hX dX12_sound_136 rfl ?_
                        refine zt_iadd (pc' := 138) hX dX12_sound_137 rfl ?_
                        refine zt_iald (pc' := 139) hX dX12_sound_138 rfl (by decide) zc_165 zs_47 (by decide) ⟨by omega, by omega⟩ ?_
                        generalize hv321 : s302 165 (((4 * x299) + 1).toNat) = v321
                        have bv321 : 0 ≤ v321 ∧ v321 ≤ 255 := hv321 ▸ zv_47 hI303 zc_165 _
                        refine zt_cVi (pc' := 142) hX dX12_sound_139 rfl zm_yX12_cellAt zw_44_11 zc_164 (by decide) zs_46 (q := (RX12, TX12, 108)) rfl rfl (zc_X12_cellAt_C _ _ s302 hI303 v320 ⟨by omega, by omega⟩ v321 ⟨by omega, by omega⟩) rfl rfl (Nat.le_of_ble_eq_true rfl) (by decide) (fun r322 s323 hr324 hp325 => ?_)
                        obtain ⟨rfl, q326, q327, z328, z329⟩ := hp325
                        clear z328
                        have hr330 : r322 ≠ -1 := z329 (by have q1 := ySd_a g311 (k := x299) (by omega) (by omega) rfl; have q2 := ySd_b g311 (k := x299) (by omega) (by omega) rfl; have t1 : v320 = yW σ (4 * x299) := (hv320.symm.trans (yW_j (u := (4 * x299)) (hF304 165 _ rfl) (by omega) (by omega))); have t2 : v321 = yW σ (4 * x299 + 1) := (hv321.symm.trans (yW_j (u := (4 * x299 + 1)) (hF304 165 _ rfl) (by omega) (by omega))); omega)
                        clear z329
                        refine zt_iast (pc' := 143) hX dX12_sound_142 rfl (by decide) zc_207 zs_89 (by decide) ⟨by omega, by omega⟩ ?_
                        generalize hs332 : zset s302 207 ((2 * x299).toNat) r322 = s331
                        have hI333 : zInv s331 := hs332 ▸ zp_89 hI303 zc_207 ((2 * x299).toNat) (by omega)
                        have hF334 : zOn zSm σ s331 := hs332 ▸ zOn_set hF304 rfl
                        have e335 : s331 164 1 = s302 164 1 := by rw [← hs332]; exact zset_k (zne_r zc_164 zc_207 (by decide))
                        have e336 : s331 164 50 = s302 164 50 := by rw [← hs332]; exact zset_k (zne_r zc_164 zc_207 (by decide))
                        have e337 : s331 164 64 = s302 164 64 := by rw [← hs332]; exact zset_k (zne_r zc_164 zc_207 (by decide))
                        have e338 : s331 194 3 = s302 194 3 := by rw [← hs332]; exact zset_k (zne_r zc_194 zc_207 (by decide))
                        have e339 : s331 194 4 = s302 194 4 := by rw [← hs332]; exact zset_k (zne_r zc_194 zc_207 (by decide))
                        refine zt_aload_n (pc' := 144) hX dX12_sound_143 rfl rfl ?_
                        refine zt_get (pc' := 147) (v := .ref (X.1.1 + 207)) hX dX12_sound_144 rfl zf_X12_146 (by decide) zc_164 zs_46 (zrf_of (zv_46_65 hI333 zc_164)) ?_
                        refine zt_iconst (pc' := 148) hX dX12_sound_147 rfl ?_
                        refine zt_iload_n (pc' := 149) hX dX12_sound_148 rfl rfl ?_
                        refine zt_imul (pc' := 150) hX dX12_sound_149 rfl ?_
                        refine zt_iconst (pc' := 151) hX dX12_sound_150 rfl ?_
                        refine zt_iadd (pc' := 152) hX dX12_sound_151 rfl ?_
                        refine zt_sipush (pc' := 155) hX dX12_sound_152 rfl (by decide) (by decide) ?_
                        refine zt_aload_n (pc' := 156) hX dX12_sound_155 rfl rfl ?_
                        refine zt_get (pc' := 159) (v := .ref (X.1.1 + 165)) hX dX12_sound_156 rfl zf_X12_7 (by decide) zc_164 zs_46 (zrf_of (zv_46_0 hI333 zc_164)) ?_
                        refine zt_iconst (pc' := 160) hX dX12_sound_159 rfl ?_
                        refine zt_iload_n (pc' := 161) hX dX12_sound_160 rfl rfl ?_
                        refine zt_imul (pc' := 162) hX dX12_sound_161 rfl ?_
                        refine zt_iconst (pc' := 163) hX dX12_sound_162 rfl ?_
                        refine zt_iadd (pc' := 164) hX dX12_sound_163 rfl ?_
                        refine zt_iald (pc' := 165) hX dX12_sound_164 rfl (by decide) zc_165 zs_47 (by decide) ⟨by omega, by omega⟩ ?_
                        generalize hv340 : s331 165 (((4 * x299) + 2).toNat) = v340
                        have bv340 : 0 ≤ v340 ∧ v340 ≤ 255 := hv340 ▸ zv_47 hI333 zc_165 _
                        refine zt_imul (pc' := 166) hX dX12_sound_165 rfl ?_
                        refine zt_aload_n (pc' := 167) hX dX12_sound_166 rfl rfl ?_
                        refine zt_get (pc' := 170) (v := .ref (X.1.1 + 165)) hX dX12_sound_167 rfl zf_X12_7 (by decide) zc_164 zs_46 (zrf_of (zv_46_0 hI333 zc_164)) ?_
                        refine zt_iconst (pc' := 171) hX dX12_sound_170 rfl ?_
                        refine zt_iload_n (pc' := 172) hX dX12_sound_171 rfl rfl ?_
                        refine zt_imul (pc' := 173) hX dX12_sound_172 rfl ?_
                        refine zt_iconst (pc' := 174) hX dX12_sound_173 rfl ?_
                        refine zt_iadd (pc' := 175) hX dX12_sound_174 rfl ?_
                        refine zt_iald (pc' := 176) hX dX12_sound_175 rfl (by decide) zc_165 zs_47 (by decide) ⟨by omega, by omega⟩ ?_
                        generalize hv341 : s331 165 (((4 * x299) + 3).toNat) = v341
                        have bv341 : 0 ≤ v341 ∧ v341 ≤ 255 := hv341 ▸ zv_47 hI333 zc_165 _
                        refine zt_iadd (pc' := 177) hX dX12_sound_176 rfl ?_
                        refine zt_sipush (pc' := 180) hX dX12_sound_177 rfl (by decide) (by decide) ?_
                        refine zt_isub (pc' := 181) hX dX12_sound_180 rfl ?_
                        refine zt_iast (pc' := 182) hX dX12_sound_181 rfl (by decide) zc_207 zs_89 (by decide) ⟨by omega, by omega⟩ ?_
                        generalize hs343 : zset s331 207 (((2 * x299) + 1).toNat) (((256 * v340) + v341) - 500) = s342
                        have hI344 : zInv s342 := hs343 ▸ zp_89 hI333 zc_207 (((2 * x299) + 1).toNat) (by omega)
                        have hF345 : zOn zSm σ s342 := hs343 ▸ zOn_set hF334 rfl
                        have e346 : s342 164 1 = s331 164 1 := by rw [← hs343]; exact zset_k (zne_r zc_164 zc_207 (by decide))
                        have e347 : s342 164 50 = s331 164 50 := by rw [← hs343]; exact zset_k (zne_r zc_164 zc_207 (by decide))
                        have e348 : s342 164 64 = s331 164 64 := by rw [← hs343]; exact zset_k (zne_r zc_164 zc_207 (by decide))
                        have e349 : s342 194 3 = s331 194 3 := by rw [← hs343]; exact zset_k (zne_r zc_194 zc_207 (by decide))
                        have e350 : s342 194 4 = s331 194 4 := by rw [← hs343]; exact zset_k (zne_r zc_194 zc_207 (by decide))
                        refine zt_iinc (pc' := 185) (lv' := [some (.ref (X.1.1 + 164)), none, none, some (.int (zI (x299 + 1)))]) hX dX12_sound_182 rfl rfl hL (by decide) rfl ?_
                        refine zt_goto (tgt := 105) hX dX12_sound_185 (by decide) ?_
                        exact ih314 (x299 + 1) s342 (by omega) (by omega) hI344 hF345 (by omega) (by omega) (by omega) (by omega) (by omega) (by omega) g311 (by omega)
                  refine zt_mask [true, false, false, true] rfl ?_
                  exact L_105_311 _ 0 s290 (by omega) (by omega) hI292 hF293 (by omega) (by omega) (by omega) (by omega) (by omega) (by omega) (ySd_le md284 (by omega)) (Nat.lt_succ_self _)
                · exact absurd c288 (by omega)
              · refine zt_iload_n (pc' := 49) hX dX12_sound_48 rfl rfl ?_
                refine zt_ifeq (pc' := 52) (tgt := 86) hX dX12_sound_49 rfl (by decide) ⟨by omega, by omega⟩ (fun c351 => ?_) (fun c351 => ?_)
                · exact absurd c351 (by omega)
                · refine zt_aload_n (pc' := 53) hX dX12_sound_52 rfl rfl ?_
                  refine zt_aload_n (pc' := 54) hX dX12_sound_53 rfl rfl ?_
                  refine zt_get (pc' := 57) (v := .ref (X.1.1 + 165)) hX dX12_sound_54 rfl zf_X12_7 (by decide) zc_164 zs_46 (zrf_of (zv_46_0 hI7 zc_164)) ?_
                  refine zt_iload_n (pc' := 58) hX dX12_sound_57 rfl rfl ?_
                  refine zt_iald (pc' := 59) hX dX12_sound_58 rfl (by decide) zc_165 zs_47 (by decide) ⟨by omega, by omega⟩ ?_
                  generalize hv352 : s5 165 (x270.toNat) = v352
                  have bv352 : 0 ≤ v352 ∧ v352 ≤ 255 := hv352 ▸ zv_47 hI7 zc_165 _
                  refine zt_aload_n (pc' := 60) hX dX12_sound_59 rfl rfl ?_
                  refine zt_get (pc' := 63) (v := .ref (X.1.1 + 165)) hX dX12_sound_60 rfl zf_X12_7 (by decide) zc_164 zs_46 (zrf_of (zv_46_0 hI7 zc_164)) ?_
                  refine zt_iload_n (pc' := 64) hX dX12_sound_63 rfl rfl ?_
                  refine zt_iconst (pc' := 65) hX dX12_sound_64 rfl ?_
                  refine zt_iadd (pc' := 66) hX dX12_sound_65 rfl ?_
                  refine zt_iald (pc' := 67) hX dX12_sound_66 rfl (by decide) zc_165 zs_47 (by decide) ⟨by omega, by omega⟩ ?_
                  generalize hv353 : s5 165 ((x270 + 1).toNat) = v353
                  have bv353 : 0 ≤ v353 ∧ v353 ≤ 255 := hv353 ▸ zv_47 hI7 zc_165 _
                  refine zt_cVi (pc' := 70) hX dX12_sound_67 rfl zm_yX12_cellAt zw_44_11 zc_164 (by decide) zs_46 (q := (RX12, TX12, 108)) rfl rfl (zc_X12_cellAt_C _ _ s5 hI7 v352 ⟨by omega, by omega⟩ v353 ⟨by omega, by omega⟩) rfl rfl (Nat.le_of_ble_eq_true rfl) (by decide) (fun r354 s355 hr356 hp357 => ?_)
                  obtain ⟨rfl, q358, q359, z360, z361⟩ := hp357
                  replace z360 : yIm _ _ := z360
                  replace z361 : yIm _ _ := z361
                  refine zt_iconst (pc' := 71) hX dX12_sound_70 rfl ?_
                  refine zt_iceq (pc' := 74) (tgt := 78) hX dX12_sound_71 rfl (by decide) ⟨by omega, by omega⟩ ⟨by omega, by omega⟩ (fun c362 => ?_) (fun c362 => ?_)
                  · refine zt_iconst (pc' := 79) hX dX12_sound_78 rfl ?_
                    refine zt_istore_n (pc' := 80) (lv' := [some (.ref (X.1.1 + 164)), some (.int (zI (σ 164 1))), some (.int (zI 0)), some (.int (zI x270))]) hX dX12_sound_79 rfl hL (by decide) rfl ?_
                    refine zt_iinc (pc' := 83) (lv' := [some (.ref (X.1.1 + 164)), some (.int (zI (σ 164 1))), some (.int (zI 0)), some (.int (zI (x270 + 4)))]) hX dX12_sound_80 rfl rfl hL (by decide) rfl ?_
                    refine zt_goto (tgt := 43) hX dX12_sound_83 (by decide) ?_
                    exact ih280 0 (x270 + 4) (by omega) (by omega) (by omega) (by omega) (by omega) (by omega) (by omega) (by omega) (ySy_k mb283 (by omega) (by omega) (hv352.symm.trans (yW_j (u := x270) (hF8 165 _ rfl) (by omega) (by omega))) rfl (hv353.symm.trans (yW_j (u := (x270 + 1)) (hF8 165 _ rfl) (by omega) (by omega))) rfl (fun h => absurd (show _ = (-1 : Int) by omega) (z361 (by have q := (yPne_1 hNe (by omega)).2; omega))) _) (by omega)
                  · refine zt_iconst (pc' := 75) hX dX12_sound_74 rfl ?_
                    refine zt_goto (tgt := 79) hX dX12_sound_75 (by decide) ?_
                    refine zt_istore_n (pc' := 80) (lv' := [some (.ref (X.1.1 + 164)), some (.int (zI (σ 164 1))), some (.int (zI 1)), some (.int (zI x270))]) hX dX12_sound_79 rfl hL (by decide) rfl ?_
                    refine zt_iinc (pc' := 83) (lv' := [some (.ref (X.1.1 + 164)), some (.int (zI (σ 164 1))), some (.int (zI 1)), some (.int (zI (x270 + 4)))]) hX dX12_sound_80 rfl rfl hL (by decide) rfl ?_
                    refine zt_goto (tgt := 43) hX dX12_sound_83 (by decide) ?_
                    exact ih280 1 (x270 + 4) (by omega) (by omega) (by omega) (by omega) (by omega) (by omega) (by omega) (by omega) (ySy_s ma282 mb283 md284 (hv352.symm.trans (yW_j (u := x270) (hF8 165 _ rfl) (by omega) (by omega))) rfl (hv353.symm.trans (yW_j (u := (x270 + 1)) (hF8 165 _ rfl) (by omega) (by omega))) rfl (by have q := z360 (by omega); omega)) (by omega)
            · refine zt_iload_n (pc' := 44) hX dX12_sound_43 rfl rfl ?_
              refine zt_iload_n (pc' := 45) hX dX12_sound_44 rfl rfl ?_
              refine zt_icge (pc' := 48) (tgt := 86) hX dX12_sound_45 rfl (by decide) ⟨by omega, by omega⟩ ⟨by omega, by omega⟩ (fun c363 => ?_) (fun c363 => ?_)
              · refine zt_iload_n (pc' := 87) hX dX12_sound_86 rfl rfl ?_
                refine zt_ifne (pc' := 90) (tgt := 96) hX dX12_sound_87 rfl (by decide) ⟨by omega, by omega⟩ (fun c364 => ?_) (fun c364 => ?_)
                · exact absurd c364 (by omega)
                · refine zt_aload_n (pc' := 91) hX dX12_sound_90 rfl rfl ?_
                  refine zt_iconst (pc' := 92) hX dX12_sound_91 rfl ?_
                  refine zt_cVi (pc' := 95) hX dX12_sound_92 rfl zm_yX12_refuses zw_57_10 zc_164 (by decide) zs_46 (q := (RX12, TX12, 108)) rfl rfl (zc_X12_refuses _ _ s5 hI7 1 ⟨by omega, by omega⟩) rfl rfl (Nat.le_of_ble_eq_true rfl) (by decide) (fun r365 s366 hr367 hp368 => ?_)
                  obtain ⟨hI369, hF370, q371, q372⟩ := hp368
                  have hF373 := zOn_tr hF8 (zSm_N hF370) zi_id
                  have b374 := zv_46_1 hI369 zc_164
                  have b375 := zv_46_50 hI369 zc_164
                  have b376 := zv_46_64 hI369 zc_164
                  exact zt_iret hX hR dX12_sound_95 ⟨by omega, by omega⟩ ⟨hI369, hF373, by omega, by omega, (by rw [show r365 = -1 by omega]; exact mx285)⟩
              · refine zt_iload_n (pc' := 49) hX dX12_sound_48 rfl rfl ?_
                refine zt_ifeq (pc' := 52) (tgt := 86) hX dX12_sound_49 rfl (by decide) ⟨by omega, by omega⟩ (fun c377 => ?_) (fun c377 => ?_)
                · refine zt_iload_n (pc' := 87) hX dX12_sound_86 rfl rfl ?_
                  refine zt_ifne (pc' := 90) (tgt := 96) hX dX12_sound_87 rfl (by decide) ⟨by omega, by omega⟩ (fun c378 => ?_) (fun c378 => ?_)
                  · exact absurd c378 (by omega)
                  · refine zt_aload_n (pc' := 91) hX dX12_sound_90 rfl rfl ?_
                    refine zt_iconst (pc' := 92) hX dX12_sound_91 rfl ?_
                    refine zt_cVi (pc' := 95) hX dX12_sound_92 rfl zm_yX12_refuses zw_57_10 zc_164 (by decide) zs_46 (q := (RX12, TX12, 108)) rfl rfl (zc_X12_refuses _ _ s5 hI7 1 ⟨by omega, by omega⟩) rfl rfl (Nat.le_of_ble_eq_true rfl) (by decide) (fun r379 s380 hr381 hp382 => ?_)
                    obtain ⟨hI383, hF384, q385, q386⟩ := hp382
                    have hF387 := zOn_tr hF8 (zSm_N hF384) zi_id
                    have b388 := zv_46_1 hI383 zc_164
                    have b389 := zv_46_50 hI383 zc_164
                    have b390 := zv_46_64 hI383 zc_164
                    exact zt_iret hX hR dX12_sound_95 ⟨by omega, by omega⟩ ⟨hI383, hF387, by omega, by omega, (by rw [show r379 = -1 by omega]; exact mx285)⟩
                · exact absurd c377 (by omega)
        exact L_43_277 _ 0 0 (by omega) (by omega) (by omega) (by omega) (by omega) (by omega) (by omega) (by omega) (Or.inr ⟨rfl, ySx_n (fun h => by have q := yPne_0 hNe; omega) rfl⟩) (Nat.lt_succ_self _)
      · refine zt_iload_n (pc' := 28) hX dX12_sound_27 rfl rfl ?_
        refine zt_iconst (pc' := 29) hX dX12_sound_28 rfl ?_
        refine zt_idiv (pc' := 30) hX dX12_sound_29 rfl ⟨by omega, by omega⟩ ⟨by omega, by omega⟩ (fun r391 er391 br391 => ?_)
        rw [ztd_p (by omega)] at er391
        refine zt_bipush (pc' := 32) hX dX12_sound_30 rfl (by decide) (by decide) ?_
        refine zt_icgt (pc' := 35) (tgt := 39) hX dX12_sound_32 rfl (by decide) ⟨by omega, by omega⟩ ⟨by omega, by omega⟩ (fun c392 => ?_) (fun c392 => ?_)
        · refine zt_iconst (pc' := 40) hX dX12_sound_39 rfl ?_
          refine zt_istore_n (pc' := 41) (lv' := [some (.ref (X.1.1 + 164)), some (.int (zI (σ 164 1))), some (.int (zI 0)), none]) hX dX12_sound_40 rfl hL (by decide) rfl ?_
          refine zt_iconst (pc' := 42) hX dX12_sound_41 rfl ?_
          refine zt_istore_n (pc' := 43) (lv' := [some (.ref (X.1.1 + 164)), some (.int (zI (σ 164 1))), some (.int (zI 0)), some (.int (zI 0))]) hX dX12_sound_42 rfl hL (by decide) rfl ?_
          have L_43_403 : ∀ (N : Nat) (x393 : Int) (x396 : Int), 0 ≤ x393 → x393 ≤ 1 → 0 ≤ x396 → x396 ≤ 1603 → 0 ≤ x396 → x396 ≤ 1603 → 0 ≤ x393 → x393 ≤ 1 → ySy (yW σ) (σ 164 1) (σ 194 3) (σ 194 4) x393 x396 → ((1604 - x396).toNat) < N → zF X s5 43 [some (.ref (X.1.1 + 164)), some (.int (zI (σ 164 1))), some (.int (zI x393)), some (.int (zI x396))] [] := by
            intro N
            induction N with
            | zero =>
              intro x393 x396 h394 h395 h397 h398 g399 g400 g401 g402 g403 hm405
              exact absurd hm405 (Nat.not_lt_zero _)
            | succ N ih406 =>
              intro x393 x396 h394 h395 h397 h398 g399 g400 g401 g402 g403 hm405
              rcases g403 with ⟨hv407, ma408, mb409, md410⟩ | ⟨hv407, mx411⟩
              · have u412 := yPne_2 hNe ma408.2.2.2
                refine zt_iload_n (pc' := 44) hX dX12_sound_43 rfl rfl ?_
                refine zt_iload_n (pc' := 45) hX dX12_sound_44 rfl rfl ?_
                refine zt_icge (pc' := 48) (tgt := 86) hX dX12_sound_45 rfl (by decide) ⟨by omega, by omega⟩ ⟨by omega, by omega⟩ (fun c413 => ?_) (fun c413 => ?_)
                · refine zt_iload_n (pc' := 87) hX dX12_sound_86 rfl rfl ?_
                  refine zt_ifne (pc' := 90) (tgt := 96) hX dX12_sound_87 rfl (by decide) ⟨by omega, by omega⟩ (fun c414 => ?_) (fun c414 => ?_)
                  · refine zt_aload_n (pc' := 97) hX dX12_sound_96 rfl rfl ?_
                    refine zt_iload_n (pc' := 98) hX dX12_sound_97 rfl rfl ?_
                    refine zt_iconst (pc' := 99) hX dX12_sound_98 rfl ?_
                    refine zt_idiv (pc' := 100) hX dX12_sound_99 rfl ⟨by omega, by omega⟩ ⟨by omega, by omega⟩ (fun r415 er415 br415 => ?_)
                    rw [ztd_p (by omega)] at er415
                    refine zt_put (pc' := 103) (x := r415) hX dX12_sound_100 rfl zf_X12_382 (by decide) zc_164 zs_46 (fun q hq => by cases hq; rfl) rfl rfl rfl ?_
                    generalize hs417 : zset s5 164 64 r415 = s416
                    have hI418 : zInv s416 := hs417 ▸ zp_46_64 hI7 zc_164 ⟨by omega, by omega⟩
                    have hF419 : zOn zSm σ s416 := hs417 ▸ zOn_set hF8 rfl
                    have e420 : s416 164 1 = s5 164 1 := by rw [← hs417]; exact zset_j (by decide)
                    have e421 : s416 164 50 = s5 164 50 := by rw [← hs417]; exact zset_j (by decide)
                    have e422 : s416 164 64 = r415 := by rw [← hs417]; exact zset_s
                    have e423 : s416 194 3 = s5 194 3 := by rw [← hs417]; exact zset_k (zne_r zc_194 zc_164 (by decide))
                    have e424 : s416 194 4 = s5 194 4 := by rw [← hs417]; exact zset_k (zne_r zc_194 zc_164 (by decide))
                    refine zt_iconst (pc' := 104) hX dX12_sound_103 rfl ?_
                    refine zt_istore_n (pc' := 105) (lv' := [some (.ref (X.1.1 + 164)), some (.int (zI (σ 164 1))), some (.int (zI x393)), some (.int (zI 0))]) hX dX12_sound_104 rfl hL (by decide) rfl ?_
                    have L_105_437 : ∀ (N : Nat) (x425 : Int) (s428 : zSto), 0 ≤ x425 → x425 ≤ 12 → zInv s428 → zOn zSm σ s428 → 0 ≤ x425 → x425 ≤ 12 → s428 164 64 = σ 164 1 / 4 → s428 164 50 = σ 164 50 → s428 194 3 = σ 194 3 → s428 194 4 = σ 194 4 → ySd (yW σ) (σ 194 3) (σ 194 4) (σ 164 1 / 4) → ((13 - x425).toNat) < N → zF X s428 105 [some (.ref (X.1.1 + 164)), none, none, some (.int (zI x425))] [] := by
                      intro N
                      induction N with
                      | zero =>
                        intro x425 s428 h426 h427 hI429 hF430 g431 g432 g433 g434 g435 g436 g437 hm439
                        exact absurd hm439 (Nat.not_lt_zero _)
                      | succ N ih440 =>
                        intro x425 s428 h426 h427 hI429 hF430 g431 g432 g433 g434 g435 g436 g437 hm439
                        have b441 := zv_46_1 hI429 zc_164
                        have b442 := zv_46_50 hI429 zc_164
                        have b443 := zv_46_64 hI429 zc_164
                        refine zt_iload_n (pc' := 106) hX dX12_sound_105 rfl rfl ?_
                        refine zt_aload_n (pc' := 107) hX dX12_sound_106 rfl rfl ?_
                        have b444 := zv_46_64 hI429 zc_164
                        refine zt_get (pc' := 110) (v := .int (zI (s428 164 64))) hX dX12_sound_107 rfl zf_X12_382 (by decide) zc_164 zs_46 rfl ?_
                        refine zt_icge (pc' := 113) (tgt := 188) hX dX12_sound_110 rfl (by decide) ⟨by omega, by omega⟩ ⟨by omega, by omega⟩ (fun c445 => ?_) (fun c445 => ?_)
                        · refine zt_aload_n (pc' := 189) hX dX12_sound_188 rfl rfl ?_
                          refine zt_get (pc' := 192) (v := .int (zI (s428 164 64))) hX dX12_sound_189 rfl zf_X12_382 (by decide) zc_164 zs_46 rfl ?_
                          exact zt_iret hX hR dX12_sound_192 ⟨by omega, by omega⟩ ⟨hI429, hF430, by omega, by omega, (ySx_y ma408 g437 (by omega))⟩
                        · refine zt_aload_n (pc' := 114) hX dX12_sound_113 rfl rfl ?_
                          refine zt_get (pc' := 117) (v := .ref (X.1.1 + 207)) hX dX12_sound_114 rfl zf_X12_146 (by decide) zc_164 zs_46 (zrf_of (zv_46_65 hI429 zc_164)) ?_
                          refine zt_iconst (pc' := 118) hX dX12_sound_117 rfl ?_
                          refine zt_iload_n (pc' := 119) hX dX12_sound_118 rfl rfl ?_
                          refine zt_imul (pc' := 120) hX dX12_sound_119 rfl ?_
                          refine zt_aload_n (pc' := 121) hX dX12_sound_120 rfl rfl ?_
                          refine zt_aload_n (pc' := 122) hX dX12_sound_121 rfl rfl ?_
                          refine zt_get (pc' := 125) (v := .ref (X.1.1 + 165)) hX dX12_sound_122 rfl zf_X12_7 (by decide) zc_164 zs_46 (zrf_of (zv_46_0 hI429 zc_164)) ?_
                          refine zt_iconst (pc' := 126) hX dX12_sound_125 rfl ?_
                          refine zt_iload_n (pc' := 127) hX dX12_sound_126 rfl rfl ?_
                          refine zt_imul (pc' := 128) hX dX12_sound_127 rfl ?_
                          refine zt_iald (pc' := 129) hX dX12_sound_128 rfl (by decide) zc_165 zs_47 (by decide) ⟨by omega, by omega⟩ ?_
                          generalize hv446 : s428 165 ((4 * x425).toNat) = v446
                          have bv446 : 0 ≤ v446 ∧ v446 ≤ 255 := hv446 ▸ zv_47 hI429 zc_165 _
                          refine zt_aload_n (pc' := 130) hX dX12_sound_129 rfl rfl ?_
                          refine zt_get (pc' := 133) (v := .ref (X.1.1 + 165)) hX dX12_sound_130 rfl zf_X12_7 (by decide) zc_164 zs_46 (zrf_of (zv_46_0 hI429 zc_164)) ?_
                          refine zt_iconst (pc' := 134) hX dX12_sound_133 rfl ?_
                          refine zt_iload_n (pc' := 135) hX dX12_sound_134 rfl rfl ?_
                          refine zt_imul (pc' := 136) hX dX12_sound_135 rfl ?_
                          refine zt_iconst (pc' := 137) hX dX12_sound_136 rfl ?_
                          refine zt_iadd (pc' := 138) hX dX12_sound_137 rfl ?_
                          refine zt_iald (pc' := 139) hX dX12_sound_138 rfl (by decide) zc_165 zs_47 (by decide) ⟨by omega, by omega⟩ ?_
                          generalize hv447 : s428 165 (((4 * x425) + 1).toNat) = v447
                          have bv447 : 0 ≤ v447 ∧ v447 ≤ 255 := hv447 ▸ zv_47 hI429 zc_165 _
                          refine zt_cVi (pc' := 142) hX dX12_sound_139 rfl zm_yX12_cellAt zw_44_11 zc_164 (by decide) zs_46 (q := (RX12, TX12, 108)) rfl rfl (zc_X12_cellAt_C _ _ s428 hI429 v446 ⟨by omega, by omega⟩ v447 ⟨by omega, by omega⟩) rfl rfl (Nat.le_of_ble_eq_true rfl) (by decide) (fun r448 s449 hr450 hp451 => ?_)
                          obtain ⟨rfl, q452, q453, z454, z455⟩ := hp451
                          clear z454
                          have hr456 : r448 ≠ -1 := z455 (by have q1 := ySd_a g437 (k := x425) (by omega) (by omega) rfl; have q2 := ySd_b g437 (k := x425) (by omega) (by omega) rfl; have t1 : v446 = yW σ (4 * x425) := (hv446.symm.trans (yW_j (u := (4 * x425)) (hF430 165 _ rfl) (by omega) (by omega))); have t2 : v447 = yW σ (4 * x425 + 1) := (hv447.symm.trans (yW_j (u := (4 * x425 + 1)) (hF430 165 _ rfl) (by omega) (by omega))); omega)
                          clear z455
                          refine zt_iast (pc' := 143) hX dX12_sound_142 rfl (by decide) zc_207 zs_89 (by decide) ⟨by omega, by omega⟩ ?_
                          generalize hs458 : zset s428 207 ((2 * x425).toNat) r448 = s457
                          have hI459 : zInv s457 := hs458 ▸ zp_89 hI429 zc_207 ((2 * x425).toNat) (by omega)
                          have hF460 : zOn zSm σ s457 := hs458 ▸ zOn_set hF430 rfl
                          have e461 : s457 164 1 = s428 164 1 := by rw [← hs458]; exact zset_k (zne_r zc_164 zc_207 (by decide))
                          have e462 : s457 164 50 = s428 164 50 := by rw [← hs458]; exact zset_k (zne_r zc_164 zc_207 (by decide))
                          have e463 : s457 164 64 = s428 164 64 := by rw [← hs458]; exact zset_k (zne_r zc_164 zc_207 (by decide))
                          have e464 : s457 194 3 = s428 194 3 := by rw [← hs458]; exact zset_k (zne_r zc_194 zc_207 (by decide))
                          have e465 : s457 194 4 = s428 194 4 := by rw [← hs458]; exact zset_k (zne_r zc_194 zc_207 (by decide))
                          refine zt_aload_n (pc' := 144) hX dX12_sound_143 rfl rfl ?_
                          refine zt_get (pc' := 147) (v := .ref (X.1.1 + 207)) hX dX12_sound_144 rfl zf_X12_146 (by decide) zc_164 zs_46 (zrf_of (zv_46_65 hI459 zc_164)) ?_
                          refine zt_iconst (pc' := 148) hX dX12_sound_147 rfl ?_
                          refine zt_iload_n (pc' := 149) hX dX12_sound_148 rfl rfl ?_
                          refine zt_imul (pc' := 150) hX dX12_sound_149 rfl ?_
                          refine zt_iconst (pc' := 151) hX dX12_sound_150 rfl ?_
                          refine zt_iadd (pc' := 152) hX dX12_sound_151 rfl ?_
                          refine zt_sipush (pc' := 155) hX dX12_sound_152 rfl (by decide) (by decide) ?_
                          refine zt_aload_n (pc' := 156) hX dX12_sound_155 rfl rfl ?_
                          refine zt_get (pc' := 159) (v := .ref (X.1.1 + 165)) hX dX12_sound_156 rfl zf_X12_7 (by decide) zc_164 zs_46 (zrf_of (zv_46_0 hI459 zc_164)) ?_
                          refine zt_iconst (pc' := 160) hX dX12_sound_159 rfl ?_
                          refine zt_iload_n (pc' := 161) hX dX12_sound_160 rfl rfl ?_
                          refine zt_imul (pc' := 162) hX dX12_sound_161 rfl ?_
                          refine zt_iconst (pc' := 163) hX dX12_sound_162 rfl ?_
                          refine zt_iadd (pc' := 164) hX dX12_sound_163 rfl ?_
                          refine zt_iald (pc' := 165) hX dX12_sound_164 rfl (by decide) zc_165 zs_47 (by decide) ⟨by omega, by omega⟩ ?_
                          generalize hv466 : s457 165 (((4 * x425) + 2).toNat) = v466
                          have bv466 : 0 ≤ v466 ∧ v466 ≤ 255 := hv466 ▸ zv_47 hI459 zc_165 _
                          refine zt_imul (pc' := 166) hX dX12_sound_165 rfl ?_
                          refine zt_aload_n (pc' := 167) hX dX12_sound_166 rfl rfl ?_
                          refine zt_get (pc' := 170) (v := .ref (X.1.1 + 165)) hX dX12_sound_167 rfl zf_X12_7 (by decide) zc_164 zs_46 (zrf_of (zv_46_0 hI459 zc_164)) ?_
                          refine zt_iconst (pc' := 171) hX dX12_sound_170 rfl ?_
                          refine zt_iload_n (pc' := 172) hX dX12_sound_171 rfl rfl ?_
                          refine zt_imul (pc' := 173) hX dX12_sound_172 rfl ?_
                          refine zt_iconst (pc' := 174) hX dX12_sound_173 rfl ?_
                          refine zt_iadd (pc' := 175) hX dX12_sound_174 rfl ?_
                          refine zt_iald (pc' := 176) hX dX12_sound_175 rfl (by decide) zc_165 zs_47 (by decide) ⟨by omega, by omega⟩ ?_
                          generalize hv467 : s457 165 (((4 * x425) + 3).toNat) = v467
                          have bv467 : 0 ≤ v467 ∧ v467 ≤ 255 := hv467 ▸ zv_47 hI459 zc_165 _
                          refine zt_iadd (pc' := 177) hX dX12_sound_176 rfl ?_
                          refine zt_sipush (pc' := 180) hX dX12_sound_177 rfl (by decide) (by decide) ?_
                          refine zt_isub (pc' := 181) hX dX12_sound_180 rfl ?_
                          refine zt_iast (pc' := 182) hX dX12_sound_181 rfl (by decide) zc_207 zs_89 (by decide) ⟨by omega, by omega⟩ ?_
                          generalize hs469 : zset s457 207 (((2 * x425) + 1).toNat) (((256 * v466) + v467) - 500) = s468
                          have hI470 : zInv s468 := hs469 ▸ zp_89 hI459 zc_207 (((2 * x425) + 1).toNat) (by omega)
                          have hF471 : zOn zSm σ s468 := hs469 ▸ zOn_set hF460 rfl
                          have e472 : s468 164 1 = s457 164 1 := by rw [← hs469]; exact zset_k (zne_r zc_164 zc_207 (by decide))
                          have e473 : s468 164 50 = s457 164 50 := by rw [← hs469]; exact zset_k (zne_r zc_164 zc_207 (by decide))
                          have e474 : s468 164 64 = s457 164 64 := by rw [← hs469]; exact zset_k (zne_r zc_164 zc_207 (by decide))
                          have e475 : s468 194 3 = s457 194 3 := by rw [← hs469]; exact zset_k (zne_r zc_194 zc_207 (by decide))
                          have e476 : s468 194 4 = s457 194 4 := by rw [← hs469]; exact zset_k (zne_r zc_194 zc_207 (by decide))
                          refine zt_iinc (pc' := 185) (lv' := [some (.ref (X.1.1 + 164)), none, none, some (.int (zI (x425 + 1)))]) hX dX12_sound_182 rfl rfl hL (by decide) rfl ?_
                          refine zt_goto (tgt := 105) hX dX12_sound_185 (by decide) ?_
                          exact ih440 (x425 + 1) s468 (by omega) (by omega) hI470 hF471 (by omega) (by omega) (by omega) (by omega) (by omega) (by omega) g437 (by omega)
                    refine zt_mask [true, false, false, true] rfl ?_
                    exact L_105_437 _ 0 s416 (by omega) (by omega) hI418 hF419 (by omega) (by omega) (by omega) (by omega) (by omega) (by omega) (ySd_le md410 (by omega)) (Nat.lt_succ_self _)
                  · exact absurd c414 (by omega)
                · refine zt_iload_n (pc' := 49) hX dX12_sound_48 rfl rfl ?_
                  refine zt_ifeq (pc' := 52) (tgt := 86) hX dX12_sound_49 rfl (by decide) ⟨by omega, by omega⟩ (fun c477 => ?_) (fun c477 => ?_)
                  · exact absurd c477 (by omega)
                  · refine zt_aload_n (pc' := 53) hX dX12_sound_52 rfl rfl ?_
                    refine zt_aload_n (pc' := 54) hX dX12_sound_53 rfl rfl ?_
                    refine zt_get (pc' := 57) (v := .ref (X.1.1 + 165)) hX dX12_sound_54 rfl zf_X12_7 (by decide) zc_164 zs_46 (zrf_of (zv_46_0 hI7 zc_164)) ?_
                    refine zt_iload_n (pc' := 58) hX dX12_sound_57 rfl rfl ?_
                    refine zt_iald (pc' := 59) hX dX12_sound_58 rfl (by decide) zc_165 zs_47 (by decide) ⟨by omega, by omega⟩ ?_
                    generalize hv478 : s5 165 (x396.toNat) = v478
                    have bv478 : 0 ≤ v478 ∧ v478 ≤ 255 := hv478 ▸ zv_47 hI7 zc_165 _
                    refine zt_aload_n (pc' := 60) hX dX12_sound_59 rfl rfl ?_
                    refine zt_get (pc' := 63) (v := .ref (X.1.1 + 165)) hX dX12_sound_60 rfl zf_X12_7 (by decide) zc_164 zs_46 (zrf_of (zv_46_0 hI7 zc_164)) ?_
                    refine zt_iload_n (pc' := 64) hX dX12_sound_63 rfl rfl ?_
                    refine zt_iconst (pc' := 65) hX dX12_sound_64 rfl ?_
                    refine zt_iadd (pc' := 66) hX dX12_sound_65 rfl ?_
                    refine zt_iald (pc' := 67) hX dX12_sound_66 rfl (by decide) zc_165 zs_47 (by decide) ⟨by omega, by omega⟩ ?_
                    generalize hv479 : s5 165 ((x396 + 1).toNat) = v479
                    have bv479 : 0 ≤ v479 ∧ v479 ≤ 255 := hv479 ▸ zv_47 hI7 zc_165 _
                    refine zt_cVi (pc' := 70) hX dX12_sound_67 rfl zm_yX12_cellAt zw_44_11 zc_164 (by decide) zs_46 (q := (RX12, TX12, 108)) rfl rfl (zc_X12_cellAt_C _ _ s5 hI7 v478 ⟨by omega, by omega⟩ v479 ⟨by omega, by omega⟩) rfl rfl (Nat.le_of_ble_eq_true rfl) (by decide) (fun r480 s481 hr482 hp483 => ?_)
                    obtain ⟨rfl, q484, q485, z486, z487⟩ := hp483
                    replace z486 : yIm _ _ := z486
                    replace z487 : yIm _ _ := z487
                    refine zt_iconst (pc' := 71) hX dX12_sound_70 rfl ?_
                    refine zt_iceq (pc' := 74) (tgt := 78) hX dX12_sound_71 rfl (by decide) ⟨by omega, by omega⟩ ⟨by omega, by omega⟩ (fun c488 => ?_) (fun c488 => ?_)
                    · refine zt_iconst (pc' := 79) hX dX12_sound_78 rfl ?_
                      refine zt_istore_n (pc' := 80) (lv' := [some (.ref (X.1.1 + 164)), some (.int (zI (σ 164 1))), some (.int (zI 0)), some (.int (zI x396))]) hX dX12_sound_79 rfl hL (by decide) rfl ?_
                      refine zt_iinc (pc' := 83) (lv' := [some (.ref (X.1.1 + 164)), some (.int (zI (σ 164 1))), some (.int (zI 0)), some (.int (zI (x396 + 4)))]) hX dX12_sound_80 rfl rfl hL (by decide) rfl ?_
                      refine zt_goto (tgt := 43) hX dX12_sound_83 (by decide) ?_
                      exact ih406 0 (x396 + 4) (by omega) (by omega) (by omega) (by omega) (by omega) (by omega) (by omega) (by omega) (ySy_k mb409 (by omega) (by omega) (hv478.symm.trans (yW_j (u := x396) (hF8 165 _ rfl) (by omega) (by omega))) rfl (hv479.symm.trans (yW_j (u := (x396 + 1)) (hF8 165 _ rfl) (by omega) (by omega))) rfl (fun h => absurd (show _ = (-1 : Int) by omega) (z487 (by have q := (yPne_1 hNe (by omega)).2; omega))) _) (by omega)
                    · refine zt_iconst (pc' := 75) hX dX12_sound_74 rfl ?_
                      refine zt_goto (tgt := 79) hX dX12_sound_75 (by decide) ?_
                      refine zt_istore_n (pc' := 80) (lv' := [some (.ref (X.1.1 + 164)), some (.int (zI (σ 164 1))), some (.int (zI 1)), some (.int (zI x396))]) hX dX12_sound_79 rfl hL (by decide) rfl ?_
                      refine zt_iinc (pc' := 83) (lv' := [some (.ref (X.1.1 + 164)), some (.int (zI (σ 164 1))), some (.int (zI 1)), some (.int (zI (x396 + 4)))]) hX dX12_sound_80 rfl rfl hL (by decide) rfl ?_
                      refine zt_goto (tgt := 43) hX dX12_sound_83 (by decide) ?_
                      exact ih406 1 (x396 + 4) (by omega) (by omega) (by omega) (by omega) (by omega) (by omega) (by omega) (by omega) (ySy_s ma408 mb409 md410 (hv478.symm.trans (yW_j (u := x396) (hF8 165 _ rfl) (by omega) (by omega))) rfl (hv479.symm.trans (yW_j (u := (x396 + 1)) (hF8 165 _ rfl) (by omega) (by omega))) rfl (by have q := z486 (by omega); omega)) (by omega)
              · refine zt_iload_n (pc' := 44) hX dX12_sound_43 rfl rfl ?_
                refine zt_iload_n (pc' := 45) hX dX12_sound_44 rfl rfl ?_
                refine zt_icge (pc' := 48) (tgt := 86) hX dX12_sound_45 rfl (by decide) ⟨by omega, by omega⟩ ⟨by omega, by omega⟩ (fun c489 => ?_) (fun c489 => ?_)
                · refine zt_iload_n (pc' := 87) hX dX12_sound_86 rfl rfl ?_
                  refine zt_ifne (pc' := 90) (tgt := 96) hX dX12_sound_87 rfl (by decide) ⟨by omega, by omega⟩ (fun c490 => ?_) (fun c490 => ?_)
                  · exact absurd c490 (by omega)
                  · refine zt_aload_n (pc' := 91) hX dX12_sound_90 rfl rfl ?_
                    refine zt_iconst (pc' := 92) hX dX12_sound_91 rfl ?_
                    refine zt_cVi (pc' := 95) hX dX12_sound_92 rfl zm_yX12_refuses zw_57_10 zc_164 (by decide) zs_46 (q := (RX12, TX12, 108)) rfl rfl (zc_X12_refuses _ _ s5 hI7 1 ⟨by omega, by omega⟩) rfl rfl (Nat.le_of_ble_eq_true rfl) (by decide) (fun r491 s492 hr493 hp494 => ?_)
                    obtain ⟨hI495, hF496, q497, q498⟩ := hp494
                    have hF499 := zOn_tr hF8 (zSm_N hF496) zi_id
                    have b500 := zv_46_1 hI495 zc_164
                    have b501 := zv_46_50 hI495 zc_164
                    have b502 := zv_46_64 hI495 zc_164
                    exact zt_iret hX hR dX12_sound_95 ⟨by omega, by omega⟩ ⟨hI495, hF499, by omega, by omega, (by rw [show r491 = -1 by omega]; exact mx411)⟩
                · refine zt_iload_n (pc' := 49) hX dX12_sound_48 rfl rfl ?_
                  refine zt_ifeq (pc' := 52) (tgt := 86) hX dX12_sound_49 rfl (by decide) ⟨by omega, by omega⟩ (fun c503 => ?_) (fun c503 => ?_)
                  · refine zt_iload_n (pc' := 87) hX dX12_sound_86 rfl rfl ?_
                    refine zt_ifne (pc' := 90) (tgt := 96) hX dX12_sound_87 rfl (by decide) ⟨by omega, by omega⟩ (fun c504 => ?_) (fun c504 => ?_)
                    · exact absurd c504 (by omega)
                    · refine zt_aload_n (pc' := 91) hX dX12_sound_90 rfl rfl ?_
                      refine zt_iconst (pc' := 92) hX dX12_sound_91 rfl ?_
                      refine zt_cVi (pc' := 95) hX dX12_sound_92 rfl zm_yX12_refuses zw_57_10 zc_164 (by decide) zs_46 (q := (RX12, TX12, 108)) rfl rfl (zc_X12_refuses _ _ s5 hI7 1 ⟨by omega, by omega⟩) rfl rfl (Nat.le_of_ble_eq_true rfl) (by decide) (fun r505 s506 hr507 hp508 => ?_)
                      obtain ⟨hI509, hF510, q511, q512⟩ := hp508
                      have hF513 := zOn_tr hF8 (zSm_N hF510) zi_id
                      have b514 := zv_46_1 hI509 zc_164
                      have b515 := zv_46_50 hI509 zc_164
                      have b516 := zv_46_64 hI509 zc_164
                      exact zt_iret hX hR dX12_sound_95 ⟨by omega, by omega⟩ ⟨hI509, hF513, by omega, by omega, (by rw [show r505 = -1 by omega]; exact mx411)⟩
                  · exact absurd c503 (by omega)
          exact L_43_403 _ 0 0 (by omega) (by omega) (by omega) (by omega) (by omega) (by omega) (by omega) (by omega) (Or.inr ⟨rfl, ySx_n (fun h => by have q := yPne_0 hNe; omega) rfl⟩) (Nat.lt_succ_self _)
        · refine zt_iconst (pc' := 36) hX dX12_sound_35 rfl ?_
          refine zt_goto (tgt := 40) hX dX12_sound_36 (by decide) ?_
          refine zt_istore_n (pc' := 41) (lv' := [some (.ref (X.1.1 + 164)), some (.int (zI (σ 164 1))), some (.int (zI 1)), none]) hX dX12_sound_40 rfl hL (by decide) rfl ?_
          refine zt_iconst (pc' := 42) hX dX12_sound_41 rfl ?_
          refine zt_istore_n (pc' := 43) (lv' := [some (.ref (X.1.1 + 164)), some (.int (zI (σ 164 1))), some (.int (zI 1)), some (.int (zI 0))]) hX dX12_sound_42 rfl hL (by decide) rfl ?_
          have L_43_527 : ∀ (N : Nat) (x517 : Int) (x520 : Int), 0 ≤ x517 → x517 ≤ 1 → 0 ≤ x520 → x520 ≤ 1603 → 0 ≤ x520 → x520 ≤ 1603 → 0 ≤ x517 → x517 ≤ 1 → ySy (yW σ) (σ 164 1) (σ 194 3) (σ 194 4) x517 x520 → ((1604 - x520).toNat) < N → zF X s5 43 [some (.ref (X.1.1 + 164)), some (.int (zI (σ 164 1))), some (.int (zI x517)), some (.int (zI x520))] [] := by
            intro N
            induction N with
            | zero =>
              intro x517 x520 h518 h519 h521 h522 g523 g524 g525 g526 g527 hm529
              exact absurd hm529 (Nat.not_lt_zero _)
            | succ N ih530 =>
              intro x517 x520 h518 h519 h521 h522 g523 g524 g525 g526 g527 hm529
              rcases g527 with ⟨hv531, ma532, mb533, md534⟩ | ⟨hv531, mx535⟩
              · have u536 := yPne_2 hNe ma532.2.2.2
                refine zt_iload_n (pc' := 44) hX dX12_sound_43 rfl rfl ?_
                refine zt_iload_n (pc' := 45) hX dX12_sound_44 rfl rfl ?_
                refine zt_icge (pc' := 48) (tgt := 86) hX dX12_sound_45 rfl (by decide) ⟨by omega, by omega⟩ ⟨by omega, by omega⟩ (fun c537 => ?_) (fun c537 => ?_)
                · refine zt_iload_n (pc' := 87) hX dX12_sound_86 rfl rfl ?_
                  refine zt_ifne (pc' := 90) (tgt := 96) hX dX12_sound_87 rfl (by decide) ⟨by omega, by omega⟩ (fun c538 => ?_) (fun c538 => ?_)
                  · refine zt_aload_n (pc' := 97) hX dX12_sound_96 rfl rfl ?_
                    refine zt_iload_n (pc' := 98) hX dX12_sound_97 rfl rfl ?_
                    refine zt_iconst (pc' := 99) hX dX12_sound_98 rfl ?_
                    refine zt_idiv (pc' := 100) hX dX12_sound_99 rfl ⟨by omega, by omega⟩ ⟨by omega, by omega⟩ (fun r539 er539 br539 => ?_)
                    rw [ztd_p (by omega)] at er539
                    refine zt_put (pc' := 103) (x := r539) hX dX12_sound_100 rfl zf_X12_382 (by decide) zc_164 zs_46 (fun q hq => by cases hq; rfl) rfl rfl rfl ?_
                    generalize hs541 : zset s5 164 64 r539 = s540
                    have hI542 : zInv s540 := hs541 ▸ zp_46_64 hI7 zc_164 ⟨by omega, by omega⟩
                    have hF543 : zOn zSm σ s540 := hs541 ▸ zOn_set hF8 rfl
                    have e544 : s540 164 1 = s5 164 1 := by rw [← hs541]; exact zset_j (by decide)
                    have e545 : s540 164 50 = s5 164 50 := by rw [← hs541]; exact zset_j (by decide)
                    have e546 : s540 164 64 = r539 := by rw [← hs541]; exact zset_s
                    have e547 : s540 194 3 = s5 194 3 := by rw [← hs541]; exact zset_k (zne_r zc_194 zc_164 (by decide))
                    have e548 : s540 194 4 = s5 194 4 := by rw [← hs541]; exact zset_k (zne_r zc_194 zc_164 (by decide))
                    refine zt_iconst (pc' := 104) hX dX12_sound_103 rfl ?_
                    refine zt_istore_n (pc' := 105) (lv' := [some (.ref (X.1.1 + 164)), some (.int (zI (σ 164 1))), some (.int (zI x517)), some (.int (zI 0))]) hX dX12_sound_104 rfl hL (by decide) rfl ?_
                    have L_105_561 : ∀ (N : Nat) (x549 : Int) (s552 : zSto), 0 ≤ x549 → x549 ≤ 12 → zInv s552 → zOn zSm σ s552 → 0 ≤ x549 → x549 ≤ 12 → s552 164 64 = σ 164 1 / 4 → s552 164 50 = σ 164 50 → s552 194 3 = σ 194 3 → s552 194 4 = σ 194 4 → ySd (yW σ) (σ 194 3) (σ 194 4) (σ 164 1 / 4) → ((13 - x549).toNat) < N → zF X s552 105 [some (.ref (X.1.1 + 164)), none, none, some (.int (zI x549))] [] := by
                      intro N
                      induction N with
                      | zero =>
                        intro x549 s552 h550 h551 hI553 hF554 g555 g556 g557 g558 g559 g560 g561 hm563
                        exact absurd hm563 (Nat.not_lt_zero _)
                      | succ N ih564 =>
                        intro x549 s552 h550 h551 hI553 hF554 g555 g556 g557 g558 g559 g560 g561 hm563
                        have b565 := zv_46_1 hI553 zc_164
                        have b566 := zv_46_50 hI553 zc_164
                        have b567 := zv_46_64 hI553 zc_164
                        refine zt_iload_n (pc' := 106) hX dX12_sound_105 rfl rfl ?_
                        refine zt_aload_n (pc' := 107) hX dX12_sound_106 rfl rfl ?_
                        have b568 := zv_46_64 hI553 zc_164
                        refine zt_get (pc' := 110) (v := .int (zI (s552 164 64))) hX dX12_sound_107 rfl zf_X12_382 (by decide) zc_164 zs_46 rfl ?_
                        refine zt_icge (pc' := 113) (tgt := 188) hX dX12_sound_110 rfl (by decide) ⟨by omega, by omega⟩ ⟨by omega, by omega⟩ (fun c569 => ?_) (fun c569 => ?_)
                        · refine zt_aload_n (pc' := 189) hX dX12_sound_188 rfl rfl ?_
                          refine zt_get (pc' := 192) (v := .int (zI (s552 164 64))) hX dX12_sound_189 rfl zf_X12_382 (by decide) zc_164 zs_46 rfl ?_
                          exact zt_iret hX hR dX12_sound_192 ⟨by omega, by omega⟩ ⟨hI553, hF554, by omega, by omega, (ySx_y ma532 g561 (by omega))⟩
                        · refine zt_aload_n (pc' := 114) hX dX12_sound_113 rfl rfl ?_
                          refine zt_get (pc' := 117) (v := .ref (X.1.1 + 207)) hX dX12_sound_114 rfl zf_X12_146 (by decide) zc_164 zs_46 (zrf_of (zv_46_65 hI553 zc_164)) ?_
                          refine zt_iconst (pc' := 118) hX dX12_sound_117 rfl ?_
                          refine zt_iload_n (pc' := 119) hX dX12_sound_118 rfl rfl ?_
                          refine zt_imul (pc' := 120) hX dX12_sound_119 rfl ?_
                          refine zt_aload_n (pc' := 121) hX dX12_sound_120 rfl rfl ?_
                          refine zt_aload_n (pc' := 122) hX dX12_sound_121 rfl rfl ?_
                          refine zt_get (pc' := 125) (v := .ref (X.1.1 + 165)) hX dX12_sound_122 rfl zf_X12_7 (by decide) zc_164 zs_46 (zrf_of (zv_46_0 hI553 zc_164)) ?_
                          refine zt_iconst (pc' := 126) hX dX12_sound_125 rfl ?_
                          refine zt_iload_n (pc' := 127) hX dX12_sound_126 rfl rfl ?_
                          refine zt_imul (pc' := 128) hX dX12_sound_127 rfl ?_
                          refine zt_iald (pc' := 129) hX dX12_sound_128 rfl (by decide) zc_165 zs_47 (by decide) ⟨by omega, by omega⟩ ?_
                          generalize hv570 : s552 165 ((4 * x549).toNat) = v570
                          have bv570 : 0 ≤ v570 ∧ v570 ≤ 255 := hv570 ▸ zv_47 hI553 zc_165 _
                          refine zt_aload_n (pc' := 130) hX dX12_sound_129 rfl rfl ?_
                          refine zt_get (pc' := 133) (v := .ref (X.1.1 + 165)) hX dX12_sound_130 rfl zf_X12_7 (by decide) zc_164 zs_46 (zrf_of (zv_46_0 hI553 zc_164)) ?_
                          refine zt_iconst (pc' := 134) hX dX12_sound_133 rfl ?_
                          refine zt_iload_n (pc' := 135) hX dX12_sound_134 rfl rfl ?_
                          refine zt_imul (pc' := 136) hX dX12_sound_135 rfl ?_
                          refine zt_iconst (pc' := 137) hX dX12_sound_136 rfl ?_
                          refine zt_iadd (pc' := 138) hX dX12_sound_137 rfl ?_
                          refine zt_iald (pc' := 139) hX dX12_sound_138 rfl (by decide) zc_165 zs_47 (by decide) ⟨by omega, by omega⟩ ?_
                          generalize hv571 : s552 165 (((4 * x549) + 1).toNat) = v571
                          have bv571 : 0 ≤ v571 ∧ v571 ≤ 255 := hv571 ▸ zv_47 hI553 zc_165 _
                          refine zt_cVi (pc' := 142) hX dX12_sound_139 rfl zm_yX12_cellAt zw_44_11 zc_164 (by decide) zs_46 (q := (RX12, TX12, 108)) rfl rfl (zc_X12_cellAt_C _ _ s552 hI553 v570 ⟨by omega, by omega⟩ v571 ⟨by omega, by omega⟩) rfl rfl (Nat.le_of_ble_eq_true rfl) (by decide) (fun r572 s573 hr574 hp575 => ?_)
                          obtain ⟨rfl, q576, q577, z578, z579⟩ := hp575
                          clear z578
                          have hr580 : r572 ≠ -1 := z579 (by have q1 := ySd_a g561 (k := x549) (by omega) (by omega) rfl; have q2 := ySd_b g561 (k := x549) (by omega) (by omega) rfl; have t1 : v570 = yW σ (4 * x549) := (hv570.symm.trans (yW_j (u := (4 * x549)) (hF554 165 _ rfl) (by omega) (by omega))); have t2 : v571 = yW σ (4 * x549 + 1) := (hv571.symm.trans (yW_j (u := (4 * x549 + 1)) (hF554 165 _ rfl) (by omega) (by omega))); omega)
                          clear z579
                          refine zt_iast (pc' := 143) hX dX12_sound_142 rfl (by decide) zc_207 zs_89 (by decide) ⟨by omega, by omega⟩ ?_
                          generalize hs582 : zset s552 207 ((2 * x549).toNat) r572 = s581
                          have hI583 : zInv s581 := hs582 ▸ zp_89 hI553 zc_207 ((2 * x549).toNat) (by omega)
                          have hF584 : zOn zSm σ s581 := hs582 ▸ zOn_set hF554 rfl
                          have e585 : s581 164 1 = s552 164 1 := by rw [← hs582]; exact zset_k (zne_r zc_164 zc_207 (by decide))
                          have e586 : s581 164 50 = s552 164 50 := by rw [← hs582]; exact zset_k (zne_r zc_164 zc_207 (by decide))
                          have e587 : s581 164 64 = s552 164 64 := by rw [← hs582]; exact zset_k (zne_r zc_164 zc_207 (by decide))
                          have e588 : s581 194 3 = s552 194 3 := by rw [← hs582]; exact zset_k (zne_r zc_194 zc_207 (by decide))
                          have e589 : s581 194 4 = s552 194 4 := by rw [← hs582]; exact zset_k (zne_r zc_194 zc_207 (by decide))
                          refine zt_aload_n (pc' := 144) hX dX12_sound_143 rfl rfl ?_
                          refine zt_get (pc' := 147) (v := .ref (X.1.1 + 207)) hX dX12_sound_144 rfl zf_X12_146 (by decide) zc_164 zs_46 (zrf_of (zv_46_65 hI583 zc_164)) ?_
                          refine zt_iconst (pc' := 148) hX dX12_sound_147 rfl ?_
                          refine zt_iload_n (pc' := 149) hX dX12_sound_148 rfl rfl ?_
                          refine zt_imul (pc' := 150) hX dX12_sound_149 rfl ?_
                          refine zt_iconst (pc' := 151) hX dX12_sound_150 rfl ?_
                          refine zt_iadd (pc' := 152) hX dX12_sound_151 rfl ?_
                          refine zt_sipush (pc' := 155) hX dX12_sound_152 rfl (by decide) (by decide) ?_
                          refine zt_aload_n (pc' := 156) hX dX12_sound_155 rfl rfl ?_
                          refine zt_get (pc' := 159) (v := .ref (X.1.1 + 165)) hX dX12_sound_156 rfl zf_X12_7 (by decide) zc_164 zs_46 (zrf_of (zv_46_0 hI583 zc_164)) ?_
                          refine zt_iconst (pc' := 160) hX dX12_sound_159 rfl ?_
                          refine zt_iload_n (pc' := 161) hX dX12_sound_160 rfl rfl ?_
                          refine zt_imul (pc' := 162) hX dX12_sound_161 rfl ?_
                          refine zt_iconst (pc' := 163) hX dX12_sound_162 rfl ?_
                          refine zt_iadd (pc' := 164) hX dX12_sound_163 rfl ?_
                          refine zt_iald (pc' := 165) hX dX12_sound_164 rfl (by decide) zc_165 zs_47 (by decide) ⟨by omega, by omega⟩ ?_
                          generalize hv590 : s581 165 (((4 * x549) + 2).toNat) = v590
                          have bv590 : 0 ≤ v590 ∧ v590 ≤ 255 := hv590 ▸ zv_47 hI583 zc_165 _
                          refine zt_imul (pc' := 166) hX dX12_sound_165 rfl ?_
                          refine zt_aload_n (pc' := 167) hX dX12_sound_166 rfl rfl ?_
                          refine zt_get (pc' := 170) (v := .ref (X.1.1 + 165)) hX dX12_sound_167 rfl zf_X12_7 (by decide) zc_164 zs_46 (zrf_of (zv_46_0 hI583 zc_164)) ?_
                          refine zt_iconst (pc' := 171) hX dX12_sound_170 rfl ?_
                          refine zt_iload_n (pc' := 172) hX dX12_sound_171 rfl rfl ?_
                          refine zt_imul (pc' := 173) hX dX12_sound_172 rfl ?_
                          refine zt_iconst (pc' := 174) hX dX12_sound_173 rfl ?_
                          refine zt_iadd (pc' := 175) hX dX12_sound_174 rfl ?_
                          refine zt_iald (pc' := 176) hX dX12_sound_175 rfl (by decide) zc_165 zs_47 (by decide) ⟨by omega, by omega⟩ ?_
                          generalize hv591 : s581 165 (((4 * x549) + 3).toNat) = v591
                          have bv591 : 0 ≤ v591 ∧ v591 ≤ 255 := hv591 ▸ zv_47 hI583 zc_165 _
                          refine zt_iadd (pc' := 177) hX dX12_sound_176 rfl ?_
                          refine zt_sipush (pc' := 180) hX dX12_sound_177 rfl (by decide) (by decide) ?_
                          refine zt_isub (pc' := 181) hX dX12_sound_180 rfl ?_
                          refine zt_iast (pc' := 182) hX dX12_sound_181 rfl (by decide) zc_207 zs_89 (by decide) ⟨by omega, by omega⟩ ?_
                          generalize hs593 : zset s581 207 (((2 * x549) + 1).toNat) (((256 * v590) + v591) - 500) = s592
                          have hI594 : zInv s592 := hs593 ▸ zp_89 hI583 zc_207 (((2 * x549) + 1).toNat) (by omega)
                          have hF595 : zOn zSm σ s592 := hs593 ▸ zOn_set hF584 rfl
                          have e596 : s592 164 1 = s581 164 1 := by rw [← hs593]; exact zset_k (zne_r zc_164 zc_207 (by decide))
                          have e597 : s592 164 50 = s581 164 50 := by rw [← hs593]; exact zset_k (zne_r zc_164 zc_207 (by decide))
                          have e598 : s592 164 64 = s581 164 64 := by rw [← hs593]; exact zset_k (zne_r zc_164 zc_207 (by decide))
                          have e599 : s592 194 3 = s581 194 3 := by rw [← hs593]; exact zset_k (zne_r zc_194 zc_207 (by decide))
                          have e600 : s592 194 4 = s581 194 4 := by rw [← hs593]; exact zset_k (zne_r zc_194 zc_207 (by decide))
                          refine zt_iinc (pc' := 185) (lv' := [some (.ref (X.1.1 + 164)), none, none, some (.int (zI (x549 + 1)))]) hX dX12_sound_182 rfl rfl hL (by decide) rfl ?_
                          refine zt_goto (tgt := 105) hX dX12_sound_185 (by decide) ?_
                          exact ih564 (x549 + 1) s592 (by omega) (by omega) hI594 hF595 (by omega) (by omega) (by omega) (by omega) (by omega) (by omega) g561 (by omega)
                    refine zt_mask [true, false, false, true] rfl ?_
                    exact L_105_561 _ 0 s540 (by omega) (by omega) hI542 hF543 (by omega) (by omega) (by omega) (by omega) (by omega) (by omega) (ySd_le md534 (by omega)) (Nat.lt_succ_self _)
                  · exact absurd c538 (by omega)
                · refine zt_iload_n (pc' := 49) hX dX12_sound_48 rfl rfl ?_
                  refine zt_ifeq (pc' := 52) (tgt := 86) hX dX12_sound_49 rfl (by decide) ⟨by omega, by omega⟩ (fun c601 => ?_) (fun c601 => ?_)
                  · exact absurd c601 (by omega)
                  · refine zt_aload_n (pc' := 53) hX dX12_sound_52 rfl rfl ?_
                    refine zt_aload_n (pc' := 54) hX dX12_sound_53 rfl rfl ?_
                    refine zt_get (pc' := 57) (v := .ref (X.1.1 + 165)) hX dX12_sound_54 rfl zf_X12_7 (by decide) zc_164 zs_46 (zrf_of (zv_46_0 hI7 zc_164)) ?_
                    refine zt_iload_n (pc' := 58) hX dX12_sound_57 rfl rfl ?_
                    refine zt_iald (pc' := 59) hX dX12_sound_58 rfl (by decide) zc_165 zs_47 (by decide) ⟨by omega, by omega⟩ ?_
                    generalize hv602 : s5 165 (x520.toNat) = v602
                    have bv602 : 0 ≤ v602 ∧ v602 ≤ 255 := hv602 ▸ zv_47 hI7 zc_165 _
                    refine zt_aload_n (pc' := 60) hX dX12_sound_59 rfl rfl ?_
                    refine zt_get (pc' := 63) (v := .ref (X.1.1 + 165)) hX dX12_sound_60 rfl zf_X12_7 (by decide) zc_164 zs_46 (zrf_of (zv_46_0 hI7 zc_164)) ?_
                    refine zt_iload_n (pc' := 64) hX dX12_sound_63 rfl rfl ?_
                    refine zt_iconst (pc' := 65) hX dX12_sound_64 rfl ?_
                    refine zt_iadd (pc' := 66) hX dX12_sound_65 rfl ?_
                    refine zt_iald (pc' := 67) hX dX12_sound_66 rfl (by decide) zc_165 zs_47 (by decide) ⟨by omega, by omega⟩ ?_
                    generalize hv603 : s5 165 ((x520 + 1).toNat) = v603
                    have bv603 : 0 ≤ v603 ∧ v603 ≤ 255 := hv603 ▸ zv_47 hI7 zc_165 _
                    refine zt_cVi (pc' := 70) hX dX12_sound_67 rfl zm_yX12_cellAt zw_44_11 zc_164 (by decide) zs_46 (q := (RX12, TX12, 108)) rfl rfl (zc_X12_cellAt_C _ _ s5 hI7 v602 ⟨by omega, by omega⟩ v603 ⟨by omega, by omega⟩) rfl rfl (Nat.le_of_ble_eq_true rfl) (by decide) (fun r604 s605 hr606 hp607 => ?_)
                    obtain ⟨rfl, q608, q609, z610, z611⟩ := hp607
                    replace z610 : yIm _ _ := z610
                    replace z611 : yIm _ _ := z611
                    refine zt_iconst (pc' := 71) hX dX12_sound_70 rfl ?_
                    refine zt_iceq (pc' := 74) (tgt := 78) hX dX12_sound_71 rfl (by decide) ⟨by omega, by omega⟩ ⟨by omega, by omega⟩ (fun c612 => ?_) (fun c612 => ?_)
                    · refine zt_iconst (pc' := 79) hX dX12_sound_78 rfl ?_
                      refine zt_istore_n (pc' := 80) (lv' := [some (.ref (X.1.1 + 164)), some (.int (zI (σ 164 1))), some (.int (zI 0)), some (.int (zI x520))]) hX dX12_sound_79 rfl hL (by decide) rfl ?_
                      refine zt_iinc (pc' := 83) (lv' := [some (.ref (X.1.1 + 164)), some (.int (zI (σ 164 1))), some (.int (zI 0)), some (.int (zI (x520 + 4)))]) hX dX12_sound_80 rfl rfl hL (by decide) rfl ?_
                      refine zt_goto (tgt := 43) hX dX12_sound_83 (by decide) ?_
                      exact ih530 0 (x520 + 4) (by omega) (by omega) (by omega) (by omega) (by omega) (by omega) (by omega) (by omega) (ySy_k mb533 (by omega) (by omega) (hv602.symm.trans (yW_j (u := x520) (hF8 165 _ rfl) (by omega) (by omega))) rfl (hv603.symm.trans (yW_j (u := (x520 + 1)) (hF8 165 _ rfl) (by omega) (by omega))) rfl (fun h => absurd (show _ = (-1 : Int) by omega) (z611 (by have q := (yPne_1 hNe (by omega)).2; omega))) _) (by omega)
                    · refine zt_iconst (pc' := 75) hX dX12_sound_74 rfl ?_
                      refine zt_goto (tgt := 79) hX dX12_sound_75 (by decide) ?_
                      refine zt_istore_n (pc' := 80) (lv' := [some (.ref (X.1.1 + 164)), some (.int (zI (σ 164 1))), some (.int (zI 1)), some (.int (zI x520))]) hX dX12_sound_79 rfl hL (by decide) rfl ?_
                      refine zt_iinc (pc' := 83) (lv' := [some (.ref (X.1.1 + 164)), some (.int (zI (σ 164 1))), some (.int (zI 1)), some (.int (zI (x520 + 4)))]) hX dX12_sound_80 rfl rfl hL (by decide) rfl ?_
                      refine zt_goto (tgt := 43) hX dX12_sound_83 (by decide) ?_
                      exact ih530 1 (x520 + 4) (by omega) (by omega) (by omega) (by omega) (by omega) (by omega) (by omega) (by omega) (ySy_s ma532 mb533 md534 (hv602.symm.trans (yW_j (u := x520) (hF8 165 _ rfl) (by omega) (by omega))) rfl (hv603.symm.trans (yW_j (u := (x520 + 1)) (hF8 165 _ rfl) (by omega) (by omega))) rfl (by have q := z610 (by omega); omega)) (by omega)
              · refine zt_iload_n (pc' := 44) hX dX12_sound_43 rfl rfl ?_
                refine zt_iload_n (pc' := 45) hX dX12_sound_44 rfl rfl ?_
                refine zt_icge (pc' := 48) (tgt := 86) hX dX12_sound_45 rfl (by decide) ⟨by omega, by omega⟩ ⟨by omega, by omega⟩ (fun c613 => ?_) (fun c613 => ?_)
                · refine zt_iload_n (pc' := 87) hX dX12_sound_86 rfl rfl ?_
                  refine zt_ifne (pc' := 90) (tgt := 96) hX dX12_sound_87 rfl (by decide) ⟨by omega, by omega⟩ (fun c614 => ?_) (fun c614 => ?_)
                  · exact absurd c614 (by omega)
                  · refine zt_aload_n (pc' := 91) hX dX12_sound_90 rfl rfl ?_
                    refine zt_iconst (pc' := 92) hX dX12_sound_91 rfl ?_
                    refine zt_cVi (pc' := 95) hX dX12_sound_92 rfl zm_yX12_refuses zw_57_10 zc_164 (by decide) zs_46 (q := (RX12, TX12, 108)) rfl rfl (zc_X12_refuses _ _ s5 hI7 1 ⟨by omega, by omega⟩) rfl rfl (Nat.le_of_ble_eq_true rfl) (by decide) (fun r615 s616 hr617 hp618 => ?_)
                    obtain ⟨hI619, hF620, q621, q622⟩ := hp618
                    have hF623 := zOn_tr hF8 (zSm_N hF620) zi_id
                    have b624 := zv_46_1 hI619 zc_164
                    have b625 := zv_46_50 hI619 zc_164
                    have b626 := zv_46_64 hI619 zc_164
                    exact zt_iret hX hR dX12_sound_95 ⟨by omega, by omega⟩ ⟨hI619, hF623, by omega, by omega, (by rw [show r615 = -1 by omega]; exact mx535)⟩
                · refine zt_iload_n (pc' := 49) hX dX12_sound_48 rfl rfl ?_
                  refine zt_ifeq (pc' := 52) (tgt := 86) hX dX12_sound_49 rfl (by decide) ⟨by omega, by omega⟩ (fun c627 => ?_) (fun c627 => ?_)
                  · refine zt_iload_n (pc' := 87) hX dX12_sound_86 rfl rfl ?_
                    refine zt_ifne (pc' := 90) (tgt := 96) hX dX12_sound_87 rfl (by decide) ⟨by omega, by omega⟩ (fun c628 => ?_) (fun c628 => ?_)
                    · exact absurd c628 (by omega)
                    · refine zt_aload_n (pc' := 91) hX dX12_sound_90 rfl rfl ?_
                      refine zt_iconst (pc' := 92) hX dX12_sound_91 rfl ?_
                      refine zt_cVi (pc' := 95) hX dX12_sound_92 rfl zm_yX12_refuses zw_57_10 zc_164 (by decide) zs_46 (q := (RX12, TX12, 108)) rfl rfl (zc_X12_refuses _ _ s5 hI7 1 ⟨by omega, by omega⟩) rfl rfl (Nat.le_of_ble_eq_true rfl) (by decide) (fun r629 s630 hr631 hp632 => ?_)
                      obtain ⟨hI633, hF634, q635, q636⟩ := hp632
                      have hF637 := zOn_tr hF8 (zSm_N hF634) zi_id
                      have b638 := zv_46_1 hI633 zc_164
                      have b639 := zv_46_50 hI633 zc_164
                      have b640 := zv_46_64 hI633 zc_164
                      exact zt_iret hX hR dX12_sound_95 ⟨by omega, by omega⟩ ⟨hI633, hF637, by omega, by omega, (by rw [show r629 = -1 by omega]; exact mx535)⟩
                  · exact absurd c627 (by omega)
          exact L_43_527 _ 1 0 (by omega) (by omega) (by omega) (by omega) (by omega) (by omega) (by omega) (by omega) (Or.inl ⟨rfl, ⟨by omega, by omega, by omega, (yPne_1 hNe (by omega)).1⟩, by decide, ySd_0⟩) (Nat.lt_succ_self _)
