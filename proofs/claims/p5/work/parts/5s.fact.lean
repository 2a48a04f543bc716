set_option maxRecDepth 100000 in
set_option maxHeartbeats 4000000 in
theorem yc_X12_qFact (l : Launch) (E : zEN) (σ : zSto) (hI : zInv σ) (hpre0 : σ 164 5 = 0) (f : Int → Int) (hT : yTq f σ) (cb rl : Int) (k : List Nat) (hrl : 0 ≤ rl ∧ rl ≤ 2) (hWd : yWd σ) (hk : (ydep k : Int) = σ 164 100 ∧ σ 164 100 ≤ 6 ∧ σ 164 51 = rl) (hbd : ybd cb σ (yqs f σ)) (hbl : ybL σ) (hnn : yPi f (yqs f σ) ≠ 23 ∧ yPg f (yqs f σ) ≠ 91) : zCt l E yX12_qFact cX12_qFact 2 none 7 zNC zNC 0 0 σ [.ref (E.1 + 164)] (fun r σ' => zInv σ' ∧ zOn zQ2 σ σ' ∧ yTq f σ' ∧ (yJ rl f (4, k, (yqs f σ)) (5, k, (yqs f σ'))) ∧ (σ' 164 101 = σ 164 101) ∧ (ySe cb σ σ' (yqs f σ) (yqs f σ')) ∧ (σ' 164 97 + σ' 164 99 ≤ 1660 ∧ -1800 ≤ σ' 164 100 ∧ σ' 164 100 ≤ 10)) := by
  refine zCt_of2 [some (.ref (E.1 + 164)), none] (by decide +kernel) (Nat.le_of_ble_eq_true rfl) rfl ?_
  intro X hE_ hX hR hL hN
  subst hE_
  have hX : zok X cX12_qFact RX12 7 := hX
  have hF := zOn_rf zQ2 σ
  have hE0 : yqs f σ = yqs f σ := rfl
  have ho0 : yPo (yqs f σ) = 1 := (yHb hT rfl).1 (by omega)
  have hn0 := ybd_b hbd hT rfl ho0
  have b1 := zv_46_2 hI zc_164
  have b2 := zv_46_5 hI zc_164
  have b3 := zv_46_97 hI zc_164
  have b4 := zv_46_99 hI zc_164
  have b5 := zv_46_100 hI zc_164
  have b6 := zv_46_101 hI zc_164
  have b7 := zv_46_51 hI zc_164
  refine zt_aload_n (pc' := 1) hX dX12_qFact_0 rfl rfl ?_
  refine zt_aload_n (pc' := 2) hX dX12_qFact_1 rfl rfl ?_
  refine zt_get (pc' := 5) (v := .ref (X.1.1 + 220)) hX dX12_qFact_2 rfl zf_X12_189 (by decide) zc_164 zs_46 (zrf_of (zv_46_82 hI zc_164)) ?_
  refine zt_cVz (pc' := 8) hX dX12_qFact_5 rfl zm_yX12_takes zw_26_4 zc_164 (by decide) zs_46 (q := (RX12, TX12, 108)) rfl rfl (yc_X12_takes _ _ σ hI 220 102 3 zc_220 (by decide) zs_102 (by decide) f hT 24 (yrow_220 (yWd_2 hWd hF)) (by decide)) rfl rfl (Nat.le_of_ble_eq_true rfl) (by decide) (fun r8 s9 hr10 hp11 => ?_)
  obtain ⟨hI12, hF13, q14, q15, hT16, z17, z18, z19⟩ := hp11
  have hE20 : yqs f s9 = yPt f 24 (yqs f σ) := z17
  have hF21 := zOn_tr hF hF13 zi_12
  have b22 := zv_46_2 hI12 zc_164
  have b23 := zv_46_5 hI12 zc_164
  have b24 := zv_46_97 hI12 zc_164
  have b25 := zv_46_99 hI12 zc_164
  have b26 := zv_46_100 hI12 zc_164
  have b27 := zv_46_101 hI12 zc_164
  have b28 := zv_46_51 hI12 zc_164
  have e29 := hF13 164 97 rfl
  have e30 := hF13 164 99 rfl
  have e31 := hF13 164 100 rfl
  have e32 := hF13 164 101 rfl
  have e33 := hF13 164 51 rfl
  clear z19
  rcases yspl z18 with ⟨rfl, c34⟩ | ⟨rfl, c34⟩
  · clear z18
    have hE35 : yqs f s9 = yPx f (yqs f σ) := hE20.trans (if_pos c34)
    have u36 := yHb1 hE35 (yPo_px.trans ho0)
    refine zt_ifeq (pc' := 11) (tgt := 18) hX dX12_qFact_8 rfl (by decide) ⟨by omega, by omega⟩ (fun c37 => ?_) (fun c37 => ?_)
    · exact absurd c37 (by omega)
    · refine zt_aload_n (pc' := 12) hX dX12_qFact_11 rfl rfl ?_
      refine zt_bipush (pc' := 14) hX dX12_qFact_12 rfl (by decide) (by decide) ?_
      refine zt_cVv (pc' := 17) hX dX12_qFact_14 rfl zm_yX12_qCode zw_29_18 zc_164 (by decide) zs_46 (q := (RX12, TX12, 108)) rfl rfl (yc_X12_qCode _ _ s9 hI12 13 ⟨by omega, by omega⟩ (by omega)) rfl rfl (Nat.le_of_ble_eq_true rfl) (by decide) (fun r38 s39 hr40 hp41 => ?_)
      obtain ⟨hI42, hF43, z44⟩ := hp41
      have hF45 := zOn_tr hF21 hF43 zi_c2
      have hT46 := yTq_rk hT16 (yRq_c hF43)
      have hE47 : yqs f s39 = yPx f (yqs f σ) := (yqs_rk (yRq_c hF43)).trans hE35
      have b48 := zv_46_2 hI42 zc_164
      have b49 := zv_46_5 hI42 zc_164
      have b50 := zv_46_97 hI42 zc_164
      have b51 := zv_46_99 hI42 zc_164
      have b52 := zv_46_100 hI42 zc_164
      have b53 := zv_46_101 hI42 zc_164
      have b54 := zv_46_51 hI42 zc_164
      have e55 := hF43 164 2 rfl
      have e56 := hF43 164 5 rfl
      have e57 := hF43 164 99 rfl
      have e58 := hF43 164 100 rfl
      have e59 := hF43 164 101 rfl
      have e60 := hF43 164 51 rfl
      exact zt_vret hX hR dX12_qFact_17 ⟨hI42, hF45, hT46, (by rw [hE47]; exact yJ_all c34), by omega, (by rw [hE47]; exact yFs_a hbd (fun o => yadv1 hT rfl o (ykn (Or.inr (Or.inl (by rw [c34]; decide))))) hF13 hF43 z44), ⟨by omega, by omega, by omega⟩⟩
  · clear z18
    have hE61 : yqs f s9 = yqs f σ := hE20.trans (if_neg c34)
    have u62 := yHb1 hE61 (ho0)
    refine zt_ifeq (pc' := 11) (tgt := 18) hX dX12_qFact_8 rfl (by decide) ⟨by omega, by omega⟩ (fun c63 => ?_) (fun c63 => ?_)
    · refine zt_aload_n (pc' := 19) hX dX12_qFact_18 rfl rfl ?_
      refine zt_cVv (pc' := 22) hX dX12_qFact_19 rfl zm_yX12_qSums zw_29_22 zc_164 (by decide) zs_46 (q := (RX12, TX12, 108)) rfl rfl (yc_X12_qSums _ _ s9 hI12 (by omega) f hT16 cb rl (5 :: k) hrl (yWd_2 hWd hF21) (show (5 : Nat) ≠ 4 by decide) ⟨(by show ((ydep k : Nat) : Int) = _; omega), by omega, by omega⟩ (by rw [hE61]; exact ybd_q hbd hF13) (ybL_q hbl hF13)) rfl rfl (Nat.le_of_ble_eq_true rfl) (by decide) (fun r64 s65 hr66 hp67 => ?_)
      obtain ⟨hI68, hF69, hT70, z71, z72, z73, z74, z75⟩ := hp67
      rw [hE61] at z71
      rw [hE61] at z74
      have hF76 := zOn_tr hF21 hF69 zi_id
      obtain ⟨p77, hE78⟩ : ∃ p, yqs f s65 = p := ⟨_, rfl⟩
      rw [hE78] at z71
      rw [hE78] at z72
      rw [hE78] at z74
      have b79 := zv_46_2 hI68 zc_164
      have b80 := zv_46_5 hI68 zc_164
      have b81 := zv_46_97 hI68 zc_164
      have b82 := zv_46_99 hI68 zc_164
      have b83 := zv_46_100 hI68 zc_164
      have b84 := zv_46_101 hI68 zc_164
      have b85 := zv_46_51 hI68 zc_164
      have se86 : ySe cb σ s65 (yqs f σ) p77 := fun o => by have t := z74 o; rw [show s9 164 99 = σ 164 99 by omega, show s9 164 100 = σ 164 100 by omega, show s9 164 51 = σ 164 51 by omega] at t; exact ⟨t.1, t.2.1, t.2.2.1, fun j hj => (t.2.2.2.1 j hj).trans (hF13 235 j rfl), t.2.2.2.2⟩
      refine zt_aload_n (pc' := 23) hX dX12_qFact_22 rfl rfl ?_
      have b87 := zv_46_5 hI68 zc_164
      refine zt_get (pc' := 26) (v := .int (zI (s65 164 5))) hX dX12_qFact_23 rfl zf_X12_246 (by decide) zc_164 zs_46 rfl ?_
      refine zt_ifeq (pc' := 29) (tgt := 30) hX dX12_qFact_26 rfl (by decide) ⟨by omega, by omega⟩ (fun c88 => ?_) (fun c88 => ?_)
      · have o89 : yPo p77 = 1 := (yHb hT70 hE78).1 (by omega)
        obtain ⟨u90, u91, u92, -, -, -⟩ := se86 o89
        refine zt_aload_n (pc' := 31) hX dX12_qFact_30 rfl rfl ?_
        refine zt_cVi (pc' := 34) hX dX12_qFact_31 rfl zm_yX12_look zw_26_12 zc_164 (by decide) zs_46 (q := (RX12, TX12, 108)) rfl rfl (yc_X12_look _ _ s65 hI68 f hT70) rfl rfl (Nat.le_of_ble_eq_true rfl) (by decide) (fun r93 s94 hr95 hp96 => ?_)
        obtain ⟨hI97, hF98, q99, q100, hT101, z102, z103, z104⟩ := hp96
        have hE105 : yqs f s94 = p77 := by rw [z102, hE78]
        have hF106 := zOn_tr hF76 hF98 zi_a2
        have b107 := zv_46_2 hI97 zc_164
        have b108 := zv_46_5 hI97 zc_164
        have b109 := zv_46_97 hI97 zc_164
        have b110 := zv_46_99 hI97 zc_164
        have b111 := zv_46_100 hI97 zc_164
        have b112 := zv_46_101 hI97 zc_164
        have b113 := zv_46_51 hI97 zc_164
        have e114 := hF98 164 5 rfl
        have e115 := hF98 164 97 rfl
        have e116 := hF98 164 99 rfl
        have e117 := hF98 164 100 rfl
        have e118 := hF98 164 101 rfl
        have e119 := hF98 164 51 rfl
        have hq120 : s94 164 2 = yPq p77 := yat_q hE78 (by omega) z103
        have hc121 : f (yPq p77) = r93 := by rw [← hq120]; exact z104.symm
        clear z103 z104
        refine zt_istore_n (pc' := 35) (lv' := [some (.ref (X.1.1 + 164)), some (.int (zI r93))]) hX dX12_qFact_34 rfl hL (by decide) rfl ?_
        refine zt_iload_n (pc' := 36) hX dX12_qFact_35 rfl rfl ?_
        refine zt_bipush (pc' := 38) hX dX12_qFact_36 rfl (by decide) (by decide) ?_
        refine zt_iceq (pc' := 41) (tgt := 63) hX dX12_qFact_38 rfl (by decide) ⟨by omega, by omega⟩ ⟨by omega, by omega⟩ (fun c122 => ?_) (fun c122 => ?_)
        · have g123 : yPg f p77 = 60 := ysg_p hT101 hE105 (by omega) (by omega) (hc121.trans (by omega)) ⟨by decide, by decide, by decide⟩
          have u124 := yat_lt (q := yPq p77) hT101 (by omega) (by rw [hc121]; omega)
          have ad125 := yadv1 hT101 hE105 o89 (ykn (Or.inl (by rw [g123]; decide)))
          refine zt_aload_n (pc' := 64) hX dX12_qFact_63 rfl rfl ?_
          refine zt_dup (pc' := 65) hX dX12_qFact_64 rfl rfl ?_
          have b126 := zv_46_2 hI97 zc_164
          refine zt_get (pc' := 68) (v := .int (zI (s94 164 2))) hX dX12_qFact_65 rfl zf_X12_252 (by decide) zc_164 zs_46 rfl ?_
          refine zt_iconst (pc' := 69) hX dX12_qFact_68 rfl ?_
          refine zt_iadd (pc' := 70) hX dX12_qFact_69 rfl ?_
          refine zt_put (pc' := 73) (x := ((s94 164 2) + 1)) hX dX12_qFact_70 rfl zf_X12_252 (by decide) zc_164 zs_46 (fun q hq => by cases hq; rfl) rfl rfl rfl ?_
          generalize hs128 : zset s94 164 2 ((s94 164 2) + 1) = s127
          have hI129 : zInv s127 := hs128 ▸ zp_46_2 hI97 zc_164 ⟨by omega, by omega⟩
          have hF130 : zOn zQ2 σ s127 := hs128 ▸ zOn_set hF106 (by decide)
          have e131 : s127 164 2 = ((s94 164 2) + 1) := by rw [← hs128]; exact zset_s
          have e132 : s127 164 5 = s94 164 5 := by rw [← hs128]; exact zset_j (by decide)
          have e133 : s127 164 97 = s94 164 97 := by rw [← hs128]; exact zset_j (by decide)
          have e134 : s127 164 99 = s94 164 99 := by rw [← hs128]; exact zset_j (by decide)
          have e135 : s127 164 100 = s94 164 100 := by rw [← hs128]; exact zset_j (by decide)
          have e136 : s127 164 101 = s94 164 101 := by rw [← hs128]; exact zset_j (by decide)
          have e137 : s127 164 51 = s94 164 51 := by rw [← hs128]; exact zset_j (by decide)
          have h138 := yL_at1 hT101 hE105 (by omega) (by omega) (show f (yPq _) = 60 from hc121.trans (by omega)) ⟨by decide, by decide, by decide⟩ hs128
          have o139 : zOn zQ1 _ s127 := zOn_tr (zOn_tr (zOn_rf zQ1 _) hF98 zi_a1) (hs128 ▸ zOn_set (zOn_rf zQ1 _) (by decide)) zi_id
          have u140 := yHb1 h138.2.1 (yPo_px.trans o89)
          refine zt_aload_n (pc' := 74) hX dX12_qFact_73 rfl rfl ?_
          refine zt_cVv (pc' := 77) hX dX12_qFact_74 rfl zm_yX12_qSums zw_29_22 zc_164 (by decide) zs_46 (q := (RX12, TX12, 108)) rfl rfl (yc_X12_qSums _ _ s127 hI129 (by omega) f h138.1 (cb + 1) rl (6 :: k) hrl (yWd_2 hWd hF130) (show (6 : Nat) ≠ 4 by decide) ⟨(by show ((ydep k : Nat) : Int) = _; omega), by omega, by omega⟩ (by rw [h138.2.1]; exact yFs_b se86 o89 ad125 o139) (ybL_q (ybL_e hbl se86 o89) o139)) rfl rfl (Nat.le_of_ble_eq_true rfl) (by decide) (fun r141 s142 hr143 hp144 => ?_)
          obtain ⟨hI145, hF146, hT147, z148, z149, z150, z151, z152⟩ := hp144
          rw [h138.2.1] at z148
          rw [h138.2.1] at z151
          have hF153 := zOn_tr hF130 hF146 zi_id
          obtain ⟨p154, hE155⟩ : ∃ p, yqs f s142 = p := ⟨_, rfl⟩
          rw [hE155] at z148
          rw [hE155] at z149
          rw [hE155] at z151
          have b156 := zv_46_2 hI145 zc_164
          have b157 := zv_46_5 hI145 zc_164
          have b158 := zv_46_97 hI145 zc_164
          have b159 := zv_46_99 hI145 zc_164
          have b160 := zv_46_100 hI145 zc_164
          have b161 := zv_46_101 hI145 zc_164
          have b162 := zv_46_51 hI145 zc_164
          refine zt_aload_n (pc' := 78) hX dX12_qFact_77 rfl rfl ?_
          refine zt_iload_n (pc' := 79) hX dX12_qFact_78 rfl rfl ?_
          refine zt_bipush (pc' := 81) hX dX12_qFact_79 rfl (by decide) (by decide) ?_
          refine zt_icne (pc' := 84) (tgt := 89) hX dX12_qFact_81 rfl (by decide) ⟨by omega, by omega⟩ ⟨by omega, by omega⟩ (fun c163 => ?_) (fun c163 => ?_)
          · exact absurd c163 (by omega)
          · refine zt_bipush (pc' := 86) hX dX12_qFact_84 rfl (by decide) (by decide) ?_
            refine zt_goto (tgt := 102) hX dX12_qFact_86 (by decide) ?_
            refine zt_cVv (pc' := 105) hX dX12_qFact_102 rfl zm_yX12_qCode zw_29_18 zc_164 (by decide) zs_46 (q := (RX12, TX12, 108)) rfl rfl (yc_X12_qCode _ _ s142 hI145 7 ⟨by omega, by omega⟩ (by omega)) rfl rfl (Nat.le_of_ble_eq_true rfl) (by decide) (fun r164 s165 hr166 hp167 => ?_)
            obtain ⟨hI168, hF169, z170⟩ := hp167
            have hF171 := zOn_tr hF153 hF169 zi_c2
            have hT172 := yTq_rk hT147 (yRq_c hF169)
            have hE173 : yqs f s165 = p154 := (yqs_rk (yRq_c hF169)).trans hE155
            have b174 := zv_46_2 hI168 zc_164
            have b175 := zv_46_5 hI168 zc_164
            have b176 := zv_46_97 hI168 zc_164
            have b177 := zv_46_99 hI168 zc_164
            have b178 := zv_46_100 hI168 zc_164
            have b179 := zv_46_101 hI168 zc_164
            have b180 := zv_46_51 hI168 zc_164
            have e181 := hF169 164 2 rfl
            have e182 := hF169 164 5 rfl
            have e183 := hF169 164 99 rfl
            have e184 := hF169 164 100 rfl
            have e185 := hF169 164 101 rfl
            have e186 := hF169 164 51 rfl
            exact zt_vret hX hR dX12_qFact_105 ⟨hI168, hF171, hT172, (by rw [hE173]; exact yFact_e hnn c34 z71 (Or.inl g123) z148 z149), by omega, (by rw [hE173]; exact yFs_e se86 o89 ad125 o139 z151 hF169 z170), ⟨by omega, by omega, by omega⟩⟩
        · refine zt_iload_n (pc' := 42) hX dX12_qFact_41 rfl rfl ?_
          refine zt_bipush (pc' := 44) hX dX12_qFact_42 rfl (by decide) (by decide) ?_
          refine zt_iceq (pc' := 47) (tgt := 63) hX dX12_qFact_44 rfl (by decide) ⟨by omega, by omega⟩ ⟨by omega, by omega⟩ (fun c187 => ?_) (fun c187 => ?_)
          · have g188 : yPg f p77 = 62 := ysg_p hT101 hE105 (by omega) (by omega) (hc121.trans (by omega)) ⟨by decide, by decide, by decide⟩
            have u189 := yat_lt (q := yPq p77) hT101 (by omega) (by rw [hc121]; omega)
            have ad190 := yadv1 hT101 hE105 o89 (ykn (Or.inl (by rw [g188]; decide)))
            refine zt_aload_n (pc' := 64) hX dX12_qFact_63 rfl rfl ?_
            refine zt_dup (pc' := 65) hX dX12_qFact_64 rfl rfl ?_
            have b191 := zv_46_2 hI97 zc_164
            refine zt_get (pc' := 68) (v := .int (zI (s94 164 2))) hX dX12_qFact_65 rfl zf_X12_252 (by decide) zc_164 zs_46 rfl ?_
            refine zt_iconst (pc' := 69) hX dX12_qFact_68 rfl ?_
            refine zt_iadd (pc' := 70) hX dX12_qFact_69 rfl ?_
            refine zt_put (pc' := 73) (x := ((s94 164 2) + 1)) hX dX12_qFact_70 rfl zf_X12_252 (by decide) zc_164 zs_46 (fun q hq => by cases hq; rfl) rfl rfl rfl ?_
            generalize hs193 : zset s94 164 2 ((s94 164 2) + 1) = s192
            have hI194 : zInv s192 := hs193 ▸ zp_46_2 hI97 zc_164 ⟨by omega, by omega⟩
            have hF195 : zOn zQ2 σ s192 := hs193 ▸ zOn_set hF106 (by decide)
            have e196 : s192 164 2 = ((s94 164 2) + 1) := by rw [← hs193]; exact zset_s
            have e197 : s192 164 5 = s94 164 5 := by rw [← hs193]; exact zset_j (by decide)
            have e198 : s192 164 97 = s94 164 97 := by rw [← hs193]; exact zset_j (by decide)
            have e199 : s192 164 99 = s94 164 99 := by rw [← hs193]; exact zset_j (by decide)
            have e200 : s192 164 100 = s94 164 100 := by rw [← hs193]; exact zset_j (by decide)
            have e201 : s192 164 101 = s94 164 101 := by rw [← hs193]; exact zset_j (by decide)
            have e202 : s192 164 51 = s94 164 51 := by rw [← hs193]; exact zset_j (by decide)
            have h203 := yL_at1 hT101 hE105 (by omega) (by omega) (show f (yPq _) = 62 from hc121.trans (by omega)) ⟨by decide, by decide, by decide⟩ hs193
            have o204 : zOn zQ1 _ s192 := zOn_tr (zOn_tr (zOn_rf zQ1 _) hF98 zi_a1) (hs193 ▸ zOn_set (zOn_rf zQ1 _) (by decide)) zi_id
            have u205 := yHb1 h203.2.1 (yPo_px.trans o89)
            refine zt_aload_n (pc' := 74) hX dX12_qFact_73 rfl rfl ?_
            refine zt_cVv (pc' := 77) hX dX12_qFact_74 rfl zm_yX12_qSums zw_29_22 zc_164 (by decide) zs_46 (q := (RX12, TX12, 108)) rfl rfl (yc_X12_qSums _ _ s192 hI194 (by omega) f h203.1 (cb + 1) rl (6 :: k) hrl (yWd_2 hWd hF195) (show (6 : Nat) ≠ 4 by decide) ⟨(by show ((ydep k : Nat) : Int) = _; omega), by omega, by omega⟩ (by rw [h203.2.1]; exact yFs_b se86 o89 ad190 o204) (ybL_q (ybL_e hbl se86 o89) o204)) rfl rfl (Nat.le_of_ble_eq_true rfl) (by decide) (fun r206 s207 hr208 hp209 => ?_)
            obtain ⟨hI210, hF211, hT212, z213, z214, z215, z216, z217⟩ := hp209
            rw [h203.2.1] at z213
            rw [h203.2.1] at z216
            have hF218 := zOn_tr hF195 hF211 zi_id
            obtain ⟨p219, hE220⟩ : ∃ p, yqs f s207 = p := ⟨_, rfl⟩
            rw [hE220] at z213
            rw [hE220] at z214
            rw [hE220] at z216
            have b221 := zv_46_2 hI210 zc_164
            have b222 := zv_46_5 hI210 zc_164
            have b223 := zv_46_97 hI210 zc_164
            have b224 := zv_46_99 hI210 zc_164
            have b225 := zv_46_100 hI210 zc_164
            have b226 := zv_46_101 hI210 zc_164
            have b227 := zv_46_51 hI210 zc_164
            refine zt_aload_n (pc' := 78) hX dX12_qFact_77 rfl rfl ?_
            refine zt_iload_n (pc' := 79) hX dX12_qFact_78 rfl rfl ?_
            refine zt_bipush (pc' := 81) hX dX12_qFact_79 rfl (by decide) (by decide) ?_
            refine zt_icne (pc' := 84) (tgt := 89) hX dX12_qFact_81 rfl (by decide) ⟨by omega, by omega⟩ ⟨by omega, by omega⟩ (fun c228 => ?_) (fun c228 => ?_)
            · refine zt_iload_n (pc' := 90) hX dX12_qFact_89 rfl rfl ?_
              refine zt_bipush (pc' := 92) hX dX12_qFact_90 rfl (by decide) (by decide) ?_
              refine zt_icne (pc' := 95) (tgt := 100) hX dX12_qFact_92 rfl (by decide) ⟨by omega, by omega⟩ ⟨by omega, by omega⟩ (fun c229 => ?_) (fun c229 => ?_)
              · exact absurd c229 (by omega)
              · refine zt_bipush (pc' := 97) hX dX12_qFact_95 rfl (by decide) (by decide) ?_
                refine zt_goto (tgt := 102) hX dX12_qFact_97 (by decide) ?_
                refine zt_cVv (pc' := 105) hX dX12_qFact_102 rfl zm_yX12_qCode zw_29_18 zc_164 (by decide) zs_46 (q := (RX12, TX12, 108)) rfl rfl (yc_X12_qCode _ _ s207 hI210 8 ⟨by omega, by omega⟩ (by omega)) rfl rfl (Nat.le_of_ble_eq_true rfl) (by decide) (fun r230 s231 hr232 hp233 => ?_)
                obtain ⟨hI234, hF235, z236⟩ := hp233
                have hF237 := zOn_tr hF218 hF235 zi_c2
                have hT238 := yTq_rk hT212 (yRq_c hF235)
                have hE239 : yqs f s231 = p219 := (yqs_rk (yRq_c hF235)).trans hE220
                have b240 := zv_46_2 hI234 zc_164
                have b241 := zv_46_5 hI234 zc_164
                have b242 := zv_46_97 hI234 zc_164
                have b243 := zv_46_99 hI234 zc_164
                have b244 := zv_46_100 hI234 zc_164
                have b245 := zv_46_101 hI234 zc_164
                have b246 := zv_46_51 hI234 zc_164
                have e247 := hF235 164 2 rfl
                have e248 := hF235 164 5 rfl
                have e249 := hF235 164 99 rfl
                have e250 := hF235 164 100 rfl
                have e251 := hF235 164 101 rfl
                have e252 := hF235 164 51 rfl
                exact zt_vret hX hR dX12_qFact_105 ⟨hI234, hF237, hT238, (by rw [hE239]; exact yFact_e hnn c34 z71 (Or.inr (Or.inr g188)) z213 z214), by omega, (by rw [hE239]; exact yFs_e se86 o89 ad190 o204 z216 hF235 z236), ⟨by omega, by omega, by omega⟩⟩
            · exact absurd c228 (by omega)
          · refine zt_iload_n (pc' := 48) hX dX12_qFact_47 rfl rfl ?_
            refine zt_bipush (pc' := 50) hX dX12_qFact_48 rfl (by decide) (by decide) ?_
            refine zt_iceq (pc' := 53) (tgt := 63) hX dX12_qFact_50 rfl (by decide) ⟨by omega, by omega⟩ ⟨by omega, by omega⟩ (fun c253 => ?_) (fun c253 => ?_)
            · have g254 : yPg f p77 = 61 := ysg_p hT101 hE105 (by omega) (by omega) (hc121.trans (by omega)) ⟨by decide, by decide, by decide⟩
              have u255 := yat_lt (q := yPq p77) hT101 (by omega) (by rw [hc121]; omega)
              have ad256 := yadv1 hT101 hE105 o89 (ykn (Or.inl (by rw [g254]; decide)))
              refine zt_aload_n (pc' := 64) hX dX12_qFact_63 rfl rfl ?_
              refine zt_dup (pc' := 65) hX dX12_qFact_64 rfl rfl ?_
              have b257 := zv_46_2 hI97 zc_164
              refine zt_get (pc' := 68) (v := .int (zI (s94 164 2))) hX dX12_qFact_65 rfl zf_X12_252 (by decide) zc_164 zs_46 rfl ?_
              refine zt_iconst (pc' := 69) hX dX12_qFact_68 rfl ?_
              refine zt_iadd (pc' := 70) hX dX12_qFact_69 rfl ?_
              refine zt_put (pc' := 73) (x := ((s94 164 2) + 1)) hX dX12_qFact_70 rfl zf_X12_252 (by decide) zc_164 zs_46 (fun q hq => by cases hq; rfl) rfl rfl rfl ?_
              generalize hs259 : zset s94 164 2 ((s94 164 2) + 1) = s258
              have hI260 : zInv s258 := hs259 ▸ zp_46_2 hI97 zc_164 ⟨by omega, by omega⟩
              have hF261 : zOn zQ2 σ s258 := hs259 ▸ zOn_set hF106 (by decide)
              have e262 : s258 164 2 = ((s94 164 2) + 1) := by rw [← hs259]; exact zset_s
              have e263 : s258 164 5 = s94 164 5 := by rw [← hs259]; exact zset_j (by decide)
              have e264 : s258 164 97 = s94 164 97 := by rw [← hs259]; exact zset_j (by decide)
              have e265 : s258 164 99 = s94 164 99 := by rw [← hs259]; exact zset_j (by decide)
              have e266 : s258 164 100 = s94 164 100 := by rw [← hs259]; exact zset_j (by decide)
              have e267 : s258 164 101 = s94 164 101 := by rw [← hs259]; exact zset_j (by decide)
              have e268 : s258 164 51 = s94 164 51 := by rw [← hs259]; exact zset_j (by decide)
              have h269 := yL_at1 hT101 hE105 (by omega) (by omega) (show f (yPq _) = 61 from hc121.trans (by omega)) ⟨by decide, by decide, by decide⟩ hs259
              have o270 : zOn zQ1 _ s258 := zOn_tr (zOn_tr (zOn_rf zQ1 _) hF98 zi_a1) (hs259 ▸ zOn_set (zOn_rf zQ1 _) (by decide)) zi_id
              have u271 := yHb1 h269.2.1 (yPo_px.trans o89)
              refine zt_aload_n (pc' := 74) hX dX12_qFact_73 rfl rfl ?_
              refine zt_cVv (pc' := 77) hX dX12_qFact_74 rfl zm_yX12_qSums zw_29_22 zc_164 (by decide) zs_46 (q := (RX12, TX12, 108)) rfl rfl (yc_X12_qSums _ _ s258 hI260 (by omega) f h269.1 (cb + 1) rl (6 :: k) hrl (yWd_2 hWd hF261) (show (6 : Nat) ≠ 4 by decide) ⟨(by show ((ydep k : Nat) : Int) = _; omega), by omega, by omega⟩ (by rw [h269.2.1]; exact yFs_b se86 o89 ad256 o270) (ybL_q (ybL_e hbl se86 o89) o270)) rfl rfl (Nat.le_of_ble_eq_true rfl) (by decide) (fun r272 s273 hr274 hp275 => ?_)
              obtain ⟨hI276, hF277, hT278, z279, z280, z281, z282, z283⟩ := hp275
              rw [h269.2.1] at z279
              rw [h269.2.1] at z282
              have hF284 := zOn_tr hF261 hF277 zi_id
              obtain ⟨p285, hE286⟩ : ∃ p, yqs f s273 = p := ⟨_, rfl⟩
              rw [hE286] at z279
              rw [hE286] at z280
              rw [hE286] at z282
              have b287 := zv_46_2 hI276 zc_164
              have b288 := zv_46_5 hI276 zc_164
              have b289 := zv_46_97 hI276 zc_164
              have b290 := zv_46_99 hI276 zc_164
              have b291 := zv_46_100 hI276 zc_164
              have b292 := zv_46_101 hI276 zc_164
              have b293 := zv_46_51 hI276 zc_164
              refine zt_aload_n (pc' := 78) hX dX12_qFact_77 rfl rfl ?_
              refine zt_iload_n (pc' := 79) hX dX12_qFact_78 rfl rfl ?_
              refine zt_bipush (pc' := 81) hX dX12_qFact_79 rfl (by decide) (by decide) ?_
              refine zt_icne (pc' := 84) (tgt := 89) hX dX12_qFact_81 rfl (by decide) ⟨by omega, by omega⟩ ⟨by omega, by omega⟩ (fun c294 => ?_) (fun c294 => ?_)
              · refine zt_iload_n (pc' := 90) hX dX12_qFact_89 rfl rfl ?_
                refine zt_bipush (pc' := 92) hX dX12_qFact_90 rfl (by decide) (by decide) ?_
                refine zt_icne (pc' := 95) (tgt := 100) hX dX12_qFact_92 rfl (by decide) ⟨by omega, by omega⟩ ⟨by omega, by omega⟩ (fun c295 => ?_) (fun c295 => ?_)
                · refine zt_bipush (pc' := 102) hX dX12_qFact_100 rfl (by decide) (by decide) ?_
                  refine zt_cVv (pc' := 105) hX dX12_qFact_102 rfl zm_yX12_qCode zw_29_18 zc_164 (by decide) zs_46 (q := (RX12, TX12, 108)) rfl rfl (yc_X12_qCode _ _ s273 hI276 9 ⟨by omega, by omega⟩ (by omega)) rfl rfl (Nat.le_of_ble_eq_true rfl) (by decide) (fun r296 s297 hr298 hp299 => ?_)
                  obtain ⟨hI300, hF301, z302⟩ := hp299
                  have hF303 := zOn_tr hF284 hF301 zi_c2
                  have hT304 := yTq_rk hT278 (yRq_c hF301)
                  have hE305 : yqs f s297 = p285 := (yqs_rk (yRq_c hF301)).trans hE286
                  have b306 := zv_46_2 hI300 zc_164
                  have b307 := zv_46_5 hI300 zc_164
                  have b308 := zv_46_97 hI300 zc_164
                  have b309 := zv_46_99 hI300 zc_164
                  have b310 := zv_46_100 hI300 zc_164
                  have b311 := zv_46_101 hI300 zc_164
                  have b312 := zv_46_51 hI300 zc_164
                  have e313 := hF301 164 2 rfl
                  have e314 := hF301 164 5 rfl
                  have e315 := hF301 164 99 rfl
                  have e316 := hF301 164 100 rfl
                  have e317 := hF301 164 101 rfl
                  have e318 := hF301 164 51 rfl
                  exact zt_vret hX hR dX12_qFact_105 ⟨hI300, hF303, hT304, (by rw [hE305]; exact yFact_e hnn c34 z71 (Or.inr (Or.inl g254)) z279 z280), by omega, (by rw [hE305]; exact yFs_e se86 o89 ad256 o270 z282 hF301 z302), ⟨by omega, by omega, by omega⟩⟩
                · exact absurd c295 (by omega)
              · exact absurd c294 (by omega)
            · refine zt_aload_n (pc' := 54) hX dX12_qFact_53 rfl rfl ?_
              refine zt_iconst (pc' := 55) hX dX12_qFact_54 rfl ?_
              refine zt_aload_n (pc' := 56) hX dX12_qFact_55 rfl rfl ?_
              have b319 := zv_46_2 hI97 zc_164
              refine zt_get (pc' := 59) (v := .int (zI (s94 164 2))) hX dX12_qFact_56 rfl zf_X12_252 (by decide) zc_164 zs_46 rfl ?_
              refine zt_cVv (pc' := 62) hX dX12_qFact_59 rfl zm_yX12_fail zw_26_19 zc_164 (by decide) zs_46 (q := (RX12, TX12, 108)) rfl rfl (yc_X12_fail _ _ s94 hI97 1 ⟨by omega, by omega⟩ (s94 164 2) ⟨by omega, by omega⟩ f (yTq_w hT101)) rfl rfl (Nat.le_of_ble_eq_true rfl) (by decide) (fun r320 s321 hr322 hp323 => ?_)
              obtain ⟨hI324, hF325, hT326, z327, z328⟩ := hp323
              have hE329 : yqs f s321 = yPno 1 (s94 164 2) p77 := by rw [z327, hE105]
              have hF330 := zOn_tr hF106 hF325 zi_12
              have b331 := zv_46_2 hI324 zc_164
              have b332 := zv_46_5 hI324 zc_164
              have b333 := zv_46_97 hI324 zc_164
              have b334 := zv_46_99 hI324 zc_164
              have b335 := zv_46_100 hI324 zc_164
              have b336 := zv_46_101 hI324 zc_164
              have b337 := zv_46_51 hI324 zc_164
              have e338 := hF325 164 97 rfl
              have e339 := hF325 164 99 rfl
              have e340 := hF325 164 100 rfl
              have e341 := hF325 164 101 rfl
              have e342 := hF325 164 51 rfl
              exact zt_vret hX hR dX12_qFact_62 ⟨hI324, hF330, hT326, (by rw [hE329]; exact yFact_f hnn c34 z71 z72 ⟨ysg_n (c := 60) (by rw [hc121]; omega) ⟨by decide, by decide, by decide⟩, ysg_n (c := 61) (by rw [hc121]; omega) ⟨by decide, by decide, by decide⟩, ysg_n (c := 62) (by rw [hc121]; omega) ⟨by decide, by decide, by decide⟩⟩ (by omega)), by omega, (by rw [hE329]; exact ySe_f yPo_no), ⟨by omega, by omega, by omega⟩⟩
      · exact zt_vret hX hR dX12_qFact_29 ⟨hI68, hF76, hT70, (by rw [hE78]; exact yFact_b hnn c34 z71 ((yHb hT70 hE78).2 (by omega))), by omega, (by rw [hE78]; exact ySe_f ((yHb hT70 hE78).2 (by omega))), ⟨by omega, by omega, by omega⟩⟩
    · exact absurd c63 (by omega)
