set_option maxRecDepth 100000 in
set_option maxHeartbeats 4000000 in
theorem yc_X12_qKind (l : Launch) (E : zEN) (σ : zSto) (hI : zInv σ) (f : Int → Int) (hT : yTq f σ) (s0 : yP) (h0 : yqs f σ = s0) (hWd : yWd σ) : zCt l E yX12_qKind cX12_qKind 2 (some .int) 4 zNC zNC 0 0 σ [.ref (E.1 + 164)] (fun r σ' => zInv σ' ∧ zOn zQ1 σ σ' ∧ 0 ≤ r ∧ r ≤ 5 ∧ yTq f σ' ∧ (yKd f s0 (yqs f σ') r)) := by
  refine zCt_of2 [some (.ref (E.1 + 164)), none] (by decide +kernel) (Nat.le_of_ble_eq_true rfl) rfl ?_
  intro X hE_ hX hR hL hN
  subst hE_
  have hX : zok X cX12_qKind RX12 4 := hX
  have hF := zOn_rf zQ1 σ
  have hE0 : yqs f σ = yqs f σ := rfl
  refine zt_aload_n (pc' := 1) hX dX12_qKind_0 rfl rfl ?_
  refine zt_aload_n (pc' := 2) hX dX12_qKind_1 rfl rfl ?_
  refine zt_get (pc' := 5) (v := .ref (X.1.1 + 211)) hX dX12_qKind_2 rfl zf_X12_162 (by decide) zc_164 zs_46 (zrf_of (zv_46_73 hI zc_164)) ?_
  refine zt_cVz (pc' := 8) hX dX12_qKind_5 rfl zm_yX12_takes zw_26_4 zc_164 (by decide) zs_46 (q := (RX12, TX12, 108)) rfl rfl (yc_X12_takes _ _ σ hI 211 93 5 zc_211 (by decide) zs_93 (by decide) f hT 27 (yrow_211 (yWd_3 hWd (zOn_up hF zi_13))) (by decide)) rfl rfl (Nat.le_of_ble_eq_true rfl) (by decide) (fun r1 s2 hr3 hp4 => ?_)
  obtain ⟨hI5, hF6, q7, q8, hT9, z10, z11, z12⟩ := hp4
  have hE13 : yqs f s2 = yPt f 27 s0 := by rw [z10, h0]
  rw [h0] at z11
  rw [h0] at z12
  have hF14 := zOn_tr hF hF6 zi_id
  clear z12
  rcases yspl z11 with ⟨rfl, c15⟩ | ⟨rfl, c15⟩
  · clear z11
    have hE16 : yqs f s2 = yPx f s0 := hE13.trans (if_pos c15)
    refine zt_ifeq (pc' := 11) (tgt := 15) hX dX12_qKind_8 rfl (by decide) ⟨by omega, by omega⟩ (fun c17 => ?_) (fun c17 => ?_)
    · exact absurd c17 (by omega)
    · refine zt_iconst (pc' := 12) hX dX12_qKind_11 rfl ?_
      refine zt_goto (tgt := 76) hX dX12_qKind_12 (by decide) ?_
      refine zt_istore_n (pc' := 77) (lv' := [some (.ref (X.1.1 + 164)), some (.int (zI 0))]) hX dX12_qKind_76 rfl hL (by decide) rfl ?_
      refine zt_iload_n (pc' := 78) hX dX12_qKind_77 rfl rfl ?_
      refine zt_iconst (pc' := 79) hX dX12_qKind_78 rfl ?_
      refine zt_icne (pc' := 82) (tgt := 90) hX dX12_qKind_79 rfl (by decide) ⟨by omega, by omega⟩ ⟨by omega, by omega⟩ (fun c18 => ?_) (fun c18 => ?_)
      · refine zt_iload_n (pc' := 91) hX dX12_qKind_90 rfl rfl ?_
        exact zt_iret hX hR dX12_qKind_91 ⟨by omega, by omega⟩ ⟨hI5, hF14, by omega, by omega, hT9, (Or.inl ⟨by omega, by omega, by omega, hE16⟩)⟩
      · exact absurd c18 (by omega)
  · clear z11
    have hE19 : yqs f s2 = s0 := hE13.trans (if_neg c15)
    refine zt_ifeq (pc' := 11) (tgt := 15) hX dX12_qKind_8 rfl (by decide) ⟨by omega, by omega⟩ (fun c20 => ?_) (fun c20 => ?_)
    · refine zt_aload_n (pc' := 16) hX dX12_qKind_15 rfl rfl ?_
      refine zt_aload_n (pc' := 17) hX dX12_qKind_16 rfl rfl ?_
      refine zt_get (pc' := 20) (v := .ref (X.1.1 + 212)) hX dX12_qKind_17 rfl zf_X12_165 (by decide) zc_164 zs_46 (zrf_of (zv_46_74 hI5 zc_164)) ?_
      refine zt_cVz (pc' := 23) hX dX12_qKind_20 rfl zm_yX12_takes zw_26_4 zc_164 (by decide) zs_46 (q := (RX12, TX12, 108)) rfl rfl (yc_X12_takes _ _ s2 hI5 212 94 4 zc_212 (by decide) zs_94 (by decide) f hT9 28 (yrow_212 (yWd_3 hWd (zOn_up hF14 zi_13))) (by decide)) rfl rfl (Nat.le_of_ble_eq_true rfl) (by decide) (fun r21 s22 hr23 hp24 => ?_)
      obtain ⟨hI25, hF26, q27, q28, hT29, z30, z31, z32⟩ := hp24
      have hE33 : yqs f s22 = yPt f 28 s0 := by rw [z30, hE19]
      rw [hE19] at z31
      rw [hE19] at z32
      have hF34 := zOn_tr hF14 hF26 zi_id
      clear z32
      rcases yspl z31 with ⟨rfl, c35⟩ | ⟨rfl, c35⟩
      · clear z31
        have hE36 : yqs f s22 = yPx f s0 := hE33.trans (if_pos c35)
        refine zt_ifeq (pc' := 26) (tgt := 30) hX dX12_qKind_23 rfl (by decide) ⟨by omega, by omega⟩ (fun c37 => ?_) (fun c37 => ?_)
        · exact absurd c37 (by omega)
        · refine zt_iconst (pc' := 27) hX dX12_qKind_26 rfl ?_
          refine zt_goto (tgt := 76) hX dX12_qKind_27 (by decide) ?_
          refine zt_istore_n (pc' := 77) (lv' := [some (.ref (X.1.1 + 164)), some (.int (zI 1))]) hX dX12_qKind_76 rfl hL (by decide) rfl ?_
          refine zt_iload_n (pc' := 78) hX dX12_qKind_77 rfl rfl ?_
          refine zt_iconst (pc' := 79) hX dX12_qKind_78 rfl ?_
          refine zt_icne (pc' := 82) (tgt := 90) hX dX12_qKind_79 rfl (by decide) ⟨by omega, by omega⟩ ⟨by omega, by omega⟩ (fun c38 => ?_) (fun c38 => ?_)
          · refine zt_iload_n (pc' := 91) hX dX12_qKind_90 rfl rfl ?_
            exact zt_iret hX hR dX12_qKind_91 ⟨by omega, by omega⟩ ⟨hI25, hF34, by omega, by omega, hT29, (Or.inl ⟨by omega, by omega, by omega, hE36⟩)⟩
          · exact absurd c38 (by omega)
      · clear z31
        have hE39 : yqs f s22 = s0 := hE33.trans (if_neg c35)
        refine zt_ifeq (pc' := 26) (tgt := 30) hX dX12_qKind_23 rfl (by decide) ⟨by omega, by omega⟩ (fun c40 => ?_) (fun c40 => ?_)
        · refine zt_aload_n (pc' := 31) hX dX12_qKind_30 rfl rfl ?_
          refine zt_aload_n (pc' := 32) hX dX12_qKind_31 rfl rfl ?_
          refine zt_get (pc' := 35) (v := .ref (X.1.1 + 213)) hX dX12_qKind_32 rfl zf_X12_168 (by decide) zc_164 zs_46 (zrf_of (zv_46_75 hI25 zc_164)) ?_
          refine zt_cVz (pc' := 38) hX dX12_qKind_35 rfl zm_yX12_takes zw_26_4 zc_164 (by decide) zs_46 (q := (RX12, TX12, 108)) rfl rfl (yc_X12_takes _ _ s22 hI25 213 95 5 zc_213 (by decide) zs_95 (by decide) f hT29 29 (yrow_213 (yWd_3 hWd (zOn_up hF34 zi_13))) (by decide)) rfl rfl (Nat.le_of_ble_eq_true rfl) (by decide) (fun r41 s42 hr43 hp44 => ?_)
          obtain ⟨hI45, hF46, q47, q48, hT49, z50, z51, z52⟩ := hp44
          have hE53 : yqs f s42 = yPt f 29 s0 := by rw [z50, hE39]
          rw [hE39] at z51
          rw [hE39] at z52
          have hF54 := zOn_tr hF34 hF46 zi_id
          clear z52
          rcases yspl z51 with ⟨rfl, c55⟩ | ⟨rfl, c55⟩
          · clear z51
            have hE56 : yqs f s42 = yPx f s0 := hE53.trans (if_pos c55)
            refine zt_ifeq (pc' := 41) (tgt := 45) hX dX12_qKind_38 rfl (by decide) ⟨by omega, by omega⟩ (fun c57 => ?_) (fun c57 => ?_)
            · exact absurd c57 (by omega)
            · refine zt_iconst (pc' := 42) hX dX12_qKind_41 rfl ?_
              refine zt_goto (tgt := 76) hX dX12_qKind_42 (by decide) ?_
              refine zt_istore_n (pc' := 77) (lv' := [some (.ref (X.1.1 + 164)), some (.int (zI 2))]) hX dX12_qKind_76 rfl hL (by decide) rfl ?_
              refine zt_iload_n (pc' := 78) hX dX12_qKind_77 rfl rfl ?_
              refine zt_iconst (pc' := 79) hX dX12_qKind_78 rfl ?_
              refine zt_icne (pc' := 82) (tgt := 90) hX dX12_qKind_79 rfl (by decide) ⟨by omega, by omega⟩ ⟨by omega, by omega⟩ (fun c58 => ?_) (fun c58 => ?_)
              · refine zt_iload_n (pc' := 91) hX dX12_qKind_90 rfl rfl ?_
                exact zt_iret hX hR dX12_qKind_91 ⟨by omega, by omega⟩ ⟨hI45, hF54, by omega, by omega, hT49, (Or.inl ⟨by omega, by omega, by omega, hE56⟩)⟩
              · exact absurd c58 (by omega)
          · clear z51
            have hE59 : yqs f s42 = s0 := hE53.trans (if_neg c55)
            refine zt_ifeq (pc' := 41) (tgt := 45) hX dX12_qKind_38 rfl (by decide) ⟨by omega, by omega⟩ (fun c60 => ?_) (fun c60 => ?_)
            · refine zt_aload_n (pc' := 46) hX dX12_qKind_45 rfl rfl ?_
              refine zt_aload_n (pc' := 47) hX dX12_qKind_46 rfl rfl ?_
              refine zt_get (pc' := 50) (v := .ref (X.1.1 + 214)) hX dX12_qKind_47 rfl zf_X12_171 (by decide) zc_164 zs_46 (zrf_of (zv_46_76 hI45 zc_164)) ?_
              refine zt_cVz (pc' := 53) hX dX12_qKind_50 rfl zm_yX12_takes zw_26_4 zc_164 (by decide) zs_46 (q := (RX12, TX12, 108)) rfl rfl (yc_X12_takes _ _ s42 hI45 214 96 5 zc_214 (by decide) zs_96 (by decide) f hT49 30 (yrow_214 (yWd_3 hWd (zOn_up hF54 zi_13))) (by decide)) rfl rfl (Nat.le_of_ble_eq_true rfl) (by decide) (fun r61 s62 hr63 hp64 => ?_)
              obtain ⟨hI65, hF66, q67, q68, hT69, z70, z71, z72⟩ := hp64
              have hE73 : yqs f s62 = yPt f 30 s0 := by rw [z70, hE59]
              rw [hE59] at z71
              rw [hE59] at z72
              have hF74 := zOn_tr hF54 hF66 zi_id
              clear z72
              rcases yspl z71 with ⟨rfl, c75⟩ | ⟨rfl, c75⟩
              · clear z71
                have hE76 : yqs f s62 = yPx f s0 := hE73.trans (if_pos c75)
                refine zt_ifeq (pc' := 56) (tgt := 60) hX dX12_qKind_53 rfl (by decide) ⟨by omega, by omega⟩ (fun c77 => ?_) (fun c77 => ?_)
                · exact absurd c77 (by omega)
                · refine zt_iconst (pc' := 57) hX dX12_qKind_56 rfl ?_
                  refine zt_goto (tgt := 76) hX dX12_qKind_57 (by decide) ?_
                  refine zt_istore_n (pc' := 77) (lv' := [some (.ref (X.1.1 + 164)), some (.int (zI 3))]) hX dX12_qKind_76 rfl hL (by decide) rfl ?_
                  refine zt_iload_n (pc' := 78) hX dX12_qKind_77 rfl rfl ?_
                  refine zt_iconst (pc' := 79) hX dX12_qKind_78 rfl ?_
                  refine zt_icne (pc' := 82) (tgt := 90) hX dX12_qKind_79 rfl (by decide) ⟨by omega, by omega⟩ ⟨by omega, by omega⟩ (fun c78 => ?_) (fun c78 => ?_)
                  · refine zt_iload_n (pc' := 91) hX dX12_qKind_90 rfl rfl ?_
                    exact zt_iret hX hR dX12_qKind_91 ⟨by omega, by omega⟩ ⟨hI65, hF74, by omega, by omega, hT69, (Or.inl ⟨by omega, by omega, by omega, hE76⟩)⟩
                  · exact absurd c78 (by omega)
              · clear z71
                have hE79 : yqs f s62 = s0 := hE73.trans (if_neg c75)
                refine zt_ifeq (pc' := 56) (tgt := 60) hX dX12_qKind_53 rfl (by decide) ⟨by omega, by omega⟩ (fun c80 => ?_) (fun c80 => ?_)
                · refine zt_aload_n (pc' := 61) hX dX12_qKind_60 rfl rfl ?_
                  refine zt_aload_n (pc' := 62) hX dX12_qKind_61 rfl rfl ?_
                  refine zt_get (pc' := 65) (v := .ref (X.1.1 + 215)) hX dX12_qKind_62 rfl zf_X12_174 (by decide) zc_164 zs_46 (zrf_of (zv_46_77 hI65 zc_164)) ?_
                  refine zt_cVz (pc' := 68) hX dX12_qKind_65 rfl zm_yX12_takes zw_26_4 zc_164 (by decide) zs_46 (q := (RX12, TX12, 108)) rfl rfl (yc_X12_takes _ _ s62 hI65 215 97 4 zc_215 (by decide) zs_97 (by decide) f hT69 31 (yrow_215 (yWd_3 hWd (zOn_up hF74 zi_13))) (by decide)) rfl rfl (Nat.le_of_ble_eq_true rfl) (by decide) (fun r81 s82 hr83 hp84 => ?_)
                  obtain ⟨hI85, hF86, q87, q88, hT89, z90, z91, z92⟩ := hp84
                  have hE93 : yqs f s82 = yPt f 31 s0 := by rw [z90, hE79]
                  rw [hE79] at z91
                  rw [hE79] at z92
                  have hF94 := zOn_tr hF74 hF86 zi_id
                  clear z92
                  rcases yspl z91 with ⟨rfl, c95⟩ | ⟨rfl, c95⟩
                  · clear z91
                    have hE96 : yqs f s82 = yPx f s0 := hE93.trans (if_pos c95)
                    refine zt_ifeq (pc' := 71) (tgt := 75) hX dX12_qKind_68 rfl (by decide) ⟨by omega, by omega⟩ (fun c97 => ?_) (fun c97 => ?_)
                    · exact absurd c97 (by omega)
                    · refine zt_iconst (pc' := 72) hX dX12_qKind_71 rfl ?_
                      refine zt_goto (tgt := 76) hX dX12_qKind_72 (by decide) ?_
                      refine zt_istore_n (pc' := 77) (lv' := [some (.ref (X.1.1 + 164)), some (.int (zI 4))]) hX dX12_qKind_76 rfl hL (by decide) rfl ?_
                      refine zt_iload_n (pc' := 78) hX dX12_qKind_77 rfl rfl ?_
                      refine zt_iconst (pc' := 79) hX dX12_qKind_78 rfl ?_
                      refine zt_icne (pc' := 82) (tgt := 90) hX dX12_qKind_79 rfl (by decide) ⟨by omega, by omega⟩ ⟨by omega, by omega⟩ (fun c98 => ?_) (fun c98 => ?_)
                      · refine zt_iload_n (pc' := 91) hX dX12_qKind_90 rfl rfl ?_
                        exact zt_iret hX hR dX12_qKind_91 ⟨by omega, by omega⟩ ⟨hI85, hF94, by omega, by omega, hT89, (Or.inl ⟨by omega, by omega, by omega, hE96⟩)⟩
                      · exact absurd c98 (by omega)
                  · clear z91
                    have hE99 : yqs f s82 = s0 := hE93.trans (if_neg c95)
                    refine zt_ifeq (pc' := 71) (tgt := 75) hX dX12_qKind_68 rfl (by decide) ⟨by omega, by omega⟩ (fun c100 => ?_) (fun c100 => ?_)
                    · refine zt_iconst (pc' := 76) hX dX12_qKind_75 rfl ?_
                      refine zt_istore_n (pc' := 77) (lv' := [some (.ref (X.1.1 + 164)), some (.int (zI 5))]) hX dX12_qKind_76 rfl hL (by decide) rfl ?_
                      refine zt_iload_n (pc' := 78) hX dX12_qKind_77 rfl rfl ?_
                      refine zt_iconst (pc' := 79) hX dX12_qKind_78 rfl ?_
                      refine zt_icne (pc' := 82) (tgt := 90) hX dX12_qKind_79 rfl (by decide) ⟨by omega, by omega⟩ ⟨by omega, by omega⟩ (fun c101 => ?_) (fun c101 => ?_)
                      · exact absurd c101 (by omega)
                      · refine zt_aload_n (pc' := 83) hX dX12_qKind_82 rfl rfl ?_
                        refine zt_aload_n (pc' := 84) hX dX12_qKind_83 rfl rfl ?_
                        refine zt_get (pc' := 87) (v := .ref (X.1.1 + 216)) hX dX12_qKind_84 rfl zf_X12_177 (by decide) zc_164 zs_46 (zrf_of (zv_46_78 hI85 zc_164)) ?_
                        refine zt_cVv (pc' := 90) hX dX12_qKind_87 rfl zm_yX12_asks zw_26_0 zc_164 (by decide) zs_46 (q := (RX12, TX12, 108)) rfl rfl (yc_X12_asks _ _ s82 hI85 216 98 5 zc_216 (by decide) zs_98 (by decide) f hT89 32 (yrow_216 (yWd_3 hWd (zOn_up hF94 zi_13))) (by decide)) rfl rfl (Nat.le_of_ble_eq_true rfl) (by decide) (fun r102 s103 hr104 hp105 => ?_)
                        obtain ⟨hI106, hF107, hT108, z109⟩ := hp105
                        have hE110 : yqs f s103 = yPw f 32 s0 := by rw [z109, hE99]
                        have hF111 := zOn_tr hF94 hF107 zi_id
                        refine zt_iload_n (pc' := 91) hX dX12_qKind_90 rfl rfl ?_
                        exact zt_iret hX hR dX12_qKind_91 ⟨by omega, by omega⟩ ⟨hI106, hF111, by omega, by omega, hT108, (Or.inr ⟨rfl, by omega, hE110⟩)⟩
                    · exact absurd c100 (by omega)
                · exact absurd c80 (by omega)
            · exact absurd c60 (by omega)
        · exact absurd c40 (by omega)
    · exact absurd c20 (by omega)
set_option maxRecDepth 100000 in
set_option maxHeartbeats 4000000 in
theorem yc_X12_ask (l : Launch) (E : zEN) (σ : zSto) (hI : zInv σ) (hWd : yWd σ) (hW : zWF σ) : zCt l E yX12_ask cX12_ask 3 (some .long) 9 zNC zNC 0 0 σ [.ref (E.1 + 164)] (fun r σ' => zInv σ' ∧ zOn zQk σ σ' ∧ -9223372036854775808 ≤ r ∧ r ≤ 9223372036854775807 ∧ (σ 164 50 = 1 → yFl (yQst (yW σ)) (σ' 164 7) (σ' 164 8)) ∧ (σ 164 50 = 0 → σ' 164 7 = σ 164 7 ∧ σ' 164 8 = σ 164 8)) := by
  refine zCt_of2 [some (.ref (E.1 + 164)), none, none] (by decide +kernel) (Nat.le_of_ble_eq_true rfl) rfl ?_
  intro X hE_ hX hR hL hN
  subst hE_
  have hX : zok X cX12_ask RX12 9 := hX
  have hF := zOn_rf zQk σ
  obtain ⟨f, hf⟩ : ∃ f, f = yW σ := ⟨_, rfl⟩
  have b1 := zv_46_1 hI zc_164
  have b2 := zv_46_2 hI zc_164
  have b3 := zv_46_3 hI zc_164
  have b4 := zv_46_4 hI zc_164
  have b5 := zv_46_5 hI zc_164
  have b6 := zv_46_6 hI zc_164
  have b7 := zv_46_7 hI zc_164
  have b8 := zv_46_8 hI zc_164
  have b9 := zv_46_50 hI zc_164
  have b10 := zv_46_51 hI zc_164
  have b11 := zv_46_97 hI zc_164
  have b12 := zv_46_99 hI zc_164
  have b13 := zv_46_100 hI zc_164
  have b14 := zv_46_101 hI zc_164
  refine zt_aload_n (pc' := 1) hX dX12_ask_0 rfl rfl ?_
  have b15 := zv_46_50 hI zc_164
  refine zt_get (pc' := 4) (v := .int (zI (σ 164 50))) hX dX12_ask_1 rfl zf_X12_375 (by decide) zc_164 zs_46 rfl ?_
  refine zt_ifne (pc' := 7) (tgt := 16) hX dX12_ask_4 rfl (by decide) ⟨by omega, by omega⟩ (fun c16 => ?_) (fun c16 => ?_)
  · refine zt_aload_n (pc' := 17) hX dX12_ask_16 rfl rfl ?_
    refine zt_aload_n (pc' := 18) hX dX12_ask_17 rfl rfl ?_
    have b17 := zv_46_1 hI zc_164
    refine zt_get (pc' := 21) (v := .int (zI (σ 164 1))) hX dX12_ask_18 rfl zf_X12_243 (by decide) zc_164 zs_46 rfl ?_
    refine zt_put (pc' := 24) (x := (σ 164 1)) hX dX12_ask_21 rfl zf_X12_255 (by decide) zc_164 zs_46 (fun q hq => by cases hq; rfl) rfl rfl rfl ?_
    generalize hs19 : zset σ 164 3 (σ 164 1) = s18
    have hI20 : zInv s18 := hs19 ▸ zp_46_3 hI zc_164 ⟨by omega, by omega⟩
    have hF21 : zOn zQk σ s18 := hs19 ▸ zOn_set hF (by decide)
    have e22 : s18 164 1 = σ 164 1 := by rw [← hs19]; exact zset_j (by decide)
    have e23 : s18 164 2 = σ 164 2 := by rw [← hs19]; exact zset_j (by decide)
    have e24 : s18 164 3 = (σ 164 1) := by rw [← hs19]; exact zset_s
    have e25 : s18 164 4 = σ 164 4 := by rw [← hs19]; exact zset_j (by decide)
    have e26 : s18 164 5 = σ 164 5 := by rw [← hs19]; exact zset_j (by decide)
    have e27 : s18 164 6 = σ 164 6 := by rw [← hs19]; exact zset_j (by decide)
    have e28 : s18 164 7 = σ 164 7 := by rw [← hs19]; exact zset_j (by decide)
    have e29 : s18 164 8 = σ 164 8 := by rw [← hs19]; exact zset_j (by decide)
    have e30 : s18 164 50 = σ 164 50 := by rw [← hs19]; exact zset_j (by decide)
    have e31 : s18 164 51 = σ 164 51 := by rw [← hs19]; exact zset_j (by decide)
    have e32 : s18 164 97 = σ 164 97 := by rw [← hs19]; exact zset_j (by decide)
    have e33 : s18 164 99 = σ 164 99 := by rw [← hs19]; exact zset_j (by decide)
    have e34 : s18 164 100 = σ 164 100 := by rw [← hs19]; exact zset_j (by decide)
    have e35 : s18 164 101 = σ 164 101 := by rw [← hs19]; exact zset_j (by decide)
    refine zt_aload_n (pc' := 25) hX dX12_ask_24 rfl rfl ?_
    refine zt_iconst (pc' := 26) hX dX12_ask_25 rfl ?_
    refine zt_put (pc' := 29) (x := 0) hX dX12_ask_26 rfl zf_X12_243 (by decide) zc_164 zs_46 (fun q hq => by cases hq; rfl) rfl rfl rfl ?_
    generalize hs37 : zset s18 164 1 0 = s36
    have hI38 : zInv s36 := hs37 ▸ zp_46_1 hI20 zc_164 ⟨by omega, by omega⟩
    have hF39 : zOn zQk σ s36 := hs37 ▸ zOn_set hF21 (by decide)
    have e40 : s36 164 1 = 0 := by rw [← hs37]; exact zset_s
    have e41 : s36 164 2 = s18 164 2 := by rw [← hs37]; exact zset_j (by decide)
    have e42 : s36 164 3 = s18 164 3 := by rw [← hs37]; exact zset_j (by decide)
    have e43 : s36 164 4 = s18 164 4 := by rw [← hs37]; exact zset_j (by decide)
    have e44 : s36 164 5 = s18 164 5 := by rw [← hs37]; exact zset_j (by decide)
    have e45 : s36 164 6 = s18 164 6 := by rw [← hs37]; exact zset_j (by decide)
    have e46 : s36 164 7 = s18 164 7 := by rw [← hs37]; exact zset_j (by decide)
    have e47 : s36 164 8 = s18 164 8 := by rw [← hs37]; exact zset_j (by decide)
    have e48 : s36 164 50 = s18 164 50 := by rw [← hs37]; exact zset_j (by decide)
    have e49 : s36 164 51 = s18 164 51 := by rw [← hs37]; exact zset_j (by decide)
    have e50 : s36 164 97 = s18 164 97 := by rw [← hs37]; exact zset_j (by decide)
    have e51 : s36 164 99 = s18 164 99 := by rw [← hs37]; exact zset_j (by decide)
    have e52 : s36 164 100 = s18 164 100 := by rw [← hs37]; exact zset_j (by decide)
    have e53 : s36 164 101 = s18 164 101 := by rw [← hs37]; exact zset_j (by decide)
    refine zt_aload_n (pc' := 30) hX dX12_ask_29 rfl rfl ?_
    refine zt_iconst (pc' := 31) hX dX12_ask_30 rfl ?_
    refine zt_put (pc' := 34) (x := 0) hX dX12_ask_31 rfl zf_X12_252 (by decide) zc_164 zs_46 (fun q hq => by cases hq; rfl) rfl rfl rfl ?_
    generalize hs55 : zset s36 164 2 0 = s54
    have hI56 : zInv s54 := hs55 ▸ zp_46_2 hI38 zc_164 ⟨by omega, by omega⟩
    have hF57 : zOn zQk σ s54 := hs55 ▸ zOn_set hF39 (by decide)
    have e58 : s54 164 1 = s36 164 1 := by rw [← hs55]; exact zset_j (by decide)
    have e59 : s54 164 2 = 0 := by rw [← hs55]; exact zset_s
    have e60 : s54 164 3 = s36 164 3 := by rw [← hs55]; exact zset_j (by decide)
    have e61 : s54 164 4 = s36 164 4 := by rw [← hs55]; exact zset_j (by decide)
    have e62 : s54 164 5 = s36 164 5 := by rw [← hs55]; exact zset_j (by decide)
    have e63 : s54 164 6 = s36 164 6 := by rw [← hs55]; exact zset_j (by decide)
    have e64 : s54 164 7 = s36 164 7 := by rw [← hs55]; exact zset_j (by decide)
    have e65 : s54 164 8 = s36 164 8 := by rw [← hs55]; exact zset_j (by decide)
    have e66 : s54 164 50 = s36 164 50 := by rw [← hs55]; exact zset_j (by decide)
    have e67 : s54 164 51 = s36 164 51 := by rw [← hs55]; exact zset_j (by decide)
    have e68 : s54 164 97 = s36 164 97 := by rw [← hs55]; exact zset_j (by decide)
    have e69 : s54 164 99 = s36 164 99 := by rw [← hs55]; exact zset_j (by decide)
    have e70 : s54 164 100 = s36 164 100 := by rw [← hs55]; exact zset_j (by decide)
    have e71 : s54 164 101 = s36 164 101 := by rw [← hs55]; exact zset_j (by decide)
    refine zt_aload_n (pc' := 35) hX dX12_ask_34 rfl rfl ?_
    refine zt_iconst (pc' := 36) hX dX12_ask_35 rfl ?_
    refine zt_put (pc' := 39) (x := (-1)) hX dX12_ask_36 rfl zf_X12_266 (by decide) zc_164 zs_46 (fun q hq => by cases hq; rfl) rfl rfl rfl ?_
    generalize hs73 : zset s54 164 4 (-1) = s72
    have hI74 : zInv s72 := hs73 ▸ zp_46_4 hI56 zc_164 ⟨by omega, by omega⟩
    have hF75 : zOn zQk σ s72 := hs73 ▸ zOn_set hF57 (by decide)
    have e76 : s72 164 1 = s54 164 1 := by rw [← hs73]; exact zset_j (by decide)
    have e77 : s72 164 2 = s54 164 2 := by rw [← hs73]; exact zset_j (by decide)
    have e78 : s72 164 3 = s54 164 3 := by rw [← hs73]; exact zset_j (by decide)
    have e79 : s72 164 4 = (-1) := by rw [← hs73]; exact zset_s
    have e80 : s72 164 5 = s54 164 5 := by rw [← hs73]; exact zset_j (by decide)
    have e81 : s72 164 6 = s54 164 6 := by rw [← hs73]; exact zset_j (by decide)
    have e82 : s72 164 7 = s54 164 7 := by rw [← hs73]; exact zset_j (by decide)
    have e83 : s72 164 8 = s54 164 8 := by rw [← hs73]; exact zset_j (by decide)
    have e84 : s72 164 50 = s54 164 50 := by rw [← hs73]; exact zset_j (by decide)
    have e85 : s72 164 51 = s54 164 51 := by rw [← hs73]; exact zset_j (by decide)
    have e86 : s72 164 97 = s54 164 97 := by rw [← hs73]; exact zset_j (by decide)
    have e87 : s72 164 99 = s54 164 99 := by rw [← hs73]; exact zset_j (by decide)
    have e88 : s72 164 100 = s54 164 100 := by rw [← hs73]; exact zset_j (by decide)
    have e89 : s72 164 101 = s54 164 101 := by rw [← hs73]; exact zset_j (by decide)
    refine zt_aload_n (pc' := 40) hX dX12_ask_39 rfl rfl ?_
    refine zt_iconst (pc' := 41) hX dX12_ask_40 rfl ?_
    refine zt_put (pc' := 44) (x := 0) hX dX12_ask_41 rfl zf_X12_246 (by decide) zc_164 zs_46 (fun q hq => by cases hq; rfl) rfl rfl rfl ?_
    generalize hs91 : zset s72 164 5 0 = s90
    have hI92 : zInv s90 := hs91 ▸ zp_46_5 hI74 zc_164 ⟨by omega, by omega⟩
    have hF93 : zOn zQk σ s90 := hs91 ▸ zOn_set hF75 (by decide)
    have e94 : s90 164 1 = s72 164 1 := by rw [← hs91]; exact zset_j (by decide)
    have e95 : s90 164 2 = s72 164 2 := by rw [← hs91]; exact zset_j (by decide)
    have e96 : s90 164 3 = s72 164 3 := by rw [← hs91]; exact zset_j (by decide)
    have e97 : s90 164 4 = s72 164 4 := by rw [← hs91]; exact zset_j (by decide)
    have e98 : s90 164 5 = 0 := by rw [← hs91]; exact zset_s
    have e99 : s90 164 6 = s72 164 6 := by rw [← hs91]; exact zset_j (by decide)
    have e100 : s90 164 7 = s72 164 7 := by rw [← hs91]; exact zset_j (by decide)
    have e101 : s90 164 8 = s72 164 8 := by rw [← hs91]; exact zset_j (by decide)
    have e102 : s90 164 50 = s72 164 50 := by rw [← hs91]; exact zset_j (by decide)
    have e103 : s90 164 51 = s72 164 51 := by rw [← hs91]; exact zset_j (by decide)
    have e104 : s90 164 97 = s72 164 97 := by rw [← hs91]; exact zset_j (by decide)
    have e105 : s90 164 99 = s72 164 99 := by rw [← hs91]; exact zset_j (by decide)
    have e106 : s90 164 100 = s72 164 100 := by rw [← hs91]; exact zset_j (by decide)
    have e107 : s90 164 101 = s72 164 101 := by rw [← hs91]; exact zset_j (by decide)
    refine zt_aload_n (pc' := 45) hX dX12_ask_44 rfl rfl ?_
    refine zt_iconst (pc' := 46) hX dX12_ask_45 rfl ?_
    refine zt_put (pc' := 49) (x := (-1)) hX dX12_ask_46 rfl zf_X12_249 (by decide) zc_164 zs_46 (fun q hq => by cases hq; rfl) rfl rfl rfl ?_
    generalize hs109 : zset s90 164 6 (-1) = s108
    have hI110 : zInv s108 := hs109 ▸ zp_46_6 hI92 zc_164 ⟨by omega, by omega⟩
    have hF111 : zOn zQk σ s108 := hs109 ▸ zOn_set hF93 (by decide)
    have e112 : s108 164 1 = s90 164 1 := by rw [← hs109]; exact zset_j (by decide)
    have e113 : s108 164 2 = s90 164 2 := by rw [← hs109]; exact zset_j (by decide)
    have e114 : s108 164 3 = s90 164 3 := by rw [← hs109]; exact zset_j (by decide)
    have e115 : s108 164 4 = s90 164 4 := by rw [← hs109]; exact zset_j (by decide)
    have e116 : s108 164 5 = s90 164 5 := by rw [← hs109]; exact zset_j (by decide)
    have e117 : s108 164 6 = (-1) := by rw [← hs109]; exact zset_s
    have e118 : s108 164 7 = s90 164 7 := by rw [← hs109]; exact zset_j (by decide)
    have e119 : s108 164 8 = s90 164 8 := by rw [← hs109]; exact zset_j (by decide)
    have e120 : s108 164 50 = s90 164 50 := by rw [← hs109]; exact zset_j (by decide)
    have e121 : s108 164 51 = s90 164 51 := by rw [← hs109]; exact zset_j (by decide)
    have e122 : s108 164 97 = s90 164 97 := by rw [← hs109]; exact zset_j (by decide)
    have e123 : s108 164 99 = s90 164 99 := by rw [← hs109]; exact zset_j (by decide)
    have e124 : s108 164 100 = s90 164 100 := by rw [← hs109]; exact zset_j (by decide)
    have e125 : s108 164 101 = s90 164 101 := by rw [← hs109]; exact zset_j (by decide)
    refine zt_aload_n (pc' := 50) hX dX12_ask_49 rfl rfl ?_
    refine zt_iconst (pc' := 51) hX dX12_ask_50 rfl ?_
    refine zt_put (pc' := 54) (x := 2) hX dX12_ask_51 rfl zf_X12_304 (by decide) zc_164 zs_46 (fun q hq => by cases hq; rfl) rfl rfl rfl ?_
    generalize hs127 : zset s108 164 51 2 = s126
    have hI128 : zInv s126 := hs127 ▸ zp_46_51 hI110 zc_164 ⟨by omega, by omega⟩
    have hF129 : zOn zQk σ s126 := hs127 ▸ zOn_set hF111 (by decide)
    have e130 : s126 164 1 = s108 164 1 := by rw [← hs127]; exact zset_j (by decide)
    have e131 : s126 164 2 = s108 164 2 := by rw [← hs127]; exact zset_j (by decide)
    have e132 : s126 164 3 = s108 164 3 := by rw [← hs127]; exact zset_j (by decide)
    have e133 : s126 164 4 = s108 164 4 := by rw [← hs127]; exact zset_j (by decide)
    have e134 : s126 164 5 = s108 164 5 := by rw [← hs127]; exact zset_j (by decide)
    have e135 : s126 164 6 = s108 164 6 := by rw [← hs127]; exact zset_j (by decide)
    have e136 : s126 164 7 = s108 164 7 := by rw [← hs127]; exact zset_j (by decide)
    have e137 : s126 164 8 = s108 164 8 := by rw [← hs127]; exact zset_j (by decide)
    have e138 : s126 164 50 = s108 164 50 := by rw [← hs127]; exact zset_j (by decide)
    have e139 : s126 164 51 = 2 := by rw [← hs127]; exact zset_s
    have e140 : s126 164 97 = s108 164 97 := by rw [← hs127]; exact zset_j (by decide)
    have e141 : s126 164 99 = s108 164 99 := by rw [← hs127]; exact zset_j (by decide)
    have e142 : s126 164 100 = s108 164 100 := by rw [← hs127]; exact zset_j (by decide)
    have e143 : s126 164 101 = s108 164 101 := by rw [← hs127]; exact zset_j (by decide)
    refine zt_aload_n (pc' := 55) hX dX12_ask_54 rfl rfl ?_
    refine zt_iconst (pc' := 56) hX dX12_ask_55 rfl ?_
    refine zt_put (pc' := 59) (x := 0) hX dX12_ask_56 rfl zf_X12_330 (by decide) zc_164 zs_46 (fun q hq => by cases hq; rfl) rfl rfl rfl ?_
    generalize hs145 : zset s126 164 97 0 = s144
    have hI146 : zInv s144 := hs145 ▸ zp_46_97 hI128 zc_164 ⟨by omega, by omega⟩
    have hF147 : zOn zQk σ s144 := hs145 ▸ zOn_set hF129 (by decide)
    have e148 : s144 164 1 = s126 164 1 := by rw [← hs145]; exact zset_j (by decide)
    have e149 : s144 164 2 = s126 164 2 := by rw [← hs145]; exact zset_j (by decide)
    have e150 : s144 164 3 = s126 164 3 := by rw [← hs145]; exact zset_j (by decide)
    have e151 : s144 164 4 = s126 164 4 := by rw [← hs145]; exact zset_j (by decide)
    have e152 : s144 164 5 = s126 164 5 := by rw [← hs145]; exact zset_j (by decide)
    have e153 : s144 164 6 = s126 164 6 := by rw [← hs145]; exact zset_j (by decide)
    have e154 : s144 164 7 = s126 164 7 := by rw [← hs145]; exact zset_j (by decide)
    have e155 : s144 164 8 = s126 164 8 := by rw [← hs145]; exact zset_j (by decide)
    have e156 : s144 164 50 = s126 164 50 := by rw [← hs145]; exact zset_j (by decide)
    have e157 : s144 164 51 = s126 164 51 := by rw [← hs145]; exact zset_j (by decide)
    have e158 : s144 164 97 = 0 := by rw [← hs145]; exact zset_s
    have e159 : s144 164 99 = s126 164 99 := by rw [← hs145]; exact zset_j (by decide)
    have e160 : s144 164 100 = s126 164 100 := by rw [← hs145]; exact zset_j (by decide)
    have e161 : s144 164 101 = s126 164 101 := by rw [← hs145]; exact zset_j (by decide)
    refine zt_aload_n (pc' := 60) hX dX12_ask_59 rfl rfl ?_
    refine zt_iconst (pc' := 61) hX dX12_ask_60 rfl ?_
    refine zt_put (pc' := 64) (x := 0) hX dX12_ask_61 rfl zf_X12_333 (by decide) zc_164 zs_46 (fun q hq => by cases hq; rfl) rfl rfl rfl ?_
    generalize hs163 : zset s144 164 99 0 = s162
    have hI164 : zInv s162 := hs163 ▸ zp_46_99 hI146 zc_164 ⟨by omega, by omega⟩
    have hF165 : zOn zQk σ s162 := hs163 ▸ zOn_set hF147 (by decide)
    have e166 : s162 164 1 = s144 164 1 := by rw [← hs163]; exact zset_j (by decide)
    have e167 : s162 164 2 = s144 164 2 := by rw [← hs163]; exact zset_j (by decide)
    have e168 : s162 164 3 = s144 164 3 := by rw [← hs163]; exact zset_j (by decide)
    have e169 : s162 164 4 = s144 164 4 := by rw [← hs163]; exact zset_j (by decide)
    have e170 : s162 164 5 = s144 164 5 := by rw [← hs163]; exact zset_j (by decide)
    have e171 : s162 164 6 = s144 164 6 := by rw [← hs163]; exact zset_j (by decide)
    have e172 : s162 164 7 = s144 164 7 := by rw [← hs163]; exact zset_j (by decide)
    have e173 : s162 164 8 = s144 164 8 := by rw [← hs163]; exact zset_j (by decide)
    have e174 : s162 164 50 = s144 164 50 := by rw [← hs163]; exact zset_j (by decide)
    have e175 : s162 164 51 = s144 164 51 := by rw [← hs163]; exact zset_j (by decide)
    have e176 : s162 164 97 = s144 164 97 := by rw [← hs163]; exact zset_j (by decide)
    have e177 : s162 164 99 = 0 := by rw [← hs163]; exact zset_s
    have e178 : s162 164 100 = s144 164 100 := by rw [← hs163]; exact zset_j (by decide)
    have e179 : s162 164 101 = s144 164 101 := by rw [← hs163]; exact zset_j (by decide)
    refine zt_aload_n (pc' := 65) hX dX12_ask_64 rfl rfl ?_
    refine zt_iconst (pc' := 66) hX dX12_ask_65 rfl ?_
    refine zt_put (pc' := 69) (x := 0) hX dX12_ask_66 rfl zf_X12_336 (by decide) zc_164 zs_46 (fun q hq => by cases hq; rfl) rfl rfl rfl ?_
    generalize hs181 : zset s162 164 100 0 = s180
    have hI182 : zInv s180 := hs181 ▸ zp_46_100 hI164 zc_164 ⟨by omega, by omega⟩
    have hF183 : zOn zQk σ s180 := hs181 ▸ zOn_set hF165 (by decide)
    have e184 : s180 164 1 = s162 164 1 := by rw [← hs181]; exact zset_j (by decide)
    have e185 : s180 164 2 = s162 164 2 := by rw [← hs181]; exact zset_j (by decide)
    have e186 : s180 164 3 = s162 164 3 := by rw [← hs181]; exact zset_j (by decide)
    have e187 : s180 164 4 = s162 164 4 := by rw [← hs181]; exact zset_j (by decide)
    have e188 : s180 164 5 = s162 164 5 := by rw [← hs181]; exact zset_j (by decide)
    have e189 : s180 164 6 = s162 164 6 := by rw [← hs181]; exact zset_j (by decide)
    have e190 : s180 164 7 = s162 164 7 := by rw [← hs181]; exact zset_j (by decide)
    have e191 : s180 164 8 = s162 164 8 := by rw [← hs181]; exact zset_j (by decide)
    have e192 : s180 164 50 = s162 164 50 := by rw [← hs181]; exact zset_j (by decide)
    have e193 : s180 164 51 = s162 164 51 := by rw [← hs181]; exact zset_j (by decide)
    have e194 : s180 164 97 = s162 164 97 := by rw [← hs181]; exact zset_j (by decide)
    have e195 : s180 164 99 = s162 164 99 := by rw [← hs181]; exact zset_j (by decide)
    have e196 : s180 164 100 = 0 := by rw [← hs181]; exact zset_s
    have e197 : s180 164 101 = s162 164 101 := by rw [← hs181]; exact zset_j (by decide)
    refine zt_aload_n (pc' := 70) hX dX12_ask_69 rfl rfl ?_
    refine zt_iconst (pc' := 71) hX dX12_ask_70 rfl ?_
    refine zt_put (pc' := 74) (x := 0) hX dX12_ask_71 rfl zf_X12_339 (by decide) zc_164 zs_46 (fun q hq => by cases hq; rfl) rfl rfl rfl ?_
    generalize hs199 : zset s180 164 101 0 = s198
    have hI200 : zInv s198 := hs199 ▸ zp_46_101 hI182 zc_164 ⟨by omega, by omega⟩
    have hF201 : zOn zQk σ s198 := hs199 ▸ zOn_set hF183 (by decide)
    have e202 : s198 164 1 = s180 164 1 := by rw [← hs199]; exact zset_j (by decide)
    have e203 : s198 164 2 = s180 164 2 := by rw [← hs199]; exact zset_j (by decide)
    have e204 : s198 164 3 = s180 164 3 := by rw [← hs199]; exact zset_j (by decide)
    have e205 : s198 164 4 = s180 164 4 := by rw [← hs199]; exact zset_j (by decide)
    have e206 : s198 164 5 = s180 164 5 := by rw [← hs199]; exact zset_j (by decide)
    have e207 : s198 164 6 = s180 164 6 := by rw [← hs199]; exact zset_j (by decide)
    have e208 : s198 164 7 = s180 164 7 := by rw [← hs199]; exact zset_j (by decide)
    have e209 : s198 164 8 = s180 164 8 := by rw [← hs199]; exact zset_j (by decide)
    have e210 : s198 164 50 = s180 164 50 := by rw [← hs199]; exact zset_j (by decide)
    have e211 : s198 164 51 = s180 164 51 := by rw [← hs199]; exact zset_j (by decide)
    have e212 : s198 164 97 = s180 164 97 := by rw [← hs199]; exact zset_j (by decide)
    have e213 : s198 164 99 = s180 164 99 := by rw [← hs199]; exact zset_j (by decide)
    have e214 : s198 164 100 = s180 164 100 := by rw [← hs199]; exact zset_j (by decide)
    have e215 : s198 164 101 = 0 := by rw [← hs199]; exact zset_s
    have hQ := yQ0 (σ := σ) (s := s198) hI (by omega) (by omega) (by omega) (by omega) (by omega) (fun j => congrFun ((zOn_g hF201).1 165 (by decide)) j)
    rw [← hf] at hQ
    have w216 := zt_0 (s := s198) (by omega) (by omega)
    have t217 : s198 164 1 = 0 := by omega
    have t218 : s198 164 2 = 0 := by omega
    have t219 : s198 164 3 = σ 164 1 := by omega
    have t220 : s198 164 5 = 0 := by omega
    have t221 : s198 164 7 = σ 164 7 := by omega
    have t222 : s198 164 8 = σ 164 8 := by omega
    have t223 : s198 164 51 = 2 := by omega
    have t224 : s198 164 97 = 0 := by omega
    have t225 : s198 164 99 = 0 := by omega
    have t226 : s198 164 100 = 0 := by omega
    have t227 : s198 164 101 = 0 := by omega
    clear e22 e23 e24 e25 e26 e27 e28 e29 e30 e31 e32 e33 e34 e35 e40 e41 e42 e43 e44 e45 e46 e47 e48 e49 e50 e51 e52 e53 e58 e59 e60 e61 e62 e63 e64 e65 e66 e67 e68 e69 e70 e71 e76 e77 e78 e79 e80 e81 e82 e83 e84 e85 e86 e87 e88 e89 e94 e95 e96 e97 e98 e99 e100 e101 e102 e103 e104 e105 e106 e107 e112 e113 e114 e115 e116 e117 e118 e119 e120 e121 e122 e123 e124 e125 e130 e131 e132 e133 e134 e135 e136 e137 e138 e139 e140 e141 e142 e143 e148 e149 e150 e151 e152 e153 e154 e155 e156 e157 e158 e159 e160 e161 e166 e167 e168 e169 e170 e171 e172 e173 e174 e175 e176 e177 e178 e179 e184 e185 e186 e187 e188 e189 e190 e191 e192 e193 e194 e195 e196 e197 e202 e203 e204 e205 e206 e207 e208 e209 e210 e211 e212 e213 e214 e215
    refine zt_aload_n (pc' := 75) hX dX12_ask_74 rfl rfl ?_
    refine zt_cVi (pc' := 78) hX dX12_ask_75 rfl zm_yX12_qKind zw_66_18 zc_164 (by decide) zs_46 (q := (RX12, TX12, 108)) rfl rfl (yc_X12_qKind _ _ s198 hI200 f hQ.1 (yP.ok (yS f 0)) hQ.2 (yWd_g hWd hF201)) rfl rfl (Nat.le_of_ble_eq_true rfl) (by decide) (fun r228 s229 hr230 hp231 => ?_)
    obtain ⟨hI232, hF233, q234, q235, hT236, z237⟩ := hp231
    have hF238 := zOn_tr hF201 (zGN_k (zOn_GN (zOn_up hF233 zi_13))) zi_id
    obtain ⟨p239, hE240⟩ : ∃ p, yqs f s229 = p := ⟨_, rfl⟩
    rw [hE240] at z237
    have b241 := zv_46_1 hI232 zc_164
    have b242 := zv_46_2 hI232 zc_164
    have b243 := zv_46_3 hI232 zc_164
    have b244 := zv_46_4 hI232 zc_164
    have b245 := zv_46_5 hI232 zc_164
    have b246 := zv_46_6 hI232 zc_164
    have b247 := zv_46_7 hI232 zc_164
    have b248 := zv_46_8 hI232 zc_164
    have b249 := zv_46_50 hI232 zc_164
    have b250 := zv_46_51 hI232 zc_164
    have b251 := zv_46_97 hI232 zc_164
    have b252 := zv_46_99 hI232 zc_164
    have b253 := zv_46_100 hI232 zc_164
    have b254 := zv_46_101 hI232 zc_164
    have e255 := hF233 164 1 rfl
    have e256 := hF233 164 3 rfl
    have e257 := hF233 164 7 rfl
    have e258 := hF233 164 8 rfl
    have e259 := hF233 164 50 rfl
    have e260 := hF233 164 51 rfl
    have e261 := hF233 164 97 rfl
    have e262 := hF233 164 99 rfl
    have e263 := hF233 164 100 rfl
    have e264 := hF233 164 101 rfl
    obtain ⟨-, w265, w266, w267, -, -, -, -⟩ := zE_q1 hF233
    refine zt_istore_n (pc' := 79) (lv' := [some (.ref (X.1.1 + 164)), some (.int (zI r228)), none]) hX dX12_ask_78 rfl hL (by decide) rfl ?_
    rcases yKd_c z237 with ⟨k268, k269, k270, k271⟩ | ⟨k270, k269, k271⟩
    · have hE272 := hE240.trans k271
      have u273 := yHb1 hE272 (yPo_px.trans rfl)
      refine zt_aload_n (pc' := 80) hX dX12_ask_79 rfl rfl ?_
      have b274 := zv_46_5 hI232 zc_164
      refine zt_get (pc' := 83) (v := .int (zI (s229 164 5))) hX dX12_ask_80 rfl zf_X12_246 (by decide) zc_164 zs_46 rfl ?_
      refine zt_ifne (pc' := 86) (tgt := 98) hX dX12_ask_83 rfl (by decide) ⟨by omega, by omega⟩ (fun c275 => ?_) (fun c275 => ?_)
      · exact absurd c275 (by omega)
      · refine zt_iload_n (pc' := 87) hX dX12_ask_86 rfl rfl ?_
        refine zt_iconst (pc' := 88) hX dX12_ask_87 rfl ?_
        refine zt_icge (pc' := 91) (tgt := 98) hX dX12_ask_88 rfl (by decide) ⟨by omega, by omega⟩ ⟨by omega, by omega⟩ (fun c276 => ?_) (fun c276 => ?_)
        · refine zt_aload_n (pc' := 99) hX dX12_ask_98 rfl rfl ?_
          refine zt_get (pc' := 102) (v := .int (zI (s229 164 5))) hX dX12_ask_99 rfl zf_X12_246 (by decide) zc_164 zs_46 rfl ?_
          refine zt_ifne (pc' := 105) (tgt := 109) hX dX12_ask_102 rfl (by decide) ⟨by omega, by omega⟩ (fun c277 => ?_) (fun c277 => ?_)
          · exact absurd c277 (by omega)
          · refine zt_aload_n (pc' := 106) hX dX12_ask_105 rfl rfl ?_
            refine zt_cVv (pc' := 109) hX dX12_ask_106 rfl zm_yX12_qSums zw_29_22 zc_164 (by decide) zs_46 (q := (RX12, TX12, 108)) rfl rfl (ye_X12_qSums _ _ s229 hI232 (by omega) (by omega) (by omega) (by omega) f hT236 (yWd_g hWd hF238) (by omega) (by omega) (by omega)) rfl rfl (Nat.le_of_ble_eq_true rfl) (by decide) (fun r278 s279 hr280 hp281 => ?_)
            obtain ⟨hI282, hF283, hT284, z285, z286⟩ := hp281
            rw [hE272] at z285
            have hF287 := zOn_tr hF238 (zGN_k (zOn_GN (zOn_up hF283 zi_23))) zi_id
            obtain ⟨p288, hE289⟩ : ∃ p, yqs f s279 = p := ⟨_, rfl⟩
            rw [hE289] at z285
            have b290 := zv_46_1 hI282 zc_164
            have b291 := zv_46_2 hI282 zc_164
            have b292 := zv_46_3 hI282 zc_164
            have b293 := zv_46_4 hI282 zc_164
            have b294 := zv_46_5 hI282 zc_164
            have b295 := zv_46_6 hI282 zc_164
            have b296 := zv_46_7 hI282 zc_164
            have b297 := zv_46_8 hI282 zc_164
            have b298 := zv_46_50 hI282 zc_164
            have b299 := zv_46_51 hI282 zc_164
            have b300 := zv_46_97 hI282 zc_164
            have b301 := zv_46_99 hI282 zc_164
            have b302 := zv_46_100 hI282 zc_164
            have b303 := zv_46_101 hI282 zc_164
            have e304 := hF283 164 1 rfl
            have e305 := hF283 164 3 rfl
            have e306 := hF283 164 7 rfl
            have e307 := hF283 164 8 rfl
            have e308 := hF283 164 50 rfl
            have hq309 : p288 = yQs1 f (yP.ok (yS f 0)) := (ySm_eq z285).symm.trans (yQs_s (by omega))
            refine zt_aload_n (pc' := 110) hX dX12_ask_109 rfl rfl ?_
            have b310 := zv_46_5 hI282 zc_164
            refine zt_get (pc' := 113) (v := .int (zI (s279 164 5))) hX dX12_ask_110 rfl zf_X12_246 (by decide) zc_164 zs_46 rfl ?_
            refine zt_ifne (pc' := 116) (tgt := 133) hX dX12_ask_113 rfl (by decide) ⟨by omega, by omega⟩ (fun c311 => ?_) (fun c311 => ?_)
            · have hn312 := hE289.trans (yQst_b hq309 ((yHb hT284 hE289).2 (by omega)))
              have fl313 := yflt (s := s279) hT284 rfl rfl
              rw [hn312] at fl313
              refine zt_aload_n (pc' := 134) hX dX12_ask_133 rfl rfl ?_
              refine zt_aload_n (pc' := 135) hX dX12_ask_134 rfl rfl ?_
              refine zt_get (pc' := 138) (v := .int (zI (s279 164 5))) hX dX12_ask_135 rfl zf_X12_246 (by decide) zc_164 zs_46 rfl ?_
              refine zt_put (pc' := 141) (x := (s279 164 5)) hX dX12_ask_138 rfl zf_X12_369 (by decide) zc_164 zs_46 (fun q hq => by cases hq; rfl) rfl rfl rfl ?_
              generalize hs315 : zset s279 164 7 (s279 164 5) = s314
              have hI316 : zInv s314 := hs315 ▸ zp_46_7 hI282 zc_164 ⟨by omega, by omega⟩
              have hF317 : zOn zQk σ s314 := hs315 ▸ zOn_set hF287 (by decide)
              have e318 : s314 164 1 = s279 164 1 := by rw [← hs315]; exact zset_j (by decide)
              have e319 : s314 164 2 = s279 164 2 := by rw [← hs315]; exact zset_j (by decide)
              have e320 : s314 164 3 = s279 164 3 := by rw [← hs315]; exact zset_j (by decide)
              have e321 : s314 164 4 = s279 164 4 := by rw [← hs315]; exact zset_j (by decide)
              have e322 : s314 164 5 = s279 164 5 := by rw [← hs315]; exact zset_j (by decide)
              have e323 : s314 164 6 = s279 164 6 := by rw [← hs315]; exact zset_j (by decide)
              have e324 : s314 164 7 = (s279 164 5) := by rw [← hs315]; exact zset_s
              have e325 : s314 164 8 = s279 164 8 := by rw [← hs315]; exact zset_j (by decide)
              have e326 : s314 164 50 = s279 164 50 := by rw [← hs315]; exact zset_j (by decide)
              have e327 : s314 164 51 = s279 164 51 := by rw [← hs315]; exact zset_j (by decide)
              have e328 : s314 164 97 = s279 164 97 := by rw [← hs315]; exact zset_j (by decide)
              have e329 : s314 164 99 = s279 164 99 := by rw [← hs315]; exact zset_j (by decide)
              have e330 : s314 164 100 = s279 164 100 := by rw [← hs315]; exact zset_j (by decide)
              have e331 : s314 164 101 = s279 164 101 := by rw [← hs315]; exact zset_j (by decide)
              obtain ⟨-, w332, -, -, -, -, -, -⟩ := zE_set hs315 (by decide)
              refine zt_aload_n (pc' := 142) hX dX12_ask_141 rfl rfl ?_
              refine zt_aload_n (pc' := 143) hX dX12_ask_142 rfl rfl ?_
              have b333 := zv_46_6 hI316 zc_164
              refine zt_get (pc' := 146) (v := .int (zI (s314 164 6))) hX dX12_ask_143 rfl zf_X12_249 (by decide) zc_164 zs_46 rfl ?_
              refine zt_put (pc' := 149) (x := (s314 164 6)) hX dX12_ask_146 rfl zf_X12_13 (by decide) zc_164 zs_46 (fun q hq => by cases hq; rfl) rfl rfl rfl ?_
              generalize hs335 : zset s314 164 8 (s314 164 6) = s334
              have hI336 : zInv s334 := hs335 ▸ zp_46_8 hI316 zc_164 ⟨by omega, by omega⟩
              have hF337 : zOn zQk σ s334 := hs335 ▸ zOn_set hF317 (by decide)
              have e338 : s334 164 1 = s314 164 1 := by rw [← hs335]; exact zset_j (by decide)
              have e339 : s334 164 2 = s314 164 2 := by rw [← hs335]; exact zset_j (by decide)
              have e340 : s334 164 3 = s314 164 3 := by rw [← hs335]; exact zset_j (by decide)
              have e341 : s334 164 4 = s314 164 4 := by rw [← hs335]; exact zset_j (by decide)
              have e342 : s334 164 5 = s314 164 5 := by rw [← hs335]; exact zset_j (by decide)
              have e343 : s334 164 6 = s314 164 6 := by rw [← hs335]; exact zset_j (by decide)
              have e344 : s334 164 7 = s314 164 7 := by rw [← hs335]; exact zset_j (by decide)
              have e345 : s334 164 8 = (s314 164 6) := by rw [← hs335]; exact zset_s
              have e346 : s334 164 50 = s314 164 50 := by rw [← hs335]; exact zset_j (by decide)
              have e347 : s334 164 51 = s314 164 51 := by rw [← hs335]; exact zset_j (by decide)
              have e348 : s334 164 97 = s314 164 97 := by rw [← hs335]; exact zset_j (by decide)
              have e349 : s334 164 99 = s314 164 99 := by rw [← hs335]; exact zset_j (by decide)
              have e350 : s334 164 100 = s314 164 100 := by rw [← hs335]; exact zset_j (by decide)
              have e351 : s334 164 101 = s314 164 101 := by rw [← hs335]; exact zset_j (by decide)
              obtain ⟨-, w352, -, -, -, -, -, -⟩ := zE_set hs335 (by decide)
              refine zt_aload_n (pc' := 150) hX dX12_ask_149 rfl rfl ?_
              have b353 := zv_46_5 hI336 zc_164
              refine zt_get (pc' := 153) (v := .int (zI (s334 164 5))) hX dX12_ask_150 rfl zf_X12_246 (by decide) zc_164 zs_46 rfl ?_
              refine zt_ifeq (pc' := 156) (tgt := 160) hX dX12_ask_153 rfl (by decide) ⟨by omega, by omega⟩ (fun c354 => ?_) (fun c354 => ?_)
              · exact absurd c354 (by omega)
              · refine zt_ldc2 (pc' := 159) (x := (-1000000000000000)) hX dX12_ask_156 rfl zw_46_2 (by decide +kernel) ?_
                exact zt_lret hX hR dX12_ask_159 ⟨by omega, by omega⟩ ⟨hI336, hF337, by omega, by omega, (fun _ => by rw [← hf]; exact yFl_eq fl313 (by omega) (by omega)), (fun o => absurd o (by omega))⟩
            · refine zt_aload_n (pc' := 117) hX dX12_ask_116 rfl rfl ?_
              refine zt_cVi (pc' := 120) hX dX12_ask_117 rfl zm_yX12_look zw_26_12 zc_164 (by decide) zs_46 (q := (RX12, TX12, 108)) rfl rfl (yc_X12_look _ _ s279 hI282 f hT284) rfl rfl (Nat.le_of_ble_eq_true rfl) (by decide) (fun r355 s356 hr357 hp358 => ?_)
              obtain ⟨hI359, hF360, q361, q362, hT363, z364, z365, z366⟩ := hp358
              have hE367 : yqs f s356 = p288 := by rw [z364, hE289]
              have hF368 := zOn_tr hF287 (zGN_k (zOn_GN (zOn_up (zOn_tr (zOn_rf zQ1 _) hF360 zi_a1) zi_13))) zi_id
              have b369 := zv_46_1 hI359 zc_164
              have b370 := zv_46_2 hI359 zc_164
              have b371 := zv_46_3 hI359 zc_164
              have b372 := zv_46_4 hI359 zc_164
              have b373 := zv_46_5 hI359 zc_164
              have b374 := zv_46_6 hI359 zc_164
              have b375 := zv_46_7 hI359 zc_164
              have b376 := zv_46_8 hI359 zc_164
              have b377 := zv_46_50 hI359 zc_164
              have b378 := zv_46_51 hI359 zc_164
              have b379 := zv_46_97 hI359 zc_164
              have b380 := zv_46_99 hI359 zc_164
              have b381 := zv_46_100 hI359 zc_164
              have b382 := zv_46_101 hI359 zc_164
              have e383 := hF360 164 1 rfl
              have e384 := hF360 164 3 rfl
              have e385 := hF360 164 4 rfl
              have e386 := hF360 164 5 rfl
              have e387 := hF360 164 6 rfl
              have e388 := hF360 164 7 rfl
              have e389 := hF360 164 8 rfl
              have e390 := hF360 164 50 rfl
              have e391 := hF360 164 51 rfl
              have e392 := hF360 164 97 rfl
              have e393 := hF360 164 99 rfl
              have e394 := hF360 164 100 rfl
              have e395 := hF360 164 101 rfl
              have hq396 : s356 164 2 = yPq p288 := yat_q hE289 (by omega) z365
              have hc397 : f (yPq p288) = r355 := by rw [← hq396]; exact z366.symm
              clear z365 z366
              obtain ⟨-, w398, -, -, -, -, -, -⟩ := zE_q1 (zOn_tr (zOn_rf zQ1 _) hF360 zi_a1)
              refine zt_iconst (pc' := 121) hX dX12_ask_120 rfl ?_
              refine zt_iceq (pc' := 124) (tgt := 133) hX dX12_ask_121 rfl (by decide) ⟨by omega, by omega⟩ ⟨by omega, by omega⟩ (fun c399 => ?_) (fun c399 => ?_)
              · have hn400 := hE367.trans (yQst_n hq309 (yMor_0 hc397 (by omega)))
                have u401 := z286 (by omega)
                have fl402 := yflt (s := s356) hT363 rfl rfl
                rw [hn400] at fl402
                refine zt_aload_n (pc' := 134) hX dX12_ask_133 rfl rfl ?_
                refine zt_aload_n (pc' := 135) hX dX12_ask_134 rfl rfl ?_
                have b403 := zv_46_5 hI359 zc_164
                refine zt_get (pc' := 138) (v := .int (zI (s356 164 5))) hX dX12_ask_135 rfl zf_X12_246 (by decide) zc_164 zs_46 rfl ?_
                refine zt_put (pc' := 141) (x := (s356 164 5)) hX dX12_ask_138 rfl zf_X12_369 (by decide) zc_164 zs_46 (fun q hq => by cases hq; rfl) rfl rfl rfl ?_
                generalize hs405 : zset s356 164 7 (s356 164 5) = s404
                have hI406 : zInv s404 := hs405 ▸ zp_46_7 hI359 zc_164 ⟨by omega, by omega⟩
                have hF407 : zOn zQk σ s404 := hs405 ▸ zOn_set hF368 (by decide)
                have e408 : s404 164 1 = s356 164 1 := by rw [← hs405]; exact zset_j (by decide)
                have e409 : s404 164 2 = s356 164 2 := by rw [← hs405]; exact zset_j (by decide)
                have e410 : s404 164 3 = s356 164 3 := by rw [← hs405]; exact zset_j (by decide)
                have e411 : s404 164 4 = s356 164 4 := by rw [← hs405]; exact zset_j (by decide)
                have e412 : s404 164 5 = s356 164 5 := by rw [← hs405]; exact zset_j (by decide)
                have e413 : s404 164 6 = s356 164 6 := by rw [← hs405]; exact zset_j (by decide)
                have e414 : s404 164 7 = (s356 164 5) := by rw [← hs405]; exact zset_s
                have e415 : s404 164 8 = s356 164 8 := by rw [← hs405]; exact zset_j (by decide)
                have e416 : s404 164 50 = s356 164 50 := by rw [← hs405]; exact zset_j (by decide)
                have e417 : s404 164 51 = s356 164 51 := by rw [← hs405]; exact zset_j (by decide)
                have e418 : s404 164 97 = s356 164 97 := by rw [← hs405]; exact zset_j (by decide)
                have e419 : s404 164 99 = s356 164 99 := by rw [← hs405]; exact zset_j (by decide)
                have e420 : s404 164 100 = s356 164 100 := by rw [← hs405]; exact zset_j (by decide)
                have e421 : s404 164 101 = s356 164 101 := by rw [← hs405]; exact zset_j (by decide)
                obtain ⟨-, w422, -, -, -, -, -, -⟩ := zE_set hs405 (by decide)
                refine zt_aload_n (pc' := 142) hX dX12_ask_141 rfl rfl ?_
                refine zt_aload_n (pc' := 143) hX dX12_ask_142 rfl rfl ?_
                have b423 := zv_46_6 hI406 zc_164
                refine zt_get (pc' := 146) (v := .int (zI (s404 164 6))) hX dX12_ask_143 rfl zf_X12_249 (by decide) zc_164 zs_46 rfl ?_
                refine zt_put (pc' := 149) (x := (s404 164 6)) hX dX12_ask_146 rfl zf_X12_13 (by decide) zc_164 zs_46 (fun q hq => by cases hq; rfl) rfl rfl rfl ?_
                generalize hs425 : zset s404 164 8 (s404 164 6) = s424
                have hI426 : zInv s424 := hs425 ▸ zp_46_8 hI406 zc_164 ⟨by omega, by omega⟩
                have hF427 : zOn zQk σ s424 := hs425 ▸ zOn_set hF407 (by decide)
                have e428 : s424 164 1 = s404 164 1 := by rw [← hs425]; exact zset_j (by decide)
                have e429 : s424 164 2 = s404 164 2 := by rw [← hs425]; exact zset_j (by decide)
                have e430 : s424 164 3 = s404 164 3 := by rw [← hs425]; exact zset_j (by decide)
                have e431 : s424 164 4 = s404 164 4 := by rw [← hs425]; exact zset_j (by decide)
                have e432 : s424 164 5 = s404 164 5 := by rw [← hs425]; exact zset_j (by decide)
                have e433 : s424 164 6 = s404 164 6 := by rw [← hs425]; exact zset_j (by decide)
                have e434 : s424 164 7 = s404 164 7 := by rw [← hs425]; exact zset_j (by decide)
                have e435 : s424 164 8 = (s404 164 6) := by rw [← hs425]; exact zset_s
                have e436 : s424 164 50 = s404 164 50 := by rw [← hs425]; exact zset_j (by decide)
                have e437 : s424 164 51 = s404 164 51 := by rw [← hs425]; exact zset_j (by decide)
                have e438 : s424 164 97 = s404 164 97 := by rw [← hs425]; exact zset_j (by decide)
                have e439 : s424 164 99 = s404 164 99 := by rw [← hs425]; exact zset_j (by decide)
                have e440 : s424 164 100 = s404 164 100 := by rw [← hs425]; exact zset_j (by decide)
                have e441 : s424 164 101 = s404 164 101 := by rw [← hs425]; exact zset_j (by decide)
                obtain ⟨-, w442, -, -, -, -, -, -⟩ := zE_set hs425 (by decide)
                refine zt_aload_n (pc' := 150) hX dX12_ask_149 rfl rfl ?_
                have b443 := zv_46_5 hI426 zc_164
                refine zt_get (pc' := 153) (v := .int (zI (s424 164 5))) hX dX12_ask_150 rfl zf_X12_246 (by decide) zc_164 zs_46 rfl ?_
                refine zt_ifeq (pc' := 156) (tgt := 160) hX dX12_ask_153 rfl (by decide) ⟨by omega, by omega⟩ (fun c444 => ?_) (fun c444 => ?_)
                · refine zt_aload_n (pc' := 161) hX dX12_ask_160 rfl rfl ?_
                  refine zt_iload_n (pc' := 162) hX dX12_ask_161 rfl rfl ?_
                  refine zt_iconst (pc' := 163) hX dX12_ask_162 rfl ?_
                  refine zt_icge (pc' := 166) (tgt := 172) hX dX12_ask_163 rfl (by decide) ⟨by omega, by omega⟩ ⟨by omega, by omega⟩ (fun c445 => ?_) (fun c445 => ?_)
                  · refine zt_lconst (pc' := 173) (y := 0) hX dX12_ask_172 rfl (by decide +kernel) ?_
                    refine zt_put (pc' := 176) (x := 0) hX dX12_ask_173 rfl zf_X12_634 (by decide) zc_164 zs_46 (fun q hq => by cases hq; rfl) rfl rfl rfl ?_
                    generalize hs447 : zset s424 164 104 0 = s446
                    have hI448 : zInv s446 := hs447 ▸ zp_46_104 hI426 zc_164 ⟨by omega, by omega⟩
                    have hF449 : zOn zQk σ s446 := hs447 ▸ zOn_set hF427 (by decide)
                    have e450 : s446 164 1 = s424 164 1 := by rw [← hs447]; exact zset_j (by decide)
                    have e451 : s446 164 2 = s424 164 2 := by rw [← hs447]; exact zset_j (by decide)
                    have e452 : s446 164 3 = s424 164 3 := by rw [← hs447]; exact zset_j (by decide)
                    have e453 : s446 164 4 = s424 164 4 := by rw [← hs447]; exact zset_j (by decide)
                    have e454 : s446 164 5 = s424 164 5 := by rw [← hs447]; exact zset_j (by decide)
                    have e455 : s446 164 6 = s424 164 6 := by rw [← hs447]; exact zset_j (by decide)
                    have e456 : s446 164 7 = s424 164 7 := by rw [← hs447]; exact zset_j (by decide)
                    have e457 : s446 164 8 = s424 164 8 := by rw [← hs447]; exact zset_j (by decide)
                    have e458 : s446 164 50 = s424 164 50 := by rw [← hs447]; exact zset_j (by decide)
                    have e459 : s446 164 51 = s424 164 51 := by rw [← hs447]; exact zset_j (by decide)
                    have e460 : s446 164 97 = s424 164 97 := by rw [← hs447]; exact zset_j (by decide)
                    have e461 : s446 164 99 = s424 164 99 := by rw [← hs447]; exact zset_j (by decide)
                    have e462 : s446 164 100 = s424 164 100 := by rw [← hs447]; exact zset_j (by decide)
                    have e463 : s446 164 101 = s424 164 101 := by rw [← hs447]; exact zset_j (by decide)
                    obtain ⟨-, w464, -, -, -, -, -, -⟩ := zE_set hs447 (by decide)
                    refine zt_aload_n (pc' := 177) hX dX12_ask_176 rfl rfl ?_
                    refine zt_iconst (pc' := 178) hX dX12_ask_177 rfl ?_
                    refine zt_put (pc' := 181) (x := 1) hX dX12_ask_178 rfl zf_X12_639 (by decide) zc_164 zs_46 (fun q hq => by cases hq; rfl) rfl (zfit_z (by omega) (by omega)).1 (zfit_z (by omega) (by omega)).2 ?_
                    generalize hs466 : zset s446 164 105 1 = s465
                    have hI467 : zInv s465 := hs466 ▸ zp_46_105 hI448 zc_164 ⟨by omega, by omega⟩
                    have hF468 : zOn zQk σ s465 := hs466 ▸ zOn_set hF449 (by decide)
                    have e469 : s465 164 1 = s446 164 1 := by rw [← hs466]; exact zset_j (by decide)
                    have e470 : s465 164 2 = s446 164 2 := by rw [← hs466]; exact zset_j (by decide)
                    have e471 : s465 164 3 = s446 164 3 := by rw [← hs466]; exact zset_j (by decide)
                    have e472 : s465 164 4 = s446 164 4 := by rw [← hs466]; exact zset_j (by decide)
                    have e473 : s465 164 5 = s446 164 5 := by rw [← hs466]; exact zset_j (by decide)
                    have e474 : s465 164 6 = s446 164 6 := by rw [← hs466]; exact zset_j (by decide)
                    have e475 : s465 164 7 = s446 164 7 := by rw [← hs466]; exact zset_j (by decide)
                    have e476 : s465 164 8 = s446 164 8 := by rw [← hs466]; exact zset_j (by decide)
                    have e477 : s465 164 50 = s446 164 50 := by rw [← hs466]; exact zset_j (by decide)
                    have e478 : s465 164 51 = s446 164 51 := by rw [← hs466]; exact zset_j (by decide)
                    have e479 : s465 164 97 = s446 164 97 := by rw [← hs466]; exact zset_j (by decide)
                    have e480 : s465 164 99 = s446 164 99 := by rw [← hs466]; exact zset_j (by decide)
                    have e481 : s465 164 100 = s446 164 100 := by rw [← hs466]; exact zset_j (by decide)
                    have e482 : s465 164 101 = s446 164 101 := by rw [← hs466]; exact zset_j (by decide)
                    obtain ⟨-, w483, -, -, -, -, -, -⟩ := zE_set hs466 (by decide)
                    refine zt_aload_n (pc' := 182) hX dX12_ask_181 rfl rfl ?_
                    refine zt_aload_n (pc' := 183) hX dX12_ask_182 rfl rfl ?_
                    refine zt_cVi (pc' := 186) hX dX12_ask_183 rfl zm_yX12_holders zw_38_12 zc_164 (by decide) zs_46 (q := (RX12, TX12, 108)) rfl rfl (zc_X12_holders_Q _ _ s465 hI467 (zWF_N hW (zOn_g hF468))) rfl rfl (Nat.le_of_ble_eq_true rfl) (by decide) (fun r484 s485 hr486 hp487 => ?_)
                    obtain ⟨hI488, hF489, q490, q491⟩ := hp487
                    have hF492 := zOn_tr hF468 (zGN_k (zOn_GN8 hF489)) zi_id
                    have b493 := zv_46_1 hI488 zc_164
                    have b494 := zv_46_2 hI488 zc_164
                    have b495 := zv_46_3 hI488 zc_164
                    have b496 := zv_46_4 hI488 zc_164
                    have b497 := zv_46_5 hI488 zc_164
                    have b498 := zv_46_6 hI488 zc_164
                    have b499 := zv_46_7 hI488 zc_164
                    have b500 := zv_46_8 hI488 zc_164
                    have b501 := zv_46_50 hI488 zc_164
                    have b502 := zv_46_51 hI488 zc_164
                    have b503 := zv_46_97 hI488 zc_164
                    have b504 := zv_46_99 hI488 zc_164
                    have b505 := zv_46_100 hI488 zc_164
                    have b506 := zv_46_101 hI488 zc_164
                    have e507 := hF489 164 1 rfl
                    have e508 := hF489 164 2 rfl
                    have e509 := hF489 164 3 rfl
                    have e510 := hF489 164 4 rfl
                    have e511 := hF489 164 5 rfl
                    have e512 := hF489 164 6 rfl
                    have e513 := hF489 164 7 rfl
                    have e514 := hF489 164 8 rfl
                    have e515 := hF489 164 50 rfl
                    have e516 := hF489 164 97 rfl
                    have e517 := hF489 164 99 rfl
                    have e518 := hF489 164 100 rfl
                    have e519 := hF489 164 101 rfl
                    obtain ⟨-, w520, -, -, -, -, -, -⟩ := zE_q8 hF489
                    refine zt_put (pc' := 189) (x := r484) hX dX12_ask_186 rfl zf_X12_627 (by decide) zc_164 zs_46 (fun q hq => by cases hq; rfl) rfl rfl rfl ?_
                    generalize hs522 : zset s485 164 56 r484 = s521
                    have hI523 : zInv s521 := hs522 ▸ zp_46_56 hI488 zc_164 ⟨by omega, by omega⟩
                    have hF524 : zOn zQk σ s521 := hs522 ▸ zOn_set hF492 (by decide)
                    have e525 : s521 164 1 = s485 164 1 := by rw [← hs522]; exact zset_j (by decide)
                    have e526 : s521 164 2 = s485 164 2 := by rw [← hs522]; exact zset_j (by decide)
                    have e527 : s521 164 3 = s485 164 3 := by rw [← hs522]; exact zset_j (by decide)
                    have e528 : s521 164 4 = s485 164 4 := by rw [← hs522]; exact zset_j (by decide)
                    have e529 : s521 164 5 = s485 164 5 := by rw [← hs522]; exact zset_j (by decide)
                    have e530 : s521 164 6 = s485 164 6 := by rw [← hs522]; exact zset_j (by decide)
                    have e531 : s521 164 7 = s485 164 7 := by rw [← hs522]; exact zset_j (by decide)
                    have e532 : s521 164 8 = s485 164 8 := by rw [← hs522]; exact zset_j (by decide)
                    have e533 : s521 164 50 = s485 164 50 := by rw [← hs522]; exact zset_j (by decide)
                    have e534 : s521 164 51 = s485 164 51 := by rw [← hs522]; exact zset_j (by decide)
                    have e535 : s521 164 97 = s485 164 97 := by rw [← hs522]; exact zset_j (by decide)
                    have e536 : s521 164 99 = s485 164 99 := by rw [← hs522]; exact zset_j (by decide)
                    have e537 : s521 164 100 = s485 164 100 := by rw [← hs522]; exact zset_j (by decide)
                    have e538 : s521 164 101 = s485 164 101 := by rw [← hs522]; exact zset_j (by decide)
                    obtain ⟨-, w539, -, -, -, -, -, -⟩ := zE_set hs522 (by decide)
                    refine zt_aload_n (pc' := 190) hX dX12_ask_189 rfl rfl ?_
                    refine zt_iconst (pc' := 191) hX dX12_ask_190 rfl ?_
                    refine zt_put (pc' := 194) (x := 2) hX dX12_ask_191 rfl zf_X12_304 (by decide) zc_164 zs_46 (fun q hq => by cases hq; rfl) rfl rfl rfl ?_
                    generalize hs541 : zset s521 164 51 2 = s540
                    have hI542 : zInv s540 := hs541 ▸ zp_46_51 hI523 zc_164 ⟨by omega, by omega⟩
                    have hF543 : zOn zQk σ s540 := hs541 ▸ zOn_set hF524 (by decide)
                    have e544 : s540 164 1 = s521 164 1 := by rw [← hs541]; exact zset_j (by decide)
                    have e545 : s540 164 2 = s521 164 2 := by rw [← hs541]; exact zset_j (by decide)
                    have e546 : s540 164 3 = s521 164 3 := by rw [← hs541]; exact zset_j (by decide)
                    have e547 : s540 164 4 = s521 164 4 := by rw [← hs541]; exact zset_j (by decide)
                    have e548 : s540 164 5 = s521 164 5 := by rw [← hs541]; exact zset_j (by decide)
                    have e549 : s540 164 6 = s521 164 6 := by rw [← hs541]; exact zset_j (by decide)
                    have e550 : s540 164 7 = s521 164 7 := by rw [← hs541]; exact zset_j (by decide)
                    have e551 : s540 164 8 = s521 164 8 := by rw [← hs541]; exact zset_j (by decide)
                    have e552 : s540 164 50 = s521 164 50 := by rw [← hs541]; exact zset_j (by decide)
                    have e553 : s540 164 51 = 2 := by rw [← hs541]; exact zset_s
                    have e554 : s540 164 97 = s521 164 97 := by rw [← hs541]; exact zset_j (by decide)
                    have e555 : s540 164 99 = s521 164 99 := by rw [← hs541]; exact zset_j (by decide)
                    have e556 : s540 164 100 = s521 164 100 := by rw [← hs541]; exact zset_j (by decide)
                    have e557 : s540 164 101 = s521 164 101 := by rw [← hs541]; exact zset_j (by decide)
                    obtain ⟨-, w558, -, -, -, -, -, -⟩ := zE_set hs541 (by decide)
                    refine zt_iconst (pc' := 195) hX dX12_ask_194 rfl ?_
                    refine zt_istore_n (pc' := 196) (lv' := [some (.ref (X.1.1 + 164)), some (.int (zI r228)), some (.int (zI 0))]) hX dX12_ask_195 rfl hL (by decide) rfl ?_
                    have L_196_567 : ∀ (N : Nat) (x559 : Int) (s562 : zSto), 0 ≤ x559 → x559 ≤ 10 → zInv s562 → zOn zQk σ s562 → zt s562 = 1 → s562 164 7 = (s356 164 5) → s562 164 8 = (s356 164 6) → ((11 - x559).toNat) < N → zF X s562 196 [some (.ref (X.1.1 + 164)), some (.int (zI r228)), some (.int (zI x559))] [] := by
                      intro N
                      induction N with
                      | zero =>
                        intro x559 s562 h560 h561 hI563 hF564 g565 g566 g567 hm569
                        exact absurd hm569 (Nat.not_lt_zero _)
                      | succ N ih570 =>
                        intro x559 s562 h560 h561 hI563 hF564 g565 g566 g567 hm569
                        have b571 := zv_46_1 hI563 zc_164
                        have b572 := zv_46_2 hI563 zc_164
                        have b573 := zv_46_3 hI563 zc_164
                        have b574 := zv_46_4 hI563 zc_164
                        have b575 := zv_46_5 hI563 zc_164
                        have b576 := zv_46_6 hI563 zc_164
                        have b577 := zv_46_7 hI563 zc_164
                        have b578 := zv_46_8 hI563 zc_164
                        have b579 := zv_46_50 hI563 zc_164
                        have b580 := zv_46_51 hI563 zc_164
                        have b581 := zv_46_97 hI563 zc_164
                        have b582 := zv_46_99 hI563 zc_164
                        have b583 := zv_46_100 hI563 zc_164
                        have b584 := zv_46_101 hI563 zc_164
                        refine zt_iload_n (pc' := 197) hX dX12_ask_196 rfl rfl ?_
                        refine zt_aload_n (pc' := 198) hX dX12_ask_197 rfl rfl ?_
                        refine zt_cVi (pc' := 201) hX dX12_ask_198 rfl zm_yX12_peopleMany zw_38_4 zc_164 (by decide) zs_46 (q := (RX12, TX12, 108)) rfl rfl (zc_X12_peopleMany _ _ s562 hI563 ) rfl rfl (Nat.le_of_ble_eq_true rfl) (by decide) (fun r585 s586 hr587 hp588 => ?_)
                        obtain ⟨rfl, q589, q590, z591⟩ := hp588
                        refine zt_icge (pc' := 204) (tgt := 221) hX dX12_ask_201 rfl (by decide) ⟨by omega, by omega⟩ ⟨by omega, by omega⟩ (fun c592 => ?_) (fun c592 => ?_)
                        · refine zt_aload_n (pc' := 222) hX dX12_ask_221 rfl rfl ?_
                          have b593 := zv_46_104 hI563 zc_164
                          refine zt_get (pc' := 225) (v := .long (zJ (s562 164 104))) hX dX12_ask_222 rfl zf_X12_634 (by decide) zc_164 zs_46 rfl ?_
                          exact zt_lret hX hR dX12_ask_225 ⟨by omega, by omega⟩ ⟨hI563, hF564, by omega, by omega, (fun _ => by rw [← hf]; exact yFl_eq fl402 (by omega) (by omega)), (fun o => absurd o (by omega))⟩
                        · refine zt_aload_n (pc' := 205) hX dX12_ask_204 rfl rfl ?_
                          refine zt_iload_n (pc' := 206) hX dX12_ask_205 rfl rfl ?_
                          refine zt_aload_n (pc' := 207) hX dX12_ask_206 rfl rfl ?_
                          refine zt_iload_n (pc' := 208) hX dX12_ask_207 rfl rfl ?_
                          refine zt_cVl (pc' := 211) hX dX12_ask_208 rfl zm_yX12_qTold zw_66_22 zc_164 (by decide) zs_46 (q := (RX12, TX12, 108)) rfl rfl (zc_X12_qTold_Q _ _ s562 hI563 x559 ⟨by omega, by omega⟩ (by omega)) rfl rfl (Nat.le_of_ble_eq_true rfl) (by decide) (fun r594 s595 hr596 hp597 => ?_)
                          obtain ⟨hI598, hF599, q600, q601⟩ := hp597
                          have hF602 := zOn_tr hF564 (zGN_k (zOn_GN8 hF599)) zi_id
                          have b603 := zv_46_1 hI598 zc_164
                          have b604 := zv_46_2 hI598 zc_164
                          have b605 := zv_46_3 hI598 zc_164
                          have b606 := zv_46_4 hI598 zc_164
                          have b607 := zv_46_5 hI598 zc_164
                          have b608 := zv_46_6 hI598 zc_164
                          have b609 := zv_46_7 hI598 zc_164
                          have b610 := zv_46_8 hI598 zc_164
                          have b611 := zv_46_50 hI598 zc_164
                          have b612 := zv_46_51 hI598 zc_164
                          have b613 := zv_46_97 hI598 zc_164
                          have b614 := zv_46_99 hI598 zc_164
                          have b615 := zv_46_100 hI598 zc_164
                          have b616 := zv_46_101 hI598 zc_164
                          have e617 := hF599 164 1 rfl
                          have e618 := hF599 164 2 rfl
                          have e619 := hF599 164 3 rfl
                          have e620 := hF599 164 4 rfl
                          have e621 := hF599 164 5 rfl
                          have e622 := hF599 164 6 rfl
                          have e623 := hF599 164 7 rfl
                          have e624 := hF599 164 8 rfl
                          have e625 := hF599 164 50 rfl
                          have e626 := hF599 164 97 rfl
                          have e627 := hF599 164 99 rfl
                          have e628 := hF599 164 100 rfl
                          have e629 := hF599 164 101 rfl
                          obtain ⟨-, w630, -, -, -, -, -, -⟩ := zE_q8 hF599
                          refine zt_iload_n (pc' := 212) hX dX12_ask_211 rfl rfl ?_
                          refine zt_cVv (pc' := 215) hX dX12_ask_212 rfl zm_yX12_qTakes zw_67_6 zc_164 (by decide) zs_46 (q := (RX12, TX12, 108)) rfl rfl (zc_X12_qTakes_Q _ _ s595 hI598 r228 ⟨by omega, by omega⟩ r594 ⟨by omega, by omega⟩ x559 ⟨by omega, by omega⟩) rfl rfl (Nat.le_of_ble_eq_true rfl) (by decide) (fun r631 s632 hr633 hp634 => ?_)
                          obtain ⟨hI635, hF636⟩ := hp634
                          have hF637 := zOn_tr hF602 (zGN_k (zOn_GN8 hF636)) zi_id
                          have b638 := zv_46_1 hI635 zc_164
                          have b639 := zv_46_2 hI635 zc_164
                          have b640 := zv_46_3 hI635 zc_164
                          have b641 := zv_46_4 hI635 zc_164
                          have b642 := zv_46_5 hI635 zc_164
                          have b643 := zv_46_6 hI635 zc_164
                          have b644 := zv_46_7 hI635 zc_164
                          have b645 := zv_46_8 hI635 zc_164
                          have b646 := zv_46_50 hI635 zc_164
                          have b647 := zv_46_51 hI635 zc_164
                          have b648 := zv_46_97 hI635 zc_164
                          have b649 := zv_46_99 hI635 zc_164
                          have b650 := zv_46_100 hI635 zc_164
                          have b651 := zv_46_101 hI635 zc_164
                          have e652 := hF636 164 1 rfl
                          have e653 := hF636 164 2 rfl
                          have e654 := hF636 164 3 rfl
                          have e655 := hF636 164 4 rfl
                          have e656 := hF636 164 5 rfl
                          have e657 := hF636 164 6 rfl
                          have e658 := hF636 164 7 rfl
                          have e659 := hF636 164 8 rfl
                          have e660 := hF636 164 50 rfl
                          have e661 := hF636 164 97 rfl
                          have e662 := hF636 164 99 rfl
                          have e663 := hF636 164 100 rfl
                          have e664 := hF636 164 101 rfl
                          obtain ⟨-, w665, -, -, -, -, -, -⟩ := zE_q8 hF636
                          refine zt_iinc (pc' := 218) (lv' := [some (.ref (X.1.1 + 164)), some (.int (zI r228)), some (.int (zI (x559 + 1)))]) hX dX12_ask_215 rfl rfl hL (by decide) rfl ?_
                          refine zt_goto (tgt := 196) hX dX12_ask_218 (by decide) ?_
                          exact ih570 (x559 + 1) s632 (by omega) (by omega) hI635 hF637 (by omega) (by omega) (by omega) (by omega)
                    exact L_196_567 _ 0 s540 (by omega) (by omega) hI542 hF543 (by omega) (by omega) (by omega) (Nat.lt_succ_self _)
                  · refine zt_ldc2 (pc' := 169) (x := (-1)) hX dX12_ask_166 rfl zw_66_15 (by decide +kernel) ?_
                    refine zt_goto (tgt := 173) hX dX12_ask_169 (by decide) ?_
                    refine zt_put (pc' := 176) (x := (-1)) hX dX12_ask_173 rfl zf_X12_634 (by decide) zc_164 zs_46 (fun q hq => by cases hq; rfl) rfl rfl rfl ?_
                    generalize hs667 : zset s424 164 104 (-1) = s666
                    have hI668 : zInv s666 := hs667 ▸ zp_46_104 hI426 zc_164 ⟨by omega, by omega⟩
                    have hF669 : zOn zQk σ s666 := hs667 ▸ zOn_set hF427 (by decide)
                    have e670 : s666 164 1 = s424 164 1 := by rw [← hs667]; exact zset_j (by decide)
                    have e671 : s666 164 2 = s424 164 2 := by rw [← hs667]; exact zset_j (by decide)
                    have e672 : s666 164 3 = s424 164 3 := by rw [← hs667]; exact zset_j (by decide)
                    have e673 : s666 164 4 = s424 164 4 := by rw [← hs667]; exact zset_j (by decide)
                    have e674 : s666 164 5 = s424 164 5 := by rw [← hs667]; exact zset_j (by decide)
                    have e675 : s666 164 6 = s424 164 6 := by rw [← hs667]; exact zset_j (by decide)
                    have e676 : s666 164 7 = s424 164 7 := by rw [← hs667]; exact zset_j (by decide)
                    have e677 : s666 164 8 = s424 164 8 := by rw [← hs667]; exact zset_j (by decide)
                    have e678 : s666 164 50 = s424 164 50 := by rw [← hs667]; exact zset_j (by decide)
                    have e679 : s666 164 51 = s424 164 51 := by rw [← hs667]; exact zset_j (by decide)
                    have e680 : s666 164 97 = s424 164 97 := by rw [← hs667]; exact zset_j (by decide)
                    have e681 : s666 164 99 = s424 164 99 := by rw [← hs667]; exact zset_j (by decide)
                    have e682 : s666 164 100 = s424 164 100 := by rw [← hs667]; exact zset_j (by decide)
                    have e683 : s666 164 101 = s424 164 101 := by rw [← hs667]; exact zset_j (by decide)
                    obtain ⟨-, w684, -, -, -, -, -, -⟩ := zE_set hs667 (by decide)
                    refine zt_aload_n (pc' := 177) hX dX12_ask_176 rfl rfl ?_
                    refine zt_iconst (pc' := 178) hX dX12_ask_177 rfl ?_
                    refine zt_put (pc' := 181) (x := 1) hX dX12_ask_178 rfl zf_X12_639 (by decide) zc_164 zs_46 (fun q hq => by cases hq; rfl) rfl (zfit_z (by omega) (by omega)).1 (zfit_z (by omega) (by omega)).2 ?_
                    generalize hs686 : zset s666 164 105 1 = s685
                    have hI687 : zInv s685 := hs686 ▸ zp_46_105 hI668 zc_164 ⟨by omega, by omega⟩
                    have hF688 : zOn zQk σ s685 := hs686 ▸ zOn_set hF669 (by decide)
                    have e689 : s685 164 1 = s666 164 1 := by rw [← hs686]; exact zset_j (by decide)
                    have e690 : s685 164 2 = s666 164 2 := by rw [← hs686]; exact zset_j (by decide)
                    have e691 : s685 164 3 = s666 164 3 := by rw [← hs686]; exact zset_j (by decide)
                    have e692 : s685 164 4 = s666 164 4 := by rw [← hs686]; exact zset_j (by decide)
                    have e693 : s685 164 5 = s666 164 5 := by rw [← hs686]; exact zset_j (by decide)
                    have e694 : s685 164 6 = s666 164 6 := by rw [← hs686]; exact zset_j (by decide)
                    have e695 : s685 164 7 = s666 164 7 := by rw [← hs686]; exact zset_j (by decide)
                    have e696 : s685 164 8 = s666 164 8 := by rw [← hs686]; exact zset_j (by decide)
                    have e697 : s685 164 50 = s666 164 50 := by rw [← hs686]; exact zset_j (by decide)
                    have e698 : s685 164 51 = s666 164 51 := by rw [← hs686]; exact zset_j (by decide)
                    have e699 : s685 164 97 = s666 164 97 := by rw [← hs686]; exact zset_j (by decide)
                    have e700 : s685 164 99 = s666 164 99 := by rw [← hs686]; exact zset_j (by decide)
                    have e701 : s685 164 100 = s666 164 100 := by rw [← hs686]; exact zset_j (by decide)
                    have e702 : s685 164 101 = s666 164 101 := by rw [← hs686]; exact zset_j (by decide)
                    obtain ⟨-, w703, -, -, -, -, -, -⟩ := zE_set hs686 (by decide)
                    refine zt_aload_n (pc' := 182) hX dX12_ask_181 rfl rfl ?_
                    refine zt_aload_n (pc' := 183) hX dX12_ask_182 rfl rfl ?_
                    refine zt_cVi (pc' := 186) hX dX12_ask_183 rfl zm_yX12_holders zw_38_12 zc_164 (by decide) zs_46 (q := (RX12, TX12, 108)) rfl rfl (zc_X12_holders_Q _ _ s685 hI687 (zWF_N hW (zOn_g hF688))) rfl rfl (Nat.le_of_ble_eq_true rfl) (by decide) (fun r704 s705 hr706 hp707 => ?_)
                    obtain ⟨hI708, hF709, q710, q711⟩ := hp707
                    have hF712 := zOn_tr hF688 (zGN_k (zOn_GN8 hF709)) zi_id
                    have b713 := zv_46_1 hI708 zc_164
                    have b714 := zv_46_2 hI708 zc_164
                    have b715 := zv_46_3 hI708 zc_164
                    have b716 := zv_46_4 hI708 zc_164
                    have b717 := zv_46_5 hI708 zc_164
                    have b718 := zv_46_6 hI708 zc_164
                    have b719 := zv_46_7 hI708 zc_164
                    have b720 := zv_46_8 hI708 zc_164
                    have b721 := zv_46_50 hI708 zc_164
                    have b722 := zv_46_51 hI708 zc_164
                    have b723 := zv_46_97 hI708 zc_164
                    have b724 := zv_46_99 hI708 zc_164
                    have b725 := zv_46_100 hI708 zc_164
                    have b726 := zv_46_101 hI708 zc_164
                    have e727 := hF709 164 1 rfl
                    have e728 := hF709 164 2 rfl
                    have e729 := hF709 164 3 rfl
                    have e730 := hF709 164 4 rfl
                    have e731 := hF709 164 5 rfl
                    have e732 := hF709 164 6 rfl
                    have e733 := hF709 164 7 rfl
                    have e734 := hF709 164 8 rfl
                    have e735 := hF709 164 50 rfl
                    have e736 := hF709 164 97 rfl
                    have e737 := hF709 164 99 rfl
                    have e738 := hF709 164 100 rfl
                    have e739 := hF709 164 101 rfl
                    obtain ⟨-, w740, -, -, -, -, -, -⟩ := zE_q8 hF709
                    refine zt_put (pc' := 189) (x := r704) hX dX12_ask_186 rfl zf_X12_627 (by decide) zc_164 zs_46 (fun q hq => by cases hq; rfl) rfl rfl rfl ?_
                    generalize hs742 : zset s705 164 56 r704 = s741
                    have hI743 : zInv s741 := hs742 ▸ zp_46_56 hI708 zc_164 ⟨by omega, by omega⟩
                    have hF744 : zOn zQk σ s741 := hs742 ▸ zOn_set hF712 (by decide)
                    have e745 : s741 164 1 = s705 164 1 := by rw [← hs742]; exact zset_j (by decide)
                    have e746 : s741 164 2 = s705 164 2 := by rw [← hs742]; exact zset_j (by decide)
                    have e747 : s741 164 3 = s705 164 3 := by rw [← hs742]; exact zset_j (by decide)
                    have e748 : s741 164 4 = s705 164 4 := by rw [← hs742]; exact zset_j (by decide)
                    have e749 : s741 164 5 = s705 164 5 := by rw [← hs742]; exact zset_j (by decide)
                    have e750 : s741 164 6 = s705 164 6 := by rw [← hs742]; exact zset_j (by decide)
                    have e751 : s741 164 7 = s705 164 7 := by rw [← hs742]; exact zset_j (by decide)
                    have e752 : s741 164 8 = s705 164 8 := by rw [← hs742]; exact zset_j (by decide)
                    have e753 : s741 164 50 = s705 164 50 := by rw [← hs742]; exact zset_j (by decide)
                    have e754 : s741 164 51 = s705 164 51 := by rw [← hs742]; exact zset_j (by decide)
                    have e755 : s741 164 97 = s705 164 97 := by rw [← hs742]; exact zset_j (by decide)
                    have e756 : s741 164 99 = s705 164 99 := by rw [← hs742]; exact zset_j (by decide)
                    have e757 : s741 164 100 = s705 164 100 := by rw [← hs742]; exact zset_j (by decide)
                    have e758 : s741 164 101 = s705 164 101 := by rw [← hs742]; exact zset_j (by decide)
                    obtain ⟨-, w759, -, -, -, -, -, -⟩ := zE_set hs742 (by decide)
                    refine zt_aload_n (pc' := 190) hX dX12_ask_189 rfl rfl ?_
                    refine zt_iconst (pc' := 191) hX dX12_ask_190 rfl ?_
                    refine zt_put (pc' := 194) (x := 2) hX dX12_ask_191 rfl zf_X12_304 (by decide) zc_164 zs_46 (fun q hq => by cases hq; rfl) rfl rfl rfl ?_
                    generalize hs761 : zset s741 164 51 2 = s760
                    have hI762 : zInv s760 := hs761 ▸ zp_46_51 hI743 zc_164 ⟨by omega, by omega⟩
                    have hF763 : zOn zQk σ s760 := hs761 ▸ zOn_set hF744 (by decide)
                    have e764 : s760 164 1 = s741 164 1 := by rw [← hs761]; exact zset_j (by decide)
                    have e765 : s760 164 2 = s741 164 2 := by rw [← hs761]; exact zset_j (by decide)
                    have e766 : s760 164 3 = s741 164 3 := by rw [← hs761]; exact zset_j (by decide)
                    have e767 : s760 164 4 = s741 164 4 := by rw [← hs761]; exact zset_j (by decide)
                    have e768 : s760 164 5 = s741 164 5 := by rw [← hs761]; exact zset_j (by decide)
                    have e769 : s760 164 6 = s741 164 6 := by rw [← hs761]; exact zset_j (by decide)
                    have e770 : s760 164 7 = s741 164 7 := by rw [← hs761]; exact zset_j (by decide)
                    have e771 : s760 164 8 = s741 164 8 := by rw [← hs761]; exact zset_j (by decide)
                    have e772 : s760 164 50 = s741 164 50 := by rw [← hs761]; exact zset_j (by decide)
                    have e773 : s760 164 51 = 2 := by rw [← hs761]; exact zset_s
                    have e774 : s760 164 97 = s741 164 97 := by rw [← hs761]; exact zset_j (by decide)
                    have e775 : s760 164 99 = s741 164 99 := by rw [← hs761]; exact zset_j (by decide)
                    have e776 : s760 164 100 = s741 164 100 := by rw [← hs761]; exact zset_j (by decide)
                    have e777 : s760 164 101 = s741 164 101 := by rw [← hs761]; exact zset_j (by decide)
                    obtain ⟨-, w778, -, -, -, -, -, -⟩ := zE_set hs761 (by decide)
                    refine zt_iconst (pc' := 195) hX dX12_ask_194 rfl ?_
                    refine zt_istore_n (pc' := 196) (lv' := [some (.ref (X.1.1 + 164)), some (.int (zI r228)), some (.int (zI 0))]) hX dX12_ask_195 rfl hL (by decide) rfl ?_
                    have L_196_787 : ∀ (N : Nat) (x779 : Int) (s782 : zSto), 0 ≤ x779 → x779 ≤ 10 → zInv s782 → zOn zQk σ s782 → zt s782 = 1 → s782 164 7 = (s356 164 5) → s782 164 8 = (s356 164 6) → ((11 - x779).toNat) < N → zF X s782 196 [some (.ref (X.1.1 + 164)), some (.int (zI r228)), some (.int (zI x779))] [] := by
                      intro N
                      induction N with
                      | zero =>
                        intro x779 s782 h780 h781 hI783 hF784 g785 g786 g787 hm789
                        exact absurd hm789 (Nat.not_lt_zero _)
                      | succ N ih790 =>
                        intro x779 s782 h780 h781 hI783 hF784 g785 g786 g787 hm789
                        have b791 := zv_46_1 hI783 zc_164
                        have b792 := zv_46_2 hI783 zc_164
                        have b793 := zv_46_3 hI783 zc_164
                        have b794 := zv_46_4 hI783 zc_164
                        have b795 := zv_46_5 hI783 zc_164
                        have b796 := zv_46_6 hI783 zc_164
                        have b797 := zv_46_7 hI783 zc_164
                        have b798 := zv_46_8 hI783 zc_164
                        have b799 := zv_46_50 hI783 zc_164
                        have b800 := zv_46_51 hI783 zc_164
                        have b801 := zv_46_97 hI783 zc_164
                        have b802 := zv_46_99 hI783 zc_164
                        have b803 := zv_46_100 hI783 zc_164
                        have b804 := zv_46_101 hI783 zc_164
                        refine zt_iload_n (pc' := 197) hX dX12_ask_196 rfl rfl ?_
                        refine zt_aload_n (pc' := 198) hX dX12_ask_197 rfl rfl ?_
                        refine zt_cVi (pc' := 201) hX dX12_ask_198 rfl zm_yX12_peopleMany zw_38_4 zc_164 (by decide) zs_46 (q := (RX12, TX12, 108)) rfl rfl (zc_X12_peopleMany _ _ s782 hI783 ) rfl rfl (Nat.le_of_ble_eq_true rfl) (by decide) (fun r805 s806 hr807 hp808 => ?_)
                        obtain ⟨rfl, q809, q810, z811⟩ := hp808
                        refine zt_icge (pc' := 204) (tgt := 221) hX dX12_ask_201 rfl (by decide) ⟨by omega, by omega⟩ ⟨by omega, by omega⟩ (fun c812 => ?_) (fun c812 => ?_)
                        · refine zt_aload_n (pc' := 222) hX dX12_ask_221 rfl rfl ?_
                          have b813 := zv_46_104 hI783 zc_164
                          refine zt_get (pc' := 225) (v := .long (zJ (s782 164 104))) hX dX12_ask_222 rfl zf_X12_634 (by decide) zc_164 zs_46 rfl ?_
                          exact zt_lret hX hR dX12_ask_225 ⟨by omega, by omega⟩ ⟨hI783, hF784, by omega, by omega, (fun _ => by rw [← hf]; exact yFl_eq fl402 (by omega) (by omega)), (fun o => absurd o (by omega))⟩
                        · refine zt_aload_n (pc' := 205) hX dX12_ask_204 rfl rfl ?_
                          refine zt_iload_n (pc' := 206) hX dX12_ask_205 rfl rfl ?_
                          refine zt_aload_n (pc' := 207) hX dX12_ask_206 rfl rfl ?_
                          refine zt_iload_n (pc' := 208) hX dX12_ask_207 rfl rfl ?_
                          refine zt_cVl (pc' := 211) hX dX12_ask_208 rfl zm_yX12_qTold zw_66_22 zc_164 (by decide) zs_46 (q := (RX12, TX12, 108)) rfl rfl (zc_X12_qTold_Q _ _ s782 hI783 x779 ⟨by omega, by omega⟩ (by omega)) rfl rfl (Nat.le_of_ble_eq_true rfl) (by decide) (fun r814 s815 hr816 hp817 => ?_)
                          obtain ⟨hI818, hF819, q820, q821⟩ := hp817
                          have hF822 := zOn_tr hF784 (zGN_k (zOn_GN8 hF819)) zi_id
                          have b823 := zv_46_1 hI818 zc_164
                          have b824 := zv_46_2 hI818 zc_164
                          have b825 := zv_46_3 hI818 zc_164
                          have b826 := zv_46_4 hI818 zc_164
                          have b827 := zv_46_5 hI818 zc_164
                          have b828 := zv_46_6 hI818 zc_164
                          have b829 := zv_46_7 hI818 zc_164
                          have b830 := zv_46_8 hI818 zc_164
                          have b831 := zv_46_50 hI818 zc_164
                          have b832 := zv_46_51 hI818 zc_164
                          have b833 := zv_46_97 hI818 zc_164
                          have b834 := zv_46_99 hI818 zc_164
                          have b835 := zv_46_100 hI818 zc_164
                          have b836 := zv_46_101 hI818 zc_164
                          have e837 := hF819 164 1 rfl
                          have e838 := hF819 164 2 rfl
                          have e839 := hF819 164 3 rfl
                          have e840 := hF819 164 4 rfl
                          have e841 := hF819 164 5 rfl
                          have e842 := hF819 164 6 rfl
                          have e843 := hF819 164 7 rfl
                          have e844 := hF819 164 8 rfl
                          have e845 := hF819 164 50 rfl
                          have e846 := hF819 164 97 rfl
                          have e847 := hF819 164 99 rfl
                          have e848 := hF819 164 100 rfl
                          have e849 := hF819 164 101 rfl
                          obtain ⟨-, w850, -, -, -, -, -, -⟩ := zE_q8 hF819
                          refine zt_iload_n (pc' := 212) hX dX12_ask_211 rfl rfl ?_
                          refine zt_cVv (pc' := 215) hX dX12_ask_212 rfl zm_yX12_qTakes zw_67_6 zc_164 (by decide) zs_46 (q := (RX12, TX12, 108)) rfl rfl (zc_X12_qTakes_Q _ _ s815 hI818 r228 ⟨by omega, by omega⟩ r814 ⟨by omega, by omega⟩ x779 ⟨by omega, by omega⟩) rfl rfl (Nat.le_of_ble_eq_true rfl) (by decide) (fun r851 s852 hr853 hp854 => ?_)
                          obtain ⟨hI855, hF856⟩ := hp854
                          have hF857 := zOn_tr hF822 (zGN_k (zOn_GN8 hF856)) zi_id
                          have b858 := zv_46_1 hI855 zc_164
                          have b859 := zv_46_2 hI855 zc_164
                          have b860 := zv_46_3 hI855 zc_164
                          have b861 := zv_46_4 hI855 zc_164
                          have b862 := zv_46_5 hI855 zc_164
                          have b863 := zv_46_6 hI855 zc_164
                          have b864 := zv_46_7 hI855 zc_164
                          have b865 := zv_46_8 hI855 zc_164
                          have b866 := zv_46_50 hI855 zc_164
                          have b867 := zv_46_51 hI855 zc_164
                          have b868 := zv_46_97 hI855 zc_164
                          have b869 := zv_46_99 hI855 zc_164
                          have b870 := zv_46_100 hI855 zc_164
                          have b871 := zv_46_101 hI855 zc_164
                          have e872 := hF856 164 1 rfl
                          have e873 := hF856 164 2 rfl
                          have e874 := hF856 164 3 rfl
                          have e875 := hF856 164 4 rfl
                          have e876 := hF856 164 5 rfl
                          have e877 := hF856 164 6 rfl
                          have e878 := hF856 164 7 rfl
                          have e879 := hF856 164 8 rfl
                          have e880 := hF856 164 50 rfl
                          have e881 := hF856 164 97 rfl
                          have e882 := hF856 164 99 rfl
                          have e883 := hF856 164 100 rfl
                          have e884 := hF856 164 101 rfl
                          obtain ⟨-, w885, -, -, -, -, -, -⟩ := zE_q8 hF856
                          refine zt_iinc (pc' := 218) (lv' := [some (.ref (X.1.1 + 164)), some (.int (zI r228)), some (.int (zI (x779 + 1)))]) hX dX12_ask_215 rfl rfl hL (by decide) rfl ?_
                          refine zt_goto (tgt := 196) hX dX12_ask_218 (by decide) ?_
                          exact ih790 (x779 + 1) s852 (by omega) (by omega) hI855 hF857 (by omega) (by omega) (by omega) (by omega)
                    exact L_196_787 _ 0 s760 (by omega) (by omega) hI762 hF763 (by omega) (by omega) (by omega) (Nat.lt_succ_self _)
                · exact absurd c444 (by omega)
              · refine zt_aload_n (pc' := 125) hX dX12_ask_124 rfl rfl ?_
                refine zt_iconst (pc' := 126) hX dX12_ask_125 rfl ?_
                refine zt_aload_n (pc' := 127) hX dX12_ask_126 rfl rfl ?_
                have b886 := zv_46_2 hI359 zc_164
                refine zt_get (pc' := 130) (v := .int (zI (s356 164 2))) hX dX12_ask_127 rfl zf_X12_252 (by decide) zc_164 zs_46 rfl ?_
                refine zt_cVv (pc' := 133) hX dX12_ask_130 rfl zm_yX12_fail zw_26_19 zc_164 (by decide) zs_46 (q := (RX12, TX12, 108)) rfl rfl (yc_X12_fail _ _ s356 hI359 1 ⟨by omega, by omega⟩ (s356 164 2) ⟨by omega, by omega⟩ f (yTq_w hT363)) rfl rfl (Nat.le_of_ble_eq_true rfl) (by decide) (fun r887 s888 hr889 hp890 => ?_)
                obtain ⟨hI891, hF892, hT893, z894, z895⟩ := hp890
                have hE896 : yqs f s888 = yPno 1 (s356 164 2) p288 := by rw [z894, hE367]
                have hF897 := zOn_tr hF368 (zGN_k (zOn_GN (zOn_up hF892 zi_13))) zi_id
                have b898 := zv_46_1 hI891 zc_164
                have b899 := zv_46_2 hI891 zc_164
                have b900 := zv_46_3 hI891 zc_164
                have b901 := zv_46_4 hI891 zc_164
                have b902 := zv_46_5 hI891 zc_164
                have b903 := zv_46_6 hI891 zc_164
                have b904 := zv_46_7 hI891 zc_164
                have b905 := zv_46_8 hI891 zc_164
                have b906 := zv_46_50 hI891 zc_164
                have b907 := zv_46_51 hI891 zc_164
                have b908 := zv_46_97 hI891 zc_164
                have b909 := zv_46_99 hI891 zc_164
                have b910 := zv_46_100 hI891 zc_164
                have b911 := zv_46_101 hI891 zc_164
                have e912 := hF892 164 1 rfl
                have e913 := hF892 164 3 rfl
                have e914 := hF892 164 7 rfl
                have e915 := hF892 164 8 rfl
                have e916 := hF892 164 50 rfl
                have e917 := hF892 164 51 rfl
                have e918 := hF892 164 97 rfl
                have e919 := hF892 164 99 rfl
                have e920 := hF892 164 100 rfl
                have e921 := hF892 164 101 rfl
                have hn922 := hE896.trans (yQst_m hq309 (yMor_1 ((yHb hT363 hE367).1 (by omega)) hc397 (by omega)) (fun o => by omega))
                have u923 := yHb0 hE896 yPo_no
                have fl924 := yflt (s := s888) hT893 rfl rfl
                rw [hn922] at fl924
                refine zt_aload_n (pc' := 134) hX dX12_ask_133 rfl rfl ?_
                refine zt_aload_n (pc' := 135) hX dX12_ask_134 rfl rfl ?_
                have b925 := zv_46_5 hI891 zc_164
                refine zt_get (pc' := 138) (v := .int (zI (s888 164 5))) hX dX12_ask_135 rfl zf_X12_246 (by decide) zc_164 zs_46 rfl ?_
                refine zt_put (pc' := 141) (x := (s888 164 5)) hX dX12_ask_138 rfl zf_X12_369 (by decide) zc_164 zs_46 (fun q hq => by cases hq; rfl) rfl rfl rfl ?_
                generalize hs927 : zset s888 164 7 (s888 164 5) = s926
                have hI928 : zInv s926 := hs927 ▸ zp_46_7 hI891 zc_164 ⟨by omega, by omega⟩
                have hF929 : zOn zQk σ s926 := hs927 ▸ zOn_set hF897 (by decide)
                have e930 : s926 164 1 = s888 164 1 := by rw [← hs927]; exact zset_j (by decide)
                have e931 : s926 164 2 = s888 164 2 := by rw [← hs927]; exact zset_j (by decide)
                have e932 : s926 164 3 = s888 164 3 := by rw [← hs927]; exact zset_j (by decide)
                have e933 : s926 164 4 = s888 164 4 := by rw [← hs927]; exact zset_j (by decide)
                have e934 : s926 164 5 = s888 164 5 := by rw [← hs927]; exact zset_j (by decide)
                have e935 : s926 164 6 = s888 164 6 := by rw [← hs927]; exact zset_j (by decide)
                have e936 : s926 164 7 = (s888 164 5) := by rw [← hs927]; exact zset_s
                have e937 : s926 164 8 = s888 164 8 := by rw [← hs927]; exact zset_j (by decide)
                have e938 : s926 164 50 = s888 164 50 := by rw [← hs927]; exact zset_j (by decide)
                have e939 : s926 164 51 = s888 164 51 := by rw [← hs927]; exact zset_j (by decide)
                have e940 : s926 164 97 = s888 164 97 := by rw [← hs927]; exact zset_j (by decide)
                have e941 : s926 164 99 = s888 164 99 := by rw [← hs927]; exact zset_j (by decide)
                have e942 : s926 164 100 = s888 164 100 := by rw [← hs927]; exact zset_j (by decide)
                have e943 : s926 164 101 = s888 164 101 := by rw [← hs927]; exact zset_j (by decide)
                obtain ⟨-, w944, -, -, -, -, -, -⟩ := zE_set hs927 (by decide)
                refine zt_aload_n (pc' := 142) hX dX12_ask_141 rfl rfl ?_
                refine zt_aload_n (pc' := 143) hX dX12_ask_142 rfl rfl ?_
                have b945 := zv_46_6 hI928 zc_164
                refine zt_get (pc' := 146) (v := .int (zI (s926 164 6))) hX dX12_ask_143 rfl zf_X12_249 (by decide) zc_164 zs_46 rfl ?_
                refine zt_put (pc' := 149) (x := (s926 164 6)) hX dX12_ask_146 rfl zf_X12_13 (by decide) zc_164 zs_46 (fun q hq => by cases hq; rfl) rfl rfl rfl ?_
                generalize hs947 : zset s926 164 8 (s926 164 6) = s946
                have hI948 : zInv s946 := hs947 ▸ zp_46_8 hI928 zc_164 ⟨by omega, by omega⟩
                have hF949 : zOn zQk σ s946 := hs947 ▸ zOn_set hF929 (by decide)
                have e950 : s946 164 1 = s926 164 1 := by rw [← hs947]; exact zset_j (by decide)
                have e951 : s946 164 2 = s926 164 2 := by rw [← hs947]; exact zset_j (by decide)
                have e952 : s946 164 3 = s926 164 3 := by rw [← hs947]; exact zset_j (by decide)
                have e953 : s946 164 4 = s926 164 4 := by rw [← hs947]; exact zset_j (by decide)
                have e954 : s946 164 5 = s926 164 5 := by rw [← hs947]; exact zset_j (by decide)
                have e955 : s946 164 6 = s926 164 6 := by rw [← hs947]; exact zset_j (by decide)
                have e956 : s946 164 7 = s926 164 7 := by rw [← hs947]; exact zset_j (by decide)
                have e957 : s946 164 8 = (s926 164 6) := by rw [← hs947]; exact zset_s
                have e958 : s946 164 50 = s926 164 50 := by rw [← hs947]; exact zset_j (by decide)
                have e959 : s946 164 51 = s926 164 51 := by rw [← hs947]; exact zset_j (by decide)
                have e960 : s946 164 97 = s926 164 97 := by rw [← hs947]; exact zset_j (by decide)
                have e961 : s946 164 99 = s926 164 99 := by rw [← hs947]; exact zset_j (by decide)
                have e962 : s946 164 100 = s926 164 100 := by rw [← hs947]; exact zset_j (by decide)
                have e963 : s946 164 101 = s926 164 101 := by rw [← hs947]; exact zset_j (by decide)
                obtain ⟨-, w964, -, -, -, -, -, -⟩ := zE_set hs947 (by decide)
                refine zt_aload_n (pc' := 150) hX dX12_ask_149 rfl rfl ?_
                have b965 := zv_46_5 hI948 zc_164
                refine zt_get (pc' := 153) (v := .int (zI (s946 164 5))) hX dX12_ask_150 rfl zf_X12_246 (by decide) zc_164 zs_46 rfl ?_
                refine zt_ifeq (pc' := 156) (tgt := 160) hX dX12_ask_153 rfl (by decide) ⟨by omega, by omega⟩ (fun c966 => ?_) (fun c966 => ?_)
                · exact absurd c966 (by omega)
                · refine zt_ldc2 (pc' := 159) (x := (-1000000000000000)) hX dX12_ask_156 rfl zw_46_2 (by decide +kernel) ?_
                  exact zt_lret hX hR dX12_ask_159 ⟨by omega, by omega⟩ ⟨hI948, hF949, by omega, by omega, (fun _ => by rw [← hf]; exact yFl_eq fl924 (by omega) (by omega)), (fun o => absurd o (by omega))⟩
        · refine zt_aload_n (pc' := 92) hX dX12_ask_91 rfl rfl ?_
          refine zt_cVv (pc' := 95) hX dX12_ask_92 rfl zm_yX12_qTest zw_29_6 zc_164 (by decide) zs_46 (q := (RX12, TX12, 108)) rfl rfl (ye_X12_qTest _ _ s229 hI232 (by omega) (by omega) (by omega) (by omega) (by omega) f hT236 (yWd_g hWd hF238) (by omega) (by omega) (by omega)) rfl rfl (Nat.le_of_ble_eq_true rfl) (by decide) (fun r967 s968 hr969 hp970 => ?_)
          obtain ⟨hI971, hF972, hT973, z974, z975⟩ := hp970
          rw [hE272] at z974
          have hF976 := zOn_tr hF238 (zGN_k (zOn_GN (zOn_up hF972 zi_23))) zi_id
          obtain ⟨p977, hE978⟩ : ∃ p, yqs f s968 = p := ⟨_, rfl⟩
          rw [hE978] at z974
          have b979 := zv_46_1 hI971 zc_164
          have b980 := zv_46_2 hI971 zc_164
          have b981 := zv_46_3 hI971 zc_164
          have b982 := zv_46_4 hI971 zc_164
          have b983 := zv_46_5 hI971 zc_164
          have b984 := zv_46_6 hI971 zc_164
          have b985 := zv_46_7 hI971 zc_164
          have b986 := zv_46_8 hI971 zc_164
          have b987 := zv_46_50 hI971 zc_164
          have b988 := zv_46_51 hI971 zc_164
          have b989 := zv_46_97 hI971 zc_164
          have b990 := zv_46_99 hI971 zc_164
          have b991 := zv_46_100 hI971 zc_164
          have b992 := zv_46_101 hI971 zc_164
          have e993 := hF972 164 1 rfl
          have e994 := hF972 164 3 rfl
          have e995 := hF972 164 7 rfl
          have e996 := hF972 164 8 rfl
          have e997 := hF972 164 50 rfl
          refine zt_goto (tgt := 109) hX dX12_ask_95 (by decide) ?_
          have hq998 : p977 = yQs1 f (yP.ok (yS f 0)) := (yTt_eq z974).symm.trans (yQs_t (by omega))
          refine zt_aload_n (pc' := 110) hX dX12_ask_109 rfl rfl ?_
          have b999 := zv_46_5 hI971 zc_164
          refine zt_get (pc' := 113) (v := .int (zI (s968 164 5))) hX dX12_ask_110 rfl zf_X12_246 (by decide) zc_164 zs_46 rfl ?_
          refine zt_ifne (pc' := 116) (tgt := 133) hX dX12_ask_113 rfl (by decide) ⟨by omega, by omega⟩ (fun c1000 => ?_) (fun c1000 => ?_)
          · have hn1001 := hE978.trans (yQst_b hq998 ((yHb hT973 hE978).2 (by omega)))
            have fl1002 := yflt (s := s968) hT973 rfl rfl
            rw [hn1001] at fl1002
            refine zt_aload_n (pc' := 134) hX dX12_ask_133 rfl rfl ?_
            refine zt_aload_n (pc' := 135) hX dX12_ask_134 rfl rfl ?_
            refine zt_get (pc' := 138) (v := .int (zI (s968 164 5))) hX dX12_ask_135 rfl zf_X12_246 (by decide) zc_164 zs_46 rfl ?_
            refine zt_put (pc' := 141) (x := (s968 164 5)) hX dX12_ask_138 rfl zf_X12_369 (by decide) zc_164 zs_46 (fun q hq => by cases hq; rfl) rfl rfl rfl ?_
            generalize hs1004 : zset s968 164 7 (s968 164 5) = s1003
            have hI1005 : zInv s1003 := hs1004 ▸ zp_46_7 hI971 zc_164 ⟨by omega, by omega⟩
            have hF1006 : zOn zQk σ s1003 := hs1004 ▸ zOn_set hF976 (by decide)
            have e1007 : s1003 164 1 = s968 164 1 := by rw [← hs1004]; exact zset_j (by decide)
            have e1008 : s1003 164 2 = s968 164 2 := by rw [← hs1004]; exact zset_j (by decide)
            have e1009 : s1003 164 3 = s968 164 3 := by rw [← hs1004]; exact zset_j (by decide)
            have e1010 : s1003 164 4 = s968 164 4 := by rw [← hs1004]; exact zset_j (by decide)
            have e1011 : s1003 164 5 = s968 164 5 := by rw [← hs1004]; exact zset_j (by decide)
            have e1012 : s1003 164 6 = s968 164 6 := by rw [← hs1004]; exact zset_j (by decide)
            have e1013 : s1003 164 7 = (s968 164 5) := by rw [← hs1004]; exact zset_s
            have e1014 : s1003 164 8 = s968 164 8 := by rw [← hs1004]; exact zset_j (by decide)
            have e1015 : s1003 164 50 = s968 164 50 := by rw [← hs1004]; exact zset_j (by decide)
            have e1016 : s1003 164 51 = s968 164 51 := by rw [← hs1004]; exact zset_j (by decide)
            have e1017 : s1003 164 97 = s968 164 97 := by rw [← hs1004]; exact zset_j (by decide)
            have e1018 : s1003 164 99 = s968 164 99 := by rw [← hs1004]; exact zset_j (by decide)
            have e1019 : s1003 164 100 = s968 164 100 := by rw [← hs1004]; exact zset_j (by decide)
            have e1020 : s1003 164 101 = s968 164 101 := by rw [← hs1004]; exact zset_j (by decide)
            obtain ⟨-, w1021, -, -, -, -, -, -⟩ := zE_set hs1004 (by decide)
            refine zt_aload_n (pc' := 142) hX dX12_ask_141 rfl rfl ?_
            refine zt_aload_n (pc' := 143) hX dX12_ask_142 rfl rfl ?_
            have b1022 := zv_46_6 hI1005 zc_164
            refine zt_get (pc' := 146) (v := .int (zI (s1003 164 6))) hX dX12_ask_143 rfl zf_X12_249 (by decide) zc_164 zs_46 rfl ?_
            refine zt_put (pc' := 149) (x := (s1003 164 6)) hX dX12_ask_146 rfl zf_X12_13 (by decide) zc_164 zs_46 (fun q hq => by cases hq; rfl) rfl rfl rfl ?_
            generalize hs1024 : zset s1003 164 8 (s1003 164 6) = s1023
            have hI1025 : zInv s1023 := hs1024 ▸ zp_46_8 hI1005 zc_164 ⟨by omega, by omega⟩
            have hF1026 : zOn zQk σ s1023 := hs1024 ▸ zOn_set hF1006 (by decide)
            have e1027 : s1023 164 1 = s1003 164 1 := by rw [← hs1024]; exact zset_j (by decide)
            have e1028 : s1023 164 2 = s1003 164 2 := by rw [← hs1024]; exact zset_j (by decide)
            have e1029 : s1023 164 3 = s1003 164 3 := by rw [← hs1024]; exact zset_j (by decide)
            have e1030 : s1023 164 4 = s1003 164 4 := by rw [← hs1024]; exact zset_j (by decide)
            have e1031 : s1023 164 5 = s1003 164 5 := by rw [← hs1024]; exact zset_j (by decide)
            have e1032 : s1023 164 6 = s1003 164 6 := by rw [← hs1024]; exact zset_j (by decide)
            have e1033 : s1023 164 7 = s1003 164 7 := by rw [← hs1024]; exact zset_j (by decide)
            have e1034 : s1023 164 8 = (s1003 164 6) := by rw [← hs1024]; exact zset_s
            have e1035 : s1023 164 50 = s1003 164 50 := by rw [← hs1024]; exact zset_j (by decide)
            have e1036 : s1023 164 51 = s1003 164 51 := by rw [← hs1024]; exact zset_j (by decide)
            have e1037 : s1023 164 97 = s1003 164 97 := by rw [← hs1024]; exact zset_j (by decide)
            have e1038 : s1023 164 99 = s1003 164 99 := by rw [← hs1024]; exact zset_j (by decide)
            have e1039 : s1023 164 100 = s1003 164 100 := by rw [← hs1024]; exact zset_j (by decide)
            have e1040 : s1023 164 101 = s1003 164 101 := by rw [← hs1024]; exact zset_j (by decide)
            obtain ⟨-, w1041, -, -, -, -, -, -⟩ := zE_set hs1024 (by decide)
            refine zt_aload_n (pc' := 150) hX dX12_ask_149 rfl rfl ?_
            have b1042 := zv_46_5 hI1025 zc_164
            refine zt_get (pc' := 153) (v := .int (zI (s1023 164 5))) hX dX12_ask_150 rfl zf_X12_246 (by decide) zc_164 zs_46 rfl ?_
            refine zt_ifeq (pc' := 156) (tgt := 160) hX dX12_ask_153 rfl (by decide) ⟨by omega, by omega⟩ (fun c1043 => ?_) (fun c1043 => ?_)
            · exact absurd c1043 (by omega)
            · refine zt_ldc2 (pc' := 159) (x := (-1000000000000000)) hX dX12_ask_156 rfl zw_46_2 (by decide +kernel) ?_
              exact zt_lret hX hR dX12_ask_159 ⟨by omega, by omega⟩ ⟨hI1025, hF1026, by omega, by omega, (fun _ => by rw [← hf]; exact yFl_eq fl1002 (by omega) (by omega)), (fun o => absurd o (by omega))⟩
          · refine zt_aload_n (pc' := 117) hX dX12_ask_116 rfl rfl ?_
            refine zt_cVi (pc' := 120) hX dX12_ask_117 rfl zm_yX12_look zw_26_12 zc_164 (by decide) zs_46 (q := (RX12, TX12, 108)) rfl rfl (yc_X12_look _ _ s968 hI971 f hT973) rfl rfl (Nat.le_of_ble_eq_true rfl) (by decide) (fun r1044 s1045 hr1046 hp1047 => ?_)
            obtain ⟨hI1048, hF1049, q1050, q1051, hT1052, z1053, z1054, z1055⟩ := hp1047
            have hE1056 : yqs f s1045 = p977 := by rw [z1053, hE978]
            have hF1057 := zOn_tr hF976 (zGN_k (zOn_GN (zOn_up (zOn_tr (zOn_rf zQ1 _) hF1049 zi_a1) zi_13))) zi_id
            have b1058 := zv_46_1 hI1048 zc_164
            have b1059 := zv_46_2 hI1048 zc_164
            have b1060 := zv_46_3 hI1048 zc_164
            have b1061 := zv_46_4 hI1048 zc_164
            have b1062 := zv_46_5 hI1048 zc_164
            have b1063 := zv_46_6 hI1048 zc_164
            have b1064 := zv_46_7 hI1048 zc_164
            have b1065 := zv_46_8 hI1048 zc_164
            have b1066 := zv_46_50 hI1048 zc_164
            have b1067 := zv_46_51 hI1048 zc_164
            have b1068 := zv_46_97 hI1048 zc_164
            have b1069 := zv_46_99 hI1048 zc_164
            have b1070 := zv_46_100 hI1048 zc_164
            have b1071 := zv_46_101 hI1048 zc_164
            have e1072 := hF1049 164 1 rfl
            have e1073 := hF1049 164 3 rfl
            have e1074 := hF1049 164 4 rfl
            have e1075 := hF1049 164 5 rfl
            have e1076 := hF1049 164 6 rfl
            have e1077 := hF1049 164 7 rfl
            have e1078 := hF1049 164 8 rfl
            have e1079 := hF1049 164 50 rfl
            have e1080 := hF1049 164 51 rfl
            have e1081 := hF1049 164 97 rfl
            have e1082 := hF1049 164 99 rfl
            have e1083 := hF1049 164 100 rfl
            have e1084 := hF1049 164 101 rfl
            have hq1085 : s1045 164 2 = yPq p977 := yat_q hE978 (by omega) z1054
            have hc1086 : f (yPq p977) = r1044 := by rw [← hq1085]; exact z1055.symm
            clear z1054 z1055
            obtain ⟨-, w1087, -, -, -, -, -, -⟩ := zE_q1 (zOn_tr (zOn_rf zQ1 _) hF1049 zi_a1)
            refine zt_iconst (pc' := 121) hX dX12_ask_120 rfl ?_
            refine zt_iceq (pc' := 124) (tgt := 133) hX dX12_ask_121 rfl (by decide) ⟨by omega, by omega⟩ ⟨by omega, by omega⟩ (fun c1088 => ?_) (fun c1088 => ?_)
            · have hn1089 := hE1056.trans (yQst_n hq998 (yMor_0 hc1086 (by omega)))
              have u1090 := z975 (by omega)
              have fl1091 := yflt (s := s1045) hT1052 rfl rfl
              rw [hn1089] at fl1091
              refine zt_aload_n (pc' := 134) hX dX12_ask_133 rfl rfl ?_
              refine zt_aload_n (pc' := 135) hX dX12_ask_134 rfl rfl ?_
              have b1092 := zv_46_5 hI1048 zc_164
              refine zt_get (pc' := 138) (v := .int (zI (s1045 164 5))) hX dX12_ask_135 rfl zf_X12_246 (by decide) zc_164 zs_46 rfl ?_
              refine zt_put (pc' := 141) (x := (s1045 164 5)) hX dX12_ask_138 rfl zf_X12_369 (by decide) zc_164 zs_46 (fun q hq => by cases hq; rfl) rfl rfl rfl ?_
              generalize hs1094 : zset s1045 164 7 (s1045 164 5) = s1093
              have hI1095 : zInv s1093 := hs1094 ▸ zp_46_7 hI1048 zc_164 ⟨by omega, by omega⟩
              have hF1096 : zOn zQk σ s1093 := hs1094 ▸ zOn_set hF1057 (by decide)
              have e1097 : s1093 164 1 = s1045 164 1 := by rw [← hs1094]; exact zset_j (by decide)
              have e1098 : s1093 164 2 = s1045 164 2 := by rw [← hs1094]; exact zset_j (by decide)
              have e1099 : s1093 164 3 = s1045 164 3 := by rw [← hs1094]; exact zset_j (by decide)
              have e1100 : s1093 164 4 = s1045 164 4 := by rw [← hs1094]; exact zset_j (by decide)
              have e1101 : s1093 164 5 = s1045 164 5 := by rw [← hs1094]; exact zset_j (by decide)
              have e1102 : s1093 164 6 = s1045 164 6 := by rw [← hs1094]; exact zset_j (by decide)
              have e1103 : s1093 164 7 = (s1045 164 5) := by rw [← hs1094]; exact zset_s
              have e1104 : s1093 164 8 = s1045 164 8 := by rw [← hs1094]; exact zset_j (by decide)
              have e1105 : s1093 164 50 = s1045 164 50 := by rw [← hs1094]; exact zset_j (by decide)
              have e1106 : s1093 164 51 = s1045 164 51 := by rw [← hs1094]; exact zset_j (by decide)
              have e1107 : s1093 164 97 = s1045 164 97 := by rw [← hs1094]; exact zset_j (by decide)
              have e1108 : s1093 164 99 = s1045 164 99 := by rw [← hs1094]; exact zset_j (by decide)
              have e1109 : s1093 164 100 = s1045 164 100 := by rw [← hs1094]; exact zset_j (by decide)
              have e1110 : s1093 164 101 = s1045 164 101 := by rw [← hs1094]; exact zset_j (by decide)
              obtain ⟨-, w1111, -, -, -, -, -, -⟩ := zE_set hs1094 (by decide)
              refine zt_aload_n (pc' := 142) hX dX12_ask_141 rfl rfl ?_
              refine zt_aload_n (pc' := 143) hX dX12_ask_142 rfl rfl ?_
              have b1112 := zv_46_6 hI1095 zc_164
              refine zt_get (pc' := 146) (v := .int (zI (s1093 164 6))) hX dX12_ask_143 rfl zf_X12_249 (by decide) zc_164 zs_46 rfl ?_
              refine zt_put (pc' := 149) (x := (s1093 164 6)) hX dX12_ask_146 rfl zf_X12_13 (by decide) zc_164 zs_46 (fun q hq => by cases hq; rfl) rfl rfl rfl ?_
              generalize hs1114 : zset s1093 164 8 (s1093 164 6) = s1113
              have hI1115 : zInv s1113 := hs1114 ▸ zp_46_8 hI1095 zc_164 ⟨by omega, by omega⟩
              have hF1116 : zOn zQk σ s1113 := hs1114 ▸ zOn_set hF1096 (by decide)
              have e1117 : s1113 164 1 = s1093 164 1 := by rw [← hs1114]; exact zset_j (by decide)
              have e1118 : s1113 164 2 = s1093 164 2 := by rw [← hs1114]; exact zset_j (by decide)
              have e1119 : s1113 164 3 = s1093 164 3 := by rw [← hs1114]; exact zset_j (by decide)
              have e1120 : s1113 164 4 = s1093 164 4 := by rw [← hs1114]; exact zset_j (by decide)
              have e1121 : s1113 164 5 = s1093 164 5 := by rw [← hs1114]; exact zset_j (by decide)
              have e1122 : s1113 164 6 = s1093 164 6 := by rw [← hs1114]; exact zset_j (by decide)
              have e1123 : s1113 164 7 = s1093 164 7 := by rw [← hs1114]; exact zset_j (by decide)
              have e1124 : s1113 164 8 = (s1093 164 6) := by rw [← hs1114]; exact zset_s
              have e1125 : s1113 164 50 = s1093 164 50 := by rw [← hs1114]; exact zset_j (by decide)
              have e1126 : s1113 164 51 = s1093 164 51 := by rw [← hs1114]; exact zset_j (by decide)
              have e1127 : s1113 164 97 = s1093 164 97 := by rw [← hs1114]; exact zset_j (by decide)
              have e1128 : s1113 164 99 = s1093 164 99 := by rw [← hs1114]; exact zset_j (by decide)
              have e1129 : s1113 164 100 = s1093 164 100 := by rw [← hs1114]; exact zset_j (by decide)
              have e1130 : s1113 164 101 = s1093 164 101 := by rw [← hs1114]; exact zset_j (by decide)
              obtain ⟨-, w1131, -, -, -, -, -, -⟩ := zE_set hs1114 (by decide)
              refine zt_aload_n (pc' := 150) hX dX12_ask_149 rfl rfl ?_
              have b1132 := zv_46_5 hI1115 zc_164
              refine zt_get (pc' := 153) (v := .int (zI (s1113 164 5))) hX dX12_ask_150 rfl zf_X12_246 (by decide) zc_164 zs_46 rfl ?_
              refine zt_ifeq (pc' := 156) (tgt := 160) hX dX12_ask_153 rfl (by decide) ⟨by omega, by omega⟩ (fun c1133 => ?_) (fun c1133 => ?_)
              · refine zt_aload_n (pc' := 161) hX dX12_ask_160 rfl rfl ?_
                refine zt_iload_n (pc' := 162) hX dX12_ask_161 rfl rfl ?_
                refine zt_iconst (pc' := 163) hX dX12_ask_162 rfl ?_
                refine zt_icge (pc' := 166) (tgt := 172) hX dX12_ask_163 rfl (by decide) ⟨by omega, by omega⟩ ⟨by omega, by omega⟩ (fun c1134 => ?_) (fun c1134 => ?_)
                · refine zt_lconst (pc' := 173) (y := 0) hX dX12_ask_172 rfl (by decide +kernel) ?_
                  refine zt_put (pc' := 176) (x := 0) hX dX12_ask_173 rfl zf_X12_634 (by decide) zc_164 zs_46 (fun q hq => by cases hq; rfl) rfl rfl rfl ?_
                  generalize hs1136 : zset s1113 164 104 0 = s1135
                  have hI1137 : zInv s1135 := hs1136 ▸ zp_46_104 hI1115 zc_164 ⟨by omega, by omega⟩
                  have hF1138 : zOn zQk σ s1135 := hs1136 ▸ zOn_set hF1116 (by decide)
                  have e1139 : s1135 164 1 = s1113 164 1 := by rw [← hs1136]; exact zset_j (by decide)
                  have e1140 : s1135 164 2 = s1113 164 2 := by rw [← hs1136]; exact zset_j (by decide)
                  have e1141 : s1135 164 3 = s1113 164 3 := by rw [← hs1136]; exact zset_j (by decide)
                  have e1142 : s1135 164 4 = s1113 164 4 := by rw [← hs1136]; exact zset_j (by decide)
                  have e1143 : s1135 164 5 = s1113 164 5 := by rw [← hs1136]; exact zset_j (by decide)
                  have e1144 : s1135 164 6 = s1113 164 6 := by rw [← hs1136]; exact zset_j (by decide)
                  have e1145 : s1135 164 7 = s1113 164 7 := by rw [← hs1136]; exact zset_j (by decide)
                  have e1146 : s1135 164 8 = s1113 164 8 := by rw [← hs1136]; exact zset_j (by decide)
                  have e1147 : s1135 164 50 = s1113 164 50 := by rw [← hs1136]; exact zset_j (by decide)
                  have e1148 : s1135 164 51 = s1113 164 51 := by rw [← hs1136]; exact zset_j (by decide)
                  have e1149 : s1135 164 97 = s1113 164 97 := by rw [← hs1136]; exact zset_j (by decide)
                  have e1150 : s1135 164 99 = s1113 164 99 := by rw [← hs1136]; exact zset_j (by decide)
                  have e1151 : s1135 164 100 = s1113 164 100 := by rw [← hs1136]; exact zset_j (by decide)
                  have e1152 : s1135 164 101 = s1113 164 101 := by rw [← hs1136]; exact zset_j (by decide)
                  obtain ⟨-, w1153, -, -, -, -, -, -⟩ := zE_set hs1136 (by decide)
                  refine zt_aload_n (pc' := 177) hX dX12_ask_176 rfl rfl ?_
                  refine zt_iconst (pc' := 178) hX dX12_ask_177 rfl ?_
                  refine zt_put (pc' := 181) (x := 1) hX dX12_ask_178 rfl zf_X12_639 (by decide) zc_164 zs_46 (fun q hq => by cases hq; rfl) rfl (zfit_z (by omega) (by omega)).1 (zfit_z (by omega) (by omega)).2 ?_
                  generalize hs1155 : zset s1135 164 105 1 = s1154
                  have hI1156 : zInv s1154 := hs1155 ▸ zp_46_105 hI1137 zc_164 ⟨by omega, by omega⟩
                  have hF1157 : zOn zQk σ s1154 := hs1155 ▸ zOn_set hF1138 (by decide)
                  have e1158 : s1154 164 1 = s1135 164 1 := by rw [← hs1155]; exact zset_j (by decide)
                  have e1159 : s1154 164 2 = s1135 164 2 := by rw [← hs1155]; exact zset_j (by decide)
                  have e1160 : s1154 164 3 = s1135 164 3 := by rw [← hs1155]; exact zset_j (by decide)
                  have e1161 : s1154 164 4 = s1135 164 4 := by rw [← hs1155]; exact zset_j (by decide)
                  have e1162 : s1154 164 5 = s1135 164 5 := by rw [← hs1155]; exact zset_j (by decide)
                  have e1163 : s1154 164 6 = s1135 164 6 := by rw [← hs1155]; exact zset_j (by decide)
                  have e1164 : s1154 164 7 = s1135 164 7 := by rw [← hs1155]; exact zset_j (by decide)
                  have e1165 : s1154 164 8 = s1135 164 8 := by rw [← hs1155]; exact zset_j (by decide)
                  have e1166 : s1154 164 50 = s1135 164 50 := by rw [← hs1155]; exact zset_j (by decide)
                  have e1167 : s1154 164 51 = s1135 164 51 := by rw [← hs1155]; exact zset_j (by decide)
                  have e1168 : s1154 164 97 = s1135 164 97 := by rw [← hs1155]; exact zset_j (by decide)
                  have e1169 : s1154 164 99 = s1135 164 99 := by rw [← hs1155]; exact zset_j (by decide)
                  have e1170 : s1154 164 100 = s1135 164 100 := by rw [← hs1155]; exact zset_j (by decide)
                  have e1171 : s1154 164 101 = s1135 164 101 := by rw [← hs1155]; exact zset_j (by decide)
                  obtain ⟨-, w1172, -, -, -, -, -, -⟩ := zE_set hs1155 (by decide)
                  refine zt_aload_n (pc' := 182) hX dX12_ask_181 rfl rfl ?_
                  refine zt_aload_n (pc' := 183) hX dX12_ask_182 rfl rfl ?_
                  refine zt_cVi (pc' := 186) hX dX12_ask_183 rfl zm_yX12_holders zw_38_12 zc_164 (by decide) zs_46 (q := (RX12, TX12, 108)) rfl rfl (zc_X12_holders_Q _ _ s1154 hI1156 (zWF_N hW (zOn_g hF1157))) rfl rfl (Nat.le_of_ble_eq_true rfl) (by decide) (fun r1173 s1174 hr1175 hp1176 => ?_)
                  obtain ⟨hI1177, hF1178, q1179, q1180⟩ := hp1176
                  have hF1181 := zOn_tr hF1157 (zGN_k (zOn_GN8 hF1178)) zi_id
                  have b1182 := zv_46_1 hI1177 zc_164
                  have b1183 := zv_46_2 hI1177 zc_164
                  have b1184 := zv_46_3 hI1177 zc_164
                  have b1185 := zv_46_4 hI1177 zc_164
                  have b1186 := zv_46_5 hI1177 zc_164
                  have b1187 := zv_46_6 hI1177 zc_164
                  have b1188 := zv_46_7 hI1177 zc_164
                  have b1189 := zv_46_8 hI1177 zc_164
                  have b1190 := zv_46_50 hI1177 zc_164
                  have b1191 := zv_46_51 hI1177 zc_164
                  have b1192 := zv_46_97 hI1177 zc_164
                  have b1193 := zv_46_99 hI1177 zc_164
                  have b1194 := zv_46_100 hI1177 zc_164
                  have b1195 := zv_46_101 hI1177 zc_164
                  have e1196 := hF1178 164 1 rfl
                  have e1197 := hF1178 164 2 rfl
                  have e1198 := hF1178 164 3 rfl
                  have e1199 := hF1178 164 4 rfl
                  have e1200 := hF1178 164 5 rfl
                  have e1201 := hF1178 164 6 rfl
                  have e1202 := hF1178 164 7 rfl
                  have e1203 := hF1178 164 8 rfl
                  have e1204 := hF1178 164 50 rfl
                  have e1205 := hF1178 164 97 rfl
                  have e1206 := hF1178 164 99 rfl
                  have e1207 := hF1178 164 100 rfl
                  have e1208 := hF1178 164 101 rfl
                  obtain ⟨-, w1209, -, -, -, -, -, -⟩ := zE_q8 hF1178
                  refine zt_put (pc' := 189) (x := r1173) hX dX12_ask_186 rfl zf_X12_627 (by decide) zc_164 zs_46 (fun q hq => by cases hq; rfl) rfl rfl rfl ?_
                  generalize hs1211 : zset s1174 164 56 r1173 = s1210
                  have hI1212 : zInv s1210 := hs1211 ▸ zp_46_56 hI1177 zc_164 ⟨by omega, by omega⟩
                  have hF1213 : zOn zQk σ s1210 := hs1211 ▸ zOn_set hF1181 (by decide)
                  have e1214 : s1210 164 1 = s1174 164 1 := by rw [← hs1211]; exact zset_j (by decide)
                  have e1215 : s1210 164 2 = s1174 164 2 := by rw [← hs1211]; exact zset_j (by decide)
                  have e1216 : s1210 164 3 = s1174 164 3 := by rw [← hs1211]; exact zset_j (by decide)
                  have e1217 : s1210 164 4 = s1174 164 4 := by rw [← hs1211]; exact zset_j (by decide)
                  have e1218 : s1210 164 5 = s1174 164 5 := by rw [← hs1211]; exact zset_j (by decide)
                  have e1219 : s1210 164 6 = s1174 164 6 := by rw [← hs1211]; exact zset_j (by decide)
                  have e1220 : s1210 164 7 = s1174 164 7 := by rw [← hs1211]; exact zset_j (by decide)
                  have e1221 : s1210 164 8 = s1174 164 8 := by rw [← hs1211]; exact zset_j (by decide)
                  have e1222 : s1210 164 50 = s1174 164 50 := by rw [← hs1211]; exact zset_j (by decide)
                  have e1223 : s1210 164 51 = s1174 164 51 := by rw [← hs1211]; exact zset_j (by decide)
                  have e1224 : s1210 164 97 = s1174 164 97 := by rw [← hs1211]; exact zset_j (by decide)
                  have e1225 : s1210 164 99 = s1174 164 99 := by rw [← hs1211]; exact zset_j (by decide)
                  have e1226 : s1210 164 100 = s1174 164 100 := by rw [← hs1211]; exact zset_j (by decide)
                  have e1227 : s1210 164 101 = s1174 164 101 := by rw [← hs1211]; exact zset_j (by decide)
                  obtain ⟨-, w1228, -, -, -, -, -, -⟩ := zE_set hs1211 (by decide)
                  refine zt_aload_n (pc' := 190) hX dX12_ask_189 rfl rfl ?_
                  refine zt_iconst (pc' := 191) hX dX12_ask_190 rfl ?_
                  refine zt_put (pc' := 194) (x := 2) hX dX12_ask_191 rfl zf_X12_304 (by decide) zc_164 zs_46 (fun q hq => by cases hq; rfl) rfl rfl rfl ?_
                  generalize hs1230 : zset s1210 164 51 2 = s1229
                  have hI1231 : zInv s1229 := hs1230 ▸ zp_46_51 hI1212 zc_164 ⟨by omega, by omega⟩
                  have hF1232 : zOn zQk σ s1229 := hs1230 ▸ zOn_set hF1213 (by decide)
                  have e1233 : s1229 164 1 = s1210 164 1 := by rw [← hs1230]; exact zset_j (by decide)
                  have e1234 : s1229 164 2 = s1210 164 2 := by rw [← hs1230]; exact zset_j (by decide)
                  have e1235 : s1229 164 3 = s1210 164 3 := by rw [← hs1230]; exact zset_j (by decide)
                  have e1236 : s1229 164 4 = s1210 164 4 := by rw [← hs1230]; exact zset_j (by decide)
                  have e1237 : s1229 164 5 = s1210 164 5 := by rw [← hs1230]; exact zset_j (by decide)
                  have e1238 : s1229 164 6 = s1210 164 6 := by rw [← hs1230]; exact zset_j (by decide)
                  have e1239 : s1229 164 7 = s1210 164 7 := by rw [← hs1230]; exact zset_j (by decide)
                  have e1240 : s1229 164 8 = s1210 164 8 := by rw [← hs1230]; exact zset_j (by decide)
                  have e1241 : s1229 164 50 = s1210 164 50 := by rw [← hs1230]; exact zset_j (by decide)
                  have e1242 : s1229 164 51 = 2 := by rw [← hs1230]; exact zset_s
                  have e1243 : s1229 164 97 = s1210 164 97 := by rw [← hs1230]; exact zset_j (by decide)
                  have e1244 : s1229 164 99 = s1210 164 99 := by rw [← hs1230]; exact zset_j (by decide)
                  have e1245 : s1229 164 100 = s1210 164 100 := by rw [← hs1230]; exact zset_j (by decide)
                  have e1246 : s1229 164 101 = s1210 164 101 := by rw [← hs1230]; exact zset_j (by decide)
                  obtain ⟨-, w1247, -, -, -, -, -, -⟩ := zE_set hs1230 (by decide)
                  refine zt_iconst (pc' := 195) hX dX12_ask_194 rfl ?_
                  refine zt_istore_n (pc' := 196) (lv' := [some (.ref (X.1.1 + 164)), some (.int (zI r228)), some (.int (zI 0))]) hX dX12_ask_195 rfl hL (by decide) rfl ?_
                  have L_196_1256 : ∀ (N : Nat) (x1248 : Int) (s1251 : zSto), 0 ≤ x1248 → x1248 ≤ 10 → zInv s1251 → zOn zQk σ s1251 → zt s1251 = 1 → s1251 164 7 = (s1045 164 5) → s1251 164 8 = (s1045 164 6) → ((11 - x1248).toNat) < N → zF X s1251 196 [some (.ref (X.1.1 + 164)), some (.int (zI r228)), some (.int (zI x1248))] [] := by
                    intro N
                    induction N with
                    | zero =>
                      intro x1248 s1251 h1249 h1250 hI1252 hF1253 g1254 g1255 g1256 hm1258
                      exact absurd hm1258 (Nat.not_lt_zero _)
                    | succ N ih1259 =>
                      intro x1248 s1251 h1249 h1250 hI1252 hF1253 g1254 g1255 g1256 hm1258
                      have b1260 := zv_46_1 hI1252 zc_164
                      have b1261 := zv_46_2 hI1252 zc_164
                      have b1262 := zv_46_3 hI1252 zc_164
                      have b1263 := zv_46_4 hI1252 zc_164
                      have b1264 := zv_46_5 hI1252 zc_164
                      have b1265 := zv_46_6 hI1252 zc_164
                      have b1266 := zv_46_7 hI1252 zc_164
                      have b1267 := zv_46_8 hI1252 zc_164
                      have b1268 := zv_46_50 hI1252 zc_164
                      have b1269 := zv_46_51 hI1252 zc_164
                      have b1270 := zv_46_97 hI1252 zc_164
                      have b1271 := zv_46_99 hI1252 zc_164
                      have b1272 := zv_46_100 hI1252 zc_164
                      have b1273 := zv_46_101 hI1252 zc_164
                      refine zt_iload_n (pc' := 197) hX dX12_ask_196 rfl rfl ?_
                      refine zt_aload_n (pc' := 198) hX dX12_ask_197 rfl rfl ?_
                      refine zt_cVi (pc' := 201) hX dX12_ask_198 rfl zm_yX12_peopleMany zw_38_4 zc_164 (by decide) zs_46 (q := (RX12, TX12, 108)) rfl rfl (zc_X12_peopleMany _ _ s1251 hI1252 ) rfl rfl (Nat.le_of_ble_eq_true rfl) (by decide) (fun r1274 s1275 hr1276 hp1277 => ?_)
                      obtain ⟨rfl, q1278, q1279, z1280⟩ := hp1277
                      refine zt_icge (pc' := 204) (tgt := 221) hX dX12_ask_201 rfl (by decide) ⟨by omega, by omega⟩ ⟨by omega, by omega⟩ (fun c1281 => ?_) (fun c1281 => ?_)
                      · refine zt_aload_n (pc' := 222) hX dX12_ask_221 rfl rfl ?_
                        have b1282 := zv_46_104 hI1252 zc_164
                        refine zt_get (pc' := 225) (v := .long (zJ (s1251 164 104))) hX dX12_ask_222 rfl zf_X12_634 (by decide) zc_164 zs_46 rfl ?_
                        exact zt_lret hX hR dX12_ask_225 ⟨by omega, by omega⟩ ⟨hI1252, hF1253, by omega, by omega, (fun _ => by rw [← hf]; exact yFl_eq fl1091 (by omega) (by omega)), (fun o => absurd o (by omega))⟩
                      · refine zt_aload_n (pc' := 205) hX dX12_ask_204 rfl rfl ?_
                        refine zt_iload_n (pc' := 206) hX dX12_ask_205 rfl rfl ?_
                        refine zt_aload_n (pc' := 207) hX dX12_ask_206 rfl rfl ?_
                        refine zt_iload_n (pc' := 208) hX dX12_ask_207 rfl rfl ?_
                        refine zt_cVl (pc' := 211) hX dX12_ask_208 rfl zm_yX12_qTold zw_66_22 zc_164 (by decide) zs_46 (q := (RX12, TX12, 108)) rfl rfl (zc_X12_qTold_Q _ _ s1251 hI1252 x1248 ⟨by omega, by omega⟩ (by omega)) rfl rfl (Nat.le_of_ble_eq_true rfl) (by decide) (fun r1283 s1284 hr1285 hp1286 => ?_)
                        obtain ⟨hI1287, hF1288, q1289, q1290⟩ := hp1286
                        have hF1291 := zOn_tr hF1253 (zGN_k (zOn_GN8 hF1288)) zi_id
                        have b1292 := zv_46_1 hI1287 zc_164
                        have b1293 := zv_46_2 hI1287 zc_164
                        have b1294 := zv_46_3 hI1287 zc_164
                        have b1295 := zv_46_4 hI1287 zc_164
                        have b1296 := zv_46_5 hI1287 zc_164
                        have b1297 := zv_46_6 hI1287 zc_164
                        have b1298 := zv_46_7 hI1287 zc_164
                        have b1299 := zv_46_8 hI1287 zc_164
                        have b1300 := zv_46_50 hI1287 zc_164
                        have b1301 := zv_46_51 hI1287 zc_164
                        have b1302 := zv_46_97 hI1287 zc_164
                        have b1303 := zv_46_99 hI1287 zc_164
                        have b1304 := zv_46_100 hI1287 zc_164
                        have b1305 := zv_46_101 hI1287 zc_164
                        have e1306 := hF1288 164 1 rfl
                        have e1307 := hF1288 164 2 rfl
                        have e1308 := hF1288 164 3 rfl
                        have e1309 := hF1288 164 4 rfl
                        have e1310 := hF1288 164 5 rfl
                        have e1311 := hF1288 164 6 rfl
                        have e1312 := hF1288 164 7 rfl
                        have e1313 := hF1288 164 8 rfl
                        have e1314 := hF1288 164 50 rfl
                        have e1315 := hF1288 164 97 rfl
                        have e1316 := hF1288 164 99 rfl
                        have e1317 := hF1288 164 100 rfl
                        have e1318 := hF1288 164 101 rfl
                        obtain ⟨-, w1319, -, -, -, -, -, -⟩ := zE_q8 hF1288
                        refine zt_iload_n (pc' := 212) hX dX12_ask_211 rfl rfl ?_
                        refine zt_cVv (pc' := 215) hX dX12_ask_212 rfl zm_yX12_qTakes zw_67_6 zc_164 (by decide) zs_46 (q := (RX12, TX12, 108)) rfl rfl (zc_X12_qTakes_Q _ _ s1284 hI1287 r228 ⟨by omega, by omega⟩ r1283 ⟨by omega, by omega⟩ x1248 ⟨by omega, by omega⟩) rfl rfl (Nat.le_of_ble_eq_true rfl) (by decide) (fun r1320 s1321 hr1322 hp1323 => ?_)
                        obtain ⟨hI1324, hF1325⟩ := hp1323
                        have hF1326 := zOn_tr hF1291 (zGN_k (zOn_GN8 hF1325)) zi_id
                        have b1327 := zv_46_1 hI1324 zc_164
                        have b1328 := zv_46_2 hI1324 zc_164
                        have b1329 := zv_46_3 hI1324 zc_164
                        have b1330 := zv_46_4 hI1324 zc_164
                        have b1331 := zv_46_5 hI1324 zc_164
                        have b1332 := zv_46_6 hI1324 zc_164
                        have b1333 := zv_46_7 hI1324 zc_164
                        have b1334 := zv_46_8 hI1324 zc_164
                        have b1335 := zv_46_50 hI1324 zc_164
                        have b1336 := zv_46_51 hI1324 zc_164
                        have b1337 := zv_46_97 hI1324 zc_164
                        have b1338 := zv_46_99 hI1324 zc_164
                        have b1339 := zv_46_100 hI1324 zc_164
                        have b1340 := zv_46_101 hI1324 zc_164
                        have e1341 := hF1325 164 1 rfl
                        have e1342 := hF1325 164 2 rfl
                        have e1343 := hF1325 164 3 rfl
                        have e1344 := hF1325 164 4 rfl
                        have e1345 := hF1325 164 5 rfl
                        have e1346 := hF1325 164 6 rfl
                        have e1347 := hF1325 164 7 rfl
                        have e1348 := hF1325 164 8 rfl
                        have e1349 := hF1325 164 50 rfl
                        have e1350 := hF1325 164 97 rfl
                        have e1351 := hF1325 164 99 rfl
                        have e1352 := hF1325 164 100 rfl
                        have e1353 := hF1325 164 101 rfl
                        obtain ⟨-, w1354, -, -, -, -, -, -⟩ := zE_q8 hF1325
                        refine zt_iinc (pc' := 218) (lv' := [some (.ref (X.1.1 + 164)), some (.int (zI r228)), some (.int (zI (x1248 + 1)))]) hX dX12_ask_215 rfl rfl hL (by decide) rfl ?_
                        refine zt_goto (tgt := 196) hX dX12_ask_218 (by decide) ?_
                        exact ih1259 (x1248 + 1) s1321 (by omega) (by omega) hI1324 hF1326 (by omega) (by omega) (by omega) (by omega)
                  exact L_196_1256 _ 0 s1229 (by omega) (by omega) hI1231 hF1232 (by omega) (by omega) (by omega) (Nat.lt_succ_self _)
                · refine zt_ldc2 (pc' := 169) (x := (-1)) hX dX12_ask_166 rfl zw_66_15 (by decide +kernel) ?_
                  refine zt_goto (tgt := 173) hX dX12_ask_169 (by decide) ?_
                  refine zt_put (pc' := 176) (x := (-1)) hX dX12_ask_173 rfl zf_X12_634 (by decide) zc_164 zs_46 (fun q hq => by cases hq; rfl) rfl rfl rfl ?_
                  generalize hs1356 : zset s1113 164 104 (-1) = s1355
                  have hI1357 : zInv s1355 := hs1356 ▸ zp_46_104 hI1115 zc_164 ⟨by omega, by omega⟩
                  have hF1358 : zOn zQk σ s1355 := hs1356 ▸ zOn_set hF1116 (by decide)
                  have e1359 : s1355 164 1 = s1113 164 1 := by rw [← hs1356]; exact zset_j (by decide)
                  have e1360 : s1355 164 2 = s1113 164 2 := by rw [← hs1356]; exact zset_j (by decide)
                  have e1361 : s1355 164 3 = s1113 164 3 := by rw [← hs1356]; exact zset_j (by decide)
                  have e1362 : s1355 164 4 = s1113 164 4 := by rw [← hs1356]; exact zset_j (by decide)
                  have e1363 : s1355 164 5 = s1113 164 5 := by rw [← hs1356]; exact zset_j (by decide)
                  have e1364 : s1355 164 6 = s1113 164 6 := by rw [← hs1356]; exact zset_j (by decide)
                  have e1365 : s1355 164 7 = s1113 164 7 := by rw [← hs1356]; exact zset_j (by decide)
                  have e1366 : s1355 164 8 = s1113 164 8 := by rw [← hs1356]; exact zset_j (by decide)
                  have e1367 : s1355 164 50 = s1113 164 50 := by rw [← hs1356]; exact zset_j (by decide)
                  have e1368 : s1355 164 51 = s1113 164 51 := by rw [← hs1356]; exact zset_j (by decide)
                  have e1369 : s1355 164 97 = s1113 164 97 := by rw [← hs1356]; exact zset_j (by decide)
                  have e1370 : s1355 164 99 = s1113 164 99 := by rw [← hs1356]; exact zset_j (by decide)
                  have e1371 : s1355 164 100 = s1113 164 100 := by rw [← hs1356]; exact zset_j (by decide)
                  have e1372 : s1355 164 101 = s1113 164 101 := by rw [← hs1356]; exact zset_j (by decide)
                  obtain ⟨-, w1373, -, -, -, -, -, -⟩ := zE_set hs1356 (by decide)
                  refine zt_aload_n (pc' := 177) hX dX12_ask_176 rfl rfl ?_
                  refine zt_iconst (pc' := 178) hX dX12_ask_177 rfl ?_
                  refine zt_put (pc' := 181) (x := 1) hX dX12_ask_178 rfl zf_X12_639 (by decide) zc_164 zs_46 (fun q hq => by cases hq; rfl) rfl (zfit_z (by omega) (by omega)).1 (zfit_z (by omega) (by omega)).2 ?_
                  generalize hs1375 : zset s1355 164 105 1 = s1374
                  have hI1376 : zInv s1374 := hs1375 ▸ zp_46_105 hI1357 zc_164 ⟨by omega, by omega⟩
                  have hF1377 : zOn zQk σ s1374 := hs1375 ▸ zOn_set hF1358 (by decide)
                  have e1378 : s1374 164 1 = s1355 164 1 := by rw [← hs1375]; exact zset_j (by decide)
                  have e1379 : s1374 164 2 = s1355 164 2 := by rw [← hs1375]; exact zset_j (by decide)
                  have e1380 : s1374 164 3 = s1355 164 3 := by rw [← hs1375]; exact zset_j (by decide)
                  have e1381 : s1374 164 4 = s1355 164 4 := by rw [← hs1375]; exact zset_j (by decide)
                  have e1382 : s1374 164 5 = s1355 164 5 := by rw [← hs1375]; exact zset_j (by decide)
                  have e1383 : s1374 164 6 = s1355 164 6 := by rw [← hs1375]; exact zset_j (by decide)
                  have e1384 : s1374 164 7 = s1355 164 7 := by rw [← hs1375]; exact zset_j (by decide)
                  have e1385 : s1374 164 8 = s1355 164 8 := by rw [← hs1375]; exact zset_j (by decide)
                  have e1386 : s1374 164 50 = s1355 164 50 := by rw [← hs1375]; exact zset_j (by decide)
                  have e1387 : s1374 164 51 = s1355 164 51 := by rw [← hs1375]; exact zset_j (by decide)
                  have e1388 : s1374 164 97 = s1355 164 97 := by rw [← hs1375]; exact zset_j (by decide)
                  have e1389 : s1374 164 99 = s1355 164 99 := by rw [← hs1375]; exact zset_j (by decide)
                  have e1390 : s1374 164 100 = s1355 164 100 := by rw [← hs1375]; exact zset_j (by decide)
                  have e1391 : s1374 164 101 = s1355 164 101 := by rw [← hs1375]; exact zset_j (by decide)
                  obtain ⟨-, w1392, -, -, -, -, -, -⟩ := zE_set hs1375 (by decide)
                  refine zt_aload_n (pc' := 182) hX dX12_ask_181 rfl rfl ?_
                  refine zt_aload_n (pc' := 183) hX dX12_ask_182 rfl rfl ?_
                  refine zt_cVi (pc' := 186) hX dX12_ask_183 rfl zm_yX12_holders zw_38_12 zc_164 (by decide) zs_46 (q := (RX12, TX12, 108)) rfl rfl (zc_X12_holders_Q _ _ s1374 hI1376 (zWF_N hW (zOn_g hF1377))) rfl rfl (Nat.le_of_ble_eq_true rfl) (by decide) (fun r1393 s1394 hr1395 hp1396 => ?_)
                  obtain ⟨hI1397, hF1398, q1399, q1400⟩ := hp1396
                  have hF1401 := zOn_tr hF1377 (zGN_k (zOn_GN8 hF1398)) zi_id
                  have b1402 := zv_46_1 hI1397 zc_164
                  have b1403 := zv_46_2 hI1397 zc_164
                  have b1404 := zv_46_3 hI1397 zc_164
                  have b1405 := zv_46_4 hI1397 zc_164
                  have b1406 := zv_46_5 hI1397 zc_164
                  have b1407 := zv_46_6 hI1397 zc_164
                  have b1408 := zv_46_7 hI1397 zc_164
                  have b1409 := zv_46_8 hI1397 zc_164
                  have b1410 := zv_46_50 hI1397 zc_164
                  have b1411 := zv_46_51 hI1397 zc_164
                  have b1412 := zv_46_97 hI1397 zc_164
                  have b1413 := zv_46_99 hI1397 zc_164
                  have b1414 := zv_46_100 hI1397 zc_164
                  have b1415 := zv_46_101 hI1397 zc_164
                  have e1416 := hF1398 164 1 rfl
                  have e1417 := hF1398 164 2 rfl
                  have e1418 := hF1398 164 3 rfl
                  have e1419 := hF1398 164 4 rfl
                  have e1420 := hF1398 164 5 rfl
                  have e1421 := hF1398 164 6 rfl
                  have e1422 := hF1398 164 7 rfl
                  have e1423 := hF1398 164 8 rfl
                  have e1424 := hF1398 164 50 rfl
                  have e1425 := hF1398 164 97 rfl
                  have e1426 := hF1398 164 99 rfl
                  have e1427 := hF1398 164 100 rfl
                  have e1428 := hF1398 164 101 rfl
                  obtain ⟨-, w1429, -, -, -, -, -, -⟩ := zE_q8 hF1398
                  refine zt_put (pc' := 189) (x := r1393) hX dX12_ask_186 rfl zf_X12_627 (by decide) zc_164 zs_46 (fun q hq => by cases hq; rfl) rfl rfl rfl ?_
                  generalize hs1431 : zset s1394 164 56 r1393 = s1430
                  have hI1432 : zInv s1430 := hs1431 ▸ zp_46_56 hI1397 zc_164 ⟨by omega, by omega⟩
                  have hF1433 : zOn zQk σ s1430 := hs1431 ▸ zOn_set hF1401 (by decide)
                  have e1434 : s1430 164 1 = s1394 164 1 := by rw [← hs1431]; exact zset_j (by decide)
                  have e1435 : s1430 164 2 = s1394 164 2 := by rw [← hs1431]; exact zset_j (by decide)
                  have e1436 : s1430 164 3 = s1394 164 3 := by rw [← hs1431]; exact zset_j (by decide)
                  have e1437 : s1430 164 4 = s1394 164 4 := by rw [← hs1431]; exact zset_j (by decide)
                  have e1438 : s1430 164 5 = s1394 164 5 := by rw [← hs1431]; exact zset_j (by decide)
                  have e1439 : s1430 164 6 = s1394 164 6 := by rw [← hs1431]; exact zset_j (by decide)
                  have e1440 : s1430 164 7 = s1394 164 7 := by rw [← hs1431]; exact zset_j (by decide)
                  have e1441 : s1430 164 8 = s1394 164 8 := by rw [← hs1431]; exact zset_j (by decide)
                  have e1442 : s1430 164 50 = s1394 164 50 := by rw [← hs1431]; exact zset_j (by decide)
                  have e1443 : s1430 164 51 = s1394 164 51 := by rw [← hs1431]; exact zset_j (by decide)
                  have e1444 : s1430 164 97 = s1394 164 97 := by rw [← hs1431]; exact zset_j (by decide)
                  have e1445 : s1430 164 99 = s1394 164 99 := by rw [← hs1431]; exact zset_j (by decide)
                  have e1446 : s1430 164 100 = s1394 164 100 := by rw [← hs1431]; exact zset_j (by decide)
                  have e1447 : s1430 164 101 = s1394 164 101 := by rw [← hs1431]; exact zset_j (by decide)
                  obtain ⟨-, w1448, -, -, -, -, -, -⟩ := zE_set hs1431 (by decide)
                  refine zt_aload_n (pc' := 190) hX dX12_ask_189 rfl rfl ?_
                  refine zt_iconst (pc' := 191) hX dX12_ask_190 rfl ?_
                  refine zt_put (pc' := 194) (x := 2) hX dX12_ask_191 rfl zf_X12_304 (by decide) zc_164 zs_46 (fun q hq => by cases hq; rfl) rfl rfl rfl ?_
                  generalize hs1450 : zset s1430 164 51 2 = s1449
                  have hI1451 : zInv s1449 := hs1450 ▸ zp_46_51 hI1432 zc_164 ⟨by omega, by omega⟩
                  have hF1452 : zOn zQk σ s1449 := hs1450 ▸ zOn_set hF1433 (by decide)
                  have e1453 : s1449 164 1 = s1430 164 1 := by rw [← hs1450]; exact zset_j (by decide)
                  have e1454 : s1449 164 2 = s1430 164 2 := by rw [← hs1450]; exact zset_j (by decide)
                  have e1455 : s1449 164 3 = s1430 164 3 := by rw [← hs1450]; exact zset_j (by decide)
                  have e1456 : s1449 164 4 = s1430 164 4 := by rw [← hs1450]; exact zset_j (by decide)
                  have e1457 : s1449 164 5 = s1430 164 5 := by rw [← hs1450]; exact zset_j (by decide)
                  have e1458 : s1449 164 6 = s1430 164 6 := by rw [← hs1450]; exact zset_j (by decide)
                  have e1459 : s1449 164 7 = s1430 164 7 := by rw [← hs1450]; exact zset_j (by decide)
                  have e1460 : s1449 164 8 = s1430 164 8 := by rw [← hs1450]; exact zset_j (by decide)
                  have e1461 : s1449 164 50 = s1430 164 50 := by rw [← hs1450]; exact zset_j (by decide)
                  have e1462 : s1449 164 51 = 2 := by rw [← hs1450]; exact zset_s
                  have e1463 : s1449 164 97 = s1430 164 97 := by rw [← hs1450]; exact zset_j (by decide)
                  have e1464 : s1449 164 99 = s1430 164 99 := by rw [← hs1450]; exact zset_j (by decide)
                  have e1465 : s1449 164 100 = s1430 164 100 := by rw [← hs1450]; exact zset_j (by decide)
                  have e1466 : s1449 164 101 = s1430 164 101 := by rw [← hs1450]; exact zset_j (by decide)
                  obtain ⟨-, w1467, -, -, -, -, -, -⟩ := zE_set hs1450 (by decide)
                  refine zt_iconst (pc' := 195) hX dX12_ask_194 rfl ?_
                  refine zt_istore_n (pc' := 196) (lv' := [some (.ref (X.1.1 + 164)), some (.int (zI r228)), some (.int (zI 0))]) hX dX12_ask_195 rfl hL (by decide) rfl ?_
                  have L_196_1476 : ∀ (N : Nat) (x1468 : Int) (s1471 : zSto), 0 ≤ x1468 → x1468 ≤ 10 → zInv s1471 → zOn zQk σ s1471 → zt s1471 = 1 → s1471 164 7 = (s1045 164 5) → s1471 164 8 = (s1045 164 6) → ((11 - x1468).toNat) < N → zF X s1471 196 [some (.ref (X.1.1 + 164)), some (.int (zI r228)), some (.int (zI x1468))] [] := by
                    intro N
                    induction N with
                    | zero =>
                      intro x1468 s1471 h1469 h1470 hI1472 hF1473 g1474 g1475 g1476 hm1478
                      exact absurd hm1478 (Nat.not_lt_zero _)
                    | succ N ih1479 =>
                      intro x1468 s1471 h1469 h1470 hI1472 hF1473 g1474 g1475 g1476 hm1478
                      have b1480 := zv_46_1 hI1472 zc_164
                      have b1481 := zv_46_2 hI1472 zc_164
                      have b1482 := zv_46_3 hI1472 zc_164
                      have b1483 := zv_46_4 hI1472 zc_164
                      have b1484 := zv_46_5 hI1472 zc_164
                      have b1485 := zv_46_6 hI1472 zc_164
                      have b1486 := zv_46_7 hI1472 zc_164
                      have b1487 := zv_46_8 hI1472 zc_164
                      have b1488 := zv_46_50 hI1472 zc_164
                      have b1489 := zv_46_51 hI1472 zc_164
                      have b1490 := zv_46_97 hI1472 zc_164
                      have b1491 := zv_46_99 hI1472 zc_164
                      have b1492 := zv_46_100 hI1472 zc_164
                      have b1493 := zv_46_101 hI1472 zc_164
                      refine zt_iload_n (pc' := 197) hX dX12_ask_196 rfl rfl ?_
                      refine zt_aload_n (pc' := 198) hX dX12_ask_197 rfl rfl ?_
                      refine zt_cVi (pc' := 201) hX dX12_ask_198 rfl zm_yX12_peopleMany zw_38_4 zc_164 (by decide) zs_46 (q := (RX12, TX12, 108)) rfl rfl (zc_X12_peopleMany _ _ s1471 hI1472 ) rfl rfl (Nat.le_of_ble_eq_true rfl) (by decide) (fun r1494 s1495 hr1496 hp1497 => ?_)
                      obtain ⟨rfl, q1498, q1499, z1500⟩ := hp1497
                      refine zt_icge (pc' := 204) (tgt := 221) hX dX12_ask_201 rfl (by decide) ⟨by omega, by omega⟩ ⟨by omega, by omega⟩ (fun c1501 => ?_) (fun c1501 => ?_)
                      · refine zt_aload_n (pc' := 222) hX dX12_ask_221 rfl rfl ?_
                        have b1502 := zv_46_104 hI1472 zc_164
                        refine zt_get (pc' := 225) (v := .long (zJ (s1471 164 104))) hX dX12_ask_222 rfl zf_X12_634 (by decide) zc_164 zs_46 rfl ?_
                        exact zt_lret hX hR dX12_ask_225 ⟨by omega, by omega⟩ ⟨hI1472, hF1473, by omega, by omega, (fun _ => by rw [← hf]; exact yFl_eq fl1091 (by omega) (by omega)), (fun o => absurd o (by omega))⟩
                      · refine zt_aload_n (pc' := 205) hX dX12_ask_204 rfl rfl ?_
                        refine zt_iload_n (pc' := 206) hX dX12_ask_205 rfl rfl ?_
                        refine zt_aload_n (pc' := 207) hX dX12_ask_206 rfl rfl ?_
                        refine zt_iload_n (pc' := 208) hX dX12_ask_207 rfl rfl ?_
                        refine zt_cVl (pc' := 211) hX dX12_ask_208 rfl zm_yX12_qTold zw_66_22 zc_164 (by decide) zs_46 (q := (RX12, TX12, 108)) rfl rfl (zc_X12_qTold_Q _ _ s1471 hI1472 x1468 ⟨by omega, by omega⟩ (by omega)) rfl rfl (Nat.le_of_ble_eq_true rfl) (by decide) (fun r1503 s1504 hr1505 hp1506 => ?_)
                        obtain ⟨hI1507, hF1508, q1509, q1510⟩ := hp1506
                        have hF1511 := zOn_tr hF1473 (zGN_k (zOn_GN8 hF1508)) zi_id
                        have b1512 := zv_46_1 hI1507 zc_164
                        have b1513 := zv_46_2 hI1507 zc_164
                        have b1514 := zv_46_3 hI1507 zc_164
                        have b1515 := zv_46_4 hI1507 zc_164
                        have b1516 := zv_46_5 hI1507 zc_164
                        have b1517 := zv_46_6 hI1507 zc_164
                        have b1518 := zv_46_7 hI1507 zc_164
                        have b1519 := zv_46_8 hI1507 zc_164
                        have b1520 := zv_46_50 hI1507 zc_164
                        have b1521 := zv_46_51 hI1507 zc_164
                        have b1522 := zv_46_97 hI1507 zc_164
                        have b1523 := zv_46_99 hI1507 zc_164
                        have b1524 := zv_46_100 hI1507 zc_164
                        have b1525 := zv_46_101 hI1507 zc_164
                        have e1526 := hF1508 164 1 rfl
                        have e1527 := hF1508 164 2 rfl
                        have e1528 := hF1508 164 3 rfl
                        have e1529 := hF1508 164 4 rfl
                        have e1530 := hF1508 164 5 rfl
                        have e1531 := hF1508 164 6 rfl
                        have e1532 := hF1508 164 7 rfl
                        have e1533 := hF1508 164 8 rfl
                        have e1534 := hF1508 164 50 rfl
                        have e1535 := hF1508 164 97 rfl
                        have e1536 := hF1508 164 99 rfl
                        have e1537 := hF1508 164 100 rfl
                        have e1538 := hF1508 164 101 rfl
                        obtain ⟨-, w1539, -, -, -, -, -, -⟩ := zE_q8 hF1508
                        refine zt_iload_n (pc' := 212) hX dX12_ask_211 rfl rfl ?_
                        refine zt_cVv (pc' := 215) hX dX12_ask_212 rfl zm_yX12_qTakes zw_67_6 zc_164 (by decide) zs_46 (q := (RX12, TX12, 108)) rfl rfl (zc_X12_qTakes_Q _ _ s1504 hI1507 r228 ⟨by omega, by omega⟩ r1503 ⟨by omega, by omega⟩ x1468 ⟨by omega, by omega⟩) rfl rfl (Nat.le_of_ble_eq_true rfl) (by decide) (fun r1540 s1541 hr1542 hp1543 => ?_)
                        obtain ⟨hI1544, hF1545⟩ := hp1543
                        have hF1546 := zOn_tr hF1511 (zGN_k (zOn_GN8 hF1545)) zi_id
                        have b1547 := zv_46_1 hI1544 zc_164
                        have b1548 := zv_46_2 hI1544 zc_164
                        have b1549 := zv_46_3 hI1544 zc_164
                        have b1550 := zv_46_4 hI1544 zc_164
                        have b1551 := zv_46_5 hI1544 zc_164
                        have b1552 := zv_46_6 hI1544 zc_164
                        have b1553 := zv_46_7 hI1544 zc_164
                        have b1554 := zv_46_8 hI1544 zc_164
                        have b1555 := zv_46_50 hI1544 zc_164
                        have b1556 := zv_46_51 hI1544 zc_164
                        have b1557 := zv_46_97 hI1544 zc_164
                        have b1558 := zv_46_99 hI1544 zc_164
                        have b1559 := zv_46_100 hI1544 zc_164
                        have b1560 := zv_46_101 hI1544 zc_164
                        have e1561 := hF1545 164 1 rfl
                        have e1562 := hF1545 164 2 rfl
                        have e1563 := hF1545 164 3 rfl
                        have e1564 := hF1545 164 4 rfl
                        have e1565 := hF1545 164 5 rfl
                        have e1566 := hF1545 164 6 rfl
                        have e1567 := hF1545 164 7 rfl
                        have e1568 := hF1545 164 8 rfl
                        have e1569 := hF1545 164 50 rfl
                        have e1570 := hF1545 164 97 rfl
                        have e1571 := hF1545 164 99 rfl
                        have e1572 := hF1545 164 100 rfl
                        have e1573 := hF1545 164 101 rfl
                        obtain ⟨-, w1574, -, -, -, -, -, -⟩ := zE_q8 hF1545
                        refine zt_iinc (pc' := 218) (lv' := [some (.ref (X.1.1 + 164)), some (.int (zI r228)), some (.int (zI (x1468 + 1)))]) hX dX12_ask_215 rfl rfl hL (by decide) rfl ?_
                        refine zt_goto (tgt := 196) hX dX12_ask_218 (by decide) ?_
                        exact ih1479 (x1468 + 1) s1541 (by omega) (by omega) hI1544 hF1546 (by omega) (by omega) (by omega) (by omega)
                  exact L_196_1476 _ 0 s1449 (by omega) (by omega) hI1451 hF1452 (by omega) (by omega) (by omega) (Nat.lt_succ_self _)
              · exact absurd c1133 (by omega)
            · refine zt_aload_n (pc' := 125) hX dX12_ask_124 rfl rfl ?_
              refine zt_iconst (pc' := 126) hX dX12_ask_125 rfl ?_
              refine zt_aload_n (pc' := 127) hX dX12_ask_126 rfl rfl ?_
              have b1575 := zv_46_2 hI1048 zc_164
              refine zt_get (pc' := 130) (v := .int (zI (s1045 164 2))) hX dX12_ask_127 rfl zf_X12_252 (by decide) zc_164 zs_46 rfl ?_
              refine zt_cVv (pc' := 133) hX dX12_ask_130 rfl zm_yX12_fail zw_26_19 zc_164 (by decide) zs_46 (q := (RX12, TX12, 108)) rfl rfl (yc_X12_fail _ _ s1045 hI1048 1 ⟨by omega, by omega⟩ (s1045 164 2) ⟨by omega, by omega⟩ f (yTq_w hT1052)) rfl rfl (Nat.le_of_ble_eq_true rfl) (by decide) (fun r1576 s1577 hr1578 hp1579 => ?_)
              obtain ⟨hI1580, hF1581, hT1582, z1583, z1584⟩ := hp1579
              have hE1585 : yqs f s1577 = yPno 1 (s1045 164 2) p977 := by rw [z1583, hE1056]
              have hF1586 := zOn_tr hF1057 (zGN_k (zOn_GN (zOn_up hF1581 zi_13))) zi_id
              have b1587 := zv_46_1 hI1580 zc_164
              have b1588 := zv_46_2 hI1580 zc_164
              have b1589 := zv_46_3 hI1580 zc_164
              have b1590 := zv_46_4 hI1580 zc_164
              have b1591 := zv_46_5 hI1580 zc_164
              have b1592 := zv_46_6 hI1580 zc_164
              have b1593 := zv_46_7 hI1580 zc_164
              have b1594 := zv_46_8 hI1580 zc_164
              have b1595 := zv_46_50 hI1580 zc_164
              have b1596 := zv_46_51 hI1580 zc_164
              have b1597 := zv_46_97 hI1580 zc_164
              have b1598 := zv_46_99 hI1580 zc_164
              have b1599 := zv_46_100 hI1580 zc_164
              have b1600 := zv_46_101 hI1580 zc_164
              have e1601 := hF1581 164 1 rfl
              have e1602 := hF1581 164 3 rfl
              have e1603 := hF1581 164 7 rfl
              have e1604 := hF1581 164 8 rfl
              have e1605 := hF1581 164 50 rfl
              have e1606 := hF1581 164 51 rfl
              have e1607 := hF1581 164 97 rfl
              have e1608 := hF1581 164 99 rfl
              have e1609 := hF1581 164 100 rfl
              have e1610 := hF1581 164 101 rfl
              have hn1611 := hE1585.trans (yQst_m hq998 (yMor_1 ((yHb hT1052 hE1056).1 (by omega)) hc1086 (by omega)) (fun o => by omega))
              have u1612 := yHb0 hE1585 yPo_no
              have fl1613 := yflt (s := s1577) hT1582 rfl rfl
              rw [hn1611] at fl1613
              refine zt_aload_n (pc' := 134) hX dX12_ask_133 rfl rfl ?_
              refine zt_aload_n (pc' := 135) hX dX12_ask_134 rfl rfl ?_
              have b1614 := zv_46_5 hI1580 zc_164
              refine zt_get (pc' := 138) (v := .int (zI (s1577 164 5))) hX dX12_ask_135 rfl zf_X12_246 (by decide) zc_164 zs_46 rfl ?_
              refine zt_put (pc' := 141) (x := (s1577 164 5)) hX dX12_ask_138 rfl zf_X12_369 (by decide) zc_164 zs_46 (fun q hq => by cases hq; rfl) rfl rfl rfl ?_
              generalize hs1616 : zset s1577 164 7 (s1577 164 5) = s1615
              have hI1617 : zInv s1615 := hs1616 ▸ zp_46_7 hI1580 zc_164 ⟨by omega, by omega⟩
              have hF1618 : zOn zQk σ s1615 := hs1616 ▸ zOn_set hF1586 (by decide)
              have e1619 : s1615 164 1 = s1577 164 1 := by rw [← hs1616]; exact zset_j (by decide)
              have e1620 : s1615 164 2 = s1577 164 2 := by rw [← hs1616]; exact zset_j (by decide)
              have e1621 : s1615 164 3 = s1577 164 3 := by rw [← hs1616]; exact zset_j (by decide)
              have e1622 : s1615 164 4 = s1577 164 4 := by rw [← hs1616]; exact zset_j (by decide)
              have e1623 : s1615 164 5 = s1577 164 5 := by rw [← hs1616]; exact zset_j (by decide)
              have e1624 : s1615 164 6 = s1577 164 6 := by rw [← hs1616]; exact zset_j (by decide)
              have e1625 : s1615 164 7 = (s1577 164 5) := by rw [← hs1616]; exact zset_s
              have e1626 : s1615 164 8 = s1577 164 8 := by rw [← hs1616]; exact zset_j (by decide)
              have e1627 : s1615 164 50 = s1577 164 50 := by rw [← hs1616]; exact zset_j (by decide)
              have e1628 : s1615 164 51 = s1577 164 51 := by rw [← hs1616]; exact zset_j (by decide)
              have e1629 : s1615 164 97 = s1577 164 97 := by rw [← hs1616]; exact zset_j (by decide)
              have e1630 : s1615 164 99 = s1577 164 99 := by rw [← hs1616]; exact zset_j (by decide)
              have e1631 : s1615 164 100 = s1577 164 100 := by rw [← hs1616]; exact zset_j (by decide)
              have e1632 : s1615 164 101 = s1577 164 101 := by rw [← hs1616]; exact zset_j (by decide)
              obtain ⟨-, w1633, -, -, -, -, -, -⟩ := zE_set hs1616 (by decide)
              refine zt_aload_n (pc' := 142) hX dX12_ask_141 rfl rfl ?_
              refine zt_aload_n (pc' := 143) hX dX12_ask_142 rfl rfl ?_
              have b1634 := zv_46_6 hI1617 zc_164
              refine zt_get (pc' := 146) (v := .int (zI (s1615 164 6))) hX dX12_ask_143 rfl zf_X12_249 (by decide) zc_164 zs_46 rfl ?_
              refine zt_put (pc' := 149) (x := (s1615 164 6)) hX dX12_ask_146 rfl zf_X12_13 (by decide) zc_164 zs_46 (fun q hq => by cases hq; rfl) rfl rfl rfl ?_
              generalize hs1636 : zset s1615 164 8 (s1615 164 6) = s1635
              have hI1637 : zInv s1635 := hs1636 ▸ zp_46_8 hI1617 zc_164 ⟨by omega, by omega⟩
              have hF1638 : zOn zQk σ s1635 := hs1636 ▸ zOn_set hF1618 (by decide)
              have e1639 : s1635 164 1 = s1615 164 1 := by rw [← hs1636]; exact zset_j (by decide)
              have e1640 : s1635 164 2 = s1615 164 2 := by rw [← hs1636]; exact zset_j (by decide)
              have e1641 : s1635 164 3 = s1615 164 3 := by rw [← hs1636]; exact zset_j (by decide)
              have e1642 : s1635 164 4 = s1615 164 4 := by rw [← hs1636]; exact zset_j (by decide)
              have e1643 : s1635 164 5 = s1615 164 5 := by rw [← hs1636]; exact zset_j (by decide)
              have e1644 : s1635 164 6 = s1615 164 6 := by rw [← hs1636]; exact zset_j (by decide)
              have e1645 : s1635 164 7 = s1615 164 7 := by rw [← hs1636]; exact zset_j (by decide)
              have e1646 : s1635 164 8 = (s1615 164 6) := by rw [← hs1636]; exact zset_s
              have e1647 : s1635 164 50 = s1615 164 50 := by rw [← hs1636]; exact zset_j (by decide)
              have e1648 : s1635 164 51 = s1615 164 51 := by rw [← hs1636]; exact zset_j (by decide)
              have e1649 : s1635 164 97 = s1615 164 97 := by rw [← hs1636]; exact zset_j (by decide)
              have e1650 : s1635 164 99 = s1615 164 99 := by rw [← hs1636]; exact zset_j (by decide)
              have e1651 : s1635 164 100 = s1615 164 100 := by rw [← hs1636]; exact zset_j (by decide)
              have e1652 : s1635 164 101 = s1615 164 101 := by rw [← hs1636]; exact zset_j (by decide)
              obtain ⟨-, w1653, -, -, -, -, -, -⟩ := zE_set hs1636 (by decide)
              refine zt_aload_n (pc' := 150) hX dX12_ask_149 rfl rfl ?_
              have b1654 := zv_46_5 hI1637 zc_164
              refine zt_get (pc' := 153) (v := .int (zI (s1635 164 5))) hX dX12_ask_150 rfl zf_X12_246 (by decide) zc_164 zs_46 rfl ?_
              refine zt_ifeq (pc' := 156) (tgt := 160) hX dX12_ask_153 rfl (by decide) ⟨by omega, by omega⟩ (fun c1655 => ?_) (fun c1655 => ?_)
              · exact absurd c1655 (by omega)
              · refine zt_ldc2 (pc' := 159) (x := (-1000000000000000)) hX dX12_ask_156 rfl zw_46_2 (by decide +kernel) ?_
                exact zt_lret hX hR dX12_ask_159 ⟨by omega, by omega⟩ ⟨hI1637, hF1638, by omega, by omega, (fun _ => by rw [← hf]; exact yFl_eq fl1613 (by omega) (by omega)), (fun o => absurd o (by omega))⟩
    · have hE272 := hE240.trans k271
      have u1656 := yHb0 hE272 yPo_pf
      refine zt_aload_n (pc' := 80) hX dX12_ask_79 rfl rfl ?_
      have b1657 := zv_46_5 hI232 zc_164
      refine zt_get (pc' := 83) (v := .int (zI (s229 164 5))) hX dX12_ask_80 rfl zf_X12_246 (by decide) zc_164 zs_46 rfl ?_
      refine zt_ifne (pc' := 86) (tgt := 98) hX dX12_ask_83 rfl (by decide) ⟨by omega, by omega⟩ (fun c1658 => ?_) (fun c1658 => ?_)
      · refine zt_aload_n (pc' := 99) hX dX12_ask_98 rfl rfl ?_
        refine zt_get (pc' := 102) (v := .int (zI (s229 164 5))) hX dX12_ask_99 rfl zf_X12_246 (by decide) zc_164 zs_46 rfl ?_
        refine zt_ifne (pc' := 105) (tgt := 109) hX dX12_ask_102 rfl (by decide) ⟨by omega, by omega⟩ (fun c1659 => ?_) (fun c1659 => ?_)
        · refine zt_aload_n (pc' := 110) hX dX12_ask_109 rfl rfl ?_
          refine zt_get (pc' := 113) (v := .int (zI (s229 164 5))) hX dX12_ask_110 rfl zf_X12_246 (by decide) zc_164 zs_46 rfl ?_
          refine zt_ifne (pc' := 116) (tgt := 133) hX dX12_ask_113 rfl (by decide) ⟨by omega, by omega⟩ (fun c1660 => ?_) (fun c1660 => ?_)
          · have hn1661 := hE272.trans (yQst_b (yQs_f k269) ((yHb hT236 hE272).2 (by omega)))
            have fl1662 := yflt (s := s229) hT236 rfl rfl
            rw [hn1661] at fl1662
            refine zt_aload_n (pc' := 134) hX dX12_ask_133 rfl rfl ?_
            refine zt_aload_n (pc' := 135) hX dX12_ask_134 rfl rfl ?_
            refine zt_get (pc' := 138) (v := .int (zI (s229 164 5))) hX dX12_ask_135 rfl zf_X12_246 (by decide) zc_164 zs_46 rfl ?_
            refine zt_put (pc' := 141) (x := (s229 164 5)) hX dX12_ask_138 rfl zf_X12_369 (by decide) zc_164 zs_46 (fun q hq => by cases hq; rfl) rfl rfl rfl ?_
            generalize hs1664 : zset s229 164 7 (s229 164 5) = s1663
            have hI1665 : zInv s1663 := hs1664 ▸ zp_46_7 hI232 zc_164 ⟨by omega, by omega⟩
            have hF1666 : zOn zQk σ s1663 := hs1664 ▸ zOn_set hF238 (by decide)
            have e1667 : s1663 164 1 = s229 164 1 := by rw [← hs1664]; exact zset_j (by decide)
            have e1668 : s1663 164 2 = s229 164 2 := by rw [← hs1664]; exact zset_j (by decide)
            have e1669 : s1663 164 3 = s229 164 3 := by rw [← hs1664]; exact zset_j (by decide)
            have e1670 : s1663 164 4 = s229 164 4 := by rw [← hs1664]; exact zset_j (by decide)
            have e1671 : s1663 164 5 = s229 164 5 := by rw [← hs1664]; exact zset_j (by decide)
            have e1672 : s1663 164 6 = s229 164 6 := by rw [← hs1664]; exact zset_j (by decide)
            have e1673 : s1663 164 7 = (s229 164 5) := by rw [← hs1664]; exact zset_s
            have e1674 : s1663 164 8 = s229 164 8 := by rw [← hs1664]; exact zset_j (by decide)
            have e1675 : s1663 164 50 = s229 164 50 := by rw [← hs1664]; exact zset_j (by decide)
            have e1676 : s1663 164 51 = s229 164 51 := by rw [← hs1664]; exact zset_j (by decide)
            have e1677 : s1663 164 97 = s229 164 97 := by rw [← hs1664]; exact zset_j (by decide)
            have e1678 : s1663 164 99 = s229 164 99 := by rw [← hs1664]; exact zset_j (by decide)
            have e1679 : s1663 164 100 = s229 164 100 := by rw [← hs1664]; exact zset_j (by decide)
            have e1680 : s1663 164 101 = s229 164 101 := by rw [← hs1664]; exact zset_j (by decide)
            obtain ⟨-, w1681, -, -, -, -, -, -⟩ := zE_set hs1664 (by decide)
            refine zt_aload_n (pc' := 142) hX dX12_ask_141 rfl rfl ?_
            refine zt_aload_n (pc' := 143) hX dX12_ask_142 rfl rfl ?_
            have b1682 := zv_46_6 hI1665 zc_164
            refine zt_get (pc' := 146) (v := .int (zI (s1663 164 6))) hX dX12_ask_143 rfl zf_X12_249 (by decide) zc_164 zs_46 rfl ?_
            refine zt_put (pc' := 149) (x := (s1663 164 6)) hX dX12_ask_146 rfl zf_X12_13 (by decide) zc_164 zs_46 (fun q hq => by cases hq; rfl) rfl rfl rfl ?_
            generalize hs1684 : zset s1663 164 8 (s1663 164 6) = s1683
            have hI1685 : zInv s1683 := hs1684 ▸ zp_46_8 hI1665 zc_164 ⟨by omega, by omega⟩
            have hF1686 : zOn zQk σ s1683 := hs1684 ▸ zOn_set hF1666 (by decide)
            have e1687 : s1683 164 1 = s1663 164 1 := by rw [← hs1684]; exact zset_j (by decide)
            have e1688 : s1683 164 2 = s1663 164 2 := by rw [← hs1684]; exact zset_j (by decide)
            have e1689 : s1683 164 3 = s1663 164 3 := by rw [← hs1684]; exact zset_j (by decide)
            have e1690 : s1683 164 4 = s1663 164 4 := by rw [← hs1684]; exact zset_j (by decide)
            have e1691 : s1683 164 5 = s1663 164 5 := by rw [← hs1684]; exact zset_j (by decide)
            have e1692 : s1683 164 6 = s1663 164 6 := by rw [← hs1684]; exact zset_j (by decide)
            have e1693 : s1683 164 7 = s1663 164 7 := by rw [← hs1684]; exact zset_j (by decide)
            have e1694 : s1683 164 8 = (s1663 164 6) := by rw [← hs1684]; exact zset_s
            have e1695 : s1683 164 50 = s1663 164 50 := by rw [← hs1684]; exact zset_j (by decide)
            have e1696 : s1683 164 51 = s1663 164 51 := by rw [← hs1684]; exact zset_j (by decide)
            have e1697 : s1683 164 97 = s1663 164 97 := by rw [← hs1684]; exact zset_j (by decide)
            have e1698 : s1683 164 99 = s1663 164 99 := by rw [← hs1684]; exact zset_j (by decide)
            have e1699 : s1683 164 100 = s1663 164 100 := by rw [← hs1684]; exact zset_j (by decide)
            have e1700 : s1683 164 101 = s1663 164 101 := by rw [← hs1684]; exact zset_j (by decide)
            obtain ⟨-, w1701, -, -, -, -, -, -⟩ := zE_set hs1684 (by decide)
            refine zt_aload_n (pc' := 150) hX dX12_ask_149 rfl rfl ?_
            have b1702 := zv_46_5 hI1685 zc_164
            refine zt_get (pc' := 153) (v := .int (zI (s1683 164 5))) hX dX12_ask_150 rfl zf_X12_246 (by decide) zc_164 zs_46 rfl ?_
            refine zt_ifeq (pc' := 156) (tgt := 160) hX dX12_ask_153 rfl (by decide) ⟨by omega, by omega⟩ (fun c1703 => ?_) (fun c1703 => ?_)
            · exact absurd c1703 (by omega)
            · refine zt_ldc2 (pc' := 159) (x := (-1000000000000000)) hX dX12_ask_156 rfl zw_46_2 (by decide +kernel) ?_
              exact zt_lret hX hR dX12_ask_159 ⟨by omega, by omega⟩ ⟨hI1685, hF1686, by omega, by omega, (fun _ => by rw [← hf]; exact yFl_eq fl1662 (by omega) (by omega)), (fun o => absurd o (by omega))⟩
          · exact absurd c1660 (by omega)
        · exact absurd c1659 (by omega)
      · exact absurd c1658 (by omega)
  · refine zt_aload_n (pc' := 8) hX dX12_ask_7 rfl rfl ?_
    refine zt_iconst (pc' := 9) hX dX12_ask_8 rfl ?_
    refine zt_put (pc' := 12) (x := 0) hX dX12_ask_9 rfl zf_X12_243 (by decide) zc_164 zs_46 (fun q hq => by cases hq; rfl) rfl rfl rfl ?_
    generalize hs1705 : zset σ 164 1 0 = s1704
    have hI1706 : zInv s1704 := hs1705 ▸ zp_46_1 hI zc_164 ⟨by omega, by omega⟩
    have hF1707 : zOn zQk σ s1704 := hs1705 ▸ zOn_set hF (by decide)
    have e1708 : s1704 164 1 = 0 := by rw [← hs1705]; exact zset_s
    have e1709 : s1704 164 2 = σ 164 2 := by rw [← hs1705]; exact zset_j (by decide)
    have e1710 : s1704 164 3 = σ 164 3 := by rw [← hs1705]; exact zset_j (by decide)
    have e1711 : s1704 164 4 = σ 164 4 := by rw [← hs1705]; exact zset_j (by decide)
    have e1712 : s1704 164 5 = σ 164 5 := by rw [← hs1705]; exact zset_j (by decide)
    have e1713 : s1704 164 6 = σ 164 6 := by rw [← hs1705]; exact zset_j (by decide)
    have e1714 : s1704 164 7 = σ 164 7 := by rw [← hs1705]; exact zset_j (by decide)
    have e1715 : s1704 164 8 = σ 164 8 := by rw [← hs1705]; exact zset_j (by decide)
    have e1716 : s1704 164 50 = σ 164 50 := by rw [← hs1705]; exact zset_j (by decide)
    have e1717 : s1704 164 51 = σ 164 51 := by rw [← hs1705]; exact zset_j (by decide)
    have e1718 : s1704 164 97 = σ 164 97 := by rw [← hs1705]; exact zset_j (by decide)
    have e1719 : s1704 164 99 = σ 164 99 := by rw [← hs1705]; exact zset_j (by decide)
    have e1720 : s1704 164 100 = σ 164 100 := by rw [← hs1705]; exact zset_j (by decide)
    have e1721 : s1704 164 101 = σ 164 101 := by rw [← hs1705]; exact zset_j (by decide)
    refine zt_ldc2 (pc' := 15) (x := (-1000000000000000)) hX dX12_ask_12 rfl zw_46_2 (by decide +kernel) ?_
    exact zt_lret hX hR dX12_ask_15 ⟨by omega, by omega⟩ ⟨hI1706, hF1707, by omega, by omega, (fun o => absurd o (by omega)), (fun _ => ⟨by omega, by omega⟩)⟩
