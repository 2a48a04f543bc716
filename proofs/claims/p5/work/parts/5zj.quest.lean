set_option maxRecDepth 100000 in
set_option maxHeartbeats 4000000 in
theorem yc_X1_readQuestion (l : Launch) (E : zEN) (σ : zSto) (hI : zInv σ) (k1_ : Nat) (hk1_ : zro k1_ = 6) (hW : yTab σ) : zCt l E yX1_readQuestion cX1_readQuestion 4 (some .int) 35 zNC zNC 0 0 σ [.ref (E.1 + 33), .ref (E.1 + k1_), .ref (E.1 + 1)] (fun r σ' => zInv σ' ∧ zOn zR5 σ σ' ∧ -1 ≤ r ∧ r ≤ 32 ∧ (yTk (yT σ) σ') ∧ (yst σ' = yQst (yT σ)) ∧ (r = yPi (yT σ) (.ok (yS (yT σ) 0)))) := by
  refine zCt_of2 [some (.ref (E.1 + 33)), some (.ref (E.1 + k1_)), some (.ref (E.1 + 1)), none] (by decide +kernel) (Nat.le_of_ble_eq_true rfl) rfl ?_
  intro X hE_ hX hR hL hN
  subst hE_
  have hX : zok X cX1_readQuestion RX1 35 := hX
  have hF := zOn_rf zR5 σ
  obtain ⟨f, hf⟩ : ∃ f, f = yT σ := ⟨_, rfl⟩
  refine zt_aload_n (pc' := 1) hX dX1_readQuestion_0 rfl rfl ?_
  refine zt_get (pc' := 4) (v := .ref (X.1.1 + 27)) hX dX1_readQuestion_1 rfl zf_X1_15 (by decide) zc_33 zs_20 (zrf_of (zv_20_0 hI zc_33)) ?_
  refine zt_aload_n (pc' := 5) hX dX1_readQuestion_4 rfl rfl ?_
  refine zt_cVv (pc' := 8) hX dX1_readQuestion_5 rfl zm_yX5_open zw_64_18 zc_27 (by decide) zs_14 (q := (RX5, TX5, 9)) rfl rfl (yc_X5_open _ _ σ hI hW) rfl rfl (Nat.le_of_ble_eq_true rfl) (by decide) (fun r1 s2 hr3 hp4 => ?_)
  obtain ⟨hI5, hF6, z7, z8⟩ := hp4
  have hF9 := zOn_tr hF hF6 zi_05
  have hy10 : yT σ = f := (yT_eq (hF 1 1 rfl) (fun j => hF 2 j rfl)).trans hf.symm
  rw [hy10] at z7 z8
  refine zt_aload_n (pc' := 9) hX dX1_readQuestion_8 rfl rfl ?_
  refine zt_get (pc' := 12) (v := .ref (X.1.1 + 27)) hX dX1_readQuestion_9 rfl zf_X1_15 (by decide) zc_33 zs_20 (zrf_of (zv_20_0 hI5 zc_33)) ?_
  refine zt_cVi (pc' := 15) hX dX1_readQuestion_12 rfl zm_yX5_wordHere zw_22_21 zc_27 (by decide) zs_14 (q := (RX5, TX5, 9)) rfl rfl (yc_X5_wordHere _ _ s2 hI5 f z7) rfl rfl (Nat.le_of_ble_eq_true rfl) (by decide) (fun r11 s12 hr13 hp14 => ?_)
  obtain ⟨rfl, q15, q16, z17⟩ := hp14
  rw [z8] at z17
  refine zt_istore_n (pc' := 16) (lv' := [some (.ref (X.1.1 + 33)), some (.ref (X.1.1 + k1_)), some (.ref (X.1.1 + 1)), some (.int (zI r11))]) hX dX1_readQuestion_15 rfl hL (by decide) rfl ?_
  refine zt_iload_n (pc' := 17) hX dX1_readQuestion_16 rfl rfl ?_
  refine zt_bipush (pc' := 19) hX dX1_readQuestion_17 rfl (by decide) (by decide) ?_
  refine zt_iceq (pc' := 22) (tgt := 34) hX dX1_readQuestion_19 rfl (by decide) ⟨by omega, by omega⟩ ⟨by omega, by omega⟩ (fun c18 => ?_) (fun c18 => ?_)
  · refine zt_aload_n (pc' := 35) hX dX1_readQuestion_34 rfl rfl ?_
    refine zt_get (pc' := 38) (v := .ref (X.1.1 + 27)) hX dX1_readQuestion_35 rfl zf_X1_15 (by decide) zc_33 zs_20 (zrf_of (zv_20_0 hI5 zc_33)) ?_
    refine zt_cVv (pc' := 41) hX dX1_readQuestion_38 rfl zm_yX5_step zw_22_6 zc_27 (by decide) zs_14 (q := (RX5, TX5, 9)) rfl rfl (yc_X5_step _ _ s2 hI5 f z7) rfl rfl (Nat.le_of_ble_eq_true rfl) (by decide) (fun r19 s20 hr21 hp22 => ?_)
    obtain ⟨hI23, hF24, hT25, z26⟩ := hp22
    have hE27 : yst s20 = yPx f (yP.ok (yS f 0)) := by rw [z26, z8]
    have hF28 := zOn_tr hF9 hF24 zi_15
    refine zt_aload_n (pc' := 42) hX dX1_readQuestion_41 rfl rfl ?_
    refine zt_aload_n (pc' := 43) hX dX1_readQuestion_42 rfl rfl ?_
    refine zt_iconst (pc' := 44) hX dX1_readQuestion_43 rfl ?_
    refine zt_cVv (pc' := 47) hX dX1_readQuestion_44 rfl zm_yX1_readTest zw_64_19 zc_33 (by decide) zs_20 (q := (RX1, TX1, 3)) rfl rfl (yc_X1_readTest _ _ s20 hI23 k1_ hk1_ 2 ⟨by omega, by omega⟩ f hT25) rfl rfl (Nat.le_of_ble_eq_true rfl) (by decide) (fun r29 s30 hr31 hp32 => ?_)
    obtain ⟨hI33, hF34, hT35, z36⟩ := hp32
    have hE37 : yst s30 = yTt 2 f (yPx f (yP.ok (yS f 0))) := by rw [z36, hE27]
    have hF38 := zOn_tr hF28 hF34 zi_45
    refine zt_goto (tgt := 99) hX dX1_readQuestion_47 (by decide) ?_
    refine zt_aload_n (pc' := 100) hX dX1_readQuestion_99 rfl rfl ?_
    refine zt_get (pc' := 103) (v := .ref (X.1.1 + 27)) hX dX1_readQuestion_100 rfl zf_X1_15 (by decide) zc_33 zs_20 (zrf_of (zv_20_0 hI33 zc_33)) ?_
    refine zt_cVz (pc' := 106) hX dX1_readQuestion_103 rfl zm_yX5_hasMore zw_64_21 zc_27 (by decide) zs_14 (q := (RX5, TX5, 9)) rfl rfl (yc_X5_hasMore _ _ s30 hI33 f hT35) rfl rfl (Nat.le_of_ble_eq_true rfl) (by decide) (fun r39 s40 hr41 hp42 => ?_)
    obtain ⟨rfl, q43, q44, z45⟩ := hp42
    rw [hE37] at z45
    refine zt_ifeq (pc' := 109) (tgt := 124) hX dX1_readQuestion_106 rfl (by decide) ⟨by omega, by omega⟩ (fun c46 => ?_) (fun c46 => ?_)
    · refine zt_iload_n (pc' := 125) hX dX1_readQuestion_124 rfl rfl ?_
      have hq1 : yTt 2 f (yPx f (yP.ok (yS f 0))) = yQs1 f (yP.ok (yS f 0)) := yQs_t (by omega)
      exact zt_iret hX hR dX1_readQuestion_125 ⟨by omega, by omega⟩ ⟨hI33, hF38, by omega, by omega, (by rw [← hf]; exact hT35), (by rw [← hf]; exact (hE37.trans (yQst_n hq1 (fun m => by omega)))), (by rw [← hf]; omega)⟩
    · refine zt_aload_n (pc' := 110) hX dX1_readQuestion_109 rfl rfl ?_
      refine zt_get (pc' := 113) (v := .ref (X.1.1 + 27)) hX dX1_readQuestion_110 rfl zf_X1_15 (by decide) zc_33 zs_20 (zrf_of (zv_20_0 hI33 zc_33)) ?_
      refine zt_iconst (pc' := 114) hX dX1_readQuestion_113 rfl ?_
      refine zt_aload_n (pc' := 115) hX dX1_readQuestion_114 rfl rfl ?_
      refine zt_get (pc' := 118) (v := .ref (X.1.1 + 27)) hX dX1_readQuestion_115 rfl zf_X1_15 (by decide) zc_33 zs_20 (zrf_of (zv_20_0 hI33 zc_33)) ?_
      refine zt_cVi (pc' := 121) hX dX1_readQuestion_118 rfl zm_yX5_placeHere zw_22_9 zc_27 (by decide) zs_14 (q := (RX5, TX5, 9)) rfl rfl (yc_X5_placeHere _ _ s30 hI33 f hT35) rfl rfl (Nat.le_of_ble_eq_true rfl) (by decide) (fun r47 s48 hr49 hp50 => ?_)
      obtain ⟨rfl, q51, q52, z53⟩ := hp50
      rw [hE37] at z53
      refine zt_cVv (pc' := 124) hX dX1_readQuestion_121 rfl zm_yX5_refuse zw_22_10 zc_27 (by decide) zs_14 (q := (RX5, TX5, 9)) rfl rfl (yc_X5_refuse _ _ s30 hI33 1 ⟨by omega, by omega⟩ r47 ⟨by omega, by omega⟩ (by omega) f hT35) rfl rfl (Nat.le_of_ble_eq_true rfl) (by decide) (fun r54 s55 hr56 hp57 => ?_)
      obtain ⟨hI58, hF59, hT60, z61⟩ := hp57
      have hE62 : yst s55 = yPno 1 r47 (yTt 2 f (yPx f (yP.ok (yS f 0)))) := by rw [z61, hE37]
      have hF63 := zOn_tr hF38 hF59 zi_15
      have w64 : yPo (yPno 1 r47 (yTt 2 f (yPx f (yP.ok (yS f 0))))) = 0 := yPo_no
      refine zt_iload_n (pc' := 125) hX dX1_readQuestion_124 rfl rfl ?_
      have hq1 : yTt 2 f (yPx f (yP.ok (yS f 0))) = yQs1 f (yP.ok (yS f 0)) := yQs_t (by omega)
      exact zt_iret hX hR dX1_readQuestion_125 ⟨by omega, by omega⟩ ⟨hI58, hF63, by omega, by omega, (by rw [← hf]; exact hT60), (by rw [← hf]; exact (hE62.trans (yQst_m hq1 (by have h := z45; constructor <;> omega) (fun o => by omega)))), (by rw [← hf]; omega)⟩
  · refine zt_iload_n (pc' := 23) hX dX1_readQuestion_22 rfl rfl ?_
    refine zt_bipush (pc' := 25) hX dX1_readQuestion_23 rfl (by decide) (by decide) ?_
    refine zt_iceq (pc' := 28) (tgt := 34) hX dX1_readQuestion_25 rfl (by decide) ⟨by omega, by omega⟩ ⟨by omega, by omega⟩ (fun c65 => ?_) (fun c65 => ?_)
    · refine zt_aload_n (pc' := 35) hX dX1_readQuestion_34 rfl rfl ?_
      refine zt_get (pc' := 38) (v := .ref (X.1.1 + 27)) hX dX1_readQuestion_35 rfl zf_X1_15 (by decide) zc_33 zs_20 (zrf_of (zv_20_0 hI5 zc_33)) ?_
      refine zt_cVv (pc' := 41) hX dX1_readQuestion_38 rfl zm_yX5_step zw_22_6 zc_27 (by decide) zs_14 (q := (RX5, TX5, 9)) rfl rfl (yc_X5_step _ _ s2 hI5 f z7) rfl rfl (Nat.le_of_ble_eq_true rfl) (by decide) (fun r66 s67 hr68 hp69 => ?_)
      obtain ⟨hI70, hF71, hT72, z73⟩ := hp69
      have hE74 : yst s67 = yPx f (yP.ok (yS f 0)) := by rw [z73, z8]
      have hF75 := zOn_tr hF9 hF71 zi_15
      refine zt_aload_n (pc' := 42) hX dX1_readQuestion_41 rfl rfl ?_
      refine zt_aload_n (pc' := 43) hX dX1_readQuestion_42 rfl rfl ?_
      refine zt_iconst (pc' := 44) hX dX1_readQuestion_43 rfl ?_
      refine zt_cVv (pc' := 47) hX dX1_readQuestion_44 rfl zm_yX1_readTest zw_64_19 zc_33 (by decide) zs_20 (q := (RX1, TX1, 3)) rfl rfl (yc_X1_readTest _ _ s67 hI70 k1_ hk1_ 2 ⟨by omega, by omega⟩ f hT72) rfl rfl (Nat.le_of_ble_eq_true rfl) (by decide) (fun r76 s77 hr78 hp79 => ?_)
      obtain ⟨hI80, hF81, hT82, z83⟩ := hp79
      have hE84 : yst s77 = yTt 2 f (yPx f (yP.ok (yS f 0))) := by rw [z83, hE74]
      have hF85 := zOn_tr hF75 hF81 zi_45
      refine zt_goto (tgt := 99) hX dX1_readQuestion_47 (by decide) ?_
      refine zt_aload_n (pc' := 100) hX dX1_readQuestion_99 rfl rfl ?_
      refine zt_get (pc' := 103) (v := .ref (X.1.1 + 27)) hX dX1_readQuestion_100 rfl zf_X1_15 (by decide) zc_33 zs_20 (zrf_of (zv_20_0 hI80 zc_33)) ?_
      refine zt_cVz (pc' := 106) hX dX1_readQuestion_103 rfl zm_yX5_hasMore zw_64_21 zc_27 (by decide) zs_14 (q := (RX5, TX5, 9)) rfl rfl (yc_X5_hasMore _ _ s77 hI80 f hT82) rfl rfl (Nat.le_of_ble_eq_true rfl) (by decide) (fun r86 s87 hr88 hp89 => ?_)
      obtain ⟨rfl, q90, q91, z92⟩ := hp89
      rw [hE84] at z92
      refine zt_ifeq (pc' := 109) (tgt := 124) hX dX1_readQuestion_106 rfl (by decide) ⟨by omega, by omega⟩ (fun c93 => ?_) (fun c93 => ?_)
      · refine zt_iload_n (pc' := 125) hX dX1_readQuestion_124 rfl rfl ?_
        have hq1 : yTt 2 f (yPx f (yP.ok (yS f 0))) = yQs1 f (yP.ok (yS f 0)) := yQs_t (by omega)
        exact zt_iret hX hR dX1_readQuestion_125 ⟨by omega, by omega⟩ ⟨hI80, hF85, by omega, by omega, (by rw [← hf]; exact hT82), (by rw [← hf]; exact (hE84.trans (yQst_n hq1 (fun m => by omega)))), (by rw [← hf]; omega)⟩
      · refine zt_aload_n (pc' := 110) hX dX1_readQuestion_109 rfl rfl ?_
        refine zt_get (pc' := 113) (v := .ref (X.1.1 + 27)) hX dX1_readQuestion_110 rfl zf_X1_15 (by decide) zc_33 zs_20 (zrf_of (zv_20_0 hI80 zc_33)) ?_
        refine zt_iconst (pc' := 114) hX dX1_readQuestion_113 rfl ?_
        refine zt_aload_n (pc' := 115) hX dX1_readQuestion_114 rfl rfl ?_
        refine zt_get (pc' := 118) (v := .ref (X.1.1 + 27)) hX dX1_readQuestion_115 rfl zf_X1_15 (by decide) zc_33 zs_20 (zrf_of (zv_20_0 hI80 zc_33)) ?_
        refine zt_cVi (pc' := 121) hX dX1_readQuestion_118 rfl zm_yX5_placeHere zw_22_9 zc_27 (by decide) zs_14 (q := (RX5, TX5, 9)) rfl rfl (yc_X5_placeHere _ _ s77 hI80 f hT82) rfl rfl (Nat.le_of_ble_eq_true rfl) (by decide) (fun r94 s95 hr96 hp97 => ?_)
        obtain ⟨rfl, q98, q99, z100⟩ := hp97
        rw [hE84] at z100
        refine zt_cVv (pc' := 124) hX dX1_readQuestion_121 rfl zm_yX5_refuse zw_22_10 zc_27 (by decide) zs_14 (q := (RX5, TX5, 9)) rfl rfl (yc_X5_refuse _ _ s77 hI80 1 ⟨by omega, by omega⟩ r94 ⟨by omega, by omega⟩ (by omega) f hT82) rfl rfl (Nat.le_of_ble_eq_true rfl) (by decide) (fun r101 s102 hr103 hp104 => ?_)
        obtain ⟨hI105, hF106, hT107, z108⟩ := hp104
        have hE109 : yst s102 = yPno 1 r94 (yTt 2 f (yPx f (yP.ok (yS f 0)))) := by rw [z108, hE84]
        have hF110 := zOn_tr hF85 hF106 zi_15
        have w111 : yPo (yPno 1 r94 (yTt 2 f (yPx f (yP.ok (yS f 0))))) = 0 := yPo_no
        refine zt_iload_n (pc' := 125) hX dX1_readQuestion_124 rfl rfl ?_
        have hq1 : yTt 2 f (yPx f (yP.ok (yS f 0))) = yQs1 f (yP.ok (yS f 0)) := yQs_t (by omega)
        exact zt_iret hX hR dX1_readQuestion_125 ⟨by omega, by omega⟩ ⟨hI105, hF110, by omega, by omega, (by rw [← hf]; exact hT107), (by rw [← hf]; exact (hE109.trans (yQst_m hq1 (by have h := z92; constructor <;> omega) (fun o => by omega)))), (by rw [← hf]; omega)⟩
    · refine zt_iload_n (pc' := 29) hX dX1_readQuestion_28 rfl rfl ?_
      refine zt_bipush (pc' := 31) hX dX1_readQuestion_29 rfl (by decide) (by decide) ?_
      refine zt_icne (pc' := 34) (tgt := 50) hX dX1_readQuestion_31 rfl (by decide) ⟨by omega, by omega⟩ ⟨by omega, by omega⟩ (fun c112 => ?_) (fun c112 => ?_)
      · refine zt_iload_n (pc' := 51) hX dX1_readQuestion_50 rfl rfl ?_
        refine zt_bipush (pc' := 53) hX dX1_readQuestion_51 rfl (by decide) (by decide) ?_
        refine zt_iceq (pc' := 56) (tgt := 68) hX dX1_readQuestion_53 rfl (by decide) ⟨by omega, by omega⟩ ⟨by omega, by omega⟩ (fun c113 => ?_) (fun c113 => ?_)
        · refine zt_aload_n (pc' := 69) hX dX1_readQuestion_68 rfl rfl ?_
          refine zt_get (pc' := 72) (v := .ref (X.1.1 + 27)) hX dX1_readQuestion_69 rfl zf_X1_15 (by decide) zc_33 zs_20 (zrf_of (zv_20_0 hI5 zc_33)) ?_
          refine zt_cVv (pc' := 75) hX dX1_readQuestion_72 rfl zm_yX5_step zw_22_6 zc_27 (by decide) zs_14 (q := (RX5, TX5, 9)) rfl rfl (yc_X5_step _ _ s2 hI5 f z7) rfl rfl (Nat.le_of_ble_eq_true rfl) (by decide) (fun r114 s115 hr116 hp117 => ?_)
          obtain ⟨hI118, hF119, hT120, z121⟩ := hp117
          have hE122 : yst s115 = yPx f (yP.ok (yS f 0)) := by rw [z121, z8]
          have hF123 := zOn_tr hF9 hF119 zi_15
          refine zt_aload_n (pc' := 76) hX dX1_readQuestion_75 rfl rfl ?_
          refine zt_aload_n (pc' := 77) hX dX1_readQuestion_76 rfl rfl ?_
          refine zt_iconst (pc' := 78) hX dX1_readQuestion_77 rfl ?_
          refine zt_cVv (pc' := 81) hX dX1_readQuestion_78 rfl zm_yX1_readSum zw_64_20 zc_33 (by decide) zs_20 (q := (RX1, TX1, 3)) rfl rfl (yc_X1_readSum _ _ s115 hI118 k1_ hk1_ 2 ⟨by omega, by omega⟩ f hT120) rfl rfl (Nat.le_of_ble_eq_true rfl) (by decide) (fun r124 s125 hr126 hp127 => ?_)
          obtain ⟨hI128, hF129, hT130, z131⟩ := hp127
          have hE132 : yst s125 = ySm 2 f (yPx f (yP.ok (yS f 0))) := by rw [z131, hE122]
          have hF133 := zOn_tr hF123 hF129 zi_45
          refine zt_goto (tgt := 99) hX dX1_readQuestion_81 (by decide) ?_
          refine zt_aload_n (pc' := 100) hX dX1_readQuestion_99 rfl rfl ?_
          refine zt_get (pc' := 103) (v := .ref (X.1.1 + 27)) hX dX1_readQuestion_100 rfl zf_X1_15 (by decide) zc_33 zs_20 (zrf_of (zv_20_0 hI128 zc_33)) ?_
          refine zt_cVz (pc' := 106) hX dX1_readQuestion_103 rfl zm_yX5_hasMore zw_64_21 zc_27 (by decide) zs_14 (q := (RX5, TX5, 9)) rfl rfl (yc_X5_hasMore _ _ s125 hI128 f hT130) rfl rfl (Nat.le_of_ble_eq_true rfl) (by decide) (fun r134 s135 hr136 hp137 => ?_)
          obtain ⟨rfl, q138, q139, z140⟩ := hp137
          rw [hE132] at z140
          refine zt_ifeq (pc' := 109) (tgt := 124) hX dX1_readQuestion_106 rfl (by decide) ⟨by omega, by omega⟩ (fun c141 => ?_) (fun c141 => ?_)
          · refine zt_iload_n (pc' := 125) hX dX1_readQuestion_124 rfl rfl ?_
            have hq1 : ySm 2 f (yPx f (yP.ok (yS f 0))) = yQs1 f (yP.ok (yS f 0)) := yQs_s (by omega)
            exact zt_iret hX hR dX1_readQuestion_125 ⟨by omega, by omega⟩ ⟨hI128, hF133, by omega, by omega, (by rw [← hf]; exact hT130), (by rw [← hf]; exact (hE132.trans (yQst_n hq1 (fun m => by omega)))), (by rw [← hf]; omega)⟩
          · refine zt_aload_n (pc' := 110) hX dX1_readQuestion_109 rfl rfl ?_
            refine zt_get (pc' := 113) (v := .ref (X.1.1 + 27)) hX dX1_readQuestion_110 rfl zf_X1_15 (by decide) zc_33 zs_20 (zrf_of (zv_20_0 hI128 zc_33)) ?_
            refine zt_iconst (pc' := 114) hX dX1_readQuestion_113 rfl ?_
            refine zt_aload_n (pc' := 115) hX dX1_readQuestion_114 rfl rfl ?_
            refine zt_get (pc' := 118) (v := .ref (X.1.1 + 27)) hX dX1_readQuestion_115 rfl zf_X1_15 (by decide) zc_33 zs_20 (zrf_of (zv_20_0 hI128 zc_33)) ?_
            refine zt_cVi (pc' := 121) hX dX1_readQuestion_118 rfl zm_yX5_placeHere zw_22_9 zc_27 (by decide) zs_14 (q := (RX5, TX5, 9)) rfl rfl (yc_X5_placeHere _ _ s125 hI128 f hT130) rfl rfl (Nat.le_of_ble_eq_true rfl) (by decide) (fun r142 s143 hr144 hp145 => ?_)
            obtain ⟨rfl, q146, q147, z148⟩ := hp145
            rw [hE132] at z148
            refine zt_cVv (pc' := 124) hX dX1_readQuestion_121 rfl zm_yX5_refuse zw_22_10 zc_27 (by decide) zs_14 (q := (RX5, TX5, 9)) rfl rfl (yc_X5_refuse _ _ s125 hI128 1 ⟨by omega, by omega⟩ r142 ⟨by omega, by omega⟩ (by omega) f hT130) rfl rfl (Nat.le_of_ble_eq_true rfl) (by decide) (fun r149 s150 hr151 hp152 => ?_)
            obtain ⟨hI153, hF154, hT155, z156⟩ := hp152
            have hE157 : yst s150 = yPno 1 r142 (ySm 2 f (yPx f (yP.ok (yS f 0)))) := by rw [z156, hE132]
            have hF158 := zOn_tr hF133 hF154 zi_15
            have w159 : yPo (yPno 1 r142 (ySm 2 f (yPx f (yP.ok (yS f 0))))) = 0 := yPo_no
            refine zt_iload_n (pc' := 125) hX dX1_readQuestion_124 rfl rfl ?_
            have hq1 : ySm 2 f (yPx f (yP.ok (yS f 0))) = yQs1 f (yP.ok (yS f 0)) := yQs_s (by omega)
            exact zt_iret hX hR dX1_readQuestion_125 ⟨by omega, by omega⟩ ⟨hI153, hF158, by omega, by omega, (by rw [← hf]; exact hT155), (by rw [← hf]; exact (hE157.trans (yQst_m hq1 (by have h := z140; constructor <;> omega) (fun o => by omega)))), (by rw [← hf]; omega)⟩
        · refine zt_iload_n (pc' := 57) hX dX1_readQuestion_56 rfl rfl ?_
          refine zt_bipush (pc' := 59) hX dX1_readQuestion_57 rfl (by decide) (by decide) ?_
          refine zt_iceq (pc' := 62) (tgt := 68) hX dX1_readQuestion_59 rfl (by decide) ⟨by omega, by omega⟩ ⟨by omega, by omega⟩ (fun c160 => ?_) (fun c160 => ?_)
          · refine zt_aload_n (pc' := 69) hX dX1_readQuestion_68 rfl rfl ?_
            refine zt_get (pc' := 72) (v := .ref (X.1.1 + 27)) hX dX1_readQuestion_69 rfl zf_X1_15 (by decide) zc_33 zs_20 (zrf_of (zv_20_0 hI5 zc_33)) ?_
            refine zt_cVv (pc' := 75) hX dX1_readQuestion_72 rfl zm_yX5_step zw_22_6 zc_27 (by decide) zs_14 (q := (RX5, TX5, 9)) rfl rfl (yc_X5_step _ _ s2 hI5 f z7) rfl rfl (Nat.le_of_ble_eq_true rfl) (by decide) (fun r161 s162 hr163 hp164 => ?_)
            obtain ⟨hI165, hF166, hT167, z168⟩ := hp164
            have hE169 : yst s162 = yPx f (yP.ok (yS f 0)) := by rw [z168, z8]
            have hF170 := zOn_tr hF9 hF166 zi_15
            refine zt_aload_n (pc' := 76) hX dX1_readQuestion_75 rfl rfl ?_
            refine zt_aload_n (pc' := 77) hX dX1_readQuestion_76 rfl rfl ?_
            refine zt_iconst (pc' := 78) hX dX1_readQuestion_77 rfl ?_
            refine zt_cVv (pc' := 81) hX dX1_readQuestion_78 rfl zm_yX1_readSum zw_64_20 zc_33 (by decide) zs_20 (q := (RX1, TX1, 3)) rfl rfl (yc_X1_readSum _ _ s162 hI165 k1_ hk1_ 2 ⟨by omega, by omega⟩ f hT167) rfl rfl (Nat.le_of_ble_eq_true rfl) (by decide) (fun r171 s172 hr173 hp174 => ?_)
            obtain ⟨hI175, hF176, hT177, z178⟩ := hp174
            have hE179 : yst s172 = ySm 2 f (yPx f (yP.ok (yS f 0))) := by rw [z178, hE169]
            have hF180 := zOn_tr hF170 hF176 zi_45
            refine zt_goto (tgt := 99) hX dX1_readQuestion_81 (by decide) ?_
            refine zt_aload_n (pc' := 100) hX dX1_readQuestion_99 rfl rfl ?_
            refine zt_get (pc' := 103) (v := .ref (X.1.1 + 27)) hX dX1_readQuestion_100 rfl zf_X1_15 (by decide) zc_33 zs_20 (zrf_of (zv_20_0 hI175 zc_33)) ?_
            refine zt_cVz (pc' := 106) hX dX1_readQuestion_103 rfl zm_yX5_hasMore zw_64_21 zc_27 (by decide) zs_14 (q := (RX5, TX5, 9)) rfl rfl (yc_X5_hasMore _ _ s172 hI175 f hT177) rfl rfl (Nat.le_of_ble_eq_true rfl) (by decide) (fun r181 s182 hr183 hp184 => ?_)
            obtain ⟨rfl, q185, q186, z187⟩ := hp184
            rw [hE179] at z187
            refine zt_ifeq (pc' := 109) (tgt := 124) hX dX1_readQuestion_106 rfl (by decide) ⟨by omega, by omega⟩ (fun c188 => ?_) (fun c188 => ?_)
            · refine zt_iload_n (pc' := 125) hX dX1_readQuestion_124 rfl rfl ?_
              have hq1 : ySm 2 f (yPx f (yP.ok (yS f 0))) = yQs1 f (yP.ok (yS f 0)) := yQs_s (by omega)
              exact zt_iret hX hR dX1_readQuestion_125 ⟨by omega, by omega⟩ ⟨hI175, hF180, by omega, by omega, (by rw [← hf]; exact hT177), (by rw [← hf]; exact (hE179.trans (yQst_n hq1 (fun m => by omega)))), (by rw [← hf]; omega)⟩
            · refine zt_aload_n (pc' := 110) hX dX1_readQuestion_109 rfl rfl ?_
              refine zt_get (pc' := 113) (v := .ref (X.1.1 + 27)) hX dX1_readQuestion_110 rfl zf_X1_15 (by decide) zc_33 zs_20 (zrf_of (zv_20_0 hI175 zc_33)) ?_
              refine zt_iconst (pc' := 114) hX dX1_readQuestion_113 rfl ?_
              refine zt_aload_n (pc' := 115) hX dX1_readQuestion_114 rfl rfl ?_
              refine zt_get (pc' := 118) (v := .ref (X.1.1 + 27)) hX dX1_readQuestion_115 rfl zf_X1_15 (by decide) zc_33 zs_20 (zrf_of (zv_20_0 hI175 zc_33)) ?_
              refine zt_cVi (pc' := 121) hX dX1_readQuestion_118 rfl zm_yX5_placeHere zw_22_9 zc_27 (by decide) zs_14 (q := (RX5, TX5, 9)) rfl rfl (yc_X5_placeHere _ _ s172 hI175 f hT177) rfl rfl (Nat.le_of_ble_eq_true rfl) (by decide) (fun r189 s190 hr191 hp192 => ?_)
              obtain ⟨rfl, q193, q194, z195⟩ := hp192
              rw [hE179] at z195
              refine zt_cVv (pc' := 124) hX dX1_readQuestion_121 rfl zm_yX5_refuse zw_22_10 zc_27 (by decide) zs_14 (q := (RX5, TX5, 9)) rfl rfl (yc_X5_refuse _ _ s172 hI175 1 ⟨by omega, by omega⟩ r189 ⟨by omega, by omega⟩ (by omega) f hT177) rfl rfl (Nat.le_of_ble_eq_true rfl) (by decide) (fun r196 s197 hr198 hp199 => ?_)
              obtain ⟨hI200, hF201, hT202, z203⟩ := hp199
              have hE204 : yst s197 = yPno 1 r189 (ySm 2 f (yPx f (yP.ok (yS f 0)))) := by rw [z203, hE179]
              have hF205 := zOn_tr hF180 hF201 zi_15
              have w206 : yPo (yPno 1 r189 (ySm 2 f (yPx f (yP.ok (yS f 0))))) = 0 := yPo_no
              refine zt_iload_n (pc' := 125) hX dX1_readQuestion_124 rfl rfl ?_
              have hq1 : ySm 2 f (yPx f (yP.ok (yS f 0))) = yQs1 f (yP.ok (yS f 0)) := yQs_s (by omega)
              exact zt_iret hX hR dX1_readQuestion_125 ⟨by omega, by omega⟩ ⟨hI200, hF205, by omega, by omega, (by rw [← hf]; exact hT202), (by rw [← hf]; exact (hE204.trans (yQst_m hq1 (by have h := z187; constructor <;> omega) (fun o => by omega)))), (by rw [← hf]; omega)⟩
          · refine zt_iload_n (pc' := 63) hX dX1_readQuestion_62 rfl rfl ?_
            refine zt_bipush (pc' := 65) hX dX1_readQuestion_63 rfl (by decide) (by decide) ?_
            refine zt_icne (pc' := 68) (tgt := 84) hX dX1_readQuestion_65 rfl (by decide) ⟨by omega, by omega⟩ ⟨by omega, by omega⟩ (fun c207 => ?_) (fun c207 => ?_)
            · refine zt_aload_n (pc' := 85) hX dX1_readQuestion_84 rfl rfl ?_
              refine zt_get (pc' := 88) (v := .ref (X.1.1 + 27)) hX dX1_readQuestion_85 rfl zf_X1_15 (by decide) zc_33 zs_20 (zrf_of (zv_20_0 hI5 zc_33)) ?_
              refine zt_iconst (pc' := 89) hX dX1_readQuestion_88 rfl ?_
              refine zt_aload_n (pc' := 90) hX dX1_readQuestion_89 rfl rfl ?_
              refine zt_get (pc' := 93) (v := .ref (X.1.1 + 27)) hX dX1_readQuestion_90 rfl zf_X1_15 (by decide) zc_33 zs_20 (zrf_of (zv_20_0 hI5 zc_33)) ?_
              refine zt_cVi (pc' := 96) hX dX1_readQuestion_93 rfl zm_yX5_placeHere zw_22_9 zc_27 (by decide) zs_14 (q := (RX5, TX5, 9)) rfl rfl (yc_X5_placeHere _ _ s2 hI5 f z7) rfl rfl (Nat.le_of_ble_eq_true rfl) (by decide) (fun r208 s209 hr210 hp211 => ?_)
              obtain ⟨rfl, q212, q213, z214⟩ := hp211
              rw [z8] at z214
              refine zt_cVv (pc' := 99) hX dX1_readQuestion_96 rfl zm_yX5_refuse zw_22_10 zc_27 (by decide) zs_14 (q := (RX5, TX5, 9)) rfl rfl (yc_X5_refuse _ _ s2 hI5 1 ⟨by omega, by omega⟩ r208 ⟨by omega, by omega⟩ (by omega) f z7) rfl rfl (Nat.le_of_ble_eq_true rfl) (by decide) (fun r215 s216 hr217 hp218 => ?_)
              obtain ⟨hI219, hF220, hT221, z222⟩ := hp218
              have hE223 : yst s216 = yPno 1 r208 (yP.ok (yS f 0)) := by rw [z222, z8]
              have hF224 := zOn_tr hF9 hF220 zi_15
              have w225 : yPo (yPno 1 r208 (yP.ok (yS f 0))) = 0 := yPo_no
              refine zt_aload_n (pc' := 100) hX dX1_readQuestion_99 rfl rfl ?_
              refine zt_get (pc' := 103) (v := .ref (X.1.1 + 27)) hX dX1_readQuestion_100 rfl zf_X1_15 (by decide) zc_33 zs_20 (zrf_of (zv_20_0 hI219 zc_33)) ?_
              refine zt_cVz (pc' := 106) hX dX1_readQuestion_103 rfl zm_yX5_hasMore zw_64_21 zc_27 (by decide) zs_14 (q := (RX5, TX5, 9)) rfl rfl (yc_X5_hasMore _ _ s216 hI219 f hT221) rfl rfl (Nat.le_of_ble_eq_true rfl) (by decide) (fun r226 s227 hr228 hp229 => ?_)
              obtain ⟨rfl, q230, q231, z232⟩ := hp229
              rw [hE223] at z232
              refine zt_ifeq (pc' := 109) (tgt := 124) hX dX1_readQuestion_106 rfl (by decide) ⟨by omega, by omega⟩ (fun c233 => ?_) (fun c233 => ?_)
              · refine zt_iload_n (pc' := 125) hX dX1_readQuestion_124 rfl rfl ?_
                have hq1 : yPno 1 r208 (yP.ok (yS f 0)) = yQs1 f (yP.ok (yS f 0)) := yQs_n (by omega) (fun o => by omega)
                exact zt_iret hX hR dX1_readQuestion_125 ⟨by omega, by omega⟩ ⟨hI219, hF224, by omega, by omega, (by rw [← hf]; exact hT221), (by rw [← hf]; exact (hE223.trans (yQst_n hq1 (fun m => by omega)))), (by rw [← hf]; omega)⟩
              · refine zt_aload_n (pc' := 110) hX dX1_readQuestion_109 rfl rfl ?_
                refine zt_get (pc' := 113) (v := .ref (X.1.1 + 27)) hX dX1_readQuestion_110 rfl zf_X1_15 (by decide) zc_33 zs_20 (zrf_of (zv_20_0 hI219 zc_33)) ?_
                refine zt_iconst (pc' := 114) hX dX1_readQuestion_113 rfl ?_
                refine zt_aload_n (pc' := 115) hX dX1_readQuestion_114 rfl rfl ?_
                refine zt_get (pc' := 118) (v := .ref (X.1.1 + 27)) hX dX1_readQuestion_115 rfl zf_X1_15 (by decide) zc_33 zs_20 (zrf_of (zv_20_0 hI219 zc_33)) ?_
                refine zt_cVi (pc' := 121) hX dX1_readQuestion_118 rfl zm_yX5_placeHere zw_22_9 zc_27 (by decide) zs_14 (q := (RX5, TX5, 9)) rfl rfl (yc_X5_placeHere _ _ s216 hI219 f hT221) rfl rfl (Nat.le_of_ble_eq_true rfl) (by decide) (fun r234 s235 hr236 hp237 => ?_)
                obtain ⟨rfl, q238, q239, z240⟩ := hp237
                rw [hE223] at z240
                refine zt_cVv (pc' := 124) hX dX1_readQuestion_121 rfl zm_yX5_refuse zw_22_10 zc_27 (by decide) zs_14 (q := (RX5, TX5, 9)) rfl rfl (yc_X5_refuse _ _ s216 hI219 1 ⟨by omega, by omega⟩ r234 ⟨by omega, by omega⟩ (by omega) f hT221) rfl rfl (Nat.le_of_ble_eq_true rfl) (by decide) (fun r241 s242 hr243 hp244 => ?_)
                obtain ⟨hI245, hF246, hT247, z248⟩ := hp244
                have hE249 : yst s242 = yPno 1 r234 (yPno 1 r208 (yP.ok (yS f 0))) := by rw [z248, hE223]
                have hF250 := zOn_tr hF224 hF246 zi_15
                have w251 : yPo (yPno 1 r234 (yPno 1 r208 (yP.ok (yS f 0)))) = 0 := yPo_no
                refine zt_iload_n (pc' := 125) hX dX1_readQuestion_124 rfl rfl ?_
                have hq1 : yPno 1 r208 (yP.ok (yS f 0)) = yQs1 f (yP.ok (yS f 0)) := yQs_n (by omega) (fun o => by omega)
                exact zt_iret hX hR dX1_readQuestion_125 ⟨by omega, by omega⟩ ⟨hI245, hF250, by omega, by omega, (by rw [← hf]; exact hT247), (by rw [← hf]; exact (hE249.trans (yQst_m hq1 (by have h := z232; constructor <;> omega) (fun o => by omega)))), (by rw [← hf]; omega)⟩
            · refine zt_aload_n (pc' := 69) hX dX1_readQuestion_68 rfl rfl ?_
              refine zt_get (pc' := 72) (v := .ref (X.1.1 + 27)) hX dX1_readQuestion_69 rfl zf_X1_15 (by decide) zc_33 zs_20 (zrf_of (zv_20_0 hI5 zc_33)) ?_
              refine zt_cVv (pc' := 75) hX dX1_readQuestion_72 rfl zm_yX5_step zw_22_6 zc_27 (by decide) zs_14 (q := (RX5, TX5, 9)) rfl rfl (yc_X5_step _ _ s2 hI5 f z7) rfl rfl (Nat.le_of_ble_eq_true rfl) (by decide) (fun r252 s253 hr254 hp255 => ?_)
              obtain ⟨hI256, hF257, hT258, z259⟩ := hp255
              have hE260 : yst s253 = yPx f (yP.ok (yS f 0)) := by rw [z259, z8]
              have hF261 := zOn_tr hF9 hF257 zi_15
              refine zt_aload_n (pc' := 76) hX dX1_readQuestion_75 rfl rfl ?_
              refine zt_aload_n (pc' := 77) hX dX1_readQuestion_76 rfl rfl ?_
              refine zt_iconst (pc' := 78) hX dX1_readQuestion_77 rfl ?_
              refine zt_cVv (pc' := 81) hX dX1_readQuestion_78 rfl zm_yX1_readSum zw_64_20 zc_33 (by decide) zs_20 (q := (RX1, TX1, 3)) rfl rfl (yc_X1_readSum _ _ s253 hI256 k1_ hk1_ 2 ⟨by omega, by omega⟩ f hT258) rfl rfl (Nat.le_of_ble_eq_true rfl) (by decide) (fun r262 s263 hr264 hp265 => ?_)
              obtain ⟨hI266, hF267, hT268, z269⟩ := hp265
              have hE270 : yst s263 = ySm 2 f (yPx f (yP.ok (yS f 0))) := by rw [z269, hE260]
              have hF271 := zOn_tr hF261 hF267 zi_45
              refine zt_goto (tgt := 99) hX dX1_readQuestion_81 (by decide) ?_
              refine zt_aload_n (pc' := 100) hX dX1_readQuestion_99 rfl rfl ?_
              refine zt_get (pc' := 103) (v := .ref (X.1.1 + 27)) hX dX1_readQuestion_100 rfl zf_X1_15 (by decide) zc_33 zs_20 (zrf_of (zv_20_0 hI266 zc_33)) ?_
              refine zt_cVz (pc' := 106) hX dX1_readQuestion_103 rfl zm_yX5_hasMore zw_64_21 zc_27 (by decide) zs_14 (q := (RX5, TX5, 9)) rfl rfl (yc_X5_hasMore _ _ s263 hI266 f hT268) rfl rfl (Nat.le_of_ble_eq_true rfl) (by decide) (fun r272 s273 hr274 hp275 => ?_)
              obtain ⟨rfl, q276, q277, z278⟩ := hp275
              rw [hE270] at z278
              refine zt_ifeq (pc' := 109) (tgt := 124) hX dX1_readQuestion_106 rfl (by decide) ⟨by omega, by omega⟩ (fun c279 => ?_) (fun c279 => ?_)
              · refine zt_iload_n (pc' := 125) hX dX1_readQuestion_124 rfl rfl ?_
                have hq1 : ySm 2 f (yPx f (yP.ok (yS f 0))) = yQs1 f (yP.ok (yS f 0)) := yQs_s (by omega)
                exact zt_iret hX hR dX1_readQuestion_125 ⟨by omega, by omega⟩ ⟨hI266, hF271, by omega, by omega, (by rw [← hf]; exact hT268), (by rw [← hf]; exact (hE270.trans (yQst_n hq1 (fun m => by omega)))), (by rw [← hf]; omega)⟩
              · refine zt_aload_n (pc' := 110) hX dX1_readQuestion_109 rfl rfl ?_
                refine zt_get (pc' := 113) (v := .ref (X.1.1 + 27)) hX dX1_readQuestion_110 rfl zf_X1_15 (by decide) zc_33 zs_20 (zrf_of (zv_20_0 hI266 zc_33)) ?_
                refine zt_iconst (pc' := 114) hX dX1_readQuestion_113 rfl ?_
                refine zt_aload_n (pc' := 115) hX dX1_readQuestion_114 rfl rfl ?_
                refine zt_get (pc' := 118) (v := .ref (X.1.1 + 27)) hX dX1_readQuestion_115 rfl zf_X1_15 (by decide) zc_33 zs_20 (zrf_of (zv_20_0 hI266 zc_33)) ?_
                refine zt_cVi (pc' := 121) hX dX1_readQuestion_118 rfl zm_yX5_placeHere zw_22_9 zc_27 (by decide) zs_14 (q := (RX5, TX5, 9)) rfl rfl (yc_X5_placeHere _ _ s263 hI266 f hT268) rfl rfl (Nat.le_of_ble_eq_true rfl) (by decide) (fun r280 s281 hr282 hp283 => ?_)
                obtain ⟨rfl, q284, q285, z286⟩ := hp283
                rw [hE270] at z286
                refine zt_cVv (pc' := 124) hX dX1_readQuestion_121 rfl zm_yX5_refuse zw_22_10 zc_27 (by decide) zs_14 (q := (RX5, TX5, 9)) rfl rfl (yc_X5_refuse _ _ s263 hI266 1 ⟨by omega, by omega⟩ r280 ⟨by omega, by omega⟩ (by omega) f hT268) rfl rfl (Nat.le_of_ble_eq_true rfl) (by decide) (fun r287 s288 hr289 hp290 => ?_)
                obtain ⟨hI291, hF292, hT293, z294⟩ := hp290
                have hE295 : yst s288 = yPno 1 r280 (ySm 2 f (yPx f (yP.ok (yS f 0)))) := by rw [z294, hE270]
                have hF296 := zOn_tr hF271 hF292 zi_15
                have w297 : yPo (yPno 1 r280 (ySm 2 f (yPx f (yP.ok (yS f 0))))) = 0 := yPo_no
                refine zt_iload_n (pc' := 125) hX dX1_readQuestion_124 rfl rfl ?_
                have hq1 : ySm 2 f (yPx f (yP.ok (yS f 0))) = yQs1 f (yP.ok (yS f 0)) := yQs_s (by omega)
                exact zt_iret hX hR dX1_readQuestion_125 ⟨by omega, by omega⟩ ⟨hI291, hF296, by omega, by omega, (by rw [← hf]; exact hT293), (by rw [← hf]; exact (hE295.trans (yQst_m hq1 (by have h := z278; constructor <;> omega) (fun o => by omega)))), (by rw [← hf]; omega)⟩
      · refine zt_aload_n (pc' := 35) hX dX1_readQuestion_34 rfl rfl ?_
        refine zt_get (pc' := 38) (v := .ref (X.1.1 + 27)) hX dX1_readQuestion_35 rfl zf_X1_15 (by decide) zc_33 zs_20 (zrf_of (zv_20_0 hI5 zc_33)) ?_
        refine zt_cVv (pc' := 41) hX dX1_readQuestion_38 rfl zm_yX5_step zw_22_6 zc_27 (by decide) zs_14 (q := (RX5, TX5, 9)) rfl rfl (yc_X5_step _ _ s2 hI5 f z7) rfl rfl (Nat.le_of_ble_eq_true rfl) (by decide) (fun r298 s299 hr300 hp301 => ?_)
        obtain ⟨hI302, hF303, hT304, z305⟩ := hp301
        have hE306 : yst s299 = yPx f (yP.ok (yS f 0)) := by rw [z305, z8]
        have hF307 := zOn_tr hF9 hF303 zi_15
        refine zt_aload_n (pc' := 42) hX dX1_readQuestion_41 rfl rfl ?_
        refine zt_aload_n (pc' := 43) hX dX1_readQuestion_42 rfl rfl ?_
        refine zt_iconst (pc' := 44) hX dX1_readQuestion_43 rfl ?_
        refine zt_cVv (pc' := 47) hX dX1_readQuestion_44 rfl zm_yX1_readTest zw_64_19 zc_33 (by decide) zs_20 (q := (RX1, TX1, 3)) rfl rfl (yc_X1_readTest _ _ s299 hI302 k1_ hk1_ 2 ⟨by omega, by omega⟩ f hT304) rfl rfl (Nat.le_of_ble_eq_true rfl) (by decide) (fun r308 s309 hr310 hp311 => ?_)
        obtain ⟨hI312, hF313, hT314, z315⟩ := hp311
        have hE316 : yst s309 = yTt 2 f (yPx f (yP.ok (yS f 0))) := by rw [z315, hE306]
        have hF317 := zOn_tr hF307 hF313 zi_45
        refine zt_goto (tgt := 99) hX dX1_readQuestion_47 (by decide) ?_
        refine zt_aload_n (pc' := 100) hX dX1_readQuestion_99 rfl rfl ?_
        refine zt_get (pc' := 103) (v := .ref (X.1.1 + 27)) hX dX1_readQuestion_100 rfl zf_X1_15 (by decide) zc_33 zs_20 (zrf_of (zv_20_0 hI312 zc_33)) ?_
        refine zt_cVz (pc' := 106) hX dX1_readQuestion_103 rfl zm_yX5_hasMore zw_64_21 zc_27 (by decide) zs_14 (q := (RX5, TX5, 9)) rfl rfl (yc_X5_hasMore _ _ s309 hI312 f hT314) rfl rfl (Nat.le_of_ble_eq_true rfl) (by decide) (fun r318 s319 hr320 hp321 => ?_)
        obtain ⟨rfl, q322, q323, z324⟩ := hp321
        rw [hE316] at z324
        refine zt_ifeq (pc' := 109) (tgt := 124) hX dX1_readQuestion_106 rfl (by decide) ⟨by omega, by omega⟩ (fun c325 => ?_) (fun c325 => ?_)
        · refine zt_iload_n (pc' := 125) hX dX1_readQuestion_124 rfl rfl ?_
          have hq1 : yTt 2 f (yPx f (yP.ok (yS f 0))) = yQs1 f (yP.ok (yS f 0)) := yQs_t (by omega)
          exact zt_iret hX hR dX1_readQuestion_125 ⟨by omega, by omega⟩ ⟨hI312, hF317, by omega, by omega, (by rw [← hf]; exact hT314), (by rw [← hf]; exact (hE316.trans (yQst_n hq1 (fun m => by omega)))), (by rw [← hf]; omega)⟩
        · refine zt_aload_n (pc' := 110) hX dX1_readQuestion_109 rfl rfl ?_
          refine zt_get (pc' := 113) (v := .ref (X.1.1 + 27)) hX dX1_readQuestion_110 rfl zf_X1_15 (by decide) zc_33 zs_20 (zrf_of (zv_20_0 hI312 zc_33)) ?_
          refine zt_iconst (pc' := 114) hX dX1_readQuestion_113 rfl ?_
          refine zt_aload_n (pc' := 115) hX dX1_readQuestion_114 rfl rfl ?_
          refine zt_get (pc' := 118) (v := .ref (X.1.1 + 27)) hX dX1_readQuestion_115 rfl zf_X1_15 (by decide) zc_33 zs_20 (zrf_of (zv_20_0 hI312 zc_33)) ?_
          refine zt_cVi (pc' := 121) hX dX1_readQuestion_118 rfl zm_yX5_placeHere zw_22_9 zc_27 (by decide) zs_14 (q := (RX5, TX5, 9)) rfl rfl (yc_X5_placeHere _ _ s309 hI312 f hT314) rfl rfl (Nat.le_of_ble_eq_true rfl) (by decide) (fun r326 s327 hr328 hp329 => ?_)
          obtain ⟨rfl, q330, q331, z332⟩ := hp329
          rw [hE316] at z332
          refine zt_cVv (pc' := 124) hX dX1_readQuestion_121 rfl zm_yX5_refuse zw_22_10 zc_27 (by decide) zs_14 (q := (RX5, TX5, 9)) rfl rfl (yc_X5_refuse _ _ s309 hI312 1 ⟨by omega, by omega⟩ r326 ⟨by omega, by omega⟩ (by omega) f hT314) rfl rfl (Nat.le_of_ble_eq_true rfl) (by decide) (fun r333 s334 hr335 hp336 => ?_)
          obtain ⟨hI337, hF338, hT339, z340⟩ := hp336
          have hE341 : yst s334 = yPno 1 r326 (yTt 2 f (yPx f (yP.ok (yS f 0)))) := by rw [z340, hE316]
          have hF342 := zOn_tr hF317 hF338 zi_15
          have w343 : yPo (yPno 1 r326 (yTt 2 f (yPx f (yP.ok (yS f 0))))) = 0 := yPo_no
          refine zt_iload_n (pc' := 125) hX dX1_readQuestion_124 rfl rfl ?_
          have hq1 : yTt 2 f (yPx f (yP.ok (yS f 0))) = yQs1 f (yP.ok (yS f 0)) := yQs_t (by omega)
          exact zt_iret hX hR dX1_readQuestion_125 ⟨by omega, by omega⟩ ⟨hI337, hF342, by omega, by omega, (by rw [← hf]; exact hT339), (by rw [← hf]; exact (hE341.trans (yQst_m hq1 (by have h := z324; constructor <;> omega) (fun o => by omega)))), (by rw [← hf]; omega)⟩
