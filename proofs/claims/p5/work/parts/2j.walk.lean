set_option maxRecDepth 100000 in
set_option maxHeartbeats 4000000 in
theorem zc_X11_crackedWithMended (l : Launch) (E : zEN) (σ : zSto) (hI : zInv σ) (a1_ : Int) (ha1_ : 0 ≤ a1_ ∧ a1_ ≤ 35) (a2_ : Int) (ha2_ : 0 ≤ a2_ ∧ a2_ ≤ 60) : zCt l E yX11_crackedWithMended cX11_crackedWithMended 4 (some .int) 6 zNC zNC 0 0 σ [.ref (E.1 + 0), .int (zI a1_), .int (zI a2_)] (fun r σ' => zInv σ' ∧ zFE σ σ' ∧ 0 ≤ r ∧ r ≤ 127) := by
  refine zCt_of2 [some (.ref (E.1 + 0)), some (.int (zI a1_)), some (.int (zI a2_)), none] (by decide +kernel) (Nat.le_of_ble_eq_true rfl) rfl ?_
  intro X hE hX hR hL hN
  subst hE
  have hX : zok X cX11_crackedWithMended RX11 6 := hX
  have hF := zFE_rf σ
  refine zt_aload_n (pc' := 1) hX dX11_crackedWithMended_0 rfl rfl ?_
  refine zt_iconst (pc' := 2) hX dX11_crackedWithMended_1 rfl ?_
  refine zt_cVv (pc' := 5) hX dX11_crackedWithMended_2 rfl zm_yX11_lookAhead zw_48_10 zc_0 (by decide) zs_1 (q := (RX11, TX11, 17)) rfl rfl (zc_X11_lookAhead _ _ σ hI 0 ⟨by omega, by omega⟩) rfl rfl (Nat.le_of_ble_eq_true rfl) (by decide) (fun r1 s2 hr3 hp4 => ?_)
  obtain ⟨hI5, hF6⟩ := hp4
  have hF7 := zFE_tr hF hF6
  refine zt_aload_n (pc' := 6) hX dX11_crackedWithMended_5 rfl rfl ?_
  refine zt_get (pc' := 9) (v := .ref (X.1.1 + 40)) hX dX11_crackedWithMended_6 rfl zf_X11_70 (by decide) zc_0 zs_1 (zrf_of (zv_1_9 hI5 zc_0)) ?_
  refine zt_dup (pc' := 10) hX dX11_crackedWithMended_9 rfl rfl ?_
  have b8 := zv_22_6 hI5 zc_40
  refine zt_get (pc' := 13) (v := .long (zJ (s2 40 6))) hX dX11_crackedWithMended_10 rfl zf_X11_153 (by decide) zc_40 zs_22 rfl ?_
  refine zt_lconst (pc' := 14) (y := 1) hX dX11_crackedWithMended_13 rfl (by decide +kernel) ?_
  refine zt_iload_n (pc' := 15) hX dX11_crackedWithMended_14 rfl rfl ?_
  refine zt_lshl (pc' := 16) hX dX11_crackedWithMended_15 rfl (fun r9 zr9 lr9 ur9 => ?_)
  clear zr9
  refine zt_ldc2 (pc' := 19) (x := (-1)) hX dX11_crackedWithMended_16 rfl zw_56_7 (by decide +kernel) ?_
  refine zt_lxor (pc' := 20) hX dX11_crackedWithMended_19 rfl (fun r10 zr10 lr10 ur10 => ?_)
  clear zr10
  refine zt_land (pc' := 21) hX dX11_crackedWithMended_20 rfl (fun r11 zr11 lr11 ur11 => ?_)
  clear zr11
  refine zt_put (pc' := 24) (x := r11) hX dX11_crackedWithMended_21 rfl zf_X11_153 (by decide) zc_40 zs_22 (fun q hq => by cases hq; rfl) rfl rfl rfl ?_
  generalize hs13 : zset s2 40 6 r11 = s12
  have hI14 : zInv s12 := hs13 ▸ zp_22_6 hI5 zc_40 ⟨by omega, by omega⟩
  have hF15 : zFE σ s12 := hs13 ▸ zFE_set hF7 zc_40 (by decide) zke_22 (Or.inl (by decide)) (Or.inl (by decide))
  refine zt_iconst (pc' := 25) hX dX11_crackedWithMended_24 rfl ?_
  refine zt_istore_n (pc' := 26) (lv' := [some (.ref (X.1.1 + 0)), some (.int (zI a1_)), some (.int (zI a2_)), some (.int (zI 0))]) hX dX11_crackedWithMended_25 rfl hL (by decide) rfl ?_
  have L_26_21 : ∀ (N : Nat) (x16 : Int) (s19 : zSto), 0 ≤ x16 → x16 ≤ 60 → zInv s19 → zFE σ s19 → ((61 - x16).toNat) < N → zF X s19 26 [some (.ref (X.1.1 + 0)), none, some (.int (zI a2_)), some (.int (zI x16))] [] := by
    intro N
    induction N with
    | zero =>
      intro x16 s19 h17 h18 hI20 hF21 hm23
      exact absurd hm23 (Nat.not_lt_zero _)
    | succ N ih24 =>
      intro x16 s19 h17 h18 hI20 hF21 hm23
      refine zt_iload_n (pc' := 27) hX dX11_crackedWithMended_26 rfl rfl ?_
      refine zt_iload_n (pc' := 28) hX dX11_crackedWithMended_27 rfl rfl ?_
      refine zt_icge (pc' := 31) (tgt := 46) hX dX11_crackedWithMended_28 rfl (by decide) ⟨by omega, by omega⟩ ⟨by omega, by omega⟩ (fun c25 => ?_) (fun c25 => ?_)
      · refine zt_aload_n (pc' := 47) hX dX11_crackedWithMended_46 rfl rfl ?_
        refine zt_get (pc' := 50) (v := .ref (X.1.1 + 40)) hX dX11_crackedWithMended_47 rfl zf_X11_70 (by decide) zc_0 zs_1 (zrf_of (zv_1_9 hI20 zc_0)) ?_
        have b26 := zv_22_6 hI20 zc_40
        refine zt_get (pc' := 53) (v := .long (zJ (s19 40 6))) hX dX11_crackedWithMended_50 rfl zf_X11_153 (by decide) zc_40 zs_22 rfl ?_
        refine zt_cSi (pc' := 56) hX dX11_crackedWithMended_53 rfl zm_yJ13_bitCount_95d88 zw_33_17 (zc_J13_bitCount _ _ s19  (s19 40 6) ⟨by omega, by omega⟩) rfl rfl (Nat.le_of_ble_eq_true rfl) (by decide) (fun r27 s28 hr29 hp30 => ?_)
        obtain ⟨rfl, q31, q32⟩ := hp30
        exact zt_iret hX hR dX11_crackedWithMended_56 ⟨by omega, by omega⟩ ⟨hI20, hF21, by omega, by omega⟩
      · refine zt_aload_n (pc' := 32) hX dX11_crackedWithMended_31 rfl rfl ?_
        refine zt_get (pc' := 35) (v := .ref (X.1.1 + 153)) hX dX11_crackedWithMended_32 rfl zf_X11_92 (by decide) zc_0 zs_1 (zrf_of (zv_1_12 hI20 zc_0)) ?_
        refine zt_iconst (pc' := 36) hX dX11_crackedWithMended_35 rfl ?_
        refine zt_cVl (pc' := 39) hX dX11_crackedWithMended_36 rfl zm_yX6_passHour zw_48_18 zc_153 (by decide) zs_35 (q := (RX6, TX6, 14)) rfl rfl (zc_X6_passHour _ _ s19 hI20 (-1) ⟨by omega, by omega⟩) rfl rfl (Nat.le_of_ble_eq_true rfl) (by decide) (fun r33 s34 hr35 hp36 => ?_)
        obtain ⟨hI37, hF38, q39, q40⟩ := hp36
        have hF41 := zFE_tr hF21 hF38
        refine zt_pop2l (pc' := 40) hX dX11_crackedWithMended_39 rfl rfl ?_
        refine zt_iinc (pc' := 43) (lv' := [some (.ref (X.1.1 + 0)), none, some (.int (zI a2_)), some (.int (zI (x16 + 1)))]) hX dX11_crackedWithMended_40 rfl rfl hL (by decide) rfl ?_
        refine zt_goto (tgt := 26) hX dX11_crackedWithMended_43 (by decide) ?_
        exact ih24 (x16 + 1) s34 (by omega) (by omega) hI37 (by omega) (by omega)
  refine zt_mask [true, false, true, true] rfl ?_
  exact L_26_21 _ 0 s12 (by omega) (by omega) hI14 (by omega) (Nat.lt_succ_self _)

set_option maxRecDepth 100000 in
set_option maxHeartbeats 4000000 in
theorem zc_X11_tellFound (l : Launch) (E : zEN) (σ : zSto) (hI : zInv σ) (a1_ : Int) (ha1_ : -2147483648 ≤ a1_ ∧ a1_ ≤ 2147483647) (a2_ : Int) (ha2_ : -2147483648 ≤ a2_ ∧ a2_ ≤ 2147483647) : zCt l E yX11_tellFound cX11_tellFound 3 (some .int) 0 zNC zNC 0 0 σ [.ref (E.1 + 0), .int (zI a1_), .int (zI a2_)] (fun r σ' => σ = σ' ∧ -2147483648 ≤ r ∧ r ≤ 2147483647) := by
  refine zCt_of2 [some (.ref (E.1 + 0)), some (.int (zI a1_)), some (.int (zI a2_))] (by decide +kernel) (Nat.le_of_ble_eq_true rfl) rfl ?_
  intro X hE hX hR hL hN
  subst hE
  have hX : zok X cX11_tellFound RX11 0 := hX
  refine zt_iload_n (pc' := 1) hX dX11_tellFound_0 rfl rfl ?_
  refine zt_iconst (pc' := 2) hX dX11_tellFound_1 rfl ?_
  refine zt_iceq (pc' := 5) (tgt := 15) hX dX11_tellFound_2 rfl (by decide) ⟨by omega, by omega⟩ ⟨by omega, by omega⟩ (fun c1 => ?_) (fun c1 => ?_)
  · refine zt_iconst (pc' := 16) hX dX11_tellFound_15 rfl ?_
    exact zt_iret hX hR dX11_tellFound_16 ⟨by omega, by omega⟩ ⟨rfl, by omega, by omega⟩
  · refine zt_aload_n (pc' := 6) hX dX11_tellFound_5 rfl rfl ?_
    obtain ⟨k2, ek3, hk4⟩ := zv_1_3 hI zc_0
    refine zt_get (pc' := 9) (v := .ref (X.1.1 + k2)) hX dX11_tellFound_6 rfl zf_X11_31 (by decide) zc_0 zs_1 (zrf_of ek3) ?_
    have b5 := zv_8_10 hI hk4
    refine zt_get (pc' := 12) (v := .int (zI (σ k2 10))) hX dX11_tellFound_9 rfl zf_X11_141 (zro_lt hk4 (by decide)) hk4 zs_8 rfl ?_
    refine zt_ifgt (pc' := 15) (tgt := 17) hX dX11_tellFound_12 rfl (by decide) ⟨by omega, by omega⟩ (fun c6 => ?_) (fun c6 => ?_)
    · refine zt_iload_n (pc' := 18) hX dX11_tellFound_17 rfl rfl ?_
      rcases (show a2_ = 0 ∨ a2_ = 1 ∨ a2_ = 2 ∨ (a2_ < 0 ∨ 2 < a2_) by omega) with c7 | c7 | c7 | c7
      · refine zt_tsIn (v := 0) (tgt := 44) hX dX11_tellFound_18 c7 (by decide) (by decide) (by decide) rfl (by decide) ?_
        refine zt_iload_n (pc' := 45) hX dX11_tellFound_44 rfl rfl ?_
        refine zt_bipush (pc' := 47) hX dX11_tellFound_45 rfl (by decide) (by decide) ?_
        refine zt_iandm (pc' := 48) hX dX11_tellFound_47 rfl 6 (by decide +kernel) (by decide) (fun r8 er8 lr8 ur8 => ?_)
        have ur8 : r8 ≤ 63 := by omega
        refine zt_aload_n (pc' := 49) hX dX11_tellFound_48 rfl rfl ?_
        refine zt_get (pc' := 52) (v := .ref (X.1.1 + k2)) hX dX11_tellFound_49 rfl zf_X11_31 (by decide) zc_0 zs_1 (zrf_of ek3) ?_
        refine zt_get (pc' := 55) (v := .int (zI (σ k2 10))) hX dX11_tellFound_52 rfl zf_X11_141 (zro_lt hk4 (by decide)) hk4 zs_8 rfl ?_
        refine zt_irem (pc' := 56) hX dX11_tellFound_55 rfl ⟨by omega, by omega⟩ ⟨by omega, by omega⟩ (fun r9 er9 br9 nr9 => ?_)
        rw [ztm_p (by omega)] at er9
        exact zt_iret hX hR dX11_tellFound_56 ⟨by omega, by omega⟩ ⟨rfl, by omega, by omega⟩
      · refine zt_tsIn (v := 1) (tgt := 57) hX dX11_tellFound_18 c7 (by decide) (by decide) (by decide) rfl (by decide) ?_
        refine zt_iload_n (pc' := 58) hX dX11_tellFound_57 rfl rfl ?_
        refine zt_bipush (pc' := 60) hX dX11_tellFound_58 rfl (by decide) (by decide) ?_
        refine zt_iandm (pc' := 61) hX dX11_tellFound_60 rfl 6 (by decide +kernel) (by decide) (fun r10 er10 lr10 ur10 => ?_)
        have ur10 : r10 ≤ 63 := by omega
        refine zt_aload_n (pc' := 62) hX dX11_tellFound_61 rfl rfl ?_
        refine zt_get (pc' := 65) (v := .ref (X.1.1 + k2)) hX dX11_tellFound_62 rfl zf_X11_31 (by decide) zc_0 zs_1 (zrf_of ek3) ?_
        refine zt_get (pc' := 68) (v := .int (zI (σ k2 10))) hX dX11_tellFound_65 rfl zf_X11_141 (zro_lt hk4 (by decide)) hk4 zs_8 rfl ?_
        refine zt_idivg (pc' := 69) hX dX11_tellFound_68 rfl (by omega) ⟨by omega, by omega⟩ (fun r11 er11 lr11 ur11 => ?_)
        exact zt_iret hX hR dX11_tellFound_69 ⟨by omega, by omega⟩ ⟨rfl, by omega, by omega⟩
      · refine zt_tsIn (v := 2) (tgt := 70) hX dX11_tellFound_18 c7 (by decide) (by decide) (by decide) rfl (by decide) ?_
        refine zt_iload_n (pc' := 71) hX dX11_tellFound_70 rfl rfl ?_
        refine zt_bipush (pc' := 73) hX dX11_tellFound_71 rfl (by decide) (by decide) ?_
        refine zt_ishr (pc' := 74) hX dX11_tellFound_73 rfl (fun r12 zr12 lr12 ur12 => ?_)
        clear zr12
        exact zt_iret hX hR dX11_tellFound_74 ⟨by omega, by omega⟩ ⟨rfl, by omega, by omega⟩
      · refine zt_tsOut (tgt := 75) hX dX11_tellFound_18 ⟨by omega, by omega⟩ c7 (by decide) ?_
        refine zt_iconst (pc' := 76) hX dX11_tellFound_75 rfl ?_
        exact zt_iret hX hR dX11_tellFound_76 ⟨by omega, by omega⟩ ⟨rfl, by omega, by omega⟩
    · refine zt_iconst (pc' := 16) hX dX11_tellFound_15 rfl ?_
      exact zt_iret hX hR dX11_tellFound_16 ⟨by omega, by omega⟩ ⟨rfl, by omega, by omega⟩

set_option maxRecDepth 100000 in
set_option maxHeartbeats 4000000 in
theorem zc_X11_draw (l : Launch) (E : zEN) (σ : zSto) (hI : zInv σ) (a1_ : Int) (ha1_ : -2147483648 ≤ a1_ ∧ a1_ ≤ 2147483647) : zCt l E yX11_draw cX11_draw 2 (some .int) 0 zNC zNC 0 0 σ [.ref (E.1 + 0), .int (zI a1_)] (fun r σ' => zInv σ' ∧ zFE σ σ' ∧ -2147483648 ≤ r ∧ r ≤ 2147483647) := by
  refine zCt_of2 [some (.ref (E.1 + 0)), some (.int (zI a1_))] (by decide +kernel) (Nat.le_of_ble_eq_true rfl) rfl ?_
  intro X hE hX hR hL hN
  subst hE
  have hX : zok X cX11_draw RX11 0 := hX
  have hF := zFE_rf σ
  refine zt_aload_n (pc' := 1) hX dX11_draw_0 rfl rfl ?_
  refine zt_ldc2 (pc' := 4) (x := 1103515245) hX dX11_draw_1 rfl zw_62_23 (by decide +kernel) ?_
  refine zt_aload_n (pc' := 5) hX dX11_draw_4 rfl rfl ?_
  have b1 := zv_1_14 hI zc_0
  refine zt_get (pc' := 8) (v := .int (zI (σ 0 14))) hX dX11_draw_5 rfl zf_X11_100 (by decide) zc_0 zs_1 rfl ?_
  refine zt_i2l (pc' := 9) hX dX11_draw_8 rfl ⟨by omega, by omega⟩ ?_
  refine zt_lmul (pc' := 10) hX dX11_draw_9 rfl ?_
  refine zt_ldc2 (pc' := 13) (x := 12345) hX dX11_draw_10 rfl zw_63_0 (by decide +kernel) ?_
  refine zt_ladd (pc' := 14) hX dX11_draw_13 rfl ?_
  refine zt_ldc2 (pc' := 17) (x := 2147483647) hX dX11_draw_14 rfl zw_63_1 (by decide +kernel) ?_
  refine zt_land (pc' := 18) hX dX11_draw_17 rfl (fun r2 zr2 lr2 ur2 => ?_)
  clear zr2
  refine zt_l2i (pc' := 19) hX dX11_draw_18 rfl ?_
  refine zt_wrap (fun r3 zr3 lr3 ur3 => ?_)
  clear zr3
  refine zt_put (pc' := 22) (x := r3) hX dX11_draw_19 rfl zf_X11_100 (by decide) zc_0 zs_1 (fun q hq => by cases hq; rfl) rfl rfl rfl ?_
  generalize hs5 : zset σ 0 14 r3 = s4
  have hI6 : zInv s4 := hs5 ▸ zp_1_14 hI zc_0 ⟨by omega, by omega⟩
  have hF7 : zFE σ s4 := hs5 ▸ zFE_set hF zc_0 (by decide) zke_1 (Or.inr (by decide)) (Or.inl (by decide))
  refine zt_iload_n (pc' := 23) hX dX11_draw_22 rfl rfl ?_
  refine zt_ifle (pc' := 26) (tgt := 38) hX dX11_draw_23 rfl (by decide) ⟨by omega, by omega⟩ (fun c8 => ?_) (fun c8 => ?_)
  · refine zt_iconst (pc' := 39) hX dX11_draw_38 rfl ?_
    exact zt_iret hX hR dX11_draw_39 ⟨by omega, by omega⟩ ⟨hI6, hF7, by omega, by omega⟩
  · refine zt_aload_n (pc' := 27) hX dX11_draw_26 rfl rfl ?_
    have b9 := zv_1_14 hI6 zc_0
    have e10 : s4 0 14 = r3 := by rw [← hs5]; exact zset_s
    refine zt_get (pc' := 30) (v := .int (zI (s4 0 14))) hX dX11_draw_27 rfl zf_X11_100 (by decide) zc_0 zs_1 rfl ?_
    refine zt_bipush (pc' := 32) hX dX11_draw_30 rfl (by decide) (by decide) ?_
    refine zt_ishr (pc' := 33) hX dX11_draw_32 rfl (fun r11 zr11 lr11 ur11 => ?_)
    clear zr11
    refine zt_iload_n (pc' := 34) hX dX11_draw_33 rfl rfl ?_
    refine zt_irem (pc' := 35) hX dX11_draw_34 rfl ⟨by omega, by omega⟩ ⟨by omega, by omega⟩ (fun r12 er12 br12 nr12 => ?_)
    refine zt_goto (tgt := 39) hX dX11_draw_35 (by decide) ?_
    exact zt_iret hX hR dX11_draw_39 ⟨by omega, by omega⟩ ⟨hI6, hF7, by omega, by omega⟩

set_option maxRecDepth 100000 in
set_option maxHeartbeats 4000000 in
theorem zc_X11_answerOf (l : Launch) (E : zEN) (σ : zSto) (hI : zInv σ) (a1_ : Int) (ha1_ : 0 ≤ a1_ ∧ a1_ ≤ 9) (a2_ : Int) (ha2_ : -2147483648 ≤ a2_ ∧ a2_ ≤ 2147483647) : zCt l E yX11_answerOf cX11_answerOf 3 (some .int) 3 zNC zNC 0 0 σ [.ref (E.1 + 0), .int (zI a1_), .int (zI a2_)] (fun r σ' => zInv σ' ∧ zFE σ σ' ∧ -2147483648 ≤ r ∧ r ≤ 2147483647) := by
  refine zCt_of2 [some (.ref (E.1 + 0)), some (.int (zI a1_)), some (.int (zI a2_))] (by decide +kernel) (Nat.le_of_ble_eq_true rfl) rfl ?_
  intro X hE hX hR hL hN
  subst hE
  have hX : zok X cX11_answerOf RX11 3 := hX
  have hF := zFE_rf σ
  refine zt_aload_n (pc' := 1) hX dX11_answerOf_0 rfl rfl ?_
  refine zt_get (pc' := 4) (v := .ref (X.1.1 + 153)) hX dX11_answerOf_1 rfl zf_X11_92 (by decide) zc_0 zs_1 (zrf_of (zv_1_12 hI zc_0)) ?_
  refine zt_iload_n (pc' := 5) hX dX11_answerOf_4 rfl rfl ?_
  refine zt_iload_n (pc' := 6) hX dX11_answerOf_5 rfl rfl ?_
  refine zt_cVv (pc' := 9) hX dX11_answerOf_6 rfl zm_yX6_showAsked zw_65_7 zc_153 (by decide) zs_35 (q := (RX6, TX6, 14)) rfl rfl (zc_X6_showAsked _ _ σ hI a1_ ⟨by omega, by omega⟩ a2_ ⟨by omega, by omega⟩) rfl rfl (Nat.le_of_ble_eq_true rfl) (by decide) (fun r1 s2 hr3 hp4 => ?_)
  obtain ⟨hI5, hF6⟩ := hp4
  have hF7 := zFE_tr hF hF6
  refine zt_aload_n (pc' := 10) hX dX11_answerOf_9 rfl rfl ?_
  refine zt_get (pc' := 13) (v := .ref (X.1.1 + 153)) hX dX11_answerOf_10 rfl zf_X11_92 (by decide) zc_0 zs_1 (zrf_of (zv_1_12 hI5 zc_0)) ?_
  refine zt_get (pc' := 16) (v := .ref (X.1.1 + 154)) hX dX11_answerOf_13 rfl zf_X11_387 (by decide) zc_153 zs_35 (zrf_of (zv_35_0 hI5 zc_153)) ?_
  refine zt_aload_n (pc' := 17) hX dX11_answerOf_16 rfl rfl ?_
  refine zt_get (pc' := 20) (v := .ref (X.1.1 + 5)) hX dX11_answerOf_17 rfl zf_X11_24 (by decide) zc_0 zs_1 (zrf_of (zv_1_2 hI5 zc_0)) ?_
  refine zt_cVi (pc' := 23) hX dX11_answerOf_20 rfl zm_yX0_run zw_65_13 zc_154 (by decide) zs_36 (q := (RX0, TX0, 4)) rfl rfl (zc_X0_run _ _ s2 hI5 5 zc_5) rfl rfl (Nat.le_of_ble_eq_true rfl) (by decide) (fun r8 s9 hr10 hp11 => ?_)
  obtain ⟨hI12, hF13, q14, q15⟩ := hp11
  have hF16 := zFE_tr hF7 hF13
  exact zt_iret hX hR dX11_answerOf_23 ⟨by omega, by omega⟩ ⟨hI12, hF16, by omega, by omega⟩

set_option maxRecDepth 100000 in
set_option maxHeartbeats 4000000 in
theorem zc_X11_firstFor (l : Launch) (E : zEN) (σ : zSto) (hI : zInv σ) (a1_ : Int) (ha1_ : -2147483648 ≤ a1_ ∧ a1_ ≤ 2147483647) : zCt l E yX11_firstFor cX11_firstFor 3 (some .int) 4 zNC zNC 0 0 σ [.ref (E.1 + 0), .int (zI a1_)] (fun r σ' => zInv σ' ∧ zFE σ σ' ∧ -2147483648 ≤ r ∧ r ≤ 2147483647) := by
  refine zCt_of2 [some (.ref (E.1 + 0)), some (.int (zI a1_)), none] (by decide +kernel) (Nat.le_of_ble_eq_true rfl) rfl ?_
  intro X hE hX hR hL hN
  subst hE
  have hX : zok X cX11_firstFor RX11 4 := hX
  have hF := zFE_rf σ
  refine zt_iconst (pc' := 1) hX dX11_firstFor_0 rfl ?_
  refine zt_istore_n (pc' := 2) (lv' := [some (.ref (X.1.1 + 0)), some (.int (zI a1_)), some (.int (zI 0))]) hX dX11_firstFor_1 rfl hL (by decide) rfl ?_
  have L_2_6 : ∀ (N : Nat) (x1 : Int) (s4 : zSto), 0 ≤ x1 → x1 ≤ 10 → zInv s4 → zFE σ s4 → ((11 - x1).toNat) < N → zF X s4 2 [some (.ref (X.1.1 + 0)), some (.int (zI a1_)), some (.int (zI x1))] [] := by
    intro N
    induction N with
    | zero =>
      intro x1 s4 h2 h3 hI5 hF6 hm8
      exact absurd hm8 (Nat.not_lt_zero _)
    | succ N ih9 =>
      intro x1 s4 h2 h3 hI5 hF6 hm8
      refine zt_iload_n (pc' := 3) hX dX11_firstFor_2 rfl rfl ?_
      refine zt_aload_n (pc' := 4) hX dX11_firstFor_3 rfl rfl ?_
      obtain ⟨k10, ek11, hk12⟩ := zv_1_3 hI5 zc_0
      refine zt_get (pc' := 7) (v := .ref (X.1.1 + k10)) hX dX11_firstFor_4 rfl zf_X11_31 (by decide) zc_0 zs_1 (zrf_of ek11) ?_
      have b13 := zv_8_12 hI5 hk12
      refine zt_get (pc' := 10) (v := .int (zI (s4 k10 12))) hX dX11_firstFor_7 rfl zf_X11_147 (zro_lt hk12 (by decide)) hk12 zs_8 rfl ?_
      refine zt_icge (pc' := 13) (tgt := 30) hX dX11_firstFor_10 rfl (by decide) ⟨by omega, by omega⟩ ⟨by omega, by omega⟩ (fun c14 => ?_) (fun c14 => ?_)
      · refine zt_iconst (pc' := 31) hX dX11_firstFor_30 rfl ?_
        exact zt_iret hX hR dX11_firstFor_31 ⟨by omega, by omega⟩ ⟨hI5, hF6, by omega, by omega⟩
      · refine zt_aload_n (pc' := 14) hX dX11_firstFor_13 rfl rfl ?_
        refine zt_iload_n (pc' := 15) hX dX11_firstFor_14 rfl rfl ?_
        refine zt_iload_n (pc' := 16) hX dX11_firstFor_15 rfl rfl ?_
        refine zt_cVi (pc' := 19) hX dX11_firstFor_16 rfl zm_yX11_answerOf zw_65_2 zc_0 (by decide) zs_1 (q := (RX11, TX11, 17)) rfl rfl (zc_X11_answerOf _ _ s4 hI5 x1 ⟨by omega, by omega⟩ a1_ ⟨by omega, by omega⟩) rfl rfl (Nat.le_of_ble_eq_true rfl) (by decide) (fun r15 s16 hr17 hp18 => ?_)
        obtain ⟨hI19, hF20, q21, q22⟩ := hp18
        have hF23 := zFE_tr hF6 hF20
        refine zt_ifeq (pc' := 22) (tgt := 24) hX dX11_firstFor_19 rfl (by decide) ⟨by omega, by omega⟩ (fun c24 => ?_) (fun c24 => ?_)
        · refine zt_iinc (pc' := 27) (lv' := [some (.ref (X.1.1 + 0)), some (.int (zI a1_)), some (.int (zI (x1 + 1)))]) hX dX11_firstFor_24 rfl rfl hL (by decide) rfl ?_
          refine zt_goto (tgt := 2) hX dX11_firstFor_27 (by decide) ?_
          exact ih9 (x1 + 1) s16 (by omega) (by omega) hI19 (by omega) (by omega)
        · refine zt_iload_n (pc' := 23) hX dX11_firstFor_22 rfl rfl ?_
          exact zt_iret hX hR dX11_firstFor_23 ⟨by omega, by omega⟩ ⟨hI19, hF23, by omega, by omega⟩
  exact L_2_6 _ 0 σ (by omega) (by omega) hI (by omega) (Nat.lt_succ_self _)

set_option maxRecDepth 100000 in
set_option maxHeartbeats 4000000 in
theorem zc_X11_lastFor (l : Launch) (E : zEN) (σ : zSto) (hI : zInv σ) (a1_ : Int) (ha1_ : -2147483648 ≤ a1_ ∧ a1_ ≤ 2147483647) : zCt l E yX11_lastFor cX11_lastFor 3 (some .int) 4 zNC zNC 0 0 σ [.ref (E.1 + 0), .int (zI a1_)] (fun r σ' => zInv σ' ∧ zFE σ σ' ∧ -2147483648 ≤ r ∧ r ≤ 2147483647) := by
  refine zCt_of2 [some (.ref (E.1 + 0)), some (.int (zI a1_)), none] (by decide +kernel) (Nat.le_of_ble_eq_true rfl) rfl ?_
  intro X hE hX hR hL hN
  subst hE
  have hX : zok X cX11_lastFor RX11 4 := hX
  have hF := zFE_rf σ
  refine zt_aload_n (pc' := 1) hX dX11_lastFor_0 rfl rfl ?_
  obtain ⟨k1, ek2, hk3⟩ := zv_1_3 hI zc_0
  refine zt_get (pc' := 4) (v := .ref (X.1.1 + k1)) hX dX11_lastFor_1 rfl zf_X11_31 (by decide) zc_0 zs_1 (zrf_of ek2) ?_
  have b4 := zv_8_12 hI hk3
  refine zt_get (pc' := 7) (v := .int (zI (σ k1 12))) hX dX11_lastFor_4 rfl zf_X11_147 (zro_lt hk3 (by decide)) hk3 zs_8 rfl ?_
  refine zt_iconst (pc' := 8) hX dX11_lastFor_7 rfl ?_
  refine zt_isub (pc' := 9) hX dX11_lastFor_8 rfl ?_
  refine zt_istore_n (pc' := 10) (lv' := [some (.ref (X.1.1 + 0)), some (.int (zI a1_)), some (.int (zI ((σ k1 12) - 1)))]) hX dX11_lastFor_9 rfl hL (by decide) rfl ?_
  have L_10_10 : ∀ (N : Nat) (x5 : Int) (s8 : zSto), -1 ≤ x5 → x5 ≤ 9 → zInv s8 → zFE σ s8 → ((x5 - (-2)).toNat) < N → zF X s8 10 [some (.ref (X.1.1 + 0)), some (.int (zI a1_)), some (.int (zI x5))] [] := by
    intro N
    induction N with
    | zero =>
      intro x5 s8 h6 h7 hI9 hF10 hm12
      exact absurd hm12 (Nat.not_lt_zero _)
    | succ N ih13 =>
      intro x5 s8 h6 h7 hI9 hF10 hm12
      refine zt_iload_n (pc' := 11) hX dX11_lastFor_10 rfl rfl ?_
      refine zt_iflt (pc' := 14) (tgt := 31) hX dX11_lastFor_11 rfl (by decide) ⟨by omega, by omega⟩ (fun c14 => ?_) (fun c14 => ?_)
      · refine zt_iconst (pc' := 32) hX dX11_lastFor_31 rfl ?_
        exact zt_iret hX hR dX11_lastFor_32 ⟨by omega, by omega⟩ ⟨hI9, hF10, by omega, by omega⟩
      · refine zt_aload_n (pc' := 15) hX dX11_lastFor_14 rfl rfl ?_
        refine zt_iload_n (pc' := 16) hX dX11_lastFor_15 rfl rfl ?_
        refine zt_iload_n (pc' := 17) hX dX11_lastFor_16 rfl rfl ?_
        refine zt_cVi (pc' := 20) hX dX11_lastFor_17 rfl zm_yX11_answerOf zw_65_2 zc_0 (by decide) zs_1 (q := (RX11, TX11, 17)) rfl rfl (zc_X11_answerOf _ _ s8 hI9 x5 ⟨by omega, by omega⟩ a1_ ⟨by omega, by omega⟩) rfl rfl (Nat.le_of_ble_eq_true rfl) (by decide) (fun r15 s16 hr17 hp18 => ?_)
        obtain ⟨hI19, hF20, q21, q22⟩ := hp18
        have hF23 := zFE_tr hF10 hF20
        refine zt_ifeq (pc' := 23) (tgt := 25) hX dX11_lastFor_20 rfl (by decide) ⟨by omega, by omega⟩ (fun c24 => ?_) (fun c24 => ?_)
        · refine zt_iinc (pc' := 28) (lv' := [some (.ref (X.1.1 + 0)), some (.int (zI a1_)), some (.int (zI (x5 + (-1))))]) hX dX11_lastFor_25 rfl rfl hL (by decide) rfl ?_
          refine zt_goto (tgt := 10) hX dX11_lastFor_28 (by decide) ?_
          exact ih13 (x5 + (-1)) s16 (by omega) (by omega) hI19 (by omega) (by omega)
        · refine zt_iload_n (pc' := 24) hX dX11_lastFor_23 rfl rfl ?_
          exact zt_iret hX hR dX11_lastFor_24 ⟨by omega, by omega⟩ ⟨hI19, hF23, by omega, by omega⟩
  exact L_10_10 _ ((σ k1 12) - 1) σ (by omega) (by omega) hI (by omega) (Nat.lt_succ_self _)

set_option maxRecDepth 100000 in
set_option maxHeartbeats 4000000 in
theorem zc_X11_howOften (l : Launch) (E : zEN) (σ : zSto) (hI : zInv σ) (a1_ : Int) (ha1_ : -2147483648 ≤ a1_ ∧ a1_ ≤ 2147483647) : zCt l E yX11_howOften cX11_howOften 4 (some .int) 4 zNC zNC 0 0 σ [.ref (E.1 + 0), .int (zI a1_)] (fun r σ' => zInv σ' ∧ zFE σ σ' ∧ -2147483648 ≤ r ∧ r ≤ 2147483647) := by
  refine zCt_of2 [some (.ref (E.1 + 0)), some (.int (zI a1_)), none, none] (by decide +kernel) (Nat.le_of_ble_eq_true rfl) rfl ?_
  intro X hE hX hR hL hN
  subst hE
  have hX : zok X cX11_howOften RX11 4 := hX
  have hF := zFE_rf σ
  refine zt_iconst (pc' := 1) hX dX11_howOften_0 rfl ?_
  refine zt_istore_n (pc' := 2) (lv' := [some (.ref (X.1.1 + 0)), some (.int (zI a1_)), some (.int (zI 0)), none]) hX dX11_howOften_1 rfl hL (by decide) rfl ?_
  refine zt_iconst (pc' := 3) hX dX11_howOften_2 rfl ?_
  refine zt_istore_n (pc' := 4) (lv' := [some (.ref (X.1.1 + 0)), some (.int (zI a1_)), some (.int (zI 0)), some (.int (zI 0))]) hX dX11_howOften_3 rfl hL (by decide) rfl ?_
  have L_4_9 : ∀ (N : Nat) (x1 : Int) (x4 : Int) (s7 : zSto), -2147483648 ≤ x1 → x1 ≤ 2147483647 → 0 ≤ x4 → x4 ≤ 10 → zInv s7 → zFE σ s7 → ((11 - x4).toNat) < N → zF X s7 4 [some (.ref (X.1.1 + 0)), some (.int (zI a1_)), some (.int (zI x1)), some (.int (zI x4))] [] := by
    intro N
    induction N with
    | zero =>
      intro x1 x4 s7 h2 h3 h5 h6 hI8 hF9 hm11
      exact absurd hm11 (Nat.not_lt_zero _)
    | succ N ih12 =>
      intro x1 x4 s7 h2 h3 h5 h6 hI8 hF9 hm11
      refine zt_iload_n (pc' := 5) hX dX11_howOften_4 rfl rfl ?_
      refine zt_aload_n (pc' := 6) hX dX11_howOften_5 rfl rfl ?_
      obtain ⟨k13, ek14, hk15⟩ := zv_1_3 hI8 zc_0
      refine zt_get (pc' := 9) (v := .ref (X.1.1 + k13)) hX dX11_howOften_6 rfl zf_X11_31 (by decide) zc_0 zs_1 (zrf_of ek14) ?_
      have b16 := zv_8_12 hI8 hk15
      refine zt_get (pc' := 12) (v := .int (zI (s7 k13 12))) hX dX11_howOften_9 rfl zf_X11_147 (zro_lt hk15 (by decide)) hk15 zs_8 rfl ?_
      refine zt_icge (pc' := 15) (tgt := 33) hX dX11_howOften_12 rfl (by decide) ⟨by omega, by omega⟩ ⟨by omega, by omega⟩ (fun c17 => ?_) (fun c17 => ?_)
      · refine zt_iload_n (pc' := 34) hX dX11_howOften_33 rfl rfl ?_
        exact zt_iret hX hR dX11_howOften_34 ⟨by omega, by omega⟩ ⟨hI8, hF9, by omega, by omega⟩
      · refine zt_aload_n (pc' := 16) hX dX11_howOften_15 rfl rfl ?_
        refine zt_iload_n (pc' := 17) hX dX11_howOften_16 rfl rfl ?_
        refine zt_iload_n (pc' := 18) hX dX11_howOften_17 rfl rfl ?_
        refine zt_cVi (pc' := 21) hX dX11_howOften_18 rfl zm_yX11_answerOf zw_65_2 zc_0 (by decide) zs_1 (q := (RX11, TX11, 17)) rfl rfl (zc_X11_answerOf _ _ s7 hI8 x4 ⟨by omega, by omega⟩ a1_ ⟨by omega, by omega⟩) rfl rfl (Nat.le_of_ble_eq_true rfl) (by decide) (fun r18 s19 hr20 hp21 => ?_)
        obtain ⟨hI22, hF23, q24, q25⟩ := hp21
        have hF26 := zFE_tr hF9 hF23
        have J_27_29 : ∀ (x27 : Int), -2147483648 ≤ x27 → x27 ≤ 2147483647 → zF X s19 27 [some (.ref (X.1.1 + 0)), some (.int (zI a1_)), some (.int (zI x27)), some (.int (zI x4))] [] := by
          intro x27 h28 h29
          refine zt_iinc (pc' := 30) (lv' := [some (.ref (X.1.1 + 0)), some (.int (zI a1_)), some (.int (zI x27)), some (.int (zI (x4 + 1)))]) hX dX11_howOften_27 rfl rfl hL (by decide) rfl ?_
          refine zt_goto (tgt := 4) hX dX11_howOften_30 (by decide) ?_
          exact ih12 x27 (x4 + 1) s19 (by omega) (by omega) (by omega) (by omega) hI22 (by omega) (by omega)
        refine zt_ifeq (pc' := 24) (tgt := 27) hX dX11_howOften_21 rfl (by decide) ⟨by omega, by omega⟩ (fun c31 => ?_) (fun c31 => ?_)
        · exact J_27_29 x1 (by omega) (by omega)
        · refine zt_iinc (pc' := 27) (lv' := [some (.ref (X.1.1 + 0)), some (.int (zI a1_)), some (.int (zI (x1 + 1))), some (.int (zI x4))]) hX dX11_howOften_24 rfl rfl hL (by decide) rfl ?_
          obtain ⟨r32, er32, lr32, ur32⟩ := zwr (x1 + 1)
          rw [← er32]
          exact J_27_29 r32 (by omega) (by omega)
  exact L_4_9 _ 0 0 σ (by omega) (by omega) (by omega) (by omega) hI (by omega) (Nat.lt_succ_self _)

set_option maxRecDepth 100000 in
set_option maxHeartbeats 4000000 in
theorem zc_X11_total (l : Launch) (E : zEN) (σ : zSto) (hI : zInv σ) (a1_ : Int) (ha1_ : -2147483648 ≤ a1_ ∧ a1_ ≤ 2147483647) : zCt l E yX11_total cX11_total 5 (some .long) 4 zNC zNC 0 0 σ [.ref (E.1 + 0), .int (zI a1_)] (fun r σ' => zInv σ' ∧ zFE σ σ' ∧ -9223372036854775808 ≤ r ∧ r ≤ 9223372036854775807) := by
  refine zCt_of2 [some (.ref (E.1 + 0)), some (.int (zI a1_)), none, none, none] (by decide +kernel) (Nat.le_of_ble_eq_true rfl) rfl ?_
  intro X hE hX hR hL hN
  subst hE
  have hX : zok X cX11_total RX11 4 := hX
  have hF := zFE_rf σ
  refine zt_lconst (pc' := 1) (y := 0) hX dX11_total_0 rfl (by decide +kernel) ?_
  refine zt_lstore_n (pc' := 2) (lv' := [some (.ref (X.1.1 + 0)), some (.int (zI a1_)), some (.long (zJ 0)), none, none]) hX dX11_total_1 rfl hL (by decide) rfl ?_
  refine zt_iconst (pc' := 3) hX dX11_total_2 rfl ?_
  refine zt_istore (pc' := 5) (lv' := [some (.ref (X.1.1 + 0)), some (.int (zI a1_)), some (.long (zJ 0)), none, some (.int (zI 0))]) hX dX11_total_3 rfl hL (by decide) rfl ?_
  have L_5_9 : ∀ (N : Nat) (x1 : Int) (x4 : Int) (s7 : zSto), -9223372036854775808 ≤ x1 → x1 ≤ 9223372036854775807 → 0 ≤ x4 → x4 ≤ 10 → zInv s7 → zFE σ s7 → ((11 - x4).toNat) < N → zF X s7 5 [some (.ref (X.1.1 + 0)), some (.int (zI a1_)), some (.long (zJ x1)), none, some (.int (zI x4))] [] := by
    intro N
    induction N with
    | zero =>
      intro x1 x4 s7 h2 h3 h5 h6 hI8 hF9 hm11
      exact absurd hm11 (Nat.not_lt_zero _)
    | succ N ih12 =>
      intro x1 x4 s7 h2 h3 h5 h6 hI8 hF9 hm11
      refine zt_iload (pc' := 7) hX dX11_total_5 rfl rfl ?_
      refine zt_aload_n (pc' := 8) hX dX11_total_7 rfl rfl ?_
      obtain ⟨k13, ek14, hk15⟩ := zv_1_3 hI8 zc_0
      refine zt_get (pc' := 11) (v := .ref (X.1.1 + k13)) hX dX11_total_8 rfl zf_X11_31 (by decide) zc_0 zs_1 (zrf_of ek14) ?_
      have b16 := zv_8_12 hI8 hk15
      refine zt_get (pc' := 14) (v := .int (zI (s7 k13 12))) hX dX11_total_11 rfl zf_X11_147 (zro_lt hk15 (by decide)) hk15 zs_8 rfl ?_
      refine zt_icge (pc' := 17) (tgt := 34) hX dX11_total_14 rfl (by decide) ⟨by omega, by omega⟩ ⟨by omega, by omega⟩ (fun c17 => ?_) (fun c17 => ?_)
      · refine zt_lload_n (pc' := 35) hX dX11_total_34 rfl rfl ?_
        exact zt_lret hX hR dX11_total_35 ⟨by omega, by omega⟩ ⟨hI8, hF9, by omega, by omega⟩
      · refine zt_lload_n (pc' := 18) hX dX11_total_17 rfl rfl ?_
        refine zt_aload_n (pc' := 19) hX dX11_total_18 rfl rfl ?_
        refine zt_iload (pc' := 21) hX dX11_total_19 rfl rfl ?_
        refine zt_iload_n (pc' := 22) hX dX11_total_21 rfl rfl ?_
        refine zt_cVi (pc' := 25) hX dX11_total_22 rfl zm_yX11_answerOf zw_65_2 zc_0 (by decide) zs_1 (q := (RX11, TX11, 17)) rfl rfl (zc_X11_answerOf _ _ s7 hI8 x4 ⟨by omega, by omega⟩ a1_ ⟨by omega, by omega⟩) rfl rfl (Nat.le_of_ble_eq_true rfl) (by decide) (fun r18 s19 hr20 hp21 => ?_)
        obtain ⟨hI22, hF23, q24, q25⟩ := hp21
        have hF26 := zFE_tr hF9 hF23
        refine zt_i2l (pc' := 26) hX dX11_total_25 rfl ⟨by omega, by omega⟩ ?_
        refine zt_ladd (pc' := 27) hX dX11_total_26 rfl ?_
        refine zt_wrapl (fun r27 zr27 lr27 ur27 => ?_)
        clear zr27
        refine zt_lstore_n (pc' := 28) (lv' := [some (.ref (X.1.1 + 0)), some (.int (zI a1_)), some (.long (zJ r27)), none, some (.int (zI x4))]) hX dX11_total_27 rfl hL (by decide) rfl ?_
        refine zt_iinc (pc' := 31) (lv' := [some (.ref (X.1.1 + 0)), some (.int (zI a1_)), some (.long (zJ r27)), none, some (.int (zI (x4 + 1)))]) hX dX11_total_28 rfl rfl hL (by decide) rfl ?_
        refine zt_goto (tgt := 5) hX dX11_total_31 (by decide) ?_
        exact ih12 r27 (x4 + 1) s19 (by omega) (by omega) (by omega) (by omega) hI22 (by omega) (by omega)
  exact L_5_9 _ 0 0 σ (by omega) (by omega) (by omega) (by omega) hI (by omega) (Nat.lt_succ_self _)

set_option maxRecDepth 100000 in
set_option maxHeartbeats 4000000 in
theorem zc_X11_most (l : Launch) (E : zEN) (σ : zSto) (hI : zInv σ) (a1_ : Int) (ha1_ : -2147483648 ≤ a1_ ∧ a1_ ≤ 2147483647) : zCt l E yX11_most cX11_most 5 (some .int) 4 zNC zNC 0 0 σ [.ref (E.1 + 0), .int (zI a1_)] (fun r σ' => zInv σ' ∧ zFE σ σ' ∧ -2147483648 ≤ r ∧ r ≤ 2147483647) := by
  refine zCt_of2 [some (.ref (E.1 + 0)), some (.int (zI a1_)), none, none, none] (by decide +kernel) (Nat.le_of_ble_eq_true rfl) rfl ?_
  intro X hE hX hR hL hN
  subst hE
  have hX : zok X cX11_most RX11 4 := hX
  have hF := zFE_rf σ
  refine zt_iconst (pc' := 1) hX dX11_most_0 rfl ?_
  refine zt_istore_n (pc' := 2) (lv' := [some (.ref (X.1.1 + 0)), some (.int (zI a1_)), some (.int (zI 0)), none, none]) hX dX11_most_1 rfl hL (by decide) rfl ?_
  refine zt_iconst (pc' := 3) hX dX11_most_2 rfl ?_
  refine zt_istore_n (pc' := 4) (lv' := [some (.ref (X.1.1 + 0)), some (.int (zI a1_)), some (.int (zI 0)), some (.int (zI 0)), none]) hX dX11_most_3 rfl hL (by decide) rfl ?_
  have L_4_9 : ∀ (N : Nat) (x1 : Int) (x4 : Int) (s7 : zSto), -2147483648 ≤ x1 → x1 ≤ 2147483647 → 0 ≤ x4 → x4 ≤ 10 → zInv s7 → zFE σ s7 → ((11 - x4).toNat) < N → zF X s7 4 [some (.ref (X.1.1 + 0)), some (.int (zI a1_)), some (.int (zI x1)), some (.int (zI x4)), none] [] := by
    intro N
    induction N with
    | zero =>
      intro x1 x4 s7 h2 h3 h5 h6 hI8 hF9 hm11
      exact absurd hm11 (Nat.not_lt_zero _)
    | succ N ih12 =>
      intro x1 x4 s7 h2 h3 h5 h6 hI8 hF9 hm11
      refine zt_iload_n (pc' := 5) hX dX11_most_4 rfl rfl ?_
      refine zt_aload_n (pc' := 6) hX dX11_most_5 rfl rfl ?_
      obtain ⟨k13, ek14, hk15⟩ := zv_1_3 hI8 zc_0
      refine zt_get (pc' := 9) (v := .ref (X.1.1 + k13)) hX dX11_most_6 rfl zf_X11_31 (by decide) zc_0 zs_1 (zrf_of ek14) ?_
      have b16 := zv_8_12 hI8 hk15
      refine zt_get (pc' := 12) (v := .int (zI (s7 k13 12))) hX dX11_most_9 rfl zf_X11_147 (zro_lt hk15 (by decide)) hk15 zs_8 rfl ?_
      refine zt_icge (pc' := 15) (tgt := 45) hX dX11_most_12 rfl (by decide) ⟨by omega, by omega⟩ ⟨by omega, by omega⟩ (fun c17 => ?_) (fun c17 => ?_)
      · refine zt_iload_n (pc' := 46) hX dX11_most_45 rfl rfl ?_
        exact zt_iret hX hR dX11_most_46 ⟨by omega, by omega⟩ ⟨hI8, hF9, by omega, by omega⟩
      · refine zt_aload_n (pc' := 16) hX dX11_most_15 rfl rfl ?_
        refine zt_iload_n (pc' := 17) hX dX11_most_16 rfl rfl ?_
        refine zt_iload_n (pc' := 18) hX dX11_most_17 rfl rfl ?_
        refine zt_cVi (pc' := 21) hX dX11_most_18 rfl zm_yX11_answerOf zw_65_2 zc_0 (by decide) zs_1 (q := (RX11, TX11, 17)) rfl rfl (zc_X11_answerOf _ _ s7 hI8 x4 ⟨by omega, by omega⟩ a1_ ⟨by omega, by omega⟩) rfl rfl (Nat.le_of_ble_eq_true rfl) (by decide) (fun r18 s19 hr20 hp21 => ?_)
        obtain ⟨hI22, hF23, q24, q25⟩ := hp21
        have hF26 := zFE_tr hF9 hF23
        refine zt_istore (pc' := 23) (lv' := [some (.ref (X.1.1 + 0)), some (.int (zI a1_)), some (.int (zI x1)), some (.int (zI x4)), some (.int (zI r18))]) hX dX11_most_21 rfl hL (by decide) rfl ?_
        refine zt_iload_n (pc' := 24) hX dX11_most_23 rfl rfl ?_
        have J_38_29 : ∀ (y27 : Int), -2147483648 ≤ y27 → y27 ≤ 2147483647 → zF X s19 38 [some (.ref (X.1.1 + 0)), some (.int (zI a1_)), none, some (.int (zI x4)), none] [.int (zI y27)] := by
          intro y27 h28 h29
          refine zt_istore_n (pc' := 39) (lv' := [some (.ref (X.1.1 + 0)), some (.int (zI a1_)), some (.int (zI y27)), some (.int (zI x4)), none]) hX dX11_most_38 rfl hL (by decide) rfl ?_
          refine zt_iinc (pc' := 42) (lv' := [some (.ref (X.1.1 + 0)), some (.int (zI a1_)), some (.int (zI y27)), some (.int (zI (x4 + 1))), none]) hX dX11_most_39 rfl rfl hL (by decide) rfl ?_
          refine zt_goto (tgt := 4) hX dX11_most_42 (by decide) ?_
          exact ih12 y27 (x4 + 1) s19 (by omega) (by omega) (by omega) (by omega) hI22 (by omega) (by omega)
        refine zt_ifne (pc' := 27) (tgt := 32) hX dX11_most_24 rfl (by decide) ⟨by omega, by omega⟩ (fun c31 => ?_) (fun c31 => ?_)
        · refine zt_iload_n (pc' := 33) hX dX11_most_32 rfl rfl ?_
          refine zt_iload (pc' := 35) hX dX11_most_33 rfl rfl ?_
          refine zt_mmax (pc' := 38) hX (by decide) dX11_most_35 rfl zw_66_6 zw_35_13 zw_34_21 zw_35_14 (Nat.le_of_ble_eq_true rfl) ⟨Nat.zero_le _, Nat.zero_le _⟩ ⟨by omega, by omega⟩ ⟨by omega, by omega⟩ (fun r32 er32 => ?_)
          refine zt_mask [true, true, false, true, false] rfl ?_
          exact J_38_29 r32 (by omega) (by omega)
        · refine zt_iload (pc' := 29) hX dX11_most_27 rfl rfl ?_
          refine zt_goto (tgt := 38) hX dX11_most_29 (by decide) ?_
          refine zt_mask [true, true, false, true, false] rfl ?_
          exact J_38_29 r18 (by omega) (by omega)
  exact L_4_9 _ 0 0 σ (by omega) (by omega) (by omega) (by omega) hI (by omega) (Nat.lt_succ_self _)

set_option maxRecDepth 100000 in
set_option maxHeartbeats 4000000 in
theorem zc_X11_least (l : Launch) (E : zEN) (σ : zSto) (hI : zInv σ) (a1_ : Int) (ha1_ : -2147483648 ≤ a1_ ∧ a1_ ≤ 2147483647) : zCt l E yX11_least cX11_least 5 (some .int) 4 zNC zNC 0 0 σ [.ref (E.1 + 0), .int (zI a1_)] (fun r σ' => zInv σ' ∧ zFE σ σ' ∧ -2147483648 ≤ r ∧ r ≤ 2147483647) := by
  refine zCt_of2 [some (.ref (E.1 + 0)), some (.int (zI a1_)), none, none, none] (by decide +kernel) (Nat.le_of_ble_eq_true rfl) rfl ?_
  intro X hE hX hR hL hN
  subst hE
  have hX : zok X cX11_least RX11 4 := hX
  have hF := zFE_rf σ
  refine zt_iconst (pc' := 1) hX dX11_least_0 rfl ?_
  refine zt_istore_n (pc' := 2) (lv' := [some (.ref (X.1.1 + 0)), some (.int (zI a1_)), some (.int (zI 0)), none, none]) hX dX11_least_1 rfl hL (by decide) rfl ?_
  refine zt_iconst (pc' := 3) hX dX11_least_2 rfl ?_
  refine zt_istore_n (pc' := 4) (lv' := [some (.ref (X.1.1 + 0)), some (.int (zI a1_)), some (.int (zI 0)), some (.int (zI 0)), none]) hX dX11_least_3 rfl hL (by decide) rfl ?_
  have L_4_9 : ∀ (N : Nat) (x1 : Int) (x4 : Int) (s7 : zSto), -2147483648 ≤ x1 → x1 ≤ 2147483647 → 0 ≤ x4 → x4 ≤ 10 → zInv s7 → zFE σ s7 → ((11 - x4).toNat) < N → zF X s7 4 [some (.ref (X.1.1 + 0)), some (.int (zI a1_)), some (.int (zI x1)), some (.int (zI x4)), none] [] := by
    intro N
    induction N with
    | zero =>
      intro x1 x4 s7 h2 h3 h5 h6 hI8 hF9 hm11
      exact absurd hm11 (Nat.not_lt_zero _)
    | succ N ih12 =>
      intro x1 x4 s7 h2 h3 h5 h6 hI8 hF9 hm11
      refine zt_iload_n (pc' := 5) hX dX11_least_4 rfl rfl ?_
      refine zt_aload_n (pc' := 6) hX dX11_least_5 rfl rfl ?_
      obtain ⟨k13, ek14, hk15⟩ := zv_1_3 hI8 zc_0
      refine zt_get (pc' := 9) (v := .ref (X.1.1 + k13)) hX dX11_least_6 rfl zf_X11_31 (by decide) zc_0 zs_1 (zrf_of ek14) ?_
      have b16 := zv_8_12 hI8 hk15
      refine zt_get (pc' := 12) (v := .int (zI (s7 k13 12))) hX dX11_least_9 rfl zf_X11_147 (zro_lt hk15 (by decide)) hk15 zs_8 rfl ?_
      refine zt_icge (pc' := 15) (tgt := 45) hX dX11_least_12 rfl (by decide) ⟨by omega, by omega⟩ ⟨by omega, by omega⟩ (fun c17 => ?_) (fun c17 => ?_)
      · refine zt_iload_n (pc' := 46) hX dX11_least_45 rfl rfl ?_
        exact zt_iret hX hR dX11_least_46 ⟨by omega, by omega⟩ ⟨hI8, hF9, by omega, by omega⟩
      · refine zt_aload_n (pc' := 16) hX dX11_least_15 rfl rfl ?_
        refine zt_iload_n (pc' := 17) hX dX11_least_16 rfl rfl ?_
        refine zt_iload_n (pc' := 18) hX dX11_least_17 rfl rfl ?_
        refine zt_cVi (pc' := 21) hX dX11_least_18 rfl zm_yX11_answerOf zw_65_2 zc_0 (by decide) zs_1 (q := (RX11, TX11, 17)) rfl rfl (zc_X11_answerOf _ _ s7 hI8 x4 ⟨by omega, by omega⟩ a1_ ⟨by omega, by omega⟩) rfl rfl (Nat.le_of_ble_eq_true rfl) (by decide) (fun r18 s19 hr20 hp21 => ?_)
        obtain ⟨hI22, hF23, q24, q25⟩ := hp21
        have hF26 := zFE_tr hF9 hF23
        refine zt_istore (pc' := 23) (lv' := [some (.ref (X.1.1 + 0)), some (.int (zI a1_)), some (.int (zI x1)), some (.int (zI x4)), some (.int (zI r18))]) hX dX11_least_21 rfl hL (by decide) rfl ?_
        refine zt_iload_n (pc' := 24) hX dX11_least_23 rfl rfl ?_
        have J_38_29 : ∀ (y27 : Int), -2147483648 ≤ y27 → y27 ≤ 2147483647 → zF X s19 38 [some (.ref (X.1.1 + 0)), some (.int (zI a1_)), none, some (.int (zI x4)), none] [.int (zI y27)] := by
          intro y27 h28 h29
          refine zt_istore_n (pc' := 39) (lv' := [some (.ref (X.1.1 + 0)), some (.int (zI a1_)), some (.int (zI y27)), some (.int (zI x4)), none]) hX dX11_least_38 rfl hL (by decide) rfl ?_
          refine zt_iinc (pc' := 42) (lv' := [some (.ref (X.1.1 + 0)), some (.int (zI a1_)), some (.int (zI y27)), some (.int (zI (x4 + 1))), none]) hX dX11_least_39 rfl rfl hL (by decide) rfl ?_
          refine zt_goto (tgt := 4) hX dX11_least_42 (by decide) ?_
          exact ih12 y27 (x4 + 1) s19 (by omega) (by omega) (by omega) (by omega) hI22 (by omega) (by omega)
        refine zt_ifne (pc' := 27) (tgt := 32) hX dX11_least_24 rfl (by decide) ⟨by omega, by omega⟩ (fun c31 => ?_) (fun c31 => ?_)
        · refine zt_iload_n (pc' := 33) hX dX11_least_32 rfl rfl ?_
          refine zt_iload (pc' := 35) hX dX11_least_33 rfl rfl ?_
          refine zt_mmin (pc' := 38) hX (by decide) dX11_least_35 rfl zw_51_3 zw_36_23 zw_34_21 zw_37_0 (Nat.le_of_ble_eq_true rfl) ⟨Nat.zero_le _, Nat.zero_le _⟩ ⟨by omega, by omega⟩ ⟨by omega, by omega⟩ (fun r32 er32 => ?_)
          refine zt_mask [true, true, false, true, false] rfl ?_
          exact J_38_29 r32 (by omega) (by omega)
        · refine zt_iload (pc' := 29) hX dX11_least_27 rfl rfl ?_
          refine zt_goto (tgt := 38) hX dX11_least_29 (by decide) ?_
          refine zt_mask [true, true, false, true, false] rfl ?_
          exact J_38_29 r18 (by omega) (by omega)
  exact L_4_9 _ 0 0 σ (by omega) (by omega) (by omega) (by omega) hI (by omega) (Nat.lt_succ_self _)

set_option maxRecDepth 100000 in
set_option maxHeartbeats 4000000 in
theorem zc_X11_fault (l : Launch) (E : zEN) (σ : zSto) (hI : zInv σ) (a1_ : Int) (ha1_ : -2147483648 ≤ a1_ ∧ a1_ ≤ 2147483647) : zCt l E yX11_fault cX11_fault 2 (some .int) 0 zNC zNC 0 0 σ [.ref (E.1 + 0), .int (zI a1_)] (fun r σ' => σ = σ' ∧ -2147483648 ≤ r ∧ r ≤ 2147483647) := by
  refine zCt_of2 [some (.ref (E.1 + 0)), some (.int (zI a1_))] (by decide +kernel) (Nat.le_of_ble_eq_true rfl) rfl ?_
  intro X hE hX hR hL hN
  subst hE
  have hX : zok X cX11_fault RX11 0 := hX
  refine zt_iload_n (pc' := 1) hX dX11_fault_0 rfl rfl ?_
  rcases (show a1_ = 0 ∨ a1_ = 1 ∨ (¬ a1_ = 0 ∧ ¬ a1_ = 1) by omega) with c1 | c1 | c1
  · refine zt_look (tgt := 28) (off := 27) hX dX11_fault_1 ⟨by omega, by omega⟩ (by decide +kernel) (by rw [c1]; try rfl) (by decide) ?_
    refine zt_aload_n (pc' := 29) hX dX11_fault_28 rfl rfl ?_
    have b2 := zv_1_15 hI zc_0
    refine zt_get (pc' := 32) (v := .int (zI (σ 0 15))) hX dX11_fault_29 rfl zf_X11_104 (by decide) zc_0 zs_1 rfl ?_
    exact zt_iret hX hR dX11_fault_32 ⟨by omega, by omega⟩ ⟨rfl, by omega, by omega⟩
  · refine zt_look (tgt := 33) (off := 32) hX dX11_fault_1 ⟨by omega, by omega⟩ (by decide +kernel) (by rw [c1]; try rfl) (by decide) ?_
    refine zt_aload_n (pc' := 34) hX dX11_fault_33 rfl rfl ?_
    have b3 := zv_1_16 hI zc_0
    refine zt_get (pc' := 37) (v := .int (zI (σ 0 16))) hX dX11_fault_34 rfl zf_X11_107 (by decide) zc_0 zs_1 rfl ?_
    exact zt_iret hX hR dX11_fault_37 ⟨by omega, by omega⟩ ⟨rfl, by omega, by omega⟩
  · refine zt_look (tgt := 38) (off := 37) hX dX11_fault_1 ⟨by omega, by omega⟩ (by decide +kernel) (by simp [Op.lookupswitch.offset]; rw [if_neg (by omega)]; rw [if_neg (by omega)]) (by decide) ?_
    refine zt_iconst (pc' := 39) hX dX11_fault_38 rfl ?_
    exact zt_iret hX hR dX11_fault_39 ⟨by omega, by omega⟩ ⟨rfl, by omega, by omega⟩

set_option maxRecDepth 100000 in
set_option maxHeartbeats 4000000 in
theorem zc_X11_has (l : Launch) (E : zEN) (σ : zSto) (hI : zInv σ) (a1_ : Int) (ha1_ : -2147483648 ≤ a1_ ∧ a1_ ≤ 2147483647) : zCt l E yX11_has cX11_has 2 (some .int) 5 zNC zNC 0 0 σ [.ref (E.1 + 0), .int (zI a1_)] (fun r σ' => zInv σ' ∧ zFE σ σ' ∧ -2147483648 ≤ r ∧ r ≤ 2147483647) := by
  refine zCt_of2 [some (.ref (E.1 + 0)), some (.int (zI a1_))] (by decide +kernel) (Nat.le_of_ble_eq_true rfl) rfl ?_
  intro X hE hX hR hL hN
  subst hE
  have hX : zok X cX11_has RX11 5 := hX
  have hF := zFE_rf σ
  refine zt_iload_n (pc' := 1) hX dX11_has_0 rfl rfl ?_
  rcases (show a1_ = 0 ∨ a1_ = 1 ∨ a1_ = 2 ∨ a1_ = 3 ∨ a1_ = 4 ∨ a1_ = 5 ∨ a1_ = 6 ∨ a1_ = 7 ∨ a1_ = 8 ∨ a1_ = 9 ∨ (a1_ < 0 ∨ 9 < a1_) by omega) with c1 | c1 | c1 | c1 | c1 | c1 | c1 | c1 | c1 | c1 | c1
  · refine zt_tsIn (v := 0) (tgt := 56) hX dX11_has_1 c1 (by decide) (by decide) (by decide) rfl (by decide) ?_
    refine zt_aload_n (pc' := 57) hX dX11_has_56 rfl rfl ?_
    obtain ⟨k2, ek3, hk4⟩ := zv_1_3 hI zc_0
    refine zt_get (pc' := 60) (v := .ref (X.1.1 + k2)) hX dX11_has_57 rfl zf_X11_31 (by decide) zc_0 zs_1 (zrf_of ek3) ?_
    have b5 := zv_8_10 hI hk4
    refine zt_get (pc' := 63) (v := .int (zI (σ k2 10))) hX dX11_has_60 rfl zf_X11_141 (zro_lt hk4 (by decide)) hk4 zs_8 rfl ?_
    exact zt_iret hX hR dX11_has_63 ⟨by omega, by omega⟩ ⟨hI, hF, by omega, by omega⟩
  · refine zt_tsIn (v := 1) (tgt := 64) hX dX11_has_1 c1 (by decide) (by decide) (by decide) rfl (by decide) ?_
    refine zt_aload_n (pc' := 65) hX dX11_has_64 rfl rfl ?_
    obtain ⟨k6, ek7, hk8⟩ := zv_1_3 hI zc_0
    refine zt_get (pc' := 68) (v := .ref (X.1.1 + k6)) hX dX11_has_65 rfl zf_X11_31 (by decide) zc_0 zs_1 (zrf_of ek7) ?_
    have b9 := zv_8_11 hI hk8
    refine zt_get (pc' := 71) (v := .int (zI (σ k6 11))) hX dX11_has_68 rfl zf_X11_144 (zro_lt hk8 (by decide)) hk8 zs_8 rfl ?_
    exact zt_iret hX hR dX11_has_71 ⟨by omega, by omega⟩ ⟨hI, hF, by omega, by omega⟩
  · refine zt_tsIn (v := 2) (tgt := 72) hX dX11_has_1 c1 (by decide) (by decide) (by decide) rfl (by decide) ?_
    refine zt_aload_n (pc' := 73) hX dX11_has_72 rfl rfl ?_
    obtain ⟨k10, ek11, hk12⟩ := zv_1_3 hI zc_0
    refine zt_get (pc' := 76) (v := .ref (X.1.1 + k10)) hX dX11_has_73 rfl zf_X11_31 (by decide) zc_0 zs_1 (zrf_of ek11) ?_
    have b13 := zv_8_12 hI hk12
    refine zt_get (pc' := 79) (v := .int (zI (σ k10 12))) hX dX11_has_76 rfl zf_X11_147 (zro_lt hk12 (by decide)) hk12 zs_8 rfl ?_
    exact zt_iret hX hR dX11_has_79 ⟨by omega, by omega⟩ ⟨hI, hF, by omega, by omega⟩
  · refine zt_tsIn (v := 3) (tgt := 80) hX dX11_has_1 c1 (by decide) (by decide) (by decide) rfl (by decide) ?_
    refine zt_aload_n (pc' := 81) hX dX11_has_80 rfl rfl ?_
    refine zt_get (pc' := 84) (v := .ref (X.1.1 + 35)) hX dX11_has_81 rfl zf_X11_66 (by decide) zc_0 zs_1 (zrf_of (zv_1_8 hI zc_0)) ?_
    have b14 := zv_22_5 hI zc_35
    refine zt_get (pc' := 87) (v := .int (zI (σ 35 5))) hX dX11_has_84 rfl zf_X11_150 (by decide) zc_35 zs_22 rfl ?_
    exact zt_iret hX hR dX11_has_87 ⟨by omega, by omega⟩ ⟨hI, hF, by omega, by omega⟩
  · refine zt_tsIn (v := 4) (tgt := 88) hX dX11_has_1 c1 (by decide) (by decide) (by decide) rfl (by decide) ?_
    refine zt_aload_n (pc' := 89) hX dX11_has_88 rfl rfl ?_
    refine zt_get (pc' := 92) (v := .ref (X.1.1 + 35)) hX dX11_has_89 rfl zf_X11_66 (by decide) zc_0 zs_1 (zrf_of (zv_1_8 hI zc_0)) ?_
    have b15 := zv_22_6 hI zc_35
    refine zt_get (pc' := 95) (v := .long (zJ (σ 35 6))) hX dX11_has_92 rfl zf_X11_153 (by decide) zc_35 zs_22 rfl ?_
    refine zt_cSi (pc' := 98) hX dX11_has_95 rfl zm_yJ13_bitCount_95d88 zw_33_17 (zc_J13_bitCount _ _ σ  (σ 35 6) ⟨by omega, by omega⟩) rfl rfl (Nat.le_of_ble_eq_true rfl) (by decide) (fun r16 s17 hr18 hp19 => ?_)
    obtain ⟨rfl, q20, q21⟩ := hp19
    exact zt_iret hX hR dX11_has_98 ⟨by omega, by omega⟩ ⟨hI, hF, by omega, by omega⟩
  · refine zt_tsIn (v := 5) (tgt := 99) hX dX11_has_1 c1 (by decide) (by decide) (by decide) rfl (by decide) ?_
    refine zt_aload_n (pc' := 100) hX dX11_has_99 rfl rfl ?_
    refine zt_cVi (pc' := 103) hX dX11_has_100 rfl zm_yX11_holdersNow zw_34_0 zc_0 (by decide) zs_1 (q := (RX11, TX11, 17)) rfl rfl (zc_X11_holdersNow _ _ σ hI ) rfl rfl (Nat.le_of_ble_eq_true rfl) (by decide) (fun r22 s23 hr24 hp25 => ?_)
    obtain ⟨hI26, hF27, q28, q29⟩ := hp25
    have hF30 := zFE_tr hF hF27
    refine zt_cSi (pc' := 106) hX dX11_has_103 rfl zm_yJ6_bitCount_0f7a4 zw_37_17 (zc_J6_bitCount _ _ s23  r22 ⟨by omega, by omega⟩) rfl rfl (Nat.le_of_ble_eq_true rfl) (by decide) (fun r31 s32 hr33 hp34 => ?_)
    obtain ⟨rfl, q35, q36⟩ := hp34
    exact zt_iret hX hR dX11_has_106 ⟨by omega, by omega⟩ ⟨hI26, hF30, by omega, by omega⟩
  · refine zt_tsIn (v := 6) (tgt := 107) hX dX11_has_1 c1 (by decide) (by decide) (by decide) rfl (by decide) ?_
    refine zt_aload_n (pc' := 108) hX dX11_has_107 rfl rfl ?_
    refine zt_get (pc' := 111) (v := .ref (X.1.1 + 35)) hX dX11_has_108 rfl zf_X11_66 (by decide) zc_0 zs_1 (zrf_of (zv_1_8 hI zc_0)) ?_
    have b37 := zv_22_7 hI zc_35
    refine zt_get (pc' := 114) (v := .int (zI (σ 35 7))) hX dX11_has_111 rfl zf_X11_171 (by decide) zc_35 zs_22 rfl ?_
    refine zt_cSi (pc' := 117) hX dX11_has_114 rfl zm_yJ6_bitCount_0f7a4 zw_37_17 (zc_J6_bitCount _ _ σ  (σ 35 7) ⟨by omega, by omega⟩) rfl rfl (Nat.le_of_ble_eq_true rfl) (by decide) (fun r38 s39 hr40 hp41 => ?_)
    obtain ⟨rfl, q42, q43⟩ := hp41
    exact zt_iret hX hR dX11_has_117 ⟨by omega, by omega⟩ ⟨hI, hF, by omega, by omega⟩
  · refine zt_tsIn (v := 7) (tgt := 118) hX dX11_has_1 c1 (by decide) (by decide) (by decide) rfl (by decide) ?_
    refine zt_aload_n (pc' := 119) hX dX11_has_118 rfl rfl ?_
    refine zt_get (pc' := 122) (v := .ref (X.1.1 + 35)) hX dX11_has_119 rfl zf_X11_66 (by decide) zc_0 zs_1 (zrf_of (zv_1_8 hI zc_0)) ?_
    have b44 := zv_22_4 hI zc_35
    refine zt_get (pc' := 125) (v := .int (zI (σ 35 4))) hX dX11_has_122 rfl zf_X11_174 (by decide) zc_35 zs_22 rfl ?_
    exact zt_iret hX hR dX11_has_125 ⟨by omega, by omega⟩ ⟨hI, hF, by omega, by omega⟩
  · refine zt_tsIn (v := 8) (tgt := 126) hX dX11_has_1 c1 (by decide) (by decide) (by decide) rfl (by decide) ?_
    refine zt_aload_n (pc' := 127) hX dX11_has_126 rfl rfl ?_
    refine zt_get (pc' := 130) (v := .ref (X.1.1 + 147)) hX dX11_has_127 rfl zf_X11_83 (by decide) zc_0 zs_1 (zrf_of (zv_1_11 hI zc_0)) ?_
    have b45 := zv_29_5 hI zc_147
    refine zt_get (pc' := 133) (v := .int (zI (σ 147 5))) hX dX11_has_130 rfl zf_X11_138 (by decide) zc_147 zs_29 rfl ?_
    exact zt_iret hX hR dX11_has_133 ⟨by omega, by omega⟩ ⟨hI, hF, by omega, by omega⟩
  · refine zt_tsIn (v := 9) (tgt := 134) hX dX11_has_1 c1 (by decide) (by decide) (by decide) rfl (by decide) ?_
    refine zt_aload_n (pc' := 135) hX dX11_has_134 rfl rfl ?_
    refine zt_get (pc' := 138) (v := .ref (X.1.1 + 45)) hX dX11_has_135 rfl zf_X11_76 (by decide) zc_0 zs_1 (zrf_of (zv_1_10 hI zc_0)) ?_
    have b46 := zv_27_2 hI zc_45
    refine zt_get (pc' := 141) (v := .int (zI (σ 45 2))) hX dX11_has_138 rfl zf_X11_135 (by decide) zc_45 zs_27 rfl ?_
    exact zt_iret hX hR dX11_has_141 ⟨by omega, by omega⟩ ⟨hI, hF, by omega, by omega⟩
  · refine zt_tsOut (tgt := 142) hX dX11_has_1 ⟨by omega, by omega⟩ c1 (by decide) ?_
    refine zt_iconst (pc' := 143) hX dX11_has_142 rfl ?_
    exact zt_iret hX hR dX11_has_143 ⟨by omega, by omega⟩ ⟨hI, hF, by omega, by omega⟩

set_option maxRecDepth 100000 in
set_option maxHeartbeats 4000000 in
theorem zc_X11_letter (l : Launch) (E : zEN) (σ : zSto) (hI : zInv σ) (a1_ : Int) (ha1_ : -2147483648 ≤ a1_ ∧ a1_ ≤ 2147483647) (a2_ : Int) (ha2_ : -2147483648 ≤ a2_ ∧ a2_ ≤ 2147483647) : zCt l E yX11_letter cX11_letter 3 (some .int) 1 zNC zNC 0 0 σ [.ref (E.1 + 0), .int (zI a1_), .int (zI a2_)] (fun r σ' => σ = σ' ∧ -2147483648 ≤ r ∧ r ≤ 2147483647) := by
  refine zCt_of2 [some (.ref (E.1 + 0)), some (.int (zI a1_)), some (.int (zI a2_))] (by decide +kernel) (Nat.le_of_ble_eq_true rfl) rfl ?_
  intro X hE hX hR hL hN
  subst hE
  have hX : zok X cX11_letter RX11 1 := hX
  refine zt_aload_n (pc' := 1) hX dX11_letter_0 rfl rfl ?_
  obtain ⟨k1, ek2, hk3⟩ := zv_1_3 hI zc_0
  refine zt_get (pc' := 4) (v := .ref (X.1.1 + k1)) hX dX11_letter_1 rfl zf_X11_31 (by decide) zc_0 zs_1 (zrf_of ek2) ?_
  refine zt_iload_n (pc' := 5) hX dX11_letter_4 rfl rfl ?_
  refine zt_cVz (pc' := 8) hX dX11_letter_5 rfl zm_yX3_hasPerson zw_41_8 hk3 (by decide) zs_8 (q := (RX3, TX3, 17)) rfl rfl (zc_X3_hasPerson _ _ σ hI k1 hk3 a1_ ⟨by omega, by omega⟩) rfl rfl (Nat.le_of_ble_eq_true rfl) (by decide) (fun r4 s5 hr6 hp7 => ?_)
  obtain ⟨rfl, q8, q9, z10⟩ := hp7
  refine zt_ifeq (pc' := 11) (tgt := 21) hX dX11_letter_8 rfl (by decide) ⟨by omega, by omega⟩ (fun c11 => ?_) (fun c11 => ?_)
  · refine zt_iconst (pc' := 22) hX dX11_letter_21 rfl ?_
    exact zt_iret hX hR dX11_letter_22 ⟨by omega, by omega⟩ ⟨rfl, by omega, by omega⟩
  · refine zt_iload_n (pc' := 12) hX dX11_letter_11 rfl rfl ?_
    refine zt_iflt (pc' := 15) (tgt := 21) hX dX11_letter_12 rfl (by decide) ⟨by omega, by omega⟩ (fun c12 => ?_) (fun c12 => ?_)
    · refine zt_iconst (pc' := 22) hX dX11_letter_21 rfl ?_
      exact zt_iret hX hR dX11_letter_22 ⟨by omega, by omega⟩ ⟨rfl, by omega, by omega⟩
    · refine zt_iload_n (pc' := 16) hX dX11_letter_15 rfl rfl ?_
      refine zt_bipush (pc' := 18) hX dX11_letter_16 rfl (by decide) (by decide) ?_
      refine zt_iclt (pc' := 21) (tgt := 23) hX dX11_letter_18 rfl (by decide) ⟨by omega, by omega⟩ ⟨by omega, by omega⟩ (fun c13 => ?_) (fun c13 => ?_)
      · refine zt_aload_n (pc' := 24) hX dX11_letter_23 rfl rfl ?_
        refine zt_get (pc' := 27) (v := .ref (X.1.1 + k1)) hX dX11_letter_24 rfl zf_X11_31 (by decide) zc_0 zs_1 (zrf_of ek2) ?_
        refine zt_get (pc' := 30) (v := .ref (X.1.1 + (k1 + 2))) hX dX11_letter_27 rfl zf_X11_180 (zro_lt hk3 (by decide)) hk3 zs_8 (zrf_of (zv_8_1 hI hk3)) ?_
        refine zt_iload_n (pc' := 31) hX dX11_letter_30 rfl rfl ?_
        refine zt_iald (pc' := 32) hX dX11_letter_31 rfl (zro_lt (zo_8_1 hk3) (by decide)) (zo_8_1 hk3) zs_10 (by decide) ⟨by omega, by omega⟩ ?_
        generalize hv14 : σ (k1 + 2) (a1_.toNat) = v14
        have bv14 : -2147483648 ≤ v14 ∧ v14 ≤ 2147483647 := hv14 ▸ zv_10 hI (zo_8_1 hk3) _
        refine zt_lwget (pc' := 35) hX dX11_letter_32 rfl zw_41_7 (fun t15 hT16 => ?_)
        refine zt_iload_n (pc' := 36) hX dX11_letter_35 rfl rfl ?_
        refine zt_lwald (pc' := 37) hX dX11_letter_36 rfl hT16 ⟨by omega, by omega⟩ ?_
        generalize hv17 : zlw a2_.toNat = v17
        have bv17 : 1 ≤ v17 ∧ v17 ≤ 14348907 := hv17 ▸ zlw_b _
        refine zt_idiv (pc' := 38) hX dX11_letter_37 rfl ⟨by omega, by omega⟩ ⟨by omega, by omega⟩ (fun r18 er18 br18 => ?_)
        refine zt_bipush (pc' := 40) hX dX11_letter_38 rfl (by decide) (by decide) ?_
        refine zt_irem (pc' := 41) hX dX11_letter_40 rfl ⟨by omega, by omega⟩ ⟨by omega, by omega⟩ (fun r19 er19 br19 nr19 => ?_)
        exact zt_iret hX hR dX11_letter_41 ⟨by omega, by omega⟩ ⟨rfl, by omega, by omega⟩
      · refine zt_iconst (pc' := 22) hX dX11_letter_21 rfl ?_
        exact zt_iret hX hR dX11_letter_22 ⟨by omega, by omega⟩ ⟨rfl, by omega, by omega⟩

set_option maxRecDepth 100000 in
set_option maxHeartbeats 4000000 in
theorem zc_X11_cell (l : Launch) (E : zEN) (σ : zSto) (hI : zInv σ) (a1_ : Int) (ha1_ : -2147483648 ≤ a1_ ∧ a1_ ≤ 2147483647) (a2_ : Int) (ha2_ : -2147483648 ≤ a2_ ∧ a2_ ≤ 2147483647) (a3_ : Int) (ha3_ : -2147483648 ≤ a3_ ∧ a3_ ≤ 2147483647) : zCt l E yX11_cell cX11_cell 5 (some .int) 6 zNC zNC 0 0 σ [.ref (E.1 + 0), .int (zI a1_), .int (zI a2_), .int (zI a3_)] (fun r σ' => zInv σ' ∧ zFE σ σ' ∧ -2147483648 ≤ r ∧ r ≤ 2147483647) := by
  refine zCt_of2 [some (.ref (E.1 + 0)), some (.int (zI a1_)), some (.int (zI a2_)), some (.int (zI a3_)), none] (by decide +kernel) (Nat.le_of_ble_eq_true rfl) rfl ?_
  intro X hE hX hR hL hN
  subst hE
  have hX : zok X cX11_cell RX11 6 := hX
  have hF := zFE_rf σ
  refine zt_aload_n (pc' := 1) hX dX11_cell_0 rfl rfl ?_
  obtain ⟨k1, ek2, hk3⟩ := zv_1_3 hI zc_0
  refine zt_get (pc' := 4) (v := .ref (X.1.1 + k1)) hX dX11_cell_1 rfl zf_X11_31 (by decide) zc_0 zs_1 (zrf_of ek2) ?_
  refine zt_iload_n (pc' := 5) hX dX11_cell_4 rfl rfl ?_
  refine zt_iload_n (pc' := 6) hX dX11_cell_5 rfl rfl ?_
  refine zt_cVz (pc' := 9) hX dX11_cell_6 rfl zm_yX3_hasCell zw_42_2 hk3 (by decide) zs_8 (q := (RX3, TX3, 17)) rfl rfl (zc_X3_hasCell _ _ σ hI k1 hk3 a1_ ⟨by omega, by omega⟩ a2_ ⟨by omega, by omega⟩) rfl rfl (Nat.le_of_ble_eq_true rfl) (by decide) (fun r4 s5 hr6 hp7 => ?_)
  obtain ⟨rfl, q8, q9, z10⟩ := hp7
  refine zt_ifne (pc' := 12) (tgt := 14) hX dX11_cell_9 rfl (by decide) ⟨by omega, by omega⟩ (fun c11 => ?_) (fun c11 => ?_)
  · refine zt_aload_n (pc' := 15) hX dX11_cell_14 rfl rfl ?_
    refine zt_get (pc' := 18) (v := .ref (X.1.1 + k1)) hX dX11_cell_15 rfl zf_X11_31 (by decide) zc_0 zs_1 (zrf_of ek2) ?_
    refine zt_iload_n (pc' := 19) hX dX11_cell_18 rfl rfl ?_
    refine zt_iload_n (pc' := 20) hX dX11_cell_19 rfl rfl ?_
    refine zt_cVi (pc' := 23) hX dX11_cell_20 rfl zm_yX3_cellAt zw_42_6 hk3 (by decide) zs_8 (q := (RX3, TX3, 17)) rfl rfl (zc_X3_cellAt _ _ σ hI k1 hk3 a1_ ⟨by omega, by omega⟩ a2_ ⟨by omega, by omega⟩) rfl rfl (Nat.le_of_ble_eq_true rfl) (by decide) (fun r12 s13 hr14 hp15 => ?_)
    obtain ⟨rfl, q16, q17, z18⟩ := hp15
    refine zt_istore (pc' := 25) (lv' := [some (.ref (X.1.1 + 0)), some (.int (zI a1_)), some (.int (zI a2_)), some (.int (zI a3_)), some (.int (zI r12))]) hX dX11_cell_23 rfl hL (by decide) rfl ?_
    refine zt_iload_n (pc' := 26) hX dX11_cell_25 rfl rfl ?_
    rcases (show a3_ = 0 ∨ a3_ = 1 ∨ a3_ = 2 ∨ a3_ = 3 ∨ (a3_ < 0 ∨ 3 < a3_) by omega) with c19 | c19 | c19 | c19 | c19
    · refine zt_tsIn (v := 0) (tgt := 56) hX dX11_cell_26 c19 (by decide) (by decide) (by decide) rfl (by decide) ?_
      refine zt_aload_n (pc' := 57) hX dX11_cell_56 rfl rfl ?_
      refine zt_get (pc' := 60) (v := .ref (X.1.1 + k1)) hX dX11_cell_57 rfl zf_X11_31 (by decide) zc_0 zs_1 (zrf_of ek2) ?_
      refine zt_get (pc' := 63) (v := .ref (X.1.1 + (k1 + 1))) hX dX11_cell_60 rfl zf_X11_194 (zro_lt hk3 (by decide)) hk3 zs_8 (zrf_of (zv_8_0 hI hk3)) ?_
      refine zt_iload (pc' := 65) hX dX11_cell_63 rfl rfl ?_
      refine zt_iald (pc' := 66) hX dX11_cell_65 rfl (zro_lt (zo_8_0 hk3) (by decide)) (zo_8_0 hk3) zs_9 (by decide) ⟨by omega, by omega⟩ ?_
      generalize hv20 : σ (k1 + 1) (r12.toNat) = v20
      have bv20 : 0 ≤ v20 ∧ v20 ≤ 99 := hv20 ▸ zv_9 hI (zo_8_0 hk3) _
      exact zt_iret hX hR dX11_cell_66 ⟨by omega, by omega⟩ ⟨hI, hF, by omega, by omega⟩
    · refine zt_tsIn (v := 1) (tgt := 67) hX dX11_cell_26 c19 (by decide) (by decide) (by decide) rfl (by decide) ?_
      refine zt_aload_n (pc' := 68) hX dX11_cell_67 rfl rfl ?_
      refine zt_get (pc' := 71) (v := .ref (X.1.1 + 35)) hX dX11_cell_68 rfl zf_X11_66 (by decide) zc_0 zs_1 (zrf_of (zv_1_8 hI zc_0)) ?_
      refine zt_iload (pc' := 73) hX dX11_cell_71 rfl rfl ?_
      refine zt_cVz (pc' := 76) hX dX11_cell_73 rfl zm_yX10_isCracked zw_42_7 zc_35 (by decide) zs_22 (q := (RX10, TX10, 8)) rfl rfl (zc_X10_isCracked _ _ σ hI 35 zc_35 r12 ⟨by omega, by omega⟩) rfl rfl (Nat.le_of_ble_eq_true rfl) (by decide) (fun r21 s22 hr23 hp24 => ?_)
      obtain ⟨rfl, q25, q26⟩ := hp24
      refine zt_ifeq (pc' := 79) (tgt := 83) hX dX11_cell_76 rfl (by decide) ⟨by omega, by omega⟩ (fun c27 => ?_) (fun c27 => ?_)
      · refine zt_iconst (pc' := 84) hX dX11_cell_83 rfl ?_
        exact zt_iret hX hR dX11_cell_84 ⟨by omega, by omega⟩ ⟨hI, hF, by omega, by omega⟩
      · refine zt_iconst (pc' := 80) hX dX11_cell_79 rfl ?_
        refine zt_goto (tgt := 84) hX dX11_cell_80 (by decide) ?_
        exact zt_iret hX hR dX11_cell_84 ⟨by omega, by omega⟩ ⟨hI, hF, by omega, by omega⟩
    · refine zt_tsIn (v := 2) (tgt := 85) hX dX11_cell_26 c19 (by decide) (by decide) (by decide) rfl (by decide) ?_
      refine zt_aload_n (pc' := 86) hX dX11_cell_85 rfl rfl ?_
      refine zt_cVi (pc' := 89) hX dX11_cell_86 rfl zm_yX11_balanceNow zw_42_11 zc_0 (by decide) zs_1 (q := (RX11, TX11, 17)) rfl rfl (zc_X11_balanceNow _ _ σ hI ) rfl rfl (Nat.le_of_ble_eq_true rfl) (by decide) (fun r28 s29 hr30 hp31 => ?_)
      obtain ⟨hI32, hF33, q34, q35⟩ := hp31
      have hF36 := zFE_tr hF hF33
      refine zt_pop (pc' := 90) hX dX11_cell_89 rfl rfl ?_
      refine zt_aload_n (pc' := 91) hX dX11_cell_90 rfl rfl ?_
      refine zt_get (pc' := 94) (v := .ref (X.1.1 + 153)) hX dX11_cell_91 rfl zf_X11_92 (by decide) zc_0 zs_1 (zrf_of (zv_1_12 hI32 zc_0)) ?_
      refine zt_get (pc' := 97) (v := .ref (X.1.1 + 161)) hX dX11_cell_94 rfl zf_X11_203 (by decide) zc_153 zs_35 (zrf_of (zv_35_4 hI32 zc_153)) ?_
      refine zt_iload (pc' := 99) hX dX11_cell_97 rfl rfl ?_
      refine zt_iald (pc' := 100) hX dX11_cell_99 rfl (by decide) zc_161 zs_43 (by decide) ⟨by omega, by omega⟩ ?_
      generalize hv37 : s29 161 (r12.toNat) = v37
      have bv37 : -2147483648 ≤ v37 ∧ v37 ≤ 2147483647 := hv37 ▸ zv_43 hI32 zc_161 _
      exact zt_iret hX hR dX11_cell_100 ⟨by omega, by omega⟩ ⟨hI32, hF36, by omega, by omega⟩
    · refine zt_tsIn (v := 3) (tgt := 101) hX dX11_cell_26 c19 (by decide) (by decide) (by decide) rfl (by decide) ?_
      refine zt_aload_n (pc' := 102) hX dX11_cell_101 rfl rfl ?_
      refine zt_get (pc' := 105) (v := .ref (X.1.1 + 35)) hX dX11_cell_102 rfl zf_X11_66 (by decide) zc_0 zs_1 (zrf_of (zv_1_8 hI zc_0)) ?_
      refine zt_aload_n (pc' := 106) hX dX11_cell_105 rfl rfl ?_
      refine zt_get (pc' := 109) (v := .ref (X.1.1 + k1)) hX dX11_cell_106 rfl zf_X11_31 (by decide) zc_0 zs_1 (zrf_of ek2) ?_
      refine zt_iload (pc' := 111) hX dX11_cell_109 rfl rfl ?_
      refine zt_cVi (pc' := 114) hX dX11_cell_111 rfl zm_yX10_standing zw_44_2 zc_35 (by decide) zs_22 (q := (RX10, TX10, 8)) rfl rfl (zc_X10_standing _ _ σ hI 35 zc_35 k1 hk3 r12 ⟨by omega, by omega⟩) rfl rfl (Nat.le_of_ble_eq_true rfl) (by decide) (fun r38 s39 hr40 hp41 => ?_)
      obtain ⟨rfl, q42, q43⟩ := hp41
      exact zt_iret hX hR dX11_cell_114 ⟨by omega, by omega⟩ ⟨hI, hF, by omega, by omega⟩
    · refine zt_tsOut (tgt := 115) hX dX11_cell_26 ⟨by omega, by omega⟩ c19 (by decide) ?_
      refine zt_iconst (pc' := 116) hX dX11_cell_115 rfl ?_
      exact zt_iret hX hR dX11_cell_116 ⟨by omega, by omega⟩ ⟨hI, hF, by omega, by omega⟩
  · refine zt_iconst (pc' := 13) hX dX11_cell_12 rfl ?_
    exact zt_iret hX hR dX11_cell_13 ⟨by omega, by omega⟩ ⟨hI, hF, by omega, by omega⟩

set_option maxRecDepth 100000 in
set_option maxHeartbeats 4000000 in
theorem zc_X11_slack (l : Launch) (E : zEN) (σ : zSto) (hI : zInv σ) (a1_ : Int) (ha1_ : -2147483648 ≤ a1_ ∧ a1_ ≤ 2147483647) (a2_ : Int) (ha2_ : -2147483648 ≤ a2_ ∧ a2_ ≤ 2147483647) : zCt l E yX11_slack cX11_slack 3 (some .long) 6 zNC zNC 0 0 σ [.ref (E.1 + 0), .int (zI a1_), .int (zI a2_)] (fun r σ' => zInv σ' ∧ zFE σ σ' ∧ -9223372036854775808 ≤ r ∧ r ≤ 9223372036854775807) := by
  refine zCt_of2 [some (.ref (E.1 + 0)), some (.int (zI a1_)), some (.int (zI a2_))] (by decide +kernel) (Nat.le_of_ble_eq_true rfl) rfl ?_
  intro X hE hX hR hL hN
  subst hE
  have hX : zok X cX11_slack RX11 6 := hX
  have hF := zFE_rf σ
  refine zt_aload_n (pc' := 1) hX dX11_slack_0 rfl rfl ?_
  obtain ⟨k1, ek2, hk3⟩ := zv_1_3 hI zc_0
  refine zt_get (pc' := 4) (v := .ref (X.1.1 + k1)) hX dX11_slack_1 rfl zf_X11_31 (by decide) zc_0 zs_1 (zrf_of ek2) ?_
  refine zt_iload_n (pc' := 5) hX dX11_slack_4 rfl rfl ?_
  refine zt_iload_n (pc' := 6) hX dX11_slack_5 rfl rfl ?_
  refine zt_cVz (pc' := 9) hX dX11_slack_6 rfl zm_yX3_hasCell zw_42_2 hk3 (by decide) zs_8 (q := (RX3, TX3, 17)) rfl rfl (zc_X3_hasCell _ _ σ hI k1 hk3 a1_ ⟨by omega, by omega⟩ a2_ ⟨by omega, by omega⟩) rfl rfl (Nat.le_of_ble_eq_true rfl) (by decide) (fun r4 s5 hr6 hp7 => ?_)
  obtain ⟨rfl, q8, q9, z10⟩ := hp7
  refine zt_ifne (pc' := 12) (tgt := 16) hX dX11_slack_9 rfl (by decide) ⟨by omega, by omega⟩ (fun c11 => ?_) (fun c11 => ?_)
  · refine zt_aload_n (pc' := 17) hX dX11_slack_16 rfl rfl ?_
    refine zt_cVi (pc' := 20) hX dX11_slack_17 rfl zm_yX11_balanceNow zw_42_11 zc_0 (by decide) zs_1 (q := (RX11, TX11, 17)) rfl rfl (zc_X11_balanceNow _ _ σ hI ) rfl rfl (Nat.le_of_ble_eq_true rfl) (by decide) (fun r12 s13 hr14 hp15 => ?_)
    obtain ⟨hI16, hF17, q18, q19⟩ := hp15
    have hF20 := zFE_tr hF hF17
    refine zt_pop (pc' := 21) hX dX11_slack_20 rfl rfl ?_
    refine zt_aload_n (pc' := 22) hX dX11_slack_21 rfl rfl ?_
    refine zt_get (pc' := 25) (v := .ref (X.1.1 + 153)) hX dX11_slack_22 rfl zf_X11_92 (by decide) zc_0 zs_1 (zrf_of (zv_1_12 hI16 zc_0)) ?_
    refine zt_get (pc' := 28) (v := .ref (X.1.1 + 162)) hX dX11_slack_25 rfl zf_X11_212 (by decide) zc_153 zs_35 (zrf_of (zv_35_5 hI16 zc_153)) ?_
    refine zt_aload_n (pc' := 29) hX dX11_slack_28 rfl rfl ?_
    obtain ⟨k21, ek22, hk23⟩ := zv_1_3 hI16 zc_0
    refine zt_get (pc' := 32) (v := .ref (X.1.1 + k21)) hX dX11_slack_29 rfl zf_X11_31 (by decide) zc_0 zs_1 (zrf_of ek22) ?_
    refine zt_iload_n (pc' := 33) hX dX11_slack_32 rfl rfl ?_
    refine zt_iload_n (pc' := 34) hX dX11_slack_33 rfl rfl ?_
    refine zt_cVi (pc' := 37) hX dX11_slack_34 rfl zm_yX3_cellAt zw_42_6 hk23 (by decide) zs_8 (q := (RX3, TX3, 17)) rfl rfl (zc_X3_cellAt _ _ s13 hI16 k21 hk23 a1_ ⟨by omega, by omega⟩ a2_ ⟨by omega, by omega⟩) rfl rfl (Nat.le_of_ble_eq_true rfl) (by decide) (fun r24 s25 hr26 hp27 => ?_)
    obtain ⟨rfl, q28, q29, z30⟩ := hp27
    refine zt_iald (pc' := 38) hX dX11_slack_37 rfl (by decide) zc_162 zs_44 (by decide) ⟨by omega, by omega⟩ ?_
    generalize hv31 : s13 162 (r24.toNat) = v31
    have bv31 : -2147483648 ≤ v31 ∧ v31 ≤ 2147483647 := hv31 ▸ zv_44 hI16 zc_162 _
    refine zt_i2l (pc' := 39) hX dX11_slack_38 rfl ⟨by omega, by omega⟩ ?_
    exact zt_lret hX hR dX11_slack_39 ⟨by omega, by omega⟩ ⟨hI16, hF20, by omega, by omega⟩
  · refine zt_ldc2 (pc' := 15) (x := (-1000000000000000)) hX dX11_slack_12 rfl zw_45_20 (by decide +kernel) ?_
    exact zt_lret hX hR dX11_slack_15 ⟨by omega, by omega⟩ ⟨hI, hF, by omega, by omega⟩

set_option maxRecDepth 100000 in
set_option maxHeartbeats 4000000 in
theorem zc_X11_person (l : Launch) (E : zEN) (σ : zSto) (hI : zInv σ) (a1_ : Int) (ha1_ : -2147483648 ≤ a1_ ∧ a1_ ≤ 2147483647) (a2_ : Int) (ha2_ : -2147483648 ≤ a2_ ∧ a2_ ≤ 2147483647) : zCt l E yX11_person cX11_person 3 (some .int) 5 zNC zNC 0 0 σ [.ref (E.1 + 0), .int (zI a1_), .int (zI a2_)] (fun r σ' => zInv σ' ∧ zFE σ σ' ∧ -2147483648 ≤ r ∧ r ≤ 2147483647) := by
  refine zCt_of2 [some (.ref (E.1 + 0)), some (.int (zI a1_)), some (.int (zI a2_))] (by decide +kernel) (Nat.le_of_ble_eq_true rfl) rfl ?_
  intro X hE hX hR hL hN
  subst hE
  have hX : zok X cX11_person RX11 5 := hX
  have hF := zFE_rf σ
  refine zt_aload_n (pc' := 1) hX dX11_person_0 rfl rfl ?_
  obtain ⟨k1, ek2, hk3⟩ := zv_1_3 hI zc_0
  refine zt_get (pc' := 4) (v := .ref (X.1.1 + k1)) hX dX11_person_1 rfl zf_X11_31 (by decide) zc_0 zs_1 (zrf_of ek2) ?_
  refine zt_iload_n (pc' := 5) hX dX11_person_4 rfl rfl ?_
  refine zt_cVz (pc' := 8) hX dX11_person_5 rfl zm_yX3_hasPerson zw_41_8 hk3 (by decide) zs_8 (q := (RX3, TX3, 17)) rfl rfl (zc_X3_hasPerson _ _ σ hI k1 hk3 a1_ ⟨by omega, by omega⟩) rfl rfl (Nat.le_of_ble_eq_true rfl) (by decide) (fun r4 s5 hr6 hp7 => ?_)
  obtain ⟨rfl, q8, q9, z10⟩ := hp7
  refine zt_ifne (pc' := 11) (tgt := 13) hX dX11_person_8 rfl (by decide) ⟨by omega, by omega⟩ (fun c11 => ?_) (fun c11 => ?_)
  · refine zt_iload_n (pc' := 14) hX dX11_person_13 rfl rfl ?_
    rcases (show a2_ = 0 ∨ a2_ = 1 ∨ a2_ = 2 ∨ a2_ = 3 ∨ a2_ = 4 ∨ a2_ = 5 ∨ (a2_ < 0 ∨ 5 < a2_) by omega) with c12 | c12 | c12 | c12 | c12 | c12 | c12
    · refine zt_tsIn (v := 0) (tgt := 52) hX dX11_person_14 c12 (by decide) (by decide) (by decide) rfl (by decide) ?_
      refine zt_aload_n (pc' := 53) hX dX11_person_52 rfl rfl ?_
      refine zt_get (pc' := 56) (v := .ref (X.1.1 + 35)) hX dX11_person_53 rfl zf_X11_66 (by decide) zc_0 zs_1 (zrf_of (zv_1_8 hI zc_0)) ?_
      refine zt_get (pc' := 59) (v := .ref (X.1.1 + 36)) hX dX11_person_56 rfl zf_X11_215 (by decide) zc_35 zs_22 (zrf_of (zv_22_0 hI zc_35)) ?_
      refine zt_iload_n (pc' := 60) hX dX11_person_59 rfl rfl ?_
      refine zt_iald (pc' := 61) hX dX11_person_60 rfl (by decide) zc_36 zs_23 (by decide) ⟨by omega, by omega⟩ ?_
      generalize hv13 : σ 36 (a1_.toNat) = v13
      have bv13 : -1 ≤ v13 ∧ v13 ≤ 255 := hv13 ▸ zv_23 hI zc_36 _
      exact zt_iret hX hR dX11_person_61 ⟨by omega, by omega⟩ ⟨hI, hF, by omega, by omega⟩
    · refine zt_tsIn (v := 1) (tgt := 62) hX dX11_person_14 c12 (by decide) (by decide) (by decide) rfl (by decide) ?_
      refine zt_aload_n (pc' := 63) hX dX11_person_62 rfl rfl ?_
      refine zt_get (pc' := 66) (v := .ref (X.1.1 + 35)) hX dX11_person_63 rfl zf_X11_66 (by decide) zc_0 zs_1 (zrf_of (zv_1_8 hI zc_0)) ?_
      refine zt_get (pc' := 69) (v := .ref (X.1.1 + 37)) hX dX11_person_66 rfl zf_X11_218 (by decide) zc_35 zs_22 (zrf_of (zv_22_1 hI zc_35)) ?_
      refine zt_iload_n (pc' := 70) hX dX11_person_69 rfl rfl ?_
      refine zt_iald (pc' := 71) hX dX11_person_70 rfl (by decide) zc_37 zs_24 (by decide) ⟨by omega, by omega⟩ ?_
      generalize hv14 : σ 37 (a1_.toNat) = v14
      have bv14 : -1 ≤ v14 ∧ v14 ≤ 255 := hv14 ▸ zv_24 hI zc_37 _
      exact zt_iret hX hR dX11_person_71 ⟨by omega, by omega⟩ ⟨hI, hF, by omega, by omega⟩
    · refine zt_tsIn (v := 2) (tgt := 72) hX dX11_person_14 c12 (by decide) (by decide) (by decide) rfl (by decide) ?_
      refine zt_aload_n (pc' := 73) hX dX11_person_72 rfl rfl ?_
      refine zt_get (pc' := 76) (v := .ref (X.1.1 + k1)) hX dX11_person_73 rfl zf_X11_31 (by decide) zc_0 zs_1 (zrf_of ek2) ?_
      refine zt_get (pc' := 79) (v := .ref (X.1.1 + (k1 + 5))) hX dX11_person_76 rfl zf_X11_221 (zro_lt hk3 (by decide)) hk3 zs_8 (zrf_of (zv_8_4 hI hk3)) ?_
      refine zt_iload_n (pc' := 80) hX dX11_person_79 rfl rfl ?_
      refine zt_iald (pc' := 81) hX dX11_person_80 rfl (zro_lt (zo_8_4 hk3) (by decide)) (zo_8_4 hk3) zs_13 (by decide) ⟨by omega, by omega⟩ ?_
      generalize hv15 : σ (k1 + 5) (a1_.toNat) = v15
      have bv15 : 0 ≤ v15 ∧ v15 ≤ 99 := hv15 ▸ zv_13 hI (zo_8_4 hk3) _
      exact zt_iret hX hR dX11_person_81 ⟨by omega, by omega⟩ ⟨hI, hF, by omega, by omega⟩
    · refine zt_tsIn (v := 3) (tgt := 82) hX dX11_person_14 c12 (by decide) (by decide) (by decide) rfl (by decide) ?_
      refine zt_aload_n (pc' := 83) hX dX11_person_82 rfl rfl ?_
      refine zt_get (pc' := 86) (v := .ref (X.1.1 + 35)) hX dX11_person_83 rfl zf_X11_66 (by decide) zc_0 zs_1 (zrf_of (zv_1_8 hI zc_0)) ?_
      refine zt_get (pc' := 89) (v := .ref (X.1.1 + 38)) hX dX11_person_86 rfl zf_X11_224 (by decide) zc_35 zs_22 (zrf_of (zv_22_2 hI zc_35)) ?_
      refine zt_iload_n (pc' := 90) hX dX11_person_89 rfl rfl ?_
      refine zt_iald (pc' := 91) hX dX11_person_90 rfl (by decide) zc_38 zs_25 (by decide) ⟨by omega, by omega⟩ ?_
      generalize hv16 : σ 38 (a1_.toNat) = v16
      have bv16 : -1 ≤ v16 ∧ v16 ≤ 255 := hv16 ▸ zv_25 hI zc_38 _
      exact zt_iret hX hR dX11_person_91 ⟨by omega, by omega⟩ ⟨hI, hF, by omega, by omega⟩
    · refine zt_tsIn (v := 4) (tgt := 92) hX dX11_person_14 c12 (by decide) (by decide) (by decide) rfl (by decide) ?_
      refine zt_aload_n (pc' := 93) hX dX11_person_92 rfl rfl ?_
      refine zt_cVi (pc' := 96) hX dX11_person_93 rfl zm_yX11_holdersNow zw_34_0 zc_0 (by decide) zs_1 (q := (RX11, TX11, 17)) rfl rfl (zc_X11_holdersNow _ _ σ hI ) rfl rfl (Nat.le_of_ble_eq_true rfl) (by decide) (fun r17 s18 hr19 hp20 => ?_)
      obtain ⟨hI21, hF22, q23, q24⟩ := hp20
      have hF25 := zFE_tr hF hF22
      refine zt_iload_n (pc' := 97) hX dX11_person_96 rfl rfl ?_
      refine zt_ishr (pc' := 98) hX dX11_person_97 rfl (fun r26 zr26 lr26 ur26 => ?_)
      clear zr26
      refine zt_iconst (pc' := 99) hX dX11_person_98 rfl ?_
      refine zt_iandm (pc' := 100) hX dX11_person_99 rfl 1 (by decide +kernel) (by decide) (fun r27 er27 lr27 ur27 => ?_)
      have ur27 : r27 ≤ 1 := by omega
      exact zt_iret hX hR dX11_person_100 ⟨by omega, by omega⟩ ⟨hI21, hF25, by omega, by omega⟩
    · refine zt_tsIn (v := 5) (tgt := 101) hX dX11_person_14 c12 (by decide) (by decide) (by decide) rfl (by decide) ?_
      refine zt_aload_n (pc' := 102) hX dX11_person_101 rfl rfl ?_
      refine zt_get (pc' := 105) (v := .ref (X.1.1 + 35)) hX dX11_person_102 rfl zf_X11_66 (by decide) zc_0 zs_1 (zrf_of (zv_1_8 hI zc_0)) ?_
      have b28 := zv_22_7 hI zc_35
      refine zt_get (pc' := 108) (v := .int (zI (σ 35 7))) hX dX11_person_105 rfl zf_X11_171 (by decide) zc_35 zs_22 rfl ?_
      refine zt_iload_n (pc' := 109) hX dX11_person_108 rfl rfl ?_
      refine zt_ishr (pc' := 110) hX dX11_person_109 rfl (fun r29 zr29 lr29 ur29 => ?_)
      clear zr29
      refine zt_iconst (pc' := 111) hX dX11_person_110 rfl ?_
      refine zt_iandm (pc' := 112) hX dX11_person_111 rfl 1 (by decide +kernel) (by decide) (fun r30 er30 lr30 ur30 => ?_)
      have ur30 : r30 ≤ 1 := by omega
      exact zt_iret hX hR dX11_person_112 ⟨by omega, by omega⟩ ⟨hI, hF, by omega, by omega⟩
    · refine zt_tsOut (tgt := 113) hX dX11_person_14 ⟨by omega, by omega⟩ c12 (by decide) ?_
      refine zt_iconst (pc' := 114) hX dX11_person_113 rfl ?_
      exact zt_iret hX hR dX11_person_114 ⟨by omega, by omega⟩ ⟨hI, hF, by omega, by omega⟩
  · refine zt_iconst (pc' := 12) hX dX11_person_11 rfl ?_
    exact zt_iret hX hR dX11_person_12 ⟨by omega, by omega⟩ ⟨hI, hF, by omega, by omega⟩

set_option maxRecDepth 100000 in
set_option maxHeartbeats 4000000 in
theorem zc_X11_lifts (l : Launch) (E : zEN) (σ : zSto) (hI : zInv σ) (a1_ : Int) (ha1_ : -2147483648 ≤ a1_ ∧ a1_ ≤ 2147483647) (a2_ : Int) (ha2_ : -2147483648 ≤ a2_ ∧ a2_ ≤ 2147483647) (a3_ : Int) (ha3_ : -2147483648 ≤ a3_ ∧ a3_ ≤ 2147483647) : zCt l E yX11_lifts cX11_lifts 4 (some .int) 4 zNC zNC 0 0 σ [.ref (E.1 + 0), .int (zI a1_), .int (zI a2_), .int (zI a3_)] (fun r σ' => zInv σ' ∧ zFE σ σ' ∧ -2147483648 ≤ r ∧ r ≤ 2147483647) := by
  refine zCt_of2 [some (.ref (E.1 + 0)), some (.int (zI a1_)), some (.int (zI a2_)), some (.int (zI a3_))] (by decide +kernel) (Nat.le_of_ble_eq_true rfl) rfl ?_
  intro X hE hX hR hL hN
  subst hE
  have hX : zok X cX11_lifts RX11 4 := hX
  have hF := zFE_rf σ
  refine zt_aload_n (pc' := 1) hX dX11_lifts_0 rfl rfl ?_
  obtain ⟨k1, ek2, hk3⟩ := zv_1_3 hI zc_0
  refine zt_get (pc' := 4) (v := .ref (X.1.1 + k1)) hX dX11_lifts_1 rfl zf_X11_31 (by decide) zc_0 zs_1 (zrf_of ek2) ?_
  refine zt_iload_n (pc' := 5) hX dX11_lifts_4 rfl rfl ?_
  refine zt_cVz (pc' := 8) hX dX11_lifts_5 rfl zm_yX3_hasPerson zw_41_8 hk3 (by decide) zs_8 (q := (RX3, TX3, 17)) rfl rfl (zc_X3_hasPerson _ _ σ hI k1 hk3 a1_ ⟨by omega, by omega⟩) rfl rfl (Nat.le_of_ble_eq_true rfl) (by decide) (fun r4 s5 hr6 hp7 => ?_)
  obtain ⟨rfl, q8, q9, z10⟩ := hp7
  refine zt_ifeq (pc' := 11) (tgt := 23) hX dX11_lifts_8 rfl (by decide) ⟨by omega, by omega⟩ (fun c11 => ?_) (fun c11 => ?_)
  · refine zt_iconst (pc' := 24) hX dX11_lifts_23 rfl ?_
    exact zt_iret hX hR dX11_lifts_24 ⟨by omega, by omega⟩ ⟨hI, hF, by omega, by omega⟩
  · refine zt_aload_n (pc' := 12) hX dX11_lifts_11 rfl rfl ?_
    refine zt_get (pc' := 15) (v := .ref (X.1.1 + k1)) hX dX11_lifts_12 rfl zf_X11_31 (by decide) zc_0 zs_1 (zrf_of ek2) ?_
    refine zt_iload_n (pc' := 16) hX dX11_lifts_15 rfl rfl ?_
    refine zt_iload_n (pc' := 17) hX dX11_lifts_16 rfl rfl ?_
    refine zt_cVz (pc' := 20) hX dX11_lifts_17 rfl zm_yX3_hasCell zw_42_2 hk3 (by decide) zs_8 (q := (RX3, TX3, 17)) rfl rfl (zc_X3_hasCell _ _ σ hI k1 hk3 a2_ ⟨by omega, by omega⟩ a3_ ⟨by omega, by omega⟩) rfl rfl (Nat.le_of_ble_eq_true rfl) (by decide) (fun r12 s13 hr14 hp15 => ?_)
    obtain ⟨rfl, q16, q17, z18⟩ := hp15
    refine zt_ifne (pc' := 23) (tgt := 25) hX dX11_lifts_20 rfl (by decide) ⟨by omega, by omega⟩ (fun c19 => ?_) (fun c19 => ?_)
    · refine zt_aload_n (pc' := 26) hX dX11_lifts_25 rfl rfl ?_
      refine zt_get (pc' := 29) (v := .ref (X.1.1 + 153)) hX dX11_lifts_26 rfl zf_X11_92 (by decide) zc_0 zs_1 (zrf_of (zv_1_12 hI zc_0)) ?_
      refine zt_aload_n (pc' := 30) hX dX11_lifts_29 rfl rfl ?_
      refine zt_get (pc' := 33) (v := .ref (X.1.1 + k1)) hX dX11_lifts_30 rfl zf_X11_31 (by decide) zc_0 zs_1 (zrf_of ek2) ?_
      refine zt_aload_n (pc' := 34) hX dX11_lifts_33 rfl rfl ?_
      refine zt_get (pc' := 37) (v := .ref (X.1.1 + 35)) hX dX11_lifts_34 rfl zf_X11_66 (by decide) zc_0 zs_1 (zrf_of (zv_1_8 hI zc_0)) ?_
      refine zt_iconst (pc' := 38) hX dX11_lifts_37 rfl ?_
      refine zt_cVv (pc' := 41) hX dX11_lifts_38 rfl zm_yX6_look zw_34_4 zc_153 (by decide) zs_35 (q := (RX6, TX6, 14)) rfl rfl (zc_X6_look _ _ σ hI k1 hk3 35 zc_35 0 ⟨by omega, by omega⟩) rfl rfl (Nat.le_of_ble_eq_true rfl) (by decide) (fun r20 s21 hr22 hp23 => ?_)
      obtain ⟨hI24, hF25⟩ := hp23
      have hF26 := zFE_tr hF hF25
      refine zt_aload_n (pc' := 42) hX dX11_lifts_41 rfl rfl ?_
      refine zt_get (pc' := 45) (v := .ref (X.1.1 + 153)) hX dX11_lifts_42 rfl zf_X11_92 (by decide) zc_0 zs_1 (zrf_of (zv_1_12 hI24 zc_0)) ?_
      refine zt_get (pc' := 48) (v := .ref (X.1.1 + 158)) hX dX11_lifts_45 rfl zf_X11_231 (by decide) zc_153 zs_35 (zrf_of (zv_35_1 hI24 zc_153)) ?_
      refine zt_iload_n (pc' := 49) hX dX11_lifts_48 rfl rfl ?_
      refine zt_bipush (pc' := 51) hX dX11_lifts_49 rfl (by decide) (by decide) ?_
      refine zt_imul (pc' := 52) hX dX11_lifts_51 rfl ?_
      refine zt_aload_n (pc' := 53) hX dX11_lifts_52 rfl rfl ?_
      obtain ⟨k27, ek28, hk29⟩ := zv_1_3 hI24 zc_0
      refine zt_get (pc' := 56) (v := .ref (X.1.1 + k27)) hX dX11_lifts_53 rfl zf_X11_31 (by decide) zc_0 zs_1 (zrf_of ek28) ?_
      refine zt_iload_n (pc' := 57) hX dX11_lifts_56 rfl rfl ?_
      refine zt_iload_n (pc' := 58) hX dX11_lifts_57 rfl rfl ?_
      refine zt_cVi (pc' := 61) hX dX11_lifts_58 rfl zm_yX3_cellAt zw_42_6 hk29 (by decide) zs_8 (q := (RX3, TX3, 17)) rfl rfl (zc_X3_cellAt _ _ s21 hI24 k27 hk29 a2_ ⟨by omega, by omega⟩ a3_ ⟨by omega, by omega⟩) rfl rfl (Nat.le_of_ble_eq_true rfl) (by decide) (fun r30 s31 hr32 hp33 => ?_)
      obtain ⟨rfl, q34, q35, z36⟩ := hp33
      refine zt_iadd (pc' := 62) hX dX11_lifts_61 rfl ?_
      refine zt_iald (pc' := 63) hX dX11_lifts_62 rfl (by decide) zc_158 zs_40 (by decide) ⟨by omega, by omega⟩ ?_
      generalize hv37 : s21 158 (((a1_ * 36) + r30).toNat) = v37
      have bv37 : -2147483648 ≤ v37 ∧ v37 ≤ 2147483647 := hv37 ▸ zv_40 hI24 zc_158 _
      exact zt_iret hX hR dX11_lifts_63 ⟨by omega, by omega⟩ ⟨hI24, hF26, by omega, by omega⟩
    · refine zt_iconst (pc' := 24) hX dX11_lifts_23 rfl ?_
      exact zt_iret hX hR dX11_lifts_24 ⟨by omega, by omega⟩ ⟨hI, hF, by omega, by omega⟩

set_option maxRecDepth 100000 in
set_option maxHeartbeats 4000000 in
theorem zc_X11_kept (l : Launch) (E : zEN) (σ : zSto) (hI : zInv σ) (a1_ : Int) (ha1_ : -2147483648 ≤ a1_ ∧ a1_ ≤ 2147483647) (a2_ : Int) (ha2_ : -2147483648 ≤ a2_ ∧ a2_ ≤ 2147483647) : zCt l E yX11_kept cX11_kept 4 (some .int) 0 zNC zNC 0 0 σ [.ref (E.1 + 0), .int (zI a1_), .int (zI a2_)] (fun r σ' => σ = σ' ∧ -2147483648 ≤ r ∧ r ≤ 2147483647) := by
  refine zCt_of2 [some (.ref (E.1 + 0)), some (.int (zI a1_)), some (.int (zI a2_)), none] (by decide +kernel) (Nat.le_of_ble_eq_true rfl) rfl ?_
  intro X hE hX hR hL hN
  subst hE
  have hX : zok X cX11_kept RX11 0 := hX
  refine zt_iload_n (pc' := 1) hX dX11_kept_0 rfl rfl ?_
  refine zt_iflt (pc' := 4) (tgt := 15) hX dX11_kept_1 rfl (by decide) ⟨by omega, by omega⟩ (fun c1 => ?_) (fun c1 => ?_)
  · refine zt_iconst (pc' := 16) hX dX11_kept_15 rfl ?_
    exact zt_iret hX hR dX11_kept_16 ⟨by omega, by omega⟩ ⟨rfl, by omega, by omega⟩
  · refine zt_iload_n (pc' := 5) hX dX11_kept_4 rfl rfl ?_
    refine zt_aload_n (pc' := 6) hX dX11_kept_5 rfl rfl ?_
    refine zt_get (pc' := 9) (v := .ref (X.1.1 + 35)) hX dX11_kept_6 rfl zf_X11_66 (by decide) zc_0 zs_1 (zrf_of (zv_1_8 hI zc_0)) ?_
    have b2 := zv_22_4 hI zc_35
    refine zt_get (pc' := 12) (v := .int (zI (σ 35 4))) hX dX11_kept_9 rfl zf_X11_174 (by decide) zc_35 zs_22 rfl ?_
    refine zt_iclt (pc' := 15) (tgt := 17) hX dX11_kept_12 rfl (by decide) ⟨by omega, by omega⟩ ⟨by omega, by omega⟩ (fun c3 => ?_) (fun c3 => ?_)
    · refine zt_aload_n (pc' := 18) hX dX11_kept_17 rfl rfl ?_
      refine zt_get (pc' := 21) (v := .ref (X.1.1 + 35)) hX dX11_kept_18 rfl zf_X11_66 (by decide) zc_0 zs_1 (zrf_of (zv_1_8 hI zc_0)) ?_
      refine zt_get (pc' := 24) (v := .ref (X.1.1 + 39)) hX dX11_kept_21 rfl zf_X11_234 (by decide) zc_35 zs_22 (zrf_of (zv_22_3 hI zc_35)) ?_
      refine zt_iload_n (pc' := 25) hX dX11_kept_24 rfl rfl ?_
      refine zt_iald (pc' := 26) hX dX11_kept_25 rfl (by decide) zc_39 zs_26 (by decide) ⟨by omega, by omega⟩ ?_
      generalize hv4 : σ 39 (a1_.toNat) = v4
      have bv4 : -2147483648 ≤ v4 ∧ v4 ≤ 2147483647 := hv4 ▸ zv_26 hI zc_39 _
      refine zt_istore_n (pc' := 27) (lv' := [some (.ref (X.1.1 + 0)), some (.int (zI a1_)), some (.int (zI a2_)), some (.int (zI v4))]) hX dX11_kept_26 rfl hL (by decide) rfl ?_
      refine zt_iload_n (pc' := 28) hX dX11_kept_27 rfl rfl ?_
      rcases (show a2_ = 0 ∨ a2_ = 1 ∨ a2_ = 2 ∨ (a2_ < 0 ∨ 2 < a2_) by omega) with c5 | c5 | c5 | c5
      · refine zt_tsIn (v := 0) (tgt := 56) hX dX11_kept_28 c5 (by decide) (by decide) (by decide) rfl (by decide) ?_
        refine zt_iload_n (pc' := 57) hX dX11_kept_56 rfl rfl ?_
        refine zt_bipush (pc' := 59) hX dX11_kept_57 rfl (by decide) (by decide) ?_
        refine zt_ishr (pc' := 60) hX dX11_kept_59 rfl (fun r6 zr6 lr6 ur6 => ?_)
        clear zr6
        exact zt_iret hX hR dX11_kept_60 ⟨by omega, by omega⟩ ⟨rfl, by omega, by omega⟩
      · refine zt_tsIn (v := 1) (tgt := 61) hX dX11_kept_28 c5 (by decide) (by decide) (by decide) rfl (by decide) ?_
        refine zt_iload_n (pc' := 62) hX dX11_kept_61 rfl rfl ?_
        refine zt_bipush (pc' := 64) hX dX11_kept_62 rfl (by decide) (by decide) ?_
        refine zt_iandm (pc' := 65) hX dX11_kept_64 rfl 3 (by decide +kernel) (by decide) (fun r7 er7 lr7 ur7 => ?_)
        have ur7 : r7 ≤ 7 := by omega
        exact zt_iret hX hR dX11_kept_65 ⟨by omega, by omega⟩ ⟨rfl, by omega, by omega⟩
      · refine zt_tsIn (v := 2) (tgt := 66) hX dX11_kept_28 c5 (by decide) (by decide) (by decide) rfl (by decide) ?_
        refine zt_iload_n (pc' := 67) hX dX11_kept_66 rfl rfl ?_
        refine zt_iconst (pc' := 68) hX dX11_kept_67 rfl ?_
        refine zt_ishr (pc' := 69) hX dX11_kept_68 rfl (fun r8 zr8 lr8 ur8 => ?_)
        clear zr8
        refine zt_bipush (pc' := 71) hX dX11_kept_69 rfl (by decide) (by decide) ?_
        refine zt_iandm (pc' := 72) hX dX11_kept_71 rfl 3 (by decide +kernel) (by decide) (fun r9 er9 lr9 ur9 => ?_)
        have ur9 : r9 ≤ 7 := by omega
        exact zt_iret hX hR dX11_kept_72 ⟨by omega, by omega⟩ ⟨rfl, by omega, by omega⟩
      · refine zt_tsOut (tgt := 73) hX dX11_kept_28 ⟨by omega, by omega⟩ c5 (by decide) ?_
        refine zt_iconst (pc' := 74) hX dX11_kept_73 rfl ?_
        exact zt_iret hX hR dX11_kept_74 ⟨by omega, by omega⟩ ⟨rfl, by omega, by omega⟩
    · refine zt_iconst (pc' := 16) hX dX11_kept_15 rfl ?_
      exact zt_iret hX hR dX11_kept_16 ⟨by omega, by omega⟩ ⟨rfl, by omega, by omega⟩

set_option maxRecDepth 100000 in
set_option maxHeartbeats 4000000 in
theorem zc_X11_later (l : Launch) (E : zEN) (σ : zSto) (hI : zInv σ) (a1_ : Int) (ha1_ : -2147483648 ≤ a1_ ∧ a1_ ≤ 2147483647) (a2_ : Int) (ha2_ : -2147483648 ≤ a2_ ∧ a2_ ≤ 2147483647) : zCt l E yX11_later cX11_later 4 (some .int) 6 zNC zNC 0 0 σ [.ref (E.1 + 0), .int (zI a1_), .int (zI a2_)] (fun r σ' => zInv σ' ∧ zFE σ σ' ∧ -2147483648 ≤ r ∧ r ≤ 2147483647) := by
  refine zCt_of2 [some (.ref (E.1 + 0)), some (.int (zI a1_)), some (.int (zI a2_)), none] (by decide +kernel) (Nat.le_of_ble_eq_true rfl) rfl ?_
  intro X hE hX hR hL hN
  subst hE
  have hX : zok X cX11_later RX11 6 := hX
  have hF := zFE_rf σ
  refine zt_aload_n (pc' := 1) hX dX11_later_0 rfl rfl ?_
  refine zt_iload_n (pc' := 2) hX dX11_later_1 rfl rfl ?_
  refine zt_iconst (pc' := 3) hX dX11_later_2 rfl ?_
  refine zt_bipush (pc' := 5) hX dX11_later_3 rfl (by decide) (by decide) ?_
  refine zt_cVz (pc' := 8) hX dX11_later_5 rfl zm_yX11_isAhead zw_48_2 zc_0 (by decide) zs_1 (q := (RX11, TX11, 17)) rfl rfl (zc_X11_isAhead _ _ σ hI a1_ ⟨by omega, by omega⟩ 0 ⟨by omega, by omega⟩ 60 ⟨by omega, by omega⟩) rfl rfl (Nat.le_of_ble_eq_true rfl) (by decide) (fun r1 s2 hr3 hp4 => ?_)
  obtain ⟨rfl, q5, q6, z7⟩ := hp4
  refine zt_ifeq (pc' := 11) (tgt := 20) hX dX11_later_8 rfl (by decide) ⟨by omega, by omega⟩ (fun c8 => ?_) (fun c8 => ?_)
  · refine zt_iconst (pc' := 21) hX dX11_later_20 rfl ?_
    exact zt_iret hX hR dX11_later_21 ⟨by omega, by omega⟩ ⟨hI, hF, by omega, by omega⟩
  · refine zt_iload_n (pc' := 12) hX dX11_later_11 rfl rfl ?_
    refine zt_iflt (pc' := 15) (tgt := 20) hX dX11_later_12 rfl (by decide) ⟨by omega, by omega⟩ (fun c9 => ?_) (fun c9 => ?_)
    · refine zt_iconst (pc' := 21) hX dX11_later_20 rfl ?_
      exact zt_iret hX hR dX11_later_21 ⟨by omega, by omega⟩ ⟨hI, hF, by omega, by omega⟩
    · refine zt_iload_n (pc' := 16) hX dX11_later_15 rfl rfl ?_
      refine zt_iconst (pc' := 17) hX dX11_later_16 rfl ?_
      refine zt_icle (pc' := 20) (tgt := 22) hX dX11_later_17 rfl (by decide) ⟨by omega, by omega⟩ ⟨by omega, by omega⟩ (fun c10 => ?_) (fun c10 => ?_)
      · refine zt_aload_n (pc' := 23) hX dX11_later_22 rfl rfl ?_
        refine zt_iconst (pc' := 24) hX dX11_later_23 rfl ?_
        refine zt_cVv (pc' := 27) hX dX11_later_24 rfl zm_yX11_lookAhead zw_48_10 zc_0 (by decide) zs_1 (q := (RX11, TX11, 17)) rfl rfl (zc_X11_lookAhead _ _ σ hI 0 ⟨by omega, by omega⟩) rfl rfl (Nat.le_of_ble_eq_true rfl) (by decide) (fun r11 s12 hr13 hp14 => ?_)
        obtain ⟨hI15, hF16⟩ := hp14
        have hF17 := zFE_tr hF hF16
        refine zt_iconst (pc' := 28) hX dX11_later_27 rfl ?_
        refine zt_istore_n (pc' := 29) (lv' := [some (.ref (X.1.1 + 0)), some (.int (zI a1_)), some (.int (zI a2_)), some (.int (zI 0))]) hX dX11_later_28 rfl hL (by decide) rfl ?_
        have L_29_23 : ∀ (N : Nat) (x18 : Int) (s21 : zSto), 0 ≤ x18 → x18 ≤ 60 → zInv s21 → zFE σ s21 → ((61 - x18).toNat) < N → zF X s21 29 [some (.ref (X.1.1 + 0)), some (.int (zI a1_)), some (.int (zI a2_)), some (.int (zI x18))] [] := by
          intro N
          induction N with
          | zero =>
            intro x18 s21 h19 h20 hI22 hF23 hm25
            exact absurd hm25 (Nat.not_lt_zero _)
          | succ N ih26 =>
            intro x18 s21 h19 h20 hI22 hF23 hm25
            refine zt_iload_n (pc' := 30) hX dX11_later_29 rfl rfl ?_
            refine zt_iload_n (pc' := 31) hX dX11_later_30 rfl rfl ?_
            refine zt_icge (pc' := 34) (tgt := 49) hX dX11_later_31 rfl (by decide) ⟨by omega, by omega⟩ ⟨by omega, by omega⟩ (fun c27 => ?_) (fun c27 => ?_)
            · refine zt_iload_n (pc' := 50) hX dX11_later_49 rfl rfl ?_
              rcases (show a2_ = 0 ∨ a2_ = 1 ∨ (¬ a2_ = 0 ∧ ¬ a2_ = 1) by omega) with c28 | c28 | c28
              · refine zt_look (tgt := 76) (off := 26) hX dX11_later_50 ⟨by omega, by omega⟩ (by decide +kernel) (by rw [c28]; try rfl) (by decide) ?_
                refine zt_aload_n (pc' := 77) hX dX11_later_76 rfl rfl ?_
                refine zt_get (pc' := 80) (v := .ref (X.1.1 + 40)) hX dX11_later_77 rfl zf_X11_70 (by decide) zc_0 zs_1 (zrf_of (zv_1_9 hI22 zc_0)) ?_
                have b29 := zv_22_6 hI22 zc_40
                refine zt_get (pc' := 83) (v := .long (zJ (s21 40 6))) hX dX11_later_80 rfl zf_X11_153 (by decide) zc_40 zs_22 rfl ?_
                refine zt_cSi (pc' := 86) hX dX11_later_83 rfl zm_yJ13_bitCount_95d88 zw_33_17 (zc_J13_bitCount _ _ s21  (s21 40 6) ⟨by omega, by omega⟩) rfl rfl (Nat.le_of_ble_eq_true rfl) (by decide) (fun r30 s31 hr32 hp33 => ?_)
                obtain ⟨rfl, q34, q35⟩ := hp33
                exact zt_iret hX hR dX11_later_86 ⟨by omega, by omega⟩ ⟨hI22, hF23, by omega, by omega⟩
              · refine zt_look (tgt := 87) (off := 37) hX dX11_later_50 ⟨by omega, by omega⟩ (by decide +kernel) (by rw [c28]; try rfl) (by decide) ?_
                refine zt_aload_n (pc' := 88) hX dX11_later_87 rfl rfl ?_
                refine zt_get (pc' := 91) (v := .ref (X.1.1 + 153)) hX dX11_later_88 rfl zf_X11_92 (by decide) zc_0 zs_1 (zrf_of (zv_1_12 hI22 zc_0)) ?_
                refine zt_cVi (pc' := 94) hX dX11_later_91 rfl zm_yX6_holders zw_35_15 zc_153 (by decide) zs_35 (q := (RX6, TX6, 14)) rfl rfl (zc_X6_holders _ _ s21 hI22 ) rfl rfl (Nat.le_of_ble_eq_true rfl) (by decide) (fun r36 s37 hr38 hp39 => ?_)
                obtain ⟨hI40, hF41, q42, q43⟩ := hp39
                have hF44 := zFE_tr hF23 hF41
                exact zt_iret hX hR dX11_later_94 ⟨by omega, by omega⟩ ⟨hI40, hF44, by omega, by omega⟩
              · refine zt_look (tgt := 95) (off := 45) hX dX11_later_50 ⟨by omega, by omega⟩ (by decide +kernel) (by simp [Op.lookupswitch.offset]; rw [if_neg (by omega)]; rw [if_neg (by omega)]) (by decide) ?_
                refine zt_aload_n (pc' := 96) hX dX11_later_95 rfl rfl ?_
                refine zt_get (pc' := 99) (v := .ref (X.1.1 + 40)) hX dX11_later_96 rfl zf_X11_70 (by decide) zc_0 zs_1 (zrf_of (zv_1_9 hI22 zc_0)) ?_
                refine zt_aload_n (pc' := 100) hX dX11_later_99 rfl rfl ?_
                obtain ⟨k45, ek46, hk47⟩ := zv_1_3 hI22 zc_0
                refine zt_get (pc' := 103) (v := .ref (X.1.1 + k45)) hX dX11_later_100 rfl zf_X11_31 (by decide) zc_0 zs_1 (zrf_of ek46) ?_
                have b48 := zv_8_12 hI22 hk47
                refine zt_get (pc' := 106) (v := .int (zI (s21 k45 12))) hX dX11_later_103 rfl zf_X11_147 (zro_lt hk47 (by decide)) hk47 zs_8 rfl ?_
                refine zt_cVi (pc' := 109) hX dX11_later_106 rfl zm_yX10_tiredTogether zw_49_9 zc_40 (by decide) zs_22 (q := (RX10, TX10, 8)) rfl rfl (zc_X10_tiredTogether _ _ s21 hI22 40 zc_40 (s21 k45 12) ⟨by omega, by omega⟩) rfl rfl (Nat.le_of_ble_eq_true rfl) (by decide) (fun r49 s50 hr51 hp52 => ?_)
                obtain ⟨rfl, q53, q54⟩ := hp52
                exact zt_iret hX hR dX11_later_109 ⟨by omega, by omega⟩ ⟨hI22, hF23, by omega, by omega⟩
            · refine zt_aload_n (pc' := 35) hX dX11_later_34 rfl rfl ?_
              refine zt_get (pc' := 38) (v := .ref (X.1.1 + 153)) hX dX11_later_35 rfl zf_X11_92 (by decide) zc_0 zs_1 (zrf_of (zv_1_12 hI22 zc_0)) ?_
              refine zt_iconst (pc' := 39) hX dX11_later_38 rfl ?_
              refine zt_cVl (pc' := 42) hX dX11_later_39 rfl zm_yX6_passHour zw_48_18 zc_153 (by decide) zs_35 (q := (RX6, TX6, 14)) rfl rfl (zc_X6_passHour _ _ s21 hI22 (-1) ⟨by omega, by omega⟩) rfl rfl (Nat.le_of_ble_eq_true rfl) (by decide) (fun r55 s56 hr57 hp58 => ?_)
              obtain ⟨hI59, hF60, q61, q62⟩ := hp58
              have hF63 := zFE_tr hF23 hF60
              refine zt_pop2l (pc' := 43) hX dX11_later_42 rfl rfl ?_
              refine zt_iinc (pc' := 46) (lv' := [some (.ref (X.1.1 + 0)), some (.int (zI a1_)), some (.int (zI a2_)), some (.int (zI (x18 + 1)))]) hX dX11_later_43 rfl rfl hL (by decide) rfl ?_
              refine zt_goto (tgt := 29) hX dX11_later_46 (by decide) ?_
              exact ih26 (x18 + 1) s56 (by omega) (by omega) hI59 (by omega) (by omega)
        exact L_29_23 _ 0 s12 (by omega) (by omega) hI15 (by omega) (Nat.lt_succ_self _)
      · refine zt_iconst (pc' := 21) hX dX11_later_20 rfl ?_
        exact zt_iret hX hR dX11_later_21 ⟨by omega, by omega⟩ ⟨hI, hF, by omega, by omega⟩

set_option maxRecDepth 100000 in
set_option maxHeartbeats 4000000 in
theorem zc_X11_next (l : Launch) (E : zEN) (σ : zSto) (hI : zInv σ)  : zCt l E yX11_next cX11_next 3 (some .int) 6 zNC zNC 0 0 σ [.ref (E.1 + 0)] (fun r σ' => zInv σ' ∧ zFE σ σ' ∧ -2147483648 ≤ r ∧ r ≤ 2147483647) := by
  refine zCt_of2 [some (.ref (E.1 + 0)), none, none] (by decide +kernel) (Nat.le_of_ble_eq_true rfl) rfl ?_
  intro X hE hX hR hL hN
  subst hE
  have hX : zok X cX11_next RX11 6 := hX
  have hF := zFE_rf σ
  refine zt_bipush (pc' := 2) hX dX11_next_0 rfl (by decide) (by decide) ?_
  refine zt_sipush (pc' := 5) hX dX11_next_2 rfl (by decide) (by decide) ?_
  refine zt_aload_n (pc' := 6) hX dX11_next_5 rfl rfl ?_
  refine zt_get (pc' := 9) (v := .ref (X.1.1 + 35)) hX dX11_next_6 rfl zf_X11_66 (by decide) zc_0 zs_1 (zrf_of (zv_1_8 hI zc_0)) ?_
  have b1 := zv_22_5 hI zc_35
  refine zt_get (pc' := 12) (v := .int (zI (σ 35 5))) hX dX11_next_9 rfl zf_X11_150 (by decide) zc_35 zs_22 rfl ?_
  refine zt_isub (pc' := 13) hX dX11_next_12 rfl ?_
  refine zt_wrap (fun r2 zr2 lr2 ur2 => ?_)
  clear zr2
  refine zt_mmin (pc' := 16) hX (by decide) dX11_next_13 rfl zw_51_3 zw_36_23 zw_34_21 zw_37_0 (Nat.le_of_ble_eq_true rfl) ⟨Nat.zero_le _, Nat.zero_le _⟩ ⟨by omega, by omega⟩ ⟨by omega, by omega⟩ (fun r3 er3 => ?_)
  refine zt_istore_n (pc' := 17) (lv' := [some (.ref (X.1.1 + 0)), some (.int (zI r3)), none]) hX dX11_next_16 rfl hL (by decide) rfl ?_
  refine zt_aload_n (pc' := 18) hX dX11_next_17 rfl rfl ?_
  refine zt_iconst (pc' := 19) hX dX11_next_18 rfl ?_
  refine zt_cVv (pc' := 22) hX dX11_next_19 rfl zm_yX11_lookAhead zw_48_10 zc_0 (by decide) zs_1 (q := (RX11, TX11, 17)) rfl rfl (zc_X11_lookAhead _ _ σ hI 0 ⟨by omega, by omega⟩) rfl rfl (Nat.le_of_ble_eq_true rfl) (by decide) (fun r4 s5 hr6 hp7 => ?_)
  obtain ⟨hI8, hF9⟩ := hp7
  have hF10 := zFE_tr hF hF9
  refine zt_iconst (pc' := 23) hX dX11_next_22 rfl ?_
  refine zt_istore_n (pc' := 24) (lv' := [some (.ref (X.1.1 + 0)), some (.int (zI r3)), some (.int (zI 1))]) hX dX11_next_23 rfl hL (by decide) rfl ?_
  have L_24_16 : ∀ (N : Nat) (x11 : Int) (s14 : zSto), 1 ≤ x11 → x11 ≤ 61 → zInv s14 → zFE σ s14 → ((62 - x11).toNat) < N → zF X s14 24 [some (.ref (X.1.1 + 0)), some (.int (zI r3)), some (.int (zI x11))] [] := by
    intro N
    induction N with
    | zero =>
      intro x11 s14 h12 h13 hI15 hF16 hm18
      exact absurd hm18 (Nat.not_lt_zero _)
    | succ N ih19 =>
      intro x11 s14 h12 h13 hI15 hF16 hm18
      refine zt_iload_n (pc' := 25) hX dX11_next_24 rfl rfl ?_
      refine zt_iload_n (pc' := 26) hX dX11_next_25 rfl rfl ?_
      refine zt_icgt (pc' := 29) (tgt := 50) hX dX11_next_26 rfl (by decide) ⟨by omega, by omega⟩ ⟨by omega, by omega⟩ (fun c20 => ?_) (fun c20 => ?_)
      · refine zt_iconst (pc' := 51) hX dX11_next_50 rfl ?_
        exact zt_iret hX hR dX11_next_51 ⟨by omega, by omega⟩ ⟨hI15, hF16, by omega, by omega⟩
      · refine zt_aload_n (pc' := 30) hX dX11_next_29 rfl rfl ?_
        refine zt_get (pc' := 33) (v := .ref (X.1.1 + 153)) hX dX11_next_30 rfl zf_X11_92 (by decide) zc_0 zs_1 (zrf_of (zv_1_12 hI15 zc_0)) ?_
        refine zt_iconst (pc' := 34) hX dX11_next_33 rfl ?_
        refine zt_cVl (pc' := 37) hX dX11_next_34 rfl zm_yX6_passHour zw_48_18 zc_153 (by decide) zs_35 (q := (RX6, TX6, 14)) rfl rfl (zc_X6_passHour _ _ s14 hI15 (-1) ⟨by omega, by omega⟩) rfl rfl (Nat.le_of_ble_eq_true rfl) (by decide) (fun r21 s22 hr23 hp24 => ?_)
        obtain ⟨hI25, hF26, q27, q28⟩ := hp24
        have hF29 := zFE_tr hF16 hF26
        refine zt_lconst (pc' := 38) (y := 0) hX dX11_next_37 rfl (by decide +kernel) ?_
        refine zt_lcmp (pc' := 39) hX dX11_next_38 rfl ⟨by omega, by omega⟩ ⟨by omega, by omega⟩ (fun r30 er30 => ?_)
        refine zt_ifeq (pc' := 42) (tgt := 44) hX dX11_next_39 rfl (by decide) ⟨by omega, by omega⟩ (fun c31 => ?_) (fun c31 => ?_)
        · refine zt_iinc (pc' := 47) (lv' := [some (.ref (X.1.1 + 0)), some (.int (zI r3)), some (.int (zI (x11 + 1)))]) hX dX11_next_44 rfl rfl hL (by decide) rfl ?_
          refine zt_goto (tgt := 24) hX dX11_next_47 (by decide) ?_
          exact ih19 (x11 + 1) s22 (by omega) (by omega) hI25 (by omega) (by omega)
        · refine zt_iload_n (pc' := 43) hX dX11_next_42 rfl rfl ?_
          exact zt_iret hX hR dX11_next_43 ⟨by omega, by omega⟩ ⟨hI25, hF29, by omega, by omega⟩
  exact L_24_16 _ 1 s5 (by omega) (by omega) hI8 (by omega) (Nat.lt_succ_self _)

set_option maxRecDepth 100000 in
set_option maxHeartbeats 4000000 in
theorem zc_X11_lasts (l : Launch) (E : zEN) (σ : zSto) (hI : zInv σ) (a1_ : Int) (ha1_ : -2147483648 ≤ a1_ ∧ a1_ ≤ 2147483647) : zCt l E yX11_lasts cX11_lasts 3 (some .int) 7 zNC zNC 0 0 σ [.ref (E.1 + 0), .int (zI a1_)] (fun r σ' => zInv σ' ∧ zFE σ σ' ∧ -2147483648 ≤ r ∧ r ≤ 2147483647) := by
  refine zCt_of2 [some (.ref (E.1 + 0)), some (.int (zI a1_)), none] (by decide +kernel) (Nat.le_of_ble_eq_true rfl) rfl ?_
  intro X hE hX hR hL hN
  subst hE
  have hX : zok X cX11_lasts RX11 7 := hX
  have hF := zFE_rf σ
  refine zt_aload_n (pc' := 1) hX dX11_lasts_0 rfl rfl ?_
  refine zt_iload_n (pc' := 2) hX dX11_lasts_1 rfl rfl ?_
  refine zt_iconst (pc' := 3) hX dX11_lasts_2 rfl ?_
  refine zt_bipush (pc' := 5) hX dX11_lasts_3 rfl (by decide) (by decide) ?_
  refine zt_cVz (pc' := 8) hX dX11_lasts_5 rfl zm_yX11_isAhead zw_48_2 zc_0 (by decide) zs_1 (q := (RX11, TX11, 17)) rfl rfl (zc_X11_isAhead _ _ σ hI a1_ ⟨by omega, by omega⟩ 1 ⟨by omega, by omega⟩ 30 ⟨by omega, by omega⟩) rfl rfl (Nat.le_of_ble_eq_true rfl) (by decide) (fun r1 s2 hr3 hp4 => ?_)
  obtain ⟨rfl, q5, q6, z7⟩ := hp4
  refine zt_ifne (pc' := 11) (tgt := 13) hX dX11_lasts_8 rfl (by decide) ⟨by omega, by omega⟩ (fun c8 => ?_) (fun c8 => ?_)
  · refine zt_iconst (pc' := 14) hX dX11_lasts_13 rfl ?_
    refine zt_istore_n (pc' := 15) (lv' := [some (.ref (X.1.1 + 0)), some (.int (zI a1_)), some (.int (zI 0))]) hX dX11_lasts_14 rfl hL (by decide) rfl ?_
    have L_15_14 : ∀ (N : Nat) (x9 : Int) (s12 : zSto), 0 ≤ x9 → x9 ≤ 100 → zInv s12 → zFE σ s12 → ((101 - x9).toNat) < N → zF X s12 15 [some (.ref (X.1.1 + 0)), some (.int (zI a1_)), some (.int (zI x9))] [] := by
      intro N
      induction N with
      | zero =>
        intro x9 s12 h10 h11 hI13 hF14 hm16
        exact absurd hm16 (Nat.not_lt_zero _)
      | succ N ih17 =>
        intro x9 s12 h10 h11 hI13 hF14 hm16
        refine zt_iload_n (pc' := 16) hX dX11_lasts_15 rfl rfl ?_
        refine zt_bipush (pc' := 18) hX dX11_lasts_16 rfl (by decide) (by decide) ?_
        refine zt_icgt (pc' := 21) (tgt := 38) hX dX11_lasts_18 rfl (by decide) ⟨by omega, by omega⟩ ⟨by omega, by omega⟩ (fun c18 => ?_) (fun c18 => ?_)
        · refine zt_iconst (pc' := 39) hX dX11_lasts_38 rfl ?_
          exact zt_iret hX hR dX11_lasts_39 ⟨by omega, by omega⟩ ⟨hI13, hF14, by omega, by omega⟩
        · refine zt_aload_n (pc' := 22) hX dX11_lasts_21 rfl rfl ?_
          refine zt_iload_n (pc' := 23) hX dX11_lasts_22 rfl rfl ?_
          refine zt_iload_n (pc' := 24) hX dX11_lasts_23 rfl rfl ?_
          refine zt_cVz (pc' := 27) hX dX11_lasts_24 rfl zm_yX11_staysWhole zw_51_12 zc_0 (by decide) zs_1 (q := (RX11, TX11, 17)) rfl rfl (zc_X11_staysWhole _ _ s12 hI13 a1_ ⟨by omega, by omega⟩ x9 ⟨by omega, by omega⟩) rfl rfl (Nat.le_of_ble_eq_true rfl) (by decide) (fun r19 s20 hr21 hp22 => ?_)
          obtain ⟨hI23, hF24, q25, q26⟩ := hp22
          have hF27 := zFE_tr hF14 hF24
          refine zt_ifeq (pc' := 30) (tgt := 32) hX dX11_lasts_27 rfl (by decide) ⟨by omega, by omega⟩ (fun c28 => ?_) (fun c28 => ?_)
          · refine zt_iinc (pc' := 35) (lv' := [some (.ref (X.1.1 + 0)), some (.int (zI a1_)), some (.int (zI (x9 + 1)))]) hX dX11_lasts_32 rfl rfl hL (by decide) rfl ?_
            refine zt_goto (tgt := 15) hX dX11_lasts_35 (by decide) ?_
            exact ih17 (x9 + 1) s20 (by omega) (by omega) hI23 (by omega) (by omega)
          · refine zt_iload_n (pc' := 31) hX dX11_lasts_30 rfl rfl ?_
            exact zt_iret hX hR dX11_lasts_31 ⟨by omega, by omega⟩ ⟨hI23, hF27, by omega, by omega⟩
    exact L_15_14 _ 0 σ (by omega) (by omega) hI (by omega) (Nat.lt_succ_self _)
  · refine zt_iconst (pc' := 12) hX dX11_lasts_11 rfl ?_
    exact zt_iret hX hR dX11_lasts_12 ⟨by omega, by omega⟩ ⟨hI, hF, by omega, by omega⟩

set_option maxRecDepth 100000 in
set_option maxHeartbeats 4000000 in
theorem zc_X11_free (l : Launch) (E : zEN) (σ : zSto) (hI : zInv σ)  : zCt l E yX11_free cX11_free 1 (some .int) 6 zNC zNC 0 0 σ [.ref (E.1 + 0)] (fun r σ' => zInv σ' ∧ zFE σ σ' ∧ -2147483648 ≤ r ∧ r ≤ 2147483647) := by
  refine zCt_of2 [some (.ref (E.1 + 0))] (by decide +kernel) (Nat.le_of_ble_eq_true rfl) rfl ?_
  intro X hE hX hR hL hN
  subst hE
  have hX : zok X cX11_free RX11 6 := hX
  have hF := zFE_rf σ
  refine zt_aload_n (pc' := 1) hX dX11_free_0 rfl rfl ?_
  refine zt_get (pc' := 4) (v := .ref (X.1.1 + 153)) hX dX11_free_1 rfl zf_X11_92 (by decide) zc_0 zs_1 (zrf_of (zv_1_12 hI zc_0)) ?_
  refine zt_aload_n (pc' := 5) hX dX11_free_4 rfl rfl ?_
  refine zt_cVi (pc' := 8) hX dX11_free_5 rfl zm_yX11_balanceNow zw_42_11 zc_0 (by decide) zs_1 (q := (RX11, TX11, 17)) rfl rfl (zc_X11_balanceNow _ _ σ hI ) rfl rfl (Nat.le_of_ble_eq_true rfl) (by decide) (fun r1 s2 hr3 hp4 => ?_)
  obtain ⟨hI5, hF6, q7, q8⟩ := hp4
  have hF9 := zFE_tr hF hF6
  refine zt_cVi (pc' := 11) hX dX11_free_8 rfl zm_yX6_freeOf zw_52_4 zc_153 (by decide) zs_35 (q := (RX6, TX6, 14)) rfl rfl (zc_X6_freeOf _ _ s2 hI5 r1 ⟨by omega, by omega⟩) rfl rfl (Nat.le_of_ble_eq_true rfl) (by decide) (fun r10 s11 hr12 hp13 => ?_)
  obtain ⟨rfl, q14, q15⟩ := hp13
  exact zt_iret hX hR dX11_free_11 ⟨by omega, by omega⟩ ⟨hI5, hF9, by omega, by omega⟩

set_option maxRecDepth 100000 in
set_option maxHeartbeats 4000000 in
theorem zc_X11_needed (l : Launch) (E : zEN) (σ : zSto) (hI : zInv σ)  : zCt l E yX11_needed cX11_needed 1 (some .int) 6 zNC zNC 0 0 σ [.ref (E.1 + 0)] (fun r σ' => zInv σ' ∧ zFE σ σ' ∧ -2147483648 ≤ r ∧ r ≤ 2147483647) := by
  refine zCt_of2 [some (.ref (E.1 + 0))] (by decide +kernel) (Nat.le_of_ble_eq_true rfl) rfl ?_
  intro X hE hX hR hL hN
  subst hE
  have hX : zok X cX11_needed RX11 6 := hX
  have hF := zFE_rf σ
  refine zt_aload_n (pc' := 1) hX dX11_needed_0 rfl rfl ?_
  obtain ⟨k1, ek2, hk3⟩ := zv_1_3 hI zc_0
  refine zt_get (pc' := 4) (v := .ref (X.1.1 + k1)) hX dX11_needed_1 rfl zf_X11_31 (by decide) zc_0 zs_1 (zrf_of ek2) ?_
  refine zt_cVz (pc' := 7) hX dX11_needed_4 rfl zm_yX3_isTold zw_48_6 hk3 (by decide) zs_8 (q := (RX3, TX3, 17)) rfl rfl (zc_X3_isTold _ _ σ hI k1 hk3) rfl rfl (Nat.le_of_ble_eq_true rfl) (by decide) (fun r4 s5 hr6 hp7 => ?_)
  obtain ⟨rfl, q8, q9⟩ := hp7
  refine zt_ifne (pc' := 10) (tgt := 12) hX dX11_needed_7 rfl (by decide) ⟨by omega, by omega⟩ (fun c10 => ?_) (fun c10 => ?_)
  · refine zt_aload_n (pc' := 13) hX dX11_needed_12 rfl rfl ?_
    refine zt_cVi (pc' := 16) hX dX11_needed_13 rfl zm_yX11_balanceNow zw_42_11 zc_0 (by decide) zs_1 (q := (RX11, TX11, 17)) rfl rfl (zc_X11_balanceNow _ _ σ hI ) rfl rfl (Nat.le_of_ble_eq_true rfl) (by decide) (fun r11 s12 hr13 hp14 => ?_)
    obtain ⟨hI15, hF16, q17, q18⟩ := hp14
    have hF19 := zFE_tr hF hF16
    refine zt_pop (pc' := 17) hX dX11_needed_16 rfl rfl ?_
    refine zt_aload_n (pc' := 18) hX dX11_needed_17 rfl rfl ?_
    refine zt_get (pc' := 21) (v := .ref (X.1.1 + 147)) hX dX11_needed_18 rfl zf_X11_83 (by decide) zc_0 zs_1 (zrf_of (zv_1_11 hI15 zc_0)) ?_
    refine zt_aload_n (pc' := 22) hX dX11_needed_21 rfl rfl ?_
    refine zt_get (pc' := 25) (v := .ref (X.1.1 + 153)) hX dX11_needed_22 rfl zf_X11_92 (by decide) zc_0 zs_1 (zrf_of (zv_1_12 hI15 zc_0)) ?_
    refine zt_cVi (pc' := 28) hX dX11_needed_25 rfl zm_yX7_fewest zw_53_0 zc_147 (by decide) zs_29 (q := (RX7, TX7, 7)) rfl rfl (zc_X7_fewest _ _ s12 hI15 ) rfl rfl (Nat.le_of_ble_eq_true rfl) (by decide) (fun r20 s21 hr22 hp23 => ?_)
    obtain ⟨hI24, hF25, q26, q27⟩ := hp23
    have hF28 := zFE_tr hF19 hF25
    exact zt_iret hX hR dX11_needed_28 ⟨by omega, by omega⟩ ⟨hI24, hF28, by omega, by omega⟩
  · refine zt_iconst (pc' := 11) hX dX11_needed_10 rfl ?_
    exact zt_iret hX hR dX11_needed_11 ⟨by omega, by omega⟩ ⟨hI, hF, by omega, by omega⟩

set_option maxRecDepth 100000 in
set_option maxHeartbeats 4000000 in
theorem zc_X11_stand (l : Launch) (E : zEN) (σ : zSto) (hI : zInv σ) (a1_ : Int) (ha1_ : -2147483648 ≤ a1_ ∧ a1_ ≤ 2147483647) (a2_ : Int) (ha2_ : -2147483648 ≤ a2_ ∧ a2_ ≤ 2147483647) : zCt l E yX11_stand cX11_stand 4 (some .int) 5 zNC zNC 0 0 σ [.ref (E.1 + 0), .int (zI a1_), .int (zI a2_)] (fun r σ' => zInv σ' ∧ zFE σ σ' ∧ -2147483648 ≤ r ∧ r ≤ 2147483647) := by
  refine zCt_of2 [some (.ref (E.1 + 0)), some (.int (zI a1_)), some (.int (zI a2_)), none] (by decide +kernel) (Nat.le_of_ble_eq_true rfl) rfl ?_
  intro X hE hX hR hL hN
  subst hE
  have hX : zok X cX11_stand RX11 5 := hX
  have hF := zFE_rf σ
  refine zt_aload_n (pc' := 1) hX dX11_stand_0 rfl rfl ?_
  obtain ⟨k1, ek2, hk3⟩ := zv_1_3 hI zc_0
  refine zt_get (pc' := 4) (v := .ref (X.1.1 + k1)) hX dX11_stand_1 rfl zf_X11_31 (by decide) zc_0 zs_1 (zrf_of ek2) ?_
  refine zt_iload_n (pc' := 5) hX dX11_stand_4 rfl rfl ?_
  refine zt_cVz (pc' := 8) hX dX11_stand_5 rfl zm_yX3_hasPerson zw_41_8 hk3 (by decide) zs_8 (q := (RX3, TX3, 17)) rfl rfl (zc_X3_hasPerson _ _ σ hI k1 hk3 a1_ ⟨by omega, by omega⟩) rfl rfl (Nat.le_of_ble_eq_true rfl) (by decide) (fun r4 s5 hr6 hp7 => ?_)
  obtain ⟨rfl, q8, q9, z10⟩ := hp7
  refine zt_ifeq (pc' := 11) (tgt := 25) hX dX11_stand_8 rfl (by decide) ⟨by omega, by omega⟩ (fun c11 => ?_) (fun c11 => ?_)
  · refine zt_iconst (pc' := 26) hX dX11_stand_25 rfl ?_
    exact zt_iret hX hR dX11_stand_26 ⟨by omega, by omega⟩ ⟨hI, hF, by omega, by omega⟩
  · refine zt_aload_n (pc' := 12) hX dX11_stand_11 rfl rfl ?_
    refine zt_get (pc' := 15) (v := .ref (X.1.1 + 35)) hX dX11_stand_12 rfl zf_X11_66 (by decide) zc_0 zs_1 (zrf_of (zv_1_8 hI zc_0)) ?_
    have b12 := zv_22_7 hI zc_35
    refine zt_get (pc' := 18) (v := .int (zI (σ 35 7))) hX dX11_stand_15 rfl zf_X11_171 (by decide) zc_35 zs_22 rfl ?_
    refine zt_iload_n (pc' := 19) hX dX11_stand_18 rfl rfl ?_
    refine zt_ishr (pc' := 20) hX dX11_stand_19 rfl (fun r13 zr13 lr13 ur13 => ?_)
    clear zr13
    refine zt_iconst (pc' := 21) hX dX11_stand_20 rfl ?_
    refine zt_iandm (pc' := 22) hX dX11_stand_21 rfl 1 (by decide +kernel) (by decide) (fun r14 er14 lr14 ur14 => ?_)
    have ur14 : r14 ≤ 1 := by omega
    refine zt_ifeq (pc' := 25) (tgt := 27) hX dX11_stand_22 rfl (by decide) ⟨by omega, by omega⟩ (fun c15 => ?_) (fun c15 => ?_)
    · refine zt_aload_n (pc' := 28) hX dX11_stand_27 rfl rfl ?_
      refine zt_cVi (pc' := 31) hX dX11_stand_28 rfl zm_yX11_holdersNow zw_34_0 zc_0 (by decide) zs_1 (q := (RX11, TX11, 17)) rfl rfl (zc_X11_holdersNow _ _ σ hI ) rfl rfl (Nat.le_of_ble_eq_true rfl) (by decide) (fun r16 s17 hr18 hp19 => ?_)
      obtain ⟨hI20, hF21, q22, q23⟩ := hp19
      have hF24 := zFE_tr hF hF21
      refine zt_iconst (pc' := 32) hX dX11_stand_31 rfl ?_
      refine zt_iload_n (pc' := 33) hX dX11_stand_32 rfl rfl ?_
      refine zt_ishl1 9 (pc' := 34) hX dX11_stand_33 rfl ⟨by omega, by omega⟩ (by decide) (fun r25 er25 lr25 ur25 => ?_)
      have ur25 : r25 ≤ 512 := by omega
      refine zt_iconst (pc' := 35) hX dX11_stand_34 rfl ?_
      refine zt_ixor (pc' := 36) hX dX11_stand_35 rfl (fun r26 zr26 lr26 ur26 => ?_)
      clear zr26
      refine zt_iand (pc' := 37) hX dX11_stand_36 rfl (fun r27 zr27 lr27 ur27 => ?_)
      clear zr27
      refine zt_istore_n (pc' := 38) (lv' := [some (.ref (X.1.1 + 0)), some (.int (zI a1_)), some (.int (zI a2_)), some (.int (zI r27))]) hX dX11_stand_37 rfl hL (by decide) rfl ?_
      refine zt_aload_n (pc' := 39) hX dX11_stand_38 rfl rfl ?_
      refine zt_get (pc' := 42) (v := .ref (X.1.1 + 153)) hX dX11_stand_39 rfl zf_X11_92 (by decide) zc_0 zs_1 (zrf_of (zv_1_12 hI20 zc_0)) ?_
      refine zt_iload_n (pc' := 43) hX dX11_stand_42 rfl rfl ?_
      refine zt_cVv (pc' := 46) hX dX11_stand_43 rfl zm_yX6_balance zw_42_15 zc_153 (by decide) zs_35 (q := (RX6, TX6, 14)) rfl rfl (zc_X6_balance _ _ s17 hI20 r27 ⟨by omega, by omega⟩) rfl rfl (Nat.le_of_ble_eq_true rfl) (by decide) (fun r28 s29 hr30 hp31 => ?_)
      obtain ⟨hI32, hF33⟩ := hp31
      have hF34 := zFE_tr hF24 hF33
      refine zt_aload_n (pc' := 47) hX dX11_stand_46 rfl rfl ?_
      refine zt_aload_n (pc' := 48) hX dX11_stand_47 rfl rfl ?_
      refine zt_get (pc' := 51) (v := .ref (X.1.1 + 153)) hX dX11_stand_48 rfl zf_X11_92 (by decide) zc_0 zs_1 (zrf_of (zv_1_12 hI32 zc_0)) ?_
      refine zt_iload_n (pc' := 52) hX dX11_stand_51 rfl rfl ?_
      refine zt_cVi (pc' := 55) hX dX11_stand_52 rfl zm_yX6_bestPlace zw_54_7 zc_153 (by decide) zs_35 (q := (RX6, TX6, 14)) rfl rfl (zc_X6_bestPlace _ _ s29 hI32 a1_ ⟨by omega, by omega⟩) rfl rfl (Nat.le_of_ble_eq_true rfl) (by decide) (fun r35 s36 hr37 hp38 => ?_)
      obtain ⟨hI39, hF40, q41, q42⟩ := hp38
      have hF43 := zFE_tr hF34 hF40
      refine zt_iload_n (pc' := 56) hX dX11_stand_55 rfl rfl ?_
      refine zt_cVi (pc' := 59) hX dX11_stand_56 rfl zm_yX11_tellFound zw_54_20 zc_0 (by decide) zs_1 (q := (RX11, TX11, 17)) rfl rfl (zc_X11_tellFound _ _ s36 hI39 r35 ⟨by omega, by omega⟩ a2_ ⟨by omega, by omega⟩) rfl rfl (Nat.le_of_ble_eq_true rfl) (by decide) (fun r44 s45 hr46 hp47 => ?_)
      obtain ⟨rfl, q48, q49⟩ := hp47
      exact zt_iret hX hR dX11_stand_59 ⟨by omega, by omega⟩ ⟨hI39, hF43, by omega, by omega⟩
    · refine zt_iconst (pc' := 26) hX dX11_stand_25 rfl ?_
      exact zt_iret hX hR dX11_stand_26 ⟨by omega, by omega⟩ ⟨hI, hF, by omega, by omega⟩

set_option maxRecDepth 100000 in
set_option maxHeartbeats 4000000 in
theorem zc_X11_weak (l : Launch) (E : zEN) (σ : zSto) (hI : zInv σ) (a1_ : Int) (ha1_ : -2147483648 ≤ a1_ ∧ a1_ ≤ 2147483647) : zCt l E yX11_weak cX11_weak 2 (some .int) 6 zNC zNC 0 0 σ [.ref (E.1 + 0), .int (zI a1_)] (fun r σ' => zInv σ' ∧ zFE σ σ' ∧ -2147483648 ≤ r ∧ r ≤ 2147483647) := by
  refine zCt_of2 [some (.ref (E.1 + 0)), some (.int (zI a1_))] (by decide +kernel) (Nat.le_of_ble_eq_true rfl) rfl ?_
  intro X hE hX hR hL hN
  subst hE
  have hX : zok X cX11_weak RX11 6 := hX
  have hF := zFE_rf σ
  refine zt_iload_n (pc' := 1) hX dX11_weak_0 rfl rfl ?_
  refine zt_iconst (pc' := 2) hX dX11_weak_1 rfl ?_
  refine zt_icne (pc' := 5) (tgt := 7) hX dX11_weak_2 rfl (by decide) ⟨by omega, by omega⟩ ⟨by omega, by omega⟩ (fun c1 => ?_) (fun c1 => ?_)
  · refine zt_aload_n (pc' := 8) hX dX11_weak_7 rfl rfl ?_
    refine zt_cVi (pc' := 11) hX dX11_weak_8 rfl zm_yX11_balanceNow zw_42_11 zc_0 (by decide) zs_1 (q := (RX11, TX11, 17)) rfl rfl (zc_X11_balanceNow _ _ σ hI ) rfl rfl (Nat.le_of_ble_eq_true rfl) (by decide) (fun r2 s3 hr4 hp5 => ?_)
    obtain ⟨hI6, hF7, q8, q9⟩ := hp5
    have hF10 := zFE_tr hF hF7
    refine zt_pop (pc' := 12) hX dX11_weak_11 rfl rfl ?_
    refine zt_aload_n (pc' := 13) hX dX11_weak_12 rfl rfl ?_
    refine zt_aload_n (pc' := 14) hX dX11_weak_13 rfl rfl ?_
    refine zt_get (pc' := 17) (v := .ref (X.1.1 + 153)) hX dX11_weak_14 rfl zf_X11_92 (by decide) zc_0 zs_1 (zrf_of (zv_1_12 hI6 zc_0)) ?_
    refine zt_cVi (pc' := 20) hX dX11_weak_17 rfl zm_yX6_weakest zw_55_14 zc_153 (by decide) zs_35 (q := (RX6, TX6, 14)) rfl rfl (zc_X6_weakest _ _ s3 hI6 ) rfl rfl (Nat.le_of_ble_eq_true rfl) (by decide) (fun r11 s12 hr13 hp14 => ?_)
    obtain ⟨rfl, q15, q16⟩ := hp14
    refine zt_iload_n (pc' := 21) hX dX11_weak_20 rfl rfl ?_
    refine zt_cVi (pc' := 24) hX dX11_weak_21 rfl zm_yX11_tellFound zw_54_20 zc_0 (by decide) zs_1 (q := (RX11, TX11, 17)) rfl rfl (zc_X11_tellFound _ _ s3 hI6 r11 ⟨by omega, by omega⟩ a1_ ⟨by omega, by omega⟩) rfl rfl (Nat.le_of_ble_eq_true rfl) (by decide) (fun r17 s18 hr19 hp20 => ?_)
    obtain ⟨rfl, q21, q22⟩ := hp20
    exact zt_iret hX hR dX11_weak_24 ⟨by omega, by omega⟩ ⟨hI6, hF10, by omega, by omega⟩
  · refine zt_iconst (pc' := 6) hX dX11_weak_5 rfl ?_
    exact zt_iret hX hR dX11_weak_6 ⟨by omega, by omega⟩ ⟨hI, hF, by omega, by omega⟩

set_option maxRecDepth 100000 in
set_option maxHeartbeats 4000000 in
theorem zc_X11_mends (l : Launch) (E : zEN) (σ : zSto) (hI : zInv σ) (a1_ : Int) (ha1_ : -2147483648 ≤ a1_ ∧ a1_ ≤ 2147483647) (a2_ : Int) (ha2_ : -2147483648 ≤ a2_ ∧ a2_ ≤ 2147483647) : zCt l E yX11_mends cX11_mends 6 (some .int) 7 zNC zNC 0 0 σ [.ref (E.1 + 0), .int (zI a1_), .int (zI a2_)] (fun r σ' => zInv σ' ∧ zFE σ σ' ∧ -2147483648 ≤ r ∧ r ≤ 2147483647) := by
  refine zCt_of2 [some (.ref (E.1 + 0)), some (.int (zI a1_)), some (.int (zI a2_)), none, none, none] (by decide +kernel) (Nat.le_of_ble_eq_true rfl) rfl ?_
  intro X hE hX hR hL hN
  subst hE
  have hX : zok X cX11_mends RX11 7 := hX
  have hF := zFE_rf σ
  refine zt_aload_n (pc' := 1) hX dX11_mends_0 rfl rfl ?_
  refine zt_iload_n (pc' := 2) hX dX11_mends_1 rfl rfl ?_
  refine zt_iconst (pc' := 3) hX dX11_mends_2 rfl ?_
  refine zt_bipush (pc' := 5) hX dX11_mends_3 rfl (by decide) (by decide) ?_
  refine zt_cVz (pc' := 8) hX dX11_mends_5 rfl zm_yX11_isAhead zw_48_2 zc_0 (by decide) zs_1 (q := (RX11, TX11, 17)) rfl rfl (zc_X11_isAhead _ _ σ hI a1_ ⟨by omega, by omega⟩ 1 ⟨by omega, by omega⟩ 30 ⟨by omega, by omega⟩) rfl rfl (Nat.le_of_ble_eq_true rfl) (by decide) (fun r1 s2 hr3 hp4 => ?_)
  obtain ⟨rfl, q5, q6, z7⟩ := hp4
  refine zt_ifne (pc' := 11) (tgt := 13) hX dX11_mends_8 rfl (by decide) ⟨by omega, by omega⟩ (fun c8 => ?_) (fun c8 => ?_)
  · refine zt_iconst (pc' := 14) hX dX11_mends_13 rfl ?_
    refine zt_istore_n (pc' := 15) (lv' := [some (.ref (X.1.1 + 0)), some (.int (zI a1_)), some (.int (zI a2_)), some (.int (zI (-1))), none, none]) hX dX11_mends_14 rfl hL (by decide) rfl ?_
    refine zt_iconst (pc' := 16) hX dX11_mends_15 rfl ?_
    refine zt_istore (pc' := 18) (lv' := [some (.ref (X.1.1 + 0)), some (.int (zI a1_)), some (.int (zI a2_)), some (.int (zI (-1))), some (.int (zI 0)), none]) hX dX11_mends_16 rfl hL (by decide) rfl ?_
    have L_18_17 : ∀ (N : Nat) (x9 : Int) (x12 : Int) (s15 : zSto), -2147483648 ≤ x9 → x9 ≤ 2147483647 → 0 ≤ x12 → x12 ≤ 36 → zInv s15 → zFE σ s15 → ((37 - x12).toNat) < N → zF X s15 18 [some (.ref (X.1.1 + 0)), some (.int (zI a1_)), some (.int (zI a2_)), some (.int (zI x9)), some (.int (zI x12)), none] [] := by
      intro N
      induction N with
      | zero =>
        intro x9 x12 s15 h10 h11 h13 h14 hI16 hF17 hm19
        exact absurd hm19 (Nat.not_lt_zero _)
      | succ N ih20 =>
        intro x9 x12 s15 h10 h11 h13 h14 hI16 hF17 hm19
        refine zt_iload (pc' := 20) hX dX11_mends_18 rfl rfl ?_
        refine zt_aload_n (pc' := 21) hX dX11_mends_20 rfl rfl ?_
        obtain ⟨k21, ek22, hk23⟩ := zv_1_3 hI16 zc_0
        refine zt_get (pc' := 24) (v := .ref (X.1.1 + k21)) hX dX11_mends_21 rfl zf_X11_31 (by decide) zc_0 zs_1 (zrf_of ek22) ?_
        refine zt_cVi (pc' := 27) hX dX11_mends_24 rfl zm_yX3_cells zw_56_2 hk23 (by decide) zs_8 (q := (RX3, TX3, 17)) rfl rfl (zc_X3_cells _ _ s15 hI16 k21 hk23) rfl rfl (Nat.le_of_ble_eq_true rfl) (by decide) (fun r24 s25 hr26 hp27 => ?_)
        obtain ⟨rfl, q28, q29⟩ := hp27
        refine zt_icge (pc' := 30) (tgt := 79) hX dX11_mends_27 rfl (by decide) ⟨by omega, by omega⟩ ⟨by omega, by omega⟩ (fun c30 => ?_) (fun c30 => ?_)
        · refine zt_aload_n (pc' := 80) hX dX11_mends_79 rfl rfl ?_
          refine zt_iload_n (pc' := 81) hX dX11_mends_80 rfl rfl ?_
          refine zt_iload_n (pc' := 82) hX dX11_mends_81 rfl rfl ?_
          refine zt_cVi (pc' := 85) hX dX11_mends_82 rfl zm_yX11_tellFound zw_54_20 zc_0 (by decide) zs_1 (q := (RX11, TX11, 17)) rfl rfl (zc_X11_tellFound _ _ s15 hI16 x9 ⟨by omega, by omega⟩ a2_ ⟨by omega, by omega⟩) rfl rfl (Nat.le_of_ble_eq_true rfl) (by decide) (fun r31 s32 hr33 hp34 => ?_)
          obtain ⟨rfl, q35, q36⟩ := hp34
          exact zt_iret hX hR dX11_mends_85 ⟨by omega, by omega⟩ ⟨hI16, hF17, by omega, by omega⟩
        · refine zt_aload_n (pc' := 31) hX dX11_mends_30 rfl rfl ?_
          refine zt_get (pc' := 34) (v := .ref (X.1.1 + 35)) hX dX11_mends_31 rfl zf_X11_66 (by decide) zc_0 zs_1 (zrf_of (zv_1_8 hI16 zc_0)) ?_
          refine zt_iload (pc' := 36) hX dX11_mends_34 rfl rfl ?_
          refine zt_cVz (pc' := 39) hX dX11_mends_36 rfl zm_yX10_isCracked zw_42_7 zc_35 (by decide) zs_22 (q := (RX10, TX10, 8)) rfl rfl (zc_X10_isCracked _ _ s15 hI16 35 zc_35 x12 ⟨by omega, by omega⟩) rfl rfl (Nat.le_of_ble_eq_true rfl) (by decide) (fun r37 s38 hr39 hp40 => ?_)
          obtain ⟨rfl, q41, q42⟩ := hp40
          have J_73_48 : ∀ (x43 : Int) (s46 : zSto), -2147483648 ≤ x43 → x43 ≤ 2147483647 → zInv s46 → zFE σ s46 → zF X s46 73 [some (.ref (X.1.1 + 0)), some (.int (zI a1_)), some (.int (zI a2_)), some (.int (zI x43)), some (.int (zI x12)), none] [] := by
            intro x43 s46 h44 h45 hI47 hF48
            refine zt_iinc (pc' := 76) (lv' := [some (.ref (X.1.1 + 0)), some (.int (zI a1_)), some (.int (zI a2_)), some (.int (zI x43)), some (.int (zI (x12 + 1))), none]) hX dX11_mends_73 rfl rfl hL (by decide) rfl ?_
            refine zt_goto (tgt := 18) hX dX11_mends_76 (by decide) ?_
            exact ih20 x43 (x12 + 1) s46 (by omega) (by omega) (by omega) (by omega) hI47 (by omega) (by omega)
          refine zt_ifeq (pc' := 42) (tgt := 73) hX dX11_mends_39 rfl (by decide) ⟨by omega, by omega⟩ (fun c50 => ?_) (fun c50 => ?_)
          · exact J_73_48 x9 s15 (by omega) (by omega) hI16 (by omega)
          · refine zt_iload (pc' := 44) hX dX11_mends_42 rfl rfl ?_
            refine zt_aload_n (pc' := 45) hX dX11_mends_44 rfl rfl ?_
            refine zt_iload (pc' := 47) hX dX11_mends_45 rfl rfl ?_
            refine zt_iload_n (pc' := 48) hX dX11_mends_47 rfl rfl ?_
            refine zt_cVi (pc' := 51) hX dX11_mends_48 rfl zm_yX11_crackedWithMended zw_56_3 zc_0 (by decide) zs_1 (q := (RX11, TX11, 17)) rfl rfl (zc_X11_crackedWithMended _ _ s15 hI16 x12 ⟨by omega, by omega⟩ a1_ ⟨by omega, by omega⟩) rfl rfl (Nat.le_of_ble_eq_true rfl) (by decide) (fun r51 s52 hr53 hp54 => ?_)
            obtain ⟨hI55, hF56, q57, q58⟩ := hp54
            have hF59 := zFE_tr hF17 hF56
            refine zt_cSi (pc' := 54) hX dX11_mends_51 rfl zm_yX11_packed zw_56_8 (zc_X11_packed _ _ s52  x12 ⟨by omega, by omega⟩ r51 ⟨by omega, by omega⟩) rfl rfl (Nat.le_of_ble_eq_true rfl) (by decide) (fun r60 s61 hr62 hp63 => ?_)
            obtain ⟨rfl, q64, q65⟩ := hp63
            refine zt_istore (pc' := 56) (lv' := [some (.ref (X.1.1 + 0)), some (.int (zI a1_)), some (.int (zI a2_)), some (.int (zI x9)), some (.int (zI x12)), some (.int (zI r60))]) hX dX11_mends_54 rfl hL (by decide) rfl ?_
            refine zt_iload_n (pc' := 57) hX dX11_mends_56 rfl rfl ?_
            refine zt_iconst (pc' := 58) hX dX11_mends_57 rfl ?_
            have J_72_68 : ∀ (y66 : Int), -2147483648 ≤ y66 → y66 ≤ 2147483647 → zF X s52 72 [some (.ref (X.1.1 + 0)), some (.int (zI a1_)), some (.int (zI a2_)), none, some (.int (zI x12)), none] [.int (zI y66)] := by
              intro y66 h67 h68
              refine zt_istore_n (pc' := 73) (lv' := [some (.ref (X.1.1 + 0)), some (.int (zI a1_)), some (.int (zI a2_)), some (.int (zI y66)), some (.int (zI x12)), none]) hX dX11_mends_72 rfl hL (by decide) rfl ?_
              exact J_73_48 y66 s52 (by omega) (by omega) hI55 (by omega)
            refine zt_icne (pc' := 61) (tgt := 66) hX dX11_mends_58 rfl (by decide) ⟨by omega, by omega⟩ ⟨by omega, by omega⟩ (fun c70 => ?_) (fun c70 => ?_)
            · refine zt_iload_n (pc' := 67) hX dX11_mends_66 rfl rfl ?_
              refine zt_iload (pc' := 69) hX dX11_mends_67 rfl rfl ?_
              refine zt_mmin (pc' := 72) hX (by decide) dX11_mends_69 rfl zw_51_3 zw_36_23 zw_34_21 zw_37_0 (Nat.le_of_ble_eq_true rfl) ⟨Nat.zero_le _, Nat.zero_le _⟩ ⟨by omega, by omega⟩ ⟨by omega, by omega⟩ (fun r71 er71 => ?_)
              refine zt_mask [true, true, true, false, true, false] rfl ?_
              exact J_72_68 r71 (by omega) (by omega)
            · refine zt_iload (pc' := 63) hX dX11_mends_61 rfl rfl ?_
              refine zt_goto (tgt := 72) hX dX11_mends_63 (by decide) ?_
              refine zt_mask [true, true, true, false, true, false] rfl ?_
              exact J_72_68 r60 (by omega) (by omega)
    exact L_18_17 _ (-1) 0 σ (by omega) (by omega) (by omega) (by omega) hI (by omega) (Nat.lt_succ_self _)
  · refine zt_iconst (pc' := 12) hX dX11_mends_11 rfl ?_
    exact zt_iret hX hR dX11_mends_12 ⟨by omega, by omega⟩ ⟨hI, hF, by omega, by omega⟩

set_option maxRecDepth 100000 in
set_option maxHeartbeats 4000000 in
theorem zc_X11_who (l : Launch) (E : zEN) (σ : zSto) (hI : zInv σ) (a1_ : Int) (ha1_ : -2147483648 ≤ a1_ ∧ a1_ ≤ 2147483647) : zCt l E yX11_who cX11_who 2 (some .int) 6 zNC zNC 0 0 σ [.ref (E.1 + 0), .int (zI a1_)] (fun r σ' => zInv σ' ∧ zFE σ σ' ∧ -2147483648 ≤ r ∧ r ≤ 2147483647) := by
  refine zCt_of2 [some (.ref (E.1 + 0)), some (.int (zI a1_))] (by decide +kernel) (Nat.le_of_ble_eq_true rfl) rfl ?_
  intro X hE hX hR hL hN
  subst hE
  have hX : zok X cX11_who RX11 6 := hX
  have hF := zFE_rf σ
  refine zt_aload_n (pc' := 1) hX dX11_who_0 rfl rfl ?_
  obtain ⟨k1, ek2, hk3⟩ := zv_1_3 hI zc_0
  refine zt_get (pc' := 4) (v := .ref (X.1.1 + k1)) hX dX11_who_1 rfl zf_X11_31 (by decide) zc_0 zs_1 (zrf_of ek2) ?_
  refine zt_cVz (pc' := 7) hX dX11_who_4 rfl zm_yX3_isTold zw_48_6 hk3 (by decide) zs_8 (q := (RX3, TX3, 17)) rfl rfl (zc_X3_isTold _ _ σ hI k1 hk3) rfl rfl (Nat.le_of_ble_eq_true rfl) (by decide) (fun r4 s5 hr6 hp7 => ?_)
  obtain ⟨rfl, q8, q9⟩ := hp7
  refine zt_ifne (pc' := 10) (tgt := 12) hX dX11_who_7 rfl (by decide) ⟨by omega, by omega⟩ (fun c10 => ?_) (fun c10 => ?_)
  · refine zt_aload_n (pc' := 13) hX dX11_who_12 rfl rfl ?_
    refine zt_cVi (pc' := 16) hX dX11_who_13 rfl zm_yX11_balanceNow zw_42_11 zc_0 (by decide) zs_1 (q := (RX11, TX11, 17)) rfl rfl (zc_X11_balanceNow _ _ σ hI ) rfl rfl (Nat.le_of_ble_eq_true rfl) (by decide) (fun r11 s12 hr13 hp14 => ?_)
    obtain ⟨hI15, hF16, q17, q18⟩ := hp14
    have hF19 := zFE_tr hF hF16
    refine zt_pop (pc' := 17) hX dX11_who_16 rfl rfl ?_
    refine zt_aload_n (pc' := 18) hX dX11_who_17 rfl rfl ?_
    refine zt_get (pc' := 21) (v := .ref (X.1.1 + 147)) hX dX11_who_18 rfl zf_X11_83 (by decide) zc_0 zs_1 (zrf_of (zv_1_11 hI15 zc_0)) ?_
    refine zt_aload_n (pc' := 22) hX dX11_who_21 rfl rfl ?_
    refine zt_get (pc' := 25) (v := .ref (X.1.1 + 153)) hX dX11_who_22 rfl zf_X11_92 (by decide) zc_0 zs_1 (zrf_of (zv_1_12 hI15 zc_0)) ?_
    refine zt_cVv (pc' := 28) hX dX11_who_25 rfl zm_yX7_keepSounded zw_57_18 zc_147 (by decide) zs_29 (q := (RX7, TX7, 7)) rfl rfl (zc_X7_keepSounded _ _ s12 hI15 ) rfl rfl (Nat.le_of_ble_eq_true rfl) (by decide) (fun r20 s21 hr22 hp23 => ?_)
    obtain ⟨hI24, hF25⟩ := hp23
    have hF26 := zFE_tr hF19 hF25
    refine zt_iload_n (pc' := 29) hX dX11_who_28 rfl rfl ?_
    rcases (show a1_ = 0 ∨ a1_ = 1 ∨ a1_ = 2 ∨ (a1_ < 0 ∨ 2 < a1_) by omega) with c27 | c27 | c27 | c27
    · refine zt_tsIn (v := 0) (tgt := 56) hX dX11_who_29 c27 (by decide) (by decide) (by decide) rfl (by decide) ?_
      refine zt_aload_n (pc' := 57) hX dX11_who_56 rfl rfl ?_
      refine zt_get (pc' := 60) (v := .ref (X.1.1 + 147)) hX dX11_who_57 rfl zf_X11_83 (by decide) zc_0 zs_1 (zrf_of (zv_1_11 hI24 zc_0)) ?_
      refine zt_cVi (pc' := 63) hX dX11_who_60 rfl zm_yX7_howMany zw_57_22 zc_147 (by decide) zs_29 (q := (RX7, TX7, 7)) rfl rfl (zc_X7_howMany _ _ s21 hI24 ) rfl rfl (Nat.le_of_ble_eq_true rfl) (by decide) (fun r28 s29 hr30 hp31 => ?_)
      obtain ⟨rfl, q32, q33⟩ := hp31
      exact zt_iret hX hR dX11_who_63 ⟨by omega, by omega⟩ ⟨hI24, hF26, by omega, by omega⟩
    · refine zt_tsIn (v := 1) (tgt := 64) hX dX11_who_29 c27 (by decide) (by decide) (by decide) rfl (by decide) ?_
      refine zt_aload_n (pc' := 65) hX dX11_who_64 rfl rfl ?_
      refine zt_get (pc' := 68) (v := .ref (X.1.1 + 147)) hX dX11_who_65 rfl zf_X11_83 (by decide) zc_0 zs_1 (zrf_of (zv_1_11 hI24 zc_0)) ?_
      refine zt_cVi (pc' := 71) hX dX11_who_68 rfl zm_yX7_inAll zw_58_2 zc_147 (by decide) zs_29 (q := (RX7, TX7, 7)) rfl rfl (zc_X7_inAll _ _ s21 hI24 ) rfl rfl (Nat.le_of_ble_eq_true rfl) (by decide) (fun r34 s35 hr36 hp37 => ?_)
      obtain ⟨rfl, q38, q39⟩ := hp37
      exact zt_iret hX hR dX11_who_71 ⟨by omega, by omega⟩ ⟨hI24, hF26, by omega, by omega⟩
    · refine zt_tsIn (v := 2) (tgt := 72) hX dX11_who_29 c27 (by decide) (by decide) (by decide) rfl (by decide) ?_
      refine zt_aload_n (pc' := 73) hX dX11_who_72 rfl rfl ?_
      refine zt_get (pc' := 76) (v := .ref (X.1.1 + 147)) hX dX11_who_73 rfl zf_X11_83 (by decide) zc_0 zs_1 (zrf_of (zv_1_11 hI24 zc_0)) ?_
      refine zt_cVi (pc' := 79) hX dX11_who_76 rfl zm_yX7_inSome zw_58_6 zc_147 (by decide) zs_29 (q := (RX7, TX7, 7)) rfl rfl (zc_X7_inSome _ _ s21 hI24 ) rfl rfl (Nat.le_of_ble_eq_true rfl) (by decide) (fun r40 s41 hr42 hp43 => ?_)
      obtain ⟨rfl, q44, q45⟩ := hp43
      exact zt_iret hX hR dX11_who_79 ⟨by omega, by omega⟩ ⟨hI24, hF26, by omega, by omega⟩
    · refine zt_tsOut (tgt := 80) hX dX11_who_29 ⟨by omega, by omega⟩ c27 (by decide) ?_
      refine zt_iconst (pc' := 81) hX dX11_who_80 rfl ?_
      exact zt_iret hX hR dX11_who_81 ⟨by omega, by omega⟩ ⟨hI24, hF26, by omega, by omega⟩
  · refine zt_iconst (pc' := 11) hX dX11_who_10 rfl ?_
    exact zt_iret hX hR dX11_who_11 ⟨by omega, by omega⟩ ⟨hI, hF, by omega, by omega⟩

set_option maxRecDepth 100000 in
set_option maxHeartbeats 4000000 in
theorem zc_X11_knock (l : Launch) (E : zEN) (σ : zSto) (hI : zInv σ) (a1_ : Int) (ha1_ : -2147483648 ≤ a1_ ∧ a1_ ≤ 2147483647) : zCt l E yX11_knock cX11_knock 2 (some .int) 6 zNC zNC 0 0 σ [.ref (E.1 + 0), .int (zI a1_)] (fun r σ' => zInv σ' ∧ zFE σ σ' ∧ -2147483648 ≤ r ∧ r ≤ 2147483647) := by
  refine zCt_of2 [some (.ref (E.1 + 0)), some (.int (zI a1_))] (by decide +kernel) (Nat.le_of_ble_eq_true rfl) rfl ?_
  intro X hE hX hR hL hN
  subst hE
  have hX : zok X cX11_knock RX11 6 := hX
  have hF := zFE_rf σ
  refine zt_aload_n (pc' := 1) hX dX11_knock_0 rfl rfl ?_
  refine zt_cVi (pc' := 4) hX dX11_knock_1 rfl zm_yX11_balanceNow zw_42_11 zc_0 (by decide) zs_1 (q := (RX11, TX11, 17)) rfl rfl (zc_X11_balanceNow _ _ σ hI ) rfl rfl (Nat.le_of_ble_eq_true rfl) (by decide) (fun r1 s2 hr3 hp4 => ?_)
  obtain ⟨hI5, hF6, q7, q8⟩ := hp4
  have hF9 := zFE_tr hF hF6
  refine zt_pop (pc' := 5) hX dX11_knock_4 rfl rfl ?_
  refine zt_aload_n (pc' := 6) hX dX11_knock_5 rfl rfl ?_
  refine zt_get (pc' := 9) (v := .ref (X.1.1 + 147)) hX dX11_knock_6 rfl zf_X11_83 (by decide) zc_0 zs_1 (zrf_of (zv_1_11 hI5 zc_0)) ?_
  refine zt_aload_n (pc' := 10) hX dX11_knock_9 rfl rfl ?_
  refine zt_get (pc' := 13) (v := .ref (X.1.1 + 153)) hX dX11_knock_10 rfl zf_X11_92 (by decide) zc_0 zs_1 (zrf_of (zv_1_12 hI5 zc_0)) ?_
  refine zt_cVv (pc' := 16) hX dX11_knock_13 rfl zm_yX7_keepSounded zw_57_18 zc_147 (by decide) zs_29 (q := (RX7, TX7, 7)) rfl rfl (zc_X7_keepSounded _ _ s2 hI5 ) rfl rfl (Nat.le_of_ble_eq_true rfl) (by decide) (fun r10 s11 hr12 hp13 => ?_)
  obtain ⟨hI14, hF15⟩ := hp13
  have hF16 := zFE_tr hF9 hF15
  refine zt_aload_n (pc' := 17) hX dX11_knock_16 rfl rfl ?_
  refine zt_aload_n (pc' := 18) hX dX11_knock_17 rfl rfl ?_
  refine zt_get (pc' := 21) (v := .ref (X.1.1 + 147)) hX dX11_knock_18 rfl zf_X11_83 (by decide) zc_0 zs_1 (zrf_of (zv_1_11 hI14 zc_0)) ?_
  refine zt_aload_n (pc' := 22) hX dX11_knock_21 rfl rfl ?_
  refine zt_get (pc' := 25) (v := .ref (X.1.1 + 153)) hX dX11_knock_22 rfl zf_X11_92 (by decide) zc_0 zs_1 (zrf_of (zv_1_12 hI14 zc_0)) ?_
  refine zt_cVi (pc' := 28) hX dX11_knock_25 rfl zm_yX7_bestKnock zw_59_3 zc_147 (by decide) zs_29 (q := (RX7, TX7, 7)) rfl rfl (zc_X7_bestKnock _ _ s11 hI14 ) rfl rfl (Nat.le_of_ble_eq_true rfl) (by decide) (fun r17 s18 hr19 hp20 => ?_)
  obtain ⟨hI21, hF22, q23, q24⟩ := hp20
  have hF25 := zFE_tr hF16 hF22
  refine zt_iload_n (pc' := 29) hX dX11_knock_28 rfl rfl ?_
  refine zt_cVi (pc' := 32) hX dX11_knock_29 rfl zm_yX11_tellFound zw_54_20 zc_0 (by decide) zs_1 (q := (RX11, TX11, 17)) rfl rfl (zc_X11_tellFound _ _ s18 hI21 r17 ⟨by omega, by omega⟩ a1_ ⟨by omega, by omega⟩) rfl rfl (Nat.le_of_ble_eq_true rfl) (by decide) (fun r26 s27 hr28 hp29 => ?_)
  obtain ⟨rfl, q30, q31⟩ := hp29
  exact zt_iret hX hR dX11_knock_32 ⟨by omega, by omega⟩ ⟨hI21, hF25, by omega, by omega⟩
