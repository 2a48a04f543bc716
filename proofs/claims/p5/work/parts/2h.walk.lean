set_option maxRecDepth 100000 in
set_option maxHeartbeats 4000000 in
theorem zc_X6_measureLift (l : Launch) (E : zEN) (σ : zSto) (hI : zInv σ) (a1_ : Int) (ha1_ : 0 ≤ a1_ ∧ a1_ ≤ 9) : zCt l E yX6_measureLift cX6_measureLift 4 none 2 zNC zNC 0 0 σ [.ref (E.1 + 153), .int (zI a1_)] (fun r σ' => zInv σ' ∧ zFE σ σ') := by
  refine zCt_of2 [some (.ref (E.1 + 153)), some (.int (zI a1_)), none, none] (by decide +kernel) (Nat.le_of_ble_eq_true rfl) rfl ?_
  intro X hE hX hR hL hN
  subst hE
  have hX : zok X cX6_measureLift RX6 2 := hX
  have hF := zFE_rf σ
  refine zt_iconst (pc' := 1) hX dX6_measureLift_0 rfl ?_
  refine zt_istore_n (pc' := 2) (lv' := [some (.ref (X.1.1 + 153)), some (.int (zI a1_)), some (.int (zI 0)), none]) hX dX6_measureLift_1 rfl hL (by decide) rfl ?_
  have L_2_6 : ∀ (N : Nat) (x1 : Int) (s4 : zSto), 0 ≤ x1 → x1 ≤ 6 → zInv s4 → zFE σ s4 → ((7 - x1).toNat) < N → zF X s4 2 [some (.ref (X.1.1 + 153)), some (.int (zI a1_)), some (.int (zI x1)), none] [] := by
    intro N
    induction N with
    | zero =>
      intro x1 s4 h2 h3 hI5 hF6 hm8
      exact absurd hm8 (Nat.not_lt_zero _)
    | succ N ih9 =>
      intro x1 s4 h2 h3 hI5 hF6 hm8
      refine zt_iload_n (pc' := 3) hX dX6_measureLift_2 rfl rfl ?_
      refine zt_aload_n (pc' := 4) hX dX6_measureLift_3 rfl rfl ?_
      obtain ⟨k10, ek11, hk12⟩ := zv_35_6 hI5 zc_153
      refine zt_get (pc' := 7) (v := .ref (X.1.1 + k10)) hX dX6_measureLift_4 rfl zf_X6_54 (by decide) zc_153 zs_35 (zrf_of ek11) ?_
      have b13 := zv_8_11 hI5 hk12
      refine zt_get (pc' := 10) (v := .int (zI (s4 k10 11))) hX dX6_measureLift_7 rfl zf_X6_87 (zro_lt hk12 (by decide)) hk12 zs_8 rfl ?_
      refine zt_icge (pc' := 13) (tgt := 72) hX dX6_measureLift_10 rfl (by decide) ⟨by omega, by omega⟩ ⟨by omega, by omega⟩ (fun c14 => ?_) (fun c14 => ?_)
      · exact zt_vret hX hR dX6_measureLift_72 ⟨hI5, hF6⟩
      · refine zt_iconst (pc' := 14) hX dX6_measureLift_13 rfl ?_
        refine zt_istore_n (pc' := 15) (lv' := [some (.ref (X.1.1 + 153)), some (.int (zI a1_)), some (.int (zI x1)), some (.int (zI 0))]) hX dX6_measureLift_14 rfl hL (by decide) rfl ?_
        have L_15_20 : ∀ (N : Nat) (x15 : Int) (s18 : zSto), 0 ≤ x15 → x15 ≤ 6 → zInv s18 → zFE σ s18 → ((7 - x15).toNat) < N → zF X s18 15 [some (.ref (X.1.1 + 153)), some (.int (zI a1_)), some (.int (zI x1)), some (.int (zI x15))] [] := by
          intro N
          induction N with
          | zero =>
            intro x15 s18 h16 h17 hI19 hF20 hm22
            exact absurd hm22 (Nat.not_lt_zero _)
          | succ N ih23 =>
            intro x15 s18 h16 h17 hI19 hF20 hm22
            refine zt_iload_n (pc' := 16) hX dX6_measureLift_15 rfl rfl ?_
            refine zt_aload_n (pc' := 17) hX dX6_measureLift_16 rfl rfl ?_
            obtain ⟨k24, ek25, hk26⟩ := zv_35_6 hI19 zc_153
            refine zt_get (pc' := 20) (v := .ref (X.1.1 + k24)) hX dX6_measureLift_17 rfl zf_X6_54 (by decide) zc_153 zs_35 (zrf_of ek25) ?_
            have b27 := zv_8_10 hI19 hk26
            refine zt_get (pc' := 23) (v := .int (zI (s18 k24 10))) hX dX6_measureLift_20 rfl zf_X6_90 (zro_lt hk26 (by decide)) hk26 zs_8 rfl ?_
            refine zt_icge (pc' := 26) (tgt := 66) hX dX6_measureLift_23 rfl (by decide) ⟨by omega, by omega⟩ ⟨by omega, by omega⟩ (fun c28 => ?_) (fun c28 => ?_)
            · refine zt_iinc (pc' := 69) (lv' := [some (.ref (X.1.1 + 153)), some (.int (zI a1_)), some (.int (zI (x1 + 1))), some (.int (zI x15))]) hX dX6_measureLift_66 rfl rfl hL (by decide) rfl ?_
              refine zt_goto (tgt := 2) hX dX6_measureLift_69 (by decide) ?_
              refine zt_mask [true, true, true, false] rfl ?_
              exact ih9 (x1 + 1) s18 (by omega) (by omega) hI19 (by omega) (by omega)
            · refine zt_aload_n (pc' := 27) hX dX6_measureLift_26 rfl rfl ?_
              refine zt_get (pc' := 30) (v := .ref (X.1.1 + 158)) hX dX6_measureLift_27 rfl zf_X6_18 (by decide) zc_153 zs_35 (zrf_of (zv_35_1 hI19 zc_153)) ?_
              refine zt_iload_n (pc' := 31) hX dX6_measureLift_30 rfl rfl ?_
              refine zt_bipush (pc' := 33) hX dX6_measureLift_31 rfl (by decide) (by decide) ?_
              refine zt_imul (pc' := 34) hX dX6_measureLift_33 rfl ?_
              refine zt_aload_n (pc' := 35) hX dX6_measureLift_34 rfl rfl ?_
              refine zt_get (pc' := 38) (v := .ref (X.1.1 + k24)) hX dX6_measureLift_35 rfl zf_X6_54 (by decide) zc_153 zs_35 (zrf_of ek25) ?_
              refine zt_iload_n (pc' := 39) hX dX6_measureLift_38 rfl rfl ?_
              refine zt_iload_n (pc' := 40) hX dX6_measureLift_39 rfl rfl ?_
              refine zt_cVi (pc' := 43) hX dX6_measureLift_40 rfl zm_yX3_cellAt zw_35_5 hk26 (by decide) zs_8 (q := (RX3, TX3, 17)) rfl rfl (zc_X3_cellAt _ _ s18 hI19 k24 hk26 x15 ⟨by omega, by omega⟩ x1 ⟨by omega, by omega⟩) rfl rfl (Nat.le_of_ble_eq_true rfl) (by decide) (fun r29 s30 hr31 hp32 => ?_)
              obtain ⟨rfl, q33, q34, z35⟩ := hp32
              refine zt_iadd (pc' := 44) hX dX6_measureLift_43 rfl ?_
              refine zt_aload_n (pc' := 45) hX dX6_measureLift_44 rfl rfl ?_
              refine zt_iload_n (pc' := 46) hX dX6_measureLift_45 rfl rfl ?_
              refine zt_aload_n (pc' := 47) hX dX6_measureLift_46 rfl rfl ?_
              obtain ⟨k36, ek37, hk38⟩ := zv_35_7 hI19 zc_153
              refine zt_get (pc' := 50) (v := .ref (X.1.1 + k36)) hX dX6_measureLift_47 rfl zf_X6_58 (by decide) zc_153 zs_35 (zrf_of ek37) ?_
              refine zt_iload_n (pc' := 51) hX dX6_measureLift_50 rfl rfl ?_
              refine zt_iload_n (pc' := 52) hX dX6_measureLift_51 rfl rfl ?_
              refine zt_iload_n (pc' := 53) hX dX6_measureLift_52 rfl rfl ?_
              refine zt_cVi (pc' := 56) hX dX6_measureLift_53 rfl zm_yX10_between zw_34_15 hk38 (by decide) zs_22 (q := (RX10, TX10, 8)) rfl rfl (zc_X10_between _ _ s18 hI19 k36 hk38 a1_ ⟨by omega, by omega⟩ x15 ⟨by omega, by omega⟩ x1 ⟨by omega, by omega⟩) rfl rfl (Nat.le_of_ble_eq_true rfl) (by decide) (fun r39 s40 hr41 hp42 => ?_)
              obtain ⟨rfl, q43, q44⟩ := hp42
              refine zt_cVi (pc' := 59) hX dX6_measureLift_56 rfl zm_yX6_liftOver zw_35_6 zc_153 (by decide) zs_35 (q := (RX6, TX6, 14)) rfl rfl (zc_X6_liftOver _ _ s18 hI19 a1_ ⟨by omega, by omega⟩ r39 ⟨by omega, by omega⟩) rfl rfl (Nat.le_of_ble_eq_true rfl) (by decide) (fun r45 s46 hr47 hp48 => ?_)
              obtain ⟨rfl, q49, q50⟩ := hp48
              refine zt_iast (pc' := 60) hX dX6_measureLift_59 rfl (by decide) zc_158 zs_40 (by decide) ⟨by omega, by omega⟩ ?_
              generalize hs52 : zset s18 158 (((a1_ * 36) + r29).toNat) r45 = s51
              have hI53 : zInv s51 := hs52 ▸ zp_40 hI19 zc_158 (((a1_ * 36) + r29).toNat) ⟨by omega, by omega⟩
              have hF54 : zFE σ s51 := hs52 ▸ zFE_set hF20 zc_158 (by decide) zke_40 (Or.inl (by decide)) (Or.inl (by decide))
              refine zt_iinc (pc' := 63) (lv' := [some (.ref (X.1.1 + 153)), some (.int (zI a1_)), some (.int (zI x1)), some (.int (zI (x15 + 1)))]) hX dX6_measureLift_60 rfl rfl hL (by decide) rfl ?_
              refine zt_goto (tgt := 15) hX dX6_measureLift_63 (by decide) ?_
              exact ih23 (x15 + 1) s51 (by omega) (by omega) hI53 (by omega) (by omega)
        exact L_15_20 _ 0 s4 (by omega) (by omega) hI5 (by omega) (Nat.lt_succ_self _)
  exact L_2_6 _ 0 σ (by omega) (by omega) hI (by omega) (Nat.lt_succ_self _)

set_option maxRecDepth 100000 in
set_option maxHeartbeats 4000000 in
theorem zc_X6_look (l : Launch) (E : zEN) (σ : zSto) (hI : zInv σ) (k1_ : Nat) (hk1_ : zro k1_ = 8) (k2_ : Nat) (hk2_ : zro k2_ = 22) (a3_ : Int) (ha3_ : 0 ≤ a3_ ∧ a3_ ≤ 99) : zCt l E yX6_look cX6_look 5 none 3 zNC zNC 0 0 σ [.ref (E.1 + 153), .ref (E.1 + k1_), .ref (E.1 + k2_), .int (zI a3_)] (fun r σ' => zInv σ' ∧ zFE σ σ') := by
  refine zCt_of2 [some (.ref (E.1 + 153)), some (.ref (E.1 + k1_)), some (.ref (E.1 + k2_)), some (.int (zI a3_)), none] (by decide +kernel) (Nat.le_of_ble_eq_true rfl) rfl ?_
  intro X hE hX hR hL hN
  subst hE
  have hX : zok X cX6_look RX6 3 := hX
  have hF := zFE_rf σ
  refine zt_aload_n (pc' := 1) hX dX6_look_0 rfl rfl ?_
  refine zt_aload_n (pc' := 2) hX dX6_look_1 rfl rfl ?_
  refine zt_put (pc' := 5) (x := ((k1_ : Nat) : Int)) hX dX6_look_2 rfl zf_X6_54 (by decide) zc_153 zs_35 (fun q hq => by cases hq; rfl) (zrf_of rfl) rfl rfl ?_
  generalize hs2 : zset σ 153 6 ((k1_ : Nat) : Int) = s1
  have hI3 : zInv s1 := hs2 ▸ zp_35_6 hI zc_153 ⟨k1_, rfl, hk1_⟩
  have hF4 : zFE σ s1 := hs2 ▸ zFE_set hF zc_153 (by decide) zke_35 (Or.inl (by decide)) (Or.inl (by decide))
  have ek5 : s1 153 6 = ((k1_ : Nat) : Int) := by rw [← hs2]; exact zset_s
  refine zt_aload_n (pc' := 6) hX dX6_look_5 rfl rfl ?_
  refine zt_aload_n (pc' := 7) hX dX6_look_6 rfl rfl ?_
  refine zt_put (pc' := 10) (x := ((k2_ : Nat) : Int)) hX dX6_look_7 rfl zf_X6_58 (by decide) zc_153 zs_35 (fun q hq => by cases hq; rfl) (zrf_of rfl) rfl rfl ?_
  generalize hs7 : zset s1 153 7 ((k2_ : Nat) : Int) = s6
  have hI8 : zInv s6 := hs7 ▸ zp_35_7 hI3 zc_153 ⟨k2_, rfl, hk2_⟩
  have hF9 : zFE σ s6 := hs7 ▸ zFE_set hF4 zc_153 (by decide) zke_35 (Or.inl (by decide)) (Or.inl (by decide))
  have ek10 : s6 153 7 = ((k2_ : Nat) : Int) := by rw [← hs7]; exact zset_s
  refine zt_aload_n (pc' := 11) hX dX6_look_10 rfl rfl ?_
  refine zt_iload_n (pc' := 12) hX dX6_look_11 rfl rfl ?_
  refine zt_put (pc' := 15) (x := a3_) hX dX6_look_12 rfl zf_X6_34 (by decide) zc_153 zs_35 (fun q hq => by cases hq; rfl) rfl rfl rfl ?_
  generalize hs12 : zset s6 153 8 a3_ = s11
  have hI13 : zInv s11 := hs12 ▸ zp_35_8 hI8 zc_153 ⟨by omega, by omega⟩
  have hF14 : zFE σ s11 := hs12 ▸ zFE_set hF9 zc_153 (by decide) zke_35 (Or.inl (by decide)) (Or.inl (by decide))
  refine zt_aload_n (pc' := 16) hX dX6_look_15 rfl rfl ?_
  refine zt_iconst (pc' := 17) hX dX6_look_16 rfl ?_
  refine zt_put (pc' := 20) (x := (-1)) hX dX6_look_17 rfl zf_X6_38 (by decide) zc_153 zs_35 (fun q hq => by cases hq; rfl) rfl rfl rfl ?_
  generalize hs16 : zset s11 153 9 (-1) = s15
  have hI17 : zInv s15 := hs16 ▸ zp_35_9 hI13 zc_153 ⟨by omega, by omega⟩
  have hF18 : zFE σ s15 := hs16 ▸ zFE_set hF14 zc_153 (by decide) zke_35 (Or.inl (by decide)) (Or.inl (by decide))
  refine zt_aload_n (pc' := 21) hX dX6_look_20 rfl rfl ?_
  refine zt_iconst (pc' := 22) hX dX6_look_21 rfl ?_
  refine zt_put (pc' := 25) (x := (-1)) hX dX6_look_22 rfl zf_X6_41 (by decide) zc_153 zs_35 (fun q hq => by cases hq; rfl) rfl rfl rfl ?_
  generalize hs20 : zset s15 153 10 (-1) = s19
  have hI21 : zInv s19 := hs20 ▸ zp_35_10 hI17 zc_153 ⟨by omega, by omega⟩
  have hF22 : zFE σ s19 := hs20 ▸ zFE_set hF18 zc_153 (by decide) zke_35 (Or.inl (by decide)) (Or.inl (by decide))
  refine zt_iconst (pc' := 26) hX dX6_look_25 rfl ?_
  refine zt_istore (pc' := 28) (lv' := [some (.ref (X.1.1 + 153)), some (.ref (X.1.1 + k1_)), some (.ref (X.1.1 + k2_)), some (.int (zI a3_)), some (.int (zI 0))]) hX dX6_look_26 rfl hL (by decide) rfl ?_
  have L_28_28 : ∀ (N : Nat) (x23 : Int) (s26 : zSto), 0 ≤ x23 → x23 ≤ 10 → zInv s26 → zFE σ s26 → ((11 - x23).toNat) < N → zF X s26 28 [some (.ref (X.1.1 + 153)), none, none, none, some (.int (zI x23))] [] := by
    intro N
    induction N with
    | zero =>
      intro x23 s26 h24 h25 hI27 hF28 hm30
      exact absurd hm30 (Nat.not_lt_zero _)
    | succ N ih31 =>
      intro x23 s26 h24 h25 hI27 hF28 hm30
      refine zt_iload (pc' := 30) hX dX6_look_28 rfl rfl ?_
      refine zt_aload_n (pc' := 31) hX dX6_look_30 rfl rfl ?_
      obtain ⟨k32, ek33, hk34⟩ := zv_35_6 hI27 zc_153
      refine zt_get (pc' := 34) (v := .ref (X.1.1 + k32)) hX dX6_look_31 rfl zf_X6_54 (by decide) zc_153 zs_35 (zrf_of ek33) ?_
      have b35 := zv_8_12 hI27 hk34
      refine zt_get (pc' := 37) (v := .int (zI (s26 k32 12))) hX dX6_look_34 rfl zf_X6_62 (zro_lt hk34 (by decide)) hk34 zs_8 rfl ?_
      refine zt_icge (pc' := 40) (tgt := 65) hX dX6_look_37 rfl (by decide) ⟨by omega, by omega⟩ ⟨by omega, by omega⟩ (fun c36 => ?_) (fun c36 => ?_)
      · exact zt_vret hX hR dX6_look_65 ⟨hI27, hF28⟩
      · refine zt_aload_n (pc' := 41) hX dX6_look_40 rfl rfl ?_
        refine zt_get (pc' := 44) (v := .ref (X.1.1 + 159)) hX dX6_look_41 rfl zf_X6_22 (by decide) zc_153 zs_35 (zrf_of (zv_35_2 hI27 zc_153)) ?_
        refine zt_iload (pc' := 46) hX dX6_look_44 rfl rfl ?_
        refine zt_aload_n (pc' := 47) hX dX6_look_46 rfl rfl ?_
        refine zt_iload (pc' := 49) hX dX6_look_47 rfl rfl ?_
        refine zt_cVi (pc' := 52) hX dX6_look_49 rfl zm_yX6_countNear zw_34_9 zc_153 (by decide) zs_35 (q := (RX6, TX6, 14)) rfl rfl (zc_X6_countNear _ _ s26 hI27 x23 ⟨by omega, by omega⟩) rfl rfl (Nat.le_of_ble_eq_true rfl) (by decide) (fun r37 s38 hr39 hp40 => ?_)
        obtain ⟨rfl, q41, q42⟩ := hp40
        refine zt_iast (pc' := 53) hX dX6_look_52 rfl (by decide) zc_159 zs_41 (by decide) ⟨by omega, by omega⟩ ?_
        generalize hs44 : zset s26 159 (x23.toNat) r37 = s43
        have hI45 : zInv s43 := hs44 ▸ zp_41 hI27 zc_159 (x23.toNat) ⟨by omega, by omega⟩
        have hF46 : zFE σ s43 := hs44 ▸ zFE_set hF28 zc_159 (by decide) zke_41 (Or.inl (by decide)) (Or.inl (by decide))
        refine zt_aload_n (pc' := 54) hX dX6_look_53 rfl rfl ?_
        refine zt_iload (pc' := 56) hX dX6_look_54 rfl rfl ?_
        refine zt_cVv (pc' := 59) hX dX6_look_56 rfl zm_yX6_measureLift zw_34_23 zc_153 (by decide) zs_35 (q := (RX6, TX6, 14)) rfl rfl (zc_X6_measureLift _ _ s43 hI45 x23 ⟨by omega, by omega⟩) rfl rfl (Nat.le_of_ble_eq_true rfl) (by decide) (fun r47 s48 hr49 hp50 => ?_)
        obtain ⟨hI51, hF52⟩ := hp50
        have hF53 := zFE_tr hF46 hF52
        refine zt_iinc (pc' := 62) (lv' := [some (.ref (X.1.1 + 153)), none, none, none, some (.int (zI (x23 + 1)))]) hX dX6_look_59 rfl rfl hL (by decide) rfl ?_
        refine zt_goto (tgt := 28) hX dX6_look_62 (by decide) ?_
        exact ih31 (x23 + 1) s48 (by omega) (by omega) hI51 (by omega) (by omega)
  refine zt_mask [true, false, false, false, true] rfl ?_
  exact L_28_28 _ 0 s19 (by omega) (by omega) hI21 (by omega) (Nat.lt_succ_self _)

set_option maxRecDepth 100000 in
set_option maxHeartbeats 4000000 in
theorem zc_X6_showTime (l : Launch) (E : zEN) (σ : zSto) (hI : zInv σ)  : zCt l E yX6_showTime cX6_showTime 1 none 1 zNC zNC 0 0 σ [.ref (E.1 + 153)] (fun r σ' => zInv σ' ∧ zFE σ σ') := by
  refine zCt_of2 [some (.ref (E.1 + 153))] (by decide +kernel) (Nat.le_of_ble_eq_true rfl) rfl ?_
  intro X hE hX hR hL hN
  subst hE
  have hX : zok X cX6_showTime RX6 1 := hX
  have hF := zFE_rf σ
  refine zt_aload_n (pc' := 1) hX dX6_showTime_0 rfl rfl ?_
  refine zt_get (pc' := 4) (v := .ref (X.1.1 + 154)) hX dX6_showTime_1 rfl zf_X6_12 (by decide) zc_153 zs_35 (zrf_of (zv_35_0 hI zc_153)) ?_
  refine zt_get (pc' := 7) (v := .ref (X.1.1 + 155)) hX dX6_showTime_4 rfl zf_X6_111 (by decide) zc_154 zs_36 (zrf_of (zv_36_0 hI zc_154)) ?_
  refine zt_bipush (pc' := 9) hX dX6_showTime_7 rfl (by decide) (by decide) ?_
  refine zt_aload_n (pc' := 10) hX dX6_showTime_9 rfl rfl ?_
  obtain ⟨k1, ek2, hk3⟩ := zv_35_7 hI zc_153
  refine zt_get (pc' := 13) (v := .ref (X.1.1 + k1)) hX dX6_showTime_10 rfl zf_X6_58 (by decide) zc_153 zs_35 (zrf_of ek2) ?_
  have b4 := zv_22_5 hI hk3
  refine zt_get (pc' := 16) (v := .int (zI (σ k1 5))) hX dX6_showTime_13 rfl zf_X6_114 (zro_lt hk3 (by decide)) hk3 zs_22 rfl ?_
  refine zt_iast (pc' := 17) hX dX6_showTime_16 rfl (by decide) zc_155 zs_37 (by decide) ⟨by omega, by omega⟩ ?_
  rw [show Int.toNat 12 = 12 from rfl]
  generalize hs6 : zset σ 155 12 (σ k1 5) = s5
  have hI7 : zInv s5 := hs6 ▸ zp_37 hI zc_155 12 ⟨by omega, by omega⟩
  have hF8 : zFE σ s5 := hs6 ▸ zFE_set hF zc_155 (by decide) zke_37 (Or.inl (by decide)) (Or.inl (by decide))
  refine zt_aload_n (pc' := 18) hX dX6_showTime_17 rfl rfl ?_
  refine zt_get (pc' := 21) (v := .ref (X.1.1 + 154)) hX dX6_showTime_18 rfl zf_X6_12 (by decide) zc_153 zs_35 (zrf_of (zv_35_0 hI7 zc_153)) ?_
  refine zt_get (pc' := 24) (v := .ref (X.1.1 + 155)) hX dX6_showTime_21 rfl zf_X6_111 (by decide) zc_154 zs_36 (zrf_of (zv_36_0 hI7 zc_154)) ?_
  refine zt_bipush (pc' := 26) hX dX6_showTime_24 rfl (by decide) (by decide) ?_
  refine zt_aload_n (pc' := 27) hX dX6_showTime_26 rfl rfl ?_
  have e12 : s5 153 7 = σ 153 7 := by rw [← hs6]; exact zset_k (zne_r zc_153 zc_155 (by decide))
  have ek10 : s5 153 7 = ((k1 : Nat) : Int) := by omega
  refine zt_get (pc' := 30) (v := .ref (X.1.1 + k1)) hX dX6_showTime_27 rfl zf_X6_58 (by decide) zc_153 zs_35 (zrf_of ek10) ?_
  have b13 := zv_22_6 hI7 hk3
  have e14 : s5 k1 6 = σ k1 6 := by rw [← hs6]; exact zset_k (zne_r hk3 zc_155 (by decide))
  refine zt_get (pc' := 33) (v := .long (zJ (s5 k1 6))) hX dX6_showTime_30 rfl zf_X6_117 (zro_lt hk3 (by decide)) hk3 zs_22 rfl ?_
  refine zt_cSi (pc' := 36) hX dX6_showTime_33 rfl zm_yJ13_bitCount_95d88 zw_36_4 (zc_J13_bitCount _ _ s5  (s5 k1 6) ⟨by omega, by omega⟩) rfl rfl (Nat.le_of_ble_eq_true rfl) (by decide) (fun r15 s16 hr17 hp18 => ?_)
  obtain ⟨rfl, q19, q20⟩ := hp18
  refine zt_iast (pc' := 37) hX dX6_showTime_36 rfl (by decide) zc_155 zs_37 (by decide) ⟨by omega, by omega⟩ ?_
  rw [show Int.toNat 13 = 13 from rfl]
  generalize hs22 : zset s5 155 13 r15 = s21
  have hI23 : zInv s21 := hs22 ▸ zp_37 hI7 zc_155 13 ⟨by omega, by omega⟩
  have hF24 : zFE σ s21 := hs22 ▸ zFE_set hF8 zc_155 (by decide) zke_37 (Or.inl (by decide)) (Or.inl (by decide))
  exact zt_vret hX hR dX6_showTime_37 ⟨hI23, hF24⟩

set_option maxRecDepth 100000 in
set_option maxHeartbeats 4000000 in
theorem zc_X6_showPerson (l : Launch) (E : zEN) (σ : zSto) (hI : zInv σ) (a1_ : Int) (ha1_ : 0 ≤ a1_ ∧ a1_ ≤ 9) : zCt l E yX6_showPerson cX6_showPerson 2 none 0 zNC zNC 0 0 σ [.ref (E.1 + 153), .int (zI a1_)] (fun r σ' => zInv σ' ∧ zFE σ σ') := by
  refine zCt_of2 [some (.ref (E.1 + 153)), some (.int (zI a1_))] (by decide +kernel) (Nat.le_of_ble_eq_true rfl) rfl ?_
  intro X hE hX hR hL hN
  subst hE
  have hX : zok X cX6_showPerson RX6 0 := hX
  have hF := zFE_rf σ
  refine zt_aload_n (pc' := 1) hX dX6_showPerson_0 rfl rfl ?_
  refine zt_get (pc' := 4) (v := .ref (X.1.1 + 154)) hX dX6_showPerson_1 rfl zf_X6_12 (by decide) zc_153 zs_35 (zrf_of (zv_35_0 hI zc_153)) ?_
  refine zt_get (pc' := 7) (v := .ref (X.1.1 + 155)) hX dX6_showPerson_4 rfl zf_X6_111 (by decide) zc_154 zs_36 (zrf_of (zv_36_0 hI zc_154)) ?_
  refine zt_bipush (pc' := 9) hX dX6_showPerson_7 rfl (by decide) (by decide) ?_
  refine zt_aload_n (pc' := 10) hX dX6_showPerson_9 rfl rfl ?_
  obtain ⟨k1, ek2, hk3⟩ := zv_35_6 hI zc_153
  refine zt_get (pc' := 13) (v := .ref (X.1.1 + k1)) hX dX6_showPerson_10 rfl zf_X6_54 (by decide) zc_153 zs_35 (zrf_of ek2) ?_
  refine zt_get (pc' := 16) (v := .ref (X.1.1 + (k1 + 5))) hX dX6_showPerson_13 rfl zf_X6_100 (zro_lt hk3 (by decide)) hk3 zs_8 (zrf_of (zv_8_4 hI hk3)) ?_
  refine zt_iload_n (pc' := 17) hX dX6_showPerson_16 rfl rfl ?_
  refine zt_iald (pc' := 18) hX dX6_showPerson_17 rfl (zro_lt (zo_8_4 hk3) (by decide)) (zo_8_4 hk3) zs_13 (by decide) ⟨by omega, by omega⟩ ?_
  generalize hv4 : σ (k1 + 5) (a1_.toNat) = v4
  have bv4 : 0 ≤ v4 ∧ v4 ≤ 99 := hv4 ▸ zv_13 hI (zo_8_4 hk3) _
  refine zt_aload_n (pc' := 19) hX dX6_showPerson_18 rfl rfl ?_
  have b5 := zv_35_8 hI zc_153
  refine zt_get (pc' := 22) (v := .int (zI (σ 153 8))) hX dX6_showPerson_19 rfl zf_X6_34 (by decide) zc_153 zs_35 rfl ?_
  refine zt_iadd (pc' := 23) hX dX6_showPerson_22 rfl ?_
  refine zt_iast (pc' := 24) hX dX6_showPerson_23 rfl (by decide) zc_155 zs_37 (by decide) ⟨by omega, by omega⟩ ?_
  rw [show Int.toNat 6 = 6 from rfl]
  generalize hs7 : zset σ 155 6 (v4 + (σ 153 8)) = s6
  have hI8 : zInv s6 := hs7 ▸ zp_37 hI zc_155 6 ⟨by omega, by omega⟩
  have hF9 : zFE σ s6 := hs7 ▸ zFE_set hF zc_155 (by decide) zke_37 (Or.inl (by decide)) (Or.inl (by decide))
  refine zt_aload_n (pc' := 25) hX dX6_showPerson_24 rfl rfl ?_
  refine zt_get (pc' := 28) (v := .ref (X.1.1 + 154)) hX dX6_showPerson_25 rfl zf_X6_12 (by decide) zc_153 zs_35 (zrf_of (zv_35_0 hI8 zc_153)) ?_
  refine zt_get (pc' := 31) (v := .ref (X.1.1 + 155)) hX dX6_showPerson_28 rfl zf_X6_111 (by decide) zc_154 zs_36 (zrf_of (zv_36_0 hI8 zc_154)) ?_
  refine zt_bipush (pc' := 33) hX dX6_showPerson_31 rfl (by decide) (by decide) ?_
  refine zt_aload_n (pc' := 34) hX dX6_showPerson_33 rfl rfl ?_
  obtain ⟨k10, ek11, hk12⟩ := zv_35_7 hI8 zc_153
  refine zt_get (pc' := 37) (v := .ref (X.1.1 + k10)) hX dX6_showPerson_34 rfl zf_X6_58 (by decide) zc_153 zs_35 (zrf_of ek11) ?_
  refine zt_get (pc' := 40) (v := .ref (X.1.1 + (k10 + 3))) hX dX6_showPerson_37 rfl zf_X6_126 (zro_lt hk12 (by decide)) hk12 zs_22 (zrf_of (zv_22_2 hI8 hk12)) ?_
  refine zt_iload_n (pc' := 41) hX dX6_showPerson_40 rfl rfl ?_
  refine zt_iald (pc' := 42) hX dX6_showPerson_41 rfl (zro_lt (zo_22_2 hk12) (by decide)) (zo_22_2 hk12) zs_25 (by decide) ⟨by omega, by omega⟩ ?_
  generalize hv13 : s6 (k10 + 3) (a1_.toNat) = v13
  have bv13 : -1 ≤ v13 ∧ v13 ≤ 255 := hv13 ▸ zv_25 hI8 (zo_22_2 hk12) _
  refine zt_iast (pc' := 43) hX dX6_showPerson_42 rfl (by decide) zc_155 zs_37 (by decide) ⟨by omega, by omega⟩ ?_
  rw [show Int.toNat 15 = 15 from rfl]
  generalize hs15 : zset s6 155 15 v13 = s14
  have hI16 : zInv s14 := hs15 ▸ zp_37 hI8 zc_155 15 ⟨by omega, by omega⟩
  have hF17 : zFE σ s14 := hs15 ▸ zFE_set hF9 zc_155 (by decide) zke_37 (Or.inl (by decide)) (Or.inl (by decide))
  refine zt_aload_n (pc' := 44) hX dX6_showPerson_43 rfl rfl ?_
  refine zt_get (pc' := 47) (v := .ref (X.1.1 + 154)) hX dX6_showPerson_44 rfl zf_X6_12 (by decide) zc_153 zs_35 (zrf_of (zv_35_0 hI16 zc_153)) ?_
  refine zt_get (pc' := 50) (v := .ref (X.1.1 + 155)) hX dX6_showPerson_47 rfl zf_X6_111 (by decide) zc_154 zs_36 (zrf_of (zv_36_0 hI16 zc_154)) ?_
  refine zt_bipush (pc' := 52) hX dX6_showPerson_50 rfl (by decide) (by decide) ?_
  refine zt_aload_n (pc' := 53) hX dX6_showPerson_52 rfl rfl ?_
  refine zt_get (pc' := 56) (v := .ref (X.1.1 + 159)) hX dX6_showPerson_53 rfl zf_X6_22 (by decide) zc_153 zs_35 (zrf_of (zv_35_2 hI16 zc_153)) ?_
  refine zt_iload_n (pc' := 57) hX dX6_showPerson_56 rfl rfl ?_
  refine zt_iald (pc' := 58) hX dX6_showPerson_57 rfl (by decide) zc_159 zs_41 (by decide) ⟨by omega, by omega⟩ ?_
  generalize hv18 : s14 159 (a1_.toNat) = v18
  have bv18 : -2147483648 ≤ v18 ∧ v18 ≤ 2147483647 := hv18 ▸ zv_41 hI16 zc_159 _
  refine zt_iast (pc' := 59) hX dX6_showPerson_58 rfl (by decide) zc_155 zs_37 (by decide) ⟨by omega, by omega⟩ ?_
  rw [show Int.toNat 16 = 16 from rfl]
  generalize hs20 : zset s14 155 16 v18 = s19
  have hI21 : zInv s19 := hs20 ▸ zp_37 hI16 zc_155 16 ⟨by omega, by omega⟩
  have hF22 : zFE σ s19 := hs20 ▸ zFE_set hF17 zc_155 (by decide) zke_37 (Or.inl (by decide)) (Or.inl (by decide))
  exact zt_vret hX hR dX6_showPerson_59 ⟨hI21, hF22⟩

set_option maxRecDepth 100000 in
set_option maxHeartbeats 4000000 in
theorem zc_X6_showAsked (l : Launch) (E : zEN) (σ : zSto) (hI : zInv σ) (a1_ : Int) (ha1_ : 0 ≤ a1_ ∧ a1_ ≤ 9) (a2_ : Int) (ha2_ : -2147483648 ≤ a2_ ∧ a2_ ≤ 2147483647) : zCt l E yX6_showAsked cX6_showAsked 4 none 2 zNC zNC 0 0 σ [.ref (E.1 + 153), .int (zI a1_), .int (zI a2_)] (fun r σ' => zInv σ' ∧ zFE σ σ') := by
  refine zCt_of2 [some (.ref (E.1 + 153)), some (.int (zI a1_)), some (.int (zI a2_)), none] (by decide +kernel) (Nat.le_of_ble_eq_true rfl) rfl ?_
  intro X hE hX hR hL hN
  subst hE
  have hX : zok X cX6_showAsked RX6 2 := hX
  have hF := zFE_rf σ
  refine zt_aload_n (pc' := 1) hX dX6_showAsked_0 rfl rfl ?_
  refine zt_iload_n (pc' := 2) hX dX6_showAsked_1 rfl rfl ?_
  refine zt_cVv (pc' := 5) hX dX6_showAsked_2 rfl zm_yX6_showPerson zw_36_5 zc_153 (by decide) zs_35 (q := (RX6, TX6, 14)) rfl rfl (zc_X6_showPerson _ _ σ hI a1_ ⟨by omega, by omega⟩) rfl rfl (Nat.le_of_ble_eq_true rfl) (by decide) (fun r1 s2 hr3 hp4 => ?_)
  obtain ⟨hI5, hF6⟩ := hp4
  have hF7 := zFE_tr hF hF6
  refine zt_aload_n (pc' := 6) hX dX6_showAsked_5 rfl rfl ?_
  refine zt_get (pc' := 9) (v := .ref (X.1.1 + 154)) hX dX6_showAsked_6 rfl zf_X6_12 (by decide) zc_153 zs_35 (zrf_of (zv_35_0 hI5 zc_153)) ?_
  refine zt_get (pc' := 12) (v := .ref (X.1.1 + 155)) hX dX6_showAsked_9 rfl zf_X6_111 (by decide) zc_154 zs_36 (zrf_of (zv_36_0 hI5 zc_154)) ?_
  refine zt_bipush (pc' := 14) hX dX6_showAsked_12 rfl (by decide) (by decide) ?_
  refine zt_iload_n (pc' := 15) hX dX6_showAsked_14 rfl rfl ?_
  refine zt_iast (pc' := 16) hX dX6_showAsked_15 rfl (by decide) zc_155 zs_37 (by decide) ⟨by omega, by omega⟩ ?_
  rw [show Int.toNat 17 = 17 from rfl]
  generalize hs9 : zset s2 155 17 a1_ = s8
  have hI10 : zInv s8 := hs9 ▸ zp_37 hI5 zc_155 17 ⟨by omega, by omega⟩
  have hF11 : zFE σ s8 := hs9 ▸ zFE_set hF7 zc_155 (by decide) zke_37 (Or.inl (by decide)) (Or.inl (by decide))
  refine zt_aload_n (pc' := 17) hX dX6_showAsked_16 rfl rfl ?_
  refine zt_get (pc' := 20) (v := .ref (X.1.1 + 154)) hX dX6_showAsked_17 rfl zf_X6_12 (by decide) zc_153 zs_35 (zrf_of (zv_35_0 hI10 zc_153)) ?_
  refine zt_get (pc' := 23) (v := .ref (X.1.1 + 155)) hX dX6_showAsked_20 rfl zf_X6_111 (by decide) zc_154 zs_36 (zrf_of (zv_36_0 hI10 zc_154)) ?_
  refine zt_bipush (pc' := 25) hX dX6_showAsked_23 rfl (by decide) (by decide) ?_
  refine zt_aload_n (pc' := 26) hX dX6_showAsked_25 rfl rfl ?_
  obtain ⟨k12, ek13, hk14⟩ := zv_35_7 hI10 zc_153
  refine zt_get (pc' := 29) (v := .ref (X.1.1 + k12)) hX dX6_showAsked_26 rfl zf_X6_58 (by decide) zc_153 zs_35 (zrf_of ek13) ?_
  refine zt_get (pc' := 32) (v := .ref (X.1.1 + (k12 + 1))) hX dX6_showAsked_29 rfl zf_X6_75 (zro_lt hk14 (by decide)) hk14 zs_22 (zrf_of (zv_22_0 hI10 hk14)) ?_
  refine zt_iload_n (pc' := 33) hX dX6_showAsked_32 rfl rfl ?_
  refine zt_iald (pc' := 34) hX dX6_showAsked_33 rfl (zro_lt (zo_22_0 hk14) (by decide)) (zo_22_0 hk14) zs_23 (by decide) ⟨by omega, by omega⟩ ?_
  generalize hv15 : s8 (k12 + 1) (a1_.toNat) = v15
  have bv15 : -1 ≤ v15 ∧ v15 ≤ 255 := hv15 ▸ zv_23 hI10 (zo_22_0 hk14) _
  refine zt_iast (pc' := 35) hX dX6_showAsked_34 rfl (by decide) zc_155 zs_37 (by decide) ⟨by omega, by omega⟩ ?_
  rw [show Int.toNat 18 = 18 from rfl]
  generalize hs17 : zset s8 155 18 v15 = s16
  have hI18 : zInv s16 := hs17 ▸ zp_37 hI10 zc_155 18 ⟨by omega, by omega⟩
  have hF19 : zFE σ s16 := hs17 ▸ zFE_set hF11 zc_155 (by decide) zke_37 (Or.inl (by decide)) (Or.inl (by decide))
  refine zt_aload_n (pc' := 36) hX dX6_showAsked_35 rfl rfl ?_
  refine zt_get (pc' := 39) (v := .ref (X.1.1 + 154)) hX dX6_showAsked_36 rfl zf_X6_12 (by decide) zc_153 zs_35 (zrf_of (zv_35_0 hI18 zc_153)) ?_
  refine zt_get (pc' := 42) (v := .ref (X.1.1 + 155)) hX dX6_showAsked_39 rfl zf_X6_111 (by decide) zc_154 zs_36 (zrf_of (zv_36_0 hI18 zc_154)) ?_
  refine zt_bipush (pc' := 44) hX dX6_showAsked_42 rfl (by decide) (by decide) ?_
  refine zt_aload_n (pc' := 45) hX dX6_showAsked_44 rfl rfl ?_
  have e23 : s16 153 7 = s8 153 7 := by rw [← hs17]; exact zset_k (zne_r zc_153 zc_155 (by decide))
  have e24 : s8 153 7 = s2 153 7 := by rw [← hs9]; exact zset_k (zne_r zc_153 zc_155 (by decide))
  have ek21 : s16 153 7 = ((k12 : Nat) : Int) := by omega
  refine zt_get (pc' := 48) (v := .ref (X.1.1 + k12)) hX dX6_showAsked_45 rfl zf_X6_58 (by decide) zc_153 zs_35 (zrf_of ek21) ?_
  refine zt_get (pc' := 51) (v := .ref (X.1.1 + (k12 + 2))) hX dX6_showAsked_48 rfl zf_X6_80 (zro_lt hk14 (by decide)) hk14 zs_22 (zrf_of (zv_22_1 hI18 hk14)) ?_
  refine zt_iload_n (pc' := 52) hX dX6_showAsked_51 rfl rfl ?_
  refine zt_iald (pc' := 53) hX dX6_showAsked_52 rfl (zro_lt (zo_22_1 hk14) (by decide)) (zo_22_1 hk14) zs_24 (by decide) ⟨by omega, by omega⟩ ?_
  generalize hv25 : s16 (k12 + 2) (a1_.toNat) = v25
  have bv25 : -1 ≤ v25 ∧ v25 ≤ 255 := hv25 ▸ zv_24 hI18 (zo_22_1 hk14) _
  refine zt_iast (pc' := 54) hX dX6_showAsked_53 rfl (by decide) zc_155 zs_37 (by decide) ⟨by omega, by omega⟩ ?_
  rw [show Int.toNat 19 = 19 from rfl]
  generalize hs27 : zset s16 155 19 v25 = s26
  have hI28 : zInv s26 := hs27 ▸ zp_37 hI18 zc_155 19 ⟨by omega, by omega⟩
  have hF29 : zFE σ s26 := hs27 ▸ zFE_set hF19 zc_155 (by decide) zke_37 (Or.inl (by decide)) (Or.inl (by decide))
  refine zt_aload_n (pc' := 55) hX dX6_showAsked_54 rfl rfl ?_
  refine zt_get (pc' := 58) (v := .ref (X.1.1 + 154)) hX dX6_showAsked_55 rfl zf_X6_12 (by decide) zc_153 zs_35 (zrf_of (zv_35_0 hI28 zc_153)) ?_
  refine zt_get (pc' := 61) (v := .ref (X.1.1 + 155)) hX dX6_showAsked_58 rfl zf_X6_111 (by decide) zc_154 zs_36 (zrf_of (zv_36_0 hI28 zc_154)) ?_
  refine zt_bipush (pc' := 63) hX dX6_showAsked_61 rfl (by decide) (by decide) ?_
  refine zt_iload_n (pc' := 64) hX dX6_showAsked_63 rfl rfl ?_
  refine zt_iload_n (pc' := 65) hX dX6_showAsked_64 rfl rfl ?_
  refine zt_ishr (pc' := 66) hX dX6_showAsked_65 rfl (fun r30 zr30 lr30 ur30 => ?_)
  clear zr30
  refine zt_iconst (pc' := 67) hX dX6_showAsked_66 rfl ?_
  refine zt_iandm (pc' := 68) hX dX6_showAsked_67 rfl 1 (by decide +kernel) (by decide) (fun r31 er31 lr31 ur31 => ?_)
  have ur31 : r31 ≤ 1 := by omega
  refine zt_iast (pc' := 69) hX dX6_showAsked_68 rfl (by decide) zc_155 zs_37 (by decide) ⟨by omega, by omega⟩ ?_
  rw [show Int.toNat 8 = 8 from rfl]
  generalize hs33 : zset s26 155 8 r31 = s32
  have hI34 : zInv s32 := hs33 ▸ zp_37 hI28 zc_155 8 ⟨by omega, by omega⟩
  have hF35 : zFE σ s32 := hs33 ▸ zFE_set hF29 zc_155 (by decide) zke_37 (Or.inl (by decide)) (Or.inl (by decide))
  refine zt_aload_n (pc' := 70) hX dX6_showAsked_69 rfl rfl ?_
  refine zt_get (pc' := 73) (v := .ref (X.1.1 + 154)) hX dX6_showAsked_70 rfl zf_X6_12 (by decide) zc_153 zs_35 (zrf_of (zv_35_0 hI34 zc_153)) ?_
  refine zt_aload_n (pc' := 74) hX dX6_showAsked_73 rfl rfl ?_
  obtain ⟨k36, ek37, hk38⟩ := zv_35_6 hI34 zc_153
  refine zt_get (pc' := 77) (v := .ref (X.1.1 + k36)) hX dX6_showAsked_74 rfl zf_X6_54 (by decide) zc_153 zs_35 (zrf_of ek37) ?_
  have b39 := zv_8_12 hI34 hk38
  have e40 : s32 k36 12 = s26 k36 12 := by rw [← hs33]; exact zset_k (zne_r hk38 zc_155 (by decide))
  have e41 : s26 k36 12 = s16 k36 12 := by rw [← hs27]; exact zset_k (zne_r hk38 zc_155 (by decide))
  have e42 : s16 k36 12 = s8 k36 12 := by rw [← hs17]; exact zset_k (zne_r hk38 zc_155 (by decide))
  have e43 : s8 k36 12 = s2 k36 12 := by rw [← hs9]; exact zset_k (zne_r hk38 zc_155 (by decide))
  refine zt_get (pc' := 80) (v := .int (zI (s32 k36 12))) hX dX6_showAsked_77 rfl zf_X6_62 (zro_lt hk38 (by decide)) hk38 zs_8 rfl ?_
  refine zt_put (pc' := 83) (x := (s32 k36 12)) hX dX6_showAsked_80 rfl zf_X6_132 (by decide) zc_154 zs_36 (fun q hq => by cases hq; rfl) rfl rfl rfl ?_
  generalize hs45 : zset s32 154 3 (s32 k36 12) = s44
  have hI46 : zInv s44 := hs45 ▸ zp_36_3 hI34 zc_154 ⟨by omega, by omega⟩
  have hF47 : zFE σ s44 := hs45 ▸ zFE_set hF35 zc_154 (by decide) zke_36 (Or.inl (by decide)) (Or.inl (by decide))
  refine zt_iconst (pc' := 84) hX dX6_showAsked_83 rfl ?_
  refine zt_istore_n (pc' := 85) (lv' := [some (.ref (X.1.1 + 153)), some (.int (zI a1_)), some (.int (zI a2_)), some (.int (zI 0))]) hX dX6_showAsked_84 rfl hL (by decide) rfl ?_
  have L_85_53 : ∀ (N : Nat) (x48 : Int) (s51 : zSto), 0 ≤ x48 → x48 ≤ 10 → zInv s51 → zFE σ s51 → ((11 - x48).toNat) < N → zF X s51 85 [some (.ref (X.1.1 + 153)), some (.int (zI a1_)), none, some (.int (zI x48))] [] := by
    intro N
    induction N with
    | zero =>
      intro x48 s51 h49 h50 hI52 hF53 hm55
      exact absurd hm55 (Nat.not_lt_zero _)
    | succ N ih56 =>
      intro x48 s51 h49 h50 hI52 hF53 hm55
      refine zt_iload_n (pc' := 86) hX dX6_showAsked_85 rfl rfl ?_
      refine zt_aload_n (pc' := 87) hX dX6_showAsked_86 rfl rfl ?_
      obtain ⟨k57, ek58, hk59⟩ := zv_35_6 hI52 zc_153
      refine zt_get (pc' := 90) (v := .ref (X.1.1 + k57)) hX dX6_showAsked_87 rfl zf_X6_54 (by decide) zc_153 zs_35 (zrf_of ek58) ?_
      have b60 := zv_8_12 hI52 hk59
      refine zt_get (pc' := 93) (v := .int (zI (s51 k57 12))) hX dX6_showAsked_90 rfl zf_X6_62 (zro_lt hk59 (by decide)) hk59 zs_8 rfl ?_
      refine zt_icge (pc' := 96) (tgt := 137) hX dX6_showAsked_93 rfl (by decide) ⟨by omega, by omega⟩ ⟨by omega, by omega⟩ (fun c61 => ?_) (fun c61 => ?_)
      · exact zt_vret hX hR dX6_showAsked_137 ⟨hI52, hF53⟩
      · refine zt_aload_n (pc' := 97) hX dX6_showAsked_96 rfl rfl ?_
        refine zt_get (pc' := 100) (v := .ref (X.1.1 + 154)) hX dX6_showAsked_97 rfl zf_X6_12 (by decide) zc_153 zs_35 (zrf_of (zv_35_0 hI52 zc_153)) ?_
        refine zt_get (pc' := 103) (v := .ref (X.1.1 + 157)) hX dX6_showAsked_100 rfl zf_X6_133 (by decide) zc_154 zs_36 (zrf_of (zv_36_2 hI52 zc_154)) ?_
        refine zt_iload_n (pc' := 104) hX dX6_showAsked_103 rfl rfl ?_
        refine zt_aload_n (pc' := 105) hX dX6_showAsked_104 rfl rfl ?_
        obtain ⟨k62, ek63, hk64⟩ := zv_35_7 hI52 zc_153
        refine zt_get (pc' := 108) (v := .ref (X.1.1 + k62)) hX dX6_showAsked_105 rfl zf_X6_58 (by decide) zc_153 zs_35 (zrf_of ek63) ?_
        refine zt_iload_n (pc' := 109) hX dX6_showAsked_108 rfl rfl ?_
        refine zt_aload_n (pc' := 110) hX dX6_showAsked_109 rfl rfl ?_
        refine zt_get (pc' := 113) (v := .ref (X.1.1 + k62)) hX dX6_showAsked_110 rfl zf_X6_58 (by decide) zc_153 zs_35 (zrf_of ek63) ?_
        refine zt_get (pc' := 116) (v := .ref (X.1.1 + (k62 + 1))) hX dX6_showAsked_113 rfl zf_X6_75 (zro_lt hk64 (by decide)) hk64 zs_22 (zrf_of (zv_22_0 hI52 hk64)) ?_
        refine zt_iload_n (pc' := 117) hX dX6_showAsked_116 rfl rfl ?_
        refine zt_iald (pc' := 118) hX dX6_showAsked_117 rfl (zro_lt (zo_22_0 hk64) (by decide)) (zo_22_0 hk64) zs_23 (by decide) ⟨by omega, by omega⟩ ?_
        generalize hv65 : s51 (k62 + 1) (x48.toNat) = v65
        have bv65 : -1 ≤ v65 ∧ v65 ≤ 255 := hv65 ▸ zv_23 hI52 (zo_22_0 hk64) _
        refine zt_aload_n (pc' := 119) hX dX6_showAsked_118 rfl rfl ?_
        refine zt_get (pc' := 122) (v := .ref (X.1.1 + k62)) hX dX6_showAsked_119 rfl zf_X6_58 (by decide) zc_153 zs_35 (zrf_of ek63) ?_
        refine zt_get (pc' := 125) (v := .ref (X.1.1 + (k62 + 2))) hX dX6_showAsked_122 rfl zf_X6_80 (zro_lt hk64 (by decide)) hk64 zs_22 (zrf_of (zv_22_1 hI52 hk64)) ?_
        refine zt_iload_n (pc' := 126) hX dX6_showAsked_125 rfl rfl ?_
        refine zt_iald (pc' := 127) hX dX6_showAsked_126 rfl (zro_lt (zo_22_1 hk64) (by decide)) (zo_22_1 hk64) zs_24 (by decide) ⟨by omega, by omega⟩ ?_
        generalize hv66 : s51 (k62 + 2) (x48.toNat) = v66
        have bv66 : -1 ≤ v66 ∧ v66 ≤ 255 := hv66 ▸ zv_24 hI52 (zo_22_1 hk64) _
        refine zt_cVi (pc' := 130) hX dX6_showAsked_127 rfl zm_yX10_between zw_34_15 hk64 (by decide) zs_22 (q := (RX10, TX10, 8)) rfl rfl (zc_X10_between _ _ s51 hI52 k62 hk64 a1_ ⟨by omega, by omega⟩ v65 ⟨by omega, by omega⟩ v66 ⟨by omega, by omega⟩) rfl rfl (Nat.le_of_ble_eq_true rfl) (by decide) (fun r67 s68 hr69 hp70 => ?_)
        obtain ⟨rfl, q71, q72⟩ := hp70
        refine zt_iast (pc' := 131) hX dX6_showAsked_130 rfl (by decide) zc_157 zs_39 (by decide) ⟨by omega, by omega⟩ ?_
        generalize hs74 : zset s51 157 (x48.toNat) r67 = s73
        have hI75 : zInv s73 := hs74 ▸ zp_39 hI52 zc_157 (x48.toNat) ⟨by omega, by omega⟩
        have hF76 : zFE σ s73 := hs74 ▸ zFE_set hF53 zc_157 (by decide) zke_39 (Or.inl (by decide)) (Or.inl (by decide))
        refine zt_iinc (pc' := 134) (lv' := [some (.ref (X.1.1 + 153)), some (.int (zI a1_)), none, some (.int (zI (x48 + 1)))]) hX dX6_showAsked_131 rfl rfl hL (by decide) rfl ?_
        refine zt_goto (tgt := 85) hX dX6_showAsked_134 (by decide) ?_
        exact ih56 (x48 + 1) s73 (by omega) (by omega) hI75 (by omega) (by omega)
  refine zt_mask [true, true, false, true] rfl ?_
  exact L_85_53 _ 0 s44 (by omega) (by omega) hI46 (by omega) (Nat.lt_succ_self _)

set_option maxRecDepth 100000 in
set_option maxHeartbeats 4000000 in
theorem zc_X6_holders (l : Launch) (E : zEN) (σ : zSto) (hI : zInv σ)  : zCt l E yX6_holders cX6_holders 3 (some .int) 3 zNC zNC 0 0 σ [.ref (E.1 + 153)] (fun r σ' => zInv σ' ∧ zFE σ σ' ∧ -2147483648 ≤ r ∧ r ≤ 2147483647) := by
  refine zCt_of2 [some (.ref (E.1 + 153)), none, none] (by decide +kernel) (Nat.le_of_ble_eq_true rfl) rfl ?_
  intro X hE hX hR hL hN
  subst hE
  have hX : zok X cX6_holders RX6 3 := hX
  have hF := zFE_rf σ
  refine zt_iconst (pc' := 1) hX dX6_holders_0 rfl ?_
  refine zt_istore_n (pc' := 2) (lv' := [some (.ref (X.1.1 + 153)), some (.int (zI 0)), none]) hX dX6_holders_1 rfl hL (by decide) rfl ?_
  refine zt_aload_n (pc' := 3) hX dX6_holders_2 rfl rfl ?_
  refine zt_cVv (pc' := 6) hX dX6_holders_3 rfl zm_yX6_showTime zw_35_21 zc_153 (by decide) zs_35 (q := (RX6, TX6, 14)) rfl rfl (zc_X6_showTime _ _ σ hI ) rfl rfl (Nat.le_of_ble_eq_true rfl) (by decide) (fun r1 s2 hr3 hp4 => ?_)
  obtain ⟨hI5, hF6⟩ := hp4
  have hF7 := zFE_tr hF hF6
  refine zt_iconst (pc' := 7) hX dX6_holders_6 rfl ?_
  refine zt_istore_n (pc' := 8) (lv' := [some (.ref (X.1.1 + 153)), some (.int (zI 0)), some (.int (zI 0))]) hX dX6_holders_7 rfl hL (by decide) rfl ?_
  have L_8_16 : ∀ (N : Nat) (x8 : Int) (x11 : Int) (s14 : zSto), -2147483648 ≤ x8 → x8 ≤ 2147483647 → 0 ≤ x11 → x11 ≤ 10 → zInv s14 → zFE σ s14 → ((11 - x11).toNat) < N → zF X s14 8 [some (.ref (X.1.1 + 153)), some (.int (zI x8)), some (.int (zI x11))] [] := by
    intro N
    induction N with
    | zero =>
      intro x8 x11 s14 h9 h10 h12 h13 hI15 hF16 hm18
      exact absurd hm18 (Nat.not_lt_zero _)
    | succ N ih19 =>
      intro x8 x11 s14 h9 h10 h12 h13 hI15 hF16 hm18
      refine zt_iload_n (pc' := 9) hX dX6_holders_8 rfl rfl ?_
      refine zt_aload_n (pc' := 10) hX dX6_holders_9 rfl rfl ?_
      obtain ⟨k20, ek21, hk22⟩ := zv_35_6 hI15 zc_153
      refine zt_get (pc' := 13) (v := .ref (X.1.1 + k20)) hX dX6_holders_10 rfl zf_X6_54 (by decide) zc_153 zs_35 (zrf_of ek21) ?_
      have b23 := zv_8_12 hI15 hk22
      refine zt_get (pc' := 16) (v := .int (zI (s14 k20 12))) hX dX6_holders_13 rfl zf_X6_62 (zro_lt hk22 (by decide)) hk22 zs_8 rfl ?_
      refine zt_icge (pc' := 19) (tgt := 65) hX dX6_holders_16 rfl (by decide) ⟨by omega, by omega⟩ ⟨by omega, by omega⟩ (fun c24 => ?_) (fun c24 => ?_)
      · refine zt_iload_n (pc' := 66) hX dX6_holders_65 rfl rfl ?_
        exact zt_iret hX hR dX6_holders_66 ⟨by omega, by omega⟩ ⟨hI15, hF16, by omega, by omega⟩
      · refine zt_aload_n (pc' := 20) hX dX6_holders_19 rfl rfl ?_
        obtain ⟨k25, ek26, hk27⟩ := zv_35_7 hI15 zc_153
        refine zt_get (pc' := 23) (v := .ref (X.1.1 + k25)) hX dX6_holders_20 rfl zf_X6_58 (by decide) zc_153 zs_35 (zrf_of ek26) ?_
        have b28 := zv_22_7 hI15 hk27
        refine zt_get (pc' := 26) (v := .int (zI (s14 k25 7))) hX dX6_holders_23 rfl zf_X6_139 (zro_lt hk27 (by decide)) hk27 zs_22 rfl ?_
        refine zt_iload_n (pc' := 27) hX dX6_holders_26 rfl rfl ?_
        refine zt_ishr (pc' := 28) hX dX6_holders_27 rfl (fun r29 zr29 lr29 ur29 => ?_)
        clear zr29
        refine zt_iconst (pc' := 29) hX dX6_holders_28 rfl ?_
        refine zt_iandm (pc' := 30) hX dX6_holders_29 rfl 1 (by decide +kernel) (by decide) (fun r30 er30 lr30 ur30 => ?_)
        have ur30 : r30 ≤ 1 := by omega
        have J_59_36 : ∀ (x31 : Int) (s34 : zSto), -2147483648 ≤ x31 → x31 ≤ 2147483647 → zInv s34 → zFE σ s34 → zF X s34 59 [some (.ref (X.1.1 + 153)), some (.int (zI x31)), some (.int (zI x11))] [] := by
          intro x31 s34 h32 h33 hI35 hF36
          refine zt_iinc (pc' := 62) (lv' := [some (.ref (X.1.1 + 153)), some (.int (zI x31)), some (.int (zI (x11 + 1)))]) hX dX6_holders_59 rfl rfl hL (by decide) rfl ?_
          refine zt_goto (tgt := 8) hX dX6_holders_62 (by decide) ?_
          exact ih19 x31 (x11 + 1) s34 (by omega) (by omega) (by omega) (by omega) hI35 (by omega) (by omega)
        refine zt_ifne (pc' := 33) (tgt := 59) hX dX6_holders_30 rfl (by decide) ⟨by omega, by omega⟩ (fun c38 => ?_) (fun c38 => ?_)
        · exact J_59_36 x8 s14 (by omega) (by omega) hI15 (by omega)
        · refine zt_aload_n (pc' := 34) hX dX6_holders_33 rfl rfl ?_
          refine zt_iload_n (pc' := 35) hX dX6_holders_34 rfl rfl ?_
          refine zt_cVv (pc' := 38) hX dX6_holders_35 rfl zm_yX6_showPerson zw_36_5 zc_153 (by decide) zs_35 (q := (RX6, TX6, 14)) rfl rfl (zc_X6_showPerson _ _ s14 hI15 x11 ⟨by omega, by omega⟩) rfl rfl (Nat.le_of_ble_eq_true rfl) (by decide) (fun r39 s40 hr41 hp42 => ?_)
          obtain ⟨hI43, hF44⟩ := hp42
          have hF45 := zFE_tr hF16 hF44
          refine zt_iload_n (pc' := 39) hX dX6_holders_38 rfl rfl ?_
          refine zt_aload_n (pc' := 40) hX dX6_holders_39 rfl rfl ?_
          refine zt_get (pc' := 43) (v := .ref (X.1.1 + 154)) hX dX6_holders_40 rfl zf_X6_12 (by decide) zc_153 zs_35 (zrf_of (zv_35_0 hI43 zc_153)) ?_
          refine zt_aload_n (pc' := 44) hX dX6_holders_43 rfl rfl ?_
          obtain ⟨k46, ek47, hk48⟩ := zv_35_6 hI43 zc_153
          refine zt_get (pc' := 47) (v := .ref (X.1.1 + k46)) hX dX6_holders_44 rfl zf_X6_54 (by decide) zc_153 zs_35 (zrf_of ek47) ?_
          refine zt_get (pc' := 50) (v := .ref (X.1.1 + (k46 + 8))) hX dX6_holders_47 rfl zf_X6_142 (zro_lt hk48 (by decide)) hk48 zs_8 (zrf_of (zv_8_6 hI43 hk48)) ?_
          refine zt_cVi (pc' := 53) hX dX6_holders_50 rfl zm_yX0_run zw_36_10 zc_154 (by decide) zs_36 (q := (RX0, TX0, 4)) rfl rfl (zc_X0_run _ _ s40 hI43 (k46 + 8) (zo_8_6 hk48)) rfl rfl (Nat.le_of_ble_eq_true rfl) (by decide) (fun r49 s50 hr51 hp52 => ?_)
          obtain ⟨hI53, hF54, q55, q56⟩ := hp52
          have hF57 := zFE_tr hF45 hF54
          refine zt_iconst (pc' := 54) hX dX6_holders_53 rfl ?_
          refine zt_iandm (pc' := 55) hX dX6_holders_54 rfl 1 (by decide +kernel) (by decide) (fun r58 er58 lr58 ur58 => ?_)
          have ur58 : r58 ≤ 1 := by omega
          refine zt_iload_n (pc' := 56) hX dX6_holders_55 rfl rfl ?_
          refine zt_ishl (pc' := 57) hX dX6_holders_56 rfl (fun r59 zr59 lr59 ur59 => ?_)
          clear zr59
          refine zt_ior (pc' := 58) hX dX6_holders_57 rfl (fun r60 zr60 lr60 ur60 => ?_)
          clear zr60
          refine zt_istore_n (pc' := 59) (lv' := [some (.ref (X.1.1 + 153)), some (.int (zI r60)), some (.int (zI x11))]) hX dX6_holders_58 rfl hL (by decide) rfl ?_
          exact J_59_36 r60 s50 (by omega) (by omega) hI53 (by omega)
  exact L_8_16 _ 0 0 s2 (by omega) (by omega) (by omega) (by omega) hI5 (by omega) (Nat.lt_succ_self _)

set_option maxRecDepth 100000 in
set_option maxHeartbeats 4000000 in
theorem zc_X6_hasLoads (l : Launch) (E : zEN) (σ : zSto) (hI : zInv σ)  : zCt l E yX6_hasLoads cX6_hasLoads 2 (some .boolean) 0 zNC zNC 0 0 σ [.ref (E.1 + 153)] (fun r σ' => σ = σ' ∧ 0 ≤ r ∧ r ≤ 1) := by
  refine zCt_of2 [some (.ref (E.1 + 153)), none] (by decide +kernel) (Nat.le_of_ble_eq_true rfl) rfl ?_
  intro X hE hX hR hL hN
  subst hE
  have hX : zok X cX6_hasLoads RX6 0 := hX
  refine zt_aload_n (pc' := 1) hX dX6_hasLoads_0 rfl rfl ?_
  have b1 := zv_35_10 hI zc_153
  refine zt_get (pc' := 4) (v := .int (zI (σ 153 10))) hX dX6_hasLoads_1 rfl zf_X6_41 (by decide) zc_153 zs_35 rfl ?_
  refine zt_aload_n (pc' := 5) hX dX6_hasLoads_4 rfl rfl ?_
  obtain ⟨k2, ek3, hk4⟩ := zv_35_7 hI zc_153
  refine zt_get (pc' := 8) (v := .ref (X.1.1 + k2)) hX dX6_hasLoads_5 rfl zf_X6_58 (by decide) zc_153 zs_35 (zrf_of ek3) ?_
  have b5 := zv_22_5 hI hk4
  refine zt_get (pc' := 11) (v := .int (zI (σ k2 5))) hX dX6_hasLoads_8 rfl zf_X6_114 (zro_lt hk4 (by decide)) hk4 zs_22 rfl ?_
  have J_37_8 : ∀ (y6 : Int), 0 ≤ y6 → y6 ≤ 1 → zF X σ 37 [some (.ref (X.1.1 + 153)), none] [.int (zI y6)] := by
    intro y6 h7 h8
    refine zt_istore_n (pc' := 38) (lv' := [some (.ref (X.1.1 + 153)), some (.int (zI y6))]) hX dX6_hasLoads_37 rfl hL (by decide) rfl ?_
    refine zt_iload_n (pc' := 39) hX dX6_hasLoads_38 rfl rfl ?_
    refine zt_ifeq (pc' := 42) (tgt := 61) hX dX6_hasLoads_39 rfl (by decide) ⟨by omega, by omega⟩ (fun c10 => ?_) (fun c10 => ?_)
    · refine zt_iconst (pc' := 62) hX dX6_hasLoads_61 rfl ?_
      exact zt_zret hX hR dX6_hasLoads_62 ⟨by omega, by omega⟩ ⟨rfl, by omega, by omega⟩
    · refine zt_aload_n (pc' := 43) hX dX6_hasLoads_42 rfl rfl ?_
      have b11 := zv_35_11 hI zc_153
      refine zt_get (pc' := 46) (v := .long (zJ (σ 153 11))) hX dX6_hasLoads_43 rfl zf_X6_44 (by decide) zc_153 zs_35 rfl ?_
      refine zt_aload_n (pc' := 47) hX dX6_hasLoads_46 rfl rfl ?_
      refine zt_get (pc' := 50) (v := .ref (X.1.1 + k2)) hX dX6_hasLoads_47 rfl zf_X6_58 (by decide) zc_153 zs_35 (zrf_of ek3) ?_
      have b12 := zv_22_6 hI hk4
      refine zt_get (pc' := 53) (v := .long (zJ (σ k2 6))) hX dX6_hasLoads_50 rfl zf_X6_117 (zro_lt hk4 (by decide)) hk4 zs_22 rfl ?_
      refine zt_lcmp (pc' := 54) hX dX6_hasLoads_53 rfl ⟨by omega, by omega⟩ ⟨by omega, by omega⟩ (fun r13 er13 => ?_)
      refine zt_ifne (pc' := 57) (tgt := 61) hX dX6_hasLoads_54 rfl (by decide) ⟨by omega, by omega⟩ (fun c14 => ?_) (fun c14 => ?_)
      · refine zt_iconst (pc' := 62) hX dX6_hasLoads_61 rfl ?_
        exact zt_zret hX hR dX6_hasLoads_62 ⟨by omega, by omega⟩ ⟨rfl, by omega, by omega⟩
      · refine zt_iconst (pc' := 58) hX dX6_hasLoads_57 rfl ?_
        refine zt_goto (tgt := 62) hX dX6_hasLoads_58 (by decide) ?_
        exact zt_zret hX hR dX6_hasLoads_62 ⟨by omega, by omega⟩ ⟨rfl, by omega, by omega⟩
  have J_32_14 : zF X σ 32 [some (.ref (X.1.1 + 153)), none] [] := by
    refine zt_iconst (pc' := 33) hX dX6_hasLoads_32 rfl ?_
    refine zt_goto (tgt := 37) hX dX6_hasLoads_33 (by decide) ?_
    exact J_37_8 1 (by omega) (by omega)
  refine zt_iceq (pc' := 14) (tgt := 32) hX dX6_hasLoads_11 rfl (by decide) ⟨by omega, by omega⟩ ⟨by omega, by omega⟩ (fun c16 => ?_) (fun c16 => ?_)
  · exact J_32_14
  · refine zt_aload_n (pc' := 15) hX dX6_hasLoads_14 rfl rfl ?_
    refine zt_get (pc' := 18) (v := .int (zI (σ 153 10))) hX dX6_hasLoads_15 rfl zf_X6_41 (by decide) zc_153 zs_35 rfl ?_
    refine zt_iconst (pc' := 19) hX dX6_hasLoads_18 rfl ?_
    have J_36_16 : zF X σ 36 [some (.ref (X.1.1 + 153)), none] [] := by
      refine zt_iconst (pc' := 37) hX dX6_hasLoads_36 rfl ?_
      exact J_37_8 0 (by omega) (by omega)
    refine zt_iceq (pc' := 22) (tgt := 36) hX dX6_hasLoads_19 rfl (by decide) ⟨by omega, by omega⟩ ⟨by omega, by omega⟩ (fun c18 => ?_) (fun c18 => ?_)
    · exact J_36_16
    · refine zt_aload_n (pc' := 23) hX dX6_hasLoads_22 rfl rfl ?_
      obtain ⟨k19, ek20, hk21⟩ := zv_35_6 hI zc_153
      refine zt_get (pc' := 26) (v := .ref (X.1.1 + k19)) hX dX6_hasLoads_23 rfl zf_X6_54 (by decide) zc_153 zs_35 (zrf_of ek20) ?_
      have b22 := zv_8_9 hI hk21
      refine zt_get (pc' := 29) (v := .int (zI (σ k19 9))) hX dX6_hasLoads_26 rfl zf_X6_167 (zro_lt hk21 (by decide)) hk21 zs_8 rfl ?_
      refine zt_ifne (pc' := 32) (tgt := 36) hX dX6_hasLoads_29 rfl (by decide) ⟨by omega, by omega⟩ (fun c23 => ?_) (fun c23 => ?_)
      · exact J_36_16
      · exact J_32_14

set_option maxRecDepth 100000 in
set_option maxHeartbeats 4000000 in
theorem zc_X6_addLoad (l : Launch) (E : zEN) (σ : zSto) (hI : zInv σ) (a1_ : Int) (ha1_ : -1 ≤ a1_ ∧ a1_ ≤ 6) (a2_ : Int) (ha2_ : -1 ≤ a2_ ∧ a2_ ≤ 6) (a3_ : Int) (ha3_ : 0 ≤ a3_ ∧ a3_ ≤ 999) : zCt l E yX6_addLoad cX6_addLoad 4 none 1 zNC zNC 0 0 σ [.ref (E.1 + 153), .int (zI a1_), .int (zI a2_), .int (zI a3_)] (fun r σ' => zInv σ' ∧ zFE σ σ') := by
  refine zCt_of2 [some (.ref (E.1 + 153)), some (.int (zI a1_)), some (.int (zI a2_)), some (.int (zI a3_))] (by decide +kernel) (Nat.le_of_ble_eq_true rfl) rfl ?_
  intro X hE hX hR hL hN
  subst hE
  have hX : zok X cX6_addLoad RX6 1 := hX
  have hF := zFE_rf σ
  refine zt_aload_n (pc' := 1) hX dX6_addLoad_0 rfl rfl ?_
  obtain ⟨k1, ek2, hk3⟩ := zv_35_6 hI zc_153
  refine zt_get (pc' := 4) (v := .ref (X.1.1 + k1)) hX dX6_addLoad_1 rfl zf_X6_54 (by decide) zc_153 zs_35 (zrf_of ek2) ?_
  refine zt_iload_n (pc' := 5) hX dX6_addLoad_4 rfl rfl ?_
  refine zt_iload_n (pc' := 6) hX dX6_addLoad_5 rfl rfl ?_
  refine zt_cVz (pc' := 9) hX dX6_addLoad_6 rfl zm_yX3_hasCell zw_43_21 hk3 (by decide) zs_8 (q := (RX3, TX3, 17)) rfl rfl (zc_X3_hasCell _ _ σ hI k1 hk3 a1_ ⟨by omega, by omega⟩ a2_ ⟨by omega, by omega⟩) rfl rfl (Nat.le_of_ble_eq_true rfl) (by decide) (fun r4 s5 hr6 hp7 => ?_)
  obtain ⟨rfl, q8, q9, z10⟩ := hp7
  refine zt_ifeq (pc' := 12) (tgt := 30) hX dX6_addLoad_9 rfl (by decide) ⟨by omega, by omega⟩ (fun c11 => ?_) (fun c11 => ?_)
  · exact zt_vret hX hR dX6_addLoad_30 ⟨hI, hF⟩
  · refine zt_aload_n (pc' := 13) hX dX6_addLoad_12 rfl rfl ?_
    refine zt_get (pc' := 16) (v := .ref (X.1.1 + 161)) hX dX6_addLoad_13 rfl zf_X6_28 (by decide) zc_153 zs_35 (zrf_of (zv_35_4 hI zc_153)) ?_
    refine zt_aload_n (pc' := 17) hX dX6_addLoad_16 rfl rfl ?_
    refine zt_get (pc' := 20) (v := .ref (X.1.1 + k1)) hX dX6_addLoad_17 rfl zf_X6_54 (by decide) zc_153 zs_35 (zrf_of ek2) ?_
    refine zt_iload_n (pc' := 21) hX dX6_addLoad_20 rfl rfl ?_
    refine zt_iload_n (pc' := 22) hX dX6_addLoad_21 rfl rfl ?_
    refine zt_cVi (pc' := 25) hX dX6_addLoad_22 rfl zm_yX3_cellAt zw_35_5 hk3 (by decide) zs_8 (q := (RX3, TX3, 17)) rfl rfl (zc_X3_cellAt _ _ σ hI k1 hk3 a1_ ⟨by omega, by omega⟩ a2_ ⟨by omega, by omega⟩) rfl rfl (Nat.le_of_ble_eq_true rfl) (by decide) (fun r12 s13 hr14 hp15 => ?_)
    obtain ⟨rfl, q16, q17, z18⟩ := hp15
    refine zt_dup2 (pc' := 26) hX dX6_addLoad_25 rfl rfl rfl ?_
    refine zt_iald (pc' := 27) hX dX6_addLoad_26 rfl (by decide) zc_161 zs_43 (by decide) ⟨by omega, by omega⟩ ?_
    generalize hv19 : σ 161 (r12.toNat) = v19
    have bv19 : -2147483648 ≤ v19 ∧ v19 ≤ 2147483647 := hv19 ▸ zv_43 hI zc_161 _
    refine zt_iload_n (pc' := 28) hX dX6_addLoad_27 rfl rfl ?_
    refine zt_iadd (pc' := 29) hX dX6_addLoad_28 rfl ?_
    refine zt_wrap (fun r20 zr20 lr20 ur20 => ?_)
    clear zr20
    refine zt_iast (pc' := 30) hX dX6_addLoad_29 rfl (by decide) zc_161 zs_43 (by decide) ⟨by omega, by omega⟩ ?_
    generalize hs22 : zset σ 161 (r12.toNat) r20 = s21
    have hI23 : zInv s21 := hs22 ▸ zp_43 hI zc_161 (r12.toNat) ⟨by omega, by omega⟩
    have hF24 : zFE σ s21 := hs22 ▸ zFE_set hF zc_161 (by decide) zke_43 (Or.inl (by decide)) (Or.inl (by decide))
    exact zt_vret hX hR dX6_addLoad_30 ⟨hI23, hF24⟩

set_option maxRecDepth 100000 in
set_option maxHeartbeats 4000000 in
theorem zc_X6_loadNeighbours (l : Launch) (E : zEN) (σ : zSto) (hI : zInv σ) (a1_ : Int) (ha1_ : 0 ≤ a1_ ∧ a1_ ≤ 5) (a2_ : Int) (ha2_ : 0 ≤ a2_ ∧ a2_ ≤ 5) (a3_ : Int) (ha3_ : -2147483648 ≤ a3_ ∧ a3_ ≤ 2147483647) : zCt l E yX6_loadNeighbours cX6_loadNeighbours 5 none 2 zNC zNC 0 0 σ [.ref (E.1 + 153), .int (zI a1_), .int (zI a2_), .int (zI a3_)] (fun r σ' => zInv σ' ∧ zFE σ σ') := by
  refine zCt_of2 [some (.ref (E.1 + 153)), some (.int (zI a1_)), some (.int (zI a2_)), some (.int (zI a3_)), none] (by decide +kernel) (Nat.le_of_ble_eq_true rfl) rfl ?_
  intro X hE hX hR hL hN
  subst hE
  have hX : zok X cX6_loadNeighbours RX6 2 := hX
  have hF := zFE_rf σ
  refine zt_iconst (pc' := 1) hX dX6_loadNeighbours_0 rfl ?_
  refine zt_sipush (pc' := 4) hX dX6_loadNeighbours_1 rfl (by decide) (by decide) ?_
  refine zt_iload_n (pc' := 5) hX dX6_loadNeighbours_4 rfl rfl ?_
  refine zt_mmin (pc' := 8) hX (by decide) dX6_loadNeighbours_5 rfl zw_43_16 zw_36_23 zw_34_21 zw_37_0 (Nat.le_of_ble_eq_true rfl) ⟨Nat.zero_le _, Nat.zero_le _⟩ ⟨by omega, by omega⟩ ⟨by omega, by omega⟩ (fun r1 er1 => ?_)
  refine zt_mmax (pc' := 11) hX (by decide) dX6_loadNeighbours_8 rfl zw_35_12 zw_35_13 zw_34_21 zw_35_14 (Nat.le_of_ble_eq_true rfl) ⟨Nat.zero_le _, Nat.zero_le _⟩ ⟨by omega, by omega⟩ ⟨by omega, by omega⟩ (fun r2 er2 => ?_)
  refine zt_istore (pc' := 13) (lv' := [some (.ref (X.1.1 + 153)), some (.int (zI a1_)), some (.int (zI a2_)), some (.int (zI a3_)), some (.int (zI r2))]) hX dX6_loadNeighbours_11 rfl hL (by decide) rfl ?_
  refine zt_aload_n (pc' := 14) hX dX6_loadNeighbours_13 rfl rfl ?_
  refine zt_iload_n (pc' := 15) hX dX6_loadNeighbours_14 rfl rfl ?_
  refine zt_iconst (pc' := 16) hX dX6_loadNeighbours_15 rfl ?_
  refine zt_isub (pc' := 17) hX dX6_loadNeighbours_16 rfl ?_
  refine zt_iload_n (pc' := 18) hX dX6_loadNeighbours_17 rfl rfl ?_
  refine zt_iload (pc' := 20) hX dX6_loadNeighbours_18 rfl rfl ?_
  refine zt_cVv (pc' := 23) hX dX6_loadNeighbours_20 rfl zm_yX6_addLoad zw_43_17 zc_153 (by decide) zs_35 (q := (RX6, TX6, 14)) rfl rfl (zc_X6_addLoad _ _ σ hI (a1_ - 1) ⟨by omega, by omega⟩ a2_ ⟨by omega, by omega⟩ r2 ⟨by omega, by omega⟩) rfl rfl (Nat.le_of_ble_eq_true rfl) (by decide) (fun r3 s4 hr5 hp6 => ?_)
  obtain ⟨hI7, hF8⟩ := hp6
  have hF9 := zFE_tr hF hF8
  refine zt_aload_n (pc' := 24) hX dX6_loadNeighbours_23 rfl rfl ?_
  refine zt_iload_n (pc' := 25) hX dX6_loadNeighbours_24 rfl rfl ?_
  refine zt_iconst (pc' := 26) hX dX6_loadNeighbours_25 rfl ?_
  refine zt_iadd (pc' := 27) hX dX6_loadNeighbours_26 rfl ?_
  refine zt_iload_n (pc' := 28) hX dX6_loadNeighbours_27 rfl rfl ?_
  refine zt_iload (pc' := 30) hX dX6_loadNeighbours_28 rfl rfl ?_
  refine zt_cVv (pc' := 33) hX dX6_loadNeighbours_30 rfl zm_yX6_addLoad zw_43_17 zc_153 (by decide) zs_35 (q := (RX6, TX6, 14)) rfl rfl (zc_X6_addLoad _ _ s4 hI7 (a1_ + 1) ⟨by omega, by omega⟩ a2_ ⟨by omega, by omega⟩ r2 ⟨by omega, by omega⟩) rfl rfl (Nat.le_of_ble_eq_true rfl) (by decide) (fun r10 s11 hr12 hp13 => ?_)
  obtain ⟨hI14, hF15⟩ := hp13
  have hF16 := zFE_tr hF9 hF15
  refine zt_aload_n (pc' := 34) hX dX6_loadNeighbours_33 rfl rfl ?_
  refine zt_iload_n (pc' := 35) hX dX6_loadNeighbours_34 rfl rfl ?_
  refine zt_iload_n (pc' := 36) hX dX6_loadNeighbours_35 rfl rfl ?_
  refine zt_iconst (pc' := 37) hX dX6_loadNeighbours_36 rfl ?_
  refine zt_isub (pc' := 38) hX dX6_loadNeighbours_37 rfl ?_
  refine zt_iload (pc' := 40) hX dX6_loadNeighbours_38 rfl rfl ?_
  refine zt_cVv (pc' := 43) hX dX6_loadNeighbours_40 rfl zm_yX6_addLoad zw_43_17 zc_153 (by decide) zs_35 (q := (RX6, TX6, 14)) rfl rfl (zc_X6_addLoad _ _ s11 hI14 a1_ ⟨by omega, by omega⟩ (a2_ - 1) ⟨by omega, by omega⟩ r2 ⟨by omega, by omega⟩) rfl rfl (Nat.le_of_ble_eq_true rfl) (by decide) (fun r17 s18 hr19 hp20 => ?_)
  obtain ⟨hI21, hF22⟩ := hp20
  have hF23 := zFE_tr hF16 hF22
  refine zt_aload_n (pc' := 44) hX dX6_loadNeighbours_43 rfl rfl ?_
  refine zt_iload_n (pc' := 45) hX dX6_loadNeighbours_44 rfl rfl ?_
  refine zt_iload_n (pc' := 46) hX dX6_loadNeighbours_45 rfl rfl ?_
  refine zt_iconst (pc' := 47) hX dX6_loadNeighbours_46 rfl ?_
  refine zt_iadd (pc' := 48) hX dX6_loadNeighbours_47 rfl ?_
  refine zt_iload (pc' := 50) hX dX6_loadNeighbours_48 rfl rfl ?_
  refine zt_cVv (pc' := 53) hX dX6_loadNeighbours_50 rfl zm_yX6_addLoad zw_43_17 zc_153 (by decide) zs_35 (q := (RX6, TX6, 14)) rfl rfl (zc_X6_addLoad _ _ s18 hI21 a1_ ⟨by omega, by omega⟩ (a2_ + 1) ⟨by omega, by omega⟩ r2 ⟨by omega, by omega⟩) rfl rfl (Nat.le_of_ble_eq_true rfl) (by decide) (fun r24 s25 hr26 hp27 => ?_)
  obtain ⟨hI28, hF29⟩ := hp27
  have hF30 := zFE_tr hF23 hF29
  exact zt_vret hX hR dX6_loadNeighbours_53 ⟨hI28, hF30⟩

set_option maxRecDepth 100000 in
set_option maxHeartbeats 4000000 in
theorem zc_X6_measureLoads (l : Launch) (E : zEN) (σ : zSto) (hI : zInv σ)  : zCt l E yX6_measureLoads cX6_measureLoads 6 none 3 zNC zNC 0 0 σ [.ref (E.1 + 153)] (fun r σ' => zInv σ' ∧ zFE σ σ') := by
  refine zCt_of2 [some (.ref (E.1 + 153)), none, none, none, none, none] (by decide +kernel) (Nat.le_of_ble_eq_true rfl) rfl ?_
  intro X hE hX hR hL hN
  subst hE
  have hX : zok X cX6_measureLoads RX6 3 := hX
  have hF := zFE_rf σ
  refine zt_aload_n (pc' := 1) hX dX6_measureLoads_0 rfl rfl ?_
  refine zt_aload_n (pc' := 2) hX dX6_measureLoads_1 rfl rfl ?_
  obtain ⟨k1, ek2, hk3⟩ := zv_35_7 hI zc_153
  refine zt_get (pc' := 5) (v := .ref (X.1.1 + k1)) hX dX6_measureLoads_2 rfl zf_X6_58 (by decide) zc_153 zs_35 (zrf_of ek2) ?_
  have b4 := zv_22_5 hI hk3
  refine zt_get (pc' := 8) (v := .int (zI (σ k1 5))) hX dX6_measureLoads_5 rfl zf_X6_114 (zro_lt hk3 (by decide)) hk3 zs_22 rfl ?_
  refine zt_put (pc' := 11) (x := (σ k1 5)) hX dX6_measureLoads_8 rfl zf_X6_41 (by decide) zc_153 zs_35 (fun q hq => by cases hq; rfl) rfl rfl rfl ?_
  generalize hs6 : zset σ 153 10 (σ k1 5) = s5
  have hI7 : zInv s5 := hs6 ▸ zp_35_10 hI zc_153 ⟨by omega, by omega⟩
  have hF8 : zFE σ s5 := hs6 ▸ zFE_set hF zc_153 (by decide) zke_35 (Or.inl (by decide)) (Or.inl (by decide))
  refine zt_aload_n (pc' := 12) hX dX6_measureLoads_11 rfl rfl ?_
  refine zt_aload_n (pc' := 13) hX dX6_measureLoads_12 rfl rfl ?_
  have e12 : s5 153 7 = σ 153 7 := by rw [← hs6]; exact zset_j (by decide)
  have ek10 : s5 153 7 = ((k1 : Nat) : Int) := by omega
  refine zt_get (pc' := 16) (v := .ref (X.1.1 + k1)) hX dX6_measureLoads_13 rfl zf_X6_58 (by decide) zc_153 zs_35 (zrf_of ek10) ?_
  have b13 := zv_22_6 hI7 hk3
  have e14 : s5 k1 6 = σ k1 6 := by rw [← hs6]; exact zset_k (zne_r hk3 zc_153 (by decide))
  refine zt_get (pc' := 19) (v := .long (zJ (s5 k1 6))) hX dX6_measureLoads_16 rfl zf_X6_117 (zro_lt hk3 (by decide)) hk3 zs_22 rfl ?_
  refine zt_put (pc' := 22) (x := (s5 k1 6)) hX dX6_measureLoads_19 rfl zf_X6_44 (by decide) zc_153 zs_35 (fun q hq => by cases hq; rfl) rfl rfl rfl ?_
  generalize hs16 : zset s5 153 11 (s5 k1 6) = s15
  have hI17 : zInv s15 := hs16 ▸ zp_35_11 hI7 zc_153 ⟨by omega, by omega⟩
  have hF18 : zFE σ s15 := hs16 ▸ zFE_set hF8 zc_153 (by decide) zke_35 (Or.inl (by decide)) (Or.inl (by decide))
  refine zt_iconst (pc' := 23) hX dX6_measureLoads_22 rfl ?_
  refine zt_istore_n (pc' := 24) (lv' := [some (.ref (X.1.1 + 153)), some (.int (zI 0)), none, none, none, none]) hX dX6_measureLoads_23 rfl hL (by decide) rfl ?_
  have L_24_24 : ∀ (N : Nat) (x19 : Int) (s22 : zSto), 0 ≤ x19 → x19 ≤ 36 → zInv s22 → zFE σ s22 → ((37 - x19).toNat) < N → zF X s22 24 [some (.ref (X.1.1 + 153)), some (.int (zI x19)), none, none, none, none] [] := by
    intro N
    induction N with
    | zero =>
      intro x19 s22 h20 h21 hI23 hF24 hm26
      exact absurd hm26 (Nat.not_lt_zero _)
    | succ N ih27 =>
      intro x19 s22 h20 h21 hI23 hF24 hm26
      refine zt_iload_n (pc' := 25) hX dX6_measureLoads_24 rfl rfl ?_
      refine zt_aload_n (pc' := 26) hX dX6_measureLoads_25 rfl rfl ?_
      obtain ⟨k28, ek29, hk30⟩ := zv_35_6 hI23 zc_153
      refine zt_get (pc' := 29) (v := .ref (X.1.1 + k28)) hX dX6_measureLoads_26 rfl zf_X6_54 (by decide) zc_153 zs_35 (zrf_of ek29) ?_
      refine zt_cVi (pc' := 32) hX dX6_measureLoads_29 rfl zm_yX3_cells zw_43_7 hk30 (by decide) zs_8 (q := (RX3, TX3, 17)) rfl rfl (zc_X3_cells _ _ s22 hI23 k28 hk30) rfl rfl (Nat.le_of_ble_eq_true rfl) (by decide) (fun r31 s32 hr33 hp34 => ?_)
      obtain ⟨rfl, q35, q36⟩ := hp34
      refine zt_icge (pc' := 35) (tgt := 56) hX dX6_measureLoads_32 rfl (by decide) ⟨by omega, by omega⟩ ⟨by omega, by omega⟩ (fun c37 => ?_) (fun c37 => ?_)
      · refine zt_aload_n (pc' := 57) hX dX6_measureLoads_56 rfl rfl ?_
        refine zt_cVv (pc' := 60) hX dX6_measureLoads_57 rfl zm_yX6_showTime zw_35_21 zc_153 (by decide) zs_35 (q := (RX6, TX6, 14)) rfl rfl (zc_X6_showTime _ _ s22 hI23 ) rfl rfl (Nat.le_of_ble_eq_true rfl) (by decide) (fun r38 s39 hr40 hp41 => ?_)
        obtain ⟨hI42, hF43⟩ := hp41
        have hF44 := zFE_tr hF24 hF43
        refine zt_iconst (pc' := 61) hX dX6_measureLoads_60 rfl ?_
        refine zt_istore_n (pc' := 62) (lv' := [some (.ref (X.1.1 + 153)), some (.int (zI (-1))), none, none, none, none]) hX dX6_measureLoads_61 rfl hL (by decide) rfl ?_
        refine zt_iconst (pc' := 63) hX dX6_measureLoads_62 rfl ?_
        refine zt_istore_n (pc' := 64) (lv' := [some (.ref (X.1.1 + 153)), some (.int (zI (-1))), some (.int (zI 0)), none, none, none]) hX dX6_measureLoads_63 rfl hL (by decide) rfl ?_
        refine zt_iconst (pc' := 65) hX dX6_measureLoads_64 rfl ?_
        refine zt_istore_n (pc' := 66) (lv' := [some (.ref (X.1.1 + 153)), some (.int (zI (-1))), some (.int (zI 0)), some (.int (zI 0)), none, none]) hX dX6_measureLoads_65 rfl hL (by decide) rfl ?_
        have L_66_56 : ∀ (N : Nat) (x45 : Int) (x48 : Int) (x51 : Int) (s54 : zSto), -1 ≤ x45 → x45 ≤ 99 → -2147483648 ≤ x48 → x48 ≤ 2147483647 → 0 ≤ x51 → x51 ≤ 6 → zInv s54 → zFE σ s54 → ((7 - x51).toNat) < N → zF X s54 66 [some (.ref (X.1.1 + 153)), some (.int (zI x45)), some (.int (zI x48)), some (.int (zI x51)), none, none] [] := by
          intro N
          induction N with
          | zero =>
            intro x45 x48 x51 s54 h46 h47 h49 h50 h52 h53 hI55 hF56 hm58
            exact absurd hm58 (Nat.not_lt_zero _)
          | succ N ih59 =>
            intro x45 x48 x51 s54 h46 h47 h49 h50 h52 h53 hI55 hF56 hm58
            refine zt_iload_n (pc' := 67) hX dX6_measureLoads_66 rfl rfl ?_
            refine zt_aload_n (pc' := 68) hX dX6_measureLoads_67 rfl rfl ?_
            obtain ⟨k60, ek61, hk62⟩ := zv_35_6 hI55 zc_153
            refine zt_get (pc' := 71) (v := .ref (X.1.1 + k60)) hX dX6_measureLoads_68 rfl zf_X6_54 (by decide) zc_153 zs_35 (zrf_of ek61) ?_
            have b63 := zv_8_11 hI55 hk62
            refine zt_get (pc' := 74) (v := .int (zI (s54 k60 11))) hX dX6_measureLoads_71 rfl zf_X6_87 (zro_lt hk62 (by decide)) hk62 zs_8 rfl ?_
            refine zt_icge (pc' := 77) (tgt := 199) hX dX6_measureLoads_74 rfl (by decide) ⟨by omega, by omega⟩ ⟨by omega, by omega⟩ (fun c64 => ?_) (fun c64 => ?_)
            · exact zt_vret hX hR dX6_measureLoads_199 ⟨hI55, hF56⟩
            · refine zt_aload_n (pc' := 78) hX dX6_measureLoads_77 rfl rfl ?_
              obtain ⟨k65, ek66, hk67⟩ := zv_35_7 hI55 zc_153
              refine zt_get (pc' := 81) (v := .ref (X.1.1 + k65)) hX dX6_measureLoads_78 rfl zf_X6_58 (by decide) zc_153 zs_35 (zrf_of ek66) ?_
              have b68 := zv_22_6 hI55 hk67
              refine zt_get (pc' := 84) (v := .long (zJ (s54 k65 6))) hX dX6_measureLoads_81 rfl zf_X6_117 (zro_lt hk67 (by decide)) hk67 zs_22 rfl ?_
              refine zt_lconst (pc' := 85) (y := 0) hX dX6_measureLoads_84 rfl (by decide +kernel) ?_
              refine zt_lcmp (pc' := 86) hX dX6_measureLoads_85 rfl ⟨by omega, by omega⟩ ⟨by omega, by omega⟩ (fun r69 er69 => ?_)
              refine zt_ifeq (pc' := 89) (tgt := 199) hX dX6_measureLoads_86 rfl (by decide) ⟨by omega, by omega⟩ (fun c70 => ?_) (fun c70 => ?_)
              · exact zt_vret hX hR dX6_measureLoads_199 ⟨hI55, hF56⟩
              · refine zt_iconst (pc' := 90) hX dX6_measureLoads_89 rfl ?_
                refine zt_istore (pc' := 92) (lv' := [some (.ref (X.1.1 + 153)), some (.int (zI x45)), some (.int (zI x48)), some (.int (zI x51)), some (.int (zI 0)), none]) hX dX6_measureLoads_90 rfl hL (by decide) rfl ?_
                have L_92_82 : ∀ (N : Nat) (x71 : Int) (x74 : Int) (x77 : Int) (s80 : zSto), -1 ≤ x71 → x71 ≤ 99 → -2147483648 ≤ x74 → x74 ≤ 2147483647 → 0 ≤ x77 → x77 ≤ 6 → zInv s80 → zFE σ s80 → ((7 - x77).toNat) < N → zF X s80 92 [some (.ref (X.1.1 + 153)), some (.int (zI x71)), some (.int (zI x74)), some (.int (zI x51)), some (.int (zI x77)), none] [] := by
                  intro N
                  induction N with
                  | zero =>
                    intro x71 x74 x77 s80 h72 h73 h75 h76 h78 h79 hI81 hF82 hm84
                    exact absurd hm84 (Nat.not_lt_zero _)
                  | succ N ih85 =>
                    intro x71 x74 x77 s80 h72 h73 h75 h76 h78 h79 hI81 hF82 hm84
                    refine zt_iload (pc' := 94) hX dX6_measureLoads_92 rfl rfl ?_
                    refine zt_aload_n (pc' := 95) hX dX6_measureLoads_94 rfl rfl ?_
                    obtain ⟨k86, ek87, hk88⟩ := zv_35_6 hI81 zc_153
                    refine zt_get (pc' := 98) (v := .ref (X.1.1 + k86)) hX dX6_measureLoads_95 rfl zf_X6_54 (by decide) zc_153 zs_35 (zrf_of ek87) ?_
                    have b89 := zv_8_10 hI81 hk88
                    refine zt_get (pc' := 101) (v := .int (zI (s80 k86 10))) hX dX6_measureLoads_98 rfl zf_X6_90 (zro_lt hk88 (by decide)) hk88 zs_8 rfl ?_
                    refine zt_icge (pc' := 104) (tgt := 193) hX dX6_measureLoads_101 rfl (by decide) ⟨by omega, by omega⟩ ⟨by omega, by omega⟩ (fun c90 => ?_) (fun c90 => ?_)
                    · refine zt_iinc (pc' := 196) (lv' := [some (.ref (X.1.1 + 153)), some (.int (zI x71)), some (.int (zI x74)), some (.int (zI (x51 + 1))), some (.int (zI x77)), none]) hX dX6_measureLoads_193 rfl rfl hL (by decide) rfl ?_
                      refine zt_goto (tgt := 66) hX dX6_measureLoads_196 (by decide) ?_
                      refine zt_mask [true, true, true, true, false, false] rfl ?_
                      exact ih59 x71 x74 (x51 + 1) s80 (by omega) (by omega) (by omega) (by omega) (by omega) (by omega) hI81 (by omega) (by omega)
                    · refine zt_aload_n (pc' := 105) hX dX6_measureLoads_104 rfl rfl ?_
                      refine zt_get (pc' := 108) (v := .ref (X.1.1 + k86)) hX dX6_measureLoads_105 rfl zf_X6_54 (by decide) zc_153 zs_35 (zrf_of ek87) ?_
                      refine zt_iload (pc' := 110) hX dX6_measureLoads_108 rfl rfl ?_
                      refine zt_iload_n (pc' := 111) hX dX6_measureLoads_110 rfl rfl ?_
                      refine zt_cVi (pc' := 114) hX dX6_measureLoads_111 rfl zm_yX3_cellAt zw_35_5 hk88 (by decide) zs_8 (q := (RX3, TX3, 17)) rfl rfl (zc_X3_cellAt _ _ s80 hI81 k86 hk88 x77 ⟨by omega, by omega⟩ x51 ⟨by omega, by omega⟩) rfl rfl (Nat.le_of_ble_eq_true rfl) (by decide) (fun r91 s92 hr93 hp94 => ?_)
                      obtain ⟨rfl, q95, q96, z97⟩ := hp94
                      refine zt_istore (pc' := 116) (lv' := [some (.ref (X.1.1 + 153)), some (.int (zI x71)), some (.int (zI x74)), some (.int (zI x51)), some (.int (zI x77)), some (.int (zI r91))]) hX dX6_measureLoads_114 rfl hL (by decide) rfl ?_
                      refine zt_aload_n (pc' := 117) hX dX6_measureLoads_116 rfl rfl ?_
                      obtain ⟨k98, ek99, hk100⟩ := zv_35_7 hI81 zc_153
                      refine zt_get (pc' := 120) (v := .ref (X.1.1 + k98)) hX dX6_measureLoads_117 rfl zf_X6_58 (by decide) zc_153 zs_35 (zrf_of ek99) ?_
                      refine zt_iload (pc' := 122) hX dX6_measureLoads_120 rfl rfl ?_
                      refine zt_cVz (pc' := 125) hX dX6_measureLoads_122 rfl zm_yX10_isCracked zw_43_11 hk100 (by decide) zs_22 (q := (RX10, TX10, 8)) rfl rfl (zc_X10_isCracked _ _ s80 hI81 k98 hk100 r91 ⟨by omega, by omega⟩) rfl rfl (Nat.le_of_ble_eq_true rfl) (by decide) (fun r101 s102 hr103 hp104 => ?_)
                      obtain ⟨rfl, q105, q106⟩ := hp104
                      have J_187_115 : ∀ (x107 : Int) (x110 : Int) (s113 : zSto), -1 ≤ x107 → x107 ≤ 99 → -2147483648 ≤ x110 → x110 ≤ 2147483647 → zInv s113 → zFE σ s113 → zF X s113 187 [some (.ref (X.1.1 + 153)), some (.int (zI x107)), some (.int (zI x110)), some (.int (zI x51)), some (.int (zI x77)), none] [] := by
                        intro x107 x110 s113 h108 h109 h111 h112 hI114 hF115
                        refine zt_iinc (pc' := 190) (lv' := [some (.ref (X.1.1 + 153)), some (.int (zI x107)), some (.int (zI x110)), some (.int (zI x51)), some (.int (zI (x77 + 1))), none]) hX dX6_measureLoads_187 rfl rfl hL (by decide) rfl ?_
                        refine zt_goto (tgt := 92) hX dX6_measureLoads_190 (by decide) ?_
                        exact ih85 x107 x110 (x77 + 1) s113 (by omega) (by omega) (by omega) (by omega) (by omega) (by omega) hI114 (by omega) (by omega)
                      refine zt_ifeq (pc' := 128) (tgt := 187) hX dX6_measureLoads_125 rfl (by decide) ⟨by omega, by omega⟩ (fun c117 => ?_) (fun c117 => ?_)
                      · refine zt_mask [true, true, true, true, true, false] rfl ?_
                        exact J_187_115 x71 x74 s80 (by omega) (by omega) (by omega) (by omega) hI81 (by omega)
                      · refine zt_aload_n (pc' := 129) hX dX6_measureLoads_128 rfl rfl ?_
                        refine zt_get (pc' := 132) (v := .ref (X.1.1 + k86)) hX dX6_measureLoads_129 rfl zf_X6_54 (by decide) zc_153 zs_35 (zrf_of ek87) ?_
                        refine zt_get (pc' := 135) (v := .ref (X.1.1 + (k86 + 1))) hX dX6_measureLoads_132 rfl zf_X6_171 (zro_lt hk88 (by decide)) hk88 zs_8 (zrf_of (zv_8_0 hI81 hk88)) ?_
                        refine zt_iload (pc' := 137) hX dX6_measureLoads_135 rfl rfl ?_
                        refine zt_iald (pc' := 138) hX dX6_measureLoads_137 rfl (zro_lt (zo_8_0 hk88) (by decide)) (zo_8_0 hk88) zs_9 (by decide) ⟨by omega, by omega⟩ ?_
                        generalize hv118 : s80 (k86 + 1) (r91.toNat) = v118
                        have bv118 : 0 ≤ v118 ∧ v118 ≤ 99 := hv118 ▸ zv_9 hI81 (zo_8_0 hk88) _
                        refine zt_iload_n (pc' := 139) hX dX6_measureLoads_138 rfl rfl ?_
                        have J_179_127 : ∀ (x119 : Int) (x122 : Int) (s125 : zSto), 0 ≤ x119 → x119 ≤ 99 → -2147483648 ≤ x122 → x122 ≤ 2147483647 → zInv s125 → zFE σ s125 → zF X s125 179 [some (.ref (X.1.1 + 153)), some (.int (zI x119)), some (.int (zI x122)), some (.int (zI x51)), some (.int (zI x77)), none] [] := by
                          intro x119 x122 s125 h120 h121 h123 h124 hI126 hF127
                          refine zt_aload_n (pc' := 180) hX dX6_measureLoads_179 rfl rfl ?_
                          refine zt_iload (pc' := 182) hX dX6_measureLoads_180 rfl rfl ?_
                          refine zt_iload_n (pc' := 183) hX dX6_measureLoads_182 rfl rfl ?_
                          refine zt_iload_n (pc' := 184) hX dX6_measureLoads_183 rfl rfl ?_
                          refine zt_cVv (pc' := 187) hX dX6_measureLoads_184 rfl zm_yX6_loadNeighbours zw_43_12 zc_153 (by decide) zs_35 (q := (RX6, TX6, 14)) rfl rfl (zc_X6_loadNeighbours _ _ s125 hI126 x77 ⟨by omega, by omega⟩ x51 ⟨by omega, by omega⟩ x122 ⟨by omega, by omega⟩) rfl rfl (Nat.le_of_ble_eq_true rfl) (by decide) (fun r129 s130 hr131 hp132 => ?_)
                          obtain ⟨hI133, hF134⟩ := hp132
                          have hF135 := zFE_tr hF127 hF134
                          exact J_187_115 x119 x122 s130 (by omega) (by omega) (by omega) (by omega) hI133 (by omega)
                        refine zt_iceq (pc' := 142) (tgt := 179) hX dX6_measureLoads_139 rfl (by decide) ⟨by omega, by omega⟩ ⟨by omega, by omega⟩ (fun c136 => ?_) (fun c136 => ?_)
                        · refine zt_mask [true, true, true, true, true, false] rfl ?_
                          exact J_179_127 x71 x74 s80 (by omega) (by omega) (by omega) (by omega) hI81 (by omega)
                        · refine zt_aload_n (pc' := 143) hX dX6_measureLoads_142 rfl rfl ?_
                          refine zt_get (pc' := 146) (v := .ref (X.1.1 + k86)) hX dX6_measureLoads_143 rfl zf_X6_54 (by decide) zc_153 zs_35 (zrf_of ek87) ?_
                          refine zt_get (pc' := 149) (v := .ref (X.1.1 + (k86 + 1))) hX dX6_measureLoads_146 rfl zf_X6_171 (zro_lt hk88 (by decide)) hk88 zs_8 (zrf_of (zv_8_0 hI81 hk88)) ?_
                          refine zt_iload (pc' := 151) hX dX6_measureLoads_149 rfl rfl ?_
                          refine zt_iald (pc' := 152) hX dX6_measureLoads_151 rfl (zro_lt (zo_8_0 hk88) (by decide)) (zo_8_0 hk88) zs_9 (by decide) ⟨by omega, by omega⟩ ?_
                          generalize hv137 : s80 (k86 + 1) (r91.toNat) = v137
                          have bv137 : 0 ≤ v137 ∧ v137 ≤ 99 := hv137 ▸ zv_9 hI81 (zo_8_0 hk88) _
                          refine zt_istore_n (pc' := 153) (lv' := [some (.ref (X.1.1 + 153)), some (.int (zI v137)), some (.int (zI x74)), some (.int (zI x51)), some (.int (zI x77)), some (.int (zI r91))]) hX dX6_measureLoads_152 rfl hL (by decide) rfl ?_
                          refine zt_aload_n (pc' := 154) hX dX6_measureLoads_153 rfl rfl ?_
                          refine zt_get (pc' := 157) (v := .ref (X.1.1 + 154)) hX dX6_measureLoads_154 rfl zf_X6_12 (by decide) zc_153 zs_35 (zrf_of (zv_35_0 hI81 zc_153)) ?_
                          refine zt_get (pc' := 160) (v := .ref (X.1.1 + 155)) hX dX6_measureLoads_157 rfl zf_X6_111 (by decide) zc_154 zs_36 (zrf_of (zv_36_0 hI81 zc_154)) ?_
                          refine zt_bipush (pc' := 162) hX dX6_measureLoads_160 rfl (by decide) (by decide) ?_
                          refine zt_iload_n (pc' := 163) hX dX6_measureLoads_162 rfl rfl ?_
                          refine zt_iast (pc' := 164) hX dX6_measureLoads_163 rfl (by decide) zc_155 zs_37 (by decide) ⟨by omega, by omega⟩ ?_
                          rw [show Int.toNat 14 = 14 from rfl]
                          generalize hs139 : zset s80 155 14 v137 = s138
                          have hI140 : zInv s138 := hs139 ▸ zp_37 hI81 zc_155 14 ⟨by omega, by omega⟩
                          have hF141 : zFE σ s138 := hs139 ▸ zFE_set hF82 zc_155 (by decide) zke_37 (Or.inl (by decide)) (Or.inl (by decide))
                          refine zt_aload_n (pc' := 165) hX dX6_measureLoads_164 rfl rfl ?_
                          refine zt_get (pc' := 168) (v := .ref (X.1.1 + 154)) hX dX6_measureLoads_165 rfl zf_X6_12 (by decide) zc_153 zs_35 (zrf_of (zv_35_0 hI140 zc_153)) ?_
                          refine zt_aload_n (pc' := 169) hX dX6_measureLoads_168 rfl rfl ?_
                          have e145 : s138 153 6 = s80 153 6 := by rw [← hs139]; exact zset_k (zne_r zc_153 zc_155 (by decide))
                          have ek143 : s138 153 6 = ((k86 : Nat) : Int) := by omega
                          refine zt_get (pc' := 172) (v := .ref (X.1.1 + k86)) hX dX6_measureLoads_169 rfl zf_X6_54 (by decide) zc_153 zs_35 (zrf_of ek143) ?_
                          refine zt_get (pc' := 175) (v := .ref (X.1.1 + (k86 + 6))) hX dX6_measureLoads_172 rfl zf_X6_178 (zro_lt hk88 (by decide)) hk88 zs_8 (zrf_of (zv_8_5 hI140 hk88)) ?_
                          refine zt_cVi (pc' := 178) hX dX6_measureLoads_175 rfl zm_yX0_run zw_36_10 zc_154 (by decide) zs_36 (q := (RX0, TX0, 4)) rfl rfl (zc_X0_run _ _ s138 hI140 (k86 + 6) (zo_8_5 hk88)) rfl rfl (Nat.le_of_ble_eq_true rfl) (by decide) (fun r146 s147 hr148 hp149 => ?_)
                          obtain ⟨hI150, hF151, q152, q153⟩ := hp149
                          have hF154 := zFE_tr hF141 hF151
                          refine zt_istore_n (pc' := 179) (lv' := [some (.ref (X.1.1 + 153)), some (.int (zI v137)), some (.int (zI r146)), some (.int (zI x51)), some (.int (zI x77)), some (.int (zI r91))]) hX dX6_measureLoads_178 rfl hL (by decide) rfl ?_
                          refine zt_mask [true, true, true, true, true, false] rfl ?_
                          exact J_179_127 v137 r146 s147 (by omega) (by omega) (by omega) (by omega) hI150 (by omega)
                exact L_92_82 _ x45 x48 0 s54 (by omega) (by omega) (by omega) (by omega) (by omega) (by omega) hI55 (by omega) (Nat.lt_succ_self _)
        exact L_66_56 _ (-1) 0 0 s39 (by omega) (by omega) (by omega) (by omega) (by omega) (by omega) hI42 (by omega) (Nat.lt_succ_self _)
      · refine zt_aload_n (pc' := 36) hX dX6_measureLoads_35 rfl rfl ?_
        refine zt_get (pc' := 39) (v := .ref (X.1.1 + 161)) hX dX6_measureLoads_36 rfl zf_X6_28 (by decide) zc_153 zs_35 (zrf_of (zv_35_4 hI23 zc_153)) ?_
        refine zt_iload_n (pc' := 40) hX dX6_measureLoads_39 rfl rfl ?_
        refine zt_aload_n (pc' := 41) hX dX6_measureLoads_40 rfl rfl ?_
        refine zt_get (pc' := 44) (v := .ref (X.1.1 + k28)) hX dX6_measureLoads_41 rfl zf_X6_54 (by decide) zc_153 zs_35 (zrf_of ek29) ?_
        refine zt_get (pc' := 47) (v := .ref (X.1.1 + (k28 + 1))) hX dX6_measureLoads_44 rfl zf_X6_171 (zro_lt hk30 (by decide)) hk30 zs_8 (zrf_of (zv_8_0 hI23 hk30)) ?_
        refine zt_iload_n (pc' := 48) hX dX6_measureLoads_47 rfl rfl ?_
        refine zt_iald (pc' := 49) hX dX6_measureLoads_48 rfl (zro_lt (zo_8_0 hk30) (by decide)) (zo_8_0 hk30) zs_9 (by decide) ⟨by omega, by omega⟩ ?_
        generalize hv155 : s22 (k28 + 1) (x19.toNat) = v155
        have bv155 : 0 ≤ v155 ∧ v155 ≤ 99 := hv155 ▸ zv_9 hI23 (zo_8_0 hk30) _
        refine zt_iast (pc' := 50) hX dX6_measureLoads_49 rfl (by decide) zc_161 zs_43 (by decide) ⟨by omega, by omega⟩ ?_
        generalize hs157 : zset s22 161 (x19.toNat) v155 = s156
        have hI158 : zInv s156 := hs157 ▸ zp_43 hI23 zc_161 (x19.toNat) ⟨by omega, by omega⟩
        have hF159 : zFE σ s156 := hs157 ▸ zFE_set hF24 zc_161 (by decide) zke_43 (Or.inl (by decide)) (Or.inl (by decide))
        refine zt_iinc (pc' := 53) (lv' := [some (.ref (X.1.1 + 153)), some (.int (zI (x19 + 1))), none, none, none, none]) hX dX6_measureLoads_50 rfl rfl hL (by decide) rfl ?_
        refine zt_goto (tgt := 24) hX dX6_measureLoads_53 (by decide) ?_
        exact ih27 (x19 + 1) s156 (by omega) (by omega) hI158 (by omega) (by omega)
  exact L_24_24 _ 0 s15 (by omega) (by omega) hI17 (by omega) (Nat.lt_succ_self _)

set_option maxRecDepth 100000 in
set_option maxHeartbeats 4000000 in
theorem zc_X6_measureLifted (l : Launch) (E : zEN) (σ : zSto) (hI : zInv σ) (a1_ : Int) (ha1_ : -2147483648 ≤ a1_ ∧ a1_ ≤ 2147483647) : zCt l E yX6_measureLifted cX6_measureLifted 4 none 1 zNC zNC 0 0 σ [.ref (E.1 + 153), .int (zI a1_)] (fun r σ' => zInv σ' ∧ zFE σ σ') := by
  refine zCt_of2 [some (.ref (E.1 + 153)), some (.int (zI a1_)), none, none] (by decide +kernel) (Nat.le_of_ble_eq_true rfl) rfl ?_
  intro X hE hX hR hL hN
  subst hE
  have hX : zok X cX6_measureLifted RX6 1 := hX
  have hF := zFE_rf σ
  refine zt_iload_n (pc' := 1) hX dX6_measureLifted_0 rfl rfl ?_
  refine zt_aload_n (pc' := 2) hX dX6_measureLifted_1 rfl rfl ?_
  have b1 := zv_35_9 hI zc_153
  refine zt_get (pc' := 5) (v := .int (zI (σ 153 9))) hX dX6_measureLifted_2 rfl zf_X6_38 (by decide) zc_153 zs_35 rfl ?_
  refine zt_icne (pc' := 8) (tgt := 9) hX dX6_measureLifted_5 rfl (by decide) ⟨by omega, by omega⟩ ⟨by omega, by omega⟩ (fun c2 => ?_) (fun c2 => ?_)
  · refine zt_aload_n (pc' := 10) hX dX6_measureLifted_9 rfl rfl ?_
    refine zt_iload_n (pc' := 11) hX dX6_measureLifted_10 rfl rfl ?_
    refine zt_put (pc' := 14) (x := a1_) hX dX6_measureLifted_11 rfl zf_X6_38 (by decide) zc_153 zs_35 (fun q hq => by cases hq; rfl) rfl rfl rfl ?_
    generalize hs4 : zset σ 153 9 a1_ = s3
    have hI5 : zInv s3 := hs4 ▸ zp_35_9 hI zc_153 ⟨by omega, by omega⟩
    have hF6 : zFE σ s3 := hs4 ▸ zFE_set hF zc_153 (by decide) zke_35 (Or.inl (by decide)) (Or.inl (by decide))
    refine zt_iconst (pc' := 15) hX dX6_measureLifted_14 rfl ?_
    refine zt_istore_n (pc' := 16) (lv' := [some (.ref (X.1.1 + 153)), some (.int (zI a1_)), some (.int (zI 0)), none]) hX dX6_measureLifted_15 rfl hL (by decide) rfl ?_
    have L_16_12 : ∀ (N : Nat) (x7 : Int) (s10 : zSto), 0 ≤ x7 → x7 ≤ 36 → zInv s10 → zFE σ s10 → ((37 - x7).toNat) < N → zF X s10 16 [some (.ref (X.1.1 + 153)), some (.int (zI a1_)), some (.int (zI x7)), none] [] := by
      intro N
      induction N with
      | zero =>
        intro x7 s10 h8 h9 hI11 hF12 hm14
        exact absurd hm14 (Nat.not_lt_zero _)
      | succ N ih15 =>
        intro x7 s10 h8 h9 hI11 hF12 hm14
        refine zt_iload_n (pc' := 17) hX dX6_measureLifted_16 rfl rfl ?_
        refine zt_aload_n (pc' := 18) hX dX6_measureLifted_17 rfl rfl ?_
        obtain ⟨k16, ek17, hk18⟩ := zv_35_6 hI11 zc_153
        refine zt_get (pc' := 21) (v := .ref (X.1.1 + k16)) hX dX6_measureLifted_18 rfl zf_X6_54 (by decide) zc_153 zs_35 (zrf_of ek17) ?_
        refine zt_cVi (pc' := 24) hX dX6_measureLifted_21 rfl zm_yX3_cells zw_43_7 hk18 (by decide) zs_8 (q := (RX3, TX3, 17)) rfl rfl (zc_X3_cells _ _ s10 hI11 k16 hk18) rfl rfl (Nat.le_of_ble_eq_true rfl) (by decide) (fun r19 s20 hr21 hp22 => ?_)
        obtain ⟨rfl, q23, q24⟩ := hp22
        refine zt_icge (pc' := 27) (tgt := 40) hX dX6_measureLifted_24 rfl (by decide) ⟨by omega, by omega⟩ ⟨by omega, by omega⟩ (fun c25 => ?_) (fun c25 => ?_)
        · refine zt_iconst (pc' := 41) hX dX6_measureLifted_40 rfl ?_
          refine zt_istore_n (pc' := 42) (lv' := [some (.ref (X.1.1 + 153)), some (.int (zI a1_)), some (.int (zI 0)), none]) hX dX6_measureLifted_41 rfl hL (by decide) rfl ?_
          have L_42_31 : ∀ (N : Nat) (x26 : Int) (s29 : zSto), 0 ≤ x26 → x26 ≤ 10 → zInv s29 → zFE σ s29 → ((11 - x26).toNat) < N → zF X s29 42 [some (.ref (X.1.1 + 153)), some (.int (zI a1_)), some (.int (zI x26)), none] [] := by
            intro N
            induction N with
            | zero =>
              intro x26 s29 h27 h28 hI30 hF31 hm33
              exact absurd hm33 (Nat.not_lt_zero _)
            | succ N ih34 =>
              intro x26 s29 h27 h28 hI30 hF31 hm33
              refine zt_iload_n (pc' := 43) hX dX6_measureLifted_42 rfl rfl ?_
              refine zt_aload_n (pc' := 44) hX dX6_measureLifted_43 rfl rfl ?_
              obtain ⟨k35, ek36, hk37⟩ := zv_35_6 hI30 zc_153
              refine zt_get (pc' := 47) (v := .ref (X.1.1 + k35)) hX dX6_measureLifted_44 rfl zf_X6_54 (by decide) zc_153 zs_35 (zrf_of ek36) ?_
              have b38 := zv_8_12 hI30 hk37
              refine zt_get (pc' := 50) (v := .int (zI (s29 k35 12))) hX dX6_measureLifted_47 rfl zf_X6_62 (zro_lt hk37 (by decide)) hk37 zs_8 rfl ?_
              refine zt_icge (pc' := 53) (tgt := 106) hX dX6_measureLifted_50 rfl (by decide) ⟨by omega, by omega⟩ ⟨by omega, by omega⟩ (fun c39 => ?_) (fun c39 => ?_)
              · exact zt_vret hX hR dX6_measureLifted_106 ⟨hI30, hF31⟩
              · refine zt_iload_n (pc' := 54) hX dX6_measureLifted_53 rfl rfl ?_
                refine zt_iload_n (pc' := 55) hX dX6_measureLifted_54 rfl rfl ?_
                refine zt_ishr (pc' := 56) hX dX6_measureLifted_55 rfl (fun r40 zr40 lr40 ur40 => ?_)
                clear zr40
                refine zt_iconst (pc' := 57) hX dX6_measureLifted_56 rfl ?_
                refine zt_iandm (pc' := 58) hX dX6_measureLifted_57 rfl 1 (by decide +kernel) (by decide) (fun r41 er41 lr41 ur41 => ?_)
                have ur41 : r41 ≤ 1 := by omega
                have J_100_44 : ∀ (s42 : zSto), zInv s42 → zFE σ s42 → zF X s42 100 [some (.ref (X.1.1 + 153)), some (.int (zI a1_)), some (.int (zI x26)), none] [] := by
                  intro s42 hI43 hF44
                  refine zt_iinc (pc' := 103) (lv' := [some (.ref (X.1.1 + 153)), some (.int (zI a1_)), some (.int (zI (x26 + 1))), none]) hX dX6_measureLifted_100 rfl rfl hL (by decide) rfl ?_
                  refine zt_goto (tgt := 42) hX dX6_measureLifted_103 (by decide) ?_
                  exact ih34 (x26 + 1) s42 (by omega) (by omega) hI43 (by omega) (by omega)
                refine zt_ifeq (pc' := 61) (tgt := 100) hX dX6_measureLifted_58 rfl (by decide) ⟨by omega, by omega⟩ (fun c46 => ?_) (fun c46 => ?_)
                · exact J_100_44 s29 hI30 (by omega)
                · refine zt_iconst (pc' := 62) hX dX6_measureLifted_61 rfl ?_
                  refine zt_istore_n (pc' := 63) (lv' := [some (.ref (X.1.1 + 153)), some (.int (zI a1_)), some (.int (zI x26)), some (.int (zI 0))]) hX dX6_measureLifted_62 rfl hL (by decide) rfl ?_
                  have L_63_52 : ∀ (N : Nat) (x47 : Int) (s50 : zSto), 0 ≤ x47 → x47 ≤ 36 → zInv s50 → zFE σ s50 → ((37 - x47).toNat) < N → zF X s50 63 [some (.ref (X.1.1 + 153)), some (.int (zI a1_)), some (.int (zI x26)), some (.int (zI x47))] [] := by
                    intro N
                    induction N with
                    | zero =>
                      intro x47 s50 h48 h49 hI51 hF52 hm54
                      exact absurd hm54 (Nat.not_lt_zero _)
                    | succ N ih55 =>
                      intro x47 s50 h48 h49 hI51 hF52 hm54
                      refine zt_iload_n (pc' := 64) hX dX6_measureLifted_63 rfl rfl ?_
                      refine zt_aload_n (pc' := 65) hX dX6_measureLifted_64 rfl rfl ?_
                      obtain ⟨k56, ek57, hk58⟩ := zv_35_6 hI51 zc_153
                      refine zt_get (pc' := 68) (v := .ref (X.1.1 + k56)) hX dX6_measureLifted_65 rfl zf_X6_54 (by decide) zc_153 zs_35 (zrf_of ek57) ?_
                      refine zt_cVi (pc' := 71) hX dX6_measureLifted_68 rfl zm_yX3_cells zw_43_7 hk58 (by decide) zs_8 (q := (RX3, TX3, 17)) rfl rfl (zc_X3_cells _ _ s50 hI51 k56 hk58) rfl rfl (Nat.le_of_ble_eq_true rfl) (by decide) (fun r59 s60 hr61 hp62 => ?_)
                      obtain ⟨rfl, q63, q64⟩ := hp62
                      refine zt_icge (pc' := 74) (tgt := 100) hX dX6_measureLifted_71 rfl (by decide) ⟨by omega, by omega⟩ ⟨by omega, by omega⟩ (fun c65 => ?_) (fun c65 => ?_)
                      · refine zt_mask [true, true, true, false] rfl ?_
                        exact J_100_44 s50 hI51 (by omega)
                      · refine zt_aload_n (pc' := 75) hX dX6_measureLifted_74 rfl rfl ?_
                        refine zt_get (pc' := 78) (v := .ref (X.1.1 + 160)) hX dX6_measureLifted_75 rfl zf_X6_25 (by decide) zc_153 zs_35 (zrf_of (zv_35_3 hI51 zc_153)) ?_
                        refine zt_iload_n (pc' := 79) hX dX6_measureLifted_78 rfl rfl ?_
                        refine zt_dup2 (pc' := 80) hX dX6_measureLifted_79 rfl rfl rfl ?_
                        refine zt_iald (pc' := 81) hX dX6_measureLifted_80 rfl (by decide) zc_160 zs_42 (by decide) ⟨by omega, by omega⟩ ?_
                        generalize hv66 : s50 160 (x47.toNat) = v66
                        have bv66 : -2147483648 ≤ v66 ∧ v66 ≤ 2147483647 := hv66 ▸ zv_42 hI51 zc_160 _
                        refine zt_aload_n (pc' := 82) hX dX6_measureLifted_81 rfl rfl ?_
                        refine zt_get (pc' := 85) (v := .ref (X.1.1 + 158)) hX dX6_measureLifted_82 rfl zf_X6_18 (by decide) zc_153 zs_35 (zrf_of (zv_35_1 hI51 zc_153)) ?_
                        refine zt_iload_n (pc' := 86) hX dX6_measureLifted_85 rfl rfl ?_
                        refine zt_bipush (pc' := 88) hX dX6_measureLifted_86 rfl (by decide) (by decide) ?_
                        refine zt_imul (pc' := 89) hX dX6_measureLifted_88 rfl ?_
                        refine zt_iload_n (pc' := 90) hX dX6_measureLifted_89 rfl rfl ?_
                        refine zt_iadd (pc' := 91) hX dX6_measureLifted_90 rfl ?_
                        refine zt_iald (pc' := 92) hX dX6_measureLifted_91 rfl (by decide) zc_158 zs_40 (by decide) ⟨by omega, by omega⟩ ?_
                        generalize hv67 : s50 158 (((x26 * 36) + x47).toNat) = v67
                        have bv67 : -2147483648 ≤ v67 ∧ v67 ≤ 2147483647 := hv67 ▸ zv_40 hI51 zc_158 _
                        refine zt_iadd (pc' := 93) hX dX6_measureLifted_92 rfl ?_
                        refine zt_wrap (fun r68 zr68 lr68 ur68 => ?_)
                        clear zr68
                        refine zt_iast (pc' := 94) hX dX6_measureLifted_93 rfl (by decide) zc_160 zs_42 (by decide) ⟨by omega, by omega⟩ ?_
                        generalize hs70 : zset s50 160 (x47.toNat) r68 = s69
                        have hI71 : zInv s69 := hs70 ▸ zp_42 hI51 zc_160 (x47.toNat) ⟨by omega, by omega⟩
                        have hF72 : zFE σ s69 := hs70 ▸ zFE_set hF52 zc_160 (by decide) zke_42 (Or.inl (by decide)) (Or.inl (by decide))
                        refine zt_iinc (pc' := 97) (lv' := [some (.ref (X.1.1 + 153)), some (.int (zI a1_)), some (.int (zI x26)), some (.int (zI (x47 + 1)))]) hX dX6_measureLifted_94 rfl rfl hL (by decide) rfl ?_
                        refine zt_goto (tgt := 63) hX dX6_measureLifted_97 (by decide) ?_
                        exact ih55 (x47 + 1) s69 (by omega) (by omega) hI71 (by omega) (by omega)
                  exact L_63_52 _ 0 s29 (by omega) (by omega) hI30 (by omega) (Nat.lt_succ_self _)
          exact L_42_31 _ 0 s10 (by omega) (by omega) hI11 (by omega) (Nat.lt_succ_self _)
        · refine zt_aload_n (pc' := 28) hX dX6_measureLifted_27 rfl rfl ?_
          refine zt_get (pc' := 31) (v := .ref (X.1.1 + 160)) hX dX6_measureLifted_28 rfl zf_X6_25 (by decide) zc_153 zs_35 (zrf_of (zv_35_3 hI11 zc_153)) ?_
          refine zt_iload_n (pc' := 32) hX dX6_measureLifted_31 rfl rfl ?_
          refine zt_iconst (pc' := 33) hX dX6_measureLifted_32 rfl ?_
          refine zt_iast (pc' := 34) hX dX6_measureLifted_33 rfl (by decide) zc_160 zs_42 (by decide) ⟨by omega, by omega⟩ ?_
          generalize hs74 : zset s10 160 (x7.toNat) 0 = s73
          have hI75 : zInv s73 := hs74 ▸ zp_42 hI11 zc_160 (x7.toNat) ⟨by omega, by omega⟩
          have hF76 : zFE σ s73 := hs74 ▸ zFE_set hF12 zc_160 (by decide) zke_42 (Or.inl (by decide)) (Or.inl (by decide))
          refine zt_iinc (pc' := 37) (lv' := [some (.ref (X.1.1 + 153)), some (.int (zI a1_)), some (.int (zI (x7 + 1))), none]) hX dX6_measureLifted_34 rfl rfl hL (by decide) rfl ?_
          refine zt_goto (tgt := 16) hX dX6_measureLifted_37 (by decide) ?_
          exact ih15 (x7 + 1) s73 (by omega) (by omega) hI75 (by omega) (by omega)
    exact L_16_12 _ 0 s3 (by omega) (by omega) hI5 (by omega) (Nat.lt_succ_self _)
  · exact zt_vret hX hR dX6_measureLifted_8 ⟨hI, hF⟩

set_option maxRecDepth 100000 in
set_option maxHeartbeats 4000000 in
theorem zc_X6_balance (l : Launch) (E : zEN) (σ : zSto) (hI : zInv σ) (a1_ : Int) (ha1_ : -2147483648 ≤ a1_ ∧ a1_ ≤ 2147483647) : zCt l E yX6_balance cX6_balance 3 none 4 zNC zNC 0 0 σ [.ref (E.1 + 153), .int (zI a1_)] (fun r σ' => zInv σ' ∧ zFE σ σ') := by
  refine zCt_of2 [some (.ref (E.1 + 153)), some (.int (zI a1_)), none] (by decide +kernel) (Nat.le_of_ble_eq_true rfl) rfl ?_
  intro X hE hX hR hL hN
  subst hE
  have hX : zok X cX6_balance RX6 4 := hX
  have hF := zFE_rf σ
  refine zt_aload_n (pc' := 1) hX dX6_balance_0 rfl rfl ?_
  refine zt_cVz (pc' := 4) hX dX6_balance_1 rfl zm_yX6_hasLoads zw_42_20 zc_153 (by decide) zs_35 (q := (RX6, TX6, 14)) rfl rfl (zc_X6_hasLoads _ _ σ hI ) rfl rfl (Nat.le_of_ble_eq_true rfl) (by decide) (fun r1 s2 hr3 hp4 => ?_)
  obtain ⟨rfl, q5, q6⟩ := hp4
  have J_11_9 : ∀ (s7 : zSto), zInv s7 → zFE σ s7 → zF X s7 11 [some (.ref (X.1.1 + 153)), some (.int (zI a1_)), none] [] := by
    intro s7 hI8 hF9
    refine zt_aload_n (pc' := 12) hX dX6_balance_11 rfl rfl ?_
    refine zt_iload_n (pc' := 13) hX dX6_balance_12 rfl rfl ?_
    refine zt_cVv (pc' := 16) hX dX6_balance_13 rfl zm_yX6_measureLifted zw_43_22 zc_153 (by decide) zs_35 (q := (RX6, TX6, 14)) rfl rfl (zc_X6_measureLifted _ _ s7 hI8 a1_ ⟨by omega, by omega⟩) rfl rfl (Nat.le_of_ble_eq_true rfl) (by decide) (fun r11 s12 hr13 hp14 => ?_)
    obtain ⟨hI15, hF16⟩ := hp14
    have hF17 := zFE_tr hF9 hF16
    refine zt_iconst (pc' := 17) hX dX6_balance_16 rfl ?_
    refine zt_istore_n (pc' := 18) (lv' := [some (.ref (X.1.1 + 153)), some (.int (zI a1_)), some (.int (zI 0))]) hX dX6_balance_17 rfl hL (by decide) rfl ?_
    have L_18_23 : ∀ (N : Nat) (x18 : Int) (s21 : zSto), 0 ≤ x18 → x18 ≤ 36 → zInv s21 → zFE σ s21 → ((37 - x18).toNat) < N → zF X s21 18 [some (.ref (X.1.1 + 153)), none, some (.int (zI x18))] [] := by
      intro N
      induction N with
      | zero =>
        intro x18 s21 h19 h20 hI22 hF23 hm25
        exact absurd hm25 (Nat.not_lt_zero _)
      | succ N ih26 =>
        intro x18 s21 h19 h20 hI22 hF23 hm25
        refine zt_iload_n (pc' := 19) hX dX6_balance_18 rfl rfl ?_
        refine zt_aload_n (pc' := 20) hX dX6_balance_19 rfl rfl ?_
        obtain ⟨k27, ek28, hk29⟩ := zv_35_6 hI22 zc_153
        refine zt_get (pc' := 23) (v := .ref (X.1.1 + k27)) hX dX6_balance_20 rfl zf_X6_54 (by decide) zc_153 zs_35 (zrf_of ek28) ?_
        refine zt_cVi (pc' := 26) hX dX6_balance_23 rfl zm_yX3_cells zw_43_7 hk29 (by decide) zs_8 (q := (RX3, TX3, 17)) rfl rfl (zc_X3_cells _ _ s21 hI22 k27 hk29) rfl rfl (Nat.le_of_ble_eq_true rfl) (by decide) (fun r30 s31 hr32 hp33 => ?_)
        obtain ⟨rfl, q34, q35⟩ := hp33
        refine zt_icge (pc' := 29) (tgt := 62) hX dX6_balance_26 rfl (by decide) ⟨by omega, by omega⟩ ⟨by omega, by omega⟩ (fun c36 => ?_) (fun c36 => ?_)
        · exact zt_vret hX hR dX6_balance_62 ⟨hI22, hF23⟩
        · refine zt_aload_n (pc' := 30) hX dX6_balance_29 rfl rfl ?_
          refine zt_get (pc' := 33) (v := .ref (X.1.1 + 162)) hX dX6_balance_30 rfl zf_X6_31 (by decide) zc_153 zs_35 (zrf_of (zv_35_5 hI22 zc_153)) ?_
          refine zt_iload_n (pc' := 34) hX dX6_balance_33 rfl rfl ?_
          refine zt_aload_n (pc' := 35) hX dX6_balance_34 rfl rfl ?_
          refine zt_get (pc' := 38) (v := .ref (X.1.1 + 160)) hX dX6_balance_35 rfl zf_X6_25 (by decide) zc_153 zs_35 (zrf_of (zv_35_3 hI22 zc_153)) ?_
          refine zt_iload_n (pc' := 39) hX dX6_balance_38 rfl rfl ?_
          refine zt_iald (pc' := 40) hX dX6_balance_39 rfl (by decide) zc_160 zs_42 (by decide) ⟨by omega, by omega⟩ ?_
          generalize hv37 : s21 160 (x18.toNat) = v37
          have bv37 : -2147483648 ≤ v37 ∧ v37 ≤ 2147483647 := hv37 ▸ zv_42 hI22 zc_160 _
          refine zt_aload_n (pc' := 41) hX dX6_balance_40 rfl rfl ?_
          refine zt_get (pc' := 44) (v := .ref (X.1.1 + k27)) hX dX6_balance_41 rfl zf_X6_54 (by decide) zc_153 zs_35 (zrf_of ek28) ?_
          have b38 := zv_8_13 hI22 hk29
          refine zt_get (pc' := 47) (v := .int (zI (s21 k27 13))) hX dX6_balance_44 rfl zf_X6_164 (zro_lt hk29 (by decide)) hk29 zs_8 rfl ?_
          refine zt_iadd (pc' := 48) hX dX6_balance_47 rfl ?_
          refine zt_wrap (fun r39 zr39 lr39 ur39 => ?_)
          clear zr39
          refine zt_aload_n (pc' := 49) hX dX6_balance_48 rfl rfl ?_
          refine zt_get (pc' := 52) (v := .ref (X.1.1 + 161)) hX dX6_balance_49 rfl zf_X6_28 (by decide) zc_153 zs_35 (zrf_of (zv_35_4 hI22 zc_153)) ?_
          refine zt_iload_n (pc' := 53) hX dX6_balance_52 rfl rfl ?_
          refine zt_iald (pc' := 54) hX dX6_balance_53 rfl (by decide) zc_161 zs_43 (by decide) ⟨by omega, by omega⟩ ?_
          generalize hv40 : s21 161 (x18.toNat) = v40
          have bv40 : -2147483648 ≤ v40 ∧ v40 ≤ 2147483647 := hv40 ▸ zv_43 hI22 zc_161 _
          refine zt_isub (pc' := 55) hX dX6_balance_54 rfl ?_
          refine zt_wrap (fun r41 zr41 lr41 ur41 => ?_)
          clear zr41
          refine zt_iast (pc' := 56) hX dX6_balance_55 rfl (by decide) zc_162 zs_44 (by decide) ⟨by omega, by omega⟩ ?_
          generalize hs43 : zset s21 162 (x18.toNat) r41 = s42
          have hI44 : zInv s42 := hs43 ▸ zp_44 hI22 zc_162 (x18.toNat) ⟨by omega, by omega⟩
          have hF45 : zFE σ s42 := hs43 ▸ zFE_set hF23 zc_162 (by decide) zke_44 (Or.inl (by decide)) (Or.inl (by decide))
          refine zt_iinc (pc' := 59) (lv' := [some (.ref (X.1.1 + 153)), none, some (.int (zI (x18 + 1)))]) hX dX6_balance_56 rfl rfl hL (by decide) rfl ?_
          refine zt_goto (tgt := 18) hX dX6_balance_59 (by decide) ?_
          exact ih26 (x18 + 1) s42 (by omega) (by omega) hI44 (by omega) (by omega)
    refine zt_mask [true, false, true] rfl ?_
    exact L_18_23 _ 0 s12 (by omega) (by omega) hI15 (by omega) (Nat.lt_succ_self _)
  refine zt_ifne (pc' := 7) (tgt := 11) hX dX6_balance_4 rfl (by decide) ⟨by omega, by omega⟩ (fun c46 => ?_) (fun c46 => ?_)
  · exact J_11_9 σ hI (by omega)
  · refine zt_aload_n (pc' := 8) hX dX6_balance_7 rfl rfl ?_
    refine zt_cVv (pc' := 11) hX dX6_balance_8 rfl zm_yX6_measureLoads zw_43_1 zc_153 (by decide) zs_35 (q := (RX6, TX6, 14)) rfl rfl (zc_X6_measureLoads _ _ σ hI ) rfl rfl (Nat.le_of_ble_eq_true rfl) (by decide) (fun r47 s48 hr49 hp50 => ?_)
    obtain ⟨hI51, hF52⟩ := hp50
    have hF53 := zFE_tr hF hF52
    exact J_11_9 s48 hI51 (by omega)

set_option maxRecDepth 100000 in
set_option maxHeartbeats 4000000 in
theorem zc_X6_cracking (l : Launch) (E : zEN) (σ : zSto) (hI : zInv σ)  : zCt l E yX6_cracking cX6_cracking 4 (some .long) 1 zNC zNC 0 0 σ [.ref (E.1 + 153)] (fun r σ' => σ = σ' ∧ -9223372036854775808 ≤ r ∧ r ≤ 9223372036854775807) := by
  refine zCt_of2 [some (.ref (E.1 + 153)), none, none, none] (by decide +kernel) (Nat.le_of_ble_eq_true rfl) rfl ?_
  intro X hE hX hR hL hN
  subst hE
  have hX : zok X cX6_cracking RX6 1 := hX
  refine zt_lconst (pc' := 1) (y := 0) hX dX6_cracking_0 rfl (by decide +kernel) ?_
  refine zt_lstore_n (pc' := 2) (lv' := [some (.ref (X.1.1 + 153)), some (.long (zJ 0)), none, none]) hX dX6_cracking_1 rfl hL (by decide) rfl ?_
  refine zt_iconst (pc' := 3) hX dX6_cracking_2 rfl ?_
  refine zt_istore_n (pc' := 4) (lv' := [some (.ref (X.1.1 + 153)), some (.long (zJ 0)), none, some (.int (zI 0))]) hX dX6_cracking_3 rfl hL (by decide) rfl ?_
  have L_4_6 : ∀ (N : Nat) (x1 : Int) (x4 : Int), -9223372036854775808 ≤ x1 → x1 ≤ 9223372036854775807 → 0 ≤ x4 → x4 ≤ 36 → ((37 - x4).toNat) < N → zF X σ 4 [some (.ref (X.1.1 + 153)), some (.long (zJ x1)), none, some (.int (zI x4))] [] := by
    intro N
    induction N with
    | zero =>
      intro x1 x4 h2 h3 h5 h6 hm8
      exact absurd hm8 (Nat.not_lt_zero _)
    | succ N ih9 =>
      intro x1 x4 h2 h3 h5 h6 hm8
      refine zt_iload_n (pc' := 5) hX dX6_cracking_4 rfl rfl ?_
      refine zt_aload_n (pc' := 6) hX dX6_cracking_5 rfl rfl ?_
      obtain ⟨k10, ek11, hk12⟩ := zv_35_6 hI zc_153
      refine zt_get (pc' := 9) (v := .ref (X.1.1 + k10)) hX dX6_cracking_6 rfl zf_X6_54 (by decide) zc_153 zs_35 (zrf_of ek11) ?_
      refine zt_cVi (pc' := 12) hX dX6_cracking_9 rfl zm_yX3_cells zw_43_7 hk12 (by decide) zs_8 (q := (RX3, TX3, 17)) rfl rfl (zc_X3_cells _ _ σ hI k10 hk12) rfl rfl (Nat.le_of_ble_eq_true rfl) (by decide) (fun r13 s14 hr15 hp16 => ?_)
      obtain ⟨rfl, q17, q18⟩ := hp16
      refine zt_icge (pc' := 15) (tgt := 47) hX dX6_cracking_12 rfl (by decide) ⟨by omega, by omega⟩ ⟨by omega, by omega⟩ (fun c19 => ?_) (fun c19 => ?_)
      · refine zt_lload_n (pc' := 48) hX dX6_cracking_47 rfl rfl ?_
        exact zt_lret hX hR dX6_cracking_48 ⟨by omega, by omega⟩ ⟨rfl, by omega, by omega⟩
      · refine zt_aload_n (pc' := 16) hX dX6_cracking_15 rfl rfl ?_
        refine zt_get (pc' := 19) (v := .ref (X.1.1 + 162)) hX dX6_cracking_16 rfl zf_X6_31 (by decide) zc_153 zs_35 (zrf_of (zv_35_5 hI zc_153)) ?_
        refine zt_iload_n (pc' := 20) hX dX6_cracking_19 rfl rfl ?_
        refine zt_iald (pc' := 21) hX dX6_cracking_20 rfl (by decide) zc_162 zs_44 (by decide) ⟨by omega, by omega⟩ ?_
        generalize hv20 : σ 162 (x4.toNat) = v20
        have bv20 : -2147483648 ≤ v20 ∧ v20 ≤ 2147483647 := hv20 ▸ zv_44 hI zc_162 _
        have J_41_23 : ∀ (x21 : Int), -9223372036854775808 ≤ x21 → x21 ≤ 9223372036854775807 → zF X σ 41 [some (.ref (X.1.1 + 153)), some (.long (zJ x21)), none, some (.int (zI x4))] [] := by
          intro x21 h22 h23
          refine zt_iinc (pc' := 44) (lv' := [some (.ref (X.1.1 + 153)), some (.long (zJ x21)), none, some (.int (zI (x4 + 1)))]) hX dX6_cracking_41 rfl rfl hL (by decide) rfl ?_
          refine zt_goto (tgt := 4) hX dX6_cracking_44 (by decide) ?_
          exact ih9 x21 (x4 + 1) (by omega) (by omega) (by omega) (by omega) (by omega)
        refine zt_ifge (pc' := 24) (tgt := 41) hX dX6_cracking_21 rfl (by decide) ⟨by omega, by omega⟩ (fun c25 => ?_) (fun c25 => ?_)
        · exact J_41_23 x1 (by omega) (by omega)
        · refine zt_aload_n (pc' := 25) hX dX6_cracking_24 rfl rfl ?_
          obtain ⟨k26, ek27, hk28⟩ := zv_35_7 hI zc_153
          refine zt_get (pc' := 28) (v := .ref (X.1.1 + k26)) hX dX6_cracking_25 rfl zf_X6_58 (by decide) zc_153 zs_35 (zrf_of ek27) ?_
          refine zt_iload_n (pc' := 29) hX dX6_cracking_28 rfl rfl ?_
          refine zt_cVz (pc' := 32) hX dX6_cracking_29 rfl zm_yX10_isCracked zw_43_11 hk28 (by decide) zs_22 (q := (RX10, TX10, 8)) rfl rfl (zc_X10_isCracked _ _ σ hI k26 hk28 x4 ⟨by omega, by omega⟩) rfl rfl (Nat.le_of_ble_eq_true rfl) (by decide) (fun r29 s30 hr31 hp32 => ?_)
          obtain ⟨rfl, q33, q34⟩ := hp32
          refine zt_ifne (pc' := 35) (tgt := 41) hX dX6_cracking_32 rfl (by decide) ⟨by omega, by omega⟩ (fun c35 => ?_) (fun c35 => ?_)
          · exact J_41_23 x1 (by omega) (by omega)
          · refine zt_lload_n (pc' := 36) hX dX6_cracking_35 rfl rfl ?_
            refine zt_lconst (pc' := 37) (y := 1) hX dX6_cracking_36 rfl (by decide +kernel) ?_
            refine zt_iload_n (pc' := 38) hX dX6_cracking_37 rfl rfl ?_
            refine zt_lshl (pc' := 39) hX dX6_cracking_38 rfl (fun r36 zr36 lr36 ur36 => ?_)
            clear zr36
            refine zt_lor (pc' := 40) hX dX6_cracking_39 rfl (fun r37 zr37 lr37 ur37 => ?_)
            clear zr37
            refine zt_lstore_n (pc' := 41) (lv' := [some (.ref (X.1.1 + 153)), some (.long (zJ r37)), none, some (.int (zI x4))]) hX dX6_cracking_40 rfl hL (by decide) rfl ?_
            exact J_41_23 r37 (by omega) (by omega)
  exact L_4_6 _ 0 0 (by omega) (by omega) (by omega) (by omega) (Nat.lt_succ_self _)

set_option maxRecDepth 100000 in
set_option maxHeartbeats 4000000 in
theorem zc_X6_tire (l : Launch) (E : zEN) (σ : zSto) (hI : zInv σ) (a1_ : Int) (ha1_ : -2147483648 ≤ a1_ ∧ a1_ ≤ 2147483647) : zCt l E yX6_tire cX6_tire 3 none 1 zNC zNC 0 0 σ [.ref (E.1 + 153), .int (zI a1_)] (fun r σ' => zInv σ' ∧ zFE σ σ') := by
  refine zCt_of2 [some (.ref (E.1 + 153)), some (.int (zI a1_)), none] (by decide +kernel) (Nat.le_of_ble_eq_true rfl) rfl ?_
  intro X hE hX hR hL hN
  subst hE
  have hX : zok X cX6_tire RX6 1 := hX
  have hF := zFE_rf σ
  refine zt_iconst (pc' := 1) hX dX6_tire_0 rfl ?_
  refine zt_istore_n (pc' := 2) (lv' := [some (.ref (X.1.1 + 153)), some (.int (zI a1_)), some (.int (zI 0))]) hX dX6_tire_1 rfl hL (by decide) rfl ?_
  have L_2_6 : ∀ (N : Nat) (x1 : Int) (s4 : zSto), 0 ≤ x1 → x1 ≤ 10 → zInv s4 → zFE σ s4 → ((11 - x1).toNat) < N → zF X s4 2 [some (.ref (X.1.1 + 153)), some (.int (zI a1_)), some (.int (zI x1))] [] := by
    intro N
    induction N with
    | zero =>
      intro x1 s4 h2 h3 hI5 hF6 hm8
      exact absurd hm8 (Nat.not_lt_zero _)
    | succ N ih9 =>
      intro x1 s4 h2 h3 hI5 hF6 hm8
      refine zt_iload_n (pc' := 3) hX dX6_tire_2 rfl rfl ?_
      refine zt_aload_n (pc' := 4) hX dX6_tire_3 rfl rfl ?_
      obtain ⟨k10, ek11, hk12⟩ := zv_35_6 hI5 zc_153
      refine zt_get (pc' := 7) (v := .ref (X.1.1 + k10)) hX dX6_tire_4 rfl zf_X6_54 (by decide) zc_153 zs_35 (zrf_of ek11) ?_
      have b13 := zv_8_12 hI5 hk12
      refine zt_get (pc' := 10) (v := .int (zI (s4 k10 12))) hX dX6_tire_7 rfl zf_X6_62 (zro_lt hk12 (by decide)) hk12 zs_8 rfl ?_
      refine zt_icge (pc' := 13) (tgt := 79) hX dX6_tire_10 rfl (by decide) ⟨by omega, by omega⟩ ⟨by omega, by omega⟩ (fun c14 => ?_) (fun c14 => ?_)
      · exact zt_vret hX hR dX6_tire_79 ⟨hI5, hF6⟩
      · refine zt_iload_n (pc' := 14) hX dX6_tire_13 rfl rfl ?_
        refine zt_iload_n (pc' := 15) hX dX6_tire_14 rfl rfl ?_
        refine zt_ishr (pc' := 16) hX dX6_tire_15 rfl (fun r15 zr15 lr15 ur15 => ?_)
        clear zr15
        refine zt_iconst (pc' := 17) hX dX6_tire_16 rfl ?_
        refine zt_iandm (pc' := 18) hX dX6_tire_17 rfl 1 (by decide +kernel) (by decide) (fun r16 er16 lr16 ur16 => ?_)
        have ur16 : r16 ≤ 1 := by omega
        have J_73_19 : ∀ (s17 : zSto), zInv s17 → zFE σ s17 → zF X s17 73 [some (.ref (X.1.1 + 153)), some (.int (zI a1_)), some (.int (zI x1))] [] := by
          intro s17 hI18 hF19
          refine zt_iinc (pc' := 76) (lv' := [some (.ref (X.1.1 + 153)), some (.int (zI a1_)), some (.int (zI (x1 + 1)))]) hX dX6_tire_73 rfl rfl hL (by decide) rfl ?_
          refine zt_goto (tgt := 2) hX dX6_tire_76 (by decide) ?_
          exact ih9 (x1 + 1) s17 (by omega) (by omega) hI18 (by omega) (by omega)
        refine zt_ifeq (pc' := 21) (tgt := 49) hX dX6_tire_18 rfl (by decide) ⟨by omega, by omega⟩ (fun c21 => ?_) (fun c21 => ?_)
        · refine zt_aload_n (pc' := 50) hX dX6_tire_49 rfl rfl ?_
          obtain ⟨k22, ek23, hk24⟩ := zv_35_7 hI5 zc_153
          refine zt_get (pc' := 53) (v := .ref (X.1.1 + k22)) hX dX6_tire_50 rfl zf_X6_58 (by decide) zc_153 zs_35 (zrf_of ek23) ?_
          refine zt_get (pc' := 56) (v := .ref (X.1.1 + (k22 + 3))) hX dX6_tire_53 rfl zf_X6_126 (zro_lt hk24 (by decide)) hk24 zs_22 (zrf_of (zv_22_2 hI5 hk24)) ?_
          refine zt_iload_n (pc' := 57) hX dX6_tire_56 rfl rfl ?_
          refine zt_aload_n (pc' := 58) hX dX6_tire_57 rfl rfl ?_
          refine zt_get (pc' := 61) (v := .ref (X.1.1 + k22)) hX dX6_tire_58 rfl zf_X6_58 (by decide) zc_153 zs_35 (zrf_of ek23) ?_
          refine zt_get (pc' := 64) (v := .ref (X.1.1 + (k22 + 3))) hX dX6_tire_61 rfl zf_X6_126 (zro_lt hk24 (by decide)) hk24 zs_22 (zrf_of (zv_22_2 hI5 hk24)) ?_
          refine zt_iload_n (pc' := 65) hX dX6_tire_64 rfl rfl ?_
          refine zt_iald (pc' := 66) hX dX6_tire_65 rfl (zro_lt (zo_22_2 hk24) (by decide)) (zo_22_2 hk24) zs_25 (by decide) ⟨by omega, by omega⟩ ?_
          generalize hv25 : s4 (k22 + 3) (x1.toNat) = v25
          have bv25 : -1 ≤ v25 ∧ v25 ≤ 255 := hv25 ▸ zv_25 hI5 (zo_22_2 hk24) _
          refine zt_iconst (pc' := 67) hX dX6_tire_66 rfl ?_
          refine zt_isub (pc' := 68) hX dX6_tire_67 rfl ?_
          refine zt_iconst (pc' := 69) hX dX6_tire_68 rfl ?_
          refine zt_mmax (pc' := 72) hX (by decide) dX6_tire_69 rfl zw_35_12 zw_35_13 zw_34_21 zw_35_14 (Nat.le_of_ble_eq_true rfl) ⟨Nat.zero_le _, Nat.zero_le _⟩ ⟨by omega, by omega⟩ ⟨by omega, by omega⟩ (fun r26 er26 => ?_)
          refine zt_iast (pc' := 73) hX dX6_tire_72 rfl (zro_lt (zo_22_2 hk24) (by decide)) (zo_22_2 hk24) zs_25 (by decide) ⟨by omega, by omega⟩ ?_
          generalize hs28 : zset s4 (k22 + 3) (x1.toNat) r26 = s27
          have hI29 : zInv s27 := hs28 ▸ zp_25 hI5 (zo_22_2 hk24) (x1.toNat) ⟨by omega, by omega⟩
          have hF30 : zFE σ s27 := hs28 ▸ zFE_set hF6 (zo_22_2 hk24) (by decide) zke_25 (Or.inl (by decide)) (Or.inl (by decide))
          exact J_73_19 s27 hI29 (by omega)
        · refine zt_aload_n (pc' := 22) hX dX6_tire_21 rfl rfl ?_
          obtain ⟨k31, ek32, hk33⟩ := zv_35_7 hI5 zc_153
          refine zt_get (pc' := 25) (v := .ref (X.1.1 + k31)) hX dX6_tire_22 rfl zf_X6_58 (by decide) zc_153 zs_35 (zrf_of ek32) ?_
          refine zt_get (pc' := 28) (v := .ref (X.1.1 + (k31 + 3))) hX dX6_tire_25 rfl zf_X6_126 (zro_lt hk33 (by decide)) hk33 zs_22 (zrf_of (zv_22_2 hI5 hk33)) ?_
          refine zt_iload_n (pc' := 29) hX dX6_tire_28 rfl rfl ?_
          refine zt_aload_n (pc' := 30) hX dX6_tire_29 rfl rfl ?_
          refine zt_get (pc' := 33) (v := .ref (X.1.1 + k31)) hX dX6_tire_30 rfl zf_X6_58 (by decide) zc_153 zs_35 (zrf_of ek32) ?_
          refine zt_get (pc' := 36) (v := .ref (X.1.1 + (k31 + 3))) hX dX6_tire_33 rfl zf_X6_126 (zro_lt hk33 (by decide)) hk33 zs_22 (zrf_of (zv_22_2 hI5 hk33)) ?_
          refine zt_iload_n (pc' := 37) hX dX6_tire_36 rfl rfl ?_
          refine zt_iald (pc' := 38) hX dX6_tire_37 rfl (zro_lt (zo_22_2 hk33) (by decide)) (zo_22_2 hk33) zs_25 (by decide) ⟨by omega, by omega⟩ ?_
          generalize hv34 : s4 (k31 + 3) (x1.toNat) = v34
          have bv34 : -1 ≤ v34 ∧ v34 ≤ 255 := hv34 ▸ zv_25 hI5 (zo_22_2 hk33) _
          refine zt_iconst (pc' := 39) hX dX6_tire_38 rfl ?_
          refine zt_iadd (pc' := 40) hX dX6_tire_39 rfl ?_
          refine zt_bipush (pc' := 42) hX dX6_tire_40 rfl (by decide) (by decide) ?_
          refine zt_mmin (pc' := 45) hX (by decide) dX6_tire_42 rfl zw_43_16 zw_36_23 zw_34_21 zw_37_0 (Nat.le_of_ble_eq_true rfl) ⟨Nat.zero_le _, Nat.zero_le _⟩ ⟨by omega, by omega⟩ ⟨by omega, by omega⟩ (fun r35 er35 => ?_)
          refine zt_iast (pc' := 46) hX dX6_tire_45 rfl (zro_lt (zo_22_2 hk33) (by decide)) (zo_22_2 hk33) zs_25 (by decide) ⟨by omega, by omega⟩ ?_
          generalize hs37 : zset s4 (k31 + 3) (x1.toNat) r35 = s36
          have hI38 : zInv s36 := hs37 ▸ zp_25 hI5 (zo_22_2 hk33) (x1.toNat) ⟨by omega, by omega⟩
          have hF39 : zFE σ s36 := hs37 ▸ zFE_set hF6 (zo_22_2 hk33) (by decide) zke_25 (Or.inl (by decide)) (Or.inl (by decide))
          refine zt_goto (tgt := 73) hX dX6_tire_46 (by decide) ?_
          exact J_73_19 s36 hI38 (by omega)
  exact L_2_6 _ 0 σ (by omega) (by omega) hI (by omega) (Nat.lt_succ_self _)

set_option maxRecDepth 100000 in
set_option maxHeartbeats 4000000 in
theorem zc_X6_passHour (l : Launch) (E : zEN) (σ : zSto) (hI : zInv σ) (a1_ : Int) (ha1_ : -2147483648 ≤ a1_ ∧ a1_ ≤ 2147483647) : zCt l E yX6_passHour cX6_passHour 5 (some .long) 5 zNC zNC 0 0 σ [.ref (E.1 + 153), .int (zI a1_)] (fun r σ' => zInv σ' ∧ zFE σ σ' ∧ -9223372036854775808 ≤ r ∧ r ≤ 9223372036854775807) := by
  refine zCt_of2 [some (.ref (E.1 + 153)), some (.int (zI a1_)), none, none, none] (by decide +kernel) (Nat.le_of_ble_eq_true rfl) rfl ?_
  intro X hE hX hR hL hN
  subst hE
  have hX : zok X cX6_passHour RX6 5 := hX
  have hF := zFE_rf σ
  refine zt_aload_n (pc' := 1) hX dX6_passHour_0 rfl rfl ?_
  refine zt_cVi (pc' := 4) hX dX6_passHour_1 rfl zm_yX6_holders zw_48_23 zc_153 (by decide) zs_35 (q := (RX6, TX6, 14)) rfl rfl (zc_X6_holders _ _ σ hI ) rfl rfl (Nat.le_of_ble_eq_true rfl) (by decide) (fun r1 s2 hr3 hp4 => ?_)
  obtain ⟨hI5, hF6, q7, q8⟩ := hp4
  have hF9 := zFE_tr hF hF6
  refine zt_istore_n (pc' := 5) (lv' := [some (.ref (X.1.1 + 153)), some (.int (zI a1_)), some (.int (zI r1)), none, none]) hX dX6_passHour_4 rfl hL (by decide) rfl ?_
  refine zt_aload_n (pc' := 6) hX dX6_passHour_5 rfl rfl ?_
  refine zt_iload_n (pc' := 7) hX dX6_passHour_6 rfl rfl ?_
  refine zt_cVv (pc' := 10) hX dX6_passHour_7 rfl zm_yX6_balance zw_49_0 zc_153 (by decide) zs_35 (q := (RX6, TX6, 14)) rfl rfl (zc_X6_balance _ _ s2 hI5 r1 ⟨by omega, by omega⟩) rfl rfl (Nat.le_of_ble_eq_true rfl) (by decide) (fun r10 s11 hr12 hp13 => ?_)
  obtain ⟨hI14, hF15⟩ := hp13
  have hF16 := zFE_tr hF9 hF15
  refine zt_iload_n (pc' := 11) hX dX6_passHour_10 rfl rfl ?_
  have J_36_19 : ∀ (s17 : zSto), zInv s17 → zFE σ s17 → zF X s17 36 [some (.ref (X.1.1 + 153)), none, some (.int (zI r1)), none, none] [] := by
    intro s17 hI18 hF19
    refine zt_aload_n (pc' := 37) hX dX6_passHour_36 rfl rfl ?_
    refine zt_cVl (pc' := 40) hX dX6_passHour_37 rfl zm_yX6_cracking zw_49_1 zc_153 (by decide) zs_35 (q := (RX6, TX6, 14)) rfl rfl (zc_X6_cracking _ _ s17 hI18 ) rfl rfl (Nat.le_of_ble_eq_true rfl) (by decide) (fun r21 s22 hr23 hp24 => ?_)
    obtain ⟨rfl, q25, q26⟩ := hp24
    refine zt_lstore_n (pc' := 41) (lv' := [some (.ref (X.1.1 + 153)), none, some (.int (zI r1)), some (.long (zJ r21)), none]) hX dX6_passHour_40 rfl hL (by decide) rfl ?_
    refine zt_aload_n (pc' := 42) hX dX6_passHour_41 rfl rfl ?_
    obtain ⟨k27, ek28, hk29⟩ := zv_35_7 hI18 zc_153
    refine zt_get (pc' := 45) (v := .ref (X.1.1 + k27)) hX dX6_passHour_42 rfl zf_X6_58 (by decide) zc_153 zs_35 (zrf_of ek28) ?_
    refine zt_dup (pc' := 46) hX dX6_passHour_45 rfl rfl ?_
    have b30 := zv_22_6 hI18 hk29
    refine zt_get (pc' := 49) (v := .long (zJ (s17 k27 6))) hX dX6_passHour_46 rfl zf_X6_117 (zro_lt hk29 (by decide)) hk29 zs_22 rfl ?_
    refine zt_lload_n (pc' := 50) hX dX6_passHour_49 rfl rfl ?_
    refine zt_lor (pc' := 51) hX dX6_passHour_50 rfl (fun r31 zr31 lr31 ur31 => ?_)
    clear zr31
    refine zt_put (pc' := 54) (x := r31) hX dX6_passHour_51 rfl zf_X6_117 (zro_lt hk29 (by decide)) hk29 zs_22 (fun q hq => by cases hq; rfl) rfl rfl rfl ?_
    generalize hs33 : zset s17 k27 6 r31 = s32
    have hI34 : zInv s32 := hs33 ▸ zp_22_6 hI18 hk29 ⟨by omega, by omega⟩
    have hF35 : zFE σ s32 := hs33 ▸ zFE_set hF19 hk29 (by decide) zke_22 (Or.inl (by decide)) (Or.inl (by decide))
    refine zt_aload_n (pc' := 55) hX dX6_passHour_54 rfl rfl ?_
    refine zt_iload_n (pc' := 56) hX dX6_passHour_55 rfl rfl ?_
    refine zt_cVv (pc' := 59) hX dX6_passHour_56 rfl zm_yX6_tire zw_49_5 zc_153 (by decide) zs_35 (q := (RX6, TX6, 14)) rfl rfl (zc_X6_tire _ _ s32 hI34 r1 ⟨by omega, by omega⟩) rfl rfl (Nat.le_of_ble_eq_true rfl) (by decide) (fun r36 s37 hr38 hp39 => ?_)
    obtain ⟨hI40, hF41⟩ := hp39
    have hF42 := zFE_tr hF35 hF41
    refine zt_aload_n (pc' := 60) hX dX6_passHour_59 rfl rfl ?_
    obtain ⟨k43, ek44, hk45⟩ := zv_35_7 hI40 zc_153
    refine zt_get (pc' := 63) (v := .ref (X.1.1 + k43)) hX dX6_passHour_60 rfl zf_X6_58 (by decide) zc_153 zs_35 (zrf_of ek44) ?_
    refine zt_aload_n (pc' := 64) hX dX6_passHour_63 rfl rfl ?_
    refine zt_get (pc' := 67) (v := .ref (X.1.1 + k43)) hX dX6_passHour_64 rfl zf_X6_58 (by decide) zc_153 zs_35 (zrf_of ek44) ?_
    have b46 := zv_22_5 hI40 hk45
    refine zt_get (pc' := 70) (v := .int (zI (s37 k43 5))) hX dX6_passHour_67 rfl zf_X6_114 (zro_lt hk45 (by decide)) hk45 zs_22 rfl ?_
    refine zt_iconst (pc' := 71) hX dX6_passHour_70 rfl ?_
    refine zt_iadd (pc' := 72) hX dX6_passHour_71 rfl ?_
    refine zt_wrap (fun r47 zr47 lr47 ur47 => ?_)
    clear zr47
    refine zt_sipush (pc' := 75) hX dX6_passHour_72 rfl (by decide) (by decide) ?_
    refine zt_mmin (pc' := 78) hX (by decide) dX6_passHour_75 rfl zw_43_16 zw_36_23 zw_34_21 zw_37_0 (Nat.le_of_ble_eq_true rfl) ⟨Nat.zero_le _, Nat.zero_le _⟩ ⟨by omega, by omega⟩ ⟨by omega, by omega⟩ (fun r48 er48 => ?_)
    refine zt_put (pc' := 81) (x := r48) hX dX6_passHour_78 rfl zf_X6_114 (zro_lt hk45 (by decide)) hk45 zs_22 (fun q hq => by cases hq; rfl) rfl rfl rfl ?_
    generalize hs50 : zset s37 k43 5 r48 = s49
    have hI51 : zInv s49 := hs50 ▸ zp_22_5 hI40 hk45 ⟨by omega, by omega⟩
    have hF52 : zFE σ s49 := hs50 ▸ zFE_set hF42 hk45 (by decide) zke_22 (Or.inl (by decide)) (Or.inl (by decide))
    refine zt_lload_n (pc' := 82) hX dX6_passHour_81 rfl rfl ?_
    exact zt_lret hX hR dX6_passHour_82 ⟨by omega, by omega⟩ ⟨hI51, hF52, by omega, by omega⟩
  refine zt_iflt (pc' := 14) (tgt := 36) hX dX6_passHour_11 rfl (by decide) ⟨by omega, by omega⟩ (fun c53 => ?_) (fun c53 => ?_)
  · refine zt_mask [true, false, true, false, false] rfl ?_
    exact J_36_19 s11 hI14 (by omega)
  · refine zt_iload_n (pc' := 15) hX dX6_passHour_14 rfl rfl ?_
    refine zt_bipush (pc' := 17) hX dX6_passHour_15 rfl (by decide) (by decide) ?_
    refine zt_icge (pc' := 20) (tgt := 36) hX dX6_passHour_17 rfl (by decide) ⟨by omega, by omega⟩ ⟨by omega, by omega⟩ (fun c54 => ?_) (fun c54 => ?_)
    · refine zt_mask [true, false, true, false, false] rfl ?_
      exact J_36_19 s11 hI14 (by omega)
    · refine zt_aload_n (pc' := 21) hX dX6_passHour_20 rfl rfl ?_
      refine zt_get (pc' := 24) (v := .ref (X.1.1 + 162)) hX dX6_passHour_21 rfl zf_X6_31 (by decide) zc_153 zs_35 (zrf_of (zv_35_5 hI14 zc_153)) ?_
      refine zt_iload_n (pc' := 25) hX dX6_passHour_24 rfl rfl ?_
      refine zt_dup2 (pc' := 26) hX dX6_passHour_25 rfl rfl rfl ?_
      refine zt_iald (pc' := 27) hX dX6_passHour_26 rfl (by decide) zc_162 zs_44 (by decide) ⟨by omega, by omega⟩ ?_
      generalize hv55 : s11 162 (a1_.toNat) = v55
      have bv55 : -2147483648 ≤ v55 ∧ v55 ≤ 2147483647 := hv55 ▸ zv_44 hI14 zc_162 _
      refine zt_aload_n (pc' := 28) hX dX6_passHour_27 rfl rfl ?_
      obtain ⟨k56, ek57, hk58⟩ := zv_35_6 hI14 zc_153
      refine zt_get (pc' := 31) (v := .ref (X.1.1 + k56)) hX dX6_passHour_28 rfl zf_X6_54 (by decide) zc_153 zs_35 (zrf_of ek57) ?_
      have b59 := zv_8_15 hI14 hk58
      refine zt_get (pc' := 34) (v := .int (zI (s11 k56 15))) hX dX6_passHour_31 rfl zf_X6_201 (zro_lt hk58 (by decide)) hk58 zs_8 rfl ?_
      refine zt_isub (pc' := 35) hX dX6_passHour_34 rfl ?_
      refine zt_wrap (fun r60 zr60 lr60 ur60 => ?_)
      clear zr60
      refine zt_iast (pc' := 36) hX dX6_passHour_35 rfl (by decide) zc_162 zs_44 (by decide) ⟨by omega, by omega⟩ ?_
      generalize hs62 : zset s11 162 (a1_.toNat) r60 = s61
      have hI63 : zInv s61 := hs62 ▸ zp_44 hI14 zc_162 (a1_.toNat) ⟨by omega, by omega⟩
      have hF64 : zFE σ s61 := hs62 ▸ zFE_set hF16 zc_162 (by decide) zke_44 (Or.inl (by decide)) (Or.inl (by decide))
      refine zt_mask [true, false, true, false, false] rfl ?_
      exact J_36_19 s61 hI63 (by omega)

set_option maxRecDepth 100000 in
set_option maxHeartbeats 4000000 in
theorem zc_X6_isMissed (l : Launch) (E : zEN) (σ : zSto) (hI : zInv σ) (a1_ : Int) (ha1_ : 0 ≤ a1_ ∧ a1_ ≤ 9) : zCt l E yX6_isMissed cX6_isMissed 3 (some .boolean) 1 zNC zNC 0 0 σ [.ref (E.1 + 153), .int (zI a1_)] (fun r σ' => σ = σ' ∧ 0 ≤ r ∧ r ≤ 1) := by
  refine zCt_of2 [some (.ref (E.1 + 153)), some (.int (zI a1_)), none] (by decide +kernel) (Nat.le_of_ble_eq_true rfl) rfl ?_
  intro X hE hX hR hL hN
  subst hE
  have hX : zok X cX6_isMissed RX6 1 := hX
  refine zt_iconst (pc' := 1) hX dX6_isMissed_0 rfl ?_
  refine zt_istore_n (pc' := 2) (lv' := [some (.ref (X.1.1 + 153)), some (.int (zI a1_)), some (.int (zI 0))]) hX dX6_isMissed_1 rfl hL (by decide) rfl ?_
  have L_2_3 : ∀ (N : Nat) (x1 : Int), 0 ≤ x1 → x1 ≤ 36 → ((37 - x1).toNat) < N → zF X σ 2 [some (.ref (X.1.1 + 153)), some (.int (zI a1_)), some (.int (zI x1))] [] := by
    intro N
    induction N with
    | zero =>
      intro x1 h2 h3 hm5
      exact absurd hm5 (Nat.not_lt_zero _)
    | succ N ih6 =>
      intro x1 h2 h3 hm5
      refine zt_iload_n (pc' := 3) hX dX6_isMissed_2 rfl rfl ?_
      refine zt_aload_n (pc' := 4) hX dX6_isMissed_3 rfl rfl ?_
      obtain ⟨k7, ek8, hk9⟩ := zv_35_6 hI zc_153
      refine zt_get (pc' := 7) (v := .ref (X.1.1 + k7)) hX dX6_isMissed_4 rfl zf_X6_54 (by decide) zc_153 zs_35 (zrf_of ek8) ?_
      refine zt_cVi (pc' := 10) hX dX6_isMissed_7 rfl zm_yX3_cells zw_43_7 hk9 (by decide) zs_8 (q := (RX3, TX3, 17)) rfl rfl (zc_X3_cells _ _ σ hI k7 hk9) rfl rfl (Nat.le_of_ble_eq_true rfl) (by decide) (fun r10 s11 hr12 hp13 => ?_)
      obtain ⟨rfl, q14, q15⟩ := hp13
      refine zt_icge (pc' := 13) (tgt := 61) hX dX6_isMissed_10 rfl (by decide) ⟨by omega, by omega⟩ ⟨by omega, by omega⟩ (fun c16 => ?_) (fun c16 => ?_)
      · refine zt_iconst (pc' := 62) hX dX6_isMissed_61 rfl ?_
        exact zt_zret hX hR dX6_isMissed_62 ⟨by omega, by omega⟩ ⟨rfl, by omega, by omega⟩
      · refine zt_aload_n (pc' := 14) hX dX6_isMissed_13 rfl rfl ?_
        obtain ⟨k17, ek18, hk19⟩ := zv_35_7 hI zc_153
        refine zt_get (pc' := 17) (v := .ref (X.1.1 + k17)) hX dX6_isMissed_14 rfl zf_X6_58 (by decide) zc_153 zs_35 (zrf_of ek18) ?_
        refine zt_iload_n (pc' := 18) hX dX6_isMissed_17 rfl rfl ?_
        refine zt_cVz (pc' := 21) hX dX6_isMissed_18 rfl zm_yX10_isCracked zw_43_11 hk19 (by decide) zs_22 (q := (RX10, TX10, 8)) rfl rfl (zc_X10_isCracked _ _ σ hI k17 hk19 x1 ⟨by omega, by omega⟩) rfl rfl (Nat.le_of_ble_eq_true rfl) (by decide) (fun r20 s21 hr22 hp23 => ?_)
        obtain ⟨rfl, q24, q25⟩ := hp23
        have J_55_25 : zF X σ 55 [some (.ref (X.1.1 + 153)), some (.int (zI a1_)), some (.int (zI x1))] [] := by
          refine zt_iinc (pc' := 58) (lv' := [some (.ref (X.1.1 + 153)), some (.int (zI a1_)), some (.int (zI (x1 + 1)))]) hX dX6_isMissed_55 rfl rfl hL (by decide) rfl ?_
          refine zt_goto (tgt := 2) hX dX6_isMissed_58 (by decide) ?_
          exact ih6 (x1 + 1) (by omega) (by omega) (by omega)
        refine zt_ifne (pc' := 24) (tgt := 55) hX dX6_isMissed_21 rfl (by decide) ⟨by omega, by omega⟩ (fun c27 => ?_) (fun c27 => ?_)
        · exact J_55_25
        · refine zt_aload_n (pc' := 25) hX dX6_isMissed_24 rfl rfl ?_
          refine zt_get (pc' := 28) (v := .ref (X.1.1 + 162)) hX dX6_isMissed_25 rfl zf_X6_31 (by decide) zc_153 zs_35 (zrf_of (zv_35_5 hI zc_153)) ?_
          refine zt_iload_n (pc' := 29) hX dX6_isMissed_28 rfl rfl ?_
          refine zt_iald (pc' := 30) hX dX6_isMissed_29 rfl (by decide) zc_162 zs_44 (by decide) ⟨by omega, by omega⟩ ?_
          generalize hv28 : σ 162 (x1.toNat) = v28
          have bv28 : -2147483648 ≤ v28 ∧ v28 ≤ 2147483647 := hv28 ▸ zv_44 hI zc_162 _
          refine zt_iflt (pc' := 33) (tgt := 55) hX dX6_isMissed_30 rfl (by decide) ⟨by omega, by omega⟩ (fun c29 => ?_) (fun c29 => ?_)
          · exact J_55_25
          · refine zt_aload_n (pc' := 34) hX dX6_isMissed_33 rfl rfl ?_
            refine zt_get (pc' := 37) (v := .ref (X.1.1 + 162)) hX dX6_isMissed_34 rfl zf_X6_31 (by decide) zc_153 zs_35 (zrf_of (zv_35_5 hI zc_153)) ?_
            refine zt_iload_n (pc' := 38) hX dX6_isMissed_37 rfl rfl ?_
            refine zt_iald (pc' := 39) hX dX6_isMissed_38 rfl (by decide) zc_162 zs_44 (by decide) ⟨by omega, by omega⟩ ?_
            generalize hv30 : σ 162 (x1.toNat) = v30
            have bv30 : -2147483648 ≤ v30 ∧ v30 ≤ 2147483647 := hv30 ▸ zv_44 hI zc_162 _
            refine zt_aload_n (pc' := 40) hX dX6_isMissed_39 rfl rfl ?_
            refine zt_get (pc' := 43) (v := .ref (X.1.1 + 158)) hX dX6_isMissed_40 rfl zf_X6_18 (by decide) zc_153 zs_35 (zrf_of (zv_35_1 hI zc_153)) ?_
            refine zt_iload_n (pc' := 44) hX dX6_isMissed_43 rfl rfl ?_
            refine zt_bipush (pc' := 46) hX dX6_isMissed_44 rfl (by decide) (by decide) ?_
            refine zt_imul (pc' := 47) hX dX6_isMissed_46 rfl ?_
            refine zt_iload_n (pc' := 48) hX dX6_isMissed_47 rfl rfl ?_
            refine zt_iadd (pc' := 49) hX dX6_isMissed_48 rfl ?_
            refine zt_iald (pc' := 50) hX dX6_isMissed_49 rfl (by decide) zc_158 zs_40 (by decide) ⟨by omega, by omega⟩ ?_
            generalize hv31 : σ 158 (((a1_ * 36) + x1).toNat) = v31
            have bv31 : -2147483648 ≤ v31 ∧ v31 ≤ 2147483647 := hv31 ▸ zv_40 hI zc_158 _
            refine zt_icge (pc' := 53) (tgt := 55) hX dX6_isMissed_50 rfl (by decide) ⟨by omega, by omega⟩ ⟨by omega, by omega⟩ (fun c32 => ?_) (fun c32 => ?_)
            · exact J_55_25
            · refine zt_iconst (pc' := 54) hX dX6_isMissed_53 rfl ?_
              exact zt_zret hX hR dX6_isMissed_54 ⟨by omega, by omega⟩ ⟨rfl, by omega, by omega⟩
  exact L_2_3 _ 0 (by omega) (by omega) (Nat.lt_succ_self _)

set_option maxRecDepth 100000 in
set_option maxHeartbeats 4000000 in
theorem zc_X6_freeOf (l : Launch) (E : zEN) (σ : zSto) (hI : zInv σ) (a1_ : Int) (ha1_ : -2147483648 ≤ a1_ ∧ a1_ ≤ 2147483647) : zCt l E yX6_freeOf cX6_freeOf 4 (some .int) 2 zNC zNC 0 0 σ [.ref (E.1 + 153), .int (zI a1_)] (fun r σ' => σ = σ' ∧ -2147483648 ≤ r ∧ r ≤ 2147483647) := by
  refine zCt_of2 [some (.ref (E.1 + 153)), some (.int (zI a1_)), none, none] (by decide +kernel) (Nat.le_of_ble_eq_true rfl) rfl ?_
  intro X hE hX hR hL hN
  subst hE
  have hX : zok X cX6_freeOf RX6 2 := hX
  refine zt_iconst (pc' := 1) hX dX6_freeOf_0 rfl ?_
  refine zt_istore_n (pc' := 2) (lv' := [some (.ref (X.1.1 + 153)), some (.int (zI a1_)), some (.int (zI 0)), none]) hX dX6_freeOf_1 rfl hL (by decide) rfl ?_
  refine zt_iconst (pc' := 3) hX dX6_freeOf_2 rfl ?_
  refine zt_istore_n (pc' := 4) (lv' := [some (.ref (X.1.1 + 153)), some (.int (zI a1_)), some (.int (zI 0)), some (.int (zI 0))]) hX dX6_freeOf_3 rfl hL (by decide) rfl ?_
  have L_4_6 : ∀ (N : Nat) (x1 : Int) (x4 : Int), -2147483648 ≤ x1 → x1 ≤ 2147483647 → 0 ≤ x4 → x4 ≤ 10 → ((11 - x4).toNat) < N → zF X σ 4 [some (.ref (X.1.1 + 153)), some (.int (zI a1_)), some (.int (zI x1)), some (.int (zI x4))] [] := by
    intro N
    induction N with
    | zero =>
      intro x1 x4 h2 h3 h5 h6 hm8
      exact absurd hm8 (Nat.not_lt_zero _)
    | succ N ih9 =>
      intro x1 x4 h2 h3 h5 h6 hm8
      refine zt_iload_n (pc' := 5) hX dX6_freeOf_4 rfl rfl ?_
      refine zt_aload_n (pc' := 6) hX dX6_freeOf_5 rfl rfl ?_
      obtain ⟨k10, ek11, hk12⟩ := zv_35_6 hI zc_153
      refine zt_get (pc' := 9) (v := .ref (X.1.1 + k10)) hX dX6_freeOf_6 rfl zf_X6_54 (by decide) zc_153 zs_35 (zrf_of ek11) ?_
      have b13 := zv_8_12 hI hk12
      refine zt_get (pc' := 12) (v := .int (zI (σ k10 12))) hX dX6_freeOf_9 rfl zf_X6_62 (zro_lt hk12 (by decide)) hk12 zs_8 rfl ?_
      refine zt_icge (pc' := 15) (tgt := 43) hX dX6_freeOf_12 rfl (by decide) ⟨by omega, by omega⟩ ⟨by omega, by omega⟩ (fun c14 => ?_) (fun c14 => ?_)
      · refine zt_iload_n (pc' := 44) hX dX6_freeOf_43 rfl rfl ?_
        exact zt_iret hX hR dX6_freeOf_44 ⟨by omega, by omega⟩ ⟨rfl, by omega, by omega⟩
      · refine zt_iload_n (pc' := 16) hX dX6_freeOf_15 rfl rfl ?_
        refine zt_iload_n (pc' := 17) hX dX6_freeOf_16 rfl rfl ?_
        refine zt_ishr (pc' := 18) hX dX6_freeOf_17 rfl (fun r15 zr15 lr15 ur15 => ?_)
        clear zr15
        refine zt_iconst (pc' := 19) hX dX6_freeOf_18 rfl ?_
        refine zt_iandm (pc' := 20) hX dX6_freeOf_19 rfl 1 (by decide +kernel) (by decide) (fun r16 er16 lr16 ur16 => ?_)
        have ur16 : r16 ≤ 1 := by omega
        have J_37_19 : ∀ (x17 : Int), -2147483648 ≤ x17 → x17 ≤ 2147483647 → zF X σ 37 [some (.ref (X.1.1 + 153)), some (.int (zI a1_)), some (.int (zI x17)), some (.int (zI x4))] [] := by
          intro x17 h18 h19
          refine zt_iinc (pc' := 40) (lv' := [some (.ref (X.1.1 + 153)), some (.int (zI a1_)), some (.int (zI x17)), some (.int (zI (x4 + 1)))]) hX dX6_freeOf_37 rfl rfl hL (by decide) rfl ?_
          refine zt_goto (tgt := 4) hX dX6_freeOf_40 (by decide) ?_
          exact ih9 x17 (x4 + 1) (by omega) (by omega) (by omega) (by omega) (by omega)
        refine zt_ifeq (pc' := 23) (tgt := 37) hX dX6_freeOf_20 rfl (by decide) ⟨by omega, by omega⟩ (fun c21 => ?_) (fun c21 => ?_)
        · exact J_37_19 x1 (by omega) (by omega)
        · refine zt_aload_n (pc' := 24) hX dX6_freeOf_23 rfl rfl ?_
          refine zt_iload_n (pc' := 25) hX dX6_freeOf_24 rfl rfl ?_
          refine zt_cVz (pc' := 28) hX dX6_freeOf_25 rfl zm_yX6_isMissed zw_52_8 zc_153 (by decide) zs_35 (q := (RX6, TX6, 14)) rfl rfl (zc_X6_isMissed _ _ σ hI x4 ⟨by omega, by omega⟩) rfl rfl (Nat.le_of_ble_eq_true rfl) (by decide) (fun r22 s23 hr24 hp25 => ?_)
          obtain ⟨rfl, q26, q27⟩ := hp25
          refine zt_ifne (pc' := 31) (tgt := 37) hX dX6_freeOf_28 rfl (by decide) ⟨by omega, by omega⟩ (fun c28 => ?_) (fun c28 => ?_)
          · exact J_37_19 x1 (by omega) (by omega)
          · refine zt_iload_n (pc' := 32) hX dX6_freeOf_31 rfl rfl ?_
            refine zt_iconst (pc' := 33) hX dX6_freeOf_32 rfl ?_
            refine zt_iload_n (pc' := 34) hX dX6_freeOf_33 rfl rfl ?_
            refine zt_ishl1 9 (pc' := 35) hX dX6_freeOf_34 rfl ⟨by omega, by omega⟩ (by decide) (fun r29 er29 lr29 ur29 => ?_)
            have ur29 : r29 ≤ 512 := by omega
            refine zt_ior (pc' := 36) hX dX6_freeOf_35 rfl (fun r30 zr30 lr30 ur30 => ?_)
            clear zr30
            refine zt_istore_n (pc' := 37) (lv' := [some (.ref (X.1.1 + 153)), some (.int (zI a1_)), some (.int (zI r30)), some (.int (zI x4))]) hX dX6_freeOf_36 rfl hL (by decide) rfl ?_
            exact J_37_19 r30 (by omega) (by omega)
  exact L_4_6 _ 0 0 (by omega) (by omega) (by omega) (by omega) (Nat.lt_succ_self _)
