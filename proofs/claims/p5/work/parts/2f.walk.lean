set_option maxRecDepth 100000 in
set_option maxHeartbeats 4000000 in
theorem zc_X1_both_o0 (l : Launch) (E : zEN) (σ : zSto) (hI : zInv σ) (hpre0 : σ 27 5 ≤ 1600) : zCt l E yX1_both cX1_both 3 none 32 zNC zNC 0 0 σ [.ref (E.1 + 33), .int (zI 0)] (fun r σ' => zInv σ' ∧ zFA σ σ' ∧ (σ' 27 5 = σ 27 5)) := by
  refine zCt_of2 [some (.ref (E.1 + 33)), some (.int (zI 0)), none] (by decide +kernel) (Nat.le_of_ble_eq_true rfl) rfl ?_
  intro X hE hX hR hL hN
  subst hE
  have hX : zok X cX1_both RX1 32 := hX
  have hF := zFA_rf σ
  have b1 := zv_14_5 hI zc_27
  refine zt_aload_n (pc' := 1) hX dX1_both_0 rfl rfl ?_
  refine zt_iload_n (pc' := 2) hX dX1_both_1 rfl rfl ?_
  refine zt_cVv (pc' := 5) hX dX1_both_2 rfl zm_yX1_fact zw_24_10 zc_33 (by decide) zs_20 (q := (RX1, TX1, 3)) rfl rfl (zc_X1_fact_o0 _ _ σ hI (by omega)) rfl rfl (Nat.le_of_ble_eq_true rfl) (by decide) (fun r2 s3 hr4 hp5 => ?_)
  obtain ⟨hI6, hF7, z8⟩ := hp5
  have hF9 := zFA_tr hF hF7
  have b10 := zv_14_5 hI6 zc_27
  refine zt_iconst (pc' := 6) hX dX1_both_5 rfl ?_
  refine zt_istore_n (pc' := 7) (lv' := [some (.ref (X.1.1 + 33)), some (.int (zI 0)), some (.int (zI 0))]) hX dX1_both_6 rfl hL (by decide) rfl ?_
  have L_7_17 : ∀ (N : Nat) (x11 : Int) (s14 : zSto), 0 ≤ x11 → x11 ≤ 1600 → zInv s14 → zFA σ s14 → s14 27 5 = σ 27 5 → ((1601 - x11).toNat) < N → zF X s14 7 [some (.ref (X.1.1 + 33)), some (.int (zI 0)), some (.int (zI x11))] [] := by
    intro N
    induction N with
    | zero =>
      intro x11 s14 h12 h13 hI15 hF16 g17 hm19
      exact absurd hm19 (Nat.not_lt_zero _)
    | succ N ih20 =>
      intro x11 s14 h12 h13 hI15 hF16 g17 hm19
      have b21 := zv_14_5 hI15 zc_27
      refine zt_iload_n (pc' := 8) hX dX1_both_7 rfl rfl ?_
      refine zt_sipush (pc' := 11) hX dX1_both_8 rfl (by decide) (by decide) ?_
      refine zt_icge (pc' := 14) (tgt := 53) hX dX1_both_11 rfl (by decide) ⟨by omega, by omega⟩ ⟨by omega, by omega⟩ (fun c22 => ?_) (fun c22 => ?_)
      · exact zt_vret hX hR dX1_both_53 ⟨hI15, hF16, by omega⟩
      · refine zt_aload_n (pc' := 15) hX dX1_both_14 rfl rfl ?_
        refine zt_get (pc' := 18) (v := .ref (X.1.1 + 27)) hX dX1_both_15 rfl zf_X1_15 (by decide) zc_33 zs_20 (zrf_of (zv_20_0 hI15 zc_33)) ?_
        refine zt_cVi (pc' := 21) hX dX1_both_18 rfl zm_yX5_wordHere zw_22_21 zc_27 (by decide) zs_14 (q := (RX5, TX5, 9)) rfl rfl (zc_X5_wordHere _ _ s14 hI15 ) rfl rfl (Nat.le_of_ble_eq_true rfl) (by decide) (fun r23 s24 hr25 hp26 => ?_)
        obtain ⟨rfl, q27, q28⟩ := hp26
        refine zt_bipush (pc' := 23) hX dX1_both_21 rfl (by decide) (by decide) ?_
        refine zt_icne (pc' := 26) (tgt := 53) hX dX1_both_23 rfl (by decide) ⟨by omega, by omega⟩ ⟨by omega, by omega⟩ (fun c29 => ?_) (fun c29 => ?_)
        · exact zt_vret hX hR dX1_both_53 ⟨hI15, hF16, by omega⟩
        · refine zt_aload_n (pc' := 27) hX dX1_both_26 rfl rfl ?_
          refine zt_get (pc' := 30) (v := .ref (X.1.1 + 27)) hX dX1_both_27 rfl zf_X1_15 (by decide) zc_33 zs_20 (zrf_of (zv_20_0 hI15 zc_33)) ?_
          refine zt_cVv (pc' := 33) hX dX1_both_30 rfl zm_yX5_step zw_22_6 zc_27 (by decide) zs_14 (q := (RX5, TX5, 9)) rfl rfl (zc_X5_step _ _ s14 hI15 (by omega)) rfl rfl (Nat.le_of_ble_eq_true rfl) (by decide) (fun r30 s31 hr32 hp33 => ?_)
          obtain ⟨hI34, hF35, z36⟩ := hp33
          have hF37 := zFA_tr hF16 hF35
          have b38 := zv_14_5 hI34 zc_27
          refine zt_aload_n (pc' := 34) hX dX1_both_33 rfl rfl ?_
          refine zt_iload_n (pc' := 35) hX dX1_both_34 rfl rfl ?_
          refine zt_cVv (pc' := 38) hX dX1_both_35 rfl zm_yX1_fact zw_24_10 zc_33 (by decide) zs_20 (q := (RX1, TX1, 3)) rfl rfl (zc_X1_fact_o0 _ _ s31 hI34 (by omega)) rfl rfl (Nat.le_of_ble_eq_true rfl) (by decide) (fun r39 s40 hr41 hp42 => ?_)
          obtain ⟨hI43, hF44, z45⟩ := hp42
          have hF46 := zFA_tr hF37 hF44
          have b47 := zv_14_5 hI43 zc_27
          refine zt_aload_n (pc' := 39) hX dX1_both_38 rfl rfl ?_
          obtain ⟨k48, ek49, hk50⟩ := zv_20_1 hI43 zc_33
          refine zt_get (pc' := 42) (v := .ref (X.1.1 + k48)) hX dX1_both_39 rfl zf_X1_19 (by decide) zc_33 zs_20 (zrf_of ek49) ?_
          refine zt_bipush (pc' := 44) hX dX1_both_42 rfl (by decide) (by decide) ?_
          refine zt_cVv (pc' := 47) hX dX1_both_44 rfl zm_yX4_addStep zw_22_7 hk50 (by decide) zs_6 (q := (RX4, TX4, 2)) rfl rfl (zc_X4_addStep _ _ s40 hI43 k48 hk50 22 ⟨by omega, by omega⟩) rfl rfl (Nat.le_of_ble_eq_true rfl) (by decide) (fun r51 s52 hr53 hp54 => ?_)
          obtain ⟨hI55, hF56, z57⟩ := hp54
          have hF58 := zFA_tr hF46 hF56
          have b59 := zv_14_5 hI55 zc_27
          refine zt_iinc (pc' := 50) (lv' := [some (.ref (X.1.1 + 33)), some (.int (zI 0)), some (.int (zI (x11 + 1)))]) hX dX1_both_47 rfl rfl hL (by decide) rfl ?_
          refine zt_goto (tgt := 7) hX dX1_both_50 (by decide) ?_
          exact ih20 (x11 + 1) s52 (by omega) (by omega) hI55 hF58 (by omega) (by omega)
  exact L_7_17 _ 0 s3 (by omega) (by omega) hI6 hF9 (by omega) (Nat.lt_succ_self _)

set_option maxRecDepth 100000 in
set_option maxHeartbeats 4000000 in
theorem zc_X1_test_o0 (l : Launch) (E : zEN) (σ : zSto) (hI : zInv σ) (hpre0 : σ 27 5 ≤ 1600) : zCt l E yX1_test cX1_test 3 none 33 zNC zNC 0 0 σ [.ref (E.1 + 33), .int (zI 0)] (fun r σ' => zInv σ' ∧ zFA σ σ' ∧ (σ' 27 5 = σ 27 5)) := by
  refine zCt_of2 [some (.ref (E.1 + 33)), some (.int (zI 0)), none] (by decide +kernel) (Nat.le_of_ble_eq_true rfl) rfl ?_
  intro X hE hX hR hL hN
  subst hE
  have hX : zok X cX1_test RX1 33 := hX
  have hF := zFA_rf σ
  have b1 := zv_14_5 hI zc_27
  refine zt_aload_n (pc' := 1) hX dX1_test_0 rfl rfl ?_
  refine zt_iload_n (pc' := 2) hX dX1_test_1 rfl rfl ?_
  refine zt_cVv (pc' := 5) hX dX1_test_2 rfl zm_yX1_both zw_24_6 zc_33 (by decide) zs_20 (q := (RX1, TX1, 3)) rfl rfl (zc_X1_both_o0 _ _ σ hI (by omega)) rfl rfl (Nat.le_of_ble_eq_true rfl) (by decide) (fun r2 s3 hr4 hp5 => ?_)
  obtain ⟨hI6, hF7, z8⟩ := hp5
  have hF9 := zFA_tr hF hF7
  have b10 := zv_14_5 hI6 zc_27
  refine zt_iconst (pc' := 6) hX dX1_test_5 rfl ?_
  refine zt_istore_n (pc' := 7) (lv' := [some (.ref (X.1.1 + 33)), some (.int (zI 0)), some (.int (zI 0))]) hX dX1_test_6 rfl hL (by decide) rfl ?_
  have L_7_17 : ∀ (N : Nat) (x11 : Int) (s14 : zSto), 0 ≤ x11 → x11 ≤ 1600 → zInv s14 → zFA σ s14 → s14 27 5 = σ 27 5 → ((1601 - x11).toNat) < N → zF X s14 7 [some (.ref (X.1.1 + 33)), some (.int (zI 0)), some (.int (zI x11))] [] := by
    intro N
    induction N with
    | zero =>
      intro x11 s14 h12 h13 hI15 hF16 g17 hm19
      exact absurd hm19 (Nat.not_lt_zero _)
    | succ N ih20 =>
      intro x11 s14 h12 h13 hI15 hF16 g17 hm19
      have b21 := zv_14_5 hI15 zc_27
      refine zt_iload_n (pc' := 8) hX dX1_test_7 rfl rfl ?_
      refine zt_sipush (pc' := 11) hX dX1_test_8 rfl (by decide) (by decide) ?_
      refine zt_icge (pc' := 14) (tgt := 53) hX dX1_test_11 rfl (by decide) ⟨by omega, by omega⟩ ⟨by omega, by omega⟩ (fun c22 => ?_) (fun c22 => ?_)
      · exact zt_vret hX hR dX1_test_53 ⟨hI15, hF16, by omega⟩
      · refine zt_aload_n (pc' := 15) hX dX1_test_14 rfl rfl ?_
        refine zt_get (pc' := 18) (v := .ref (X.1.1 + 27)) hX dX1_test_15 rfl zf_X1_15 (by decide) zc_33 zs_20 (zrf_of (zv_20_0 hI15 zc_33)) ?_
        refine zt_cVi (pc' := 21) hX dX1_test_18 rfl zm_yX5_wordHere zw_22_21 zc_27 (by decide) zs_14 (q := (RX5, TX5, 9)) rfl rfl (zc_X5_wordHere _ _ s14 hI15 ) rfl rfl (Nat.le_of_ble_eq_true rfl) (by decide) (fun r23 s24 hr25 hp26 => ?_)
        obtain ⟨rfl, q27, q28⟩ := hp26
        refine zt_bipush (pc' := 23) hX dX1_test_21 rfl (by decide) (by decide) ?_
        refine zt_icne (pc' := 26) (tgt := 53) hX dX1_test_23 rfl (by decide) ⟨by omega, by omega⟩ ⟨by omega, by omega⟩ (fun c29 => ?_) (fun c29 => ?_)
        · exact zt_vret hX hR dX1_test_53 ⟨hI15, hF16, by omega⟩
        · refine zt_aload_n (pc' := 27) hX dX1_test_26 rfl rfl ?_
          refine zt_get (pc' := 30) (v := .ref (X.1.1 + 27)) hX dX1_test_27 rfl zf_X1_15 (by decide) zc_33 zs_20 (zrf_of (zv_20_0 hI15 zc_33)) ?_
          refine zt_cVv (pc' := 33) hX dX1_test_30 rfl zm_yX5_step zw_22_6 zc_27 (by decide) zs_14 (q := (RX5, TX5, 9)) rfl rfl (zc_X5_step _ _ s14 hI15 (by omega)) rfl rfl (Nat.le_of_ble_eq_true rfl) (by decide) (fun r30 s31 hr32 hp33 => ?_)
          obtain ⟨hI34, hF35, z36⟩ := hp33
          have hF37 := zFA_tr hF16 hF35
          have b38 := zv_14_5 hI34 zc_27
          refine zt_aload_n (pc' := 34) hX dX1_test_33 rfl rfl ?_
          refine zt_iload_n (pc' := 35) hX dX1_test_34 rfl rfl ?_
          refine zt_cVv (pc' := 38) hX dX1_test_35 rfl zm_yX1_both zw_24_6 zc_33 (by decide) zs_20 (q := (RX1, TX1, 3)) rfl rfl (zc_X1_both_o0 _ _ s31 hI34 (by omega)) rfl rfl (Nat.le_of_ble_eq_true rfl) (by decide) (fun r39 s40 hr41 hp42 => ?_)
          obtain ⟨hI43, hF44, z45⟩ := hp42
          have hF46 := zFA_tr hF37 hF44
          have b47 := zv_14_5 hI43 zc_27
          refine zt_aload_n (pc' := 39) hX dX1_test_38 rfl rfl ?_
          obtain ⟨k48, ek49, hk50⟩ := zv_20_1 hI43 zc_33
          refine zt_get (pc' := 42) (v := .ref (X.1.1 + k48)) hX dX1_test_39 rfl zf_X1_19 (by decide) zc_33 zs_20 (zrf_of ek49) ?_
          refine zt_bipush (pc' := 44) hX dX1_test_42 rfl (by decide) (by decide) ?_
          refine zt_cVv (pc' := 47) hX dX1_test_44 rfl zm_yX4_addStep zw_22_7 hk50 (by decide) zs_6 (q := (RX4, TX4, 2)) rfl rfl (zc_X4_addStep _ _ s40 hI43 k48 hk50 21 ⟨by omega, by omega⟩) rfl rfl (Nat.le_of_ble_eq_true rfl) (by decide) (fun r51 s52 hr53 hp54 => ?_)
          obtain ⟨hI55, hF56, z57⟩ := hp54
          have hF58 := zFA_tr hF46 hF56
          have b59 := zv_14_5 hI55 zc_27
          refine zt_iinc (pc' := 50) (lv' := [some (.ref (X.1.1 + 33)), some (.int (zI 0)), some (.int (zI (x11 + 1)))]) hX dX1_test_47 rfl rfl hL (by decide) rfl ?_
          refine zt_goto (tgt := 7) hX dX1_test_50 (by decide) ?_
          exact ih20 (x11 + 1) s52 (by omega) (by omega) hI55 hF58 (by omega) (by omega)
  exact L_7_17 _ 0 s3 (by omega) (by omega) hI6 hF9 (by omega) (Nat.lt_succ_self _)

set_option maxRecDepth 100000 in
set_option maxHeartbeats 4000000 in
theorem zc_X1_readSum (l : Launch) (E : zEN) (σ : zSto) (hI : zInv σ) (k1_ : Nat) (hk1_ : zro k1_ = 6) (a2_ : Int) (ha2_ : 0 ≤ a2_ ∧ a2_ ≤ 2) (hpre0 : σ 27 5 ≤ 1600) : zCt l E yX1_readSum cX1_readSum 3 none 30 zNC zNC 0 0 σ [.ref (E.1 + 33), .ref (E.1 + k1_), .int (zI a2_)] (fun r σ' => zInv σ' ∧ zFA σ σ' ∧ (σ' 27 5 = σ 27 5)) := by
  refine zCt_of2 [some (.ref (E.1 + 33)), some (.ref (E.1 + k1_)), some (.int (zI a2_))] (by decide +kernel) (Nat.le_of_ble_eq_true rfl) rfl ?_
  intro X hE hX hR hL hN
  subst hE
  have hX : zok X cX1_readSum RX1 30 := hX
  have hF := zFA_rf σ
  have b1 := zv_14_5 hI zc_27
  refine zt_aload_n (pc' := 1) hX dX1_readSum_0 rfl rfl ?_
  refine zt_aload_n (pc' := 2) hX dX1_readSum_1 rfl rfl ?_
  refine zt_put (pc' := 5) (x := ((k1_ : Nat) : Int)) hX dX1_readSum_2 rfl zf_X1_19 (by decide) zc_33 zs_20 (fun q hq => by cases hq; rfl) (zrf_of rfl) rfl rfl ?_
  generalize hs3 : zset σ 33 1 ((k1_ : Nat) : Int) = s2
  have hI4 : zInv s2 := hs3 ▸ zp_20_1 hI zc_33 ⟨k1_, rfl, hk1_⟩
  have hF5 : zFA σ s2 := hs3 ▸ zFA_set hF zc_33 (by decide) zk_20 (Or.inl (by decide))
  have e6 : s2 27 5 = σ 27 5 := by rw [← hs3]; exact zset_k (zne_r zc_27 zc_33 (by decide))
  have ek7 : s2 33 1 = ((k1_ : Nat) : Int) := by rw [← hs3]; exact zset_s
  refine zt_aload_n (pc' := 6) hX dX1_readSum_5 rfl rfl ?_
  refine zt_iload_n (pc' := 7) hX dX1_readSum_6 rfl rfl ?_
  refine zt_put (pc' := 10) (x := a2_) hX dX1_readSum_7 rfl zf_X1_9 (by decide) zc_33 zs_20 (fun q hq => by cases hq; rfl) rfl rfl rfl ?_
  generalize hs9 : zset s2 33 2 a2_ = s8
  have hI10 : zInv s8 := hs9 ▸ zp_20_2 hI4 zc_33 ⟨by omega, by omega⟩
  have hF11 : zFA σ s8 := hs9 ▸ zFA_set hF5 zc_33 (by decide) zk_20 (Or.inl (by decide))
  have e12 : s8 27 5 = s2 27 5 := by rw [← hs9]; exact zset_k (zne_r zc_27 zc_33 (by decide))
  refine zt_aload_n (pc' := 11) hX dX1_readSum_10 rfl rfl ?_
  refine zt_iconst (pc' := 12) hX dX1_readSum_11 rfl ?_
  refine zt_put (pc' := 15) (x := 0) hX dX1_readSum_12 rfl zf_X1_23 (zro_lt hk1_ (by decide)) hk1_ zs_6 (fun q hq => by cases hq; rfl) rfl rfl rfl ?_
  generalize hs14 : zset s8 k1_ 1 0 = s13
  have hI15 : zInv s13 := hs14 ▸ zp_6_1 hI10 hk1_ ⟨by omega, by omega⟩
  have hF16 : zFA σ s13 := hs14 ▸ zFA_set hF11 hk1_ (by decide) zk_6 (Or.inl (by decide))
  have e17 : s13 27 5 = s8 27 5 := by rw [← hs14]; exact zset_k (zne_r zc_27 hk1_ (by decide))
  refine zt_aload_n (pc' := 16) hX dX1_readSum_15 rfl rfl ?_
  refine zt_iconst (pc' := 17) hX dX1_readSum_16 rfl ?_
  refine zt_cVv (pc' := 20) hX dX1_readSum_17 rfl zm_yX1_sum zw_21_19 zc_33 (by decide) zs_20 (q := (RX1, TX1, 3)) rfl rfl (zc_X1_sum_o0 _ _ s13 hI15 (by omega)) rfl rfl (Nat.le_of_ble_eq_true rfl) (by decide) (fun r18 s19 hr20 hp21 => ?_)
  obtain ⟨hI22, hF23, z24⟩ := hp21
  have hF25 := zFA_tr hF16 hF23
  have b26 := zv_14_5 hI22 zc_27
  exact zt_vret hX hR dX1_readSum_20 ⟨hI22, hF25, by omega⟩

set_option maxRecDepth 100000 in
set_option maxHeartbeats 4000000 in
theorem zc_X1_readTest (l : Launch) (E : zEN) (σ : zSto) (hI : zInv σ) (k1_ : Nat) (hk1_ : zro k1_ = 6) (a2_ : Int) (ha2_ : 0 ≤ a2_ ∧ a2_ ≤ 2) (hpre0 : σ 27 5 ≤ 1600) : zCt l E yX1_readTest cX1_readTest 3 none 34 zNC zNC 0 0 σ [.ref (E.1 + 33), .ref (E.1 + k1_), .int (zI a2_)] (fun r σ' => zInv σ' ∧ zFA σ σ' ∧ (σ' 27 5 = σ 27 5)) := by
  refine zCt_of2 [some (.ref (E.1 + 33)), some (.ref (E.1 + k1_)), some (.int (zI a2_))] (by decide +kernel) (Nat.le_of_ble_eq_true rfl) rfl ?_
  intro X hE hX hR hL hN
  subst hE
  have hX : zok X cX1_readTest RX1 34 := hX
  have hF := zFA_rf σ
  have b1 := zv_14_5 hI zc_27
  refine zt_aload_n (pc' := 1) hX dX1_readTest_0 rfl rfl ?_
  refine zt_aload_n (pc' := 2) hX dX1_readTest_1 rfl rfl ?_
  refine zt_put (pc' := 5) (x := ((k1_ : Nat) : Int)) hX dX1_readTest_2 rfl zf_X1_19 (by decide) zc_33 zs_20 (fun q hq => by cases hq; rfl) (zrf_of rfl) rfl rfl ?_
  generalize hs3 : zset σ 33 1 ((k1_ : Nat) : Int) = s2
  have hI4 : zInv s2 := hs3 ▸ zp_20_1 hI zc_33 ⟨k1_, rfl, hk1_⟩
  have hF5 : zFA σ s2 := hs3 ▸ zFA_set hF zc_33 (by decide) zk_20 (Or.inl (by decide))
  have e6 : s2 27 5 = σ 27 5 := by rw [← hs3]; exact zset_k (zne_r zc_27 zc_33 (by decide))
  have ek7 : s2 33 1 = ((k1_ : Nat) : Int) := by rw [← hs3]; exact zset_s
  refine zt_aload_n (pc' := 6) hX dX1_readTest_5 rfl rfl ?_
  refine zt_iload_n (pc' := 7) hX dX1_readTest_6 rfl rfl ?_
  refine zt_put (pc' := 10) (x := a2_) hX dX1_readTest_7 rfl zf_X1_9 (by decide) zc_33 zs_20 (fun q hq => by cases hq; rfl) rfl rfl rfl ?_
  generalize hs9 : zset s2 33 2 a2_ = s8
  have hI10 : zInv s8 := hs9 ▸ zp_20_2 hI4 zc_33 ⟨by omega, by omega⟩
  have hF11 : zFA σ s8 := hs9 ▸ zFA_set hF5 zc_33 (by decide) zk_20 (Or.inl (by decide))
  have e12 : s8 27 5 = s2 27 5 := by rw [← hs9]; exact zset_k (zne_r zc_27 zc_33 (by decide))
  refine zt_aload_n (pc' := 11) hX dX1_readTest_10 rfl rfl ?_
  refine zt_iconst (pc' := 12) hX dX1_readTest_11 rfl ?_
  refine zt_put (pc' := 15) (x := 0) hX dX1_readTest_12 rfl zf_X1_23 (zro_lt hk1_ (by decide)) hk1_ zs_6 (fun q hq => by cases hq; rfl) rfl rfl rfl ?_
  generalize hs14 : zset s8 k1_ 1 0 = s13
  have hI15 : zInv s13 := hs14 ▸ zp_6_1 hI10 hk1_ ⟨by omega, by omega⟩
  have hF16 : zFA σ s13 := hs14 ▸ zFA_set hF11 hk1_ (by decide) zk_6 (Or.inl (by decide))
  have e17 : s13 27 5 = s8 27 5 := by rw [← hs14]; exact zset_k (zne_r zc_27 hk1_ (by decide))
  refine zt_aload_n (pc' := 16) hX dX1_readTest_15 rfl rfl ?_
  refine zt_iconst (pc' := 17) hX dX1_readTest_16 rfl ?_
  refine zt_cVv (pc' := 20) hX dX1_readTest_17 rfl zm_yX1_test zw_24_2 zc_33 (by decide) zs_20 (q := (RX1, TX1, 3)) rfl rfl (zc_X1_test_o0 _ _ s13 hI15 (by omega)) rfl rfl (Nat.le_of_ble_eq_true rfl) (by decide) (fun r18 s19 hr20 hp21 => ?_)
  obtain ⟨hI22, hF23, z24⟩ := hp21
  have hF25 := zFA_tr hF16 hF23
  have b26 := zv_14_5 hI22 zc_27
  exact zt_vret hX hR dX1_readTest_20 ⟨hI22, hF25, by omega⟩

set_option maxRecDepth 100000 in
set_option maxHeartbeats 4000000 in
theorem zc_X1_readQuestion (l : Launch) (E : zEN) (σ : zSto) (hI : zInv σ) (k1_ : Nat) (hk1_ : zro k1_ = 6) : zCt l E yX1_readQuestion cX1_readQuestion 4 (some .int) 35 zNC zNC 0 0 σ [.ref (E.1 + 33), .ref (E.1 + k1_), .ref (E.1 + 1)] (fun r σ' => zInv σ' ∧ zFA σ σ' ∧ -1 ≤ r ∧ r ≤ 32) := by
  refine zCt_of2 [some (.ref (E.1 + 33)), some (.ref (E.1 + k1_)), some (.ref (E.1 + 1)), none] (by decide +kernel) (Nat.le_of_ble_eq_true rfl) rfl ?_
  intro X hE hX hR hL hN
  subst hE
  have hX : zok X cX1_readQuestion RX1 35 := hX
  have hF := zFA_rf σ
  have b1 := zv_14_5 hI zc_27
  refine zt_aload_n (pc' := 1) hX dX1_readQuestion_0 rfl rfl ?_
  refine zt_get (pc' := 4) (v := .ref (X.1.1 + 27)) hX dX1_readQuestion_1 rfl zf_X1_15 (by decide) zc_33 zs_20 (zrf_of (zv_20_0 hI zc_33)) ?_
  refine zt_aload_n (pc' := 5) hX dX1_readQuestion_4 rfl rfl ?_
  refine zt_cVv (pc' := 8) hX dX1_readQuestion_5 rfl zm_yX5_open zw_64_18 zc_27 (by decide) zs_14 (q := (RX5, TX5, 9)) rfl rfl (zc_X5_open _ _ σ hI ) rfl rfl (Nat.le_of_ble_eq_true rfl) (by decide) (fun r2 s3 hr4 hp5 => ?_)
  obtain ⟨hI6, hF7, z8⟩ := hp5
  have hF9 := zFA_tr hF hF7
  have b10 := zv_14_5 hI6 zc_27
  refine zt_aload_n (pc' := 9) hX dX1_readQuestion_8 rfl rfl ?_
  refine zt_get (pc' := 12) (v := .ref (X.1.1 + 27)) hX dX1_readQuestion_9 rfl zf_X1_15 (by decide) zc_33 zs_20 (zrf_of (zv_20_0 hI6 zc_33)) ?_
  refine zt_cVi (pc' := 15) hX dX1_readQuestion_12 rfl zm_yX5_wordHere zw_22_21 zc_27 (by decide) zs_14 (q := (RX5, TX5, 9)) rfl rfl (zc_X5_wordHere _ _ s3 hI6 ) rfl rfl (Nat.le_of_ble_eq_true rfl) (by decide) (fun r11 s12 hr13 hp14 => ?_)
  obtain ⟨rfl, q15, q16⟩ := hp14
  refine zt_istore_n (pc' := 16) (lv' := [some (.ref (X.1.1 + 33)), some (.ref (X.1.1 + k1_)), some (.ref (X.1.1 + 1)), some (.int (zI r11))]) hX dX1_readQuestion_15 rfl hL (by decide) rfl ?_
  refine zt_iload_n (pc' := 17) hX dX1_readQuestion_16 rfl rfl ?_
  refine zt_bipush (pc' := 19) hX dX1_readQuestion_17 rfl (by decide) (by decide) ?_
  have J_99_20 : ∀ (s17 : zSto), zInv s17 → zFA σ s17 → s17 27 5 ≤ 1600 → zF X s17 99 [some (.ref (X.1.1 + 33)), none, none, some (.int (zI r11))] [] := by
    intro s17 hI18 hF19 g20
    have b22 := zv_14_5 hI18 zc_27
    refine zt_aload_n (pc' := 100) hX dX1_readQuestion_99 rfl rfl ?_
    refine zt_get (pc' := 103) (v := .ref (X.1.1 + 27)) hX dX1_readQuestion_100 rfl zf_X1_15 (by decide) zc_33 zs_20 (zrf_of (zv_20_0 hI18 zc_33)) ?_
    refine zt_cVz (pc' := 106) hX dX1_readQuestion_103 rfl zm_yX5_hasMore zw_64_21 zc_27 (by decide) zs_14 (q := (RX5, TX5, 9)) rfl rfl (zc_X5_hasMore _ _ s17 hI18 ) rfl rfl (Nat.le_of_ble_eq_true rfl) (by decide) (fun r23 s24 hr25 hp26 => ?_)
    obtain ⟨rfl, q27, q28⟩ := hp26
    refine zt_ifeq (pc' := 109) (tgt := 124) hX dX1_readQuestion_106 rfl (by decide) ⟨by omega, by omega⟩ (fun c29 => ?_) (fun c29 => ?_)
    · refine zt_iload_n (pc' := 125) hX dX1_readQuestion_124 rfl rfl ?_
      exact zt_iret hX hR dX1_readQuestion_125 ⟨by omega, by omega⟩ ⟨hI18, hF19, by omega, by omega⟩
    · refine zt_aload_n (pc' := 110) hX dX1_readQuestion_109 rfl rfl ?_
      refine zt_get (pc' := 113) (v := .ref (X.1.1 + 27)) hX dX1_readQuestion_110 rfl zf_X1_15 (by decide) zc_33 zs_20 (zrf_of (zv_20_0 hI18 zc_33)) ?_
      refine zt_iconst (pc' := 114) hX dX1_readQuestion_113 rfl ?_
      refine zt_aload_n (pc' := 115) hX dX1_readQuestion_114 rfl rfl ?_
      refine zt_get (pc' := 118) (v := .ref (X.1.1 + 27)) hX dX1_readQuestion_115 rfl zf_X1_15 (by decide) zc_33 zs_20 (zrf_of (zv_20_0 hI18 zc_33)) ?_
      refine zt_cVi (pc' := 121) hX dX1_readQuestion_118 rfl zm_yX5_placeHere zw_22_9 zc_27 (by decide) zs_14 (q := (RX5, TX5, 9)) rfl rfl (zc_X5_placeHere _ _ s17 hI18 ) rfl rfl (Nat.le_of_ble_eq_true rfl) (by decide) (fun r30 s31 hr32 hp33 => ?_)
      obtain ⟨rfl, q34, q35⟩ := hp33
      refine zt_cVv (pc' := 124) hX dX1_readQuestion_121 rfl zm_yX5_refuse zw_22_10 zc_27 (by decide) zs_14 (q := (RX5, TX5, 9)) rfl rfl (zc_X5_refuse _ _ s17 hI18 1 ⟨by omega, by omega⟩ r30 ⟨by omega, by omega⟩ (by omega)) rfl rfl (Nat.le_of_ble_eq_true rfl) (by decide) (fun r36 s37 hr38 hp39 => ?_)
      obtain ⟨hI40, hF41, z42⟩ := hp39
      have hF43 := zFA_tr hF19 hF41
      have b44 := zv_14_5 hI40 zc_27
      refine zt_iload_n (pc' := 125) hX dX1_readQuestion_124 rfl rfl ?_
      exact zt_iret hX hR dX1_readQuestion_125 ⟨by omega, by omega⟩ ⟨hI40, hF43, by omega, by omega⟩
  have J_34_44 : zF X s3 34 [some (.ref (X.1.1 + 33)), some (.ref (X.1.1 + k1_)), none, some (.int (zI r11))] [] := by
    refine zt_aload_n (pc' := 35) hX dX1_readQuestion_34 rfl rfl ?_
    refine zt_get (pc' := 38) (v := .ref (X.1.1 + 27)) hX dX1_readQuestion_35 rfl zf_X1_15 (by decide) zc_33 zs_20 (zrf_of (zv_20_0 hI6 zc_33)) ?_
    refine zt_cVv (pc' := 41) hX dX1_readQuestion_38 rfl zm_yX5_step zw_22_6 zc_27 (by decide) zs_14 (q := (RX5, TX5, 9)) rfl rfl (zc_X5_step _ _ s3 hI6 (by omega)) rfl rfl (Nat.le_of_ble_eq_true rfl) (by decide) (fun r46 s47 hr48 hp49 => ?_)
    obtain ⟨hI50, hF51, z52⟩ := hp49
    have hF53 := zFA_tr hF9 hF51
    have b54 := zv_14_5 hI50 zc_27
    refine zt_aload_n (pc' := 42) hX dX1_readQuestion_41 rfl rfl ?_
    refine zt_aload_n (pc' := 43) hX dX1_readQuestion_42 rfl rfl ?_
    refine zt_iconst (pc' := 44) hX dX1_readQuestion_43 rfl ?_
    refine zt_cVv (pc' := 47) hX dX1_readQuestion_44 rfl zm_yX1_readTest zw_64_19 zc_33 (by decide) zs_20 (q := (RX1, TX1, 3)) rfl rfl (zc_X1_readTest _ _ s47 hI50 k1_ hk1_ 2 ⟨by omega, by omega⟩ (by omega)) rfl rfl (Nat.le_of_ble_eq_true rfl) (by decide) (fun r55 s56 hr57 hp58 => ?_)
    obtain ⟨hI59, hF60, z61⟩ := hp58
    have hF62 := zFA_tr hF53 hF60
    have b63 := zv_14_5 hI59 zc_27
    refine zt_goto (tgt := 99) hX dX1_readQuestion_47 (by decide) ?_
    refine zt_mask [true, false, false, true] rfl ?_
    exact J_99_20 s56 hI59 hF62 (by omega)
  refine zt_iceq (pc' := 22) (tgt := 34) hX dX1_readQuestion_19 rfl (by decide) ⟨by omega, by omega⟩ ⟨by omega, by omega⟩ (fun c64 => ?_) (fun c64 => ?_)
  · refine zt_mask [true, true, false, true] rfl ?_
    exact J_34_44
  · refine zt_iload_n (pc' := 23) hX dX1_readQuestion_22 rfl rfl ?_
    refine zt_bipush (pc' := 25) hX dX1_readQuestion_23 rfl (by decide) (by decide) ?_
    refine zt_iceq (pc' := 28) (tgt := 34) hX dX1_readQuestion_25 rfl (by decide) ⟨by omega, by omega⟩ ⟨by omega, by omega⟩ (fun c65 => ?_) (fun c65 => ?_)
    · refine zt_mask [true, true, false, true] rfl ?_
      exact J_34_44
    · refine zt_iload_n (pc' := 29) hX dX1_readQuestion_28 rfl rfl ?_
      refine zt_bipush (pc' := 31) hX dX1_readQuestion_29 rfl (by decide) (by decide) ?_
      refine zt_icne (pc' := 34) (tgt := 50) hX dX1_readQuestion_31 rfl (by decide) ⟨by omega, by omega⟩ ⟨by omega, by omega⟩ (fun c66 => ?_) (fun c66 => ?_)
      · refine zt_iload_n (pc' := 51) hX dX1_readQuestion_50 rfl rfl ?_
        refine zt_bipush (pc' := 53) hX dX1_readQuestion_51 rfl (by decide) (by decide) ?_
        have J_68_66 : zF X s3 68 [some (.ref (X.1.1 + 33)), some (.ref (X.1.1 + k1_)), none, some (.int (zI r11))] [] := by
          refine zt_aload_n (pc' := 69) hX dX1_readQuestion_68 rfl rfl ?_
          refine zt_get (pc' := 72) (v := .ref (X.1.1 + 27)) hX dX1_readQuestion_69 rfl zf_X1_15 (by decide) zc_33 zs_20 (zrf_of (zv_20_0 hI6 zc_33)) ?_
          refine zt_cVv (pc' := 75) hX dX1_readQuestion_72 rfl zm_yX5_step zw_22_6 zc_27 (by decide) zs_14 (q := (RX5, TX5, 9)) rfl rfl (zc_X5_step _ _ s3 hI6 (by omega)) rfl rfl (Nat.le_of_ble_eq_true rfl) (by decide) (fun r68 s69 hr70 hp71 => ?_)
          obtain ⟨hI72, hF73, z74⟩ := hp71
          have hF75 := zFA_tr hF9 hF73
          have b76 := zv_14_5 hI72 zc_27
          refine zt_aload_n (pc' := 76) hX dX1_readQuestion_75 rfl rfl ?_
          refine zt_aload_n (pc' := 77) hX dX1_readQuestion_76 rfl rfl ?_
          refine zt_iconst (pc' := 78) hX dX1_readQuestion_77 rfl ?_
          refine zt_cVv (pc' := 81) hX dX1_readQuestion_78 rfl zm_yX1_readSum zw_64_20 zc_33 (by decide) zs_20 (q := (RX1, TX1, 3)) rfl rfl (zc_X1_readSum _ _ s69 hI72 k1_ hk1_ 2 ⟨by omega, by omega⟩ (by omega)) rfl rfl (Nat.le_of_ble_eq_true rfl) (by decide) (fun r77 s78 hr79 hp80 => ?_)
          obtain ⟨hI81, hF82, z83⟩ := hp80
          have hF84 := zFA_tr hF75 hF82
          have b85 := zv_14_5 hI81 zc_27
          refine zt_goto (tgt := 99) hX dX1_readQuestion_81 (by decide) ?_
          refine zt_mask [true, false, false, true] rfl ?_
          exact J_99_20 s78 hI81 hF84 (by omega)
        refine zt_iceq (pc' := 56) (tgt := 68) hX dX1_readQuestion_53 rfl (by decide) ⟨by omega, by omega⟩ ⟨by omega, by omega⟩ (fun c86 => ?_) (fun c86 => ?_)
        · refine zt_mask [true, true, false, true] rfl ?_
          exact J_68_66
        · refine zt_iload_n (pc' := 57) hX dX1_readQuestion_56 rfl rfl ?_
          refine zt_bipush (pc' := 59) hX dX1_readQuestion_57 rfl (by decide) (by decide) ?_
          refine zt_iceq (pc' := 62) (tgt := 68) hX dX1_readQuestion_59 rfl (by decide) ⟨by omega, by omega⟩ ⟨by omega, by omega⟩ (fun c87 => ?_) (fun c87 => ?_)
          · refine zt_mask [true, true, false, true] rfl ?_
            exact J_68_66
          · refine zt_iload_n (pc' := 63) hX dX1_readQuestion_62 rfl rfl ?_
            refine zt_bipush (pc' := 65) hX dX1_readQuestion_63 rfl (by decide) (by decide) ?_
            refine zt_icne (pc' := 68) (tgt := 84) hX dX1_readQuestion_65 rfl (by decide) ⟨by omega, by omega⟩ ⟨by omega, by omega⟩ (fun c88 => ?_) (fun c88 => ?_)
            · refine zt_aload_n (pc' := 85) hX dX1_readQuestion_84 rfl rfl ?_
              refine zt_get (pc' := 88) (v := .ref (X.1.1 + 27)) hX dX1_readQuestion_85 rfl zf_X1_15 (by decide) zc_33 zs_20 (zrf_of (zv_20_0 hI6 zc_33)) ?_
              refine zt_iconst (pc' := 89) hX dX1_readQuestion_88 rfl ?_
              refine zt_aload_n (pc' := 90) hX dX1_readQuestion_89 rfl rfl ?_
              refine zt_get (pc' := 93) (v := .ref (X.1.1 + 27)) hX dX1_readQuestion_90 rfl zf_X1_15 (by decide) zc_33 zs_20 (zrf_of (zv_20_0 hI6 zc_33)) ?_
              refine zt_cVi (pc' := 96) hX dX1_readQuestion_93 rfl zm_yX5_placeHere zw_22_9 zc_27 (by decide) zs_14 (q := (RX5, TX5, 9)) rfl rfl (zc_X5_placeHere _ _ s3 hI6 ) rfl rfl (Nat.le_of_ble_eq_true rfl) (by decide) (fun r89 s90 hr91 hp92 => ?_)
              obtain ⟨rfl, q93, q94⟩ := hp92
              refine zt_cVv (pc' := 99) hX dX1_readQuestion_96 rfl zm_yX5_refuse zw_22_10 zc_27 (by decide) zs_14 (q := (RX5, TX5, 9)) rfl rfl (zc_X5_refuse _ _ s3 hI6 1 ⟨by omega, by omega⟩ r89 ⟨by omega, by omega⟩ (by omega)) rfl rfl (Nat.le_of_ble_eq_true rfl) (by decide) (fun r95 s96 hr97 hp98 => ?_)
              obtain ⟨hI99, hF100, z101⟩ := hp98
              have hF102 := zFA_tr hF9 hF100
              have b103 := zv_14_5 hI99 zc_27
              refine zt_mask [true, false, false, true] rfl ?_
              exact J_99_20 s96 hI99 hF102 (by omega)
            · refine zt_mask [true, true, false, true] rfl ?_
              exact J_68_66
      · refine zt_mask [true, true, false, true] rfl ?_
        exact J_34_44

set_option maxRecDepth 100000 in
set_option maxHeartbeats 4000000 in
theorem zc_X8_readPane (l : Launch) (E : zEN) (σ : zSto) (hI : zInv σ) (hpre0 : σ 27 5 ≤ 1600) : zCt l E yX8_readPane cX8_readPane 3 none 2 zNC zNC 0 0 σ [.ref (E.1 + 34)] (fun r σ' => zInv σ' ∧ zFA σ σ' ∧ (σ' 27 5 = σ 27 5)) := by
  refine zCt_of2 [some (.ref (E.1 + 34)), none, none] (by decide +kernel) (Nat.le_of_ble_eq_true rfl) rfl ?_
  intro X hE hX hR hL hN
  subst hE
  have hX : zok X cX8_readPane RX8 2 := hX
  have hF := zFA_rf σ
  have b1 := zv_14_5 hI zc_27
  refine zt_aload_n (pc' := 1) hX dX8_readPane_0 rfl rfl ?_
  refine zt_get (pc' := 4) (v := .ref (X.1.1 + 27)) hX dX8_readPane_1 rfl zf_X8_9 (by decide) zc_34 zs_21 (zrf_of (zv_21_0 hI zc_34)) ?_
  refine zt_iconst (pc' := 5) hX dX8_readPane_4 rfl ?_
  refine zt_cVv (pc' := 8) hX dX8_readPane_5 rfl zm_yX5_takeWord zw_18_2 zc_27 (by decide) zs_14 (q := (RX5, TX5, 9)) rfl rfl (zc_X5_takeWord _ _ σ hI 0 ⟨by omega, by omega⟩ (by omega)) rfl rfl (Nat.le_of_ble_eq_true rfl) (by decide) (fun r2 s3 hr4 hp5 => ?_)
  obtain ⟨hI6, hF7, z8⟩ := hp5
  have hF9 := zFA_tr hF hF7
  have b10 := zv_14_5 hI6 zc_27
  refine zt_aload_n (pc' := 9) hX dX8_readPane_8 rfl rfl ?_
  refine zt_get (pc' := 12) (v := .ref (X.1.1 + 27)) hX dX8_readPane_9 rfl zf_X8_9 (by decide) zc_34 zs_21 (zrf_of (zv_21_0 hI6 zc_34)) ?_
  refine zt_iconst (pc' := 13) hX dX8_readPane_12 rfl ?_
  refine zt_bipush (pc' := 15) hX dX8_readPane_13 rfl (by decide) (by decide) ?_
  refine zt_cVi (pc' := 18) hX dX8_readPane_15 rfl zm_yX5_takeNumber zw_18_18 zc_27 (by decide) zs_14 (q := (RX5, TX5, 9)) rfl rfl (zc_X5_takeNumber _ _ s3 hI6 2 ⟨by omega, by omega⟩ 6 ⟨by omega, by omega⟩ (by omega)) rfl rfl (Nat.le_of_ble_eq_true rfl) (by decide) (fun r11 s12 hr13 hp14 => ?_)
  obtain ⟨hI15, hF16, q17, q18, z19, z20⟩ := hp14
  have hF21 := zFA_tr hF9 hF16
  have b22 := zv_14_5 hI15 zc_27
  refine zt_istore_n (pc' := 19) (lv' := [some (.ref (X.1.1 + 34)), some (.int (zI r11)), none]) hX dX8_readPane_18 rfl hL (by decide) rfl ?_
  refine zt_aload_n (pc' := 20) hX dX8_readPane_19 rfl rfl ?_
  refine zt_get (pc' := 23) (v := .ref (X.1.1 + 27)) hX dX8_readPane_20 rfl zf_X8_9 (by decide) zc_34 zs_21 (zrf_of (zv_21_0 hI15 zc_34)) ?_
  refine zt_iconst (pc' := 24) hX dX8_readPane_23 rfl ?_
  refine zt_cVv (pc' := 27) hX dX8_readPane_24 rfl zm_yX5_takeWord zw_18_2 zc_27 (by decide) zs_14 (q := (RX5, TX5, 9)) rfl rfl (zc_X5_takeWord _ _ s12 hI15 1 ⟨by omega, by omega⟩ (by omega)) rfl rfl (Nat.le_of_ble_eq_true rfl) (by decide) (fun r23 s24 hr25 hp26 => ?_)
  obtain ⟨hI27, hF28, z29⟩ := hp26
  have hF30 := zFA_tr hF21 hF28
  have b31 := zv_14_5 hI27 zc_27
  refine zt_aload_n (pc' := 28) hX dX8_readPane_27 rfl rfl ?_
  refine zt_get (pc' := 31) (v := .ref (X.1.1 + 27)) hX dX8_readPane_28 rfl zf_X8_9 (by decide) zc_34 zs_21 (zrf_of (zv_21_0 hI27 zc_34)) ?_
  refine zt_iconst (pc' := 32) hX dX8_readPane_31 rfl ?_
  refine zt_bipush (pc' := 34) hX dX8_readPane_32 rfl (by decide) (by decide) ?_
  refine zt_cVi (pc' := 37) hX dX8_readPane_34 rfl zm_yX5_takeNumber zw_18_18 zc_27 (by decide) zs_14 (q := (RX5, TX5, 9)) rfl rfl (zc_X5_takeNumber _ _ s24 hI27 2 ⟨by omega, by omega⟩ 6 ⟨by omega, by omega⟩ (by omega)) rfl rfl (Nat.le_of_ble_eq_true rfl) (by decide) (fun r32 s33 hr34 hp35 => ?_)
  obtain ⟨hI36, hF37, q38, q39, z40, z41⟩ := hp35
  have hF42 := zFA_tr hF30 hF37
  have b43 := zv_14_5 hI36 zc_27
  refine zt_istore_n (pc' := 38) (lv' := [some (.ref (X.1.1 + 34)), some (.int (zI r11)), some (.int (zI r32))]) hX dX8_readPane_37 rfl hL (by decide) rfl ?_
  refine zt_aload_n (pc' := 39) hX dX8_readPane_38 rfl rfl ?_
  obtain ⟨k44, ek45, hk46⟩ := zv_21_2 hI36 zc_34
  refine zt_get (pc' := 42) (v := .ref (X.1.1 + k44)) hX dX8_readPane_39 rfl zf_X8_19 (by decide) zc_34 zs_21 (zrf_of ek45) ?_
  refine zt_iload_n (pc' := 43) hX dX8_readPane_42 rfl rfl ?_
  refine zt_iload_n (pc' := 44) hX dX8_readPane_43 rfl rfl ?_
  refine zt_cVv (pc' := 47) hX dX8_readPane_44 rfl zm_yX3_setSides zw_19_2 hk46 (by decide) zs_8 (q := (RX3, TX3, 17)) rfl rfl (zc_X3_setSides _ _ s33 hI36 k44 hk46 r11 ⟨by omega, by omega⟩ r32 ⟨by omega, by omega⟩) rfl rfl (Nat.le_of_ble_eq_true rfl) (by decide) (fun r47 s48 hr49 hp50 => ?_)
  obtain ⟨hI51, hF52, z53⟩ := hp50
  have hF54 := zFA_tr hF42 hF52
  have b55 := zv_14_5 hI51 zc_27
  refine zt_aload_n (pc' := 48) hX dX8_readPane_47 rfl rfl ?_
  refine zt_get (pc' := 51) (v := .ref (X.1.1 + 27)) hX dX8_readPane_48 rfl zf_X8_9 (by decide) zc_34 zs_21 (zrf_of (zv_21_0 hI51 zc_34)) ?_
  refine zt_iconst (pc' := 52) hX dX8_readPane_51 rfl ?_
  refine zt_cVv (pc' := 55) hX dX8_readPane_52 rfl zm_yX5_takeWord zw_18_2 zc_27 (by decide) zs_14 (q := (RX5, TX5, 9)) rfl rfl (zc_X5_takeWord _ _ s48 hI51 2 ⟨by omega, by omega⟩ (by omega)) rfl rfl (Nat.le_of_ble_eq_true rfl) (by decide) (fun r56 s57 hr58 hp59 => ?_)
  obtain ⟨hI60, hF61, z62⟩ := hp59
  have hF63 := zFA_tr hF54 hF61
  have b64 := zv_14_5 hI60 zc_27
  refine zt_aload_n (pc' := 56) hX dX8_readPane_55 rfl rfl ?_
  obtain ⟨k65, ek66, hk67⟩ := zv_21_2 hI60 zc_34
  refine zt_get (pc' := 59) (v := .ref (X.1.1 + k65)) hX dX8_readPane_56 rfl zf_X8_19 (by decide) zc_34 zs_21 (zrf_of ek66) ?_
  refine zt_aload_n (pc' := 60) hX dX8_readPane_59 rfl rfl ?_
  refine zt_get (pc' := 63) (v := .ref (X.1.1 + 27)) hX dX8_readPane_60 rfl zf_X8_9 (by decide) zc_34 zs_21 (zrf_of (zv_21_0 hI60 zc_34)) ?_
  refine zt_iconst (pc' := 64) hX dX8_readPane_63 rfl ?_
  refine zt_bipush (pc' := 66) hX dX8_readPane_64 rfl (by decide) (by decide) ?_
  refine zt_cVi (pc' := 69) hX dX8_readPane_66 rfl zm_yX5_takeNumber zw_18_18 zc_27 (by decide) zs_14 (q := (RX5, TX5, 9)) rfl rfl (zc_X5_takeNumber _ _ s57 hI60 0 ⟨by omega, by omega⟩ 99 ⟨by omega, by omega⟩ (by omega)) rfl rfl (Nat.le_of_ble_eq_true rfl) (by decide) (fun r68 s69 hr70 hp71 => ?_)
  obtain ⟨hI72, hF73, q74, q75, z76, z77⟩ := hp71
  have hF78 := zFA_tr hF63 hF73
  have b79 := zv_14_5 hI72 zc_27
  refine zt_put (pc' := 72) (x := r68) hX dX8_readPane_69 rfl zf_X8_66 (zro_lt hk67 (by decide)) hk67 zs_8 (fun q hq => by cases hq; rfl) rfl rfl rfl ?_
  generalize hs81 : zset s69 k65 13 r68 = s80
  have hI82 : zInv s80 := hs81 ▸ zp_8_13 hI72 hk67 ⟨by omega, by omega⟩
  have hF83 : zFA σ s80 := hs81 ▸ zFA_set hF78 hk67 (by decide) zk_8 (Or.inl (by decide))
  have e84 : s80 27 5 = s69 27 5 := by rw [← hs81]; exact zset_k (zne_r zc_27 hk67 (by decide))
  exact zt_vret hX hR dX8_readPane_72 ⟨hI82, hF83, by omega⟩

set_option maxRecDepth 100000 in
set_option maxHeartbeats 4000000 in
theorem zc_X8_readHeavy (l : Launch) (E : zEN) (σ : zSto) (hI : zInv σ) (hpre0 : σ 27 5 ≤ 1600) : zCt l E yX8_readHeavy cX8_readHeavy 4 none 2 zNC zNC 0 0 σ [.ref (E.1 + 34)] (fun r σ' => zInv σ' ∧ zFA σ σ' ∧ (σ' 27 5 = σ 27 5)) := by
  refine zCt_of2 [some (.ref (E.1 + 34)), none, none, none] (by decide +kernel) (Nat.le_of_ble_eq_true rfl) rfl ?_
  intro X hE hX hR hL hN
  subst hE
  have hX : zok X cX8_readHeavy RX8 2 := hX
  have hF := zFA_rf σ
  have b1 := zv_14_5 hI zc_27
  refine zt_aload_n (pc' := 1) hX dX8_readHeavy_0 rfl rfl ?_
  refine zt_get (pc' := 4) (v := .ref (X.1.1 + 27)) hX dX8_readHeavy_1 rfl zf_X8_9 (by decide) zc_34 zs_21 (zrf_of (zv_21_0 hI zc_34)) ?_
  refine zt_cVv (pc' := 7) hX dX8_readHeavy_4 rfl zm_yX5_step zw_19_21 zc_27 (by decide) zs_14 (q := (RX5, TX5, 9)) rfl rfl (zc_X5_step _ _ σ hI (by omega)) rfl rfl (Nat.le_of_ble_eq_true rfl) (by decide) (fun r2 s3 hr4 hp5 => ?_)
  obtain ⟨hI6, hF7, z8⟩ := hp5
  have hF9 := zFA_tr hF hF7
  have b10 := zv_14_5 hI6 zc_27
  refine zt_aload_n (pc' := 8) hX dX8_readHeavy_7 rfl rfl ?_
  refine zt_get (pc' := 11) (v := .ref (X.1.1 + 27)) hX dX8_readHeavy_8 rfl zf_X8_9 (by decide) zc_34 zs_21 (zrf_of (zv_21_0 hI6 zc_34)) ?_
  refine zt_iconst (pc' := 12) hX dX8_readHeavy_11 rfl ?_
  refine zt_aload_n (pc' := 13) hX dX8_readHeavy_12 rfl rfl ?_
  obtain ⟨k11, ek12, hk13⟩ := zv_21_2 hI6 zc_34
  refine zt_get (pc' := 16) (v := .ref (X.1.1 + k11)) hX dX8_readHeavy_13 rfl zf_X8_19 (by decide) zc_34 zs_21 (zrf_of ek12) ?_
  have b14 := zv_8_10 hI6 hk13
  refine zt_get (pc' := 19) (v := .int (zI (s3 k11 10))) hX dX8_readHeavy_16 rfl zf_X8_97 (zro_lt hk13 (by decide)) hk13 zs_8 rfl ?_
  refine zt_iconst (pc' := 20) hX dX8_readHeavy_19 rfl ?_
  refine zt_isub (pc' := 21) hX dX8_readHeavy_20 rfl ?_
  refine zt_cVi (pc' := 24) hX dX8_readHeavy_21 rfl zm_yX5_takeNumber zw_18_18 zc_27 (by decide) zs_14 (q := (RX5, TX5, 9)) rfl rfl (zc_X5_takeNumber _ _ s3 hI6 0 ⟨by omega, by omega⟩ ((s3 k11 10) - 1) ⟨by omega, by omega⟩ (by omega)) rfl rfl (Nat.le_of_ble_eq_true rfl) (by decide) (fun r15 s16 hr17 hp18 => ?_)
  obtain ⟨hI19, hF20, q21, q22, z23, z24⟩ := hp18
  have hF25 := zFA_tr hF9 hF20
  have b26 := zv_14_5 hI19 zc_27
  refine zt_istore_n (pc' := 25) (lv' := [some (.ref (X.1.1 + 34)), some (.int (zI r15)), none, none]) hX dX8_readHeavy_24 rfl hL (by decide) rfl ?_
  refine zt_aload_n (pc' := 26) hX dX8_readHeavy_25 rfl rfl ?_
  refine zt_get (pc' := 29) (v := .ref (X.1.1 + 27)) hX dX8_readHeavy_26 rfl zf_X8_9 (by decide) zc_34 zs_21 (zrf_of (zv_21_0 hI19 zc_34)) ?_
  refine zt_iconst (pc' := 30) hX dX8_readHeavy_29 rfl ?_
  refine zt_aload_n (pc' := 31) hX dX8_readHeavy_30 rfl rfl ?_
  obtain ⟨k27, ek28, hk29⟩ := zv_21_2 hI19 zc_34
  refine zt_get (pc' := 34) (v := .ref (X.1.1 + k27)) hX dX8_readHeavy_31 rfl zf_X8_19 (by decide) zc_34 zs_21 (zrf_of ek28) ?_
  have b30 := zv_8_11 hI19 hk29
  refine zt_get (pc' := 37) (v := .int (zI (s16 k27 11))) hX dX8_readHeavy_34 rfl zf_X8_100 (zro_lt hk29 (by decide)) hk29 zs_8 rfl ?_
  refine zt_iconst (pc' := 38) hX dX8_readHeavy_37 rfl ?_
  refine zt_isub (pc' := 39) hX dX8_readHeavy_38 rfl ?_
  refine zt_cVi (pc' := 42) hX dX8_readHeavy_39 rfl zm_yX5_takeNumber zw_18_18 zc_27 (by decide) zs_14 (q := (RX5, TX5, 9)) rfl rfl (zc_X5_takeNumber _ _ s16 hI19 0 ⟨by omega, by omega⟩ ((s16 k27 11) - 1) ⟨by omega, by omega⟩ (by omega)) rfl rfl (Nat.le_of_ble_eq_true rfl) (by decide) (fun r31 s32 hr33 hp34 => ?_)
  obtain ⟨hI35, hF36, q37, q38, z39, z40⟩ := hp34
  have hF41 := zFA_tr hF25 hF36
  have b42 := zv_14_5 hI35 zc_27
  refine zt_istore_n (pc' := 43) (lv' := [some (.ref (X.1.1 + 34)), some (.int (zI r15)), some (.int (zI r31)), none]) hX dX8_readHeavy_42 rfl hL (by decide) rfl ?_
  refine zt_aload_n (pc' := 44) hX dX8_readHeavy_43 rfl rfl ?_
  refine zt_get (pc' := 47) (v := .ref (X.1.1 + 27)) hX dX8_readHeavy_44 rfl zf_X8_9 (by decide) zc_34 zs_21 (zrf_of (zv_21_0 hI35 zc_34)) ?_
  refine zt_iconst (pc' := 48) hX dX8_readHeavy_47 rfl ?_
  refine zt_bipush (pc' := 50) hX dX8_readHeavy_48 rfl (by decide) (by decide) ?_
  refine zt_cVi (pc' := 53) hX dX8_readHeavy_50 rfl zm_yX5_takeNumber zw_18_18 zc_27 (by decide) zs_14 (q := (RX5, TX5, 9)) rfl rfl (zc_X5_takeNumber _ _ s32 hI35 0 ⟨by omega, by omega⟩ 99 ⟨by omega, by omega⟩ (by omega)) rfl rfl (Nat.le_of_ble_eq_true rfl) (by decide) (fun r43 s44 hr45 hp46 => ?_)
  obtain ⟨hI47, hF48, q49, q50, z51, z52⟩ := hp46
  have hF53 := zFA_tr hF41 hF48
  have b54 := zv_14_5 hI47 zc_27
  refine zt_istore_n (pc' := 54) (lv' := [some (.ref (X.1.1 + 34)), some (.int (zI r15)), some (.int (zI r31)), some (.int (zI r43))]) hX dX8_readHeavy_53 rfl hL (by decide) rfl ?_
  refine zt_aload_n (pc' := 55) hX dX8_readHeavy_54 rfl rfl ?_
  obtain ⟨k55, ek56, hk57⟩ := zv_21_2 hI47 zc_34
  refine zt_get (pc' := 58) (v := .ref (X.1.1 + k55)) hX dX8_readHeavy_55 rfl zf_X8_19 (by decide) zc_34 zs_21 (zrf_of ek56) ?_
  refine zt_get (pc' := 61) (v := .ref (X.1.1 + (k55 + 1))) hX dX8_readHeavy_58 rfl zf_X8_103 (zro_lt hk57 (by decide)) hk57 zs_8 (zrf_of (zv_8_0 hI47 hk57)) ?_
  refine zt_aload_n (pc' := 62) hX dX8_readHeavy_61 rfl rfl ?_
  refine zt_get (pc' := 65) (v := .ref (X.1.1 + k55)) hX dX8_readHeavy_62 rfl zf_X8_19 (by decide) zc_34 zs_21 (zrf_of ek56) ?_
  refine zt_iload_n (pc' := 66) hX dX8_readHeavy_65 rfl rfl ?_
  refine zt_iload_n (pc' := 67) hX dX8_readHeavy_66 rfl rfl ?_
  refine zt_cVi (pc' := 70) hX dX8_readHeavy_67 rfl zm_yX3_cellAt zw_19_22 hk57 (by decide) zs_8 (q := (RX3, TX3, 17)) rfl rfl (zc_X3_cellAt _ _ s44 hI47 k55 hk57 r15 ⟨by omega, by omega⟩ r31 ⟨by omega, by omega⟩) rfl rfl (Nat.le_of_ble_eq_true rfl) (by decide) (fun r58 s59 hr60 hp61 => ?_)
  obtain ⟨rfl, q62, q63, z64⟩ := hp61
  refine zt_iload_n (pc' := 71) hX dX8_readHeavy_70 rfl rfl ?_
  refine zt_iast (pc' := 72) hX dX8_readHeavy_71 rfl (zro_lt (zo_8_0 hk57) (by decide)) (zo_8_0 hk57) zs_9 (by decide) ⟨by omega, by omega⟩ ?_
  generalize hs66 : zset s44 (k55 + 1) (r58.toNat) r43 = s65
  have hI67 : zInv s65 := hs66 ▸ zp_9 hI47 (zo_8_0 hk57) (r58.toNat) ⟨by omega, by omega⟩
  have hF68 : zFA σ s65 := hs66 ▸ zFA_set hF53 (zo_8_0 hk57) (by decide) zk_9 (Or.inl (by decide))
  have e69 : s65 27 5 = s44 27 5 := by rw [← hs66]; exact zset_k (zne_r zc_27 (zo_8_0 hk57) (by decide))
  exact zt_vret hX hR dX8_readHeavy_72 ⟨hI67, hF68, by omega⟩

set_option maxRecDepth 100000 in
set_option maxHeartbeats 4000000 in
theorem zc_X8_takeName (l : Launch) (E : zEN) (σ : zSto) (hI : zInv σ) (hpre0 : σ 27 5 ≤ 1600) : zCt l E yX8_takeName cX8_takeName 4 (some .int) 1 zNC zNC 0 0 σ [.ref (E.1 + 34)] (fun r σ' => zInv σ' ∧ zFA σ σ' ∧ -2147483648 ≤ r ∧ r ≤ 2147483647 ∧ (σ' 27 5 = σ 27 5)) := by
  refine zCt_of2 [some (.ref (E.1 + 34)), none, none, none] (by decide +kernel) (Nat.le_of_ble_eq_true rfl) rfl ?_
  intro X hE hX hR hL hN
  subst hE
  have hX : zok X cX8_takeName RX8 1 := hX
  have hF := zFA_rf σ
  have b1 := zv_14_5 hI zc_27
  refine zt_aload_n (pc' := 1) hX dX8_takeName_0 rfl rfl ?_
  refine zt_get (pc' := 4) (v := .ref (X.1.1 + 27)) hX dX8_takeName_1 rfl zf_X8_9 (by decide) zc_34 zs_21 (zrf_of (zv_21_0 hI zc_34)) ?_
  refine zt_cVi (pc' := 7) hX dX8_takeName_4 rfl zm_yX5_kindHere zw_20_18 zc_27 (by decide) zs_14 (q := (RX5, TX5, 9)) rfl rfl (zc_X5_kindHere _ _ σ hI ) rfl rfl (Nat.le_of_ble_eq_true rfl) (by decide) (fun r2 s3 hr4 hp5 => ?_)
  obtain ⟨rfl, q6, q7⟩ := hp5
  refine zt_istore_n (pc' := 8) (lv' := [some (.ref (X.1.1 + 34)), some (.int (zI r2)), none, none]) hX dX8_takeName_7 rfl hL (by decide) rfl ?_
  refine zt_aload_n (pc' := 9) hX dX8_takeName_8 rfl rfl ?_
  refine zt_get (pc' := 12) (v := .ref (X.1.1 + 27)) hX dX8_takeName_9 rfl zf_X8_9 (by decide) zc_34 zs_21 (zrf_of (zv_21_0 hI zc_34)) ?_
  refine zt_get (pc' := 15) (v := .ref (X.1.1 + 31)) hX dX8_takeName_12 rfl zf_X8_127 (by decide) zc_27 zs_14 (zrf_of (zv_14_3 hI zc_27)) ?_
  refine zt_aload_n (pc' := 16) hX dX8_takeName_15 rfl rfl ?_
  refine zt_get (pc' := 19) (v := .ref (X.1.1 + 27)) hX dX8_takeName_16 rfl zf_X8_9 (by decide) zc_34 zs_21 (zrf_of (zv_21_0 hI zc_34)) ?_
  have b8 := zv_14_6 hI zc_27
  refine zt_get (pc' := 22) (v := .int (zI (σ 27 6))) hX dX8_takeName_19 rfl zf_X8_130 (by decide) zc_27 zs_14 rfl ?_
  refine zt_iald (pc' := 23) hX dX8_takeName_22 rfl (by decide) zc_31 zs_18 (by decide) ⟨by omega, by omega⟩ ?_
  generalize hv9 : σ 31 ((σ 27 6).toNat) = v9
  have bv9 : -2147483648 ≤ v9 ∧ v9 ≤ 2147483647 := hv9 ▸ zv_18 hI zc_31 _
  refine zt_istore_n (pc' := 24) (lv' := [some (.ref (X.1.1 + 34)), some (.int (zI r2)), some (.int (zI v9)), none]) hX dX8_takeName_23 rfl hL (by decide) rfl ?_
  refine zt_aload_n (pc' := 25) hX dX8_takeName_24 rfl rfl ?_
  refine zt_get (pc' := 28) (v := .ref (X.1.1 + 27)) hX dX8_takeName_25 rfl zf_X8_9 (by decide) zc_34 zs_21 (zrf_of (zv_21_0 hI zc_34)) ?_
  refine zt_cVi (pc' := 31) hX dX8_takeName_28 rfl zm_yX5_wordHere zw_19_13 zc_27 (by decide) zs_14 (q := (RX5, TX5, 9)) rfl rfl (zc_X5_wordHere _ _ σ hI ) rfl rfl (Nat.le_of_ble_eq_true rfl) (by decide) (fun r10 s11 hr12 hp13 => ?_)
  obtain ⟨rfl, q14, q15⟩ := hp13
  refine zt_istore_n (pc' := 32) (lv' := [some (.ref (X.1.1 + 34)), some (.int (zI r2)), some (.int (zI v9)), some (.int (zI r10))]) hX dX8_takeName_31 rfl hL (by decide) rfl ?_
  refine zt_iload_n (pc' := 33) hX dX8_takeName_32 rfl rfl ?_
  refine zt_iconst (pc' := 34) hX dX8_takeName_33 rfl ?_
  refine zt_icne (pc' := 37) (tgt := 58) hX dX8_takeName_34 rfl (by decide) ⟨by omega, by omega⟩ ⟨by omega, by omega⟩ (fun c16 => ?_) (fun c16 => ?_)
  · refine zt_iload_n (pc' := 59) hX dX8_takeName_58 rfl rfl ?_
    refine zt_iconst (pc' := 60) hX dX8_takeName_59 rfl ?_
    have J_73_16 : zF X σ 73 [some (.ref (X.1.1 + 34)), none, some (.int (zI v9)), none] [] := by
      refine zt_aload_n (pc' := 74) hX dX8_takeName_73 rfl rfl ?_
      refine zt_get (pc' := 77) (v := .ref (X.1.1 + 27)) hX dX8_takeName_74 rfl zf_X8_9 (by decide) zc_34 zs_21 (zrf_of (zv_21_0 hI zc_34)) ?_
      refine zt_iconst (pc' := 78) hX dX8_takeName_77 rfl ?_
      refine zt_aload_n (pc' := 79) hX dX8_takeName_78 rfl rfl ?_
      refine zt_get (pc' := 82) (v := .ref (X.1.1 + 27)) hX dX8_takeName_79 rfl zf_X8_9 (by decide) zc_34 zs_21 (zrf_of (zv_21_0 hI zc_34)) ?_
      refine zt_cVi (pc' := 85) hX dX8_takeName_82 rfl zm_yX5_placeHere zw_20_7 zc_27 (by decide) zs_14 (q := (RX5, TX5, 9)) rfl rfl (zc_X5_placeHere _ _ σ hI ) rfl rfl (Nat.le_of_ble_eq_true rfl) (by decide) (fun r18 s19 hr20 hp21 => ?_)
      obtain ⟨rfl, q22, q23⟩ := hp21
      refine zt_cVv (pc' := 88) hX dX8_takeName_85 rfl zm_yX5_refuse zw_20_11 zc_27 (by decide) zs_14 (q := (RX5, TX5, 9)) rfl rfl (zc_X5_refuse _ _ σ hI 1 ⟨by omega, by omega⟩ r18 ⟨by omega, by omega⟩ (by omega)) rfl rfl (Nat.le_of_ble_eq_true rfl) (by decide) (fun r24 s25 hr26 hp27 => ?_)
      obtain ⟨hI28, hF29, z30⟩ := hp27
      have hF31 := zFA_tr hF hF29
      have b32 := zv_14_5 hI28 zc_27
      refine zt_goto (tgt := 127) hX dX8_takeName_88 (by decide) ?_
      refine zt_iload_n (pc' := 128) hX dX8_takeName_127 rfl rfl ?_
      exact zt_iret hX hR dX8_takeName_128 ⟨by omega, by omega⟩ ⟨hI28, hF31, by omega, by omega, by omega⟩
    refine zt_icne (pc' := 63) (tgt := 73) hX dX8_takeName_60 rfl (by decide) ⟨by omega, by omega⟩ ⟨by omega, by omega⟩ (fun c33 => ?_) (fun c33 => ?_)
    · refine zt_mask [true, false, true, false] rfl ?_
      exact J_73_16
    · refine zt_iload_n (pc' := 64) hX dX8_takeName_63 rfl rfl ?_
      have J_91_33 : zF X σ 91 [some (.ref (X.1.1 + 34)), none, some (.int (zI v9)), none] [] := by
        refine zt_aload_n (pc' := 92) hX dX8_takeName_91 rfl rfl ?_
        obtain ⟨k35, ek36, hk37⟩ := zv_21_2 hI zc_34
        refine zt_get (pc' := 95) (v := .ref (X.1.1 + k35)) hX dX8_takeName_92 rfl zf_X8_19 (by decide) zc_34 zs_21 (zrf_of ek36) ?_
        refine zt_iload_n (pc' := 96) hX dX8_takeName_95 rfl rfl ?_
        refine zt_cVz (pc' := 99) hX dX8_takeName_96 rfl zm_yX3_isNamed zw_20_19 hk37 (by decide) zs_8 (q := (RX3, TX3, 17)) rfl rfl (zc_X3_isNamed _ _ σ hI k35 hk37 v9 ⟨by omega, by omega⟩) rfl rfl (Nat.le_of_ble_eq_true rfl) (by decide) (fun r38 s39 hr40 hp41 => ?_)
        obtain ⟨rfl, q42, q43⟩ := hp41
        refine zt_ifeq (pc' := 102) (tgt := 120) hX dX8_takeName_99 rfl (by decide) ⟨by omega, by omega⟩ (fun c44 => ?_) (fun c44 => ?_)
        · refine zt_aload_n (pc' := 121) hX dX8_takeName_120 rfl rfl ?_
          refine zt_get (pc' := 124) (v := .ref (X.1.1 + 27)) hX dX8_takeName_121 rfl zf_X8_9 (by decide) zc_34 zs_21 (zrf_of (zv_21_0 hI zc_34)) ?_
          refine zt_cVv (pc' := 127) hX dX8_takeName_124 rfl zm_yX5_step zw_19_21 zc_27 (by decide) zs_14 (q := (RX5, TX5, 9)) rfl rfl (zc_X5_step _ _ σ hI (by omega)) rfl rfl (Nat.le_of_ble_eq_true rfl) (by decide) (fun r45 s46 hr47 hp48 => ?_)
          obtain ⟨hI49, hF50, z51⟩ := hp48
          have hF52 := zFA_tr hF hF50
          have b53 := zv_14_5 hI49 zc_27
          refine zt_iload_n (pc' := 128) hX dX8_takeName_127 rfl rfl ?_
          exact zt_iret hX hR dX8_takeName_128 ⟨by omega, by omega⟩ ⟨hI49, hF52, by omega, by omega, by omega⟩
        · refine zt_aload_n (pc' := 103) hX dX8_takeName_102 rfl rfl ?_
          refine zt_get (pc' := 106) (v := .ref (X.1.1 + 27)) hX dX8_takeName_103 rfl zf_X8_9 (by decide) zc_34 zs_21 (zrf_of (zv_21_0 hI zc_34)) ?_
          refine zt_iconst (pc' := 107) hX dX8_takeName_106 rfl ?_
          refine zt_aload_n (pc' := 108) hX dX8_takeName_107 rfl rfl ?_
          refine zt_get (pc' := 111) (v := .ref (X.1.1 + 27)) hX dX8_takeName_108 rfl zf_X8_9 (by decide) zc_34 zs_21 (zrf_of (zv_21_0 hI zc_34)) ?_
          refine zt_cVi (pc' := 114) hX dX8_takeName_111 rfl zm_yX5_placeHere zw_20_7 zc_27 (by decide) zs_14 (q := (RX5, TX5, 9)) rfl rfl (zc_X5_placeHere _ _ σ hI ) rfl rfl (Nat.le_of_ble_eq_true rfl) (by decide) (fun r54 s55 hr56 hp57 => ?_)
          obtain ⟨rfl, q58, q59⟩ := hp57
          refine zt_cVv (pc' := 117) hX dX8_takeName_114 rfl zm_yX5_refuse zw_20_11 zc_27 (by decide) zs_14 (q := (RX5, TX5, 9)) rfl rfl (zc_X5_refuse _ _ σ hI 3 ⟨by omega, by omega⟩ r54 ⟨by omega, by omega⟩ (by omega)) rfl rfl (Nat.le_of_ble_eq_true rfl) (by decide) (fun r60 s61 hr62 hp63 => ?_)
          obtain ⟨hI64, hF65, z66⟩ := hp63
          have hF67 := zFA_tr hF hF65
          have b68 := zv_14_5 hI64 zc_27
          refine zt_goto (tgt := 127) hX dX8_takeName_117 (by decide) ?_
          refine zt_iload_n (pc' := 128) hX dX8_takeName_127 rfl rfl ?_
          exact zt_iret hX hR dX8_takeName_128 ⟨by omega, by omega⟩ ⟨hI64, hF67, by omega, by omega, by omega⟩
      refine zt_iflt (pc' := 67) (tgt := 91) hX dX8_takeName_64 rfl (by decide) ⟨by omega, by omega⟩ (fun c69 => ?_) (fun c69 => ?_)
      · refine zt_mask [true, false, true, false] rfl ?_
        exact J_91_33
      · refine zt_iload_n (pc' := 68) hX dX8_takeName_67 rfl rfl ?_
        refine zt_bipush (pc' := 70) hX dX8_takeName_68 rfl (by decide) (by decide) ?_
        refine zt_icge (pc' := 73) (tgt := 91) hX dX8_takeName_70 rfl (by decide) ⟨by omega, by omega⟩ ⟨by omega, by omega⟩ (fun c70 => ?_) (fun c70 => ?_)
        · refine zt_mask [true, false, true, false] rfl ?_
          exact J_91_33
        · refine zt_mask [true, false, true, false] rfl ?_
          exact J_73_16
  · refine zt_aload_n (pc' := 38) hX dX8_takeName_37 rfl rfl ?_
    refine zt_get (pc' := 41) (v := .ref (X.1.1 + 27)) hX dX8_takeName_38 rfl zf_X8_9 (by decide) zc_34 zs_21 (zrf_of (zv_21_0 hI zc_34)) ?_
    refine zt_iconst (pc' := 42) hX dX8_takeName_41 rfl ?_
    refine zt_aload_n (pc' := 43) hX dX8_takeName_42 rfl rfl ?_
    refine zt_get (pc' := 46) (v := .ref (X.1.1 + 27)) hX dX8_takeName_43 rfl zf_X8_9 (by decide) zc_34 zs_21 (zrf_of (zv_21_0 hI zc_34)) ?_
    refine zt_cVi (pc' := 49) hX dX8_takeName_46 rfl zm_yX5_placeHere zw_20_7 zc_27 (by decide) zs_14 (q := (RX5, TX5, 9)) rfl rfl (zc_X5_placeHere _ _ σ hI ) rfl rfl (Nat.le_of_ble_eq_true rfl) (by decide) (fun r71 s72 hr73 hp74 => ?_)
    obtain ⟨rfl, q75, q76⟩ := hp74
    refine zt_bipush (pc' := 51) hX dX8_takeName_49 rfl (by decide) (by decide) ?_
    refine zt_iadd (pc' := 52) hX dX8_takeName_51 rfl ?_
    refine zt_cVv (pc' := 55) hX dX8_takeName_52 rfl zm_yX5_refuse zw_20_11 zc_27 (by decide) zs_14 (q := (RX5, TX5, 9)) rfl rfl (zc_X5_refuse _ _ σ hI 1 ⟨by omega, by omega⟩ (r71 + 6) ⟨by omega, by omega⟩ (by omega)) rfl rfl (Nat.le_of_ble_eq_true rfl) (by decide) (fun r77 s78 hr79 hp80 => ?_)
    obtain ⟨hI81, hF82, z83⟩ := hp80
    have hF84 := zFA_tr hF hF82
    have b85 := zv_14_5 hI81 zc_27
    refine zt_goto (tgt := 127) hX dX8_takeName_55 (by decide) ?_
    refine zt_iload_n (pc' := 128) hX dX8_takeName_127 rfl rfl ?_
    exact zt_iret hX hR dX8_takeName_128 ⟨by omega, by omega⟩ ⟨hI81, hF84, by omega, by omega, by omega⟩

set_option maxRecDepth 100000 in
set_option maxHeartbeats 4000000 in
theorem zc_X8_readPole (l : Launch) (E : zEN) (σ : zSto) (hI : zInv σ) (hpre0 : σ 27 5 ≤ 1600) : zCt l E yX8_readPole cX8_readPole 6 none 2 zNC zNC 0 0 σ [.ref (E.1 + 34)] (fun r σ' => zInv σ' ∧ zFA σ σ' ∧ (σ' 27 5 = σ 27 5)) := by
  refine zCt_of2 [some (.ref (E.1 + 34)), none, none, none, none, none] (by decide +kernel) (Nat.le_of_ble_eq_true rfl) rfl ?_
  intro X hE hX hR hL hN
  subst hE
  have hX : zok X cX8_readPole RX8 2 := hX
  have hF := zFA_rf σ
  have b1 := zv_14_5 hI zc_27
  refine zt_aload_n (pc' := 1) hX dX8_readPole_0 rfl rfl ?_
  obtain ⟨k2, ek3, hk4⟩ := zv_21_2 hI zc_34
  refine zt_get (pc' := 4) (v := .ref (X.1.1 + k2)) hX dX8_readPole_1 rfl zf_X8_19 (by decide) zc_34 zs_21 (zrf_of ek3) ?_
  have b5 := zv_8_12 hI hk4
  refine zt_get (pc' := 7) (v := .int (zI (σ k2 12))) hX dX8_readPole_4 rfl zf_X8_110 (zro_lt hk4 (by decide)) hk4 zs_8 rfl ?_
  refine zt_bipush (pc' := 9) hX dX8_readPole_7 rfl (by decide) (by decide) ?_
  refine zt_iclt (pc' := 12) (tgt := 28) hX dX8_readPole_9 rfl (by decide) ⟨by omega, by omega⟩ ⟨by omega, by omega⟩ (fun c6 => ?_) (fun c6 => ?_)
  · refine zt_aload_n (pc' := 29) hX dX8_readPole_28 rfl rfl ?_
    refine zt_get (pc' := 32) (v := .ref (X.1.1 + 27)) hX dX8_readPole_29 rfl zf_X8_9 (by decide) zc_34 zs_21 (zrf_of (zv_21_0 hI zc_34)) ?_
    refine zt_cVv (pc' := 35) hX dX8_readPole_32 rfl zm_yX5_step zw_19_21 zc_27 (by decide) zs_14 (q := (RX5, TX5, 9)) rfl rfl (zc_X5_step _ _ σ hI (by omega)) rfl rfl (Nat.le_of_ble_eq_true rfl) (by decide) (fun r7 s8 hr9 hp10 => ?_)
    obtain ⟨hI11, hF12, z13⟩ := hp10
    have hF14 := zFA_tr hF hF12
    have b15 := zv_14_5 hI11 zc_27
    refine zt_aload_n (pc' := 36) hX dX8_readPole_35 rfl rfl ?_
    refine zt_cVi (pc' := 39) hX dX8_readPole_36 rfl zm_yX8_takeName zw_20_12 zc_34 (by decide) zs_21 (q := (RX8, TX8, 3)) rfl rfl (zc_X8_takeName _ _ s8 hI11 (by omega)) rfl rfl (Nat.le_of_ble_eq_true rfl) (by decide) (fun r16 s17 hr18 hp19 => ?_)
    obtain ⟨hI20, hF21, q22, q23, z24⟩ := hp19
    have hF25 := zFA_tr hF14 hF21
    have b26 := zv_14_5 hI20 zc_27
    refine zt_istore_n (pc' := 40) (lv' := [some (.ref (X.1.1 + 34)), some (.int (zI r16)), none, none, none, none]) hX dX8_readPole_39 rfl hL (by decide) rfl ?_
    refine zt_aload_n (pc' := 41) hX dX8_readPole_40 rfl rfl ?_
    refine zt_get (pc' := 44) (v := .ref (X.1.1 + 27)) hX dX8_readPole_41 rfl zf_X8_9 (by decide) zc_34 zs_21 (zrf_of (zv_21_0 hI20 zc_34)) ?_
    refine zt_iconst (pc' := 45) hX dX8_readPole_44 rfl ?_
    refine zt_cVv (pc' := 48) hX dX8_readPole_45 rfl zm_yX5_takeWord zw_18_2 zc_27 (by decide) zs_14 (q := (RX5, TX5, 9)) rfl rfl (zc_X5_takeWord _ _ s17 hI20 5 ⟨by omega, by omega⟩ (by omega)) rfl rfl (Nat.le_of_ble_eq_true rfl) (by decide) (fun r27 s28 hr29 hp30 => ?_)
    obtain ⟨hI31, hF32, z33⟩ := hp30
    have hF34 := zFA_tr hF25 hF32
    have b35 := zv_14_5 hI31 zc_27
    refine zt_aload_n (pc' := 49) hX dX8_readPole_48 rfl rfl ?_
    refine zt_get (pc' := 52) (v := .ref (X.1.1 + 27)) hX dX8_readPole_49 rfl zf_X8_9 (by decide) zc_34 zs_21 (zrf_of (zv_21_0 hI31 zc_34)) ?_
    refine zt_iconst (pc' := 53) hX dX8_readPole_52 rfl ?_
    refine zt_aload_n (pc' := 54) hX dX8_readPole_53 rfl rfl ?_
    obtain ⟨k36, ek37, hk38⟩ := zv_21_2 hI31 zc_34
    refine zt_get (pc' := 57) (v := .ref (X.1.1 + k36)) hX dX8_readPole_54 rfl zf_X8_19 (by decide) zc_34 zs_21 (zrf_of ek37) ?_
    have b39 := zv_8_10 hI31 hk38
    refine zt_get (pc' := 60) (v := .int (zI (s28 k36 10))) hX dX8_readPole_57 rfl zf_X8_97 (zro_lt hk38 (by decide)) hk38 zs_8 rfl ?_
    refine zt_iconst (pc' := 61) hX dX8_readPole_60 rfl ?_
    refine zt_isub (pc' := 62) hX dX8_readPole_61 rfl ?_
    refine zt_cVi (pc' := 65) hX dX8_readPole_62 rfl zm_yX5_takeNumber zw_18_18 zc_27 (by decide) zs_14 (q := (RX5, TX5, 9)) rfl rfl (zc_X5_takeNumber _ _ s28 hI31 0 ⟨by omega, by omega⟩ ((s28 k36 10) - 1) ⟨by omega, by omega⟩ (by omega)) rfl rfl (Nat.le_of_ble_eq_true rfl) (by decide) (fun r40 s41 hr42 hp43 => ?_)
    obtain ⟨hI44, hF45, q46, q47, z48, z49⟩ := hp43
    have hF50 := zFA_tr hF34 hF45
    have b51 := zv_14_5 hI44 zc_27
    refine zt_istore_n (pc' := 66) (lv' := [some (.ref (X.1.1 + 34)), some (.int (zI r16)), some (.int (zI r40)), none, none, none]) hX dX8_readPole_65 rfl hL (by decide) rfl ?_
    refine zt_aload_n (pc' := 67) hX dX8_readPole_66 rfl rfl ?_
    refine zt_get (pc' := 70) (v := .ref (X.1.1 + 27)) hX dX8_readPole_67 rfl zf_X8_9 (by decide) zc_34 zs_21 (zrf_of (zv_21_0 hI44 zc_34)) ?_
    refine zt_cVi (pc' := 73) hX dX8_readPole_70 rfl zm_yX5_placeHere zw_20_7 zc_27 (by decide) zs_14 (q := (RX5, TX5, 9)) rfl rfl (zc_X5_placeHere _ _ s41 hI44 ) rfl rfl (Nat.le_of_ble_eq_true rfl) (by decide) (fun r52 s53 hr54 hp55 => ?_)
    obtain ⟨rfl, q56, q57⟩ := hp55
    refine zt_istore_n (pc' := 74) (lv' := [some (.ref (X.1.1 + 34)), some (.int (zI r16)), some (.int (zI r40)), some (.int (zI r52)), none, none]) hX dX8_readPole_73 rfl hL (by decide) rfl ?_
    refine zt_aload_n (pc' := 75) hX dX8_readPole_74 rfl rfl ?_
    refine zt_get (pc' := 78) (v := .ref (X.1.1 + 27)) hX dX8_readPole_75 rfl zf_X8_9 (by decide) zc_34 zs_21 (zrf_of (zv_21_0 hI44 zc_34)) ?_
    refine zt_iconst (pc' := 79) hX dX8_readPole_78 rfl ?_
    refine zt_aload_n (pc' := 80) hX dX8_readPole_79 rfl rfl ?_
    obtain ⟨k58, ek59, hk60⟩ := zv_21_2 hI44 zc_34
    refine zt_get (pc' := 83) (v := .ref (X.1.1 + k58)) hX dX8_readPole_80 rfl zf_X8_19 (by decide) zc_34 zs_21 (zrf_of ek59) ?_
    have b61 := zv_8_11 hI44 hk60
    refine zt_get (pc' := 86) (v := .int (zI (s41 k58 11))) hX dX8_readPole_83 rfl zf_X8_100 (zro_lt hk60 (by decide)) hk60 zs_8 rfl ?_
    refine zt_iconst (pc' := 87) hX dX8_readPole_86 rfl ?_
    refine zt_isub (pc' := 88) hX dX8_readPole_87 rfl ?_
    refine zt_cVi (pc' := 91) hX dX8_readPole_88 rfl zm_yX5_takeNumber zw_18_18 zc_27 (by decide) zs_14 (q := (RX5, TX5, 9)) rfl rfl (zc_X5_takeNumber _ _ s41 hI44 0 ⟨by omega, by omega⟩ ((s41 k58 11) - 1) ⟨by omega, by omega⟩ (by omega)) rfl rfl (Nat.le_of_ble_eq_true rfl) (by decide) (fun r62 s63 hr64 hp65 => ?_)
    obtain ⟨hI66, hF67, q68, q69, z70, z71⟩ := hp65
    have hF72 := zFA_tr hF50 hF67
    have b73 := zv_14_5 hI66 zc_27
    refine zt_istore (pc' := 93) (lv' := [some (.ref (X.1.1 + 34)), some (.int (zI r16)), some (.int (zI r40)), some (.int (zI r52)), some (.int (zI r62)), none]) hX dX8_readPole_91 rfl hL (by decide) rfl ?_
    refine zt_aload_n (pc' := 94) hX dX8_readPole_93 rfl rfl ?_
    obtain ⟨k74, ek75, hk76⟩ := zv_21_2 hI66 zc_34
    refine zt_get (pc' := 97) (v := .ref (X.1.1 + k74)) hX dX8_readPole_94 rfl zf_X8_19 (by decide) zc_34 zs_21 (zrf_of ek75) ?_
    refine zt_iload_n (pc' := 98) hX dX8_readPole_97 rfl rfl ?_
    refine zt_iload (pc' := 100) hX dX8_readPole_98 rfl rfl ?_
    refine zt_cVz (pc' := 103) hX dX8_readPole_100 rfl zm_yX3_isHome zw_20_23 hk76 (by decide) zs_8 (q := (RX3, TX3, 17)) rfl rfl (zc_X3_isHome _ _ s63 hI66 k74 hk76 r40 ⟨by omega, by omega⟩ r62 ⟨by omega, by omega⟩) rfl rfl (Nat.le_of_ble_eq_true rfl) (by decide) (fun r77 s78 hr79 hp80 => ?_)
    obtain ⟨rfl, q81, q82⟩ := hp80
    have J_115_86 : ∀ (s83 : zSto), zInv s83 → zFA σ s83 → s83 27 5 = σ 27 5 → zF X s83 115 [some (.ref (X.1.1 + 34)), some (.int (zI r16)), some (.int (zI r40)), none, some (.int (zI r62)), none] [] := by
      intro s83 hI84 hF85 g86
      have b88 := zv_14_5 hI84 zc_27
      refine zt_aload_n (pc' := 116) hX dX8_readPole_115 rfl rfl ?_
      refine zt_get (pc' := 119) (v := .ref (X.1.1 + 27)) hX dX8_readPole_116 rfl zf_X8_9 (by decide) zc_34 zs_21 (zrf_of (zv_21_0 hI84 zc_34)) ?_
      refine zt_bipush (pc' := 121) hX dX8_readPole_119 rfl (by decide) (by decide) ?_
      refine zt_cVv (pc' := 124) hX dX8_readPole_121 rfl zm_yX5_takeWord zw_18_2 zc_27 (by decide) zs_14 (q := (RX5, TX5, 9)) rfl rfl (zc_X5_takeWord _ _ s83 hI84 6 ⟨by omega, by omega⟩ (by omega)) rfl rfl (Nat.le_of_ble_eq_true rfl) (by decide) (fun r89 s90 hr91 hp92 => ?_)
      obtain ⟨hI93, hF94, z95⟩ := hp92
      have hF96 := zFA_tr hF85 hF94
      have b97 := zv_14_5 hI93 zc_27
      refine zt_aload_n (pc' := 125) hX dX8_readPole_124 rfl rfl ?_
      refine zt_get (pc' := 128) (v := .ref (X.1.1 + 27)) hX dX8_readPole_125 rfl zf_X8_9 (by decide) zc_34 zs_21 (zrf_of (zv_21_0 hI93 zc_34)) ?_
      refine zt_iconst (pc' := 129) hX dX8_readPole_128 rfl ?_
      refine zt_bipush (pc' := 131) hX dX8_readPole_129 rfl (by decide) (by decide) ?_
      refine zt_cVi (pc' := 134) hX dX8_readPole_131 rfl zm_yX5_takeNumber zw_18_18 zc_27 (by decide) zs_14 (q := (RX5, TX5, 9)) rfl rfl (zc_X5_takeNumber _ _ s90 hI93 0 ⟨by omega, by omega⟩ 99 ⟨by omega, by omega⟩ (by omega)) rfl rfl (Nat.le_of_ble_eq_true rfl) (by decide) (fun r98 s99 hr100 hp101 => ?_)
      obtain ⟨hI102, hF103, q104, q105, z106, z107⟩ := hp101
      have hF108 := zFA_tr hF96 hF103
      have b109 := zv_14_5 hI102 zc_27
      refine zt_istore (pc' := 136) (lv' := [some (.ref (X.1.1 + 34)), some (.int (zI r16)), some (.int (zI r40)), none, some (.int (zI r62)), some (.int (zI r98))]) hX dX8_readPole_134 rfl hL (by decide) rfl ?_
      refine zt_aload_n (pc' := 137) hX dX8_readPole_136 rfl rfl ?_
      obtain ⟨k110, ek111, hk112⟩ := zv_21_2 hI102 zc_34
      refine zt_get (pc' := 140) (v := .ref (X.1.1 + k110)) hX dX8_readPole_137 rfl zf_X8_19 (by decide) zc_34 zs_21 (zrf_of ek111) ?_
      refine zt_iload_n (pc' := 141) hX dX8_readPole_140 rfl rfl ?_
      refine zt_iload_n (pc' := 142) hX dX8_readPole_141 rfl rfl ?_
      refine zt_iload (pc' := 144) hX dX8_readPole_142 rfl rfl ?_
      refine zt_iload (pc' := 146) hX dX8_readPole_144 rfl rfl ?_
      refine zt_cVv (pc' := 149) hX dX8_readPole_146 rfl zm_yX3_addPerson zw_21_3 hk112 (by decide) zs_8 (q := (RX3, TX3, 17)) rfl rfl (zc_X3_addPerson _ _ s99 hI102 k110 hk112 r16 ⟨by omega, by omega⟩ r40 ⟨by omega, by omega⟩ r62 ⟨by omega, by omega⟩ r98 ⟨by omega, by omega⟩) rfl rfl (Nat.le_of_ble_eq_true rfl) (by decide) (fun r113 s114 hr115 hp116 => ?_)
      obtain ⟨hI117, hF118, z119⟩ := hp116
      have hF120 := zFA_tr hF108 hF118
      have b121 := zv_14_5 hI117 zc_27
      exact zt_vret hX hR dX8_readPole_149 ⟨hI117, hF120, by omega⟩
    refine zt_ifeq (pc' := 106) (tgt := 115) hX dX8_readPole_103 rfl (by decide) ⟨by omega, by omega⟩ (fun c122 => ?_) (fun c122 => ?_)
    · refine zt_mask [true, true, true, false, true, false] rfl ?_
      exact J_115_86 s63 hI66 hF72 (by omega)
    · refine zt_aload_n (pc' := 107) hX dX8_readPole_106 rfl rfl ?_
      refine zt_get (pc' := 110) (v := .ref (X.1.1 + 27)) hX dX8_readPole_107 rfl zf_X8_9 (by decide) zc_34 zs_21 (zrf_of (zv_21_0 hI66 zc_34)) ?_
      refine zt_iconst (pc' := 111) hX dX8_readPole_110 rfl ?_
      refine zt_iload_n (pc' := 112) hX dX8_readPole_111 rfl rfl ?_
      refine zt_cVv (pc' := 115) hX dX8_readPole_112 rfl zm_yX5_refuse zw_20_11 zc_27 (by decide) zs_14 (q := (RX5, TX5, 9)) rfl rfl (zc_X5_refuse _ _ s63 hI66 2 ⟨by omega, by omega⟩ r52 ⟨by omega, by omega⟩ (by omega)) rfl rfl (Nat.le_of_ble_eq_true rfl) (by decide) (fun r123 s124 hr125 hp126 => ?_)
      obtain ⟨hI127, hF128, z129⟩ := hp126
      have hF130 := zFA_tr hF72 hF128
      have b131 := zv_14_5 hI127 zc_27
      refine zt_mask [true, true, true, false, true, false] rfl ?_
      exact J_115_86 s124 hI127 hF130 (by omega)
  · refine zt_aload_n (pc' := 13) hX dX8_readPole_12 rfl rfl ?_
    refine zt_get (pc' := 16) (v := .ref (X.1.1 + 27)) hX dX8_readPole_13 rfl zf_X8_9 (by decide) zc_34 zs_21 (zrf_of (zv_21_0 hI zc_34)) ?_
    refine zt_iconst (pc' := 17) hX dX8_readPole_16 rfl ?_
    refine zt_aload_n (pc' := 18) hX dX8_readPole_17 rfl rfl ?_
    refine zt_get (pc' := 21) (v := .ref (X.1.1 + 27)) hX dX8_readPole_18 rfl zf_X8_9 (by decide) zc_34 zs_21 (zrf_of (zv_21_0 hI zc_34)) ?_
    refine zt_cVi (pc' := 24) hX dX8_readPole_21 rfl zm_yX5_placeHere zw_20_7 zc_27 (by decide) zs_14 (q := (RX5, TX5, 9)) rfl rfl (zc_X5_placeHere _ _ σ hI ) rfl rfl (Nat.le_of_ble_eq_true rfl) (by decide) (fun r132 s133 hr134 hp135 => ?_)
    obtain ⟨rfl, q136, q137⟩ := hp135
    refine zt_cVv (pc' := 27) hX dX8_readPole_24 rfl zm_yX5_refuse zw_20_11 zc_27 (by decide) zs_14 (q := (RX5, TX5, 9)) rfl rfl (zc_X5_refuse _ _ σ hI 5 ⟨by omega, by omega⟩ r132 ⟨by omega, by omega⟩ (by omega)) rfl rfl (Nat.le_of_ble_eq_true rfl) (by decide) (fun r138 s139 hr140 hp141 => ?_)
    obtain ⟨hI142, hF143, z144⟩ := hp141
    have hF145 := zFA_tr hF hF143
    have b146 := zv_14_5 hI142 zc_27
    exact zt_vret hX hR dX8_readPole_27 ⟨hI142, hF145, by omega⟩

set_option maxRecDepth 100000 in
set_option maxHeartbeats 4000000 in
theorem zc_X8_readAdds (l : Launch) (E : zEN) (σ : zSto) (hI : zInv σ) (hpre0 : σ 27 5 ≤ 1600) : zCt l E yX8_readAdds cX8_readAdds 1 none 31 zNC zNC 0 0 σ [.ref (E.1 + 34)] (fun r σ' => zInv σ' ∧ zFA σ σ' ∧ (σ' 27 5 = σ 27 5)) := by
  refine zCt_of2 [some (.ref (E.1 + 34))] (by decide +kernel) (Nat.le_of_ble_eq_true rfl) rfl ?_
  intro X hE hX hR hL hN
  subst hE
  have hX : zok X cX8_readAdds RX8 31 := hX
  have hF := zFA_rf σ
  have b1 := zv_14_5 hI zc_27
  refine zt_aload_n (pc' := 1) hX dX8_readAdds_0 rfl rfl ?_
  obtain ⟨k2, ek3, hk4⟩ := zv_21_2 hI zc_34
  refine zt_get (pc' := 4) (v := .ref (X.1.1 + k2)) hX dX8_readAdds_1 rfl zf_X8_19 (by decide) zc_34 zs_21 (zrf_of ek3) ?_
  have b5 := zv_8_7 hI hk4
  refine zt_get (pc' := 7) (v := .int (zI (σ k2 7))) hX dX8_readAdds_4 rfl zf_X8_137 (zro_lt hk4 (by decide)) hk4 zs_8 rfl ?_
  refine zt_ifeq (pc' := 10) (tgt := 26) hX dX8_readAdds_7 rfl (by decide) ⟨by omega, by omega⟩ (fun c6 => ?_) (fun c6 => ?_)
  · refine zt_aload_n (pc' := 27) hX dX8_readAdds_26 rfl rfl ?_
    refine zt_get (pc' := 30) (v := .ref (X.1.1 + k2)) hX dX8_readAdds_27 rfl zf_X8_19 (by decide) zc_34 zs_21 (zrf_of ek3) ?_
    refine zt_iconst (pc' := 31) hX dX8_readAdds_30 rfl ?_
    refine zt_put (pc' := 34) (x := 1) hX dX8_readAdds_31 rfl zf_X8_137 (zro_lt hk4 (by decide)) hk4 zs_8 (fun q hq => by cases hq; rfl) rfl (zfit_z (by omega) (by omega)).1 (zfit_z (by omega) (by omega)).2 ?_
    generalize hs8 : zset σ k2 7 1 = s7
    have hI9 : zInv s7 := hs8 ▸ zp_8_7 hI hk4 ⟨by omega, by omega⟩
    have hF10 : zFA σ s7 := hs8 ▸ zFA_set hF hk4 (by decide) zk_8 (Or.inl (by decide))
    have e11 : s7 27 5 = σ 27 5 := by rw [← hs8]; exact zset_k (zne_r zc_27 hk4 (by decide))
    refine zt_aload_n (pc' := 35) hX dX8_readAdds_34 rfl rfl ?_
    refine zt_get (pc' := 38) (v := .ref (X.1.1 + 27)) hX dX8_readAdds_35 rfl zf_X8_9 (by decide) zc_34 zs_21 (zrf_of (zv_21_0 hI9 zc_34)) ?_
    refine zt_cVv (pc' := 41) hX dX8_readAdds_38 rfl zm_yX5_step zw_19_21 zc_27 (by decide) zs_14 (q := (RX5, TX5, 9)) rfl rfl (zc_X5_step _ _ s7 hI9 (by omega)) rfl rfl (Nat.le_of_ble_eq_true rfl) (by decide) (fun r12 s13 hr14 hp15 => ?_)
    obtain ⟨hI16, hF17, z18⟩ := hp15
    have hF19 := zFA_tr hF10 hF17
    have b20 := zv_14_5 hI16 zc_27
    refine zt_aload_n (pc' := 42) hX dX8_readAdds_41 rfl rfl ?_
    refine zt_get (pc' := 45) (v := .ref (X.1.1 + 33)) hX dX8_readAdds_42 rfl zf_X8_15 (by decide) zc_34 zs_21 (zrf_of (zv_21_1 hI16 zc_34)) ?_
    refine zt_aload_n (pc' := 46) hX dX8_readAdds_45 rfl rfl ?_
    obtain ⟨k21, ek22, hk23⟩ := zv_21_2 hI16 zc_34
    refine zt_get (pc' := 49) (v := .ref (X.1.1 + k21)) hX dX8_readAdds_46 rfl zf_X8_19 (by decide) zc_34 zs_21 (zrf_of ek22) ?_
    refine zt_get (pc' := 52) (v := .ref (X.1.1 + (k21 + 6))) hX dX8_readAdds_49 rfl zf_X8_141 (zro_lt hk23 (by decide)) hk23 zs_8 (zrf_of (zv_8_5 hI16 hk23)) ?_
    refine zt_iconst (pc' := 53) hX dX8_readAdds_52 rfl ?_
    refine zt_cVv (pc' := 56) hX dX8_readAdds_53 rfl zm_yX1_readSum zw_21_14 zc_33 (by decide) zs_20 (q := (RX1, TX1, 3)) rfl rfl (zc_X1_readSum _ _ s13 hI16 (k21 + 6) (zo_8_5 hk23) 0 ⟨by omega, by omega⟩ (by omega)) rfl rfl (Nat.le_of_ble_eq_true rfl) (by decide) (fun r24 s25 hr26 hp27 => ?_)
    obtain ⟨hI28, hF29, z30⟩ := hp27
    have hF31 := zFA_tr hF19 hF29
    have b32 := zv_14_5 hI28 zc_27
    refine zt_aload_n (pc' := 57) hX dX8_readAdds_56 rfl rfl ?_
    obtain ⟨k33, ek34, hk35⟩ := zv_21_2 hI28 zc_34
    refine zt_get (pc' := 60) (v := .ref (X.1.1 + k33)) hX dX8_readAdds_57 rfl zf_X8_19 (by decide) zc_34 zs_21 (zrf_of ek34) ?_
    refine zt_aload_n (pc' := 61) hX dX8_readAdds_60 rfl rfl ?_
    refine zt_get (pc' := 64) (v := .ref (X.1.1 + k33)) hX dX8_readAdds_61 rfl zf_X8_19 (by decide) zc_34 zs_21 (zrf_of ek34) ?_
    refine zt_get (pc' := 67) (v := .ref (X.1.1 + (k33 + 6))) hX dX8_readAdds_64 rfl zf_X8_141 (zro_lt hk35 (by decide)) hk35 zs_8 (zrf_of (zv_8_5 hI28 hk35)) ?_
    refine zt_bipush (pc' := 69) hX dX8_readAdds_67 rfl (by decide) (by decide) ?_
    refine zt_cVz (pc' := 72) hX dX8_readAdds_69 rfl zm_yX4_hasStep zw_23_12 (zo_8_5 hk35) (by decide) zs_6 (q := (RX4, TX4, 2)) rfl rfl (zc_X4_hasStep _ _ s25 hI28 (k33 + 6) (zo_8_5 hk35) 12 ⟨by omega, by omega⟩) rfl rfl (Nat.le_of_ble_eq_true rfl) (by decide) (fun r36 s37 hr38 hp39 => ?_)
    obtain ⟨rfl, q40, q41⟩ := hp39
    refine zt_put (pc' := 75) (x := r36) hX dX8_readAdds_72 rfl zf_X8_156 (zro_lt hk35 (by decide)) hk35 zs_8 (fun q hq => by cases hq; rfl) rfl (zfit_z (by omega) (by omega)).1 (zfit_z (by omega) (by omega)).2 ?_
    generalize hs43 : zset s25 k33 9 r36 = s42
    have hI44 : zInv s42 := hs43 ▸ zp_8_9 hI28 hk35 ⟨by omega, by omega⟩
    have hF45 : zFA σ s42 := hs43 ▸ zFA_set hF31 hk35 (by decide) zk_8 (Or.inl (by decide))
    have e46 : s42 27 5 = s25 27 5 := by rw [← hs43]; exact zset_k (zne_r zc_27 hk35 (by decide))
    exact zt_vret hX hR dX8_readAdds_75 ⟨hI44, hF45, by omega⟩
  · refine zt_aload_n (pc' := 11) hX dX8_readAdds_10 rfl rfl ?_
    refine zt_get (pc' := 14) (v := .ref (X.1.1 + 27)) hX dX8_readAdds_11 rfl zf_X8_9 (by decide) zc_34 zs_21 (zrf_of (zv_21_0 hI zc_34)) ?_
    refine zt_iconst (pc' := 15) hX dX8_readAdds_14 rfl ?_
    refine zt_aload_n (pc' := 16) hX dX8_readAdds_15 rfl rfl ?_
    refine zt_get (pc' := 19) (v := .ref (X.1.1 + 27)) hX dX8_readAdds_16 rfl zf_X8_9 (by decide) zc_34 zs_21 (zrf_of (zv_21_0 hI zc_34)) ?_
    refine zt_cVi (pc' := 22) hX dX8_readAdds_19 rfl zm_yX5_placeHere zw_20_7 zc_27 (by decide) zs_14 (q := (RX5, TX5, 9)) rfl rfl (zc_X5_placeHere _ _ σ hI ) rfl rfl (Nat.le_of_ble_eq_true rfl) (by decide) (fun r47 s48 hr49 hp50 => ?_)
    obtain ⟨rfl, q51, q52⟩ := hp50
    refine zt_cVv (pc' := 25) hX dX8_readAdds_22 rfl zm_yX5_refuse zw_20_11 zc_27 (by decide) zs_14 (q := (RX5, TX5, 9)) rfl rfl (zc_X5_refuse _ _ σ hI 5 ⟨by omega, by omega⟩ r47 ⟨by omega, by omega⟩ (by omega)) rfl rfl (Nat.le_of_ble_eq_true rfl) (by decide) (fun r53 s54 hr55 hp56 => ?_)
    obtain ⟨hI57, hF58, z59⟩ := hp56
    have hF60 := zFA_tr hF hF58
    have b61 := zv_14_5 hI57 zc_27
    exact zt_vret hX hR dX8_readAdds_25 ⟨hI57, hF60, by omega⟩

set_option maxRecDepth 100000 in
set_option maxHeartbeats 4000000 in
theorem zc_X8_readHolds (l : Launch) (E : zEN) (σ : zSto) (hI : zInv σ) (hpre0 : σ 27 5 ≤ 1600) : zCt l E yX8_readHolds cX8_readHolds 1 none 35 zNC zNC 0 0 σ [.ref (E.1 + 34)] (fun r σ' => zInv σ' ∧ zFA σ σ' ∧ (σ' 27 5 = σ 27 5)) := by
  refine zCt_of2 [some (.ref (E.1 + 34))] (by decide +kernel) (Nat.le_of_ble_eq_true rfl) rfl ?_
  intro X hE hX hR hL hN
  subst hE
  have hX : zok X cX8_readHolds RX8 35 := hX
  have hF := zFA_rf σ
  have b1 := zv_14_5 hI zc_27
  refine zt_aload_n (pc' := 1) hX dX8_readHolds_0 rfl rfl ?_
  obtain ⟨k2, ek3, hk4⟩ := zv_21_2 hI zc_34
  refine zt_get (pc' := 4) (v := .ref (X.1.1 + k2)) hX dX8_readHolds_1 rfl zf_X8_19 (by decide) zc_34 zs_21 (zrf_of ek3) ?_
  have b5 := zv_8_8 hI hk4
  refine zt_get (pc' := 7) (v := .int (zI (σ k2 8))) hX dX8_readHolds_4 rfl zf_X8_159 (zro_lt hk4 (by decide)) hk4 zs_8 rfl ?_
  refine zt_ifeq (pc' := 10) (tgt := 26) hX dX8_readHolds_7 rfl (by decide) ⟨by omega, by omega⟩ (fun c6 => ?_) (fun c6 => ?_)
  · refine zt_aload_n (pc' := 27) hX dX8_readHolds_26 rfl rfl ?_
    refine zt_get (pc' := 30) (v := .ref (X.1.1 + k2)) hX dX8_readHolds_27 rfl zf_X8_19 (by decide) zc_34 zs_21 (zrf_of ek3) ?_
    refine zt_iconst (pc' := 31) hX dX8_readHolds_30 rfl ?_
    refine zt_put (pc' := 34) (x := 1) hX dX8_readHolds_31 rfl zf_X8_159 (zro_lt hk4 (by decide)) hk4 zs_8 (fun q hq => by cases hq; rfl) rfl (zfit_z (by omega) (by omega)).1 (zfit_z (by omega) (by omega)).2 ?_
    generalize hs8 : zset σ k2 8 1 = s7
    have hI9 : zInv s7 := hs8 ▸ zp_8_8 hI hk4 ⟨by omega, by omega⟩
    have hF10 : zFA σ s7 := hs8 ▸ zFA_set hF hk4 (by decide) zk_8 (Or.inl (by decide))
    have e11 : s7 27 5 = σ 27 5 := by rw [← hs8]; exact zset_k (zne_r zc_27 hk4 (by decide))
    refine zt_aload_n (pc' := 35) hX dX8_readHolds_34 rfl rfl ?_
    refine zt_get (pc' := 38) (v := .ref (X.1.1 + 27)) hX dX8_readHolds_35 rfl zf_X8_9 (by decide) zc_34 zs_21 (zrf_of (zv_21_0 hI9 zc_34)) ?_
    refine zt_cVv (pc' := 41) hX dX8_readHolds_38 rfl zm_yX5_step zw_19_21 zc_27 (by decide) zs_14 (q := (RX5, TX5, 9)) rfl rfl (zc_X5_step _ _ s7 hI9 (by omega)) rfl rfl (Nat.le_of_ble_eq_true rfl) (by decide) (fun r12 s13 hr14 hp15 => ?_)
    obtain ⟨hI16, hF17, z18⟩ := hp15
    have hF19 := zFA_tr hF10 hF17
    have b20 := zv_14_5 hI16 zc_27
    refine zt_aload_n (pc' := 42) hX dX8_readHolds_41 rfl rfl ?_
    refine zt_get (pc' := 45) (v := .ref (X.1.1 + 33)) hX dX8_readHolds_42 rfl zf_X8_15 (by decide) zc_34 zs_21 (zrf_of (zv_21_1 hI16 zc_34)) ?_
    refine zt_aload_n (pc' := 46) hX dX8_readHolds_45 rfl rfl ?_
    obtain ⟨k21, ek22, hk23⟩ := zv_21_2 hI16 zc_34
    refine zt_get (pc' := 49) (v := .ref (X.1.1 + k21)) hX dX8_readHolds_46 rfl zf_X8_19 (by decide) zc_34 zs_21 (zrf_of ek22) ?_
    refine zt_get (pc' := 52) (v := .ref (X.1.1 + (k21 + 8))) hX dX8_readHolds_49 rfl zf_X8_162 (zro_lt hk23 (by decide)) hk23 zs_8 (zrf_of (zv_8_6 hI16 hk23)) ?_
    refine zt_iconst (pc' := 53) hX dX8_readHolds_52 rfl ?_
    refine zt_cVv (pc' := 56) hX dX8_readHolds_53 rfl zm_yX1_readTest zw_23_22 zc_33 (by decide) zs_20 (q := (RX1, TX1, 3)) rfl rfl (zc_X1_readTest _ _ s13 hI16 (k21 + 8) (zo_8_6 hk23) 1 ⟨by omega, by omega⟩ (by omega)) rfl rfl (Nat.le_of_ble_eq_true rfl) (by decide) (fun r24 s25 hr26 hp27 => ?_)
    obtain ⟨hI28, hF29, z30⟩ := hp27
    have hF31 := zFA_tr hF19 hF29
    have b32 := zv_14_5 hI28 zc_27
    exact zt_vret hX hR dX8_readHolds_56 ⟨hI28, hF31, by omega⟩
  · refine zt_aload_n (pc' := 11) hX dX8_readHolds_10 rfl rfl ?_
    refine zt_get (pc' := 14) (v := .ref (X.1.1 + 27)) hX dX8_readHolds_11 rfl zf_X8_9 (by decide) zc_34 zs_21 (zrf_of (zv_21_0 hI zc_34)) ?_
    refine zt_iconst (pc' := 15) hX dX8_readHolds_14 rfl ?_
    refine zt_aload_n (pc' := 16) hX dX8_readHolds_15 rfl rfl ?_
    refine zt_get (pc' := 19) (v := .ref (X.1.1 + 27)) hX dX8_readHolds_16 rfl zf_X8_9 (by decide) zc_34 zs_21 (zrf_of (zv_21_0 hI zc_34)) ?_
    refine zt_cVi (pc' := 22) hX dX8_readHolds_19 rfl zm_yX5_placeHere zw_20_7 zc_27 (by decide) zs_14 (q := (RX5, TX5, 9)) rfl rfl (zc_X5_placeHere _ _ σ hI ) rfl rfl (Nat.le_of_ble_eq_true rfl) (by decide) (fun r33 s34 hr35 hp36 => ?_)
    obtain ⟨rfl, q37, q38⟩ := hp36
    refine zt_cVv (pc' := 25) hX dX8_readHolds_22 rfl zm_yX5_refuse zw_20_11 zc_27 (by decide) zs_14 (q := (RX5, TX5, 9)) rfl rfl (zc_X5_refuse _ _ σ hI 5 ⟨by omega, by omega⟩ r33 ⟨by omega, by omega⟩ (by omega)) rfl rfl (Nat.le_of_ble_eq_true rfl) (by decide) (fun r39 s40 hr41 hp42 => ?_)
    obtain ⟨hI43, hF44, z45⟩ := hp42
    have hF46 := zFA_tr hF hF44
    have b47 := zv_14_5 hI43 zc_27
    exact zt_vret hX hR dX8_readHolds_25 ⟨hI43, hF46, by omega⟩

set_option maxRecDepth 100000 in
set_option maxHeartbeats 4000000 in
theorem zc_X8_readStatement (l : Launch) (E : zEN) (σ : zSto) (hI : zInv σ) (hpre0 : σ 27 5 ≤ 1600) : zCt l E yX8_readStatement cX8_readStatement 1 none 36 zNC zNC 0 0 σ [.ref (E.1 + 34)] (fun r σ' => zInv σ' ∧ zFA σ σ' ∧ (σ' 27 5 = σ 27 5)) := by
  refine zCt_of2 [some (.ref (E.1 + 34))] (by decide +kernel) (Nat.le_of_ble_eq_true rfl) rfl ?_
  intro X hE hX hR hL hN
  subst hE
  have hX : zok X cX8_readStatement RX8 36 := hX
  have hF := zFA_rf σ
  have b1 := zv_14_5 hI zc_27
  refine zt_aload_n (pc' := 1) hX dX8_readStatement_0 rfl rfl ?_
  refine zt_get (pc' := 4) (v := .ref (X.1.1 + 27)) hX dX8_readStatement_1 rfl zf_X8_9 (by decide) zc_34 zs_21 (zrf_of (zv_21_0 hI zc_34)) ?_
  refine zt_cVi (pc' := 7) hX dX8_readStatement_4 rfl zm_yX5_wordHere zw_19_13 zc_27 (by decide) zs_14 (q := (RX5, TX5, 9)) rfl rfl (zc_X5_wordHere _ _ σ hI ) rfl rfl (Nat.le_of_ble_eq_true rfl) (by decide) (fun r2 s3 hr4 hp5 => ?_)
  obtain ⟨rfl, q6, q7⟩ := hp5
  rcases (show r2 = 3 ∨ r2 = 4 ∨ r2 = 5 ∨ r2 = 6 ∨ r2 = 7 ∨ r2 = 8 ∨ r2 = 9 ∨ r2 = 10 ∨ r2 = 11 ∨ (r2 < 3 ∨ 11 < r2) by omega) with c8 | c8 | c8 | c8 | c8 | c8 | c8 | c8 | c8 | c8
  · refine zt_tsIn (v := 3) (tgt := 56) hX dX8_readStatement_7 c8 (by decide) (by decide) (by decide) rfl (by decide) ?_
    refine zt_aload_n (pc' := 57) hX dX8_readStatement_56 rfl rfl ?_
    refine zt_cVv (pc' := 60) hX dX8_readStatement_57 rfl zm_yX8_readHeavy zw_19_14 zc_34 (by decide) zs_21 (q := (RX8, TX8, 3)) rfl rfl (zc_X8_readHeavy _ _ σ hI (by omega)) rfl rfl (Nat.le_of_ble_eq_true rfl) (by decide) (fun r9 s10 hr11 hp12 => ?_)
    obtain ⟨hI13, hF14, z15⟩ := hp12
    have hF16 := zFA_tr hF hF14
    have b17 := zv_14_5 hI13 zc_27
    refine zt_goto (tgt := 180) hX dX8_readStatement_60 (by decide) ?_
    exact zt_vret hX hR dX8_readStatement_180 ⟨hI13, hF16, by omega⟩
  · refine zt_tsIn (v := 4) (tgt := 63) hX dX8_readStatement_7 c8 (by decide) (by decide) (by decide) rfl (by decide) ?_
    refine zt_aload_n (pc' := 64) hX dX8_readStatement_63 rfl rfl ?_
    refine zt_cVv (pc' := 67) hX dX8_readStatement_64 rfl zm_yX8_readPole zw_20_2 zc_34 (by decide) zs_21 (q := (RX8, TX8, 3)) rfl rfl (zc_X8_readPole _ _ σ hI (by omega)) rfl rfl (Nat.le_of_ble_eq_true rfl) (by decide) (fun r18 s19 hr20 hp21 => ?_)
    obtain ⟨hI22, hF23, z24⟩ := hp21
    have hF25 := zFA_tr hF hF23
    have b26 := zv_14_5 hI22 zc_27
    refine zt_goto (tgt := 180) hX dX8_readStatement_67 (by decide) ?_
    exact zt_vret hX hR dX8_readStatement_180 ⟨hI22, hF25, by omega⟩
  · refine zt_tsIn (v := 5) (tgt := 165) hX dX8_readStatement_7 c8 (by decide) (by decide) (by decide) rfl (by decide) ?_
    refine zt_aload_n (pc' := 166) hX dX8_readStatement_165 rfl rfl ?_
    refine zt_get (pc' := 169) (v := .ref (X.1.1 + 27)) hX dX8_readStatement_166 rfl zf_X8_9 (by decide) zc_34 zs_21 (zrf_of (zv_21_0 hI zc_34)) ?_
    refine zt_iconst (pc' := 170) hX dX8_readStatement_169 rfl ?_
    refine zt_aload_n (pc' := 171) hX dX8_readStatement_170 rfl rfl ?_
    refine zt_get (pc' := 174) (v := .ref (X.1.1 + 27)) hX dX8_readStatement_171 rfl zf_X8_9 (by decide) zc_34 zs_21 (zrf_of (zv_21_0 hI zc_34)) ?_
    refine zt_cVi (pc' := 177) hX dX8_readStatement_174 rfl zm_yX5_placeHere zw_20_7 zc_27 (by decide) zs_14 (q := (RX5, TX5, 9)) rfl rfl (zc_X5_placeHere _ _ σ hI ) rfl rfl (Nat.le_of_ble_eq_true rfl) (by decide) (fun r27 s28 hr29 hp30 => ?_)
    obtain ⟨rfl, q31, q32⟩ := hp30
    refine zt_cVv (pc' := 180) hX dX8_readStatement_177 rfl zm_yX5_refuse zw_20_11 zc_27 (by decide) zs_14 (q := (RX5, TX5, 9)) rfl rfl (zc_X5_refuse _ _ σ hI 1 ⟨by omega, by omega⟩ r27 ⟨by omega, by omega⟩ (by omega)) rfl rfl (Nat.le_of_ble_eq_true rfl) (by decide) (fun r33 s34 hr35 hp36 => ?_)
    obtain ⟨hI37, hF38, z39⟩ := hp36
    have hF40 := zFA_tr hF hF38
    have b41 := zv_14_5 hI37 zc_27
    exact zt_vret hX hR dX8_readStatement_180 ⟨hI37, hF40, by omega⟩
  · refine zt_tsIn (v := 6) (tgt := 165) hX dX8_readStatement_7 c8 (by decide) (by decide) (by decide) rfl (by decide) ?_
    refine zt_aload_n (pc' := 166) hX dX8_readStatement_165 rfl rfl ?_
    refine zt_get (pc' := 169) (v := .ref (X.1.1 + 27)) hX dX8_readStatement_166 rfl zf_X8_9 (by decide) zc_34 zs_21 (zrf_of (zv_21_0 hI zc_34)) ?_
    refine zt_iconst (pc' := 170) hX dX8_readStatement_169 rfl ?_
    refine zt_aload_n (pc' := 171) hX dX8_readStatement_170 rfl rfl ?_
    refine zt_get (pc' := 174) (v := .ref (X.1.1 + 27)) hX dX8_readStatement_171 rfl zf_X8_9 (by decide) zc_34 zs_21 (zrf_of (zv_21_0 hI zc_34)) ?_
    refine zt_cVi (pc' := 177) hX dX8_readStatement_174 rfl zm_yX5_placeHere zw_20_7 zc_27 (by decide) zs_14 (q := (RX5, TX5, 9)) rfl rfl (zc_X5_placeHere _ _ σ hI ) rfl rfl (Nat.le_of_ble_eq_true rfl) (by decide) (fun r42 s43 hr44 hp45 => ?_)
    obtain ⟨rfl, q46, q47⟩ := hp45
    refine zt_cVv (pc' := 180) hX dX8_readStatement_177 rfl zm_yX5_refuse zw_20_11 zc_27 (by decide) zs_14 (q := (RX5, TX5, 9)) rfl rfl (zc_X5_refuse _ _ σ hI 1 ⟨by omega, by omega⟩ r42 ⟨by omega, by omega⟩ (by omega)) rfl rfl (Nat.le_of_ble_eq_true rfl) (by decide) (fun r48 s49 hr50 hp51 => ?_)
    obtain ⟨hI52, hF53, z54⟩ := hp51
    have hF55 := zFA_tr hF hF53
    have b56 := zv_14_5 hI52 zc_27
    exact zt_vret hX hR dX8_readStatement_180 ⟨hI52, hF55, by omega⟩
  · refine zt_tsIn (v := 7) (tgt := 70) hX dX8_readStatement_7 c8 (by decide) (by decide) (by decide) rfl (by decide) ?_
    refine zt_aload_n (pc' := 71) hX dX8_readStatement_70 rfl rfl ?_
    refine zt_cVv (pc' := 74) hX dX8_readStatement_71 rfl zm_yX8_readAdds zw_21_7 zc_34 (by decide) zs_21 (q := (RX8, TX8, 3)) rfl rfl (zc_X8_readAdds _ _ σ hI (by omega)) rfl rfl (Nat.le_of_ble_eq_true rfl) (by decide) (fun r57 s58 hr59 hp60 => ?_)
    obtain ⟨hI61, hF62, z63⟩ := hp60
    have hF64 := zFA_tr hF hF62
    have b65 := zv_14_5 hI61 zc_27
    refine zt_goto (tgt := 180) hX dX8_readStatement_74 (by decide) ?_
    exact zt_vret hX hR dX8_readStatement_180 ⟨hI61, hF64, by omega⟩
  · refine zt_tsIn (v := 8) (tgt := 77) hX dX8_readStatement_7 c8 (by decide) (by decide) (by decide) rfl (by decide) ?_
    refine zt_aload_n (pc' := 78) hX dX8_readStatement_77 rfl rfl ?_
    refine zt_cVv (pc' := 81) hX dX8_readStatement_78 rfl zm_yX8_readHolds zw_23_16 zc_34 (by decide) zs_21 (q := (RX8, TX8, 3)) rfl rfl (zc_X8_readHolds _ _ σ hI (by omega)) rfl rfl (Nat.le_of_ble_eq_true rfl) (by decide) (fun r66 s67 hr68 hp69 => ?_)
    obtain ⟨hI70, hF71, z72⟩ := hp69
    have hF73 := zFA_tr hF hF71
    have b74 := zv_14_5 hI70 zc_27
    refine zt_goto (tgt := 180) hX dX8_readStatement_81 (by decide) ?_
    exact zt_vret hX hR dX8_readStatement_180 ⟨hI70, hF73, by omega⟩
  · refine zt_tsIn (v := 9) (tgt := 84) hX dX8_readStatement_7 c8 (by decide) (by decide) (by decide) rfl (by decide) ?_
    refine zt_aload_n (pc' := 85) hX dX8_readStatement_84 rfl rfl ?_
    refine zt_get (pc' := 88) (v := .ref (X.1.1 + 27)) hX dX8_readStatement_85 rfl zf_X8_9 (by decide) zc_34 zs_21 (zrf_of (zv_21_0 hI zc_34)) ?_
    refine zt_cVv (pc' := 91) hX dX8_readStatement_88 rfl zm_yX5_step zw_19_21 zc_27 (by decide) zs_14 (q := (RX5, TX5, 9)) rfl rfl (zc_X5_step _ _ σ hI (by omega)) rfl rfl (Nat.le_of_ble_eq_true rfl) (by decide) (fun r75 s76 hr77 hp78 => ?_)
    obtain ⟨hI79, hF80, z81⟩ := hp78
    have hF82 := zFA_tr hF hF80
    have b83 := zv_14_5 hI79 zc_27
    refine zt_aload_n (pc' := 92) hX dX8_readStatement_91 rfl rfl ?_
    obtain ⟨k84, ek85, hk86⟩ := zv_21_2 hI79 zc_34
    refine zt_get (pc' := 95) (v := .ref (X.1.1 + k84)) hX dX8_readStatement_92 rfl zf_X8_19 (by decide) zc_34 zs_21 (zrf_of ek85) ?_
    refine zt_aload_n (pc' := 96) hX dX8_readStatement_95 rfl rfl ?_
    refine zt_get (pc' := 99) (v := .ref (X.1.1 + 27)) hX dX8_readStatement_96 rfl zf_X8_9 (by decide) zc_34 zs_21 (zrf_of (zv_21_0 hI79 zc_34)) ?_
    refine zt_iconst (pc' := 100) hX dX8_readStatement_99 rfl ?_
    refine zt_bipush (pc' := 102) hX dX8_readStatement_100 rfl (by decide) (by decide) ?_
    refine zt_cVi (pc' := 105) hX dX8_readStatement_102 rfl zm_yX5_takeNumber zw_18_18 zc_27 (by decide) zs_14 (q := (RX5, TX5, 9)) rfl rfl (zc_X5_takeNumber _ _ s76 hI79 0 ⟨by omega, by omega⟩ 99 ⟨by omega, by omega⟩ (by omega)) rfl rfl (Nat.le_of_ble_eq_true rfl) (by decide) (fun r87 s88 hr89 hp90 => ?_)
    obtain ⟨hI91, hF92, q93, q94, z95, z96⟩ := hp90
    have hF97 := zFA_tr hF82 hF92
    have b98 := zv_14_5 hI91 zc_27
    refine zt_put (pc' := 108) (x := r87) hX dX8_readStatement_105 rfl zf_X8_88 (zro_lt hk86 (by decide)) hk86 zs_8 (fun q hq => by cases hq; rfl) rfl rfl rfl ?_
    generalize hs100 : zset s88 k84 14 r87 = s99
    have hI101 : zInv s99 := hs100 ▸ zp_8_14 hI91 hk86 ⟨by omega, by omega⟩
    have hF102 : zFA σ s99 := hs100 ▸ zFA_set hF97 hk86 (by decide) zk_8 (Or.inl (by decide))
    have e103 : s99 27 5 = s88 27 5 := by rw [← hs100]; exact zset_k (zne_r zc_27 hk86 (by decide))
    refine zt_goto (tgt := 180) hX dX8_readStatement_108 (by decide) ?_
    exact zt_vret hX hR dX8_readStatement_180 ⟨hI101, hF102, by omega⟩
  · refine zt_tsIn (v := 10) (tgt := 111) hX dX8_readStatement_7 c8 (by decide) (by decide) (by decide) rfl (by decide) ?_
    refine zt_aload_n (pc' := 112) hX dX8_readStatement_111 rfl rfl ?_
    refine zt_get (pc' := 115) (v := .ref (X.1.1 + 27)) hX dX8_readStatement_112 rfl zf_X8_9 (by decide) zc_34 zs_21 (zrf_of (zv_21_0 hI zc_34)) ?_
    refine zt_cVv (pc' := 118) hX dX8_readStatement_115 rfl zm_yX5_step zw_19_21 zc_27 (by decide) zs_14 (q := (RX5, TX5, 9)) rfl rfl (zc_X5_step _ _ σ hI (by omega)) rfl rfl (Nat.le_of_ble_eq_true rfl) (by decide) (fun r104 s105 hr106 hp107 => ?_)
    obtain ⟨hI108, hF109, z110⟩ := hp107
    have hF111 := zFA_tr hF hF109
    have b112 := zv_14_5 hI108 zc_27
    refine zt_aload_n (pc' := 119) hX dX8_readStatement_118 rfl rfl ?_
    obtain ⟨k113, ek114, hk115⟩ := zv_21_2 hI108 zc_34
    refine zt_get (pc' := 122) (v := .ref (X.1.1 + k113)) hX dX8_readStatement_119 rfl zf_X8_19 (by decide) zc_34 zs_21 (zrf_of ek114) ?_
    refine zt_aload_n (pc' := 123) hX dX8_readStatement_122 rfl rfl ?_
    refine zt_get (pc' := 126) (v := .ref (X.1.1 + 27)) hX dX8_readStatement_123 rfl zf_X8_9 (by decide) zc_34 zs_21 (zrf_of (zv_21_0 hI108 zc_34)) ?_
    refine zt_iconst (pc' := 127) hX dX8_readStatement_126 rfl ?_
    refine zt_bipush (pc' := 129) hX dX8_readStatement_127 rfl (by decide) (by decide) ?_
    refine zt_cVi (pc' := 132) hX dX8_readStatement_129 rfl zm_yX5_takeNumber zw_18_18 zc_27 (by decide) zs_14 (q := (RX5, TX5, 9)) rfl rfl (zc_X5_takeNumber _ _ s105 hI108 0 ⟨by omega, by omega⟩ 99 ⟨by omega, by omega⟩ (by omega)) rfl rfl (Nat.le_of_ble_eq_true rfl) (by decide) (fun r116 s117 hr118 hp119 => ?_)
    obtain ⟨hI120, hF121, q122, q123, z124, z125⟩ := hp119
    have hF126 := zFA_tr hF111 hF121
    have b127 := zv_14_5 hI120 zc_27
    refine zt_put (pc' := 135) (x := r116) hX dX8_readStatement_132 rfl zf_X8_91 (zro_lt hk115 (by decide)) hk115 zs_8 (fun q hq => by cases hq; rfl) rfl rfl rfl ?_
    generalize hs129 : zset s117 k113 15 r116 = s128
    have hI130 : zInv s128 := hs129 ▸ zp_8_15 hI120 hk115 ⟨by omega, by omega⟩
    have hF131 : zFA σ s128 := hs129 ▸ zFA_set hF126 hk115 (by decide) zk_8 (Or.inl (by decide))
    have e132 : s128 27 5 = s117 27 5 := by rw [← hs129]; exact zset_k (zne_r zc_27 hk115 (by decide))
    refine zt_goto (tgt := 180) hX dX8_readStatement_135 (by decide) ?_
    exact zt_vret hX hR dX8_readStatement_180 ⟨hI130, hF131, by omega⟩
  · refine zt_tsIn (v := 11) (tgt := 138) hX dX8_readStatement_7 c8 (by decide) (by decide) (by decide) rfl (by decide) ?_
    refine zt_aload_n (pc' := 139) hX dX8_readStatement_138 rfl rfl ?_
    refine zt_get (pc' := 142) (v := .ref (X.1.1 + 27)) hX dX8_readStatement_139 rfl zf_X8_9 (by decide) zc_34 zs_21 (zrf_of (zv_21_0 hI zc_34)) ?_
    refine zt_cVv (pc' := 145) hX dX8_readStatement_142 rfl zm_yX5_step zw_19_21 zc_27 (by decide) zs_14 (q := (RX5, TX5, 9)) rfl rfl (zc_X5_step _ _ σ hI (by omega)) rfl rfl (Nat.le_of_ble_eq_true rfl) (by decide) (fun r133 s134 hr135 hp136 => ?_)
    obtain ⟨hI137, hF138, z139⟩ := hp136
    have hF140 := zFA_tr hF hF138
    have b141 := zv_14_5 hI137 zc_27
    refine zt_aload_n (pc' := 146) hX dX8_readStatement_145 rfl rfl ?_
    obtain ⟨k142, ek143, hk144⟩ := zv_21_2 hI137 zc_34
    refine zt_get (pc' := 149) (v := .ref (X.1.1 + k142)) hX dX8_readStatement_146 rfl zf_X8_19 (by decide) zc_34 zs_21 (zrf_of ek143) ?_
    refine zt_aload_n (pc' := 150) hX dX8_readStatement_149 rfl rfl ?_
    refine zt_get (pc' := 153) (v := .ref (X.1.1 + 27)) hX dX8_readStatement_150 rfl zf_X8_9 (by decide) zc_34 zs_21 (zrf_of (zv_21_0 hI137 zc_34)) ?_
    refine zt_iconst (pc' := 154) hX dX8_readStatement_153 rfl ?_
    refine zt_bipush (pc' := 156) hX dX8_readStatement_154 rfl (by decide) (by decide) ?_
    refine zt_cVi (pc' := 159) hX dX8_readStatement_156 rfl zm_yX5_takeNumber zw_18_18 zc_27 (by decide) zs_14 (q := (RX5, TX5, 9)) rfl rfl (zc_X5_takeNumber _ _ s134 hI137 0 ⟨by omega, by omega⟩ 100 ⟨by omega, by omega⟩ (by omega)) rfl rfl (Nat.le_of_ble_eq_true rfl) (by decide) (fun r145 s146 hr147 hp148 => ?_)
    obtain ⟨hI149, hF150, q151, q152, z153, z154⟩ := hp148
    have hF155 := zFA_tr hF140 hF150
    have b156 := zv_14_5 hI149 zc_27
    refine zt_put (pc' := 162) (x := r145) hX dX8_readStatement_159 rfl zf_X8_94 (zro_lt hk144 (by decide)) hk144 zs_8 (fun q hq => by cases hq; rfl) rfl rfl rfl ?_
    generalize hs158 : zset s146 k142 16 r145 = s157
    have hI159 : zInv s157 := hs158 ▸ zp_8_16 hI149 hk144 ⟨by omega, by omega⟩
    have hF160 : zFA σ s157 := hs158 ▸ zFA_set hF155 hk144 (by decide) zk_8 (Or.inl (by decide))
    have e161 : s157 27 5 = s146 27 5 := by rw [← hs158]; exact zset_k (zne_r zc_27 hk144 (by decide))
    refine zt_goto (tgt := 180) hX dX8_readStatement_162 (by decide) ?_
    exact zt_vret hX hR dX8_readStatement_180 ⟨hI159, hF160, by omega⟩
  · refine zt_tsOut (tgt := 165) hX dX8_readStatement_7 ⟨by omega, by omega⟩ c8 (by decide) ?_
    refine zt_aload_n (pc' := 166) hX dX8_readStatement_165 rfl rfl ?_
    refine zt_get (pc' := 169) (v := .ref (X.1.1 + 27)) hX dX8_readStatement_166 rfl zf_X8_9 (by decide) zc_34 zs_21 (zrf_of (zv_21_0 hI zc_34)) ?_
    refine zt_iconst (pc' := 170) hX dX8_readStatement_169 rfl ?_
    refine zt_aload_n (pc' := 171) hX dX8_readStatement_170 rfl rfl ?_
    refine zt_get (pc' := 174) (v := .ref (X.1.1 + 27)) hX dX8_readStatement_171 rfl zf_X8_9 (by decide) zc_34 zs_21 (zrf_of (zv_21_0 hI zc_34)) ?_
    refine zt_cVi (pc' := 177) hX dX8_readStatement_174 rfl zm_yX5_placeHere zw_20_7 zc_27 (by decide) zs_14 (q := (RX5, TX5, 9)) rfl rfl (zc_X5_placeHere _ _ σ hI ) rfl rfl (Nat.le_of_ble_eq_true rfl) (by decide) (fun r162 s163 hr164 hp165 => ?_)
    obtain ⟨rfl, q166, q167⟩ := hp165
    refine zt_cVv (pc' := 180) hX dX8_readStatement_177 rfl zm_yX5_refuse zw_20_11 zc_27 (by decide) zs_14 (q := (RX5, TX5, 9)) rfl rfl (zc_X5_refuse _ _ σ hI 1 ⟨by omega, by omega⟩ r162 ⟨by omega, by omega⟩ (by omega)) rfl rfl (Nat.le_of_ble_eq_true rfl) (by decide) (fun r168 s169 hr170 hp171 => ?_)
    obtain ⟨hI172, hF173, z174⟩ := hp171
    have hF175 := zFA_tr hF hF173
    have b176 := zv_14_5 hI172 zc_27
    exact zt_vret hX hR dX8_readStatement_180 ⟨hI172, hF175, by omega⟩

set_option maxRecDepth 100000 in
set_option maxHeartbeats 4000000 in
theorem zc_X8_readInto (l : Launch) (E : zEN) (σ : zSto) (hI : zInv σ) (k1_ : Nat) (hk1_ : zro k1_ = 8) : zCt l E yX8_readInto cX8_readInto 4 (some .int) 37 zNC zNC 0 0 σ [.ref (E.1 + 34), .ref (E.1 + k1_), .ref (E.1 + 1)] (fun r σ' => zInv σ' ∧ zFA σ σ' ∧ 0 ≤ r ∧ r ≤ 80) := by
  refine zCt_of2 [some (.ref (E.1 + 34)), some (.ref (E.1 + k1_)), some (.ref (E.1 + 1)), none] (by decide +kernel) (Nat.le_of_ble_eq_true rfl) rfl ?_
  intro X hE hX hR hL hN
  subst hE
  have hX : zok X cX8_readInto RX8 37 := hX
  have hF := zFA_rf σ
  have b1 := zv_14_5 hI zc_27
  refine zt_aload_n (pc' := 1) hX dX8_readInto_0 rfl rfl ?_
  refine zt_aload_n (pc' := 2) hX dX8_readInto_1 rfl rfl ?_
  refine zt_put (pc' := 5) (x := ((k1_ : Nat) : Int)) hX dX8_readInto_2 rfl zf_X8_19 (by decide) zc_34 zs_21 (fun q hq => by cases hq; rfl) (zrf_of rfl) rfl rfl ?_
  generalize hs3 : zset σ 34 2 ((k1_ : Nat) : Int) = s2
  have hI4 : zInv s2 := hs3 ▸ zp_21_2 hI zc_34 ⟨k1_, rfl, hk1_⟩
  have hF5 : zFA σ s2 := hs3 ▸ zFA_set hF zc_34 (by decide) zk_21 (Or.inl (by decide))
  have e6 : s2 27 5 = σ 27 5 := by rw [← hs3]; exact zset_k (zne_r zc_27 zc_34 (by decide))
  have ek7 : s2 34 2 = ((k1_ : Nat) : Int) := by rw [← hs3]; exact zset_s
  refine zt_aload_n (pc' := 6) hX dX8_readInto_5 rfl rfl ?_
  refine zt_cVv (pc' := 9) hX dX8_readInto_6 rfl zm_yX3_clear zw_15_18 hk1_ (by decide) zs_8 (q := (RX3, TX3, 17)) rfl rfl (zc_X3_clear _ _ s2 hI4 k1_ hk1_) rfl rfl (Nat.le_of_ble_eq_true rfl) (by decide) (fun r8 s9 hr10 hp11 => ?_)
  obtain ⟨hI12, hF13⟩ := hp11
  have hF14 := zFA_tr hF5 hF13
  have b15 := zv_14_5 hI12 zc_27
  refine zt_aload_n (pc' := 10) hX dX8_readInto_9 rfl rfl ?_
  refine zt_get (pc' := 13) (v := .ref (X.1.1 + 27)) hX dX8_readInto_10 rfl zf_X8_9 (by decide) zc_34 zs_21 (zrf_of (zv_21_0 hI12 zc_34)) ?_
  refine zt_aload_n (pc' := 14) hX dX8_readInto_13 rfl rfl ?_
  refine zt_cVv (pc' := 17) hX dX8_readInto_14 rfl zm_yX5_open zw_16_10 zc_27 (by decide) zs_14 (q := (RX5, TX5, 9)) rfl rfl (zc_X5_open _ _ s9 hI12 ) rfl rfl (Nat.le_of_ble_eq_true rfl) (by decide) (fun r16 s17 hr18 hp19 => ?_)
  obtain ⟨hI20, hF21, z22⟩ := hp19
  have hF23 := zFA_tr hF14 hF21
  have b24 := zv_14_5 hI20 zc_27
  refine zt_iconst (pc' := 18) hX dX8_readInto_17 rfl ?_
  refine zt_istore_n (pc' := 19) (lv' := [some (.ref (X.1.1 + 34)), some (.ref (X.1.1 + k1_)), some (.ref (X.1.1 + 1)), some (.int (zI 0))]) hX dX8_readInto_18 rfl hL (by decide) rfl ?_
  have L_19_31 : ∀ (N : Nat) (x25 : Int) (s28 : zSto), 0 ≤ x25 → x25 ≤ 80 → zInv s28 → zFA σ s28 → s28 27 5 ≤ 1600 → ((81 - x25).toNat) < N → zF X s28 19 [some (.ref (X.1.1 + 34)), none, none, some (.int (zI x25))] [] := by
    intro N
    induction N with
    | zero =>
      intro x25 s28 h26 h27 hI29 hF30 g31 hm33
      exact absurd hm33 (Nat.not_lt_zero _)
    | succ N ih34 =>
      intro x25 s28 h26 h27 hI29 hF30 g31 hm33
      have b35 := zv_14_5 hI29 zc_27
      refine zt_iload_n (pc' := 20) hX dX8_readInto_19 rfl rfl ?_
      refine zt_bipush (pc' := 22) hX dX8_readInto_20 rfl (by decide) (by decide) ?_
      have J_65_35 : zF X s28 65 [some (.ref (X.1.1 + 34)), none, none, some (.int (zI x25))] [] := by
        refine zt_iload_n (pc' := 66) hX dX8_readInto_65 rfl rfl ?_
        have J_84_40 : ∀ (s37 : zSto), zInv s37 → zFA σ s37 → s37 27 5 ≤ 1600 → zF X s37 84 [some (.ref (X.1.1 + 34)), none, none, some (.int (zI x25))] [] := by
          intro s37 hI38 hF39 g40
          have b42 := zv_14_5 hI38 zc_27
          refine zt_aload_n (pc' := 85) hX dX8_readInto_84 rfl rfl ?_
          refine zt_get (pc' := 88) (v := .ref (X.1.1 + 27)) hX dX8_readInto_85 rfl zf_X8_9 (by decide) zc_34 zs_21 (zrf_of (zv_21_0 hI38 zc_34)) ?_
          refine zt_cVz (pc' := 91) hX dX8_readInto_88 rfl zm_yX5_hasMore zw_17_17 zc_27 (by decide) zs_14 (q := (RX5, TX5, 9)) rfl rfl (zc_X5_hasMore _ _ s37 hI38 ) rfl rfl (Nat.le_of_ble_eq_true rfl) (by decide) (fun r43 s44 hr45 hp46 => ?_)
          obtain ⟨rfl, q47, q48⟩ := hp46
          refine zt_ifeq (pc' := 94) (tgt := 109) hX dX8_readInto_91 rfl (by decide) ⟨by omega, by omega⟩ (fun c49 => ?_) (fun c49 => ?_)
          · refine zt_iload_n (pc' := 110) hX dX8_readInto_109 rfl rfl ?_
            exact zt_iret hX hR dX8_readInto_110 ⟨by omega, by omega⟩ ⟨hI38, hF39, by omega, by omega⟩
          · refine zt_aload_n (pc' := 95) hX dX8_readInto_94 rfl rfl ?_
            refine zt_get (pc' := 98) (v := .ref (X.1.1 + 27)) hX dX8_readInto_95 rfl zf_X8_9 (by decide) zc_34 zs_21 (zrf_of (zv_21_0 hI38 zc_34)) ?_
            refine zt_iconst (pc' := 99) hX dX8_readInto_98 rfl ?_
            refine zt_aload_n (pc' := 100) hX dX8_readInto_99 rfl rfl ?_
            refine zt_get (pc' := 103) (v := .ref (X.1.1 + 27)) hX dX8_readInto_100 rfl zf_X8_9 (by decide) zc_34 zs_21 (zrf_of (zv_21_0 hI38 zc_34)) ?_
            refine zt_cVi (pc' := 106) hX dX8_readInto_103 rfl zm_yX5_placeHere zw_20_7 zc_27 (by decide) zs_14 (q := (RX5, TX5, 9)) rfl rfl (zc_X5_placeHere _ _ s37 hI38 ) rfl rfl (Nat.le_of_ble_eq_true rfl) (by decide) (fun r50 s51 hr52 hp53 => ?_)
            obtain ⟨rfl, q54, q55⟩ := hp53
            refine zt_cVv (pc' := 109) hX dX8_readInto_106 rfl zm_yX5_refuse zw_20_11 zc_27 (by decide) zs_14 (q := (RX5, TX5, 9)) rfl rfl (zc_X5_refuse _ _ s37 hI38 5 ⟨by omega, by omega⟩ r50 ⟨by omega, by omega⟩ (by omega)) rfl rfl (Nat.le_of_ble_eq_true rfl) (by decide) (fun r56 s57 hr58 hp59 => ?_)
            obtain ⟨hI60, hF61, z62⟩ := hp59
            have hF63 := zFA_tr hF39 hF61
            have b64 := zv_14_5 hI60 zc_27
            refine zt_iload_n (pc' := 110) hX dX8_readInto_109 rfl rfl ?_
            exact zt_iret hX hR dX8_readInto_110 ⟨by omega, by omega⟩ ⟨hI60, hF63, by omega, by omega⟩
        refine zt_ifne (pc' := 69) (tgt := 84) hX dX8_readInto_66 rfl (by decide) ⟨by omega, by omega⟩ (fun c65 => ?_) (fun c65 => ?_)
        · exact J_84_40 s28 hI29 hF30 (by omega)
        · refine zt_aload_n (pc' := 70) hX dX8_readInto_69 rfl rfl ?_
          refine zt_get (pc' := 73) (v := .ref (X.1.1 + 27)) hX dX8_readInto_70 rfl zf_X8_9 (by decide) zc_34 zs_21 (zrf_of (zv_21_0 hI29 zc_34)) ?_
          refine zt_iconst (pc' := 74) hX dX8_readInto_73 rfl ?_
          refine zt_aload_n (pc' := 75) hX dX8_readInto_74 rfl rfl ?_
          refine zt_get (pc' := 78) (v := .ref (X.1.1 + 27)) hX dX8_readInto_75 rfl zf_X8_9 (by decide) zc_34 zs_21 (zrf_of (zv_21_0 hI29 zc_34)) ?_
          refine zt_cVi (pc' := 81) hX dX8_readInto_78 rfl zm_yX5_placeHere zw_20_7 zc_27 (by decide) zs_14 (q := (RX5, TX5, 9)) rfl rfl (zc_X5_placeHere _ _ s28 hI29 ) rfl rfl (Nat.le_of_ble_eq_true rfl) (by decide) (fun r66 s67 hr68 hp69 => ?_)
          obtain ⟨rfl, q70, q71⟩ := hp69
          refine zt_cVv (pc' := 84) hX dX8_readInto_81 rfl zm_yX5_refuse zw_20_11 zc_27 (by decide) zs_14 (q := (RX5, TX5, 9)) rfl rfl (zc_X5_refuse _ _ s28 hI29 1 ⟨by omega, by omega⟩ r66 ⟨by omega, by omega⟩ (by omega)) rfl rfl (Nat.le_of_ble_eq_true rfl) (by decide) (fun r72 s73 hr74 hp75 => ?_)
          obtain ⟨hI76, hF77, z78⟩ := hp75
          have hF79 := zFA_tr hF30 hF77
          have b80 := zv_14_5 hI76 zc_27
          exact J_84_40 s73 hI76 hF79 (by omega)
      refine zt_icge (pc' := 25) (tgt := 65) hX dX8_readInto_22 rfl (by decide) ⟨by omega, by omega⟩ ⟨by omega, by omega⟩ (fun c81 => ?_) (fun c81 => ?_)
      · exact J_65_35
      · refine zt_aload_n (pc' := 26) hX dX8_readInto_25 rfl rfl ?_
        refine zt_get (pc' := 29) (v := .ref (X.1.1 + 27)) hX dX8_readInto_26 rfl zf_X8_9 (by decide) zc_34 zs_21 (zrf_of (zv_21_0 hI29 zc_34)) ?_
        refine zt_cVz (pc' := 32) hX dX8_readInto_29 rfl zm_yX5_hasMore zw_17_17 zc_27 (by decide) zs_14 (q := (RX5, TX5, 9)) rfl rfl (zc_X5_hasMore _ _ s28 hI29 ) rfl rfl (Nat.le_of_ble_eq_true rfl) (by decide) (fun r82 s83 hr84 hp85 => ?_)
        obtain ⟨rfl, q86, q87⟩ := hp85
        refine zt_ifeq (pc' := 35) (tgt := 65) hX dX8_readInto_32 rfl (by decide) ⟨by omega, by omega⟩ (fun c88 => ?_) (fun c88 => ?_)
        · exact J_65_35
        · refine zt_iload_n (pc' := 36) hX dX8_readInto_35 rfl rfl ?_
          have J_50_92 : ∀ (s89 : zSto), zInv s89 → zFA σ s89 → s89 27 5 ≤ 1600 → zF X s89 50 [some (.ref (X.1.1 + 34)), none, none, some (.int (zI x25))] [] := by
            intro s89 hI90 hF91 g92
            have b94 := zv_14_5 hI90 zc_27
            refine zt_aload_n (pc' := 51) hX dX8_readInto_50 rfl rfl ?_
            refine zt_get (pc' := 54) (v := .ref (X.1.1 + 27)) hX dX8_readInto_51 rfl zf_X8_9 (by decide) zc_34 zs_21 (zrf_of (zv_21_0 hI90 zc_34)) ?_
            refine zt_bipush (pc' := 56) hX dX8_readInto_54 rfl (by decide) (by decide) ?_
            refine zt_cVv (pc' := 59) hX dX8_readInto_56 rfl zm_yX5_takeSign zw_24_18 zc_27 (by decide) zs_14 (q := (RX5, TX5, 9)) rfl rfl (zc_X5_takeSign _ _ s89 hI90 59 ⟨by omega, by omega⟩ (by omega)) rfl rfl (Nat.le_of_ble_eq_true rfl) (by decide) (fun r95 s96 hr97 hp98 => ?_)
            obtain ⟨hI99, hF100, z101⟩ := hp98
            have hF102 := zFA_tr hF91 hF100
            have b103 := zv_14_5 hI99 zc_27
            refine zt_iinc (pc' := 62) (lv' := [some (.ref (X.1.1 + 34)), none, none, some (.int (zI (x25 + 1)))]) hX dX8_readInto_59 rfl rfl hL (by decide) rfl ?_
            refine zt_goto (tgt := 19) hX dX8_readInto_62 (by decide) ?_
            exact ih34 (x25 + 1) s96 (by omega) (by omega) hI99 hF102 (by omega) (by omega)
          refine zt_ifne (pc' := 39) (tgt := 46) hX dX8_readInto_36 rfl (by decide) ⟨by omega, by omega⟩ (fun c104 => ?_) (fun c104 => ?_)
          · refine zt_aload_n (pc' := 47) hX dX8_readInto_46 rfl rfl ?_
            refine zt_cVv (pc' := 50) hX dX8_readInto_47 rfl zm_yX8_readStatement zw_19_6 zc_34 (by decide) zs_21 (q := (RX8, TX8, 3)) rfl rfl (zc_X8_readStatement _ _ s28 hI29 (by omega)) rfl rfl (Nat.le_of_ble_eq_true rfl) (by decide) (fun r105 s106 hr107 hp108 => ?_)
            obtain ⟨hI109, hF110, z111⟩ := hp108
            have hF112 := zFA_tr hF30 hF110
            have b113 := zv_14_5 hI109 zc_27
            exact J_50_92 s106 hI109 hF112 (by omega)
          · refine zt_aload_n (pc' := 40) hX dX8_readInto_39 rfl rfl ?_
            refine zt_cVv (pc' := 43) hX dX8_readInto_40 rfl zm_yX8_readPane zw_17_21 zc_34 (by decide) zs_21 (q := (RX8, TX8, 3)) rfl rfl (zc_X8_readPane _ _ s28 hI29 (by omega)) rfl rfl (Nat.le_of_ble_eq_true rfl) (by decide) (fun r114 s115 hr116 hp117 => ?_)
            obtain ⟨hI118, hF119, z120⟩ := hp117
            have hF121 := zFA_tr hF30 hF119
            have b122 := zv_14_5 hI118 zc_27
            refine zt_goto (tgt := 50) hX dX8_readInto_43 (by decide) ?_
            exact J_50_92 s115 hI118 hF121 (by omega)
  refine zt_mask [true, false, false, true] rfl ?_
  exact L_19_31 _ 0 s17 (by omega) (by omega) hI20 hF23 (by omega) (Nat.lt_succ_self _)

set_option maxRecDepth 100000 in
set_option maxHeartbeats 4000000 in
theorem zc_X10_isCracked (l : Launch) (E : zEN) (σ : zSto) (hI : zInv σ) (k0_ : Nat) (hk0_ : zro k0_ = 22) (a1_ : Int) (ha1_ : -2147483648 ≤ a1_ ∧ a1_ ≤ 2147483647) : zCt l E yX10_isCracked cX10_isCracked 2 (some .boolean) 0 zNC zNC 0 0 σ [.ref (E.1 + k0_), .int (zI a1_)] (fun r σ' => σ = σ' ∧ 0 ≤ r ∧ r ≤ 1) := by
  refine zCt_of2 [some (.ref (E.1 + k0_)), some (.int (zI a1_))] (by decide +kernel) (Nat.le_of_ble_eq_true rfl) rfl ?_
  intro X hE hX hR hL hN
  subst hE
  have hX : zok X cX10_isCracked RX10 0 := hX
  refine zt_aload_n (pc' := 1) hX dX10_isCracked_0 rfl rfl ?_
  have b1 := zv_22_6 hI hk0_
  refine zt_get (pc' := 4) (v := .long (zJ (σ k0_ 6))) hX dX10_isCracked_1 rfl zf_X10_31 (zro_lt hk0_ (by decide)) hk0_ zs_22 rfl ?_
  refine zt_iload_n (pc' := 5) hX dX10_isCracked_4 rfl rfl ?_
  refine zt_lshr (pc' := 6) hX dX10_isCracked_5 rfl (fun r2 zr2 lr2 ur2 => ?_)
  clear zr2
  refine zt_lconst (pc' := 7) (y := 1) hX dX10_isCracked_6 rfl (by decide +kernel) ?_
  refine zt_land (pc' := 8) hX dX10_isCracked_7 rfl (fun r3 zr3 lr3 ur3 => ?_)
  clear zr3
  refine zt_lconst (pc' := 9) (y := 0) hX dX10_isCracked_8 rfl (by decide +kernel) ?_
  refine zt_lcmp (pc' := 10) hX dX10_isCracked_9 rfl ⟨by omega, by omega⟩ ⟨by omega, by omega⟩ (fun r4 er4 => ?_)
  refine zt_ifeq (pc' := 13) (tgt := 17) hX dX10_isCracked_10 rfl (by decide) ⟨by omega, by omega⟩ (fun c5 => ?_) (fun c5 => ?_)
  · refine zt_iconst (pc' := 18) hX dX10_isCracked_17 rfl ?_
    exact zt_zret hX hR dX10_isCracked_18 ⟨by omega, by omega⟩ ⟨rfl, by omega, by omega⟩
  · refine zt_iconst (pc' := 14) hX dX10_isCracked_13 rfl ?_
    refine zt_goto (tgt := 18) hX dX10_isCracked_14 (by decide) ?_
    exact zt_zret hX hR dX10_isCracked_18 ⟨by omega, by omega⟩ ⟨rfl, by omega, by omega⟩

set_option maxRecDepth 100000 in
set_option maxHeartbeats 4000000 in
theorem zc_X10_standing (l : Launch) (E : zEN) (σ : zSto) (hI : zInv σ) (k0_ : Nat) (hk0_ : zro k0_ = 22) (k1_ : Nat) (hk1_ : zro k1_ = 8) (a2_ : Int) (ha2_ : -2147483648 ≤ a2_ ∧ a2_ ≤ 2147483647) : zCt l E yX10_standing cX10_standing 4 (some .int) 1 zNC zNC 0 0 σ [.ref (E.1 + k0_), .ref (E.1 + k1_), .int (zI a2_)] (fun r σ' => σ = σ' ∧ -1 ≤ r ∧ r ≤ 9) := by
  refine zCt_of2 [some (.ref (E.1 + k0_)), some (.ref (E.1 + k1_)), some (.int (zI a2_)), none] (by decide +kernel) (Nat.le_of_ble_eq_true rfl) rfl ?_
  intro X hE hX hR hL hN
  subst hE
  have hX : zok X cX10_standing RX10 1 := hX
  refine zt_iconst (pc' := 1) hX dX10_standing_0 rfl ?_
  refine zt_istore_n (pc' := 2) (lv' := [some (.ref (X.1.1 + k0_)), some (.ref (X.1.1 + k1_)), some (.int (zI a2_)), some (.int (zI 0))]) hX dX10_standing_1 rfl hL (by decide) rfl ?_
  have L_2_3 : ∀ (N : Nat) (x1 : Int), 0 ≤ x1 → x1 ≤ 10 → ((11 - x1).toNat) < N → zF X σ 2 [some (.ref (X.1.1 + k0_)), some (.ref (X.1.1 + k1_)), some (.int (zI a2_)), some (.int (zI x1))] [] := by
    intro N
    induction N with
    | zero =>
      intro x1 h2 h3 hm5
      exact absurd hm5 (Nat.not_lt_zero _)
    | succ N ih6 =>
      intro x1 h2 h3 hm5
      refine zt_iload_n (pc' := 3) hX dX10_standing_2 rfl rfl ?_
      refine zt_aload_n (pc' := 4) hX dX10_standing_3 rfl rfl ?_
      have b7 := zv_8_12 hI hk1_
      refine zt_get (pc' := 7) (v := .int (zI (σ k1_ 12))) hX dX10_standing_4 rfl zf_X10_38 (zro_lt hk1_ (by decide)) hk1_ zs_8 rfl ?_
      refine zt_icge (pc' := 10) (tgt := 38) hX dX10_standing_7 rfl (by decide) ⟨by omega, by omega⟩ ⟨by omega, by omega⟩ (fun c8 => ?_) (fun c8 => ?_)
      · refine zt_iconst (pc' := 39) hX dX10_standing_38 rfl ?_
        exact zt_iret hX hR dX10_standing_39 ⟨by omega, by omega⟩ ⟨rfl, by omega, by omega⟩
      · refine zt_aload_n (pc' := 11) hX dX10_standing_10 rfl rfl ?_
        refine zt_aload_n (pc' := 12) hX dX10_standing_11 rfl rfl ?_
        refine zt_get (pc' := 15) (v := .ref (X.1.1 + (k0_ + 1))) hX dX10_standing_12 rfl zf_X10_9 (zro_lt hk0_ (by decide)) hk0_ zs_22 (zrf_of (zv_22_0 hI hk0_)) ?_
        refine zt_iload_n (pc' := 16) hX dX10_standing_15 rfl rfl ?_
        refine zt_iald (pc' := 17) hX dX10_standing_16 rfl (zro_lt (zo_22_0 hk0_) (by decide)) (zo_22_0 hk0_) zs_23 (by decide) ⟨by omega, by omega⟩ ?_
        generalize hv9 : σ (k0_ + 1) (x1.toNat) = v9
        have bv9 : -1 ≤ v9 ∧ v9 ≤ 255 := hv9 ▸ zv_23 hI (zo_22_0 hk0_) _
        refine zt_aload_n (pc' := 18) hX dX10_standing_17 rfl rfl ?_
        refine zt_get (pc' := 21) (v := .ref (X.1.1 + (k0_ + 2))) hX dX10_standing_18 rfl zf_X10_15 (zro_lt hk0_ (by decide)) hk0_ zs_22 (zrf_of (zv_22_1 hI hk0_)) ?_
        refine zt_iload_n (pc' := 22) hX dX10_standing_21 rfl rfl ?_
        refine zt_iald (pc' := 23) hX dX10_standing_22 rfl (zro_lt (zo_22_1 hk0_) (by decide)) (zo_22_1 hk0_) zs_24 (by decide) ⟨by omega, by omega⟩ ?_
        generalize hv10 : σ (k0_ + 2) (x1.toNat) = v10
        have bv10 : -1 ≤ v10 ∧ v10 ≤ 255 := hv10 ▸ zv_24 hI (zo_22_1 hk0_) _
        refine zt_cVi (pc' := 26) hX dX10_standing_23 rfl zm_yX3_cellAt zw_44_6 hk1_ (by decide) zs_8 (q := (RX3, TX3, 17)) rfl rfl (zc_X3_cellAt _ _ σ hI k1_ hk1_ v9 ⟨by omega, by omega⟩ v10 ⟨by omega, by omega⟩) rfl rfl (Nat.le_of_ble_eq_true rfl) (by decide) (fun r11 s12 hr13 hp14 => ?_)
        obtain ⟨rfl, q15, q16, z17⟩ := hp14
        refine zt_iload_n (pc' := 27) hX dX10_standing_26 rfl rfl ?_
        refine zt_icne (pc' := 30) (tgt := 32) hX dX10_standing_27 rfl (by decide) ⟨by omega, by omega⟩ ⟨by omega, by omega⟩ (fun c18 => ?_) (fun c18 => ?_)
        · refine zt_iinc (pc' := 35) (lv' := [some (.ref (X.1.1 + k0_)), some (.ref (X.1.1 + k1_)), some (.int (zI a2_)), some (.int (zI (x1 + 1)))]) hX dX10_standing_32 rfl rfl hL (by decide) rfl ?_
          refine zt_goto (tgt := 2) hX dX10_standing_35 (by decide) ?_
          exact ih6 (x1 + 1) (by omega) (by omega) (by omega)
        · refine zt_iload_n (pc' := 31) hX dX10_standing_30 rfl rfl ?_
          exact zt_iret hX hR dX10_standing_31 ⟨by omega, by omega⟩ ⟨rfl, by omega, by omega⟩
  exact L_2_3 _ 0 (by omega) (by omega) (Nat.lt_succ_self _)

set_option maxRecDepth 100000 in
set_option maxHeartbeats 4000000 in
theorem zc_X10_tiredTogether (l : Launch) (E : zEN) (σ : zSto) (hI : zInv σ) (k0_ : Nat) (hk0_ : zro k0_ = 22) (a1_ : Int) (ha1_ : 0 ≤ a1_ ∧ a1_ ≤ 10) : zCt l E yX10_tiredTogether cX10_tiredTogether 4 (some .int) 0 zNC zNC 0 0 σ [.ref (E.1 + k0_), .int (zI a1_)] (fun r σ' => σ = σ' ∧ -2147483648 ≤ r ∧ r ≤ 2147483647) := by
  refine zCt_of2 [some (.ref (E.1 + k0_)), some (.int (zI a1_)), none, none] (by decide +kernel) (Nat.le_of_ble_eq_true rfl) rfl ?_
  intro X hE hX hR hL hN
  subst hE
  have hX : zok X cX10_tiredTogether RX10 0 := hX
  refine zt_iconst (pc' := 1) hX dX10_tiredTogether_0 rfl ?_
  refine zt_istore_n (pc' := 2) (lv' := [some (.ref (X.1.1 + k0_)), some (.int (zI a1_)), some (.int (zI 0)), none]) hX dX10_tiredTogether_1 rfl hL (by decide) rfl ?_
  refine zt_iconst (pc' := 3) hX dX10_tiredTogether_2 rfl ?_
  refine zt_istore_n (pc' := 4) (lv' := [some (.ref (X.1.1 + k0_)), some (.int (zI a1_)), some (.int (zI 0)), some (.int (zI 0))]) hX dX10_tiredTogether_3 rfl hL (by decide) rfl ?_
  have L_4_6 : ∀ (N : Nat) (x1 : Int) (x4 : Int), -2147483648 ≤ x1 → x1 ≤ 2147483647 → 0 ≤ x4 → x4 ≤ 10 → ((11 - x4).toNat) < N → zF X σ 4 [some (.ref (X.1.1 + k0_)), some (.int (zI a1_)), some (.int (zI x1)), some (.int (zI x4))] [] := by
    intro N
    induction N with
    | zero =>
      intro x1 x4 h2 h3 h5 h6 hm8
      exact absurd hm8 (Nat.not_lt_zero _)
    | succ N ih9 =>
      intro x1 x4 h2 h3 h5 h6 hm8
      refine zt_iload_n (pc' := 5) hX dX10_tiredTogether_4 rfl rfl ?_
      refine zt_iload_n (pc' := 6) hX dX10_tiredTogether_5 rfl rfl ?_
      refine zt_icge (pc' := 9) (tgt := 24) hX dX10_tiredTogether_6 rfl (by decide) ⟨by omega, by omega⟩ ⟨by omega, by omega⟩ (fun c10 => ?_) (fun c10 => ?_)
      · refine zt_iload_n (pc' := 25) hX dX10_tiredTogether_24 rfl rfl ?_
        exact zt_iret hX hR dX10_tiredTogether_25 ⟨by omega, by omega⟩ ⟨rfl, by omega, by omega⟩
      · refine zt_iload_n (pc' := 10) hX dX10_tiredTogether_9 rfl rfl ?_
        refine zt_aload_n (pc' := 11) hX dX10_tiredTogether_10 rfl rfl ?_
        refine zt_get (pc' := 14) (v := .ref (X.1.1 + (k0_ + 3))) hX dX10_tiredTogether_11 rfl zf_X10_18 (zro_lt hk0_ (by decide)) hk0_ zs_22 (zrf_of (zv_22_2 hI hk0_)) ?_
        refine zt_iload_n (pc' := 15) hX dX10_tiredTogether_14 rfl rfl ?_
        refine zt_iald (pc' := 16) hX dX10_tiredTogether_15 rfl (zro_lt (zo_22_2 hk0_) (by decide)) (zo_22_2 hk0_) zs_25 (by decide) ⟨by omega, by omega⟩ ?_
        generalize hv11 : σ (k0_ + 3) (x4.toNat) = v11
        have bv11 : -1 ≤ v11 ∧ v11 ≤ 255 := hv11 ▸ zv_25 hI (zo_22_2 hk0_) _
        refine zt_iadd (pc' := 17) hX dX10_tiredTogether_16 rfl ?_
        refine zt_wrap (fun r12 zr12 lr12 ur12 => ?_)
        clear zr12
        refine zt_istore_n (pc' := 18) (lv' := [some (.ref (X.1.1 + k0_)), some (.int (zI a1_)), some (.int (zI r12)), some (.int (zI x4))]) hX dX10_tiredTogether_17 rfl hL (by decide) rfl ?_
        refine zt_iinc (pc' := 21) (lv' := [some (.ref (X.1.1 + k0_)), some (.int (zI a1_)), some (.int (zI r12)), some (.int (zI (x4 + 1)))]) hX dX10_tiredTogether_18 rfl rfl hL (by decide) rfl ?_
        refine zt_goto (tgt := 4) hX dX10_tiredTogether_21 (by decide) ?_
        exact ih9 r12 (x4 + 1) (by omega) (by omega) (by omega) (by omega) (by omega)
  exact L_4_6 _ 0 0 (by omega) (by omega) (by omega) (by omega) (Nat.lt_succ_self _)

set_option maxRecDepth 100000 in
set_option maxHeartbeats 4000000 in
theorem zc_X10_between (l : Launch) (E : zEN) (σ : zSto) (hI : zInv σ) (k0_ : Nat) (hk0_ : zro k0_ = 22) (a1_ : Int) (ha1_ : 0 ≤ a1_ ∧ a1_ ≤ 9) (a2_ : Int) (ha2_ : -1 ≤ a2_ ∧ a2_ ≤ 255) (a3_ : Int) (ha3_ : -1 ≤ a3_ ∧ a3_ ≤ 255) : zCt l E yX10_between cX10_between 4 (some .int) 1 zNC zNC 0 0 σ [.ref (E.1 + k0_), .int (zI a1_), .int (zI a2_), .int (zI a3_)] (fun r σ' => σ = σ' ∧ 0 ≤ r ∧ r ≤ 512) := by
  refine zCt_of2 [some (.ref (E.1 + k0_)), some (.int (zI a1_)), some (.int (zI a2_)), some (.int (zI a3_))] (by decide +kernel) (Nat.le_of_ble_eq_true rfl) rfl ?_
  intro X hE hX hR hL hN
  subst hE
  have hX : zok X cX10_between RX10 1 := hX
  refine zt_aload_n (pc' := 1) hX dX10_between_0 rfl rfl ?_
  refine zt_get (pc' := 4) (v := .ref (X.1.1 + (k0_ + 1))) hX dX10_between_1 rfl zf_X10_9 (zro_lt hk0_ (by decide)) hk0_ zs_22 (zrf_of (zv_22_0 hI hk0_)) ?_
  refine zt_iload_n (pc' := 5) hX dX10_between_4 rfl rfl ?_
  refine zt_iald (pc' := 6) hX dX10_between_5 rfl (zro_lt (zo_22_0 hk0_) (by decide)) (zo_22_0 hk0_) zs_23 (by decide) ⟨by omega, by omega⟩ ?_
  generalize hv1 : σ (k0_ + 1) (a1_.toNat) = v1
  have bv1 : -1 ≤ v1 ∧ v1 ≤ 255 := hv1 ▸ zv_23 hI (zo_22_0 hk0_) _
  refine zt_iload_n (pc' := 7) hX dX10_between_6 rfl rfl ?_
  refine zt_isub (pc' := 8) hX dX10_between_7 rfl ?_
  refine zt_mabs (pc' := 11) hX (by decide) dX10_between_8 rfl zw_34_19 zw_34_20 zw_34_21 zw_34_22 (Nat.le_of_ble_eq_true rfl) ⟨Nat.zero_le _, Nat.zero_le _⟩ ⟨by omega, by omega⟩ (fun r2 er2 => ?_)
  refine zt_aload_n (pc' := 12) hX dX10_between_11 rfl rfl ?_
  refine zt_get (pc' := 15) (v := .ref (X.1.1 + (k0_ + 2))) hX dX10_between_12 rfl zf_X10_15 (zro_lt hk0_ (by decide)) hk0_ zs_22 (zrf_of (zv_22_1 hI hk0_)) ?_
  refine zt_iload_n (pc' := 16) hX dX10_between_15 rfl rfl ?_
  refine zt_iald (pc' := 17) hX dX10_between_16 rfl (zro_lt (zo_22_1 hk0_) (by decide)) (zo_22_1 hk0_) zs_24 (by decide) ⟨by omega, by omega⟩ ?_
  generalize hv3 : σ (k0_ + 2) (a1_.toNat) = v3
  have bv3 : -1 ≤ v3 ∧ v3 ≤ 255 := hv3 ▸ zv_24 hI (zo_22_1 hk0_) _
  refine zt_iload_n (pc' := 18) hX dX10_between_17 rfl rfl ?_
  refine zt_isub (pc' := 19) hX dX10_between_18 rfl ?_
  refine zt_mabs (pc' := 22) hX (by decide) dX10_between_19 rfl zw_34_19 zw_34_20 zw_34_21 zw_34_22 (Nat.le_of_ble_eq_true rfl) ⟨Nat.zero_le _, Nat.zero_le _⟩ ⟨by omega, by omega⟩ (fun r4 er4 => ?_)
  refine zt_iadd (pc' := 23) hX dX10_between_22 rfl ?_
  exact zt_iret hX hR dX10_between_23 ⟨by omega, by omega⟩ ⟨rfl, by omega, by omega⟩

set_option maxRecDepth 100000 in
set_option maxHeartbeats 4000000 in
theorem zc_X10_begin (l : Launch) (E : zEN) (σ : zSto) (hI : zInv σ) (k0_ : Nat) (hk0_ : zro k0_ = 22) (k1_ : Nat) (hk1_ : zro k1_ = 8) : zCt l E yX10_begin cX10_begin 3 none 0 zNC zNC 0 0 σ [.ref (E.1 + k0_), .ref (E.1 + k1_)] (fun r σ' => zInv σ' ∧ zFE σ σ') := by
  refine zCt_of2 [some (.ref (E.1 + k0_)), some (.ref (E.1 + k1_)), none] (by decide +kernel) (Nat.le_of_ble_eq_true rfl) rfl ?_
  intro X hE hX hR hL hN
  subst hE
  have hX : zok X cX10_begin RX10 0 := hX
  have hF := zFE_rf σ
  refine zt_aload_n (pc' := 1) hX dX10_begin_0 rfl rfl ?_
  refine zt_iconst (pc' := 2) hX dX10_begin_1 rfl ?_
  refine zt_put (pc' := 5) (x := 0) hX dX10_begin_2 rfl zf_X10_28 (zro_lt hk0_ (by decide)) hk0_ zs_22 (fun q hq => by cases hq; rfl) rfl rfl rfl ?_
  generalize hs2 : zset σ k0_ 5 0 = s1
  have hI3 : zInv s1 := hs2 ▸ zp_22_5 hI hk0_ ⟨by omega, by omega⟩
  have hF4 : zFE σ s1 := hs2 ▸ zFE_set hF hk0_ (by decide) zke_22 (Or.inl (by decide)) (Or.inl (by decide))
  refine zt_aload_n (pc' := 6) hX dX10_begin_5 rfl rfl ?_
  refine zt_lconst (pc' := 7) (y := 0) hX dX10_begin_6 rfl (by decide +kernel) ?_
  refine zt_put (pc' := 10) (x := 0) hX dX10_begin_7 rfl zf_X10_31 (zro_lt hk0_ (by decide)) hk0_ zs_22 (fun q hq => by cases hq; rfl) rfl rfl rfl ?_
  generalize hs6 : zset s1 k0_ 6 0 = s5
  have hI7 : zInv s5 := hs6 ▸ zp_22_6 hI3 hk0_ ⟨by omega, by omega⟩
  have hF8 : zFE σ s5 := hs6 ▸ zFE_set hF4 hk0_ (by decide) zke_22 (Or.inl (by decide)) (Or.inl (by decide))
  refine zt_aload_n (pc' := 11) hX dX10_begin_10 rfl rfl ?_
  refine zt_iconst (pc' := 12) hX dX10_begin_11 rfl ?_
  refine zt_put (pc' := 15) (x := 0) hX dX10_begin_12 rfl zf_X10_35 (zro_lt hk0_ (by decide)) hk0_ zs_22 (fun q hq => by cases hq; rfl) rfl rfl rfl ?_
  generalize hs10 : zset s5 k0_ 7 0 = s9
  have hI11 : zInv s9 := hs10 ▸ zp_22_7 hI7 hk0_ ⟨by omega, by omega⟩
  have hF12 : zFE σ s9 := hs10 ▸ zFE_set hF8 hk0_ (by decide) zke_22 (Or.inl (by decide)) (Or.inl (by decide))
  refine zt_aload_n (pc' := 16) hX dX10_begin_15 rfl rfl ?_
  refine zt_iconst (pc' := 17) hX dX10_begin_16 rfl ?_
  refine zt_put (pc' := 20) (x := 0) hX dX10_begin_17 rfl zf_X10_24 (zro_lt hk0_ (by decide)) hk0_ zs_22 (fun q hq => by cases hq; rfl) rfl rfl rfl ?_
  generalize hs14 : zset s9 k0_ 4 0 = s13
  have hI15 : zInv s13 := hs14 ▸ zp_22_4 hI11 hk0_ ⟨by omega, by omega⟩
  have hF16 : zFE σ s13 := hs14 ▸ zFE_set hF12 hk0_ (by decide) zke_22 (Or.inl (by decide)) (Or.inl (by decide))
  refine zt_iconst (pc' := 21) hX dX10_begin_20 rfl ?_
  refine zt_istore_n (pc' := 22) (lv' := [some (.ref (X.1.1 + k0_)), some (.ref (X.1.1 + k1_)), some (.int (zI 0))]) hX dX10_begin_21 rfl hL (by decide) rfl ?_
  have L_22_22 : ∀ (N : Nat) (x17 : Int) (s20 : zSto), 0 ≤ x17 → x17 ≤ 10 → zInv s20 → zFE σ s20 → ((11 - x17).toNat) < N → zF X s20 22 [some (.ref (X.1.1 + k0_)), some (.ref (X.1.1 + k1_)), some (.int (zI x17))] [] := by
    intro N
    induction N with
    | zero =>
      intro x17 s20 h18 h19 hI21 hF22 hm24
      exact absurd hm24 (Nat.not_lt_zero _)
    | succ N ih25 =>
      intro x17 s20 h18 h19 hI21 hF22 hm24
      refine zt_iload_n (pc' := 23) hX dX10_begin_22 rfl rfl ?_
      refine zt_aload_n (pc' := 24) hX dX10_begin_23 rfl rfl ?_
      have b26 := zv_8_12 hI21 hk1_
      refine zt_get (pc' := 27) (v := .int (zI (s20 k1_ 12))) hX dX10_begin_24 rfl zf_X10_38 (zro_lt hk1_ (by decide)) hk1_ zs_8 rfl ?_
      refine zt_icge (pc' := 30) (tgt := 67) hX dX10_begin_27 rfl (by decide) ⟨by omega, by omega⟩ ⟨by omega, by omega⟩ (fun c27 => ?_) (fun c27 => ?_)
      · exact zt_vret hX hR dX10_begin_67 ⟨hI21, hF22⟩
      · refine zt_aload_n (pc' := 31) hX dX10_begin_30 rfl rfl ?_
        refine zt_get (pc' := 34) (v := .ref (X.1.1 + (k0_ + 1))) hX dX10_begin_31 rfl zf_X10_9 (zro_lt hk0_ (by decide)) hk0_ zs_22 (zrf_of (zv_22_0 hI21 hk0_)) ?_
        refine zt_iload_n (pc' := 35) hX dX10_begin_34 rfl rfl ?_
        refine zt_aload_n (pc' := 36) hX dX10_begin_35 rfl rfl ?_
        refine zt_get (pc' := 39) (v := .ref (X.1.1 + (k1_ + 3))) hX dX10_begin_36 rfl zf_X10_43 (zro_lt hk1_ (by decide)) hk1_ zs_8 (zrf_of (zv_8_2 hI21 hk1_)) ?_
        refine zt_iload_n (pc' := 40) hX dX10_begin_39 rfl rfl ?_
        refine zt_iald (pc' := 41) hX dX10_begin_40 rfl (zro_lt (zo_8_2 hk1_) (by decide)) (zo_8_2 hk1_) zs_11 (by decide) ⟨by omega, by omega⟩ ?_
        generalize hv28 : s20 (k1_ + 3) (x17.toNat) = v28
        have bv28 : 0 ≤ v28 ∧ v28 ≤ 5 := hv28 ▸ zv_11 hI21 (zo_8_2 hk1_) _
        refine zt_iast (pc' := 42) hX dX10_begin_41 rfl (zro_lt (zo_22_0 hk0_) (by decide)) (zo_22_0 hk0_) zs_23 (by decide) ⟨by omega, by omega⟩ ?_
        generalize hs30 : zset s20 (k0_ + 1) (x17.toNat) v28 = s29
        have hI31 : zInv s29 := hs30 ▸ zp_23 hI21 (zo_22_0 hk0_) (x17.toNat) ⟨by omega, by omega⟩
        have hF32 : zFE σ s29 := hs30 ▸ zFE_set hF22 (zo_22_0 hk0_) (by decide) zke_23 (Or.inl (by decide)) (Or.inl (by decide))
        refine zt_aload_n (pc' := 43) hX dX10_begin_42 rfl rfl ?_
        refine zt_get (pc' := 46) (v := .ref (X.1.1 + (k0_ + 2))) hX dX10_begin_43 rfl zf_X10_15 (zro_lt hk0_ (by decide)) hk0_ zs_22 (zrf_of (zv_22_1 hI31 hk0_)) ?_
        refine zt_iload_n (pc' := 47) hX dX10_begin_46 rfl rfl ?_
        refine zt_aload_n (pc' := 48) hX dX10_begin_47 rfl rfl ?_
        refine zt_get (pc' := 51) (v := .ref (X.1.1 + (k1_ + 4))) hX dX10_begin_48 rfl zf_X10_46 (zro_lt hk1_ (by decide)) hk1_ zs_8 (zrf_of (zv_8_3 hI31 hk1_)) ?_
        refine zt_iload_n (pc' := 52) hX dX10_begin_51 rfl rfl ?_
        refine zt_iald (pc' := 53) hX dX10_begin_52 rfl (zro_lt (zo_8_3 hk1_) (by decide)) (zo_8_3 hk1_) zs_12 (by decide) ⟨by omega, by omega⟩ ?_
        generalize hv33 : s29 (k1_ + 4) (x17.toNat) = v33
        have bv33 : 0 ≤ v33 ∧ v33 ≤ 5 := hv33 ▸ zv_12 hI31 (zo_8_3 hk1_) _
        refine zt_iast (pc' := 54) hX dX10_begin_53 rfl (zro_lt (zo_22_1 hk0_) (by decide)) (zo_22_1 hk0_) zs_24 (by decide) ⟨by omega, by omega⟩ ?_
        generalize hs35 : zset s29 (k0_ + 2) (x17.toNat) v33 = s34
        have hI36 : zInv s34 := hs35 ▸ zp_24 hI31 (zo_22_1 hk0_) (x17.toNat) ⟨by omega, by omega⟩
        have hF37 : zFE σ s34 := hs35 ▸ zFE_set hF32 (zo_22_1 hk0_) (by decide) zke_24 (Or.inl (by decide)) (Or.inl (by decide))
        refine zt_aload_n (pc' := 55) hX dX10_begin_54 rfl rfl ?_
        refine zt_get (pc' := 58) (v := .ref (X.1.1 + (k0_ + 3))) hX dX10_begin_55 rfl zf_X10_18 (zro_lt hk0_ (by decide)) hk0_ zs_22 (zrf_of (zv_22_2 hI36 hk0_)) ?_
        refine zt_iload_n (pc' := 59) hX dX10_begin_58 rfl rfl ?_
        refine zt_iconst (pc' := 60) hX dX10_begin_59 rfl ?_
        refine zt_iast (pc' := 61) hX dX10_begin_60 rfl (zro_lt (zo_22_2 hk0_) (by decide)) (zo_22_2 hk0_) zs_25 (by decide) ⟨by omega, by omega⟩ ?_
        generalize hs39 : zset s34 (k0_ + 3) (x17.toNat) 0 = s38
        have hI40 : zInv s38 := hs39 ▸ zp_25 hI36 (zo_22_2 hk0_) (x17.toNat) ⟨by omega, by omega⟩
        have hF41 : zFE σ s38 := hs39 ▸ zFE_set hF37 (zo_22_2 hk0_) (by decide) zke_25 (Or.inl (by decide)) (Or.inl (by decide))
        refine zt_iinc (pc' := 64) (lv' := [some (.ref (X.1.1 + k0_)), some (.ref (X.1.1 + k1_)), some (.int (zI (x17 + 1)))]) hX dX10_begin_61 rfl rfl hL (by decide) rfl ?_
        refine zt_goto (tgt := 22) hX dX10_begin_64 (by decide) ?_
        exact ih25 (x17 + 1) s38 (by omega) (by omega) hI40 (by omega) (by omega)
  exact L_22_22 _ 0 s13 (by omega) (by omega) hI15 (by omega) (Nat.lt_succ_self _)
