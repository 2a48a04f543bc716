set_option maxRecDepth 100000 in
set_option maxHeartbeats 4000000 in
theorem yc_X1_readSum (l : Launch) (E : zEN) (σ : zSto) (hI : zInv σ) (k1_ : Nat) (hk1_ : zro k1_ = 6) (a2_ : Int) (ha2_ : 0 ≤ a2_ ∧ a2_ ≤ 2) (f : Int → Int) (hT : yTk f σ) : zCt l E yX1_readSum cX1_readSum 3 none 30 zNC zNC 0 0 σ [.ref (E.1 + 33), .ref (E.1 + k1_), .int (zI a2_)] (fun r σ' => zInv σ' ∧ zOn zR4 σ σ' ∧ yTk f σ' ∧ ((yst σ') = ySm a2_ f (yst σ))) := by
  refine zCt_of2 [some (.ref (E.1 + 33)), some (.ref (E.1 + k1_)), some (.int (zI a2_))] (by decide +kernel) (Nat.le_of_ble_eq_true rfl) rfl ?_
  intro X hE_ hX hR hL hN
  subst hE_
  have hX : zok X cX1_readSum RX1 30 := hX
  have hF := zOn_rf zR4 σ
  have hE0 : yst σ = yst σ := rfl
  have b1 := zv_20_2 hI zc_33
  refine zt_aload_n (pc' := 1) hX dX1_readSum_0 rfl rfl ?_
  refine zt_aload_n (pc' := 2) hX dX1_readSum_1 rfl rfl ?_
  refine zt_put (pc' := 5) (x := ((k1_ : Nat) : Int)) hX dX1_readSum_2 rfl zf_X1_19 (by decide) zc_33 zs_20 (fun q hq => by cases hq; rfl) (zrf_of rfl) rfl rfl ?_
  generalize hs3 : zset σ 33 1 ((k1_ : Nat) : Int) = s2
  have hI4 : zInv s2 := hs3 ▸ zp_20_1 hI zc_33 ⟨k1_, rfl, hk1_⟩
  have hF5 : zOn zR4 σ s2 := hs3 ▸ zOn_set hF (by decide)
  have hT6 := yTk_rk hT (yRk_set hs3 zc_33 (by decide))
  have hE7 : yst s2 = (yst σ) := (yst_rk (yRk_set hs3 zc_33 (by decide))).trans hE0
  have e8 : s2 33 2 = σ 33 2 := by rw [← hs3]; exact zset_j (by decide)
  have ek9 : s2 33 1 = ((k1_ : Nat) : Int) := by rw [← hs3]; exact zset_s
  refine zt_aload_n (pc' := 6) hX dX1_readSum_5 rfl rfl ?_
  refine zt_iload_n (pc' := 7) hX dX1_readSum_6 rfl rfl ?_
  refine zt_put (pc' := 10) (x := a2_) hX dX1_readSum_7 rfl zf_X1_9 (by decide) zc_33 zs_20 (fun q hq => by cases hq; rfl) rfl rfl rfl ?_
  generalize hs11 : zset s2 33 2 a2_ = s10
  have hI12 : zInv s10 := hs11 ▸ zp_20_2 hI4 zc_33 ⟨by omega, by omega⟩
  have hF13 : zOn zR4 σ s10 := hs11 ▸ zOn_set hF5 (by decide)
  have hT14 := yTk_rk hT6 (yRk_set hs11 zc_33 (by decide))
  have hE15 : yst s10 = (yst σ) := (yst_rk (yRk_set hs11 zc_33 (by decide))).trans hE7
  have e16 : s10 33 2 = a2_ := by rw [← hs11]; exact zset_s
  refine zt_aload_n (pc' := 11) hX dX1_readSum_10 rfl rfl ?_
  refine zt_iconst (pc' := 12) hX dX1_readSum_11 rfl ?_
  refine zt_put (pc' := 15) (x := 0) hX dX1_readSum_12 rfl zf_X1_23 (zro_lt hk1_ (by decide)) hk1_ zs_6 (fun q hq => by cases hq; rfl) rfl rfl rfl ?_
  generalize hs18 : zset s10 k1_ 1 0 = s17
  have hI19 : zInv s17 := hs18 ▸ zp_6_1 hI12 hk1_ ⟨by omega, by omega⟩
  have hF20 : zOn zR4 σ s17 := hs18 ▸ zOn_set hF13 (zi_rp4 _ _ (zRp_6 hk1_))
  have hT21 := yTk_rk hT14 (yRk_set hs18 hk1_ (by decide))
  have hE22 : yst s17 = (yst σ) := (yst_rk (yRk_set hs18 hk1_ (by decide))).trans hE15
  have e23 : s17 33 2 = s10 33 2 := by rw [← hs18]; exact zset_k (zne_r zc_33 hk1_ (by decide))
  refine zt_aload_n (pc' := 16) hX dX1_readSum_15 rfl rfl ?_
  refine zt_iconst (pc' := 17) hX dX1_readSum_16 rfl ?_
  refine zt_cVv (pc' := 20) hX dX1_readSum_17 rfl zm_yX1_sum zw_21_19 zc_33 (by decide) zs_20 (q := (RX1, TX1, 3)) rfl rfl (yc_X1_sum_o0 _ _ s17 hI19 f hT21 a2_ (by omega) [] rfl (Nat.ne_of_beq_eq_false rfl)) rfl rfl (Nat.le_of_ble_eq_true rfl) (by decide) (fun r24 s25 hr26 hp27 => ?_)
  obtain ⟨hI28, hF29, hT30, z31, z32, z33⟩ := hp27
  rw [hE22] at z31
  rw [hE22] at z32
  have hF34 := zOn_tr hF20 hF29 zi_r24
  obtain ⟨p35, hE36⟩ : ∃ p, yst s25 = p := ⟨_, rfl⟩
  rw [hE36] at z31
  rw [hE36] at z32
  rw [hE36] at z33
  have b37 := zv_20_2 hI28 zc_33
  have e38 := hF29 33 2 rfl
  exact zt_vret hX hR dX1_readSum_20 ⟨hI28, hF34, hT30, hE36.trans (ySm_eq ⟨z31, z33⟩).symm⟩
set_option maxRecDepth 100000 in
set_option maxHeartbeats 4000000 in
theorem yc_X1_readTest (l : Launch) (E : zEN) (σ : zSto) (hI : zInv σ) (k1_ : Nat) (hk1_ : zro k1_ = 6) (a2_ : Int) (ha2_ : 0 ≤ a2_ ∧ a2_ ≤ 2) (f : Int → Int) (hT : yTk f σ) : zCt l E yX1_readTest cX1_readTest 3 none 34 zNC zNC 0 0 σ [.ref (E.1 + 33), .ref (E.1 + k1_), .int (zI a2_)] (fun r σ' => zInv σ' ∧ zOn zR4 σ σ' ∧ yTk f σ' ∧ ((yst σ') = yTt a2_ f (yst σ))) := by
  refine zCt_of2 [some (.ref (E.1 + 33)), some (.ref (E.1 + k1_)), some (.int (zI a2_))] (by decide +kernel) (Nat.le_of_ble_eq_true rfl) rfl ?_
  intro X hE_ hX hR hL hN
  subst hE_
  have hX : zok X cX1_readTest RX1 34 := hX
  have hF := zOn_rf zR4 σ
  have hE0 : yst σ = yst σ := rfl
  have b1 := zv_20_2 hI zc_33
  refine zt_aload_n (pc' := 1) hX dX1_readTest_0 rfl rfl ?_
  refine zt_aload_n (pc' := 2) hX dX1_readTest_1 rfl rfl ?_
  refine zt_put (pc' := 5) (x := ((k1_ : Nat) : Int)) hX dX1_readTest_2 rfl zf_X1_19 (by decide) zc_33 zs_20 (fun q hq => by cases hq; rfl) (zrf_of rfl) rfl rfl ?_
  generalize hs3 : zset σ 33 1 ((k1_ : Nat) : Int) = s2
  have hI4 : zInv s2 := hs3 ▸ zp_20_1 hI zc_33 ⟨k1_, rfl, hk1_⟩
  have hF5 : zOn zR4 σ s2 := hs3 ▸ zOn_set hF (by decide)
  have hT6 := yTk_rk hT (yRk_set hs3 zc_33 (by decide))
  have hE7 : yst s2 = (yst σ) := (yst_rk (yRk_set hs3 zc_33 (by decide))).trans hE0
  have e8 : s2 33 2 = σ 33 2 := by rw [← hs3]; exact zset_j (by decide)
  have ek9 : s2 33 1 = ((k1_ : Nat) : Int) := by rw [← hs3]; exact zset_s
  refine zt_aload_n (pc' := 6) hX dX1_readTest_5 rfl rfl ?_
  refine zt_iload_n (pc' := 7) hX dX1_readTest_6 rfl rfl ?_
  refine zt_put (pc' := 10) (x := a2_) hX dX1_readTest_7 rfl zf_X1_9 (by decide) zc_33 zs_20 (fun q hq => by cases hq; rfl) rfl rfl rfl ?_
  generalize hs11 : zset s2 33 2 a2_ = s10
  have hI12 : zInv s10 := hs11 ▸ zp_20_2 hI4 zc_33 ⟨by omega, by omega⟩
  have hF13 : zOn zR4 σ s10 := hs11 ▸ zOn_set hF5 (by decide)
  have hT14 := yTk_rk hT6 (yRk_set hs11 zc_33 (by decide))
  have hE15 : yst s10 = (yst σ) := (yst_rk (yRk_set hs11 zc_33 (by decide))).trans hE7
  have e16 : s10 33 2 = a2_ := by rw [← hs11]; exact zset_s
  refine zt_aload_n (pc' := 11) hX dX1_readTest_10 rfl rfl ?_
  refine zt_iconst (pc' := 12) hX dX1_readTest_11 rfl ?_
  refine zt_put (pc' := 15) (x := 0) hX dX1_readTest_12 rfl zf_X1_23 (zro_lt hk1_ (by decide)) hk1_ zs_6 (fun q hq => by cases hq; rfl) rfl rfl rfl ?_
  generalize hs18 : zset s10 k1_ 1 0 = s17
  have hI19 : zInv s17 := hs18 ▸ zp_6_1 hI12 hk1_ ⟨by omega, by omega⟩
  have hF20 : zOn zR4 σ s17 := hs18 ▸ zOn_set hF13 (zi_rp4 _ _ (zRp_6 hk1_))
  have hT21 := yTk_rk hT14 (yRk_set hs18 hk1_ (by decide))
  have hE22 : yst s17 = (yst σ) := (yst_rk (yRk_set hs18 hk1_ (by decide))).trans hE15
  have e23 : s17 33 2 = s10 33 2 := by rw [← hs18]; exact zset_k (zne_r zc_33 hk1_ (by decide))
  refine zt_aload_n (pc' := 16) hX dX1_readTest_15 rfl rfl ?_
  refine zt_iconst (pc' := 17) hX dX1_readTest_16 rfl ?_
  refine zt_cVv (pc' := 20) hX dX1_readTest_17 rfl zm_yX1_test zw_24_2 zc_33 (by decide) zs_20 (q := (RX1, TX1, 3)) rfl rfl (yc_X1_test_o0 _ _ s17 hI19 f hT21 a2_ (by omega) [] rfl (Nat.ne_of_beq_eq_false rfl)) rfl rfl (Nat.le_of_ble_eq_true rfl) (by decide) (fun r24 s25 hr26 hp27 => ?_)
  obtain ⟨hI28, hF29, hT30, z31, z32, z33⟩ := hp27
  rw [hE22] at z31
  rw [hE22] at z32
  have hF34 := zOn_tr hF20 hF29 zi_r24
  obtain ⟨p35, hE36⟩ : ∃ p, yst s25 = p := ⟨_, rfl⟩
  rw [hE36] at z31
  rw [hE36] at z32
  rw [hE36] at z33
  have b37 := zv_20_2 hI28 zc_33
  have e38 := hF29 33 2 rfl
  exact zt_vret hX hR dX1_readTest_20 ⟨hI28, hF34, hT30, hE36.trans (yTt_eq ⟨z31, z33⟩).symm⟩
set_option maxRecDepth 100000 in
set_option maxHeartbeats 4000000 in
theorem yc_X3_isNamed_7 (l : Launch) (E : zEN) (σ : zSto) (hI : zInv σ) (a1_ : Int) (ha1_ : -2147483648 ≤ a1_ ∧ a1_ ≤ 2147483647) : zCt l E yX3_isNamed cX3_isNamed 3 (some .boolean) 0 zNC zNC 0 0 σ [.ref (E.1 + 7), .int (zI a1_)] (fun r σ' => σ = σ' ∧ 0 ≤ r ∧ r ≤ 1 ∧ ((a1_ ∈ (yPlc σ 7 9 10 11).nm → r = 1) ∧ (a1_ ∉ (yPlc σ 7 9 10 11).nm → r = 0))) := by
  refine zCt_of2 [some (.ref (E.1 + 7)), some (.int (zI a1_)), none] (by decide +kernel) (Nat.le_of_ble_eq_true rfl) rfl ?_
  intro X hE_ hX hR hL hN
  subst hE_
  have hX : zok X cX3_isNamed RX3 0 := hX
  refine zt_iconst (pc' := 1) hX dX3_isNamed_0 rfl ?_
  refine zt_istore_n (pc' := 2) (lv' := [some (.ref (X.1.1 + 7)), some (.int (zI a1_)), some (.int (zI 0))]) hX dX3_isNamed_1 rfl hL (by decide) rfl ?_
  have L_2_4 : ∀ (N : Nat) (x1 : Int), 0 ≤ x1 → x1 ≤ 10 → (∀ j : Nat, (j : Int) < x1 → σ 9 j ≠ a1_) → ((11 - x1).toNat) < N → zF X σ 2 [some (.ref (X.1.1 + 7)), some (.int (zI a1_)), some (.int (zI x1))] [] := by
    intro N
    induction N with
    | zero =>
      intro x1 h2 h3 g4 hm6
      exact absurd hm6 (Nat.not_lt_zero _)
    | succ N ih7 =>
      intro x1 h2 h3 g4 hm6
      refine zt_iload_n (pc' := 3) hX dX3_isNamed_2 rfl rfl ?_
      refine zt_aload_n (pc' := 4) hX dX3_isNamed_3 rfl rfl ?_
      have b8 := zv_8_12 hI zc_7
      refine zt_get (pc' := 7) (v := .int (zI (σ 7 12))) hX dX3_isNamed_4 rfl zf_X3_54 (by decide) zc_7 zs_8 rfl ?_
      refine zt_icge (pc' := 10) (tgt := 28) hX dX3_isNamed_7 rfl (by decide) ⟨by omega, by omega⟩ ⟨by omega, by omega⟩ (fun c9 => ?_) (fun c9 => ?_)
      · refine zt_iconst (pc' := 29) hX dX3_isNamed_28 rfl ?_
        exact zt_zret hX hR dX3_isNamed_29 ⟨by omega, by omega⟩ ⟨rfl, by omega, by omega, ⟨fun m => absurd m (ynm_0 g4 (by omega)), fun _ => rfl⟩⟩
      · refine zt_aload_n (pc' := 11) hX dX3_isNamed_10 rfl rfl ?_
        refine zt_get (pc' := 14) (v := .ref (X.1.1 + 9)) hX dX3_isNamed_11 rfl zf_X3_15 (by decide) zc_7 zs_8 (zrf_of (zv_8_1 hI zc_7)) ?_
        refine zt_iload_n (pc' := 15) hX dX3_isNamed_14 rfl rfl ?_
        refine zt_iald (pc' := 16) hX dX3_isNamed_15 rfl (by decide) zc_9 zs_10 (by decide) ⟨by omega, by omega⟩ ?_
        generalize hv10 : σ 9 (x1.toNat) = v10
        have bv10 : -2147483648 ≤ v10 ∧ v10 ≤ 2147483647 := hv10 ▸ zv_10 hI zc_9 _
        refine zt_iload_n (pc' := 17) hX dX3_isNamed_16 rfl rfl ?_
        refine zt_icne (pc' := 20) (tgt := 22) hX dX3_isNamed_17 rfl (by decide) ⟨by omega, by omega⟩ ⟨by omega, by omega⟩ (fun c11 => ?_) (fun c11 => ?_)
        · refine zt_iinc (pc' := 25) (lv' := [some (.ref (X.1.1 + 7)), some (.int (zI a1_)), some (.int (zI (x1 + 1)))]) hX dX3_isNamed_22 rfl rfl hL (by decide) rfl ?_
          refine zt_goto (tgt := 2) hX dX3_isNamed_25 (by decide) ?_
          exact ih7 (x1 + 1) (by omega) (by omega) (yne_s (g := σ 9) g4 (by omega) hv10 (by omega)) (by omega)
        · refine zt_iconst (pc' := 21) hX dX3_isNamed_20 rfl ?_
          exact zt_zret hX hR dX3_isNamed_21 ⟨by omega, by omega⟩ ⟨rfl, by omega, by omega, ⟨fun _ => rfl, fun n => absurd (ynm_1 (i := x1) (by omega) (by omega)) n⟩⟩
  exact L_2_4 _ 0 (by omega) (by omega) (fun j h => absurd h (by omega)) (Nat.lt_succ_self _)
set_option maxRecDepth 100000 in
set_option maxHeartbeats 4000000 in
theorem yc_X3_isHome_7 (l : Launch) (E : zEN) (σ : zSto) (hI : zInv σ) (a1_ : Int) (ha1_ : 0 ≤ a1_ ∧ a1_ ≤ 5) (a2_ : Int) (ha2_ : 0 ≤ a2_ ∧ a2_ ≤ 5) : zCt l E yX3_isHome cX3_isHome 4 (some .boolean) 0 zNC zNC 0 0 σ [.ref (E.1 + 7), .int (zI a1_), .int (zI a2_)] (fun r σ' => σ = σ' ∧ 0 ≤ r ∧ r ≤ 1 ∧ (((a1_ + 6 * a2_) ∈ (yPlc σ 7 9 10 11).hm → r = 1) ∧ ((a1_ + 6 * a2_) ∉ (yPlc σ 7 9 10 11).hm → r = 0))) := by
  refine zCt_of2 [some (.ref (E.1 + 7)), some (.int (zI a1_)), some (.int (zI a2_)), none] (by decide +kernel) (Nat.le_of_ble_eq_true rfl) rfl ?_
  intro X hE_ hX hR hL hN
  subst hE_
  have hX : zok X cX3_isHome RX3 0 := hX
  refine zt_iconst (pc' := 1) hX dX3_isHome_0 rfl ?_
  refine zt_istore_n (pc' := 2) (lv' := [some (.ref (X.1.1 + 7)), some (.int (zI a1_)), some (.int (zI a2_)), some (.int (zI 0))]) hX dX3_isHome_1 rfl hL (by decide) rfl ?_
  have L_2_4 : ∀ (N : Nat) (x1 : Int), 0 ≤ x1 → x1 ≤ 10 → (∀ j : Nat, (j : Int) < x1 → σ 10 j + 6 * σ 11 j ≠ a1_ + 6 * a2_) → ((11 - x1).toNat) < N → zF X σ 2 [some (.ref (X.1.1 + 7)), some (.int (zI a1_)), some (.int (zI a2_)), some (.int (zI x1))] [] := by
    intro N
    induction N with
    | zero =>
      intro x1 h2 h3 g4 hm6
      exact absurd hm6 (Nat.not_lt_zero _)
    | succ N ih7 =>
      intro x1 h2 h3 g4 hm6
      refine zt_iload_n (pc' := 3) hX dX3_isHome_2 rfl rfl ?_
      refine zt_aload_n (pc' := 4) hX dX3_isHome_3 rfl rfl ?_
      have b8 := zv_8_12 hI zc_7
      refine zt_get (pc' := 7) (v := .int (zI (σ 7 12))) hX dX3_isHome_4 rfl zf_X3_54 (by decide) zc_7 zs_8 rfl ?_
      refine zt_icge (pc' := 10) (tgt := 38) hX dX3_isHome_7 rfl (by decide) ⟨by omega, by omega⟩ ⟨by omega, by omega⟩ (fun c9 => ?_) (fun c9 => ?_)
      · refine zt_iconst (pc' := 39) hX dX3_isHome_38 rfl ?_
        exact zt_zret hX hR dX3_isHome_39 ⟨by omega, by omega⟩ ⟨rfl, by omega, by omega, ⟨fun m => absurd m (yhm_0 g4 (by omega)), fun _ => rfl⟩⟩
      · refine zt_aload_n (pc' := 11) hX dX3_isHome_10 rfl rfl ?_
        refine zt_get (pc' := 14) (v := .ref (X.1.1 + 10)) hX dX3_isHome_11 rfl zf_X3_18 (by decide) zc_7 zs_8 (zrf_of (zv_8_2 hI zc_7)) ?_
        refine zt_iload_n (pc' := 15) hX dX3_isHome_14 rfl rfl ?_
        refine zt_iald (pc' := 16) hX dX3_isHome_15 rfl (by decide) zc_10 zs_11 (by decide) ⟨by omega, by omega⟩ ?_
        generalize hv10 : σ 10 (x1.toNat) = v10
        have bv10 : 0 ≤ v10 ∧ v10 ≤ 5 := hv10 ▸ zv_11 hI zc_10 _
        refine zt_iload_n (pc' := 17) hX dX3_isHome_16 rfl rfl ?_
        refine zt_icne (pc' := 20) (tgt := 32) hX dX3_isHome_17 rfl (by decide) ⟨by omega, by omega⟩ ⟨by omega, by omega⟩ (fun c11 => ?_) (fun c11 => ?_)
        · refine zt_iinc (pc' := 35) (lv' := [some (.ref (X.1.1 + 7)), some (.int (zI a1_)), some (.int (zI a2_)), some (.int (zI (x1 + 1)))]) hX dX3_isHome_32 rfl rfl hL (by decide) rfl ?_
          refine zt_goto (tgt := 2) hX dX3_isHome_35 (by decide) ?_
          exact ih7 (x1 + 1) (by omega) (by omega) (yne_h (g := σ 10) (h := σ 11) g4 (by omega) (zv_11 hI zc_10 _) (by omega) (by omega)) (by omega)
        · refine zt_aload_n (pc' := 21) hX dX3_isHome_20 rfl rfl ?_
          refine zt_get (pc' := 24) (v := .ref (X.1.1 + 11)) hX dX3_isHome_21 rfl zf_X3_21 (by decide) zc_7 zs_8 (zrf_of (zv_8_3 hI zc_7)) ?_
          refine zt_iload_n (pc' := 25) hX dX3_isHome_24 rfl rfl ?_
          refine zt_iald (pc' := 26) hX dX3_isHome_25 rfl (by decide) zc_11 zs_12 (by decide) ⟨by omega, by omega⟩ ?_
          generalize hv12 : σ 11 (x1.toNat) = v12
          have bv12 : 0 ≤ v12 ∧ v12 ≤ 5 := hv12 ▸ zv_12 hI zc_11 _
          refine zt_iload_n (pc' := 27) hX dX3_isHome_26 rfl rfl ?_
          refine zt_icne (pc' := 30) (tgt := 32) hX dX3_isHome_27 rfl (by decide) ⟨by omega, by omega⟩ ⟨by omega, by omega⟩ (fun c13 => ?_) (fun c13 => ?_)
          · refine zt_iinc (pc' := 35) (lv' := [some (.ref (X.1.1 + 7)), some (.int (zI a1_)), some (.int (zI a2_)), some (.int (zI (x1 + 1)))]) hX dX3_isHome_32 rfl rfl hL (by decide) rfl ?_
            refine zt_goto (tgt := 2) hX dX3_isHome_35 (by decide) ?_
            exact ih7 (x1 + 1) (by omega) (by omega) (yne_h (g := σ 10) (h := σ 11) g4 (by omega) (zv_11 hI zc_10 _) (by omega) (by omega)) (by omega)
          · refine zt_iconst (pc' := 31) hX dX3_isHome_30 rfl ?_
            exact zt_zret hX hR dX3_isHome_31 ⟨by omega, by omega⟩ ⟨rfl, by omega, by omega, ⟨fun _ => rfl, fun n => absurd (yhm_1 (i := x1) (by omega) (by omega) (by omega)) n⟩⟩
  exact L_2_4 _ 0 (by omega) (by omega) (fun j h => absurd h (by omega)) (Nat.lt_succ_self _)
set_option maxRecDepth 100000 in
set_option maxHeartbeats 4000000 in
theorem yc_X3_setSides_7 (l : Launch) (E : zEN) (σ : zSto) (hI : zInv σ) (a1_ : Int) (ha1_ : 0 ≤ a1_ ∧ a1_ ≤ 6) (a2_ : Int) (ha2_ : 0 ≤ a2_ ∧ a2_ ≤ 6) : zCt l E yX3_setSides cX3_setSides 3 none 0 zNC zNC 0 0 σ [.ref (E.1 + 7), .int (zI a1_), .int (zI a2_)] (fun r σ' => zInv σ' ∧ zOn zRq7 σ σ' ∧ (yPlc σ' 7 9 10 11 = yPl.wsd (yPlc σ 7 9 10 11) a1_ a2_)) := by
  refine zCt_of2 [some (.ref (E.1 + 7)), some (.int (zI a1_)), some (.int (zI a2_))] (by decide +kernel) (Nat.le_of_ble_eq_true rfl) rfl ?_
  intro X hE_ hX hR hL hN
  subst hE_
  have hX : zok X cX3_setSides RX3 0 := hX
  have hF := zOn_rf zRq7 σ
  refine zt_aload_n (pc' := 1) hX dX3_setSides_0 rfl rfl ?_
  refine zt_iload_n (pc' := 2) hX dX3_setSides_1 rfl rfl ?_
  refine zt_put (pc' := 5) (x := a1_) hX dX3_setSides_2 rfl zf_X3_47 (by decide) zc_7 zs_8 (fun q hq => by cases hq; rfl) rfl rfl rfl ?_
  generalize hs2 : zset σ 7 10 a1_ = s1
  have hI3 : zInv s1 := hs2 ▸ zp_8_10 hI zc_7 ⟨by omega, by omega⟩
  have hF4 : zOn zRq7 σ s1 := hs2 ▸ zOn_set hF rfl
  refine zt_aload_n (pc' := 6) hX dX3_setSides_5 rfl rfl ?_
  refine zt_iload_n (pc' := 7) hX dX3_setSides_6 rfl rfl ?_
  refine zt_put (pc' := 10) (x := a2_) hX dX3_setSides_7 rfl zf_X3_51 (by decide) zc_7 zs_8 (fun q hq => by cases hq; rfl) rfl rfl rfl ?_
  generalize hs6 : zset s1 7 11 a2_ = s5
  have hI7 : zInv s5 := hs6 ▸ zp_8_11 hI3 zc_7 ⟨by omega, by omega⟩
  have hF8 : zOn zRq7 σ s5 := hs6 ▸ zOn_set hF4 rfl
  exact zt_vret hX hR dX3_setSides_10 ⟨hI7, hF8, yPlc_sd hs2 hs6 (by decide)⟩
set_option maxRecDepth 100000 in
set_option maxHeartbeats 4000000 in
theorem yc_X3_addPerson_7 (l : Launch) (E : zEN) (σ : zSto) (hI : zInv σ) (a1_ : Int) (ha1_ : -2147483648 ≤ a1_ ∧ a1_ ≤ 2147483647) (a2_ : Int) (ha2_ : 0 ≤ a2_ ∧ a2_ ≤ 5) (a3_ : Int) (ha3_ : 0 ≤ a3_ ∧ a3_ ≤ 5) (a4_ : Int) (ha4_ : 0 ≤ a4_ ∧ a4_ ≤ 99) (hpre0 : σ 7 12 < 10) : zCt l E yX3_addPerson cX3_addPerson 5 none 0 zNC zNC 0 0 σ [.ref (E.1 + 7), .int (zI a1_), .int (zI a2_), .int (zI a3_), .int (zI a4_)] (fun r σ' => zInv σ' ∧ zOn zRq7 σ σ' ∧ (yPlc σ' 7 9 10 11 = yPl.wnh (yPlc σ 7 9 10 11) ((yPlc σ 7 9 10 11).nm ++ [a1_]) ((yPlc σ 7 9 10 11).hm ++ [a2_ + 6 * a3_]))) := by
  refine zCt_of2 [some (.ref (E.1 + 7)), some (.int (zI a1_)), some (.int (zI a2_)), some (.int (zI a3_)), some (.int (zI a4_))] (by decide +kernel) (Nat.le_of_ble_eq_true rfl) rfl ?_
  intro X hE_ hX hR hL hN
  subst hE_
  have hX : zok X cX3_addPerson RX3 0 := hX
  have hF := zOn_rf zRq7 σ
  have b1 := zv_8_12 hI zc_7
  refine zt_aload_n (pc' := 1) hX dX3_addPerson_0 rfl rfl ?_
  have b2 := zv_8_12 hI zc_7
  refine zt_get (pc' := 4) (v := .int (zI (σ 7 12))) hX dX3_addPerson_1 rfl zf_X3_54 (by decide) zc_7 zs_8 rfl ?_
  refine zt_bipush (pc' := 6) hX dX3_addPerson_4 rfl (by decide) (by decide) ?_
  refine zt_icge (pc' := 9) (tgt := 60) hX dX3_addPerson_6 rfl (by decide) ⟨by omega, by omega⟩ ⟨by omega, by omega⟩ (fun c3 => ?_) (fun c3 => ?_)
  · exact zt_vret hX hR dX3_addPerson_60 ⟨hI, hF, (by exfalso; omega)⟩
  · refine zt_aload_n (pc' := 10) hX dX3_addPerson_9 rfl rfl ?_
    refine zt_get (pc' := 13) (v := .ref (X.1.1 + 9)) hX dX3_addPerson_10 rfl zf_X3_15 (by decide) zc_7 zs_8 (zrf_of (zv_8_1 hI zc_7)) ?_
    refine zt_aload_n (pc' := 14) hX dX3_addPerson_13 rfl rfl ?_
    refine zt_get (pc' := 17) (v := .int (zI (σ 7 12))) hX dX3_addPerson_14 rfl zf_X3_54 (by decide) zc_7 zs_8 rfl ?_
    refine zt_iload_n (pc' := 18) hX dX3_addPerson_17 rfl rfl ?_
    refine zt_iast (pc' := 19) hX dX3_addPerson_18 rfl (by decide) zc_9 zs_10 (by decide) ⟨by omega, by omega⟩ ?_
    generalize hs5 : zset σ 9 ((σ 7 12).toNat) a1_ = s4
    have hI6 : zInv s4 := hs5 ▸ zp_10 hI zc_9 ((σ 7 12).toNat) ⟨by omega, by omega⟩
    have hF7 : zOn zRq7 σ s4 := hs5 ▸ zOn_set hF rfl
    have e8 : s4 7 12 = σ 7 12 := by rw [← hs5]; exact zset_k (zne_r zc_7 zc_9 (by decide))
    refine zt_aload_n (pc' := 20) hX dX3_addPerson_19 rfl rfl ?_
    refine zt_get (pc' := 23) (v := .ref (X.1.1 + 10)) hX dX3_addPerson_20 rfl zf_X3_18 (by decide) zc_7 zs_8 (zrf_of (zv_8_2 hI6 zc_7)) ?_
    refine zt_aload_n (pc' := 24) hX dX3_addPerson_23 rfl rfl ?_
    have b9 := zv_8_12 hI6 zc_7
    refine zt_get (pc' := 27) (v := .int (zI (s4 7 12))) hX dX3_addPerson_24 rfl zf_X3_54 (by decide) zc_7 zs_8 rfl ?_
    refine zt_iload_n (pc' := 28) hX dX3_addPerson_27 rfl rfl ?_
    refine zt_iast (pc' := 29) hX dX3_addPerson_28 rfl (by decide) zc_10 zs_11 (by decide) ⟨by omega, by omega⟩ ?_
    generalize hs11 : zset s4 10 ((s4 7 12).toNat) a2_ = s10
    have hI12 : zInv s10 := hs11 ▸ zp_11 hI6 zc_10 ((s4 7 12).toNat) ⟨by omega, by omega⟩
    have hF13 : zOn zRq7 σ s10 := hs11 ▸ zOn_set hF7 rfl
    have e14 : s10 7 12 = s4 7 12 := by rw [← hs11]; exact zset_k (zne_r zc_7 zc_10 (by decide))
    refine zt_aload_n (pc' := 30) hX dX3_addPerson_29 rfl rfl ?_
    refine zt_get (pc' := 33) (v := .ref (X.1.1 + 11)) hX dX3_addPerson_30 rfl zf_X3_21 (by decide) zc_7 zs_8 (zrf_of (zv_8_3 hI12 zc_7)) ?_
    refine zt_aload_n (pc' := 34) hX dX3_addPerson_33 rfl rfl ?_
    have b15 := zv_8_12 hI12 zc_7
    refine zt_get (pc' := 37) (v := .int (zI (s10 7 12))) hX dX3_addPerson_34 rfl zf_X3_54 (by decide) zc_7 zs_8 rfl ?_
    refine zt_iload_n (pc' := 38) hX dX3_addPerson_37 rfl rfl ?_
    refine zt_iast (pc' := 39) hX dX3_addPerson_38 rfl (by decide) zc_11 zs_12 (by decide) ⟨by omega, by omega⟩ ?_
    generalize hs17 : zset s10 11 ((s10 7 12).toNat) a3_ = s16
    have hI18 : zInv s16 := hs17 ▸ zp_12 hI12 zc_11 ((s10 7 12).toNat) ⟨by omega, by omega⟩
    have hF19 : zOn zRq7 σ s16 := hs17 ▸ zOn_set hF13 rfl
    have e20 : s16 7 12 = s10 7 12 := by rw [← hs17]; exact zset_k (zne_r zc_7 zc_11 (by decide))
    refine zt_aload_n (pc' := 40) hX dX3_addPerson_39 rfl rfl ?_
    refine zt_get (pc' := 43) (v := .ref (X.1.1 + 12)) hX dX3_addPerson_40 rfl zf_X3_24 (by decide) zc_7 zs_8 (zrf_of (zv_8_4 hI18 zc_7)) ?_
    refine zt_aload_n (pc' := 44) hX dX3_addPerson_43 rfl rfl ?_
    have b21 := zv_8_12 hI18 zc_7
    refine zt_get (pc' := 47) (v := .int (zI (s16 7 12))) hX dX3_addPerson_44 rfl zf_X3_54 (by decide) zc_7 zs_8 rfl ?_
    refine zt_iload (pc' := 49) hX dX3_addPerson_47 rfl rfl ?_
    refine zt_iast (pc' := 50) hX dX3_addPerson_49 rfl (by decide) zc_12 zs_13 (by decide) ⟨by omega, by omega⟩ ?_
    generalize hs23 : zset s16 12 ((s16 7 12).toNat) a4_ = s22
    have hI24 : zInv s22 := hs23 ▸ zp_13 hI18 zc_12 ((s16 7 12).toNat) ⟨by omega, by omega⟩
    have hF25 : zOn zRq7 σ s22 := hs23 ▸ zOn_set hF19 rfl
    have e26 : s22 7 12 = s16 7 12 := by rw [← hs23]; exact zset_k (zne_r zc_7 zc_12 (by decide))
    refine zt_aload_n (pc' := 51) hX dX3_addPerson_50 rfl rfl ?_
    refine zt_dup (pc' := 52) hX dX3_addPerson_51 rfl rfl ?_
    have b27 := zv_8_12 hI24 zc_7
    refine zt_get (pc' := 55) (v := .int (zI (s22 7 12))) hX dX3_addPerson_52 rfl zf_X3_54 (by decide) zc_7 zs_8 rfl ?_
    refine zt_iconst (pc' := 56) hX dX3_addPerson_55 rfl ?_
    refine zt_iadd (pc' := 57) hX dX3_addPerson_56 rfl ?_
    refine zt_put (pc' := 60) (x := ((s22 7 12) + 1)) hX dX3_addPerson_57 rfl zf_X3_54 (by decide) zc_7 zs_8 (fun q hq => by cases hq; rfl) rfl rfl rfl ?_
    generalize hs29 : zset s22 7 12 ((s22 7 12) + 1) = s28
    have hI30 : zInv s28 := hs29 ▸ zp_8_12 hI24 zc_7 ⟨by omega, by omega⟩
    have hF31 : zOn zRq7 σ s28 := hs29 ▸ zOn_set hF25 rfl
    have e32 : s28 7 12 = ((s22 7 12) + 1) := by rw [← hs29]; exact zset_s
    exact zt_vret hX hR dX3_addPerson_60 ⟨hI30, hF31, yPlc_add (by omega) rfl hs5 hs11 hs17 hs23 hs29 (by omega) (by omega) (by omega) (by decide)⟩
set_option maxRecDepth 100000 in
set_option maxHeartbeats 4000000 in
theorem yc_X3_clear_7 (l : Launch) (E : zEN) (σ : zSto) (hI : zInv σ)  : zCt l E yX3_clear cX3_clear 2 none 3 zNC zNC 0 0 σ [.ref (E.1 + 7)] (fun r σ' => zInv σ' ∧ zOn zRq7 σ σ' ∧ (yPlc σ' 7 9 10 11 = yPl0)) := by
  refine zCt_of2 [some (.ref (E.1 + 7)), none] (by decide +kernel) (Nat.le_of_ble_eq_true rfl) rfl ?_
  intro X hE_ hX hR hL hN
  subst hE_
  have hX : zok X cX3_clear RX3 3 := hX
  have hF := zOn_rf zRq7 σ
  refine zt_iconst (pc' := 1) hX dX3_clear_0 rfl ?_
  refine zt_istore_n (pc' := 2) (lv' := [some (.ref (X.1.1 + 7)), some (.int (zI 0))]) hX dX3_clear_1 rfl hL (by decide) rfl ?_
  have L_2_6 : ∀ (N : Nat) (x1 : Int) (s4 : zSto), 0 ≤ x1 → x1 ≤ 36 → zInv s4 → zOn zRq7 σ s4 → ((37 - x1).toNat) < N → zF X s4 2 [some (.ref (X.1.1 + 7)), some (.int (zI x1))] [] := by
    intro N
    induction N with
    | zero =>
      intro x1 s4 h2 h3 hI5 hF6 hm8
      exact absurd hm8 (Nat.not_lt_zero _)
    | succ N ih9 =>
      intro x1 s4 h2 h3 hI5 hF6 hm8
      refine zt_iload_n (pc' := 3) hX dX3_clear_2 rfl rfl ?_
      refine zt_bipush (pc' := 5) hX dX3_clear_3 rfl (by decide) (by decide) ?_
      refine zt_icge (pc' := 8) (tgt := 21) hX dX3_clear_5 rfl (by decide) ⟨by omega, by omega⟩ ⟨by omega, by omega⟩ (fun c10 => ?_) (fun c10 => ?_)
      · refine zt_aload_n (pc' := 22) hX dX3_clear_21 rfl rfl ?_
        refine zt_get (pc' := 25) (v := .ref (X.1.1 + 13)) hX dX3_clear_22 rfl zf_X3_30 (by decide) zc_7 zs_8 (zrf_of (zv_8_5 hI5 zc_7)) ?_
        refine zt_bipush (pc' := 27) hX dX3_clear_25 rfl (by decide) (by decide) ?_
        refine zt_cVv (pc' := 30) hX dX3_clear_27 rfl zm_yX4_setStep zw_15_22 zc_13 (by decide) zs_6 (q := (RX4, TX4, 2)) rfl rfl (yc_X4_setStep _ _ s4 hI5 13 zc_13 14 ⟨by omega, by omega⟩) rfl rfl (Nat.le_of_ble_eq_true rfl) (by decide) (fun r11 s12 hr13 hp14 => ?_)
        obtain ⟨hI15, hF16⟩ := hp14
        have hF17 := zOn_tr hF6 hF16 zi_pq7
        refine zt_aload_n (pc' := 31) hX dX3_clear_30 rfl rfl ?_
        refine zt_get (pc' := 34) (v := .ref (X.1.1 + 15)) hX dX3_clear_31 rfl zf_X3_34 (by decide) zc_7 zs_8 (zrf_of (zv_8_6 hI15 zc_7)) ?_
        refine zt_bipush (pc' := 36) hX dX3_clear_34 rfl (by decide) (by decide) ?_
        refine zt_cVv (pc' := 39) hX dX3_clear_36 rfl zm_yX4_setStep zw_15_22 zc_15 (by decide) zs_6 (q := (RX4, TX4, 2)) rfl rfl (yc_X4_setStep _ _ s12 hI15 15 zc_15 24 ⟨by omega, by omega⟩) rfl rfl (Nat.le_of_ble_eq_true rfl) (by decide) (fun r18 s19 hr20 hp21 => ?_)
        obtain ⟨hI22, hF23⟩ := hp21
        have hF24 := zOn_tr hF17 hF23 zi_pq7
        refine zt_aload_n (pc' := 40) hX dX3_clear_39 rfl rfl ?_
        refine zt_iconst (pc' := 41) hX dX3_clear_40 rfl ?_
        refine zt_put (pc' := 44) (x := 0) hX dX3_clear_41 rfl zf_X3_37 (by decide) zc_7 zs_8 (fun q hq => by cases hq; rfl) rfl (zfit_z (by omega) (by omega)).1 (zfit_z (by omega) (by omega)).2 ?_
        generalize hs26 : zset s19 7 7 0 = s25
        have hI27 : zInv s25 := hs26 ▸ zp_8_7 hI22 zc_7 ⟨by omega, by omega⟩
        have hF28 : zOn zRq7 σ s25 := hs26 ▸ zOn_set hF24 rfl
        refine zt_aload_n (pc' := 45) hX dX3_clear_44 rfl rfl ?_
        refine zt_iconst (pc' := 46) hX dX3_clear_45 rfl ?_
        refine zt_put (pc' := 49) (x := 0) hX dX3_clear_46 rfl zf_X3_41 (by decide) zc_7 zs_8 (fun q hq => by cases hq; rfl) rfl (zfit_z (by omega) (by omega)).1 (zfit_z (by omega) (by omega)).2 ?_
        generalize hs30 : zset s25 7 8 0 = s29
        have hI31 : zInv s29 := hs30 ▸ zp_8_8 hI27 zc_7 ⟨by omega, by omega⟩
        have hF32 : zOn zRq7 σ s29 := hs30 ▸ zOn_set hF28 rfl
        refine zt_aload_n (pc' := 50) hX dX3_clear_49 rfl rfl ?_
        refine zt_iconst (pc' := 51) hX dX3_clear_50 rfl ?_
        refine zt_put (pc' := 54) (x := 0) hX dX3_clear_51 rfl zf_X3_44 (by decide) zc_7 zs_8 (fun q hq => by cases hq; rfl) rfl (zfit_z (by omega) (by omega)).1 (zfit_z (by omega) (by omega)).2 ?_
        generalize hs34 : zset s29 7 9 0 = s33
        have hI35 : zInv s33 := hs34 ▸ zp_8_9 hI31 zc_7 ⟨by omega, by omega⟩
        have hF36 : zOn zRq7 σ s33 := hs34 ▸ zOn_set hF32 rfl
        refine zt_aload_n (pc' := 55) hX dX3_clear_54 rfl rfl ?_
        refine zt_iconst (pc' := 56) hX dX3_clear_55 rfl ?_
        refine zt_put (pc' := 59) (x := 0) hX dX3_clear_56 rfl zf_X3_47 (by decide) zc_7 zs_8 (fun q hq => by cases hq; rfl) rfl rfl rfl ?_
        generalize hs38 : zset s33 7 10 0 = s37
        have hI39 : zInv s37 := hs38 ▸ zp_8_10 hI35 zc_7 ⟨by omega, by omega⟩
        have hF40 : zOn zRq7 σ s37 := hs38 ▸ zOn_set hF36 rfl
        refine zt_aload_n (pc' := 60) hX dX3_clear_59 rfl rfl ?_
        refine zt_iconst (pc' := 61) hX dX3_clear_60 rfl ?_
        refine zt_put (pc' := 64) (x := 0) hX dX3_clear_61 rfl zf_X3_51 (by decide) zc_7 zs_8 (fun q hq => by cases hq; rfl) rfl rfl rfl ?_
        generalize hs42 : zset s37 7 11 0 = s41
        have hI43 : zInv s41 := hs42 ▸ zp_8_11 hI39 zc_7 ⟨by omega, by omega⟩
        have hF44 : zOn zRq7 σ s41 := hs42 ▸ zOn_set hF40 rfl
        refine zt_aload_n (pc' := 65) hX dX3_clear_64 rfl rfl ?_
        refine zt_iconst (pc' := 66) hX dX3_clear_65 rfl ?_
        refine zt_put (pc' := 69) (x := 0) hX dX3_clear_66 rfl zf_X3_54 (by decide) zc_7 zs_8 (fun q hq => by cases hq; rfl) rfl rfl rfl ?_
        generalize hs46 : zset s41 7 12 0 = s45
        have hI47 : zInv s45 := hs46 ▸ zp_8_12 hI43 zc_7 ⟨by omega, by omega⟩
        have hF48 : zOn zRq7 σ s45 := hs46 ▸ zOn_set hF44 rfl
        refine zt_aload_n (pc' := 70) hX dX3_clear_69 rfl rfl ?_
        refine zt_iconst (pc' := 71) hX dX3_clear_70 rfl ?_
        refine zt_put (pc' := 74) (x := 0) hX dX3_clear_71 rfl zf_X3_57 (by decide) zc_7 zs_8 (fun q hq => by cases hq; rfl) rfl rfl rfl ?_
        generalize hs50 : zset s45 7 13 0 = s49
        have hI51 : zInv s49 := hs50 ▸ zp_8_13 hI47 zc_7 ⟨by omega, by omega⟩
        have hF52 : zOn zRq7 σ s49 := hs50 ▸ zOn_set hF48 rfl
        refine zt_aload_n (pc' := 75) hX dX3_clear_74 rfl rfl ?_
        refine zt_iconst (pc' := 76) hX dX3_clear_75 rfl ?_
        refine zt_put (pc' := 79) (x := 3) hX dX3_clear_76 rfl zf_X3_60 (by decide) zc_7 zs_8 (fun q hq => by cases hq; rfl) rfl rfl rfl ?_
        generalize hs54 : zset s49 7 14 3 = s53
        have hI55 : zInv s53 := hs54 ▸ zp_8_14 hI51 zc_7 ⟨by omega, by omega⟩
        have hF56 : zOn zRq7 σ s53 := hs54 ▸ zOn_set hF52 rfl
        refine zt_aload_n (pc' := 80) hX dX3_clear_79 rfl rfl ?_
        refine zt_bipush (pc' := 82) hX dX3_clear_80 rfl (by decide) (by decide) ?_
        refine zt_put (pc' := 85) (x := 20) hX dX3_clear_82 rfl zf_X3_63 (by decide) zc_7 zs_8 (fun q hq => by cases hq; rfl) rfl rfl rfl ?_
        generalize hs58 : zset s53 7 15 20 = s57
        have hI59 : zInv s57 := hs58 ▸ zp_8_15 hI55 zc_7 ⟨by omega, by omega⟩
        have hF60 : zOn zRq7 σ s57 := hs58 ▸ zOn_set hF56 rfl
        refine zt_aload_n (pc' := 86) hX dX3_clear_85 rfl rfl ?_
        refine zt_iconst (pc' := 87) hX dX3_clear_86 rfl ?_
        refine zt_put (pc' := 90) (x := 0) hX dX3_clear_87 rfl zf_X3_66 (by decide) zc_7 zs_8 (fun q hq => by cases hq; rfl) rfl rfl rfl ?_
        generalize hs62 : zset s57 7 16 0 = s61
        have hI63 : zInv s61 := hs62 ▸ zp_8_16 hI59 zc_7 ⟨by omega, by omega⟩
        have hF64 : zOn zRq7 σ s61 := hs62 ▸ zOn_set hF60 rfl
        have e65 : s61 7 7 = s57 7 7 := by rw [← hs62]; exact zset_j (by decide)
        have e66 : s57 7 7 = s53 7 7 := by rw [← hs58]; exact zset_j (by decide)
        have e67 : s53 7 7 = s49 7 7 := by rw [← hs54]; exact zset_j (by decide)
        have e68 : s49 7 7 = s45 7 7 := by rw [← hs50]; exact zset_j (by decide)
        have e69 : s45 7 7 = s41 7 7 := by rw [← hs46]; exact zset_j (by decide)
        have e70 : s41 7 7 = s37 7 7 := by rw [← hs42]; exact zset_j (by decide)
        have e71 : s37 7 7 = s33 7 7 := by rw [← hs38]; exact zset_j (by decide)
        have e72 : s33 7 7 = s29 7 7 := by rw [← hs34]; exact zset_j (by decide)
        have e73 : s29 7 7 = s25 7 7 := by rw [← hs30]; exact zset_j (by decide)
        have e74 : s25 7 7 = 0 := by rw [← hs26]; exact zset_s
        have e75 : s61 7 8 = s57 7 8 := by rw [← hs62]; exact zset_j (by decide)
        have e76 : s57 7 8 = s53 7 8 := by rw [← hs58]; exact zset_j (by decide)
        have e77 : s53 7 8 = s49 7 8 := by rw [← hs54]; exact zset_j (by decide)
        have e78 : s49 7 8 = s45 7 8 := by rw [← hs50]; exact zset_j (by decide)
        have e79 : s45 7 8 = s41 7 8 := by rw [← hs46]; exact zset_j (by decide)
        have e80 : s41 7 8 = s37 7 8 := by rw [← hs42]; exact zset_j (by decide)
        have e81 : s37 7 8 = s33 7 8 := by rw [← hs38]; exact zset_j (by decide)
        have e82 : s33 7 8 = s29 7 8 := by rw [← hs34]; exact zset_j (by decide)
        have e83 : s29 7 8 = 0 := by rw [← hs30]; exact zset_s
        have e84 : s61 7 10 = s57 7 10 := by rw [← hs62]; exact zset_j (by decide)
        have e85 : s57 7 10 = s53 7 10 := by rw [← hs58]; exact zset_j (by decide)
        have e86 : s53 7 10 = s49 7 10 := by rw [← hs54]; exact zset_j (by decide)
        have e87 : s49 7 10 = s45 7 10 := by rw [← hs50]; exact zset_j (by decide)
        have e88 : s45 7 10 = s41 7 10 := by rw [← hs46]; exact zset_j (by decide)
        have e89 : s41 7 10 = s37 7 10 := by rw [← hs42]; exact zset_j (by decide)
        have e90 : s37 7 10 = 0 := by rw [← hs38]; exact zset_s
        have e91 : s61 7 11 = s57 7 11 := by rw [← hs62]; exact zset_j (by decide)
        have e92 : s57 7 11 = s53 7 11 := by rw [← hs58]; exact zset_j (by decide)
        have e93 : s53 7 11 = s49 7 11 := by rw [← hs54]; exact zset_j (by decide)
        have e94 : s49 7 11 = s45 7 11 := by rw [← hs50]; exact zset_j (by decide)
        have e95 : s45 7 11 = s41 7 11 := by rw [← hs46]; exact zset_j (by decide)
        have e96 : s41 7 11 = 0 := by rw [← hs42]; exact zset_s
        have e97 : s61 7 12 = s57 7 12 := by rw [← hs62]; exact zset_j (by decide)
        have e98 : s57 7 12 = s53 7 12 := by rw [← hs58]; exact zset_j (by decide)
        have e99 : s53 7 12 = s49 7 12 := by rw [← hs54]; exact zset_j (by decide)
        have e100 : s49 7 12 = s45 7 12 := by rw [← hs50]; exact zset_j (by decide)
        have e101 : s45 7 12 = 0 := by rw [← hs46]; exact zset_s
        exact zt_vret hX hR dX3_clear_90 ⟨hI63, hF64, yPlc_0 (by omega) (by omega) (by omega) (by omega) (by omega)⟩
      · refine zt_aload_n (pc' := 9) hX dX3_clear_8 rfl rfl ?_
        refine zt_get (pc' := 12) (v := .ref (X.1.1 + 8)) hX dX3_clear_9 rfl zf_X3_9 (by decide) zc_7 zs_8 (zrf_of (zv_8_0 hI5 zc_7)) ?_
        refine zt_iload_n (pc' := 13) hX dX3_clear_12 rfl rfl ?_
        refine zt_iconst (pc' := 14) hX dX3_clear_13 rfl ?_
        refine zt_iast (pc' := 15) hX dX3_clear_14 rfl (by decide) zc_8 zs_9 (by decide) ⟨by omega, by omega⟩ ?_
        generalize hs103 : zset s4 8 (x1.toNat) 1 = s102
        have hI104 : zInv s102 := hs103 ▸ zp_9 hI5 zc_8 (x1.toNat) ⟨by omega, by omega⟩
        have hF105 : zOn zRq7 σ s102 := hs103 ▸ zOn_set hF6 rfl
        refine zt_iinc (pc' := 18) (lv' := [some (.ref (X.1.1 + 7)), some (.int (zI (x1 + 1)))]) hX dX3_clear_15 rfl rfl hL (by decide) rfl ?_
        refine zt_goto (tgt := 2) hX dX3_clear_18 (by decide) ?_
        exact ih9 (x1 + 1) s102 (by omega) (by omega) hI104 hF105 (by omega)
  exact L_2_6 _ 0 σ (by omega) (by omega) hI hF (Nat.lt_succ_self _)
set_option maxRecDepth 100000 in
set_option maxHeartbeats 4000000 in
theorem yc_X8_takeName_7 (l : Launch) (E : zEN) (σ : zSto) (hI : zInv σ) (hpre0 : σ 34 2 = 7) (f : Int → Int) (hT : yTk f σ) : zCt l E yX8_takeName cX8_takeName 4 (some .int) 1 zNC zNC 0 0 σ [.ref (E.1 + 34)] (fun r σ' => zInv σ' ∧ zOn zR1 σ σ' ∧ -2147483648 ≤ r ∧ r ≤ 2147483647 ∧ yTk f σ' ∧ ((yst σ') = yNam f (yPlc σ 7 9 10 11) (yst σ)) ∧ (yPo (yst σ') = 1 → r = yPc f (yst σ))) := by
  refine zCt_of2 [some (.ref (E.1 + 34)), none, none, none] (by decide +kernel) (Nat.le_of_ble_eq_true rfl) rfl ?_
  intro X hE_ hX hR hL hN
  subst hE_
  have hX : zok X cX8_takeName RX8 1 := hX
  have hF := zOn_rf zR1 σ
  have hE0 : yst σ = yst σ := rfl
  have hh := yHere hT
  obtain ⟨hh1, hh2, hh3, hh4, hh5⟩ := hh
  have hh6 := yHere2 hT
  have b1 := zv_8_10 hI zc_7
  have b2 := zv_8_11 hI zc_7
  refine zt_aload_n (pc' := 1) hX dX8_takeName_0 rfl rfl ?_
  refine zt_get (pc' := 4) (v := .ref (X.1.1 + 27)) hX dX8_takeName_1 rfl zf_X8_9 (by decide) zc_34 zs_21 (zrf_of (zv_21_0 hI zc_34)) ?_
  refine zt_cVi (pc' := 7) hX dX8_takeName_4 rfl zm_yX5_kindHere zw_20_18 zc_27 (by decide) zs_14 (q := (RX5, TX5, 9)) rfl rfl (yc_X5_kindHere _ _ σ hI f hT) rfl rfl (Nat.le_of_ble_eq_true rfl) (by decide) (fun r3 s4 hr5 hp6 => ?_)
  obtain ⟨rfl, q7, q8, z9⟩ := hp6
  refine zt_istore_n (pc' := 8) (lv' := [some (.ref (X.1.1 + 34)), some (.int (zI r3)), none, none]) hX dX8_takeName_7 rfl hL (by decide) rfl ?_
  refine zt_aload_n (pc' := 9) hX dX8_takeName_8 rfl rfl ?_
  refine zt_get (pc' := 12) (v := .ref (X.1.1 + 27)) hX dX8_takeName_9 rfl zf_X8_9 (by decide) zc_34 zs_21 (zrf_of (zv_21_0 hI zc_34)) ?_
  refine zt_get (pc' := 15) (v := .ref (X.1.1 + 31)) hX dX8_takeName_12 rfl zf_X8_127 (by decide) zc_27 zs_14 (zrf_of (zv_14_3 hI zc_27)) ?_
  refine zt_aload_n (pc' := 16) hX dX8_takeName_15 rfl rfl ?_
  refine zt_get (pc' := 19) (v := .ref (X.1.1 + 27)) hX dX8_takeName_16 rfl zf_X8_9 (by decide) zc_34 zs_21 (zrf_of (zv_21_0 hI zc_34)) ?_
  have b10 := zv_14_6 hI zc_27
  refine zt_get (pc' := 22) (v := .int (zI (σ 27 6))) hX dX8_takeName_19 rfl zf_X8_130 (by decide) zc_27 zs_14 rfl ?_
  refine zt_iald (pc' := 23) hX dX8_takeName_22 rfl (by decide) zc_31 zs_18 (by decide) ⟨by omega, by omega⟩ ?_
  generalize hv11 : σ 31 ((σ 27 6).toNat) = v11
  have bv11 : -2147483648 ≤ v11 ∧ v11 ≤ 2147483647 := hv11 ▸ zv_18 hI zc_31 _
  refine zt_istore_n (pc' := 24) (lv' := [some (.ref (X.1.1 + 34)), some (.int (zI r3)), some (.int (zI v11)), none]) hX dX8_takeName_23 rfl hL (by decide) rfl ?_
  refine zt_aload_n (pc' := 25) hX dX8_takeName_24 rfl rfl ?_
  refine zt_get (pc' := 28) (v := .ref (X.1.1 + 27)) hX dX8_takeName_25 rfl zf_X8_9 (by decide) zc_34 zs_21 (zrf_of (zv_21_0 hI zc_34)) ?_
  refine zt_cVi (pc' := 31) hX dX8_takeName_28 rfl zm_yX5_wordHere zw_19_13 zc_27 (by decide) zs_14 (q := (RX5, TX5, 9)) rfl rfl (yc_X5_wordHere _ _ σ hI f hT) rfl rfl (Nat.le_of_ble_eq_true rfl) (by decide) (fun r12 s13 hr14 hp15 => ?_)
  obtain ⟨rfl, q16, q17, z18⟩ := hp15
  refine zt_istore_n (pc' := 32) (lv' := [some (.ref (X.1.1 + 34)), some (.int (zI r3)), some (.int (zI v11)), some (.int (zI r12))]) hX dX8_takeName_31 rfl hL (by decide) rfl ?_
  refine zt_iload_n (pc' := 33) hX dX8_takeName_32 rfl rfl ?_
  refine zt_iconst (pc' := 34) hX dX8_takeName_33 rfl ?_
  refine zt_icne (pc' := 37) (tgt := 58) hX dX8_takeName_34 rfl (by decide) ⟨by omega, by omega⟩ ⟨by omega, by omega⟩ (fun c19 => ?_) (fun c19 => ?_)
  · refine zt_iload_n (pc' := 59) hX dX8_takeName_58 rfl rfl ?_
    refine zt_iconst (pc' := 60) hX dX8_takeName_59 rfl ?_
    refine zt_icne (pc' := 63) (tgt := 73) hX dX8_takeName_60 rfl (by decide) ⟨by omega, by omega⟩ ⟨by omega, by omega⟩ (fun c20 => ?_) (fun c20 => ?_)
    · refine zt_aload_n (pc' := 74) hX dX8_takeName_73 rfl rfl ?_
      refine zt_get (pc' := 77) (v := .ref (X.1.1 + 27)) hX dX8_takeName_74 rfl zf_X8_9 (by decide) zc_34 zs_21 (zrf_of (zv_21_0 hI zc_34)) ?_
      refine zt_iconst (pc' := 78) hX dX8_takeName_77 rfl ?_
      refine zt_aload_n (pc' := 79) hX dX8_takeName_78 rfl rfl ?_
      refine zt_get (pc' := 82) (v := .ref (X.1.1 + 27)) hX dX8_takeName_79 rfl zf_X8_9 (by decide) zc_34 zs_21 (zrf_of (zv_21_0 hI zc_34)) ?_
      refine zt_cVi (pc' := 85) hX dX8_takeName_82 rfl zm_yX5_placeHere zw_20_7 zc_27 (by decide) zs_14 (q := (RX5, TX5, 9)) rfl rfl (yc_X5_placeHere _ _ σ hI f hT) rfl rfl (Nat.le_of_ble_eq_true rfl) (by decide) (fun r21 s22 hr23 hp24 => ?_)
      obtain ⟨rfl, q25, q26, z27⟩ := hp24
      refine zt_cVv (pc' := 88) hX dX8_takeName_85 rfl zm_yX5_refuse zw_20_11 zc_27 (by decide) zs_14 (q := (RX5, TX5, 9)) rfl rfl (yc_X5_refuse _ _ σ hI 1 ⟨by omega, by omega⟩ r21 ⟨by omega, by omega⟩ (by omega) f hT) rfl rfl (Nat.le_of_ble_eq_true rfl) (by decide) (fun r28 s29 hr30 hp31 => ?_)
      obtain ⟨hI32, hF33, hT34, z35⟩ := hp31
      have hE36 : yst s29 = yPno 1 r21 (yst σ) := z35
      have hF37 := zOn_tr hF hF33 zi_id
      have b38 := zv_8_10 hI32 zc_7
      have b39 := zv_8_11 hI32 zc_7
      have e40 := hF33 34 2 rfl
      have e41 := hF33 7 10 rfl
      have e42 := hF33 7 11 rfl
      refine zt_goto (tgt := 127) hX dX8_takeName_88 (by decide) ?_
      refine zt_iload_n (pc' := 128) hX dX8_takeName_127 rfl rfl ?_
      exact zt_iret hX hR dX8_takeName_128 ⟨by omega, by omega⟩ ⟨hI32, hF37, by omega, by omega, hT34, hE36.trans (yNam_1 (by omega) (by omega) (fun o => by omega)), fun o => by rw [hE36, yPo_no] at o; exact absurd o (by decide)⟩
    · refine zt_iload_n (pc' := 64) hX dX8_takeName_63 rfl rfl ?_
      refine zt_iflt (pc' := 67) (tgt := 91) hX dX8_takeName_64 rfl (by decide) ⟨by omega, by omega⟩ (fun c43 => ?_) (fun c43 => ?_)
      · refine zt_aload_n (pc' := 92) hX dX8_takeName_91 rfl rfl ?_
        have ek44 : σ 34 2 = ((7 : Nat) : Int) := by omega
        refine zt_get (pc' := 95) (v := .ref (X.1.1 + 7)) hX dX8_takeName_92 rfl zf_X8_19 (by decide) zc_34 zs_21 (zrf_of ek44) ?_
        refine zt_iload_n (pc' := 96) hX dX8_takeName_95 rfl rfl ?_
        refine zt_cVz (pc' := 99) hX dX8_takeName_96 rfl zm_yX3_isNamed zw_20_19 zc_7 (by decide) zs_8 (q := (RX3, TX3, 17)) rfl rfl (yc_X3_isNamed_7 _ _ σ hI v11 ⟨by omega, by omega⟩) rfl rfl (Nat.le_of_ble_eq_true rfl) (by decide) (fun r45 s46 hr47 hp48 => ?_)
        obtain ⟨rfl, q49, q50, z51⟩ := hp48
        refine zt_ifeq (pc' := 102) (tgt := 120) hX dX8_takeName_99 rfl (by decide) ⟨by omega, by omega⟩ (fun c52 => ?_) (fun c52 => ?_)
        · refine zt_aload_n (pc' := 121) hX dX8_takeName_120 rfl rfl ?_
          refine zt_get (pc' := 124) (v := .ref (X.1.1 + 27)) hX dX8_takeName_121 rfl zf_X8_9 (by decide) zc_34 zs_21 (zrf_of (zv_21_0 hI zc_34)) ?_
          refine zt_cVv (pc' := 127) hX dX8_takeName_124 rfl zm_yX5_step zw_19_21 zc_27 (by decide) zs_14 (q := (RX5, TX5, 9)) rfl rfl (yc_X5_step _ _ σ hI f hT) rfl rfl (Nat.le_of_ble_eq_true rfl) (by decide) (fun r53 s54 hr55 hp56 => ?_)
          obtain ⟨hI57, hF58, hT59, z60⟩ := hp56
          have hE61 : yst s54 = yPx f (yst σ) := z60
          have hF62 := zOn_tr hF hF58 zi_id
          have b63 := zv_8_10 hI57 zc_7
          have b64 := zv_8_11 hI57 zc_7
          have e65 := hF58 34 2 rfl
          have e66 := hF58 7 10 rfl
          have e67 := hF58 7 11 rfl
          refine zt_iload_n (pc' := 128) hX dX8_takeName_127 rfl rfl ?_
          have hvc : v11 = yPc f (yst σ) := by omega
          rw [hvc] at z51
          exact zt_iret hX hR dX8_takeName_128 ⟨by omega, by omega⟩ ⟨hI57, hF62, by omega, by omega, hT59, hE61.trans (yNam_0 (by omega) (by omega) (fun m => absurd (z51.1 m) (by omega))), fun o => by omega⟩
        · refine zt_aload_n (pc' := 103) hX dX8_takeName_102 rfl rfl ?_
          refine zt_get (pc' := 106) (v := .ref (X.1.1 + 27)) hX dX8_takeName_103 rfl zf_X8_9 (by decide) zc_34 zs_21 (zrf_of (zv_21_0 hI zc_34)) ?_
          refine zt_iconst (pc' := 107) hX dX8_takeName_106 rfl ?_
          refine zt_aload_n (pc' := 108) hX dX8_takeName_107 rfl rfl ?_
          refine zt_get (pc' := 111) (v := .ref (X.1.1 + 27)) hX dX8_takeName_108 rfl zf_X8_9 (by decide) zc_34 zs_21 (zrf_of (zv_21_0 hI zc_34)) ?_
          refine zt_cVi (pc' := 114) hX dX8_takeName_111 rfl zm_yX5_placeHere zw_20_7 zc_27 (by decide) zs_14 (q := (RX5, TX5, 9)) rfl rfl (yc_X5_placeHere _ _ σ hI f hT) rfl rfl (Nat.le_of_ble_eq_true rfl) (by decide) (fun r68 s69 hr70 hp71 => ?_)
          obtain ⟨rfl, q72, q73, z74⟩ := hp71
          refine zt_cVv (pc' := 117) hX dX8_takeName_114 rfl zm_yX5_refuse zw_20_11 zc_27 (by decide) zs_14 (q := (RX5, TX5, 9)) rfl rfl (yc_X5_refuse _ _ σ hI 3 ⟨by omega, by omega⟩ r68 ⟨by omega, by omega⟩ (by omega) f hT) rfl rfl (Nat.le_of_ble_eq_true rfl) (by decide) (fun r75 s76 hr77 hp78 => ?_)
          obtain ⟨hI79, hF80, hT81, z82⟩ := hp78
          have hE83 : yst s76 = yPno 3 r68 (yst σ) := z82
          have hF84 := zOn_tr hF hF80 zi_id
          have b85 := zv_8_10 hI79 zc_7
          have b86 := zv_8_11 hI79 zc_7
          have e87 := hF80 34 2 rfl
          have e88 := hF80 7 10 rfl
          have e89 := hF80 7 11 rfl
          refine zt_goto (tgt := 127) hX dX8_takeName_117 (by decide) ?_
          refine zt_iload_n (pc' := 128) hX dX8_takeName_127 rfl rfl ?_
          have hvc : v11 = yPc f (yst σ) := by omega
          rw [hvc] at z51
          exact zt_iret hX hR dX8_takeName_128 ⟨by omega, by omega⟩ ⟨hI79, hF84, by omega, by omega, hT81, hE83.trans (yNam_3 (by omega) (by omega) (Decidable.byContradiction (fun m => absurd (z51.2 m) (by omega))) (fun o => by omega)), fun o => by rw [hE83, yPo_no] at o; exact absurd o (by decide)⟩
      · refine zt_iload_n (pc' := 68) hX dX8_takeName_67 rfl rfl ?_
        refine zt_bipush (pc' := 70) hX dX8_takeName_68 rfl (by decide) (by decide) ?_
        refine zt_icge (pc' := 73) (tgt := 91) hX dX8_takeName_70 rfl (by decide) ⟨by omega, by omega⟩ ⟨by omega, by omega⟩ (fun c90 => ?_) (fun c90 => ?_)
        · refine zt_aload_n (pc' := 92) hX dX8_takeName_91 rfl rfl ?_
          have ek91 : σ 34 2 = ((7 : Nat) : Int) := by omega
          refine zt_get (pc' := 95) (v := .ref (X.1.1 + 7)) hX dX8_takeName_92 rfl zf_X8_19 (by decide) zc_34 zs_21 (zrf_of ek91) ?_
          refine zt_iload_n (pc' := 96) hX dX8_takeName_95 rfl rfl ?_
          refine zt_cVz (pc' := 99) hX dX8_takeName_96 rfl zm_yX3_isNamed zw_20_19 zc_7 (by decide) zs_8 (q := (RX3, TX3, 17)) rfl rfl (yc_X3_isNamed_7 _ _ σ hI v11 ⟨by omega, by omega⟩) rfl rfl (Nat.le_of_ble_eq_true rfl) (by decide) (fun r92 s93 hr94 hp95 => ?_)
          obtain ⟨rfl, q96, q97, z98⟩ := hp95
          refine zt_ifeq (pc' := 102) (tgt := 120) hX dX8_takeName_99 rfl (by decide) ⟨by omega, by omega⟩ (fun c99 => ?_) (fun c99 => ?_)
          · refine zt_aload_n (pc' := 121) hX dX8_takeName_120 rfl rfl ?_
            refine zt_get (pc' := 124) (v := .ref (X.1.1 + 27)) hX dX8_takeName_121 rfl zf_X8_9 (by decide) zc_34 zs_21 (zrf_of (zv_21_0 hI zc_34)) ?_
            refine zt_cVv (pc' := 127) hX dX8_takeName_124 rfl zm_yX5_step zw_19_21 zc_27 (by decide) zs_14 (q := (RX5, TX5, 9)) rfl rfl (yc_X5_step _ _ σ hI f hT) rfl rfl (Nat.le_of_ble_eq_true rfl) (by decide) (fun r100 s101 hr102 hp103 => ?_)
            obtain ⟨hI104, hF105, hT106, z107⟩ := hp103
            have hE108 : yst s101 = yPx f (yst σ) := z107
            have hF109 := zOn_tr hF hF105 zi_id
            have b110 := zv_8_10 hI104 zc_7
            have b111 := zv_8_11 hI104 zc_7
            have e112 := hF105 34 2 rfl
            have e113 := hF105 7 10 rfl
            have e114 := hF105 7 11 rfl
            refine zt_iload_n (pc' := 128) hX dX8_takeName_127 rfl rfl ?_
            have hvc : v11 = yPc f (yst σ) := by omega
            rw [hvc] at z98
            exact zt_iret hX hR dX8_takeName_128 ⟨by omega, by omega⟩ ⟨hI104, hF109, by omega, by omega, hT106, hE108.trans (yNam_0 (by omega) (by omega) (fun m => absurd (z98.1 m) (by omega))), fun o => by omega⟩
          · refine zt_aload_n (pc' := 103) hX dX8_takeName_102 rfl rfl ?_
            refine zt_get (pc' := 106) (v := .ref (X.1.1 + 27)) hX dX8_takeName_103 rfl zf_X8_9 (by decide) zc_34 zs_21 (zrf_of (zv_21_0 hI zc_34)) ?_
            refine zt_iconst (pc' := 107) hX dX8_takeName_106 rfl ?_
            refine zt_aload_n (pc' := 108) hX dX8_takeName_107 rfl rfl ?_
            refine zt_get (pc' := 111) (v := .ref (X.1.1 + 27)) hX dX8_takeName_108 rfl zf_X8_9 (by decide) zc_34 zs_21 (zrf_of (zv_21_0 hI zc_34)) ?_
            refine zt_cVi (pc' := 114) hX dX8_takeName_111 rfl zm_yX5_placeHere zw_20_7 zc_27 (by decide) zs_14 (q := (RX5, TX5, 9)) rfl rfl (yc_X5_placeHere _ _ σ hI f hT) rfl rfl (Nat.le_of_ble_eq_true rfl) (by decide) (fun r115 s116 hr117 hp118 => ?_)
            obtain ⟨rfl, q119, q120, z121⟩ := hp118
            refine zt_cVv (pc' := 117) hX dX8_takeName_114 rfl zm_yX5_refuse zw_20_11 zc_27 (by decide) zs_14 (q := (RX5, TX5, 9)) rfl rfl (yc_X5_refuse _ _ σ hI 3 ⟨by omega, by omega⟩ r115 ⟨by omega, by omega⟩ (by omega) f hT) rfl rfl (Nat.le_of_ble_eq_true rfl) (by decide) (fun r122 s123 hr124 hp125 => ?_)
            obtain ⟨hI126, hF127, hT128, z129⟩ := hp125
            have hE130 : yst s123 = yPno 3 r115 (yst σ) := z129
            have hF131 := zOn_tr hF hF127 zi_id
            have b132 := zv_8_10 hI126 zc_7
            have b133 := zv_8_11 hI126 zc_7
            have e134 := hF127 34 2 rfl
            have e135 := hF127 7 10 rfl
            have e136 := hF127 7 11 rfl
            refine zt_goto (tgt := 127) hX dX8_takeName_117 (by decide) ?_
            refine zt_iload_n (pc' := 128) hX dX8_takeName_127 rfl rfl ?_
            have hvc : v11 = yPc f (yst σ) := by omega
            rw [hvc] at z98
            exact zt_iret hX hR dX8_takeName_128 ⟨by omega, by omega⟩ ⟨hI126, hF131, by omega, by omega, hT128, hE130.trans (yNam_3 (by omega) (by omega) (Decidable.byContradiction (fun m => absurd (z98.2 m) (by omega))) (fun o => by omega)), fun o => by rw [hE130, yPo_no] at o; exact absurd o (by decide)⟩
        · refine zt_aload_n (pc' := 74) hX dX8_takeName_73 rfl rfl ?_
          refine zt_get (pc' := 77) (v := .ref (X.1.1 + 27)) hX dX8_takeName_74 rfl zf_X8_9 (by decide) zc_34 zs_21 (zrf_of (zv_21_0 hI zc_34)) ?_
          refine zt_iconst (pc' := 78) hX dX8_takeName_77 rfl ?_
          refine zt_aload_n (pc' := 79) hX dX8_takeName_78 rfl rfl ?_
          refine zt_get (pc' := 82) (v := .ref (X.1.1 + 27)) hX dX8_takeName_79 rfl zf_X8_9 (by decide) zc_34 zs_21 (zrf_of (zv_21_0 hI zc_34)) ?_
          refine zt_cVi (pc' := 85) hX dX8_takeName_82 rfl zm_yX5_placeHere zw_20_7 zc_27 (by decide) zs_14 (q := (RX5, TX5, 9)) rfl rfl (yc_X5_placeHere _ _ σ hI f hT) rfl rfl (Nat.le_of_ble_eq_true rfl) (by decide) (fun r137 s138 hr139 hp140 => ?_)
          obtain ⟨rfl, q141, q142, z143⟩ := hp140
          refine zt_cVv (pc' := 88) hX dX8_takeName_85 rfl zm_yX5_refuse zw_20_11 zc_27 (by decide) zs_14 (q := (RX5, TX5, 9)) rfl rfl (yc_X5_refuse _ _ σ hI 1 ⟨by omega, by omega⟩ r137 ⟨by omega, by omega⟩ (by omega) f hT) rfl rfl (Nat.le_of_ble_eq_true rfl) (by decide) (fun r144 s145 hr146 hp147 => ?_)
          obtain ⟨hI148, hF149, hT150, z151⟩ := hp147
          have hE152 : yst s145 = yPno 1 r137 (yst σ) := z151
          have hF153 := zOn_tr hF hF149 zi_id
          have b154 := zv_8_10 hI148 zc_7
          have b155 := zv_8_11 hI148 zc_7
          have e156 := hF149 34 2 rfl
          have e157 := hF149 7 10 rfl
          have e158 := hF149 7 11 rfl
          refine zt_goto (tgt := 127) hX dX8_takeName_88 (by decide) ?_
          refine zt_iload_n (pc' := 128) hX dX8_takeName_127 rfl rfl ?_
          exact zt_iret hX hR dX8_takeName_128 ⟨by omega, by omega⟩ ⟨hI148, hF153, by omega, by omega, hT150, hE152.trans (yNam_1 (by omega) (by omega) (fun o => by omega)), fun o => by rw [hE152, yPo_no] at o; exact absurd o (by decide)⟩
  · refine zt_aload_n (pc' := 38) hX dX8_takeName_37 rfl rfl ?_
    refine zt_get (pc' := 41) (v := .ref (X.1.1 + 27)) hX dX8_takeName_38 rfl zf_X8_9 (by decide) zc_34 zs_21 (zrf_of (zv_21_0 hI zc_34)) ?_
    refine zt_iconst (pc' := 42) hX dX8_takeName_41 rfl ?_
    refine zt_aload_n (pc' := 43) hX dX8_takeName_42 rfl rfl ?_
    refine zt_get (pc' := 46) (v := .ref (X.1.1 + 27)) hX dX8_takeName_43 rfl zf_X8_9 (by decide) zc_34 zs_21 (zrf_of (zv_21_0 hI zc_34)) ?_
    refine zt_cVi (pc' := 49) hX dX8_takeName_46 rfl zm_yX5_placeHere zw_20_7 zc_27 (by decide) zs_14 (q := (RX5, TX5, 9)) rfl rfl (yc_X5_placeHere _ _ σ hI f hT) rfl rfl (Nat.le_of_ble_eq_true rfl) (by decide) (fun r159 s160 hr161 hp162 => ?_)
    obtain ⟨rfl, q163, q164, z165⟩ := hp162
    refine zt_bipush (pc' := 51) hX dX8_takeName_49 rfl (by decide) (by decide) ?_
    refine zt_iadd (pc' := 52) hX dX8_takeName_51 rfl ?_
    refine zt_cVv (pc' := 55) hX dX8_takeName_52 rfl zm_yX5_refuse zw_20_11 zc_27 (by decide) zs_14 (q := (RX5, TX5, 9)) rfl rfl (yc_X5_refuse _ _ σ hI 1 ⟨by omega, by omega⟩ (r159 + 6) ⟨by omega, by omega⟩ (by omega) f hT) rfl rfl (Nat.le_of_ble_eq_true rfl) (by decide) (fun r166 s167 hr168 hp169 => ?_)
    obtain ⟨hI170, hF171, hT172, z173⟩ := hp169
    have hE174 : yst s167 = yPno 1 (r159 + 6) (yst σ) := z173
    have hF175 := zOn_tr hF hF171 zi_id
    have b176 := zv_8_10 hI170 zc_7
    have b177 := zv_8_11 hI170 zc_7
    have e178 := hF171 34 2 rfl
    have e179 := hF171 7 10 rfl
    have e180 := hF171 7 11 rfl
    refine zt_goto (tgt := 127) hX dX8_takeName_55 (by decide) ?_
    refine zt_iload_n (pc' := 128) hX dX8_takeName_127 rfl rfl ?_
    exact zt_iret hX hR dX8_takeName_128 ⟨by omega, by omega⟩ ⟨hI170, hF175, by omega, by omega, hT172, hE174.trans (yNam_4 (by omega) (fun o => by omega)), fun o => by rw [hE174, yPo_no] at o; exact absurd o (by decide)⟩
set_option maxRecDepth 100000 in
set_option maxHeartbeats 4000000 in
theorem yc_X8_readPane_7 (l : Launch) (E : zEN) (σ : zSto) (hI : zInv σ) (hpre0 : σ 34 2 = 7) (f : Int → Int) (hT : yTk f σ) : zCt l E yX8_readPane cX8_readPane 3 none 2 zNC zNC 0 0 σ [.ref (E.1 + 34)] (fun r σ' => zInv σ' ∧ zOn zR7 σ σ' ∧ yTk f σ' ∧ ((yst σ') = yPan f (yst σ)) ∧ (yPo (yst σ') = 1 → yPlc σ' 7 9 10 11 = yPanP f (yst σ) (yPlc σ 7 9 10 11))) := by
  refine zCt_of2 [some (.ref (E.1 + 34)), none, none] (by decide +kernel) (Nat.le_of_ble_eq_true rfl) rfl ?_
  intro X hE_ hX hR hL hN
  subst hE_
  have hX : zok X cX8_readPane RX8 2 := hX
  have hF := zOn_rf zR7 σ
  have hQ0 : yPlc σ 7 9 10 11 = yPlc σ 7 9 10 11 := rfl
  have hE0 : yst σ = yst σ := rfl
  have b1 := zv_8_10 hI zc_7
  have b2 := zv_8_11 hI zc_7
  refine zt_aload_n (pc' := 1) hX dX8_readPane_0 rfl rfl ?_
  refine zt_get (pc' := 4) (v := .ref (X.1.1 + 27)) hX dX8_readPane_1 rfl zf_X8_9 (by decide) zc_34 zs_21 (zrf_of (zv_21_0 hI zc_34)) ?_
  refine zt_iconst (pc' := 5) hX dX8_readPane_4 rfl ?_
  refine zt_cVv (pc' := 8) hX dX8_readPane_5 rfl zm_yX5_takeWord zw_18_2 zc_27 (by decide) zs_14 (q := (RX5, TX5, 9)) rfl rfl (yc_X5_takeWord _ _ σ hI 0 ⟨by omega, by omega⟩ f hT) rfl rfl (Nat.le_of_ble_eq_true rfl) (by decide) (fun r3 s4 hr5 hp6 => ?_)
  obtain ⟨hI7, hF8, hT9, z10⟩ := hp6
  have hE11 : yst s4 = yPw f 0 (yst σ) := z10
  have hF12 := zOn_tr hF hF8 zi_r17
  have b13 := zv_8_10 hI7 zc_7
  have b14 := zv_8_11 hI7 zc_7
  have e15 := hF8 34 2 rfl
  have e16 := hF8 7 10 rfl
  have e17 := hF8 7 11 rfl
  have hQ18 := (yPlc_c (K := 7) (A := 9) (B := 10) (C := 11) (hF8 7 7 rfl) (hF8 7 8 rfl) (hF8 7 10 rfl) (hF8 7 11 rfl) (hF8 7 12 rfl) (fun j => hF8 9 j rfl) (fun j => hF8 10 j rfl) (fun j => hF8 11 j rfl)).trans hQ0
  refine zt_aload_n (pc' := 9) hX dX8_readPane_8 rfl rfl ?_
  refine zt_get (pc' := 12) (v := .ref (X.1.1 + 27)) hX dX8_readPane_9 rfl zf_X8_9 (by decide) zc_34 zs_21 (zrf_of (zv_21_0 hI7 zc_34)) ?_
  refine zt_iconst (pc' := 13) hX dX8_readPane_12 rfl ?_
  refine zt_bipush (pc' := 15) hX dX8_readPane_13 rfl (by decide) (by decide) ?_
  refine zt_cVi (pc' := 18) hX dX8_readPane_15 rfl zm_yX5_takeNumber zw_18_18 zc_27 (by decide) zs_14 (q := (RX5, TX5, 9)) rfl rfl (yc_X5_takeNumber _ _ s4 hI7 2 ⟨by omega, by omega⟩ 6 ⟨by omega, by omega⟩ f hT9) rfl rfl (Nat.le_of_ble_eq_true rfl) (by decide) (fun r19 s20 hr21 hp22 => ?_)
  obtain ⟨hI23, hF24, q25, q26, hT27, z28, z29, z30⟩ := hp22
  have hE31 : yst s20 = yPn f 2 6 (yPw f 0 (yst σ)) := by rw [z28, hE11]
  rw [hE11] at z29
  have hF32 := zOn_tr hF12 hF24 zi_r17
  rw [hE31] at z29
  have b33 := zv_8_10 hI23 zc_7
  have b34 := zv_8_11 hI23 zc_7
  have e35 := hF24 34 2 rfl
  have e36 := hF24 7 10 rfl
  have e37 := hF24 7 11 rfl
  have hQ38 := (yPlc_c (K := 7) (A := 9) (B := 10) (C := 11) (hF24 7 7 rfl) (hF24 7 8 rfl) (hF24 7 10 rfl) (hF24 7 11 rfl) (hF24 7 12 rfl) (fun j => hF24 9 j rfl) (fun j => hF24 10 j rfl) (fun j => hF24 11 j rfl)).trans hQ18
  refine zt_istore_n (pc' := 19) (lv' := [some (.ref (X.1.1 + 34)), some (.int (zI r19)), none]) hX dX8_readPane_18 rfl hL (by decide) rfl ?_
  refine zt_aload_n (pc' := 20) hX dX8_readPane_19 rfl rfl ?_
  refine zt_get (pc' := 23) (v := .ref (X.1.1 + 27)) hX dX8_readPane_20 rfl zf_X8_9 (by decide) zc_34 zs_21 (zrf_of (zv_21_0 hI23 zc_34)) ?_
  refine zt_iconst (pc' := 24) hX dX8_readPane_23 rfl ?_
  refine zt_cVv (pc' := 27) hX dX8_readPane_24 rfl zm_yX5_takeWord zw_18_2 zc_27 (by decide) zs_14 (q := (RX5, TX5, 9)) rfl rfl (yc_X5_takeWord _ _ s20 hI23 1 ⟨by omega, by omega⟩ f hT27) rfl rfl (Nat.le_of_ble_eq_true rfl) (by decide) (fun r39 s40 hr41 hp42 => ?_)
  obtain ⟨hI43, hF44, hT45, z46⟩ := hp42
  have hE47 : yst s40 = yPw f 1 (yPn f 2 6 (yPw f 0 (yst σ))) := by rw [z46, hE31]
  have hF48 := zOn_tr hF32 hF44 zi_r17
  have b49 := zv_8_10 hI43 zc_7
  have b50 := zv_8_11 hI43 zc_7
  have e51 := hF44 34 2 rfl
  have e52 := hF44 7 10 rfl
  have e53 := hF44 7 11 rfl
  have hQ54 := (yPlc_c (K := 7) (A := 9) (B := 10) (C := 11) (hF44 7 7 rfl) (hF44 7 8 rfl) (hF44 7 10 rfl) (hF44 7 11 rfl) (hF44 7 12 rfl) (fun j => hF44 9 j rfl) (fun j => hF44 10 j rfl) (fun j => hF44 11 j rfl)).trans hQ38
  refine zt_aload_n (pc' := 28) hX dX8_readPane_27 rfl rfl ?_
  refine zt_get (pc' := 31) (v := .ref (X.1.1 + 27)) hX dX8_readPane_28 rfl zf_X8_9 (by decide) zc_34 zs_21 (zrf_of (zv_21_0 hI43 zc_34)) ?_
  refine zt_iconst (pc' := 32) hX dX8_readPane_31 rfl ?_
  refine zt_bipush (pc' := 34) hX dX8_readPane_32 rfl (by decide) (by decide) ?_
  refine zt_cVi (pc' := 37) hX dX8_readPane_34 rfl zm_yX5_takeNumber zw_18_18 zc_27 (by decide) zs_14 (q := (RX5, TX5, 9)) rfl rfl (yc_X5_takeNumber _ _ s40 hI43 2 ⟨by omega, by omega⟩ 6 ⟨by omega, by omega⟩ f hT45) rfl rfl (Nat.le_of_ble_eq_true rfl) (by decide) (fun r55 s56 hr57 hp58 => ?_)
  obtain ⟨hI59, hF60, q61, q62, hT63, z64, z65, z66⟩ := hp58
  have hE67 : yst s56 = yPn f 2 6 (yPw f 1 (yPn f 2 6 (yPw f 0 (yst σ)))) := by rw [z64, hE47]
  rw [hE47] at z65
  have hF68 := zOn_tr hF48 hF60 zi_r17
  rw [hE67] at z65
  have b69 := zv_8_10 hI59 zc_7
  have b70 := zv_8_11 hI59 zc_7
  have e71 := hF60 34 2 rfl
  have e72 := hF60 7 10 rfl
  have e73 := hF60 7 11 rfl
  have hQ74 := (yPlc_c (K := 7) (A := 9) (B := 10) (C := 11) (hF60 7 7 rfl) (hF60 7 8 rfl) (hF60 7 10 rfl) (hF60 7 11 rfl) (hF60 7 12 rfl) (fun j => hF60 9 j rfl) (fun j => hF60 10 j rfl) (fun j => hF60 11 j rfl)).trans hQ54
  refine zt_istore_n (pc' := 38) (lv' := [some (.ref (X.1.1 + 34)), some (.int (zI r19)), some (.int (zI r55))]) hX dX8_readPane_37 rfl hL (by decide) rfl ?_
  refine zt_aload_n (pc' := 39) hX dX8_readPane_38 rfl rfl ?_
  have ek75 : s56 34 2 = ((7 : Nat) : Int) := by omega
  refine zt_get (pc' := 42) (v := .ref (X.1.1 + 7)) hX dX8_readPane_39 rfl zf_X8_19 (by decide) zc_34 zs_21 (zrf_of ek75) ?_
  refine zt_iload_n (pc' := 43) hX dX8_readPane_42 rfl rfl ?_
  refine zt_iload_n (pc' := 44) hX dX8_readPane_43 rfl rfl ?_
  refine zt_cVv (pc' := 47) hX dX8_readPane_44 rfl zm_yX3_setSides zw_19_2 zc_7 (by decide) zs_8 (q := (RX3, TX3, 17)) rfl rfl (yc_X3_setSides_7 _ _ s56 hI59 r19 ⟨by omega, by omega⟩ r55 ⟨by omega, by omega⟩) rfl rfl (Nat.le_of_ble_eq_true rfl) (by decide) (fun r76 s77 hr78 hp79 => ?_)
  obtain ⟨hI80, hF81, z82⟩ := hp79
  have hF83 := zOn_tr hF68 hF81 zi_q7
  have hT84 := yTk_rk hT63 (yRk_q7 hF81)
  have hE85 : yst s77 = yPn f 2 6 (yPw f 1 (yPn f 2 6 (yPw f 0 (yst σ)))) := (yst_rk (yRk_q7 hF81)).trans hE67
  have b86 := zv_8_10 hI80 zc_7
  have b87 := zv_8_11 hI80 zc_7
  have e88 := hF81 34 2 rfl
  have hQ89 : yPlc s77 7 9 10 11 = (yPl.wsd (yPlc σ 7 9 10 11) r19 r55) := by rw [z82, hQ74]
  refine zt_aload_n (pc' := 48) hX dX8_readPane_47 rfl rfl ?_
  refine zt_get (pc' := 51) (v := .ref (X.1.1 + 27)) hX dX8_readPane_48 rfl zf_X8_9 (by decide) zc_34 zs_21 (zrf_of (zv_21_0 hI80 zc_34)) ?_
  refine zt_iconst (pc' := 52) hX dX8_readPane_51 rfl ?_
  refine zt_cVv (pc' := 55) hX dX8_readPane_52 rfl zm_yX5_takeWord zw_18_2 zc_27 (by decide) zs_14 (q := (RX5, TX5, 9)) rfl rfl (yc_X5_takeWord _ _ s77 hI80 2 ⟨by omega, by omega⟩ f hT84) rfl rfl (Nat.le_of_ble_eq_true rfl) (by decide) (fun r90 s91 hr92 hp93 => ?_)
  obtain ⟨hI94, hF95, hT96, z97⟩ := hp93
  have hE98 : yst s91 = yPw f 2 (yPn f 2 6 (yPw f 1 (yPn f 2 6 (yPw f 0 (yst σ))))) := by rw [z97, hE85]
  have hF99 := zOn_tr hF83 hF95 zi_r17
  have b100 := zv_8_10 hI94 zc_7
  have b101 := zv_8_11 hI94 zc_7
  have e102 := hF95 34 2 rfl
  have e103 := hF95 7 10 rfl
  have e104 := hF95 7 11 rfl
  have hQ105 := (yPlc_c (K := 7) (A := 9) (B := 10) (C := 11) (hF95 7 7 rfl) (hF95 7 8 rfl) (hF95 7 10 rfl) (hF95 7 11 rfl) (hF95 7 12 rfl) (fun j => hF95 9 j rfl) (fun j => hF95 10 j rfl) (fun j => hF95 11 j rfl)).trans hQ89
  refine zt_aload_n (pc' := 56) hX dX8_readPane_55 rfl rfl ?_
  have ek106 : s91 34 2 = ((7 : Nat) : Int) := by omega
  refine zt_get (pc' := 59) (v := .ref (X.1.1 + 7)) hX dX8_readPane_56 rfl zf_X8_19 (by decide) zc_34 zs_21 (zrf_of ek106) ?_
  refine zt_aload_n (pc' := 60) hX dX8_readPane_59 rfl rfl ?_
  refine zt_get (pc' := 63) (v := .ref (X.1.1 + 27)) hX dX8_readPane_60 rfl zf_X8_9 (by decide) zc_34 zs_21 (zrf_of (zv_21_0 hI94 zc_34)) ?_
  refine zt_iconst (pc' := 64) hX dX8_readPane_63 rfl ?_
  refine zt_bipush (pc' := 66) hX dX8_readPane_64 rfl (by decide) (by decide) ?_
  refine zt_cVi (pc' := 69) hX dX8_readPane_66 rfl zm_yX5_takeNumber zw_18_18 zc_27 (by decide) zs_14 (q := (RX5, TX5, 9)) rfl rfl (yc_X5_takeNumber _ _ s91 hI94 0 ⟨by omega, by omega⟩ 99 ⟨by omega, by omega⟩ f hT96) rfl rfl (Nat.le_of_ble_eq_true rfl) (by decide) (fun r107 s108 hr109 hp110 => ?_)
  obtain ⟨hI111, hF112, q113, q114, hT115, z116, z117, z118⟩ := hp110
  have hE119 : yst s108 = yPn f 0 99 (yPw f 2 (yPn f 2 6 (yPw f 1 (yPn f 2 6 (yPw f 0 (yst σ)))))) := by rw [z116, hE98]
  rw [hE98] at z117
  have hF120 := zOn_tr hF99 hF112 zi_r17
  rw [hE119] at z117
  have b121 := zv_8_10 hI111 zc_7
  have b122 := zv_8_11 hI111 zc_7
  have e123 := hF112 34 2 rfl
  have e124 := hF112 7 10 rfl
  have e125 := hF112 7 11 rfl
  have hQ126 := (yPlc_c (K := 7) (A := 9) (B := 10) (C := 11) (hF112 7 7 rfl) (hF112 7 8 rfl) (hF112 7 10 rfl) (hF112 7 11 rfl) (hF112 7 12 rfl) (fun j => hF112 9 j rfl) (fun j => hF112 10 j rfl) (fun j => hF112 11 j rfl)).trans hQ105
  refine zt_put (pc' := 72) (x := r107) hX dX8_readPane_69 rfl zf_X8_66 (by decide) zc_7 zs_8 (fun q hq => by cases hq; rfl) rfl rfl rfl ?_
  generalize hs128 : zset s108 7 13 r107 = s127
  have hI129 : zInv s127 := hs128 ▸ zp_8_13 hI111 zc_7 ⟨by omega, by omega⟩
  have hF130 : zOn zR7 σ s127 := hs128 ▸ zOn_set hF120 rfl
  have hT131 := yTk_rk hT115 (yRk_set hs128 zc_7 (by decide))
  have hE132 : yst s127 = yPn f 0 99 (yPw f 2 (yPn f 2 6 (yPw f 1 (yPn f 2 6 (yPw f 0 (yst σ)))))) := (yst_rk (yRk_set hs128 zc_7 (by decide))).trans hE119
  have hQ133 := (yPlc_pj (A := 9) (B := 10) (C := 11) hs128 (by decide) (by decide)).trans hQ126
  have e134 : s127 34 2 = s108 34 2 := by rw [← hs128]; exact zset_k (zne_r zc_34 zc_7 (by decide))
  have e135 : s127 7 10 = s108 7 10 := by rw [← hs128]; exact zset_j (by decide)
  have e136 : s127 7 11 = s108 7 11 := by rw [← hs128]; exact zset_j (by decide)
  exact zt_vret hX hR dX8_readPane_72 ⟨hI129, hF130, hT131, hE132.trans rfl, (fun o => by rw [hQ133]; rw [hE132] at o; have o1 := yPo_n o; have o2 := yPo_w o1; have t2 := z65 o2; have o3 := yPo_n o2; have o4 := yPo_w o3; have t1 := z29 o4; rw [t1, t2]; rfl)⟩
set_option maxRecDepth 100000 in
set_option maxHeartbeats 4000000 in
theorem yc_X8_readHeavy_7 (l : Launch) (E : zEN) (σ : zSto) (hI : zInv σ) (hpre0 : σ 34 2 = 7) (f : Int → Int) (hT : yTk f σ) : zCt l E yX8_readHeavy cX8_readHeavy 4 none 2 zNC zNC 0 0 σ [.ref (E.1 + 34)] (fun r σ' => zInv σ' ∧ zOn zR7 σ σ' ∧ yTk f σ' ∧ ((yst σ') = yHea f (yPlc σ 7 9 10 11) (yst σ)) ∧ (yPlc σ' 7 9 10 11 = yPlc σ 7 9 10 11)) := by
  refine zCt_of2 [some (.ref (E.1 + 34)), none, none, none] (by decide +kernel) (Nat.le_of_ble_eq_true rfl) rfl ?_
  intro X hE_ hX hR hL hN
  subst hE_
  have hX : zok X cX8_readHeavy RX8 2 := hX
  have hF := zOn_rf zR7 σ
  have hQ0 : yPlc σ 7 9 10 11 = yPlc σ 7 9 10 11 := rfl
  have hE0 : yst σ = yst σ := rfl
  have b1 := zv_8_10 hI zc_7
  have b2 := zv_8_11 hI zc_7
  refine zt_aload_n (pc' := 1) hX dX8_readHeavy_0 rfl rfl ?_
  refine zt_get (pc' := 4) (v := .ref (X.1.1 + 27)) hX dX8_readHeavy_1 rfl zf_X8_9 (by decide) zc_34 zs_21 (zrf_of (zv_21_0 hI zc_34)) ?_
  refine zt_cVv (pc' := 7) hX dX8_readHeavy_4 rfl zm_yX5_step zw_19_21 zc_27 (by decide) zs_14 (q := (RX5, TX5, 9)) rfl rfl (yc_X5_step _ _ σ hI f hT) rfl rfl (Nat.le_of_ble_eq_true rfl) (by decide) (fun r3 s4 hr5 hp6 => ?_)
  obtain ⟨hI7, hF8, hT9, z10⟩ := hp6
  have hE11 : yst s4 = yPx f (yst σ) := z10
  have hF12 := zOn_tr hF hF8 zi_r17
  have b13 := zv_8_10 hI7 zc_7
  have b14 := zv_8_11 hI7 zc_7
  have e15 := hF8 34 2 rfl
  have e16 := hF8 7 10 rfl
  have e17 := hF8 7 11 rfl
  have hQ18 := (yPlc_c (K := 7) (A := 9) (B := 10) (C := 11) (hF8 7 7 rfl) (hF8 7 8 rfl) (hF8 7 10 rfl) (hF8 7 11 rfl) (hF8 7 12 rfl) (fun j => hF8 9 j rfl) (fun j => hF8 10 j rfl) (fun j => hF8 11 j rfl)).trans hQ0
  refine zt_aload_n (pc' := 8) hX dX8_readHeavy_7 rfl rfl ?_
  refine zt_get (pc' := 11) (v := .ref (X.1.1 + 27)) hX dX8_readHeavy_8 rfl zf_X8_9 (by decide) zc_34 zs_21 (zrf_of (zv_21_0 hI7 zc_34)) ?_
  refine zt_iconst (pc' := 12) hX dX8_readHeavy_11 rfl ?_
  refine zt_aload_n (pc' := 13) hX dX8_readHeavy_12 rfl rfl ?_
  have ek19 : s4 34 2 = ((7 : Nat) : Int) := by omega
  refine zt_get (pc' := 16) (v := .ref (X.1.1 + 7)) hX dX8_readHeavy_13 rfl zf_X8_19 (by decide) zc_34 zs_21 (zrf_of ek19) ?_
  have b20 := zv_8_10 hI7 zc_7
  refine zt_get (pc' := 19) (v := .int (zI (s4 7 10))) hX dX8_readHeavy_16 rfl zf_X8_97 (by decide) zc_7 zs_8 rfl ?_
  refine zt_iconst (pc' := 20) hX dX8_readHeavy_19 rfl ?_
  refine zt_isub (pc' := 21) hX dX8_readHeavy_20 rfl ?_
  refine zt_cVi (pc' := 24) hX dX8_readHeavy_21 rfl zm_yX5_takeNumber zw_18_18 zc_27 (by decide) zs_14 (q := (RX5, TX5, 9)) rfl rfl (yc_X5_takeNumber _ _ s4 hI7 0 ⟨by omega, by omega⟩ ((s4 7 10) - 1) ⟨by omega, by omega⟩ f hT9) rfl rfl (Nat.le_of_ble_eq_true rfl) (by decide) (fun r21 s22 hr23 hp24 => ?_)
  obtain ⟨hI25, hF26, q27, q28, hT29, z30, z31, z32⟩ := hp24
  have hE33 : yst s22 = yPn f 0 ((s4 7 10) - 1) (yPx f (yst σ)) := by rw [z30, hE11]
  rw [hE11] at z31
  have hF34 := zOn_tr hF12 hF26 zi_r17
  rw [hE33] at z31
  have b35 := zv_8_10 hI25 zc_7
  have b36 := zv_8_11 hI25 zc_7
  have e37 := hF26 34 2 rfl
  have e38 := hF26 7 10 rfl
  have e39 := hF26 7 11 rfl
  have hQ40 := (yPlc_c (K := 7) (A := 9) (B := 10) (C := 11) (hF26 7 7 rfl) (hF26 7 8 rfl) (hF26 7 10 rfl) (hF26 7 11 rfl) (hF26 7 12 rfl) (fun j => hF26 9 j rfl) (fun j => hF26 10 j rfl) (fun j => hF26 11 j rfl)).trans hQ18
  refine zt_istore_n (pc' := 25) (lv' := [some (.ref (X.1.1 + 34)), some (.int (zI r21)), none, none]) hX dX8_readHeavy_24 rfl hL (by decide) rfl ?_
  refine zt_aload_n (pc' := 26) hX dX8_readHeavy_25 rfl rfl ?_
  refine zt_get (pc' := 29) (v := .ref (X.1.1 + 27)) hX dX8_readHeavy_26 rfl zf_X8_9 (by decide) zc_34 zs_21 (zrf_of (zv_21_0 hI25 zc_34)) ?_
  refine zt_iconst (pc' := 30) hX dX8_readHeavy_29 rfl ?_
  refine zt_aload_n (pc' := 31) hX dX8_readHeavy_30 rfl rfl ?_
  have ek41 : s22 34 2 = ((7 : Nat) : Int) := by omega
  refine zt_get (pc' := 34) (v := .ref (X.1.1 + 7)) hX dX8_readHeavy_31 rfl zf_X8_19 (by decide) zc_34 zs_21 (zrf_of ek41) ?_
  have b42 := zv_8_11 hI25 zc_7
  refine zt_get (pc' := 37) (v := .int (zI (s22 7 11))) hX dX8_readHeavy_34 rfl zf_X8_100 (by decide) zc_7 zs_8 rfl ?_
  refine zt_iconst (pc' := 38) hX dX8_readHeavy_37 rfl ?_
  refine zt_isub (pc' := 39) hX dX8_readHeavy_38 rfl ?_
  refine zt_cVi (pc' := 42) hX dX8_readHeavy_39 rfl zm_yX5_takeNumber zw_18_18 zc_27 (by decide) zs_14 (q := (RX5, TX5, 9)) rfl rfl (yc_X5_takeNumber _ _ s22 hI25 0 ⟨by omega, by omega⟩ ((s22 7 11) - 1) ⟨by omega, by omega⟩ f hT29) rfl rfl (Nat.le_of_ble_eq_true rfl) (by decide) (fun r43 s44 hr45 hp46 => ?_)
  obtain ⟨hI47, hF48, q49, q50, hT51, z52, z53, z54⟩ := hp46
  have hE55 : yst s44 = yPn f 0 ((s22 7 11) - 1) (yPn f 0 ((s4 7 10) - 1) (yPx f (yst σ))) := by rw [z52, hE33]
  rw [hE33] at z53
  have hF56 := zOn_tr hF34 hF48 zi_r17
  rw [hE55] at z53
  have b57 := zv_8_10 hI47 zc_7
  have b58 := zv_8_11 hI47 zc_7
  have e59 := hF48 34 2 rfl
  have e60 := hF48 7 10 rfl
  have e61 := hF48 7 11 rfl
  have hQ62 := (yPlc_c (K := 7) (A := 9) (B := 10) (C := 11) (hF48 7 7 rfl) (hF48 7 8 rfl) (hF48 7 10 rfl) (hF48 7 11 rfl) (hF48 7 12 rfl) (fun j => hF48 9 j rfl) (fun j => hF48 10 j rfl) (fun j => hF48 11 j rfl)).trans hQ40
  refine zt_istore_n (pc' := 43) (lv' := [some (.ref (X.1.1 + 34)), some (.int (zI r21)), some (.int (zI r43)), none]) hX dX8_readHeavy_42 rfl hL (by decide) rfl ?_
  refine zt_aload_n (pc' := 44) hX dX8_readHeavy_43 rfl rfl ?_
  refine zt_get (pc' := 47) (v := .ref (X.1.1 + 27)) hX dX8_readHeavy_44 rfl zf_X8_9 (by decide) zc_34 zs_21 (zrf_of (zv_21_0 hI47 zc_34)) ?_
  refine zt_iconst (pc' := 48) hX dX8_readHeavy_47 rfl ?_
  refine zt_bipush (pc' := 50) hX dX8_readHeavy_48 rfl (by decide) (by decide) ?_
  refine zt_cVi (pc' := 53) hX dX8_readHeavy_50 rfl zm_yX5_takeNumber zw_18_18 zc_27 (by decide) zs_14 (q := (RX5, TX5, 9)) rfl rfl (yc_X5_takeNumber _ _ s44 hI47 0 ⟨by omega, by omega⟩ 99 ⟨by omega, by omega⟩ f hT51) rfl rfl (Nat.le_of_ble_eq_true rfl) (by decide) (fun r63 s64 hr65 hp66 => ?_)
  obtain ⟨hI67, hF68, q69, q70, hT71, z72, z73, z74⟩ := hp66
  have hE75 : yst s64 = yPn f 0 99 (yPn f 0 ((s22 7 11) - 1) (yPn f 0 ((s4 7 10) - 1) (yPx f (yst σ)))) := by rw [z72, hE55]
  rw [hE55] at z73
  have hF76 := zOn_tr hF56 hF68 zi_r17
  rw [hE75] at z73
  have b77 := zv_8_10 hI67 zc_7
  have b78 := zv_8_11 hI67 zc_7
  have e79 := hF68 34 2 rfl
  have e80 := hF68 7 10 rfl
  have e81 := hF68 7 11 rfl
  have hQ82 := (yPlc_c (K := 7) (A := 9) (B := 10) (C := 11) (hF68 7 7 rfl) (hF68 7 8 rfl) (hF68 7 10 rfl) (hF68 7 11 rfl) (hF68 7 12 rfl) (fun j => hF68 9 j rfl) (fun j => hF68 10 j rfl) (fun j => hF68 11 j rfl)).trans hQ62
  refine zt_istore_n (pc' := 54) (lv' := [some (.ref (X.1.1 + 34)), some (.int (zI r21)), some (.int (zI r43)), some (.int (zI r63))]) hX dX8_readHeavy_53 rfl hL (by decide) rfl ?_
  refine zt_aload_n (pc' := 55) hX dX8_readHeavy_54 rfl rfl ?_
  have ek83 : s64 34 2 = ((7 : Nat) : Int) := by omega
  refine zt_get (pc' := 58) (v := .ref (X.1.1 + 7)) hX dX8_readHeavy_55 rfl zf_X8_19 (by decide) zc_34 zs_21 (zrf_of ek83) ?_
  refine zt_get (pc' := 61) (v := .ref (X.1.1 + 8)) hX dX8_readHeavy_58 rfl zf_X8_103 (by decide) zc_7 zs_8 (zrf_of (zv_8_0 hI67 zc_7)) ?_
  refine zt_aload_n (pc' := 62) hX dX8_readHeavy_61 rfl rfl ?_
  refine zt_get (pc' := 65) (v := .ref (X.1.1 + 7)) hX dX8_readHeavy_62 rfl zf_X8_19 (by decide) zc_34 zs_21 (zrf_of ek83) ?_
  refine zt_iload_n (pc' := 66) hX dX8_readHeavy_65 rfl rfl ?_
  refine zt_iload_n (pc' := 67) hX dX8_readHeavy_66 rfl rfl ?_
  refine zt_cVi (pc' := 70) hX dX8_readHeavy_67 rfl zm_yX3_cellAt zw_19_22 zc_7 (by decide) zs_8 (q := (RX3, TX3, 17)) rfl rfl (zc_X3_cellAt _ _ s64 hI67 7 zc_7 r21 ⟨by omega, by omega⟩ r43 ⟨by omega, by omega⟩) rfl rfl (Nat.le_of_ble_eq_true rfl) (by decide) (fun r84 s85 hr86 hp87 => ?_)
  obtain ⟨rfl, q88, q89, z90⟩ := hp87
  refine zt_iload_n (pc' := 71) hX dX8_readHeavy_70 rfl rfl ?_
  refine zt_iast (pc' := 72) hX dX8_readHeavy_71 rfl (by decide) zc_8 zs_9 (by decide) ⟨by omega, by omega⟩ ?_
  generalize hs92 : zset s64 8 (r84.toNat) r63 = s91
  have hI93 : zInv s91 := hs92 ▸ zp_9 hI67 zc_8 (r84.toNat) ⟨by omega, by omega⟩
  have hF94 : zOn zR7 σ s91 := hs92 ▸ zOn_set hF76 rfl
  have hT95 := yTk_rk hT71 (yRk_set hs92 zc_8 (by decide))
  have hE96 : yst s91 = yPn f 0 99 (yPn f 0 ((s22 7 11) - 1) (yPn f 0 ((s4 7 10) - 1) (yPx f (yst σ)))) := (yst_rk (yRk_set hs92 zc_8 (by decide))).trans hE75
  have hQ97 := (yPlc_pk (K := 7) (A := 9) (B := 10) (C := 11) hs92 (by decide)).trans hQ82
  have e98 : s91 34 2 = s64 34 2 := by rw [← hs92]; exact zset_k (zne_r zc_34 zc_8 (by decide))
  have e99 : s91 7 10 = s64 7 10 := by rw [← hs92]; exact zset_k (zne_r zc_7 zc_8 (by decide))
  have e100 : s91 7 11 = s64 7 11 := by rw [← hs92]; exact zset_k (zne_r zc_7 zc_8 (by decide))
  exact zt_vret hX hR dX8_readHeavy_72 ⟨hI93, hF94, hT95, hE96.trans (by rw [show s22 7 11 = σ 7 11 by omega, show s4 7 10 = σ 7 10 by omega]; exact rfl), hQ97⟩
set_option maxRecDepth 100000 in
set_option maxHeartbeats 4000000 in
theorem yc_X8_readPole_7 (l : Launch) (E : zEN) (σ : zSto) (hI : zInv σ) (hpre0 : σ 34 2 = 7) (f : Int → Int) (hT : yTk f σ) : zCt l E yX8_readPole cX8_readPole 6 none 2 zNC zNC 0 0 σ [.ref (E.1 + 34)] (fun r σ' => zInv σ' ∧ zOn zR7 σ σ' ∧ yTk f σ' ∧ ((yst σ') = yPol f (yPlc σ 7 9 10 11) (yst σ)) ∧ (yPo (yst σ') = 1 → yPlc σ' 7 9 10 11 = yPolP f (yPlc σ 7 9 10 11) (yst σ))) := by
  refine zCt_of2 [some (.ref (E.1 + 34)), none, none, none, none, none] (by decide +kernel) (Nat.le_of_ble_eq_true rfl) rfl ?_
  intro X hE_ hX hR hL hN
  subst hE_
  have hX : zok X cX8_readPole RX8 2 := hX
  have hF := zOn_rf zR7 σ
  have hQ0 : yPlc σ 7 9 10 11 = yPlc σ 7 9 10 11 := rfl
  have hE0 : yst σ = yst σ := rfl
  have b1 := zv_8_10 hI zc_7
  have b2 := zv_8_11 hI zc_7
  have b3 := zv_8_12 hI zc_7
  refine zt_aload_n (pc' := 1) hX dX8_readPole_0 rfl rfl ?_
  have ek4 : σ 34 2 = ((7 : Nat) : Int) := by omega
  refine zt_get (pc' := 4) (v := .ref (X.1.1 + 7)) hX dX8_readPole_1 rfl zf_X8_19 (by decide) zc_34 zs_21 (zrf_of ek4) ?_
  have b5 := zv_8_12 hI zc_7
  refine zt_get (pc' := 7) (v := .int (zI (σ 7 12))) hX dX8_readPole_4 rfl zf_X8_110 (by decide) zc_7 zs_8 rfl ?_
  refine zt_bipush (pc' := 9) hX dX8_readPole_7 rfl (by decide) (by decide) ?_
  refine zt_iclt (pc' := 12) (tgt := 28) hX dX8_readPole_9 rfl (by decide) ⟨by omega, by omega⟩ ⟨by omega, by omega⟩ (fun c6 => ?_) (fun c6 => ?_)
  · refine zt_aload_n (pc' := 29) hX dX8_readPole_28 rfl rfl ?_
    refine zt_get (pc' := 32) (v := .ref (X.1.1 + 27)) hX dX8_readPole_29 rfl zf_X8_9 (by decide) zc_34 zs_21 (zrf_of (zv_21_0 hI zc_34)) ?_
    refine zt_cVv (pc' := 35) hX dX8_readPole_32 rfl zm_yX5_step zw_19_21 zc_27 (by decide) zs_14 (q := (RX5, TX5, 9)) rfl rfl (yc_X5_step _ _ σ hI f hT) rfl rfl (Nat.le_of_ble_eq_true rfl) (by decide) (fun r7 s8 hr9 hp10 => ?_)
    obtain ⟨hI11, hF12, hT13, z14⟩ := hp10
    have hE15 : yst s8 = yPx f (yst σ) := z14
    have hF16 := zOn_tr hF hF12 zi_r17
    have b17 := zv_8_10 hI11 zc_7
    have b18 := zv_8_11 hI11 zc_7
    have b19 := zv_8_12 hI11 zc_7
    have e20 := hF12 34 2 rfl
    have e21 := hF12 7 10 rfl
    have e22 := hF12 7 11 rfl
    have e23 := hF12 7 12 rfl
    have hQ24 := (yPlc_c (K := 7) (A := 9) (B := 10) (C := 11) (hF12 7 7 rfl) (hF12 7 8 rfl) (hF12 7 10 rfl) (hF12 7 11 rfl) (hF12 7 12 rfl) (fun j => hF12 9 j rfl) (fun j => hF12 10 j rfl) (fun j => hF12 11 j rfl)).trans hQ0
    refine zt_aload_n (pc' := 36) hX dX8_readPole_35 rfl rfl ?_
    refine zt_cVi (pc' := 39) hX dX8_readPole_36 rfl zm_yX8_takeName zw_20_12 zc_34 (by decide) zs_21 (q := (RX8, TX8, 3)) rfl rfl (yc_X8_takeName_7 _ _ s8 hI11 (by omega) f hT13) rfl rfl (Nat.le_of_ble_eq_true rfl) (by decide) (fun r25 s26 hr27 hp28 => ?_)
    obtain ⟨hI29, hF30, q31, q32, hT33, z34, z35⟩ := hp28
    have hE36 : yst s26 = yNam f (yPlc σ 7 9 10 11) (yPx f (yst σ)) := by rw [z34, hQ24, hE15]
    rw [hE15] at z35
    have hF37 := zOn_tr hF16 hF30 zi_r17
    rw [hE36] at z35
    have b38 := zv_8_10 hI29 zc_7
    have b39 := zv_8_11 hI29 zc_7
    have b40 := zv_8_12 hI29 zc_7
    have e41 := hF30 34 2 rfl
    have e42 := hF30 7 10 rfl
    have e43 := hF30 7 11 rfl
    have e44 := hF30 7 12 rfl
    have hQ45 := (yPlc_c (K := 7) (A := 9) (B := 10) (C := 11) (hF30 7 7 rfl) (hF30 7 8 rfl) (hF30 7 10 rfl) (hF30 7 11 rfl) (hF30 7 12 rfl) (fun j => hF30 9 j rfl) (fun j => hF30 10 j rfl) (fun j => hF30 11 j rfl)).trans hQ24
    refine zt_istore_n (pc' := 40) (lv' := [some (.ref (X.1.1 + 34)), some (.int (zI r25)), none, none, none, none]) hX dX8_readPole_39 rfl hL (by decide) rfl ?_
    refine zt_aload_n (pc' := 41) hX dX8_readPole_40 rfl rfl ?_
    refine zt_get (pc' := 44) (v := .ref (X.1.1 + 27)) hX dX8_readPole_41 rfl zf_X8_9 (by decide) zc_34 zs_21 (zrf_of (zv_21_0 hI29 zc_34)) ?_
    refine zt_iconst (pc' := 45) hX dX8_readPole_44 rfl ?_
    refine zt_cVv (pc' := 48) hX dX8_readPole_45 rfl zm_yX5_takeWord zw_18_2 zc_27 (by decide) zs_14 (q := (RX5, TX5, 9)) rfl rfl (yc_X5_takeWord _ _ s26 hI29 5 ⟨by omega, by omega⟩ f hT33) rfl rfl (Nat.le_of_ble_eq_true rfl) (by decide) (fun r46 s47 hr48 hp49 => ?_)
    obtain ⟨hI50, hF51, hT52, z53⟩ := hp49
    have hE54 : yst s47 = yPw f 5 (yNam f (yPlc σ 7 9 10 11) (yPx f (yst σ))) := by rw [z53, hE36]
    have hF55 := zOn_tr hF37 hF51 zi_r17
    have b56 := zv_8_10 hI50 zc_7
    have b57 := zv_8_11 hI50 zc_7
    have b58 := zv_8_12 hI50 zc_7
    have e59 := hF51 34 2 rfl
    have e60 := hF51 7 10 rfl
    have e61 := hF51 7 11 rfl
    have e62 := hF51 7 12 rfl
    have hQ63 := (yPlc_c (K := 7) (A := 9) (B := 10) (C := 11) (hF51 7 7 rfl) (hF51 7 8 rfl) (hF51 7 10 rfl) (hF51 7 11 rfl) (hF51 7 12 rfl) (fun j => hF51 9 j rfl) (fun j => hF51 10 j rfl) (fun j => hF51 11 j rfl)).trans hQ45
    refine zt_aload_n (pc' := 49) hX dX8_readPole_48 rfl rfl ?_
    refine zt_get (pc' := 52) (v := .ref (X.1.1 + 27)) hX dX8_readPole_49 rfl zf_X8_9 (by decide) zc_34 zs_21 (zrf_of (zv_21_0 hI50 zc_34)) ?_
    refine zt_iconst (pc' := 53) hX dX8_readPole_52 rfl ?_
    refine zt_aload_n (pc' := 54) hX dX8_readPole_53 rfl rfl ?_
    have ek64 : s47 34 2 = ((7 : Nat) : Int) := by omega
    refine zt_get (pc' := 57) (v := .ref (X.1.1 + 7)) hX dX8_readPole_54 rfl zf_X8_19 (by decide) zc_34 zs_21 (zrf_of ek64) ?_
    have b65 := zv_8_10 hI50 zc_7
    refine zt_get (pc' := 60) (v := .int (zI (s47 7 10))) hX dX8_readPole_57 rfl zf_X8_97 (by decide) zc_7 zs_8 rfl ?_
    refine zt_iconst (pc' := 61) hX dX8_readPole_60 rfl ?_
    refine zt_isub (pc' := 62) hX dX8_readPole_61 rfl ?_
    refine zt_cVi (pc' := 65) hX dX8_readPole_62 rfl zm_yX5_takeNumber zw_18_18 zc_27 (by decide) zs_14 (q := (RX5, TX5, 9)) rfl rfl (yc_X5_takeNumber _ _ s47 hI50 0 ⟨by omega, by omega⟩ ((s47 7 10) - 1) ⟨by omega, by omega⟩ f hT52) rfl rfl (Nat.le_of_ble_eq_true rfl) (by decide) (fun r66 s67 hr68 hp69 => ?_)
    obtain ⟨hI70, hF71, q72, q73, hT74, z75, z76, z77⟩ := hp69
    have hE78 : yst s67 = yPn f 0 ((s47 7 10) - 1) (yPw f 5 (yNam f (yPlc σ 7 9 10 11) (yPx f (yst σ)))) := by rw [z75, hE54]
    rw [hE54] at z76
    have hF79 := zOn_tr hF55 hF71 zi_r17
    rw [hE78] at z76
    have b80 := zv_8_10 hI70 zc_7
    have b81 := zv_8_11 hI70 zc_7
    have b82 := zv_8_12 hI70 zc_7
    have e83 := hF71 34 2 rfl
    have e84 := hF71 7 10 rfl
    have e85 := hF71 7 11 rfl
    have e86 := hF71 7 12 rfl
    have hQ87 := (yPlc_c (K := 7) (A := 9) (B := 10) (C := 11) (hF71 7 7 rfl) (hF71 7 8 rfl) (hF71 7 10 rfl) (hF71 7 11 rfl) (hF71 7 12 rfl) (fun j => hF71 9 j rfl) (fun j => hF71 10 j rfl) (fun j => hF71 11 j rfl)).trans hQ63
    refine zt_istore_n (pc' := 66) (lv' := [some (.ref (X.1.1 + 34)), some (.int (zI r25)), some (.int (zI r66)), none, none, none]) hX dX8_readPole_65 rfl hL (by decide) rfl ?_
    refine zt_aload_n (pc' := 67) hX dX8_readPole_66 rfl rfl ?_
    refine zt_get (pc' := 70) (v := .ref (X.1.1 + 27)) hX dX8_readPole_67 rfl zf_X8_9 (by decide) zc_34 zs_21 (zrf_of (zv_21_0 hI70 zc_34)) ?_
    refine zt_cVi (pc' := 73) hX dX8_readPole_70 rfl zm_yX5_placeHere zw_20_7 zc_27 (by decide) zs_14 (q := (RX5, TX5, 9)) rfl rfl (yc_X5_placeHere _ _ s67 hI70 f hT74) rfl rfl (Nat.le_of_ble_eq_true rfl) (by decide) (fun r88 s89 hr90 hp91 => ?_)
    obtain ⟨rfl, q92, q93, z94⟩ := hp91
    rw [hE78] at z94
    refine zt_istore_n (pc' := 74) (lv' := [some (.ref (X.1.1 + 34)), some (.int (zI r25)), some (.int (zI r66)), some (.int (zI r88)), none, none]) hX dX8_readPole_73 rfl hL (by decide) rfl ?_
    refine zt_aload_n (pc' := 75) hX dX8_readPole_74 rfl rfl ?_
    refine zt_get (pc' := 78) (v := .ref (X.1.1 + 27)) hX dX8_readPole_75 rfl zf_X8_9 (by decide) zc_34 zs_21 (zrf_of (zv_21_0 hI70 zc_34)) ?_
    refine zt_iconst (pc' := 79) hX dX8_readPole_78 rfl ?_
    refine zt_aload_n (pc' := 80) hX dX8_readPole_79 rfl rfl ?_
    have ek95 : s67 34 2 = ((7 : Nat) : Int) := by omega
    refine zt_get (pc' := 83) (v := .ref (X.1.1 + 7)) hX dX8_readPole_80 rfl zf_X8_19 (by decide) zc_34 zs_21 (zrf_of ek95) ?_
    have b96 := zv_8_11 hI70 zc_7
    refine zt_get (pc' := 86) (v := .int (zI (s67 7 11))) hX dX8_readPole_83 rfl zf_X8_100 (by decide) zc_7 zs_8 rfl ?_
    refine zt_iconst (pc' := 87) hX dX8_readPole_86 rfl ?_
    refine zt_isub (pc' := 88) hX dX8_readPole_87 rfl ?_
    refine zt_cVi (pc' := 91) hX dX8_readPole_88 rfl zm_yX5_takeNumber zw_18_18 zc_27 (by decide) zs_14 (q := (RX5, TX5, 9)) rfl rfl (yc_X5_takeNumber _ _ s67 hI70 0 ⟨by omega, by omega⟩ ((s67 7 11) - 1) ⟨by omega, by omega⟩ f hT74) rfl rfl (Nat.le_of_ble_eq_true rfl) (by decide) (fun r97 s98 hr99 hp100 => ?_)
    obtain ⟨hI101, hF102, q103, q104, hT105, z106, z107, z108⟩ := hp100
    have hE109 : yst s98 = yPn f 0 ((s67 7 11) - 1) (yPn f 0 ((s47 7 10) - 1) (yPw f 5 (yNam f (yPlc σ 7 9 10 11) (yPx f (yst σ))))) := by rw [z106, hE78]
    rw [hE78] at z107
    have hF110 := zOn_tr hF79 hF102 zi_r17
    rw [hE109] at z107
    have b111 := zv_8_10 hI101 zc_7
    have b112 := zv_8_11 hI101 zc_7
    have b113 := zv_8_12 hI101 zc_7
    have e114 := hF102 34 2 rfl
    have e115 := hF102 7 10 rfl
    have e116 := hF102 7 11 rfl
    have e117 := hF102 7 12 rfl
    have hQ118 := (yPlc_c (K := 7) (A := 9) (B := 10) (C := 11) (hF102 7 7 rfl) (hF102 7 8 rfl) (hF102 7 10 rfl) (hF102 7 11 rfl) (hF102 7 12 rfl) (fun j => hF102 9 j rfl) (fun j => hF102 10 j rfl) (fun j => hF102 11 j rfl)).trans hQ87
    refine zt_istore (pc' := 93) (lv' := [some (.ref (X.1.1 + 34)), some (.int (zI r25)), some (.int (zI r66)), some (.int (zI r88)), some (.int (zI r97)), none]) hX dX8_readPole_91 rfl hL (by decide) rfl ?_
    refine zt_aload_n (pc' := 94) hX dX8_readPole_93 rfl rfl ?_
    have ek119 : s98 34 2 = ((7 : Nat) : Int) := by omega
    refine zt_get (pc' := 97) (v := .ref (X.1.1 + 7)) hX dX8_readPole_94 rfl zf_X8_19 (by decide) zc_34 zs_21 (zrf_of ek119) ?_
    refine zt_iload_n (pc' := 98) hX dX8_readPole_97 rfl rfl ?_
    refine zt_iload (pc' := 100) hX dX8_readPole_98 rfl rfl ?_
    refine zt_cVz (pc' := 103) hX dX8_readPole_100 rfl zm_yX3_isHome zw_20_23 zc_7 (by decide) zs_8 (q := (RX3, TX3, 17)) rfl rfl (yc_X3_isHome_7 _ _ s98 hI101 r66 ⟨by omega, by omega⟩ r97 ⟨by omega, by omega⟩) rfl rfl (Nat.le_of_ble_eq_true rfl) (by decide) (fun r120 s121 hr122 hp123 => ?_)
    obtain ⟨rfl, q124, q125, z126⟩ := hp123
    rw [hQ118] at z126
    refine zt_ifeq (pc' := 106) (tgt := 115) hX dX8_readPole_103 rfl (by decide) ⟨by omega, by omega⟩ (fun c127 => ?_) (fun c127 => ?_)
    · refine zt_aload_n (pc' := 116) hX dX8_readPole_115 rfl rfl ?_
      refine zt_get (pc' := 119) (v := .ref (X.1.1 + 27)) hX dX8_readPole_116 rfl zf_X8_9 (by decide) zc_34 zs_21 (zrf_of (zv_21_0 hI101 zc_34)) ?_
      refine zt_bipush (pc' := 121) hX dX8_readPole_119 rfl (by decide) (by decide) ?_
      refine zt_cVv (pc' := 124) hX dX8_readPole_121 rfl zm_yX5_takeWord zw_18_2 zc_27 (by decide) zs_14 (q := (RX5, TX5, 9)) rfl rfl (yc_X5_takeWord _ _ s98 hI101 6 ⟨by omega, by omega⟩ f hT105) rfl rfl (Nat.le_of_ble_eq_true rfl) (by decide) (fun r128 s129 hr130 hp131 => ?_)
      obtain ⟨hI132, hF133, hT134, z135⟩ := hp131
      have hE136 : yst s129 = yPw f 6 (yPn f 0 ((s67 7 11) - 1) (yPn f 0 ((s47 7 10) - 1) (yPw f 5 (yNam f (yPlc σ 7 9 10 11) (yPx f (yst σ)))))) := by rw [z135, hE109]
      have hF137 := zOn_tr hF110 hF133 zi_r17
      have b138 := zv_8_10 hI132 zc_7
      have b139 := zv_8_11 hI132 zc_7
      have b140 := zv_8_12 hI132 zc_7
      have e141 := hF133 34 2 rfl
      have e142 := hF133 7 10 rfl
      have e143 := hF133 7 11 rfl
      have e144 := hF133 7 12 rfl
      have hQ145 := (yPlc_c (K := 7) (A := 9) (B := 10) (C := 11) (hF133 7 7 rfl) (hF133 7 8 rfl) (hF133 7 10 rfl) (hF133 7 11 rfl) (hF133 7 12 rfl) (fun j => hF133 9 j rfl) (fun j => hF133 10 j rfl) (fun j => hF133 11 j rfl)).trans hQ118
      refine zt_aload_n (pc' := 125) hX dX8_readPole_124 rfl rfl ?_
      refine zt_get (pc' := 128) (v := .ref (X.1.1 + 27)) hX dX8_readPole_125 rfl zf_X8_9 (by decide) zc_34 zs_21 (zrf_of (zv_21_0 hI132 zc_34)) ?_
      refine zt_iconst (pc' := 129) hX dX8_readPole_128 rfl ?_
      refine zt_bipush (pc' := 131) hX dX8_readPole_129 rfl (by decide) (by decide) ?_
      refine zt_cVi (pc' := 134) hX dX8_readPole_131 rfl zm_yX5_takeNumber zw_18_18 zc_27 (by decide) zs_14 (q := (RX5, TX5, 9)) rfl rfl (yc_X5_takeNumber _ _ s129 hI132 0 ⟨by omega, by omega⟩ 99 ⟨by omega, by omega⟩ f hT134) rfl rfl (Nat.le_of_ble_eq_true rfl) (by decide) (fun r146 s147 hr148 hp149 => ?_)
      obtain ⟨hI150, hF151, q152, q153, hT154, z155, z156, z157⟩ := hp149
      have hE158 : yst s147 = yPn f 0 99 (yPw f 6 (yPn f 0 ((s67 7 11) - 1) (yPn f 0 ((s47 7 10) - 1) (yPw f 5 (yNam f (yPlc σ 7 9 10 11) (yPx f (yst σ))))))) := by rw [z155, hE136]
      rw [hE136] at z156
      have hF159 := zOn_tr hF137 hF151 zi_r17
      rw [hE158] at z156
      have b160 := zv_8_10 hI150 zc_7
      have b161 := zv_8_11 hI150 zc_7
      have b162 := zv_8_12 hI150 zc_7
      have e163 := hF151 34 2 rfl
      have e164 := hF151 7 10 rfl
      have e165 := hF151 7 11 rfl
      have e166 := hF151 7 12 rfl
      have hQ167 := (yPlc_c (K := 7) (A := 9) (B := 10) (C := 11) (hF151 7 7 rfl) (hF151 7 8 rfl) (hF151 7 10 rfl) (hF151 7 11 rfl) (hF151 7 12 rfl) (fun j => hF151 9 j rfl) (fun j => hF151 10 j rfl) (fun j => hF151 11 j rfl)).trans hQ145
      refine zt_istore (pc' := 136) (lv' := [some (.ref (X.1.1 + 34)), some (.int (zI r25)), some (.int (zI r66)), some (.int (zI r88)), some (.int (zI r97)), some (.int (zI r146))]) hX dX8_readPole_134 rfl hL (by decide) rfl ?_
      refine zt_aload_n (pc' := 137) hX dX8_readPole_136 rfl rfl ?_
      have ek168 : s147 34 2 = ((7 : Nat) : Int) := by omega
      refine zt_get (pc' := 140) (v := .ref (X.1.1 + 7)) hX dX8_readPole_137 rfl zf_X8_19 (by decide) zc_34 zs_21 (zrf_of ek168) ?_
      refine zt_iload_n (pc' := 141) hX dX8_readPole_140 rfl rfl ?_
      refine zt_iload_n (pc' := 142) hX dX8_readPole_141 rfl rfl ?_
      refine zt_iload (pc' := 144) hX dX8_readPole_142 rfl rfl ?_
      refine zt_iload (pc' := 146) hX dX8_readPole_144 rfl rfl ?_
      refine zt_cVv (pc' := 149) hX dX8_readPole_146 rfl zm_yX3_addPerson zw_21_3 zc_7 (by decide) zs_8 (q := (RX3, TX3, 17)) rfl rfl (yc_X3_addPerson_7 _ _ s147 hI150 r25 ⟨by omega, by omega⟩ r66 ⟨by omega, by omega⟩ r97 ⟨by omega, by omega⟩ r146 ⟨by omega, by omega⟩ (by omega)) rfl rfl (Nat.le_of_ble_eq_true rfl) (by decide) (fun r169 s170 hr171 hp172 => ?_)
      obtain ⟨hI173, hF174, z175⟩ := hp172
      have hF176 := zOn_tr hF159 hF174 zi_q7
      have hT177 := yTk_rk hT154 (yRk_q7 hF174)
      have hE178 : yst s170 = yPn f 0 99 (yPw f 6 (yPn f 0 ((s67 7 11) - 1) (yPn f 0 ((s47 7 10) - 1) (yPw f 5 (yNam f (yPlc σ 7 9 10 11) (yPx f (yst σ))))))) := (yst_rk (yRk_q7 hF174)).trans hE158
      have b179 := zv_8_10 hI173 zc_7
      have b180 := zv_8_11 hI173 zc_7
      have b181 := zv_8_12 hI173 zc_7
      have e182 := hF174 34 2 rfl
      have hQ183 : yPlc s170 7 9 10 11 = (yPl.wnh (yPlc σ 7 9 10 11) ((yPlc σ 7 9 10 11).nm ++ [r25]) ((yPlc σ 7 9 10 11).hm ++ [r66 + 6 * r97])) := by rw [z175, hQ167]
      have i1 : yPw f 5 (yNam f (yPlc σ 7 9 10 11) (yPx f (yst σ))) = yPo1 f (yPlc σ 7 9 10 11) (yst σ) := rfl
      have i2 : yPn f 0 ((s47 7 10) - 1) (yPw f 5 (yNam f (yPlc σ 7 9 10 11) (yPx f (yst σ)))) = yPo2 f (yPlc σ 7 9 10 11) (yst σ) := by rw [show s47 7 10 = σ 7 10 by omega]; rfl
      have i3 : yPn f 0 ((s67 7 11) - 1) (yPn f 0 ((s47 7 10) - 1) (yPw f 5 (yNam f (yPlc σ 7 9 10 11) (yPx f (yst σ))))) = yPo3 f (yPlc σ 7 9 10 11) (yst σ) := by rw [show s47 7 10 = σ 7 10 by omega, show s67 7 11 = σ 7 11 by omega]; rfl
      have i4 := yPo4_0 (f := f) (P := (yPlc σ 7 9 10 11)) (s := (yst σ)) (fun o => by rw [← i3] at o; have t4 := z107 o; have o4 := yPo_n o; have t2 := z76 o4; rw [← i1, ← i2]; exact ⟨t2, t4⟩) (fun m => absurd (z126.1 m) (by omega))
      have i5 : yst s170 = yPol f (yPlc σ 7 9 10 11) (yst σ) := hE178.trans (by rw [i3, i4]; unfold yPol; rw [if_neg (by rw [yPlc_len]; omega)])
      exact zt_vret hX hR dX8_readPole_149 ⟨hI173, hF176, hT177, i5, (fun o => by rw [hE178] at o; have o7 := yPo_n o; have o6 := yPo_w o7; have t4 := z107 o6; have o5 := yPo_n o6; have t2 := z76 o5; have o4 := yPo_n o5; have o3 := yPo_w o4; have t1 := z35 o3; rw [hQ183, t1, t4, i2, t2, i1]; rfl)⟩
    · refine zt_aload_n (pc' := 107) hX dX8_readPole_106 rfl rfl ?_
      refine zt_get (pc' := 110) (v := .ref (X.1.1 + 27)) hX dX8_readPole_107 rfl zf_X8_9 (by decide) zc_34 zs_21 (zrf_of (zv_21_0 hI101 zc_34)) ?_
      refine zt_iconst (pc' := 111) hX dX8_readPole_110 rfl ?_
      refine zt_iload_n (pc' := 112) hX dX8_readPole_111 rfl rfl ?_
      refine zt_cVv (pc' := 115) hX dX8_readPole_112 rfl zm_yX5_refuse zw_20_11 zc_27 (by decide) zs_14 (q := (RX5, TX5, 9)) rfl rfl (yc_X5_refuse _ _ s98 hI101 2 ⟨by omega, by omega⟩ r88 ⟨by omega, by omega⟩ (by omega) f hT105) rfl rfl (Nat.le_of_ble_eq_true rfl) (by decide) (fun r184 s185 hr186 hp187 => ?_)
      obtain ⟨hI188, hF189, hT190, z191⟩ := hp187
      have hE192 : yst s185 = yPno 2 r88 (yPn f 0 ((s67 7 11) - 1) (yPn f 0 ((s47 7 10) - 1) (yPw f 5 (yNam f (yPlc σ 7 9 10 11) (yPx f (yst σ)))))) := by rw [z191, hE109]
      have hF193 := zOn_tr hF110 hF189 zi_r17
      have b194 := zv_8_10 hI188 zc_7
      have b195 := zv_8_11 hI188 zc_7
      have b196 := zv_8_12 hI188 zc_7
      have e197 := hF189 34 2 rfl
      have e198 := hF189 7 10 rfl
      have e199 := hF189 7 11 rfl
      have e200 := hF189 7 12 rfl
      have hQ201 := (yPlc_c (K := 7) (A := 9) (B := 10) (C := 11) (hF189 7 7 rfl) (hF189 7 8 rfl) (hF189 7 10 rfl) (hF189 7 11 rfl) (hF189 7 12 rfl) (fun j => hF189 9 j rfl) (fun j => hF189 10 j rfl) (fun j => hF189 11 j rfl)).trans hQ118
      refine zt_aload_n (pc' := 116) hX dX8_readPole_115 rfl rfl ?_
      refine zt_get (pc' := 119) (v := .ref (X.1.1 + 27)) hX dX8_readPole_116 rfl zf_X8_9 (by decide) zc_34 zs_21 (zrf_of (zv_21_0 hI188 zc_34)) ?_
      refine zt_bipush (pc' := 121) hX dX8_readPole_119 rfl (by decide) (by decide) ?_
      refine zt_cVv (pc' := 124) hX dX8_readPole_121 rfl zm_yX5_takeWord zw_18_2 zc_27 (by decide) zs_14 (q := (RX5, TX5, 9)) rfl rfl (yc_X5_takeWord _ _ s185 hI188 6 ⟨by omega, by omega⟩ f hT190) rfl rfl (Nat.le_of_ble_eq_true rfl) (by decide) (fun r202 s203 hr204 hp205 => ?_)
      obtain ⟨hI206, hF207, hT208, z209⟩ := hp205
      have hE210 : yst s203 = yPw f 6 (yPno 2 r88 (yPn f 0 ((s67 7 11) - 1) (yPn f 0 ((s47 7 10) - 1) (yPw f 5 (yNam f (yPlc σ 7 9 10 11) (yPx f (yst σ))))))) := by rw [z209, hE192]
      have hF211 := zOn_tr hF193 hF207 zi_r17
      have b212 := zv_8_10 hI206 zc_7
      have b213 := zv_8_11 hI206 zc_7
      have b214 := zv_8_12 hI206 zc_7
      have e215 := hF207 34 2 rfl
      have e216 := hF207 7 10 rfl
      have e217 := hF207 7 11 rfl
      have e218 := hF207 7 12 rfl
      have hQ219 := (yPlc_c (K := 7) (A := 9) (B := 10) (C := 11) (hF207 7 7 rfl) (hF207 7 8 rfl) (hF207 7 10 rfl) (hF207 7 11 rfl) (hF207 7 12 rfl) (fun j => hF207 9 j rfl) (fun j => hF207 10 j rfl) (fun j => hF207 11 j rfl)).trans hQ201
      refine zt_aload_n (pc' := 125) hX dX8_readPole_124 rfl rfl ?_
      refine zt_get (pc' := 128) (v := .ref (X.1.1 + 27)) hX dX8_readPole_125 rfl zf_X8_9 (by decide) zc_34 zs_21 (zrf_of (zv_21_0 hI206 zc_34)) ?_
      refine zt_iconst (pc' := 129) hX dX8_readPole_128 rfl ?_
      refine zt_bipush (pc' := 131) hX dX8_readPole_129 rfl (by decide) (by decide) ?_
      refine zt_cVi (pc' := 134) hX dX8_readPole_131 rfl zm_yX5_takeNumber zw_18_18 zc_27 (by decide) zs_14 (q := (RX5, TX5, 9)) rfl rfl (yc_X5_takeNumber _ _ s203 hI206 0 ⟨by omega, by omega⟩ 99 ⟨by omega, by omega⟩ f hT208) rfl rfl (Nat.le_of_ble_eq_true rfl) (by decide) (fun r220 s221 hr222 hp223 => ?_)
      obtain ⟨hI224, hF225, q226, q227, hT228, z229, z230, z231⟩ := hp223
      have hE232 : yst s221 = yPn f 0 99 (yPw f 6 (yPno 2 r88 (yPn f 0 ((s67 7 11) - 1) (yPn f 0 ((s47 7 10) - 1) (yPw f 5 (yNam f (yPlc σ 7 9 10 11) (yPx f (yst σ)))))))) := by rw [z229, hE210]
      rw [hE210] at z230
      have hF233 := zOn_tr hF211 hF225 zi_r17
      rw [hE232] at z230
      have b234 := zv_8_10 hI224 zc_7
      have b235 := zv_8_11 hI224 zc_7
      have b236 := zv_8_12 hI224 zc_7
      have e237 := hF225 34 2 rfl
      have e238 := hF225 7 10 rfl
      have e239 := hF225 7 11 rfl
      have e240 := hF225 7 12 rfl
      have hQ241 := (yPlc_c (K := 7) (A := 9) (B := 10) (C := 11) (hF225 7 7 rfl) (hF225 7 8 rfl) (hF225 7 10 rfl) (hF225 7 11 rfl) (hF225 7 12 rfl) (fun j => hF225 9 j rfl) (fun j => hF225 10 j rfl) (fun j => hF225 11 j rfl)).trans hQ219
      refine zt_istore (pc' := 136) (lv' := [some (.ref (X.1.1 + 34)), some (.int (zI r25)), some (.int (zI r66)), some (.int (zI r88)), some (.int (zI r97)), some (.int (zI r220))]) hX dX8_readPole_134 rfl hL (by decide) rfl ?_
      refine zt_aload_n (pc' := 137) hX dX8_readPole_136 rfl rfl ?_
      have ek242 : s221 34 2 = ((7 : Nat) : Int) := by omega
      refine zt_get (pc' := 140) (v := .ref (X.1.1 + 7)) hX dX8_readPole_137 rfl zf_X8_19 (by decide) zc_34 zs_21 (zrf_of ek242) ?_
      refine zt_iload_n (pc' := 141) hX dX8_readPole_140 rfl rfl ?_
      refine zt_iload_n (pc' := 142) hX dX8_readPole_141 rfl rfl ?_
      refine zt_iload (pc' := 144) hX dX8_readPole_142 rfl rfl ?_
      refine zt_iload (pc' := 146) hX dX8_readPole_144 rfl rfl ?_
      refine zt_cVv (pc' := 149) hX dX8_readPole_146 rfl zm_yX3_addPerson zw_21_3 zc_7 (by decide) zs_8 (q := (RX3, TX3, 17)) rfl rfl (yc_X3_addPerson_7 _ _ s221 hI224 r25 ⟨by omega, by omega⟩ r66 ⟨by omega, by omega⟩ r97 ⟨by omega, by omega⟩ r220 ⟨by omega, by omega⟩ (by omega)) rfl rfl (Nat.le_of_ble_eq_true rfl) (by decide) (fun r243 s244 hr245 hp246 => ?_)
      obtain ⟨hI247, hF248, z249⟩ := hp246
      have hF250 := zOn_tr hF233 hF248 zi_q7
      have hT251 := yTk_rk hT228 (yRk_q7 hF248)
      have hE252 : yst s244 = yPn f 0 99 (yPw f 6 (yPno 2 r88 (yPn f 0 ((s67 7 11) - 1) (yPn f 0 ((s47 7 10) - 1) (yPw f 5 (yNam f (yPlc σ 7 9 10 11) (yPx f (yst σ)))))))) := (yst_rk (yRk_q7 hF248)).trans hE232
      have b253 := zv_8_10 hI247 zc_7
      have b254 := zv_8_11 hI247 zc_7
      have b255 := zv_8_12 hI247 zc_7
      have e256 := hF248 34 2 rfl
      have hQ257 : yPlc s244 7 9 10 11 = (yPl.wnh (yPlc σ 7 9 10 11) ((yPlc σ 7 9 10 11).nm ++ [r25]) ((yPlc σ 7 9 10 11).hm ++ [r66 + 6 * r97])) := by rw [z249, hQ241]
      have i1 : yPw f 5 (yNam f (yPlc σ 7 9 10 11) (yPx f (yst σ))) = yPo1 f (yPlc σ 7 9 10 11) (yst σ) := rfl
      have i2 : yPn f 0 ((s47 7 10) - 1) (yPw f 5 (yNam f (yPlc σ 7 9 10 11) (yPx f (yst σ)))) = yPo2 f (yPlc σ 7 9 10 11) (yst σ) := by rw [show s47 7 10 = σ 7 10 by omega]; rfl
      have i3 : yPn f 0 ((s67 7 11) - 1) (yPn f 0 ((s47 7 10) - 1) (yPw f 5 (yNam f (yPlc σ 7 9 10 11) (yPx f (yst σ))))) = yPo3 f (yPlc σ 7 9 10 11) (yst σ) := by rw [show s47 7 10 = σ 7 10 by omega, show s67 7 11 = σ 7 11 by omega]; rfl
      have i4 := yPo4_1 (f := f) (P := (yPlc σ 7 9 10 11)) (s := (yst σ)) (fun o => by rw [← i3] at o; have t4 := z107 o; have o4 := yPo_n o; have t2 := z76 o4; have t3 := z94 o4; rw [← i1, ← i2]; exact ⟨t3, t2, t4⟩) (Decidable.byContradiction (fun m => absurd (z126.2 m) (by omega)))
      have i5 : yst s244 = yPol f (yPlc σ 7 9 10 11) (yst σ) := hE252.trans (by rw [i3, i4]; unfold yPol; rw [if_neg (by rw [yPlc_len]; omega)])
      exact zt_vret hX hR dX8_readPole_149 ⟨hI247, hF250, hT251, i5, (fun o => by rw [hE252] at o; have o7 := yPo_n o; have o6 := yPo_w o7; rw [yPo_no] at o6; exact absurd o6 (by decide))⟩
  · refine zt_aload_n (pc' := 13) hX dX8_readPole_12 rfl rfl ?_
    refine zt_get (pc' := 16) (v := .ref (X.1.1 + 27)) hX dX8_readPole_13 rfl zf_X8_9 (by decide) zc_34 zs_21 (zrf_of (zv_21_0 hI zc_34)) ?_
    refine zt_iconst (pc' := 17) hX dX8_readPole_16 rfl ?_
    refine zt_aload_n (pc' := 18) hX dX8_readPole_17 rfl rfl ?_
    refine zt_get (pc' := 21) (v := .ref (X.1.1 + 27)) hX dX8_readPole_18 rfl zf_X8_9 (by decide) zc_34 zs_21 (zrf_of (zv_21_0 hI zc_34)) ?_
    refine zt_cVi (pc' := 24) hX dX8_readPole_21 rfl zm_yX5_placeHere zw_20_7 zc_27 (by decide) zs_14 (q := (RX5, TX5, 9)) rfl rfl (yc_X5_placeHere _ _ σ hI f hT) rfl rfl (Nat.le_of_ble_eq_true rfl) (by decide) (fun r258 s259 hr260 hp261 => ?_)
    obtain ⟨rfl, q262, q263, z264⟩ := hp261
    refine zt_cVv (pc' := 27) hX dX8_readPole_24 rfl zm_yX5_refuse zw_20_11 zc_27 (by decide) zs_14 (q := (RX5, TX5, 9)) rfl rfl (yc_X5_refuse _ _ σ hI 5 ⟨by omega, by omega⟩ r258 ⟨by omega, by omega⟩ (by omega) f hT) rfl rfl (Nat.le_of_ble_eq_true rfl) (by decide) (fun r265 s266 hr267 hp268 => ?_)
    obtain ⟨hI269, hF270, hT271, z272⟩ := hp268
    have hE273 : yst s266 = yPno 5 r258 (yst σ) := z272
    have hF274 := zOn_tr hF hF270 zi_r17
    have b275 := zv_8_10 hI269 zc_7
    have b276 := zv_8_11 hI269 zc_7
    have b277 := zv_8_12 hI269 zc_7
    have e278 := hF270 34 2 rfl
    have e279 := hF270 7 10 rfl
    have e280 := hF270 7 11 rfl
    have e281 := hF270 7 12 rfl
    have hQ282 := (yPlc_c (K := 7) (A := 9) (B := 10) (C := 11) (hF270 7 7 rfl) (hF270 7 8 rfl) (hF270 7 10 rfl) (hF270 7 11 rfl) (hF270 7 12 rfl) (fun j => hF270 9 j rfl) (fun j => hF270 10 j rfl) (fun j => hF270 11 j rfl)).trans hQ0
    exact zt_vret hX hR dX8_readPole_27 ⟨hI269, hF274, hT271, hE273.trans (by unfold yPol; rw [if_pos (by rw [yPlc_len]; omega)]; exact yPno_f (fun o => by omega)), fun o => by rw [hE273, yPo_no] at o; exact absurd o (by decide)⟩
set_option maxRecDepth 100000 in
set_option maxHeartbeats 4000000 in
theorem yc_X8_readAdds_7 (l : Launch) (E : zEN) (σ : zSto) (hI : zInv σ) (hpre0 : σ 34 2 = 7) (f : Int → Int) (hT : yTk f σ) : zCt l E yX8_readAdds cX8_readAdds 1 none 31 zNC zNC 0 0 σ [.ref (E.1 + 34)] (fun r σ' => zInv σ' ∧ zOn zR7 σ σ' ∧ yTk f σ' ∧ ((yst σ') = yAds f (yPlc σ 7 9 10 11) (yst σ)) ∧ (yPo (yst σ') = 1 → yPlc σ' 7 9 10 11 = yPl.wad (yPlc σ 7 9 10 11) 1)) := by
  refine zCt_of2 [some (.ref (E.1 + 34))] (by decide +kernel) (Nat.le_of_ble_eq_true rfl) rfl ?_
  intro X hE_ hX hR hL hN
  subst hE_
  have hX : zok X cX8_readAdds RX8 31 := hX
  have hF := zOn_rf zR7 σ
  have hQ0 : yPlc σ 7 9 10 11 = yPlc σ 7 9 10 11 := rfl
  have hE0 : yst σ = yst σ := rfl
  have b1 := zv_8_10 hI zc_7
  have b2 := zv_8_11 hI zc_7
  have b3 := zv_8_7 hI zc_7
  refine zt_aload_n (pc' := 1) hX dX8_readAdds_0 rfl rfl ?_
  have ek4 : σ 34 2 = ((7 : Nat) : Int) := by omega
  refine zt_get (pc' := 4) (v := .ref (X.1.1 + 7)) hX dX8_readAdds_1 rfl zf_X8_19 (by decide) zc_34 zs_21 (zrf_of ek4) ?_
  have b5 := zv_8_7 hI zc_7
  refine zt_get (pc' := 7) (v := .int (zI (σ 7 7))) hX dX8_readAdds_4 rfl zf_X8_137 (by decide) zc_7 zs_8 rfl ?_
  refine zt_ifeq (pc' := 10) (tgt := 26) hX dX8_readAdds_7 rfl (by decide) ⟨by omega, by omega⟩ (fun c6 => ?_) (fun c6 => ?_)
  · refine zt_aload_n (pc' := 27) hX dX8_readAdds_26 rfl rfl ?_
    refine zt_get (pc' := 30) (v := .ref (X.1.1 + 7)) hX dX8_readAdds_27 rfl zf_X8_19 (by decide) zc_34 zs_21 (zrf_of ek4) ?_
    refine zt_iconst (pc' := 31) hX dX8_readAdds_30 rfl ?_
    refine zt_put (pc' := 34) (x := 1) hX dX8_readAdds_31 rfl zf_X8_137 (by decide) zc_7 zs_8 (fun q hq => by cases hq; rfl) rfl (zfit_z (by omega) (by omega)).1 (zfit_z (by omega) (by omega)).2 ?_
    generalize hs8 : zset σ 7 7 1 = s7
    have hI9 : zInv s7 := hs8 ▸ zp_8_7 hI zc_7 ⟨by omega, by omega⟩
    have hF10 : zOn zR7 σ s7 := hs8 ▸ zOn_set hF rfl
    have hT11 := yTk_rk hT (yRk_set hs8 zc_7 (by decide))
    have hE12 : yst s7 = (yst σ) := (yst_rk (yRk_set hs8 zc_7 (by decide))).trans hE0
    have hQ13 : yPlc s7 7 9 10 11 = (yPl.wad (yPlc σ 7 9 10 11) 1) := (yPlc_ad hs8 (by decide)).trans (by rw [hQ0])
    have e14 : s7 34 2 = σ 34 2 := by rw [← hs8]; exact zset_k (zne_r zc_34 zc_7 (by decide))
    have e15 : s7 7 10 = σ 7 10 := by rw [← hs8]; exact zset_j (by decide)
    have e16 : s7 7 11 = σ 7 11 := by rw [← hs8]; exact zset_j (by decide)
    have e17 : s7 7 7 = 1 := by rw [← hs8]; exact zset_s
    refine zt_aload_n (pc' := 35) hX dX8_readAdds_34 rfl rfl ?_
    refine zt_get (pc' := 38) (v := .ref (X.1.1 + 27)) hX dX8_readAdds_35 rfl zf_X8_9 (by decide) zc_34 zs_21 (zrf_of (zv_21_0 hI9 zc_34)) ?_
    refine zt_cVv (pc' := 41) hX dX8_readAdds_38 rfl zm_yX5_step zw_19_21 zc_27 (by decide) zs_14 (q := (RX5, TX5, 9)) rfl rfl (yc_X5_step _ _ s7 hI9 f hT11) rfl rfl (Nat.le_of_ble_eq_true rfl) (by decide) (fun r18 s19 hr20 hp21 => ?_)
    obtain ⟨hI22, hF23, hT24, z25⟩ := hp21
    have hE26 : yst s19 = yPx f (yst σ) := by rw [z25, hE12]
    have hF27 := zOn_tr hF10 hF23 zi_r17
    have b28 := zv_8_10 hI22 zc_7
    have b29 := zv_8_11 hI22 zc_7
    have b30 := zv_8_7 hI22 zc_7
    have e31 := hF23 34 2 rfl
    have e32 := hF23 7 10 rfl
    have e33 := hF23 7 11 rfl
    have e34 := hF23 7 7 rfl
    have hQ35 := (yPlc_c (K := 7) (A := 9) (B := 10) (C := 11) (hF23 7 7 rfl) (hF23 7 8 rfl) (hF23 7 10 rfl) (hF23 7 11 rfl) (hF23 7 12 rfl) (fun j => hF23 9 j rfl) (fun j => hF23 10 j rfl) (fun j => hF23 11 j rfl)).trans hQ13
    refine zt_aload_n (pc' := 42) hX dX8_readAdds_41 rfl rfl ?_
    refine zt_get (pc' := 45) (v := .ref (X.1.1 + 33)) hX dX8_readAdds_42 rfl zf_X8_15 (by decide) zc_34 zs_21 (zrf_of (zv_21_1 hI22 zc_34)) ?_
    refine zt_aload_n (pc' := 46) hX dX8_readAdds_45 rfl rfl ?_
    have ek36 : s19 34 2 = ((7 : Nat) : Int) := by omega
    refine zt_get (pc' := 49) (v := .ref (X.1.1 + 7)) hX dX8_readAdds_46 rfl zf_X8_19 (by decide) zc_34 zs_21 (zrf_of ek36) ?_
    refine zt_get (pc' := 52) (v := .ref (X.1.1 + 13)) hX dX8_readAdds_49 rfl zf_X8_141 (by decide) zc_7 zs_8 (zrf_of (zv_8_5 hI22 zc_7)) ?_
    refine zt_iconst (pc' := 53) hX dX8_readAdds_52 rfl ?_
    refine zt_cVv (pc' := 56) hX dX8_readAdds_53 rfl zm_yX1_readSum zw_21_14 zc_33 (by decide) zs_20 (q := (RX1, TX1, 3)) rfl rfl (yc_X1_readSum _ _ s19 hI22 13 zc_13 0 ⟨by omega, by omega⟩ f hT24) rfl rfl (Nat.le_of_ble_eq_true rfl) (by decide) (fun r37 s38 hr39 hp40 => ?_)
    obtain ⟨hI41, hF42, hT43, z44⟩ := hp40
    have hE45 : yst s38 = ySm 0 f (yPx f (yst σ)) := by rw [z44, hE26]
    have hF46 := zOn_tr hF27 hF42 zi_47
    have b47 := zv_8_10 hI41 zc_7
    have b48 := zv_8_11 hI41 zc_7
    have b49 := zv_8_7 hI41 zc_7
    have e50 := hF42 34 2 rfl
    have e51 := hF42 7 10 rfl
    have e52 := hF42 7 11 rfl
    have e53 := hF42 7 7 rfl
    have hQ54 := (yPlc_c (K := 7) (A := 9) (B := 10) (C := 11) (hF42 7 7 rfl) (hF42 7 8 rfl) (hF42 7 10 rfl) (hF42 7 11 rfl) (hF42 7 12 rfl) (fun j => hF42 9 j rfl) (fun j => hF42 10 j rfl) (fun j => hF42 11 j rfl)).trans hQ35
    refine zt_aload_n (pc' := 57) hX dX8_readAdds_56 rfl rfl ?_
    have ek55 : s38 34 2 = ((7 : Nat) : Int) := by omega
    refine zt_get (pc' := 60) (v := .ref (X.1.1 + 7)) hX dX8_readAdds_57 rfl zf_X8_19 (by decide) zc_34 zs_21 (zrf_of ek55) ?_
    refine zt_aload_n (pc' := 61) hX dX8_readAdds_60 rfl rfl ?_
    refine zt_get (pc' := 64) (v := .ref (X.1.1 + 7)) hX dX8_readAdds_61 rfl zf_X8_19 (by decide) zc_34 zs_21 (zrf_of ek55) ?_
    refine zt_get (pc' := 67) (v := .ref (X.1.1 + 13)) hX dX8_readAdds_64 rfl zf_X8_141 (by decide) zc_7 zs_8 (zrf_of (zv_8_5 hI41 zc_7)) ?_
    refine zt_bipush (pc' := 69) hX dX8_readAdds_67 rfl (by decide) (by decide) ?_
    refine zt_cVz (pc' := 72) hX dX8_readAdds_69 rfl zm_yX4_hasStep zw_23_12 zc_13 (by decide) zs_6 (q := (RX4, TX4, 2)) rfl rfl (yc_X4_hasStep _ _ s38 hI41 13 zc_13 12 ⟨by omega, by omega⟩) rfl rfl (Nat.le_of_ble_eq_true rfl) (by decide) (fun r56 s57 hr58 hp59 => ?_)
    obtain ⟨rfl, q60, q61⟩ := hp59
    refine zt_put (pc' := 75) (x := r56) hX dX8_readAdds_72 rfl zf_X8_156 (by decide) zc_7 zs_8 (fun q hq => by cases hq; rfl) rfl (zfit_z (by omega) (by omega)).1 (zfit_z (by omega) (by omega)).2 ?_
    generalize hs63 : zset s38 7 9 r56 = s62
    have hI64 : zInv s62 := hs63 ▸ zp_8_9 hI41 zc_7 ⟨by omega, by omega⟩
    have hF65 : zOn zR7 σ s62 := hs63 ▸ zOn_set hF46 rfl
    have hT66 := yTk_rk hT43 (yRk_set hs63 zc_7 (by decide))
    have hE67 : yst s62 = ySm 0 f (yPx f (yst σ)) := (yst_rk (yRk_set hs63 zc_7 (by decide))).trans hE45
    have hQ68 := (yPlc_pj (A := 9) (B := 10) (C := 11) hs63 (by decide) (by decide)).trans hQ54
    have e69 : s62 34 2 = s38 34 2 := by rw [← hs63]; exact zset_k (zne_r zc_34 zc_7 (by decide))
    have e70 : s62 7 10 = s38 7 10 := by rw [← hs63]; exact zset_j (by decide)
    have e71 : s62 7 11 = s38 7 11 := by rw [← hs63]; exact zset_j (by decide)
    have e72 : s62 7 7 = s38 7 7 := by rw [← hs63]; exact zset_j (by decide)
    exact zt_vret hX hR dX8_readAdds_75 ⟨hI64, hF65, hT66, hE67.trans (by unfold yAds; rw [if_neg (show ¬ (yPlc σ 7 9 10 11).ad ≠ 0 from by show ¬ σ 7 7 ≠ 0; omega)]), (fun _ => hQ68)⟩
  · refine zt_aload_n (pc' := 11) hX dX8_readAdds_10 rfl rfl ?_
    refine zt_get (pc' := 14) (v := .ref (X.1.1 + 27)) hX dX8_readAdds_11 rfl zf_X8_9 (by decide) zc_34 zs_21 (zrf_of (zv_21_0 hI zc_34)) ?_
    refine zt_iconst (pc' := 15) hX dX8_readAdds_14 rfl ?_
    refine zt_aload_n (pc' := 16) hX dX8_readAdds_15 rfl rfl ?_
    refine zt_get (pc' := 19) (v := .ref (X.1.1 + 27)) hX dX8_readAdds_16 rfl zf_X8_9 (by decide) zc_34 zs_21 (zrf_of (zv_21_0 hI zc_34)) ?_
    refine zt_cVi (pc' := 22) hX dX8_readAdds_19 rfl zm_yX5_placeHere zw_20_7 zc_27 (by decide) zs_14 (q := (RX5, TX5, 9)) rfl rfl (yc_X5_placeHere _ _ σ hI f hT) rfl rfl (Nat.le_of_ble_eq_true rfl) (by decide) (fun r73 s74 hr75 hp76 => ?_)
    obtain ⟨rfl, q77, q78, z79⟩ := hp76
    refine zt_cVv (pc' := 25) hX dX8_readAdds_22 rfl zm_yX5_refuse zw_20_11 zc_27 (by decide) zs_14 (q := (RX5, TX5, 9)) rfl rfl (yc_X5_refuse _ _ σ hI 5 ⟨by omega, by omega⟩ r73 ⟨by omega, by omega⟩ (by omega) f hT) rfl rfl (Nat.le_of_ble_eq_true rfl) (by decide) (fun r80 s81 hr82 hp83 => ?_)
    obtain ⟨hI84, hF85, hT86, z87⟩ := hp83
    have hE88 : yst s81 = yPno 5 r73 (yst σ) := z87
    have hF89 := zOn_tr hF hF85 zi_r17
    have b90 := zv_8_10 hI84 zc_7
    have b91 := zv_8_11 hI84 zc_7
    have b92 := zv_8_7 hI84 zc_7
    have e93 := hF85 34 2 rfl
    have e94 := hF85 7 10 rfl
    have e95 := hF85 7 11 rfl
    have e96 := hF85 7 7 rfl
    have hQ97 := (yPlc_c (K := 7) (A := 9) (B := 10) (C := 11) (hF85 7 7 rfl) (hF85 7 8 rfl) (hF85 7 10 rfl) (hF85 7 11 rfl) (hF85 7 12 rfl) (fun j => hF85 9 j rfl) (fun j => hF85 10 j rfl) (fun j => hF85 11 j rfl)).trans hQ0
    exact zt_vret hX hR dX8_readAdds_25 ⟨hI84, hF89, hT86, hE88.trans (by unfold yAds; rw [if_pos (show (yPlc σ 7 9 10 11).ad ≠ 0 from by show σ 7 7 ≠ 0; omega)]; exact yPno_f (fun o => by omega)), fun o => by rw [hE88, yPo_no] at o; exact absurd o (by decide)⟩
set_option maxRecDepth 100000 in
set_option maxHeartbeats 4000000 in
theorem yc_X8_readHolds_7 (l : Launch) (E : zEN) (σ : zSto) (hI : zInv σ) (hpre0 : σ 34 2 = 7) (f : Int → Int) (hT : yTk f σ) : zCt l E yX8_readHolds cX8_readHolds 1 none 35 zNC zNC 0 0 σ [.ref (E.1 + 34)] (fun r σ' => zInv σ' ∧ zOn zR7 σ σ' ∧ yTk f σ' ∧ ((yst σ') = yHos f (yPlc σ 7 9 10 11) (yst σ)) ∧ (yPo (yst σ') = 1 → yPlc σ' 7 9 10 11 = yPl.who (yPlc σ 7 9 10 11) 1)) := by
  refine zCt_of2 [some (.ref (E.1 + 34))] (by decide +kernel) (Nat.le_of_ble_eq_true rfl) rfl ?_
  intro X hE_ hX hR hL hN
  subst hE_
  have hX : zok X cX8_readHolds RX8 35 := hX
  have hF := zOn_rf zR7 σ
  have hQ0 : yPlc σ 7 9 10 11 = yPlc σ 7 9 10 11 := rfl
  have hE0 : yst σ = yst σ := rfl
  have b1 := zv_8_10 hI zc_7
  have b2 := zv_8_11 hI zc_7
  have b3 := zv_8_8 hI zc_7
  refine zt_aload_n (pc' := 1) hX dX8_readHolds_0 rfl rfl ?_
  have ek4 : σ 34 2 = ((7 : Nat) : Int) := by omega
  refine zt_get (pc' := 4) (v := .ref (X.1.1 + 7)) hX dX8_readHolds_1 rfl zf_X8_19 (by decide) zc_34 zs_21 (zrf_of ek4) ?_
  have b5 := zv_8_8 hI zc_7
  refine zt_get (pc' := 7) (v := .int (zI (σ 7 8))) hX dX8_readHolds_4 rfl zf_X8_159 (by decide) zc_7 zs_8 rfl ?_
  refine zt_ifeq (pc' := 10) (tgt := 26) hX dX8_readHolds_7 rfl (by decide) ⟨by omega, by omega⟩ (fun c6 => ?_) (fun c6 => ?_)
  · refine zt_aload_n (pc' := 27) hX dX8_readHolds_26 rfl rfl ?_
    refine zt_get (pc' := 30) (v := .ref (X.1.1 + 7)) hX dX8_readHolds_27 rfl zf_X8_19 (by decide) zc_34 zs_21 (zrf_of ek4) ?_
    refine zt_iconst (pc' := 31) hX dX8_readHolds_30 rfl ?_
    refine zt_put (pc' := 34) (x := 1) hX dX8_readHolds_31 rfl zf_X8_159 (by decide) zc_7 zs_8 (fun q hq => by cases hq; rfl) rfl (zfit_z (by omega) (by omega)).1 (zfit_z (by omega) (by omega)).2 ?_
    generalize hs8 : zset σ 7 8 1 = s7
    have hI9 : zInv s7 := hs8 ▸ zp_8_8 hI zc_7 ⟨by omega, by omega⟩
    have hF10 : zOn zR7 σ s7 := hs8 ▸ zOn_set hF rfl
    have hT11 := yTk_rk hT (yRk_set hs8 zc_7 (by decide))
    have hE12 : yst s7 = (yst σ) := (yst_rk (yRk_set hs8 zc_7 (by decide))).trans hE0
    have hQ13 : yPlc s7 7 9 10 11 = (yPl.who (yPlc σ 7 9 10 11) 1) := (yPlc_ho hs8 (by decide)).trans (by rw [hQ0])
    have e14 : s7 34 2 = σ 34 2 := by rw [← hs8]; exact zset_k (zne_r zc_34 zc_7 (by decide))
    have e15 : s7 7 10 = σ 7 10 := by rw [← hs8]; exact zset_j (by decide)
    have e16 : s7 7 11 = σ 7 11 := by rw [← hs8]; exact zset_j (by decide)
    have e17 : s7 7 8 = 1 := by rw [← hs8]; exact zset_s
    refine zt_aload_n (pc' := 35) hX dX8_readHolds_34 rfl rfl ?_
    refine zt_get (pc' := 38) (v := .ref (X.1.1 + 27)) hX dX8_readHolds_35 rfl zf_X8_9 (by decide) zc_34 zs_21 (zrf_of (zv_21_0 hI9 zc_34)) ?_
    refine zt_cVv (pc' := 41) hX dX8_readHolds_38 rfl zm_yX5_step zw_19_21 zc_27 (by decide) zs_14 (q := (RX5, TX5, 9)) rfl rfl (yc_X5_step _ _ s7 hI9 f hT11) rfl rfl (Nat.le_of_ble_eq_true rfl) (by decide) (fun r18 s19 hr20 hp21 => ?_)
    obtain ⟨hI22, hF23, hT24, z25⟩ := hp21
    have hE26 : yst s19 = yPx f (yst σ) := by rw [z25, hE12]
    have hF27 := zOn_tr hF10 hF23 zi_r17
    have b28 := zv_8_10 hI22 zc_7
    have b29 := zv_8_11 hI22 zc_7
    have b30 := zv_8_8 hI22 zc_7
    have e31 := hF23 34 2 rfl
    have e32 := hF23 7 10 rfl
    have e33 := hF23 7 11 rfl
    have e34 := hF23 7 8 rfl
    have hQ35 := (yPlc_c (K := 7) (A := 9) (B := 10) (C := 11) (hF23 7 7 rfl) (hF23 7 8 rfl) (hF23 7 10 rfl) (hF23 7 11 rfl) (hF23 7 12 rfl) (fun j => hF23 9 j rfl) (fun j => hF23 10 j rfl) (fun j => hF23 11 j rfl)).trans hQ13
    refine zt_aload_n (pc' := 42) hX dX8_readHolds_41 rfl rfl ?_
    refine zt_get (pc' := 45) (v := .ref (X.1.1 + 33)) hX dX8_readHolds_42 rfl zf_X8_15 (by decide) zc_34 zs_21 (zrf_of (zv_21_1 hI22 zc_34)) ?_
    refine zt_aload_n (pc' := 46) hX dX8_readHolds_45 rfl rfl ?_
    have ek36 : s19 34 2 = ((7 : Nat) : Int) := by omega
    refine zt_get (pc' := 49) (v := .ref (X.1.1 + 7)) hX dX8_readHolds_46 rfl zf_X8_19 (by decide) zc_34 zs_21 (zrf_of ek36) ?_
    refine zt_get (pc' := 52) (v := .ref (X.1.1 + 15)) hX dX8_readHolds_49 rfl zf_X8_162 (by decide) zc_7 zs_8 (zrf_of (zv_8_6 hI22 zc_7)) ?_
    refine zt_iconst (pc' := 53) hX dX8_readHolds_52 rfl ?_
    refine zt_cVv (pc' := 56) hX dX8_readHolds_53 rfl zm_yX1_readTest zw_23_22 zc_33 (by decide) zs_20 (q := (RX1, TX1, 3)) rfl rfl (yc_X1_readTest _ _ s19 hI22 15 zc_15 1 ⟨by omega, by omega⟩ f hT24) rfl rfl (Nat.le_of_ble_eq_true rfl) (by decide) (fun r37 s38 hr39 hp40 => ?_)
    obtain ⟨hI41, hF42, hT43, z44⟩ := hp40
    have hE45 : yst s38 = yTt 1 f (yPx f (yst σ)) := by rw [z44, hE26]
    have hF46 := zOn_tr hF27 hF42 zi_47
    have b47 := zv_8_10 hI41 zc_7
    have b48 := zv_8_11 hI41 zc_7
    have b49 := zv_8_8 hI41 zc_7
    have e50 := hF42 34 2 rfl
    have e51 := hF42 7 10 rfl
    have e52 := hF42 7 11 rfl
    have e53 := hF42 7 8 rfl
    have hQ54 := (yPlc_c (K := 7) (A := 9) (B := 10) (C := 11) (hF42 7 7 rfl) (hF42 7 8 rfl) (hF42 7 10 rfl) (hF42 7 11 rfl) (hF42 7 12 rfl) (fun j => hF42 9 j rfl) (fun j => hF42 10 j rfl) (fun j => hF42 11 j rfl)).trans hQ35
    exact zt_vret hX hR dX8_readHolds_56 ⟨hI41, hF46, hT43, hE45.trans (by unfold yHos; rw [if_neg (show ¬ (yPlc σ 7 9 10 11).ho ≠ 0 from by show ¬ σ 7 8 ≠ 0; omega)]), (fun _ => hQ54)⟩
  · refine zt_aload_n (pc' := 11) hX dX8_readHolds_10 rfl rfl ?_
    refine zt_get (pc' := 14) (v := .ref (X.1.1 + 27)) hX dX8_readHolds_11 rfl zf_X8_9 (by decide) zc_34 zs_21 (zrf_of (zv_21_0 hI zc_34)) ?_
    refine zt_iconst (pc' := 15) hX dX8_readHolds_14 rfl ?_
    refine zt_aload_n (pc' := 16) hX dX8_readHolds_15 rfl rfl ?_
    refine zt_get (pc' := 19) (v := .ref (X.1.1 + 27)) hX dX8_readHolds_16 rfl zf_X8_9 (by decide) zc_34 zs_21 (zrf_of (zv_21_0 hI zc_34)) ?_
    refine zt_cVi (pc' := 22) hX dX8_readHolds_19 rfl zm_yX5_placeHere zw_20_7 zc_27 (by decide) zs_14 (q := (RX5, TX5, 9)) rfl rfl (yc_X5_placeHere _ _ σ hI f hT) rfl rfl (Nat.le_of_ble_eq_true rfl) (by decide) (fun r55 s56 hr57 hp58 => ?_)
    obtain ⟨rfl, q59, q60, z61⟩ := hp58
    refine zt_cVv (pc' := 25) hX dX8_readHolds_22 rfl zm_yX5_refuse zw_20_11 zc_27 (by decide) zs_14 (q := (RX5, TX5, 9)) rfl rfl (yc_X5_refuse _ _ σ hI 5 ⟨by omega, by omega⟩ r55 ⟨by omega, by omega⟩ (by omega) f hT) rfl rfl (Nat.le_of_ble_eq_true rfl) (by decide) (fun r62 s63 hr64 hp65 => ?_)
    obtain ⟨hI66, hF67, hT68, z69⟩ := hp65
    have hE70 : yst s63 = yPno 5 r55 (yst σ) := z69
    have hF71 := zOn_tr hF hF67 zi_r17
    have b72 := zv_8_10 hI66 zc_7
    have b73 := zv_8_11 hI66 zc_7
    have b74 := zv_8_8 hI66 zc_7
    have e75 := hF67 34 2 rfl
    have e76 := hF67 7 10 rfl
    have e77 := hF67 7 11 rfl
    have e78 := hF67 7 8 rfl
    have hQ79 := (yPlc_c (K := 7) (A := 9) (B := 10) (C := 11) (hF67 7 7 rfl) (hF67 7 8 rfl) (hF67 7 10 rfl) (hF67 7 11 rfl) (hF67 7 12 rfl) (fun j => hF67 9 j rfl) (fun j => hF67 10 j rfl) (fun j => hF67 11 j rfl)).trans hQ0
    exact zt_vret hX hR dX8_readHolds_25 ⟨hI66, hF71, hT68, hE70.trans (by unfold yHos; rw [if_pos (show (yPlc σ 7 9 10 11).ho ≠ 0 from by show σ 7 8 ≠ 0; omega)]; exact yPno_f (fun o => by omega)), fun o => by rw [hE70, yPo_no] at o; exact absurd o (by decide)⟩
set_option maxRecDepth 100000 in
set_option maxHeartbeats 4000000 in
theorem yc_X8_readStatement_7 (l : Launch) (E : zEN) (σ : zSto) (hI : zInv σ) (hpre0 : σ 34 2 = 7) (f : Int → Int) (hT : yTk f σ) : zCt l E yX8_readStatement cX8_readStatement 1 none 36 zNC zNC 0 0 σ [.ref (E.1 + 34)] (fun r σ' => zInv σ' ∧ zOn zR7 σ σ' ∧ yTk f σ' ∧ ((yst σ') = yStm f (yPlc σ 7 9 10 11) (yst σ)) ∧ (yPo (yst σ') = 1 → yPlc σ' 7 9 10 11 = yStmP f (yPlc σ 7 9 10 11) (yst σ))) := by
  refine zCt_of2 [some (.ref (E.1 + 34))] (by decide +kernel) (Nat.le_of_ble_eq_true rfl) rfl ?_
  intro X hE_ hX hR hL hN
  subst hE_
  have hX : zok X cX8_readStatement RX8 36 := hX
  have hF := zOn_rf zR7 σ
  have hQ0 : yPlc σ 7 9 10 11 = yPlc σ 7 9 10 11 := rfl
  have hE0 : yst σ = yst σ := rfl
  have b1 := zv_8_10 hI zc_7
  have b2 := zv_8_11 hI zc_7
  refine zt_aload_n (pc' := 1) hX dX8_readStatement_0 rfl rfl ?_
  refine zt_get (pc' := 4) (v := .ref (X.1.1 + 27)) hX dX8_readStatement_1 rfl zf_X8_9 (by decide) zc_34 zs_21 (zrf_of (zv_21_0 hI zc_34)) ?_
  refine zt_cVi (pc' := 7) hX dX8_readStatement_4 rfl zm_yX5_wordHere zw_19_13 zc_27 (by decide) zs_14 (q := (RX5, TX5, 9)) rfl rfl (yc_X5_wordHere _ _ σ hI f hT) rfl rfl (Nat.le_of_ble_eq_true rfl) (by decide) (fun r3 s4 hr5 hp6 => ?_)
  obtain ⟨rfl, q7, q8, z9⟩ := hp6
  rcases (show r3 = 3 ∨ r3 = 4 ∨ r3 = 5 ∨ r3 = 6 ∨ r3 = 7 ∨ r3 = 8 ∨ r3 = 9 ∨ r3 = 10 ∨ r3 = 11 ∨ (r3 < 3 ∨ 11 < r3) by omega) with c10 | c10 | c10 | c10 | c10 | c10 | c10 | c10 | c10 | c10
  · refine zt_tsIn (v := 3) (tgt := 56) hX dX8_readStatement_7 c10 (by decide) (by decide) (by decide) rfl (by decide) ?_
    refine zt_aload_n (pc' := 57) hX dX8_readStatement_56 rfl rfl ?_
    refine zt_cVv (pc' := 60) hX dX8_readStatement_57 rfl zm_yX8_readHeavy zw_19_14 zc_34 (by decide) zs_21 (q := (RX8, TX8, 3)) rfl rfl (yc_X8_readHeavy_7 _ _ σ hI (by omega) f hT) rfl rfl (Nat.le_of_ble_eq_true rfl) (by decide) (fun r11 s12 hr13 hp14 => ?_)
    obtain ⟨hI15, hF16, hT17, z18, z19⟩ := hp14
    have hE20 : yst s12 = yHea f (yPlc σ 7 9 10 11) (yst σ) := z18
    have hF21 := zOn_tr hF hF16 zi_id
    have b22 := zv_8_10 hI15 zc_7
    have b23 := zv_8_11 hI15 zc_7
    have e24 := hF16 34 2 rfl
    have hQ25 : yPlc s12 7 9 10 11 = (yPlc σ 7 9 10 11) := by rw [z19, hQ0]
    refine zt_goto (tgt := 180) hX dX8_readStatement_60 (by decide) ?_
    exact zt_vret hX hR dX8_readStatement_180 ⟨hI15, hF21, hT17, hE20.trans (by unfold yStm; rw [if_pos (by omega)]), (fun _ => z19.trans (by unfold yStmP; rw [if_neg (by omega), if_neg (by omega), if_neg (by omega)]))⟩
  · refine zt_tsIn (v := 4) (tgt := 63) hX dX8_readStatement_7 c10 (by decide) (by decide) (by decide) rfl (by decide) ?_
    refine zt_aload_n (pc' := 64) hX dX8_readStatement_63 rfl rfl ?_
    refine zt_cVv (pc' := 67) hX dX8_readStatement_64 rfl zm_yX8_readPole zw_20_2 zc_34 (by decide) zs_21 (q := (RX8, TX8, 3)) rfl rfl (yc_X8_readPole_7 _ _ σ hI (by omega) f hT) rfl rfl (Nat.le_of_ble_eq_true rfl) (by decide) (fun r26 s27 hr28 hp29 => ?_)
    obtain ⟨hI30, hF31, hT32, z33, z34⟩ := hp29
    have hE35 : yst s27 = yPol f (yPlc σ 7 9 10 11) (yst σ) := z33
    have hF36 := zOn_tr hF hF31 zi_id
    rw [hE35] at z34
    have b37 := zv_8_10 hI30 zc_7
    have b38 := zv_8_11 hI30 zc_7
    have e39 := hF31 34 2 rfl
    refine zt_goto (tgt := 180) hX dX8_readStatement_67 (by decide) ?_
    exact zt_vret hX hR dX8_readStatement_180 ⟨hI30, hF36, hT32, hE35.trans (by unfold yStm; rw [if_neg (by omega), if_pos (by omega)]), (fun o => ((fun o => z34 (by rw [hE35] at o; exact o)) o).trans (by unfold yStmP; rw [if_pos (by omega)]))⟩
  · refine zt_tsIn (v := 5) (tgt := 165) hX dX8_readStatement_7 c10 (by decide) (by decide) (by decide) rfl (by decide) ?_
    refine zt_aload_n (pc' := 166) hX dX8_readStatement_165 rfl rfl ?_
    refine zt_get (pc' := 169) (v := .ref (X.1.1 + 27)) hX dX8_readStatement_166 rfl zf_X8_9 (by decide) zc_34 zs_21 (zrf_of (zv_21_0 hI zc_34)) ?_
    refine zt_iconst (pc' := 170) hX dX8_readStatement_169 rfl ?_
    refine zt_aload_n (pc' := 171) hX dX8_readStatement_170 rfl rfl ?_
    refine zt_get (pc' := 174) (v := .ref (X.1.1 + 27)) hX dX8_readStatement_171 rfl zf_X8_9 (by decide) zc_34 zs_21 (zrf_of (zv_21_0 hI zc_34)) ?_
    refine zt_cVi (pc' := 177) hX dX8_readStatement_174 rfl zm_yX5_placeHere zw_20_7 zc_27 (by decide) zs_14 (q := (RX5, TX5, 9)) rfl rfl (yc_X5_placeHere _ _ σ hI f hT) rfl rfl (Nat.le_of_ble_eq_true rfl) (by decide) (fun r41 s42 hr43 hp44 => ?_)
    obtain ⟨rfl, q45, q46, z47⟩ := hp44
    refine zt_cVv (pc' := 180) hX dX8_readStatement_177 rfl zm_yX5_refuse zw_20_11 zc_27 (by decide) zs_14 (q := (RX5, TX5, 9)) rfl rfl (yc_X5_refuse _ _ σ hI 1 ⟨by omega, by omega⟩ r41 ⟨by omega, by omega⟩ (by omega) f hT) rfl rfl (Nat.le_of_ble_eq_true rfl) (by decide) (fun r48 s49 hr50 hp51 => ?_)
    obtain ⟨hI52, hF53, hT54, z55⟩ := hp51
    have hE56 : yst s49 = yPno 1 r41 (yst σ) := z55
    have hF57 := zOn_tr hF hF53 zi_r17
    have b58 := zv_8_10 hI52 zc_7
    have b59 := zv_8_11 hI52 zc_7
    have e60 := hF53 34 2 rfl
    have e61 := hF53 7 10 rfl
    have e62 := hF53 7 11 rfl
    have hQ63 := (yPlc_c (K := 7) (A := 9) (B := 10) (C := 11) (hF53 7 7 rfl) (hF53 7 8 rfl) (hF53 7 10 rfl) (hF53 7 11 rfl) (hF53 7 12 rfl) (fun j => hF53 9 j rfl) (fun j => hF53 10 j rfl) (fun j => hF53 11 j rfl)).trans hQ0
    exact zt_vret hX hR dX8_readStatement_180 ⟨hI52, hF57, hT54, hE56.trans (by unfold yStm; rw [if_neg (by omega), if_neg (by omega), if_neg (by omega), if_neg (by omega), if_neg (by omega), if_neg (by omega), if_neg (by omega)]; exact yPno_f (fun o => by omega)), fun o => by rw [hE56, yPo_no] at o; exact absurd o (by decide)⟩
  · refine zt_tsIn (v := 6) (tgt := 165) hX dX8_readStatement_7 c10 (by decide) (by decide) (by decide) rfl (by decide) ?_
    refine zt_aload_n (pc' := 166) hX dX8_readStatement_165 rfl rfl ?_
    refine zt_get (pc' := 169) (v := .ref (X.1.1 + 27)) hX dX8_readStatement_166 rfl zf_X8_9 (by decide) zc_34 zs_21 (zrf_of (zv_21_0 hI zc_34)) ?_
    refine zt_iconst (pc' := 170) hX dX8_readStatement_169 rfl ?_
    refine zt_aload_n (pc' := 171) hX dX8_readStatement_170 rfl rfl ?_
    refine zt_get (pc' := 174) (v := .ref (X.1.1 + 27)) hX dX8_readStatement_171 rfl zf_X8_9 (by decide) zc_34 zs_21 (zrf_of (zv_21_0 hI zc_34)) ?_
    refine zt_cVi (pc' := 177) hX dX8_readStatement_174 rfl zm_yX5_placeHere zw_20_7 zc_27 (by decide) zs_14 (q := (RX5, TX5, 9)) rfl rfl (yc_X5_placeHere _ _ σ hI f hT) rfl rfl (Nat.le_of_ble_eq_true rfl) (by decide) (fun r64 s65 hr66 hp67 => ?_)
    obtain ⟨rfl, q68, q69, z70⟩ := hp67
    refine zt_cVv (pc' := 180) hX dX8_readStatement_177 rfl zm_yX5_refuse zw_20_11 zc_27 (by decide) zs_14 (q := (RX5, TX5, 9)) rfl rfl (yc_X5_refuse _ _ σ hI 1 ⟨by omega, by omega⟩ r64 ⟨by omega, by omega⟩ (by omega) f hT) rfl rfl (Nat.le_of_ble_eq_true rfl) (by decide) (fun r71 s72 hr73 hp74 => ?_)
    obtain ⟨hI75, hF76, hT77, z78⟩ := hp74
    have hE79 : yst s72 = yPno 1 r64 (yst σ) := z78
    have hF80 := zOn_tr hF hF76 zi_r17
    have b81 := zv_8_10 hI75 zc_7
    have b82 := zv_8_11 hI75 zc_7
    have e83 := hF76 34 2 rfl
    have e84 := hF76 7 10 rfl
    have e85 := hF76 7 11 rfl
    have hQ86 := (yPlc_c (K := 7) (A := 9) (B := 10) (C := 11) (hF76 7 7 rfl) (hF76 7 8 rfl) (hF76 7 10 rfl) (hF76 7 11 rfl) (hF76 7 12 rfl) (fun j => hF76 9 j rfl) (fun j => hF76 10 j rfl) (fun j => hF76 11 j rfl)).trans hQ0
    exact zt_vret hX hR dX8_readStatement_180 ⟨hI75, hF80, hT77, hE79.trans (by unfold yStm; rw [if_neg (by omega), if_neg (by omega), if_neg (by omega), if_neg (by omega), if_neg (by omega), if_neg (by omega), if_neg (by omega)]; exact yPno_f (fun o => by omega)), fun o => by rw [hE79, yPo_no] at o; exact absurd o (by decide)⟩
  · refine zt_tsIn (v := 7) (tgt := 70) hX dX8_readStatement_7 c10 (by decide) (by decide) (by decide) rfl (by decide) ?_
    refine zt_aload_n (pc' := 71) hX dX8_readStatement_70 rfl rfl ?_
    refine zt_cVv (pc' := 74) hX dX8_readStatement_71 rfl zm_yX8_readAdds zw_21_7 zc_34 (by decide) zs_21 (q := (RX8, TX8, 3)) rfl rfl (yc_X8_readAdds_7 _ _ σ hI (by omega) f hT) rfl rfl (Nat.le_of_ble_eq_true rfl) (by decide) (fun r87 s88 hr89 hp90 => ?_)
    obtain ⟨hI91, hF92, hT93, z94, z95⟩ := hp90
    have hE96 : yst s88 = yAds f (yPlc σ 7 9 10 11) (yst σ) := z94
    have hF97 := zOn_tr hF hF92 zi_id
    rw [hE96] at z95
    have b98 := zv_8_10 hI91 zc_7
    have b99 := zv_8_11 hI91 zc_7
    have e100 := hF92 34 2 rfl
    refine zt_goto (tgt := 180) hX dX8_readStatement_74 (by decide) ?_
    exact zt_vret hX hR dX8_readStatement_180 ⟨hI91, hF97, hT93, hE96.trans (by unfold yStm; rw [if_neg (by omega), if_neg (by omega), if_pos (by omega)]), (fun o => ((fun o => z95 (by rw [hE96] at o; exact o)) o).trans (by unfold yStmP; rw [if_neg (by omega), if_pos (by omega)]))⟩
  · refine zt_tsIn (v := 8) (tgt := 77) hX dX8_readStatement_7 c10 (by decide) (by decide) (by decide) rfl (by decide) ?_
    refine zt_aload_n (pc' := 78) hX dX8_readStatement_77 rfl rfl ?_
    refine zt_cVv (pc' := 81) hX dX8_readStatement_78 rfl zm_yX8_readHolds zw_23_16 zc_34 (by decide) zs_21 (q := (RX8, TX8, 3)) rfl rfl (yc_X8_readHolds_7 _ _ σ hI (by omega) f hT) rfl rfl (Nat.le_of_ble_eq_true rfl) (by decide) (fun r102 s103 hr104 hp105 => ?_)
    obtain ⟨hI106, hF107, hT108, z109, z110⟩ := hp105
    have hE111 : yst s103 = yHos f (yPlc σ 7 9 10 11) (yst σ) := z109
    have hF112 := zOn_tr hF hF107 zi_id
    rw [hE111] at z110
    have b113 := zv_8_10 hI106 zc_7
    have b114 := zv_8_11 hI106 zc_7
    have e115 := hF107 34 2 rfl
    refine zt_goto (tgt := 180) hX dX8_readStatement_81 (by decide) ?_
    exact zt_vret hX hR dX8_readStatement_180 ⟨hI106, hF112, hT108, hE111.trans (by unfold yStm; rw [if_neg (by omega), if_neg (by omega), if_neg (by omega), if_pos (by omega)]), (fun o => ((fun o => z110 (by rw [hE111] at o; exact o)) o).trans (by unfold yStmP; rw [if_neg (by omega), if_neg (by omega), if_pos (by omega)]))⟩
  · refine zt_tsIn (v := 9) (tgt := 84) hX dX8_readStatement_7 c10 (by decide) (by decide) (by decide) rfl (by decide) ?_
    refine zt_aload_n (pc' := 85) hX dX8_readStatement_84 rfl rfl ?_
    refine zt_get (pc' := 88) (v := .ref (X.1.1 + 27)) hX dX8_readStatement_85 rfl zf_X8_9 (by decide) zc_34 zs_21 (zrf_of (zv_21_0 hI zc_34)) ?_
    refine zt_cVv (pc' := 91) hX dX8_readStatement_88 rfl zm_yX5_step zw_19_21 zc_27 (by decide) zs_14 (q := (RX5, TX5, 9)) rfl rfl (yc_X5_step _ _ σ hI f hT) rfl rfl (Nat.le_of_ble_eq_true rfl) (by decide) (fun r117 s118 hr119 hp120 => ?_)
    obtain ⟨hI121, hF122, hT123, z124⟩ := hp120
    have hE125 : yst s118 = yPx f (yst σ) := z124
    have hF126 := zOn_tr hF hF122 zi_r17
    have b127 := zv_8_10 hI121 zc_7
    have b128 := zv_8_11 hI121 zc_7
    have e129 := hF122 34 2 rfl
    have e130 := hF122 7 10 rfl
    have e131 := hF122 7 11 rfl
    have hQ132 := (yPlc_c (K := 7) (A := 9) (B := 10) (C := 11) (hF122 7 7 rfl) (hF122 7 8 rfl) (hF122 7 10 rfl) (hF122 7 11 rfl) (hF122 7 12 rfl) (fun j => hF122 9 j rfl) (fun j => hF122 10 j rfl) (fun j => hF122 11 j rfl)).trans hQ0
    refine zt_aload_n (pc' := 92) hX dX8_readStatement_91 rfl rfl ?_
    have ek133 : s118 34 2 = ((7 : Nat) : Int) := by omega
    refine zt_get (pc' := 95) (v := .ref (X.1.1 + 7)) hX dX8_readStatement_92 rfl zf_X8_19 (by decide) zc_34 zs_21 (zrf_of ek133) ?_
    refine zt_aload_n (pc' := 96) hX dX8_readStatement_95 rfl rfl ?_
    refine zt_get (pc' := 99) (v := .ref (X.1.1 + 27)) hX dX8_readStatement_96 rfl zf_X8_9 (by decide) zc_34 zs_21 (zrf_of (zv_21_0 hI121 zc_34)) ?_
    refine zt_iconst (pc' := 100) hX dX8_readStatement_99 rfl ?_
    refine zt_bipush (pc' := 102) hX dX8_readStatement_100 rfl (by decide) (by decide) ?_
    refine zt_cVi (pc' := 105) hX dX8_readStatement_102 rfl zm_yX5_takeNumber zw_18_18 zc_27 (by decide) zs_14 (q := (RX5, TX5, 9)) rfl rfl (yc_X5_takeNumber _ _ s118 hI121 0 ⟨by omega, by omega⟩ 99 ⟨by omega, by omega⟩ f hT123) rfl rfl (Nat.le_of_ble_eq_true rfl) (by decide) (fun r134 s135 hr136 hp137 => ?_)
    obtain ⟨hI138, hF139, q140, q141, hT142, z143, z144, z145⟩ := hp137
    have hE146 : yst s135 = yPn f 0 99 (yPx f (yst σ)) := by rw [z143, hE125]
    rw [hE125] at z144
    have hF147 := zOn_tr hF126 hF139 zi_r17
    rw [hE146] at z144
    have b148 := zv_8_10 hI138 zc_7
    have b149 := zv_8_11 hI138 zc_7
    have e150 := hF139 34 2 rfl
    have e151 := hF139 7 10 rfl
    have e152 := hF139 7 11 rfl
    have hQ153 := (yPlc_c (K := 7) (A := 9) (B := 10) (C := 11) (hF139 7 7 rfl) (hF139 7 8 rfl) (hF139 7 10 rfl) (hF139 7 11 rfl) (hF139 7 12 rfl) (fun j => hF139 9 j rfl) (fun j => hF139 10 j rfl) (fun j => hF139 11 j rfl)).trans hQ132
    refine zt_put (pc' := 108) (x := r134) hX dX8_readStatement_105 rfl zf_X8_88 (by decide) zc_7 zs_8 (fun q hq => by cases hq; rfl) rfl rfl rfl ?_
    generalize hs155 : zset s135 7 14 r134 = s154
    have hI156 : zInv s154 := hs155 ▸ zp_8_14 hI138 zc_7 ⟨by omega, by omega⟩
    have hF157 : zOn zR7 σ s154 := hs155 ▸ zOn_set hF147 rfl
    have hT158 := yTk_rk hT142 (yRk_set hs155 zc_7 (by decide))
    have hE159 : yst s154 = yPn f 0 99 (yPx f (yst σ)) := (yst_rk (yRk_set hs155 zc_7 (by decide))).trans hE146
    have hQ160 := (yPlc_pj (A := 9) (B := 10) (C := 11) hs155 (by decide) (by decide)).trans hQ153
    have e161 : s154 34 2 = s135 34 2 := by rw [← hs155]; exact zset_k (zne_r zc_34 zc_7 (by decide))
    have e162 : s154 7 10 = s135 7 10 := by rw [← hs155]; exact zset_j (by decide)
    have e163 : s154 7 11 = s135 7 11 := by rw [← hs155]; exact zset_j (by decide)
    refine zt_goto (tgt := 180) hX dX8_readStatement_108 (by decide) ?_
    exact zt_vret hX hR dX8_readStatement_180 ⟨hI156, hF157, hT158, hE159.trans (by unfold yStm; rw [if_neg (by omega), if_neg (by omega), if_neg (by omega), if_neg (by omega), if_pos (by omega)]), (fun _ => hQ160.trans (by unfold yStmP; rw [if_neg (by omega), if_neg (by omega), if_neg (by omega)]))⟩
  · refine zt_tsIn (v := 10) (tgt := 111) hX dX8_readStatement_7 c10 (by decide) (by decide) (by decide) rfl (by decide) ?_
    refine zt_aload_n (pc' := 112) hX dX8_readStatement_111 rfl rfl ?_
    refine zt_get (pc' := 115) (v := .ref (X.1.1 + 27)) hX dX8_readStatement_112 rfl zf_X8_9 (by decide) zc_34 zs_21 (zrf_of (zv_21_0 hI zc_34)) ?_
    refine zt_cVv (pc' := 118) hX dX8_readStatement_115 rfl zm_yX5_step zw_19_21 zc_27 (by decide) zs_14 (q := (RX5, TX5, 9)) rfl rfl (yc_X5_step _ _ σ hI f hT) rfl rfl (Nat.le_of_ble_eq_true rfl) (by decide) (fun r164 s165 hr166 hp167 => ?_)
    obtain ⟨hI168, hF169, hT170, z171⟩ := hp167
    have hE172 : yst s165 = yPx f (yst σ) := z171
    have hF173 := zOn_tr hF hF169 zi_r17
    have b174 := zv_8_10 hI168 zc_7
    have b175 := zv_8_11 hI168 zc_7
    have e176 := hF169 34 2 rfl
    have e177 := hF169 7 10 rfl
    have e178 := hF169 7 11 rfl
    have hQ179 := (yPlc_c (K := 7) (A := 9) (B := 10) (C := 11) (hF169 7 7 rfl) (hF169 7 8 rfl) (hF169 7 10 rfl) (hF169 7 11 rfl) (hF169 7 12 rfl) (fun j => hF169 9 j rfl) (fun j => hF169 10 j rfl) (fun j => hF169 11 j rfl)).trans hQ0
    refine zt_aload_n (pc' := 119) hX dX8_readStatement_118 rfl rfl ?_
    have ek180 : s165 34 2 = ((7 : Nat) : Int) := by omega
    refine zt_get (pc' := 122) (v := .ref (X.1.1 + 7)) hX dX8_readStatement_119 rfl zf_X8_19 (by decide) zc_34 zs_21 (zrf_of ek180) ?_
    refine zt_aload_n (pc' := 123) hX dX8_readStatement_122 rfl rfl ?_
    refine zt_get (pc' := 126) (v := .ref (X.1.1 + 27)) hX dX8_readStatement_123 rfl zf_X8_9 (by decide) zc_34 zs_21 (zrf_of (zv_21_0 hI168 zc_34)) ?_
    refine zt_iconst (pc' := 127) hX dX8_readStatement_126 rfl ?_
    refine zt_bipush (pc' := 129) hX dX8_readStatement_127 rfl (by decide) (by decide) ?_
    refine zt_cVi (pc' := 132) hX dX8_readStatement_129 rfl zm_yX5_takeNumber zw_18_18 zc_27 (by decide) zs_14 (q := (RX5, TX5, 9)) rfl rfl (yc_X5_takeNumber _ _ s165 hI168 0 ⟨by omega, by omega⟩ 99 ⟨by omega, by omega⟩ f hT170) rfl rfl (Nat.le_of_ble_eq_true rfl) (by decide) (fun r181 s182 hr183 hp184 => ?_)
    obtain ⟨hI185, hF186, q187, q188, hT189, z190, z191, z192⟩ := hp184
    have hE193 : yst s182 = yPn f 0 99 (yPx f (yst σ)) := by rw [z190, hE172]
    rw [hE172] at z191
    have hF194 := zOn_tr hF173 hF186 zi_r17
    rw [hE193] at z191
    have b195 := zv_8_10 hI185 zc_7
    have b196 := zv_8_11 hI185 zc_7
    have e197 := hF186 34 2 rfl
    have e198 := hF186 7 10 rfl
    have e199 := hF186 7 11 rfl
    have hQ200 := (yPlc_c (K := 7) (A := 9) (B := 10) (C := 11) (hF186 7 7 rfl) (hF186 7 8 rfl) (hF186 7 10 rfl) (hF186 7 11 rfl) (hF186 7 12 rfl) (fun j => hF186 9 j rfl) (fun j => hF186 10 j rfl) (fun j => hF186 11 j rfl)).trans hQ179
    refine zt_put (pc' := 135) (x := r181) hX dX8_readStatement_132 rfl zf_X8_91 (by decide) zc_7 zs_8 (fun q hq => by cases hq; rfl) rfl rfl rfl ?_
    generalize hs202 : zset s182 7 15 r181 = s201
    have hI203 : zInv s201 := hs202 ▸ zp_8_15 hI185 zc_7 ⟨by omega, by omega⟩
    have hF204 : zOn zR7 σ s201 := hs202 ▸ zOn_set hF194 rfl
    have hT205 := yTk_rk hT189 (yRk_set hs202 zc_7 (by decide))
    have hE206 : yst s201 = yPn f 0 99 (yPx f (yst σ)) := (yst_rk (yRk_set hs202 zc_7 (by decide))).trans hE193
    have hQ207 := (yPlc_pj (A := 9) (B := 10) (C := 11) hs202 (by decide) (by decide)).trans hQ200
    have e208 : s201 34 2 = s182 34 2 := by rw [← hs202]; exact zset_k (zne_r zc_34 zc_7 (by decide))
    have e209 : s201 7 10 = s182 7 10 := by rw [← hs202]; exact zset_j (by decide)
    have e210 : s201 7 11 = s182 7 11 := by rw [← hs202]; exact zset_j (by decide)
    refine zt_goto (tgt := 180) hX dX8_readStatement_135 (by decide) ?_
    exact zt_vret hX hR dX8_readStatement_180 ⟨hI203, hF204, hT205, hE206.trans (by unfold yStm; rw [if_neg (by omega), if_neg (by omega), if_neg (by omega), if_neg (by omega), if_neg (by omega), if_pos (by omega)]), (fun _ => hQ207.trans (by unfold yStmP; rw [if_neg (by omega), if_neg (by omega), if_neg (by omega)]))⟩
  · refine zt_tsIn (v := 11) (tgt := 138) hX dX8_readStatement_7 c10 (by decide) (by decide) (by decide) rfl (by decide) ?_
    refine zt_aload_n (pc' := 139) hX dX8_readStatement_138 rfl rfl ?_
    refine zt_get (pc' := 142) (v := .ref (X.1.1 + 27)) hX dX8_readStatement_139 rfl zf_X8_9 (by decide) zc_34 zs_21 (zrf_of (zv_21_0 hI zc_34)) ?_
    refine zt_cVv (pc' := 145) hX dX8_readStatement_142 rfl zm_yX5_step zw_19_21 zc_27 (by decide) zs_14 (q := (RX5, TX5, 9)) rfl rfl (yc_X5_step _ _ σ hI f hT) rfl rfl (Nat.le_of_ble_eq_true rfl) (by decide) (fun r211 s212 hr213 hp214 => ?_)
    obtain ⟨hI215, hF216, hT217, z218⟩ := hp214
    have hE219 : yst s212 = yPx f (yst σ) := z218
    have hF220 := zOn_tr hF hF216 zi_r17
    have b221 := zv_8_10 hI215 zc_7
    have b222 := zv_8_11 hI215 zc_7
    have e223 := hF216 34 2 rfl
    have e224 := hF216 7 10 rfl
    have e225 := hF216 7 11 rfl
    have hQ226 := (yPlc_c (K := 7) (A := 9) (B := 10) (C := 11) (hF216 7 7 rfl) (hF216 7 8 rfl) (hF216 7 10 rfl) (hF216 7 11 rfl) (hF216 7 12 rfl) (fun j => hF216 9 j rfl) (fun j => hF216 10 j rfl) (fun j => hF216 11 j rfl)).trans hQ0
    refine zt_aload_n (pc' := 146) hX dX8_readStatement_145 rfl rfl ?_
    have ek227 : s212 34 2 = ((7 : Nat) : Int) := by omega
    refine zt_get (pc' := 149) (v := .ref (X.1.1 + 7)) hX dX8_readStatement_146 rfl zf_X8_19 (by decide) zc_34 zs_21 (zrf_of ek227) ?_
    refine zt_aload_n (pc' := 150) hX dX8_readStatement_149 rfl rfl ?_
    refine zt_get (pc' := 153) (v := .ref (X.1.1 + 27)) hX dX8_readStatement_150 rfl zf_X8_9 (by decide) zc_34 zs_21 (zrf_of (zv_21_0 hI215 zc_34)) ?_
    refine zt_iconst (pc' := 154) hX dX8_readStatement_153 rfl ?_
    refine zt_bipush (pc' := 156) hX dX8_readStatement_154 rfl (by decide) (by decide) ?_
    refine zt_cVi (pc' := 159) hX dX8_readStatement_156 rfl zm_yX5_takeNumber zw_18_18 zc_27 (by decide) zs_14 (q := (RX5, TX5, 9)) rfl rfl (yc_X5_takeNumber _ _ s212 hI215 0 ⟨by omega, by omega⟩ 100 ⟨by omega, by omega⟩ f hT217) rfl rfl (Nat.le_of_ble_eq_true rfl) (by decide) (fun r228 s229 hr230 hp231 => ?_)
    obtain ⟨hI232, hF233, q234, q235, hT236, z237, z238, z239⟩ := hp231
    have hE240 : yst s229 = yPn f 0 100 (yPx f (yst σ)) := by rw [z237, hE219]
    rw [hE219] at z238
    have hF241 := zOn_tr hF220 hF233 zi_r17
    rw [hE240] at z238
    have b242 := zv_8_10 hI232 zc_7
    have b243 := zv_8_11 hI232 zc_7
    have e244 := hF233 34 2 rfl
    have e245 := hF233 7 10 rfl
    have e246 := hF233 7 11 rfl
    have hQ247 := (yPlc_c (K := 7) (A := 9) (B := 10) (C := 11) (hF233 7 7 rfl) (hF233 7 8 rfl) (hF233 7 10 rfl) (hF233 7 11 rfl) (hF233 7 12 rfl) (fun j => hF233 9 j rfl) (fun j => hF233 10 j rfl) (fun j => hF233 11 j rfl)).trans hQ226
    refine zt_put (pc' := 162) (x := r228) hX dX8_readStatement_159 rfl zf_X8_94 (by decide) zc_7 zs_8 (fun q hq => by cases hq; rfl) rfl rfl rfl ?_
    generalize hs249 : zset s229 7 16 r228 = s248
    have hI250 : zInv s248 := hs249 ▸ zp_8_16 hI232 zc_7 ⟨by omega, by omega⟩
    have hF251 : zOn zR7 σ s248 := hs249 ▸ zOn_set hF241 rfl
    have hT252 := yTk_rk hT236 (yRk_set hs249 zc_7 (by decide))
    have hE253 : yst s248 = yPn f 0 100 (yPx f (yst σ)) := (yst_rk (yRk_set hs249 zc_7 (by decide))).trans hE240
    have hQ254 := (yPlc_pj (A := 9) (B := 10) (C := 11) hs249 (by decide) (by decide)).trans hQ247
    have e255 : s248 34 2 = s229 34 2 := by rw [← hs249]; exact zset_k (zne_r zc_34 zc_7 (by decide))
    have e256 : s248 7 10 = s229 7 10 := by rw [← hs249]; exact zset_j (by decide)
    have e257 : s248 7 11 = s229 7 11 := by rw [← hs249]; exact zset_j (by decide)
    refine zt_goto (tgt := 180) hX dX8_readStatement_162 (by decide) ?_
    exact zt_vret hX hR dX8_readStatement_180 ⟨hI250, hF251, hT252, hE253.trans (by unfold yStm; rw [if_neg (by omega), if_neg (by omega), if_neg (by omega), if_neg (by omega), if_neg (by omega), if_neg (by omega), if_pos (by omega)]), (fun _ => hQ254.trans (by unfold yStmP; rw [if_neg (by omega), if_neg (by omega), if_neg (by omega)]))⟩
  · refine zt_tsOut (tgt := 165) hX dX8_readStatement_7 ⟨by omega, by omega⟩ c10 (by decide) ?_
    refine zt_aload_n (pc' := 166) hX dX8_readStatement_165 rfl rfl ?_
    refine zt_get (pc' := 169) (v := .ref (X.1.1 + 27)) hX dX8_readStatement_166 rfl zf_X8_9 (by decide) zc_34 zs_21 (zrf_of (zv_21_0 hI zc_34)) ?_
    refine zt_iconst (pc' := 170) hX dX8_readStatement_169 rfl ?_
    refine zt_aload_n (pc' := 171) hX dX8_readStatement_170 rfl rfl ?_
    refine zt_get (pc' := 174) (v := .ref (X.1.1 + 27)) hX dX8_readStatement_171 rfl zf_X8_9 (by decide) zc_34 zs_21 (zrf_of (zv_21_0 hI zc_34)) ?_
    refine zt_cVi (pc' := 177) hX dX8_readStatement_174 rfl zm_yX5_placeHere zw_20_7 zc_27 (by decide) zs_14 (q := (RX5, TX5, 9)) rfl rfl (yc_X5_placeHere _ _ σ hI f hT) rfl rfl (Nat.le_of_ble_eq_true rfl) (by decide) (fun r258 s259 hr260 hp261 => ?_)
    obtain ⟨rfl, q262, q263, z264⟩ := hp261
    refine zt_cVv (pc' := 180) hX dX8_readStatement_177 rfl zm_yX5_refuse zw_20_11 zc_27 (by decide) zs_14 (q := (RX5, TX5, 9)) rfl rfl (yc_X5_refuse _ _ σ hI 1 ⟨by omega, by omega⟩ r258 ⟨by omega, by omega⟩ (by omega) f hT) rfl rfl (Nat.le_of_ble_eq_true rfl) (by decide) (fun r265 s266 hr267 hp268 => ?_)
    obtain ⟨hI269, hF270, hT271, z272⟩ := hp268
    have hE273 : yst s266 = yPno 1 r258 (yst σ) := z272
    have hF274 := zOn_tr hF hF270 zi_r17
    have b275 := zv_8_10 hI269 zc_7
    have b276 := zv_8_11 hI269 zc_7
    have e277 := hF270 34 2 rfl
    have e278 := hF270 7 10 rfl
    have e279 := hF270 7 11 rfl
    have hQ280 := (yPlc_c (K := 7) (A := 9) (B := 10) (C := 11) (hF270 7 7 rfl) (hF270 7 8 rfl) (hF270 7 10 rfl) (hF270 7 11 rfl) (hF270 7 12 rfl) (fun j => hF270 9 j rfl) (fun j => hF270 10 j rfl) (fun j => hF270 11 j rfl)).trans hQ0
    exact zt_vret hX hR dX8_readStatement_180 ⟨hI269, hF274, hT271, hE273.trans (by unfold yStm; rw [if_neg (by omega), if_neg (by omega), if_neg (by omega), if_neg (by omega), if_neg (by omega), if_neg (by omega), if_neg (by omega)]; exact yPno_f (fun o => by omega)), fun o => by rw [hE273, yPo_no] at o; exact absurd o (by decide)⟩
set_option maxRecDepth 100000 in
set_option maxHeartbeats 4000000 in
theorem yc_X8_readInto_7 (l : Launch) (E : zEN) (σ : zSto) (hI : zInv σ) (hW : yTab σ) : zCt l E yX8_readInto cX8_readInto 4 (some .int) 37 zNC zNC 0 0 σ [.ref (E.1 + 34), .ref (E.1 + 7), .ref (E.1 + 1)] (fun r σ' => zInv σ' ∧ zOn zRt7 σ σ' ∧ 0 ≤ r ∧ r ≤ 80 ∧ (yTk (yT σ) σ') ∧ (yst σ' = (yAll (yT σ)).1) ∧ (yPo (yst σ') = 1 → yPlc σ' 7 9 10 11 = (yAll (yT σ)).2.1 ∧ r = (yAll (yT σ)).2.2)) := by
  refine zCt_of2 [some (.ref (E.1 + 34)), some (.ref (E.1 + 7)), some (.ref (E.1 + 1)), none] (by decide +kernel) (Nat.le_of_ble_eq_true rfl) rfl ?_
  intro X hE_ hX hR hL hN
  subst hE_
  have hX : zok X cX8_readInto RX8 37 := hX
  have hF := zOn_rf zRt7 σ
  have hQ0 : yPlc σ 7 9 10 11 = yPlc σ 7 9 10 11 := rfl
  obtain ⟨f, hf⟩ : ∃ f, f = yT σ := ⟨_, rfl⟩
  refine zt_aload_n (pc' := 1) hX dX8_readInto_0 rfl rfl ?_
  refine zt_aload_n (pc' := 2) hX dX8_readInto_1 rfl rfl ?_
  refine zt_put (pc' := 5) (x := ((7 : Nat) : Int)) hX dX8_readInto_2 rfl zf_X8_19 (by decide) zc_34 zs_21 (fun q hq => by cases hq; rfl) (zrf_of rfl) rfl rfl ?_
  generalize hs2 : zset σ 34 2 ((7 : Nat) : Int) = s1
  have hI3 : zInv s1 := hs2 ▸ zp_21_2 hI zc_34 ⟨7, rfl, zc_7⟩
  have hF4 : zOn zRt7 σ s1 := hs2 ▸ zOn_set hF rfl
  have hQ5 := (yPlc_pk (K := 7) (A := 9) (B := 10) (C := 11) hs2 (by decide)).trans hQ0
  have e6 : s1 34 2 = ((7 : Nat) : Int) := by rw [← hs2]; exact zset_s
  have ek7 : s1 34 2 = ((7 : Nat) : Int) := by rw [← hs2]; exact zset_s
  refine zt_aload_n (pc' := 6) hX dX8_readInto_5 rfl rfl ?_
  refine zt_cVv (pc' := 9) hX dX8_readInto_6 rfl zm_yX3_clear zw_15_18 zc_7 (by decide) zs_8 (q := (RX3, TX3, 17)) rfl rfl (yc_X3_clear_7 _ _ s1 hI3 ) rfl rfl (Nat.le_of_ble_eq_true rfl) (by decide) (fun r8 s9 hr10 hp11 => ?_)
  obtain ⟨hI12, hF13, z14⟩ := hp11
  have hF15 := zOn_tr hF4 hF13 (fun k j h => zi_7t k j (zi_q7 k j h))
  have e16 := hF13 34 2 rfl
  refine zt_aload_n (pc' := 10) hX dX8_readInto_9 rfl rfl ?_
  refine zt_get (pc' := 13) (v := .ref (X.1.1 + 27)) hX dX8_readInto_10 rfl zf_X8_9 (by decide) zc_34 zs_21 (zrf_of (zv_21_0 hI12 zc_34)) ?_
  refine zt_aload_n (pc' := 14) hX dX8_readInto_13 rfl rfl ?_
  refine zt_cVv (pc' := 17) hX dX8_readInto_14 rfl zm_yX5_open zw_16_10 zc_27 (by decide) zs_14 (q := (RX5, TX5, 9)) rfl rfl (yc_X5_open _ _ s9 hI12 (fun i hi => (hF15 28 i rfl).trans (hW i hi))) rfl rfl (Nat.le_of_ble_eq_true rfl) (by decide) (fun r18 s19 hr20 hp21 => ?_)
  obtain ⟨hI22, hF23, z24, z25⟩ := hp21
  have hF26 := zOn_tr hF15 hF23 zi_0t7
  have e27 := hF23 34 2 rfl
  have hQ28 := (yPlc_c (K := 7) (A := 9) (B := 10) (C := 11) (hF23 7 7 rfl) (hF23 7 8 rfl) (hF23 7 10 rfl) (hF23 7 11 rfl) (hF23 7 12 rfl) (fun j => hF23 9 j rfl) (fun j => hF23 10 j rfl) (fun j => hF23 11 j rfl)).trans z14
  have hy29 : yT s9 = f := (yT_eq (hF15 1 1 rfl) (fun j => hF15 2 j rfl)).trans hf.symm
  rw [hy29] at z24 z25
  refine zt_iconst (pc' := 18) hX dX8_readInto_17 rfl ?_
  refine zt_istore_n (pc' := 19) (lv' := [some (.ref (X.1.1 + 34)), some (.ref (X.1.1 + 7)), some (.ref (X.1.1 + 1)), some (.int (zI 0))]) hX dX8_readInto_18 rfl hL (by decide) rfl ?_
  have L_19_40 : ∀ (N : Nat) (x30 : Int) (s33 : zSto) (p36 : yP), 0 ≤ x30 → x30 ≤ 80 → zInv s33 → zOn zRt7 σ s33 → yTk f s33 → yst s33 = p36 → s33 34 2 = 7 → yLop f (80 - x30).toNat x30 p36 (yPlc s33 7 9 10 11) = yLop f 80 0 (.ok (yS f 0)) yPl0 → ((81 - x30).toNat) < N → zF X s33 19 [some (.ref (X.1.1 + 34)), none, none, some (.int (zI x30))] [] := by
    intro N
    induction N with
    | zero =>
      intro x30 s33 p36 h31 h32 hI34 hF35 hT37 hE38 g39 g40 hm42
      exact absurd hm42 (Nat.not_lt_zero _)
    | succ N ih43 =>
      intro x30 s33 p36 h31 h32 hI34 hF35 hT37 hE38 g39 g40 hm42
      refine zt_iload_n (pc' := 20) hX dX8_readInto_19 rfl rfl ?_
      refine zt_bipush (pc' := 22) hX dX8_readInto_20 rfl (by decide) (by decide) ?_
      refine zt_icge (pc' := 25) (tgt := 65) hX dX8_readInto_22 rfl (by decide) ⟨by omega, by omega⟩ ⟨by omega, by omega⟩ (fun c44 => ?_) (fun c44 => ?_)
      · refine zt_iload_n (pc' := 66) hX dX8_readInto_65 rfl rfl ?_
        refine zt_ifne (pc' := 69) (tgt := 84) hX dX8_readInto_66 rfl (by decide) ⟨by omega, by omega⟩ (fun c45 => ?_) (fun c45 => ?_)
        · refine zt_aload_n (pc' := 85) hX dX8_readInto_84 rfl rfl ?_
          refine zt_get (pc' := 88) (v := .ref (X.1.1 + 27)) hX dX8_readInto_85 rfl zf_X8_9 (by decide) zc_34 zs_21 (zrf_of (zv_21_0 hI34 zc_34)) ?_
          refine zt_cVz (pc' := 91) hX dX8_readInto_88 rfl zm_yX5_hasMore zw_17_17 zc_27 (by decide) zs_14 (q := (RX5, TX5, 9)) rfl rfl (yc_X5_hasMore _ _ s33 hI34 f hT37) rfl rfl (Nat.le_of_ble_eq_true rfl) (by decide) (fun r46 s47 hr48 hp49 => ?_)
          obtain ⟨rfl, q50, q51, z52⟩ := hp49
          rw [hE38] at z52
          refine zt_ifeq (pc' := 94) (tgt := 109) hX dX8_readInto_91 rfl (by decide) ⟨by omega, by omega⟩ (fun c53 => ?_) (fun c53 => ?_)
          · refine zt_iload_n (pc' := 110) hX dX8_readInto_109 rfl rfl ?_
            have hfin := yAll_1 g40 (fun m => by omega) (by omega)
            exact zt_iret hX hR dX8_readInto_110 ⟨by omega, by omega⟩ ⟨hI34, hF35, by omega, by omega, (by rw [← hf]; exact hT37), (by rw [← hf, hfin.1]; exact hE38), (fun o => by rw [hE38] at o; rw [← hf]; exact hfin.2 o)⟩
          · refine zt_aload_n (pc' := 95) hX dX8_readInto_94 rfl rfl ?_
            refine zt_get (pc' := 98) (v := .ref (X.1.1 + 27)) hX dX8_readInto_95 rfl zf_X8_9 (by decide) zc_34 zs_21 (zrf_of (zv_21_0 hI34 zc_34)) ?_
            refine zt_iconst (pc' := 99) hX dX8_readInto_98 rfl ?_
            refine zt_aload_n (pc' := 100) hX dX8_readInto_99 rfl rfl ?_
            refine zt_get (pc' := 103) (v := .ref (X.1.1 + 27)) hX dX8_readInto_100 rfl zf_X8_9 (by decide) zc_34 zs_21 (zrf_of (zv_21_0 hI34 zc_34)) ?_
            refine zt_cVi (pc' := 106) hX dX8_readInto_103 rfl zm_yX5_placeHere zw_20_7 zc_27 (by decide) zs_14 (q := (RX5, TX5, 9)) rfl rfl (yc_X5_placeHere _ _ s33 hI34 f hT37) rfl rfl (Nat.le_of_ble_eq_true rfl) (by decide) (fun r54 s55 hr56 hp57 => ?_)
            obtain ⟨rfl, q58, q59, z60⟩ := hp57
            rw [hE38] at z60
            refine zt_cVv (pc' := 109) hX dX8_readInto_106 rfl zm_yX5_refuse zw_20_11 zc_27 (by decide) zs_14 (q := (RX5, TX5, 9)) rfl rfl (yc_X5_refuse _ _ s33 hI34 5 ⟨by omega, by omega⟩ r54 ⟨by omega, by omega⟩ (by omega) f hT37) rfl rfl (Nat.le_of_ble_eq_true rfl) (by decide) (fun r61 s62 hr63 hp64 => ?_)
            obtain ⟨hI65, hF66, hT67, z68⟩ := hp64
            have hE69 : yst s62 = yPno 5 r54 p36 := by rw [z68, hE38]
            have hF70 := zOn_tr hF35 hF66 (fun k j h => zi_7t k j (zi_r17 k j h))
            have e71 := hF66 34 2 rfl
            have hQ72 := (yPlc_c (K := 7) (A := 9) (B := 10) (C := 11) (hF66 7 7 rfl) (hF66 7 8 rfl) (hF66 7 10 rfl) (hF66 7 11 rfl) (hF66 7 12 rfl) (fun j => hF66 9 j rfl) (fun j => hF66 10 j rfl) (fun j => hF66 11 j rfl)).trans rfl
            have w73 : yPo (yPno 5 r54 p36) = 0 := yPo_no
            refine zt_iload_n (pc' := 110) hX dX8_readInto_109 rfl rfl ?_
            exact zt_iret hX hR dX8_readInto_110 ⟨by omega, by omega⟩ ⟨hI65, hF70, by omega, by omega, (by rw [← hf]; exact hT67), hE69.trans (by rw [← hf, yAll_m g40 (by have h := z52; constructor <;> omega) (by omega)]; exact yPno_f (fun o => by omega)), (fun o => by rw [hE69, yPo_no] at o; exact absurd o (by decide))⟩
        · refine zt_aload_n (pc' := 70) hX dX8_readInto_69 rfl rfl ?_
          refine zt_get (pc' := 73) (v := .ref (X.1.1 + 27)) hX dX8_readInto_70 rfl zf_X8_9 (by decide) zc_34 zs_21 (zrf_of (zv_21_0 hI34 zc_34)) ?_
          refine zt_iconst (pc' := 74) hX dX8_readInto_73 rfl ?_
          refine zt_aload_n (pc' := 75) hX dX8_readInto_74 rfl rfl ?_
          refine zt_get (pc' := 78) (v := .ref (X.1.1 + 27)) hX dX8_readInto_75 rfl zf_X8_9 (by decide) zc_34 zs_21 (zrf_of (zv_21_0 hI34 zc_34)) ?_
          refine zt_cVi (pc' := 81) hX dX8_readInto_78 rfl zm_yX5_placeHere zw_20_7 zc_27 (by decide) zs_14 (q := (RX5, TX5, 9)) rfl rfl (yc_X5_placeHere _ _ s33 hI34 f hT37) rfl rfl (Nat.le_of_ble_eq_true rfl) (by decide) (fun r74 s75 hr76 hp77 => ?_)
          obtain ⟨rfl, q78, q79, z80⟩ := hp77
          rw [hE38] at z80
          refine zt_cVv (pc' := 84) hX dX8_readInto_81 rfl zm_yX5_refuse zw_20_11 zc_27 (by decide) zs_14 (q := (RX5, TX5, 9)) rfl rfl (yc_X5_refuse _ _ s33 hI34 1 ⟨by omega, by omega⟩ r74 ⟨by omega, by omega⟩ (by omega) f hT37) rfl rfl (Nat.le_of_ble_eq_true rfl) (by decide) (fun r81 s82 hr83 hp84 => ?_)
          obtain ⟨hI85, hF86, hT87, z88⟩ := hp84
          have hE89 : yst s82 = yPno 1 r74 p36 := by rw [z88, hE38]
          have hF90 := zOn_tr hF35 hF86 (fun k j h => zi_7t k j (zi_r17 k j h))
          have e91 := hF86 34 2 rfl
          have hQ92 := (yPlc_c (K := 7) (A := 9) (B := 10) (C := 11) (hF86 7 7 rfl) (hF86 7 8 rfl) (hF86 7 10 rfl) (hF86 7 11 rfl) (hF86 7 12 rfl) (fun j => hF86 9 j rfl) (fun j => hF86 10 j rfl) (fun j => hF86 11 j rfl)).trans rfl
          have w93 : yPo (yPno 1 r74 p36) = 0 := yPo_no
          refine zt_aload_n (pc' := 85) hX dX8_readInto_84 rfl rfl ?_
          refine zt_get (pc' := 88) (v := .ref (X.1.1 + 27)) hX dX8_readInto_85 rfl zf_X8_9 (by decide) zc_34 zs_21 (zrf_of (zv_21_0 hI85 zc_34)) ?_
          refine zt_cVz (pc' := 91) hX dX8_readInto_88 rfl zm_yX5_hasMore zw_17_17 zc_27 (by decide) zs_14 (q := (RX5, TX5, 9)) rfl rfl (yc_X5_hasMore _ _ s82 hI85 f hT87) rfl rfl (Nat.le_of_ble_eq_true rfl) (by decide) (fun r94 s95 hr96 hp97 => ?_)
          obtain ⟨rfl, q98, q99, z100⟩ := hp97
          rw [hE89] at z100
          refine zt_ifeq (pc' := 94) (tgt := 109) hX dX8_readInto_91 rfl (by decide) ⟨by omega, by omega⟩ (fun c101 => ?_) (fun c101 => ?_)
          · refine zt_iload_n (pc' := 110) hX dX8_readInto_109 rfl rfl ?_
            exact zt_iret hX hR dX8_readInto_110 ⟨by omega, by omega⟩ ⟨hI85, hF90, by omega, by omega, (by rw [← hf]; exact hT87), hE89.trans (by rw [← hf, yAll_z g40 (fun m => by omega) (by omega)]; exact yPno_f (fun o => by omega)), (fun o => by rw [hE89, yPo_no] at o; exact absurd o (by decide))⟩
          · refine zt_aload_n (pc' := 95) hX dX8_readInto_94 rfl rfl ?_
            refine zt_get (pc' := 98) (v := .ref (X.1.1 + 27)) hX dX8_readInto_95 rfl zf_X8_9 (by decide) zc_34 zs_21 (zrf_of (zv_21_0 hI85 zc_34)) ?_
            refine zt_iconst (pc' := 99) hX dX8_readInto_98 rfl ?_
            refine zt_aload_n (pc' := 100) hX dX8_readInto_99 rfl rfl ?_
            refine zt_get (pc' := 103) (v := .ref (X.1.1 + 27)) hX dX8_readInto_100 rfl zf_X8_9 (by decide) zc_34 zs_21 (zrf_of (zv_21_0 hI85 zc_34)) ?_
            refine zt_cVi (pc' := 106) hX dX8_readInto_103 rfl zm_yX5_placeHere zw_20_7 zc_27 (by decide) zs_14 (q := (RX5, TX5, 9)) rfl rfl (yc_X5_placeHere _ _ s82 hI85 f hT87) rfl rfl (Nat.le_of_ble_eq_true rfl) (by decide) (fun r102 s103 hr104 hp105 => ?_)
            obtain ⟨rfl, q106, q107, z108⟩ := hp105
            rw [hE89] at z108
            refine zt_cVv (pc' := 109) hX dX8_readInto_106 rfl zm_yX5_refuse zw_20_11 zc_27 (by decide) zs_14 (q := (RX5, TX5, 9)) rfl rfl (yc_X5_refuse _ _ s82 hI85 5 ⟨by omega, by omega⟩ r102 ⟨by omega, by omega⟩ (by omega) f hT87) rfl rfl (Nat.le_of_ble_eq_true rfl) (by decide) (fun r109 s110 hr111 hp112 => ?_)
            obtain ⟨hI113, hF114, hT115, z116⟩ := hp112
            have hE117 : yst s110 = yPno 5 r102 (yPno 1 r74 p36) := by rw [z116, hE89]
            have hF118 := zOn_tr hF90 hF114 (fun k j h => zi_7t k j (zi_r17 k j h))
            have e119 := hF114 34 2 rfl
            have hQ120 := (yPlc_c (K := 7) (A := 9) (B := 10) (C := 11) (hF114 7 7 rfl) (hF114 7 8 rfl) (hF114 7 10 rfl) (hF114 7 11 rfl) (hF114 7 12 rfl) (fun j => hF114 9 j rfl) (fun j => hF114 10 j rfl) (fun j => hF114 11 j rfl)).trans hQ92
            have w121 : yPo (yPno 5 r102 (yPno 1 r74 p36)) = 0 := yPo_no
            refine zt_iload_n (pc' := 110) hX dX8_readInto_109 rfl rfl ?_
            exact zt_iret hX hR dX8_readInto_110 ⟨by omega, by omega⟩ ⟨hI113, hF118, by omega, by omega, (by exfalso; omega), (by exfalso; omega), (by exfalso; omega)⟩
      · refine zt_aload_n (pc' := 26) hX dX8_readInto_25 rfl rfl ?_
        refine zt_get (pc' := 29) (v := .ref (X.1.1 + 27)) hX dX8_readInto_26 rfl zf_X8_9 (by decide) zc_34 zs_21 (zrf_of (zv_21_0 hI34 zc_34)) ?_
        refine zt_cVz (pc' := 32) hX dX8_readInto_29 rfl zm_yX5_hasMore zw_17_17 zc_27 (by decide) zs_14 (q := (RX5, TX5, 9)) rfl rfl (yc_X5_hasMore _ _ s33 hI34 f hT37) rfl rfl (Nat.le_of_ble_eq_true rfl) (by decide) (fun r122 s123 hr124 hp125 => ?_)
        obtain ⟨rfl, q126, q127, z128⟩ := hp125
        rw [hE38] at z128
        refine zt_ifeq (pc' := 35) (tgt := 65) hX dX8_readInto_32 rfl (by decide) ⟨by omega, by omega⟩ (fun c129 => ?_) (fun c129 => ?_)
        · refine zt_iload_n (pc' := 66) hX dX8_readInto_65 rfl rfl ?_
          refine zt_ifne (pc' := 69) (tgt := 84) hX dX8_readInto_66 rfl (by decide) ⟨by omega, by omega⟩ (fun c130 => ?_) (fun c130 => ?_)
          · refine zt_aload_n (pc' := 85) hX dX8_readInto_84 rfl rfl ?_
            refine zt_get (pc' := 88) (v := .ref (X.1.1 + 27)) hX dX8_readInto_85 rfl zf_X8_9 (by decide) zc_34 zs_21 (zrf_of (zv_21_0 hI34 zc_34)) ?_
            refine zt_cVz (pc' := 91) hX dX8_readInto_88 rfl zm_yX5_hasMore zw_17_17 zc_27 (by decide) zs_14 (q := (RX5, TX5, 9)) rfl rfl (yc_X5_hasMore _ _ s33 hI34 f hT37) rfl rfl (Nat.le_of_ble_eq_true rfl) (by decide) (fun r131 s132 hr133 hp134 => ?_)
            obtain ⟨rfl, q135, q136, z137⟩ := hp134
            rw [hE38] at z137
            refine zt_ifeq (pc' := 94) (tgt := 109) hX dX8_readInto_91 rfl (by decide) ⟨by omega, by omega⟩ (fun c138 => ?_) (fun c138 => ?_)
            · refine zt_iload_n (pc' := 110) hX dX8_readInto_109 rfl rfl ?_
              have hfin := yAll_1 g40 (fun m => by omega) (by omega)
              exact zt_iret hX hR dX8_readInto_110 ⟨by omega, by omega⟩ ⟨hI34, hF35, by omega, by omega, (by rw [← hf]; exact hT37), (by rw [← hf, hfin.1]; exact hE38), (fun o => by rw [hE38] at o; rw [← hf]; exact hfin.2 o)⟩
            · refine zt_aload_n (pc' := 95) hX dX8_readInto_94 rfl rfl ?_
              refine zt_get (pc' := 98) (v := .ref (X.1.1 + 27)) hX dX8_readInto_95 rfl zf_X8_9 (by decide) zc_34 zs_21 (zrf_of (zv_21_0 hI34 zc_34)) ?_
              refine zt_iconst (pc' := 99) hX dX8_readInto_98 rfl ?_
              refine zt_aload_n (pc' := 100) hX dX8_readInto_99 rfl rfl ?_
              refine zt_get (pc' := 103) (v := .ref (X.1.1 + 27)) hX dX8_readInto_100 rfl zf_X8_9 (by decide) zc_34 zs_21 (zrf_of (zv_21_0 hI34 zc_34)) ?_
              refine zt_cVi (pc' := 106) hX dX8_readInto_103 rfl zm_yX5_placeHere zw_20_7 zc_27 (by decide) zs_14 (q := (RX5, TX5, 9)) rfl rfl (yc_X5_placeHere _ _ s33 hI34 f hT37) rfl rfl (Nat.le_of_ble_eq_true rfl) (by decide) (fun r139 s140 hr141 hp142 => ?_)
              obtain ⟨rfl, q143, q144, z145⟩ := hp142
              rw [hE38] at z145
              refine zt_cVv (pc' := 109) hX dX8_readInto_106 rfl zm_yX5_refuse zw_20_11 zc_27 (by decide) zs_14 (q := (RX5, TX5, 9)) rfl rfl (yc_X5_refuse _ _ s33 hI34 5 ⟨by omega, by omega⟩ r139 ⟨by omega, by omega⟩ (by omega) f hT37) rfl rfl (Nat.le_of_ble_eq_true rfl) (by decide) (fun r146 s147 hr148 hp149 => ?_)
              obtain ⟨hI150, hF151, hT152, z153⟩ := hp149
              have hE154 : yst s147 = yPno 5 r139 p36 := by rw [z153, hE38]
              have hF155 := zOn_tr hF35 hF151 (fun k j h => zi_7t k j (zi_r17 k j h))
              have e156 := hF151 34 2 rfl
              have hQ157 := (yPlc_c (K := 7) (A := 9) (B := 10) (C := 11) (hF151 7 7 rfl) (hF151 7 8 rfl) (hF151 7 10 rfl) (hF151 7 11 rfl) (hF151 7 12 rfl) (fun j => hF151 9 j rfl) (fun j => hF151 10 j rfl) (fun j => hF151 11 j rfl)).trans rfl
              have w158 : yPo (yPno 5 r139 p36) = 0 := yPo_no
              refine zt_iload_n (pc' := 110) hX dX8_readInto_109 rfl rfl ?_
              exact zt_iret hX hR dX8_readInto_110 ⟨by omega, by omega⟩ ⟨hI150, hF155, by omega, by omega, (by rw [← hf]; exact hT152), hE154.trans (by rw [← hf, yAll_m g40 (by have h := z137; constructor <;> omega) (by omega)]; exact yPno_f (fun o => by omega)), (fun o => by rw [hE154, yPo_no] at o; exact absurd o (by decide))⟩
          · refine zt_aload_n (pc' := 70) hX dX8_readInto_69 rfl rfl ?_
            refine zt_get (pc' := 73) (v := .ref (X.1.1 + 27)) hX dX8_readInto_70 rfl zf_X8_9 (by decide) zc_34 zs_21 (zrf_of (zv_21_0 hI34 zc_34)) ?_
            refine zt_iconst (pc' := 74) hX dX8_readInto_73 rfl ?_
            refine zt_aload_n (pc' := 75) hX dX8_readInto_74 rfl rfl ?_
            refine zt_get (pc' := 78) (v := .ref (X.1.1 + 27)) hX dX8_readInto_75 rfl zf_X8_9 (by decide) zc_34 zs_21 (zrf_of (zv_21_0 hI34 zc_34)) ?_
            refine zt_cVi (pc' := 81) hX dX8_readInto_78 rfl zm_yX5_placeHere zw_20_7 zc_27 (by decide) zs_14 (q := (RX5, TX5, 9)) rfl rfl (yc_X5_placeHere _ _ s33 hI34 f hT37) rfl rfl (Nat.le_of_ble_eq_true rfl) (by decide) (fun r159 s160 hr161 hp162 => ?_)
            obtain ⟨rfl, q163, q164, z165⟩ := hp162
            rw [hE38] at z165
            refine zt_cVv (pc' := 84) hX dX8_readInto_81 rfl zm_yX5_refuse zw_20_11 zc_27 (by decide) zs_14 (q := (RX5, TX5, 9)) rfl rfl (yc_X5_refuse _ _ s33 hI34 1 ⟨by omega, by omega⟩ r159 ⟨by omega, by omega⟩ (by omega) f hT37) rfl rfl (Nat.le_of_ble_eq_true rfl) (by decide) (fun r166 s167 hr168 hp169 => ?_)
            obtain ⟨hI170, hF171, hT172, z173⟩ := hp169
            have hE174 : yst s167 = yPno 1 r159 p36 := by rw [z173, hE38]
            have hF175 := zOn_tr hF35 hF171 (fun k j h => zi_7t k j (zi_r17 k j h))
            have e176 := hF171 34 2 rfl
            have hQ177 := (yPlc_c (K := 7) (A := 9) (B := 10) (C := 11) (hF171 7 7 rfl) (hF171 7 8 rfl) (hF171 7 10 rfl) (hF171 7 11 rfl) (hF171 7 12 rfl) (fun j => hF171 9 j rfl) (fun j => hF171 10 j rfl) (fun j => hF171 11 j rfl)).trans rfl
            have w178 : yPo (yPno 1 r159 p36) = 0 := yPo_no
            refine zt_aload_n (pc' := 85) hX dX8_readInto_84 rfl rfl ?_
            refine zt_get (pc' := 88) (v := .ref (X.1.1 + 27)) hX dX8_readInto_85 rfl zf_X8_9 (by decide) zc_34 zs_21 (zrf_of (zv_21_0 hI170 zc_34)) ?_
            refine zt_cVz (pc' := 91) hX dX8_readInto_88 rfl zm_yX5_hasMore zw_17_17 zc_27 (by decide) zs_14 (q := (RX5, TX5, 9)) rfl rfl (yc_X5_hasMore _ _ s167 hI170 f hT172) rfl rfl (Nat.le_of_ble_eq_true rfl) (by decide) (fun r179 s180 hr181 hp182 => ?_)
            obtain ⟨rfl, q183, q184, z185⟩ := hp182
            rw [hE174] at z185
            refine zt_ifeq (pc' := 94) (tgt := 109) hX dX8_readInto_91 rfl (by decide) ⟨by omega, by omega⟩ (fun c186 => ?_) (fun c186 => ?_)
            · refine zt_iload_n (pc' := 110) hX dX8_readInto_109 rfl rfl ?_
              exact zt_iret hX hR dX8_readInto_110 ⟨by omega, by omega⟩ ⟨hI170, hF175, by omega, by omega, (by rw [← hf]; exact hT172), hE174.trans (by rw [← hf, yAll_z g40 (fun m => by omega) (by omega)]; exact yPno_f (fun o => by omega)), (fun o => by rw [hE174, yPo_no] at o; exact absurd o (by decide))⟩
            · refine zt_aload_n (pc' := 95) hX dX8_readInto_94 rfl rfl ?_
              refine zt_get (pc' := 98) (v := .ref (X.1.1 + 27)) hX dX8_readInto_95 rfl zf_X8_9 (by decide) zc_34 zs_21 (zrf_of (zv_21_0 hI170 zc_34)) ?_
              refine zt_iconst (pc' := 99) hX dX8_readInto_98 rfl ?_
              refine zt_aload_n (pc' := 100) hX dX8_readInto_99 rfl rfl ?_
              refine zt_get (pc' := 103) (v := .ref (X.1.1 + 27)) hX dX8_readInto_100 rfl zf_X8_9 (by decide) zc_34 zs_21 (zrf_of (zv_21_0 hI170 zc_34)) ?_
              refine zt_cVi (pc' := 106) hX dX8_readInto_103 rfl zm_yX5_placeHere zw_20_7 zc_27 (by decide) zs_14 (q := (RX5, TX5, 9)) rfl rfl (yc_X5_placeHere _ _ s167 hI170 f hT172) rfl rfl (Nat.le_of_ble_eq_true rfl) (by decide) (fun r187 s188 hr189 hp190 => ?_)
              obtain ⟨rfl, q191, q192, z193⟩ := hp190
              rw [hE174] at z193
              refine zt_cVv (pc' := 109) hX dX8_readInto_106 rfl zm_yX5_refuse zw_20_11 zc_27 (by decide) zs_14 (q := (RX5, TX5, 9)) rfl rfl (yc_X5_refuse _ _ s167 hI170 5 ⟨by omega, by omega⟩ r187 ⟨by omega, by omega⟩ (by omega) f hT172) rfl rfl (Nat.le_of_ble_eq_true rfl) (by decide) (fun r194 s195 hr196 hp197 => ?_)
              obtain ⟨hI198, hF199, hT200, z201⟩ := hp197
              have hE202 : yst s195 = yPno 5 r187 (yPno 1 r159 p36) := by rw [z201, hE174]
              have hF203 := zOn_tr hF175 hF199 (fun k j h => zi_7t k j (zi_r17 k j h))
              have e204 := hF199 34 2 rfl
              have hQ205 := (yPlc_c (K := 7) (A := 9) (B := 10) (C := 11) (hF199 7 7 rfl) (hF199 7 8 rfl) (hF199 7 10 rfl) (hF199 7 11 rfl) (hF199 7 12 rfl) (fun j => hF199 9 j rfl) (fun j => hF199 10 j rfl) (fun j => hF199 11 j rfl)).trans hQ177
              have w206 : yPo (yPno 5 r187 (yPno 1 r159 p36)) = 0 := yPo_no
              refine zt_iload_n (pc' := 110) hX dX8_readInto_109 rfl rfl ?_
              exact zt_iret hX hR dX8_readInto_110 ⟨by omega, by omega⟩ ⟨hI198, hF203, by omega, by omega, (by exfalso; omega), (by exfalso; omega), (by exfalso; omega)⟩
        · refine zt_iload_n (pc' := 36) hX dX8_readInto_35 rfl rfl ?_
          refine zt_ifne (pc' := 39) (tgt := 46) hX dX8_readInto_36 rfl (by decide) ⟨by omega, by omega⟩ (fun c207 => ?_) (fun c207 => ?_)
          · refine zt_aload_n (pc' := 47) hX dX8_readInto_46 rfl rfl ?_
            refine zt_cVv (pc' := 50) hX dX8_readInto_47 rfl zm_yX8_readStatement zw_19_6 zc_34 (by decide) zs_21 (q := (RX8, TX8, 3)) rfl rfl (yc_X8_readStatement_7 _ _ s33 hI34 (by omega) f hT37) rfl rfl (Nat.le_of_ble_eq_true rfl) (by decide) (fun r208 s209 hr210 hp211 => ?_)
            obtain ⟨hI212, hF213, hT214, z215, z216⟩ := hp211
            have hE217 : yst s209 = yStm f (yPlc s33 7 9 10 11) p36 := by rw [z215, hE38]
            rw [hE38] at z216
            have hF218 := zOn_tr hF35 hF213 zi_7t
            rw [hE217] at z216
            have e219 := hF213 34 2 rfl
            refine zt_aload_n (pc' := 51) hX dX8_readInto_50 rfl rfl ?_
            refine zt_get (pc' := 54) (v := .ref (X.1.1 + 27)) hX dX8_readInto_51 rfl zf_X8_9 (by decide) zc_34 zs_21 (zrf_of (zv_21_0 hI212 zc_34)) ?_
            refine zt_bipush (pc' := 56) hX dX8_readInto_54 rfl (by decide) (by decide) ?_
            refine zt_cVv (pc' := 59) hX dX8_readInto_56 rfl zm_yX5_takeSign zw_24_18 zc_27 (by decide) zs_14 (q := (RX5, TX5, 9)) rfl rfl (yc_X5_takeSign _ _ s209 hI212 59 ⟨by omega, by omega⟩ f hT214) rfl rfl (Nat.le_of_ble_eq_true rfl) (by decide) (fun r221 s222 hr223 hp224 => ?_)
            obtain ⟨hI225, hF226, hT227, z228⟩ := hp224
            have hE229 : yst s222 = yPs f 59 (yStm f (yPlc s33 7 9 10 11) p36) := by rw [z228, hE217]
            have hF230 := zOn_tr hF218 hF226 (fun k j h => zi_7t k j (zi_r17 k j h))
            have e231 := hF226 34 2 rfl
            have hQ232 := (yPlc_c (K := 7) (A := 9) (B := 10) (C := 11) (hF226 7 7 rfl) (hF226 7 8 rfl) (hF226 7 10 rfl) (hF226 7 11 rfl) (hF226 7 12 rfl) (fun j => hF226 9 j rfl) (fun j => hF226 10 j rfl) (fun j => hF226 11 j rfl)).trans rfl
            refine zt_iinc (pc' := 62) (lv' := [some (.ref (X.1.1 + 34)), none, none, some (.int (zI (x30 + 1)))]) hX dX8_readInto_59 rfl rfl hL (by decide) rfl ?_
            refine zt_goto (tgt := 19) hX dX8_readInto_62 (by decide) ?_
            exact ih43 (x30 + 1) s222 (yPs f 59 (yStm f (yPlc s33 7 9 10 11) p36)) (by omega) (by omega) hI225 hF230 hT227 hE229 (by omega) (yLop_bs (by omega) (by have h := z128; constructor <;> omega) g40 (fun o => (hQ232).trans (z216 (yPo_s o)))) (by omega)
          · refine zt_aload_n (pc' := 40) hX dX8_readInto_39 rfl rfl ?_
            refine zt_cVv (pc' := 43) hX dX8_readInto_40 rfl zm_yX8_readPane zw_17_21 zc_34 (by decide) zs_21 (q := (RX8, TX8, 3)) rfl rfl (yc_X8_readPane_7 _ _ s33 hI34 (by omega) f hT37) rfl rfl (Nat.le_of_ble_eq_true rfl) (by decide) (fun r233 s234 hr235 hp236 => ?_)
            obtain ⟨hI237, hF238, hT239, z240, z241⟩ := hp236
            have hE242 : yst s234 = yPan f p36 := by rw [z240, hE38]
            rw [hE38] at z241
            have hF243 := zOn_tr hF35 hF238 zi_7t
            rw [hE242] at z241
            have e244 := hF238 34 2 rfl
            refine zt_goto (tgt := 50) hX dX8_readInto_43 (by decide) ?_
            refine zt_aload_n (pc' := 51) hX dX8_readInto_50 rfl rfl ?_
            refine zt_get (pc' := 54) (v := .ref (X.1.1 + 27)) hX dX8_readInto_51 rfl zf_X8_9 (by decide) zc_34 zs_21 (zrf_of (zv_21_0 hI237 zc_34)) ?_
            refine zt_bipush (pc' := 56) hX dX8_readInto_54 rfl (by decide) (by decide) ?_
            refine zt_cVv (pc' := 59) hX dX8_readInto_56 rfl zm_yX5_takeSign zw_24_18 zc_27 (by decide) zs_14 (q := (RX5, TX5, 9)) rfl rfl (yc_X5_takeSign _ _ s234 hI237 59 ⟨by omega, by omega⟩ f hT239) rfl rfl (Nat.le_of_ble_eq_true rfl) (by decide) (fun r246 s247 hr248 hp249 => ?_)
            obtain ⟨hI250, hF251, hT252, z253⟩ := hp249
            have hE254 : yst s247 = yPs f 59 (yPan f p36) := by rw [z253, hE242]
            have hF255 := zOn_tr hF243 hF251 (fun k j h => zi_7t k j (zi_r17 k j h))
            have e256 := hF251 34 2 rfl
            have hQ257 := (yPlc_c (K := 7) (A := 9) (B := 10) (C := 11) (hF251 7 7 rfl) (hF251 7 8 rfl) (hF251 7 10 rfl) (hF251 7 11 rfl) (hF251 7 12 rfl) (fun j => hF251 9 j rfl) (fun j => hF251 10 j rfl) (fun j => hF251 11 j rfl)).trans rfl
            refine zt_iinc (pc' := 62) (lv' := [some (.ref (X.1.1 + 34)), none, none, some (.int (zI (x30 + 1)))]) hX dX8_readInto_59 rfl rfl hL (by decide) rfl ?_
            refine zt_goto (tgt := 19) hX dX8_readInto_62 (by decide) ?_
            exact ih43 (x30 + 1) s247 (yPs f 59 (yPan f p36)) (by omega) (by omega) hI250 hF255 hT252 hE254 (by omega) (yLop_bp (by omega) (by have h := z128; constructor <;> omega) g40 (fun o => (hQ257).trans (z241 (yPo_s o)))) (by omega)
  refine zt_mask [true, false, false, true] rfl ?_
  exact L_19_40 _ 0 s19 (yP.ok (yS f 0)) (by omega) (by omega) hI22 hF26 z24 z25 (by omega) (by rw [hQ28]; rfl) (Nat.lt_succ_self _)
set_option maxRecDepth 100000 in
set_option maxHeartbeats 4000000 in
theorem yc_X3_isNamed_17 (l : Launch) (E : zEN) (σ : zSto) (hI : zInv σ) (a1_ : Int) (ha1_ : -2147483648 ≤ a1_ ∧ a1_ ≤ 2147483647) : zCt l E yX3_isNamed cX3_isNamed 3 (some .boolean) 0 zNC zNC 0 0 σ [.ref (E.1 + 17), .int (zI a1_)] (fun r σ' => σ = σ' ∧ 0 ≤ r ∧ r ≤ 1 ∧ ((a1_ ∈ (yPlc σ 17 19 20 21).nm → r = 1) ∧ (a1_ ∉ (yPlc σ 17 19 20 21).nm → r = 0))) := by
  refine zCt_of2 [some (.ref (E.1 + 17)), some (.int (zI a1_)), none] (by decide +kernel) (Nat.le_of_ble_eq_true rfl) rfl ?_
  intro X hE_ hX hR hL hN
  subst hE_
  have hX : zok X cX3_isNamed RX3 0 := hX
  refine zt_iconst (pc' := 1) hX dX3_isNamed_0 rfl ?_
  refine zt_istore_n (pc' := 2) (lv' := [some (.ref (X.1.1 + 17)), some (.int (zI a1_)), some (.int (zI 0))]) hX dX3_isNamed_1 rfl hL (by decide) rfl ?_
  have L_2_4 : ∀ (N : Nat) (x1 : Int), 0 ≤ x1 → x1 ≤ 10 → (∀ j : Nat, (j : Int) < x1 → σ 19 j ≠ a1_) → ((11 - x1).toNat) < N → zF X σ 2 [some (.ref (X.1.1 + 17)), some (.int (zI a1_)), some (.int (zI x1))] [] := by
    intro N
    induction N with
    | zero =>
      intro x1 h2 h3 g4 hm6
      exact absurd hm6 (Nat.not_lt_zero _)
    | succ N ih7 =>
      intro x1 h2 h3 g4 hm6
      refine zt_iload_n (pc' := 3) hX dX3_isNamed_2 rfl rfl ?_
      refine zt_aload_n (pc' := 4) hX dX3_isNamed_3 rfl rfl ?_
      have b8 := zv_8_12 hI zc_17
      refine zt_get (pc' := 7) (v := .int (zI (σ 17 12))) hX dX3_isNamed_4 rfl zf_X3_54 (by decide) zc_17 zs_8 rfl ?_
      refine zt_icge (pc' := 10) (tgt := 28) hX dX3_isNamed_7 rfl (by decide) ⟨by omega, by omega⟩ ⟨by omega, by omega⟩ (fun c9 => ?_) (fun c9 => ?_)
      · refine zt_iconst (pc' := 29) hX dX3_isNamed_28 rfl ?_
        exact zt_zret hX hR dX3_isNamed_29 ⟨by omega, by omega⟩ ⟨rfl, by omega, by omega, ⟨fun m => absurd m (ynm_0 g4 (by omega)), fun _ => rfl⟩⟩
      · refine zt_aload_n (pc' := 11) hX dX3_isNamed_10 rfl rfl ?_
        refine zt_get (pc' := 14) (v := .ref (X.1.1 + 19)) hX dX3_isNamed_11 rfl zf_X3_15 (by decide) zc_17 zs_8 (zrf_of (zv_8_1 hI zc_17)) ?_
        refine zt_iload_n (pc' := 15) hX dX3_isNamed_14 rfl rfl ?_
        refine zt_iald (pc' := 16) hX dX3_isNamed_15 rfl (by decide) zc_19 zs_10 (by decide) ⟨by omega, by omega⟩ ?_
        generalize hv10 : σ 19 (x1.toNat) = v10
        have bv10 : -2147483648 ≤ v10 ∧ v10 ≤ 2147483647 := hv10 ▸ zv_10 hI zc_19 _
        refine zt_iload_n (pc' := 17) hX dX3_isNamed_16 rfl rfl ?_
        refine zt_icne (pc' := 20) (tgt := 22) hX dX3_isNamed_17 rfl (by decide) ⟨by omega, by omega⟩ ⟨by omega, by omega⟩ (fun c11 => ?_) (fun c11 => ?_)
        · refine zt_iinc (pc' := 25) (lv' := [some (.ref (X.1.1 + 17)), some (.int (zI a1_)), some (.int (zI (x1 + 1)))]) hX dX3_isNamed_22 rfl rfl hL (by decide) rfl ?_
          refine zt_goto (tgt := 2) hX dX3_isNamed_25 (by decide) ?_
          exact ih7 (x1 + 1) (by omega) (by omega) (yne_s (g := σ 19) g4 (by omega) hv10 (by omega)) (by omega)
        · refine zt_iconst (pc' := 21) hX dX3_isNamed_20 rfl ?_
          exact zt_zret hX hR dX3_isNamed_21 ⟨by omega, by omega⟩ ⟨rfl, by omega, by omega, ⟨fun _ => rfl, fun n => absurd (ynm_1 (i := x1) (by omega) (by omega)) n⟩⟩
  exact L_2_4 _ 0 (by omega) (by omega) (fun j h => absurd h (by omega)) (Nat.lt_succ_self _)
set_option maxRecDepth 100000 in
set_option maxHeartbeats 4000000 in
theorem yc_X3_isHome_17 (l : Launch) (E : zEN) (σ : zSto) (hI : zInv σ) (a1_ : Int) (ha1_ : 0 ≤ a1_ ∧ a1_ ≤ 5) (a2_ : Int) (ha2_ : 0 ≤ a2_ ∧ a2_ ≤ 5) : zCt l E yX3_isHome cX3_isHome 4 (some .boolean) 0 zNC zNC 0 0 σ [.ref (E.1 + 17), .int (zI a1_), .int (zI a2_)] (fun r σ' => σ = σ' ∧ 0 ≤ r ∧ r ≤ 1 ∧ (((a1_ + 6 * a2_) ∈ (yPlc σ 17 19 20 21).hm → r = 1) ∧ ((a1_ + 6 * a2_) ∉ (yPlc σ 17 19 20 21).hm → r = 0))) := by
  refine zCt_of2 [some (.ref (E.1 + 17)), some (.int (zI a1_)), some (.int (zI a2_)), none] (by decide +kernel) (Nat.le_of_ble_eq_true rfl) rfl ?_
  intro X hE_ hX hR hL hN
  subst hE_
  have hX : zok X cX3_isHome RX3 0 := hX
  refine zt_iconst (pc' := 1) hX dX3_isHome_0 rfl ?_
  refine zt_istore_n (pc' := 2) (lv' := [some (.ref (X.1.1 + 17)), some (.int (zI a1_)), some (.int (zI a2_)), some (.int (zI 0))]) hX dX3_isHome_1 rfl hL (by decide) rfl ?_
  have L_2_4 : ∀ (N : Nat) (x1 : Int), 0 ≤ x1 → x1 ≤ 10 → (∀ j : Nat, (j : Int) < x1 → σ 20 j + 6 * σ 21 j ≠ a1_ + 6 * a2_) → ((11 - x1).toNat) < N → zF X σ 2 [some (.ref (X.1.1 + 17)), some (.int (zI a1_)), some (.int (zI a2_)), some (.int (zI x1))] [] := by
    intro N
    induction N with
    | zero =>
      intro x1 h2 h3 g4 hm6
      exact absurd hm6 (Nat.not_lt_zero _)
    | succ N ih7 =>
      intro x1 h2 h3 g4 hm6
      refine zt_iload_n (pc' := 3) hX dX3_isHome_2 rfl rfl ?_
      refine zt_aload_n (pc' := 4) hX dX3_isHome_3 rfl rfl ?_
      have b8 := zv_8_12 hI zc_17
      refine zt_get (pc' := 7) (v := .int (zI (σ 17 12))) hX dX3_isHome_4 rfl zf_X3_54 (by decide) zc_17 zs_8 rfl ?_
      refine zt_icge (pc' := 10) (tgt := 38) hX dX3_isHome_7 rfl (by decide) ⟨by omega, by omega⟩ ⟨by omega, by omega⟩ (fun c9 => ?_) (fun c9 => ?_)
      · refine zt_iconst (pc' := 39) hX dX3_isHome_38 rfl ?_
        exact zt_zret hX hR dX3_isHome_39 ⟨by omega, by omega⟩ ⟨rfl, by omega, by omega, ⟨fun m => absurd m (yhm_0 g4 (by omega)), fun _ => rfl⟩⟩
      · refine zt_aload_n (pc' := 11) hX dX3_isHome_10 rfl rfl ?_
        refine zt_get (pc' := 14) (v := .ref (X.1.1 + 20)) hX dX3_isHome_11 rfl zf_X3_18 (by decide) zc_17 zs_8 (zrf_of (zv_8_2 hI zc_17)) ?_
        refine zt_iload_n (pc' := 15) hX dX3_isHome_14 rfl rfl ?_
        refine zt_iald (pc' := 16) hX dX3_isHome_15 rfl (by decide) zc_20 zs_11 (by decide) ⟨by omega, by omega⟩ ?_
        generalize hv10 : σ 20 (x1.toNat) = v10
        have bv10 : 0 ≤ v10 ∧ v10 ≤ 5 := hv10 ▸ zv_11 hI zc_20 _
        refine zt_iload_n (pc' := 17) hX dX3_isHome_16 rfl rfl ?_
        refine zt_icne (pc' := 20) (tgt := 32) hX dX3_isHome_17 rfl (by decide) ⟨by omega, by omega⟩ ⟨by omega, by omega⟩ (fun c11 => ?_) (fun c11 => ?_)
        · refine zt_iinc (pc' := 35) (lv' := [some (.ref (X.1.1 + 17)), some (.int (zI a1_)), some (.int (zI a2_)), some (.int (zI (x1 + 1)))]) hX dX3_isHome_32 rfl rfl hL (by decide) rfl ?_
          refine zt_goto (tgt := 2) hX dX3_isHome_35 (by decide) ?_
          exact ih7 (x1 + 1) (by omega) (by omega) (yne_h (g := σ 20) (h := σ 21) g4 (by omega) (zv_11 hI zc_20 _) (by omega) (by omega)) (by omega)
        · refine zt_aload_n (pc' := 21) hX dX3_isHome_20 rfl rfl ?_
          refine zt_get (pc' := 24) (v := .ref (X.1.1 + 21)) hX dX3_isHome_21 rfl zf_X3_21 (by decide) zc_17 zs_8 (zrf_of (zv_8_3 hI zc_17)) ?_
          refine zt_iload_n (pc' := 25) hX dX3_isHome_24 rfl rfl ?_
          refine zt_iald (pc' := 26) hX dX3_isHome_25 rfl (by decide) zc_21 zs_12 (by decide) ⟨by omega, by omega⟩ ?_
          generalize hv12 : σ 21 (x1.toNat) = v12
          have bv12 : 0 ≤ v12 ∧ v12 ≤ 5 := hv12 ▸ zv_12 hI zc_21 _
          refine zt_iload_n (pc' := 27) hX dX3_isHome_26 rfl rfl ?_
          refine zt_icne (pc' := 30) (tgt := 32) hX dX3_isHome_27 rfl (by decide) ⟨by omega, by omega⟩ ⟨by omega, by omega⟩ (fun c13 => ?_) (fun c13 => ?_)
          · refine zt_iinc (pc' := 35) (lv' := [some (.ref (X.1.1 + 17)), some (.int (zI a1_)), some (.int (zI a2_)), some (.int (zI (x1 + 1)))]) hX dX3_isHome_32 rfl rfl hL (by decide) rfl ?_
            refine zt_goto (tgt := 2) hX dX3_isHome_35 (by decide) ?_
            exact ih7 (x1 + 1) (by omega) (by omega) (yne_h (g := σ 20) (h := σ 21) g4 (by omega) (zv_11 hI zc_20 _) (by omega) (by omega)) (by omega)
          · refine zt_iconst (pc' := 31) hX dX3_isHome_30 rfl ?_
            exact zt_zret hX hR dX3_isHome_31 ⟨by omega, by omega⟩ ⟨rfl, by omega, by omega, ⟨fun _ => rfl, fun n => absurd (yhm_1 (i := x1) (by omega) (by omega) (by omega)) n⟩⟩
  exact L_2_4 _ 0 (by omega) (by omega) (fun j h => absurd h (by omega)) (Nat.lt_succ_self _)
set_option maxRecDepth 100000 in
set_option maxHeartbeats 4000000 in
theorem yc_X3_setSides_17 (l : Launch) (E : zEN) (σ : zSto) (hI : zInv σ) (a1_ : Int) (ha1_ : 0 ≤ a1_ ∧ a1_ ≤ 6) (a2_ : Int) (ha2_ : 0 ≤ a2_ ∧ a2_ ≤ 6) : zCt l E yX3_setSides cX3_setSides 3 none 0 zNC zNC 0 0 σ [.ref (E.1 + 17), .int (zI a1_), .int (zI a2_)] (fun r σ' => zInv σ' ∧ zOn zRq17 σ σ' ∧ (yPlc σ' 17 19 20 21 = yPl.wsd (yPlc σ 17 19 20 21) a1_ a2_)) := by
  refine zCt_of2 [some (.ref (E.1 + 17)), some (.int (zI a1_)), some (.int (zI a2_))] (by decide +kernel) (Nat.le_of_ble_eq_true rfl) rfl ?_
  intro X hE_ hX hR hL hN
  subst hE_
  have hX : zok X cX3_setSides RX3 0 := hX
  have hF := zOn_rf zRq17 σ
  refine zt_aload_n (pc' := 1) hX dX3_setSides_0 rfl rfl ?_
  refine zt_iload_n (pc' := 2) hX dX3_setSides_1 rfl rfl ?_
  refine zt_put (pc' := 5) (x := a1_) hX dX3_setSides_2 rfl zf_X3_47 (by decide) zc_17 zs_8 (fun q hq => by cases hq; rfl) rfl rfl rfl ?_
  generalize hs2 : zset σ 17 10 a1_ = s1
  have hI3 : zInv s1 := hs2 ▸ zp_8_10 hI zc_17 ⟨by omega, by omega⟩
  have hF4 : zOn zRq17 σ s1 := hs2 ▸ zOn_set hF rfl
  refine zt_aload_n (pc' := 6) hX dX3_setSides_5 rfl rfl ?_
  refine zt_iload_n (pc' := 7) hX dX3_setSides_6 rfl rfl ?_
  refine zt_put (pc' := 10) (x := a2_) hX dX3_setSides_7 rfl zf_X3_51 (by decide) zc_17 zs_8 (fun q hq => by cases hq; rfl) rfl rfl rfl ?_
  generalize hs6 : zset s1 17 11 a2_ = s5
  have hI7 : zInv s5 := hs6 ▸ zp_8_11 hI3 zc_17 ⟨by omega, by omega⟩
  have hF8 : zOn zRq17 σ s5 := hs6 ▸ zOn_set hF4 rfl
  exact zt_vret hX hR dX3_setSides_10 ⟨hI7, hF8, yPlc_sd hs2 hs6 (by decide)⟩
set_option maxRecDepth 100000 in
set_option maxHeartbeats 4000000 in
theorem yc_X3_addPerson_17 (l : Launch) (E : zEN) (σ : zSto) (hI : zInv σ) (a1_ : Int) (ha1_ : -2147483648 ≤ a1_ ∧ a1_ ≤ 2147483647) (a2_ : Int) (ha2_ : 0 ≤ a2_ ∧ a2_ ≤ 5) (a3_ : Int) (ha3_ : 0 ≤ a3_ ∧ a3_ ≤ 5) (a4_ : Int) (ha4_ : 0 ≤ a4_ ∧ a4_ ≤ 99) (hpre0 : σ 17 12 < 10) : zCt l E yX3_addPerson cX3_addPerson 5 none 0 zNC zNC 0 0 σ [.ref (E.1 + 17), .int (zI a1_), .int (zI a2_), .int (zI a3_), .int (zI a4_)] (fun r σ' => zInv σ' ∧ zOn zRq17 σ σ' ∧ (yPlc σ' 17 19 20 21 = yPl.wnh (yPlc σ 17 19 20 21) ((yPlc σ 17 19 20 21).nm ++ [a1_]) ((yPlc σ 17 19 20 21).hm ++ [a2_ + 6 * a3_]))) := by
  refine zCt_of2 [some (.ref (E.1 + 17)), some (.int (zI a1_)), some (.int (zI a2_)), some (.int (zI a3_)), some (.int (zI a4_))] (by decide +kernel) (Nat.le_of_ble_eq_true rfl) rfl ?_
  intro X hE_ hX hR hL hN
  subst hE_
  have hX : zok X cX3_addPerson RX3 0 := hX
  have hF := zOn_rf zRq17 σ
  have b1 := zv_8_12 hI zc_17
  refine zt_aload_n (pc' := 1) hX dX3_addPerson_0 rfl rfl ?_
  have b2 := zv_8_12 hI zc_17
  refine zt_get (pc' := 4) (v := .int (zI (σ 17 12))) hX dX3_addPerson_1 rfl zf_X3_54 (by decide) zc_17 zs_8 rfl ?_
  refine zt_bipush (pc' := 6) hX dX3_addPerson_4 rfl (by decide) (by decide) ?_
  refine zt_icge (pc' := 9) (tgt := 60) hX dX3_addPerson_6 rfl (by decide) ⟨by omega, by omega⟩ ⟨by omega, by omega⟩ (fun c3 => ?_) (fun c3 => ?_)
  · exact zt_vret hX hR dX3_addPerson_60 ⟨hI, hF, (by exfalso; omega)⟩
  · refine zt_aload_n (pc' := 10) hX dX3_addPerson_9 rfl rfl ?_
    refine zt_get (pc' := 13) (v := .ref (X.1.1 + 19)) hX dX3_addPerson_10 rfl zf_X3_15 (by decide) zc_17 zs_8 (zrf_of (zv_8_1 hI zc_17)) ?_
    refine zt_aload_n (pc' := 14) hX dX3_addPerson_13 rfl rfl ?_
    refine zt_get (pc' := 17) (v := .int (zI (σ 17 12))) hX dX3_addPerson_14 rfl zf_X3_54 (by decide) zc_17 zs_8 rfl ?_
    refine zt_iload_n (pc' := 18) hX dX3_addPerson_17 rfl rfl ?_
    refine zt_iast (pc' := 19) hX dX3_addPerson_18 rfl (by decide) zc_19 zs_10 (by decide) ⟨by omega, by omega⟩ ?_
    generalize hs5 : zset σ 19 ((σ 17 12).toNat) a1_ = s4
    have hI6 : zInv s4 := hs5 ▸ zp_10 hI zc_19 ((σ 17 12).toNat) ⟨by omega, by omega⟩
    have hF7 : zOn zRq17 σ s4 := hs5 ▸ zOn_set hF rfl
    have e8 : s4 17 12 = σ 17 12 := by rw [← hs5]; exact zset_k (zne_r zc_17 zc_19 (by decide))
    refine zt_aload_n (pc' := 20) hX dX3_addPerson_19 rfl rfl ?_
    refine zt_get (pc' := 23) (v := .ref (X.1.1 + 20)) hX dX3_addPerson_20 rfl zf_X3_18 (by decide) zc_17 zs_8 (zrf_of (zv_8_2 hI6 zc_17)) ?_
    refine zt_aload_n (pc' := 24) hX dX3_addPerson_23 rfl rfl ?_
    have b9 := zv_8_12 hI6 zc_17
    refine zt_get (pc' := 27) (v := .int (zI (s4 17 12))) hX dX3_addPerson_24 rfl zf_X3_54 (by decide) zc_17 zs_8 rfl ?_
    refine zt_iload_n (pc' := 28) hX dX3_addPerson_27 rfl rfl ?_
    refine zt_iast (pc' := 29) hX dX3_addPerson_28 rfl (by decide) zc_20 zs_11 (by decide) ⟨by omega, by omega⟩ ?_
    generalize hs11 : zset s4 20 ((s4 17 12).toNat) a2_ = s10
    have hI12 : zInv s10 := hs11 ▸ zp_11 hI6 zc_20 ((s4 17 12).toNat) ⟨by omega, by omega⟩
    have hF13 : zOn zRq17 σ s10 := hs11 ▸ zOn_set hF7 rfl
    have e14 : s10 17 12 = s4 17 12 := by rw [← hs11]; exact zset_k (zne_r zc_17 zc_20 (by decide))
    refine zt_aload_n (pc' := 30) hX dX3_addPerson_29 rfl rfl ?_
    refine zt_get (pc' := 33) (v := .ref (X.1.1 + 21)) hX dX3_addPerson_30 rfl zf_X3_21 (by decide) zc_17 zs_8 (zrf_of (zv_8_3 hI12 zc_17)) ?_
    refine zt_aload_n (pc' := 34) hX dX3_addPerson_33 rfl rfl ?_
    have b15 := zv_8_12 hI12 zc_17
    refine zt_get (pc' := 37) (v := .int (zI (s10 17 12))) hX dX3_addPerson_34 rfl zf_X3_54 (by decide) zc_17 zs_8 rfl ?_
    refine zt_iload_n (pc' := 38) hX dX3_addPerson_37 rfl rfl ?_
    refine zt_iast (pc' := 39) hX dX3_addPerson_38 rfl (by decide) zc_21 zs_12 (by decide) ⟨by omega, by omega⟩ ?_
    generalize hs17 : zset s10 21 ((s10 17 12).toNat) a3_ = s16
    have hI18 : zInv s16 := hs17 ▸ zp_12 hI12 zc_21 ((s10 17 12).toNat) ⟨by omega, by omega⟩
    have hF19 : zOn zRq17 σ s16 := hs17 ▸ zOn_set hF13 rfl
    have e20 : s16 17 12 = s10 17 12 := by rw [← hs17]; exact zset_k (zne_r zc_17 zc_21 (by decide))
    refine zt_aload_n (pc' := 40) hX dX3_addPerson_39 rfl rfl ?_
    refine zt_get (pc' := 43) (v := .ref (X.1.1 + 22)) hX dX3_addPerson_40 rfl zf_X3_24 (by decide) zc_17 zs_8 (zrf_of (zv_8_4 hI18 zc_17)) ?_
    refine zt_aload_n (pc' := 44) hX dX3_addPerson_43 rfl rfl ?_
    have b21 := zv_8_12 hI18 zc_17
    refine zt_get (pc' := 47) (v := .int (zI (s16 17 12))) hX dX3_addPerson_44 rfl zf_X3_54 (by decide) zc_17 zs_8 rfl ?_
    refine zt_iload (pc' := 49) hX dX3_addPerson_47 rfl rfl ?_
    refine zt_iast (pc' := 50) hX dX3_addPerson_49 rfl (by decide) zc_22 zs_13 (by decide) ⟨by omega, by omega⟩ ?_
    generalize hs23 : zset s16 22 ((s16 17 12).toNat) a4_ = s22
    have hI24 : zInv s22 := hs23 ▸ zp_13 hI18 zc_22 ((s16 17 12).toNat) ⟨by omega, by omega⟩
    have hF25 : zOn zRq17 σ s22 := hs23 ▸ zOn_set hF19 rfl
    have e26 : s22 17 12 = s16 17 12 := by rw [← hs23]; exact zset_k (zne_r zc_17 zc_22 (by decide))
    refine zt_aload_n (pc' := 51) hX dX3_addPerson_50 rfl rfl ?_
    refine zt_dup (pc' := 52) hX dX3_addPerson_51 rfl rfl ?_
    have b27 := zv_8_12 hI24 zc_17
    refine zt_get (pc' := 55) (v := .int (zI (s22 17 12))) hX dX3_addPerson_52 rfl zf_X3_54 (by decide) zc_17 zs_8 rfl ?_
    refine zt_iconst (pc' := 56) hX dX3_addPerson_55 rfl ?_
    refine zt_iadd (pc' := 57) hX dX3_addPerson_56 rfl ?_
    refine zt_put (pc' := 60) (x := ((s22 17 12) + 1)) hX dX3_addPerson_57 rfl zf_X3_54 (by decide) zc_17 zs_8 (fun q hq => by cases hq; rfl) rfl rfl rfl ?_
    generalize hs29 : zset s22 17 12 ((s22 17 12) + 1) = s28
    have hI30 : zInv s28 := hs29 ▸ zp_8_12 hI24 zc_17 ⟨by omega, by omega⟩
    have hF31 : zOn zRq17 σ s28 := hs29 ▸ zOn_set hF25 rfl
    have e32 : s28 17 12 = ((s22 17 12) + 1) := by rw [← hs29]; exact zset_s
    exact zt_vret hX hR dX3_addPerson_60 ⟨hI30, hF31, yPlc_add (by omega) rfl hs5 hs11 hs17 hs23 hs29 (by omega) (by omega) (by omega) (by decide)⟩
set_option maxRecDepth 100000 in
set_option maxHeartbeats 4000000 in
theorem yc_X3_clear_17 (l : Launch) (E : zEN) (σ : zSto) (hI : zInv σ)  : zCt l E yX3_clear cX3_clear 2 none 3 zNC zNC 0 0 σ [.ref (E.1 + 17)] (fun r σ' => zInv σ' ∧ zOn zRq17 σ σ' ∧ (yPlc σ' 17 19 20 21 = yPl0)) := by
  refine zCt_of2 [some (.ref (E.1 + 17)), none] (by decide +kernel) (Nat.le_of_ble_eq_true rfl) rfl ?_
  intro X hE_ hX hR hL hN
  subst hE_
  have hX : zok X cX3_clear RX3 3 := hX
  have hF := zOn_rf zRq17 σ
  refine zt_iconst (pc' := 1) hX dX3_clear_0 rfl ?_
  refine zt_istore_n (pc' := 2) (lv' := [some (.ref (X.1.1 + 17)), some (.int (zI 0))]) hX dX3_clear_1 rfl hL (by decide) rfl ?_
  have L_2_6 : ∀ (N : Nat) (x1 : Int) (s4 : zSto), 0 ≤ x1 → x1 ≤ 36 → zInv s4 → zOn zRq17 σ s4 → ((37 - x1).toNat) < N → zF X s4 2 [some (.ref (X.1.1 + 17)), some (.int (zI x1))] [] := by
    intro N
    induction N with
    | zero =>
      intro x1 s4 h2 h3 hI5 hF6 hm8
      exact absurd hm8 (Nat.not_lt_zero _)
    | succ N ih9 =>
      intro x1 s4 h2 h3 hI5 hF6 hm8
      refine zt_iload_n (pc' := 3) hX dX3_clear_2 rfl rfl ?_
      refine zt_bipush (pc' := 5) hX dX3_clear_3 rfl (by decide) (by decide) ?_
      refine zt_icge (pc' := 8) (tgt := 21) hX dX3_clear_5 rfl (by decide) ⟨by omega, by omega⟩ ⟨by omega, by omega⟩ (fun c10 => ?_) (fun c10 => ?_)
      · refine zt_aload_n (pc' := 22) hX dX3_clear_21 rfl rfl ?_
        refine zt_get (pc' := 25) (v := .ref (X.1.1 + 23)) hX dX3_clear_22 rfl zf_X3_30 (by decide) zc_17 zs_8 (zrf_of (zv_8_5 hI5 zc_17)) ?_
        refine zt_bipush (pc' := 27) hX dX3_clear_25 rfl (by decide) (by decide) ?_
        refine zt_cVv (pc' := 30) hX dX3_clear_27 rfl zm_yX4_setStep zw_15_22 zc_23 (by decide) zs_6 (q := (RX4, TX4, 2)) rfl rfl (yc_X4_setStep _ _ s4 hI5 23 zc_23 14 ⟨by omega, by omega⟩) rfl rfl (Nat.le_of_ble_eq_true rfl) (by decide) (fun r11 s12 hr13 hp14 => ?_)
        obtain ⟨hI15, hF16⟩ := hp14
        have hF17 := zOn_tr hF6 hF16 zi_pq17
        refine zt_aload_n (pc' := 31) hX dX3_clear_30 rfl rfl ?_
        refine zt_get (pc' := 34) (v := .ref (X.1.1 + 25)) hX dX3_clear_31 rfl zf_X3_34 (by decide) zc_17 zs_8 (zrf_of (zv_8_6 hI15 zc_17)) ?_
        refine zt_bipush (pc' := 36) hX dX3_clear_34 rfl (by decide) (by decide) ?_
        refine zt_cVv (pc' := 39) hX dX3_clear_36 rfl zm_yX4_setStep zw_15_22 zc_25 (by decide) zs_6 (q := (RX4, TX4, 2)) rfl rfl (yc_X4_setStep _ _ s12 hI15 25 zc_25 24 ⟨by omega, by omega⟩) rfl rfl (Nat.le_of_ble_eq_true rfl) (by decide) (fun r18 s19 hr20 hp21 => ?_)
        obtain ⟨hI22, hF23⟩ := hp21
        have hF24 := zOn_tr hF17 hF23 zi_pq17
        refine zt_aload_n (pc' := 40) hX dX3_clear_39 rfl rfl ?_
        refine zt_iconst (pc' := 41) hX dX3_clear_40 rfl ?_
        refine zt_put (pc' := 44) (x := 0) hX dX3_clear_41 rfl zf_X3_37 (by decide) zc_17 zs_8 (fun q hq => by cases hq; rfl) rfl (zfit_z (by omega) (by omega)).1 (zfit_z (by omega) (by omega)).2 ?_
        generalize hs26 : zset s19 17 7 0 = s25
        have hI27 : zInv s25 := hs26 ▸ zp_8_7 hI22 zc_17 ⟨by omega, by omega⟩
        have hF28 : zOn zRq17 σ s25 := hs26 ▸ zOn_set hF24 rfl
        refine zt_aload_n (pc' := 45) hX dX3_clear_44 rfl rfl ?_
        refine zt_iconst (pc' := 46) hX dX3_clear_45 rfl ?_
        refine zt_put (pc' := 49) (x := 0) hX dX3_clear_46 rfl zf_X3_41 (by decide) zc_17 zs_8 (fun q hq => by cases hq; rfl) rfl (zfit_z (by omega) (by omega)).1 (zfit_z (by omega) (by omega)).2 ?_
        generalize hs30 : zset s25 17 8 0 = s29
        have hI31 : zInv s29 := hs30 ▸ zp_8_8 hI27 zc_17 ⟨by omega, by omega⟩
        have hF32 : zOn zRq17 σ s29 := hs30 ▸ zOn_set hF28 rfl
        refine zt_aload_n (pc' := 50) hX dX3_clear_49 rfl rfl ?_
        refine zt_iconst (pc' := 51) hX dX3_clear_50 rfl ?_
        refine zt_put (pc' := 54) (x := 0) hX dX3_clear_51 rfl zf_X3_44 (by decide) zc_17 zs_8 (fun q hq => by cases hq; rfl) rfl (zfit_z (by omega) (by omega)).1 (zfit_z (by omega) (by omega)).2 ?_
        generalize hs34 : zset s29 17 9 0 = s33
        have hI35 : zInv s33 := hs34 ▸ zp_8_9 hI31 zc_17 ⟨by omega, by omega⟩
        have hF36 : zOn zRq17 σ s33 := hs34 ▸ zOn_set hF32 rfl
        refine zt_aload_n (pc' := 55) hX dX3_clear_54 rfl rfl ?_
        refine zt_iconst (pc' := 56) hX dX3_clear_55 rfl ?_
        refine zt_put (pc' := 59) (x := 0) hX dX3_clear_56 rfl zf_X3_47 (by decide) zc_17 zs_8 (fun q hq => by cases hq; rfl) rfl rfl rfl ?_
        generalize hs38 : zset s33 17 10 0 = s37
        have hI39 : zInv s37 := hs38 ▸ zp_8_10 hI35 zc_17 ⟨by omega, by omega⟩
        have hF40 : zOn zRq17 σ s37 := hs38 ▸ zOn_set hF36 rfl
        refine zt_aload_n (pc' := 60) hX dX3_clear_59 rfl rfl ?_
        refine zt_iconst (pc' := 61) hX dX3_clear_60 rfl ?_
        refine zt_put (pc' := 64) (x := 0) hX dX3_clear_61 rfl zf_X3_51 (by decide) zc_17 zs_8 (fun q hq => by cases hq; rfl) rfl rfl rfl ?_
        generalize hs42 : zset s37 17 11 0 = s41
        have hI43 : zInv s41 := hs42 ▸ zp_8_11 hI39 zc_17 ⟨by omega, by omega⟩
        have hF44 : zOn zRq17 σ s41 := hs42 ▸ zOn_set hF40 rfl
        refine zt_aload_n (pc' := 65) hX dX3_clear_64 rfl rfl ?_
        refine zt_iconst (pc' := 66) hX dX3_clear_65 rfl ?_
        refine zt_put (pc' := 69) (x := 0) hX dX3_clear_66 rfl zf_X3_54 (by decide) zc_17 zs_8 (fun q hq => by cases hq; rfl) rfl rfl rfl ?_
        generalize hs46 : zset s41 17 12 0 = s45
        have hI47 : zInv s45 := hs46 ▸ zp_8_12 hI43 zc_17 ⟨by omega, by omega⟩
        have hF48 : zOn zRq17 σ s45 := hs46 ▸ zOn_set hF44 rfl
        refine zt_aload_n (pc' := 70) hX dX3_clear_69 rfl rfl ?_
        refine zt_iconst (pc' := 71) hX dX3_clear_70 rfl ?_
        refine zt_put (pc' := 74) (x := 0) hX dX3_clear_71 rfl zf_X3_57 (by decide) zc_17 zs_8 (fun q hq => by cases hq; rfl) rfl rfl rfl ?_
        generalize hs50 : zset s45 17 13 0 = s49
        have hI51 : zInv s49 := hs50 ▸ zp_8_13 hI47 zc_17 ⟨by omega, by omega⟩
        have hF52 : zOn zRq17 σ s49 := hs50 ▸ zOn_set hF48 rfl
        refine zt_aload_n (pc' := 75) hX dX3_clear_74 rfl rfl ?_
        refine zt_iconst (pc' := 76) hX dX3_clear_75 rfl ?_
        refine zt_put (pc' := 79) (x := 3) hX dX3_clear_76 rfl zf_X3_60 (by decide) zc_17 zs_8 (fun q hq => by cases hq; rfl) rfl rfl rfl ?_
        generalize hs54 : zset s49 17 14 3 = s53
        have hI55 : zInv s53 := hs54 ▸ zp_8_14 hI51 zc_17 ⟨by omega, by omega⟩
        have hF56 : zOn zRq17 σ s53 := hs54 ▸ zOn_set hF52 rfl
        refine zt_aload_n (pc' := 80) hX dX3_clear_79 rfl rfl ?_
        refine zt_bipush (pc' := 82) hX dX3_clear_80 rfl (by decide) (by decide) ?_
        refine zt_put (pc' := 85) (x := 20) hX dX3_clear_82 rfl zf_X3_63 (by decide) zc_17 zs_8 (fun q hq => by cases hq; rfl) rfl rfl rfl ?_
        generalize hs58 : zset s53 17 15 20 = s57
        have hI59 : zInv s57 := hs58 ▸ zp_8_15 hI55 zc_17 ⟨by omega, by omega⟩
        have hF60 : zOn zRq17 σ s57 := hs58 ▸ zOn_set hF56 rfl
        refine zt_aload_n (pc' := 86) hX dX3_clear_85 rfl rfl ?_
        refine zt_iconst (pc' := 87) hX dX3_clear_86 rfl ?_
        refine zt_put (pc' := 90) (x := 0) hX dX3_clear_87 rfl zf_X3_66 (by decide) zc_17 zs_8 (fun q hq => by cases hq; rfl) rfl rfl rfl ?_
        generalize hs62 : zset s57 17 16 0 = s61
        have hI63 : zInv s61 := hs62 ▸ zp_8_16 hI59 zc_17 ⟨by omega, by omega⟩
        have hF64 : zOn zRq17 σ s61 := hs62 ▸ zOn_set hF60 rfl
        have e65 : s61 17 7 = s57 17 7 := by rw [← hs62]; exact zset_j (by decide)
        have e66 : s57 17 7 = s53 17 7 := by rw [← hs58]; exact zset_j (by decide)
        have e67 : s53 17 7 = s49 17 7 := by rw [← hs54]; exact zset_j (by decide)
        have e68 : s49 17 7 = s45 17 7 := by rw [← hs50]; exact zset_j (by decide)
        have e69 : s45 17 7 = s41 17 7 := by rw [← hs46]; exact zset_j (by decide)
        have e70 : s41 17 7 = s37 17 7 := by rw [← hs42]; exact zset_j (by decide)
        have e71 : s37 17 7 = s33 17 7 := by rw [← hs38]; exact zset_j (by decide)
        have e72 : s33 17 7 = s29 17 7 := by rw [← hs34]; exact zset_j (by decide)
        have e73 : s29 17 7 = s25 17 7 := by rw [← hs30]; exact zset_j (by decide)
        have e74 : s25 17 7 = 0 := by rw [← hs26]; exact zset_s
        have e75 : s61 17 8 = s57 17 8 := by rw [← hs62]; exact zset_j (by decide)
        have e76 : s57 17 8 = s53 17 8 := by rw [← hs58]; exact zset_j (by decide)
        have e77 : s53 17 8 = s49 17 8 := by rw [← hs54]; exact zset_j (by decide)
        have e78 : s49 17 8 = s45 17 8 := by rw [← hs50]; exact zset_j (by decide)
        have e79 : s45 17 8 = s41 17 8 := by rw [← hs46]; exact zset_j (by decide)
        have e80 : s41 17 8 = s37 17 8 := by rw [← hs42]; exact zset_j (by decide)
        have e81 : s37 17 8 = s33 17 8 := by rw [← hs38]; exact zset_j (by decide)
        have e82 : s33 17 8 = s29 17 8 := by rw [← hs34]; exact zset_j (by decide)
        have e83 : s29 17 8 = 0 := by rw [← hs30]; exact zset_s
        have e84 : s61 17 10 = s57 17 10 := by rw [← hs62]; exact zset_j (by decide)
        have e85 : s57 17 10 = s53 17 10 := by rw [← hs58]; exact zset_j (by decide)
        have e86 : s53 17 10 = s49 17 10 := by rw [← hs54]; exact zset_j (by decide)
        have e87 : s49 17 10 = s45 17 10 := by rw [← hs50]; exact zset_j (by decide)
        have e88 : s45 17 10 = s41 17 10 := by rw [← hs46]; exact zset_j (by decide)
        have e89 : s41 17 10 = s37 17 10 := by rw [← hs42]; exact zset_j (by decide)
        have e90 : s37 17 10 = 0 := by rw [← hs38]; exact zset_s
        have e91 : s61 17 11 = s57 17 11 := by rw [← hs62]; exact zset_j (by decide)
        have e92 : s57 17 11 = s53 17 11 := by rw [← hs58]; exact zset_j (by decide)
        have e93 : s53 17 11 = s49 17 11 := by rw [← hs54]; exact zset_j (by decide)
        have e94 : s49 17 11 = s45 17 11 := by rw [← hs50]; exact zset_j (by decide)
        have e95 : s45 17 11 = s41 17 11 := by rw [← hs46]; exact zset_j (by decide)
        have e96 : s41 17 11 = 0 := by rw [← hs42]; exact zset_s
        have e97 : s61 17 12 = s57 17 12 := by rw [← hs62]; exact zset_j (by decide)
        have e98 : s57 17 12 = s53 17 12 := by rw [← hs58]; exact zset_j (by decide)
        have e99 : s53 17 12 = s49 17 12 := by rw [← hs54]; exact zset_j (by decide)
        have e100 : s49 17 12 = s45 17 12 := by rw [← hs50]; exact zset_j (by decide)
        have e101 : s45 17 12 = 0 := by rw [← hs46]; exact zset_s
        exact zt_vret hX hR dX3_clear_90 ⟨hI63, hF64, yPlc_0 (by omega) (by omega) (by omega) (by omega) (by omega)⟩
      · refine zt_aload_n (pc' := 9) hX dX3_clear_8 rfl rfl ?_
        refine zt_get (pc' := 12) (v := .ref (X.1.1 + 18)) hX dX3_clear_9 rfl zf_X3_9 (by decide) zc_17 zs_8 (zrf_of (zv_8_0 hI5 zc_17)) ?_
        refine zt_iload_n (pc' := 13) hX dX3_clear_12 rfl rfl ?_
        refine zt_iconst (pc' := 14) hX dX3_clear_13 rfl ?_
        refine zt_iast (pc' := 15) hX dX3_clear_14 rfl (by decide) zc_18 zs_9 (by decide) ⟨by omega, by omega⟩ ?_
        generalize hs103 : zset s4 18 (x1.toNat) 1 = s102
        have hI104 : zInv s102 := hs103 ▸ zp_9 hI5 zc_18 (x1.toNat) ⟨by omega, by omega⟩
        have hF105 : zOn zRq17 σ s102 := hs103 ▸ zOn_set hF6 rfl
        refine zt_iinc (pc' := 18) (lv' := [some (.ref (X.1.1 + 17)), some (.int (zI (x1 + 1)))]) hX dX3_clear_15 rfl rfl hL (by decide) rfl ?_
        refine zt_goto (tgt := 2) hX dX3_clear_18 (by decide) ?_
        exact ih9 (x1 + 1) s102 (by omega) (by omega) hI104 hF105 (by omega)
  exact L_2_6 _ 0 σ (by omega) (by omega) hI hF (Nat.lt_succ_self _)
set_option maxRecDepth 100000 in
set_option maxHeartbeats 4000000 in
theorem yc_X8_takeName_17 (l : Launch) (E : zEN) (σ : zSto) (hI : zInv σ) (hpre0 : σ 34 2 = 17) (f : Int → Int) (hT : yTk f σ) : zCt l E yX8_takeName cX8_takeName 4 (some .int) 1 zNC zNC 0 0 σ [.ref (E.1 + 34)] (fun r σ' => zInv σ' ∧ zOn zR1 σ σ' ∧ -2147483648 ≤ r ∧ r ≤ 2147483647 ∧ yTk f σ' ∧ ((yst σ') = yNam f (yPlc σ 17 19 20 21) (yst σ)) ∧ (yPo (yst σ') = 1 → r = yPc f (yst σ))) := by
  refine zCt_of2 [some (.ref (E.1 + 34)), none, none, none] (by decide +kernel) (Nat.le_of_ble_eq_true rfl) rfl ?_
  intro X hE_ hX hR hL hN
  subst hE_
  have hX : zok X cX8_takeName RX8 1 := hX
  have hF := zOn_rf zR1 σ
  have hE0 : yst σ = yst σ := rfl
  have hh := yHere hT
  obtain ⟨hh1, hh2, hh3, hh4, hh5⟩ := hh
  have hh6 := yHere2 hT
  have b1 := zv_8_10 hI zc_17
  have b2 := zv_8_11 hI zc_17
  refine zt_aload_n (pc' := 1) hX dX8_takeName_0 rfl rfl ?_
  refine zt_get (pc' := 4) (v := .ref (X.1.1 + 27)) hX dX8_takeName_1 rfl zf_X8_9 (by decide) zc_34 zs_21 (zrf_of (zv_21_0 hI zc_34)) ?_
  refine zt_cVi (pc' := 7) hX dX8_takeName_4 rfl zm_yX5_kindHere zw_20_18 zc_27 (by decide) zs_14 (q := (RX5, TX5, 9)) rfl rfl (yc_X5_kindHere _ _ σ hI f hT) rfl rfl (Nat.le_of_ble_eq_true rfl) (by decide) (fun r3 s4 hr5 hp6 => ?_)
  obtain ⟨rfl, q7, q8, z9⟩ := hp6
  refine zt_istore_n (pc' := 8) (lv' := [some (.ref (X.1.1 + 34)), some (.int (zI r3)), none, none]) hX dX8_takeName_7 rfl hL (by decide) rfl ?_
  refine zt_aload_n (pc' := 9) hX dX8_takeName_8 rfl rfl ?_
  refine zt_get (pc' := 12) (v := .ref (X.1.1 + 27)) hX dX8_takeName_9 rfl zf_X8_9 (by decide) zc_34 zs_21 (zrf_of (zv_21_0 hI zc_34)) ?_
  refine zt_get (pc' := 15) (v := .ref (X.1.1 + 31)) hX dX8_takeName_12 rfl zf_X8_127 (by decide) zc_27 zs_14 (zrf_of (zv_14_3 hI zc_27)) ?_
  refine zt_aload_n (pc' := 16) hX dX8_takeName_15 rfl rfl ?_
  refine zt_get (pc' := 19) (v := .ref (X.1.1 + 27)) hX dX8_takeName_16 rfl zf_X8_9 (by decide) zc_34 zs_21 (zrf_of (zv_21_0 hI zc_34)) ?_
  have b10 := zv_14_6 hI zc_27
  refine zt_get (pc' := 22) (v := .int (zI (σ 27 6))) hX dX8_takeName_19 rfl zf_X8_130 (by decide) zc_27 zs_14 rfl ?_
  refine zt_iald (pc' := 23) hX dX8_takeName_22 rfl (by decide) zc_31 zs_18 (by decide) ⟨by omega, by omega⟩ ?_
  generalize hv11 : σ 31 ((σ 27 6).toNat) = v11
  have bv11 : -2147483648 ≤ v11 ∧ v11 ≤ 2147483647 := hv11 ▸ zv_18 hI zc_31 _
  refine zt_istore_n (pc' := 24) (lv' := [some (.ref (X.1.1 + 34)), some (.int (zI r3)), some (.int (zI v11)), none]) hX dX8_takeName_23 rfl hL (by decide) rfl ?_
  refine zt_aload_n (pc' := 25) hX dX8_takeName_24 rfl rfl ?_
  refine zt_get (pc' := 28) (v := .ref (X.1.1 + 27)) hX dX8_takeName_25 rfl zf_X8_9 (by decide) zc_34 zs_21 (zrf_of (zv_21_0 hI zc_34)) ?_
  refine zt_cVi (pc' := 31) hX dX8_takeName_28 rfl zm_yX5_wordHere zw_19_13 zc_27 (by decide) zs_14 (q := (RX5, TX5, 9)) rfl rfl (yc_X5_wordHere _ _ σ hI f hT) rfl rfl (Nat.le_of_ble_eq_true rfl) (by decide) (fun r12 s13 hr14 hp15 => ?_)
  obtain ⟨rfl, q16, q17, z18⟩ := hp15
  refine zt_istore_n (pc' := 32) (lv' := [some (.ref (X.1.1 + 34)), some (.int (zI r3)), some (.int (zI v11)), some (.int (zI r12))]) hX dX8_takeName_31 rfl hL (by decide) rfl ?_
  refine zt_iload_n (pc' := 33) hX dX8_takeName_32 rfl rfl ?_
  refine zt_iconst (pc' := 34) hX dX8_takeName_33 rfl ?_
  refine zt_icne (pc' := 37) (tgt := 58) hX dX8_takeName_34 rfl (by decide) ⟨by omega, by omega⟩ ⟨by omega, by omega⟩ (fun c19 => ?_) (fun c19 => ?_)
  · refine zt_iload_n (pc' := 59) hX dX8_takeName_58 rfl rfl ?_
    refine zt_iconst (pc' := 60) hX dX8_takeName_59 rfl ?_
    refine zt_icne (pc' := 63) (tgt := 73) hX dX8_takeName_60 rfl (by decide) ⟨by omega, by omega⟩ ⟨by omega, by omega⟩ (fun c20 => ?_) (fun c20 => ?_)
    · refine zt_aload_n (pc' := 74) hX dX8_takeName_73 rfl rfl ?_
      refine zt_get (pc' := 77) (v := .ref (X.1.1 + 27)) hX dX8_takeName_74 rfl zf_X8_9 (by decide) zc_34 zs_21 (zrf_of (zv_21_0 hI zc_34)) ?_
      refine zt_iconst (pc' := 78) hX dX8_takeName_77 rfl ?_
      refine zt_aload_n (pc' := 79) hX dX8_takeName_78 rfl rfl ?_
      refine zt_get (pc' := 82) (v := .ref (X.1.1 + 27)) hX dX8_takeName_79 rfl zf_X8_9 (by decide) zc_34 zs_21 (zrf_of (zv_21_0 hI zc_34)) ?_
      refine zt_cVi (pc' := 85) hX dX8_takeName_82 rfl zm_yX5_placeHere zw_20_7 zc_27 (by decide) zs_14 (q := (RX5, TX5, 9)) rfl rfl (yc_X5_placeHere _ _ σ hI f hT) rfl rfl (Nat.le_of_ble_eq_true rfl) (by decide) (fun r21 s22 hr23 hp24 => ?_)
      obtain ⟨rfl, q25, q26, z27⟩ := hp24
      refine zt_cVv (pc' := 88) hX dX8_takeName_85 rfl zm_yX5_refuse zw_20_11 zc_27 (by decide) zs_14 (q := (RX5, TX5, 9)) rfl rfl (yc_X5_refuse _ _ σ hI 1 ⟨by omega, by omega⟩ r21 ⟨by omega, by omega⟩ (by omega) f hT) rfl rfl (Nat.le_of_ble_eq_true rfl) (by decide) (fun r28 s29 hr30 hp31 => ?_)
      obtain ⟨hI32, hF33, hT34, z35⟩ := hp31
      have hE36 : yst s29 = yPno 1 r21 (yst σ) := z35
      have hF37 := zOn_tr hF hF33 zi_id
      have b38 := zv_8_10 hI32 zc_17
      have b39 := zv_8_11 hI32 zc_17
      have e40 := hF33 34 2 rfl
      have e41 := hF33 17 10 rfl
      have e42 := hF33 17 11 rfl
      refine zt_goto (tgt := 127) hX dX8_takeName_88 (by decide) ?_
      refine zt_iload_n (pc' := 128) hX dX8_takeName_127 rfl rfl ?_
      exact zt_iret hX hR dX8_takeName_128 ⟨by omega, by omega⟩ ⟨hI32, hF37, by omega, by omega, hT34, hE36.trans (yNam_1 (by omega) (by omega) (fun o => by omega)), fun o => by rw [hE36, yPo_no] at o; exact absurd o (by decide)⟩
    · refine zt_iload_n (pc' := 64) hX dX8_takeName_63 rfl rfl ?_
      refine zt_iflt (pc' := 67) (tgt := 91) hX dX8_takeName_64 rfl (by decide) ⟨by omega, by omega⟩ (fun c43 => ?_) (fun c43 => ?_)
      · refine zt_aload_n (pc' := 92) hX dX8_takeName_91 rfl rfl ?_
        have ek44 : σ 34 2 = ((17 : Nat) : Int) := by omega
        refine zt_get (pc' := 95) (v := .ref (X.1.1 + 17)) hX dX8_takeName_92 rfl zf_X8_19 (by decide) zc_34 zs_21 (zrf_of ek44) ?_
        refine zt_iload_n (pc' := 96) hX dX8_takeName_95 rfl rfl ?_
        refine zt_cVz (pc' := 99) hX dX8_takeName_96 rfl zm_yX3_isNamed zw_20_19 zc_17 (by decide) zs_8 (q := (RX3, TX3, 17)) rfl rfl (yc_X3_isNamed_17 _ _ σ hI v11 ⟨by omega, by omega⟩) rfl rfl (Nat.le_of_ble_eq_true rfl) (by decide) (fun r45 s46 hr47 hp48 => ?_)
        obtain ⟨rfl, q49, q50, z51⟩ := hp48
        refine zt_ifeq (pc' := 102) (tgt := 120) hX dX8_takeName_99 rfl (by decide) ⟨by omega, by omega⟩ (fun c52 => ?_) (fun c52 => ?_)
        · refine zt_aload_n (pc' := 121) hX dX8_takeName_120 rfl rfl ?_
          refine zt_get (pc' := 124) (v := .ref (X.1.1 + 27)) hX dX8_takeName_121 rfl zf_X8_9 (by decide) zc_34 zs_21 (zrf_of (zv_21_0 hI zc_34)) ?_
          refine zt_cVv (pc' := 127) hX dX8_takeName_124 rfl zm_yX5_step zw_19_21 zc_27 (by decide) zs_14 (q := (RX5, TX5, 9)) rfl rfl (yc_X5_step _ _ σ hI f hT) rfl rfl (Nat.le_of_ble_eq_true rfl) (by decide) (fun r53 s54 hr55 hp56 => ?_)
          obtain ⟨hI57, hF58, hT59, z60⟩ := hp56
          have hE61 : yst s54 = yPx f (yst σ) := z60
          have hF62 := zOn_tr hF hF58 zi_id
          have b63 := zv_8_10 hI57 zc_17
          have b64 := zv_8_11 hI57 zc_17
          have e65 := hF58 34 2 rfl
          have e66 := hF58 17 10 rfl
          have e67 := hF58 17 11 rfl
          refine zt_iload_n (pc' := 128) hX dX8_takeName_127 rfl rfl ?_
          have hvc : v11 = yPc f (yst σ) := by omega
          rw [hvc] at z51
          exact zt_iret hX hR dX8_takeName_128 ⟨by omega, by omega⟩ ⟨hI57, hF62, by omega, by omega, hT59, hE61.trans (yNam_0 (by omega) (by omega) (fun m => absurd (z51.1 m) (by omega))), fun o => by omega⟩
        · refine zt_aload_n (pc' := 103) hX dX8_takeName_102 rfl rfl ?_
          refine zt_get (pc' := 106) (v := .ref (X.1.1 + 27)) hX dX8_takeName_103 rfl zf_X8_9 (by decide) zc_34 zs_21 (zrf_of (zv_21_0 hI zc_34)) ?_
          refine zt_iconst (pc' := 107) hX dX8_takeName_106 rfl ?_
          refine zt_aload_n (pc' := 108) hX dX8_takeName_107 rfl rfl ?_
          refine zt_get (pc' := 111) (v := .ref (X.1.1 + 27)) hX dX8_takeName_108 rfl zf_X8_9 (by decide) zc_34 zs_21 (zrf_of (zv_21_0 hI zc_34)) ?_
          refine zt_cVi (pc' := 114) hX dX8_takeName_111 rfl zm_yX5_placeHere zw_20_7 zc_27 (by decide) zs_14 (q := (RX5, TX5, 9)) rfl rfl (yc_X5_placeHere _ _ σ hI f hT) rfl rfl (Nat.le_of_ble_eq_true rfl) (by decide) (fun r68 s69 hr70 hp71 => ?_)
          obtain ⟨rfl, q72, q73, z74⟩ := hp71
          refine zt_cVv (pc' := 117) hX dX8_takeName_114 rfl zm_yX5_refuse zw_20_11 zc_27 (by decide) zs_14 (q := (RX5, TX5, 9)) rfl rfl (yc_X5_refuse _ _ σ hI 3 ⟨by omega, by omega⟩ r68 ⟨by omega, by omega⟩ (by omega) f hT) rfl rfl (Nat.le_of_ble_eq_true rfl) (by decide) (fun r75 s76 hr77 hp78 => ?_)
          obtain ⟨hI79, hF80, hT81, z82⟩ := hp78
          have hE83 : yst s76 = yPno 3 r68 (yst σ) := z82
          have hF84 := zOn_tr hF hF80 zi_id
          have b85 := zv_8_10 hI79 zc_17
          have b86 := zv_8_11 hI79 zc_17
          have e87 := hF80 34 2 rfl
          have e88 := hF80 17 10 rfl
          have e89 := hF80 17 11 rfl
          refine zt_goto (tgt := 127) hX dX8_takeName_117 (by decide) ?_
          refine zt_iload_n (pc' := 128) hX dX8_takeName_127 rfl rfl ?_
          have hvc : v11 = yPc f (yst σ) := by omega
          rw [hvc] at z51
          exact zt_iret hX hR dX8_takeName_128 ⟨by omega, by omega⟩ ⟨hI79, hF84, by omega, by omega, hT81, hE83.trans (yNam_3 (by omega) (by omega) (Decidable.byContradiction (fun m => absurd (z51.2 m) (by omega))) (fun o => by omega)), fun o => by rw [hE83, yPo_no] at o; exact absurd o (by decide)⟩
      · refine zt_iload_n (pc' := 68) hX dX8_takeName_67 rfl rfl ?_
        refine zt_bipush (pc' := 70) hX dX8_takeName_68 rfl (by decide) (by decide) ?_
        refine zt_icge (pc' := 73) (tgt := 91) hX dX8_takeName_70 rfl (by decide) ⟨by omega, by omega⟩ ⟨by omega, by omega⟩ (fun c90 => ?_) (fun c90 => ?_)
        · refine zt_aload_n (pc' := 92) hX dX8_takeName_91 rfl rfl ?_
          have ek91 : σ 34 2 = ((17 : Nat) : Int) := by omega
          refine zt_get (pc' := 95) (v := .ref (X.1.1 + 17)) hX dX8_takeName_92 rfl zf_X8_19 (by decide) zc_34 zs_21 (zrf_of ek91) ?_
          refine zt_iload_n (pc' := 96) hX dX8_takeName_95 rfl rfl ?_
          refine zt_cVz (pc' := 99) hX dX8_takeName_96 rfl zm_yX3_isNamed zw_20_19 zc_17 (by decide) zs_8 (q := (RX3, TX3, 17)) rfl rfl (yc_X3_isNamed_17 _ _ σ hI v11 ⟨by omega, by omega⟩) rfl rfl (Nat.le_of_ble_eq_true rfl) (by decide) (fun r92 s93 hr94 hp95 => ?_)
          obtain ⟨rfl, q96, q97, z98⟩ := hp95
          refine zt_ifeq (pc' := 102) (tgt := 120) hX dX8_takeName_99 rfl (by decide) ⟨by omega, by omega⟩ (fun c99 => ?_) (fun c99 => ?_)
          · refine zt_aload_n (pc' := 121) hX dX8_takeName_120 rfl rfl ?_
            refine zt_get (pc' := 124) (v := .ref (X.1.1 + 27)) hX dX8_takeName_121 rfl zf_X8_9 (by decide) zc_34 zs_21 (zrf_of (zv_21_0 hI zc_34)) ?_
            refine zt_cVv (pc' := 127) hX dX8_takeName_124 rfl zm_yX5_step zw_19_21 zc_27 (by decide) zs_14 (q := (RX5, TX5, 9)) rfl rfl (yc_X5_step _ _ σ hI f hT) rfl rfl (Nat.le_of_ble_eq_true rfl) (by decide) (fun r100 s101 hr102 hp103 => ?_)
            obtain ⟨hI104, hF105, hT106, z107⟩ := hp103
            have hE108 : yst s101 = yPx f (yst σ) := z107
            have hF109 := zOn_tr hF hF105 zi_id
            have b110 := zv_8_10 hI104 zc_17
            have b111 := zv_8_11 hI104 zc_17
            have e112 := hF105 34 2 rfl
            have e113 := hF105 17 10 rfl
            have e114 := hF105 17 11 rfl
            refine zt_iload_n (pc' := 128) hX dX8_takeName_127 rfl rfl ?_
            have hvc : v11 = yPc f (yst σ) := by omega
            rw [hvc] at z98
            exact zt_iret hX hR dX8_takeName_128 ⟨by omega, by omega⟩ ⟨hI104, hF109, by omega, by omega, hT106, hE108.trans (yNam_0 (by omega) (by omega) (fun m => absurd (z98.1 m) (by omega))), fun o => by omega⟩
          · refine zt_aload_n (pc' := 103) hX dX8_takeName_102 rfl rfl ?_
            refine zt_get (pc' := 106) (v := .ref (X.1.1 + 27)) hX dX8_takeName_103 rfl zf_X8_9 (by decide) zc_34 zs_21 (zrf_of (zv_21_0 hI zc_34)) ?_
            refine zt_iconst (pc' := 107) hX dX8_takeName_106 rfl ?_
            refine zt_aload_n (pc' := 108) hX dX8_takeName_107 rfl rfl ?_
            refine zt_get (pc' := 111) (v := .ref (X.1.1 + 27)) hX dX8_takeName_108 rfl zf_X8_9 (by decide) zc_34 zs_21 (zrf_of (zv_21_0 hI zc_34)) ?_
            refine zt_cVi (pc' := 114) hX dX8_takeName_111 rfl zm_yX5_placeHere zw_20_7 zc_27 (by decide) zs_14 (q := (RX5, TX5, 9)) rfl rfl (yc_X5_placeHere _ _ σ hI f hT) rfl rfl (Nat.le_of_ble_eq_true rfl) (by decide) (fun r115 s116 hr117 hp118 => ?_)
            obtain ⟨rfl, q119, q120, z121⟩ := hp118
            refine zt_cVv (pc' := 117) hX dX8_takeName_114 rfl zm_yX5_refuse zw_20_11 zc_27 (by decide) zs_14 (q := (RX5, TX5, 9)) rfl rfl (yc_X5_refuse _ _ σ hI 3 ⟨by omega, by omega⟩ r115 ⟨by omega, by omega⟩ (by omega) f hT) rfl rfl (Nat.le_of_ble_eq_true rfl) (by decide) (fun r122 s123 hr124 hp125 => ?_)
            obtain ⟨hI126, hF127, hT128, z129⟩ := hp125
            have hE130 : yst s123 = yPno 3 r115 (yst σ) := z129
            have hF131 := zOn_tr hF hF127 zi_id
            have b132 := zv_8_10 hI126 zc_17
            have b133 := zv_8_11 hI126 zc_17
            have e134 := hF127 34 2 rfl
            have e135 := hF127 17 10 rfl
            have e136 := hF127 17 11 rfl
            refine zt_goto (tgt := 127) hX dX8_takeName_117 (by decide) ?_
            refine zt_iload_n (pc' := 128) hX dX8_takeName_127 rfl rfl ?_
            have hvc : v11 = yPc f (yst σ) := by omega
            rw [hvc] at z98
            exact zt_iret hX hR dX8_takeName_128 ⟨by omega, by omega⟩ ⟨hI126, hF131, by omega, by omega, hT128, hE130.trans (yNam_3 (by omega) (by omega) (Decidable.byContradiction (fun m => absurd (z98.2 m) (by omega))) (fun o => by omega)), fun o => by rw [hE130, yPo_no] at o; exact absurd o (by decide)⟩
        · refine zt_aload_n (pc' := 74) hX dX8_takeName_73 rfl rfl ?_
          refine zt_get (pc' := 77) (v := .ref (X.1.1 + 27)) hX dX8_takeName_74 rfl zf_X8_9 (by decide) zc_34 zs_21 (zrf_of (zv_21_0 hI zc_34)) ?_
          refine zt_iconst (pc' := 78) hX dX8_takeName_77 rfl ?_
          refine zt_aload_n (pc' := 79) hX dX8_takeName_78 rfl rfl ?_
          refine zt_get (pc' := 82) (v := .ref (X.1.1 + 27)) hX dX8_takeName_79 rfl zf_X8_9 (by decide) zc_34 zs_21 (zrf_of (zv_21_0 hI zc_34)) ?_
          refine zt_cVi (pc' := 85) hX dX8_takeName_82 rfl zm_yX5_placeHere zw_20_7 zc_27 (by decide) zs_14 (q := (RX5, TX5, 9)) rfl rfl (yc_X5_placeHere _ _ σ hI f hT) rfl rfl (Nat.le_of_ble_eq_true rfl) (by decide) (fun r137 s138 hr139 hp140 => ?_)
          obtain ⟨rfl, q141, q142, z143⟩ := hp140
          refine zt_cVv (pc' := 88) hX dX8_takeName_85 rfl zm_yX5_refuse zw_20_11 zc_27 (by decide) zs_14 (q := (RX5, TX5, 9)) rfl rfl (yc_X5_refuse _ _ σ hI 1 ⟨by omega, by omega⟩ r137 ⟨by omega, by omega⟩ (by omega) f hT) rfl rfl (Nat.le_of_ble_eq_true rfl) (by decide) (fun r144 s145 hr146 hp147 => ?_)
          obtain ⟨hI148, hF149, hT150, z151⟩ := hp147
          have hE152 : yst s145 = yPno 1 r137 (yst σ) := z151
          have hF153 := zOn_tr hF hF149 zi_id
          have b154 := zv_8_10 hI148 zc_17
          have b155 := zv_8_11 hI148 zc_17
          have e156 := hF149 34 2 rfl
          have e157 := hF149 17 10 rfl
          have e158 := hF149 17 11 rfl
          refine zt_goto (tgt := 127) hX dX8_takeName_88 (by decide) ?_
          refine zt_iload_n (pc' := 128) hX dX8_takeName_127 rfl rfl ?_
          exact zt_iret hX hR dX8_takeName_128 ⟨by omega, by omega⟩ ⟨hI148, hF153, by omega, by omega, hT150, hE152.trans (yNam_1 (by omega) (by omega) (fun o => by omega)), fun o => by rw [hE152, yPo_no] at o; exact absurd o (by decide)⟩
  · refine zt_aload_n (pc' := 38) hX dX8_takeName_37 rfl rfl ?_
    refine zt_get (pc' := 41) (v := .ref (X.1.1 + 27)) hX dX8_takeName_38 rfl zf_X8_9 (by decide) zc_34 zs_21 (zrf_of (zv_21_0 hI zc_34)) ?_
    refine zt_iconst (pc' := 42) hX dX8_takeName_41 rfl ?_
    refine zt_aload_n (pc' := 43) hX dX8_takeName_42 rfl rfl ?_
    refine zt_get (pc' := 46) (v := .ref (X.1.1 + 27)) hX dX8_takeName_43 rfl zf_X8_9 (by decide) zc_34 zs_21 (zrf_of (zv_21_0 hI zc_34)) ?_
    refine zt_cVi (pc' := 49) hX dX8_takeName_46 rfl zm_yX5_placeHere zw_20_7 zc_27 (by decide) zs_14 (q := (RX5, TX5, 9)) rfl rfl (yc_X5_placeHere _ _ σ hI f hT) rfl rfl (Nat.le_of_ble_eq_true rfl) (by decide) (fun r159 s160 hr161 hp162 => ?_)
    obtain ⟨rfl, q163, q164, z165⟩ := hp162
    refine zt_bipush (pc' := 51) hX dX8_takeName_49 rfl (by decide) (by decide) ?_
    refine zt_iadd (pc' := 52) hX dX8_takeName_51 rfl ?_
    refine zt_cVv (pc' := 55) hX dX8_takeName_52 rfl zm_yX5_refuse zw_20_11 zc_27 (by decide) zs_14 (q := (RX5, TX5, 9)) rfl rfl (yc_X5_refuse _ _ σ hI 1 ⟨by omega, by omega⟩ (r159 + 6) ⟨by omega, by omega⟩ (by omega) f hT) rfl rfl (Nat.le_of_ble_eq_true rfl) (by decide) (fun r166 s167 hr168 hp169 => ?_)
    obtain ⟨hI170, hF171, hT172, z173⟩ := hp169
    have hE174 : yst s167 = yPno 1 (r159 + 6) (yst σ) := z173
    have hF175 := zOn_tr hF hF171 zi_id
    have b176 := zv_8_10 hI170 zc_17
    have b177 := zv_8_11 hI170 zc_17
    have e178 := hF171 34 2 rfl
    have e179 := hF171 17 10 rfl
    have e180 := hF171 17 11 rfl
    refine zt_goto (tgt := 127) hX dX8_takeName_55 (by decide) ?_
    refine zt_iload_n (pc' := 128) hX dX8_takeName_127 rfl rfl ?_
    exact zt_iret hX hR dX8_takeName_128 ⟨by omega, by omega⟩ ⟨hI170, hF175, by omega, by omega, hT172, hE174.trans (yNam_4 (by omega) (fun o => by omega)), fun o => by rw [hE174, yPo_no] at o; exact absurd o (by decide)⟩
set_option maxRecDepth 100000 in
set_option maxHeartbeats 4000000 in
theorem yc_X8_readPane_17 (l : Launch) (E : zEN) (σ : zSto) (hI : zInv σ) (hpre0 : σ 34 2 = 17) (f : Int → Int) (hT : yTk f σ) : zCt l E yX8_readPane cX8_readPane 3 none 2 zNC zNC 0 0 σ [.ref (E.1 + 34)] (fun r σ' => zInv σ' ∧ zOn zR17 σ σ' ∧ yTk f σ' ∧ ((yst σ') = yPan f (yst σ)) ∧ (yPo (yst σ') = 1 → yPlc σ' 17 19 20 21 = yPanP f (yst σ) (yPlc σ 17 19 20 21))) := by
  refine zCt_of2 [some (.ref (E.1 + 34)), none, none] (by decide +kernel) (Nat.le_of_ble_eq_true rfl) rfl ?_
  intro X hE_ hX hR hL hN
  subst hE_
  have hX : zok X cX8_readPane RX8 2 := hX
  have hF := zOn_rf zR17 σ
  have hQ0 : yPlc σ 17 19 20 21 = yPlc σ 17 19 20 21 := rfl
  have hE0 : yst σ = yst σ := rfl
  have b1 := zv_8_10 hI zc_17
  have b2 := zv_8_11 hI zc_17
  refine zt_aload_n (pc' := 1) hX dX8_readPane_0 rfl rfl ?_
  refine zt_get (pc' := 4) (v := .ref (X.1.1 + 27)) hX dX8_readPane_1 rfl zf_X8_9 (by decide) zc_34 zs_21 (zrf_of (zv_21_0 hI zc_34)) ?_
  refine zt_iconst (pc' := 5) hX dX8_readPane_4 rfl ?_
  refine zt_cVv (pc' := 8) hX dX8_readPane_5 rfl zm_yX5_takeWord zw_18_2 zc_27 (by decide) zs_14 (q := (RX5, TX5, 9)) rfl rfl (yc_X5_takeWord _ _ σ hI 0 ⟨by omega, by omega⟩ f hT) rfl rfl (Nat.le_of_ble_eq_true rfl) (by decide) (fun r3 s4 hr5 hp6 => ?_)
  obtain ⟨hI7, hF8, hT9, z10⟩ := hp6
  have hE11 : yst s4 = yPw f 0 (yst σ) := z10
  have hF12 := zOn_tr hF hF8 zi_r117
  have b13 := zv_8_10 hI7 zc_17
  have b14 := zv_8_11 hI7 zc_17
  have e15 := hF8 34 2 rfl
  have e16 := hF8 17 10 rfl
  have e17 := hF8 17 11 rfl
  have hQ18 := (yPlc_c (K := 17) (A := 19) (B := 20) (C := 21) (hF8 17 7 rfl) (hF8 17 8 rfl) (hF8 17 10 rfl) (hF8 17 11 rfl) (hF8 17 12 rfl) (fun j => hF8 19 j rfl) (fun j => hF8 20 j rfl) (fun j => hF8 21 j rfl)).trans hQ0
  refine zt_aload_n (pc' := 9) hX dX8_readPane_8 rfl rfl ?_
  refine zt_get (pc' := 12) (v := .ref (X.1.1 + 27)) hX dX8_readPane_9 rfl zf_X8_9 (by decide) zc_34 zs_21 (zrf_of (zv_21_0 hI7 zc_34)) ?_
  refine zt_iconst (pc' := 13) hX dX8_readPane_12 rfl ?_
  refine zt_bipush (pc' := 15) hX dX8_readPane_13 rfl (by decide) (by decide) ?_
  refine zt_cVi (pc' := 18) hX dX8_readPane_15 rfl zm_yX5_takeNumber zw_18_18 zc_27 (by decide) zs_14 (q := (RX5, TX5, 9)) rfl rfl (yc_X5_takeNumber _ _ s4 hI7 2 ⟨by omega, by omega⟩ 6 ⟨by omega, by omega⟩ f hT9) rfl rfl (Nat.le_of_ble_eq_true rfl) (by decide) (fun r19 s20 hr21 hp22 => ?_)
  obtain ⟨hI23, hF24, q25, q26, hT27, z28, z29, z30⟩ := hp22
  have hE31 : yst s20 = yPn f 2 6 (yPw f 0 (yst σ)) := by rw [z28, hE11]
  rw [hE11] at z29
  have hF32 := zOn_tr hF12 hF24 zi_r117
  rw [hE31] at z29
  have b33 := zv_8_10 hI23 zc_17
  have b34 := zv_8_11 hI23 zc_17
  have e35 := hF24 34 2 rfl
  have e36 := hF24 17 10 rfl
  have e37 := hF24 17 11 rfl
  have hQ38 := (yPlc_c (K := 17) (A := 19) (B := 20) (C := 21) (hF24 17 7 rfl) (hF24 17 8 rfl) (hF24 17 10 rfl) (hF24 17 11 rfl) (hF24 17 12 rfl) (fun j => hF24 19 j rfl) (fun j => hF24 20 j rfl) (fun j => hF24 21 j rfl)).trans hQ18
  refine zt_istore_n (pc' := 19) (lv' := [some (.ref (X.1.1 + 34)), some (.int (zI r19)), none]) hX dX8_readPane_18 rfl hL (by decide) rfl ?_
  refine zt_aload_n (pc' := 20) hX dX8_readPane_19 rfl rfl ?_
  refine zt_get (pc' := 23) (v := .ref (X.1.1 + 27)) hX dX8_readPane_20 rfl zf_X8_9 (by decide) zc_34 zs_21 (zrf_of (zv_21_0 hI23 zc_34)) ?_
  refine zt_iconst (pc' := 24) hX dX8_readPane_23 rfl ?_
  refine zt_cVv (pc' := 27) hX dX8_readPane_24 rfl zm_yX5_takeWord zw_18_2 zc_27 (by decide) zs_14 (q := (RX5, TX5, 9)) rfl rfl (yc_X5_takeWord _ _ s20 hI23 1 ⟨by omega, by omega⟩ f hT27) rfl rfl (Nat.le_of_ble_eq_true rfl) (by decide) (fun r39 s40 hr41 hp42 => ?_)
  obtain ⟨hI43, hF44, hT45, z46⟩ := hp42
  have hE47 : yst s40 = yPw f 1 (yPn f 2 6 (yPw f 0 (yst σ))) := by rw [z46, hE31]
  have hF48 := zOn_tr hF32 hF44 zi_r117
  have b49 := zv_8_10 hI43 zc_17
  have b50 := zv_8_11 hI43 zc_17
  have e51 := hF44 34 2 rfl
  have e52 := hF44 17 10 rfl
  have e53 := hF44 17 11 rfl
  have hQ54 := (yPlc_c (K := 17) (A := 19) (B := 20) (C := 21) (hF44 17 7 rfl) (hF44 17 8 rfl) (hF44 17 10 rfl) (hF44 17 11 rfl) (hF44 17 12 rfl) (fun j => hF44 19 j rfl) (fun j => hF44 20 j rfl) (fun j => hF44 21 j rfl)).trans hQ38
  refine zt_aload_n (pc' := 28) hX dX8_readPane_27 rfl rfl ?_
  refine zt_get (pc' := 31) (v := .ref (X.1.1 + 27)) hX dX8_readPane_28 rfl zf_X8_9 (by decide) zc_34 zs_21 (zrf_of (zv_21_0 hI43 zc_34)) ?_
  refine zt_iconst (pc' := 32) hX dX8_readPane_31 rfl ?_
  refine zt_bipush (pc' := 34) hX dX8_readPane_32 rfl (by decide) (by decide) ?_
  refine zt_cVi (pc' := 37) hX dX8_readPane_34 rfl zm_yX5_takeNumber zw_18_18 zc_27 (by decide) zs_14 (q := (RX5, TX5, 9)) rfl rfl (yc_X5_takeNumber _ _ s40 hI43 2 ⟨by omega, by omega⟩ 6 ⟨by omega, by omega⟩ f hT45) rfl rfl (Nat.le_of_ble_eq_true rfl) (by decide) (fun r55 s56 hr57 hp58 => ?_)
  obtain ⟨hI59, hF60, q61, q62, hT63, z64, z65, z66⟩ := hp58
  have hE67 : yst s56 = yPn f 2 6 (yPw f 1 (yPn f 2 6 (yPw f 0 (yst σ)))) := by rw [z64, hE47]
  rw [hE47] at z65
  have hF68 := zOn_tr hF48 hF60 zi_r117
  rw [hE67] at z65
  have b69 := zv_8_10 hI59 zc_17
  have b70 := zv_8_11 hI59 zc_17
  have e71 := hF60 34 2 rfl
  have e72 := hF60 17 10 rfl
  have e73 := hF60 17 11 rfl
  have hQ74 := (yPlc_c (K := 17) (A := 19) (B := 20) (C := 21) (hF60 17 7 rfl) (hF60 17 8 rfl) (hF60 17 10 rfl) (hF60 17 11 rfl) (hF60 17 12 rfl) (fun j => hF60 19 j rfl) (fun j => hF60 20 j rfl) (fun j => hF60 21 j rfl)).trans hQ54
  refine zt_istore_n (pc' := 38) (lv' := [some (.ref (X.1.1 + 34)), some (.int (zI r19)), some (.int (zI r55))]) hX dX8_readPane_37 rfl hL (by decide) rfl ?_
  refine zt_aload_n (pc' := 39) hX dX8_readPane_38 rfl rfl ?_
  have ek75 : s56 34 2 = ((17 : Nat) : Int) := by omega
  refine zt_get (pc' := 42) (v := .ref (X.1.1 + 17)) hX dX8_readPane_39 rfl zf_X8_19 (by decide) zc_34 zs_21 (zrf_of ek75) ?_
  refine zt_iload_n (pc' := 43) hX dX8_readPane_42 rfl rfl ?_
  refine zt_iload_n (pc' := 44) hX dX8_readPane_43 rfl rfl ?_
  refine zt_cVv (pc' := 47) hX dX8_readPane_44 rfl zm_yX3_setSides zw_19_2 zc_17 (by decide) zs_8 (q := (RX3, TX3, 17)) rfl rfl (yc_X3_setSides_17 _ _ s56 hI59 r19 ⟨by omega, by omega⟩ r55 ⟨by omega, by omega⟩) rfl rfl (Nat.le_of_ble_eq_true rfl) (by decide) (fun r76 s77 hr78 hp79 => ?_)
  obtain ⟨hI80, hF81, z82⟩ := hp79
  have hF83 := zOn_tr hF68 hF81 zi_q17
  have hT84 := yTk_rk hT63 (yRk_q17 hF81)
  have hE85 : yst s77 = yPn f 2 6 (yPw f 1 (yPn f 2 6 (yPw f 0 (yst σ)))) := (yst_rk (yRk_q17 hF81)).trans hE67
  have b86 := zv_8_10 hI80 zc_17
  have b87 := zv_8_11 hI80 zc_17
  have e88 := hF81 34 2 rfl
  have hQ89 : yPlc s77 17 19 20 21 = (yPl.wsd (yPlc σ 17 19 20 21) r19 r55) := by rw [z82, hQ74]
  refine zt_aload_n (pc' := 48) hX dX8_readPane_47 rfl rfl ?_
  refine zt_get (pc' := 51) (v := .ref (X.1.1 + 27)) hX dX8_readPane_48 rfl zf_X8_9 (by decide) zc_34 zs_21 (zrf_of (zv_21_0 hI80 zc_34)) ?_
  refine zt_iconst (pc' := 52) hX dX8_readPane_51 rfl ?_
  refine zt_cVv (pc' := 55) hX dX8_readPane_52 rfl zm_yX5_takeWord zw_18_2 zc_27 (by decide) zs_14 (q := (RX5, TX5, 9)) rfl rfl (yc_X5_takeWord _ _ s77 hI80 2 ⟨by omega, by omega⟩ f hT84) rfl rfl (Nat.le_of_ble_eq_true rfl) (by decide) (fun r90 s91 hr92 hp93 => ?_)
  obtain ⟨hI94, hF95, hT96, z97⟩ := hp93
  have hE98 : yst s91 = yPw f 2 (yPn f 2 6 (yPw f 1 (yPn f 2 6 (yPw f 0 (yst σ))))) := by rw [z97, hE85]
  have hF99 := zOn_tr hF83 hF95 zi_r117
  have b100 := zv_8_10 hI94 zc_17
  have b101 := zv_8_11 hI94 zc_17
  have e102 := hF95 34 2 rfl
  have e103 := hF95 17 10 rfl
  have e104 := hF95 17 11 rfl
  have hQ105 := (yPlc_c (K := 17) (A := 19) (B := 20) (C := 21) (hF95 17 7 rfl) (hF95 17 8 rfl) (hF95 17 10 rfl) (hF95 17 11 rfl) (hF95 17 12 rfl) (fun j => hF95 19 j rfl) (fun j => hF95 20 j rfl) (fun j => hF95 21 j rfl)).trans hQ89
  refine zt_aload_n (pc' := 56) hX dX8_readPane_55 rfl rfl ?_
  have ek106 : s91 34 2 = ((17 : Nat) : Int) := by omega
  refine zt_get (pc' := 59) (v := .ref (X.1.1 + 17)) hX dX8_readPane_56 rfl zf_X8_19 (by decide) zc_34 zs_21 (zrf_of ek106) ?_
  refine zt_aload_n (pc' := 60) hX dX8_readPane_59 rfl rfl ?_
  refine zt_get (pc' := 63) (v := .ref (X.1.1 + 27)) hX dX8_readPane_60 rfl zf_X8_9 (by decide) zc_34 zs_21 (zrf_of (zv_21_0 hI94 zc_34)) ?_
  refine zt_iconst (pc' := 64) hX dX8_readPane_63 rfl ?_
  refine zt_bipush (pc' := 66) hX dX8_readPane_64 rfl (by decide) (by decide) ?_
  refine zt_cVi (pc' := 69) hX dX8_readPane_66 rfl zm_yX5_takeNumber zw_18_18 zc_27 (by decide) zs_14 (q := (RX5, TX5, 9)) rfl rfl (yc_X5_takeNumber _ _ s91 hI94 0 ⟨by omega, by omega⟩ 99 ⟨by omega, by omega⟩ f hT96) rfl rfl (Nat.le_of_ble_eq_true rfl) (by decide) (fun r107 s108 hr109 hp110 => ?_)
  obtain ⟨hI111, hF112, q113, q114, hT115, z116, z117, z118⟩ := hp110
  have hE119 : yst s108 = yPn f 0 99 (yPw f 2 (yPn f 2 6 (yPw f 1 (yPn f 2 6 (yPw f 0 (yst σ)))))) := by rw [z116, hE98]
  rw [hE98] at z117
  have hF120 := zOn_tr hF99 hF112 zi_r117
  rw [hE119] at z117
  have b121 := zv_8_10 hI111 zc_17
  have b122 := zv_8_11 hI111 zc_17
  have e123 := hF112 34 2 rfl
  have e124 := hF112 17 10 rfl
  have e125 := hF112 17 11 rfl
  have hQ126 := (yPlc_c (K := 17) (A := 19) (B := 20) (C := 21) (hF112 17 7 rfl) (hF112 17 8 rfl) (hF112 17 10 rfl) (hF112 17 11 rfl) (hF112 17 12 rfl) (fun j => hF112 19 j rfl) (fun j => hF112 20 j rfl) (fun j => hF112 21 j rfl)).trans hQ105
  refine zt_put (pc' := 72) (x := r107) hX dX8_readPane_69 rfl zf_X8_66 (by decide) zc_17 zs_8 (fun q hq => by cases hq; rfl) rfl rfl rfl ?_
  generalize hs128 : zset s108 17 13 r107 = s127
  have hI129 : zInv s127 := hs128 ▸ zp_8_13 hI111 zc_17 ⟨by omega, by omega⟩
  have hF130 : zOn zR17 σ s127 := hs128 ▸ zOn_set hF120 rfl
  have hT131 := yTk_rk hT115 (yRk_set hs128 zc_17 (by decide))
  have hE132 : yst s127 = yPn f 0 99 (yPw f 2 (yPn f 2 6 (yPw f 1 (yPn f 2 6 (yPw f 0 (yst σ)))))) := (yst_rk (yRk_set hs128 zc_17 (by decide))).trans hE119
  have hQ133 := (yPlc_pj (A := 19) (B := 20) (C := 21) hs128 (by decide) (by decide)).trans hQ126
  have e134 : s127 34 2 = s108 34 2 := by rw [← hs128]; exact zset_k (zne_r zc_34 zc_17 (by decide))
  have e135 : s127 17 10 = s108 17 10 := by rw [← hs128]; exact zset_j (by decide)
  have e136 : s127 17 11 = s108 17 11 := by rw [← hs128]; exact zset_j (by decide)
  exact zt_vret hX hR dX8_readPane_72 ⟨hI129, hF130, hT131, hE132.trans rfl, (fun o => by rw [hQ133]; rw [hE132] at o; have o1 := yPo_n o; have o2 := yPo_w o1; have t2 := z65 o2; have o3 := yPo_n o2; have o4 := yPo_w o3; have t1 := z29 o4; rw [t1, t2]; rfl)⟩
set_option maxRecDepth 100000 in
set_option maxHeartbeats 4000000 in
theorem yc_X8_readHeavy_17 (l : Launch) (E : zEN) (σ : zSto) (hI : zInv σ) (hpre0 : σ 34 2 = 17) (f : Int → Int) (hT : yTk f σ) : zCt l E yX8_readHeavy cX8_readHeavy 4 none 2 zNC zNC 0 0 σ [.ref (E.1 + 34)] (fun r σ' => zInv σ' ∧ zOn zR17 σ σ' ∧ yTk f σ' ∧ ((yst σ') = yHea f (yPlc σ 17 19 20 21) (yst σ)) ∧ (yPlc σ' 17 19 20 21 = yPlc σ 17 19 20 21)) := by
  refine zCt_of2 [some (.ref (E.1 + 34)), none, none, none] (by decide +kernel) (Nat.le_of_ble_eq_true rfl) rfl ?_
  intro X hE_ hX hR hL hN
  subst hE_
  have hX : zok X cX8_readHeavy RX8 2 := hX
  have hF := zOn_rf zR17 σ
  have hQ0 : yPlc σ 17 19 20 21 = yPlc σ 17 19 20 21 := rfl
  have hE0 : yst σ = yst σ := rfl
  have b1 := zv_8_10 hI zc_17
  have b2 := zv_8_11 hI zc_17
  refine zt_aload_n (pc' := 1) hX dX8_readHeavy_0 rfl rfl ?_
  refine zt_get (pc' := 4) (v := .ref (X.1.1 + 27)) hX dX8_readHeavy_1 rfl zf_X8_9 (by decide) zc_34 zs_21 (zrf_of (zv_21_0 hI zc_34)) ?_
  refine zt_cVv (pc' := 7) hX dX8_readHeavy_4 rfl zm_yX5_step zw_19_21 zc_27 (by decide) zs_14 (q := (RX5, TX5, 9)) rfl rfl (yc_X5_step _ _ σ hI f hT) rfl rfl (Nat.le_of_ble_eq_true rfl) (by decide) (fun r3 s4 hr5 hp6 => ?_)
  obtain ⟨hI7, hF8, hT9, z10⟩ := hp6
  have hE11 : yst s4 = yPx f (yst σ) := z10
  have hF12 := zOn_tr hF hF8 zi_r117
  have b13 := zv_8_10 hI7 zc_17
  have b14 := zv_8_11 hI7 zc_17
  have e15 := hF8 34 2 rfl
  have e16 := hF8 17 10 rfl
  have e17 := hF8 17 11 rfl
  have hQ18 := (yPlc_c (K := 17) (A := 19) (B := 20) (C := 21) (hF8 17 7 rfl) (hF8 17 8 rfl) (hF8 17 10 rfl) (hF8 17 11 rfl) (hF8 17 12 rfl) (fun j => hF8 19 j rfl) (fun j => hF8 20 j rfl) (fun j => hF8 21 j rfl)).trans hQ0
  refine zt_aload_n (pc' := 8) hX dX8_readHeavy_7 rfl rfl ?_
  refine zt_get (pc' := 11) (v := .ref (X.1.1 + 27)) hX dX8_readHeavy_8 rfl zf_X8_9 (by decide) zc_34 zs_21 (zrf_of (zv_21_0 hI7 zc_34)) ?_
  refine zt_iconst (pc' := 12) hX dX8_readHeavy_11 rfl ?_
  refine zt_aload_n (pc' := 13) hX dX8_readHeavy_12 rfl rfl ?_
  have ek19 : s4 34 2 = ((17 : Nat) : Int) := by omega
  refine zt_get (pc' := 16) (v := .ref (X.1.1 + 17)) hX dX8_readHeavy_13 rfl zf_X8_19 (by decide) zc_34 zs_21 (zrf_of ek19) ?_
  have b20 := zv_8_10 hI7 zc_17
  refine zt_get (pc' := 19) (v := .int (zI (s4 17 10))) hX dX8_readHeavy_16 rfl zf_X8_97 (by decide) zc_17 zs_8 rfl ?_
  refine zt_iconst (pc' := 20) hX dX8_readHeavy_19 rfl ?_
  refine zt_isub (pc' := 21) hX dX8_readHeavy_20 rfl ?_
  refine zt_cVi (pc' := 24) hX dX8_readHeavy_21 rfl zm_yX5_takeNumber zw_18_18 zc_27 (by decide) zs_14 (q := (RX5, TX5, 9)) rfl rfl (yc_X5_takeNumber _ _ s4 hI7 0 ⟨by omega, by omega⟩ ((s4 17 10) - 1) ⟨by omega, by omega⟩ f hT9) rfl rfl (Nat.le_of_ble_eq_true rfl) (by decide) (fun r21 s22 hr23 hp24 => ?_)
  obtain ⟨hI25, hF26, q27, q28, hT29, z30, z31, z32⟩ := hp24
  have hE33 : yst s22 = yPn f 0 ((s4 17 10) - 1) (yPx f (yst σ)) := by rw [z30, hE11]
  rw [hE11] at z31
  have hF34 := zOn_tr hF12 hF26 zi_r117
  rw [hE33] at z31
  have b35 := zv_8_10 hI25 zc_17
  have b36 := zv_8_11 hI25 zc_17
  have e37 := hF26 34 2 rfl
  have e38 := hF26 17 10 rfl
  have e39 := hF26 17 11 rfl
  have hQ40 := (yPlc_c (K := 17) (A := 19) (B := 20) (C := 21) (hF26 17 7 rfl) (hF26 17 8 rfl) (hF26 17 10 rfl) (hF26 17 11 rfl) (hF26 17 12 rfl) (fun j => hF26 19 j rfl) (fun j => hF26 20 j rfl) (fun j => hF26 21 j rfl)).trans hQ18
  refine zt_istore_n (pc' := 25) (lv' := [some (.ref (X.1.1 + 34)), some (.int (zI r21)), none, none]) hX dX8_readHeavy_24 rfl hL (by decide) rfl ?_
  refine zt_aload_n (pc' := 26) hX dX8_readHeavy_25 rfl rfl ?_
  refine zt_get (pc' := 29) (v := .ref (X.1.1 + 27)) hX dX8_readHeavy_26 rfl zf_X8_9 (by decide) zc_34 zs_21 (zrf_of (zv_21_0 hI25 zc_34)) ?_
  refine zt_iconst (pc' := 30) hX dX8_readHeavy_29 rfl ?_
  refine zt_aload_n (pc' := 31) hX dX8_readHeavy_30 rfl rfl ?_
  have ek41 : s22 34 2 = ((17 : Nat) : Int) := by omega
  refine zt_get (pc' := 34) (v := .ref (X.1.1 + 17)) hX dX8_readHeavy_31 rfl zf_X8_19 (by decide) zc_34 zs_21 (zrf_of ek41) ?_
  have b42 := zv_8_11 hI25 zc_17
  refine zt_get (pc' := 37) (v := .int (zI (s22 17 11))) hX dX8_readHeavy_34 rfl zf_X8_100 (by decide) zc_17 zs_8 rfl ?_
  refine zt_iconst (pc' := 38) hX dX8_readHeavy_37 rfl ?_
  refine zt_isub (pc' := 39) hX dX8_readHeavy_38 rfl ?_
  refine zt_cVi (pc' := 42) hX dX8_readHeavy_39 rfl zm_yX5_takeNumber zw_18_18 zc_27 (by decide) zs_14 (q := (RX5, TX5, 9)) rfl rfl (yc_X5_takeNumber _ _ s22 hI25 0 ⟨by omega, by omega⟩ ((s22 17 11) - 1) ⟨by omega, by omega⟩ f hT29) rfl rfl (Nat.le_of_ble_eq_true rfl) (by decide) (fun r43 s44 hr45 hp46 => ?_)
  obtain ⟨hI47, hF48, q49, q50, hT51, z52, z53, z54⟩ := hp46
  have hE55 : yst s44 = yPn f 0 ((s22 17 11) - 1) (yPn f 0 ((s4 17 10) - 1) (yPx f (yst σ))) := by rw [z52, hE33]
  rw [hE33] at z53
  have hF56 := zOn_tr hF34 hF48 zi_r117
  rw [hE55] at z53
  have b57 := zv_8_10 hI47 zc_17
  have b58 := zv_8_11 hI47 zc_17
  have e59 := hF48 34 2 rfl
  have e60 := hF48 17 10 rfl
  have e61 := hF48 17 11 rfl
  have hQ62 := (yPlc_c (K := 17) (A := 19) (B := 20) (C := 21) (hF48 17 7 rfl) (hF48 17 8 rfl) (hF48 17 10 rfl) (hF48 17 11 rfl) (hF48 17 12 rfl) (fun j => hF48 19 j rfl) (fun j => hF48 20 j rfl) (fun j => hF48 21 j rfl)).trans hQ40
  refine zt_istore_n (pc' := 43) (lv' := [some (.ref (X.1.1 + 34)), some (.int (zI r21)), some (.int (zI r43)), none]) hX dX8_readHeavy_42 rfl hL (by decide) rfl ?_
  refine zt_aload_n (pc' := 44) hX dX8_readHeavy_43 rfl rfl ?_
  refine zt_get (pc' := 47) (v := .ref (X.1.1 + 27)) hX dX8_readHeavy_44 rfl zf_X8_9 (by decide) zc_34 zs_21 (zrf_of (zv_21_0 hI47 zc_34)) ?_
  refine zt_iconst (pc' := 48) hX dX8_readHeavy_47 rfl ?_
  refine zt_bipush (pc' := 50) hX dX8_readHeavy_48 rfl (by decide) (by decide) ?_
  refine zt_cVi (pc' := 53) hX dX8_readHeavy_50 rfl zm_yX5_takeNumber zw_18_18 zc_27 (by decide) zs_14 (q := (RX5, TX5, 9)) rfl rfl (yc_X5_takeNumber _ _ s44 hI47 0 ⟨by omega, by omega⟩ 99 ⟨by omega, by omega⟩ f hT51) rfl rfl (Nat.le_of_ble_eq_true rfl) (by decide) (fun r63 s64 hr65 hp66 => ?_)
  obtain ⟨hI67, hF68, q69, q70, hT71, z72, z73, z74⟩ := hp66
  have hE75 : yst s64 = yPn f 0 99 (yPn f 0 ((s22 17 11) - 1) (yPn f 0 ((s4 17 10) - 1) (yPx f (yst σ)))) := by rw [z72, hE55]
  rw [hE55] at z73
  have hF76 := zOn_tr hF56 hF68 zi_r117
  rw [hE75] at z73
  have b77 := zv_8_10 hI67 zc_17
  have b78 := zv_8_11 hI67 zc_17
  have e79 := hF68 34 2 rfl
  have e80 := hF68 17 10 rfl
  have e81 := hF68 17 11 rfl
  have hQ82 := (yPlc_c (K := 17) (A := 19) (B := 20) (C := 21) (hF68 17 7 rfl) (hF68 17 8 rfl) (hF68 17 10 rfl) (hF68 17 11 rfl) (hF68 17 12 rfl) (fun j => hF68 19 j rfl) (fun j => hF68 20 j rfl) (fun j => hF68 21 j rfl)).trans hQ62
  refine zt_istore_n (pc' := 54) (lv' := [some (.ref (X.1.1 + 34)), some (.int (zI r21)), some (.int (zI r43)), some (.int (zI r63))]) hX dX8_readHeavy_53 rfl hL (by decide) rfl ?_
  refine zt_aload_n (pc' := 55) hX dX8_readHeavy_54 rfl rfl ?_
  have ek83 : s64 34 2 = ((17 : Nat) : Int) := by omega
  refine zt_get (pc' := 58) (v := .ref (X.1.1 + 17)) hX dX8_readHeavy_55 rfl zf_X8_19 (by decide) zc_34 zs_21 (zrf_of ek83) ?_
  refine zt_get (pc' := 61) (v := .ref (X.1.1 + 18)) hX dX8_readHeavy_58 rfl zf_X8_103 (by decide) zc_17 zs_8 (zrf_of (zv_8_0 hI67 zc_17)) ?_
  refine zt_aload_n (pc' := 62) hX dX8_readHeavy_61 rfl rfl ?_
  refine zt_get (pc' := 65) (v := .ref (X.1.1 + 17)) hX dX8_readHeavy_62 rfl zf_X8_19 (by decide) zc_34 zs_21 (zrf_of ek83) ?_
  refine zt_iload_n (pc' := 66) hX dX8_readHeavy_65 rfl rfl ?_
  refine zt_iload_n (pc' := 67) hX dX8_readHeavy_66 rfl rfl ?_
  refine zt_cVi (pc' := 70) hX dX8_readHeavy_67 rfl zm_yX3_cellAt zw_19_22 zc_17 (by decide) zs_8 (q := (RX3, TX3, 17)) rfl rfl (zc_X3_cellAt _ _ s64 hI67 17 zc_17 r21 ⟨by omega, by omega⟩ r43 ⟨by omega, by omega⟩) rfl rfl (Nat.le_of_ble_eq_true rfl) (by decide) (fun r84 s85 hr86 hp87 => ?_)
  obtain ⟨rfl, q88, q89, z90⟩ := hp87
  refine zt_iload_n (pc' := 71) hX dX8_readHeavy_70 rfl rfl ?_
  refine zt_iast (pc' := 72) hX dX8_readHeavy_71 rfl (by decide) zc_18 zs_9 (by decide) ⟨by omega, by omega⟩ ?_
  generalize hs92 : zset s64 18 (r84.toNat) r63 = s91
  have hI93 : zInv s91 := hs92 ▸ zp_9 hI67 zc_18 (r84.toNat) ⟨by omega, by omega⟩
  have hF94 : zOn zR17 σ s91 := hs92 ▸ zOn_set hF76 rfl
  have hT95 := yTk_rk hT71 (yRk_set hs92 zc_18 (by decide))
  have hE96 : yst s91 = yPn f 0 99 (yPn f 0 ((s22 17 11) - 1) (yPn f 0 ((s4 17 10) - 1) (yPx f (yst σ)))) := (yst_rk (yRk_set hs92 zc_18 (by decide))).trans hE75
  have hQ97 := (yPlc_pk (K := 17) (A := 19) (B := 20) (C := 21) hs92 (by decide)).trans hQ82
  have e98 : s91 34 2 = s64 34 2 := by rw [← hs92]; exact zset_k (zne_r zc_34 zc_18 (by decide))
  have e99 : s91 17 10 = s64 17 10 := by rw [← hs92]; exact zset_k (zne_r zc_17 zc_18 (by decide))
  have e100 : s91 17 11 = s64 17 11 := by rw [← hs92]; exact zset_k (zne_r zc_17 zc_18 (by decide))
  exact zt_vret hX hR dX8_readHeavy_72 ⟨hI93, hF94, hT95, hE96.trans (by rw [show s22 17 11 = σ 17 11 by omega, show s4 17 10 = σ 17 10 by omega]; exact rfl), hQ97⟩
set_option maxRecDepth 100000 in
set_option maxHeartbeats 4000000 in
theorem yc_X8_readPole_17 (l : Launch) (E : zEN) (σ : zSto) (hI : zInv σ) (hpre0 : σ 34 2 = 17) (f : Int → Int) (hT : yTk f σ) : zCt l E yX8_readPole cX8_readPole 6 none 2 zNC zNC 0 0 σ [.ref (E.1 + 34)] (fun r σ' => zInv σ' ∧ zOn zR17 σ σ' ∧ yTk f σ' ∧ ((yst σ') = yPol f (yPlc σ 17 19 20 21) (yst σ)) ∧ (yPo (yst σ') = 1 → yPlc σ' 17 19 20 21 = yPolP f (yPlc σ 17 19 20 21) (yst σ))) := by
  refine zCt_of2 [some (.ref (E.1 + 34)), none, none, none, none, none] (by decide +kernel) (Nat.le_of_ble_eq_true rfl) rfl ?_
  intro X hE_ hX hR hL hN
  subst hE_
  have hX : zok X cX8_readPole RX8 2 := hX
  have hF := zOn_rf zR17 σ
  have hQ0 : yPlc σ 17 19 20 21 = yPlc σ 17 19 20 21 := rfl
  have hE0 : yst σ = yst σ := rfl
  have b1 := zv_8_10 hI zc_17
  have b2 := zv_8_11 hI zc_17
  have b3 := zv_8_12 hI zc_17
  refine zt_aload_n (pc' := 1) hX dX8_readPole_0 rfl rfl ?_
  have ek4 : σ 34 2 = ((17 : Nat) : Int) := by omega
  refine zt_get (pc' := 4) (v := .ref (X.1.1 + 17)) hX dX8_readPole_1 rfl zf_X8_19 (by decide) zc_34 zs_21 (zrf_of ek4) ?_
  have b5 := zv_8_12 hI zc_17
  refine zt_get (pc' := 7) (v := .int (zI (σ 17 12))) hX dX8_readPole_4 rfl zf_X8_110 (by decide) zc_17 zs_8 rfl ?_
  refine zt_bipush (pc' := 9) hX dX8_readPole_7 rfl (by decide) (by decide) ?_
  refine zt_iclt (pc' := 12) (tgt := 28) hX dX8_readPole_9 rfl (by decide) ⟨by omega, by omega⟩ ⟨by omega, by omega⟩ (fun c6 => ?_) (fun c6 => ?_)
  · refine zt_aload_n (pc' := 29) hX dX8_readPole_28 rfl rfl ?_
    refine zt_get (pc' := 32) (v := .ref (X.1.1 + 27)) hX dX8_readPole_29 rfl zf_X8_9 (by decide) zc_34 zs_21 (zrf_of (zv_21_0 hI zc_34)) ?_
    refine zt_cVv (pc' := 35) hX dX8_readPole_32 rfl zm_yX5_step zw_19_21 zc_27 (by decide) zs_14 (q := (RX5, TX5, 9)) rfl rfl (yc_X5_step _ _ σ hI f hT) rfl rfl (Nat.le_of_ble_eq_true rfl) (by decide) (fun r7 s8 hr9 hp10 => ?_)
    obtain ⟨hI11, hF12, hT13, z14⟩ := hp10
    have hE15 : yst s8 = yPx f (yst σ) := z14
    have hF16 := zOn_tr hF hF12 zi_r117
    have b17 := zv_8_10 hI11 zc_17
    have b18 := zv_8_11 hI11 zc_17
    have b19 := zv_8_12 hI11 zc_17
    have e20 := hF12 34 2 rfl
    have e21 := hF12 17 10 rfl
    have e22 := hF12 17 11 rfl
    have e23 := hF12 17 12 rfl
    have hQ24 := (yPlc_c (K := 17) (A := 19) (B := 20) (C := 21) (hF12 17 7 rfl) (hF12 17 8 rfl) (hF12 17 10 rfl) (hF12 17 11 rfl) (hF12 17 12 rfl) (fun j => hF12 19 j rfl) (fun j => hF12 20 j rfl) (fun j => hF12 21 j rfl)).trans hQ0
    refine zt_aload_n (pc' := 36) hX dX8_readPole_35 rfl rfl ?_
    refine zt_cVi (pc' := 39) hX dX8_readPole_36 rfl zm_yX8_takeName zw_20_12 zc_34 (by decide) zs_21 (q := (RX8, TX8, 3)) rfl rfl (yc_X8_takeName_17 _ _ s8 hI11 (by omega) f hT13) rfl rfl (Nat.le_of_ble_eq_true rfl) (by decide) (fun r25 s26 hr27 hp28 => ?_)
    obtain ⟨hI29, hF30, q31, q32, hT33, z34, z35⟩ := hp28
    have hE36 : yst s26 = yNam f (yPlc σ 17 19 20 21) (yPx f (yst σ)) := by rw [z34, hQ24, hE15]
    rw [hE15] at z35
    have hF37 := zOn_tr hF16 hF30 zi_r117
    rw [hE36] at z35
    have b38 := zv_8_10 hI29 zc_17
    have b39 := zv_8_11 hI29 zc_17
    have b40 := zv_8_12 hI29 zc_17
    have e41 := hF30 34 2 rfl
    have e42 := hF30 17 10 rfl
    have e43 := hF30 17 11 rfl
    have e44 := hF30 17 12 rfl
    have hQ45 := (yPlc_c (K := 17) (A := 19) (B := 20) (C := 21) (hF30 17 7 rfl) (hF30 17 8 rfl) (hF30 17 10 rfl) (hF30 17 11 rfl) (hF30 17 12 rfl) (fun j => hF30 19 j rfl) (fun j => hF30 20 j rfl) (fun j => hF30 21 j rfl)).trans hQ24
    refine zt_istore_n (pc' := 40) (lv' := [some (.ref (X.1.1 + 34)), some (.int (zI r25)), none, none, none, none]) hX dX8_readPole_39 rfl hL (by decide) rfl ?_
    refine zt_aload_n (pc' := 41) hX dX8_readPole_40 rfl rfl ?_
    refine zt_get (pc' := 44) (v := .ref (X.1.1 + 27)) hX dX8_readPole_41 rfl zf_X8_9 (by decide) zc_34 zs_21 (zrf_of (zv_21_0 hI29 zc_34)) ?_
    refine zt_iconst (pc' := 45) hX dX8_readPole_44 rfl ?_
    refine zt_cVv (pc' := 48) hX dX8_readPole_45 rfl zm_yX5_takeWord zw_18_2 zc_27 (by decide) zs_14 (q := (RX5, TX5, 9)) rfl rfl (yc_X5_takeWord _ _ s26 hI29 5 ⟨by omega, by omega⟩ f hT33) rfl rfl (Nat.le_of_ble_eq_true rfl) (by decide) (fun r46 s47 hr48 hp49 => ?_)
    obtain ⟨hI50, hF51, hT52, z53⟩ := hp49
    have hE54 : yst s47 = yPw f 5 (yNam f (yPlc σ 17 19 20 21) (yPx f (yst σ))) := by rw [z53, hE36]
    have hF55 := zOn_tr hF37 hF51 zi_r117
    have b56 := zv_8_10 hI50 zc_17
    have b57 := zv_8_11 hI50 zc_17
    have b58 := zv_8_12 hI50 zc_17
    have e59 := hF51 34 2 rfl
    have e60 := hF51 17 10 rfl
    have e61 := hF51 17 11 rfl
    have e62 := hF51 17 12 rfl
    have hQ63 := (yPlc_c (K := 17) (A := 19) (B := 20) (C := 21) (hF51 17 7 rfl) (hF51 17 8 rfl) (hF51 17 10 rfl) (hF51 17 11 rfl) (hF51 17 12 rfl) (fun j => hF51 19 j rfl) (fun j => hF51 20 j rfl) (fun j => hF51 21 j rfl)).trans hQ45
    refine zt_aload_n (pc' := 49) hX dX8_readPole_48 rfl rfl ?_
    refine zt_get (pc' := 52) (v := .ref (X.1.1 + 27)) hX dX8_readPole_49 rfl zf_X8_9 (by decide) zc_34 zs_21 (zrf_of (zv_21_0 hI50 zc_34)) ?_
    refine zt_iconst (pc' := 53) hX dX8_readPole_52 rfl ?_
    refine zt_aload_n (pc' := 54) hX dX8_readPole_53 rfl rfl ?_
    have ek64 : s47 34 2 = ((17 : Nat) : Int) := by omega
    refine zt_get (pc' := 57) (v := .ref (X.1.1 + 17)) hX dX8_readPole_54 rfl zf_X8_19 (by decide) zc_34 zs_21 (zrf_of ek64) ?_
    have b65 := zv_8_10 hI50 zc_17
    refine zt_get (pc' := 60) (v := .int (zI (s47 17 10))) hX dX8_readPole_57 rfl zf_X8_97 (by decide) zc_17 zs_8 rfl ?_
    refine zt_iconst (pc' := 61) hX dX8_readPole_60 rfl ?_
    refine zt_isub (pc' := 62) hX dX8_readPole_61 rfl ?_
    refine zt_cVi (pc' := 65) hX dX8_readPole_62 rfl zm_yX5_takeNumber zw_18_18 zc_27 (by decide) zs_14 (q := (RX5, TX5, 9)) rfl rfl (yc_X5_takeNumber _ _ s47 hI50 0 ⟨by omega, by omega⟩ ((s47 17 10) - 1) ⟨by omega, by omega⟩ f hT52) rfl rfl (Nat.le_of_ble_eq_true rfl) (by decide) (fun r66 s67 hr68 hp69 => ?_)
    obtain ⟨hI70, hF71, q72, q73, hT74, z75, z76, z77⟩ := hp69
    have hE78 : yst s67 = yPn f 0 ((s47 17 10) - 1) (yPw f 5 (yNam f (yPlc σ 17 19 20 21) (yPx f (yst σ)))) := by rw [z75, hE54]
    rw [hE54] at z76
    have hF79 := zOn_tr hF55 hF71 zi_r117
    rw [hE78] at z76
    have b80 := zv_8_10 hI70 zc_17
    have b81 := zv_8_11 hI70 zc_17
    have b82 := zv_8_12 hI70 zc_17
    have e83 := hF71 34 2 rfl
    have e84 := hF71 17 10 rfl
    have e85 := hF71 17 11 rfl
    have e86 := hF71 17 12 rfl
    have hQ87 := (yPlc_c (K := 17) (A := 19) (B := 20) (C := 21) (hF71 17 7 rfl) (hF71 17 8 rfl) (hF71 17 10 rfl) (hF71 17 11 rfl) (hF71 17 12 rfl) (fun j => hF71 19 j rfl) (fun j => hF71 20 j rfl) (fun j => hF71 21 j rfl)).trans hQ63
    refine zt_istore_n (pc' := 66) (lv' := [some (.ref (X.1.1 + 34)), some (.int (zI r25)), some (.int (zI r66)), none, none, none]) hX dX8_readPole_65 rfl hL (by decide) rfl ?_
    refine zt_aload_n (pc' := 67) hX dX8_readPole_66 rfl rfl ?_
    refine zt_get (pc' := 70) (v := .ref (X.1.1 + 27)) hX dX8_readPole_67 rfl zf_X8_9 (by decide) zc_34 zs_21 (zrf_of (zv_21_0 hI70 zc_34)) ?_
    refine zt_cVi (pc' := 73) hX dX8_readPole_70 rfl zm_yX5_placeHere zw_20_7 zc_27 (by decide) zs_14 (q := (RX5, TX5, 9)) rfl rfl (yc_X5_placeHere _ _ s67 hI70 f hT74) rfl rfl (Nat.le_of_ble_eq_true rfl) (by decide) (fun r88 s89 hr90 hp91 => ?_)
    obtain ⟨rfl, q92, q93, z94⟩ := hp91
    rw [hE78] at z94
    refine zt_istore_n (pc' := 74) (lv' := [some (.ref (X.1.1 + 34)), some (.int (zI r25)), some (.int (zI r66)), some (.int (zI r88)), none, none]) hX dX8_readPole_73 rfl hL (by decide) rfl ?_
    refine zt_aload_n (pc' := 75) hX dX8_readPole_74 rfl rfl ?_
    refine zt_get (pc' := 78) (v := .ref (X.1.1 + 27)) hX dX8_readPole_75 rfl zf_X8_9 (by decide) zc_34 zs_21 (zrf_of (zv_21_0 hI70 zc_34)) ?_
    refine zt_iconst (pc' := 79) hX dX8_readPole_78 rfl ?_
    refine zt_aload_n (pc' := 80) hX dX8_readPole_79 rfl rfl ?_
    have ek95 : s67 34 2 = ((17 : Nat) : Int) := by omega
    refine zt_get (pc' := 83) (v := .ref (X.1.1 + 17)) hX dX8_readPole_80 rfl zf_X8_19 (by decide) zc_34 zs_21 (zrf_of ek95) ?_
    have b96 := zv_8_11 hI70 zc_17
    refine zt_get (pc' := 86) (v := .int (zI (s67 17 11))) hX dX8_readPole_83 rfl zf_X8_100 (by decide) zc_17 zs_8 rfl ?_
    refine zt_iconst (pc' := 87) hX dX8_readPole_86 rfl ?_
    refine zt_isub (pc' := 88) hX dX8_readPole_87 rfl ?_
    refine zt_cVi (pc' := 91) hX dX8_readPole_88 rfl zm_yX5_takeNumber zw_18_18 zc_27 (by decide) zs_14 (q := (RX5, TX5, 9)) rfl rfl (yc_X5_takeNumber _ _ s67 hI70 0 ⟨by omega, by omega⟩ ((s67 17 11) - 1) ⟨by omega, by omega⟩ f hT74) rfl rfl (Nat.le_of_ble_eq_true rfl) (by decide) (fun r97 s98 hr99 hp100 => ?_)
    obtain ⟨hI101, hF102, q103, q104, hT105, z106, z107, z108⟩ := hp100
    have hE109 : yst s98 = yPn f 0 ((s67 17 11) - 1) (yPn f 0 ((s47 17 10) - 1) (yPw f 5 (yNam f (yPlc σ 17 19 20 21) (yPx f (yst σ))))) := by rw [z106, hE78]
    rw [hE78] at z107
    have hF110 := zOn_tr hF79 hF102 zi_r117
    rw [hE109] at z107
    have b111 := zv_8_10 hI101 zc_17
    have b112 := zv_8_11 hI101 zc_17
    have b113 := zv_8_12 hI101 zc_17
    have e114 := hF102 34 2 rfl
    have e115 := hF102 17 10 rfl
    have e116 := hF102 17 11 rfl
    have e117 := hF102 17 12 rfl
    have hQ118 := (yPlc_c (K := 17) (A := 19) (B := 20) (C := 21) (hF102 17 7 rfl) (hF102 17 8 rfl) (hF102 17 10 rfl) (hF102 17 11 rfl) (hF102 17 12 rfl) (fun j => hF102 19 j rfl) (fun j => hF102 20 j rfl) (fun j => hF102 21 j rfl)).trans hQ87
    refine zt_istore (pc' := 93) (lv' := [some (.ref (X.1.1 + 34)), some (.int (zI r25)), some (.int (zI r66)), some (.int (zI r88)), some (.int (zI r97)), none]) hX dX8_readPole_91 rfl hL (by decide) rfl ?_
    refine zt_aload_n (pc' := 94) hX dX8_readPole_93 rfl rfl ?_
    have ek119 : s98 34 2 = ((17 : Nat) : Int) := by omega
    refine zt_get (pc' := 97) (v := .ref (X.1.1 + 17)) hX dX8_readPole_94 rfl zf_X8_19 (by decide) zc_34 zs_21 (zrf_of ek119) ?_
    refine zt_iload_n (pc' := 98) hX dX8_readPole_97 rfl rfl ?_
    refine zt_iload (pc' := 100) hX dX8_readPole_98 rfl rfl ?_
    refine zt_cVz (pc' := 103) hX dX8_readPole_100 rfl zm_yX3_isHome zw_20_23 zc_17 (by decide) zs_8 (q := (RX3, TX3, 17)) rfl rfl (yc_X3_isHome_17 _ _ s98 hI101 r66 ⟨by omega, by omega⟩ r97 ⟨by omega, by omega⟩) rfl rfl (Nat.le_of_ble_eq_true rfl) (by decide) (fun r120 s121 hr122 hp123 => ?_)
    obtain ⟨rfl, q124, q125, z126⟩ := hp123
    rw [hQ118] at z126
    refine zt_ifeq (pc' := 106) (tgt := 115) hX dX8_readPole_103 rfl (by decide) ⟨by omega, by omega⟩ (fun c127 => ?_) (fun c127 => ?_)
    · refine zt_aload_n (pc' := 116) hX dX8_readPole_115 rfl rfl ?_
      refine zt_get (pc' := 119) (v := .ref (X.1.1 + 27)) hX dX8_readPole_116 rfl zf_X8_9 (by decide) zc_34 zs_21 (zrf_of (zv_21_0 hI101 zc_34)) ?_
      refine zt_bipush (pc' := 121) hX dX8_readPole_119 rfl (by decide) (by decide) ?_
      refine zt_cVv (pc' := 124) hX dX8_readPole_121 rfl zm_yX5_takeWord zw_18_2 zc_27 (by decide) zs_14 (q := (RX5, TX5, 9)) rfl rfl (yc_X5_takeWord _ _ s98 hI101 6 ⟨by omega, by omega⟩ f hT105) rfl rfl (Nat.le_of_ble_eq_true rfl) (by decide) (fun r128 s129 hr130 hp131 => ?_)
      obtain ⟨hI132, hF133, hT134, z135⟩ := hp131
      have hE136 : yst s129 = yPw f 6 (yPn f 0 ((s67 17 11) - 1) (yPn f 0 ((s47 17 10) - 1) (yPw f 5 (yNam f (yPlc σ 17 19 20 21) (yPx f (yst σ)))))) := by rw [z135, hE109]
      have hF137 := zOn_tr hF110 hF133 zi_r117
      have b138 := zv_8_10 hI132 zc_17
      have b139 := zv_8_11 hI132 zc_17
      have b140 := zv_8_12 hI132 zc_17
      have e141 := hF133 34 2 rfl
      have e142 := hF133 17 10 rfl
      have e143 := hF133 17 11 rfl
      have e144 := hF133 17 12 rfl
      have hQ145 := (yPlc_c (K := 17) (A := 19) (B := 20) (C := 21) (hF133 17 7 rfl) (hF133 17 8 rfl) (hF133 17 10 rfl) (hF133 17 11 rfl) (hF133 17 12 rfl) (fun j => hF133 19 j rfl) (fun j => hF133 20 j rfl) (fun j => hF133 21 j rfl)).trans hQ118
      refine zt_aload_n (pc' := 125) hX dX8_readPole_124 rfl rfl ?_
      refine zt_get (pc' := 128) (v := .ref (X.1.1 + 27)) hX dX8_readPole_125 rfl zf_X8_9 (by decide) zc_34 zs_21 (zrf_of (zv_21_0 hI132 zc_34)) ?_
      refine zt_iconst (pc' := 129) hX dX8_readPole_128 rfl ?_
      refine zt_bipush (pc' := 131) hX dX8_readPole_129 rfl (by decide) (by decide) ?_
      refine zt_cVi (pc' := 134) hX dX8_readPole_131 rfl zm_yX5_takeNumber zw_18_18 zc_27 (by decide) zs_14 (q := (RX5, TX5, 9)) rfl rfl (yc_X5_takeNumber _ _ s129 hI132 0 ⟨by omega, by omega⟩ 99 ⟨by omega, by omega⟩ f hT134) rfl rfl (Nat.le_of_ble_eq_true rfl) (by decide) (fun r146 s147 hr148 hp149 => ?_)
      obtain ⟨hI150, hF151, q152, q153, hT154, z155, z156, z157⟩ := hp149
      have hE158 : yst s147 = yPn f 0 99 (yPw f 6 (yPn f 0 ((s67 17 11) - 1) (yPn f 0 ((s47 17 10) - 1) (yPw f 5 (yNam f (yPlc σ 17 19 20 21) (yPx f (yst σ))))))) := by rw [z155, hE136]
      rw [hE136] at z156
      have hF159 := zOn_tr hF137 hF151 zi_r117
      rw [hE158] at z156
      have b160 := zv_8_10 hI150 zc_17
      have b161 := zv_8_11 hI150 zc_17
      have b162 := zv_8_12 hI150 zc_17
      have e163 := hF151 34 2 rfl
      have e164 := hF151 17 10 rfl
      have e165 := hF151 17 11 rfl
      have e166 := hF151 17 12 rfl
      have hQ167 := (yPlc_c (K := 17) (A := 19) (B := 20) (C := 21) (hF151 17 7 rfl) (hF151 17 8 rfl) (hF151 17 10 rfl) (hF151 17 11 rfl) (hF151 17 12 rfl) (fun j => hF151 19 j rfl) (fun j => hF151 20 j rfl) (fun j => hF151 21 j rfl)).trans hQ145
      refine zt_istore (pc' := 136) (lv' := [some (.ref (X.1.1 + 34)), some (.int (zI r25)), some (.int (zI r66)), some (.int (zI r88)), some (.int (zI r97)), some (.int (zI r146))]) hX dX8_readPole_134 rfl hL (by decide) rfl ?_
      refine zt_aload_n (pc' := 137) hX dX8_readPole_136 rfl rfl ?_
      have ek168 : s147 34 2 = ((17 : Nat) : Int) := by omega
      refine zt_get (pc' := 140) (v := .ref (X.1.1 + 17)) hX dX8_readPole_137 rfl zf_X8_19 (by decide) zc_34 zs_21 (zrf_of ek168) ?_
      refine zt_iload_n (pc' := 141) hX dX8_readPole_140 rfl rfl ?_
      refine zt_iload_n (pc' := 142) hX dX8_readPole_141 rfl rfl ?_
      refine zt_iload (pc' := 144) hX dX8_readPole_142 rfl rfl ?_
      refine zt_iload (pc' := 146) hX dX8_readPole_144 rfl rfl ?_
      refine zt_cVv (pc' := 149) hX dX8_readPole_146 rfl zm_yX3_addPerson zw_21_3 zc_17 (by decide) zs_8 (q := (RX3, TX3, 17)) rfl rfl (yc_X3_addPerson_17 _ _ s147 hI150 r25 ⟨by omega, by omega⟩ r66 ⟨by omega, by omega⟩ r97 ⟨by omega, by omega⟩ r146 ⟨by omega, by omega⟩ (by omega)) rfl rfl (Nat.le_of_ble_eq_true rfl) (by decide) (fun r169 s170 hr171 hp172 => ?_)
      obtain ⟨hI173, hF174, z175⟩ := hp172
      have hF176 := zOn_tr hF159 hF174 zi_q17
      have hT177 := yTk_rk hT154 (yRk_q17 hF174)
      have hE178 : yst s170 = yPn f 0 99 (yPw f 6 (yPn f 0 ((s67 17 11) - 1) (yPn f 0 ((s47 17 10) - 1) (yPw f 5 (yNam f (yPlc σ 17 19 20 21) (yPx f (yst σ))))))) := (yst_rk (yRk_q17 hF174)).trans hE158
      have b179 := zv_8_10 hI173 zc_17
      have b180 := zv_8_11 hI173 zc_17
      have b181 := zv_8_12 hI173 zc_17
      have e182 := hF174 34 2 rfl
      have hQ183 : yPlc s170 17 19 20 21 = (yPl.wnh (yPlc σ 17 19 20 21) ((yPlc σ 17 19 20 21).nm ++ [r25]) ((yPlc σ 17 19 20 21).hm ++ [r66 + 6 * r97])) := by rw [z175, hQ167]
      have i1 : yPw f 5 (yNam f (yPlc σ 17 19 20 21) (yPx f (yst σ))) = yPo1 f (yPlc σ 17 19 20 21) (yst σ) := rfl
      have i2 : yPn f 0 ((s47 17 10) - 1) (yPw f 5 (yNam f (yPlc σ 17 19 20 21) (yPx f (yst σ)))) = yPo2 f (yPlc σ 17 19 20 21) (yst σ) := by rw [show s47 17 10 = σ 17 10 by omega]; rfl
      have i3 : yPn f 0 ((s67 17 11) - 1) (yPn f 0 ((s47 17 10) - 1) (yPw f 5 (yNam f (yPlc σ 17 19 20 21) (yPx f (yst σ))))) = yPo3 f (yPlc σ 17 19 20 21) (yst σ) := by rw [show s47 17 10 = σ 17 10 by omega, show s67 17 11 = σ 17 11 by omega]; rfl
      have i4 := yPo4_0 (f := f) (P := (yPlc σ 17 19 20 21)) (s := (yst σ)) (fun o => by rw [← i3] at o; have t4 := z107 o; have o4 := yPo_n o; have t2 := z76 o4; rw [← i1, ← i2]; exact ⟨t2, t4⟩) (fun m => absurd (z126.1 m) (by omega))
      have i5 : yst s170 = yPol f (yPlc σ 17 19 20 21) (yst σ) := hE178.trans (by rw [i3, i4]; unfold yPol; rw [if_neg (by rw [yPlc_len]; omega)])
      exact zt_vret hX hR dX8_readPole_149 ⟨hI173, hF176, hT177, i5, (fun o => by rw [hE178] at o; have o7 := yPo_n o; have o6 := yPo_w o7; have t4 := z107 o6; have o5 := yPo_n o6; have t2 := z76 o5; have o4 := yPo_n o5; have o3 := yPo_w o4; have t1 := z35 o3; rw [hQ183, t1, t4, i2, t2, i1]; rfl)⟩
    · refine zt_aload_n (pc' := 107) hX dX8_readPole_106 rfl rfl ?_
      refine zt_get (pc' := 110) (v := .ref (X.1.1 + 27)) hX dX8_readPole_107 rfl zf_X8_9 (by decide) zc_34 zs_21 (zrf_of (zv_21_0 hI101 zc_34)) ?_
      refine zt_iconst (pc' := 111) hX dX8_readPole_110 rfl ?_
      refine zt_iload_n (pc' := 112) hX dX8_readPole_111 rfl rfl ?_
      refine zt_cVv (pc' := 115) hX dX8_readPole_112 rfl zm_yX5_refuse zw_20_11 zc_27 (by decide) zs_14 (q := (RX5, TX5, 9)) rfl rfl (yc_X5_refuse _ _ s98 hI101 2 ⟨by omega, by omega⟩ r88 ⟨by omega, by omega⟩ (by omega) f hT105) rfl rfl (Nat.le_of_ble_eq_true rfl) (by decide) (fun r184 s185 hr186 hp187 => ?_)
      obtain ⟨hI188, hF189, hT190, z191⟩ := hp187
      have hE192 : yst s185 = yPno 2 r88 (yPn f 0 ((s67 17 11) - 1) (yPn f 0 ((s47 17 10) - 1) (yPw f 5 (yNam f (yPlc σ 17 19 20 21) (yPx f (yst σ)))))) := by rw [z191, hE109]
      have hF193 := zOn_tr hF110 hF189 zi_r117
      have b194 := zv_8_10 hI188 zc_17
      have b195 := zv_8_11 hI188 zc_17
      have b196 := zv_8_12 hI188 zc_17
      have e197 := hF189 34 2 rfl
      have e198 := hF189 17 10 rfl
      have e199 := hF189 17 11 rfl
      have e200 := hF189 17 12 rfl
      have hQ201 := (yPlc_c (K := 17) (A := 19) (B := 20) (C := 21) (hF189 17 7 rfl) (hF189 17 8 rfl) (hF189 17 10 rfl) (hF189 17 11 rfl) (hF189 17 12 rfl) (fun j => hF189 19 j rfl) (fun j => hF189 20 j rfl) (fun j => hF189 21 j rfl)).trans hQ118
      refine zt_aload_n (pc' := 116) hX dX8_readPole_115 rfl rfl ?_
      refine zt_get (pc' := 119) (v := .ref (X.1.1 + 27)) hX dX8_readPole_116 rfl zf_X8_9 (by decide) zc_34 zs_21 (zrf_of (zv_21_0 hI188 zc_34)) ?_
      refine zt_bipush (pc' := 121) hX dX8_readPole_119 rfl (by decide) (by decide) ?_
      refine zt_cVv (pc' := 124) hX dX8_readPole_121 rfl zm_yX5_takeWord zw_18_2 zc_27 (by decide) zs_14 (q := (RX5, TX5, 9)) rfl rfl (yc_X5_takeWord _ _ s185 hI188 6 ⟨by omega, by omega⟩ f hT190) rfl rfl (Nat.le_of_ble_eq_true rfl) (by decide) (fun r202 s203 hr204 hp205 => ?_)
      obtain ⟨hI206, hF207, hT208, z209⟩ := hp205
      have hE210 : yst s203 = yPw f 6 (yPno 2 r88 (yPn f 0 ((s67 17 11) - 1) (yPn f 0 ((s47 17 10) - 1) (yPw f 5 (yNam f (yPlc σ 17 19 20 21) (yPx f (yst σ))))))) := by rw [z209, hE192]
      have hF211 := zOn_tr hF193 hF207 zi_r117
      have b212 := zv_8_10 hI206 zc_17
      have b213 := zv_8_11 hI206 zc_17
      have b214 := zv_8_12 hI206 zc_17
      have e215 := hF207 34 2 rfl
      have e216 := hF207 17 10 rfl
      have e217 := hF207 17 11 rfl
      have e218 := hF207 17 12 rfl
      have hQ219 := (yPlc_c (K := 17) (A := 19) (B := 20) (C := 21) (hF207 17 7 rfl) (hF207 17 8 rfl) (hF207 17 10 rfl) (hF207 17 11 rfl) (hF207 17 12 rfl) (fun j => hF207 19 j rfl) (fun j => hF207 20 j rfl) (fun j => hF207 21 j rfl)).trans hQ201
      refine zt_aload_n (pc' := 125) hX dX8_readPole_124 rfl rfl ?_
      refine zt_get (pc' := 128) (v := .ref (X.1.1 + 27)) hX dX8_readPole_125 rfl zf_X8_9 (by decide) zc_34 zs_21 (zrf_of (zv_21_0 hI206 zc_34)) ?_
      refine zt_iconst (pc' := 129) hX dX8_readPole_128 rfl ?_
      refine zt_bipush (pc' := 131) hX dX8_readPole_129 rfl (by decide) (by decide) ?_
      refine zt_cVi (pc' := 134) hX dX8_readPole_131 rfl zm_yX5_takeNumber zw_18_18 zc_27 (by decide) zs_14 (q := (RX5, TX5, 9)) rfl rfl (yc_X5_takeNumber _ _ s203 hI206 0 ⟨by omega, by omega⟩ 99 ⟨by omega, by omega⟩ f hT208) rfl rfl (Nat.le_of_ble_eq_true rfl) (by decide) (fun r220 s221 hr222 hp223 => ?_)
      obtain ⟨hI224, hF225, q226, q227, hT228, z229, z230, z231⟩ := hp223
      have hE232 : yst s221 = yPn f 0 99 (yPw f 6 (yPno 2 r88 (yPn f 0 ((s67 17 11) - 1) (yPn f 0 ((s47 17 10) - 1) (yPw f 5 (yNam f (yPlc σ 17 19 20 21) (yPx f (yst σ)))))))) := by rw [z229, hE210]
      rw [hE210] at z230
      have hF233 := zOn_tr hF211 hF225 zi_r117
      rw [hE232] at z230
      have b234 := zv_8_10 hI224 zc_17
      have b235 := zv_8_11 hI224 zc_17
      have b236 := zv_8_12 hI224 zc_17
      have e237 := hF225 34 2 rfl
      have e238 := hF225 17 10 rfl
      have e239 := hF225 17 11 rfl
      have e240 := hF225 17 12 rfl
      have hQ241 := (yPlc_c (K := 17) (A := 19) (B := 20) (C := 21) (hF225 17 7 rfl) (hF225 17 8 rfl) (hF225 17 10 rfl) (hF225 17 11 rfl) (hF225 17 12 rfl) (fun j => hF225 19 j rfl) (fun j => hF225 20 j rfl) (fun j => hF225 21 j rfl)).trans hQ219
      refine zt_istore (pc' := 136) (lv' := [some (.ref (X.1.1 + 34)), some (.int (zI r25)), some (.int (zI r66)), some (.int (zI r88)), some (.int (zI r97)), some (.int (zI r220))]) hX dX8_readPole_134 rfl hL (by decide) rfl ?_
      refine zt_aload_n (pc' := 137) hX dX8_readPole_136 rfl rfl ?_
      have ek242 : s221 34 2 = ((17 : Nat) : Int) := by omega
      refine zt_get (pc' := 140) (v := .ref (X.1.1 + 17)) hX dX8_readPole_137 rfl zf_X8_19 (by decide) zc_34 zs_21 (zrf_of ek242) ?_
      refine zt_iload_n (pc' := 141) hX dX8_readPole_140 rfl rfl ?_
      refine zt_iload_n (pc' := 142) hX dX8_readPole_141 rfl rfl ?_
      refine zt_iload (pc' := 144) hX dX8_readPole_142 rfl rfl ?_
      refine zt_iload (pc' := 146) hX dX8_readPole_144 rfl rfl ?_
      refine zt_cVv (pc' := 149) hX dX8_readPole_146 rfl zm_yX3_addPerson zw_21_3 zc_17 (by decide) zs_8 (q := (RX3, TX3, 17)) rfl rfl (yc_X3_addPerson_17 _ _ s221 hI224 r25 ⟨by omega, by omega⟩ r66 ⟨by omega, by omega⟩ r97 ⟨by omega, by omega⟩ r220 ⟨by omega, by omega⟩ (by omega)) rfl rfl (Nat.le_of_ble_eq_true rfl) (by decide) (fun r243 s244 hr245 hp246 => ?_)
      obtain ⟨hI247, hF248, z249⟩ := hp246
      have hF250 := zOn_tr hF233 hF248 zi_q17
      have hT251 := yTk_rk hT228 (yRk_q17 hF248)
      have hE252 : yst s244 = yPn f 0 99 (yPw f 6 (yPno 2 r88 (yPn f 0 ((s67 17 11) - 1) (yPn f 0 ((s47 17 10) - 1) (yPw f 5 (yNam f (yPlc σ 17 19 20 21) (yPx f (yst σ)))))))) := (yst_rk (yRk_q17 hF248)).trans hE232
      have b253 := zv_8_10 hI247 zc_17
      have b254 := zv_8_11 hI247 zc_17
      have b255 := zv_8_12 hI247 zc_17
      have e256 := hF248 34 2 rfl
      have hQ257 : yPlc s244 17 19 20 21 = (yPl.wnh (yPlc σ 17 19 20 21) ((yPlc σ 17 19 20 21).nm ++ [r25]) ((yPlc σ 17 19 20 21).hm ++ [r66 + 6 * r97])) := by rw [z249, hQ241]
      have i1 : yPw f 5 (yNam f (yPlc σ 17 19 20 21) (yPx f (yst σ))) = yPo1 f (yPlc σ 17 19 20 21) (yst σ) := rfl
      have i2 : yPn f 0 ((s47 17 10) - 1) (yPw f 5 (yNam f (yPlc σ 17 19 20 21) (yPx f (yst σ)))) = yPo2 f (yPlc σ 17 19 20 21) (yst σ) := by rw [show s47 17 10 = σ 17 10 by omega]; rfl
      have i3 : yPn f 0 ((s67 17 11) - 1) (yPn f 0 ((s47 17 10) - 1) (yPw f 5 (yNam f (yPlc σ 17 19 20 21) (yPx f (yst σ))))) = yPo3 f (yPlc σ 17 19 20 21) (yst σ) := by rw [show s47 17 10 = σ 17 10 by omega, show s67 17 11 = σ 17 11 by omega]; rfl
      have i4 := yPo4_1 (f := f) (P := (yPlc σ 17 19 20 21)) (s := (yst σ)) (fun o => by rw [← i3] at o; have t4 := z107 o; have o4 := yPo_n o; have t2 := z76 o4; have t3 := z94 o4; rw [← i1, ← i2]; exact ⟨t3, t2, t4⟩) (Decidable.byContradiction (fun m => absurd (z126.2 m) (by omega)))
      have i5 : yst s244 = yPol f (yPlc σ 17 19 20 21) (yst σ) := hE252.trans (by rw [i3, i4]; unfold yPol; rw [if_neg (by rw [yPlc_len]; omega)])
      exact zt_vret hX hR dX8_readPole_149 ⟨hI247, hF250, hT251, i5, (fun o => by rw [hE252] at o; have o7 := yPo_n o; have o6 := yPo_w o7; rw [yPo_no] at o6; exact absurd o6 (by decide))⟩
  · refine zt_aload_n (pc' := 13) hX dX8_readPole_12 rfl rfl ?_
    refine zt_get (pc' := 16) (v := .ref (X.1.1 + 27)) hX dX8_readPole_13 rfl zf_X8_9 (by decide) zc_34 zs_21 (zrf_of (zv_21_0 hI zc_34)) ?_
    refine zt_iconst (pc' := 17) hX dX8_readPole_16 rfl ?_
    refine zt_aload_n (pc' := 18) hX dX8_readPole_17 rfl rfl ?_
    refine zt_get (pc' := 21) (v := .ref (X.1.1 + 27)) hX dX8_readPole_18 rfl zf_X8_9 (by decide) zc_34 zs_21 (zrf_of (zv_21_0 hI zc_34)) ?_
    refine zt_cVi (pc' := 24) hX dX8_readPole_21 rfl zm_yX5_placeHere zw_20_7 zc_27 (by decide) zs_14 (q := (RX5, TX5, 9)) rfl rfl (yc_X5_placeHere _ _ σ hI f hT) rfl rfl (Nat.le_of_ble_eq_true rfl) (by decide) (fun r258 s259 hr260 hp261 => ?_)
    obtain ⟨rfl, q262, q263, z264⟩ := hp261
    refine zt_cVv (pc' := 27) hX dX8_readPole_24 rfl zm_yX5_refuse zw_20_11 zc_27 (by decide) zs_14 (q := (RX5, TX5, 9)) rfl rfl (yc_X5_refuse _ _ σ hI 5 ⟨by omega, by omega⟩ r258 ⟨by omega, by omega⟩ (by omega) f hT) rfl rfl (Nat.le_of_ble_eq_true rfl) (by decide) (fun r265 s266 hr267 hp268 => ?_)
    obtain ⟨hI269, hF270, hT271, z272⟩ := hp268
    have hE273 : yst s266 = yPno 5 r258 (yst σ) := z272
    have hF274 := zOn_tr hF hF270 zi_r117
    have b275 := zv_8_10 hI269 zc_17
    have b276 := zv_8_11 hI269 zc_17
    have b277 := zv_8_12 hI269 zc_17
    have e278 := hF270 34 2 rfl
    have e279 := hF270 17 10 rfl
    have e280 := hF270 17 11 rfl
    have e281 := hF270 17 12 rfl
    have hQ282 := (yPlc_c (K := 17) (A := 19) (B := 20) (C := 21) (hF270 17 7 rfl) (hF270 17 8 rfl) (hF270 17 10 rfl) (hF270 17 11 rfl) (hF270 17 12 rfl) (fun j => hF270 19 j rfl) (fun j => hF270 20 j rfl) (fun j => hF270 21 j rfl)).trans hQ0
    exact zt_vret hX hR dX8_readPole_27 ⟨hI269, hF274, hT271, hE273.trans (by unfold yPol; rw [if_pos (by rw [yPlc_len]; omega)]; exact yPno_f (fun o => by omega)), fun o => by rw [hE273, yPo_no] at o; exact absurd o (by decide)⟩
set_option maxRecDepth 100000 in
set_option maxHeartbeats 4000000 in
theorem yc_X8_readAdds_17 (l : Launch) (E : zEN) (σ : zSto) (hI : zInv σ) (hpre0 : σ 34 2 = 17) (f : Int → Int) (hT : yTk f σ) : zCt l E yX8_readAdds cX8_readAdds 1 none 31 zNC zNC 0 0 σ [.ref (E.1 + 34)] (fun r σ' => zInv σ' ∧ zOn zR17 σ σ' ∧ yTk f σ' ∧ ((yst σ') = yAds f (yPlc σ 17 19 20 21) (yst σ)) ∧ (yPo (yst σ') = 1 → yPlc σ' 17 19 20 21 = yPl.wad (yPlc σ 17 19 20 21) 1)) := by
  refine zCt_of2 [some (.ref (E.1 + 34))] (by decide +kernel) (Nat.le_of_ble_eq_true rfl) rfl ?_
  intro X hE_ hX hR hL hN
  subst hE_
  have hX : zok X cX8_readAdds RX8 31 := hX
  have hF := zOn_rf zR17 σ
  have hQ0 : yPlc σ 17 19 20 21 = yPlc σ 17 19 20 21 := rfl
  have hE0 : yst σ = yst σ := rfl
  have b1 := zv_8_10 hI zc_17
  have b2 := zv_8_11 hI zc_17
  have b3 := zv_8_7 hI zc_17
  refine zt_aload_n (pc' := 1) hX dX8_readAdds_0 rfl rfl ?_
  have ek4 : σ 34 2 = ((17 : Nat) : Int) := by omega
  refine zt_get (pc' := 4) (v := .ref (X.1.1 + 17)) hX dX8_readAdds_1 rfl zf_X8_19 (by decide) zc_34 zs_21 (zrf_of ek4) ?_
  have b5 := zv_8_7 hI zc_17
  refine zt_get (pc' := 7) (v := .int (zI (σ 17 7))) hX dX8_readAdds_4 rfl zf_X8_137 (by decide) zc_17 zs_8 rfl ?_
  refine zt_ifeq (pc' := 10) (tgt := 26) hX dX8_readAdds_7 rfl (by decide) ⟨by omega, by omega⟩ (fun c6 => ?_) (fun c6 => ?_)
  · refine zt_aload_n (pc' := 27) hX dX8_readAdds_26 rfl rfl ?_
    refine zt_get (pc' := 30) (v := .ref (X.1.1 + 17)) hX dX8_readAdds_27 rfl zf_X8_19 (by decide) zc_34 zs_21 (zrf_of ek4) ?_
    refine zt_iconst (pc' := 31) hX dX8_readAdds_30 rfl ?_
    refine zt_put (pc' := 34) (x := 1) hX dX8_readAdds_31 rfl zf_X8_137 (by decide) zc_17 zs_8 (fun q hq => by cases hq; rfl) rfl (zfit_z (by omega) (by omega)).1 (zfit_z (by omega) (by omega)).2 ?_
    generalize hs8 : zset σ 17 7 1 = s7
    have hI9 : zInv s7 := hs8 ▸ zp_8_7 hI zc_17 ⟨by omega, by omega⟩
    have hF10 : zOn zR17 σ s7 := hs8 ▸ zOn_set hF rfl
    have hT11 := yTk_rk hT (yRk_set hs8 zc_17 (by decide))
    have hE12 : yst s7 = (yst σ) := (yst_rk (yRk_set hs8 zc_17 (by decide))).trans hE0
    have hQ13 : yPlc s7 17 19 20 21 = (yPl.wad (yPlc σ 17 19 20 21) 1) := (yPlc_ad hs8 (by decide)).trans (by rw [hQ0])
    have e14 : s7 34 2 = σ 34 2 := by rw [← hs8]; exact zset_k (zne_r zc_34 zc_17 (by decide))
    have e15 : s7 17 10 = σ 17 10 := by rw [← hs8]; exact zset_j (by decide)
    have e16 : s7 17 11 = σ 17 11 := by rw [← hs8]; exact zset_j (by decide)
    have e17 : s7 17 7 = 1 := by rw [← hs8]; exact zset_s
    refine zt_aload_n (pc' := 35) hX dX8_readAdds_34 rfl rfl ?_
    refine zt_get (pc' := 38) (v := .ref (X.1.1 + 27)) hX dX8_readAdds_35 rfl zf_X8_9 (by decide) zc_34 zs_21 (zrf_of (zv_21_0 hI9 zc_34)) ?_
    refine zt_cVv (pc' := 41) hX dX8_readAdds_38 rfl zm_yX5_step zw_19_21 zc_27 (by decide) zs_14 (q := (RX5, TX5, 9)) rfl rfl (yc_X5_step _ _ s7 hI9 f hT11) rfl rfl (Nat.le_of_ble_eq_true rfl) (by decide) (fun r18 s19 hr20 hp21 => ?_)
    obtain ⟨hI22, hF23, hT24, z25⟩ := hp21
    have hE26 : yst s19 = yPx f (yst σ) := by rw [z25, hE12]
    have hF27 := zOn_tr hF10 hF23 zi_r117
    have b28 := zv_8_10 hI22 zc_17
    have b29 := zv_8_11 hI22 zc_17
    have b30 := zv_8_7 hI22 zc_17
    have e31 := hF23 34 2 rfl
    have e32 := hF23 17 10 rfl
    have e33 := hF23 17 11 rfl
    have e34 := hF23 17 7 rfl
    have hQ35 := (yPlc_c (K := 17) (A := 19) (B := 20) (C := 21) (hF23 17 7 rfl) (hF23 17 8 rfl) (hF23 17 10 rfl) (hF23 17 11 rfl) (hF23 17 12 rfl) (fun j => hF23 19 j rfl) (fun j => hF23 20 j rfl) (fun j => hF23 21 j rfl)).trans hQ13
    refine zt_aload_n (pc' := 42) hX dX8_readAdds_41 rfl rfl ?_
    refine zt_get (pc' := 45) (v := .ref (X.1.1 + 33)) hX dX8_readAdds_42 rfl zf_X8_15 (by decide) zc_34 zs_21 (zrf_of (zv_21_1 hI22 zc_34)) ?_
    refine zt_aload_n (pc' := 46) hX dX8_readAdds_45 rfl rfl ?_
    have ek36 : s19 34 2 = ((17 : Nat) : Int) := by omega
    refine zt_get (pc' := 49) (v := .ref (X.1.1 + 17)) hX dX8_readAdds_46 rfl zf_X8_19 (by decide) zc_34 zs_21 (zrf_of ek36) ?_
    refine zt_get (pc' := 52) (v := .ref (X.1.1 + 23)) hX dX8_readAdds_49 rfl zf_X8_141 (by decide) zc_17 zs_8 (zrf_of (zv_8_5 hI22 zc_17)) ?_
    refine zt_iconst (pc' := 53) hX dX8_readAdds_52 rfl ?_
    refine zt_cVv (pc' := 56) hX dX8_readAdds_53 rfl zm_yX1_readSum zw_21_14 zc_33 (by decide) zs_20 (q := (RX1, TX1, 3)) rfl rfl (yc_X1_readSum _ _ s19 hI22 23 zc_23 0 ⟨by omega, by omega⟩ f hT24) rfl rfl (Nat.le_of_ble_eq_true rfl) (by decide) (fun r37 s38 hr39 hp40 => ?_)
    obtain ⟨hI41, hF42, hT43, z44⟩ := hp40
    have hE45 : yst s38 = ySm 0 f (yPx f (yst σ)) := by rw [z44, hE26]
    have hF46 := zOn_tr hF27 hF42 zi_417
    have b47 := zv_8_10 hI41 zc_17
    have b48 := zv_8_11 hI41 zc_17
    have b49 := zv_8_7 hI41 zc_17
    have e50 := hF42 34 2 rfl
    have e51 := hF42 17 10 rfl
    have e52 := hF42 17 11 rfl
    have e53 := hF42 17 7 rfl
    have hQ54 := (yPlc_c (K := 17) (A := 19) (B := 20) (C := 21) (hF42 17 7 rfl) (hF42 17 8 rfl) (hF42 17 10 rfl) (hF42 17 11 rfl) (hF42 17 12 rfl) (fun j => hF42 19 j rfl) (fun j => hF42 20 j rfl) (fun j => hF42 21 j rfl)).trans hQ35
    refine zt_aload_n (pc' := 57) hX dX8_readAdds_56 rfl rfl ?_
    have ek55 : s38 34 2 = ((17 : Nat) : Int) := by omega
    refine zt_get (pc' := 60) (v := .ref (X.1.1 + 17)) hX dX8_readAdds_57 rfl zf_X8_19 (by decide) zc_34 zs_21 (zrf_of ek55) ?_
    refine zt_aload_n (pc' := 61) hX dX8_readAdds_60 rfl rfl ?_
    refine zt_get (pc' := 64) (v := .ref (X.1.1 + 17)) hX dX8_readAdds_61 rfl zf_X8_19 (by decide) zc_34 zs_21 (zrf_of ek55) ?_
    refine zt_get (pc' := 67) (v := .ref (X.1.1 + 23)) hX dX8_readAdds_64 rfl zf_X8_141 (by decide) zc_17 zs_8 (zrf_of (zv_8_5 hI41 zc_17)) ?_
    refine zt_bipush (pc' := 69) hX dX8_readAdds_67 rfl (by decide) (by decide) ?_
    refine zt_cVz (pc' := 72) hX dX8_readAdds_69 rfl zm_yX4_hasStep zw_23_12 zc_23 (by decide) zs_6 (q := (RX4, TX4, 2)) rfl rfl (yc_X4_hasStep _ _ s38 hI41 23 zc_23 12 ⟨by omega, by omega⟩) rfl rfl (Nat.le_of_ble_eq_true rfl) (by decide) (fun r56 s57 hr58 hp59 => ?_)
    obtain ⟨rfl, q60, q61⟩ := hp59
    refine zt_put (pc' := 75) (x := r56) hX dX8_readAdds_72 rfl zf_X8_156 (by decide) zc_17 zs_8 (fun q hq => by cases hq; rfl) rfl (zfit_z (by omega) (by omega)).1 (zfit_z (by omega) (by omega)).2 ?_
    generalize hs63 : zset s38 17 9 r56 = s62
    have hI64 : zInv s62 := hs63 ▸ zp_8_9 hI41 zc_17 ⟨by omega, by omega⟩
    have hF65 : zOn zR17 σ s62 := hs63 ▸ zOn_set hF46 rfl
    have hT66 := yTk_rk hT43 (yRk_set hs63 zc_17 (by decide))
    have hE67 : yst s62 = ySm 0 f (yPx f (yst σ)) := (yst_rk (yRk_set hs63 zc_17 (by decide))).trans hE45
    have hQ68 := (yPlc_pj (A := 19) (B := 20) (C := 21) hs63 (by decide) (by decide)).trans hQ54
    have e69 : s62 34 2 = s38 34 2 := by rw [← hs63]; exact zset_k (zne_r zc_34 zc_17 (by decide))
    have e70 : s62 17 10 = s38 17 10 := by rw [← hs63]; exact zset_j (by decide)
    have e71 : s62 17 11 = s38 17 11 := by rw [← hs63]; exact zset_j (by decide)
    have e72 : s62 17 7 = s38 17 7 := by rw [← hs63]; exact zset_j (by decide)
    exact zt_vret hX hR dX8_readAdds_75 ⟨hI64, hF65, hT66, hE67.trans (by unfold yAds; rw [if_neg (show ¬ (yPlc σ 17 19 20 21).ad ≠ 0 from by show ¬ σ 17 7 ≠ 0; omega)]), (fun _ => hQ68)⟩
  · refine zt_aload_n (pc' := 11) hX dX8_readAdds_10 rfl rfl ?_
    refine zt_get (pc' := 14) (v := .ref (X.1.1 + 27)) hX dX8_readAdds_11 rfl zf_X8_9 (by decide) zc_34 zs_21 (zrf_of (zv_21_0 hI zc_34)) ?_
    refine zt_iconst (pc' := 15) hX dX8_readAdds_14 rfl ?_
    refine zt_aload_n (pc' := 16) hX dX8_readAdds_15 rfl rfl ?_
    refine zt_get (pc' := 19) (v := .ref (X.1.1 + 27)) hX dX8_readAdds_16 rfl zf_X8_9 (by decide) zc_34 zs_21 (zrf_of (zv_21_0 hI zc_34)) ?_
    refine zt_cVi (pc' := 22) hX dX8_readAdds_19 rfl zm_yX5_placeHere zw_20_7 zc_27 (by decide) zs_14 (q := (RX5, TX5, 9)) rfl rfl (yc_X5_placeHere _ _ σ hI f hT) rfl rfl (Nat.le_of_ble_eq_true rfl) (by decide) (fun r73 s74 hr75 hp76 => ?_)
    obtain ⟨rfl, q77, q78, z79⟩ := hp76
    refine zt_cVv (pc' := 25) hX dX8_readAdds_22 rfl zm_yX5_refuse zw_20_11 zc_27 (by decide) zs_14 (q := (RX5, TX5, 9)) rfl rfl (yc_X5_refuse _ _ σ hI 5 ⟨by omega, by omega⟩ r73 ⟨by omega, by omega⟩ (by omega) f hT) rfl rfl (Nat.le_of_ble_eq_true rfl) (by decide) (fun r80 s81 hr82 hp83 => ?_)
    obtain ⟨hI84, hF85, hT86, z87⟩ := hp83
    have hE88 : yst s81 = yPno 5 r73 (yst σ) := z87
    have hF89 := zOn_tr hF hF85 zi_r117
    have b90 := zv_8_10 hI84 zc_17
    have b91 := zv_8_11 hI84 zc_17
    have b92 := zv_8_7 hI84 zc_17
    have e93 := hF85 34 2 rfl
    have e94 := hF85 17 10 rfl
    have e95 := hF85 17 11 rfl
    have e96 := hF85 17 7 rfl
    have hQ97 := (yPlc_c (K := 17) (A := 19) (B := 20) (C := 21) (hF85 17 7 rfl) (hF85 17 8 rfl) (hF85 17 10 rfl) (hF85 17 11 rfl) (hF85 17 12 rfl) (fun j => hF85 19 j rfl) (fun j => hF85 20 j rfl) (fun j => hF85 21 j rfl)).trans hQ0
    exact zt_vret hX hR dX8_readAdds_25 ⟨hI84, hF89, hT86, hE88.trans (by unfold yAds; rw [if_pos (show (yPlc σ 17 19 20 21).ad ≠ 0 from by show σ 17 7 ≠ 0; omega)]; exact yPno_f (fun o => by omega)), fun o => by rw [hE88, yPo_no] at o; exact absurd o (by decide)⟩
set_option maxRecDepth 100000 in
set_option maxHeartbeats 4000000 in
theorem yc_X8_readHolds_17 (l : Launch) (E : zEN) (σ : zSto) (hI : zInv σ) (hpre0 : σ 34 2 = 17) (f : Int → Int) (hT : yTk f σ) : zCt l E yX8_readHolds cX8_readHolds 1 none 35 zNC zNC 0 0 σ [.ref (E.1 + 34)] (fun r σ' => zInv σ' ∧ zOn zR17 σ σ' ∧ yTk f σ' ∧ ((yst σ') = yHos f (yPlc σ 17 19 20 21) (yst σ)) ∧ (yPo (yst σ') = 1 → yPlc σ' 17 19 20 21 = yPl.who (yPlc σ 17 19 20 21) 1)) := by
  refine zCt_of2 [some (.ref (E.1 + 34))] (by decide +kernel) (Nat.le_of_ble_eq_true rfl) rfl ?_
  intro X hE_ hX hR hL hN
  subst hE_
  have hX : zok X cX8_readHolds RX8 35 := hX
  have hF := zOn_rf zR17 σ
  have hQ0 : yPlc σ 17 19 20 21 = yPlc σ 17 19 20 21 := rfl
  have hE0 : yst σ = yst σ := rfl
  have b1 := zv_8_10 hI zc_17
  have b2 := zv_8_11 hI zc_17
  have b3 := zv_8_8 hI zc_17
  refine zt_aload_n (pc' := 1) hX dX8_readHolds_0 rfl rfl ?_
  have ek4 : σ 34 2 = ((17 : Nat) : Int) := by omega
  refine zt_get (pc' := 4) (v := .ref (X.1.1 + 17)) hX dX8_readHolds_1 rfl zf_X8_19 (by decide) zc_34 zs_21 (zrf_of ek4) ?_
  have b5 := zv_8_8 hI zc_17
  refine zt_get (pc' := 7) (v := .int (zI (σ 17 8))) hX dX8_readHolds_4 rfl zf_X8_159 (by decide) zc_17 zs_8 rfl ?_
  refine zt_ifeq (pc' := 10) (tgt := 26) hX dX8_readHolds_7 rfl (by decide) ⟨by omega, by omega⟩ (fun c6 => ?_) (fun c6 => ?_)
  · refine zt_aload_n (pc' := 27) hX dX8_readHolds_26 rfl rfl ?_
    refine zt_get (pc' := 30) (v := .ref (X.1.1 + 17)) hX dX8_readHolds_27 rfl zf_X8_19 (by decide) zc_34 zs_21 (zrf_of ek4) ?_
    refine zt_iconst (pc' := 31) hX dX8_readHolds_30 rfl ?_
    refine zt_put (pc' := 34) (x := 1) hX dX8_readHolds_31 rfl zf_X8_159 (by decide) zc_17 zs_8 (fun q hq => by cases hq; rfl) rfl (zfit_z (by omega) (by omega)).1 (zfit_z (by omega) (by omega)).2 ?_
    generalize hs8 : zset σ 17 8 1 = s7
    have hI9 : zInv s7 := hs8 ▸ zp_8_8 hI zc_17 ⟨by omega, by omega⟩
    have hF10 : zOn zR17 σ s7 := hs8 ▸ zOn_set hF rfl
    have hT11 := yTk_rk hT (yRk_set hs8 zc_17 (by decide))
    have hE12 : yst s7 = (yst σ) := (yst_rk (yRk_set hs8 zc_17 (by decide))).trans hE0
    have hQ13 : yPlc s7 17 19 20 21 = (yPl.who (yPlc σ 17 19 20 21) 1) := (yPlc_ho hs8 (by decide)).trans (by rw [hQ0])
    have e14 : s7 34 2 = σ 34 2 := by rw [← hs8]; exact zset_k (zne_r zc_34 zc_17 (by decide))
    have e15 : s7 17 10 = σ 17 10 := by rw [← hs8]; exact zset_j (by decide)
    have e16 : s7 17 11 = σ 17 11 := by rw [← hs8]; exact zset_j (by decide)
    have e17 : s7 17 8 = 1 := by rw [← hs8]; exact zset_s
    refine zt_aload_n (pc' := 35) hX dX8_readHolds_34 rfl rfl ?_
    refine zt_get (pc' := 38) (v := .ref (X.1.1 + 27)) hX dX8_readHolds_35 rfl zf_X8_9 (by decide) zc_34 zs_21 (zrf_of (zv_21_0 hI9 zc_34)) ?_
    refine zt_cVv (pc' := 41) hX dX8_readHolds_38 rfl zm_yX5_step zw_19_21 zc_27 (by decide) zs_14 (q := (RX5, TX5, 9)) rfl rfl (yc_X5_step _ _ s7 hI9 f hT11) rfl rfl (Nat.le_of_ble_eq_true rfl) (by decide) (fun r18 s19 hr20 hp21 => ?_)
    obtain ⟨hI22, hF23, hT24, z25⟩ := hp21
    have hE26 : yst s19 = yPx f (yst σ) := by rw [z25, hE12]
    have hF27 := zOn_tr hF10 hF23 zi_r117
    have b28 := zv_8_10 hI22 zc_17
    have b29 := zv_8_11 hI22 zc_17
    have b30 := zv_8_8 hI22 zc_17
    have e31 := hF23 34 2 rfl
    have e32 := hF23 17 10 rfl
    have e33 := hF23 17 11 rfl
    have e34 := hF23 17 8 rfl
    have hQ35 := (yPlc_c (K := 17) (A := 19) (B := 20) (C := 21) (hF23 17 7 rfl) (hF23 17 8 rfl) (hF23 17 10 rfl) (hF23 17 11 rfl) (hF23 17 12 rfl) (fun j => hF23 19 j rfl) (fun j => hF23 20 j rfl) (fun j => hF23 21 j rfl)).trans hQ13
    refine zt_aload_n (pc' := 42) hX dX8_readHolds_41 rfl rfl ?_
    refine zt_get (pc' := 45) (v := .ref (X.1.1 + 33)) hX dX8_readHolds_42 rfl zf_X8_15 (by decide) zc_34 zs_21 (zrf_of (zv_21_1 hI22 zc_34)) ?_
    refine zt_aload_n (pc' := 46) hX dX8_readHolds_45 rfl rfl ?_
    have ek36 : s19 34 2 = ((17 : Nat) : Int) := by omega
    refine zt_get (pc' := 49) (v := .ref (X.1.1 + 17)) hX dX8_readHolds_46 rfl zf_X8_19 (by decide) zc_34 zs_21 (zrf_of ek36) ?_
    refine zt_get (pc' := 52) (v := .ref (X.1.1 + 25)) hX dX8_readHolds_49 rfl zf_X8_162 (by decide) zc_17 zs_8 (zrf_of (zv_8_6 hI22 zc_17)) ?_
    refine zt_iconst (pc' := 53) hX dX8_readHolds_52 rfl ?_
    refine zt_cVv (pc' := 56) hX dX8_readHolds_53 rfl zm_yX1_readTest zw_23_22 zc_33 (by decide) zs_20 (q := (RX1, TX1, 3)) rfl rfl (yc_X1_readTest _ _ s19 hI22 25 zc_25 1 ⟨by omega, by omega⟩ f hT24) rfl rfl (Nat.le_of_ble_eq_true rfl) (by decide) (fun r37 s38 hr39 hp40 => ?_)
    obtain ⟨hI41, hF42, hT43, z44⟩ := hp40
    have hE45 : yst s38 = yTt 1 f (yPx f (yst σ)) := by rw [z44, hE26]
    have hF46 := zOn_tr hF27 hF42 zi_417
    have b47 := zv_8_10 hI41 zc_17
    have b48 := zv_8_11 hI41 zc_17
    have b49 := zv_8_8 hI41 zc_17
    have e50 := hF42 34 2 rfl
    have e51 := hF42 17 10 rfl
    have e52 := hF42 17 11 rfl
    have e53 := hF42 17 8 rfl
    have hQ54 := (yPlc_c (K := 17) (A := 19) (B := 20) (C := 21) (hF42 17 7 rfl) (hF42 17 8 rfl) (hF42 17 10 rfl) (hF42 17 11 rfl) (hF42 17 12 rfl) (fun j => hF42 19 j rfl) (fun j => hF42 20 j rfl) (fun j => hF42 21 j rfl)).trans hQ35
    exact zt_vret hX hR dX8_readHolds_56 ⟨hI41, hF46, hT43, hE45.trans (by unfold yHos; rw [if_neg (show ¬ (yPlc σ 17 19 20 21).ho ≠ 0 from by show ¬ σ 17 8 ≠ 0; omega)]), (fun _ => hQ54)⟩
  · refine zt_aload_n (pc' := 11) hX dX8_readHolds_10 rfl rfl ?_
    refine zt_get (pc' := 14) (v := .ref (X.1.1 + 27)) hX dX8_readHolds_11 rfl zf_X8_9 (by decide) zc_34 zs_21 (zrf_of (zv_21_0 hI zc_34)) ?_
    refine zt_iconst (pc' := 15) hX dX8_readHolds_14 rfl ?_
    refine zt_aload_n (pc' := 16) hX dX8_readHolds_15 rfl rfl ?_
    refine zt_get (pc' := 19) (v := .ref (X.1.1 + 27)) hX dX8_readHolds_16 rfl zf_X8_9 (by decide) zc_34 zs_21 (zrf_of (zv_21_0 hI zc_34)) ?_
    refine zt_cVi (pc' := 22) hX dX8_readHolds_19 rfl zm_yX5_placeHere zw_20_7 zc_27 (by decide) zs_14 (q := (RX5, TX5, 9)) rfl rfl (yc_X5_placeHere _ _ σ hI f hT) rfl rfl (Nat.le_of_ble_eq_true rfl) (by decide) (fun r55 s56 hr57 hp58 => ?_)
    obtain ⟨rfl, q59, q60, z61⟩ := hp58
    refine zt_cVv (pc' := 25) hX dX8_readHolds_22 rfl zm_yX5_refuse zw_20_11 zc_27 (by decide) zs_14 (q := (RX5, TX5, 9)) rfl rfl (yc_X5_refuse _ _ σ hI 5 ⟨by omega, by omega⟩ r55 ⟨by omega, by omega⟩ (by omega) f hT) rfl rfl (Nat.le_of_ble_eq_true rfl) (by decide) (fun r62 s63 hr64 hp65 => ?_)
    obtain ⟨hI66, hF67, hT68, z69⟩ := hp65
    have hE70 : yst s63 = yPno 5 r55 (yst σ) := z69
    have hF71 := zOn_tr hF hF67 zi_r117
    have b72 := zv_8_10 hI66 zc_17
    have b73 := zv_8_11 hI66 zc_17
    have b74 := zv_8_8 hI66 zc_17
    have e75 := hF67 34 2 rfl
    have e76 := hF67 17 10 rfl
    have e77 := hF67 17 11 rfl
    have e78 := hF67 17 8 rfl
    have hQ79 := (yPlc_c (K := 17) (A := 19) (B := 20) (C := 21) (hF67 17 7 rfl) (hF67 17 8 rfl) (hF67 17 10 rfl) (hF67 17 11 rfl) (hF67 17 12 rfl) (fun j => hF67 19 j rfl) (fun j => hF67 20 j rfl) (fun j => hF67 21 j rfl)).trans hQ0
    exact zt_vret hX hR dX8_readHolds_25 ⟨hI66, hF71, hT68, hE70.trans (by unfold yHos; rw [if_pos (show (yPlc σ 17 19 20 21).ho ≠ 0 from by show σ 17 8 ≠ 0; omega)]; exact yPno_f (fun o => by omega)), fun o => by rw [hE70, yPo_no] at o; exact absurd o (by decide)⟩
set_option maxRecDepth 100000 in
set_option maxHeartbeats 4000000 in
theorem yc_X8_readStatement_17 (l : Launch) (E : zEN) (σ : zSto) (hI : zInv σ) (hpre0 : σ 34 2 = 17) (f : Int → Int) (hT : yTk f σ) : zCt l E yX8_readStatement cX8_readStatement 1 none 36 zNC zNC 0 0 σ [.ref (E.1 + 34)] (fun r σ' => zInv σ' ∧ zOn zR17 σ σ' ∧ yTk f σ' ∧ ((yst σ') = yStm f (yPlc σ 17 19 20 21) (yst σ)) ∧ (yPo (yst σ') = 1 → yPlc σ' 17 19 20 21 = yStmP f (yPlc σ 17 19 20 21) (yst σ))) := by
  refine zCt_of2 [some (.ref (E.1 + 34))] (by decide +kernel) (Nat.le_of_ble_eq_true rfl) rfl ?_
  intro X hE_ hX hR hL hN
  subst hE_
  have hX : zok X cX8_readStatement RX8 36 := hX
  have hF := zOn_rf zR17 σ
  have hQ0 : yPlc σ 17 19 20 21 = yPlc σ 17 19 20 21 := rfl
  have hE0 : yst σ = yst σ := rfl
  have b1 := zv_8_10 hI zc_17
  have b2 := zv_8_11 hI zc_17
  refine zt_aload_n (pc' := 1) hX dX8_readStatement_0 rfl rfl ?_
  refine zt_get (pc' := 4) (v := .ref (X.1.1 + 27)) hX dX8_readStatement_1 rfl zf_X8_9 (by decide) zc_34 zs_21 (zrf_of (zv_21_0 hI zc_34)) ?_
  refine zt_cVi (pc' := 7) hX dX8_readStatement_4 rfl zm_yX5_wordHere zw_19_13 zc_27 (by decide) zs_14 (q := (RX5, TX5, 9)) rfl rfl (yc_X5_wordHere _ _ σ hI f hT) rfl rfl (Nat.le_of_ble_eq_true rfl) (by decide) (fun r3 s4 hr5 hp6 => ?_)
  obtain ⟨rfl, q7, q8, z9⟩ := hp6
  rcases (show r3 = 3 ∨ r3 = 4 ∨ r3 = 5 ∨ r3 = 6 ∨ r3 = 7 ∨ r3 = 8 ∨ r3 = 9 ∨ r3 = 10 ∨ r3 = 11 ∨ (r3 < 3 ∨ 11 < r3) by omega) with c10 | c10 | c10 | c10 | c10 | c10 | c10 | c10 | c10 | c10
  · refine zt_tsIn (v := 3) (tgt := 56) hX dX8_readStatement_7 c10 (by decide) (by decide) (by decide) rfl (by decide) ?_
    refine zt_aload_n (pc' := 57) hX dX8_readStatement_56 rfl rfl ?_
    refine zt_cVv (pc' := 60) hX dX8_readStatement_57 rfl zm_yX8_readHeavy zw_19_14 zc_34 (by decide) zs_21 (q := (RX8, TX8, 3)) rfl rfl (yc_X8_readHeavy_17 _ _ σ hI (by omega) f hT) rfl rfl (Nat.le_of_ble_eq_true rfl) (by decide) (fun r11 s12 hr13 hp14 => ?_)
    obtain ⟨hI15, hF16, hT17, z18, z19⟩ := hp14
    have hE20 : yst s12 = yHea f (yPlc σ 17 19 20 21) (yst σ) := z18
    have hF21 := zOn_tr hF hF16 zi_id
    have b22 := zv_8_10 hI15 zc_17
    have b23 := zv_8_11 hI15 zc_17
    have e24 := hF16 34 2 rfl
    have hQ25 : yPlc s12 17 19 20 21 = (yPlc σ 17 19 20 21) := by rw [z19, hQ0]
    refine zt_goto (tgt := 180) hX dX8_readStatement_60 (by decide) ?_
    exact zt_vret hX hR dX8_readStatement_180 ⟨hI15, hF21, hT17, hE20.trans (by unfold yStm; rw [if_pos (by omega)]), (fun _ => z19.trans (by unfold yStmP; rw [if_neg (by omega), if_neg (by omega), if_neg (by omega)]))⟩
  · refine zt_tsIn (v := 4) (tgt := 63) hX dX8_readStatement_7 c10 (by decide) (by decide) (by decide) rfl (by decide) ?_
    refine zt_aload_n (pc' := 64) hX dX8_readStatement_63 rfl rfl ?_
    refine zt_cVv (pc' := 67) hX dX8_readStatement_64 rfl zm_yX8_readPole zw_20_2 zc_34 (by decide) zs_21 (q := (RX8, TX8, 3)) rfl rfl (yc_X8_readPole_17 _ _ σ hI (by omega) f hT) rfl rfl (Nat.le_of_ble_eq_true rfl) (by decide) (fun r26 s27 hr28 hp29 => ?_)
    obtain ⟨hI30, hF31, hT32, z33, z34⟩ := hp29
    have hE35 : yst s27 = yPol f (yPlc σ 17 19 20 21) (yst σ) := z33
    have hF36 := zOn_tr hF hF31 zi_id
    rw [hE35] at z34
    have b37 := zv_8_10 hI30 zc_17
    have b38 := zv_8_11 hI30 zc_17
    have e39 := hF31 34 2 rfl
    refine zt_goto (tgt := 180) hX dX8_readStatement_67 (by decide) ?_
    exact zt_vret hX hR dX8_readStatement_180 ⟨hI30, hF36, hT32, hE35.trans (by unfold yStm; rw [if_neg (by omega), if_pos (by omega)]), (fun o => ((fun o => z34 (by rw [hE35] at o; exact o)) o).trans (by unfold yStmP; rw [if_pos (by omega)]))⟩
  · refine zt_tsIn (v := 5) (tgt := 165) hX dX8_readStatement_7 c10 (by decide) (by decide) (by decide) rfl (by decide) ?_
    refine zt_aload_n (pc' := 166) hX dX8_readStatement_165 rfl rfl ?_
    refine zt_get (pc' := 169) (v := .ref (X.1.1 + 27)) hX dX8_readStatement_166 rfl zf_X8_9 (by decide) zc_34 zs_21 (zrf_of (zv_21_0 hI zc_34)) ?_
    refine zt_iconst (pc' := 170) hX dX8_readStatement_169 rfl ?_
    refine zt_aload_n (pc' := 171) hX dX8_readStatement_170 rfl rfl ?_
    refine zt_get (pc' := 174) (v := .ref (X.1.1 + 27)) hX dX8_readStatement_171 rfl zf_X8_9 (by decide) zc_34 zs_21 (zrf_of (zv_21_0 hI zc_34)) ?_
    refine zt_cVi (pc' := 177) hX dX8_readStatement_174 rfl zm_yX5_placeHere zw_20_7 zc_27 (by decide) zs_14 (q := (RX5, TX5, 9)) rfl rfl (yc_X5_placeHere _ _ σ hI f hT) rfl rfl (Nat.le_of_ble_eq_true rfl) (by decide) (fun r41 s42 hr43 hp44 => ?_)
    obtain ⟨rfl, q45, q46, z47⟩ := hp44
    refine zt_cVv (pc' := 180) hX dX8_readStatement_177 rfl zm_yX5_refuse zw_20_11 zc_27 (by decide) zs_14 (q := (RX5, TX5, 9)) rfl rfl (yc_X5_refuse _ _ σ hI 1 ⟨by omega, by omega⟩ r41 ⟨by omega, by omega⟩ (by omega) f hT) rfl rfl (Nat.le_of_ble_eq_true rfl) (by decide) (fun r48 s49 hr50 hp51 => ?_)
    obtain ⟨hI52, hF53, hT54, z55⟩ := hp51
    have hE56 : yst s49 = yPno 1 r41 (yst σ) := z55
    have hF57 := zOn_tr hF hF53 zi_r117
    have b58 := zv_8_10 hI52 zc_17
    have b59 := zv_8_11 hI52 zc_17
    have e60 := hF53 34 2 rfl
    have e61 := hF53 17 10 rfl
    have e62 := hF53 17 11 rfl
    have hQ63 := (yPlc_c (K := 17) (A := 19) (B := 20) (C := 21) (hF53 17 7 rfl) (hF53 17 8 rfl) (hF53 17 10 rfl) (hF53 17 11 rfl) (hF53 17 12 rfl) (fun j => hF53 19 j rfl) (fun j => hF53 20 j rfl) (fun j => hF53 21 j rfl)).trans hQ0
    exact zt_vret hX hR dX8_readStatement_180 ⟨hI52, hF57, hT54, hE56.trans (by unfold yStm; rw [if_neg (by omega), if_neg (by omega), if_neg (by omega), if_neg (by omega), if_neg (by omega), if_neg (by omega), if_neg (by omega)]; exact yPno_f (fun o => by omega)), fun o => by rw [hE56, yPo_no] at o; exact absurd o (by decide)⟩
  · refine zt_tsIn (v := 6) (tgt := 165) hX dX8_readStatement_7 c10 (by decide) (by decide) (by decide) rfl (by decide) ?_
    refine zt_aload_n (pc' := 166) hX dX8_readStatement_165 rfl rfl ?_
    refine zt_get (pc' := 169) (v := .ref (X.1.1 + 27)) hX dX8_readStatement_166 rfl zf_X8_9 (by decide) zc_34 zs_21 (zrf_of (zv_21_0 hI zc_34)) ?_
    refine zt_iconst (pc' := 170) hX dX8_readStatement_169 rfl ?_
    refine zt_aload_n (pc' := 171) hX dX8_readStatement_170 rfl rfl ?_
    refine zt_get (pc' := 174) (v := .ref (X.1.1 + 27)) hX dX8_readStatement_171 rfl zf_X8_9 (by decide) zc_34 zs_21 (zrf_of (zv_21_0 hI zc_34)) ?_
    refine zt_cVi (pc' := 177) hX dX8_readStatement_174 rfl zm_yX5_placeHere zw_20_7 zc_27 (by decide) zs_14 (q := (RX5, TX5, 9)) rfl rfl (yc_X5_placeHere _ _ σ hI f hT) rfl rfl (Nat.le_of_ble_eq_true rfl) (by decide) (fun r64 s65 hr66 hp67 => ?_)
    obtain ⟨rfl, q68, q69, z70⟩ := hp67
    refine zt_cVv (pc' := 180) hX dX8_readStatement_177 rfl zm_yX5_refuse zw_20_11 zc_27 (by decide) zs_14 (q := (RX5, TX5, 9)) rfl rfl (yc_X5_refuse _ _ σ hI 1 ⟨by omega, by omega⟩ r64 ⟨by omega, by omega⟩ (by omega) f hT) rfl rfl (Nat.le_of_ble_eq_true rfl) (by decide) (fun r71 s72 hr73 hp74 => ?_)
    obtain ⟨hI75, hF76, hT77, z78⟩ := hp74
    have hE79 : yst s72 = yPno 1 r64 (yst σ) := z78
    have hF80 := zOn_tr hF hF76 zi_r117
    have b81 := zv_8_10 hI75 zc_17
    have b82 := zv_8_11 hI75 zc_17
    have e83 := hF76 34 2 rfl
    have e84 := hF76 17 10 rfl
    have e85 := hF76 17 11 rfl
    have hQ86 := (yPlc_c (K := 17) (A := 19) (B := 20) (C := 21) (hF76 17 7 rfl) (hF76 17 8 rfl) (hF76 17 10 rfl) (hF76 17 11 rfl) (hF76 17 12 rfl) (fun j => hF76 19 j rfl) (fun j => hF76 20 j rfl) (fun j => hF76 21 j rfl)).trans hQ0
    exact zt_vret hX hR dX8_readStatement_180 ⟨hI75, hF80, hT77, hE79.trans (by unfold yStm; rw [if_neg (by omega), if_neg (by omega), if_neg (by omega), if_neg (by omega), if_neg (by omega), if_neg (by omega), if_neg (by omega)]; exact yPno_f (fun o => by omega)), fun o => by rw [hE79, yPo_no] at o; exact absurd o (by decide)⟩
  · refine zt_tsIn (v := 7) (tgt := 70) hX dX8_readStatement_7 c10 (by decide) (by decide) (by decide) rfl (by decide) ?_
    refine zt_aload_n (pc' := 71) hX dX8_readStatement_70 rfl rfl ?_
    refine zt_cVv (pc' := 74) hX dX8_readStatement_71 rfl zm_yX8_readAdds zw_21_7 zc_34 (by decide) zs_21 (q := (RX8, TX8, 3)) rfl rfl (yc_X8_readAdds_17 _ _ σ hI (by omega) f hT) rfl rfl (Nat.le_of_ble_eq_true rfl) (by decide) (fun r87 s88 hr89 hp90 => ?_)
    obtain ⟨hI91, hF92, hT93, z94, z95⟩ := hp90
    have hE96 : yst s88 = yAds f (yPlc σ 17 19 20 21) (yst σ) := z94
    have hF97 := zOn_tr hF hF92 zi_id
    rw [hE96] at z95
    have b98 := zv_8_10 hI91 zc_17
    have b99 := zv_8_11 hI91 zc_17
    have e100 := hF92 34 2 rfl
    refine zt_goto (tgt := 180) hX dX8_readStatement_74 (by decide) ?_
    exact zt_vret hX hR dX8_readStatement_180 ⟨hI91, hF97, hT93, hE96.trans (by unfold yStm; rw [if_neg (by omega), if_neg (by omega), if_pos (by omega)]), (fun o => ((fun o => z95 (by rw [hE96] at o; exact o)) o).trans (by unfold yStmP; rw [if_neg (by omega), if_pos (by omega)]))⟩
  · refine zt_tsIn (v := 8) (tgt := 77) hX dX8_readStatement_7 c10 (by decide) (by decide) (by decide) rfl (by decide) ?_
    refine zt_aload_n (pc' := 78) hX dX8_readStatement_77 rfl rfl ?_
    refine zt_cVv (pc' := 81) hX dX8_readStatement_78 rfl zm_yX8_readHolds zw_23_16 zc_34 (by decide) zs_21 (q := (RX8, TX8, 3)) rfl rfl (yc_X8_readHolds_17 _ _ σ hI (by omega) f hT) rfl rfl (Nat.le_of_ble_eq_true rfl) (by decide) (fun r102 s103 hr104 hp105 => ?_)
    obtain ⟨hI106, hF107, hT108, z109, z110⟩ := hp105
    have hE111 : yst s103 = yHos f (yPlc σ 17 19 20 21) (yst σ) := z109
    have hF112 := zOn_tr hF hF107 zi_id
    rw [hE111] at z110
    have b113 := zv_8_10 hI106 zc_17
    have b114 := zv_8_11 hI106 zc_17
    have e115 := hF107 34 2 rfl
    refine zt_goto (tgt := 180) hX dX8_readStatement_81 (by decide) ?_
    exact zt_vret hX hR dX8_readStatement_180 ⟨hI106, hF112, hT108, hE111.trans (by unfold yStm; rw [if_neg (by omega), if_neg (by omega), if_neg (by omega), if_pos (by omega)]), (fun o => ((fun o => z110 (by rw [hE111] at o; exact o)) o).trans (by unfold yStmP; rw [if_neg (by omega), if_neg (by omega), if_pos (by omega)]))⟩
  · refine zt_tsIn (v := 9) (tgt := 84) hX dX8_readStatement_7 c10 (by decide) (by decide) (by decide) rfl (by decide) ?_
    refine zt_aload_n (pc' := 85) hX dX8_readStatement_84 rfl rfl ?_
    refine zt_get (pc' := 88) (v := .ref (X.1.1 + 27)) hX dX8_readStatement_85 rfl zf_X8_9 (by decide) zc_34 zs_21 (zrf_of (zv_21_0 hI zc_34)) ?_
    refine zt_cVv (pc' := 91) hX dX8_readStatement_88 rfl zm_yX5_step zw_19_21 zc_27 (by decide) zs_14 (q := (RX5, TX5, 9)) rfl rfl (yc_X5_step _ _ σ hI f hT) rfl rfl (Nat.le_of_ble_eq_true rfl) (by decide) (fun r117 s118 hr119 hp120 => ?_)
    obtain ⟨hI121, hF122, hT123, z124⟩ := hp120
    have hE125 : yst s118 = yPx f (yst σ) := z124
    have hF126 := zOn_tr hF hF122 zi_r117
    have b127 := zv_8_10 hI121 zc_17
    have b128 := zv_8_11 hI121 zc_17
    have e129 := hF122 34 2 rfl
    have e130 := hF122 17 10 rfl
    have e131 := hF122 17 11 rfl
    have hQ132 := (yPlc_c (K := 17) (A := 19) (B := 20) (C := 21) (hF122 17 7 rfl) (hF122 17 8 rfl) (hF122 17 10 rfl) (hF122 17 11 rfl) (hF122 17 12 rfl) (fun j => hF122 19 j rfl) (fun j => hF122 20 j rfl) (fun j => hF122 21 j rfl)).trans hQ0
    refine zt_aload_n (pc' := 92) hX dX8_readStatement_91 rfl rfl ?_
    have ek133 : s118 34 2 = ((17 : Nat) : Int) := by omega
    refine zt_get (pc' := 95) (v := .ref (X.1.1 + 17)) hX dX8_readStatement_92 rfl zf_X8_19 (by decide) zc_34 zs_21 (zrf_of ek133) ?_
    refine zt_aload_n (pc' := 96) hX dX8_readStatement_95 rfl rfl ?_
    refine zt_get (pc' := 99) (v := .ref (X.1.1 + 27)) hX dX8_readStatement_96 rfl zf_X8_9 (by decide) zc_34 zs_21 (zrf_of (zv_21_0 hI121 zc_34)) ?_
    refine zt_iconst (pc' := 100) hX dX8_readStatement_99 rfl ?_
    refine zt_bipush (pc' := 102) hX dX8_readStatement_100 rfl (by decide) (by decide) ?_
    refine zt_cVi (pc' := 105) hX dX8_readStatement_102 rfl zm_yX5_takeNumber zw_18_18 zc_27 (by decide) zs_14 (q := (RX5, TX5, 9)) rfl rfl (yc_X5_takeNumber _ _ s118 hI121 0 ⟨by omega, by omega⟩ 99 ⟨by omega, by omega⟩ f hT123) rfl rfl (Nat.le_of_ble_eq_true rfl) (by decide) (fun r134 s135 hr136 hp137 => ?_)
    obtain ⟨hI138, hF139, q140, q141, hT142, z143, z144, z145⟩ := hp137
    have hE146 : yst s135 = yPn f 0 99 (yPx f (yst σ)) := by rw [z143, hE125]
    rw [hE125] at z144
    have hF147 := zOn_tr hF126 hF139 zi_r117
    rw [hE146] at z144
    have b148 := zv_8_10 hI138 zc_17
    have b149 := zv_8_11 hI138 zc_17
    have e150 := hF139 34 2 rfl
    have e151 := hF139 17 10 rfl
    have e152 := hF139 17 11 rfl
    have hQ153 := (yPlc_c (K := 17) (A := 19) (B := 20) (C := 21) (hF139 17 7 rfl) (hF139 17 8 rfl) (hF139 17 10 rfl) (hF139 17 11 rfl) (hF139 17 12 rfl) (fun j => hF139 19 j rfl) (fun j => hF139 20 j rfl) (fun j => hF139 21 j rfl)).trans hQ132
    refine zt_put (pc' := 108) (x := r134) hX dX8_readStatement_105 rfl zf_X8_88 (by decide) zc_17 zs_8 (fun q hq => by cases hq; rfl) rfl rfl rfl ?_
    generalize hs155 : zset s135 17 14 r134 = s154
    have hI156 : zInv s154 := hs155 ▸ zp_8_14 hI138 zc_17 ⟨by omega, by omega⟩
    have hF157 : zOn zR17 σ s154 := hs155 ▸ zOn_set hF147 rfl
    have hT158 := yTk_rk hT142 (yRk_set hs155 zc_17 (by decide))
    have hE159 : yst s154 = yPn f 0 99 (yPx f (yst σ)) := (yst_rk (yRk_set hs155 zc_17 (by decide))).trans hE146
    have hQ160 := (yPlc_pj (A := 19) (B := 20) (C := 21) hs155 (by decide) (by decide)).trans hQ153
    have e161 : s154 34 2 = s135 34 2 := by rw [← hs155]; exact zset_k (zne_r zc_34 zc_17 (by decide))
    have e162 : s154 17 10 = s135 17 10 := by rw [← hs155]; exact zset_j (by decide)
    have e163 : s154 17 11 = s135 17 11 := by rw [← hs155]; exact zset_j (by decide)
    refine zt_goto (tgt := 180) hX dX8_readStatement_108 (by decide) ?_
    exact zt_vret hX hR dX8_readStatement_180 ⟨hI156, hF157, hT158, hE159.trans (by unfold yStm; rw [if_neg (by omega), if_neg (by omega), if_neg (by omega), if_neg (by omega), if_pos (by omega)]), (fun _ => hQ160.trans (by unfold yStmP; rw [if_neg (by omega), if_neg (by omega), if_neg (by omega)]))⟩
  · refine zt_tsIn (v := 10) (tgt := 111) hX dX8_readStatement_7 c10 (by decide) (by decide) (by decide) rfl (by decide) ?_
    refine zt_aload_n (pc' := 112) hX dX8_readStatement_111 rfl rfl ?_
    refine zt_get (pc' := 115) (v := .ref (X.1.1 + 27)) hX dX8_readStatement_112 rfl zf_X8_9 (by decide) zc_34 zs_21 (zrf_of (zv_21_0 hI zc_34)) ?_
    refine zt_cVv (pc' := 118) hX dX8_readStatement_115 rfl zm_yX5_step zw_19_21 zc_27 (by decide) zs_14 (q := (RX5, TX5, 9)) rfl rfl (yc_X5_step _ _ σ hI f hT) rfl rfl (Nat.le_of_ble_eq_true rfl) (by decide) (fun r164 s165 hr166 hp167 => ?_)
    obtain ⟨hI168, hF169, hT170, z171⟩ := hp167
    have hE172 : yst s165 = yPx f (yst σ) := z171
    have hF173 := zOn_tr hF hF169 zi_r117
    have b174 := zv_8_10 hI168 zc_17
    have b175 := zv_8_11 hI168 zc_17
    have e176 := hF169 34 2 rfl
    have e177 := hF169 17 10 rfl
    have e178 := hF169 17 11 rfl
    have hQ179 := (yPlc_c (K := 17) (A := 19) (B := 20) (C := 21) (hF169 17 7 rfl) (hF169 17 8 rfl) (hF169 17 10 rfl) (hF169 17 11 rfl) (hF169 17 12 rfl) (fun j => hF169 19 j rfl) (fun j => hF169 20 j rfl) (fun j => hF169 21 j rfl)).trans hQ0
    refine zt_aload_n (pc' := 119) hX dX8_readStatement_118 rfl rfl ?_
    have ek180 : s165 34 2 = ((17 : Nat) : Int) := by omega
    refine zt_get (pc' := 122) (v := .ref (X.1.1 + 17)) hX dX8_readStatement_119 rfl zf_X8_19 (by decide) zc_34 zs_21 (zrf_of ek180) ?_
    refine zt_aload_n (pc' := 123) hX dX8_readStatement_122 rfl rfl ?_
    refine zt_get (pc' := 126) (v := .ref (X.1.1 + 27)) hX dX8_readStatement_123 rfl zf_X8_9 (by decide) zc_34 zs_21 (zrf_of (zv_21_0 hI168 zc_34)) ?_
    refine zt_iconst (pc' := 127) hX dX8_readStatement_126 rfl ?_
    refine zt_bipush (pc' := 129) hX dX8_readStatement_127 rfl (by decide) (by decide) ?_
    refine zt_cVi (pc' := 132) hX dX8_readStatement_129 rfl zm_yX5_takeNumber zw_18_18 zc_27 (by decide) zs_14 (q := (RX5, TX5, 9)) rfl rfl (yc_X5_takeNumber _ _ s165 hI168 0 ⟨by omega, by omega⟩ 99 ⟨by omega, by omega⟩ f hT170) rfl rfl (Nat.le_of_ble_eq_true rfl) (by decide) (fun r181 s182 hr183 hp184 => ?_)
    obtain ⟨hI185, hF186, q187, q188, hT189, z190, z191, z192⟩ := hp184
    have hE193 : yst s182 = yPn f 0 99 (yPx f (yst σ)) := by rw [z190, hE172]
    rw [hE172] at z191
    have hF194 := zOn_tr hF173 hF186 zi_r117
    rw [hE193] at z191
    have b195 := zv_8_10 hI185 zc_17
    have b196 := zv_8_11 hI185 zc_17
    have e197 := hF186 34 2 rfl
    have e198 := hF186 17 10 rfl
    have e199 := hF186 17 11 rfl
    have hQ200 := (yPlc_c (K := 17) (A := 19) (B := 20) (C := 21) (hF186 17 7 rfl) (hF186 17 8 rfl) (hF186 17 10 rfl) (hF186 17 11 rfl) (hF186 17 12 rfl) (fun j => hF186 19 j rfl) (fun j => hF186 20 j rfl) (fun j => hF186 21 j rfl)).trans hQ179
    refine zt_put (pc' := 135) (x := r181) hX dX8_readStatement_132 rfl zf_X8_91 (by decide) zc_17 zs_8 (fun q hq => by cases hq; rfl) rfl rfl rfl ?_
    generalize hs202 : zset s182 17 15 r181 = s201
    have hI203 : zInv s201 := hs202 ▸ zp_8_15 hI185 zc_17 ⟨by omega, by omega⟩
    have hF204 : zOn zR17 σ s201 := hs202 ▸ zOn_set hF194 rfl
    have hT205 := yTk_rk hT189 (yRk_set hs202 zc_17 (by decide))
    have hE206 : yst s201 = yPn f 0 99 (yPx f (yst σ)) := (yst_rk (yRk_set hs202 zc_17 (by decide))).trans hE193
    have hQ207 := (yPlc_pj (A := 19) (B := 20) (C := 21) hs202 (by decide) (by decide)).trans hQ200
    have e208 : s201 34 2 = s182 34 2 := by rw [← hs202]; exact zset_k (zne_r zc_34 zc_17 (by decide))
    have e209 : s201 17 10 = s182 17 10 := by rw [← hs202]; exact zset_j (by decide)
    have e210 : s201 17 11 = s182 17 11 := by rw [← hs202]; exact zset_j (by decide)
    refine zt_goto (tgt := 180) hX dX8_readStatement_135 (by decide) ?_
    exact zt_vret hX hR dX8_readStatement_180 ⟨hI203, hF204, hT205, hE206.trans (by unfold yStm; rw [if_neg (by omega), if_neg (by omega), if_neg (by omega), if_neg (by omega), if_neg (by omega), if_pos (by omega)]), (fun _ => hQ207.trans (by unfold yStmP; rw [if_neg (by omega), if_neg (by omega), if_neg (by omega)]))⟩
  · refine zt_tsIn (v := 11) (tgt := 138) hX dX8_readStatement_7 c10 (by decide) (by decide) (by decide) rfl (by decide) ?_
    refine zt_aload_n (pc' := 139) hX dX8_readStatement_138 rfl rfl ?_
    refine zt_get (pc' := 142) (v := .ref (X.1.1 + 27)) hX dX8_readStatement_139 rfl zf_X8_9 (by decide) zc_34 zs_21 (zrf_of (zv_21_0 hI zc_34)) ?_
    refine zt_cVv (pc' := 145) hX dX8_readStatement_142 rfl zm_yX5_step zw_19_21 zc_27 (by decide) zs_14 (q := (RX5, TX5, 9)) rfl rfl (yc_X5_step _ _ σ hI f hT) rfl rfl (Nat.le_of_ble_eq_true rfl) (by decide) (fun r211 s212 hr213 hp214 => ?_)
    obtain ⟨hI215, hF216, hT217, z218⟩ := hp214
    have hE219 : yst s212 = yPx f (yst σ) := z218
    have hF220 := zOn_tr hF hF216 zi_r117
    have b221 := zv_8_10 hI215 zc_17
    have b222 := zv_8_11 hI215 zc_17
    have e223 := hF216 34 2 rfl
    have e224 := hF216 17 10 rfl
    have e225 := hF216 17 11 rfl
    have hQ226 := (yPlc_c (K := 17) (A := 19) (B := 20) (C := 21) (hF216 17 7 rfl) (hF216 17 8 rfl) (hF216 17 10 rfl) (hF216 17 11 rfl) (hF216 17 12 rfl) (fun j => hF216 19 j rfl) (fun j => hF216 20 j rfl) (fun j => hF216 21 j rfl)).trans hQ0
    refine zt_aload_n (pc' := 146) hX dX8_readStatement_145 rfl rfl ?_
    have ek227 : s212 34 2 = ((17 : Nat) : Int) := by omega
    refine zt_get (pc' := 149) (v := .ref (X.1.1 + 17)) hX dX8_readStatement_146 rfl zf_X8_19 (by decide) zc_34 zs_21 (zrf_of ek227) ?_
    refine zt_aload_n (pc' := 150) hX dX8_readStatement_149 rfl rfl ?_
    refine zt_get (pc' := 153) (v := .ref (X.1.1 + 27)) hX dX8_readStatement_150 rfl zf_X8_9 (by decide) zc_34 zs_21 (zrf_of (zv_21_0 hI215 zc_34)) ?_
    refine zt_iconst (pc' := 154) hX dX8_readStatement_153 rfl ?_
    refine zt_bipush (pc' := 156) hX dX8_readStatement_154 rfl (by decide) (by decide) ?_
    refine zt_cVi (pc' := 159) hX dX8_readStatement_156 rfl zm_yX5_takeNumber zw_18_18 zc_27 (by decide) zs_14 (q := (RX5, TX5, 9)) rfl rfl (yc_X5_takeNumber _ _ s212 hI215 0 ⟨by omega, by omega⟩ 100 ⟨by omega, by omega⟩ f hT217) rfl rfl (Nat.le_of_ble_eq_true rfl) (by decide) (fun r228 s229 hr230 hp231 => ?_)
    obtain ⟨hI232, hF233, q234, q235, hT236, z237, z238, z239⟩ := hp231
    have hE240 : yst s229 = yPn f 0 100 (yPx f (yst σ)) := by rw [z237, hE219]
    rw [hE219] at z238
    have hF241 := zOn_tr hF220 hF233 zi_r117
    rw [hE240] at z238
    have b242 := zv_8_10 hI232 zc_17
    have b243 := zv_8_11 hI232 zc_17
    have e244 := hF233 34 2 rfl
    have e245 := hF233 17 10 rfl
    have e246 := hF233 17 11 rfl
    have hQ247 := (yPlc_c (K := 17) (A := 19) (B := 20) (C := 21) (hF233 17 7 rfl) (hF233 17 8 rfl) (hF233 17 10 rfl) (hF233 17 11 rfl) (hF233 17 12 rfl) (fun j => hF233 19 j rfl) (fun j => hF233 20 j rfl) (fun j => hF233 21 j rfl)).trans hQ226
    refine zt_put (pc' := 162) (x := r228) hX dX8_readStatement_159 rfl zf_X8_94 (by decide) zc_17 zs_8 (fun q hq => by cases hq; rfl) rfl rfl rfl ?_
    generalize hs249 : zset s229 17 16 r228 = s248
    have hI250 : zInv s248 := hs249 ▸ zp_8_16 hI232 zc_17 ⟨by omega, by omega⟩
    have hF251 : zOn zR17 σ s248 := hs249 ▸ zOn_set hF241 rfl
    have hT252 := yTk_rk hT236 (yRk_set hs249 zc_17 (by decide))
    have hE253 : yst s248 = yPn f 0 100 (yPx f (yst σ)) := (yst_rk (yRk_set hs249 zc_17 (by decide))).trans hE240
    have hQ254 := (yPlc_pj (A := 19) (B := 20) (C := 21) hs249 (by decide) (by decide)).trans hQ247
    have e255 : s248 34 2 = s229 34 2 := by rw [← hs249]; exact zset_k (zne_r zc_34 zc_17 (by decide))
    have e256 : s248 17 10 = s229 17 10 := by rw [← hs249]; exact zset_j (by decide)
    have e257 : s248 17 11 = s229 17 11 := by rw [← hs249]; exact zset_j (by decide)
    refine zt_goto (tgt := 180) hX dX8_readStatement_162 (by decide) ?_
    exact zt_vret hX hR dX8_readStatement_180 ⟨hI250, hF251, hT252, hE253.trans (by unfold yStm; rw [if_neg (by omega), if_neg (by omega), if_neg (by omega), if_neg (by omega), if_neg (by omega), if_neg (by omega), if_pos (by omega)]), (fun _ => hQ254.trans (by unfold yStmP; rw [if_neg (by omega), if_neg (by omega), if_neg (by omega)]))⟩
  · refine zt_tsOut (tgt := 165) hX dX8_readStatement_7 ⟨by omega, by omega⟩ c10 (by decide) ?_
    refine zt_aload_n (pc' := 166) hX dX8_readStatement_165 rfl rfl ?_
    refine zt_get (pc' := 169) (v := .ref (X.1.1 + 27)) hX dX8_readStatement_166 rfl zf_X8_9 (by decide) zc_34 zs_21 (zrf_of (zv_21_0 hI zc_34)) ?_
    refine zt_iconst (pc' := 170) hX dX8_readStatement_169 rfl ?_
    refine zt_aload_n (pc' := 171) hX dX8_readStatement_170 rfl rfl ?_
    refine zt_get (pc' := 174) (v := .ref (X.1.1 + 27)) hX dX8_readStatement_171 rfl zf_X8_9 (by decide) zc_34 zs_21 (zrf_of (zv_21_0 hI zc_34)) ?_
    refine zt_cVi (pc' := 177) hX dX8_readStatement_174 rfl zm_yX5_placeHere zw_20_7 zc_27 (by decide) zs_14 (q := (RX5, TX5, 9)) rfl rfl (yc_X5_placeHere _ _ σ hI f hT) rfl rfl (Nat.le_of_ble_eq_true rfl) (by decide) (fun r258 s259 hr260 hp261 => ?_)
    obtain ⟨rfl, q262, q263, z264⟩ := hp261
    refine zt_cVv (pc' := 180) hX dX8_readStatement_177 rfl zm_yX5_refuse zw_20_11 zc_27 (by decide) zs_14 (q := (RX5, TX5, 9)) rfl rfl (yc_X5_refuse _ _ σ hI 1 ⟨by omega, by omega⟩ r258 ⟨by omega, by omega⟩ (by omega) f hT) rfl rfl (Nat.le_of_ble_eq_true rfl) (by decide) (fun r265 s266 hr267 hp268 => ?_)
    obtain ⟨hI269, hF270, hT271, z272⟩ := hp268
    have hE273 : yst s266 = yPno 1 r258 (yst σ) := z272
    have hF274 := zOn_tr hF hF270 zi_r117
    have b275 := zv_8_10 hI269 zc_17
    have b276 := zv_8_11 hI269 zc_17
    have e277 := hF270 34 2 rfl
    have e278 := hF270 17 10 rfl
    have e279 := hF270 17 11 rfl
    have hQ280 := (yPlc_c (K := 17) (A := 19) (B := 20) (C := 21) (hF270 17 7 rfl) (hF270 17 8 rfl) (hF270 17 10 rfl) (hF270 17 11 rfl) (hF270 17 12 rfl) (fun j => hF270 19 j rfl) (fun j => hF270 20 j rfl) (fun j => hF270 21 j rfl)).trans hQ0
    exact zt_vret hX hR dX8_readStatement_180 ⟨hI269, hF274, hT271, hE273.trans (by unfold yStm; rw [if_neg (by omega), if_neg (by omega), if_neg (by omega), if_neg (by omega), if_neg (by omega), if_neg (by omega), if_neg (by omega)]; exact yPno_f (fun o => by omega)), fun o => by rw [hE273, yPo_no] at o; exact absurd o (by decide)⟩
set_option maxRecDepth 100000 in
set_option maxHeartbeats 4000000 in
theorem yc_X8_readInto_17 (l : Launch) (E : zEN) (σ : zSto) (hI : zInv σ) (hW : yTab σ) : zCt l E yX8_readInto cX8_readInto 4 (some .int) 37 zNC zNC 0 0 σ [.ref (E.1 + 34), .ref (E.1 + 17), .ref (E.1 + 1)] (fun r σ' => zInv σ' ∧ zOn zRt17 σ σ' ∧ 0 ≤ r ∧ r ≤ 80 ∧ (yTk (yT σ) σ') ∧ (yst σ' = (yAll (yT σ)).1) ∧ (yPo (yst σ') = 1 → yPlc σ' 17 19 20 21 = (yAll (yT σ)).2.1 ∧ r = (yAll (yT σ)).2.2)) := by
  refine zCt_of2 [some (.ref (E.1 + 34)), some (.ref (E.1 + 17)), some (.ref (E.1 + 1)), none] (by decide +kernel) (Nat.le_of_ble_eq_true rfl) rfl ?_
  intro X hE_ hX hR hL hN
  subst hE_
  have hX : zok X cX8_readInto RX8 37 := hX
  have hF := zOn_rf zRt17 σ
  have hQ0 : yPlc σ 17 19 20 21 = yPlc σ 17 19 20 21 := rfl
  obtain ⟨f, hf⟩ : ∃ f, f = yT σ := ⟨_, rfl⟩
  refine zt_aload_n (pc' := 1) hX dX8_readInto_0 rfl rfl ?_
  refine zt_aload_n (pc' := 2) hX dX8_readInto_1 rfl rfl ?_
  refine zt_put (pc' := 5) (x := ((17 : Nat) : Int)) hX dX8_readInto_2 rfl zf_X8_19 (by decide) zc_34 zs_21 (fun q hq => by cases hq; rfl) (zrf_of rfl) rfl rfl ?_
  generalize hs2 : zset σ 34 2 ((17 : Nat) : Int) = s1
  have hI3 : zInv s1 := hs2 ▸ zp_21_2 hI zc_34 ⟨17, rfl, zc_17⟩
  have hF4 : zOn zRt17 σ s1 := hs2 ▸ zOn_set hF rfl
  have hQ5 := (yPlc_pk (K := 17) (A := 19) (B := 20) (C := 21) hs2 (by decide)).trans hQ0
  have e6 : s1 34 2 = ((17 : Nat) : Int) := by rw [← hs2]; exact zset_s
  have ek7 : s1 34 2 = ((17 : Nat) : Int) := by rw [← hs2]; exact zset_s
  refine zt_aload_n (pc' := 6) hX dX8_readInto_5 rfl rfl ?_
  refine zt_cVv (pc' := 9) hX dX8_readInto_6 rfl zm_yX3_clear zw_15_18 zc_17 (by decide) zs_8 (q := (RX3, TX3, 17)) rfl rfl (yc_X3_clear_17 _ _ s1 hI3 ) rfl rfl (Nat.le_of_ble_eq_true rfl) (by decide) (fun r8 s9 hr10 hp11 => ?_)
  obtain ⟨hI12, hF13, z14⟩ := hp11
  have hF15 := zOn_tr hF4 hF13 (fun k j h => zi_17t k j (zi_q17 k j h))
  have e16 := hF13 34 2 rfl
  refine zt_aload_n (pc' := 10) hX dX8_readInto_9 rfl rfl ?_
  refine zt_get (pc' := 13) (v := .ref (X.1.1 + 27)) hX dX8_readInto_10 rfl zf_X8_9 (by decide) zc_34 zs_21 (zrf_of (zv_21_0 hI12 zc_34)) ?_
  refine zt_aload_n (pc' := 14) hX dX8_readInto_13 rfl rfl ?_
  refine zt_cVv (pc' := 17) hX dX8_readInto_14 rfl zm_yX5_open zw_16_10 zc_27 (by decide) zs_14 (q := (RX5, TX5, 9)) rfl rfl (yc_X5_open _ _ s9 hI12 (fun i hi => (hF15 28 i rfl).trans (hW i hi))) rfl rfl (Nat.le_of_ble_eq_true rfl) (by decide) (fun r18 s19 hr20 hp21 => ?_)
  obtain ⟨hI22, hF23, z24, z25⟩ := hp21
  have hF26 := zOn_tr hF15 hF23 zi_0t17
  have e27 := hF23 34 2 rfl
  have hQ28 := (yPlc_c (K := 17) (A := 19) (B := 20) (C := 21) (hF23 17 7 rfl) (hF23 17 8 rfl) (hF23 17 10 rfl) (hF23 17 11 rfl) (hF23 17 12 rfl) (fun j => hF23 19 j rfl) (fun j => hF23 20 j rfl) (fun j => hF23 21 j rfl)).trans z14
  have hy29 : yT s9 = f := (yT_eq (hF15 1 1 rfl) (fun j => hF15 2 j rfl)).trans hf.symm
  rw [hy29] at z24 z25
  refine zt_iconst (pc' := 18) hX dX8_readInto_17 rfl ?_
  refine zt_istore_n (pc' := 19) (lv' := [some (.ref (X.1.1 + 34)), some (.ref (X.1.1 + 17)), some (.ref (X.1.1 + 1)), some (.int (zI 0))]) hX dX8_readInto_18 rfl hL (by decide) rfl ?_
  have L_19_40 : ∀ (N : Nat) (x30 : Int) (s33 : zSto) (p36 : yP), 0 ≤ x30 → x30 ≤ 80 → zInv s33 → zOn zRt17 σ s33 → yTk f s33 → yst s33 = p36 → s33 34 2 = 17 → yLop f (80 - x30).toNat x30 p36 (yPlc s33 17 19 20 21) = yLop f 80 0 (.ok (yS f 0)) yPl0 → ((81 - x30).toNat) < N → zF X s33 19 [some (.ref (X.1.1 + 34)), none, none, some (.int (zI x30))] [] := by
    intro N
    induction N with
    | zero =>
      intro x30 s33 p36 h31 h32 hI34 hF35 hT37 hE38 g39 g40 hm42
      exact absurd hm42 (Nat.not_lt_zero _)
    | succ N ih43 =>
      intro x30 s33 p36 h31 h32 hI34 hF35 hT37 hE38 g39 g40 hm42
      refine zt_iload_n (pc' := 20) hX dX8_readInto_19 rfl rfl ?_
      refine zt_bipush (pc' := 22) hX dX8_readInto_20 rfl (by decide) (by decide) ?_
      refine zt_icge (pc' := 25) (tgt := 65) hX dX8_readInto_22 rfl (by decide) ⟨by omega, by omega⟩ ⟨by omega, by omega⟩ (fun c44 => ?_) (fun c44 => ?_)
      · refine zt_iload_n (pc' := 66) hX dX8_readInto_65 rfl rfl ?_
        refine zt_ifne (pc' := 69) (tgt := 84) hX dX8_readInto_66 rfl (by decide) ⟨by omega, by omega⟩ (fun c45 => ?_) (fun c45 => ?_)
        · refine zt_aload_n (pc' := 85) hX dX8_readInto_84 rfl rfl ?_
          refine zt_get (pc' := 88) (v := .ref (X.1.1 + 27)) hX dX8_readInto_85 rfl zf_X8_9 (by decide) zc_34 zs_21 (zrf_of (zv_21_0 hI34 zc_34)) ?_
          refine zt_cVz (pc' := 91) hX dX8_readInto_88 rfl zm_yX5_hasMore zw_17_17 zc_27 (by decide) zs_14 (q := (RX5, TX5, 9)) rfl rfl (yc_X5_hasMore _ _ s33 hI34 f hT37) rfl rfl (Nat.le_of_ble_eq_true rfl) (by decide) (fun r46 s47 hr48 hp49 => ?_)
          obtain ⟨rfl, q50, q51, z52⟩ := hp49
          rw [hE38] at z52
          refine zt_ifeq (pc' := 94) (tgt := 109) hX dX8_readInto_91 rfl (by decide) ⟨by omega, by omega⟩ (fun c53 => ?_) (fun c53 => ?_)
          · refine zt_iload_n (pc' := 110) hX dX8_readInto_109 rfl rfl ?_
            have hfin := yAll_1 g40 (fun m => by omega) (by omega)
            exact zt_iret hX hR dX8_readInto_110 ⟨by omega, by omega⟩ ⟨hI34, hF35, by omega, by omega, (by rw [← hf]; exact hT37), (by rw [← hf, hfin.1]; exact hE38), (fun o => by rw [hE38] at o; rw [← hf]; exact hfin.2 o)⟩
          · refine zt_aload_n (pc' := 95) hX dX8_readInto_94 rfl rfl ?_
            refine zt_get (pc' := 98) (v := .ref (X.1.1 + 27)) hX dX8_readInto_95 rfl zf_X8_9 (by decide) zc_34 zs_21 (zrf_of (zv_21_0 hI34 zc_34)) ?_
            refine zt_iconst (pc' := 99) hX dX8_readInto_98 rfl ?_
            refine zt_aload_n (pc' := 100) hX dX8_readInto_99 rfl rfl ?_
            refine zt_get (pc' := 103) (v := .ref (X.1.1 + 27)) hX dX8_readInto_100 rfl zf_X8_9 (by decide) zc_34 zs_21 (zrf_of (zv_21_0 hI34 zc_34)) ?_
            refine zt_cVi (pc' := 106) hX dX8_readInto_103 rfl zm_yX5_placeHere zw_20_7 zc_27 (by decide) zs_14 (q := (RX5, TX5, 9)) rfl rfl (yc_X5_placeHere _ _ s33 hI34 f hT37) rfl rfl (Nat.le_of_ble_eq_true rfl) (by decide) (fun r54 s55 hr56 hp57 => ?_)
            obtain ⟨rfl, q58, q59, z60⟩ := hp57
            rw [hE38] at z60
            refine zt_cVv (pc' := 109) hX dX8_readInto_106 rfl zm_yX5_refuse zw_20_11 zc_27 (by decide) zs_14 (q := (RX5, TX5, 9)) rfl rfl (yc_X5_refuse _ _ s33 hI34 5 ⟨by omega, by omega⟩ r54 ⟨by omega, by omega⟩ (by omega) f hT37) rfl rfl (Nat.le_of_ble_eq_true rfl) (by decide) (fun r61 s62 hr63 hp64 => ?_)
            obtain ⟨hI65, hF66, hT67, z68⟩ := hp64
            have hE69 : yst s62 = yPno 5 r54 p36 := by rw [z68, hE38]
            have hF70 := zOn_tr hF35 hF66 (fun k j h => zi_17t k j (zi_r117 k j h))
            have e71 := hF66 34 2 rfl
            have hQ72 := (yPlc_c (K := 17) (A := 19) (B := 20) (C := 21) (hF66 17 7 rfl) (hF66 17 8 rfl) (hF66 17 10 rfl) (hF66 17 11 rfl) (hF66 17 12 rfl) (fun j => hF66 19 j rfl) (fun j => hF66 20 j rfl) (fun j => hF66 21 j rfl)).trans rfl
            have w73 : yPo (yPno 5 r54 p36) = 0 := yPo_no
            refine zt_iload_n (pc' := 110) hX dX8_readInto_109 rfl rfl ?_
            exact zt_iret hX hR dX8_readInto_110 ⟨by omega, by omega⟩ ⟨hI65, hF70, by omega, by omega, (by rw [← hf]; exact hT67), hE69.trans (by rw [← hf, yAll_m g40 (by have h := z52; constructor <;> omega) (by omega)]; exact yPno_f (fun o => by omega)), (fun o => by rw [hE69, yPo_no] at o; exact absurd o (by decide))⟩
        · refine zt_aload_n (pc' := 70) hX dX8_readInto_69 rfl rfl ?_
          refine zt_get (pc' := 73) (v := .ref (X.1.1 + 27)) hX dX8_readInto_70 rfl zf_X8_9 (by decide) zc_34 zs_21 (zrf_of (zv_21_0 hI34 zc_34)) ?_
          refine zt_iconst (pc' := 74) hX dX8_readInto_73 rfl ?_
          refine zt_aload_n (pc' := 75) hX dX8_readInto_74 rfl rfl ?_
          refine zt_get (pc' := 78) (v := .ref (X.1.1 + 27)) hX dX8_readInto_75 rfl zf_X8_9 (by decide) zc_34 zs_21 (zrf_of (zv_21_0 hI34 zc_34)) ?_
          refine zt_cVi (pc' := 81) hX dX8_readInto_78 rfl zm_yX5_placeHere zw_20_7 zc_27 (by decide) zs_14 (q := (RX5, TX5, 9)) rfl rfl (yc_X5_placeHere _ _ s33 hI34 f hT37) rfl rfl (Nat.le_of_ble_eq_true rfl) (by decide) (fun r74 s75 hr76 hp77 => ?_)
          obtain ⟨rfl, q78, q79, z80⟩ := hp77
          rw [hE38] at z80
          refine zt_cVv (pc' := 84) hX dX8_readInto_81 rfl zm_yX5_refuse zw_20_11 zc_27 (by decide) zs_14 (q := (RX5, TX5, 9)) rfl rfl (yc_X5_refuse _ _ s33 hI34 1 ⟨by omega, by omega⟩ r74 ⟨by omega, by omega⟩ (by omega) f hT37) rfl rfl (Nat.le_of_ble_eq_true rfl) (by decide) (fun r81 s82 hr83 hp84 => ?_)
          obtain ⟨hI85, hF86, hT87, z88⟩ := hp84
          have hE89 : yst s82 = yPno 1 r74 p36 := by rw [z88, hE38]
          have hF90 := zOn_tr hF35 hF86 (fun k j h => zi_17t k j (zi_r117 k j h))
          have e91 := hF86 34 2 rfl
          have hQ92 := (yPlc_c (K := 17) (A := 19) (B := 20) (C := 21) (hF86 17 7 rfl) (hF86 17 8 rfl) (hF86 17 10 rfl) (hF86 17 11 rfl) (hF86 17 12 rfl) (fun j => hF86 19 j rfl) (fun j => hF86 20 j rfl) (fun j => hF86 21 j rfl)).trans rfl
          have w93 : yPo (yPno 1 r74 p36) = 0 := yPo_no
          refine zt_aload_n (pc' := 85) hX dX8_readInto_84 rfl rfl ?_
          refine zt_get (pc' := 88) (v := .ref (X.1.1 + 27)) hX dX8_readInto_85 rfl zf_X8_9 (by decide) zc_34 zs_21 (zrf_of (zv_21_0 hI85 zc_34)) ?_
          refine zt_cVz (pc' := 91) hX dX8_readInto_88 rfl zm_yX5_hasMore zw_17_17 zc_27 (by decide) zs_14 (q := (RX5, TX5, 9)) rfl rfl (yc_X5_hasMore _ _ s82 hI85 f hT87) rfl rfl (Nat.le_of_ble_eq_true rfl) (by decide) (fun r94 s95 hr96 hp97 => ?_)
          obtain ⟨rfl, q98, q99, z100⟩ := hp97
          rw [hE89] at z100
          refine zt_ifeq (pc' := 94) (tgt := 109) hX dX8_readInto_91 rfl (by decide) ⟨by omega, by omega⟩ (fun c101 => ?_) (fun c101 => ?_)
          · refine zt_iload_n (pc' := 110) hX dX8_readInto_109 rfl rfl ?_
            exact zt_iret hX hR dX8_readInto_110 ⟨by omega, by omega⟩ ⟨hI85, hF90, by omega, by omega, (by rw [← hf]; exact hT87), hE89.trans (by rw [← hf, yAll_z g40 (fun m => by omega) (by omega)]; exact yPno_f (fun o => by omega)), (fun o => by rw [hE89, yPo_no] at o; exact absurd o (by decide))⟩
          · refine zt_aload_n (pc' := 95) hX dX8_readInto_94 rfl rfl ?_
            refine zt_get (pc' := 98) (v := .ref (X.1.1 + 27)) hX dX8_readInto_95 rfl zf_X8_9 (by decide) zc_34 zs_21 (zrf_of (zv_21_0 hI85 zc_34)) ?_
            refine zt_iconst (pc' := 99) hX dX8_readInto_98 rfl ?_
            refine zt_aload_n (pc' := 100) hX dX8_readInto_99 rfl rfl ?_
            refine zt_get (pc' := 103) (v := .ref (X.1.1 + 27)) hX dX8_readInto_100 rfl zf_X8_9 (by decide) zc_34 zs_21 (zrf_of (zv_21_0 hI85 zc_34)) ?_
            refine zt_cVi (pc' := 106) hX dX8_readInto_103 rfl zm_yX5_placeHere zw_20_7 zc_27 (by decide) zs_14 (q := (RX5, TX5, 9)) rfl rfl (yc_X5_placeHere _ _ s82 hI85 f hT87) rfl rfl (Nat.le_of_ble_eq_true rfl) (by decide) (fun r102 s103 hr104 hp105 => ?_)
            obtain ⟨rfl, q106, q107, z108⟩ := hp105
            rw [hE89] at z108
            refine zt_cVv (pc' := 109) hX dX8_readInto_106 rfl zm_yX5_refuse zw_20_11 zc_27 (by decide) zs_14 (q := (RX5, TX5, 9)) rfl rfl (yc_X5_refuse _ _ s82 hI85 5 ⟨by omega, by omega⟩ r102 ⟨by omega, by omega⟩ (by omega) f hT87) rfl rfl (Nat.le_of_ble_eq_true rfl) (by decide) (fun r109 s110 hr111 hp112 => ?_)
            obtain ⟨hI113, hF114, hT115, z116⟩ := hp112
            have hE117 : yst s110 = yPno 5 r102 (yPno 1 r74 p36) := by rw [z116, hE89]
            have hF118 := zOn_tr hF90 hF114 (fun k j h => zi_17t k j (zi_r117 k j h))
            have e119 := hF114 34 2 rfl
            have hQ120 := (yPlc_c (K := 17) (A := 19) (B := 20) (C := 21) (hF114 17 7 rfl) (hF114 17 8 rfl) (hF114 17 10 rfl) (hF114 17 11 rfl) (hF114 17 12 rfl) (fun j => hF114 19 j rfl) (fun j => hF114 20 j rfl) (fun j => hF114 21 j rfl)).trans hQ92
            have w121 : yPo (yPno 5 r102 (yPno 1 r74 p36)) = 0 := yPo_no
            refine zt_iload_n (pc' := 110) hX dX8_readInto_109 rfl rfl ?_
            exact zt_iret hX hR dX8_readInto_110 ⟨by omega, by omega⟩ ⟨hI113, hF118, by omega, by omega, (by exfalso; omega), (by exfalso; omega), (by exfalso; omega)⟩
      · refine zt_aload_n (pc' := 26) hX dX8_readInto_25 rfl rfl ?_
        refine zt_get (pc' := 29) (v := .ref (X.1.1 + 27)) hX dX8_readInto_26 rfl zf_X8_9 (by decide) zc_34 zs_21 (zrf_of (zv_21_0 hI34 zc_34)) ?_
        refine zt_cVz (pc' := 32) hX dX8_readInto_29 rfl zm_yX5_hasMore zw_17_17 zc_27 (by decide) zs_14 (q := (RX5, TX5, 9)) rfl rfl (yc_X5_hasMore _ _ s33 hI34 f hT37) rfl rfl (Nat.le_of_ble_eq_true rfl) (by decide) (fun r122 s123 hr124 hp125 => ?_)
        obtain ⟨rfl, q126, q127, z128⟩ := hp125
        rw [hE38] at z128
        refine zt_ifeq (pc' := 35) (tgt := 65) hX dX8_readInto_32 rfl (by decide) ⟨by omega, by omega⟩ (fun c129 => ?_) (fun c129 => ?_)
        · refine zt_iload_n (pc' := 66) hX dX8_readInto_65 rfl rfl ?_
          refine zt_ifne (pc' := 69) (tgt := 84) hX dX8_readInto_66 rfl (by decide) ⟨by omega, by omega⟩ (fun c130 => ?_) (fun c130 => ?_)
          · refine zt_aload_n (pc' := 85) hX dX8_readInto_84 rfl rfl ?_
            refine zt_get (pc' := 88) (v := .ref (X.1.1 + 27)) hX dX8_readInto_85 rfl zf_X8_9 (by decide) zc_34 zs_21 (zrf_of (zv_21_0 hI34 zc_34)) ?_
            refine zt_cVz (pc' := 91) hX dX8_readInto_88 rfl zm_yX5_hasMore zw_17_17 zc_27 (by decide) zs_14 (q := (RX5, TX5, 9)) rfl rfl (yc_X5_hasMore _ _ s33 hI34 f hT37) rfl rfl (Nat.le_of_ble_eq_true rfl) (by decide) (fun r131 s132 hr133 hp134 => ?_)
            obtain ⟨rfl, q135, q136, z137⟩ := hp134
            rw [hE38] at z137
            refine zt_ifeq (pc' := 94) (tgt := 109) hX dX8_readInto_91 rfl (by decide) ⟨by omega, by omega⟩ (fun c138 => ?_) (fun c138 => ?_)
            · refine zt_iload_n (pc' := 110) hX dX8_readInto_109 rfl rfl ?_
              have hfin := yAll_1 g40 (fun m => by omega) (by omega)
              exact zt_iret hX hR dX8_readInto_110 ⟨by omega, by omega⟩ ⟨hI34, hF35, by omega, by omega, (by rw [← hf]; exact hT37), (by rw [← hf, hfin.1]; exact hE38), (fun o => by rw [hE38] at o; rw [← hf]; exact hfin.2 o)⟩
            · refine zt_aload_n (pc' := 95) hX dX8_readInto_94 rfl rfl ?_
              refine zt_get (pc' := 98) (v := .ref (X.1.1 + 27)) hX dX8_readInto_95 rfl zf_X8_9 (by decide) zc_34 zs_21 (zrf_of (zv_21_0 hI34 zc_34)) ?_
              refine zt_iconst (pc' := 99) hX dX8_readInto_98 rfl ?_
              refine zt_aload_n (pc' := 100) hX dX8_readInto_99 rfl rfl ?_
              refine zt_get (pc' := 103) (v := .ref (X.1.1 + 27)) hX dX8_readInto_100 rfl zf_X8_9 (by decide) zc_34 zs_21 (zrf_of (zv_21_0 hI34 zc_34)) ?_
              refine zt_cVi (pc' := 106) hX dX8_readInto_103 rfl zm_yX5_placeHere zw_20_7 zc_27 (by decide) zs_14 (q := (RX5, TX5, 9)) rfl rfl (yc_X5_placeHere _ _ s33 hI34 f hT37) rfl rfl (Nat.le_of_ble_eq_true rfl) (by decide) (fun r139 s140 hr141 hp142 => ?_)
              obtain ⟨rfl, q143, q144, z145⟩ := hp142
              rw [hE38] at z145
              refine zt_cVv (pc' := 109) hX dX8_readInto_106 rfl zm_yX5_refuse zw_20_11 zc_27 (by decide) zs_14 (q := (RX5, TX5, 9)) rfl rfl (yc_X5_refuse _ _ s33 hI34 5 ⟨by omega, by omega⟩ r139 ⟨by omega, by omega⟩ (by omega) f hT37) rfl rfl (Nat.le_of_ble_eq_true rfl) (by decide) (fun r146 s147 hr148 hp149 => ?_)
              obtain ⟨hI150, hF151, hT152, z153⟩ := hp149
              have hE154 : yst s147 = yPno 5 r139 p36 := by rw [z153, hE38]
              have hF155 := zOn_tr hF35 hF151 (fun k j h => zi_17t k j (zi_r117 k j h))
              have e156 := hF151 34 2 rfl
              have hQ157 := (yPlc_c (K := 17) (A := 19) (B := 20) (C := 21) (hF151 17 7 rfl) (hF151 17 8 rfl) (hF151 17 10 rfl) (hF151 17 11 rfl) (hF151 17 12 rfl) (fun j => hF151 19 j rfl) (fun j => hF151 20 j rfl) (fun j => hF151 21 j rfl)).trans rfl
              have w158 : yPo (yPno 5 r139 p36) = 0 := yPo_no
              refine zt_iload_n (pc' := 110) hX dX8_readInto_109 rfl rfl ?_
              exact zt_iret hX hR dX8_readInto_110 ⟨by omega, by omega⟩ ⟨hI150, hF155, by omega, by omega, (by rw [← hf]; exact hT152), hE154.trans (by rw [← hf, yAll_m g40 (by have h := z137; constructor <;> omega) (by omega)]; exact yPno_f (fun o => by omega)), (fun o => by rw [hE154, yPo_no] at o; exact absurd o (by decide))⟩
          · refine zt_aload_n (pc' := 70) hX dX8_readInto_69 rfl rfl ?_
            refine zt_get (pc' := 73) (v := .ref (X.1.1 + 27)) hX dX8_readInto_70 rfl zf_X8_9 (by decide) zc_34 zs_21 (zrf_of (zv_21_0 hI34 zc_34)) ?_
            refine zt_iconst (pc' := 74) hX dX8_readInto_73 rfl ?_
            refine zt_aload_n (pc' := 75) hX dX8_readInto_74 rfl rfl ?_
            refine zt_get (pc' := 78) (v := .ref (X.1.1 + 27)) hX dX8_readInto_75 rfl zf_X8_9 (by decide) zc_34 zs_21 (zrf_of (zv_21_0 hI34 zc_34)) ?_
            refine zt_cVi (pc' := 81) hX dX8_readInto_78 rfl zm_yX5_placeHere zw_20_7 zc_27 (by decide) zs_14 (q := (RX5, TX5, 9)) rfl rfl (yc_X5_placeHere _ _ s33 hI34 f hT37) rfl rfl (Nat.le_of_ble_eq_true rfl) (by decide) (fun r159 s160 hr161 hp162 => ?_)
            obtain ⟨rfl, q163, q164, z165⟩ := hp162
            rw [hE38] at z165
            refine zt_cVv (pc' := 84) hX dX8_readInto_81 rfl zm_yX5_refuse zw_20_11 zc_27 (by decide) zs_14 (q := (RX5, TX5, 9)) rfl rfl (yc_X5_refuse _ _ s33 hI34 1 ⟨by omega, by omega⟩ r159 ⟨by omega, by omega⟩ (by omega) f hT37) rfl rfl (Nat.le_of_ble_eq_true rfl) (by decide) (fun r166 s167 hr168 hp169 => ?_)
            obtain ⟨hI170, hF171, hT172, z173⟩ := hp169
            have hE174 : yst s167 = yPno 1 r159 p36 := by rw [z173, hE38]
            have hF175 := zOn_tr hF35 hF171 (fun k j h => zi_17t k j (zi_r117 k j h))
            have e176 := hF171 34 2 rfl
            have hQ177 := (yPlc_c (K := 17) (A := 19) (B := 20) (C := 21) (hF171 17 7 rfl) (hF171 17 8 rfl) (hF171 17 10 rfl) (hF171 17 11 rfl) (hF171 17 12 rfl) (fun j => hF171 19 j rfl) (fun j => hF171 20 j rfl) (fun j => hF171 21 j rfl)).trans rfl
            have w178 : yPo (yPno 1 r159 p36) = 0 := yPo_no
            refine zt_aload_n (pc' := 85) hX dX8_readInto_84 rfl rfl ?_
            refine zt_get (pc' := 88) (v := .ref (X.1.1 + 27)) hX dX8_readInto_85 rfl zf_X8_9 (by decide) zc_34 zs_21 (zrf_of (zv_21_0 hI170 zc_34)) ?_
            refine zt_cVz (pc' := 91) hX dX8_readInto_88 rfl zm_yX5_hasMore zw_17_17 zc_27 (by decide) zs_14 (q := (RX5, TX5, 9)) rfl rfl (yc_X5_hasMore _ _ s167 hI170 f hT172) rfl rfl (Nat.le_of_ble_eq_true rfl) (by decide) (fun r179 s180 hr181 hp182 => ?_)
            obtain ⟨rfl, q183, q184, z185⟩ := hp182
            rw [hE174] at z185
            refine zt_ifeq (pc' := 94) (tgt := 109) hX dX8_readInto_91 rfl (by decide) ⟨by omega, by omega⟩ (fun c186 => ?_) (fun c186 => ?_)
            · refine zt_iload_n (pc' := 110) hX dX8_readInto_109 rfl rfl ?_
              exact zt_iret hX hR dX8_readInto_110 ⟨by omega, by omega⟩ ⟨hI170, hF175, by omega, by omega, (by rw [← hf]; exact hT172), hE174.trans (by rw [← hf, yAll_z g40 (fun m => by omega) (by omega)]; exact yPno_f (fun o => by omega)), (fun o => by rw [hE174, yPo_no] at o; exact absurd o (by decide))⟩
            · refine zt_aload_n (pc' := 95) hX dX8_readInto_94 rfl rfl ?_
              refine zt_get (pc' := 98) (v := .ref (X.1.1 + 27)) hX dX8_readInto_95 rfl zf_X8_9 (by decide) zc_34 zs_21 (zrf_of (zv_21_0 hI170 zc_34)) ?_
              refine zt_iconst (pc' := 99) hX dX8_readInto_98 rfl ?_
              refine zt_aload_n (pc' := 100) hX dX8_readInto_99 rfl rfl ?_
              refine zt_get (pc' := 103) (v := .ref (X.1.1 + 27)) hX dX8_readInto_100 rfl zf_X8_9 (by decide) zc_34 zs_21 (zrf_of (zv_21_0 hI170 zc_34)) ?_
              refine zt_cVi (pc' := 106) hX dX8_readInto_103 rfl zm_yX5_placeHere zw_20_7 zc_27 (by decide) zs_14 (q := (RX5, TX5, 9)) rfl rfl (yc_X5_placeHere _ _ s167 hI170 f hT172) rfl rfl (Nat.le_of_ble_eq_true rfl) (by decide) (fun r187 s188 hr189 hp190 => ?_)
              obtain ⟨rfl, q191, q192, z193⟩ := hp190
              rw [hE174] at z193
              refine zt_cVv (pc' := 109) hX dX8_readInto_106 rfl zm_yX5_refuse zw_20_11 zc_27 (by decide) zs_14 (q := (RX5, TX5, 9)) rfl rfl (yc_X5_refuse _ _ s167 hI170 5 ⟨by omega, by omega⟩ r187 ⟨by omega, by omega⟩ (by omega) f hT172) rfl rfl (Nat.le_of_ble_eq_true rfl) (by decide) (fun r194 s195 hr196 hp197 => ?_)
              obtain ⟨hI198, hF199, hT200, z201⟩ := hp197
              have hE202 : yst s195 = yPno 5 r187 (yPno 1 r159 p36) := by rw [z201, hE174]
              have hF203 := zOn_tr hF175 hF199 (fun k j h => zi_17t k j (zi_r117 k j h))
              have e204 := hF199 34 2 rfl
              have hQ205 := (yPlc_c (K := 17) (A := 19) (B := 20) (C := 21) (hF199 17 7 rfl) (hF199 17 8 rfl) (hF199 17 10 rfl) (hF199 17 11 rfl) (hF199 17 12 rfl) (fun j => hF199 19 j rfl) (fun j => hF199 20 j rfl) (fun j => hF199 21 j rfl)).trans hQ177
              have w206 : yPo (yPno 5 r187 (yPno 1 r159 p36)) = 0 := yPo_no
              refine zt_iload_n (pc' := 110) hX dX8_readInto_109 rfl rfl ?_
              exact zt_iret hX hR dX8_readInto_110 ⟨by omega, by omega⟩ ⟨hI198, hF203, by omega, by omega, (by exfalso; omega), (by exfalso; omega), (by exfalso; omega)⟩
        · refine zt_iload_n (pc' := 36) hX dX8_readInto_35 rfl rfl ?_
          refine zt_ifne (pc' := 39) (tgt := 46) hX dX8_readInto_36 rfl (by decide) ⟨by omega, by omega⟩ (fun c207 => ?_) (fun c207 => ?_)
          · refine zt_aload_n (pc' := 47) hX dX8_readInto_46 rfl rfl ?_
            refine zt_cVv (pc' := 50) hX dX8_readInto_47 rfl zm_yX8_readStatement zw_19_6 zc_34 (by decide) zs_21 (q := (RX8, TX8, 3)) rfl rfl (yc_X8_readStatement_17 _ _ s33 hI34 (by omega) f hT37) rfl rfl (Nat.le_of_ble_eq_true rfl) (by decide) (fun r208 s209 hr210 hp211 => ?_)
            obtain ⟨hI212, hF213, hT214, z215, z216⟩ := hp211
            have hE217 : yst s209 = yStm f (yPlc s33 17 19 20 21) p36 := by rw [z215, hE38]
            rw [hE38] at z216
            have hF218 := zOn_tr hF35 hF213 zi_17t
            rw [hE217] at z216
            have e219 := hF213 34 2 rfl
            refine zt_aload_n (pc' := 51) hX dX8_readInto_50 rfl rfl ?_
            refine zt_get (pc' := 54) (v := .ref (X.1.1 + 27)) hX dX8_readInto_51 rfl zf_X8_9 (by decide) zc_34 zs_21 (zrf_of (zv_21_0 hI212 zc_34)) ?_
            refine zt_bipush (pc' := 56) hX dX8_readInto_54 rfl (by decide) (by decide) ?_
            refine zt_cVv (pc' := 59) hX dX8_readInto_56 rfl zm_yX5_takeSign zw_24_18 zc_27 (by decide) zs_14 (q := (RX5, TX5, 9)) rfl rfl (yc_X5_takeSign _ _ s209 hI212 59 ⟨by omega, by omega⟩ f hT214) rfl rfl (Nat.le_of_ble_eq_true rfl) (by decide) (fun r221 s222 hr223 hp224 => ?_)
            obtain ⟨hI225, hF226, hT227, z228⟩ := hp224
            have hE229 : yst s222 = yPs f 59 (yStm f (yPlc s33 17 19 20 21) p36) := by rw [z228, hE217]
            have hF230 := zOn_tr hF218 hF226 (fun k j h => zi_17t k j (zi_r117 k j h))
            have e231 := hF226 34 2 rfl
            have hQ232 := (yPlc_c (K := 17) (A := 19) (B := 20) (C := 21) (hF226 17 7 rfl) (hF226 17 8 rfl) (hF226 17 10 rfl) (hF226 17 11 rfl) (hF226 17 12 rfl) (fun j => hF226 19 j rfl) (fun j => hF226 20 j rfl) (fun j => hF226 21 j rfl)).trans rfl
            refine zt_iinc (pc' := 62) (lv' := [some (.ref (X.1.1 + 34)), none, none, some (.int (zI (x30 + 1)))]) hX dX8_readInto_59 rfl rfl hL (by decide) rfl ?_
            refine zt_goto (tgt := 19) hX dX8_readInto_62 (by decide) ?_
            exact ih43 (x30 + 1) s222 (yPs f 59 (yStm f (yPlc s33 17 19 20 21) p36)) (by omega) (by omega) hI225 hF230 hT227 hE229 (by omega) (yLop_bs (by omega) (by have h := z128; constructor <;> omega) g40 (fun o => (hQ232).trans (z216 (yPo_s o)))) (by omega)
          · refine zt_aload_n (pc' := 40) hX dX8_readInto_39 rfl rfl ?_
            refine zt_cVv (pc' := 43) hX dX8_readInto_40 rfl zm_yX8_readPane zw_17_21 zc_34 (by decide) zs_21 (q := (RX8, TX8, 3)) rfl rfl (yc_X8_readPane_17 _ _ s33 hI34 (by omega) f hT37) rfl rfl (Nat.le_of_ble_eq_true rfl) (by decide) (fun r233 s234 hr235 hp236 => ?_)
            obtain ⟨hI237, hF238, hT239, z240, z241⟩ := hp236
            have hE242 : yst s234 = yPan f p36 := by rw [z240, hE38]
            rw [hE38] at z241
            have hF243 := zOn_tr hF35 hF238 zi_17t
            rw [hE242] at z241
            have e244 := hF238 34 2 rfl
            refine zt_goto (tgt := 50) hX dX8_readInto_43 (by decide) ?_
            refine zt_aload_n (pc' := 51) hX dX8_readInto_50 rfl rfl ?_
            refine zt_get (pc' := 54) (v := .ref (X.1.1 + 27)) hX dX8_readInto_51 rfl zf_X8_9 (by decide) zc_34 zs_21 (zrf_of (zv_21_0 hI237 zc_34)) ?_
            refine zt_bipush (pc' := 56) hX dX8_readInto_54 rfl (by decide) (by decide) ?_
            refine zt_cVv (pc' := 59) hX dX8_readInto_56 rfl zm_yX5_takeSign zw_24_18 zc_27 (by decide) zs_14 (q := (RX5, TX5, 9)) rfl rfl (yc_X5_takeSign _ _ s234 hI237 59 ⟨by omega, by omega⟩ f hT239) rfl rfl (Nat.le_of_ble_eq_true rfl) (by decide) (fun r246 s247 hr248 hp249 => ?_)
            obtain ⟨hI250, hF251, hT252, z253⟩ := hp249
            have hE254 : yst s247 = yPs f 59 (yPan f p36) := by rw [z253, hE242]
            have hF255 := zOn_tr hF243 hF251 (fun k j h => zi_17t k j (zi_r117 k j h))
            have e256 := hF251 34 2 rfl
            have hQ257 := (yPlc_c (K := 17) (A := 19) (B := 20) (C := 21) (hF251 17 7 rfl) (hF251 17 8 rfl) (hF251 17 10 rfl) (hF251 17 11 rfl) (hF251 17 12 rfl) (fun j => hF251 19 j rfl) (fun j => hF251 20 j rfl) (fun j => hF251 21 j rfl)).trans rfl
            refine zt_iinc (pc' := 62) (lv' := [some (.ref (X.1.1 + 34)), none, none, some (.int (zI (x30 + 1)))]) hX dX8_readInto_59 rfl rfl hL (by decide) rfl ?_
            refine zt_goto (tgt := 19) hX dX8_readInto_62 (by decide) ?_
            exact ih43 (x30 + 1) s247 (yPs f 59 (yPan f p36)) (by omega) (by omega) hI250 hF255 hT252 hE254 (by omega) (yLop_bp (by omega) (by have h := z128; constructor <;> omega) g40 (fun o => (hQ257).trans (z241 (yPo_s o)))) (by omega)
  refine zt_mask [true, false, false, true] rfl ?_
  exact L_19_40 _ 0 s19 (yP.ok (yS f 0)) (by omega) (by omega) hI22 hF26 z24 z25 (by omega) (by rw [hQ28]; rfl) (Nat.lt_succ_self _)
