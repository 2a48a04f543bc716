set_option maxRecDepth 100000 in
set_option maxHeartbeats 4000000 in
theorem yc_X5_kindHere (l : Launch) (E : zEN) (σ : zSto) (hI : zInv σ) (f : Int → Int) (hT : yTk f σ) : zCt l E yX5_kindHere cX5_kindHere 1 (some .int) 0 zNC zNC 0 0 σ [.ref (E.1 + 27)] (fun r σ' => σ = σ' ∧ 0 ≤ r ∧ r ≤ 6 ∧ (r = yPk f (yst σ))) := by
  refine zCt_of2 [some (.ref (E.1 + 27))] (by decide +kernel) (Nat.le_of_ble_eq_true rfl) rfl ?_
  intro X hE_ hX hR hL hN
  subst hE_
  have hX : zok X cX5_kindHere RX5 0 := hX
  have hE0 : yst σ = yst σ := rfl
  have hh := yHere hT
  obtain ⟨hh1, hh2, hh3, hh4, hh5⟩ := hh
  refine zt_aload_n (pc' := 1) hX dX5_kindHere_0 rfl rfl ?_
  have b1 := zv_14_7 hI zc_27
  refine zt_get (pc' := 4) (v := .int (zI (σ 27 7))) hX dX5_kindHere_1 rfl zf_X5_34 (by decide) zc_27 zs_14 rfl ?_
  refine zt_ifne (pc' := 7) (tgt := 19) hX dX5_kindHere_4 rfl (by decide) ⟨by omega, by omega⟩ (fun c2 => ?_) (fun c2 => ?_)
  · refine zt_bipush (pc' := 21) hX dX5_kindHere_19 rfl (by decide) (by decide) ?_
    exact zt_iret hX hR dX5_kindHere_21 ⟨by omega, by omega⟩ ⟨rfl, by omega, by omega, by omega⟩
  · refine zt_aload_n (pc' := 8) hX dX5_kindHere_7 rfl rfl ?_
    refine zt_get (pc' := 11) (v := .ref (X.1.1 + 29)) hX dX5_kindHere_8 rfl zf_X5_15 (by decide) zc_27 zs_14 (zrf_of (zv_14_1 hI zc_27)) ?_
    refine zt_aload_n (pc' := 12) hX dX5_kindHere_11 rfl rfl ?_
    have b3 := zv_14_6 hI zc_27
    refine zt_get (pc' := 15) (v := .int (zI (σ 27 6))) hX dX5_kindHere_12 rfl zf_X5_31 (by decide) zc_27 zs_14 rfl ?_
    refine zt_iald (pc' := 16) hX dX5_kindHere_15 rfl (by decide) zc_29 zs_16 (by decide) ⟨by omega, by omega⟩ ?_
    generalize hv4 : σ 29 ((σ 27 6).toNat) = v4
    have bv4 : 0 ≤ v4 ∧ v4 ≤ 6 := hv4 ▸ zv_16 hI zc_29 _
    refine zt_goto (tgt := 21) hX dX5_kindHere_16 (by decide) ?_
    exact zt_iret hX hR dX5_kindHere_21 ⟨by omega, by omega⟩ ⟨rfl, by omega, by omega, by omega⟩
set_option maxRecDepth 100000 in
set_option maxHeartbeats 4000000 in
theorem yc_X5_wordHere (l : Launch) (E : zEN) (σ : zSto) (hI : zInv σ) (f : Int → Int) (hT : yTk f σ) : zCt l E yX5_wordHere cX5_wordHere 1 (some .int) 0 zNC zNC 0 0 σ [.ref (E.1 + 27)] (fun r σ' => σ = σ' ∧ -1 ≤ r ∧ r ≤ 32 ∧ (r = yPi f (yst σ))) := by
  refine zCt_of2 [some (.ref (E.1 + 27))] (by decide +kernel) (Nat.le_of_ble_eq_true rfl) rfl ?_
  intro X hE_ hX hR hL hN
  subst hE_
  have hX : zok X cX5_wordHere RX5 0 := hX
  have hE0 : yst σ = yst σ := rfl
  have hh := yHere hT
  obtain ⟨hh1, hh2, hh3, hh4, hh5⟩ := hh
  refine zt_aload_n (pc' := 1) hX dX5_wordHere_0 rfl rfl ?_
  have b1 := zv_14_7 hI zc_27
  refine zt_get (pc' := 4) (v := .int (zI (σ 27 7))) hX dX5_wordHere_1 rfl zf_X5_34 (by decide) zc_27 zs_14 rfl ?_
  refine zt_ifne (pc' := 7) (tgt := 32) hX dX5_wordHere_4 rfl (by decide) ⟨by omega, by omega⟩ (fun c2 => ?_) (fun c2 => ?_)
  · refine zt_iconst (pc' := 33) hX dX5_wordHere_32 rfl ?_
    exact zt_iret hX hR dX5_wordHere_33 ⟨by omega, by omega⟩ ⟨rfl, by omega, by omega, by omega⟩
  · refine zt_aload_n (pc' := 8) hX dX5_wordHere_7 rfl rfl ?_
    refine zt_get (pc' := 11) (v := .ref (X.1.1 + 29)) hX dX5_wordHere_8 rfl zf_X5_15 (by decide) zc_27 zs_14 (zrf_of (zv_14_1 hI zc_27)) ?_
    refine zt_aload_n (pc' := 12) hX dX5_wordHere_11 rfl rfl ?_
    have b3 := zv_14_6 hI zc_27
    refine zt_get (pc' := 15) (v := .int (zI (σ 27 6))) hX dX5_wordHere_12 rfl zf_X5_31 (by decide) zc_27 zs_14 rfl ?_
    refine zt_iald (pc' := 16) hX dX5_wordHere_15 rfl (by decide) zc_29 zs_16 (by decide) ⟨by omega, by omega⟩ ?_
    generalize hv4 : σ 29 ((σ 27 6).toNat) = v4
    have bv4 : 0 ≤ v4 ∧ v4 ≤ 6 := hv4 ▸ zv_16 hI zc_29 _
    refine zt_iconst (pc' := 17) hX dX5_wordHere_16 rfl ?_
    refine zt_icne (pc' := 20) (tgt := 32) hX dX5_wordHere_17 rfl (by decide) ⟨by omega, by omega⟩ ⟨by omega, by omega⟩ (fun c5 => ?_) (fun c5 => ?_)
    · refine zt_iconst (pc' := 33) hX dX5_wordHere_32 rfl ?_
      exact zt_iret hX hR dX5_wordHere_33 ⟨by omega, by omega⟩ ⟨rfl, by omega, by omega, by omega⟩
    · refine zt_aload_n (pc' := 21) hX dX5_wordHere_20 rfl rfl ?_
      refine zt_get (pc' := 24) (v := .ref (X.1.1 + 32)) hX dX5_wordHere_21 rfl zf_X5_24 (by decide) zc_27 zs_14 (zrf_of (zv_14_4 hI zc_27)) ?_
      refine zt_aload_n (pc' := 25) hX dX5_wordHere_24 rfl rfl ?_
      refine zt_get (pc' := 28) (v := .int (zI (σ 27 6))) hX dX5_wordHere_25 rfl zf_X5_31 (by decide) zc_27 zs_14 rfl ?_
      refine zt_iald (pc' := 29) hX dX5_wordHere_28 rfl (by decide) zc_32 zs_19 (by decide) ⟨by omega, by omega⟩ ?_
      generalize hv6 : σ 32 ((σ 27 6).toNat) = v6
      have bv6 : -1 ≤ v6 ∧ v6 ≤ 32 := hv6 ▸ zv_19 hI zc_32 _
      refine zt_goto (tgt := 33) hX dX5_wordHere_29 (by decide) ?_
      exact zt_iret hX hR dX5_wordHere_33 ⟨by omega, by omega⟩ ⟨rfl, by omega, by omega, by omega⟩
set_option maxRecDepth 100000 in
set_option maxHeartbeats 4000000 in
theorem yc_X5_signHere (l : Launch) (E : zEN) (σ : zSto) (hI : zInv σ) (f : Int → Int) (hT : yTk f σ) : zCt l E yX5_signHere cX5_signHere 1 (some .int) 0 zNC zNC 0 0 σ [.ref (E.1 + 27)] (fun r σ' => σ = σ' ∧ -2147483648 ≤ r ∧ r ≤ 2147483647 ∧ (r = yPg f (yst σ))) := by
  refine zCt_of2 [some (.ref (E.1 + 27))] (by decide +kernel) (Nat.le_of_ble_eq_true rfl) rfl ?_
  intro X hE_ hX hR hL hN
  subst hE_
  have hX : zok X cX5_signHere RX5 0 := hX
  have hE0 : yst σ = yst σ := rfl
  have hh := yHere hT
  obtain ⟨hh1, hh2, hh3, hh4, hh5⟩ := hh
  refine zt_aload_n (pc' := 1) hX dX5_signHere_0 rfl rfl ?_
  have b1 := zv_14_7 hI zc_27
  refine zt_get (pc' := 4) (v := .int (zI (σ 27 7))) hX dX5_signHere_1 rfl zf_X5_34 (by decide) zc_27 zs_14 rfl ?_
  refine zt_ifne (pc' := 7) (tgt := 32) hX dX5_signHere_4 rfl (by decide) ⟨by omega, by omega⟩ (fun c2 => ?_) (fun c2 => ?_)
  · refine zt_iconst (pc' := 33) hX dX5_signHere_32 rfl ?_
    exact zt_iret hX hR dX5_signHere_33 ⟨by omega, by omega⟩ ⟨rfl, by omega, by omega, by omega⟩
  · refine zt_aload_n (pc' := 8) hX dX5_signHere_7 rfl rfl ?_
    refine zt_get (pc' := 11) (v := .ref (X.1.1 + 29)) hX dX5_signHere_8 rfl zf_X5_15 (by decide) zc_27 zs_14 (zrf_of (zv_14_1 hI zc_27)) ?_
    refine zt_aload_n (pc' := 12) hX dX5_signHere_11 rfl rfl ?_
    have b3 := zv_14_6 hI zc_27
    refine zt_get (pc' := 15) (v := .int (zI (σ 27 6))) hX dX5_signHere_12 rfl zf_X5_31 (by decide) zc_27 zs_14 rfl ?_
    refine zt_iald (pc' := 16) hX dX5_signHere_15 rfl (by decide) zc_29 zs_16 (by decide) ⟨by omega, by omega⟩ ?_
    generalize hv4 : σ 29 ((σ 27 6).toNat) = v4
    have bv4 : 0 ≤ v4 ∧ v4 ≤ 6 := hv4 ▸ zv_16 hI zc_29 _
    refine zt_iconst (pc' := 17) hX dX5_signHere_16 rfl ?_
    refine zt_icne (pc' := 20) (tgt := 32) hX dX5_signHere_17 rfl (by decide) ⟨by omega, by omega⟩ ⟨by omega, by omega⟩ (fun c5 => ?_) (fun c5 => ?_)
    · refine zt_iconst (pc' := 33) hX dX5_signHere_32 rfl ?_
      exact zt_iret hX hR dX5_signHere_33 ⟨by omega, by omega⟩ ⟨rfl, by omega, by omega, by omega⟩
    · refine zt_aload_n (pc' := 21) hX dX5_signHere_20 rfl rfl ?_
      refine zt_get (pc' := 24) (v := .ref (X.1.1 + 31)) hX dX5_signHere_21 rfl zf_X5_21 (by decide) zc_27 zs_14 (zrf_of (zv_14_3 hI zc_27)) ?_
      refine zt_aload_n (pc' := 25) hX dX5_signHere_24 rfl rfl ?_
      refine zt_get (pc' := 28) (v := .int (zI (σ 27 6))) hX dX5_signHere_25 rfl zf_X5_31 (by decide) zc_27 zs_14 rfl ?_
      refine zt_iald (pc' := 29) hX dX5_signHere_28 rfl (by decide) zc_31 zs_18 (by decide) ⟨by omega, by omega⟩ ?_
      generalize hv6 : σ 31 ((σ 27 6).toNat) = v6
      have bv6 : -2147483648 ≤ v6 ∧ v6 ≤ 2147483647 := hv6 ▸ zv_18 hI zc_31 _
      refine zt_goto (tgt := 33) hX dX5_signHere_29 (by decide) ?_
      exact zt_iret hX hR dX5_signHere_33 ⟨by omega, by omega⟩ ⟨rfl, by omega, by omega, by omega⟩
set_option maxRecDepth 100000 in
set_option maxHeartbeats 4000000 in
theorem yc_X5_placeHere (l : Launch) (E : zEN) (σ : zSto) (hI : zInv σ) (f : Int → Int) (hT : yTk f σ) : zCt l E yX5_placeHere cX5_placeHere 1 (some .int) 0 zNC zNC 0 0 σ [.ref (E.1 + 27)] (fun r σ' => σ = σ' ∧ 0 ≤ r ∧ r ≤ 10000 ∧ (yPo (yst σ) = 1 → r = yPq (yst σ))) := by
  refine zCt_of2 [some (.ref (E.1 + 27))] (by decide +kernel) (Nat.le_of_ble_eq_true rfl) rfl ?_
  intro X hE_ hX hR hL hN
  subst hE_
  have hX : zok X cX5_placeHere RX5 0 := hX
  have hE0 : yst σ = yst σ := rfl
  obtain ⟨hh1, hh2, -⟩ := yHere hT
  refine zt_aload_n (pc' := 1) hX dX5_placeHere_0 rfl rfl ?_
  refine zt_get (pc' := 4) (v := .ref (X.1.1 + 30)) hX dX5_placeHere_1 rfl zf_X5_18 (by decide) zc_27 zs_14 (zrf_of (zv_14_2 hI zc_27)) ?_
  refine zt_aload_n (pc' := 5) hX dX5_placeHere_4 rfl rfl ?_
  have b1 := zv_14_6 hI zc_27
  refine zt_get (pc' := 8) (v := .int (zI (σ 27 6))) hX dX5_placeHere_5 rfl zf_X5_31 (by decide) zc_27 zs_14 rfl ?_
  refine zt_iald (pc' := 9) hX dX5_placeHere_8 rfl (by decide) zc_30 zs_17 (by decide) ⟨by omega, by omega⟩ ?_
  generalize hv2 : σ 30 ((σ 27 6).toNat) = v2
  have bv2 : 0 ≤ v2 ∧ v2 ≤ 10000 := hv2 ▸ zv_17 hI zc_30 _
  exact zt_iret hX hR dX5_placeHere_9 ⟨by omega, by omega⟩ ⟨rfl, by omega, by omega, by omega⟩
set_option maxRecDepth 100000 in
set_option maxHeartbeats 4000000 in
theorem yc_X5_hasMore (l : Launch) (E : zEN) (σ : zSto) (hI : zInv σ) (f : Int → Int) (hT : yTk f σ) : zCt l E yX5_hasMore cX5_hasMore 1 (some .boolean) 0 zNC zNC 0 0 σ [.ref (E.1 + 27)] (fun r σ' => σ = σ' ∧ 0 ≤ r ∧ r ≤ 1 ∧ ((yPo (yst σ) = 1 ∧ yPk f (yst σ) ≠ 0 → r = 1) ∧ (¬ (yPo (yst σ) = 1 ∧ yPk f (yst σ) ≠ 0) → r = 0))) := by
  refine zCt_of2 [some (.ref (E.1 + 27))] (by decide +kernel) (Nat.le_of_ble_eq_true rfl) rfl ?_
  intro X hE_ hX hR hL hN
  subst hE_
  have hX : zok X cX5_hasMore RX5 0 := hX
  have hE0 : yst σ = yst σ := rfl
  have hh := yHere hT
  obtain ⟨hh1, hh2, hh3, hh4, hh5⟩ := hh
  refine zt_aload_n (pc' := 1) hX dX5_hasMore_0 rfl rfl ?_
  have b1 := zv_14_7 hI zc_27
  refine zt_get (pc' := 4) (v := .int (zI (σ 27 7))) hX dX5_hasMore_1 rfl zf_X5_34 (by decide) zc_27 zs_14 rfl ?_
  refine zt_ifne (pc' := 7) (tgt := 23) hX dX5_hasMore_4 rfl (by decide) ⟨by omega, by omega⟩ (fun c2 => ?_) (fun c2 => ?_)
  · refine zt_iconst (pc' := 24) hX dX5_hasMore_23 rfl ?_
    exact zt_zret hX hR dX5_hasMore_24 ⟨by omega, by omega⟩ ⟨rfl, by omega, by omega, by omega⟩
  · refine zt_aload_n (pc' := 8) hX dX5_hasMore_7 rfl rfl ?_
    refine zt_get (pc' := 11) (v := .ref (X.1.1 + 29)) hX dX5_hasMore_8 rfl zf_X5_15 (by decide) zc_27 zs_14 (zrf_of (zv_14_1 hI zc_27)) ?_
    refine zt_aload_n (pc' := 12) hX dX5_hasMore_11 rfl rfl ?_
    have b3 := zv_14_6 hI zc_27
    refine zt_get (pc' := 15) (v := .int (zI (σ 27 6))) hX dX5_hasMore_12 rfl zf_X5_31 (by decide) zc_27 zs_14 rfl ?_
    refine zt_iald (pc' := 16) hX dX5_hasMore_15 rfl (by decide) zc_29 zs_16 (by decide) ⟨by omega, by omega⟩ ?_
    generalize hv4 : σ 29 ((σ 27 6).toNat) = v4
    have bv4 : 0 ≤ v4 ∧ v4 ≤ 6 := hv4 ▸ zv_16 hI zc_29 _
    refine zt_ifeq (pc' := 19) (tgt := 23) hX dX5_hasMore_16 rfl (by decide) ⟨by omega, by omega⟩ (fun c5 => ?_) (fun c5 => ?_)
    · refine zt_iconst (pc' := 24) hX dX5_hasMore_23 rfl ?_
      exact zt_zret hX hR dX5_hasMore_24 ⟨by omega, by omega⟩ ⟨rfl, by omega, by omega, by omega⟩
    · refine zt_iconst (pc' := 20) hX dX5_hasMore_19 rfl ?_
      refine zt_goto (tgt := 24) hX dX5_hasMore_20 (by decide) ?_
      exact zt_zret hX hR dX5_hasMore_24 ⟨by omega, by omega⟩ ⟨rfl, by omega, by omega, by omega⟩
set_option maxRecDepth 100000 in
set_option maxHeartbeats 4000000 in
theorem yc_X5_step (l : Launch) (E : zEN) (σ : zSto) (hI : zInv σ) (f : Int → Int) (hT : yTk f σ) : zCt l E yX5_step cX5_step 1 none 0 zNC zNC 0 0 σ [.ref (E.1 + 27)] (fun r σ' => zInv σ' ∧ zOn zR1 σ σ' ∧ yTk f σ' ∧ ((yst σ') = yPx f (yst σ))) := by
  refine zCt_of2 [some (.ref (E.1 + 27))] (by decide +kernel) (Nat.le_of_ble_eq_true rfl) rfl ?_
  intro X hE_ hX hR hL hN
  subst hE_
  have hX : zok X cX5_step RX5 0 := hX
  have hF := zOn_rf zR1 σ
  have hE0 : yst σ = yst σ := rfl
  have hh5 := (yHere hT).2.2.2.2
  refine zt_aload_n (pc' := 1) hX dX5_step_0 rfl rfl ?_
  have b1 := zv_14_6 hI zc_27
  refine zt_get (pc' := 4) (v := .int (zI (σ 27 6))) hX dX5_step_1 rfl zf_X5_31 (by decide) zc_27 zs_14 rfl ?_
  refine zt_aload_n (pc' := 5) hX dX5_step_4 rfl rfl ?_
  have b2 := zv_14_5 hI zc_27
  refine zt_get (pc' := 8) (v := .int (zI (σ 27 5))) hX dX5_step_5 rfl zf_X5_27 (by decide) zc_27 zs_14 rfl ?_
  refine zt_icge (pc' := 11) (tgt := 21) hX dX5_step_8 rfl (by decide) ⟨by omega, by omega⟩ ⟨by omega, by omega⟩ (fun c3 => ?_) (fun c3 => ?_)
  · exact zt_vret hX hR dX5_step_21 ⟨hI, hF, hT, yL_step0 hT (by omega)⟩
  · refine zt_aload_n (pc' := 12) hX dX5_step_11 rfl rfl ?_
    refine zt_dup (pc' := 13) hX dX5_step_12 rfl rfl ?_
    refine zt_get (pc' := 16) (v := .int (zI (σ 27 6))) hX dX5_step_13 rfl zf_X5_31 (by decide) zc_27 zs_14 rfl ?_
    refine zt_iconst (pc' := 17) hX dX5_step_16 rfl ?_
    refine zt_iadd (pc' := 18) hX dX5_step_17 rfl ?_
    refine zt_put (pc' := 21) (x := ((σ 27 6) + 1)) hX dX5_step_18 rfl zf_X5_31 (by decide) zc_27 zs_14 (fun q hq => by cases hq; rfl) rfl rfl rfl ?_
    generalize hs5 : zset σ 27 6 ((σ 27 6) + 1) = s4
    have hI6 : zInv s4 := hs5 ▸ zp_14_6 hI zc_27 ⟨by omega, by omega⟩
    have hF7 : zOn zR1 σ s4 := hs5 ▸ zOn_set hF (by decide)
    have h8 := yL_step1 hT hs5 (by omega)
    exact zt_vret hX hR dX5_step_21 ⟨hI6, hF7, h8.1, h8.2⟩
set_option maxRecDepth 100000 in
set_option maxHeartbeats 4000000 in
theorem yc_X5_refuse (l : Launch) (E : zEN) (σ : zSto) (hI : zInv σ) (a1_ : Int) (ha1_ : -2147483648 ≤ a1_ ∧ a1_ ≤ 2147483647) (a2_ : Int) (ha2_ : -2147483648 ≤ a2_ ∧ a2_ ≤ 2147483647) (hpre0 : a1_ ≠ 0) (f : Int → Int) (hT : yTk f σ) : zCt l E yX5_refuse cX5_refuse 3 none 0 zNC zNC 0 0 σ [.ref (E.1 + 27), .int (zI a1_), .int (zI a2_)] (fun r σ' => zInv σ' ∧ zOn zR1 σ σ' ∧ yTk f σ' ∧ ((yst σ') = yPno a1_ a2_ (yst σ))) := by
  refine zCt_of2 [some (.ref (E.1 + 27)), some (.int (zI a1_)), some (.int (zI a2_))] (by decide +kernel) (Nat.le_of_ble_eq_true rfl) rfl ?_
  intro X hE_ hX hR hL hN
  subst hE_
  have hX : zok X cX5_refuse RX5 0 := hX
  have hF := zOn_rf zR1 σ
  have hE0 : yst σ = yst σ := rfl
  refine zt_aload_n (pc' := 1) hX dX5_refuse_0 rfl rfl ?_
  have b1 := zv_14_7 hI zc_27
  refine zt_get (pc' := 4) (v := .int (zI (σ 27 7))) hX dX5_refuse_1 rfl zf_X5_34 (by decide) zc_27 zs_14 rfl ?_
  refine zt_ifne (pc' := 7) (tgt := 17) hX dX5_refuse_4 rfl (by decide) ⟨by omega, by omega⟩ (fun c2 => ?_) (fun c2 => ?_)
  · exact zt_vret hX hR dX5_refuse_17 ⟨hI, hF, hT, yL_ref0 (by omega)⟩
  · refine zt_aload_n (pc' := 8) hX dX5_refuse_7 rfl rfl ?_
    refine zt_iload_n (pc' := 9) hX dX5_refuse_8 rfl rfl ?_
    refine zt_put (pc' := 12) (x := a1_) hX dX5_refuse_9 rfl zf_X5_34 (by decide) zc_27 zs_14 (fun q hq => by cases hq; rfl) rfl rfl rfl ?_
    generalize hs4 : zset σ 27 7 a1_ = s3
    have hI5 : zInv s3 := hs4 ▸ zp_14_7 hI zc_27 ⟨by omega, by omega⟩
    have hF6 : zOn zR1 σ s3 := hs4 ▸ zOn_set hF (by decide)
    refine zt_aload_n (pc' := 13) hX dX5_refuse_12 rfl rfl ?_
    refine zt_iload_n (pc' := 14) hX dX5_refuse_13 rfl rfl ?_
    refine zt_put (pc' := 17) (x := a2_) hX dX5_refuse_14 rfl zf_X5_37 (by decide) zc_27 zs_14 (fun q hq => by cases hq; rfl) rfl rfl rfl ?_
    generalize hs8 : zset s3 27 8 a2_ = s7
    have hI9 : zInv s7 := hs8 ▸ zp_14_8 hI5 zc_27 ⟨by omega, by omega⟩
    have hF10 : zOn zR1 σ s7 := hs8 ▸ zOn_set hF6 (by decide)
    have h11 := yL_ref1 hT hs4 hs8 (by omega) (by omega)
    exact zt_vret hX hR dX5_refuse_17 ⟨hI9, hF10, h11.1, h11.2⟩
set_option maxRecDepth 100000 in
set_option maxHeartbeats 4000000 in
theorem yc_X5_takeWord (l : Launch) (E : zEN) (σ : zSto) (hI : zInv σ) (a1_ : Int) (ha1_ : 0 ≤ a1_ ∧ a1_ ≤ 255) (f : Int → Int) (hT : yTk f σ) : zCt l E yX5_takeWord cX5_takeWord 2 none 1 zNC zNC 0 0 σ [.ref (E.1 + 27), .int (zI a1_)] (fun r σ' => zInv σ' ∧ zOn zR1 σ σ' ∧ yTk f σ' ∧ ((yst σ') = yPw f a1_ (yst σ))) := by
  refine zCt_of2 [some (.ref (E.1 + 27)), some (.int (zI a1_))] (by decide +kernel) (Nat.le_of_ble_eq_true rfl) rfl ?_
  intro X hE_ hX hR hL hN
  subst hE_
  have hX : zok X cX5_takeWord RX5 1 := hX
  have hF := zOn_rf zR1 σ
  have hE0 : yst σ = yst σ := rfl
  have hh := yHere hT
  obtain ⟨hh1, hh2, hh3, hh4, hh5⟩ := hh
  refine zt_aload_n (pc' := 1) hX dX5_takeWord_0 rfl rfl ?_
  refine zt_cVi (pc' := 4) hX dX5_takeWord_1 rfl zm_yX5_wordHere zw_18_6 zc_27 (by decide) zs_14 (q := (RX5, TX5, 9)) rfl rfl (yc_X5_wordHere _ _ σ hI f hT) rfl rfl (Nat.le_of_ble_eq_true rfl) (by decide) (fun r1 s2 hr3 hp4 => ?_)
  obtain ⟨rfl, q5, q6, z7⟩ := hp4
  refine zt_iload_n (pc' := 5) hX dX5_takeWord_4 rfl rfl ?_
  refine zt_icne (pc' := 8) (tgt := 15) hX dX5_takeWord_5 rfl (by decide) ⟨by omega, by omega⟩ ⟨by omega, by omega⟩ (fun c8 => ?_) (fun c8 => ?_)
  · refine zt_aload_n (pc' := 16) hX dX5_takeWord_15 rfl rfl ?_
    refine zt_iconst (pc' := 17) hX dX5_takeWord_16 rfl ?_
    refine zt_aload_n (pc' := 18) hX dX5_takeWord_17 rfl rfl ?_
    refine zt_get (pc' := 21) (v := .ref (X.1.1 + 30)) hX dX5_takeWord_18 rfl zf_X5_18 (by decide) zc_27 zs_14 (zrf_of (zv_14_2 hI zc_27)) ?_
    refine zt_aload_n (pc' := 22) hX dX5_takeWord_21 rfl rfl ?_
    have b9 := zv_14_6 hI zc_27
    refine zt_get (pc' := 25) (v := .int (zI (σ 27 6))) hX dX5_takeWord_22 rfl zf_X5_31 (by decide) zc_27 zs_14 rfl ?_
    refine zt_iald (pc' := 26) hX dX5_takeWord_25 rfl (by decide) zc_30 zs_17 (by decide) ⟨by omega, by omega⟩ ?_
    generalize hv10 : σ 30 ((σ 27 6).toNat) = v10
    have bv10 : 0 ≤ v10 ∧ v10 ≤ 10000 := hv10 ▸ zv_17 hI zc_30 _
    refine zt_cVv (pc' := 29) hX dX5_takeWord_26 rfl zm_yX5_refuse zw_18_14 zc_27 (by decide) zs_14 (q := (RX5, TX5, 9)) rfl rfl (yc_X5_refuse _ _ σ hI 1 ⟨by omega, by omega⟩ v10 ⟨by omega, by omega⟩ (by omega) f hT) rfl rfl (Nat.le_of_ble_eq_true rfl) (by decide) (fun r11 s12 hr13 hp14 => ?_)
    obtain ⟨hI15, hF16, hT17, z18⟩ := hp14
    have hE19 : yst s12 = yPno 1 v10 (yst σ) := z18
    have hF20 := zOn_tr hF hF16 zi_id
    exact zt_vret hX hR dX5_takeWord_29 ⟨hI15, hF20, hT17, hE19.trans (ypw_0 (by omega) (fun o => by omega))⟩
  · refine zt_aload_n (pc' := 9) hX dX5_takeWord_8 rfl rfl ?_
    refine zt_cVv (pc' := 12) hX dX5_takeWord_9 rfl zm_yX5_step zw_18_10 zc_27 (by decide) zs_14 (q := (RX5, TX5, 9)) rfl rfl (yc_X5_step _ _ σ hI f hT) rfl rfl (Nat.le_of_ble_eq_true rfl) (by decide) (fun r21 s22 hr23 hp24 => ?_)
    obtain ⟨hI25, hF26, hT27, z28⟩ := hp24
    have hE29 : yst s22 = yPx f (yst σ) := z28
    have hF30 := zOn_tr hF hF26 zi_id
    refine zt_goto (tgt := 29) hX dX5_takeWord_12 (by decide) ?_
    exact zt_vret hX hR dX5_takeWord_29 ⟨hI25, hF30, hT27, hE29.trans (ypw_1 (by omega))⟩
set_option maxRecDepth 100000 in
set_option maxHeartbeats 4000000 in
theorem yc_X5_takeSign (l : Launch) (E : zEN) (σ : zSto) (hI : zInv σ) (a1_ : Int) (ha1_ : 0 ≤ a1_ ∧ a1_ ≤ 255) (f : Int → Int) (hT : yTk f σ) : zCt l E yX5_takeSign cX5_takeSign 2 none 1 zNC zNC 0 0 σ [.ref (E.1 + 27), .int (zI a1_)] (fun r σ' => zInv σ' ∧ zOn zR1 σ σ' ∧ yTk f σ' ∧ ((yst σ') = yPs f a1_ (yst σ))) := by
  refine zCt_of2 [some (.ref (E.1 + 27)), some (.int (zI a1_))] (by decide +kernel) (Nat.le_of_ble_eq_true rfl) rfl ?_
  intro X hE_ hX hR hL hN
  subst hE_
  have hX : zok X cX5_takeSign RX5 1 := hX
  have hF := zOn_rf zR1 σ
  have hE0 : yst σ = yst σ := rfl
  have hh := yHere hT
  obtain ⟨hh1, hh2, hh3, hh4, hh5⟩ := hh
  refine zt_aload_n (pc' := 1) hX dX5_takeSign_0 rfl rfl ?_
  refine zt_cVi (pc' := 4) hX dX5_takeSign_1 rfl zm_yX5_signHere zw_22_19 zc_27 (by decide) zs_14 (q := (RX5, TX5, 9)) rfl rfl (yc_X5_signHere _ _ σ hI f hT) rfl rfl (Nat.le_of_ble_eq_true rfl) (by decide) (fun r1 s2 hr3 hp4 => ?_)
  obtain ⟨rfl, q5, q6, z7⟩ := hp4
  refine zt_iload_n (pc' := 5) hX dX5_takeSign_4 rfl rfl ?_
  refine zt_icne (pc' := 8) (tgt := 15) hX dX5_takeSign_5 rfl (by decide) ⟨by omega, by omega⟩ ⟨by omega, by omega⟩ (fun c8 => ?_) (fun c8 => ?_)
  · refine zt_aload_n (pc' := 16) hX dX5_takeSign_15 rfl rfl ?_
    refine zt_iconst (pc' := 17) hX dX5_takeSign_16 rfl ?_
    refine zt_aload_n (pc' := 18) hX dX5_takeSign_17 rfl rfl ?_
    refine zt_get (pc' := 21) (v := .ref (X.1.1 + 30)) hX dX5_takeSign_18 rfl zf_X5_18 (by decide) zc_27 zs_14 (zrf_of (zv_14_2 hI zc_27)) ?_
    refine zt_aload_n (pc' := 22) hX dX5_takeSign_21 rfl rfl ?_
    have b9 := zv_14_6 hI zc_27
    refine zt_get (pc' := 25) (v := .int (zI (σ 27 6))) hX dX5_takeSign_22 rfl zf_X5_31 (by decide) zc_27 zs_14 rfl ?_
    refine zt_iald (pc' := 26) hX dX5_takeSign_25 rfl (by decide) zc_30 zs_17 (by decide) ⟨by omega, by omega⟩ ?_
    generalize hv10 : σ 30 ((σ 27 6).toNat) = v10
    have bv10 : 0 ≤ v10 ∧ v10 ≤ 10000 := hv10 ▸ zv_17 hI zc_30 _
    refine zt_cVv (pc' := 29) hX dX5_takeSign_26 rfl zm_yX5_refuse zw_18_14 zc_27 (by decide) zs_14 (q := (RX5, TX5, 9)) rfl rfl (yc_X5_refuse _ _ σ hI 1 ⟨by omega, by omega⟩ v10 ⟨by omega, by omega⟩ (by omega) f hT) rfl rfl (Nat.le_of_ble_eq_true rfl) (by decide) (fun r11 s12 hr13 hp14 => ?_)
    obtain ⟨hI15, hF16, hT17, z18⟩ := hp14
    have hE19 : yst s12 = yPno 1 v10 (yst σ) := z18
    have hF20 := zOn_tr hF hF16 zi_id
    exact zt_vret hX hR dX5_takeSign_29 ⟨hI15, hF20, hT17, hE19.trans (yps_0 (by omega) (fun o => by omega))⟩
  · refine zt_aload_n (pc' := 9) hX dX5_takeSign_8 rfl rfl ?_
    refine zt_cVv (pc' := 12) hX dX5_takeSign_9 rfl zm_yX5_step zw_18_10 zc_27 (by decide) zs_14 (q := (RX5, TX5, 9)) rfl rfl (yc_X5_step _ _ σ hI f hT) rfl rfl (Nat.le_of_ble_eq_true rfl) (by decide) (fun r21 s22 hr23 hp24 => ?_)
    obtain ⟨hI25, hF26, hT27, z28⟩ := hp24
    have hE29 : yst s22 = yPx f (yst σ) := z28
    have hF30 := zOn_tr hF hF26 zi_id
    refine zt_goto (tgt := 29) hX dX5_takeSign_12 (by decide) ?_
    exact zt_vret hX hR dX5_takeSign_29 ⟨hI25, hF30, hT27, hE29.trans (yps_1 (by omega))⟩
set_option maxRecDepth 100000 in
set_option maxHeartbeats 4000000 in
theorem yc_X5_takeNumber (l : Launch) (E : zEN) (σ : zSto) (hI : zInv σ) (a1_ : Int) (ha1_ : 0 ≤ a1_ ∧ a1_ ≤ 2) (a2_ : Int) (ha2_ : -1 ≤ a2_ ∧ a2_ ≤ 9999) (f : Int → Int) (hT : yTk f σ) : zCt l E yX5_takeNumber cX5_takeNumber 5 (some .int) 1 zNC zNC 0 0 σ [.ref (E.1 + 27), .int (zI a1_), .int (zI a2_)] (fun r σ' => zInv σ' ∧ zOn zR1 σ σ' ∧ 0 ≤ r ∧ r ≤ 9999 ∧ yTk f σ' ∧ ((yst σ') = yPn f a1_ a2_ (yst σ)) ∧ (yPo (yst σ') = 1 → r = yPv f (yst σ)) ∧ (a1_ ≤ r ∧ (r ≤ a2_ ∨ r = a1_))) := by
  refine zCt_of2 [some (.ref (E.1 + 27)), some (.int (zI a1_)), some (.int (zI a2_)), none, none] (by decide +kernel) (Nat.le_of_ble_eq_true rfl) rfl ?_
  intro X hE_ hX hR hL hN
  subst hE_
  have hX : zok X cX5_takeNumber RX5 1 := hX
  have hF := zOn_rf zR1 σ
  have hE0 : yst σ = yst σ := rfl
  have hh := yHere hT
  obtain ⟨hh1, hh2, hh3, hh4, hh5⟩ := hh
  have hv9 := yHv hT
  refine zt_aload_n (pc' := 1) hX dX5_takeNumber_0 rfl rfl ?_
  refine zt_cVi (pc' := 4) hX dX5_takeNumber_1 rfl zm_yX5_kindHere zw_18_22 zc_27 (by decide) zs_14 (q := (RX5, TX5, 9)) rfl rfl (yc_X5_kindHere _ _ σ hI f hT) rfl rfl (Nat.le_of_ble_eq_true rfl) (by decide) (fun r1 s2 hr3 hp4 => ?_)
  obtain ⟨rfl, q5, q6, z7⟩ := hp4
  refine zt_istore_n (pc' := 5) (lv' := [some (.ref (X.1.1 + 27)), some (.int (zI a1_)), some (.int (zI a2_)), some (.int (zI r1)), none]) hX dX5_takeNumber_4 rfl hL (by decide) rfl ?_
  refine zt_aload_n (pc' := 6) hX dX5_takeNumber_5 rfl rfl ?_
  refine zt_get (pc' := 9) (v := .ref (X.1.1 + 31)) hX dX5_takeNumber_6 rfl zf_X5_21 (by decide) zc_27 zs_14 (zrf_of (zv_14_3 hI zc_27)) ?_
  refine zt_aload_n (pc' := 10) hX dX5_takeNumber_9 rfl rfl ?_
  have b8 := zv_14_6 hI zc_27
  refine zt_get (pc' := 13) (v := .int (zI (σ 27 6))) hX dX5_takeNumber_10 rfl zf_X5_31 (by decide) zc_27 zs_14 rfl ?_
  refine zt_iald (pc' := 14) hX dX5_takeNumber_13 rfl (by decide) zc_31 zs_18 (by decide) ⟨by omega, by omega⟩ ?_
  generalize hv9 : σ 31 ((σ 27 6).toNat) = v9
  have bv9 : -2147483648 ≤ v9 ∧ v9 ≤ 2147483647 := hv9 ▸ zv_18 hI zc_31 _
  refine zt_istore (pc' := 16) (lv' := [some (.ref (X.1.1 + 27)), some (.int (zI a1_)), some (.int (zI a2_)), some (.int (zI r1)), some (.int (zI v9))]) hX dX5_takeNumber_14 rfl hL (by decide) rfl ?_
  refine zt_iload_n (pc' := 17) hX dX5_takeNumber_16 rfl rfl ?_
  refine zt_iconst (pc' := 18) hX dX5_takeNumber_17 rfl ?_
  refine zt_icne (pc' := 21) (tgt := 40) hX dX5_takeNumber_18 rfl (by decide) ⟨by omega, by omega⟩ ⟨by omega, by omega⟩ (fun c10 => ?_) (fun c10 => ?_)
  · refine zt_iload_n (pc' := 41) hX dX5_takeNumber_40 rfl rfl ?_
    refine zt_iconst (pc' := 42) hX dX5_takeNumber_41 rfl ?_
    refine zt_iceq (pc' := 45) (tgt := 62) hX dX5_takeNumber_42 rfl (by decide) ⟨by omega, by omega⟩ ⟨by omega, by omega⟩ (fun c11 => ?_) (fun c11 => ?_)
    · refine zt_iload (pc' := 64) hX dX5_takeNumber_62 rfl rfl ?_
      refine zt_iload_n (pc' := 65) hX dX5_takeNumber_64 rfl rfl ?_
      refine zt_iclt (pc' := 68) (tgt := 74) hX dX5_takeNumber_65 rfl (by decide) ⟨by omega, by omega⟩ ⟨by omega, by omega⟩ (fun c12 => ?_) (fun c12 => ?_)
      · refine zt_aload_n (pc' := 75) hX dX5_takeNumber_74 rfl rfl ?_
        refine zt_iconst (pc' := 76) hX dX5_takeNumber_75 rfl ?_
        refine zt_aload_n (pc' := 77) hX dX5_takeNumber_76 rfl rfl ?_
        refine zt_get (pc' := 80) (v := .ref (X.1.1 + 30)) hX dX5_takeNumber_77 rfl zf_X5_18 (by decide) zc_27 zs_14 (zrf_of (zv_14_2 hI zc_27)) ?_
        refine zt_aload_n (pc' := 81) hX dX5_takeNumber_80 rfl rfl ?_
        refine zt_get (pc' := 84) (v := .int (zI (σ 27 6))) hX dX5_takeNumber_81 rfl zf_X5_31 (by decide) zc_27 zs_14 rfl ?_
        refine zt_iald (pc' := 85) hX dX5_takeNumber_84 rfl (by decide) zc_30 zs_17 (by decide) ⟨by omega, by omega⟩ ?_
        generalize hv13 : σ 30 ((σ 27 6).toNat) = v13
        have bv13 : 0 ≤ v13 ∧ v13 ≤ 10000 := hv13 ▸ zv_17 hI zc_30 _
        refine zt_cVv (pc' := 88) hX dX5_takeNumber_85 rfl zm_yX5_refuse zw_18_14 zc_27 (by decide) zs_14 (q := (RX5, TX5, 9)) rfl rfl (yc_X5_refuse _ _ σ hI 2 ⟨by omega, by omega⟩ v13 ⟨by omega, by omega⟩ (by omega) f hT) rfl rfl (Nat.le_of_ble_eq_true rfl) (by decide) (fun r14 s15 hr16 hp17 => ?_)
        obtain ⟨hI18, hF19, hT20, z21⟩ := hp17
        have hE22 : yst s15 = yPno 2 v13 (yst σ) := z21
        have hF23 := zOn_tr hF hF19 zi_id
        refine zt_goto (tgt := 98) hX dX5_takeNumber_88 (by decide) ?_
        refine zt_iload_n (pc' := 99) hX dX5_takeNumber_98 rfl rfl ?_
        exact zt_iret hX hR dX5_takeNumber_99 ⟨by omega, by omega⟩ ⟨hI18, hF23, by omega, by omega, hT20, hE22.trans (ypn_2 (by omega) (by omega) (fun o => by omega)), fun o => by rw [hE22, yPo_no] at o; exact absurd o (by decide), by omega⟩
      · refine zt_iload (pc' := 70) hX dX5_takeNumber_68 rfl rfl ?_
        refine zt_iload_n (pc' := 71) hX dX5_takeNumber_70 rfl rfl ?_
        refine zt_icle (pc' := 74) (tgt := 91) hX dX5_takeNumber_71 rfl (by decide) ⟨by omega, by omega⟩ ⟨by omega, by omega⟩ (fun c24 => ?_) (fun c24 => ?_)
        · refine zt_aload_n (pc' := 92) hX dX5_takeNumber_91 rfl rfl ?_
          refine zt_cVv (pc' := 95) hX dX5_takeNumber_92 rfl zm_yX5_step zw_18_10 zc_27 (by decide) zs_14 (q := (RX5, TX5, 9)) rfl rfl (yc_X5_step _ _ σ hI f hT) rfl rfl (Nat.le_of_ble_eq_true rfl) (by decide) (fun r25 s26 hr27 hp28 => ?_)
          obtain ⟨hI29, hF30, hT31, z32⟩ := hp28
          have hE33 : yst s26 = yPx f (yst σ) := z32
          have hF34 := zOn_tr hF hF30 zi_id
          refine zt_iload (pc' := 97) hX dX5_takeNumber_95 rfl rfl ?_
          exact zt_iret hX hR dX5_takeNumber_97 ⟨by omega, by omega⟩ ⟨hI29, hF34, by omega, by omega, hT31, hE33.trans (ypn_1 (by omega) (by omega)), fun o => by omega, by omega⟩
        · refine zt_aload_n (pc' := 75) hX dX5_takeNumber_74 rfl rfl ?_
          refine zt_iconst (pc' := 76) hX dX5_takeNumber_75 rfl ?_
          refine zt_aload_n (pc' := 77) hX dX5_takeNumber_76 rfl rfl ?_
          refine zt_get (pc' := 80) (v := .ref (X.1.1 + 30)) hX dX5_takeNumber_77 rfl zf_X5_18 (by decide) zc_27 zs_14 (zrf_of (zv_14_2 hI zc_27)) ?_
          refine zt_aload_n (pc' := 81) hX dX5_takeNumber_80 rfl rfl ?_
          refine zt_get (pc' := 84) (v := .int (zI (σ 27 6))) hX dX5_takeNumber_81 rfl zf_X5_31 (by decide) zc_27 zs_14 rfl ?_
          refine zt_iald (pc' := 85) hX dX5_takeNumber_84 rfl (by decide) zc_30 zs_17 (by decide) ⟨by omega, by omega⟩ ?_
          generalize hv35 : σ 30 ((σ 27 6).toNat) = v35
          have bv35 : 0 ≤ v35 ∧ v35 ≤ 10000 := hv35 ▸ zv_17 hI zc_30 _
          refine zt_cVv (pc' := 88) hX dX5_takeNumber_85 rfl zm_yX5_refuse zw_18_14 zc_27 (by decide) zs_14 (q := (RX5, TX5, 9)) rfl rfl (yc_X5_refuse _ _ σ hI 2 ⟨by omega, by omega⟩ v35 ⟨by omega, by omega⟩ (by omega) f hT) rfl rfl (Nat.le_of_ble_eq_true rfl) (by decide) (fun r36 s37 hr38 hp39 => ?_)
          obtain ⟨hI40, hF41, hT42, z43⟩ := hp39
          have hE44 : yst s37 = yPno 2 v35 (yst σ) := z43
          have hF45 := zOn_tr hF hF41 zi_id
          refine zt_goto (tgt := 98) hX dX5_takeNumber_88 (by decide) ?_
          refine zt_iload_n (pc' := 99) hX dX5_takeNumber_98 rfl rfl ?_
          exact zt_iret hX hR dX5_takeNumber_99 ⟨by omega, by omega⟩ ⟨hI40, hF45, by omega, by omega, hT42, hE44.trans (ypn_2 (by omega) (by omega) (fun o => by omega)), fun o => by rw [hE44, yPo_no] at o; exact absurd o (by decide), by omega⟩
    · refine zt_aload_n (pc' := 46) hX dX5_takeNumber_45 rfl rfl ?_
      refine zt_iconst (pc' := 47) hX dX5_takeNumber_46 rfl ?_
      refine zt_aload_n (pc' := 48) hX dX5_takeNumber_47 rfl rfl ?_
      refine zt_get (pc' := 51) (v := .ref (X.1.1 + 30)) hX dX5_takeNumber_48 rfl zf_X5_18 (by decide) zc_27 zs_14 (zrf_of (zv_14_2 hI zc_27)) ?_
      refine zt_aload_n (pc' := 52) hX dX5_takeNumber_51 rfl rfl ?_
      refine zt_get (pc' := 55) (v := .int (zI (σ 27 6))) hX dX5_takeNumber_52 rfl zf_X5_31 (by decide) zc_27 zs_14 rfl ?_
      refine zt_iald (pc' := 56) hX dX5_takeNumber_55 rfl (by decide) zc_30 zs_17 (by decide) ⟨by omega, by omega⟩ ?_
      generalize hv46 : σ 30 ((σ 27 6).toNat) = v46
      have bv46 : 0 ≤ v46 ∧ v46 ≤ 10000 := hv46 ▸ zv_17 hI zc_30 _
      refine zt_cVv (pc' := 59) hX dX5_takeNumber_56 rfl zm_yX5_refuse zw_18_14 zc_27 (by decide) zs_14 (q := (RX5, TX5, 9)) rfl rfl (yc_X5_refuse _ _ σ hI 1 ⟨by omega, by omega⟩ v46 ⟨by omega, by omega⟩ (by omega) f hT) rfl rfl (Nat.le_of_ble_eq_true rfl) (by decide) (fun r47 s48 hr49 hp50 => ?_)
      obtain ⟨hI51, hF52, hT53, z54⟩ := hp50
      have hE55 : yst s48 = yPno 1 v46 (yst σ) := z54
      have hF56 := zOn_tr hF hF52 zi_id
      refine zt_goto (tgt := 98) hX dX5_takeNumber_59 (by decide) ?_
      refine zt_iload_n (pc' := 99) hX dX5_takeNumber_98 rfl rfl ?_
      exact zt_iret hX hR dX5_takeNumber_99 ⟨by omega, by omega⟩ ⟨hI51, hF56, by omega, by omega, hT53, hE55.trans (ypn_n (by omega) (fun o => by omega)), fun o => by rw [hE55, yPo_no] at o; exact absurd o (by decide), by omega⟩
  · refine zt_aload_n (pc' := 22) hX dX5_takeNumber_21 rfl rfl ?_
    refine zt_iconst (pc' := 23) hX dX5_takeNumber_22 rfl ?_
    refine zt_aload_n (pc' := 24) hX dX5_takeNumber_23 rfl rfl ?_
    refine zt_get (pc' := 27) (v := .ref (X.1.1 + 30)) hX dX5_takeNumber_24 rfl zf_X5_18 (by decide) zc_27 zs_14 (zrf_of (zv_14_2 hI zc_27)) ?_
    refine zt_aload_n (pc' := 28) hX dX5_takeNumber_27 rfl rfl ?_
    refine zt_get (pc' := 31) (v := .int (zI (σ 27 6))) hX dX5_takeNumber_28 rfl zf_X5_31 (by decide) zc_27 zs_14 rfl ?_
    refine zt_iald (pc' := 32) hX dX5_takeNumber_31 rfl (by decide) zc_30 zs_17 (by decide) ⟨by omega, by omega⟩ ?_
    generalize hv57 : σ 30 ((σ 27 6).toNat) = v57
    have bv57 : 0 ≤ v57 ∧ v57 ≤ 10000 := hv57 ▸ zv_17 hI zc_30 _
    refine zt_iconst (pc' := 33) hX dX5_takeNumber_32 rfl ?_
    refine zt_iadd (pc' := 34) hX dX5_takeNumber_33 rfl ?_
    refine zt_cVv (pc' := 37) hX dX5_takeNumber_34 rfl zm_yX5_refuse zw_18_14 zc_27 (by decide) zs_14 (q := (RX5, TX5, 9)) rfl rfl (yc_X5_refuse _ _ σ hI 1 ⟨by omega, by omega⟩ (v57 + 4) ⟨by omega, by omega⟩ (by omega) f hT) rfl rfl (Nat.le_of_ble_eq_true rfl) (by decide) (fun r58 s59 hr60 hp61 => ?_)
    obtain ⟨hI62, hF63, hT64, z65⟩ := hp61
    have hE66 : yst s59 = yPno 1 (v57 + 4) (yst σ) := z65
    have hF67 := zOn_tr hF hF63 zi_id
    refine zt_goto (tgt := 98) hX dX5_takeNumber_37 (by decide) ?_
    refine zt_iload_n (pc' := 99) hX dX5_takeNumber_98 rfl rfl ?_
    exact zt_iret hX hR dX5_takeNumber_99 ⟨by omega, by omega⟩ ⟨hI62, hF67, by omega, by omega, hT64, hE66.trans (ypn_5 (by omega) (fun o => by omega)), fun o => by rw [hE66, yPo_no] at o; exact absurd o (by decide), by omega⟩
