set_option maxRecDepth 100000 in
set_option maxHeartbeats 4000000 in
theorem yc_X9_byteAt (l : Launch) (E : zEN) (σ : zSto) (hI : zInv σ) (a1_ : Int) (ha1_ : -2147483648 ≤ a1_ ∧ a1_ ≤ 2147483647) : zCt l E yX9_byteAt cX9_byteAt 2 (some .int) 0 zNC zNC 0 0 σ [.ref (E.1 + 1), .int (zI a1_)] (fun r σ' => σ = σ' ∧ -1 ≤ r ∧ r ≤ 255 ∧ (r = yT σ a1_)) := by
  refine zCt_of2 [some (.ref (E.1 + 1)), some (.int (zI a1_))] (by decide +kernel) (Nat.le_of_ble_eq_true rfl) rfl ?_
  intro X hE_ hX hR hL hN
  subst hE_
  have hX : zok X cX9_byteAt RX9 0 := hX
  refine zt_iload_n (pc' := 1) hX dX9_byteAt_0 rfl rfl ?_
  refine zt_iflt (pc' := 4) (tgt := 34) hX dX9_byteAt_1 rfl (by decide) ⟨by omega, by omega⟩ (fun c1 => ?_) (fun c1 => ?_)
  · refine zt_iconst (pc' := 35) hX dX9_byteAt_34 rfl ?_
    exact zt_iret hX hR dX9_byteAt_35 ⟨by omega, by omega⟩ ⟨rfl, by omega, by omega, (yT_0 (by omega)).symm⟩
  · refine zt_iload_n (pc' := 5) hX dX9_byteAt_4 rfl rfl ?_
    refine zt_aload_n (pc' := 6) hX dX9_byteAt_5 rfl rfl ?_
    have b2 := zv_2_1 hI zc_1
    refine zt_get (pc' := 9) (v := .int (zI (σ 1 1))) hX dX9_byteAt_6 rfl zf_X9_9 (by decide) zc_1 zs_2 rfl ?_
    refine zt_icge (pc' := 12) (tgt := 34) hX dX9_byteAt_9 rfl (by decide) ⟨by omega, by omega⟩ ⟨by omega, by omega⟩ (fun c3 => ?_) (fun c3 => ?_)
    · refine zt_iconst (pc' := 35) hX dX9_byteAt_34 rfl ?_
      exact zt_iret hX hR dX9_byteAt_35 ⟨by omega, by omega⟩ ⟨rfl, by omega, by omega, (yT_0 (by omega)).symm⟩
    · refine zt_iload_n (pc' := 13) hX dX9_byteAt_12 rfl rfl ?_
      refine zt_aload_n (pc' := 14) hX dX9_byteAt_13 rfl rfl ?_
      refine zt_get (pc' := 17) (v := .ref (X.1.1 + 2)) hX dX9_byteAt_14 rfl zf_X9_15 (by decide) zc_1 zs_2 (zrf_of (zv_2_0 hI zc_1)) ?_
      refine zt_alen (pc' := 18) hX dX9_byteAt_17 rfl (by decide) zc_2 zs_3 (by decide) ?_
      rw [show ((1600 : Nat) : Int) = 1600 from rfl]
      refine zt_icge (pc' := 21) (tgt := 34) hX dX9_byteAt_18 rfl (by decide) ⟨by omega, by omega⟩ ⟨by omega, by omega⟩ (fun c4 => ?_) (fun c4 => ?_)
      · exact absurd c4 (by omega)
      · refine zt_aload_n (pc' := 22) hX dX9_byteAt_21 rfl rfl ?_
        refine zt_get (pc' := 25) (v := .ref (X.1.1 + 2)) hX dX9_byteAt_22 rfl zf_X9_15 (by decide) zc_1 zs_2 (zrf_of (zv_2_0 hI zc_1)) ?_
        refine zt_iload_n (pc' := 26) hX dX9_byteAt_25 rfl rfl ?_
        refine zt_bald (pc' := 27) hX dX9_byteAt_26 rfl (by decide) zc_2 zs_3 (by decide) ⟨by omega, by omega⟩ ?_
        generalize hv5 : σ 2 (a1_.toNat) = v5
        have bv5 : -128 ≤ v5 ∧ v5 ≤ 127 := hv5 ▸ zv_3 hI zc_2 _
        refine zt_sipush (pc' := 30) hX dX9_byteAt_27 rfl (by decide) (by decide) ?_
        refine zt_iandm (pc' := 31) hX dX9_byteAt_30 rfl 8 (by decide +kernel) (by decide) (fun r6 er6 lr6 ur6 => ?_)
        have ur6 : r6 ≤ 255 := by omega
        refine zt_goto (tgt := 35) hX dX9_byteAt_31 (by decide) ?_
        exact zt_iret hX hR dX9_byteAt_35 ⟨by omega, by omega⟩ ⟨rfl, by omega, by omega, yT_b (by omega) (by omega) hv5 bv5 er6⟩
set_option maxRecDepth 100000 in
set_option maxHeartbeats 4000000 in
theorem yc_X5_isLetter (l : Launch) (E : zEN) (σ : zSto)  (a0_ : Int) (ha0_ : -2147483648 ≤ a0_ ∧ a0_ ≤ 2147483647) : zCt l E yX5_isLetter cX5_isLetter 1 (some .boolean) 0 zNC zNC 0 0 σ [.int (zI a0_)] (fun r σ' => σ = σ' ∧ 0 ≤ r ∧ r ≤ 1 ∧ ((97 ≤ a0_ ∧ a0_ ≤ 122 → r = 1) ∧ (¬ (97 ≤ a0_ ∧ a0_ ≤ 122) → r = 0))) := by
  refine zCt_of2 [some (.int (zI a0_))] (by decide +kernel) (Nat.le_of_ble_eq_true rfl) rfl ?_
  intro X hE_ hX hR hL hN
  subst hE_
  have hX : zok X cX5_isLetter RX5 0 := hX
  refine zt_iload_n (pc' := 1) hX dX5_isLetter_0 rfl rfl ?_
  refine zt_bipush (pc' := 3) hX dX5_isLetter_1 rfl (by decide) (by decide) ?_
  refine zt_iclt (pc' := 6) (tgt := 16) hX dX5_isLetter_3 rfl (by decide) ⟨by omega, by omega⟩ ⟨by omega, by omega⟩ (fun c1 => ?_) (fun c1 => ?_)
  · refine zt_iconst (pc' := 17) hX dX5_isLetter_16 rfl ?_
    exact zt_zret hX hR dX5_isLetter_17 ⟨by omega, by omega⟩ ⟨rfl, by omega, by omega, by omega⟩
  · refine zt_iload_n (pc' := 7) hX dX5_isLetter_6 rfl rfl ?_
    refine zt_bipush (pc' := 9) hX dX5_isLetter_7 rfl (by decide) (by decide) ?_
    refine zt_icgt (pc' := 12) (tgt := 16) hX dX5_isLetter_9 rfl (by decide) ⟨by omega, by omega⟩ ⟨by omega, by omega⟩ (fun c2 => ?_) (fun c2 => ?_)
    · refine zt_iconst (pc' := 17) hX dX5_isLetter_16 rfl ?_
      exact zt_zret hX hR dX5_isLetter_17 ⟨by omega, by omega⟩ ⟨rfl, by omega, by omega, by omega⟩
    · refine zt_iconst (pc' := 13) hX dX5_isLetter_12 rfl ?_
      refine zt_goto (tgt := 17) hX dX5_isLetter_13 (by decide) ?_
      exact zt_zret hX hR dX5_isLetter_17 ⟨by omega, by omega⟩ ⟨rfl, by omega, by omega, by omega⟩
set_option maxRecDepth 100000 in
set_option maxHeartbeats 4000000 in
theorem yc_X5_isDigit (l : Launch) (E : zEN) (σ : zSto)  (a0_ : Int) (ha0_ : -2147483648 ≤ a0_ ∧ a0_ ≤ 2147483647) : zCt l E yX5_isDigit cX5_isDigit 1 (some .boolean) 0 zNC zNC 0 0 σ [.int (zI a0_)] (fun r σ' => σ = σ' ∧ 0 ≤ r ∧ r ≤ 1 ∧ ((48 ≤ a0_ ∧ a0_ ≤ 57 → r = 1) ∧ (¬ (48 ≤ a0_ ∧ a0_ ≤ 57) → r = 0))) := by
  refine zCt_of2 [some (.int (zI a0_))] (by decide +kernel) (Nat.le_of_ble_eq_true rfl) rfl ?_
  intro X hE_ hX hR hL hN
  subst hE_
  have hX : zok X cX5_isDigit RX5 0 := hX
  refine zt_iload_n (pc' := 1) hX dX5_isDigit_0 rfl rfl ?_
  refine zt_bipush (pc' := 3) hX dX5_isDigit_1 rfl (by decide) (by decide) ?_
  refine zt_iclt (pc' := 6) (tgt := 16) hX dX5_isDigit_3 rfl (by decide) ⟨by omega, by omega⟩ ⟨by omega, by omega⟩ (fun c1 => ?_) (fun c1 => ?_)
  · refine zt_iconst (pc' := 17) hX dX5_isDigit_16 rfl ?_
    exact zt_zret hX hR dX5_isDigit_17 ⟨by omega, by omega⟩ ⟨rfl, by omega, by omega, by omega⟩
  · refine zt_iload_n (pc' := 7) hX dX5_isDigit_6 rfl rfl ?_
    refine zt_bipush (pc' := 9) hX dX5_isDigit_7 rfl (by decide) (by decide) ?_
    refine zt_icgt (pc' := 12) (tgt := 16) hX dX5_isDigit_9 rfl (by decide) ⟨by omega, by omega⟩ ⟨by omega, by omega⟩ (fun c2 => ?_) (fun c2 => ?_)
    · refine zt_iconst (pc' := 17) hX dX5_isDigit_16 rfl ?_
      exact zt_zret hX hR dX5_isDigit_17 ⟨by omega, by omega⟩ ⟨rfl, by omega, by omega, by omega⟩
    · refine zt_iconst (pc' := 13) hX dX5_isDigit_12 rfl ?_
      refine zt_goto (tgt := 17) hX dX5_isDigit_13 (by decide) ?_
      exact zt_zret hX hR dX5_isDigit_17 ⟨by omega, by omega⟩ ⟨rfl, by omega, by omega, by omega⟩
set_option maxRecDepth 100000 in
set_option maxHeartbeats 4000000 in
theorem yc_X5_knownWord (l : Launch) (E : zEN) (σ : zSto) (hI : zInv σ) (a1_ : Int) (ha1_ : -2147483648 ≤ a1_ ∧ a1_ ≤ 2147483647) (hW : yTab σ) : zCt l E yX5_knownWord cX5_knownWord 3 (some .int) 0 zNC zNC 0 0 σ [.ref (E.1 + 27), .int (zI a1_)] (fun r σ' => σ = σ' ∧ -1 ≤ r ∧ r ≤ 32 ∧ (r = yWn a1_)) := by
  refine zCt_of2 [some (.ref (E.1 + 27)), some (.int (zI a1_)), none] (by decide +kernel) (Nat.le_of_ble_eq_true rfl) rfl ?_
  intro X hE_ hX hR hL hN
  subst hE_
  have hX : zok X cX5_knownWord RX5 0 := hX
  refine zt_iconst (pc' := 1) hX dX5_knownWord_0 rfl ?_
  refine zt_istore_n (pc' := 2) (lv' := [some (.ref (X.1.1 + 27)), some (.int (zI a1_)), some (.int (zI 0))]) hX dX5_knownWord_1 rfl hL (by decide) rfl ?_
  have L_2_4 : ∀ (N : Nat) (x1 : Int), 0 ≤ x1 → x1 ≤ 33 → (∀ j : Nat, (j : Int) < x1 → yWc j ≠ a1_) → ((34 - x1).toNat) < N → zF X σ 2 [some (.ref (X.1.1 + 27)), some (.int (zI a1_)), some (.int (zI x1))] [] := by
    intro N
    induction N with
    | zero =>
      intro x1 h2 h3 g4 hm6
      exact absurd hm6 (Nat.not_lt_zero _)
    | succ N ih7 =>
      intro x1 h2 h3 g4 hm6
      refine zt_iload_n (pc' := 3) hX dX5_knownWord_2 rfl rfl ?_
      refine zt_bipush (pc' := 5) hX dX5_knownWord_3 rfl (by decide) (by decide) ?_
      refine zt_icge (pc' := 8) (tgt := 26) hX dX5_knownWord_5 rfl (by decide) ⟨by omega, by omega⟩ ⟨by omega, by omega⟩ (fun c8 => ?_) (fun c8 => ?_)
      · refine zt_iconst (pc' := 27) hX dX5_knownWord_26 rfl ?_
        exact zt_iret hX hR dX5_knownWord_27 ⟨by omega, by omega⟩ ⟨rfl, by omega, by omega, ykw_0 g4 (by omega)⟩
      · refine zt_aload_n (pc' := 9) hX dX5_knownWord_8 rfl rfl ?_
        refine zt_get (pc' := 12) (v := .ref (X.1.1 + 28)) hX dX5_knownWord_9 rfl zf_X5_9 (by decide) zc_27 zs_14 (zrf_of (zv_14_0 hI zc_27)) ?_
        refine zt_iload_n (pc' := 13) hX dX5_knownWord_12 rfl rfl ?_
        refine zt_iald (pc' := 14) hX dX5_knownWord_13 rfl (by decide) zc_28 zs_15 (by decide) ⟨by omega, by omega⟩ ?_
        generalize hv9 : σ 28 (x1.toNat) = v9
        have bv9 : -2147483648 ≤ v9 ∧ v9 ≤ 2147483647 := hv9 ▸ zv_15 hI zc_28 _
        refine zt_iload_n (pc' := 15) hX dX5_knownWord_14 rfl rfl ?_
        refine zt_icne (pc' := 18) (tgt := 20) hX dX5_knownWord_15 rfl (by decide) ⟨by omega, by omega⟩ ⟨by omega, by omega⟩ (fun c10 => ?_) (fun c10 => ?_)
        · refine zt_iinc (pc' := 23) (lv' := [some (.ref (X.1.1 + 27)), some (.int (zI a1_)), some (.int (zI (x1 + 1)))]) hX dX5_knownWord_20 rfl rfl hL (by decide) rfl ?_
          refine zt_goto (tgt := 2) hX dX5_knownWord_23 (by decide) ?_
          exact ih7 (x1 + 1) (by omega) (by omega) (ykw_s hW g4 (by omega) hv9 (by omega)) (by omega)
        · refine zt_iload_n (pc' := 19) hX dX5_knownWord_18 rfl rfl ?_
          exact zt_iret hX hR dX5_knownWord_19 ⟨by omega, by omega⟩ ⟨rfl, by omega, by omega, ykw_1 hW (by omega) (by omega)⟩
  exact L_2_4 _ 0 (by omega) (by omega) (fun j h => absurd h (by omega)) (Nat.lt_succ_self _)
set_option maxRecDepth 100000 in
set_option maxHeartbeats 4000000 in
theorem yc_X5_addToken (l : Launch) (E : zEN) (σ : zSto) (hI : zInv σ) (a1_ : Int) (ha1_ : 0 ≤ a1_ ∧ a1_ ≤ 6) (a2_ : Int) (ha2_ : 0 ≤ a2_ ∧ a2_ ≤ 10000) (a3_ : Int) (ha3_ : -2147483648 ≤ a3_ ∧ a3_ ≤ 2147483647) (a4_ : Int) (ha4_ : -1 ≤ a4_ ∧ a4_ ≤ 32) (hpre0 : σ 27 5 ≤ 1600) : zCt l E yX5_addToken cX5_addToken 5 none 0 zNC zNC 0 0 σ [.ref (E.1 + 27), .int (zI a1_), .int (zI a2_), .int (zI a3_), .int (zI a4_)] (fun r σ' => zInv σ' ∧ zOn zR0 σ σ' ∧ (yAdd σ σ' a1_ a2_ a3_ a4_)) := by
  refine zCt_of2 [some (.ref (E.1 + 27)), some (.int (zI a1_)), some (.int (zI a2_)), some (.int (zI a3_)), some (.int (zI a4_))] (by decide +kernel) (Nat.le_of_ble_eq_true rfl) rfl ?_
  intro X hE_ hX hR hL hN
  subst hE_
  have hX : zok X cX5_addToken RX5 0 := hX
  have hF := zOn_rf zR0 σ
  have b1 := zv_14_5 hI zc_27
  refine zt_aload_n (pc' := 1) hX dX5_addToken_0 rfl rfl ?_
  have b2 := zv_14_5 hI zc_27
  refine zt_get (pc' := 4) (v := .int (zI (σ 27 5))) hX dX5_addToken_1 rfl zf_X5_27 (by decide) zc_27 zs_14 rfl ?_
  refine zt_sipush (pc' := 7) hX dX5_addToken_4 rfl (by decide) (by decide) ?_
  refine zt_icgt (pc' := 10) (tgt := 61) hX dX5_addToken_7 rfl (by decide) ⟨by omega, by omega⟩ ⟨by omega, by omega⟩ (fun c3 => ?_) (fun c3 => ?_)
  · exact zt_vret hX hR dX5_addToken_61 ⟨hI, hF, (by exfalso; omega)⟩
  · refine zt_aload_n (pc' := 11) hX dX5_addToken_10 rfl rfl ?_
    refine zt_get (pc' := 14) (v := .ref (X.1.1 + 29)) hX dX5_addToken_11 rfl zf_X5_15 (by decide) zc_27 zs_14 (zrf_of (zv_14_1 hI zc_27)) ?_
    refine zt_aload_n (pc' := 15) hX dX5_addToken_14 rfl rfl ?_
    refine zt_get (pc' := 18) (v := .int (zI (σ 27 5))) hX dX5_addToken_15 rfl zf_X5_27 (by decide) zc_27 zs_14 rfl ?_
    refine zt_iload_n (pc' := 19) hX dX5_addToken_18 rfl rfl ?_
    refine zt_iast (pc' := 20) hX dX5_addToken_19 rfl (by decide) zc_29 zs_16 (by decide) ⟨by omega, by omega⟩ ?_
    generalize hs5 : zset σ 29 ((σ 27 5).toNat) a1_ = s4
    have hI6 : zInv s4 := hs5 ▸ zp_16 hI zc_29 ((σ 27 5).toNat) ⟨by omega, by omega⟩
    have hF7 : zOn zR0 σ s4 := hs5 ▸ zOn_set hF (zR0_a (by decide))
    have e8 : s4 27 5 = σ 27 5 := by rw [← hs5]; exact zset_k (zne_r zc_27 zc_29 (by decide))
    refine zt_aload_n (pc' := 21) hX dX5_addToken_20 rfl rfl ?_
    refine zt_get (pc' := 24) (v := .ref (X.1.1 + 30)) hX dX5_addToken_21 rfl zf_X5_18 (by decide) zc_27 zs_14 (zrf_of (zv_14_2 hI6 zc_27)) ?_
    refine zt_aload_n (pc' := 25) hX dX5_addToken_24 rfl rfl ?_
    have b9 := zv_14_5 hI6 zc_27
    refine zt_get (pc' := 28) (v := .int (zI (s4 27 5))) hX dX5_addToken_25 rfl zf_X5_27 (by decide) zc_27 zs_14 rfl ?_
    refine zt_iload_n (pc' := 29) hX dX5_addToken_28 rfl rfl ?_
    refine zt_iast (pc' := 30) hX dX5_addToken_29 rfl (by decide) zc_30 zs_17 (by decide) ⟨by omega, by omega⟩ ?_
    generalize hs11 : zset s4 30 ((s4 27 5).toNat) a2_ = s10
    have hI12 : zInv s10 := hs11 ▸ zp_17 hI6 zc_30 ((s4 27 5).toNat) ⟨by omega, by omega⟩
    have hF13 : zOn zR0 σ s10 := hs11 ▸ zOn_set hF7 (zR0_a (by decide))
    have e14 : s10 27 5 = s4 27 5 := by rw [← hs11]; exact zset_k (zne_r zc_27 zc_30 (by decide))
    refine zt_aload_n (pc' := 31) hX dX5_addToken_30 rfl rfl ?_
    refine zt_get (pc' := 34) (v := .ref (X.1.1 + 31)) hX dX5_addToken_31 rfl zf_X5_21 (by decide) zc_27 zs_14 (zrf_of (zv_14_3 hI12 zc_27)) ?_
    refine zt_aload_n (pc' := 35) hX dX5_addToken_34 rfl rfl ?_
    have b15 := zv_14_5 hI12 zc_27
    refine zt_get (pc' := 38) (v := .int (zI (s10 27 5))) hX dX5_addToken_35 rfl zf_X5_27 (by decide) zc_27 zs_14 rfl ?_
    refine zt_iload_n (pc' := 39) hX dX5_addToken_38 rfl rfl ?_
    refine zt_iast (pc' := 40) hX dX5_addToken_39 rfl (by decide) zc_31 zs_18 (by decide) ⟨by omega, by omega⟩ ?_
    generalize hs17 : zset s10 31 ((s10 27 5).toNat) a3_ = s16
    have hI18 : zInv s16 := hs17 ▸ zp_18 hI12 zc_31 ((s10 27 5).toNat) ⟨by omega, by omega⟩
    have hF19 : zOn zR0 σ s16 := hs17 ▸ zOn_set hF13 (zR0_a (by decide))
    have e20 : s16 27 5 = s10 27 5 := by rw [← hs17]; exact zset_k (zne_r zc_27 zc_31 (by decide))
    refine zt_aload_n (pc' := 41) hX dX5_addToken_40 rfl rfl ?_
    refine zt_get (pc' := 44) (v := .ref (X.1.1 + 32)) hX dX5_addToken_41 rfl zf_X5_24 (by decide) zc_27 zs_14 (zrf_of (zv_14_4 hI18 zc_27)) ?_
    refine zt_aload_n (pc' := 45) hX dX5_addToken_44 rfl rfl ?_
    have b21 := zv_14_5 hI18 zc_27
    refine zt_get (pc' := 48) (v := .int (zI (s16 27 5))) hX dX5_addToken_45 rfl zf_X5_27 (by decide) zc_27 zs_14 rfl ?_
    refine zt_iload (pc' := 50) hX dX5_addToken_48 rfl rfl ?_
    refine zt_iast (pc' := 51) hX dX5_addToken_50 rfl (by decide) zc_32 zs_19 (by decide) ⟨by omega, by omega⟩ ?_
    generalize hs23 : zset s16 32 ((s16 27 5).toNat) a4_ = s22
    have hI24 : zInv s22 := hs23 ▸ zp_19 hI18 zc_32 ((s16 27 5).toNat) ⟨by omega, by omega⟩
    have hF25 : zOn zR0 σ s22 := hs23 ▸ zOn_set hF19 (zR0_a (by decide))
    have e26 : s22 27 5 = s16 27 5 := by rw [← hs23]; exact zset_k (zne_r zc_27 zc_32 (by decide))
    refine zt_aload_n (pc' := 52) hX dX5_addToken_51 rfl rfl ?_
    refine zt_dup (pc' := 53) hX dX5_addToken_52 rfl rfl ?_
    have b27 := zv_14_5 hI24 zc_27
    refine zt_get (pc' := 56) (v := .int (zI (s22 27 5))) hX dX5_addToken_53 rfl zf_X5_27 (by decide) zc_27 zs_14 rfl ?_
    refine zt_iconst (pc' := 57) hX dX5_addToken_56 rfl ?_
    refine zt_iadd (pc' := 58) hX dX5_addToken_57 rfl ?_
    refine zt_put (pc' := 61) (x := ((s22 27 5) + 1)) hX dX5_addToken_58 rfl zf_X5_27 (by decide) zc_27 zs_14 (fun q hq => by cases hq; rfl) rfl rfl rfl ?_
    generalize hs29 : zset s22 27 5 ((s22 27 5) + 1) = s28
    have hI30 : zInv s28 := hs29 ▸ zp_14_5 hI24 zc_27 ⟨by omega, by omega⟩
    have hF31 : zOn zR0 σ s28 := hs29 ▸ zOn_set hF25 (by decide)
    have e32 : s28 27 5 = ((s22 27 5) + 1) := by rw [← hs29]; exact zset_s
    exact zt_vret hX hR dX5_addToken_61 ⟨hI30, hF31, yAdd_of rfl hs5 hs11 hs17 hs23 hs29 (by omega) (by omega) (by omega) (by omega)⟩
set_option maxRecDepth 100000 in
set_option maxHeartbeats 4000000 in
theorem yc_X5_cutWord (l : Launch) (E : zEN) (σ : zSto) (hI : zInv σ) (a2_ : Int) (ha2_ : 0 ≤ a2_ ∧ a2_ ≤ 1600) (hpre0 : σ 27 5 ≤ 1600) (hW : yTab σ) (hw : yL (yT σ a2_) = true) : zCt l E yX5_cutWord cX5_cutWord 6 (some .int) 1 zNC zNC 0 0 σ [.ref (E.1 + 27), .ref (E.1 + 1), .int (zI a2_)] (fun r σ' => zInv σ' ∧ zOn zR0 σ σ' ∧ 0 ≤ r ∧ r ≤ 1600 ∧ (yCut (yT σ) σ σ' a2_) ∧ (r = yWe (yT σ) a2_ - a2_)) := by
  refine zCt_of2 [some (.ref (E.1 + 27)), some (.ref (E.1 + 1)), some (.int (zI a2_)), none, none, none] (by decide +kernel) (Nat.le_of_ble_eq_true rfl) rfl ?_
  intro X hE_ hX hR hL hN
  subst hE_
  have hX : zok X cX5_cutWord RX5 1 := hX
  have hF := zOn_rf zR0 σ
  refine zt_iconst (pc' := 1) hX dX5_cutWord_0 rfl ?_
  refine zt_istore_n (pc' := 2) (lv' := [some (.ref (X.1.1 + 27)), some (.ref (X.1.1 + 1)), some (.int (zI a2_)), some (.int (zI 0)), none, none]) hX dX5_cutWord_1 rfl hL (by decide) rfl ?_
  refine zt_iconst (pc' := 3) hX dX5_cutWord_2 rfl ?_
  refine zt_istore (pc' := 5) (lv' := [some (.ref (X.1.1 + 27)), some (.ref (X.1.1 + 1)), some (.int (zI a2_)), some (.int (zI 0)), some (.int (zI 0)), none]) hX dX5_cutWord_3 rfl hL (by decide) rfl ?_
  refine zt_iload_n (pc' := 6) hX dX5_cutWord_5 rfl rfl ?_
  refine zt_istore (pc' := 8) (lv' := [some (.ref (X.1.1 + 27)), some (.ref (X.1.1 + 1)), some (.int (zI a2_)), some (.int (zI 0)), some (.int (zI 0)), some (.int (zI a2_))]) hX dX5_cutWord_6 rfl hL (by decide) rfl ?_
  have L_8_12 : ∀ (N : Nat) (x1 : Int) (x4 : Int) (x7 : Int), 0 ≤ x1 → x1 ≤ 1600 → -2147483648 ≤ x4 → x4 ≤ 2147483647 → 0 ≤ x7 → x7 ≤ 1600 → x1 = x7 - a2_ → (∀ j, a2_ ≤ j → j < x7 → yL (yT σ j) = true) → yct (yT σ) a2_ x1 = x4 → ((1601 - x1).toNat) < N → zF X σ 8 [some (.ref (X.1.1 + 27)), some (.ref (X.1.1 + 1)), some (.int (zI a2_)), some (.int (zI x1)), some (.int (zI x4)), some (.int (zI x7))] [] := by
    intro N
    induction N with
    | zero =>
      intro x1 x4 x7 h2 h3 h5 h6 h8 h9 g10 g11 g12 hm14
      exact absurd hm14 (Nat.not_lt_zero _)
    | succ N ih15 =>
      intro x1 x4 x7 h2 h3 h5 h6 h8 h9 g10 g11 g12 hm14
      have hb4 := yct_b (p := a2_) (by omega) g12 (fun j h1 h2 => g11 j h1 (by omega))
      refine zt_iload (pc' := 10) hX dX5_cutWord_8 rfl rfl ?_
      refine zt_aload_n (pc' := 11) hX dX5_cutWord_10 rfl rfl ?_
      have b16 := zv_2_1 hI zc_1
      refine zt_get (pc' := 14) (v := .int (zI (σ 1 1))) hX dX5_cutWord_11 rfl zf_X5_55 (by decide) zc_1 zs_2 rfl ?_
      refine zt_icge (pc' := 17) (tgt := 64) hX dX5_cutWord_14 rfl (by decide) ⟨by omega, by omega⟩ ⟨by omega, by omega⟩ (fun c17 => ?_) (fun c17 => ?_)
      · refine zt_aload_n (pc' := 65) hX dX5_cutWord_64 rfl rfl ?_
        refine zt_iload_n (pc' := 66) hX dX5_cutWord_65 rfl rfl ?_
        refine zt_iconst (pc' := 67) hX dX5_cutWord_66 rfl ?_
        refine zt_isub (pc' := 68) hX dX5_cutWord_67 rfl ?_
        refine zt_cVi (pc' := 71) hX dX5_cutWord_68 rfl zm_yX9_byteAt zw_16_15 zc_1 (by decide) zs_2 (q := (RX9, TX9, 2)) rfl rfl (yc_X9_byteAt _ _ σ hI (a2_ - 1) ⟨by omega, by omega⟩) rfl rfl (Nat.le_of_ble_eq_true rfl) (by decide) (fun r18 s19 hr20 hp21 => ?_)
        obtain ⟨rfl, q22, q23, z24⟩ := hp21
        have hWe : yWe (yT σ) a2_ = x7 := yE_u (yT_tx hI) yL_m (by omega) (by omega) g11 (by rw [yT_0 (by omega)]; exact yL_m)
        have hWn : yWe (yT σ) a2_ = a2_ + x1 := by omega
        have hpos : a2_ + 1 ≤ yWe (yT σ) a2_ ∧ yWe (yT σ) a2_ ≤ 1600 := yWe_b (yT_tx hI) (by omega) hw
        refine zt_cSz (pc' := 74) hX dX5_cutWord_71 rfl zm_yX5_isDigit zw_17_2 (yc_X5_isDigit _ _ σ  r18 ⟨by omega, by omega⟩) rfl rfl (Nat.le_of_ble_eq_true rfl) (by decide) (fun r25 s26 hr27 hp28 => ?_)
        obtain ⟨rfl, q29, q30, z31⟩ := hp28
        refine zt_ifeq (pc' := 77) (tgt := 89) hX dX5_cutWord_74 rfl (by decide) ⟨by omega, by omega⟩ (fun c32 => ?_) (fun c32 => ?_)
        · refine zt_iload_n (pc' := 90) hX dX5_cutWord_89 rfl rfl ?_
          refine zt_bipush (pc' := 92) hX dX5_cutWord_90 rfl (by decide) (by decide) ?_
          refine zt_icle (pc' := 95) (tgt := 107) hX dX5_cutWord_92 rfl (by decide) ⟨by omega, by omega⟩ ⟨by omega, by omega⟩ (fun c33 => ?_) (fun c33 => ?_)
          · refine zt_aload_n (pc' := 108) hX dX5_cutWord_107 rfl rfl ?_
            refine zt_iconst (pc' := 109) hX dX5_cutWord_108 rfl ?_
            refine zt_iload_n (pc' := 110) hX dX5_cutWord_109 rfl rfl ?_
            refine zt_iload (pc' := 112) hX dX5_cutWord_110 rfl rfl ?_
            refine zt_aload_n (pc' := 113) hX dX5_cutWord_112 rfl rfl ?_
            refine zt_iload (pc' := 115) hX dX5_cutWord_113 rfl rfl ?_
            refine zt_cVi (pc' := 118) hX dX5_cutWord_115 rfl zm_yX5_knownWord zw_17_9 zc_27 (by decide) zs_14 (q := (RX5, TX5, 9)) rfl rfl (yc_X5_knownWord _ _ σ hI x4 ⟨by omega, by omega⟩ hW) rfl rfl (Nat.le_of_ble_eq_true rfl) (by decide) (fun r34 s35 hr36 hp37 => ?_)
            obtain ⟨rfl, q38, q39, z40⟩ := hp37
            refine zt_cVv (pc' := 121) hX dX5_cutWord_118 rfl zm_yX5_addToken zw_17_5 zc_27 (by decide) zs_14 (q := (RX5, TX5, 9)) rfl rfl (yc_X5_addToken _ _ σ hI 1 ⟨by omega, by omega⟩ a2_ ⟨by omega, by omega⟩ x4 ⟨by omega, by omega⟩ r34 ⟨by omega, by omega⟩ (by omega)) rfl rfl (Nat.le_of_ble_eq_true rfl) (by decide) (fun r41 s42 hr43 hp44 => ?_)
            obtain ⟨hI45, hF46, z47⟩ := hp44
            have hF48 := zOn_tr hF hF46 zi_id
            refine zt_iload_n (pc' := 122) hX dX5_cutWord_121 rfl rfl ?_
            rw [z24] at z31
            exact zt_iret hX hR dX5_cutWord_122 ⟨by omega, by omega⟩ ⟨hI45, hF48, by omega, by omega, ycw1 hw (by omega) hWn (by omega) g12 z40 z47, (by omega)⟩
          · refine zt_aload_n (pc' := 96) hX dX5_cutWord_95 rfl rfl ?_
            refine zt_iconst (pc' := 97) hX dX5_cutWord_96 rfl ?_
            refine zt_iload_n (pc' := 98) hX dX5_cutWord_97 rfl rfl ?_
            refine zt_iload (pc' := 100) hX dX5_cutWord_98 rfl rfl ?_
            refine zt_iconst (pc' := 101) hX dX5_cutWord_100 rfl ?_
            refine zt_cVv (pc' := 104) hX dX5_cutWord_101 rfl zm_yX5_addToken zw_17_5 zc_27 (by decide) zs_14 (q := (RX5, TX5, 9)) rfl rfl (yc_X5_addToken _ _ σ hI 4 ⟨by omega, by omega⟩ a2_ ⟨by omega, by omega⟩ x4 ⟨by omega, by omega⟩ (-1) ⟨by omega, by omega⟩ (by omega)) rfl rfl (Nat.le_of_ble_eq_true rfl) (by decide) (fun r49 s50 hr51 hp52 => ?_)
            obtain ⟨hI53, hF54, z55⟩ := hp52
            have hF56 := zOn_tr hF hF54 zi_id
            refine zt_goto (tgt := 121) hX dX5_cutWord_104 (by decide) ?_
            refine zt_iload_n (pc' := 122) hX dX5_cutWord_121 rfl rfl ?_
            rw [z24] at z31
            exact zt_iret hX hR dX5_cutWord_122 ⟨by omega, by omega⟩ ⟨hI53, hF56, by omega, by omega, ycw4 hw (by omega) hWn (by omega) g12 z55, (by omega)⟩
        · refine zt_aload_n (pc' := 78) hX dX5_cutWord_77 rfl rfl ?_
          refine zt_bipush (pc' := 80) hX dX5_cutWord_78 rfl (by decide) (by decide) ?_
          refine zt_iload_n (pc' := 81) hX dX5_cutWord_80 rfl rfl ?_
          refine zt_iconst (pc' := 82) hX dX5_cutWord_81 rfl ?_
          refine zt_iconst (pc' := 83) hX dX5_cutWord_82 rfl ?_
          refine zt_cVv (pc' := 86) hX dX5_cutWord_83 rfl zm_yX5_addToken zw_17_5 zc_27 (by decide) zs_14 (q := (RX5, TX5, 9)) rfl rfl (yc_X5_addToken _ _ σ hI 6 ⟨by omega, by omega⟩ a2_ ⟨by omega, by omega⟩ (-1) ⟨by omega, by omega⟩ (-1) ⟨by omega, by omega⟩ (by omega)) rfl rfl (Nat.le_of_ble_eq_true rfl) (by decide) (fun r57 s58 hr59 hp60 => ?_)
          obtain ⟨hI61, hF62, z63⟩ := hp60
          have hF64 := zOn_tr hF hF62 zi_id
          refine zt_goto (tgt := 121) hX dX5_cutWord_86 (by decide) ?_
          refine zt_iload_n (pc' := 122) hX dX5_cutWord_121 rfl rfl ?_
          rw [z24] at z31
          exact zt_iret hX hR dX5_cutWord_122 ⟨by omega, by omega⟩ ⟨hI61, hF64, by omega, by omega, ycw6 hw (by omega) z63, (by omega)⟩
      · refine zt_aload_n (pc' := 18) hX dX5_cutWord_17 rfl rfl ?_
        refine zt_iload (pc' := 20) hX dX5_cutWord_18 rfl rfl ?_
        refine zt_cVi (pc' := 23) hX dX5_cutWord_20 rfl zm_yX9_byteAt zw_16_15 zc_1 (by decide) zs_2 (q := (RX9, TX9, 2)) rfl rfl (yc_X9_byteAt _ _ σ hI x7 ⟨by omega, by omega⟩) rfl rfl (Nat.le_of_ble_eq_true rfl) (by decide) (fun r65 s66 hr67 hp68 => ?_)
        obtain ⟨rfl, q69, q70, z71⟩ := hp68
        refine zt_cSz (pc' := 26) hX dX5_cutWord_23 rfl zm_yX5_isLetter zw_16_19 (yc_X5_isLetter _ _ σ  r65 ⟨by omega, by omega⟩) rfl rfl (Nat.le_of_ble_eq_true rfl) (by decide) (fun r72 s73 hr74 hp75 => ?_)
        obtain ⟨rfl, q76, q77, z78⟩ := hp75
        refine zt_ifeq (pc' := 29) (tgt := 64) hX dX5_cutWord_26 rfl (by decide) ⟨by omega, by omega⟩ (fun c79 => ?_) (fun c79 => ?_)
        · refine zt_aload_n (pc' := 65) hX dX5_cutWord_64 rfl rfl ?_
          refine zt_iload_n (pc' := 66) hX dX5_cutWord_65 rfl rfl ?_
          refine zt_iconst (pc' := 67) hX dX5_cutWord_66 rfl ?_
          refine zt_isub (pc' := 68) hX dX5_cutWord_67 rfl ?_
          refine zt_cVi (pc' := 71) hX dX5_cutWord_68 rfl zm_yX9_byteAt zw_16_15 zc_1 (by decide) zs_2 (q := (RX9, TX9, 2)) rfl rfl (yc_X9_byteAt _ _ σ hI (a2_ - 1) ⟨by omega, by omega⟩) rfl rfl (Nat.le_of_ble_eq_true rfl) (by decide) (fun r80 s81 hr82 hp83 => ?_)
          obtain ⟨rfl, q84, q85, z86⟩ := hp83
          have hWe : yWe (yT σ) a2_ = x7 := yE_u (yT_tx hI) yL_m (by omega) (by omega) g11 (Bool.eq_false_iff.mpr (fun c => by have c := yL_t.mp c; omega))
          have hWn : yWe (yT σ) a2_ = a2_ + x1 := by omega
          have hpos : a2_ + 1 ≤ yWe (yT σ) a2_ ∧ yWe (yT σ) a2_ ≤ 1600 := yWe_b (yT_tx hI) (by omega) hw
          refine zt_cSz (pc' := 74) hX dX5_cutWord_71 rfl zm_yX5_isDigit zw_17_2 (yc_X5_isDigit _ _ σ  r80 ⟨by omega, by omega⟩) rfl rfl (Nat.le_of_ble_eq_true rfl) (by decide) (fun r87 s88 hr89 hp90 => ?_)
          obtain ⟨rfl, q91, q92, z93⟩ := hp90
          refine zt_ifeq (pc' := 77) (tgt := 89) hX dX5_cutWord_74 rfl (by decide) ⟨by omega, by omega⟩ (fun c94 => ?_) (fun c94 => ?_)
          · refine zt_iload_n (pc' := 90) hX dX5_cutWord_89 rfl rfl ?_
            refine zt_bipush (pc' := 92) hX dX5_cutWord_90 rfl (by decide) (by decide) ?_
            refine zt_icle (pc' := 95) (tgt := 107) hX dX5_cutWord_92 rfl (by decide) ⟨by omega, by omega⟩ ⟨by omega, by omega⟩ (fun c95 => ?_) (fun c95 => ?_)
            · refine zt_aload_n (pc' := 108) hX dX5_cutWord_107 rfl rfl ?_
              refine zt_iconst (pc' := 109) hX dX5_cutWord_108 rfl ?_
              refine zt_iload_n (pc' := 110) hX dX5_cutWord_109 rfl rfl ?_
              refine zt_iload (pc' := 112) hX dX5_cutWord_110 rfl rfl ?_
              refine zt_aload_n (pc' := 113) hX dX5_cutWord_112 rfl rfl ?_
              refine zt_iload (pc' := 115) hX dX5_cutWord_113 rfl rfl ?_
              refine zt_cVi (pc' := 118) hX dX5_cutWord_115 rfl zm_yX5_knownWord zw_17_9 zc_27 (by decide) zs_14 (q := (RX5, TX5, 9)) rfl rfl (yc_X5_knownWord _ _ σ hI x4 ⟨by omega, by omega⟩ hW) rfl rfl (Nat.le_of_ble_eq_true rfl) (by decide) (fun r96 s97 hr98 hp99 => ?_)
              obtain ⟨rfl, q100, q101, z102⟩ := hp99
              refine zt_cVv (pc' := 121) hX dX5_cutWord_118 rfl zm_yX5_addToken zw_17_5 zc_27 (by decide) zs_14 (q := (RX5, TX5, 9)) rfl rfl (yc_X5_addToken _ _ σ hI 1 ⟨by omega, by omega⟩ a2_ ⟨by omega, by omega⟩ x4 ⟨by omega, by omega⟩ r96 ⟨by omega, by omega⟩ (by omega)) rfl rfl (Nat.le_of_ble_eq_true rfl) (by decide) (fun r103 s104 hr105 hp106 => ?_)
              obtain ⟨hI107, hF108, z109⟩ := hp106
              have hF110 := zOn_tr hF hF108 zi_id
              refine zt_iload_n (pc' := 122) hX dX5_cutWord_121 rfl rfl ?_
              rw [z86] at z93
              exact zt_iret hX hR dX5_cutWord_122 ⟨by omega, by omega⟩ ⟨hI107, hF110, by omega, by omega, ycw1 hw (by omega) hWn (by omega) g12 z102 z109, (by omega)⟩
            · refine zt_aload_n (pc' := 96) hX dX5_cutWord_95 rfl rfl ?_
              refine zt_iconst (pc' := 97) hX dX5_cutWord_96 rfl ?_
              refine zt_iload_n (pc' := 98) hX dX5_cutWord_97 rfl rfl ?_
              refine zt_iload (pc' := 100) hX dX5_cutWord_98 rfl rfl ?_
              refine zt_iconst (pc' := 101) hX dX5_cutWord_100 rfl ?_
              refine zt_cVv (pc' := 104) hX dX5_cutWord_101 rfl zm_yX5_addToken zw_17_5 zc_27 (by decide) zs_14 (q := (RX5, TX5, 9)) rfl rfl (yc_X5_addToken _ _ σ hI 4 ⟨by omega, by omega⟩ a2_ ⟨by omega, by omega⟩ x4 ⟨by omega, by omega⟩ (-1) ⟨by omega, by omega⟩ (by omega)) rfl rfl (Nat.le_of_ble_eq_true rfl) (by decide) (fun r111 s112 hr113 hp114 => ?_)
              obtain ⟨hI115, hF116, z117⟩ := hp114
              have hF118 := zOn_tr hF hF116 zi_id
              refine zt_goto (tgt := 121) hX dX5_cutWord_104 (by decide) ?_
              refine zt_iload_n (pc' := 122) hX dX5_cutWord_121 rfl rfl ?_
              rw [z86] at z93
              exact zt_iret hX hR dX5_cutWord_122 ⟨by omega, by omega⟩ ⟨hI115, hF118, by omega, by omega, ycw4 hw (by omega) hWn (by omega) g12 z117, (by omega)⟩
          · refine zt_aload_n (pc' := 78) hX dX5_cutWord_77 rfl rfl ?_
            refine zt_bipush (pc' := 80) hX dX5_cutWord_78 rfl (by decide) (by decide) ?_
            refine zt_iload_n (pc' := 81) hX dX5_cutWord_80 rfl rfl ?_
            refine zt_iconst (pc' := 82) hX dX5_cutWord_81 rfl ?_
            refine zt_iconst (pc' := 83) hX dX5_cutWord_82 rfl ?_
            refine zt_cVv (pc' := 86) hX dX5_cutWord_83 rfl zm_yX5_addToken zw_17_5 zc_27 (by decide) zs_14 (q := (RX5, TX5, 9)) rfl rfl (yc_X5_addToken _ _ σ hI 6 ⟨by omega, by omega⟩ a2_ ⟨by omega, by omega⟩ (-1) ⟨by omega, by omega⟩ (-1) ⟨by omega, by omega⟩ (by omega)) rfl rfl (Nat.le_of_ble_eq_true rfl) (by decide) (fun r119 s120 hr121 hp122 => ?_)
            obtain ⟨hI123, hF124, z125⟩ := hp122
            have hF126 := zOn_tr hF hF124 zi_id
            refine zt_goto (tgt := 121) hX dX5_cutWord_86 (by decide) ?_
            refine zt_iload_n (pc' := 122) hX dX5_cutWord_121 rfl rfl ?_
            rw [z86] at z93
            exact zt_iret hX hR dX5_cutWord_122 ⟨by omega, by omega⟩ ⟨hI123, hF126, by omega, by omega, ycw6 hw (by omega) z125, (by omega)⟩
        · refine zt_iload_n (pc' := 30) hX dX5_cutWord_29 rfl rfl ?_
          refine zt_bipush (pc' := 32) hX dX5_cutWord_30 rfl (by decide) (by decide) ?_
          refine zt_icge (pc' := 35) (tgt := 55) hX dX5_cutWord_32 rfl (by decide) ⟨by omega, by omega⟩ ⟨by omega, by omega⟩ (fun c127 => ?_) (fun c127 => ?_)
          · refine zt_iinc (pc' := 58) (lv' := [some (.ref (X.1.1 + 27)), some (.ref (X.1.1 + 1)), some (.int (zI a2_)), some (.int (zI (x1 + 1))), some (.int (zI x4)), some (.int (zI x7))]) hX dX5_cutWord_55 rfl rfl hL (by decide) rfl ?_
            refine zt_iinc (pc' := 61) (lv' := [some (.ref (X.1.1 + 27)), some (.ref (X.1.1 + 1)), some (.int (zI a2_)), some (.int (zI (x1 + 1))), some (.int (zI x4)), some (.int (zI (x7 + 1)))]) hX dX5_cutWord_58 rfl rfl hL (by decide) rfl ?_
            refine zt_goto (tgt := 8) hX dX5_cutWord_61 (by decide) ?_
            exact ih15 (x1 + 1) x4 (x7 + 1) (by omega) (by omega) (by omega) (by omega) (by omega) (by omega) (by omega) (yall_s g11 (yL_t.mpr (by omega))) (yct_t (by omega) g12) (by omega)
          · refine zt_iload (pc' := 37) hX dX5_cutWord_35 rfl rfl ?_
            refine zt_aload_n (pc' := 38) hX dX5_cutWord_37 rfl rfl ?_
            refine zt_iload (pc' := 40) hX dX5_cutWord_38 rfl rfl ?_
            refine zt_cVi (pc' := 43) hX dX5_cutWord_40 rfl zm_yX9_byteAt zw_16_15 zc_1 (by decide) zs_2 (q := (RX9, TX9, 2)) rfl rfl (yc_X9_byteAt _ _ σ hI x7 ⟨by omega, by omega⟩) rfl rfl (Nat.le_of_ble_eq_true rfl) (by decide) (fun r128 s129 hr130 hp131 => ?_)
            obtain ⟨rfl, q132, q133, z134⟩ := hp131
            refine zt_bipush (pc' := 45) hX dX5_cutWord_43 rfl (by decide) (by decide) ?_
            refine zt_isub (pc' := 46) hX dX5_cutWord_45 rfl ?_
            refine zt_lwgetN (pc' := 49) hX dX5_cutWord_46 rfl (by decide +kernel) (fun t135 hT136 => ?_)
            refine zt_iload_n (pc' := 50) hX dX5_cutWord_49 rfl rfl ?_
            refine zt_lwald (pc' := 51) hX dX5_cutWord_50 rfl hT136 ⟨by omega, by omega⟩ ?_
            generalize hv137 : zlw x1.toNat = v137
            have bv137 : 1 ≤ v137 ∧ v137 ≤ 14348907 := hv137 ▸ zlw_b _
            refine zt_imul (pc' := 52) hX dX5_cutWord_51 rfl ?_
            refine zt_wrap (fun r138 zr138 lr138 ur138 => ?_)
            replace zr138 := ywr_eq zr138
            refine zt_iadd (pc' := 53) hX dX5_cutWord_52 rfl ?_
            refine zt_wrap (fun r139 zr139 lr139 ur139 => ?_)
            replace zr139 := ywr_eq zr139
            refine zt_istore (pc' := 55) (lv' := [some (.ref (X.1.1 + 27)), some (.ref (X.1.1 + 1)), some (.int (zI a2_)), some (.int (zI x1)), some (.int (zI r139)), some (.int (zI x7))]) hX dX5_cutWord_53 rfl hL (by decide) rfl ?_
            refine zt_iinc (pc' := 58) (lv' := [some (.ref (X.1.1 + 27)), some (.ref (X.1.1 + 1)), some (.int (zI a2_)), some (.int (zI (x1 + 1))), some (.int (zI r139)), some (.int (zI x7))]) hX dX5_cutWord_55 rfl rfl hL (by decide) rfl ?_
            refine zt_iinc (pc' := 61) (lv' := [some (.ref (X.1.1 + 27)), some (.ref (X.1.1 + 1)), some (.int (zI a2_)), some (.int (zI (x1 + 1))), some (.int (zI r139)), some (.int (zI (x7 + 1)))]) hX dX5_cutWord_58 rfl rfl hL (by decide) rfl ?_
            refine zt_goto (tgt := 8) hX dX5_cutWord_61 (by decide) ?_
            exact ih15 (x1 + 1) r139 (x7 + 1) (by omega) (by omega) (by omega) (by omega) (by omega) (by omega) (by omega) (yall_s g11 (yL_t.mpr (by omega))) (by have m := ymul zr138 (by omega) bv137; have t := yct_s (p := a2_) (by omega) g12 (show r128 = _ by rw [z134]; congr 1; omega) hv137 m.1; rw [t]; omega) (by omega)
  exact L_8_12 _ 0 0 a2_ (by omega) (by omega) (by omega) (by omega) (by omega) (by omega) (by omega) (fun j h1 h2 => absurd h2 (by omega)) (by rfl) (Nat.lt_succ_self _)
set_option maxRecDepth 100000 in
set_option maxHeartbeats 4000000 in
theorem yc_X5_cutNumber (l : Launch) (E : zEN) (σ : zSto) (hI : zInv σ) (a2_ : Int) (ha2_ : 0 ≤ a2_ ∧ a2_ ≤ 1600) (hpre0 : σ 27 5 ≤ 1600) (hW : yTab σ) (hw : yD (yT σ a2_) = true) : zCt l E yX5_cutNumber cX5_cutNumber 6 (some .int) 1 zNC zNC 0 0 σ [.ref (E.1 + 27), .ref (E.1 + 1), .int (zI a2_)] (fun r σ' => zInv σ' ∧ zOn zR0 σ σ' ∧ 0 ≤ r ∧ r ≤ 1600 ∧ (yCut (yT σ) σ σ' a2_) ∧ (r = yNe (yT σ) a2_ - a2_)) := by
  refine zCt_of2 [some (.ref (E.1 + 27)), some (.ref (E.1 + 1)), some (.int (zI a2_)), none, none, none] (by decide +kernel) (Nat.le_of_ble_eq_true rfl) rfl ?_
  intro X hE_ hX hR hL hN
  subst hE_
  have hX : zok X cX5_cutNumber RX5 1 := hX
  have hF := zOn_rf zR0 σ
  refine zt_iconst (pc' := 1) hX dX5_cutNumber_0 rfl ?_
  refine zt_istore_n (pc' := 2) (lv' := [some (.ref (X.1.1 + 27)), some (.ref (X.1.1 + 1)), some (.int (zI a2_)), some (.int (zI 0)), none, none]) hX dX5_cutNumber_1 rfl hL (by decide) rfl ?_
  refine zt_iconst (pc' := 3) hX dX5_cutNumber_2 rfl ?_
  refine zt_istore (pc' := 5) (lv' := [some (.ref (X.1.1 + 27)), some (.ref (X.1.1 + 1)), some (.int (zI a2_)), some (.int (zI 0)), some (.int (zI 0)), none]) hX dX5_cutNumber_3 rfl hL (by decide) rfl ?_
  refine zt_iload_n (pc' := 6) hX dX5_cutNumber_5 rfl rfl ?_
  refine zt_istore (pc' := 8) (lv' := [some (.ref (X.1.1 + 27)), some (.ref (X.1.1 + 1)), some (.int (zI a2_)), some (.int (zI 0)), some (.int (zI 0)), some (.int (zI a2_))]) hX dX5_cutNumber_6 rfl hL (by decide) rfl ?_
  have L_8_12 : ∀ (N : Nat) (x1 : Int) (x4 : Int) (x7 : Int), 0 ≤ x1 → x1 ≤ 1600 → -2147483648 ≤ x4 → x4 ≤ 2147483647 → 0 ≤ x7 → x7 ≤ 1600 → x1 = x7 - a2_ → (∀ j, a2_ ≤ j → j < x7 → yD (yT σ j) = true) → yNt (yT σ) a2_ x1 = x4 → ((1601 - x1).toNat) < N → zF X σ 8 [some (.ref (X.1.1 + 27)), some (.ref (X.1.1 + 1)), some (.int (zI a2_)), some (.int (zI x1)), some (.int (zI x4)), some (.int (zI x7))] [] := by
    intro N
    induction N with
    | zero =>
      intro x1 x4 x7 h2 h3 h5 h6 h8 h9 g10 g11 g12 hm14
      exact absurd hm14 (Nat.not_lt_zero _)
    | succ N ih15 =>
      intro x1 x4 x7 h2 h3 h5 h6 h8 h9 g10 g11 g12 hm14
      have hb4 := yNt_b (p := a2_) (by omega) g12 (fun j h1 h2 => g11 j h1 (by omega))
      refine zt_iload (pc' := 10) hX dX5_cutNumber_8 rfl rfl ?_
      refine zt_aload_n (pc' := 11) hX dX5_cutNumber_10 rfl rfl ?_
      have b16 := zv_2_1 hI zc_1
      refine zt_get (pc' := 14) (v := .int (zI (σ 1 1))) hX dX5_cutNumber_11 rfl zf_X5_55 (by decide) zc_1 zs_2 rfl ?_
      refine zt_icge (pc' := 17) (tgt := 60) hX dX5_cutNumber_14 rfl (by decide) ⟨by omega, by omega⟩ ⟨by omega, by omega⟩ (fun c17 => ?_) (fun c17 => ?_)
      · refine zt_aload_n (pc' := 61) hX dX5_cutNumber_60 rfl rfl ?_
        refine zt_iload_n (pc' := 62) hX dX5_cutNumber_61 rfl rfl ?_
        refine zt_iconst (pc' := 63) hX dX5_cutNumber_62 rfl ?_
        refine zt_isub (pc' := 64) hX dX5_cutNumber_63 rfl ?_
        refine zt_cVi (pc' := 67) hX dX5_cutNumber_64 rfl zm_yX9_byteAt zw_16_15 zc_1 (by decide) zs_2 (q := (RX9, TX9, 2)) rfl rfl (yc_X9_byteAt _ _ σ hI (a2_ - 1) ⟨by omega, by omega⟩) rfl rfl (Nat.le_of_ble_eq_true rfl) (by decide) (fun r18 s19 hr20 hp21 => ?_)
        obtain ⟨rfl, q22, q23, z24⟩ := hp21
        have hWe : yNe (yT σ) a2_ = x7 := yE_u (yT_tx hI) yD_m (by omega) (by omega) g11 (by rw [yT_0 (by omega)]; exact yD_m)
        have hWn : yNe (yT σ) a2_ = a2_ + x1 := by omega
        have hpos : a2_ + 1 ≤ yNe (yT σ) a2_ ∧ yNe (yT σ) a2_ ≤ 1600 := yNe_b (yT_tx hI) (by omega) hw
        refine zt_cSz (pc' := 70) hX dX5_cutNumber_67 rfl zm_yX5_isLetter zw_16_19 (yc_X5_isLetter _ _ σ  r18 ⟨by omega, by omega⟩) rfl rfl (Nat.le_of_ble_eq_true rfl) (by decide) (fun r25 s26 hr27 hp28 => ?_)
        obtain ⟨rfl, q29, q30, z31⟩ := hp28
        refine zt_ifeq (pc' := 73) (tgt := 85) hX dX5_cutNumber_70 rfl (by decide) ⟨by omega, by omega⟩ (fun c32 => ?_) (fun c32 => ?_)
        · refine zt_aload_n (pc' := 86) hX dX5_cutNumber_85 rfl rfl ?_
          refine zt_iload_n (pc' := 87) hX dX5_cutNumber_86 rfl rfl ?_
          refine zt_iconst (pc' := 88) hX dX5_cutNumber_87 rfl ?_
          refine zt_icle (pc' := 91) (tgt := 95) hX dX5_cutNumber_88 rfl (by decide) ⟨by omega, by omega⟩ ⟨by omega, by omega⟩ (fun c33 => ?_) (fun c33 => ?_)
          · refine zt_iconst (pc' := 96) hX dX5_cutNumber_95 rfl ?_
            refine zt_iload_n (pc' := 97) hX dX5_cutNumber_96 rfl rfl ?_
            refine zt_iload (pc' := 99) hX dX5_cutNumber_97 rfl rfl ?_
            refine zt_iconst (pc' := 100) hX dX5_cutNumber_99 rfl ?_
            refine zt_cVv (pc' := 103) hX dX5_cutNumber_100 rfl zm_yX5_addToken zw_17_5 zc_27 (by decide) zs_14 (q := (RX5, TX5, 9)) rfl rfl (yc_X5_addToken _ _ σ hI 2 ⟨by omega, by omega⟩ a2_ ⟨by omega, by omega⟩ x4 ⟨by omega, by omega⟩ (-1) ⟨by omega, by omega⟩ (by omega)) rfl rfl (Nat.le_of_ble_eq_true rfl) (by decide) (fun r34 s35 hr36 hp37 => ?_)
            obtain ⟨hI38, hF39, z40⟩ := hp37
            have hF41 := zOn_tr hF hF39 zi_id
            refine zt_iload_n (pc' := 104) hX dX5_cutNumber_103 rfl rfl ?_
            rw [z24] at z31
            exact zt_iret hX hR dX5_cutNumber_104 ⟨by omega, by omega⟩ ⟨hI38, hF41, by omega, by omega, ycn2 hw (by omega) hWn (by omega) g12 z40, (by omega)⟩
          · refine zt_iconst (pc' := 92) hX dX5_cutNumber_91 rfl ?_
            refine zt_goto (tgt := 96) hX dX5_cutNumber_92 (by decide) ?_
            refine zt_iload_n (pc' := 97) hX dX5_cutNumber_96 rfl rfl ?_
            refine zt_iload (pc' := 99) hX dX5_cutNumber_97 rfl rfl ?_
            refine zt_iconst (pc' := 100) hX dX5_cutNumber_99 rfl ?_
            refine zt_cVv (pc' := 103) hX dX5_cutNumber_100 rfl zm_yX5_addToken zw_17_5 zc_27 (by decide) zs_14 (q := (RX5, TX5, 9)) rfl rfl (yc_X5_addToken _ _ σ hI 5 ⟨by omega, by omega⟩ a2_ ⟨by omega, by omega⟩ x4 ⟨by omega, by omega⟩ (-1) ⟨by omega, by omega⟩ (by omega)) rfl rfl (Nat.le_of_ble_eq_true rfl) (by decide) (fun r42 s43 hr44 hp45 => ?_)
            obtain ⟨hI46, hF47, z48⟩ := hp45
            have hF49 := zOn_tr hF hF47 zi_id
            refine zt_iload_n (pc' := 104) hX dX5_cutNumber_103 rfl rfl ?_
            rw [z24] at z31
            exact zt_iret hX hR dX5_cutNumber_104 ⟨by omega, by omega⟩ ⟨hI46, hF49, by omega, by omega, ycn5 hw (by omega) hWn (by omega) g12 z48, (by omega)⟩
        · refine zt_aload_n (pc' := 74) hX dX5_cutNumber_73 rfl rfl ?_
          refine zt_bipush (pc' := 76) hX dX5_cutNumber_74 rfl (by decide) (by decide) ?_
          refine zt_iload_n (pc' := 77) hX dX5_cutNumber_76 rfl rfl ?_
          refine zt_iconst (pc' := 78) hX dX5_cutNumber_77 rfl ?_
          refine zt_iconst (pc' := 79) hX dX5_cutNumber_78 rfl ?_
          refine zt_cVv (pc' := 82) hX dX5_cutNumber_79 rfl zm_yX5_addToken zw_17_5 zc_27 (by decide) zs_14 (q := (RX5, TX5, 9)) rfl rfl (yc_X5_addToken _ _ σ hI 6 ⟨by omega, by omega⟩ a2_ ⟨by omega, by omega⟩ (-1) ⟨by omega, by omega⟩ (-1) ⟨by omega, by omega⟩ (by omega)) rfl rfl (Nat.le_of_ble_eq_true rfl) (by decide) (fun r50 s51 hr52 hp53 => ?_)
          obtain ⟨hI54, hF55, z56⟩ := hp53
          have hF57 := zOn_tr hF hF55 zi_id
          refine zt_goto (tgt := 103) hX dX5_cutNumber_82 (by decide) ?_
          refine zt_iload_n (pc' := 104) hX dX5_cutNumber_103 rfl rfl ?_
          rw [z24] at z31
          exact zt_iret hX hR dX5_cutNumber_104 ⟨by omega, by omega⟩ ⟨hI54, hF57, by omega, by omega, ycn6 hw (by omega) z56, (by omega)⟩
      · refine zt_aload_n (pc' := 18) hX dX5_cutNumber_17 rfl rfl ?_
        refine zt_iload (pc' := 20) hX dX5_cutNumber_18 rfl rfl ?_
        refine zt_cVi (pc' := 23) hX dX5_cutNumber_20 rfl zm_yX9_byteAt zw_16_15 zc_1 (by decide) zs_2 (q := (RX9, TX9, 2)) rfl rfl (yc_X9_byteAt _ _ σ hI x7 ⟨by omega, by omega⟩) rfl rfl (Nat.le_of_ble_eq_true rfl) (by decide) (fun r58 s59 hr60 hp61 => ?_)
        obtain ⟨rfl, q62, q63, z64⟩ := hp61
        refine zt_cSz (pc' := 26) hX dX5_cutNumber_23 rfl zm_yX5_isDigit zw_17_2 (yc_X5_isDigit _ _ σ  r58 ⟨by omega, by omega⟩) rfl rfl (Nat.le_of_ble_eq_true rfl) (by decide) (fun r65 s66 hr67 hp68 => ?_)
        obtain ⟨rfl, q69, q70, z71⟩ := hp68
        refine zt_ifeq (pc' := 29) (tgt := 60) hX dX5_cutNumber_26 rfl (by decide) ⟨by omega, by omega⟩ (fun c72 => ?_) (fun c72 => ?_)
        · refine zt_aload_n (pc' := 61) hX dX5_cutNumber_60 rfl rfl ?_
          refine zt_iload_n (pc' := 62) hX dX5_cutNumber_61 rfl rfl ?_
          refine zt_iconst (pc' := 63) hX dX5_cutNumber_62 rfl ?_
          refine zt_isub (pc' := 64) hX dX5_cutNumber_63 rfl ?_
          refine zt_cVi (pc' := 67) hX dX5_cutNumber_64 rfl zm_yX9_byteAt zw_16_15 zc_1 (by decide) zs_2 (q := (RX9, TX9, 2)) rfl rfl (yc_X9_byteAt _ _ σ hI (a2_ - 1) ⟨by omega, by omega⟩) rfl rfl (Nat.le_of_ble_eq_true rfl) (by decide) (fun r73 s74 hr75 hp76 => ?_)
          obtain ⟨rfl, q77, q78, z79⟩ := hp76
          have hWe : yNe (yT σ) a2_ = x7 := yE_u (yT_tx hI) yD_m (by omega) (by omega) g11 (Bool.eq_false_iff.mpr (fun c => by have c := yD_t.mp c; omega))
          have hWn : yNe (yT σ) a2_ = a2_ + x1 := by omega
          have hpos : a2_ + 1 ≤ yNe (yT σ) a2_ ∧ yNe (yT σ) a2_ ≤ 1600 := yNe_b (yT_tx hI) (by omega) hw
          refine zt_cSz (pc' := 70) hX dX5_cutNumber_67 rfl zm_yX5_isLetter zw_16_19 (yc_X5_isLetter _ _ σ  r73 ⟨by omega, by omega⟩) rfl rfl (Nat.le_of_ble_eq_true rfl) (by decide) (fun r80 s81 hr82 hp83 => ?_)
          obtain ⟨rfl, q84, q85, z86⟩ := hp83
          refine zt_ifeq (pc' := 73) (tgt := 85) hX dX5_cutNumber_70 rfl (by decide) ⟨by omega, by omega⟩ (fun c87 => ?_) (fun c87 => ?_)
          · refine zt_aload_n (pc' := 86) hX dX5_cutNumber_85 rfl rfl ?_
            refine zt_iload_n (pc' := 87) hX dX5_cutNumber_86 rfl rfl ?_
            refine zt_iconst (pc' := 88) hX dX5_cutNumber_87 rfl ?_
            refine zt_icle (pc' := 91) (tgt := 95) hX dX5_cutNumber_88 rfl (by decide) ⟨by omega, by omega⟩ ⟨by omega, by omega⟩ (fun c88 => ?_) (fun c88 => ?_)
            · refine zt_iconst (pc' := 96) hX dX5_cutNumber_95 rfl ?_
              refine zt_iload_n (pc' := 97) hX dX5_cutNumber_96 rfl rfl ?_
              refine zt_iload (pc' := 99) hX dX5_cutNumber_97 rfl rfl ?_
              refine zt_iconst (pc' := 100) hX dX5_cutNumber_99 rfl ?_
              refine zt_cVv (pc' := 103) hX dX5_cutNumber_100 rfl zm_yX5_addToken zw_17_5 zc_27 (by decide) zs_14 (q := (RX5, TX5, 9)) rfl rfl (yc_X5_addToken _ _ σ hI 2 ⟨by omega, by omega⟩ a2_ ⟨by omega, by omega⟩ x4 ⟨by omega, by omega⟩ (-1) ⟨by omega, by omega⟩ (by omega)) rfl rfl (Nat.le_of_ble_eq_true rfl) (by decide) (fun r89 s90 hr91 hp92 => ?_)
              obtain ⟨hI93, hF94, z95⟩ := hp92
              have hF96 := zOn_tr hF hF94 zi_id
              refine zt_iload_n (pc' := 104) hX dX5_cutNumber_103 rfl rfl ?_
              rw [z79] at z86
              exact zt_iret hX hR dX5_cutNumber_104 ⟨by omega, by omega⟩ ⟨hI93, hF96, by omega, by omega, ycn2 hw (by omega) hWn (by omega) g12 z95, (by omega)⟩
            · refine zt_iconst (pc' := 92) hX dX5_cutNumber_91 rfl ?_
              refine zt_goto (tgt := 96) hX dX5_cutNumber_92 (by decide) ?_
              refine zt_iload_n (pc' := 97) hX dX5_cutNumber_96 rfl rfl ?_
              refine zt_iload (pc' := 99) hX dX5_cutNumber_97 rfl rfl ?_
              refine zt_iconst (pc' := 100) hX dX5_cutNumber_99 rfl ?_
              refine zt_cVv (pc' := 103) hX dX5_cutNumber_100 rfl zm_yX5_addToken zw_17_5 zc_27 (by decide) zs_14 (q := (RX5, TX5, 9)) rfl rfl (yc_X5_addToken _ _ σ hI 5 ⟨by omega, by omega⟩ a2_ ⟨by omega, by omega⟩ x4 ⟨by omega, by omega⟩ (-1) ⟨by omega, by omega⟩ (by omega)) rfl rfl (Nat.le_of_ble_eq_true rfl) (by decide) (fun r97 s98 hr99 hp100 => ?_)
              obtain ⟨hI101, hF102, z103⟩ := hp100
              have hF104 := zOn_tr hF hF102 zi_id
              refine zt_iload_n (pc' := 104) hX dX5_cutNumber_103 rfl rfl ?_
              rw [z79] at z86
              exact zt_iret hX hR dX5_cutNumber_104 ⟨by omega, by omega⟩ ⟨hI101, hF104, by omega, by omega, ycn5 hw (by omega) hWn (by omega) g12 z103, (by omega)⟩
          · refine zt_aload_n (pc' := 74) hX dX5_cutNumber_73 rfl rfl ?_
            refine zt_bipush (pc' := 76) hX dX5_cutNumber_74 rfl (by decide) (by decide) ?_
            refine zt_iload_n (pc' := 77) hX dX5_cutNumber_76 rfl rfl ?_
            refine zt_iconst (pc' := 78) hX dX5_cutNumber_77 rfl ?_
            refine zt_iconst (pc' := 79) hX dX5_cutNumber_78 rfl ?_
            refine zt_cVv (pc' := 82) hX dX5_cutNumber_79 rfl zm_yX5_addToken zw_17_5 zc_27 (by decide) zs_14 (q := (RX5, TX5, 9)) rfl rfl (yc_X5_addToken _ _ σ hI 6 ⟨by omega, by omega⟩ a2_ ⟨by omega, by omega⟩ (-1) ⟨by omega, by omega⟩ (-1) ⟨by omega, by omega⟩ (by omega)) rfl rfl (Nat.le_of_ble_eq_true rfl) (by decide) (fun r105 s106 hr107 hp108 => ?_)
            obtain ⟨hI109, hF110, z111⟩ := hp108
            have hF112 := zOn_tr hF hF110 zi_id
            refine zt_goto (tgt := 103) hX dX5_cutNumber_82 (by decide) ?_
            refine zt_iload_n (pc' := 104) hX dX5_cutNumber_103 rfl rfl ?_
            rw [z79] at z86
            exact zt_iret hX hR dX5_cutNumber_104 ⟨by omega, by omega⟩ ⟨hI109, hF112, by omega, by omega, ycn6 hw (by omega) z111, (by omega)⟩
        · refine zt_iload_n (pc' := 30) hX dX5_cutNumber_29 rfl rfl ?_
          refine zt_iconst (pc' := 31) hX dX5_cutNumber_30 rfl ?_
          refine zt_icge (pc' := 34) (tgt := 51) hX dX5_cutNumber_31 rfl (by decide) ⟨by omega, by omega⟩ ⟨by omega, by omega⟩ (fun c113 => ?_) (fun c113 => ?_)
          · refine zt_iinc (pc' := 54) (lv' := [some (.ref (X.1.1 + 27)), some (.ref (X.1.1 + 1)), some (.int (zI a2_)), some (.int (zI (x1 + 1))), some (.int (zI x4)), some (.int (zI x7))]) hX dX5_cutNumber_51 rfl rfl hL (by decide) rfl ?_
            refine zt_iinc (pc' := 57) (lv' := [some (.ref (X.1.1 + 27)), some (.ref (X.1.1 + 1)), some (.int (zI a2_)), some (.int (zI (x1 + 1))), some (.int (zI x4)), some (.int (zI (x7 + 1)))]) hX dX5_cutNumber_54 rfl rfl hL (by decide) rfl ?_
            refine zt_goto (tgt := 8) hX dX5_cutNumber_57 (by decide) ?_
            exact ih15 (x1 + 1) x4 (x7 + 1) (by omega) (by omega) (by omega) (by omega) (by omega) (by omega) (by omega) (yall_s g11 (yD_t.mpr (by omega))) (yNt_t (by omega) g12) (by omega)
          · refine zt_iload (pc' := 36) hX dX5_cutNumber_34 rfl rfl ?_
            refine zt_bipush (pc' := 38) hX dX5_cutNumber_36 rfl (by decide) (by decide) ?_
            refine zt_imul (pc' := 39) hX dX5_cutNumber_38 rfl ?_
            refine zt_wrap (fun r114 zr114 lr114 ur114 => ?_)
            replace zr114 := ywr_eq zr114
            refine zt_aload_n (pc' := 40) hX dX5_cutNumber_39 rfl rfl ?_
            refine zt_iload (pc' := 42) hX dX5_cutNumber_40 rfl rfl ?_
            refine zt_cVi (pc' := 45) hX dX5_cutNumber_42 rfl zm_yX9_byteAt zw_16_15 zc_1 (by decide) zs_2 (q := (RX9, TX9, 2)) rfl rfl (yc_X9_byteAt _ _ σ hI x7 ⟨by omega, by omega⟩) rfl rfl (Nat.le_of_ble_eq_true rfl) (by decide) (fun r115 s116 hr117 hp118 => ?_)
            obtain ⟨rfl, q119, q120, z121⟩ := hp118
            refine zt_iadd (pc' := 46) hX dX5_cutNumber_45 rfl ?_
            refine zt_wrap (fun r122 zr122 lr122 ur122 => ?_)
            replace zr122 := ywr_eq zr122
            refine zt_bipush (pc' := 48) hX dX5_cutNumber_46 rfl (by decide) (by decide) ?_
            refine zt_isub (pc' := 49) hX dX5_cutNumber_48 rfl ?_
            refine zt_wrap (fun r123 zr123 lr123 ur123 => ?_)
            replace zr123 := ywr_eq zr123
            refine zt_istore (pc' := 51) (lv' := [some (.ref (X.1.1 + 27)), some (.ref (X.1.1 + 1)), some (.int (zI a2_)), some (.int (zI x1)), some (.int (zI r123)), some (.int (zI x7))]) hX dX5_cutNumber_49 rfl hL (by decide) rfl ?_
            refine zt_iinc (pc' := 54) (lv' := [some (.ref (X.1.1 + 27)), some (.ref (X.1.1 + 1)), some (.int (zI a2_)), some (.int (zI (x1 + 1))), some (.int (zI r123)), some (.int (zI x7))]) hX dX5_cutNumber_51 rfl rfl hL (by decide) rfl ?_
            refine zt_iinc (pc' := 57) (lv' := [some (.ref (X.1.1 + 27)), some (.ref (X.1.1 + 1)), some (.int (zI a2_)), some (.int (zI (x1 + 1))), some (.int (zI r123)), some (.int (zI (x7 + 1)))]) hX dX5_cutNumber_54 rfl rfl hL (by decide) rfl ?_
            refine zt_goto (tgt := 8) hX dX5_cutNumber_57 (by decide) ?_
            exact ih15 (x1 + 1) r123 (x7 + 1) (by omega) (by omega) (by omega) (by omega) (by omega) (by omega) (by omega) (yall_s g11 (yD_t.mpr (by omega))) (by have t := yNt_s (p := a2_) (by omega) g12 (show r115 = _ by rw [z121]; congr 1; omega); rw [t]; omega) (by omega)
  exact L_8_12 _ 0 0 a2_ (by omega) (by omega) (by omega) (by omega) (by omega) (by omega) (by omega) (fun j h1 h2 => absurd h2 (by omega)) (by rfl) (Nat.lt_succ_self _)
set_option maxRecDepth 100000 in
set_option maxHeartbeats 4000000 in
theorem yc_X5_open (l : Launch) (E : zEN) (σ : zSto) (hI : zInv σ) (hW : yTab σ) : zCt l E yX5_open cX5_open 5 none 2 zNC zNC 0 0 σ [.ref (E.1 + 27), .ref (E.1 + 1)] (fun r σ' => zInv σ' ∧ zOn zR0 σ σ' ∧ (yTk (yT σ) σ') ∧ (yst σ' = .ok (yS (yT σ) 0))) := by
  refine zCt_of2 [some (.ref (E.1 + 27)), some (.ref (E.1 + 1)), none, none, none] (by decide +kernel) (Nat.le_of_ble_eq_true rfl) rfl ?_
  intro X hE_ hX hR hL hN
  subst hE_
  have hX : zok X cX5_open RX5 2 := hX
  have hF := zOn_rf zR0 σ
  have hb1 := zv_2_1 hI zc_1
  have b1 := zv_14_5 hI zc_27
  have b2 := zv_14_6 hI zc_27
  have b3 := zv_14_7 hI zc_27
  have b4 := zv_14_8 hI zc_27
  refine zt_aload_n (pc' := 1) hX dX5_open_0 rfl rfl ?_
  refine zt_iconst (pc' := 2) hX dX5_open_1 rfl ?_
  refine zt_put (pc' := 5) (x := 0) hX dX5_open_2 rfl zf_X5_34 (by decide) zc_27 zs_14 (fun q hq => by cases hq; rfl) rfl rfl rfl ?_
  generalize hs6 : zset σ 27 7 0 = s5
  have hI7 : zInv s5 := hs6 ▸ zp_14_7 hI zc_27 ⟨by omega, by omega⟩
  have hF8 : zOn zR0 σ s5 := hs6 ▸ zOn_set hF (by decide)
  have e9 : s5 27 5 = σ 27 5 := by rw [← hs6]; exact zset_j (by decide)
  have e10 : s5 27 6 = σ 27 6 := by rw [← hs6]; exact zset_j (by decide)
  have e11 : s5 27 7 = 0 := by rw [← hs6]; exact zset_s
  have e12 : s5 27 8 = σ 27 8 := by rw [← hs6]; exact zset_j (by decide)
  refine zt_aload_n (pc' := 6) hX dX5_open_5 rfl rfl ?_
  refine zt_iconst (pc' := 7) hX dX5_open_6 rfl ?_
  refine zt_put (pc' := 10) (x := (-1)) hX dX5_open_7 rfl zf_X5_37 (by decide) zc_27 zs_14 (fun q hq => by cases hq; rfl) rfl rfl rfl ?_
  generalize hs14 : zset s5 27 8 (-1) = s13
  have hI15 : zInv s13 := hs14 ▸ zp_14_8 hI7 zc_27 ⟨by omega, by omega⟩
  have hF16 : zOn zR0 σ s13 := hs14 ▸ zOn_set hF8 (by decide)
  have e17 : s13 27 5 = s5 27 5 := by rw [← hs14]; exact zset_j (by decide)
  have e18 : s13 27 6 = s5 27 6 := by rw [← hs14]; exact zset_j (by decide)
  have e19 : s13 27 7 = s5 27 7 := by rw [← hs14]; exact zset_j (by decide)
  have e20 : s13 27 8 = (-1) := by rw [← hs14]; exact zset_s
  refine zt_aload_n (pc' := 11) hX dX5_open_10 rfl rfl ?_
  refine zt_iconst (pc' := 12) hX dX5_open_11 rfl ?_
  refine zt_put (pc' := 15) (x := 0) hX dX5_open_12 rfl zf_X5_31 (by decide) zc_27 zs_14 (fun q hq => by cases hq; rfl) rfl rfl rfl ?_
  generalize hs22 : zset s13 27 6 0 = s21
  have hI23 : zInv s21 := hs22 ▸ zp_14_6 hI15 zc_27 ⟨by omega, by omega⟩
  have hF24 : zOn zR0 σ s21 := hs22 ▸ zOn_set hF16 (by decide)
  have e25 : s21 27 5 = s13 27 5 := by rw [← hs22]; exact zset_j (by decide)
  have e26 : s21 27 6 = 0 := by rw [← hs22]; exact zset_s
  have e27 : s21 27 7 = s13 27 7 := by rw [← hs22]; exact zset_j (by decide)
  have e28 : s21 27 8 = s13 27 8 := by rw [← hs22]; exact zset_j (by decide)
  refine zt_aload_n (pc' := 16) hX dX5_open_15 rfl rfl ?_
  refine zt_iconst (pc' := 17) hX dX5_open_16 rfl ?_
  refine zt_put (pc' := 20) (x := 0) hX dX5_open_17 rfl zf_X5_27 (by decide) zc_27 zs_14 (fun q hq => by cases hq; rfl) rfl rfl rfl ?_
  generalize hs30 : zset s21 27 5 0 = s29
  have hI31 : zInv s29 := hs30 ▸ zp_14_5 hI23 zc_27 ⟨by omega, by omega⟩
  have hF32 : zOn zR0 σ s29 := hs30 ▸ zOn_set hF24 (by decide)
  have e33 : s29 27 5 = 0 := by rw [← hs30]; exact zset_s
  have e34 : s29 27 6 = s21 27 6 := by rw [← hs30]; exact zset_j (by decide)
  have e35 : s29 27 7 = s21 27 7 := by rw [← hs30]; exact zset_j (by decide)
  have e36 : s29 27 8 = s21 27 8 := by rw [← hs30]; exact zset_j (by decide)
  refine zt_iconst (pc' := 21) hX dX5_open_20 rfl ?_
  refine zt_istore_n (pc' := 22) (lv' := [some (.ref (X.1.1 + 27)), some (.ref (X.1.1 + 1)), some (.int (zI 0)), none, none]) hX dX5_open_21 rfl hL (by decide) rfl ?_
  refine zt_iconst (pc' := 23) hX dX5_open_22 rfl ?_
  refine zt_istore_n (pc' := 24) (lv' := [some (.ref (X.1.1 + 27)), some (.ref (X.1.1 + 1)), some (.int (zI 0)), some (.int (zI 0)), none]) hX dX5_open_23 rfl hL (by decide) rfl ?_
  have L_24_48 : ∀ (N : Nat) (x37 : Int) (x40 : Int) (s43 : zSto), 0 ≤ x37 → x37 ≤ 1600 → 0 ≤ x40 → x40 ≤ 1600 → zInv s43 → zOn zR0 σ s43 → x40 ≤ x37 → s43 1 1 = σ 1 1 → yRows (yT σ) s43 x37 → ((1601 - x40).toNat) < N → zF X s43 24 [some (.ref (X.1.1 + 27)), some (.ref (X.1.1 + 1)), some (.int (zI x37)), some (.int (zI x40)), none] [] := by
    intro N
    induction N with
    | zero =>
      intro x37 x40 s43 h38 h39 h41 h42 hI44 hF45 g46 g47 g48 hm50
      exact absurd hm50 (Nat.not_lt_zero _)
    | succ N ih51 =>
      intro x37 x40 s43 h38 h39 h41 h42 hI44 hF45 g46 g47 g48 hm50
      have b52 := zv_14_5 hI44 zc_27
      have b53 := zv_14_6 hI44 zc_27
      have b54 := zv_14_7 hI44 zc_27
      have b55 := zv_14_8 hI44 zc_27
      have hb5 := g48.2.2.2.2.1
      refine zt_iload_n (pc' := 25) hX dX5_open_24 rfl rfl ?_
      refine zt_sipush (pc' := 28) hX dX5_open_25 rfl (by decide) (by decide) ?_
      refine zt_icge (pc' := 31) (tgt := 118) hX dX5_open_28 rfl (by decide) ⟨by omega, by omega⟩ ⟨by omega, by omega⟩ (fun c56 => ?_) (fun c56 => ?_)
      · refine zt_aload_n (pc' := 119) hX dX5_open_118 rfl rfl ?_
        refine zt_iconst (pc' := 120) hX dX5_open_119 rfl ?_
        refine zt_iload_n (pc' := 121) hX dX5_open_120 rfl rfl ?_
        refine zt_iconst (pc' := 122) hX dX5_open_121 rfl ?_
        refine zt_iconst (pc' := 123) hX dX5_open_122 rfl ?_
        refine zt_cVv (pc' := 126) hX dX5_open_123 rfl zm_yX5_addToken zw_17_5 zc_27 (by decide) zs_14 (q := (RX5, TX5, 9)) rfl rfl (yc_X5_addToken _ _ s43 hI44 0 ⟨by omega, by omega⟩ x37 ⟨by omega, by omega⟩ (-1) ⟨by omega, by omega⟩ (-1) ⟨by omega, by omega⟩ (by omega)) rfl rfl (Nat.le_of_ble_eq_true rfl) (by decide) (fun r57 s58 hr59 hp60 => ?_)
        obtain ⟨hI61, hF62, z63⟩ := hp60
        have hF64 := zOn_tr hF45 hF62 zi_id
        have b65 := zv_14_5 hI61 zc_27
        have b66 := zv_14_6 hI61 zc_27
        have b67 := zv_14_7 hI61 zc_27
        have b68 := zv_14_8 hI61 zc_27
        have e69 := hF62 1 1 rfl
        have e70 := z63.1
        refine zt_aload_n (pc' := 127) hX dX5_open_126 rfl rfl ?_
        refine zt_dup (pc' := 128) hX dX5_open_127 rfl rfl ?_
        have b71 := zv_14_5 hI61 zc_27
        refine zt_get (pc' := 131) (v := .int (zI (s58 27 5))) hX dX5_open_128 rfl zf_X5_27 (by decide) zc_27 zs_14 rfl ?_
        refine zt_iconst (pc' := 132) hX dX5_open_131 rfl ?_
        refine zt_isub (pc' := 133) hX dX5_open_132 rfl ?_
        refine zt_put (pc' := 136) (x := ((s58 27 5) - 1)) hX dX5_open_133 rfl zf_X5_27 (by decide) zc_27 zs_14 (fun q hq => by cases hq; rfl) rfl rfl rfl ?_
        generalize hs73 : zset s58 27 5 ((s58 27 5) - 1) = s72
        have hI74 : zInv s72 := hs73 ▸ zp_14_5 hI61 zc_27 ⟨by omega, by omega⟩
        have hF75 : zOn zR0 σ s72 := hs73 ▸ zOn_set hF64 (by decide)
        have e76 : s72 27 5 = ((s58 27 5) - 1) := by rw [← hs73]; exact zset_s
        have e77 : s72 27 6 = s58 27 6 := by rw [← hs73]; exact zset_j (by decide)
        have e78 : s72 27 7 = s58 27 7 := by rw [← hs73]; exact zset_j (by decide)
        have e79 : s72 27 8 = s58 27 8 := by rw [← hs73]; exact zset_j (by decide)
        have h80 := yRows_e (yT_tx hI) g48 z63 (by rw [yT_0 (by omega)]; decide) hs73 (by have t := z63.1; omega)
        exact zt_vret hX hR dX5_open_136 ⟨hI74, hF75, h80.1, h80.2⟩
      · refine zt_iload_n (pc' := 32) hX dX5_open_31 rfl rfl ?_
        refine zt_aload_n (pc' := 33) hX dX5_open_32 rfl rfl ?_
        have b81 := zv_2_1 hI44 zc_1
        refine zt_get (pc' := 36) (v := .int (zI (s43 1 1))) hX dX5_open_33 rfl zf_X5_55 (by decide) zc_1 zs_2 rfl ?_
        refine zt_icge (pc' := 39) (tgt := 118) hX dX5_open_36 rfl (by decide) ⟨by omega, by omega⟩ ⟨by omega, by omega⟩ (fun c82 => ?_) (fun c82 => ?_)
        · refine zt_aload_n (pc' := 119) hX dX5_open_118 rfl rfl ?_
          refine zt_iconst (pc' := 120) hX dX5_open_119 rfl ?_
          refine zt_iload_n (pc' := 121) hX dX5_open_120 rfl rfl ?_
          refine zt_iconst (pc' := 122) hX dX5_open_121 rfl ?_
          refine zt_iconst (pc' := 123) hX dX5_open_122 rfl ?_
          refine zt_cVv (pc' := 126) hX dX5_open_123 rfl zm_yX5_addToken zw_17_5 zc_27 (by decide) zs_14 (q := (RX5, TX5, 9)) rfl rfl (yc_X5_addToken _ _ s43 hI44 0 ⟨by omega, by omega⟩ x37 ⟨by omega, by omega⟩ (-1) ⟨by omega, by omega⟩ (-1) ⟨by omega, by omega⟩ (by omega)) rfl rfl (Nat.le_of_ble_eq_true rfl) (by decide) (fun r83 s84 hr85 hp86 => ?_)
          obtain ⟨hI87, hF88, z89⟩ := hp86
          have hF90 := zOn_tr hF45 hF88 zi_id
          have b91 := zv_14_5 hI87 zc_27
          have b92 := zv_14_6 hI87 zc_27
          have b93 := zv_14_7 hI87 zc_27
          have b94 := zv_14_8 hI87 zc_27
          have e95 := hF88 1 1 rfl
          have e96 := z89.1
          refine zt_aload_n (pc' := 127) hX dX5_open_126 rfl rfl ?_
          refine zt_dup (pc' := 128) hX dX5_open_127 rfl rfl ?_
          have b97 := zv_14_5 hI87 zc_27
          refine zt_get (pc' := 131) (v := .int (zI (s84 27 5))) hX dX5_open_128 rfl zf_X5_27 (by decide) zc_27 zs_14 rfl ?_
          refine zt_iconst (pc' := 132) hX dX5_open_131 rfl ?_
          refine zt_isub (pc' := 133) hX dX5_open_132 rfl ?_
          refine zt_put (pc' := 136) (x := ((s84 27 5) - 1)) hX dX5_open_133 rfl zf_X5_27 (by decide) zc_27 zs_14 (fun q hq => by cases hq; rfl) rfl rfl rfl ?_
          generalize hs99 : zset s84 27 5 ((s84 27 5) - 1) = s98
          have hI100 : zInv s98 := hs99 ▸ zp_14_5 hI87 zc_27 ⟨by omega, by omega⟩
          have hF101 : zOn zR0 σ s98 := hs99 ▸ zOn_set hF90 (by decide)
          have e102 : s98 27 5 = ((s84 27 5) - 1) := by rw [← hs99]; exact zset_s
          have e103 : s98 27 6 = s84 27 6 := by rw [← hs99]; exact zset_j (by decide)
          have e104 : s98 27 7 = s84 27 7 := by rw [← hs99]; exact zset_j (by decide)
          have e105 : s98 27 8 = s84 27 8 := by rw [← hs99]; exact zset_j (by decide)
          have h106 := yRows_e (yT_tx hI) g48 z89 (by rw [yT_0 (by omega)]; decide) hs99 (by have t := z89.1; omega)
          exact zt_vret hX hR dX5_open_136 ⟨hI100, hF101, h106.1, h106.2⟩
        · refine zt_aload_n (pc' := 40) hX dX5_open_39 rfl rfl ?_
          refine zt_iload_n (pc' := 41) hX dX5_open_40 rfl rfl ?_
          refine zt_cVi (pc' := 44) hX dX5_open_41 rfl zm_yX9_byteAt zw_16_15 zc_1 (by decide) zs_2 (q := (RX9, TX9, 2)) rfl rfl (yc_X9_byteAt _ _ s43 hI44 x37 ⟨by omega, by omega⟩) rfl rfl (Nat.le_of_ble_eq_true rfl) (by decide) (fun r107 s108 hr109 hp110 => ?_)
          obtain ⟨rfl, q111, q112, z113⟩ := hp110
          rw [yT_on hF45] at z113
          have w114 := yT_nn (s := σ) (k := x37) (by omega) (by omega)
          refine zt_istore (pc' := 46) (lv' := [some (.ref (X.1.1 + 27)), some (.ref (X.1.1 + 1)), some (.int (zI x37)), some (.int (zI x40)), some (.int (zI r107))]) hX dX5_open_44 rfl hL (by decide) rfl ?_
          refine zt_iload (pc' := 48) hX dX5_open_46 rfl rfl ?_
          refine zt_cSz (pc' := 51) hX dX5_open_48 rfl zm_yX5_isLetter zw_16_19 (yc_X5_isLetter _ _ s43  r107 ⟨by omega, by omega⟩) rfl rfl (Nat.le_of_ble_eq_true rfl) (by decide) (fun r115 s116 hr117 hp118 => ?_)
          obtain ⟨rfl, q119, q120, z121⟩ := hp118
          refine zt_ifeq (pc' := 54) (tgt := 66) hX dX5_open_51 rfl (by decide) ⟨by omega, by omega⟩ (fun c122 => ?_) (fun c122 => ?_)
          · refine zt_iload (pc' := 68) hX dX5_open_66 rfl rfl ?_
            refine zt_cSz (pc' := 71) hX dX5_open_68 rfl zm_yX5_isDigit zw_17_2 (yc_X5_isDigit _ _ s43  r107 ⟨by omega, by omega⟩) rfl rfl (Nat.le_of_ble_eq_true rfl) (by decide) (fun r123 s124 hr125 hp126 => ?_)
            obtain ⟨rfl, q127, q128, z129⟩ := hp126
            refine zt_ifeq (pc' := 74) (tgt := 86) hX dX5_open_71 rfl (by decide) ⟨by omega, by omega⟩ (fun c130 => ?_) (fun c130 => ?_)
            · refine zt_iload (pc' := 88) hX dX5_open_86 rfl rfl ?_
              refine zt_bipush (pc' := 90) hX dX5_open_88 rfl (by decide) (by decide) ?_
              refine zt_iceq (pc' := 93) (tgt := 109) hX dX5_open_90 rfl (by decide) ⟨by omega, by omega⟩ ⟨by omega, by omega⟩ (fun c131 => ?_) (fun c131 => ?_)
              · refine zt_iinc (pc' := 112) (lv' := [some (.ref (X.1.1 + 27)), some (.ref (X.1.1 + 1)), some (.int (zI (x37 + 1))), some (.int (zI x40)), some (.int (zI r107))]) hX dX5_open_109 rfl rfl hL (by decide) rfl ?_
                refine zt_iinc (pc' := 115) (lv' := [some (.ref (X.1.1 + 27)), some (.ref (X.1.1 + 1)), some (.int (zI (x37 + 1))), some (.int (zI (x40 + 1))), some (.int (zI r107))]) hX dX5_open_112 rfl rfl hL (by decide) rfl ?_
                refine zt_goto (tgt := 24) hX dX5_open_115 (by decide) ?_
                refine zt_mask [true, true, true, true, false] rfl ?_
                exact ih51 (x37 + 1) (x40 + 1) s43 (by omega) (by omega) (by omega) (by omega) hI44 hF45 (by omega) (by omega) (yRows_b (yT_tx hI) g48 (by omega)) (by omega)
              · refine zt_iload (pc' := 95) hX dX5_open_93 rfl rfl ?_
                refine zt_bipush (pc' := 97) hX dX5_open_95 rfl (by decide) (by decide) ?_
                refine zt_iceq (pc' := 100) (tgt := 109) hX dX5_open_97 rfl (by decide) ⟨by omega, by omega⟩ ⟨by omega, by omega⟩ (fun c132 => ?_) (fun c132 => ?_)
                · refine zt_iinc (pc' := 112) (lv' := [some (.ref (X.1.1 + 27)), some (.ref (X.1.1 + 1)), some (.int (zI (x37 + 1))), some (.int (zI x40)), some (.int (zI r107))]) hX dX5_open_109 rfl rfl hL (by decide) rfl ?_
                  refine zt_iinc (pc' := 115) (lv' := [some (.ref (X.1.1 + 27)), some (.ref (X.1.1 + 1)), some (.int (zI (x37 + 1))), some (.int (zI (x40 + 1))), some (.int (zI r107))]) hX dX5_open_112 rfl rfl hL (by decide) rfl ?_
                  refine zt_goto (tgt := 24) hX dX5_open_115 (by decide) ?_
                  refine zt_mask [true, true, true, true, false] rfl ?_
                  exact ih51 (x37 + 1) (x40 + 1) s43 (by omega) (by omega) (by omega) (by omega) hI44 hF45 (by omega) (by omega) (yRows_b (yT_tx hI) g48 (by omega)) (by omega)
                · refine zt_aload_n (pc' := 101) hX dX5_open_100 rfl rfl ?_
                  refine zt_iconst (pc' := 102) hX dX5_open_101 rfl ?_
                  refine zt_iload_n (pc' := 103) hX dX5_open_102 rfl rfl ?_
                  refine zt_iload (pc' := 105) hX dX5_open_103 rfl rfl ?_
                  refine zt_iconst (pc' := 106) hX dX5_open_105 rfl ?_
                  refine zt_cVv (pc' := 109) hX dX5_open_106 rfl zm_yX5_addToken zw_17_5 zc_27 (by decide) zs_14 (q := (RX5, TX5, 9)) rfl rfl (yc_X5_addToken _ _ s43 hI44 3 ⟨by omega, by omega⟩ x37 ⟨by omega, by omega⟩ r107 ⟨by omega, by omega⟩ (-1) ⟨by omega, by omega⟩ (by omega)) rfl rfl (Nat.le_of_ble_eq_true rfl) (by decide) (fun r133 s134 hr135 hp136 => ?_)
                  obtain ⟨hI137, hF138, z139⟩ := hp136
                  have hF140 := zOn_tr hF45 hF138 zi_id
                  have b141 := zv_14_5 hI137 zc_27
                  have b142 := zv_14_6 hI137 zc_27
                  have b143 := zv_14_7 hI137 zc_27
                  have b144 := zv_14_8 hI137 zc_27
                  have e145 := hF138 1 1 rfl
                  have e146 := z139.1
                  refine zt_iinc (pc' := 112) (lv' := [some (.ref (X.1.1 + 27)), some (.ref (X.1.1 + 1)), some (.int (zI (x37 + 1))), some (.int (zI x40)), some (.int (zI r107))]) hX dX5_open_109 rfl rfl hL (by decide) rfl ?_
                  refine zt_iinc (pc' := 115) (lv' := [some (.ref (X.1.1 + 27)), some (.ref (X.1.1 + 1)), some (.int (zI (x37 + 1))), some (.int (zI (x40 + 1))), some (.int (zI r107))]) hX dX5_open_112 rfl rfl hL (by decide) rfl ?_
                  refine zt_goto (tgt := 24) hX dX5_open_115 (by decide) ?_
                  refine zt_mask [true, true, true, true, false] rfl ?_
                  exact ih51 (x37 + 1) (x40 + 1) s134 (by omega) (by omega) (by omega) (by omega) hI137 hF140 (by omega) (by omega) (yRows_g (yT_tx hI) g48 (by rw [← z113]; exact z139) (by omega) (by omega) (by omega) (by omega)) (by omega)
            · refine zt_iload_n (pc' := 75) hX dX5_open_74 rfl rfl ?_
              refine zt_aload_n (pc' := 76) hX dX5_open_75 rfl rfl ?_
              refine zt_aload_n (pc' := 77) hX dX5_open_76 rfl rfl ?_
              refine zt_iload_n (pc' := 78) hX dX5_open_77 rfl rfl ?_
              refine zt_cVi (pc' := 81) hX dX5_open_78 rfl zm_yX5_cutNumber zw_17_13 zc_27 (by decide) zs_14 (q := (RX5, TX5, 9)) rfl rfl (yc_X5_cutNumber _ _ s43 hI44 x37 ⟨by omega, by omega⟩ (by omega) (yTab_on hF45 hW) (by rw [yT_on hF45]; exact yD_t.mpr (by omega))) rfl rfl (Nat.le_of_ble_eq_true rfl) (by decide) (fun r147 s148 hr149 hp150 => ?_)
              obtain ⟨hI151, hF152, q153, q154, z155, z156⟩ := hp150
              have hF157 := zOn_tr hF45 hF152 zi_id
              have b158 := zv_14_5 hI151 zc_27
              have b159 := zv_14_6 hI151 zc_27
              have b160 := zv_14_7 hI151 zc_27
              have b161 := zv_14_8 hI151 zc_27
              have e162 := hF152 1 1 rfl
              rw [yT_on hF45] at z155 z156
              have w163 := yNe_b (f := yT σ) (p := x37) (yT_tx hI) (by omega) (yD_t.mpr (by omega))
              refine zt_iadd (pc' := 82) hX dX5_open_81 rfl ?_
              refine zt_istore_n (pc' := 83) (lv' := [some (.ref (X.1.1 + 27)), some (.ref (X.1.1 + 1)), some (.int (zI (x37 + r147))), some (.int (zI x40)), some (.int (zI r107))]) hX dX5_open_82 rfl hL (by decide) rfl ?_
              refine zt_goto (tgt := 112) hX dX5_open_83 (by decide) ?_
              refine zt_iinc (pc' := 115) (lv' := [some (.ref (X.1.1 + 27)), some (.ref (X.1.1 + 1)), some (.int (zI (x37 + r147))), some (.int (zI (x40 + 1))), some (.int (zI r107))]) hX dX5_open_112 rfl rfl hL (by decide) rfl ?_
              refine zt_goto (tgt := 24) hX dX5_open_115 (by decide) ?_
              refine zt_mask [true, true, true, true, false] rfl ?_
              exact ih51 (x37 + r147) (x40 + 1) s148 (by omega) (by omega) (by omega) (by omega) hI151 hF157 (by omega) (by omega) (yRows_d (yT_tx hI) g48 z155 (yD_t.mpr (by omega)) z156) (by omega)
          · refine zt_iload_n (pc' := 55) hX dX5_open_54 rfl rfl ?_
            refine zt_aload_n (pc' := 56) hX dX5_open_55 rfl rfl ?_
            refine zt_aload_n (pc' := 57) hX dX5_open_56 rfl rfl ?_
            refine zt_iload_n (pc' := 58) hX dX5_open_57 rfl rfl ?_
            refine zt_cVi (pc' := 61) hX dX5_open_58 rfl zm_yX5_cutWord zw_16_22 zc_27 (by decide) zs_14 (q := (RX5, TX5, 9)) rfl rfl (yc_X5_cutWord _ _ s43 hI44 x37 ⟨by omega, by omega⟩ (by omega) (yTab_on hF45 hW) (by rw [yT_on hF45]; exact yL_t.mpr (by omega))) rfl rfl (Nat.le_of_ble_eq_true rfl) (by decide) (fun r164 s165 hr166 hp167 => ?_)
            obtain ⟨hI168, hF169, q170, q171, z172, z173⟩ := hp167
            have hF174 := zOn_tr hF45 hF169 zi_id
            have b175 := zv_14_5 hI168 zc_27
            have b176 := zv_14_6 hI168 zc_27
            have b177 := zv_14_7 hI168 zc_27
            have b178 := zv_14_8 hI168 zc_27
            have e179 := hF169 1 1 rfl
            rw [yT_on hF45] at z172 z173
            have w180 := yWe_b (f := yT σ) (p := x37) (yT_tx hI) (by omega) (yL_t.mpr (by omega))
            refine zt_iadd (pc' := 62) hX dX5_open_61 rfl ?_
            refine zt_istore_n (pc' := 63) (lv' := [some (.ref (X.1.1 + 27)), some (.ref (X.1.1 + 1)), some (.int (zI (x37 + r164))), some (.int (zI x40)), some (.int (zI r107))]) hX dX5_open_62 rfl hL (by decide) rfl ?_
            refine zt_goto (tgt := 112) hX dX5_open_63 (by decide) ?_
            refine zt_iinc (pc' := 115) (lv' := [some (.ref (X.1.1 + 27)), some (.ref (X.1.1 + 1)), some (.int (zI (x37 + r164))), some (.int (zI (x40 + 1))), some (.int (zI r107))]) hX dX5_open_112 rfl rfl hL (by decide) rfl ?_
            refine zt_goto (tgt := 24) hX dX5_open_115 (by decide) ?_
            refine zt_mask [true, true, true, true, false] rfl ?_
            exact ih51 (x37 + r164) (x40 + 1) s165 (by omega) (by omega) (by omega) (by omega) hI168 hF174 (by omega) (by omega) (yRows_w (yT_tx hI) g48 z172 (yL_t.mpr (by omega)) z173) (by omega)
  have hl0 := hF32 1 1 rfl
  exact L_24_48 _ 0 0 s29 (by omega) (by omega) (by omega) (by omega) hI31 hF32 (by omega) (by omega) (yRows_0 (by omega) (by omega) (by omega) (by omega)) (Nat.lt_succ_self _)
