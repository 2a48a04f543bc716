set_option maxRecDepth 100000 in
set_option maxHeartbeats 4000000 in
theorem yc_X12_isLetter (l : Launch) (E : zEN) (σ : zSto)  (a0_ : Int) (ha0_ : -2147483648 ≤ a0_ ∧ a0_ ≤ 2147483647) : zCt l E yX12_isLetter cX12_isLetter 1 (some .boolean) 0 zNC zNC 0 0 σ [.int (zI a0_)] (fun r σ' => σ = σ' ∧ 0 ≤ r ∧ r ≤ 1 ∧ ((97 ≤ a0_ ∧ a0_ ≤ 122 → r = 1) ∧ (¬ (97 ≤ a0_ ∧ a0_ ≤ 122) → r = 0))) := by
  refine zCt_of2 [some (.int (zI a0_))] (by decide +kernel) (Nat.le_of_ble_eq_true rfl) rfl ?_
  intro X hE_ hX hR hL hN
  subst hE_
  have hX : zok X cX12_isLetter RX12 0 := hX
  refine zt_iload_n (pc' := 1) hX dX12_isLetter_0 rfl rfl ?_
  refine zt_bipush (pc' := 3) hX dX12_isLetter_1 rfl (by decide) (by decide) ?_
  refine zt_iclt (pc' := 6) (tgt := 16) hX dX12_isLetter_3 rfl (by decide) ⟨by omega, by omega⟩ ⟨by omega, by omega⟩ (fun c1 => ?_) (fun c1 => ?_)
  · refine zt_iconst (pc' := 17) hX dX12_isLetter_16 rfl ?_
    exact zt_zret hX hR dX12_isLetter_17 ⟨by omega, by omega⟩ ⟨rfl, by omega, by omega, by omega⟩
  · refine zt_iload_n (pc' := 7) hX dX12_isLetter_6 rfl rfl ?_
    refine zt_bipush (pc' := 9) hX dX12_isLetter_7 rfl (by decide) (by decide) ?_
    refine zt_icgt (pc' := 12) (tgt := 16) hX dX12_isLetter_9 rfl (by decide) ⟨by omega, by omega⟩ ⟨by omega, by omega⟩ (fun c2 => ?_) (fun c2 => ?_)
    · refine zt_iconst (pc' := 17) hX dX12_isLetter_16 rfl ?_
      exact zt_zret hX hR dX12_isLetter_17 ⟨by omega, by omega⟩ ⟨rfl, by omega, by omega, by omega⟩
    · refine zt_iconst (pc' := 13) hX dX12_isLetter_12 rfl ?_
      refine zt_goto (tgt := 17) hX dX12_isLetter_13 (by decide) ?_
      exact zt_zret hX hR dX12_isLetter_17 ⟨by omega, by omega⟩ ⟨rfl, by omega, by omega, by omega⟩
set_option maxRecDepth 100000 in
set_option maxHeartbeats 4000000 in
theorem yc_X12_isDigit (l : Launch) (E : zEN) (σ : zSto)  (a0_ : Int) (ha0_ : -2147483648 ≤ a0_ ∧ a0_ ≤ 2147483647) : zCt l E yX12_isDigit cX12_isDigit 1 (some .boolean) 0 zNC zNC 0 0 σ [.int (zI a0_)] (fun r σ' => σ = σ' ∧ 0 ≤ r ∧ r ≤ 1 ∧ ((48 ≤ a0_ ∧ a0_ ≤ 57 → r = 1) ∧ (¬ (48 ≤ a0_ ∧ a0_ ≤ 57) → r = 0))) := by
  refine zCt_of2 [some (.int (zI a0_))] (by decide +kernel) (Nat.le_of_ble_eq_true rfl) rfl ?_
  intro X hE_ hX hR hL hN
  subst hE_
  have hX : zok X cX12_isDigit RX12 0 := hX
  refine zt_iload_n (pc' := 1) hX dX12_isDigit_0 rfl rfl ?_
  refine zt_bipush (pc' := 3) hX dX12_isDigit_1 rfl (by decide) (by decide) ?_
  refine zt_iclt (pc' := 6) (tgt := 16) hX dX12_isDigit_3 rfl (by decide) ⟨by omega, by omega⟩ ⟨by omega, by omega⟩ (fun c1 => ?_) (fun c1 => ?_)
  · refine zt_iconst (pc' := 17) hX dX12_isDigit_16 rfl ?_
    exact zt_zret hX hR dX12_isDigit_17 ⟨by omega, by omega⟩ ⟨rfl, by omega, by omega, by omega⟩
  · refine zt_iload_n (pc' := 7) hX dX12_isDigit_6 rfl rfl ?_
    refine zt_bipush (pc' := 9) hX dX12_isDigit_7 rfl (by decide) (by decide) ?_
    refine zt_icgt (pc' := 12) (tgt := 16) hX dX12_isDigit_9 rfl (by decide) ⟨by omega, by omega⟩ ⟨by omega, by omega⟩ (fun c2 => ?_) (fun c2 => ?_)
    · refine zt_iconst (pc' := 17) hX dX12_isDigit_16 rfl ?_
      exact zt_zret hX hR dX12_isDigit_17 ⟨by omega, by omega⟩ ⟨rfl, by omega, by omega, by omega⟩
    · refine zt_iconst (pc' := 13) hX dX12_isDigit_12 rfl ?_
      refine zt_goto (tgt := 17) hX dX12_isDigit_13 (by decide) ?_
      exact zt_zret hX hR dX12_isDigit_17 ⟨by omega, by omega⟩ ⟨rfl, by omega, by omega, by omega⟩
set_option maxRecDepth 100000 in
set_option maxHeartbeats 4000000 in
theorem yc_X12_isIn (l : Launch) (E : zEN) (σ : zSto)  (a0_ : Int) (ha0_ : -9223372036854775808 ≤ a0_ ∧ a0_ ≤ 9223372036854775807) (a1_ : Int) (ha1_ : -9223372036854775808 ≤ a1_ ∧ a1_ ≤ 9223372036854775807) (a2_ : Int) (ha2_ : -9223372036854775808 ≤ a2_ ∧ a2_ ≤ 9223372036854775807) : zCt l E yX12_isIn cX12_isIn 6 (some .boolean) 0 zNC zNC 0 0 σ [.long (zJ a0_), .long (zJ a1_), .long (zJ a2_)] (fun r σ' => σ = σ' ∧ 0 ≤ r ∧ r ≤ 1 ∧ ((r = 1 → a1_ ≤ a0_ ∧ a0_ ≤ a2_) ∧ (r = 0 → a0_ < a1_ ∨ a2_ < a0_))) := by
  refine zCt_of2 [some (.long (zJ a0_)), none, some (.long (zJ a1_)), none, some (.long (zJ a2_)), none] (by decide +kernel) (Nat.le_of_ble_eq_true rfl) rfl ?_
  intro X hE_ hX hR hL hN
  subst hE_
  have hX : zok X cX12_isIn RX12 0 := hX
  refine zt_lload_n (pc' := 1) hX dX12_isIn_0 rfl rfl ?_
  refine zt_lload_n (pc' := 2) hX dX12_isIn_1 rfl rfl ?_
  refine zt_lcmp (pc' := 3) hX dX12_isIn_2 rfl ⟨by omega, by omega⟩ ⟨by omega, by omega⟩ (fun r1 er1 => ?_)
  refine zt_iflt (pc' := 6) (tgt := 17) hX dX12_isIn_3 rfl (by decide) ⟨by omega, by omega⟩ (fun c2 => ?_) (fun c2 => ?_)
  · refine zt_iconst (pc' := 18) hX dX12_isIn_17 rfl ?_
    exact zt_zret hX hR dX12_isIn_18 ⟨by omega, by omega⟩ ⟨rfl, by omega, by omega, by omega⟩
  · refine zt_lload_n (pc' := 7) hX dX12_isIn_6 rfl rfl ?_
    refine zt_lload (pc' := 9) hX dX12_isIn_7 rfl rfl ?_
    refine zt_lcmp (pc' := 10) hX dX12_isIn_9 rfl ⟨by omega, by omega⟩ ⟨by omega, by omega⟩ (fun r3 er3 => ?_)
    refine zt_ifgt (pc' := 13) (tgt := 17) hX dX12_isIn_10 rfl (by decide) ⟨by omega, by omega⟩ (fun c4 => ?_) (fun c4 => ?_)
    · refine zt_iconst (pc' := 18) hX dX12_isIn_17 rfl ?_
      exact zt_zret hX hR dX12_isIn_18 ⟨by omega, by omega⟩ ⟨rfl, by omega, by omega, by omega⟩
    · refine zt_iconst (pc' := 14) hX dX12_isIn_13 rfl ?_
      refine zt_goto (tgt := 18) hX dX12_isIn_14 (by decide) ?_
      exact zt_zret hX hR dX12_isIn_18 ⟨by omega, by omega⟩ ⟨rfl, by omega, by omega, by omega⟩
set_option maxRecDepth 100000 in
set_option maxHeartbeats 4000000 in
theorem yc_X12_fail (l : Launch) (E : zEN) (σ : zSto) (hI : zInv σ) (a1_ : Int) (ha1_ : 1 ≤ a1_ ∧ a1_ ≤ 5) (a2_ : Int) (ha2_ : -2147483648 ≤ a2_ ∧ a2_ ≤ 2147483647) (f : Int → Int) (hT : yTw f σ) : zCt l E yX12_fail cX12_fail 3 none 0 zNC zNC 0 0 σ [.ref (E.1 + 164), .int (zI a1_), .int (zI a2_)] (fun r σ' => zInv σ' ∧ zOn zQ1 σ σ' ∧ yTq f σ' ∧ ((yqs f σ') = yPno a1_ a2_ (yqs f σ)) ∧ (σ' 164 2 = σ 164 2)) := by
  refine zCt_of2 [some (.ref (E.1 + 164)), some (.int (zI a1_)), some (.int (zI a2_))] (by decide +kernel) (Nat.le_of_ble_eq_true rfl) rfl ?_
  intro X hE_ hX hR hL hN
  subst hE_
  have hX : zok X cX12_fail RX12 0 := hX
  have hF := zOn_rf zQ1 σ
  have hE0 : yqs f σ = yqs f σ := rfl
  have b1 := zv_46_2 hI zc_164
  refine zt_aload_n (pc' := 1) hX dX12_fail_0 rfl rfl ?_
  have b2 := zv_46_5 hI zc_164
  refine zt_get (pc' := 4) (v := .int (zI (σ 164 5))) hX dX12_fail_1 rfl zf_X12_246 (by decide) zc_164 zs_46 rfl ?_
  refine zt_ifeq (pc' := 7) (tgt := 8) hX dX12_fail_4 rfl (by decide) ⟨by omega, by omega⟩ (fun c3 => ?_) (fun c3 => ?_)
  · refine zt_aload_n (pc' := 9) hX dX12_fail_8 rfl rfl ?_
    refine zt_iload_n (pc' := 10) hX dX12_fail_9 rfl rfl ?_
    refine zt_put (pc' := 13) (x := a1_) hX dX12_fail_10 rfl zf_X12_246 (by decide) zc_164 zs_46 (fun q hq => by cases hq; rfl) rfl rfl rfl ?_
    generalize hs5 : zset σ 164 5 a1_ = s4
    have hI6 : zInv s4 := hs5 ▸ zp_46_5 hI zc_164 ⟨by omega, by omega⟩
    have hF7 : zOn zQ1 σ s4 := hs5 ▸ zOn_set hF (by decide)
    have e8 : s4 164 2 = σ 164 2 := by rw [← hs5]; exact zset_j (by decide)
    refine zt_aload_n (pc' := 14) hX dX12_fail_13 rfl rfl ?_
    refine zt_iload_n (pc' := 15) hX dX12_fail_14 rfl rfl ?_
    refine zt_put (pc' := 18) (x := a2_) hX dX12_fail_15 rfl zf_X12_249 (by decide) zc_164 zs_46 (fun q hq => by cases hq; rfl) rfl rfl rfl ?_
    generalize hs10 : zset s4 164 6 a2_ = s9
    have hI11 : zInv s9 := hs10 ▸ zp_46_6 hI6 zc_164 ⟨by omega, by omega⟩
    have hF12 : zOn zQ1 σ s9 := hs10 ▸ zOn_set hF7 (by decide)
    have e13 : s9 164 2 = s4 164 2 := by rw [← hs10]; exact zset_j (by decide)
    have h14 := yL_fail1 hT hs5 hs10 (by omega) (by omega)
    exact zt_vret hX hR dX12_fail_18 ⟨hI11, hF12, h14.1, h14.2, by omega⟩
  · exact zt_vret hX hR dX12_fail_7 ⟨hI, hF, yTw_0 hT (by omega), yL_fail0 (by omega), by omega⟩
set_option maxRecDepth 100000 in
set_option maxHeartbeats 4000000 in
theorem yc_X12_look (l : Launch) (E : zEN) (σ : zSto) (hI : zInv σ) (f : Int → Int) (hT : yTq f σ) : zCt l E yX12_look cX12_look 1 (some .int) 0 zNC zNC 0 0 σ [.ref (E.1 + 164)] (fun r σ' => zInv σ' ∧ zOn zQa σ σ' ∧ -1 ≤ r ∧ r ≤ 255 ∧ yTq f σ' ∧ ((yqs f σ') = (yqs f σ)) ∧ (σ' 164 2 = yS f (σ 164 2)) ∧ (r = f (σ' 164 2))) := by
  refine zCt_of2 [some (.ref (E.1 + 164))] (by decide +kernel) (Nat.le_of_ble_eq_true rfl) rfl ?_
  intro X hE_ hX hR hL hN
  subst hE_
  have hX : zok X cX12_look RX12 0 := hX
  have hF := zOn_rf zQa σ
  have hE0 : yqs f σ = yqs f σ := rfl
  have hb := hT.2.2.1
  have b1 := zv_46_2 hI zc_164
  have b2 := zv_46_3 hI zc_164
  have L_0_9 : ∀ (N : Nat) (s3 : zSto), zInv s3 → zOn zQa σ s3 → s3 164 3 = σ 164 3 → σ 164 2 ≤ s3 164 2 → s3 164 2 ≤ σ 164 3 → (∀ j, σ 164 2 ≤ j → j < s3 164 2 → yB (f j) = true) → ((1601 - s3 164 2).toNat) < N → zF X s3 0 [some (.ref (X.1.1 + 164))] [] := by
    intro N
    induction N with
    | zero =>
      intro s3 hI4 hF5 g6 g7 g8 g9 hm11
      exact absurd hm11 (Nat.not_lt_zero _)
    | succ N ih12 =>
      intro s3 hI4 hF5 g6 g7 g8 g9 hm11
      have b13 := zv_46_2 hI4 zc_164
      have b14 := zv_46_3 hI4 zc_164
      refine zt_aload_n (pc' := 1) hX dX12_look_0 rfl rfl ?_
      have b15 := zv_46_2 hI4 zc_164
      refine zt_get (pc' := 4) (v := .int (zI (s3 164 2))) hX dX12_look_1 rfl zf_X12_252 (by decide) zc_164 zs_46 rfl ?_
      refine zt_aload_n (pc' := 5) hX dX12_look_4 rfl rfl ?_
      have b16 := zv_46_3 hI4 zc_164
      refine zt_get (pc' := 8) (v := .int (zI (s3 164 3))) hX dX12_look_5 rfl zf_X12_255 (by decide) zc_164 zs_46 rfl ?_
      refine zt_icge (pc' := 11) (tgt := 52) hX dX12_look_8 rfl (by decide) ⟨by omega, by omega⟩ ⟨by omega, by omega⟩ (fun c17 => ?_) (fun c17 => ?_)
      · refine zt_aload_n (pc' := 53) hX dX12_look_52 rfl rfl ?_
        refine zt_get (pc' := 56) (v := .int (zI (s3 164 2))) hX dX12_look_53 rfl zf_X12_252 (by decide) zc_164 zs_46 rfl ?_
        refine zt_aload_n (pc' := 57) hX dX12_look_56 rfl rfl ?_
        refine zt_get (pc' := 60) (v := .int (zI (s3 164 3))) hX dX12_look_57 rfl zf_X12_255 (by decide) zc_164 zs_46 rfl ?_
        refine zt_icge (pc' := 63) (tgt := 75) hX dX12_look_60 rfl (by decide) ⟨by omega, by omega⟩ ⟨by omega, by omega⟩ (fun c18 => ?_) (fun c18 => ?_)
        · refine zt_iconst (pc' := 76) hX dX12_look_75 rfl ?_
          have h19x : s3 164 3 ≤ s3 164 2 → f (s3 164 2) = -1 := fun h => yA_out hT hF5 h
          have h19e : yS f (σ 164 2) = s3 164 2 := yE_u hT.1 yB_m (by omega) (by omega) g9 (Bool.eq_false_iff.mpr (fun c => by have c := yB_t.mp c; omega))
          have h19 := yL_look hT hF5 h19e
          exact zt_iret hX hR dX12_look_76 ⟨by omega, by omega⟩ ⟨hI4, hF5, by omega, by omega, h19.1, h19.2, h19e.symm, (by omega)⟩
        · refine zt_aload_n (pc' := 64) hX dX12_look_63 rfl rfl ?_
          refine zt_get (pc' := 67) (v := .ref (X.1.1 + 165)) hX dX12_look_64 rfl zf_X12_7 (by decide) zc_164 zs_46 (zrf_of (zv_46_0 hI4 zc_164)) ?_
          refine zt_aload_n (pc' := 68) hX dX12_look_67 rfl rfl ?_
          refine zt_get (pc' := 71) (v := .int (zI (s3 164 2))) hX dX12_look_68 rfl zf_X12_252 (by decide) zc_164 zs_46 rfl ?_
          refine zt_iald (pc' := 72) hX dX12_look_71 rfl (by decide) zc_165 zs_47 (by decide) ⟨by omega, by omega⟩ ?_
          generalize hv20 : s3 165 ((s3 164 2).toNat) = v20
          have bv20 : 0 ≤ v20 ∧ v20 ≤ 255 := hv20 ▸ zv_47 hI4 zc_165 _
          have h21 := yA_at hT hF5 (by omega) (by omega) hv20
          refine zt_goto (tgt := 76) hX dX12_look_72 (by decide) ?_
          have h22x : s3 164 3 ≤ s3 164 2 → f (s3 164 2) = -1 := fun h => yA_out hT hF5 h
          have h22e : yS f (σ 164 2) = s3 164 2 := yE_u hT.1 yB_m (by omega) (by omega) g9 (Bool.eq_false_iff.mpr (fun c => by have c := yB_t.mp c; omega))
          have h22 := yL_look hT hF5 h22e
          exact zt_iret hX hR dX12_look_76 ⟨by omega, by omega⟩ ⟨hI4, hF5, by omega, by omega, h22.1, h22.2, h22e.symm, (by omega)⟩
      · refine zt_aload_n (pc' := 12) hX dX12_look_11 rfl rfl ?_
        refine zt_get (pc' := 15) (v := .ref (X.1.1 + 165)) hX dX12_look_12 rfl zf_X12_7 (by decide) zc_164 zs_46 (zrf_of (zv_46_0 hI4 zc_164)) ?_
        refine zt_aload_n (pc' := 16) hX dX12_look_15 rfl rfl ?_
        refine zt_get (pc' := 19) (v := .int (zI (s3 164 2))) hX dX12_look_16 rfl zf_X12_252 (by decide) zc_164 zs_46 rfl ?_
        refine zt_iald (pc' := 20) hX dX12_look_19 rfl (by decide) zc_165 zs_47 (by decide) ⟨by omega, by omega⟩ ?_
        generalize hv23 : s3 165 ((s3 164 2).toNat) = v23
        have bv23 : 0 ≤ v23 ∧ v23 ≤ 255 := hv23 ▸ zv_47 hI4 zc_165 _
        have h24 := yA_at hT hF5 (by omega) (by omega) hv23
        refine zt_bipush (pc' := 22) hX dX12_look_20 rfl (by decide) (by decide) ?_
        refine zt_iceq (pc' := 25) (tgt := 39) hX dX12_look_22 rfl (by decide) ⟨by omega, by omega⟩ ⟨by omega, by omega⟩ (fun c25 => ?_) (fun c25 => ?_)
        · refine zt_aload_n (pc' := 40) hX dX12_look_39 rfl rfl ?_
          refine zt_dup (pc' := 41) hX dX12_look_40 rfl rfl ?_
          refine zt_get (pc' := 44) (v := .int (zI (s3 164 2))) hX dX12_look_41 rfl zf_X12_252 (by decide) zc_164 zs_46 rfl ?_
          refine zt_iconst (pc' := 45) hX dX12_look_44 rfl ?_
          refine zt_iadd (pc' := 46) hX dX12_look_45 rfl ?_
          refine zt_put (pc' := 49) (x := ((s3 164 2) + 1)) hX dX12_look_46 rfl zf_X12_252 (by decide) zc_164 zs_46 (fun q hq => by cases hq; rfl) rfl rfl rfl ?_
          generalize hs27 : zset s3 164 2 ((s3 164 2) + 1) = s26
          have hI28 : zInv s26 := hs27 ▸ zp_46_2 hI4 zc_164 ⟨by omega, by omega⟩
          have hF29 : zOn zQa σ s26 := hs27 ▸ zOn_set hF5 (by decide)
          have e30 : s26 164 2 = ((s3 164 2) + 1) := by rw [← hs27]; exact zset_s
          have e31 : s26 164 3 = s3 164 3 := by rw [← hs27]; exact zset_j (by decide)
          refine zt_goto (tgt := 0) hX dX12_look_49 (by decide) ?_
          exact ih12 s26 hI28 hF29 (by omega) (by omega) (by omega) (fun j h1 h2 => yall_s g9 (yB_t.mpr (by omega)) j h1 (by omega)) (by omega)
        · refine zt_aload_n (pc' := 26) hX dX12_look_25 rfl rfl ?_
          refine zt_get (pc' := 29) (v := .ref (X.1.1 + 165)) hX dX12_look_26 rfl zf_X12_7 (by decide) zc_164 zs_46 (zrf_of (zv_46_0 hI4 zc_164)) ?_
          refine zt_aload_n (pc' := 30) hX dX12_look_29 rfl rfl ?_
          refine zt_get (pc' := 33) (v := .int (zI (s3 164 2))) hX dX12_look_30 rfl zf_X12_252 (by decide) zc_164 zs_46 rfl ?_
          refine zt_iald (pc' := 34) hX dX12_look_33 rfl (by decide) zc_165 zs_47 (by decide) ⟨by omega, by omega⟩ ?_
          generalize hv32 : s3 165 ((s3 164 2).toNat) = v32
          have bv32 : 0 ≤ v32 ∧ v32 ≤ 255 := hv32 ▸ zv_47 hI4 zc_165 _
          have h33 := yA_at hT hF5 (by omega) (by omega) hv32
          refine zt_bipush (pc' := 36) hX dX12_look_34 rfl (by decide) (by decide) ?_
          refine zt_icne (pc' := 39) (tgt := 52) hX dX12_look_36 rfl (by decide) ⟨by omega, by omega⟩ ⟨by omega, by omega⟩ (fun c34 => ?_) (fun c34 => ?_)
          · refine zt_aload_n (pc' := 53) hX dX12_look_52 rfl rfl ?_
            refine zt_get (pc' := 56) (v := .int (zI (s3 164 2))) hX dX12_look_53 rfl zf_X12_252 (by decide) zc_164 zs_46 rfl ?_
            refine zt_aload_n (pc' := 57) hX dX12_look_56 rfl rfl ?_
            refine zt_get (pc' := 60) (v := .int (zI (s3 164 3))) hX dX12_look_57 rfl zf_X12_255 (by decide) zc_164 zs_46 rfl ?_
            refine zt_icge (pc' := 63) (tgt := 75) hX dX12_look_60 rfl (by decide) ⟨by omega, by omega⟩ ⟨by omega, by omega⟩ (fun c35 => ?_) (fun c35 => ?_)
            · refine zt_iconst (pc' := 76) hX dX12_look_75 rfl ?_
              have h36x : s3 164 3 ≤ s3 164 2 → f (s3 164 2) = -1 := fun h => yA_out hT hF5 h
              have h36e : yS f (σ 164 2) = s3 164 2 := yE_u hT.1 yB_m (by omega) (by omega) g9 (Bool.eq_false_iff.mpr (fun c => by have c := yB_t.mp c; omega))
              have h36 := yL_look hT hF5 h36e
              exact zt_iret hX hR dX12_look_76 ⟨by omega, by omega⟩ ⟨hI4, hF5, by omega, by omega, h36.1, h36.2, h36e.symm, (by omega)⟩
            · refine zt_aload_n (pc' := 64) hX dX12_look_63 rfl rfl ?_
              refine zt_get (pc' := 67) (v := .ref (X.1.1 + 165)) hX dX12_look_64 rfl zf_X12_7 (by decide) zc_164 zs_46 (zrf_of (zv_46_0 hI4 zc_164)) ?_
              refine zt_aload_n (pc' := 68) hX dX12_look_67 rfl rfl ?_
              refine zt_get (pc' := 71) (v := .int (zI (s3 164 2))) hX dX12_look_68 rfl zf_X12_252 (by decide) zc_164 zs_46 rfl ?_
              refine zt_iald (pc' := 72) hX dX12_look_71 rfl (by decide) zc_165 zs_47 (by decide) ⟨by omega, by omega⟩ ?_
              generalize hv37 : s3 165 ((s3 164 2).toNat) = v37
              have bv37 : 0 ≤ v37 ∧ v37 ≤ 255 := hv37 ▸ zv_47 hI4 zc_165 _
              have h38 := yA_at hT hF5 (by omega) (by omega) hv37
              refine zt_goto (tgt := 76) hX dX12_look_72 (by decide) ?_
              have h39x : s3 164 3 ≤ s3 164 2 → f (s3 164 2) = -1 := fun h => yA_out hT hF5 h
              have h39e : yS f (σ 164 2) = s3 164 2 := yE_u hT.1 yB_m (by omega) (by omega) g9 (Bool.eq_false_iff.mpr (fun c => by have c := yB_t.mp c; omega))
              have h39 := yL_look hT hF5 h39e
              exact zt_iret hX hR dX12_look_76 ⟨by omega, by omega⟩ ⟨hI4, hF5, by omega, by omega, h39.1, h39.2, h39e.symm, (by omega)⟩
          · refine zt_aload_n (pc' := 40) hX dX12_look_39 rfl rfl ?_
            refine zt_dup (pc' := 41) hX dX12_look_40 rfl rfl ?_
            refine zt_get (pc' := 44) (v := .int (zI (s3 164 2))) hX dX12_look_41 rfl zf_X12_252 (by decide) zc_164 zs_46 rfl ?_
            refine zt_iconst (pc' := 45) hX dX12_look_44 rfl ?_
            refine zt_iadd (pc' := 46) hX dX12_look_45 rfl ?_
            refine zt_put (pc' := 49) (x := ((s3 164 2) + 1)) hX dX12_look_46 rfl zf_X12_252 (by decide) zc_164 zs_46 (fun q hq => by cases hq; rfl) rfl rfl rfl ?_
            generalize hs41 : zset s3 164 2 ((s3 164 2) + 1) = s40
            have hI42 : zInv s40 := hs41 ▸ zp_46_2 hI4 zc_164 ⟨by omega, by omega⟩
            have hF43 : zOn zQa σ s40 := hs41 ▸ zOn_set hF5 (by decide)
            have e44 : s40 164 2 = ((s3 164 2) + 1) := by rw [← hs41]; exact zset_s
            have e45 : s40 164 3 = s3 164 3 := by rw [← hs41]; exact zset_j (by decide)
            refine zt_goto (tgt := 0) hX dX12_look_49 (by decide) ?_
            exact ih12 s40 hI42 hF43 (by omega) (by omega) (by omega) (fun j h1 h2 => yall_s g9 (yB_t.mpr (by omega)) j h1 (by omega)) (by omega)
  exact L_0_9 _ σ hI hF (by omega) (by omega) (by omega) (fun j h1 h2 => absurd h2 (by omega)) (Nat.lt_succ_self _)
set_option maxRecDepth 100000 in
set_option maxHeartbeats 4000000 in
theorem yc_X12_isHere (l : Launch) (E : zEN) (σ : zSto) (hI : zInv σ) (kw : Nat) (rw_ nw : Nat) (hkw : zro kw = rw_) (hrw : rw_ ≠ 0) (hsw : zrs rw_ = .inr (3, nw)) (hnw : 2 ≤ nw ∧ nw ≤ 6) (f : Int → Int) (hT : yTq f σ) (w : Int) (hw : yRow σ kw nw w) (hkn : kw ≠ 164) : zCt l E yX12_isHere cX12_isHere 4 (some .boolean) 1 zNC zNC 0 0 σ [.ref (E.1 + 164), .ref (E.1 + kw)] (fun r σ' => zInv σ' ∧ zOn zQa σ σ' ∧ 0 ≤ r ∧ r ≤ 1 ∧ yTq f σ' ∧ ((yqs f σ') = (yqs f σ)) ∧ ((yPi f (yqs f σ) = w → r = 1) ∧ (yPi f (yqs f σ) ≠ w → r = 0)) ∧ (yPo (yqs f σ) = 1 → σ' 164 2 = yPq (yqs f σ)) ∧ (r = 1 → σ 164 5 = 0 ∧ yWe f (σ' 164 2) = σ' 164 2 + (nw : Int) ∧ σ' 164 2 + (nw : Int) ≤ 1600)) := by
  refine zCt_of2 [some (.ref (E.1 + 164)), some (.ref (E.1 + kw)), none, none] (by decide +kernel) (Nat.le_of_ble_eq_true rfl) rfl ?_
  intro X hE_ hX hR hL hN
  subst hE_
  have hX : zok X cX12_isHere RX12 1 := hX
  have hF := zOn_rf zQa σ
  have hE0 : yqs f σ = yqs f σ := rfl
  have hb := hT.2.2.1
  have b1 := zv_46_2 hI zc_164
  have b2 := zv_46_3 hI zc_164
  have b3 := zv_46_5 hI zc_164
  have b4 := zv_46_4 hI zc_164
  refine zt_aload_n (pc' := 1) hX dX12_isHere_0 rfl rfl ?_
  have b5 := zv_46_5 hI zc_164
  refine zt_get (pc' := 4) (v := .int (zI (σ 164 5))) hX dX12_isHere_1 rfl zf_X12_246 (by decide) zc_164 zs_46 rfl ?_
  refine zt_ifne (pc' := 7) (tgt := 28) hX dX12_isHere_4 rfl (by decide) ⟨by omega, by omega⟩ (fun c6 => ?_) (fun c6 => ?_)
  · refine zt_iconst (pc' := 29) hX dX12_isHere_28 rfl ?_
    exact zt_zret hX hR dX12_isHere_29 ⟨by omega, by omega⟩ ⟨hI, hF, by omega, by omega, hT, hE0, yis_n (by omega) hw.1, (fun o => by have t := (yHq hT).2 (by omega); omega), (fun h => by omega)⟩
  · refine zt_aload_n (pc' := 8) hX dX12_isHere_7 rfl rfl ?_
    refine zt_cVi (pc' := 11) hX dX12_isHere_8 rfl zm_yX12_look zw_26_12 zc_164 (by decide) zs_46 (q := (RX12, TX12, 108)) rfl rfl (yc_X12_look _ _ σ hI f hT) rfl rfl (Nat.le_of_ble_eq_true rfl) (by decide) (fun r7 s8 hr9 hp10 => ?_)
    obtain ⟨hI11, hF12, q13, q14, hT15, z16, z17, z18⟩ := hp10
    have hE19 : yqs f s8 = (yqs f σ) := z16
    have hF20 := zOn_tr hF hF12 zi_id
    have b21 := zv_46_2 hI11 zc_164
    have b22 := zv_46_3 hI11 zc_164
    have b23 := zv_46_5 hI11 zc_164
    have b24 := zv_46_4 hI11 zc_164
    have e25 := hF12 164 3 rfl
    have e26 := hF12 164 5 rfl
    have e27 := hF12 164 4 rfl
    have hq : yqs f σ = .ok (s8 164 2) := yqs_at (by omega) z17
    have hb2 := hT15.2.2.1
    have hvk : ∀ j, s8 kw j = σ kw j := fun j => hF20 kw j (by simp [zQa, hkn])
    refine zt_cSz (pc' := 14) hX dX12_isHere_11 rfl zm_yX12_isLetter zw_26_16 (yc_X12_isLetter _ _ s8  r7 ⟨by omega, by omega⟩) rfl rfl (Nat.le_of_ble_eq_true rfl) (by decide) (fun r28 s29 hr30 hp31 => ?_)
    obtain ⟨rfl, q32, q33, z34⟩ := hp31
    refine zt_ifeq (pc' := 17) (tgt := 28) hX dX12_isHere_14 rfl (by decide) ⟨by omega, by omega⟩ (fun c35 => ?_) (fun c35 => ?_)
    · refine zt_iconst (pc' := 29) hX dX12_isHere_28 rfl ?_
      exact zt_zret hX hR dX12_isHere_29 ⟨by omega, by omega⟩ ⟨hI11, hF20, by omega, by omega, hT15, hE19, (by first | exact yis_a hq (yi_nl (by omega)) hw.1 | exact yis_a hq (yi_k (by have t := (yq_K hT15 (by omega) (yL_t.mpr (by omega))).1 (by omega); omega)) hw.1), (fun _ => by rw [hq]; rfl), (fun h => by omega)⟩
    · refine zt_aload_n (pc' := 18) hX dX12_isHere_17 rfl rfl ?_
      have b36 := zv_46_2 hI11 zc_164
      refine zt_get (pc' := 21) (v := .int (zI (s8 164 2))) hX dX12_isHere_18 rfl zf_X12_252 (by decide) zc_164 zs_46 rfl ?_
      refine zt_aload_n (pc' := 22) hX dX12_isHere_21 rfl rfl ?_
      have b37 := zv_46_4 hI11 zc_164
      refine zt_get (pc' := 25) (v := .int (zI (s8 164 4))) hX dX12_isHere_22 rfl zf_X12_266 (by decide) zc_164 zs_46 rfl ?_
      refine zt_icne (pc' := 28) (tgt := 30) hX dX12_isHere_25 rfl (by decide) ⟨by omega, by omega⟩ ⟨by omega, by omega⟩ (fun c38 => ?_) (fun c38 => ?_)
      · refine zt_aload_n (pc' := 31) hX dX12_isHere_30 rfl rfl ?_
        refine zt_get (pc' := 34) (v := .int (zI (s8 164 2))) hX dX12_isHere_31 rfl zf_X12_252 (by decide) zc_164 zs_46 rfl ?_
        refine zt_istore_n (pc' := 35) (lv' := [some (.ref (X.1.1 + 164)), some (.ref (X.1.1 + kw)), some (.int (zI (s8 164 2))), none]) hX dX12_isHere_34 rfl hL (by decide) rfl ?_
        have L_35_44 : ∀ (N : Nat) (x39 : Int), 0 ≤ x39 → x39 ≤ 1600 → (s8 164 2) ≤ x39 → x39 ≤ s8 164 3 → (∀ j, (s8 164 2) ≤ j → j < x39 → yL (f j) = true) → ((1601 - x39).toNat) < N → zF X s8 35 [some (.ref (X.1.1 + 164)), some (.ref (X.1.1 + kw)), some (.int (zI x39)), none] [] := by
          intro N
          induction N with
          | zero =>
            intro x39 h40 h41 g42 g43 g44 hm46
            exact absurd hm46 (Nat.not_lt_zero _)
          | succ N ih47 =>
            intro x39 h40 h41 g42 g43 g44 hm46
            refine zt_iload_n (pc' := 36) hX dX12_isHere_35 rfl rfl ?_
            refine zt_aload_n (pc' := 37) hX dX12_isHere_36 rfl rfl ?_
            have b48 := zv_46_3 hI11 zc_164
            refine zt_get (pc' := 40) (v := .int (zI (s8 164 3))) hX dX12_isHere_37 rfl zf_X12_255 (by decide) zc_164 zs_46 rfl ?_
            refine zt_icge (pc' := 43) (tgt := 61) hX dX12_isHere_40 rfl (by decide) ⟨by omega, by omega⟩ ⟨by omega, by omega⟩ (fun c49 => ?_) (fun c49 => ?_)
            · refine zt_iload_n (pc' := 62) hX dX12_isHere_61 rfl rfl ?_
              refine zt_aload_n (pc' := 63) hX dX12_isHere_62 rfl rfl ?_
              refine zt_get (pc' := 66) (v := .int (zI (s8 164 2))) hX dX12_isHere_63 rfl zf_X12_252 (by decide) zc_164 zs_46 rfl ?_
              refine zt_isub (pc' := 67) hX dX12_isHere_66 rfl ?_
              refine zt_aload_n (pc' := 68) hX dX12_isHere_67 rfl rfl ?_
              refine zt_alen (pc' := 69) hX dX12_isHere_68 rfl (zro_lt hkw hrw) hkw hsw (by decide) ?_
              refine zt_iceq (pc' := 72) (tgt := 74) hX dX12_isHere_69 rfl (by decide) ⟨by omega, by omega⟩ ⟨by omega, by omega⟩ (fun c50 => ?_) (fun c50 => ?_)
              · refine zt_iconst (pc' := 75) hX dX12_isHere_74 rfl ?_
                refine zt_istore_n (pc' := 76) (lv' := [some (.ref (X.1.1 + 164)), some (.ref (X.1.1 + kw)), some (.int (zI x39)), some (.int (zI 0))]) hX dX12_isHere_75 rfl hL (by decide) rfl ?_
                have hl : yL (f (s8 164 2)) = true := yL_t.mpr (by omega)
                have hk := (yq_K hT15 (by omega) hl).2 (by omega)
                have hx : s8 164 3 ≤ x39 → f x39 = -1 := fun h => yA_out hT hF20 h
                have hWe : yWe f (s8 164 2) = x39 := yE_u hT.1 yL_m (by omega) (by omega) g44 (Bool.eq_false_iff.mpr (fun c => by have c := yL_t.mp c; omega))
                have L_76_58 : ∀ (N : Nat) (x55 : Int), 0 ≤ x55 → x55 ≤ 6 → (∀ j : Nat, (j : Int) < x55 → f ((s8 164 2) + j) = σ kw j) → ((7 - x55).toNat) < N → zF X s8 76 [some (.ref (X.1.1 + 164)), some (.ref (X.1.1 + kw)), none, some (.int (zI x55))] [] := by
                  intro N
                  induction N with
                  | zero =>
                    intro x55 h56 h57 g58 hm60
                    exact absurd hm60 (Nat.not_lt_zero _)
                  | succ N ih61 =>
                    intro x55 h56 h57 g58 hm60
                    refine zt_iload_n (pc' := 77) hX dX12_isHere_76 rfl rfl ?_
                    refine zt_aload_n (pc' := 78) hX dX12_isHere_77 rfl rfl ?_
                    refine zt_alen (pc' := 79) hX dX12_isHere_78 rfl (zro_lt hkw hrw) hkw hsw (by decide) ?_
                    refine zt_icge (pc' := 82) (tgt := 107) hX dX12_isHere_79 rfl (by decide) ⟨by omega, by omega⟩ ⟨by omega, by omega⟩ (fun c62 => ?_) (fun c62 => ?_)
                    · refine zt_iconst (pc' := 108) hX dX12_isHere_107 rfl ?_
                      exact zt_zret hX hR dX12_isHere_108 ⟨by omega, by omega⟩ ⟨hI11, hF20, by omega, by omega, hT15, hE19, yis_c hq ((yIs hw hk hl).mpr ⟨by omega, fun j hj => g58 j (by omega)⟩), (fun _ => by rw [hq]; rfl), (fun _ => ⟨by omega, by omega, by omega⟩)⟩
                    · refine zt_aload_n (pc' := 83) hX dX12_isHere_82 rfl rfl ?_
                      refine zt_get (pc' := 86) (v := .ref (X.1.1 + 165)) hX dX12_isHere_83 rfl zf_X12_7 (by decide) zc_164 zs_46 (zrf_of (zv_46_0 hI11 zc_164)) ?_
                      refine zt_aload_n (pc' := 87) hX dX12_isHere_86 rfl rfl ?_
                      refine zt_get (pc' := 90) (v := .int (zI (s8 164 2))) hX dX12_isHere_87 rfl zf_X12_252 (by decide) zc_164 zs_46 rfl ?_
                      refine zt_iload_n (pc' := 91) hX dX12_isHere_90 rfl rfl ?_
                      refine zt_iadd (pc' := 92) hX dX12_isHere_91 rfl ?_
                      refine zt_iald (pc' := 93) hX dX12_isHere_92 rfl (by decide) zc_165 zs_47 (by decide) ⟨by omega, by omega⟩ ?_
                      generalize hv63 : s8 165 (((s8 164 2) + x55).toNat) = v63
                      have bv63 : 0 ≤ v63 ∧ v63 ≤ 255 := hv63 ▸ zv_47 hI11 zc_165 _
                      have h64 := yA_at hT hF20 (by omega) (by omega) hv63
                      refine zt_aload_n (pc' := 94) hX dX12_isHere_93 rfl rfl ?_
                      refine zt_iload_n (pc' := 95) hX dX12_isHere_94 rfl rfl ?_
                      refine zt_cald (pc' := 96) hX dX12_isHere_95 rfl (zro_lt hkw hrw) hkw hsw (by omega) ⟨by omega, by omega⟩ ?_
                      generalize hv65 : s8 kw x55.toNat = v65
                      have bv65 : 97 ≤ v65 ∧ v65 ≤ 122 := by have t := hw.2.2.1 x55.toNat (by omega); rw [← hvk, hv65] at t; exact t
                      refine zt_iceq (pc' := 99) (tgt := 101) hX dX12_isHere_96 rfl (by decide) ⟨by omega, by omega⟩ ⟨by omega, by omega⟩ (fun c66 => ?_) (fun c66 => ?_)
                      · refine zt_iinc (pc' := 104) (lv' := [some (.ref (X.1.1 + 164)), some (.ref (X.1.1 + kw)), none, some (.int (zI (x55 + 1)))]) hX dX12_isHere_101 rfl rfl hL (by decide) rfl ?_
                        refine zt_goto (tgt := 76) hX dX12_isHere_104 (by decide) ?_
                        exact ih61 (x55 + 1) (by omega) (by omega) (yeq_s g58 (by omega) h64 ((hvk _).symm.trans hv65) (by omega)) (by omega)
                      · refine zt_iconst (pc' := 100) hX dX12_isHere_99 rfl ?_
                        exact zt_zret hX hR dX12_isHere_100 ⟨by omega, by omega⟩ ⟨hI11, hF20, by omega, by omega, hT15, hE19, yis_b hq (fun h => by have t := ((yIs hw hk hl).mp h).2 x55.toNat (by omega); rw [show ((x55.toNat : Nat) : Int) = x55 by omega, h64, ← hvk, hv65] at t; omega), (fun _ => by rw [hq]; rfl), (fun h => by omega)⟩
                refine zt_mask [true, true, false, true] rfl ?_
                exact L_76_58 _ 0 (by omega) (by omega) (fun j h => absurd h (by omega)) (Nat.lt_succ_self _)
              · refine zt_iconst (pc' := 73) hX dX12_isHere_72 rfl ?_
                have hl : yL (f (s8 164 2)) = true := yL_t.mpr (by omega)
                have hk := (yq_K hT15 (by omega) hl).2 (by omega)
                have hx : s8 164 3 ≤ x39 → f x39 = -1 := fun h => yA_out hT hF20 h
                have hWe : yWe f (s8 164 2) = x39 := yE_u hT.1 yL_m (by omega) (by omega) g44 (Bool.eq_false_iff.mpr (fun c => by have c := yL_t.mp c; omega))
                exact zt_zret hX hR dX12_isHere_73 ⟨by omega, by omega⟩ ⟨hI11, hF20, by omega, by omega, hT15, hE19, yis_b hq (fun h => absurd ((yIs hw hk hl).mp h).1 (by omega)), (fun _ => by rw [hq]; rfl), (fun h => by omega)⟩
            · refine zt_aload_n (pc' := 44) hX dX12_isHere_43 rfl rfl ?_
              refine zt_get (pc' := 47) (v := .ref (X.1.1 + 165)) hX dX12_isHere_44 rfl zf_X12_7 (by decide) zc_164 zs_46 (zrf_of (zv_46_0 hI11 zc_164)) ?_
              refine zt_iload_n (pc' := 48) hX dX12_isHere_47 rfl rfl ?_
              refine zt_iald (pc' := 49) hX dX12_isHere_48 rfl (by decide) zc_165 zs_47 (by decide) ⟨by omega, by omega⟩ ?_
              generalize hv67 : s8 165 (x39.toNat) = v67
              have bv67 : 0 ≤ v67 ∧ v67 ≤ 255 := hv67 ▸ zv_47 hI11 zc_165 _
              have h68 := yA_at hT hF20 (by omega) (by omega) hv67
              refine zt_cSz (pc' := 52) hX dX12_isHere_49 rfl zm_yX12_isLetter zw_26_16 (yc_X12_isLetter _ _ s8  v67 ⟨by omega, by omega⟩) rfl rfl (Nat.le_of_ble_eq_true rfl) (by decide) (fun r69 s70 hr71 hp72 => ?_)
              obtain ⟨rfl, q73, q74, z75⟩ := hp72
              refine zt_ifeq (pc' := 55) (tgt := 61) hX dX12_isHere_52 rfl (by decide) ⟨by omega, by omega⟩ (fun c76 => ?_) (fun c76 => ?_)
              · refine zt_iload_n (pc' := 62) hX dX12_isHere_61 rfl rfl ?_
                refine zt_aload_n (pc' := 63) hX dX12_isHere_62 rfl rfl ?_
                refine zt_get (pc' := 66) (v := .int (zI (s8 164 2))) hX dX12_isHere_63 rfl zf_X12_252 (by decide) zc_164 zs_46 rfl ?_
                refine zt_isub (pc' := 67) hX dX12_isHere_66 rfl ?_
                refine zt_aload_n (pc' := 68) hX dX12_isHere_67 rfl rfl ?_
                refine zt_alen (pc' := 69) hX dX12_isHere_68 rfl (zro_lt hkw hrw) hkw hsw (by decide) ?_
                refine zt_iceq (pc' := 72) (tgt := 74) hX dX12_isHere_69 rfl (by decide) ⟨by omega, by omega⟩ ⟨by omega, by omega⟩ (fun c77 => ?_) (fun c77 => ?_)
                · refine zt_iconst (pc' := 75) hX dX12_isHere_74 rfl ?_
                  refine zt_istore_n (pc' := 76) (lv' := [some (.ref (X.1.1 + 164)), some (.ref (X.1.1 + kw)), some (.int (zI x39)), some (.int (zI 0))]) hX dX12_isHere_75 rfl hL (by decide) rfl ?_
                  have hl : yL (f (s8 164 2)) = true := yL_t.mpr (by omega)
                  have hk := (yq_K hT15 (by omega) hl).2 (by omega)
                  have hx : s8 164 3 ≤ x39 → f x39 = -1 := fun h => yA_out hT hF20 h
                  have hWe : yWe f (s8 164 2) = x39 := yE_u hT.1 yL_m (by omega) (by omega) g44 (Bool.eq_false_iff.mpr (fun c => by have c := yL_t.mp c; omega))
                  have L_76_85 : ∀ (N : Nat) (x82 : Int), 0 ≤ x82 → x82 ≤ 6 → (∀ j : Nat, (j : Int) < x82 → f ((s8 164 2) + j) = σ kw j) → ((7 - x82).toNat) < N → zF X s8 76 [some (.ref (X.1.1 + 164)), some (.ref (X.1.1 + kw)), none, some (.int (zI x82))] [] := by
                    intro N
                    induction N with
                    | zero =>
                      intro x82 h83 h84 g85 hm87
                      exact absurd hm87 (Nat.not_lt_zero _)
                    | succ N ih88 =>
                      intro x82 h83 h84 g85 hm87
                      refine zt_iload_n (pc' := 77) hX dX12_isHere_76 rfl rfl ?_
                      refine zt_aload_n (pc' := 78) hX dX12_isHere_77 rfl rfl ?_
                      refine zt_alen (pc' := 79) hX dX12_isHere_78 rfl (zro_lt hkw hrw) hkw hsw (by decide) ?_
                      refine zt_icge (pc' := 82) (tgt := 107) hX dX12_isHere_79 rfl (by decide) ⟨by omega, by omega⟩ ⟨by omega, by omega⟩ (fun c89 => ?_) (fun c89 => ?_)
                      · refine zt_iconst (pc' := 108) hX dX12_isHere_107 rfl ?_
                        exact zt_zret hX hR dX12_isHere_108 ⟨by omega, by omega⟩ ⟨hI11, hF20, by omega, by omega, hT15, hE19, yis_c hq ((yIs hw hk hl).mpr ⟨by omega, fun j hj => g85 j (by omega)⟩), (fun _ => by rw [hq]; rfl), (fun _ => ⟨by omega, by omega, by omega⟩)⟩
                      · refine zt_aload_n (pc' := 83) hX dX12_isHere_82 rfl rfl ?_
                        refine zt_get (pc' := 86) (v := .ref (X.1.1 + 165)) hX dX12_isHere_83 rfl zf_X12_7 (by decide) zc_164 zs_46 (zrf_of (zv_46_0 hI11 zc_164)) ?_
                        refine zt_aload_n (pc' := 87) hX dX12_isHere_86 rfl rfl ?_
                        refine zt_get (pc' := 90) (v := .int (zI (s8 164 2))) hX dX12_isHere_87 rfl zf_X12_252 (by decide) zc_164 zs_46 rfl ?_
                        refine zt_iload_n (pc' := 91) hX dX12_isHere_90 rfl rfl ?_
                        refine zt_iadd (pc' := 92) hX dX12_isHere_91 rfl ?_
                        refine zt_iald (pc' := 93) hX dX12_isHere_92 rfl (by decide) zc_165 zs_47 (by decide) ⟨by omega, by omega⟩ ?_
                        generalize hv90 : s8 165 (((s8 164 2) + x82).toNat) = v90
                        have bv90 : 0 ≤ v90 ∧ v90 ≤ 255 := hv90 ▸ zv_47 hI11 zc_165 _
                        have h91 := yA_at hT hF20 (by omega) (by omega) hv90
                        refine zt_aload_n (pc' := 94) hX dX12_isHere_93 rfl rfl ?_
                        refine zt_iload_n (pc' := 95) hX dX12_isHere_94 rfl rfl ?_
                        refine zt_cald (pc' := 96) hX dX12_isHere_95 rfl (zro_lt hkw hrw) hkw hsw (by omega) ⟨by omega, by omega⟩ ?_
                        generalize hv92 : s8 kw x82.toNat = v92
                        have bv92 : 97 ≤ v92 ∧ v92 ≤ 122 := by have t := hw.2.2.1 x82.toNat (by omega); rw [← hvk, hv92] at t; exact t
                        refine zt_iceq (pc' := 99) (tgt := 101) hX dX12_isHere_96 rfl (by decide) ⟨by omega, by omega⟩ ⟨by omega, by omega⟩ (fun c93 => ?_) (fun c93 => ?_)
                        · refine zt_iinc (pc' := 104) (lv' := [some (.ref (X.1.1 + 164)), some (.ref (X.1.1 + kw)), none, some (.int (zI (x82 + 1)))]) hX dX12_isHere_101 rfl rfl hL (by decide) rfl ?_
                          refine zt_goto (tgt := 76) hX dX12_isHere_104 (by decide) ?_
                          exact ih88 (x82 + 1) (by omega) (by omega) (yeq_s g85 (by omega) h91 ((hvk _).symm.trans hv92) (by omega)) (by omega)
                        · refine zt_iconst (pc' := 100) hX dX12_isHere_99 rfl ?_
                          exact zt_zret hX hR dX12_isHere_100 ⟨by omega, by omega⟩ ⟨hI11, hF20, by omega, by omega, hT15, hE19, yis_b hq (fun h => by have t := ((yIs hw hk hl).mp h).2 x82.toNat (by omega); rw [show ((x82.toNat : Nat) : Int) = x82 by omega, h91, ← hvk, hv92] at t; omega), (fun _ => by rw [hq]; rfl), (fun h => by omega)⟩
                  refine zt_mask [true, true, false, true] rfl ?_
                  exact L_76_85 _ 0 (by omega) (by omega) (fun j h => absurd h (by omega)) (Nat.lt_succ_self _)
                · refine zt_iconst (pc' := 73) hX dX12_isHere_72 rfl ?_
                  have hl : yL (f (s8 164 2)) = true := yL_t.mpr (by omega)
                  have hk := (yq_K hT15 (by omega) hl).2 (by omega)
                  have hx : s8 164 3 ≤ x39 → f x39 = -1 := fun h => yA_out hT hF20 h
                  have hWe : yWe f (s8 164 2) = x39 := yE_u hT.1 yL_m (by omega) (by omega) g44 (Bool.eq_false_iff.mpr (fun c => by have c := yL_t.mp c; omega))
                  exact zt_zret hX hR dX12_isHere_73 ⟨by omega, by omega⟩ ⟨hI11, hF20, by omega, by omega, hT15, hE19, yis_b hq (fun h => absurd ((yIs hw hk hl).mp h).1 (by omega)), (fun _ => by rw [hq]; rfl), (fun h => by omega)⟩
              · refine zt_iinc (pc' := 58) (lv' := [some (.ref (X.1.1 + 164)), some (.ref (X.1.1 + kw)), some (.int (zI (x39 + 1))), none]) hX dX12_isHere_55 rfl rfl hL (by decide) rfl ?_
                refine zt_goto (tgt := 35) hX dX12_isHere_58 (by decide) ?_
                exact ih47 (x39 + 1) (by omega) (by omega) (by omega) (by omega) (yall_s g44 (yL_t.mpr (by omega))) (by omega)
        exact L_35_44 _ (s8 164 2) (by omega) (by omega) (by omega) (by omega) (fun j h1 h2 => absurd h2 (by omega)) (Nat.lt_succ_self _)
      · refine zt_iconst (pc' := 29) hX dX12_isHere_28 rfl ?_
        exact zt_zret hX hR dX12_isHere_29 ⟨by omega, by omega⟩ ⟨hI11, hF20, by omega, by omega, hT15, hE19, (by first | exact yis_a hq (yi_nl (by omega)) hw.1 | exact yis_a hq (yi_k (by have t := (yq_K hT15 (by omega) (yL_t.mpr (by omega))).1 (by omega); omega)) hw.1), (fun _ => by rw [hq]; rfl), (fun h => by omega)⟩
set_option maxRecDepth 100000 in
set_option maxHeartbeats 4000000 in
theorem yc_X12_takes (l : Launch) (E : zEN) (σ : zSto) (hI : zInv σ) (kw : Nat) (rw_ nw : Nat) (hkw : zro kw = rw_) (hrw : rw_ ≠ 0) (hsw : zrs rw_ = .inr (3, nw)) (hnw : 2 ≤ nw ∧ nw ≤ 6) (f : Int → Int) (hT : yTq f σ) (w : Int) (hw : yRow σ kw nw w) (hkn : kw ≠ 164) : zCt l E yX12_takes cX12_takes 2 (some .boolean) 2 zNC zNC 0 0 σ [.ref (E.1 + 164), .ref (E.1 + kw)] (fun r σ' => zInv σ' ∧ zOn zQ1 σ σ' ∧ 0 ≤ r ∧ r ≤ 1 ∧ yTq f σ' ∧ ((yqs f σ') = yPt f w (yqs f σ)) ∧ ((yPi f (yqs f σ) = w → r = 1) ∧ (yPi f (yqs f σ) ≠ w → r = 0)) ∧ (yPo (yqs f σ) = 1 ∧ r = 0 → σ' 164 2 = yPq (yqs f σ))) := by
  refine zCt_of2 [some (.ref (E.1 + 164)), some (.ref (E.1 + kw))] (by decide +kernel) (Nat.le_of_ble_eq_true rfl) rfl ?_
  intro X hE_ hX hR hL hN
  subst hE_
  have hX : zok X cX12_takes RX12 2 := hX
  have hF := zOn_rf zQ1 σ
  have hE0 : yqs f σ = yqs f σ := rfl
  obtain ⟨hh1, hh2⟩ := yHq hT
  have b1 := zv_46_2 hI zc_164
  have b2 := zv_46_3 hI zc_164
  have b3 := zv_46_5 hI zc_164
  have b4 := zv_46_4 hI zc_164
  refine zt_aload_n (pc' := 1) hX dX12_takes_0 rfl rfl ?_
  refine zt_aload_n (pc' := 2) hX dX12_takes_1 rfl rfl ?_
  refine zt_cVz (pc' := 5) hX dX12_takes_2 rfl zm_yX12_isHere zw_26_8 zc_164 (by decide) zs_46 (q := (RX12, TX12, 108)) rfl rfl (yc_X12_isHere _ _ σ hI kw rw_ nw hkw hrw hsw hnw f hT w hw hkn) rfl rfl (Nat.le_of_ble_eq_true rfl) (by decide) (fun r5 s6 hr7 hp8 => ?_)
  obtain ⟨hI9, hF10, q11, q12, hT13, z14, z15, z16, z17⟩ := hp8
  have hE18 : yqs f s6 = (yqs f σ) := z14
  have hF19 := zOn_tr hF hF10 zi_a1
  have b20 := zv_46_2 hI9 zc_164
  have b21 := zv_46_3 hI9 zc_164
  have b22 := zv_46_5 hI9 zc_164
  have b23 := zv_46_4 hI9 zc_164
  have e24 := hF10 164 3 rfl
  have e25 := hF10 164 5 rfl
  have e26 := hF10 164 4 rfl
  have hw9 : r5 = 1 → s6 164 2 + (nw : Int) ≤ 1600 := fun h => (z17 h).2.2
  refine zt_ifne (pc' := 8) (tgt := 10) hX dX12_takes_5 rfl (by decide) ⟨by omega, by omega⟩ (fun c27 => ?_) (fun c27 => ?_)
  · refine zt_aload_n (pc' := 11) hX dX12_takes_10 rfl rfl ?_
    refine zt_dup (pc' := 12) hX dX12_takes_11 rfl rfl ?_
    have b28 := zv_46_2 hI9 zc_164
    refine zt_get (pc' := 15) (v := .int (zI (s6 164 2))) hX dX12_takes_12 rfl zf_X12_252 (by decide) zc_164 zs_46 rfl ?_
    refine zt_aload_n (pc' := 16) hX dX12_takes_15 rfl rfl ?_
    refine zt_alen (pc' := 17) hX dX12_takes_16 rfl (zro_lt hkw hrw) hkw hsw (by decide) ?_
    refine zt_iadd (pc' := 18) hX dX12_takes_17 rfl ?_
    refine zt_put (pc' := 21) (x := ((s6 164 2) + (nw : Int))) hX dX12_takes_18 rfl zf_X12_252 (by decide) zc_164 zs_46 (fun q hq => by cases hq; rfl) rfl rfl rfl ?_
    generalize hs30 : zset s6 164 2 ((s6 164 2) + (nw : Int)) = s29
    have hI31 : zInv s29 := hs30 ▸ zp_46_2 hI9 zc_164 ⟨by omega, by omega⟩
    have hF32 : zOn zQ1 σ s29 := hs30 ▸ zOn_set hF19 (by decide)
    have e33 : s29 164 2 = ((s6 164 2) + (nw : Int)) := by rw [← hs30]; exact zset_s
    have e34 : s29 164 3 = s6 164 3 := by rw [← hs30]; exact zset_j (by decide)
    have e35 : s29 164 5 = s6 164 5 := by rw [← hs30]; exact zset_j (by decide)
    have e36 : s29 164 4 = s6 164 4 := by rw [← hs30]; exact zset_j (by decide)
    refine zt_aload_n (pc' := 22) hX dX12_takes_21 rfl rfl ?_
    refine zt_aload_n (pc' := 23) hX dX12_takes_22 rfl rfl ?_
    have b37 := zv_46_2 hI31 zc_164
    refine zt_get (pc' := 26) (v := .int (zI (s29 164 2))) hX dX12_takes_23 rfl zf_X12_252 (by decide) zc_164 zs_46 rfl ?_
    refine zt_put (pc' := 29) (x := (s29 164 2)) hX dX12_takes_26 rfl zf_X12_266 (by decide) zc_164 zs_46 (fun q hq => by cases hq; rfl) rfl rfl rfl ?_
    generalize hs39 : zset s29 164 4 (s29 164 2) = s38
    have hI40 : zInv s38 := hs39 ▸ zp_46_4 hI31 zc_164 ⟨by omega, by omega⟩
    have hF41 : zOn zQ1 σ s38 := hs39 ▸ zOn_set hF32 (by decide)
    have e42 : s38 164 2 = s29 164 2 := by rw [← hs39]; exact zset_j (by decide)
    have e43 : s38 164 3 = s29 164 3 := by rw [← hs39]; exact zset_j (by decide)
    have e44 : s38 164 5 = s29 164 5 := by rw [← hs39]; exact zset_j (by decide)
    have e45 : s38 164 4 = (s29 164 2) := by rw [← hs39]; exact zset_s
    refine zt_iconst (pc' := 30) hX dX12_takes_29 rfl ?_
    obtain ⟨t1, t2, t3⟩ := z17 (by omega)
    have h46 := yL_takes2 hT13 hE18 (by omega) (z16 (by omega)) (Decidable.byContradiction (fun n => by have := z15.2 n; omega)) hw.1.1 t2 hs30 hs39
    exact zt_zret hX hR dX12_takes_30 ⟨by omega, by omega⟩ ⟨hI40, hF41, by omega, by omega, h46.1, h46.2, ⟨fun _ => rfl, fun n => by have := z15.2 n; omega⟩, (fun o => by omega)⟩
  · refine zt_iconst (pc' := 9) hX dX12_takes_8 rfl ?_
    exact zt_zret hX hR dX12_takes_9 ⟨by omega, by omega⟩ ⟨hI9, hF19, by omega, by omega, hT13, hE18.trans (yPt_0 (fun n => by have := z15.1 n; omega)), ⟨fun n => by have := z15.1 n; omega, fun _ => rfl⟩, (fun o => z16 o.1)⟩
set_option maxRecDepth 100000 in
set_option maxHeartbeats 4000000 in
theorem yc_X12_asks (l : Launch) (E : zEN) (σ : zSto) (hI : zInv σ) (kw : Nat) (rw_ nw : Nat) (hkw : zro kw = rw_) (hrw : rw_ ≠ 0) (hsw : zrs rw_ = .inr (3, nw)) (hnw : 2 ≤ nw ∧ nw ≤ 6) (f : Int → Int) (hT : yTq f σ) (w : Int) (hw : yRow σ kw nw w) (hkn : kw ≠ 164) : zCt l E yX12_asks cX12_asks 2 none 3 zNC zNC 0 0 σ [.ref (E.1 + 164), .ref (E.1 + kw)] (fun r σ' => zInv σ' ∧ zOn zQ1 σ σ' ∧ yTq f σ' ∧ ((yqs f σ') = yPw f w (yqs f σ))) := by
  refine zCt_of2 [some (.ref (E.1 + 164)), some (.ref (E.1 + kw))] (by decide +kernel) (Nat.le_of_ble_eq_true rfl) rfl ?_
  intro X hE_ hX hR hL hN
  subst hE_
  have hX : zok X cX12_asks RX12 3 := hX
  have hF := zOn_rf zQ1 σ
  have hE0 : yqs f σ = yqs f σ := rfl
  obtain ⟨hh1, hh2⟩ := yHq hT
  have b1 := zv_46_2 hI zc_164
  have b2 := zv_46_3 hI zc_164
  have b3 := zv_46_5 hI zc_164
  have b4 := zv_46_4 hI zc_164
  refine zt_aload_n (pc' := 1) hX dX12_asks_0 rfl rfl ?_
  have b5 := zv_46_5 hI zc_164
  refine zt_get (pc' := 4) (v := .int (zI (σ 164 5))) hX dX12_asks_1 rfl zf_X12_246 (by decide) zc_164 zs_46 rfl ?_
  refine zt_ifne (pc' := 7) (tgt := 24) hX dX12_asks_4 rfl (by decide) ⟨by omega, by omega⟩ (fun c6 => ?_) (fun c6 => ?_)
  · exact zt_vret hX hR dX12_asks_24 ⟨hI, hF, hT, hE0.trans (yPw_no (by omega))⟩
  · refine zt_aload_n (pc' := 8) hX dX12_asks_7 rfl rfl ?_
    refine zt_aload_n (pc' := 9) hX dX12_asks_8 rfl rfl ?_
    refine zt_cVz (pc' := 12) hX dX12_asks_9 rfl zm_yX12_takes zw_26_4 zc_164 (by decide) zs_46 (q := (RX12, TX12, 108)) rfl rfl (yc_X12_takes _ _ σ hI kw rw_ nw hkw hrw hsw hnw f hT w hw hkn) rfl rfl (Nat.le_of_ble_eq_true rfl) (by decide) (fun r7 s8 hr9 hp10 => ?_)
    obtain ⟨hI11, hF12, q13, q14, hT15, z16, z17, z18⟩ := hp10
    have hE19 : yqs f s8 = yPt f w (yqs f σ) := z16
    have hF20 := zOn_tr hF hF12 zi_id
    have b21 := zv_46_2 hI11 zc_164
    have b22 := zv_46_3 hI11 zc_164
    have b23 := zv_46_5 hI11 zc_164
    have b24 := zv_46_4 hI11 zc_164
    have e25 := hF12 164 3 rfl
    refine zt_ifne (pc' := 15) (tgt := 24) hX dX12_asks_12 rfl (by decide) ⟨by omega, by omega⟩ (fun c26 => ?_) (fun c26 => ?_)
    · exact zt_vret hX hR dX12_asks_24 ⟨hI11, hF20, hT15, hE19.trans (yPw_t (Decidable.byContradiction (fun n => by have := z17.2 n; omega)))⟩
    · refine zt_aload_n (pc' := 16) hX dX12_asks_15 rfl rfl ?_
      refine zt_iconst (pc' := 17) hX dX12_asks_16 rfl ?_
      refine zt_aload_n (pc' := 18) hX dX12_asks_17 rfl rfl ?_
      have b27 := zv_46_2 hI11 zc_164
      refine zt_get (pc' := 21) (v := .int (zI (s8 164 2))) hX dX12_asks_18 rfl zf_X12_252 (by decide) zc_164 zs_46 rfl ?_
      refine zt_cVv (pc' := 24) hX dX12_asks_21 rfl zm_yX12_fail zw_26_19 zc_164 (by decide) zs_46 (q := (RX12, TX12, 108)) rfl rfl (yc_X12_fail _ _ s8 hI11 1 ⟨by omega, by omega⟩ (s8 164 2) ⟨by omega, by omega⟩ f (yTq_w hT15)) rfl rfl (Nat.le_of_ble_eq_true rfl) (by decide) (fun r28 s29 hr30 hp31 => ?_)
      obtain ⟨hI32, hF33, hT34, z35, z36⟩ := hp31
      have hE37 : yqs f s29 = yPno 1 (s8 164 2) (yPt f w (yqs f σ)) := by rw [z35, hE19]
      have hF38 := zOn_tr hF20 hF33 zi_id
      have b39 := zv_46_2 hI32 zc_164
      have b40 := zv_46_3 hI32 zc_164
      have b41 := zv_46_5 hI32 zc_164
      have b42 := zv_46_4 hI32 zc_164
      have e43 := hF33 164 3 rfl
      exact zt_vret hX hR dX12_asks_24 ⟨hI32, hF38, hT34, hE37.trans (yPw_n (fun n => by have := z17.1 n; omega) (fun o => z18 ⟨o, by omega⟩))⟩
set_option maxRecDepth 100000 in
set_option maxHeartbeats 4000000 in
theorem yc_X12_takesSign (l : Launch) (E : zEN) (σ : zSto) (hI : zInv σ) (a1_ : Int) (ha1_ : 1 ≤ a1_ ∧ a1_ ≤ 255) (hpre0 : 0 ≤ a1_ ∧ ¬ (97 ≤ a1_ ∧ a1_ ≤ 122) ∧ ¬ (48 ≤ a1_ ∧ a1_ ≤ 57)) (f : Int → Int) (hT : yTq f σ) : zCt l E yX12_takesSign cX12_takesSign 2 (some .boolean) 1 zNC zNC 0 0 σ [.ref (E.1 + 164), .int (zI a1_)] (fun r σ' => zInv σ' ∧ zOn zQ1 σ σ' ∧ 0 ≤ r ∧ r ≤ 1 ∧ yTq f σ' ∧ ((yqs f σ') = yPu f a1_ (yqs f σ)) ∧ ((yPg f (yqs f σ) = a1_ → r = 1) ∧ (yPg f (yqs f σ) ≠ a1_ → r = 0)) ∧ (yPo (yqs f σ) = 1 ∧ r = 0 → σ' 164 2 = yPq (yqs f σ)) ∧ (r = 1 → 1 ≤ σ' 164 2 ∧ σ' 165 (σ' 164 2 - 1).toNat = a1_)) := by
  refine zCt_of2 [some (.ref (E.1 + 164)), some (.int (zI a1_))] (by decide +kernel) (Nat.le_of_ble_eq_true rfl) rfl ?_
  intro X hE_ hX hR hL hN
  subst hE_
  have hX : zok X cX12_takesSign RX12 1 := hX
  have hF := zOn_rf zQ1 σ
  have hE0 : yqs f σ = yqs f σ := rfl
  obtain ⟨hh1, hh2⟩ := yHq hT
  have b1 := zv_46_2 hI zc_164
  have b2 := zv_46_3 hI zc_164
  have b3 := zv_46_5 hI zc_164
  have b4 := zv_46_4 hI zc_164
  refine zt_aload_n (pc' := 1) hX dX12_takesSign_0 rfl rfl ?_
  have b5 := zv_46_5 hI zc_164
  refine zt_get (pc' := 4) (v := .int (zI (σ 164 5))) hX dX12_takesSign_1 rfl zf_X12_246 (by decide) zc_164 zs_46 rfl ?_
  refine zt_ifne (pc' := 7) (tgt := 15) hX dX12_takesSign_4 rfl (by decide) ⟨by omega, by omega⟩ (fun c6 => ?_) (fun c6 => ?_)
  · refine zt_iconst (pc' := 16) hX dX12_takesSign_15 rfl ?_
    exact zt_zret hX hR dX12_takesSign_16 ⟨by omega, by omega⟩ ⟨hI, hF, by omega, by omega, hT, hE0.trans (yPu_0 (by omega)), ⟨fun n => by omega, fun _ => rfl⟩, (fun o => by omega), (fun o => by omega)⟩
  · refine zt_aload_n (pc' := 8) hX dX12_takesSign_7 rfl rfl ?_
    refine zt_cVi (pc' := 11) hX dX12_takesSign_8 rfl zm_yX12_look zw_26_12 zc_164 (by decide) zs_46 (q := (RX12, TX12, 108)) rfl rfl (yc_X12_look _ _ σ hI f hT) rfl rfl (Nat.le_of_ble_eq_true rfl) (by decide) (fun r7 s8 hr9 hp10 => ?_)
    obtain ⟨hI11, hF12, q13, q14, hT15, z16, z17, z18⟩ := hp10
    have hE19 : yqs f s8 = (yqs f σ) := z16
    have hF20 := zOn_tr hF hF12 zi_a1
    have b21 := zv_46_2 hI11 zc_164
    have b22 := zv_46_3 hI11 zc_164
    have b23 := zv_46_5 hI11 zc_164
    have b24 := zv_46_4 hI11 zc_164
    have e25 := hF12 164 3 rfl
    have e26 := hF12 164 5 rfl
    have e27 := hF12 164 4 rfl
    have hx9 : s8 164 3 ≤ s8 164 2 → f (s8 164 2) = -1 := fun h => yB_out hT15 h
    refine zt_iload_n (pc' := 12) hX dX12_takesSign_11 rfl rfl ?_
    refine zt_iceq (pc' := 15) (tgt := 17) hX dX12_takesSign_12 rfl (by decide) ⟨by omega, by omega⟩ ⟨by omega, by omega⟩ (fun c28 => ?_) (fun c28 => ?_)
    · refine zt_aload_n (pc' := 18) hX dX12_takesSign_17 rfl rfl ?_
      refine zt_dup (pc' := 19) hX dX12_takesSign_18 rfl rfl ?_
      have b29 := zv_46_2 hI11 zc_164
      refine zt_get (pc' := 22) (v := .int (zI (s8 164 2))) hX dX12_takesSign_19 rfl zf_X12_252 (by decide) zc_164 zs_46 rfl ?_
      refine zt_iconst (pc' := 23) hX dX12_takesSign_22 rfl ?_
      refine zt_iadd (pc' := 24) hX dX12_takesSign_23 rfl ?_
      refine zt_put (pc' := 27) (x := ((s8 164 2) + 1)) hX dX12_takesSign_24 rfl zf_X12_252 (by decide) zc_164 zs_46 (fun q hq => by cases hq; rfl) rfl rfl rfl ?_
      generalize hs31 : zset s8 164 2 ((s8 164 2) + 1) = s30
      have hI32 : zInv s30 := hs31 ▸ zp_46_2 hI11 zc_164 ⟨by omega, by omega⟩
      have hF33 : zOn zQ1 σ s30 := hs31 ▸ zOn_set hF20 (by decide)
      have e34 : s30 164 2 = ((s8 164 2) + 1) := by rw [← hs31]; exact zset_s
      have e35 : s30 164 3 = s8 164 3 := by rw [← hs31]; exact zset_j (by decide)
      have e36 : s30 164 5 = s8 164 5 := by rw [← hs31]; exact zset_j (by decide)
      have e37 : s30 164 4 = s8 164 4 := by rw [← hs31]; exact zset_j (by decide)
      refine zt_iconst (pc' := 28) hX dX12_takesSign_27 rfl ?_
      have h38 := yL_sign2 hT15 hE19 (by omega) (by omega) (by omega) hpre0 hs31
      exact zt_zret hX hR dX12_takesSign_28 ⟨by omega, by omega⟩ ⟨hI32, hF33, by omega, by omega, h38.1, h38.2.1, ⟨fun _ => rfl, fun n => absurd h38.2.2.1 n⟩, (fun o => by omega), (fun _ => ⟨by have := hT.2.2.1; have := yE_b (g := yB) (f := f) (p := σ 164 2); have t : yS f (σ 164 2) = yE yB f (σ 164 2) := rfl; omega, h38.2.2.2⟩)⟩
    · refine zt_iconst (pc' := 16) hX dX12_takesSign_15 rfl ?_
      have hg := yq_g (f := f) (q := yS f (σ 164 2)) hpre0 (by rw [← z17]; omega)
      rw [← yqs_1 (s := σ) (by omega)] at hg
      exact zt_zret hX hR dX12_takesSign_16 ⟨by omega, by omega⟩ ⟨hI11, hF20, by omega, by omega, hT15, hE19.trans (yPu_0 hg), ⟨fun n => absurd n hg, fun _ => rfl⟩, (fun o => by omega), (fun o => by omega)⟩
set_option maxRecDepth 100000 in
set_option maxHeartbeats 4000000 in
theorem yc_X12_asksSign (l : Launch) (E : zEN) (σ : zSto) (hI : zInv σ) (a1_ : Int) (ha1_ : 1 ≤ a1_ ∧ a1_ ≤ 255) (hpre0 : 0 ≤ a1_ ∧ ¬ (97 ≤ a1_ ∧ a1_ ≤ 122) ∧ ¬ (48 ≤ a1_ ∧ a1_ ≤ 57)) (f : Int → Int) (hT : yTq f σ) : zCt l E yX12_asksSign cX12_asksSign 2 none 2 zNC zNC 0 0 σ [.ref (E.1 + 164), .int (zI a1_)] (fun r σ' => zInv σ' ∧ zOn zQ1 σ σ' ∧ yTq f σ' ∧ ((yqs f σ') = yPs f a1_ (yqs f σ))) := by
  refine zCt_of2 [some (.ref (E.1 + 164)), some (.int (zI a1_))] (by decide +kernel) (Nat.le_of_ble_eq_true rfl) rfl ?_
  intro X hE_ hX hR hL hN
  subst hE_
  have hX : zok X cX12_asksSign RX12 2 := hX
  have hF := zOn_rf zQ1 σ
  have hE0 : yqs f σ = yqs f σ := rfl
  obtain ⟨hh1, hh2⟩ := yHq hT
  have b1 := zv_46_2 hI zc_164
  have b2 := zv_46_3 hI zc_164
  have b3 := zv_46_5 hI zc_164
  have b4 := zv_46_4 hI zc_164
  refine zt_aload_n (pc' := 1) hX dX12_asksSign_0 rfl rfl ?_
  have b5 := zv_46_5 hI zc_164
  refine zt_get (pc' := 4) (v := .int (zI (σ 164 5))) hX dX12_asksSign_1 rfl zf_X12_246 (by decide) zc_164 zs_46 rfl ?_
  refine zt_ifne (pc' := 7) (tgt := 24) hX dX12_asksSign_4 rfl (by decide) ⟨by omega, by omega⟩ (fun c6 => ?_) (fun c6 => ?_)
  · exact zt_vret hX hR dX12_asksSign_24 ⟨hI, hF, hT, hE0.trans (yPs_no (by omega))⟩
  · refine zt_aload_n (pc' := 8) hX dX12_asksSign_7 rfl rfl ?_
    refine zt_iload_n (pc' := 9) hX dX12_asksSign_8 rfl rfl ?_
    refine zt_cVz (pc' := 12) hX dX12_asksSign_9 rfl zm_yX12_takesSign zw_27_14 zc_164 (by decide) zs_46 (q := (RX12, TX12, 108)) rfl rfl (yc_X12_takesSign _ _ σ hI a1_ ⟨by omega, by omega⟩ (by omega) f hT) rfl rfl (Nat.le_of_ble_eq_true rfl) (by decide) (fun r7 s8 hr9 hp10 => ?_)
    obtain ⟨hI11, hF12, q13, q14, hT15, z16, z17, z18, z19⟩ := hp10
    have hE20 : yqs f s8 = yPu f a1_ (yqs f σ) := z16
    have hF21 := zOn_tr hF hF12 zi_id
    have b22 := zv_46_2 hI11 zc_164
    have b23 := zv_46_3 hI11 zc_164
    have b24 := zv_46_5 hI11 zc_164
    have b25 := zv_46_4 hI11 zc_164
    have e26 := hF12 164 3 rfl
    refine zt_ifne (pc' := 15) (tgt := 24) hX dX12_asksSign_12 rfl (by decide) ⟨by omega, by omega⟩ (fun c27 => ?_) (fun c27 => ?_)
    · exact zt_vret hX hR dX12_asksSign_24 ⟨hI11, hF21, hT15, hE20.trans (yPs_t (Decidable.byContradiction (fun n => by have := z17.2 n; omega)))⟩
    · refine zt_aload_n (pc' := 16) hX dX12_asksSign_15 rfl rfl ?_
      refine zt_iconst (pc' := 17) hX dX12_asksSign_16 rfl ?_
      refine zt_aload_n (pc' := 18) hX dX12_asksSign_17 rfl rfl ?_
      have b28 := zv_46_2 hI11 zc_164
      refine zt_get (pc' := 21) (v := .int (zI (s8 164 2))) hX dX12_asksSign_18 rfl zf_X12_252 (by decide) zc_164 zs_46 rfl ?_
      refine zt_cVv (pc' := 24) hX dX12_asksSign_21 rfl zm_yX12_fail zw_26_19 zc_164 (by decide) zs_46 (q := (RX12, TX12, 108)) rfl rfl (yc_X12_fail _ _ s8 hI11 1 ⟨by omega, by omega⟩ (s8 164 2) ⟨by omega, by omega⟩ f (yTq_w hT15)) rfl rfl (Nat.le_of_ble_eq_true rfl) (by decide) (fun r29 s30 hr31 hp32 => ?_)
      obtain ⟨hI33, hF34, hT35, z36, z37⟩ := hp32
      have hE38 : yqs f s30 = yPno 1 (s8 164 2) (yPu f a1_ (yqs f σ)) := by rw [z36, hE20]
      have hF39 := zOn_tr hF21 hF34 zi_id
      have b40 := zv_46_2 hI33 zc_164
      have b41 := zv_46_3 hI33 zc_164
      have b42 := zv_46_5 hI33 zc_164
      have b43 := zv_46_4 hI33 zc_164
      have e44 := hF34 164 3 rfl
      exact zt_vret hX hR dX12_asksSign_24 ⟨hI33, hF39, hT35, hE38.trans (yPs_n (fun n => by have := z17.1 n; omega) (fun o => z18 ⟨o, by omega⟩))⟩
set_option maxRecDepth 100000 in
set_option maxHeartbeats 4000000 in
theorem yc_X12_number (l : Launch) (E : zEN) (σ : zSto) (hI : zInv σ) (a1_ : Int) (ha1_ : -2147483648 ≤ a1_ ∧ a1_ ≤ 2147483647) (a2_ : Int) (ha2_ : -2147483648 ≤ a2_ ∧ a2_ ≤ 2147483647) (f : Int → Int) (hT : yTq f σ) : zCt l E yX12_number cX12_number 5 (some .int) 1 zNC zNC 0 0 σ [.ref (E.1 + 164), .int (zI a1_), .int (zI a2_)] (fun r σ' => zInv σ' ∧ zOn zQ1 σ σ' ∧ -2147483648 ≤ r ∧ r ≤ 2147483647 ∧ yTq f σ' ∧ ((yqs f σ') = yPn f a1_ a2_ (yqs f σ)) ∧ (yPo (yqs f σ') = 1 → r = yPv f (yqs f σ) ∧ σ' 164 10 = yPq (yqs f σ) ∧ a1_ ≤ r ∧ r ≤ a2_)) := by
  refine zCt_of2 [some (.ref (E.1 + 164)), some (.int (zI a1_)), some (.int (zI a2_)), none, none] (by decide +kernel) (Nat.le_of_ble_eq_true rfl) rfl ?_
  intro X hE_ hX hR hL hN
  subst hE_
  have hX : zok X cX12_number RX12 1 := hX
  have hF := zOn_rf zQ1 σ
  have hE0 : yqs f σ = yqs f σ := rfl
  obtain ⟨hh1, hh2⟩ := yHq hT
  have hb := hT.2.2.1
  have b1 := zv_46_2 hI zc_164
  have b2 := zv_46_3 hI zc_164
  have b3 := zv_46_5 hI zc_164
  have b4 := zv_46_4 hI zc_164
  have b5 := zv_46_6 hI zc_164
  have b6 := zv_46_10 hI zc_164
  refine zt_aload_n (pc' := 1) hX dX12_number_0 rfl rfl ?_
  have b7 := zv_46_5 hI zc_164
  refine zt_get (pc' := 4) (v := .int (zI (σ 164 5))) hX dX12_number_1 rfl zf_X12_246 (by decide) zc_164 zs_46 rfl ?_
  refine zt_ifeq (pc' := 7) (tgt := 9) hX dX12_number_4 rfl (by decide) ⟨by omega, by omega⟩ (fun c8 => ?_) (fun c8 => ?_)
  · refine zt_aload_n (pc' := 10) hX dX12_number_9 rfl rfl ?_
    refine zt_cVi (pc' := 13) hX dX12_number_10 rfl zm_yX12_look zw_26_12 zc_164 (by decide) zs_46 (q := (RX12, TX12, 108)) rfl rfl (yc_X12_look _ _ σ hI f hT) rfl rfl (Nat.le_of_ble_eq_true rfl) (by decide) (fun r9 s10 hr11 hp12 => ?_)
    obtain ⟨hI13, hF14, q15, q16, hT17, z18, z19, z20⟩ := hp12
    have hE21 : yqs f s10 = (yqs f σ) := z18
    have hF22 := zOn_tr hF hF14 zi_a1
    have b23 := zv_46_2 hI13 zc_164
    have b24 := zv_46_3 hI13 zc_164
    have b25 := zv_46_5 hI13 zc_164
    have b26 := zv_46_4 hI13 zc_164
    have b27 := zv_46_6 hI13 zc_164
    have b28 := zv_46_10 hI13 zc_164
    have e29 := hF14 164 3 rfl
    have e30 := hF14 164 5 rfl
    have e31 := hF14 164 4 rfl
    have e32 := hF14 164 6 rfl
    have e33 := hF14 164 10 rfl
    have hx9 : s10 164 3 ≤ s10 164 2 → f (s10 164 2) = -1 := fun h => yB_out hT17 h
    have hq : yqs f σ = .ok (s10 164 2) := yqs_at (by omega) z19
    refine zt_cSz (pc' := 16) hX dX12_number_13 rfl zm_yX12_isDigit zw_27_4 (yc_X12_isDigit _ _ s10  r9 ⟨by omega, by omega⟩) rfl rfl (Nat.le_of_ble_eq_true rfl) (by decide) (fun r34 s35 hr36 hp37 => ?_)
    obtain ⟨rfl, q38, q39, z40⟩ := hp37
    refine zt_ifeq (pc' := 19) (tgt := 30) hX dX12_number_16 rfl (by decide) ⟨by omega, by omega⟩ (fun c41 => ?_) (fun c41 => ?_)
    · refine zt_aload_n (pc' := 31) hX dX12_number_30 rfl rfl ?_
      refine zt_iconst (pc' := 32) hX dX12_number_31 rfl ?_
      refine zt_aload_n (pc' := 33) hX dX12_number_32 rfl rfl ?_
      have b42 := zv_46_2 hI13 zc_164
      refine zt_get (pc' := 36) (v := .int (zI (s10 164 2))) hX dX12_number_33 rfl zf_X12_252 (by decide) zc_164 zs_46 rfl ?_
      refine zt_cVv (pc' := 39) hX dX12_number_36 rfl zm_yX12_fail zw_26_19 zc_164 (by decide) zs_46 (q := (RX12, TX12, 108)) rfl rfl (yc_X12_fail _ _ s10 hI13 1 ⟨by omega, by omega⟩ (s10 164 2) ⟨by omega, by omega⟩ f (yTq_w hT17)) rfl rfl (Nat.le_of_ble_eq_true rfl) (by decide) (fun r43 s44 hr45 hp46 => ?_)
      obtain ⟨hI47, hF48, hT49, z50, z51⟩ := hp46
      have hE52 : yqs f s44 = yPno 1 (s10 164 2) (yqs f σ) := by rw [z50, hE21]
      have hF53 := zOn_tr hF22 hF48 zi_id
      have b54 := zv_46_2 hI47 zc_164
      have b55 := zv_46_3 hI47 zc_164
      have b56 := zv_46_5 hI47 zc_164
      have b57 := zv_46_4 hI47 zc_164
      have b58 := zv_46_6 hI47 zc_164
      have b59 := zv_46_10 hI47 zc_164
      have e60 := hF48 164 3 rfl
      refine zt_iconst (pc' := 40) hX dX12_number_39 rfl ?_
      exact zt_iret hX hR dX12_number_40 ⟨by omega, by omega⟩ ⟨hI47, hF53, by omega, by omega, hT49, hE52.trans (yPn_a hq (by first | exact yk_nd (by omega) | (have t := (yq_D hT17 (by omega) (yD_t.mpr (by omega))).1 (by omega); omega))), (fun o => by rw [hE52, yPo_no] at o; exact absurd o (by decide))⟩
    · refine zt_aload_n (pc' := 20) hX dX12_number_19 rfl rfl ?_
      have b61 := zv_46_2 hI13 zc_164
      refine zt_get (pc' := 23) (v := .int (zI (s10 164 2))) hX dX12_number_20 rfl zf_X12_252 (by decide) zc_164 zs_46 rfl ?_
      refine zt_aload_n (pc' := 24) hX dX12_number_23 rfl rfl ?_
      have b62 := zv_46_4 hI13 zc_164
      refine zt_get (pc' := 27) (v := .int (zI (s10 164 4))) hX dX12_number_24 rfl zf_X12_266 (by decide) zc_164 zs_46 rfl ?_
      refine zt_icne (pc' := 30) (tgt := 41) hX dX12_number_27 rfl (by decide) ⟨by omega, by omega⟩ ⟨by omega, by omega⟩ (fun c63 => ?_) (fun c63 => ?_)
      · refine zt_aload_n (pc' := 42) hX dX12_number_41 rfl rfl ?_
        refine zt_get (pc' := 45) (v := .int (zI (s10 164 2))) hX dX12_number_42 rfl zf_X12_252 (by decide) zc_164 zs_46 rfl ?_
        refine zt_istore_n (pc' := 46) (lv' := [some (.ref (X.1.1 + 164)), some (.int (zI a1_)), some (.int (zI a2_)), some (.int (zI (s10 164 2))), none]) hX dX12_number_45 rfl hL (by decide) rfl ?_
        refine zt_iconst (pc' := 47) hX dX12_number_46 rfl ?_
        refine zt_istore (pc' := 49) (lv' := [some (.ref (X.1.1 + 164)), some (.int (zI a1_)), some (.int (zI a2_)), some (.int (zI (s10 164 2))), some (.int (zI 0))]) hX dX12_number_47 rfl hL (by decide) rfl ?_
        have L_49_79 : ∀ (N : Nat) (x64 : Int) (s67 : zSto), -2147483648 ≤ x64 → x64 ≤ 2147483647 → zInv s67 → zOn zQ1 σ s67 → (s10 164 2) ≤ s67 164 2 → s67 164 2 ≤ σ 164 3 → s67 164 2 - (s10 164 2) ≤ 4 → (s67 164 2 = (s10 164 2) ∨ (s10 164 2) < s67 164 2) → s67 164 3 = σ 164 3 → s67 164 5 = 0 → s67 164 6 = -1 → yTw f s67 → (∀ j, (s10 164 2) ≤ j → j < s67 164 2 → yD (f j) = true) → yNt f (s10 164 2) (s67 164 2 - (s10 164 2)) = x64 → ((1601 - s67 164 2).toNat) < N → zF X s67 49 [some (.ref (X.1.1 + 164)), some (.int (zI a1_)), some (.int (zI a2_)), some (.int (zI (s10 164 2))), some (.int (zI x64))] [] := by
          intro N
          induction N with
          | zero =>
            intro x64 s67 h65 h66 hI68 hF69 g70 g71 g72 g73 g74 g75 g76 g77 g78 g79 hm81
            exact absurd hm81 (Nat.not_lt_zero _)
          | succ N ih82 =>
            intro x64 s67 h65 h66 hI68 hF69 g70 g71 g72 g73 g74 g75 g76 g77 g78 g79 hm81
            have b83 := zv_46_2 hI68 zc_164
            have b84 := zv_46_3 hI68 zc_164
            have b85 := zv_46_5 hI68 zc_164
            have b86 := zv_46_4 hI68 zc_164
            have b87 := zv_46_6 hI68 zc_164
            have b88 := zv_46_10 hI68 zc_164
            have hb4 := yNt_b (p := (s10 164 2)) (by omega) g79 (fun j h1 h2 => g78 j h1 (by omega))
            refine zt_aload_n (pc' := 50) hX dX12_number_49 rfl rfl ?_
            have b89 := zv_46_2 hI68 zc_164
            refine zt_get (pc' := 53) (v := .int (zI (s67 164 2))) hX dX12_number_50 rfl zf_X12_252 (by decide) zc_164 zs_46 rfl ?_
            refine zt_aload_n (pc' := 54) hX dX12_number_53 rfl rfl ?_
            have b90 := zv_46_3 hI68 zc_164
            refine zt_get (pc' := 57) (v := .int (zI (s67 164 3))) hX dX12_number_54 rfl zf_X12_255 (by decide) zc_164 zs_46 rfl ?_
            refine zt_icge (pc' := 60) (tgt := 129) hX dX12_number_57 rfl (by decide) ⟨by omega, by omega⟩ ⟨by omega, by omega⟩ (fun c91 => ?_) (fun c91 => ?_)
            · refine zt_aload_n (pc' := 130) hX dX12_number_129 rfl rfl ?_
              refine zt_aload_n (pc' := 131) hX dX12_number_130 rfl rfl ?_
              refine zt_get (pc' := 134) (v := .int (zI (s67 164 2))) hX dX12_number_131 rfl zf_X12_252 (by decide) zc_164 zs_46 rfl ?_
              refine zt_put (pc' := 137) (x := (s67 164 2)) hX dX12_number_134 rfl zf_X12_266 (by decide) zc_164 zs_46 (fun q hq => by cases hq; rfl) rfl rfl rfl ?_
              generalize hs93 : zset s67 164 4 (s67 164 2) = s92
              have hI94 : zInv s92 := hs93 ▸ zp_46_4 hI68 zc_164 ⟨by omega, by omega⟩
              have hF95 : zOn zQ1 σ s92 := hs93 ▸ zOn_set hF69 (by decide)
              have e96 : s92 164 2 = s67 164 2 := by rw [← hs93]; exact zset_j (by decide)
              have e97 : s92 164 3 = s67 164 3 := by rw [← hs93]; exact zset_j (by decide)
              have e98 : s92 164 5 = s67 164 5 := by rw [← hs93]; exact zset_j (by decide)
              have e99 : s92 164 4 = (s67 164 2) := by rw [← hs93]; exact zset_s
              have e100 : s92 164 6 = s67 164 6 := by rw [← hs93]; exact zset_j (by decide)
              have e101 : s92 164 10 = s67 164 10 := by rw [← hs93]; exact zset_j (by decide)
              refine zt_aload_n (pc' := 138) hX dX12_number_137 rfl rfl ?_
              refine zt_iload_n (pc' := 139) hX dX12_number_138 rfl rfl ?_
              refine zt_put (pc' := 142) (x := (s10 164 2)) hX dX12_number_139 rfl zf_X12_286 (by decide) zc_164 zs_46 (fun q hq => by cases hq; rfl) rfl rfl rfl ?_
              generalize hs103 : zset s92 164 10 (s10 164 2) = s102
              have hI104 : zInv s102 := hs103 ▸ zp_46_10 hI94 zc_164 ⟨by omega, by omega⟩
              have hF105 : zOn zQ1 σ s102 := hs103 ▸ zOn_set hF95 (by decide)
              have e106 : s102 164 2 = s92 164 2 := by rw [← hs103]; exact zset_j (by decide)
              have e107 : s102 164 3 = s92 164 3 := by rw [← hs103]; exact zset_j (by decide)
              have e108 : s102 164 5 = s92 164 5 := by rw [← hs103]; exact zset_j (by decide)
              have e109 : s102 164 4 = s92 164 4 := by rw [← hs103]; exact zset_j (by decide)
              have e110 : s102 164 6 = s92 164 6 := by rw [← hs103]; exact zset_j (by decide)
              have e111 : s102 164 10 = (s10 164 2) := by rw [← hs103]; exact zset_s
              refine zt_iload (pc' := 144) hX dX12_number_142 rfl rfl ?_
              refine zt_i2l (pc' := 145) hX dX12_number_144 rfl ⟨by omega, by omega⟩ ?_
              refine zt_iload_n (pc' := 146) hX dX12_number_145 rfl rfl ?_
              refine zt_i2l (pc' := 147) hX dX12_number_146 rfl ⟨by omega, by omega⟩ ?_
              refine zt_iload_n (pc' := 148) hX dX12_number_147 rfl rfl ?_
              refine zt_i2l (pc' := 149) hX dX12_number_148 rfl ⟨by omega, by omega⟩ ?_
              refine zt_cSz (pc' := 152) hX dX12_number_149 rfl zm_yX12_isIn zw_27_7 (yc_X12_isIn _ _ s102  x64 ⟨by omega, by omega⟩ a1_ ⟨by omega, by omega⟩ a2_ ⟨by omega, by omega⟩) rfl rfl (Nat.le_of_ble_eq_true rfl) (by decide) (fun r112 s113 hr114 hp115 => ?_)
              obtain ⟨rfl, q116, q117, z118⟩ := hp115
              have hx : s67 164 3 ≤ s67 164 2 → f (s67 164 2) = -1 := fun h => yW_out g77 h
              have hNe : yNe f (s10 164 2) = s67 164 2 := yE_u hT.1 yD_m (by omega) (by omega) g78 (Bool.eq_false_iff.mpr (fun c => by have c := yD_t.mp c; omega))
              have hk := (yq_D hT17 (by omega) (yD_t.mpr (by omega))).2 (by omega)
              have hk2 := yk_2 hk (by omega) (yD_t.mpr (by omega))
              have hv := yNt_e (by omega) g79 (show yNe f (s10 164 2) = (s10 164 2) + (s67 164 2 - (s10 164 2)) by omega)
              have h119 := yL_num g77 (by omega) (by omega) hq (by omega) (yD_t.mpr (by omega)) hNe hs93 hs103
              refine zt_ifne (pc' := 155) (tgt := 161) hX dX12_number_152 rfl (by decide) ⟨by omega, by omega⟩ (fun c120 => ?_) (fun c120 => ?_)
              · refine zt_iload (pc' := 163) hX dX12_number_161 rfl rfl ?_
                exact zt_iret hX hR dX12_number_163 ⟨by omega, by omega⟩ ⟨hI104, hF105, by omega, by omega, h119.1, h119.2.trans (yPn_g hq hk2 (by omega)), (fun _ => ⟨by rw [hq]; exact hv, by rw [hq]; show s102 164 10 = (s10 164 2); omega, by omega, by omega⟩)⟩
              · refine zt_aload_n (pc' := 156) hX dX12_number_155 rfl rfl ?_
                refine zt_iconst (pc' := 157) hX dX12_number_156 rfl ?_
                refine zt_iload_n (pc' := 158) hX dX12_number_157 rfl rfl ?_
                refine zt_cVv (pc' := 161) hX dX12_number_158 rfl zm_yX12_fail zw_26_19 zc_164 (by decide) zs_46 (q := (RX12, TX12, 108)) rfl rfl (yc_X12_fail _ _ s102 hI104 2 ⟨by omega, by omega⟩ (s10 164 2) ⟨by omega, by omega⟩ f (yTq_w h119.1)) rfl rfl (Nat.le_of_ble_eq_true rfl) (by decide) (fun r121 s122 hr123 hp124 => ?_)
                obtain ⟨hI125, hF126, hT127, z128, z129⟩ := hp124
                have hE130 : yqs f s122 = yPno 2 (s10 164 2) (yPx f (yqs f σ)) := by rw [z128, h119.2]
                have hF131 := zOn_tr hF105 hF126 zi_id
                have b132 := zv_46_2 hI125 zc_164
                have b133 := zv_46_3 hI125 zc_164
                have b134 := zv_46_5 hI125 zc_164
                have b135 := zv_46_4 hI125 zc_164
                have b136 := zv_46_6 hI125 zc_164
                have b137 := zv_46_10 hI125 zc_164
                have e138 := hF126 164 3 rfl
                refine zt_iload (pc' := 163) hX dX12_number_161 rfl rfl ?_
                exact zt_iret hX hR dX12_number_163 ⟨by omega, by omega⟩ ⟨hI125, hF131, by omega, by omega, hT127, hE130.trans (yPn_r hq hk2 (by omega)), (fun o => by rw [hE130, yPo_no] at o; exact absurd o (by decide))⟩
            · refine zt_aload_n (pc' := 61) hX dX12_number_60 rfl rfl ?_
              refine zt_get (pc' := 64) (v := .ref (X.1.1 + 165)) hX dX12_number_61 rfl zf_X12_7 (by decide) zc_164 zs_46 (zrf_of (zv_46_0 hI68 zc_164)) ?_
              refine zt_aload_n (pc' := 65) hX dX12_number_64 rfl rfl ?_
              refine zt_get (pc' := 68) (v := .int (zI (s67 164 2))) hX dX12_number_65 rfl zf_X12_252 (by decide) zc_164 zs_46 rfl ?_
              refine zt_iald (pc' := 69) hX dX12_number_68 rfl (by decide) zc_165 zs_47 (by decide) ⟨by omega, by omega⟩ ?_
              generalize hv139 : s67 165 ((s67 164 2).toNat) = v139
              have bv139 : 0 ≤ v139 ∧ v139 ≤ 255 := hv139 ▸ zv_47 hI68 zc_165 _
              have h140 := yW_at g77 (by omega) (by omega) hv139
              refine zt_cSz (pc' := 72) hX dX12_number_69 rfl zm_yX12_isDigit zw_27_4 (yc_X12_isDigit _ _ s67  v139 ⟨by omega, by omega⟩) rfl rfl (Nat.le_of_ble_eq_true rfl) (by decide) (fun r141 s142 hr143 hp144 => ?_)
              obtain ⟨rfl, q145, q146, z147⟩ := hp144
              refine zt_ifeq (pc' := 75) (tgt := 129) hX dX12_number_72 rfl (by decide) ⟨by omega, by omega⟩ (fun c148 => ?_) (fun c148 => ?_)
              · refine zt_aload_n (pc' := 130) hX dX12_number_129 rfl rfl ?_
                refine zt_aload_n (pc' := 131) hX dX12_number_130 rfl rfl ?_
                refine zt_get (pc' := 134) (v := .int (zI (s67 164 2))) hX dX12_number_131 rfl zf_X12_252 (by decide) zc_164 zs_46 rfl ?_
                refine zt_put (pc' := 137) (x := (s67 164 2)) hX dX12_number_134 rfl zf_X12_266 (by decide) zc_164 zs_46 (fun q hq => by cases hq; rfl) rfl rfl rfl ?_
                generalize hs150 : zset s67 164 4 (s67 164 2) = s149
                have hI151 : zInv s149 := hs150 ▸ zp_46_4 hI68 zc_164 ⟨by omega, by omega⟩
                have hF152 : zOn zQ1 σ s149 := hs150 ▸ zOn_set hF69 (by decide)
                have e153 : s149 164 2 = s67 164 2 := by rw [← hs150]; exact zset_j (by decide)
                have e154 : s149 164 3 = s67 164 3 := by rw [← hs150]; exact zset_j (by decide)
                have e155 : s149 164 5 = s67 164 5 := by rw [← hs150]; exact zset_j (by decide)
                have e156 : s149 164 4 = (s67 164 2) := by rw [← hs150]; exact zset_s
                have e157 : s149 164 6 = s67 164 6 := by rw [← hs150]; exact zset_j (by decide)
                have e158 : s149 164 10 = s67 164 10 := by rw [← hs150]; exact zset_j (by decide)
                refine zt_aload_n (pc' := 138) hX dX12_number_137 rfl rfl ?_
                refine zt_iload_n (pc' := 139) hX dX12_number_138 rfl rfl ?_
                refine zt_put (pc' := 142) (x := (s10 164 2)) hX dX12_number_139 rfl zf_X12_286 (by decide) zc_164 zs_46 (fun q hq => by cases hq; rfl) rfl rfl rfl ?_
                generalize hs160 : zset s149 164 10 (s10 164 2) = s159
                have hI161 : zInv s159 := hs160 ▸ zp_46_10 hI151 zc_164 ⟨by omega, by omega⟩
                have hF162 : zOn zQ1 σ s159 := hs160 ▸ zOn_set hF152 (by decide)
                have e163 : s159 164 2 = s149 164 2 := by rw [← hs160]; exact zset_j (by decide)
                have e164 : s159 164 3 = s149 164 3 := by rw [← hs160]; exact zset_j (by decide)
                have e165 : s159 164 5 = s149 164 5 := by rw [← hs160]; exact zset_j (by decide)
                have e166 : s159 164 4 = s149 164 4 := by rw [← hs160]; exact zset_j (by decide)
                have e167 : s159 164 6 = s149 164 6 := by rw [← hs160]; exact zset_j (by decide)
                have e168 : s159 164 10 = (s10 164 2) := by rw [← hs160]; exact zset_s
                refine zt_iload (pc' := 144) hX dX12_number_142 rfl rfl ?_
                refine zt_i2l (pc' := 145) hX dX12_number_144 rfl ⟨by omega, by omega⟩ ?_
                refine zt_iload_n (pc' := 146) hX dX12_number_145 rfl rfl ?_
                refine zt_i2l (pc' := 147) hX dX12_number_146 rfl ⟨by omega, by omega⟩ ?_
                refine zt_iload_n (pc' := 148) hX dX12_number_147 rfl rfl ?_
                refine zt_i2l (pc' := 149) hX dX12_number_148 rfl ⟨by omega, by omega⟩ ?_
                refine zt_cSz (pc' := 152) hX dX12_number_149 rfl zm_yX12_isIn zw_27_7 (yc_X12_isIn _ _ s159  x64 ⟨by omega, by omega⟩ a1_ ⟨by omega, by omega⟩ a2_ ⟨by omega, by omega⟩) rfl rfl (Nat.le_of_ble_eq_true rfl) (by decide) (fun r169 s170 hr171 hp172 => ?_)
                obtain ⟨rfl, q173, q174, z175⟩ := hp172
                have hx : s67 164 3 ≤ s67 164 2 → f (s67 164 2) = -1 := fun h => yW_out g77 h
                have hNe : yNe f (s10 164 2) = s67 164 2 := yE_u hT.1 yD_m (by omega) (by omega) g78 (Bool.eq_false_iff.mpr (fun c => by have c := yD_t.mp c; omega))
                have hk := (yq_D hT17 (by omega) (yD_t.mpr (by omega))).2 (by omega)
                have hk2 := yk_2 hk (by omega) (yD_t.mpr (by omega))
                have hv := yNt_e (by omega) g79 (show yNe f (s10 164 2) = (s10 164 2) + (s67 164 2 - (s10 164 2)) by omega)
                have h176 := yL_num g77 (by omega) (by omega) hq (by omega) (yD_t.mpr (by omega)) hNe hs150 hs160
                refine zt_ifne (pc' := 155) (tgt := 161) hX dX12_number_152 rfl (by decide) ⟨by omega, by omega⟩ (fun c177 => ?_) (fun c177 => ?_)
                · refine zt_iload (pc' := 163) hX dX12_number_161 rfl rfl ?_
                  exact zt_iret hX hR dX12_number_163 ⟨by omega, by omega⟩ ⟨hI161, hF162, by omega, by omega, h176.1, h176.2.trans (yPn_g hq hk2 (by omega)), (fun _ => ⟨by rw [hq]; exact hv, by rw [hq]; show s159 164 10 = (s10 164 2); omega, by omega, by omega⟩)⟩
                · refine zt_aload_n (pc' := 156) hX dX12_number_155 rfl rfl ?_
                  refine zt_iconst (pc' := 157) hX dX12_number_156 rfl ?_
                  refine zt_iload_n (pc' := 158) hX dX12_number_157 rfl rfl ?_
                  refine zt_cVv (pc' := 161) hX dX12_number_158 rfl zm_yX12_fail zw_26_19 zc_164 (by decide) zs_46 (q := (RX12, TX12, 108)) rfl rfl (yc_X12_fail _ _ s159 hI161 2 ⟨by omega, by omega⟩ (s10 164 2) ⟨by omega, by omega⟩ f (yTq_w h176.1)) rfl rfl (Nat.le_of_ble_eq_true rfl) (by decide) (fun r178 s179 hr180 hp181 => ?_)
                  obtain ⟨hI182, hF183, hT184, z185, z186⟩ := hp181
                  have hE187 : yqs f s179 = yPno 2 (s10 164 2) (yPx f (yqs f σ)) := by rw [z185, h176.2]
                  have hF188 := zOn_tr hF162 hF183 zi_id
                  have b189 := zv_46_2 hI182 zc_164
                  have b190 := zv_46_3 hI182 zc_164
                  have b191 := zv_46_5 hI182 zc_164
                  have b192 := zv_46_4 hI182 zc_164
                  have b193 := zv_46_6 hI182 zc_164
                  have b194 := zv_46_10 hI182 zc_164
                  have e195 := hF183 164 3 rfl
                  refine zt_iload (pc' := 163) hX dX12_number_161 rfl rfl ?_
                  exact zt_iret hX hR dX12_number_163 ⟨by omega, by omega⟩ ⟨hI182, hF188, by omega, by omega, hT184, hE187.trans (yPn_r hq hk2 (by omega)), (fun o => by rw [hE187, yPo_no] at o; exact absurd o (by decide))⟩
              · refine zt_aload_n (pc' := 76) hX dX12_number_75 rfl rfl ?_
                refine zt_get (pc' := 79) (v := .int (zI (s67 164 2))) hX dX12_number_76 rfl zf_X12_252 (by decide) zc_164 zs_46 rfl ?_
                refine zt_iload_n (pc' := 80) hX dX12_number_79 rfl rfl ?_
                refine zt_isub (pc' := 81) hX dX12_number_80 rfl ?_
                refine zt_iconst (pc' := 82) hX dX12_number_81 rfl ?_
                refine zt_icne (pc' := 85) (tgt := 96) hX dX12_number_82 rfl (by decide) ⟨by omega, by omega⟩ ⟨by omega, by omega⟩ (fun c196 => ?_) (fun c196 => ?_)
                · refine zt_bipush (pc' := 98) hX dX12_number_96 rfl (by decide) (by decide) ?_
                  refine zt_iload (pc' := 100) hX dX12_number_98 rfl rfl ?_
                  refine zt_imul (pc' := 101) hX dX12_number_100 rfl ?_
                  refine zt_wrap (fun r197 zr197 lr197 ur197 => ?_)
                  replace zr197 := ywr_eq zr197
                  refine zt_aload_n (pc' := 102) hX dX12_number_101 rfl rfl ?_
                  refine zt_get (pc' := 105) (v := .ref (X.1.1 + 165)) hX dX12_number_102 rfl zf_X12_7 (by decide) zc_164 zs_46 (zrf_of (zv_46_0 hI68 zc_164)) ?_
                  refine zt_aload_n (pc' := 106) hX dX12_number_105 rfl rfl ?_
                  refine zt_get (pc' := 109) (v := .int (zI (s67 164 2))) hX dX12_number_106 rfl zf_X12_252 (by decide) zc_164 zs_46 rfl ?_
                  refine zt_iald (pc' := 110) hX dX12_number_109 rfl (by decide) zc_165 zs_47 (by decide) ⟨by omega, by omega⟩ ?_
                  generalize hv198 : s67 165 ((s67 164 2).toNat) = v198
                  have bv198 : 0 ≤ v198 ∧ v198 ≤ 255 := hv198 ▸ zv_47 hI68 zc_165 _
                  have h199 := yW_at g77 (by omega) (by omega) hv198
                  refine zt_iadd (pc' := 111) hX dX12_number_110 rfl ?_
                  refine zt_wrap (fun r200 zr200 lr200 ur200 => ?_)
                  replace zr200 := ywr_eq zr200
                  refine zt_bipush (pc' := 113) hX dX12_number_111 rfl (by decide) (by decide) ?_
                  refine zt_isub (pc' := 114) hX dX12_number_113 rfl ?_
                  refine zt_wrap (fun r201 zr201 lr201 ur201 => ?_)
                  replace zr201 := ywr_eq zr201
                  refine zt_istore (pc' := 116) (lv' := [some (.ref (X.1.1 + 164)), some (.int (zI a1_)), some (.int (zI a2_)), some (.int (zI (s10 164 2))), some (.int (zI r201))]) hX dX12_number_114 rfl hL (by decide) rfl ?_
                  refine zt_aload_n (pc' := 117) hX dX12_number_116 rfl rfl ?_
                  refine zt_dup (pc' := 118) hX dX12_number_117 rfl rfl ?_
                  refine zt_get (pc' := 121) (v := .int (zI (s67 164 2))) hX dX12_number_118 rfl zf_X12_252 (by decide) zc_164 zs_46 rfl ?_
                  refine zt_iconst (pc' := 122) hX dX12_number_121 rfl ?_
                  refine zt_iadd (pc' := 123) hX dX12_number_122 rfl ?_
                  refine zt_put (pc' := 126) (x := ((s67 164 2) + 1)) hX dX12_number_123 rfl zf_X12_252 (by decide) zc_164 zs_46 (fun q hq => by cases hq; rfl) rfl rfl rfl ?_
                  generalize hs203 : zset s67 164 2 ((s67 164 2) + 1) = s202
                  have hI204 : zInv s202 := hs203 ▸ zp_46_2 hI68 zc_164 ⟨by omega, by omega⟩
                  have hF205 : zOn zQ1 σ s202 := hs203 ▸ zOn_set hF69 (by decide)
                  have e206 : s202 164 2 = ((s67 164 2) + 1) := by rw [← hs203]; exact zset_s
                  have e207 : s202 164 3 = s67 164 3 := by rw [← hs203]; exact zset_j (by decide)
                  have e208 : s202 164 5 = s67 164 5 := by rw [← hs203]; exact zset_j (by decide)
                  have e209 : s202 164 4 = s67 164 4 := by rw [← hs203]; exact zset_j (by decide)
                  have e210 : s202 164 6 = s67 164 6 := by rw [← hs203]; exact zset_j (by decide)
                  have e211 : s202 164 10 = s67 164 10 := by rw [← hs203]; exact zset_j (by decide)
                  refine zt_goto (tgt := 49) hX dX12_number_126 (by decide) ?_
                  exact ih82 r201 s202 (by omega) (by omega) hI204 hF205 (by omega) (by omega) (by omega) (by omega) (by omega) (by omega) (by omega) (yTw_s g77 hs203 (by omega)) (fun j h1 h2 => yall_s g78 (yD_t.mpr (by omega)) j h1 (by omega)) (by have t := yNt_s (p := (s10 164 2)) (by omega) g79 (show v198 = f ((s10 164 2) + (s67 164 2 - (s10 164 2))) from by rw [show (s10 164 2) + (s67 164 2 - (s10 164 2)) = s67 164 2 by omega]; exact h199.symm); rw [show s202 164 2 - (s10 164 2) = s67 164 2 - (s10 164 2) + 1 by omega, t]; omega) (by omega)
                · refine zt_aload_n (pc' := 86) hX dX12_number_85 rfl rfl ?_
                  refine zt_iconst (pc' := 87) hX dX12_number_86 rfl ?_
                  refine zt_aload_n (pc' := 88) hX dX12_number_87 rfl rfl ?_
                  refine zt_get (pc' := 91) (v := .int (zI (s67 164 2))) hX dX12_number_88 rfl zf_X12_252 (by decide) zc_164 zs_46 rfl ?_
                  refine zt_cVv (pc' := 94) hX dX12_number_91 rfl zm_yX12_fail zw_26_19 zc_164 (by decide) zs_46 (q := (RX12, TX12, 108)) rfl rfl (yc_X12_fail _ _ s67 hI68 1 ⟨by omega, by omega⟩ (s67 164 2) ⟨by omega, by omega⟩ f g77) rfl rfl (Nat.le_of_ble_eq_true rfl) (by decide) (fun r213 s214 hr215 hp216 => ?_)
                  obtain ⟨hI217, hF218, hT219, z220, z221⟩ := hp216
                  have hE222 : yqs f s214 = yPno 1 (s67 164 2) (yqs f s67) := z220
                  have hF223 := zOn_tr hF69 hF218 zi_id
                  have b224 := zv_46_2 hI217 zc_164
                  have b225 := zv_46_3 hI217 zc_164
                  have b226 := zv_46_5 hI217 zc_164
                  have b227 := zv_46_4 hI217 zc_164
                  have b228 := zv_46_6 hI217 zc_164
                  have b229 := zv_46_10 hI217 zc_164
                  have e230 := hF218 164 3 rfl
                  refine zt_iconst (pc' := 95) hX dX12_number_94 rfl ?_
                  have hk := (yq_D hT17 (by omega) (yD_t.mpr (by omega))).2 (by omega)
                  have hlong : 4 < yNe f (s10 164 2) - (s10 164 2) := by have t := yE_i5 hT.1 (f := f) (b := (s10 164 2)) (e := s67 164 2) (by omega) (yall_s g78 (yD_t.mpr (by omega))); omega
                  exact zt_iret hX hR dX12_number_95 ⟨by omega, by omega⟩ ⟨hI217, hF223, by omega, by omega, hT219, hE222.trans (yPn_5 hq (by rw [yqs_1 (by omega)]; rfl) hk hlong (by omega) (yD_t.mpr (by omega))), (fun o => by rw [hE222, yPo_no] at o; exact absurd o (by decide))⟩
        have hs6 := (hT17.2.2.2 (by omega)).2.2.1
        exact L_49_79 _ 0 s10 (by omega) (by omega) hI13 hF22 (by omega) (by omega) (by omega) (by omega) (by omega) (by omega) (by omega) (yTq_w hT17) (fun j h1 h2 => absurd h2 (by omega)) (by rw [show (s10 164 2) - (s10 164 2) = 0 by omega]; rfl) (Nat.lt_succ_self _)
      · refine zt_aload_n (pc' := 31) hX dX12_number_30 rfl rfl ?_
        refine zt_iconst (pc' := 32) hX dX12_number_31 rfl ?_
        refine zt_aload_n (pc' := 33) hX dX12_number_32 rfl rfl ?_
        refine zt_get (pc' := 36) (v := .int (zI (s10 164 2))) hX dX12_number_33 rfl zf_X12_252 (by decide) zc_164 zs_46 rfl ?_
        refine zt_cVv (pc' := 39) hX dX12_number_36 rfl zm_yX12_fail zw_26_19 zc_164 (by decide) zs_46 (q := (RX12, TX12, 108)) rfl rfl (yc_X12_fail _ _ s10 hI13 1 ⟨by omega, by omega⟩ (s10 164 2) ⟨by omega, by omega⟩ f (yTq_w hT17)) rfl rfl (Nat.le_of_ble_eq_true rfl) (by decide) (fun r231 s232 hr233 hp234 => ?_)
        obtain ⟨hI235, hF236, hT237, z238, z239⟩ := hp234
        have hE240 : yqs f s232 = yPno 1 (s10 164 2) (yqs f σ) := by rw [z238, hE21]
        have hF241 := zOn_tr hF22 hF236 zi_id
        have b242 := zv_46_2 hI235 zc_164
        have b243 := zv_46_3 hI235 zc_164
        have b244 := zv_46_5 hI235 zc_164
        have b245 := zv_46_4 hI235 zc_164
        have b246 := zv_46_6 hI235 zc_164
        have b247 := zv_46_10 hI235 zc_164
        have e248 := hF236 164 3 rfl
        refine zt_iconst (pc' := 40) hX dX12_number_39 rfl ?_
        exact zt_iret hX hR dX12_number_40 ⟨by omega, by omega⟩ ⟨hI235, hF241, by omega, by omega, hT237, hE240.trans (yPn_a hq (by first | exact yk_nd (by omega) | (have t := (yq_D hT17 (by omega) (yD_t.mpr (by omega))).1 (by omega); omega))), (fun o => by rw [hE240, yPo_no] at o; exact absurd o (by decide))⟩
  · refine zt_iconst (pc' := 8) hX dX12_number_7 rfl ?_
    exact zt_iret hX hR dX12_number_8 ⟨by omega, by omega⟩ ⟨hI, hF, by omega, by omega, hT, hE0.trans (yPn_no (by omega)), (fun o => by omega)⟩
set_option maxRecDepth 100000 in
set_option maxHeartbeats 4000000 in
theorem yc_X12_isOwnHere (l : Launch) (E : zEN) (σ : zSto) (hI : zInv σ) (f : Int → Int) (hT : yTq f σ) (hWd : yWd σ) : zCt l E yX12_isOwnHere cX12_isOwnHere 2 (some .boolean) 2 zNC zNC 0 0 σ [.ref (E.1 + 164)] (fun r σ' => zInv σ' ∧ zOn zQa σ σ' ∧ 0 ≤ r ∧ r ≤ 1 ∧ yTq f σ' ∧ ((yqs f σ') = (yqs f σ)) ∧ ((0 ≤ yPi f (yqs f σ) ∧ yPi f (yqs f σ) < 27 → r = 1) ∧ (¬ (0 ≤ yPi f (yqs f σ) ∧ yPi f (yqs f σ) < 27) → r = 0)) ∧ (yPo (yqs f σ) = 1 → σ' 164 2 = yPq (yqs f σ))) := by
  refine zCt_of2 [some (.ref (E.1 + 164)), none] (by decide +kernel) (Nat.le_of_ble_eq_true rfl) rfl ?_
  intro X hE_ hX hR hL hN
  subst hE_
  have hX : zok X cX12_isOwnHere RX12 2 := hX
  have hF := zOn_rf zQa σ
  have hE0 : yqs f σ = yqs f σ := rfl
  refine zt_aload_n (pc' := 1) hX dX12_isOwnHere_0 rfl rfl ?_
  refine zt_aload_n (pc' := 2) hX dX12_isOwnHere_1 rfl rfl ?_
  refine zt_get (pc' := 5) (v := .ref (X.1.1 + 167)) hX dX12_isOwnHere_2 rfl zf_X12_20 (by decide) zc_164 zs_46 (zrf_of (zv_46_11 hI zc_164)) ?_
  refine zt_cVz (pc' := 8) hX dX12_isOwnHere_5 rfl zm_yX12_isHere zw_26_8 zc_164 (by decide) zs_46 (q := (RX12, TX12, 108)) rfl rfl (yc_X12_isHere _ _ σ hI 167 49 4 zc_167 (by decide) zs_49 (by decide) f hT 0 (yrow_167 hWd) (by decide)) rfl rfl (Nat.le_of_ble_eq_true rfl) (by decide) (fun r1 s2 hr3 hp4 => ?_)
  obtain ⟨hI5, hF6, q7, q8, hT9, z10, z11, z12, z13⟩ := hp4
  have hE14 : yqs f s2 = (yqs f σ) := z10
  have hF15 := zOn_tr hF hF6 zi_id
  clear z13
  rcases yspl z11 with ⟨rfl, c16⟩ | ⟨rfl, c16⟩
  · clear z11
    refine zt_ifne (pc' := 11) (tgt := 66) hX dX12_isOwnHere_8 rfl (by decide) ⟨by omega, by omega⟩ (fun c17 => ?_) (fun c17 => ?_)
    · refine zt_iconst (pc' := 67) hX dX12_isOwnHere_66 rfl ?_
      refine zt_goto (tgt := 71) hX dX12_isOwnHere_67 (by decide) ?_
      refine zt_istore_n (pc' := 72) (lv' := [some (.ref (X.1.1 + 164)), some (.int (zI 1))]) hX dX12_isOwnHere_71 rfl hL (by decide) rfl ?_
      refine zt_iload_n (pc' := 73) hX dX12_isOwnHere_72 rfl rfl ?_
      refine zt_ifne (pc' := 76) (tgt := 142) hX dX12_isOwnHere_73 rfl (by decide) ⟨by omega, by omega⟩ (fun c18 => ?_) (fun c18 => ?_)
      · refine zt_iconst (pc' := 143) hX dX12_isOwnHere_142 rfl ?_
        refine zt_goto (tgt := 147) hX dX12_isOwnHere_143 (by decide) ?_
        refine zt_istore_n (pc' := 148) (lv' := [some (.ref (X.1.1 + 164)), some (.int (zI 1))]) hX dX12_isOwnHere_147 rfl hL (by decide) rfl ?_
        refine zt_iload_n (pc' := 149) hX dX12_isOwnHere_148 rfl rfl ?_
        refine zt_ifne (pc' := 152) (tgt := 218) hX dX12_isOwnHere_149 rfl (by decide) ⟨by omega, by omega⟩ (fun c19 => ?_) (fun c19 => ?_)
        · refine zt_iconst (pc' := 219) hX dX12_isOwnHere_218 rfl ?_
          refine zt_goto (tgt := 223) hX dX12_isOwnHere_219 (by decide) ?_
          refine zt_istore_n (pc' := 224) (lv' := [some (.ref (X.1.1 + 164)), some (.int (zI 1))]) hX dX12_isOwnHere_223 rfl hL (by decide) rfl ?_
          refine zt_iload_n (pc' := 225) hX dX12_isOwnHere_224 rfl rfl ?_
          refine zt_ifne (pc' := 228) (tgt := 294) hX dX12_isOwnHere_225 rfl (by decide) ⟨by omega, by omega⟩ (fun c20 => ?_) (fun c20 => ?_)
          · refine zt_iconst (pc' := 295) hX dX12_isOwnHere_294 rfl ?_
            refine zt_goto (tgt := 299) hX dX12_isOwnHere_295 (by decide) ?_
            refine zt_istore_n (pc' := 300) (lv' := [some (.ref (X.1.1 + 164)), some (.int (zI 1))]) hX dX12_isOwnHere_299 rfl hL (by decide) rfl ?_
            refine zt_iload_n (pc' := 301) hX dX12_isOwnHere_300 rfl rfl ?_
            refine zt_ifne (pc' := 304) (tgt := 337) hX dX12_isOwnHere_301 rfl (by decide) ⟨by omega, by omega⟩ (fun c21 => ?_) (fun c21 => ?_)
            · refine zt_iconst (pc' := 338) hX dX12_isOwnHere_337 rfl ?_
              refine zt_goto (tgt := 342) hX dX12_isOwnHere_338 (by decide) ?_
              refine zt_istore_n (pc' := 343) (lv' := [some (.ref (X.1.1 + 164)), some (.int (zI 1))]) hX dX12_isOwnHere_342 rfl hL (by decide) rfl ?_
              refine zt_iload_n (pc' := 344) hX dX12_isOwnHere_343 rfl rfl ?_
              exact zt_zret hX hR dX12_isOwnHere_344 ⟨by omega, by omega⟩ ⟨hI5, hF15, by omega, by omega, hT9, hE14, (by constructor <;> intro h <;> omega), (fun o => z12 o)⟩
            · exact absurd c21 (by omega)
          · exact absurd c20 (by omega)
        · exact absurd c19 (by omega)
      · exact absurd c18 (by omega)
    · exact absurd c17 (by omega)
  · clear z11
    refine zt_ifne (pc' := 11) (tgt := 66) hX dX12_isOwnHere_8 rfl (by decide) ⟨by omega, by omega⟩ (fun c22 => ?_) (fun c22 => ?_)
    · exact absurd c22 (by omega)
    · refine zt_aload_n (pc' := 12) hX dX12_isOwnHere_11 rfl rfl ?_
      refine zt_aload_n (pc' := 13) hX dX12_isOwnHere_12 rfl rfl ?_
      refine zt_get (pc' := 16) (v := .ref (X.1.1 + 168)) hX dX12_isOwnHere_13 rfl zf_X12_24 (by decide) zc_164 zs_46 (zrf_of (zv_46_12 hI5 zc_164)) ?_
      refine zt_cVz (pc' := 19) hX dX12_isOwnHere_16 rfl zm_yX12_isHere zw_26_8 zc_164 (by decide) zs_46 (q := (RX12, TX12, 108)) rfl rfl (yc_X12_isHere _ _ s2 hI5 168 50 2 zc_168 (by decide) zs_50 (by decide) f hT9 1 (yrow_168 (yWd_a hWd hF15)) (by decide)) rfl rfl (Nat.le_of_ble_eq_true rfl) (by decide) (fun r23 s24 hr25 hp26 => ?_)
      obtain ⟨hI27, hF28, q29, q30, hT31, z32, z33, z34, z35⟩ := hp26
      have hE36 : yqs f s24 = (yqs f σ) := by rw [z32, hE14]
      rw [hE14] at z33
      rw [hE14] at z34
      have hF37 := zOn_tr hF15 hF28 zi_id
      clear z12
      clear z35
      rcases yspl z33 with ⟨rfl, c38⟩ | ⟨rfl, c38⟩
      · clear z33
        refine zt_ifne (pc' := 22) (tgt := 66) hX dX12_isOwnHere_19 rfl (by decide) ⟨by omega, by omega⟩ (fun c39 => ?_) (fun c39 => ?_)
        · refine zt_iconst (pc' := 67) hX dX12_isOwnHere_66 rfl ?_
          refine zt_goto (tgt := 71) hX dX12_isOwnHere_67 (by decide) ?_
          refine zt_istore_n (pc' := 72) (lv' := [some (.ref (X.1.1 + 164)), some (.int (zI 1))]) hX dX12_isOwnHere_71 rfl hL (by decide) rfl ?_
          refine zt_iload_n (pc' := 73) hX dX12_isOwnHere_72 rfl rfl ?_
          refine zt_ifne (pc' := 76) (tgt := 142) hX dX12_isOwnHere_73 rfl (by decide) ⟨by omega, by omega⟩ (fun c40 => ?_) (fun c40 => ?_)
          · refine zt_iconst (pc' := 143) hX dX12_isOwnHere_142 rfl ?_
            refine zt_goto (tgt := 147) hX dX12_isOwnHere_143 (by decide) ?_
            refine zt_istore_n (pc' := 148) (lv' := [some (.ref (X.1.1 + 164)), some (.int (zI 1))]) hX dX12_isOwnHere_147 rfl hL (by decide) rfl ?_
            refine zt_iload_n (pc' := 149) hX dX12_isOwnHere_148 rfl rfl ?_
            refine zt_ifne (pc' := 152) (tgt := 218) hX dX12_isOwnHere_149 rfl (by decide) ⟨by omega, by omega⟩ (fun c41 => ?_) (fun c41 => ?_)
            · refine zt_iconst (pc' := 219) hX dX12_isOwnHere_218 rfl ?_
              refine zt_goto (tgt := 223) hX dX12_isOwnHere_219 (by decide) ?_
              refine zt_istore_n (pc' := 224) (lv' := [some (.ref (X.1.1 + 164)), some (.int (zI 1))]) hX dX12_isOwnHere_223 rfl hL (by decide) rfl ?_
              refine zt_iload_n (pc' := 225) hX dX12_isOwnHere_224 rfl rfl ?_
              refine zt_ifne (pc' := 228) (tgt := 294) hX dX12_isOwnHere_225 rfl (by decide) ⟨by omega, by omega⟩ (fun c42 => ?_) (fun c42 => ?_)
              · refine zt_iconst (pc' := 295) hX dX12_isOwnHere_294 rfl ?_
                refine zt_goto (tgt := 299) hX dX12_isOwnHere_295 (by decide) ?_
                refine zt_istore_n (pc' := 300) (lv' := [some (.ref (X.1.1 + 164)), some (.int (zI 1))]) hX dX12_isOwnHere_299 rfl hL (by decide) rfl ?_
                refine zt_iload_n (pc' := 301) hX dX12_isOwnHere_300 rfl rfl ?_
                refine zt_ifne (pc' := 304) (tgt := 337) hX dX12_isOwnHere_301 rfl (by decide) ⟨by omega, by omega⟩ (fun c43 => ?_) (fun c43 => ?_)
                · refine zt_iconst (pc' := 338) hX dX12_isOwnHere_337 rfl ?_
                  refine zt_goto (tgt := 342) hX dX12_isOwnHere_338 (by decide) ?_
                  refine zt_istore_n (pc' := 343) (lv' := [some (.ref (X.1.1 + 164)), some (.int (zI 1))]) hX dX12_isOwnHere_342 rfl hL (by decide) rfl ?_
                  refine zt_iload_n (pc' := 344) hX dX12_isOwnHere_343 rfl rfl ?_
                  exact zt_zret hX hR dX12_isOwnHere_344 ⟨by omega, by omega⟩ ⟨hI27, hF37, by omega, by omega, hT31, hE36, (by constructor <;> intro h <;> omega), (fun o => z34 o)⟩
                · exact absurd c43 (by omega)
              · exact absurd c42 (by omega)
            · exact absurd c41 (by omega)
          · exact absurd c40 (by omega)
        · exact absurd c39 (by omega)
      · clear z33
        refine zt_ifne (pc' := 22) (tgt := 66) hX dX12_isOwnHere_19 rfl (by decide) ⟨by omega, by omega⟩ (fun c44 => ?_) (fun c44 => ?_)
        · exact absurd c44 (by omega)
        · refine zt_aload_n (pc' := 23) hX dX12_isOwnHere_22 rfl rfl ?_
          refine zt_aload_n (pc' := 24) hX dX12_isOwnHere_23 rfl rfl ?_
          refine zt_get (pc' := 27) (v := .ref (X.1.1 + 169)) hX dX12_isOwnHere_24 rfl zf_X12_27 (by decide) zc_164 zs_46 (zrf_of (zv_46_13 hI27 zc_164)) ?_
          refine zt_cVz (pc' := 30) hX dX12_isOwnHere_27 rfl zm_yX12_isHere zw_26_8 zc_164 (by decide) zs_46 (q := (RX12, TX12, 108)) rfl rfl (yc_X12_isHere _ _ s24 hI27 169 51 5 zc_169 (by decide) zs_51 (by decide) f hT31 2 (yrow_169 (yWd_a hWd hF37)) (by decide)) rfl rfl (Nat.le_of_ble_eq_true rfl) (by decide) (fun r45 s46 hr47 hp48 => ?_)
          obtain ⟨hI49, hF50, q51, q52, hT53, z54, z55, z56, z57⟩ := hp48
          have hE58 : yqs f s46 = (yqs f σ) := by rw [z54, hE36]
          rw [hE36] at z55
          rw [hE36] at z56
          have hF59 := zOn_tr hF37 hF50 zi_id
          clear z34
          clear z57
          rcases yspl z55 with ⟨rfl, c60⟩ | ⟨rfl, c60⟩
          · clear z55
            refine zt_ifne (pc' := 33) (tgt := 66) hX dX12_isOwnHere_30 rfl (by decide) ⟨by omega, by omega⟩ (fun c61 => ?_) (fun c61 => ?_)
            · refine zt_iconst (pc' := 67) hX dX12_isOwnHere_66 rfl ?_
              refine zt_goto (tgt := 71) hX dX12_isOwnHere_67 (by decide) ?_
              refine zt_istore_n (pc' := 72) (lv' := [some (.ref (X.1.1 + 164)), some (.int (zI 1))]) hX dX12_isOwnHere_71 rfl hL (by decide) rfl ?_
              refine zt_iload_n (pc' := 73) hX dX12_isOwnHere_72 rfl rfl ?_
              refine zt_ifne (pc' := 76) (tgt := 142) hX dX12_isOwnHere_73 rfl (by decide) ⟨by omega, by omega⟩ (fun c62 => ?_) (fun c62 => ?_)
              · refine zt_iconst (pc' := 143) hX dX12_isOwnHere_142 rfl ?_
                refine zt_goto (tgt := 147) hX dX12_isOwnHere_143 (by decide) ?_
                refine zt_istore_n (pc' := 148) (lv' := [some (.ref (X.1.1 + 164)), some (.int (zI 1))]) hX dX12_isOwnHere_147 rfl hL (by decide) rfl ?_
                refine zt_iload_n (pc' := 149) hX dX12_isOwnHere_148 rfl rfl ?_
                refine zt_ifne (pc' := 152) (tgt := 218) hX dX12_isOwnHere_149 rfl (by decide) ⟨by omega, by omega⟩ (fun c63 => ?_) (fun c63 => ?_)
                · refine zt_iconst (pc' := 219) hX dX12_isOwnHere_218 rfl ?_
                  refine zt_goto (tgt := 223) hX dX12_isOwnHere_219 (by decide) ?_
                  refine zt_istore_n (pc' := 224) (lv' := [some (.ref (X.1.1 + 164)), some (.int (zI 1))]) hX dX12_isOwnHere_223 rfl hL (by decide) rfl ?_
                  refine zt_iload_n (pc' := 225) hX dX12_isOwnHere_224 rfl rfl ?_
                  refine zt_ifne (pc' := 228) (tgt := 294) hX dX12_isOwnHere_225 rfl (by decide) ⟨by omega, by omega⟩ (fun c64 => ?_) (fun c64 => ?_)
                  · refine zt_iconst (pc' := 295) hX dX12_isOwnHere_294 rfl ?_
                    refine zt_goto (tgt := 299) hX dX12_isOwnHere_295 (by decide) ?_
                    refine zt_istore_n (pc' := 300) (lv' := [some (.ref (X.1.1 + 164)), some (.int (zI 1))]) hX dX12_isOwnHere_299 rfl hL (by decide) rfl ?_
                    refine zt_iload_n (pc' := 301) hX dX12_isOwnHere_300 rfl rfl ?_
                    refine zt_ifne (pc' := 304) (tgt := 337) hX dX12_isOwnHere_301 rfl (by decide) ⟨by omega, by omega⟩ (fun c65 => ?_) (fun c65 => ?_)
                    · refine zt_iconst (pc' := 338) hX dX12_isOwnHere_337 rfl ?_
                      refine zt_goto (tgt := 342) hX dX12_isOwnHere_338 (by decide) ?_
                      refine zt_istore_n (pc' := 343) (lv' := [some (.ref (X.1.1 + 164)), some (.int (zI 1))]) hX dX12_isOwnHere_342 rfl hL (by decide) rfl ?_
                      refine zt_iload_n (pc' := 344) hX dX12_isOwnHere_343 rfl rfl ?_
                      exact zt_zret hX hR dX12_isOwnHere_344 ⟨by omega, by omega⟩ ⟨hI49, hF59, by omega, by omega, hT53, hE58, (by constructor <;> intro h <;> omega), (fun o => z56 o)⟩
                    · exact absurd c65 (by omega)
                  · exact absurd c64 (by omega)
                · exact absurd c63 (by omega)
              · exact absurd c62 (by omega)
            · exact absurd c61 (by omega)
          · clear z55
            refine zt_ifne (pc' := 33) (tgt := 66) hX dX12_isOwnHere_30 rfl (by decide) ⟨by omega, by omega⟩ (fun c66 => ?_) (fun c66 => ?_)
            · exact absurd c66 (by omega)
            · refine zt_aload_n (pc' := 34) hX dX12_isOwnHere_33 rfl rfl ?_
              refine zt_aload_n (pc' := 35) hX dX12_isOwnHere_34 rfl rfl ?_
              refine zt_get (pc' := 38) (v := .ref (X.1.1 + 170)) hX dX12_isOwnHere_35 rfl zf_X12_30 (by decide) zc_164 zs_46 (zrf_of (zv_46_14 hI49 zc_164)) ?_
              refine zt_cVz (pc' := 41) hX dX12_isOwnHere_38 rfl zm_yX12_isHere zw_26_8 zc_164 (by decide) zs_46 (q := (RX12, TX12, 108)) rfl rfl (yc_X12_isHere _ _ s46 hI49 170 52 5 zc_170 (by decide) zs_52 (by decide) f hT53 3 (yrow_170 (yWd_a hWd hF59)) (by decide)) rfl rfl (Nat.le_of_ble_eq_true rfl) (by decide) (fun r67 s68 hr69 hp70 => ?_)
              obtain ⟨hI71, hF72, q73, q74, hT75, z76, z77, z78, z79⟩ := hp70
              have hE80 : yqs f s68 = (yqs f σ) := by rw [z76, hE58]
              rw [hE58] at z77
              rw [hE58] at z78
              have hF81 := zOn_tr hF59 hF72 zi_id
              clear z56
              clear z79
              rcases yspl z77 with ⟨rfl, c82⟩ | ⟨rfl, c82⟩
              · clear z77
                refine zt_ifne (pc' := 44) (tgt := 66) hX dX12_isOwnHere_41 rfl (by decide) ⟨by omega, by omega⟩ (fun c83 => ?_) (fun c83 => ?_)
                · refine zt_iconst (pc' := 67) hX dX12_isOwnHere_66 rfl ?_
                  refine zt_goto (tgt := 71) hX dX12_isOwnHere_67 (by decide) ?_
                  refine zt_istore_n (pc' := 72) (lv' := [some (.ref (X.1.1 + 164)), some (.int (zI 1))]) hX dX12_isOwnHere_71 rfl hL (by decide) rfl ?_
                  refine zt_iload_n (pc' := 73) hX dX12_isOwnHere_72 rfl rfl ?_
                  refine zt_ifne (pc' := 76) (tgt := 142) hX dX12_isOwnHere_73 rfl (by decide) ⟨by omega, by omega⟩ (fun c84 => ?_) (fun c84 => ?_)
                  · refine zt_iconst (pc' := 143) hX dX12_isOwnHere_142 rfl ?_
                    refine zt_goto (tgt := 147) hX dX12_isOwnHere_143 (by decide) ?_
                    refine zt_istore_n (pc' := 148) (lv' := [some (.ref (X.1.1 + 164)), some (.int (zI 1))]) hX dX12_isOwnHere_147 rfl hL (by decide) rfl ?_
                    refine zt_iload_n (pc' := 149) hX dX12_isOwnHere_148 rfl rfl ?_
                    refine zt_ifne (pc' := 152) (tgt := 218) hX dX12_isOwnHere_149 rfl (by decide) ⟨by omega, by omega⟩ (fun c85 => ?_) (fun c85 => ?_)
                    · refine zt_iconst (pc' := 219) hX dX12_isOwnHere_218 rfl ?_
                      refine zt_goto (tgt := 223) hX dX12_isOwnHere_219 (by decide) ?_
                      refine zt_istore_n (pc' := 224) (lv' := [some (.ref (X.1.1 + 164)), some (.int (zI 1))]) hX dX12_isOwnHere_223 rfl hL (by decide) rfl ?_
                      refine zt_iload_n (pc' := 225) hX dX12_isOwnHere_224 rfl rfl ?_
                      refine zt_ifne (pc' := 228) (tgt := 294) hX dX12_isOwnHere_225 rfl (by decide) ⟨by omega, by omega⟩ (fun c86 => ?_) (fun c86 => ?_)
                      · refine zt_iconst (pc' := 295) hX dX12_isOwnHere_294 rfl ?_
                        refine zt_goto (tgt := 299) hX dX12_isOwnHere_295 (by decide) ?_
                        refine zt_istore_n (pc' := 300) (lv' := [some (.ref (X.1.1 + 164)), some (.int (zI 1))]) hX dX12_isOwnHere_299 rfl hL (by decide) rfl ?_
                        refine zt_iload_n (pc' := 301) hX dX12_isOwnHere_300 rfl rfl ?_
                        refine zt_ifne (pc' := 304) (tgt := 337) hX dX12_isOwnHere_301 rfl (by decide) ⟨by omega, by omega⟩ (fun c87 => ?_) (fun c87 => ?_)
                        · refine zt_iconst (pc' := 338) hX dX12_isOwnHere_337 rfl ?_
                          refine zt_goto (tgt := 342) hX dX12_isOwnHere_338 (by decide) ?_
                          refine zt_istore_n (pc' := 343) (lv' := [some (.ref (X.1.1 + 164)), some (.int (zI 1))]) hX dX12_isOwnHere_342 rfl hL (by decide) rfl ?_
                          refine zt_iload_n (pc' := 344) hX dX12_isOwnHere_343 rfl rfl ?_
                          exact zt_zret hX hR dX12_isOwnHere_344 ⟨by omega, by omega⟩ ⟨hI71, hF81, by omega, by omega, hT75, hE80, (by constructor <;> intro h <;> omega), (fun o => z78 o)⟩
                        · exact absurd c87 (by omega)
                      · exact absurd c86 (by omega)
                    · exact absurd c85 (by omega)
                  · exact absurd c84 (by omega)
                · exact absurd c83 (by omega)
              · clear z77
                refine zt_ifne (pc' := 44) (tgt := 66) hX dX12_isOwnHere_41 rfl (by decide) ⟨by omega, by omega⟩ (fun c88 => ?_) (fun c88 => ?_)
                · exact absurd c88 (by omega)
                · refine zt_aload_n (pc' := 45) hX dX12_isOwnHere_44 rfl rfl ?_
                  refine zt_aload_n (pc' := 46) hX dX12_isOwnHere_45 rfl rfl ?_
                  refine zt_get (pc' := 49) (v := .ref (X.1.1 + 171)) hX dX12_isOwnHere_46 rfl zf_X12_33 (by decide) zc_164 zs_46 (zrf_of (zv_46_15 hI71 zc_164)) ?_
                  refine zt_cVz (pc' := 52) hX dX12_isOwnHere_49 rfl zm_yX12_isHere zw_26_8 zc_164 (by decide) zs_46 (q := (RX12, TX12, 108)) rfl rfl (yc_X12_isHere _ _ s68 hI71 171 53 4 zc_171 (by decide) zs_53 (by decide) f hT75 4 (yrow_171 (yWd_a hWd hF81)) (by decide)) rfl rfl (Nat.le_of_ble_eq_true rfl) (by decide) (fun r89 s90 hr91 hp92 => ?_)
                  obtain ⟨hI93, hF94, q95, q96, hT97, z98, z99, z100, z101⟩ := hp92
                  have hE102 : yqs f s90 = (yqs f σ) := by rw [z98, hE80]
                  rw [hE80] at z99
                  rw [hE80] at z100
                  have hF103 := zOn_tr hF81 hF94 zi_id
                  clear z78
                  clear z101
                  rcases yspl z99 with ⟨rfl, c104⟩ | ⟨rfl, c104⟩
                  · clear z99
                    refine zt_ifne (pc' := 55) (tgt := 66) hX dX12_isOwnHere_52 rfl (by decide) ⟨by omega, by omega⟩ (fun c105 => ?_) (fun c105 => ?_)
                    · refine zt_iconst (pc' := 67) hX dX12_isOwnHere_66 rfl ?_
                      refine zt_goto (tgt := 71) hX dX12_isOwnHere_67 (by decide) ?_
                      refine zt_istore_n (pc' := 72) (lv' := [some (.ref (X.1.1 + 164)), some (.int (zI 1))]) hX dX12_isOwnHere_71 rfl hL (by decide) rfl ?_
                      refine zt_iload_n (pc' := 73) hX dX12_isOwnHere_72 rfl rfl ?_
                      refine zt_ifne (pc' := 76) (tgt := 142) hX dX12_isOwnHere_73 rfl (by decide) ⟨by omega, by omega⟩ (fun c106 => ?_) (fun c106 => ?_)
                      · refine zt_iconst (pc' := 143) hX dX12_isOwnHere_142 rfl ?_
                        refine zt_goto (tgt := 147) hX dX12_isOwnHere_143 (by decide) ?_
                        refine zt_istore_n (pc' := 148) (lv' := [some (.ref (X.1.1 + 164)), some (.int (zI 1))]) hX dX12_isOwnHere_147 rfl hL (by decide) rfl ?_
                        refine zt_iload_n (pc' := 149) hX dX12_isOwnHere_148 rfl rfl ?_
                        refine zt_ifne (pc' := 152) (tgt := 218) hX dX12_isOwnHere_149 rfl (by decide) ⟨by omega, by omega⟩ (fun c107 => ?_) (fun c107 => ?_)
                        · refine zt_iconst (pc' := 219) hX dX12_isOwnHere_218 rfl ?_
                          refine zt_goto (tgt := 223) hX dX12_isOwnHere_219 (by decide) ?_
                          refine zt_istore_n (pc' := 224) (lv' := [some (.ref (X.1.1 + 164)), some (.int (zI 1))]) hX dX12_isOwnHere_223 rfl hL (by decide) rfl ?_
                          refine zt_iload_n (pc' := 225) hX dX12_isOwnHere_224 rfl rfl ?_
                          refine zt_ifne (pc' := 228) (tgt := 294) hX dX12_isOwnHere_225 rfl (by decide) ⟨by omega, by omega⟩ (fun c108 => ?_) (fun c108 => ?_)
                          · refine zt_iconst (pc' := 295) hX dX12_isOwnHere_294 rfl ?_
                            refine zt_goto (tgt := 299) hX dX12_isOwnHere_295 (by decide) ?_
                            refine zt_istore_n (pc' := 300) (lv' := [some (.ref (X.1.1 + 164)), some (.int (zI 1))]) hX dX12_isOwnHere_299 rfl hL (by decide) rfl ?_
                            refine zt_iload_n (pc' := 301) hX dX12_isOwnHere_300 rfl rfl ?_
                            refine zt_ifne (pc' := 304) (tgt := 337) hX dX12_isOwnHere_301 rfl (by decide) ⟨by omega, by omega⟩ (fun c109 => ?_) (fun c109 => ?_)
                            · refine zt_iconst (pc' := 338) hX dX12_isOwnHere_337 rfl ?_
                              refine zt_goto (tgt := 342) hX dX12_isOwnHere_338 (by decide) ?_
                              refine zt_istore_n (pc' := 343) (lv' := [some (.ref (X.1.1 + 164)), some (.int (zI 1))]) hX dX12_isOwnHere_342 rfl hL (by decide) rfl ?_
                              refine zt_iload_n (pc' := 344) hX dX12_isOwnHere_343 rfl rfl ?_
                              exact zt_zret hX hR dX12_isOwnHere_344 ⟨by omega, by omega⟩ ⟨hI93, hF103, by omega, by omega, hT97, hE102, (by constructor <;> intro h <;> omega), (fun o => z100 o)⟩
                            · exact absurd c109 (by omega)
                          · exact absurd c108 (by omega)
                        · exact absurd c107 (by omega)
                      · exact absurd c106 (by omega)
                    · exact absurd c105 (by omega)
                  · clear z99
                    refine zt_ifne (pc' := 55) (tgt := 66) hX dX12_isOwnHere_52 rfl (by decide) ⟨by omega, by omega⟩ (fun c110 => ?_) (fun c110 => ?_)
                    · exact absurd c110 (by omega)
                    · refine zt_aload_n (pc' := 56) hX dX12_isOwnHere_55 rfl rfl ?_
                      refine zt_aload_n (pc' := 57) hX dX12_isOwnHere_56 rfl rfl ?_
                      refine zt_get (pc' := 60) (v := .ref (X.1.1 + 172)) hX dX12_isOwnHere_57 rfl zf_X12_36 (by decide) zc_164 zs_46 (zrf_of (zv_46_16 hI93 zc_164)) ?_
                      refine zt_cVz (pc' := 63) hX dX12_isOwnHere_60 rfl zm_yX12_isHere zw_26_8 zc_164 (by decide) zs_46 (q := (RX12, TX12, 108)) rfl rfl (yc_X12_isHere _ _ s90 hI93 172 54 2 zc_172 (by decide) zs_54 (by decide) f hT97 5 (yrow_172 (yWd_a hWd hF103)) (by decide)) rfl rfl (Nat.le_of_ble_eq_true rfl) (by decide) (fun r111 s112 hr113 hp114 => ?_)
                      obtain ⟨hI115, hF116, q117, q118, hT119, z120, z121, z122, z123⟩ := hp114
                      have hE124 : yqs f s112 = (yqs f σ) := by rw [z120, hE102]
                      rw [hE102] at z121
                      rw [hE102] at z122
                      have hF125 := zOn_tr hF103 hF116 zi_id
                      clear z100
                      clear z123
                      rcases yspl z121 with ⟨rfl, c126⟩ | ⟨rfl, c126⟩
                      · clear z121
                        refine zt_ifeq (pc' := 66) (tgt := 70) hX dX12_isOwnHere_63 rfl (by decide) ⟨by omega, by omega⟩ (fun c127 => ?_) (fun c127 => ?_)
                        · exact absurd c127 (by omega)
                        · refine zt_iconst (pc' := 67) hX dX12_isOwnHere_66 rfl ?_
                          refine zt_goto (tgt := 71) hX dX12_isOwnHere_67 (by decide) ?_
                          refine zt_istore_n (pc' := 72) (lv' := [some (.ref (X.1.1 + 164)), some (.int (zI 1))]) hX dX12_isOwnHere_71 rfl hL (by decide) rfl ?_
                          refine zt_iload_n (pc' := 73) hX dX12_isOwnHere_72 rfl rfl ?_
                          refine zt_ifne (pc' := 76) (tgt := 142) hX dX12_isOwnHere_73 rfl (by decide) ⟨by omega, by omega⟩ (fun c128 => ?_) (fun c128 => ?_)
                          · refine zt_iconst (pc' := 143) hX dX12_isOwnHere_142 rfl ?_
                            refine zt_goto (tgt := 147) hX dX12_isOwnHere_143 (by decide) ?_
                            refine zt_istore_n (pc' := 148) (lv' := [some (.ref (X.1.1 + 164)), some (.int (zI 1))]) hX dX12_isOwnHere_147 rfl hL (by decide) rfl ?_
                            refine zt_iload_n (pc' := 149) hX dX12_isOwnHere_148 rfl rfl ?_
                            refine zt_ifne (pc' := 152) (tgt := 218) hX dX12_isOwnHere_149 rfl (by decide) ⟨by omega, by omega⟩ (fun c129 => ?_) (fun c129 => ?_)
                            · refine zt_iconst (pc' := 219) hX dX12_isOwnHere_218 rfl ?_
                              refine zt_goto (tgt := 223) hX dX12_isOwnHere_219 (by decide) ?_
                              refine zt_istore_n (pc' := 224) (lv' := [some (.ref (X.1.1 + 164)), some (.int (zI 1))]) hX dX12_isOwnHere_223 rfl hL (by decide) rfl ?_
                              refine zt_iload_n (pc' := 225) hX dX12_isOwnHere_224 rfl rfl ?_
                              refine zt_ifne (pc' := 228) (tgt := 294) hX dX12_isOwnHere_225 rfl (by decide) ⟨by omega, by omega⟩ (fun c130 => ?_) (fun c130 => ?_)
                              · refine zt_iconst (pc' := 295) hX dX12_isOwnHere_294 rfl ?_
                                refine zt_goto (tgt := 299) hX dX12_isOwnHere_295 (by decide) ?_
                                refine zt_istore_n (pc' := 300) (lv' := [some (.ref (X.1.1 + 164)), some (.int (zI 1))]) hX dX12_isOwnHere_299 rfl hL (by decide) rfl ?_
                                refine zt_iload_n (pc' := 301) hX dX12_isOwnHere_300 rfl rfl ?_
                                refine zt_ifne (pc' := 304) (tgt := 337) hX dX12_isOwnHere_301 rfl (by decide) ⟨by omega, by omega⟩ (fun c131 => ?_) (fun c131 => ?_)
                                · refine zt_iconst (pc' := 338) hX dX12_isOwnHere_337 rfl ?_
                                  refine zt_goto (tgt := 342) hX dX12_isOwnHere_338 (by decide) ?_
                                  refine zt_istore_n (pc' := 343) (lv' := [some (.ref (X.1.1 + 164)), some (.int (zI 1))]) hX dX12_isOwnHere_342 rfl hL (by decide) rfl ?_
                                  refine zt_iload_n (pc' := 344) hX dX12_isOwnHere_343 rfl rfl ?_
                                  exact zt_zret hX hR dX12_isOwnHere_344 ⟨by omega, by omega⟩ ⟨hI115, hF125, by omega, by omega, hT119, hE124, (by constructor <;> intro h <;> omega), (fun o => z122 o)⟩
                                · exact absurd c131 (by omega)
                              · exact absurd c130 (by omega)
                            · exact absurd c129 (by omega)
                          · exact absurd c128 (by omega)
                      · clear z121
                        refine zt_ifeq (pc' := 66) (tgt := 70) hX dX12_isOwnHere_63 rfl (by decide) ⟨by omega, by omega⟩ (fun c132 => ?_) (fun c132 => ?_)
                        · refine zt_iconst (pc' := 71) hX dX12_isOwnHere_70 rfl ?_
                          refine zt_istore_n (pc' := 72) (lv' := [some (.ref (X.1.1 + 164)), some (.int (zI 0))]) hX dX12_isOwnHere_71 rfl hL (by decide) rfl ?_
                          refine zt_iload_n (pc' := 73) hX dX12_isOwnHere_72 rfl rfl ?_
                          refine zt_ifne (pc' := 76) (tgt := 142) hX dX12_isOwnHere_73 rfl (by decide) ⟨by omega, by omega⟩ (fun c133 => ?_) (fun c133 => ?_)
                          · exact absurd c133 (by omega)
                          · refine zt_aload_n (pc' := 77) hX dX12_isOwnHere_76 rfl rfl ?_
                            refine zt_aload_n (pc' := 78) hX dX12_isOwnHere_77 rfl rfl ?_
                            refine zt_get (pc' := 81) (v := .ref (X.1.1 + 173)) hX dX12_isOwnHere_78 rfl zf_X12_39 (by decide) zc_164 zs_46 (zrf_of (zv_46_17 hI115 zc_164)) ?_
                            refine zt_cVz (pc' := 84) hX dX12_isOwnHere_81 rfl zm_yX12_isHere zw_26_8 zc_164 (by decide) zs_46 (q := (RX12, TX12, 108)) rfl rfl (yc_X12_isHere _ _ s112 hI115 173 55 5 zc_173 (by decide) zs_55 (by decide) f hT119 6 (yrow_173 (yWd_a hWd hF125)) (by decide)) rfl rfl (Nat.le_of_ble_eq_true rfl) (by decide) (fun r134 s135 hr136 hp137 => ?_)
                            obtain ⟨hI138, hF139, q140, q141, hT142, z143, z144, z145, z146⟩ := hp137
                            have hE147 : yqs f s135 = (yqs f σ) := by rw [z143, hE124]
                            rw [hE124] at z144
                            rw [hE124] at z145
                            have hF148 := zOn_tr hF125 hF139 zi_id
                            clear z122
                            clear z146
                            rcases yspl z144 with ⟨rfl, c149⟩ | ⟨rfl, c149⟩
                            · clear z144
                              refine zt_ifne (pc' := 87) (tgt := 142) hX dX12_isOwnHere_84 rfl (by decide) ⟨by omega, by omega⟩ (fun c150 => ?_) (fun c150 => ?_)
                              · refine zt_iconst (pc' := 143) hX dX12_isOwnHere_142 rfl ?_
                                refine zt_goto (tgt := 147) hX dX12_isOwnHere_143 (by decide) ?_
                                refine zt_istore_n (pc' := 148) (lv' := [some (.ref (X.1.1 + 164)), some (.int (zI 1))]) hX dX12_isOwnHere_147 rfl hL (by decide) rfl ?_
                                refine zt_iload_n (pc' := 149) hX dX12_isOwnHere_148 rfl rfl ?_
                                refine zt_ifne (pc' := 152) (tgt := 218) hX dX12_isOwnHere_149 rfl (by decide) ⟨by omega, by omega⟩ (fun c151 => ?_) (fun c151 => ?_)
                                · refine zt_iconst (pc' := 219) hX dX12_isOwnHere_218 rfl ?_
                                  refine zt_goto (tgt := 223) hX dX12_isOwnHere_219 (by decide) ?_
                                  refine zt_istore_n (pc' := 224) (lv' := [some (.ref (X.1.1 + 164)), some (.int (zI 1))]) hX dX12_isOwnHere_223 rfl hL (by decide) rfl ?_
                                  refine zt_iload_n (pc' := 225) hX dX12_isOwnHere_224 rfl rfl ?_
                                  refine zt_ifne (pc' := 228) (tgt := 294) hX dX12_isOwnHere_225 rfl (by decide) ⟨by omega, by omega⟩ (fun c152 => ?_) (fun c152 => ?_)
                                  · refine zt_iconst (pc' := 295) hX dX12_isOwnHere_294 rfl ?_
                                    refine zt_goto (tgt := 299) hX dX12_isOwnHere_295 (by decide) ?_
                                    refine zt_istore_n (pc' := 300) (lv' := [some (.ref (X.1.1 + 164)), some (.int (zI 1))]) hX dX12_isOwnHere_299 rfl hL (by decide) rfl ?_
                                    refine zt_iload_n (pc' := 301) hX dX12_isOwnHere_300 rfl rfl ?_
                                    refine zt_ifne (pc' := 304) (tgt := 337) hX dX12_isOwnHere_301 rfl (by decide) ⟨by omega, by omega⟩ (fun c153 => ?_) (fun c153 => ?_)
                                    · refine zt_iconst (pc' := 338) hX dX12_isOwnHere_337 rfl ?_
                                      refine zt_goto (tgt := 342) hX dX12_isOwnHere_338 (by decide) ?_
                                      refine zt_istore_n (pc' := 343) (lv' := [some (.ref (X.1.1 + 164)), some (.int (zI 1))]) hX dX12_isOwnHere_342 rfl hL (by decide) rfl ?_
                                      refine zt_iload_n (pc' := 344) hX dX12_isOwnHere_343 rfl rfl ?_
                                      exact zt_zret hX hR dX12_isOwnHere_344 ⟨by omega, by omega⟩ ⟨hI138, hF148, by omega, by omega, hT142, hE147, (by constructor <;> intro h <;> omega), (fun o => z145 o)⟩
                                    · exact absurd c153 (by omega)
                                  · exact absurd c152 (by omega)
                                · exact absurd c151 (by omega)
                              · exact absurd c150 (by omega)
                            · clear z144
                              refine zt_ifne (pc' := 87) (tgt := 142) hX dX12_isOwnHere_84 rfl (by decide) ⟨by omega, by omega⟩ (fun c154 => ?_) (fun c154 => ?_)
                              · exact absurd c154 (by omega)
                              · refine zt_aload_n (pc' := 88) hX dX12_isOwnHere_87 rfl rfl ?_
                                refine zt_aload_n (pc' := 89) hX dX12_isOwnHere_88 rfl rfl ?_
                                refine zt_get (pc' := 92) (v := .ref (X.1.1 + 174)) hX dX12_isOwnHere_89 rfl zf_X12_42 (by decide) zc_164 zs_46 (zrf_of (zv_46_18 hI138 zc_164)) ?_
                                refine zt_cVz (pc' := 95) hX dX12_isOwnHere_92 rfl zm_yX12_isHere zw_26_8 zc_164 (by decide) zs_46 (q := (RX12, TX12, 108)) rfl rfl (yc_X12_isHere _ _ s135 hI138 174 56 4 zc_174 (by decide) zs_56 (by decide) f hT142 7 (yrow_174 (yWd_a hWd hF148)) (by decide)) rfl rfl (Nat.le_of_ble_eq_true rfl) (by decide) (fun r155 s156 hr157 hp158 => ?_)
                                obtain ⟨hI159, hF160, q161, q162, hT163, z164, z165, z166, z167⟩ := hp158
                                have hE168 : yqs f s156 = (yqs f σ) := by rw [z164, hE147]
                                rw [hE147] at z165
                                rw [hE147] at z166
                                have hF169 := zOn_tr hF148 hF160 zi_id
                                clear z145
                                clear z167
                                rcases yspl z165 with ⟨rfl, c170⟩ | ⟨rfl, c170⟩
                                · clear z165
                                  refine zt_ifne (pc' := 98) (tgt := 142) hX dX12_isOwnHere_95 rfl (by decide) ⟨by omega, by omega⟩ (fun c171 => ?_) (fun c171 => ?_)
                                  · refine zt_iconst (pc' := 143) hX dX12_isOwnHere_142 rfl ?_
                                    refine zt_goto (tgt := 147) hX dX12_isOwnHere_143 (by decide) ?_
                                    refine zt_istore_n (pc' := 148) (lv' := [some (.ref (X.1.1 + 164)), some (.int (zI 1))]) hX dX12_isOwnHere_147 rfl hL (by decide) rfl ?_
                                    refine zt_iload_n (pc' := 149) hX dX12_isOwnHere_148 rfl rfl ?_
                                    refine zt_ifne (pc' := 152) (tgt := 218) hX dX12_isOwnHere_149 rfl (by decide) ⟨by omega, by omega⟩ (fun c172 => ?_) (fun c172 => ?_)
                                    · refine zt_iconst (pc' := 219) hX dX12_isOwnHere_218 rfl ?_
                                      refine zt_goto (tgt := 223) hX dX12_isOwnHere_219 (by decide) ?_
                                      refine zt_istore_n (pc' := 224) (lv' := [some (.ref (X.1.1 + 164)), some (.int (zI 1))]) hX dX12_isOwnHere_223 rfl hL (by decide) rfl ?_
                                      refine zt_iload_n (pc' := 225) hX dX12_isOwnHere_224 rfl rfl ?_
                                      refine zt_ifne (pc' := 228) (tgt := 294) hX dX12_isOwnHere_225 rfl (by decide) ⟨by omega, by omega⟩ (fun c173 => ?_) (fun c173 => ?_)
                                      · refine zt_iconst (pc' := 295) hX dX12_isOwnHere_294 rfl ?_
                                        refine zt_goto (tgt := 299) hX dX12_isOwnHere_295 (by decide) ?_
                                        refine zt_istore_n (pc' := 300) (lv' := [some (.ref (X.1.1 + 164)), some (.int (zI 1))]) hX dX12_isOwnHere_299 rfl hL (by decide) rfl ?_
                                        refine zt_iload_n (pc' := 301) hX dX12_isOwnHere_300 rfl rfl ?_
                                        refine zt_ifne (pc' := 304) (tgt := 337) hX dX12_isOwnHere_301 rfl (by decide) ⟨by omega, by omega⟩ (fun c174 => ?_) (fun c174 => ?_)
                                        · refine zt_iconst (pc' := 338) hX dX12_isOwnHere_337 rfl ?_
                                          refine zt_goto (tgt := 342) hX dX12_isOwnHere_338 (by decide) ?_
                                          refine zt_istore_n (pc' := 343) (lv' := [some (.ref (X.1.1 + 164)), some (.int (zI 1))]) hX dX12_isOwnHere_342 rfl hL (by decide) rfl ?_
                                          refine zt_iload_n (pc' := 344) hX dX12_isOwnHere_343 rfl rfl ?_
                                          exact zt_zret hX hR dX12_isOwnHere_344 ⟨by omega, by omega⟩ ⟨hI159, hF169, by omega, by omega, hT163, hE168, (by constructor <;> intro h <;> omega), (fun o => z166 o)⟩
                                        · exact absurd c174 (by omega)
                                      · exact absurd c173 (by omega)
                                    · exact absurd c172 (by omega)
                                  · exact absurd c171 (by omega)
                                · clear z165
                                  refine zt_ifne (pc' := 98) (tgt := 142) hX dX12_isOwnHere_95 rfl (by decide) ⟨by omega, by omega⟩ (fun c175 => ?_) (fun c175 => ?_)
                                  · exact absurd c175 (by omega)
                                  · refine zt_aload_n (pc' := 99) hX dX12_isOwnHere_98 rfl rfl ?_
                                    refine zt_aload_n (pc' := 100) hX dX12_isOwnHere_99 rfl rfl ?_
                                    refine zt_get (pc' := 103) (v := .ref (X.1.1 + 175)) hX dX12_isOwnHere_100 rfl zf_X12_45 (by decide) zc_164 zs_46 (zrf_of (zv_46_19 hI159 zc_164)) ?_
                                    refine zt_cVz (pc' := 106) hX dX12_isOwnHere_103 rfl zm_yX12_isHere zw_26_8 zc_164 (by decide) zs_46 (q := (RX12, TX12, 108)) rfl rfl (yc_X12_isHere _ _ s156 hI159 175 57 5 zc_175 (by decide) zs_57 (by decide) f hT163 8 (yrow_175 (yWd_a hWd hF169)) (by decide)) rfl rfl (Nat.le_of_ble_eq_true rfl) (by decide) (fun r176 s177 hr178 hp179 => ?_)
                                    obtain ⟨hI180, hF181, q182, q183, hT184, z185, z186, z187, z188⟩ := hp179
                                    have hE189 : yqs f s177 = (yqs f σ) := by rw [z185, hE168]
                                    rw [hE168] at z186
                                    rw [hE168] at z187
                                    have hF190 := zOn_tr hF169 hF181 zi_id
                                    clear z166
                                    clear z188
                                    rcases yspl z186 with ⟨rfl, c191⟩ | ⟨rfl, c191⟩
                                    · clear z186
                                      refine zt_ifne (pc' := 109) (tgt := 142) hX dX12_isOwnHere_106 rfl (by decide) ⟨by omega, by omega⟩ (fun c192 => ?_) (fun c192 => ?_)
                                      · refine zt_iconst (pc' := 143) hX dX12_isOwnHere_142 rfl ?_
                                        refine zt_goto (tgt := 147) hX dX12_isOwnHere_143 (by decide) ?_
                                        refine zt_istore_n (pc' := 148) (lv' := [some (.ref (X.1.1 + 164)), some (.int (zI 1))]) hX dX12_isOwnHere_147 rfl hL (by decide) rfl ?_
                                        refine zt_iload_n (pc' := 149) hX dX12_isOwnHere_148 rfl rfl ?_
                                        refine zt_ifne (pc' := 152) (tgt := 218) hX dX12_isOwnHere_149 rfl (by decide) ⟨by omega, by omega⟩ (fun c193 => ?_) (fun c193 => ?_)
                                        · refine zt_iconst (pc' := 219) hX dX12_isOwnHere_218 rfl ?_
                                          refine zt_goto (tgt := 223) hX dX12_isOwnHere_219 (by decide) ?_
                                          refine zt_istore_n (pc' := 224) (lv' := [some (.ref (X.1.1 + 164)), some (.int (zI 1))]) hX dX12_isOwnHere_223 rfl hL (by decide) rfl ?_
                                          refine zt_iload_n (pc' := 225) hX dX12_isOwnHere_224 rfl rfl ?_
                                          refine zt_ifne (pc' := 228) (tgt := 294) hX dX12_isOwnHere_225 rfl (by decide) ⟨by omega, by omega⟩ (fun c194 => ?_) (fun c194 => ?_)
                                          · refine zt_iconst (pc' := 295) hX dX12_isOwnHere_294 rfl ?_
                                            refine zt_goto (tgt := 299) hX dX12_isOwnHere_295 (by decide) ?_
                                            refine zt_istore_n (pc' := 300) (lv' := [some (.ref (X.1.1 + 164)), some (.int (zI 1))]) hX dX12_isOwnHere_299 rfl hL (by decide) rfl ?_
                                            refine zt_iload_n (pc' := 301) hX dX12_isOwnHere_300 rfl rfl ?_
                                            refine zt_ifne (pc' := 304) (tgt := 337) hX dX12_isOwnHere_301 rfl (by decide) ⟨by omega, by omega⟩ (fun c195 => ?_) (fun c195 => ?_)
                                            · refine zt_iconst (pc' := 338) hX dX12_isOwnHere_337 rfl ?_
                                              refine zt_goto (tgt := 342) hX dX12_isOwnHere_338 (by decide) ?_
                                              refine zt_istore_n (pc' := 343) (lv' := [some (.ref (X.1.1 + 164)), some (.int (zI 1))]) hX dX12_isOwnHere_342 rfl hL (by decide) rfl ?_
                                              refine zt_iload_n (pc' := 344) hX dX12_isOwnHere_343 rfl rfl ?_
                                              exact zt_zret hX hR dX12_isOwnHere_344 ⟨by omega, by omega⟩ ⟨hI180, hF190, by omega, by omega, hT184, hE189, (by constructor <;> intro h <;> omega), (fun o => z187 o)⟩
                                            · exact absurd c195 (by omega)
                                          · exact absurd c194 (by omega)
                                        · exact absurd c193 (by omega)
                                      · exact absurd c192 (by omega)
                                    · clear z186
                                      refine zt_ifne (pc' := 109) (tgt := 142) hX dX12_isOwnHere_106 rfl (by decide) ⟨by omega, by omega⟩ (fun c196 => ?_) (fun c196 => ?_)
                                      · exact absurd c196 (by omega)
                                      · refine zt_aload_n (pc' := 110) hX dX12_isOwnHere_109 rfl rfl ?_
                                        refine zt_aload_n (pc' := 111) hX dX12_isOwnHere_110 rfl rfl ?_
                                        refine zt_get (pc' := 114) (v := .ref (X.1.1 + 176)) hX dX12_isOwnHere_111 rfl zf_X12_48 (by decide) zc_164 zs_46 (zrf_of (zv_46_20 hI180 zc_164)) ?_
                                        refine zt_cVz (pc' := 117) hX dX12_isOwnHere_114 rfl zm_yX12_isHere zw_26_8 zc_164 (by decide) zs_46 (q := (RX12, TX12, 108)) rfl rfl (yc_X12_isHere _ _ s177 hI180 176 58 5 zc_176 (by decide) zs_58 (by decide) f hT184 9 (yrow_176 (yWd_a hWd hF190)) (by decide)) rfl rfl (Nat.le_of_ble_eq_true rfl) (by decide) (fun r197 s198 hr199 hp200 => ?_)
                                        obtain ⟨hI201, hF202, q203, q204, hT205, z206, z207, z208, z209⟩ := hp200
                                        have hE210 : yqs f s198 = (yqs f σ) := by rw [z206, hE189]
                                        rw [hE189] at z207
                                        rw [hE189] at z208
                                        have hF211 := zOn_tr hF190 hF202 zi_id
                                        clear z187
                                        clear z209
                                        rcases yspl z207 with ⟨rfl, c212⟩ | ⟨rfl, c212⟩
                                        · clear z207
                                          refine zt_ifne (pc' := 120) (tgt := 142) hX dX12_isOwnHere_117 rfl (by decide) ⟨by omega, by omega⟩ (fun c213 => ?_) (fun c213 => ?_)
                                          · refine zt_iconst (pc' := 143) hX dX12_isOwnHere_142 rfl ?_
                                            refine zt_goto (tgt := 147) hX dX12_isOwnHere_143 (by decide) ?_
                                            refine zt_istore_n (pc' := 148) (lv' := [some (.ref (X.1.1 + 164)), some (.int (zI 1))]) hX dX12_isOwnHere_147 rfl hL (by decide) rfl ?_
                                            refine zt_iload_n (pc' := 149) hX dX12_isOwnHere_148 rfl rfl ?_
                                            refine zt_ifne (pc' := 152) (tgt := 218) hX dX12_isOwnHere_149 rfl (by decide) ⟨by omega, by omega⟩ (fun c214 => ?_) (fun c214 => ?_)
                                            · refine zt_iconst (pc' := 219) hX dX12_isOwnHere_218 rfl ?_
                                              refine zt_goto (tgt := 223) hX dX12_isOwnHere_219 (by decide) ?_
                                              refine zt_istore_n (pc' := 224) (lv' := [some (.ref (X.1.1 + 164)), some (.int (zI 1))]) hX dX12_isOwnHere_223 rfl hL (by decide) rfl ?_
                                              refine zt_iload_n (pc' := 225) hX dX12_isOwnHere_224 rfl rfl ?_
                                              refine zt_ifne (pc' := 228) (tgt := 294) hX dX12_isOwnHere_225 rfl (by decide) ⟨by omega, by omega⟩ (fun c215 => ?_) (fun c215 => ?_)
                                              · refine zt_iconst (pc' := 295) hX dX12_isOwnHere_294 rfl ?_
                                                refine zt_goto (tgt := 299) hX dX12_isOwnHere_295 (by decide) ?_
                                                refine zt_istore_n (pc' := 300) (lv' := [some (.ref (X.1.1 + 164)), some (.int (zI 1))]) hX dX12_isOwnHere_299 rfl hL (by decide) rfl ?_
                                                refine zt_iload_n (pc' := 301) hX dX12_isOwnHere_300 rfl rfl ?_
                                                refine zt_ifne (pc' := 304) (tgt := 337) hX dX12_isOwnHere_301 rfl (by decide) ⟨by omega, by omega⟩ (fun c216 => ?_) (fun c216 => ?_)
                                                · refine zt_iconst (pc' := 338) hX dX12_isOwnHere_337 rfl ?_
                                                  refine zt_goto (tgt := 342) hX dX12_isOwnHere_338 (by decide) ?_
                                                  refine zt_istore_n (pc' := 343) (lv' := [some (.ref (X.1.1 + 164)), some (.int (zI 1))]) hX dX12_isOwnHere_342 rfl hL (by decide) rfl ?_
                                                  refine zt_iload_n (pc' := 344) hX dX12_isOwnHere_343 rfl rfl ?_
                                                  exact zt_zret hX hR dX12_isOwnHere_344 ⟨by omega, by omega⟩ ⟨hI201, hF211, by omega, by omega, hT205, hE210, (by constructor <;> intro h <;> omega), (fun o => z208 o)⟩
                                                · exact absurd c216 (by omega)
                                              · exact absurd c215 (by omega)
                                            · exact absurd c214 (by omega)
                                          · exact absurd c213 (by omega)
                                        · clear z207
                                          refine zt_ifne (pc' := 120) (tgt := 142) hX dX12_isOwnHere_117 rfl (by decide) ⟨by omega, by omega⟩ (fun c217 => ?_) (fun c217 => ?_)
                                          · exact absurd c217 (by omega)
                                          · refine zt_aload_n (pc' := 121) hX dX12_isOwnHere_120 rfl rfl ?_
                                            refine zt_aload_n (pc' := 122) hX dX12_isOwnHere_121 rfl rfl ?_
                                            refine zt_get (pc' := 125) (v := .ref (X.1.1 + 177)) hX dX12_isOwnHere_122 rfl zf_X12_51 (by decide) zc_164 zs_46 (zrf_of (zv_46_21 hI201 zc_164)) ?_
                                            refine zt_cVz (pc' := 128) hX dX12_isOwnHere_125 rfl zm_yX12_isHere zw_26_8 zc_164 (by decide) zs_46 (q := (RX12, TX12, 108)) rfl rfl (yc_X12_isHere _ _ s198 hI201 177 59 5 zc_177 (by decide) zs_59 (by decide) f hT205 10 (yrow_177 (yWd_a hWd hF211)) (by decide)) rfl rfl (Nat.le_of_ble_eq_true rfl) (by decide) (fun r218 s219 hr220 hp221 => ?_)
                                            obtain ⟨hI222, hF223, q224, q225, hT226, z227, z228, z229, z230⟩ := hp221
                                            have hE231 : yqs f s219 = (yqs f σ) := by rw [z227, hE210]
                                            rw [hE210] at z228
                                            rw [hE210] at z229
                                            have hF232 := zOn_tr hF211 hF223 zi_id
                                            clear z208
                                            clear z230
                                            rcases yspl z228 with ⟨rfl, c233⟩ | ⟨rfl, c233⟩
                                            · clear z228
                                              refine zt_ifne (pc' := 131) (tgt := 142) hX dX12_isOwnHere_128 rfl (by decide) ⟨by omega, by omega⟩ (fun c234 => ?_) (fun c234 => ?_)
                                              · refine zt_iconst (pc' := 143) hX dX12_isOwnHere_142 rfl ?_
                                                refine zt_goto (tgt := 147) hX dX12_isOwnHere_143 (by decide) ?_
                                                refine zt_istore_n (pc' := 148) (lv' := [some (.ref (X.1.1 + 164)), some (.int (zI 1))]) hX dX12_isOwnHere_147 rfl hL (by decide) rfl ?_
                                                refine zt_iload_n (pc' := 149) hX dX12_isOwnHere_148 rfl rfl ?_
                                                refine zt_ifne (pc' := 152) (tgt := 218) hX dX12_isOwnHere_149 rfl (by decide) ⟨by omega, by omega⟩ (fun c235 => ?_) (fun c235 => ?_)
                                                · refine zt_iconst (pc' := 219) hX dX12_isOwnHere_218 rfl ?_
                                                  refine zt_goto (tgt := 223) hX dX12_isOwnHere_219 (by decide) ?_
                                                  refine zt_istore_n (pc' := 224) (lv' := [some (.ref (X.1.1 + 164)), some (.int (zI 1))]) hX dX12_isOwnHere_223 rfl hL (by decide) rfl ?_
                                                  refine zt_iload_n (pc' := 225) hX dX12_isOwnHere_224 rfl rfl ?_
                                                  refine zt_ifne (pc' := 228) (tgt := 294) hX dX12_isOwnHere_225 rfl (by decide) ⟨by omega, by omega⟩ (fun c236 => ?_) (fun c236 => ?_)
                                                  · refine zt_iconst (pc' := 295) hX dX12_isOwnHere_294 rfl ?_
                                                    refine zt_goto (tgt := 299) hX dX12_isOwnHere_295 (by decide) ?_
                                                    refine zt_istore_n (pc' := 300) (lv' := [some (.ref (X.1.1 + 164)), some (.int (zI 1))]) hX dX12_isOwnHere_299 rfl hL (by decide) rfl ?_
                                                    refine zt_iload_n (pc' := 301) hX dX12_isOwnHere_300 rfl rfl ?_
                                                    refine zt_ifne (pc' := 304) (tgt := 337) hX dX12_isOwnHere_301 rfl (by decide) ⟨by omega, by omega⟩ (fun c237 => ?_) (fun c237 => ?_)
                                                    · refine zt_iconst (pc' := 338) hX dX12_isOwnHere_337 rfl ?_
                                                      refine zt_goto (tgt := 342) hX dX12_isOwnHere_338 (by decide) ?_
                                                      refine zt_istore_n (pc' := 343) (lv' := [some (.ref (X.1.1 + 164)), some (.int (zI 1))]) hX dX12_isOwnHere_342 rfl hL (by decide) rfl ?_
                                                      refine zt_iload_n (pc' := 344) hX dX12_isOwnHere_343 rfl rfl ?_
                                                      exact zt_zret hX hR dX12_isOwnHere_344 ⟨by omega, by omega⟩ ⟨hI222, hF232, by omega, by omega, hT226, hE231, (by constructor <;> intro h <;> omega), (fun o => z229 o)⟩
                                                    · exact absurd c237 (by omega)
                                                  · exact absurd c236 (by omega)
                                                · exact absurd c235 (by omega)
                                              · exact absurd c234 (by omega)
                                            · clear z228
                                              refine zt_ifne (pc' := 131) (tgt := 142) hX dX12_isOwnHere_128 rfl (by decide) ⟨by omega, by omega⟩ (fun c238 => ?_) (fun c238 => ?_)
                                              · exact absurd c238 (by omega)
                                              · refine zt_aload_n (pc' := 132) hX dX12_isOwnHere_131 rfl rfl ?_
                                                refine zt_aload_n (pc' := 133) hX dX12_isOwnHere_132 rfl rfl ?_
                                                refine zt_get (pc' := 136) (v := .ref (X.1.1 + 178)) hX dX12_isOwnHere_133 rfl zf_X12_54 (by decide) zc_164 zs_46 (zrf_of (zv_46_22 hI222 zc_164)) ?_
                                                refine zt_cVz (pc' := 139) hX dX12_isOwnHere_136 rfl zm_yX12_isHere zw_26_8 zc_164 (by decide) zs_46 (q := (RX12, TX12, 108)) rfl rfl (yc_X12_isHere _ _ s219 hI222 178 60 4 zc_178 (by decide) zs_60 (by decide) f hT226 11 (yrow_178 (yWd_a hWd hF232)) (by decide)) rfl rfl (Nat.le_of_ble_eq_true rfl) (by decide) (fun r239 s240 hr241 hp242 => ?_)
                                                obtain ⟨hI243, hF244, q245, q246, hT247, z248, z249, z250, z251⟩ := hp242
                                                have hE252 : yqs f s240 = (yqs f σ) := by rw [z248, hE231]
                                                rw [hE231] at z249
                                                rw [hE231] at z250
                                                have hF253 := zOn_tr hF232 hF244 zi_id
                                                clear z229
                                                clear z251
                                                rcases yspl z249 with ⟨rfl, c254⟩ | ⟨rfl, c254⟩
                                                · clear z249
                                                  refine zt_ifeq (pc' := 142) (tgt := 146) hX dX12_isOwnHere_139 rfl (by decide) ⟨by omega, by omega⟩ (fun c255 => ?_) (fun c255 => ?_)
                                                  · exact absurd c255 (by omega)
                                                  · refine zt_iconst (pc' := 143) hX dX12_isOwnHere_142 rfl ?_
                                                    refine zt_goto (tgt := 147) hX dX12_isOwnHere_143 (by decide) ?_
                                                    refine zt_istore_n (pc' := 148) (lv' := [some (.ref (X.1.1 + 164)), some (.int (zI 1))]) hX dX12_isOwnHere_147 rfl hL (by decide) rfl ?_
                                                    refine zt_iload_n (pc' := 149) hX dX12_isOwnHere_148 rfl rfl ?_
                                                    refine zt_ifne (pc' := 152) (tgt := 218) hX dX12_isOwnHere_149 rfl (by decide) ⟨by omega, by omega⟩ (fun c256 => ?_) (fun c256 => ?_)
                                                    · refine zt_iconst (pc' := 219) hX dX12_isOwnHere_218 rfl ?_
                                                      refine zt_goto (tgt := 223) hX dX12_isOwnHere_219 (by decide) ?_
                                                      refine zt_istore_n (pc' := 224) (lv' := [some (.ref (X.1.1 + 164)), some (.int (zI 1))]) hX dX12_isOwnHere_223 rfl hL (by decide) rfl ?_
                                                      refine zt_iload_n (pc' := 225) hX dX12_isOwnHere_224 rfl rfl ?_
                                                      refine zt_ifne (pc' := 228) (tgt := 294) hX dX12_isOwnHere_225 rfl (by decide) ⟨by omega, by omega⟩ (fun c257 => ?_) (fun c257 => ?_)
                                                      · refine zt_iconst (pc' := 295) hX dX12_isOwnHere_294 rfl ?_
                                                        refine zt_goto (tgt := 299) hX dX12_isOwnHere_295 (by decide) ?_
                                                        refine zt_istore_n (pc' := 300) (lv' := [some (.ref (X.1.1 + 164)), some (.int (zI 1))]) hX dX12_isOwnHere_299 rfl hL (by decide) rfl ?_
                                                        refine zt_iload_n (pc' := 301) hX dX12_isOwnHere_300 rfl rfl ?_
                                                        refine zt_ifne (pc' := 304) (tgt := 337) hX dX12_isOwnHere_301 rfl (by decide) ⟨by omega, by omega⟩ (fun c258 => ?_) (fun c258 => ?_)
                                                        · refine zt_iconst (pc' := 338) hX dX12_isOwnHere_337 rfl ?_
                                                          refine zt_goto (tgt := 342) hX dX12_isOwnHere_338 (by decide) ?_
                                                          refine zt_istore_n (pc' := 343) (lv' := [some (.ref (X.1.1 + 164)), some (.int (zI 1))]) hX dX12_isOwnHere_342 rfl hL (by decide) rfl ?_
                                                          refine zt_iload_n (pc' := 344) hX dX12_isOwnHere_343 rfl rfl ?_
                                                          exact zt_zret hX hR dX12_isOwnHere_344 ⟨by omega, by omega⟩ ⟨hI243, hF253, by omega, by omega, hT247, hE252, (by constructor <;> intro h <;> omega), (fun o => z250 o)⟩
                                                        · exact absurd c258 (by omega)
                                                      · exact absurd c257 (by omega)
                                                    · exact absurd c256 (by omega)
                                                · clear z249
                                                  refine zt_ifeq (pc' := 142) (tgt := 146) hX dX12_isOwnHere_139 rfl (by decide) ⟨by omega, by omega⟩ (fun c259 => ?_) (fun c259 => ?_)
                                                  · refine zt_iconst (pc' := 147) hX dX12_isOwnHere_146 rfl ?_
                                                    refine zt_istore_n (pc' := 148) (lv' := [some (.ref (X.1.1 + 164)), some (.int (zI 0))]) hX dX12_isOwnHere_147 rfl hL (by decide) rfl ?_
                                                    refine zt_iload_n (pc' := 149) hX dX12_isOwnHere_148 rfl rfl ?_
                                                    refine zt_ifne (pc' := 152) (tgt := 218) hX dX12_isOwnHere_149 rfl (by decide) ⟨by omega, by omega⟩ (fun c260 => ?_) (fun c260 => ?_)
                                                    · exact absurd c260 (by omega)
                                                    · refine zt_aload_n (pc' := 153) hX dX12_isOwnHere_152 rfl rfl ?_
                                                      refine zt_aload_n (pc' := 154) hX dX12_isOwnHere_153 rfl rfl ?_
                                                      refine zt_get (pc' := 157) (v := .ref (X.1.1 + 179)) hX dX12_isOwnHere_154 rfl zf_X12_57 (by decide) zc_164 zs_46 (zrf_of (zv_46_23 hI243 zc_164)) ?_
                                                      refine zt_cVz (pc' := 160) hX dX12_isOwnHere_157 rfl zm_yX12_isHere zw_26_8 zc_164 (by decide) zs_46 (q := (RX12, TX12, 108)) rfl rfl (yc_X12_isHere _ _ s240 hI243 179 61 4 zc_179 (by decide) zs_61 (by decide) f hT247 12 (yrow_179 (yWd_a hWd hF253)) (by decide)) rfl rfl (Nat.le_of_ble_eq_true rfl) (by decide) (fun r261 s262 hr263 hp264 => ?_)
                                                      obtain ⟨hI265, hF266, q267, q268, hT269, z270, z271, z272, z273⟩ := hp264
                                                      have hE274 : yqs f s262 = (yqs f σ) := by rw [z270, hE252]
                                                      rw [hE252] at z271
                                                      rw [hE252] at z272
                                                      have hF275 := zOn_tr hF253 hF266 zi_id
                                                      clear z250
                                                      clear z273
                                                      rcases yspl z271 with ⟨rfl, c276⟩ | ⟨rfl, c276⟩
                                                      · clear z271
                                                        refine zt_ifne (pc' := 163) (tgt := 218) hX dX12_isOwnHere_160 rfl (by decide) ⟨by omega, by omega⟩ (fun c277 => ?_) (fun c277 => ?_)
                                                        · refine zt_iconst (pc' := 219) hX dX12_isOwnHere_218 rfl ?_
                                                          refine zt_goto (tgt := 223) hX dX12_isOwnHere_219 (by decide) ?_
                                                          refine zt_istore_n (pc' := 224) (lv' := [some (.ref (X.1.1 + 164)), some (.int (zI 1))]) hX dX12_isOwnHere_223 rfl hL (by decide) rfl ?_
                                                          refine zt_iload_n (pc' := 225) hX dX12_isOwnHere_224 rfl rfl ?_
                                                          refine zt_ifne (pc' := 228) (tgt := 294) hX dX12_isOwnHere_225 rfl (by decide) ⟨by omega, by omega⟩ (fun c278 => ?_) (fun c278 => ?_)
                                                          · refine zt_iconst (pc' := 295) hX dX12_isOwnHere_294 rfl ?_
                                                            refine zt_goto (tgt := 299) hX dX12_isOwnHere_295 (by decide) ?_
                                                            refine zt_istore_n (pc' := 300) (lv' := [some (.ref (X.1.1 + 164)), some (.int (zI 1))]) hX dX12_isOwnHere_299 rfl hL (by decide) rfl ?_
                                                            refine zt_iload_n (pc' := 301) hX dX12_isOwnHere_300 rfl rfl ?_
                                                            refine zt_ifne (pc' := 304) (tgt := 337) hX dX12_isOwnHere_301 rfl (by decide) ⟨by omega, by omega⟩ (fun c279 => ?_) (fun c279 => ?_)
                                                            · refine zt_iconst (pc' := 338) hX dX12_isOwnHere_337 rfl ?_
                                                              refine zt_goto (tgt := 342) hX dX12_isOwnHere_338 (by decide) ?_
                                                              refine zt_istore_n (pc' := 343) (lv' := [some (.ref (X.1.1 + 164)), some (.int (zI 1))]) hX dX12_isOwnHere_342 rfl hL (by decide) rfl ?_
                                                              refine zt_iload_n (pc' := 344) hX dX12_isOwnHere_343 rfl rfl ?_
                                                              exact zt_zret hX hR dX12_isOwnHere_344 ⟨by omega, by omega⟩ ⟨hI265, hF275, by omega, by omega, hT269, hE274, (by constructor <;> intro h <;> omega), (fun o => z272 o)⟩
                                                            · exact absurd c279 (by omega)
                                                          · exact absurd c278 (by omega)
                                                        · exact absurd c277 (by omega)
                                                      · clear z271
                                                        refine zt_ifne (pc' := 163) (tgt := 218) hX dX12_isOwnHere_160 rfl (by decide) ⟨by omega, by omega⟩ (fun c280 => ?_) (fun c280 => ?_)
                                                        · exact absurd c280 (by omega)
                                                        · refine zt_aload_n (pc' := 164) hX dX12_isOwnHere_163 rfl rfl ?_
                                                          refine zt_aload_n (pc' := 165) hX dX12_isOwnHere_164 rfl rfl ?_
                                                          refine zt_get (pc' := 168) (v := .ref (X.1.1 + 180)) hX dX12_isOwnHere_165 rfl zf_X12_60 (by decide) zc_164 zs_46 (zrf_of (zv_46_24 hI265 zc_164)) ?_
                                                          refine zt_cVz (pc' := 171) hX dX12_isOwnHere_168 rfl zm_yX12_isHere zw_26_8 zc_164 (by decide) zs_46 (q := (RX12, TX12, 108)) rfl rfl (yc_X12_isHere _ _ s262 hI265 180 62 6 zc_180 (by decide) zs_62 (by decide) f hT269 13 (yrow_180 (yWd_a hWd hF275)) (by decide)) rfl rfl (Nat.le_of_ble_eq_true rfl) (by decide) (fun r281 s282 hr283 hp284 => ?_)
                                                          obtain ⟨hI285, hF286, q287, q288, hT289, z290, z291, z292, z293⟩ := hp284
                                                          have hE294 : yqs f s282 = (yqs f σ) := by rw [z290, hE274]
                                                          rw [hE274] at z291
                                                          rw [hE274] at z292
                                                          have hF295 := zOn_tr hF275 hF286 zi_id
                                                          clear z272
                                                          clear z293
                                                          rcases yspl z291 with ⟨rfl, c296⟩ | ⟨rfl, c296⟩
                                                          · clear z291
                                                            refine zt_ifne (pc' := 174) (tgt := 218) hX dX12_isOwnHere_171 rfl (by decide) ⟨by omega, by omega⟩ (fun c297 => ?_) (fun c297 => ?_)
                                                            · refine zt_iconst (pc' := 219) hX dX12_isOwnHere_218 rfl ?_
                                                              refine zt_goto (tgt := 223) hX dX12_isOwnHere_219 (by decide) ?_
                                                              refine zt_istore_n (pc' := 224) (lv' := [some (.ref (X.1.1 + 164)), some (.int (zI 1))]) hX dX12_isOwnHere_223 rfl hL (by decide) rfl ?_
                                                              refine zt_iload_n (pc' := 225) hX dX12_isOwnHere_224 rfl rfl ?_
                                                              refine zt_ifne (pc' := 228) (tgt := 294) hX dX12_isOwnHere_225 rfl (by decide) ⟨by omega, by omega⟩ (fun c298 => ?_) (fun c298 => ?_)
                                                              · refine zt_iconst (pc' := 295) hX dX12_isOwnHere_294 rfl ?_
                                                                refine zt_goto (tgt := 299) hX dX12_isOwnHere_295 (by decide) ?_
                                                                refine zt_istore_n (pc' := 300) (lv' := [some (.ref (X.1.1 + 164)), some (.int (zI 1))]) hX dX12_isOwnHere_299 rfl hL (by decide) rfl ?_
                                                                refine zt_iload_n (pc' := 301) hX dX12_isOwnHere_300 rfl rfl ?_
                                                                refine zt_ifne (pc' := 304) (tgt := 337) hX dX12_isOwnHere_301 rfl (by decide) ⟨by omega, by omega⟩ (fun c299 => ?_) (fun c299 => ?_)
                                                                · refine zt_iconst (pc' := 338) hX dX12_isOwnHere_337 rfl ?_
                                                                  refine zt_goto (tgt := 342) hX dX12_isOwnHere_338 (by decide) ?_
                                                                  refine zt_istore_n (pc' := 343) (lv' := [some (.ref (X.1.1 + 164)), some (.int (zI 1))]) hX dX12_isOwnHere_342 rfl hL (by decide) rfl ?_
                                                                  refine zt_iload_n (pc' := 344) hX dX12_isOwnHere_343 rfl rfl ?_
                                                                  exact zt_zret hX hR dX12_isOwnHere_344 ⟨by omega, by omega⟩ ⟨hI285, hF295, by omega, by omega, hT289, hE294, (by constructor <;> intro h <;> omega), (fun o => z292 o)⟩
                                                                · exact absurd c299 (by omega)
                                                              · exact absurd c298 (by omega)
                                                            · exact absurd c297 (by omega)
                                                          · clear z291
                                                            refine zt_ifne (pc' := 174) (tgt := 218) hX dX12_isOwnHere_171 rfl (by decide) ⟨by omega, by omega⟩ (fun c300 => ?_) (fun c300 => ?_)
                                                            · exact absurd c300 (by omega)
                                                            · refine zt_aload_n (pc' := 175) hX dX12_isOwnHere_174 rfl rfl ?_
                                                              refine zt_aload_n (pc' := 176) hX dX12_isOwnHere_175 rfl rfl ?_
                                                              refine zt_get (pc' := 179) (v := .ref (X.1.1 + 181)) hX dX12_isOwnHere_176 rfl zf_X12_63 (by decide) zc_164 zs_46 (zrf_of (zv_46_25 hI285 zc_164)) ?_
                                                              refine zt_cVz (pc' := 182) hX dX12_isOwnHere_179 rfl zm_yX12_isHere zw_26_8 zc_164 (by decide) zs_46 (q := (RX12, TX12, 108)) rfl rfl (yc_X12_isHere _ _ s282 hI285 181 63 6 zc_181 (by decide) zs_63 (by decide) f hT289 14 (yrow_181 (yWd_a hWd hF295)) (by decide)) rfl rfl (Nat.le_of_ble_eq_true rfl) (by decide) (fun r301 s302 hr303 hp304 => ?_)
                                                              obtain ⟨hI305, hF306, q307, q308, hT309, z310, z311, z312, z313⟩ := hp304
                                                              have hE314 : yqs f s302 = (yqs f σ) := by rw [z310, hE294]
                                                              rw [hE294] at z311
                                                              rw [hE294] at z312
                                                              have hF315 := zOn_tr hF295 hF306 zi_id
                                                              clear z292
                                                              clear z313
                                                              rcases yspl z311 with ⟨rfl, c316⟩ | ⟨rfl, c316⟩
                                                              · clear z311
                                                                refine zt_ifne (pc' := 185) (tgt := 218) hX dX12_isOwnHere_182 rfl (by decide) ⟨by omega, by omega⟩ (fun c317 => ?_) (fun c317 => ?_)
                                                                · refine zt_iconst (pc' := 219) hX dX12_isOwnHere_218 rfl ?_
                                                                  refine zt_goto (tgt := 223) hX dX12_isOwnHere_219 (by decide) ?_
                                                                  refine zt_istore_n (pc' := 224) (lv' := [some (.ref (X.1.1 + 164)), some (.int (zI 1))]) hX dX12_isOwnHere_223 rfl hL (by decide) rfl ?_
                                                                  refine zt_iload_n (pc' := 225) hX dX12_isOwnHere_224 rfl rfl ?_
                                                                  refine zt_ifne (pc' := 228) (tgt := 294) hX dX12_isOwnHere_225 rfl (by decide) ⟨by omega, by omega⟩ (fun c318 => ?_) (fun c318 => ?_)
                                                                  · refine zt_iconst (pc' := 295) hX dX12_isOwnHere_294 rfl ?_
                                                                    refine zt_goto (tgt := 299) hX dX12_isOwnHere_295 (by decide) ?_
                                                                    refine zt_istore_n (pc' := 300) (lv' := [some (.ref (X.1.1 + 164)), some (.int (zI 1))]) hX dX12_isOwnHere_299 rfl hL (by decide) rfl ?_
                                                                    refine zt_iload_n (pc' := 301) hX dX12_isOwnHere_300 rfl rfl ?_
                                                                    refine zt_ifne (pc' := 304) (tgt := 337) hX dX12_isOwnHere_301 rfl (by decide) ⟨by omega, by omega⟩ (fun c319 => ?_) (fun c319 => ?_)
                                                                    · refine zt_iconst (pc' := 338) hX dX12_isOwnHere_337 rfl ?_
                                                                      refine zt_goto (tgt := 342) hX dX12_isOwnHere_338 (by decide) ?_
                                                                      refine zt_istore_n (pc' := 343) (lv' := [some (.ref (X.1.1 + 164)), some (.int (zI 1))]) hX dX12_isOwnHere_342 rfl hL (by decide) rfl ?_
                                                                      refine zt_iload_n (pc' := 344) hX dX12_isOwnHere_343 rfl rfl ?_
                                                                      exact zt_zret hX hR dX12_isOwnHere_344 ⟨by omega, by omega⟩ ⟨hI305, hF315, by omega, by omega, hT309, hE314, (by constructor <;> intro h <;> omega), (fun o => z312 o)⟩
                                                                    · exact absurd c319 (by omega)
                                                                  · exact absurd c318 (by omega)
                                                                · exact absurd c317 (by omega)
                                                              · clear z311
                                                                refine zt_ifne (pc' := 185) (tgt := 218) hX dX12_isOwnHere_182 rfl (by decide) ⟨by omega, by omega⟩ (fun c320 => ?_) (fun c320 => ?_)
                                                                · exact absurd c320 (by omega)
                                                                · refine zt_aload_n (pc' := 186) hX dX12_isOwnHere_185 rfl rfl ?_
                                                                  refine zt_aload_n (pc' := 187) hX dX12_isOwnHere_186 rfl rfl ?_
                                                                  refine zt_get (pc' := 190) (v := .ref (X.1.1 + 182)) hX dX12_isOwnHere_187 rfl zf_X12_66 (by decide) zc_164 zs_46 (zrf_of (zv_46_26 hI305 zc_164)) ?_
                                                                  refine zt_cVz (pc' := 193) hX dX12_isOwnHere_190 rfl zm_yX12_isHere zw_26_8 zc_164 (by decide) zs_46 (q := (RX12, TX12, 108)) rfl rfl (yc_X12_isHere _ _ s302 hI305 182 64 5 zc_182 (by decide) zs_64 (by decide) f hT309 15 (yrow_182 (yWd_a hWd hF315)) (by decide)) rfl rfl (Nat.le_of_ble_eq_true rfl) (by decide) (fun r321 s322 hr323 hp324 => ?_)
                                                                  obtain ⟨hI325, hF326, q327, q328, hT329, z330, z331, z332, z333⟩ := hp324
                                                                  have hE334 : yqs f s322 = (yqs f σ) := by rw [z330, hE314]
                                                                  rw [hE314] at z331
                                                                  rw [hE314] at z332
                                                                  have hF335 := zOn_tr hF315 hF326 zi_id
                                                                  clear z312
                                                                  clear z333
                                                                  rcases yspl z331 with ⟨rfl, c336⟩ | ⟨rfl, c336⟩
                                                                  · clear z331
                                                                    refine zt_ifne (pc' := 196) (tgt := 218) hX dX12_isOwnHere_193 rfl (by decide) ⟨by omega, by omega⟩ (fun c337 => ?_) (fun c337 => ?_)
                                                                    · refine zt_iconst (pc' := 219) hX dX12_isOwnHere_218 rfl ?_
                                                                      refine zt_goto (tgt := 223) hX dX12_isOwnHere_219 (by decide) ?_
                                                                      refine zt_istore_n (pc' := 224) (lv' := [some (.ref (X.1.1 + 164)), some (.int (zI 1))]) hX dX12_isOwnHere_223 rfl hL (by decide) rfl ?_
                                                                      refine zt_iload_n (pc' := 225) hX dX12_isOwnHere_224 rfl rfl ?_
                                                                      refine zt_ifne (pc' := 228) (tgt := 294) hX dX12_isOwnHere_225 rfl (by decide) ⟨by omega, by omega⟩ (fun c338 => ?_) (fun c338 => ?_)
                                                                      · refine zt_iconst (pc' := 295) hX dX12_isOwnHere_294 rfl ?_
                                                                        refine zt_goto (tgt := 299) hX dX12_isOwnHere_295 (by decide) ?_
                                                                        refine zt_istore_n (pc' := 300) (lv' := [some (.ref (X.1.1 + 164)), some (.int (zI 1))]) hX dX12_isOwnHere_299 rfl hL (by decide) rfl ?_
                                                                        refine zt_iload_n (pc' := 301) hX dX12_isOwnHere_300 rfl rfl ?_
                                                                        refine zt_ifne (pc' := 304) (tgt := 337) hX dX12_isOwnHere_301 rfl (by decide) ⟨by omega, by omega⟩ (fun c339 => ?_) (fun c339 => ?_)
                                                                        · refine zt_iconst (pc' := 338) hX dX12_isOwnHere_337 rfl ?_
                                                                          refine zt_goto (tgt := 342) hX dX12_isOwnHere_338 (by decide) ?_
                                                                          refine zt_istore_n (pc' := 343) (lv' := [some (.ref (X.1.1 + 164)), some (.int (zI 1))]) hX dX12_isOwnHere_342 rfl hL (by decide) rfl ?_
                                                                          refine zt_iload_n (pc' := 344) hX dX12_isOwnHere_343 rfl rfl ?_
                                                                          exact zt_zret hX hR dX12_isOwnHere_344 ⟨by omega, by omega⟩ ⟨hI325, hF335, by omega, by omega, hT329, hE334, (by constructor <;> intro h <;> omega), (fun o => z332 o)⟩
                                                                        · exact absurd c339 (by omega)
                                                                      · exact absurd c338 (by omega)
                                                                    · exact absurd c337 (by omega)
                                                                  · clear z331
                                                                    refine zt_ifne (pc' := 196) (tgt := 218) hX dX12_isOwnHere_193 rfl (by decide) ⟨by omega, by omega⟩ (fun c340 => ?_) (fun c340 => ?_)
                                                                    · exact absurd c340 (by omega)
                                                                    · refine zt_aload_n (pc' := 197) hX dX12_isOwnHere_196 rfl rfl ?_
                                                                      refine zt_aload_n (pc' := 198) hX dX12_isOwnHere_197 rfl rfl ?_
                                                                      refine zt_get (pc' := 201) (v := .ref (X.1.1 + 183)) hX dX12_isOwnHere_198 rfl zf_X12_69 (by decide) zc_164 zs_46 (zrf_of (zv_46_27 hI325 zc_164)) ?_
                                                                      refine zt_cVz (pc' := 204) hX dX12_isOwnHere_201 rfl zm_yX12_isHere zw_26_8 zc_164 (by decide) zs_46 (q := (RX12, TX12, 108)) rfl rfl (yc_X12_isHere _ _ s322 hI325 183 65 4 zc_183 (by decide) zs_65 (by decide) f hT329 16 (yrow_183 (yWd_a hWd hF335)) (by decide)) rfl rfl (Nat.le_of_ble_eq_true rfl) (by decide) (fun r341 s342 hr343 hp344 => ?_)
                                                                      obtain ⟨hI345, hF346, q347, q348, hT349, z350, z351, z352, z353⟩ := hp344
                                                                      have hE354 : yqs f s342 = (yqs f σ) := by rw [z350, hE334]
                                                                      rw [hE334] at z351
                                                                      rw [hE334] at z352
                                                                      have hF355 := zOn_tr hF335 hF346 zi_id
                                                                      clear z332
                                                                      clear z353
                                                                      rcases yspl z351 with ⟨rfl, c356⟩ | ⟨rfl, c356⟩
                                                                      · clear z351
                                                                        refine zt_ifne (pc' := 207) (tgt := 218) hX dX12_isOwnHere_204 rfl (by decide) ⟨by omega, by omega⟩ (fun c357 => ?_) (fun c357 => ?_)
                                                                        · refine zt_iconst (pc' := 219) hX dX12_isOwnHere_218 rfl ?_
                                                                          refine zt_goto (tgt := 223) hX dX12_isOwnHere_219 (by decide) ?_
                                                                          refine zt_istore_n (pc' := 224) (lv' := [some (.ref (X.1.1 + 164)), some (.int (zI 1))]) hX dX12_isOwnHere_223 rfl hL (by decide) rfl ?_
                                                                          refine zt_iload_n (pc' := 225) hX dX12_isOwnHere_224 rfl rfl ?_
                                                                          refine zt_ifne (pc' := 228) (tgt := 294) hX dX12_isOwnHere_225 rfl (by decide) ⟨by omega, by omega⟩ (fun c358 => ?_) (fun c358 => ?_)
                                                                          · refine zt_iconst (pc' := 295) hX dX12_isOwnHere_294 rfl ?_
                                                                            refine zt_goto (tgt := 299) hX dX12_isOwnHere_295 (by decide) ?_
                                                                            refine zt_istore_n (pc' := 300) (lv' := [some (.ref (X.1.1 + 164)), some (.int (zI 1))]) hX dX12_isOwnHere_299 rfl hL (by decide) rfl ?_
                                                                            refine zt_iload_n (pc' := 301) hX dX12_isOwnHere_300 rfl rfl ?_
                                                                            refine zt_ifne (pc' := 304) (tgt := 337) hX dX12_isOwnHere_301 rfl (by decide) ⟨by omega, by omega⟩ (fun c359 => ?_) (fun c359 => ?_)
                                                                            · refine zt_iconst (pc' := 338) hX dX12_isOwnHere_337 rfl ?_
                                                                              refine zt_goto (tgt := 342) hX dX12_isOwnHere_338 (by decide) ?_
                                                                              refine zt_istore_n (pc' := 343) (lv' := [some (.ref (X.1.1 + 164)), some (.int (zI 1))]) hX dX12_isOwnHere_342 rfl hL (by decide) rfl ?_
                                                                              refine zt_iload_n (pc' := 344) hX dX12_isOwnHere_343 rfl rfl ?_
                                                                              exact zt_zret hX hR dX12_isOwnHere_344 ⟨by omega, by omega⟩ ⟨hI345, hF355, by omega, by omega, hT349, hE354, (by constructor <;> intro h <;> omega), (fun o => z352 o)⟩
                                                                            · exact absurd c359 (by omega)
                                                                          · exact absurd c358 (by omega)
                                                                        · exact absurd c357 (by omega)
                                                                      · clear z351
                                                                        refine zt_ifne (pc' := 207) (tgt := 218) hX dX12_isOwnHere_204 rfl (by decide) ⟨by omega, by omega⟩ (fun c360 => ?_) (fun c360 => ?_)
                                                                        · exact absurd c360 (by omega)
                                                                        · refine zt_aload_n (pc' := 208) hX dX12_isOwnHere_207 rfl rfl ?_
                                                                          refine zt_aload_n (pc' := 209) hX dX12_isOwnHere_208 rfl rfl ?_
                                                                          refine zt_get (pc' := 212) (v := .ref (X.1.1 + 184)) hX dX12_isOwnHere_209 rfl zf_X12_72 (by decide) zc_164 zs_46 (zrf_of (zv_46_28 hI345 zc_164)) ?_
                                                                          refine zt_cVz (pc' := 215) hX dX12_isOwnHere_212 rfl zm_yX12_isHere zw_26_8 zc_164 (by decide) zs_46 (q := (RX12, TX12, 108)) rfl rfl (yc_X12_isHere _ _ s342 hI345 184 66 6 zc_184 (by decide) zs_66 (by decide) f hT349 17 (yrow_184 (yWd_a hWd hF355)) (by decide)) rfl rfl (Nat.le_of_ble_eq_true rfl) (by decide) (fun r361 s362 hr363 hp364 => ?_)
                                                                          obtain ⟨hI365, hF366, q367, q368, hT369, z370, z371, z372, z373⟩ := hp364
                                                                          have hE374 : yqs f s362 = (yqs f σ) := by rw [z370, hE354]
                                                                          rw [hE354] at z371
                                                                          rw [hE354] at z372
                                                                          have hF375 := zOn_tr hF355 hF366 zi_id
                                                                          clear z352
                                                                          clear z373
                                                                          rcases yspl z371 with ⟨rfl, c376⟩ | ⟨rfl, c376⟩
                                                                          · clear z371
                                                                            refine zt_ifeq (pc' := 218) (tgt := 222) hX dX12_isOwnHere_215 rfl (by decide) ⟨by omega, by omega⟩ (fun c377 => ?_) (fun c377 => ?_)
                                                                            · exact absurd c377 (by omega)
                                                                            · refine zt_iconst (pc' := 219) hX dX12_isOwnHere_218 rfl ?_
                                                                              refine zt_goto (tgt := 223) hX dX12_isOwnHere_219 (by decide) ?_
                                                                              refine zt_istore_n (pc' := 224) (lv' := [some (.ref (X.1.1 + 164)), some (.int (zI 1))]) hX dX12_isOwnHere_223 rfl hL (by decide) rfl ?_
                                                                              refine zt_iload_n (pc' := 225) hX dX12_isOwnHere_224 rfl rfl ?_
                                                                              refine zt_ifne (pc' := 228) (tgt := 294) hX dX12_isOwnHere_225 rfl (by decide) ⟨by omega, by omega⟩ (fun c378 => ?_) (fun c378 => ?_)
                                                                              · refine zt_iconst (pc' := 295) hX dX12_isOwnHere_294 rfl ?_
                                                                                refine zt_goto (tgt := 299) hX dX12_isOwnHere_295 (by decide) ?_
                                                                                refine zt_istore_n (pc' := 300) (lv' := [some (.ref (X.1.1 + 164)), some (.int (zI 1))]) hX dX12_isOwnHere_299 rfl hL (by decide) rfl ?_
                                                                                refine zt_iload_n (pc' := 301) hX dX12_isOwnHere_300 rfl rfl ?_
                                                                                refine zt_ifne (pc' := 304) (tgt := 337) hX dX12_isOwnHere_301 rfl (by decide) ⟨by omega, by omega⟩ (fun c379 => ?_) (fun c379 => ?_)
                                                                                · refine zt_iconst (pc' := 338) hX dX12_isOwnHere_337 rfl ?_
                                                                                  refine zt_goto (tgt := 342) hX dX12_isOwnHere_338 (by decide) ?_
                                                                                  refine zt_istore_n (pc' := 343) (lv' := [some (.ref (X.1.1 + 164)), some (.int (zI 1))]) hX dX12_isOwnHere_342 rfl hL (by decide) rfl ?_
                                                                                  refine zt_iload_n (pc' := 344) hX dX12_isOwnHere_343 rfl rfl ?_
                                                                                  exact zt_zret hX hR dX12_isOwnHere_344 ⟨by omega, by omega⟩ ⟨hI365, hF375, by omega, by omega, hT369, hE374, (by constructor <;> intro h <;> omega), (fun o => z372 o)⟩
                                                                                · exact absurd c379 (by omega)
                                                                              · exact absurd c378 (by omega)
                                                                          · clear z371
                                                                            refine zt_ifeq (pc' := 218) (tgt := 222) hX dX12_isOwnHere_215 rfl (by decide) ⟨by omega, by omega⟩ (fun c380 => ?_) (fun c380 => ?_)
                                                                            · refine zt_iconst (pc' := 223) hX dX12_isOwnHere_222 rfl ?_
                                                                              refine zt_istore_n (pc' := 224) (lv' := [some (.ref (X.1.1 + 164)), some (.int (zI 0))]) hX dX12_isOwnHere_223 rfl hL (by decide) rfl ?_
                                                                              refine zt_iload_n (pc' := 225) hX dX12_isOwnHere_224 rfl rfl ?_
                                                                              refine zt_ifne (pc' := 228) (tgt := 294) hX dX12_isOwnHere_225 rfl (by decide) ⟨by omega, by omega⟩ (fun c381 => ?_) (fun c381 => ?_)
                                                                              · exact absurd c381 (by omega)
                                                                              · refine zt_aload_n (pc' := 229) hX dX12_isOwnHere_228 rfl rfl ?_
                                                                                refine zt_aload_n (pc' := 230) hX dX12_isOwnHere_229 rfl rfl ?_
                                                                                refine zt_get (pc' := 233) (v := .ref (X.1.1 + 185)) hX dX12_isOwnHere_230 rfl zf_X12_75 (by decide) zc_164 zs_46 (zrf_of (zv_46_29 hI365 zc_164)) ?_
                                                                                refine zt_cVz (pc' := 236) hX dX12_isOwnHere_233 rfl zm_yX12_isHere zw_26_8 zc_164 (by decide) zs_46 (q := (RX12, TX12, 108)) rfl rfl (yc_X12_isHere _ _ s362 hI365 185 67 6 zc_185 (by decide) zs_67 (by decide) f hT369 18 (yrow_185 (yWd_a hWd hF375)) (by decide)) rfl rfl (Nat.le_of_ble_eq_true rfl) (by decide) (fun r382 s383 hr384 hp385 => ?_)
                                                                                obtain ⟨hI386, hF387, q388, q389, hT390, z391, z392, z393, z394⟩ := hp385
                                                                                have hE395 : yqs f s383 = (yqs f σ) := by rw [z391, hE374]
                                                                                rw [hE374] at z392
                                                                                rw [hE374] at z393
                                                                                have hF396 := zOn_tr hF375 hF387 zi_id
                                                                                clear z372
                                                                                clear z394
                                                                                rcases yspl z392 with ⟨rfl, c397⟩ | ⟨rfl, c397⟩
                                                                                · clear z392
                                                                                  refine zt_ifne (pc' := 239) (tgt := 294) hX dX12_isOwnHere_236 rfl (by decide) ⟨by omega, by omega⟩ (fun c398 => ?_) (fun c398 => ?_)
                                                                                  · refine zt_iconst (pc' := 295) hX dX12_isOwnHere_294 rfl ?_
                                                                                    refine zt_goto (tgt := 299) hX dX12_isOwnHere_295 (by decide) ?_
                                                                                    refine zt_istore_n (pc' := 300) (lv' := [some (.ref (X.1.1 + 164)), some (.int (zI 1))]) hX dX12_isOwnHere_299 rfl hL (by decide) rfl ?_
                                                                                    refine zt_iload_n (pc' := 301) hX dX12_isOwnHere_300 rfl rfl ?_
                                                                                    refine zt_ifne (pc' := 304) (tgt := 337) hX dX12_isOwnHere_301 rfl (by decide) ⟨by omega, by omega⟩ (fun c399 => ?_) (fun c399 => ?_)
                                                                                    · refine zt_iconst (pc' := 338) hX dX12_isOwnHere_337 rfl ?_
                                                                                      refine zt_goto (tgt := 342) hX dX12_isOwnHere_338 (by decide) ?_
                                                                                      refine zt_istore_n (pc' := 343) (lv' := [some (.ref (X.1.1 + 164)), some (.int (zI 1))]) hX dX12_isOwnHere_342 rfl hL (by decide) rfl ?_
                                                                                      refine zt_iload_n (pc' := 344) hX dX12_isOwnHere_343 rfl rfl ?_
                                                                                      exact zt_zret hX hR dX12_isOwnHere_344 ⟨by omega, by omega⟩ ⟨hI386, hF396, by omega, by omega, hT390, hE395, (by constructor <;> intro h <;> omega), (fun o => z393 o)⟩
                                                                                    · exact absurd c399 (by omega)
                                                                                  · exact absurd c398 (by omega)
                                                                                · clear z392
                                                                                  refine zt_ifne (pc' := 239) (tgt := 294) hX dX12_isOwnHere_236 rfl (by decide) ⟨by omega, by omega⟩ (fun c400 => ?_) (fun c400 => ?_)
                                                                                  · exact absurd c400 (by omega)
                                                                                  · refine zt_aload_n (pc' := 240) hX dX12_isOwnHere_239 rfl rfl ?_
                                                                                    refine zt_aload_n (pc' := 241) hX dX12_isOwnHere_240 rfl rfl ?_
                                                                                    refine zt_get (pc' := 244) (v := .ref (X.1.1 + 186)) hX dX12_isOwnHere_241 rfl zf_X12_78 (by decide) zc_164 zs_46 (zrf_of (zv_46_30 hI386 zc_164)) ?_
                                                                                    refine zt_cVz (pc' := 247) hX dX12_isOwnHere_244 rfl zm_yX12_isHere zw_26_8 zc_164 (by decide) zs_46 (q := (RX12, TX12, 108)) rfl rfl (yc_X12_isHere _ _ s383 hI386 186 68 3 zc_186 (by decide) zs_68 (by decide) f hT390 19 (yrow_186 (yWd_a hWd hF396)) (by decide)) rfl rfl (Nat.le_of_ble_eq_true rfl) (by decide) (fun r401 s402 hr403 hp404 => ?_)
                                                                                    obtain ⟨hI405, hF406, q407, q408, hT409, z410, z411, z412, z413⟩ := hp404
                                                                                    have hE414 : yqs f s402 = (yqs f σ) := by rw [z410, hE395]
                                                                                    rw [hE395] at z411
                                                                                    rw [hE395] at z412
                                                                                    have hF415 := zOn_tr hF396 hF406 zi_id
                                                                                    clear z393
                                                                                    clear z413
                                                                                    rcases yspl z411 with ⟨rfl, c416⟩ | ⟨rfl, c416⟩
                                                                                    · clear z411
                                                                                      refine zt_ifne (pc' := 250) (tgt := 294) hX dX12_isOwnHere_247 rfl (by decide) ⟨by omega, by omega⟩ (fun c417 => ?_) (fun c417 => ?_)
                                                                                      · refine zt_iconst (pc' := 295) hX dX12_isOwnHere_294 rfl ?_
                                                                                        refine zt_goto (tgt := 299) hX dX12_isOwnHere_295 (by decide) ?_
                                                                                        refine zt_istore_n (pc' := 300) (lv' := [some (.ref (X.1.1 + 164)), some (.int (zI 1))]) hX dX12_isOwnHere_299 rfl hL (by decide) rfl ?_
                                                                                        refine zt_iload_n (pc' := 301) hX dX12_isOwnHere_300 rfl rfl ?_
                                                                                        refine zt_ifne (pc' := 304) (tgt := 337) hX dX12_isOwnHere_301 rfl (by decide) ⟨by omega, by omega⟩ (fun c418 => ?_) (fun c418 => ?_)
                                                                                        · refine zt_iconst (pc' := 338) hX dX12_isOwnHere_337 rfl ?_
                                                                                          refine zt_goto (tgt := 342) hX dX12_isOwnHere_338 (by decide) ?_
                                                                                          refine zt_istore_n (pc' := 343) (lv' := [some (.ref (X.1.1 + 164)), some (.int (zI 1))]) hX dX12_isOwnHere_342 rfl hL (by decide) rfl ?_
                                                                                          refine zt_iload_n (pc' := 344) hX dX12_isOwnHere_343 rfl rfl ?_
                                                                                          exact zt_zret hX hR dX12_isOwnHere_344 ⟨by omega, by omega⟩ ⟨hI405, hF415, by omega, by omega, hT409, hE414, (by constructor <;> intro h <;> omega), (fun o => z412 o)⟩
                                                                                        · exact absurd c418 (by omega)
                                                                                      · exact absurd c417 (by omega)
                                                                                    · clear z411
                                                                                      refine zt_ifne (pc' := 250) (tgt := 294) hX dX12_isOwnHere_247 rfl (by decide) ⟨by omega, by omega⟩ (fun c419 => ?_) (fun c419 => ?_)
                                                                                      · exact absurd c419 (by omega)
                                                                                      · refine zt_aload_n (pc' := 251) hX dX12_isOwnHere_250 rfl rfl ?_
                                                                                        refine zt_aload_n (pc' := 252) hX dX12_isOwnHere_251 rfl rfl ?_
                                                                                        refine zt_get (pc' := 255) (v := .ref (X.1.1 + 187)) hX dX12_isOwnHere_252 rfl zf_X12_81 (by decide) zc_164 zs_46 (zrf_of (zv_46_31 hI405 zc_164)) ?_
                                                                                        refine zt_cVz (pc' := 258) hX dX12_isOwnHere_255 rfl zm_yX12_isHere zw_26_8 zc_164 (by decide) zs_46 (q := (RX12, TX12, 108)) rfl rfl (yc_X12_isHere _ _ s402 hI405 187 69 3 zc_187 (by decide) zs_69 (by decide) f hT409 20 (yrow_187 (yWd_a hWd hF415)) (by decide)) rfl rfl (Nat.le_of_ble_eq_true rfl) (by decide) (fun r420 s421 hr422 hp423 => ?_)
                                                                                        obtain ⟨hI424, hF425, q426, q427, hT428, z429, z430, z431, z432⟩ := hp423
                                                                                        have hE433 : yqs f s421 = (yqs f σ) := by rw [z429, hE414]
                                                                                        rw [hE414] at z430
                                                                                        rw [hE414] at z431
                                                                                        have hF434 := zOn_tr hF415 hF425 zi_id
                                                                                        clear z412
                                                                                        clear z432
                                                                                        rcases yspl z430 with ⟨rfl, c435⟩ | ⟨rfl, c435⟩
                                                                                        · clear z430
                                                                                          refine zt_ifne (pc' := 261) (tgt := 294) hX dX12_isOwnHere_258 rfl (by decide) ⟨by omega, by omega⟩ (fun c436 => ?_) (fun c436 => ?_)
                                                                                          · refine zt_iconst (pc' := 295) hX dX12_isOwnHere_294 rfl ?_
                                                                                            refine zt_goto (tgt := 299) hX dX12_isOwnHere_295 (by decide) ?_
                                                                                            refine zt_istore_n (pc' := 300) (lv' := [some (.ref (X.1.1 + 164)), some (.int (zI 1))]) hX dX12_isOwnHere_299 rfl hL (by decide) rfl ?_
                                                                                            refine zt_iload_n (pc' := 301) hX dX12_isOwnHere_300 rfl rfl ?_
                                                                                            refine zt_ifne (pc' := 304) (tgt := 337) hX dX12_isOwnHere_301 rfl (by decide) ⟨by omega, by omega⟩ (fun c437 => ?_) (fun c437 => ?_)
                                                                                            · refine zt_iconst (pc' := 338) hX dX12_isOwnHere_337 rfl ?_
                                                                                              refine zt_goto (tgt := 342) hX dX12_isOwnHere_338 (by decide) ?_
                                                                                              refine zt_istore_n (pc' := 343) (lv' := [some (.ref (X.1.1 + 164)), some (.int (zI 1))]) hX dX12_isOwnHere_342 rfl hL (by decide) rfl ?_
                                                                                              refine zt_iload_n (pc' := 344) hX dX12_isOwnHere_343 rfl rfl ?_
                                                                                              exact zt_zret hX hR dX12_isOwnHere_344 ⟨by omega, by omega⟩ ⟨hI424, hF434, by omega, by omega, hT428, hE433, (by constructor <;> intro h <;> omega), (fun o => z431 o)⟩
                                                                                            · exact absurd c437 (by omega)
                                                                                          · exact absurd c436 (by omega)
                                                                                        · clear z430
                                                                                          refine zt_ifne (pc' := 261) (tgt := 294) hX dX12_isOwnHere_258 rfl (by decide) ⟨by omega, by omega⟩ (fun c438 => ?_) (fun c438 => ?_)
                                                                                          · exact absurd c438 (by omega)
                                                                                          · refine zt_aload_n (pc' := 262) hX dX12_isOwnHere_261 rfl rfl ?_
                                                                                            refine zt_aload_n (pc' := 263) hX dX12_isOwnHere_262 rfl rfl ?_
                                                                                            refine zt_get (pc' := 266) (v := .ref (X.1.1 + 188)) hX dX12_isOwnHere_263 rfl zf_X12_84 (by decide) zc_164 zs_46 (zrf_of (zv_46_32 hI424 zc_164)) ?_
                                                                                            refine zt_cVz (pc' := 269) hX dX12_isOwnHere_266 rfl zm_yX12_isHere zw_26_8 zc_164 (by decide) zs_46 (q := (RX12, TX12, 108)) rfl rfl (yc_X12_isHere _ _ s421 hI424 188 70 2 zc_188 (by decide) zs_70 (by decide) f hT428 21 (yrow_188 (yWd_a hWd hF434)) (by decide)) rfl rfl (Nat.le_of_ble_eq_true rfl) (by decide) (fun r439 s440 hr441 hp442 => ?_)
                                                                                            obtain ⟨hI443, hF444, q445, q446, hT447, z448, z449, z450, z451⟩ := hp442
                                                                                            have hE452 : yqs f s440 = (yqs f σ) := by rw [z448, hE433]
                                                                                            rw [hE433] at z449
                                                                                            rw [hE433] at z450
                                                                                            have hF453 := zOn_tr hF434 hF444 zi_id
                                                                                            clear z431
                                                                                            clear z451
                                                                                            rcases yspl z449 with ⟨rfl, c454⟩ | ⟨rfl, c454⟩
                                                                                            · clear z449
                                                                                              refine zt_ifne (pc' := 272) (tgt := 294) hX dX12_isOwnHere_269 rfl (by decide) ⟨by omega, by omega⟩ (fun c455 => ?_) (fun c455 => ?_)
                                                                                              · refine zt_iconst (pc' := 295) hX dX12_isOwnHere_294 rfl ?_
                                                                                                refine zt_goto (tgt := 299) hX dX12_isOwnHere_295 (by decide) ?_
                                                                                                refine zt_istore_n (pc' := 300) (lv' := [some (.ref (X.1.1 + 164)), some (.int (zI 1))]) hX dX12_isOwnHere_299 rfl hL (by decide) rfl ?_
                                                                                                refine zt_iload_n (pc' := 301) hX dX12_isOwnHere_300 rfl rfl ?_
                                                                                                refine zt_ifne (pc' := 304) (tgt := 337) hX dX12_isOwnHere_301 rfl (by decide) ⟨by omega, by omega⟩ (fun c456 => ?_) (fun c456 => ?_)
                                                                                                · refine zt_iconst (pc' := 338) hX dX12_isOwnHere_337 rfl ?_
                                                                                                  refine zt_goto (tgt := 342) hX dX12_isOwnHere_338 (by decide) ?_
                                                                                                  refine zt_istore_n (pc' := 343) (lv' := [some (.ref (X.1.1 + 164)), some (.int (zI 1))]) hX dX12_isOwnHere_342 rfl hL (by decide) rfl ?_
                                                                                                  refine zt_iload_n (pc' := 344) hX dX12_isOwnHere_343 rfl rfl ?_
                                                                                                  exact zt_zret hX hR dX12_isOwnHere_344 ⟨by omega, by omega⟩ ⟨hI443, hF453, by omega, by omega, hT447, hE452, (by constructor <;> intro h <;> omega), (fun o => z450 o)⟩
                                                                                                · exact absurd c456 (by omega)
                                                                                              · exact absurd c455 (by omega)
                                                                                            · clear z449
                                                                                              refine zt_ifne (pc' := 272) (tgt := 294) hX dX12_isOwnHere_269 rfl (by decide) ⟨by omega, by omega⟩ (fun c457 => ?_) (fun c457 => ?_)
                                                                                              · exact absurd c457 (by omega)
                                                                                              · refine zt_aload_n (pc' := 273) hX dX12_isOwnHere_272 rfl rfl ?_
                                                                                                refine zt_aload_n (pc' := 274) hX dX12_isOwnHere_273 rfl rfl ?_
                                                                                                refine zt_get (pc' := 277) (v := .ref (X.1.1 + 189)) hX dX12_isOwnHere_274 rfl zf_X12_87 (by decide) zc_164 zs_46 (zrf_of (zv_46_33 hI443 zc_164)) ?_
                                                                                                refine zt_cVz (pc' := 280) hX dX12_isOwnHere_277 rfl zm_yX12_isHere zw_26_8 zc_164 (by decide) zs_46 (q := (RX12, TX12, 108)) rfl rfl (yc_X12_isHere _ _ s440 hI443 189 71 3 zc_189 (by decide) zs_71 (by decide) f hT447 22 (yrow_189 (yWd_a hWd hF453)) (by decide)) rfl rfl (Nat.le_of_ble_eq_true rfl) (by decide) (fun r458 s459 hr460 hp461 => ?_)
                                                                                                obtain ⟨hI462, hF463, q464, q465, hT466, z467, z468, z469, z470⟩ := hp461
                                                                                                have hE471 : yqs f s459 = (yqs f σ) := by rw [z467, hE452]
                                                                                                rw [hE452] at z468
                                                                                                rw [hE452] at z469
                                                                                                have hF472 := zOn_tr hF453 hF463 zi_id
                                                                                                clear z450
                                                                                                clear z470
                                                                                                rcases yspl z468 with ⟨rfl, c473⟩ | ⟨rfl, c473⟩
                                                                                                · clear z468
                                                                                                  refine zt_ifne (pc' := 283) (tgt := 294) hX dX12_isOwnHere_280 rfl (by decide) ⟨by omega, by omega⟩ (fun c474 => ?_) (fun c474 => ?_)
                                                                                                  · refine zt_iconst (pc' := 295) hX dX12_isOwnHere_294 rfl ?_
                                                                                                    refine zt_goto (tgt := 299) hX dX12_isOwnHere_295 (by decide) ?_
                                                                                                    refine zt_istore_n (pc' := 300) (lv' := [some (.ref (X.1.1 + 164)), some (.int (zI 1))]) hX dX12_isOwnHere_299 rfl hL (by decide) rfl ?_
                                                                                                    refine zt_iload_n (pc' := 301) hX dX12_isOwnHere_300 rfl rfl ?_
                                                                                                    refine zt_ifne (pc' := 304) (tgt := 337) hX dX12_isOwnHere_301 rfl (by decide) ⟨by omega, by omega⟩ (fun c475 => ?_) (fun c475 => ?_)
                                                                                                    · refine zt_iconst (pc' := 338) hX dX12_isOwnHere_337 rfl ?_
                                                                                                      refine zt_goto (tgt := 342) hX dX12_isOwnHere_338 (by decide) ?_
                                                                                                      refine zt_istore_n (pc' := 343) (lv' := [some (.ref (X.1.1 + 164)), some (.int (zI 1))]) hX dX12_isOwnHere_342 rfl hL (by decide) rfl ?_
                                                                                                      refine zt_iload_n (pc' := 344) hX dX12_isOwnHere_343 rfl rfl ?_
                                                                                                      exact zt_zret hX hR dX12_isOwnHere_344 ⟨by omega, by omega⟩ ⟨hI462, hF472, by omega, by omega, hT466, hE471, (by constructor <;> intro h <;> omega), (fun o => z469 o)⟩
                                                                                                    · exact absurd c475 (by omega)
                                                                                                  · exact absurd c474 (by omega)
                                                                                                · clear z468
                                                                                                  refine zt_ifne (pc' := 283) (tgt := 294) hX dX12_isOwnHere_280 rfl (by decide) ⟨by omega, by omega⟩ (fun c476 => ?_) (fun c476 => ?_)
                                                                                                  · exact absurd c476 (by omega)
                                                                                                  · refine zt_aload_n (pc' := 284) hX dX12_isOwnHere_283 rfl rfl ?_
                                                                                                    refine zt_aload_n (pc' := 285) hX dX12_isOwnHere_284 rfl rfl ?_
                                                                                                    refine zt_get (pc' := 288) (v := .ref (X.1.1 + 190)) hX dX12_isOwnHere_285 rfl zf_X12_90 (by decide) zc_164 zs_46 (zrf_of (zv_46_34 hI462 zc_164)) ?_
                                                                                                    refine zt_cVz (pc' := 291) hX dX12_isOwnHere_288 rfl zm_yX12_isHere zw_26_8 zc_164 (by decide) zs_46 (q := (RX12, TX12, 108)) rfl rfl (yc_X12_isHere _ _ s459 hI462 190 72 3 zc_190 (by decide) zs_72 (by decide) f hT466 23 (yrow_190 (yWd_a hWd hF472)) (by decide)) rfl rfl (Nat.le_of_ble_eq_true rfl) (by decide) (fun r477 s478 hr479 hp480 => ?_)
                                                                                                    obtain ⟨hI481, hF482, q483, q484, hT485, z486, z487, z488, z489⟩ := hp480
                                                                                                    have hE490 : yqs f s478 = (yqs f σ) := by rw [z486, hE471]
                                                                                                    rw [hE471] at z487
                                                                                                    rw [hE471] at z488
                                                                                                    have hF491 := zOn_tr hF472 hF482 zi_id
                                                                                                    clear z469
                                                                                                    clear z489
                                                                                                    rcases yspl z487 with ⟨rfl, c492⟩ | ⟨rfl, c492⟩
                                                                                                    · clear z487
                                                                                                      refine zt_ifeq (pc' := 294) (tgt := 298) hX dX12_isOwnHere_291 rfl (by decide) ⟨by omega, by omega⟩ (fun c493 => ?_) (fun c493 => ?_)
                                                                                                      · exact absurd c493 (by omega)
                                                                                                      · refine zt_iconst (pc' := 295) hX dX12_isOwnHere_294 rfl ?_
                                                                                                        refine zt_goto (tgt := 299) hX dX12_isOwnHere_295 (by decide) ?_
                                                                                                        refine zt_istore_n (pc' := 300) (lv' := [some (.ref (X.1.1 + 164)), some (.int (zI 1))]) hX dX12_isOwnHere_299 rfl hL (by decide) rfl ?_
                                                                                                        refine zt_iload_n (pc' := 301) hX dX12_isOwnHere_300 rfl rfl ?_
                                                                                                        refine zt_ifne (pc' := 304) (tgt := 337) hX dX12_isOwnHere_301 rfl (by decide) ⟨by omega, by omega⟩ (fun c494 => ?_) (fun c494 => ?_)
                                                                                                        · refine zt_iconst (pc' := 338) hX dX12_isOwnHere_337 rfl ?_
                                                                                                          refine zt_goto (tgt := 342) hX dX12_isOwnHere_338 (by decide) ?_
                                                                                                          refine zt_istore_n (pc' := 343) (lv' := [some (.ref (X.1.1 + 164)), some (.int (zI 1))]) hX dX12_isOwnHere_342 rfl hL (by decide) rfl ?_
                                                                                                          refine zt_iload_n (pc' := 344) hX dX12_isOwnHere_343 rfl rfl ?_
                                                                                                          exact zt_zret hX hR dX12_isOwnHere_344 ⟨by omega, by omega⟩ ⟨hI481, hF491, by omega, by omega, hT485, hE490, (by constructor <;> intro h <;> omega), (fun o => z488 o)⟩
                                                                                                        · exact absurd c494 (by omega)
                                                                                                    · clear z487
                                                                                                      refine zt_ifeq (pc' := 294) (tgt := 298) hX dX12_isOwnHere_291 rfl (by decide) ⟨by omega, by omega⟩ (fun c495 => ?_) (fun c495 => ?_)
                                                                                                      · refine zt_iconst (pc' := 299) hX dX12_isOwnHere_298 rfl ?_
                                                                                                        refine zt_istore_n (pc' := 300) (lv' := [some (.ref (X.1.1 + 164)), some (.int (zI 0))]) hX dX12_isOwnHere_299 rfl hL (by decide) rfl ?_
                                                                                                        refine zt_iload_n (pc' := 301) hX dX12_isOwnHere_300 rfl rfl ?_
                                                                                                        refine zt_ifne (pc' := 304) (tgt := 337) hX dX12_isOwnHere_301 rfl (by decide) ⟨by omega, by omega⟩ (fun c496 => ?_) (fun c496 => ?_)
                                                                                                        · exact absurd c496 (by omega)
                                                                                                        · refine zt_aload_n (pc' := 305) hX dX12_isOwnHere_304 rfl rfl ?_
                                                                                                          refine zt_aload_n (pc' := 306) hX dX12_isOwnHere_305 rfl rfl ?_
                                                                                                          refine zt_get (pc' := 309) (v := .ref (X.1.1 + 191)) hX dX12_isOwnHere_306 rfl zf_X12_93 (by decide) zc_164 zs_46 (zrf_of (zv_46_35 hI481 zc_164)) ?_
                                                                                                          refine zt_cVz (pc' := 312) hX dX12_isOwnHere_309 rfl zm_yX12_isHere zw_26_8 zc_164 (by decide) zs_46 (q := (RX12, TX12, 108)) rfl rfl (yc_X12_isHere _ _ s478 hI481 191 73 3 zc_191 (by decide) zs_73 (by decide) f hT485 24 (yrow_191 (yWd_a hWd hF491)) (by decide)) rfl rfl (Nat.le_of_ble_eq_true rfl) (by decide) (fun r497 s498 hr499 hp500 => ?_)
                                                                                                          obtain ⟨hI501, hF502, q503, q504, hT505, z506, z507, z508, z509⟩ := hp500
                                                                                                          have hE510 : yqs f s498 = (yqs f σ) := by rw [z506, hE490]
                                                                                                          rw [hE490] at z507
                                                                                                          rw [hE490] at z508
                                                                                                          have hF511 := zOn_tr hF491 hF502 zi_id
                                                                                                          clear z488
                                                                                                          clear z509
                                                                                                          rcases yspl z507 with ⟨rfl, c512⟩ | ⟨rfl, c512⟩
                                                                                                          · clear z507
                                                                                                            refine zt_ifne (pc' := 315) (tgt := 337) hX dX12_isOwnHere_312 rfl (by decide) ⟨by omega, by omega⟩ (fun c513 => ?_) (fun c513 => ?_)
                                                                                                            · refine zt_iconst (pc' := 338) hX dX12_isOwnHere_337 rfl ?_
                                                                                                              refine zt_goto (tgt := 342) hX dX12_isOwnHere_338 (by decide) ?_
                                                                                                              refine zt_istore_n (pc' := 343) (lv' := [some (.ref (X.1.1 + 164)), some (.int (zI 1))]) hX dX12_isOwnHere_342 rfl hL (by decide) rfl ?_
                                                                                                              refine zt_iload_n (pc' := 344) hX dX12_isOwnHere_343 rfl rfl ?_
                                                                                                              exact zt_zret hX hR dX12_isOwnHere_344 ⟨by omega, by omega⟩ ⟨hI501, hF511, by omega, by omega, hT505, hE510, (by constructor <;> intro h <;> omega), (fun o => z508 o)⟩
                                                                                                            · exact absurd c513 (by omega)
                                                                                                          · clear z507
                                                                                                            refine zt_ifne (pc' := 315) (tgt := 337) hX dX12_isOwnHere_312 rfl (by decide) ⟨by omega, by omega⟩ (fun c514 => ?_) (fun c514 => ?_)
                                                                                                            · exact absurd c514 (by omega)
                                                                                                            · refine zt_aload_n (pc' := 316) hX dX12_isOwnHere_315 rfl rfl ?_
                                                                                                              refine zt_aload_n (pc' := 317) hX dX12_isOwnHere_316 rfl rfl ?_
                                                                                                              refine zt_get (pc' := 320) (v := .ref (X.1.1 + 192)) hX dX12_isOwnHere_317 rfl zf_X12_96 (by decide) zc_164 zs_46 (zrf_of (zv_46_36 hI501 zc_164)) ?_
                                                                                                              refine zt_cVz (pc' := 323) hX dX12_isOwnHere_320 rfl zm_yX12_isHere zw_26_8 zc_164 (by decide) zs_46 (q := (RX12, TX12, 108)) rfl rfl (yc_X12_isHere _ _ s498 hI501 192 74 3 zc_192 (by decide) zs_74 (by decide) f hT505 25 (yrow_192 (yWd_a hWd hF511)) (by decide)) rfl rfl (Nat.le_of_ble_eq_true rfl) (by decide) (fun r515 s516 hr517 hp518 => ?_)
                                                                                                              obtain ⟨hI519, hF520, q521, q522, hT523, z524, z525, z526, z527⟩ := hp518
                                                                                                              have hE528 : yqs f s516 = (yqs f σ) := by rw [z524, hE510]
                                                                                                              rw [hE510] at z525
                                                                                                              rw [hE510] at z526
                                                                                                              have hF529 := zOn_tr hF511 hF520 zi_id
                                                                                                              clear z508
                                                                                                              clear z527
                                                                                                              rcases yspl z525 with ⟨rfl, c530⟩ | ⟨rfl, c530⟩
                                                                                                              · clear z525
                                                                                                                refine zt_ifne (pc' := 326) (tgt := 337) hX dX12_isOwnHere_323 rfl (by decide) ⟨by omega, by omega⟩ (fun c531 => ?_) (fun c531 => ?_)
                                                                                                                · refine zt_iconst (pc' := 338) hX dX12_isOwnHere_337 rfl ?_
                                                                                                                  refine zt_goto (tgt := 342) hX dX12_isOwnHere_338 (by decide) ?_
                                                                                                                  refine zt_istore_n (pc' := 343) (lv' := [some (.ref (X.1.1 + 164)), some (.int (zI 1))]) hX dX12_isOwnHere_342 rfl hL (by decide) rfl ?_
                                                                                                                  refine zt_iload_n (pc' := 344) hX dX12_isOwnHere_343 rfl rfl ?_
                                                                                                                  exact zt_zret hX hR dX12_isOwnHere_344 ⟨by omega, by omega⟩ ⟨hI519, hF529, by omega, by omega, hT523, hE528, (by constructor <;> intro h <;> omega), (fun o => z526 o)⟩
                                                                                                                · exact absurd c531 (by omega)
                                                                                                              · clear z525
                                                                                                                refine zt_ifne (pc' := 326) (tgt := 337) hX dX12_isOwnHere_323 rfl (by decide) ⟨by omega, by omega⟩ (fun c532 => ?_) (fun c532 => ?_)
                                                                                                                · exact absurd c532 (by omega)
                                                                                                                · refine zt_aload_n (pc' := 327) hX dX12_isOwnHere_326 rfl rfl ?_
                                                                                                                  refine zt_aload_n (pc' := 328) hX dX12_isOwnHere_327 rfl rfl ?_
                                                                                                                  refine zt_get (pc' := 331) (v := .ref (X.1.1 + 193)) hX dX12_isOwnHere_328 rfl zf_X12_99 (by decide) zc_164 zs_46 (zrf_of (zv_46_37 hI519 zc_164)) ?_
                                                                                                                  refine zt_cVz (pc' := 334) hX dX12_isOwnHere_331 rfl zm_yX12_isHere zw_26_8 zc_164 (by decide) zs_46 (q := (RX12, TX12, 108)) rfl rfl (yc_X12_isHere _ _ s516 hI519 193 75 3 zc_193 (by decide) zs_75 (by decide) f hT523 26 (yrow_193 (yWd_a hWd hF529)) (by decide)) rfl rfl (Nat.le_of_ble_eq_true rfl) (by decide) (fun r533 s534 hr535 hp536 => ?_)
                                                                                                                  obtain ⟨hI537, hF538, q539, q540, hT541, z542, z543, z544, z545⟩ := hp536
                                                                                                                  have hE546 : yqs f s534 = (yqs f σ) := by rw [z542, hE528]
                                                                                                                  rw [hE528] at z543
                                                                                                                  rw [hE528] at z544
                                                                                                                  have hF547 := zOn_tr hF529 hF538 zi_id
                                                                                                                  clear z526
                                                                                                                  clear z545
                                                                                                                  rcases yspl z543 with ⟨rfl, c548⟩ | ⟨rfl, c548⟩
                                                                                                                  · clear z543
                                                                                                                    refine zt_ifeq (pc' := 337) (tgt := 341) hX dX12_isOwnHere_334 rfl (by decide) ⟨by omega, by omega⟩ (fun c549 => ?_) (fun c549 => ?_)
                                                                                                                    · exact absurd c549 (by omega)
                                                                                                                    · refine zt_iconst (pc' := 338) hX dX12_isOwnHere_337 rfl ?_
                                                                                                                      refine zt_goto (tgt := 342) hX dX12_isOwnHere_338 (by decide) ?_
                                                                                                                      refine zt_istore_n (pc' := 343) (lv' := [some (.ref (X.1.1 + 164)), some (.int (zI 1))]) hX dX12_isOwnHere_342 rfl hL (by decide) rfl ?_
                                                                                                                      refine zt_iload_n (pc' := 344) hX dX12_isOwnHere_343 rfl rfl ?_
                                                                                                                      exact zt_zret hX hR dX12_isOwnHere_344 ⟨by omega, by omega⟩ ⟨hI537, hF547, by omega, by omega, hT541, hE546, (by constructor <;> intro h <;> omega), (fun o => z544 o)⟩
                                                                                                                  · clear z543
                                                                                                                    refine zt_ifeq (pc' := 337) (tgt := 341) hX dX12_isOwnHere_334 rfl (by decide) ⟨by omega, by omega⟩ (fun c550 => ?_) (fun c550 => ?_)
                                                                                                                    · refine zt_iconst (pc' := 342) hX dX12_isOwnHere_341 rfl ?_
                                                                                                                      refine zt_istore_n (pc' := 343) (lv' := [some (.ref (X.1.1 + 164)), some (.int (zI 0))]) hX dX12_isOwnHere_342 rfl hL (by decide) rfl ?_
                                                                                                                      refine zt_iload_n (pc' := 344) hX dX12_isOwnHere_343 rfl rfl ?_
                                                                                                                      exact zt_zret hX hR dX12_isOwnHere_344 ⟨by omega, by omega⟩ ⟨hI537, hF547, by omega, by omega, hT541, hE546, (by constructor <;> intro h <;> omega), (fun o => z544 o)⟩
                                                                                                                    · exact absurd c550 (by omega)
                                                                                                      · exact absurd c495 (by omega)
                                                                            · exact absurd c380 (by omega)
                                                  · exact absurd c259 (by omega)
                        · exact absurd c132 (by omega)
set_option maxRecDepth 100000 in
set_option maxHeartbeats 4000000 in
theorem yc_X12_name (l : Launch) (E : zEN) (σ : zSto) (hI : zInv σ) (f : Int → Int) (hT : yTq f σ) (hWd : yWd σ) : zCt l E yX12_name cX12_name 3 (some .long) 3 zNC zNC 0 0 σ [.ref (E.1 + 164)] (fun r σ' => zInv σ' ∧ zOn zQ1 σ σ' ∧ -9223372036854775808 ≤ r ∧ r ≤ 9223372036854775807 ∧ yTq f σ' ∧ ((yqs f σ') = yNm0 f (yqs f σ)) ∧ (yPo (yqs f σ') = 1 → r = yut f (yPq (yqs f σ)) (yWe f (yPq (yqs f σ)) - yPq (yqs f σ)).toNat ∧ σ' 164 38 = yPq (yqs f σ))) := by
  refine zCt_of2 [some (.ref (E.1 + 164)), none, none] (by decide +kernel) (Nat.le_of_ble_eq_true rfl) rfl ?_
  intro X hE_ hX hR hL hN
  subst hE_
  have hX : zok X cX12_name RX12 3 := hX
  have hF := zOn_rf zQ1 σ
  have hE0 : yqs f σ = yqs f σ := rfl
  obtain ⟨hh1, hh2⟩ := yHq hT
  have hb := hT.2.2.1
  have b1 := zv_46_2 hI zc_164
  have b2 := zv_46_3 hI zc_164
  have b3 := zv_46_5 hI zc_164
  have b4 := zv_46_4 hI zc_164
  have b5 := zv_46_6 hI zc_164
  have b6 := zv_46_38 hI zc_164
  refine zt_aload_n (pc' := 1) hX dX12_name_0 rfl rfl ?_
  have b7 := zv_46_5 hI zc_164
  refine zt_get (pc' := 4) (v := .int (zI (σ 164 5))) hX dX12_name_1 rfl zf_X12_246 (by decide) zc_164 zs_46 rfl ?_
  refine zt_ifeq (pc' := 7) (tgt := 9) hX dX12_name_4 rfl (by decide) ⟨by omega, by omega⟩ (fun c8 => ?_) (fun c8 => ?_)
  · refine zt_aload_n (pc' := 10) hX dX12_name_9 rfl rfl ?_
    refine zt_cVi (pc' := 13) hX dX12_name_10 rfl zm_yX12_look zw_26_12 zc_164 (by decide) zs_46 (q := (RX12, TX12, 108)) rfl rfl (yc_X12_look _ _ σ hI f hT) rfl rfl (Nat.le_of_ble_eq_true rfl) (by decide) (fun r9 s10 hr11 hp12 => ?_)
    obtain ⟨hI13, hF14, q15, q16, hT17, z18, z19, z20⟩ := hp12
    have hE21 : yqs f s10 = (yqs f σ) := z18
    have hF22 := zOn_tr hF hF14 zi_a1
    have b23 := zv_46_2 hI13 zc_164
    have b24 := zv_46_3 hI13 zc_164
    have b25 := zv_46_5 hI13 zc_164
    have b26 := zv_46_4 hI13 zc_164
    have b27 := zv_46_6 hI13 zc_164
    have b28 := zv_46_38 hI13 zc_164
    have e29 := hF14 164 3 rfl
    have e30 := hF14 164 5 rfl
    have e31 := hF14 164 4 rfl
    have e32 := hF14 164 6 rfl
    have e33 := hF14 164 38 rfl
    have hq : yqs f σ = .ok (s10 164 2) := yqs_at (by omega) z19
    have hb2 := hT17.2.2.1
    refine zt_cSz (pc' := 16) hX dX12_name_13 rfl zm_yX12_isLetter zw_26_16 (yc_X12_isLetter _ _ s10  r9 ⟨by omega, by omega⟩) rfl rfl (Nat.le_of_ble_eq_true rfl) (by decide) (fun r34 s35 hr36 hp37 => ?_)
    obtain ⟨rfl, q38, q39, z40⟩ := hp37
    refine zt_ifeq (pc' := 19) (tgt := 37) hX dX12_name_16 rfl (by decide) ⟨by omega, by omega⟩ (fun c41 => ?_) (fun c41 => ?_)
    · refine zt_aload_n (pc' := 38) hX dX12_name_37 rfl rfl ?_
      refine zt_iconst (pc' := 39) hX dX12_name_38 rfl ?_
      refine zt_aload_n (pc' := 40) hX dX12_name_39 rfl rfl ?_
      have b42 := zv_46_2 hI13 zc_164
      refine zt_get (pc' := 43) (v := .int (zI (s10 164 2))) hX dX12_name_40 rfl zf_X12_252 (by decide) zc_164 zs_46 rfl ?_
      refine zt_cVv (pc' := 46) hX dX12_name_43 rfl zm_yX12_fail zw_26_19 zc_164 (by decide) zs_46 (q := (RX12, TX12, 108)) rfl rfl (yc_X12_fail _ _ s10 hI13 1 ⟨by omega, by omega⟩ (s10 164 2) ⟨by omega, by omega⟩ f (yTq_w hT17)) rfl rfl (Nat.le_of_ble_eq_true rfl) (by decide) (fun r43 s44 hr45 hp46 => ?_)
      obtain ⟨hI47, hF48, hT49, z50, z51⟩ := hp46
      have hE52 : yqs f s44 = yPno 1 (s10 164 2) (yqs f σ) := by rw [z50, hE21]
      have hF53 := zOn_tr hF22 hF48 zi_id
      have b54 := zv_46_2 hI47 zc_164
      have b55 := zv_46_3 hI47 zc_164
      have b56 := zv_46_5 hI47 zc_164
      have b57 := zv_46_4 hI47 zc_164
      have b58 := zv_46_6 hI47 zc_164
      have b59 := zv_46_38 hI47 zc_164
      have e60 := hF48 164 3 rfl
      refine zt_lconst (pc' := 47) (y := 0) hX dX12_name_46 rfl (by decide +kernel) ?_
      exact zt_lret hX hR dX12_name_47 ⟨by omega, by omega⟩ ⟨hI47, hF53, by omega, by omega, hT49, hE52.trans (by first | exact yNm_a hq (yk_nl (by omega)).1 (Or.inl (yk_nl (by omega)).2) | exact yNm_a hq (by have t := (yq_K hT17 (by omega) (yL_t.mpr (by omega))).1 (by omega); omega) (Or.inl (by have t := (yq_K hT17 (by omega) (yL_t.mpr (by omega))).1 (by omega); omega))), (fun o => by rw [hE52, yPo_no] at o; exact absurd o (by decide))⟩
    · refine zt_aload_n (pc' := 20) hX dX12_name_19 rfl rfl ?_
      have b61 := zv_46_2 hI13 zc_164
      refine zt_get (pc' := 23) (v := .int (zI (s10 164 2))) hX dX12_name_20 rfl zf_X12_252 (by decide) zc_164 zs_46 rfl ?_
      refine zt_aload_n (pc' := 24) hX dX12_name_23 rfl rfl ?_
      have b62 := zv_46_4 hI13 zc_164
      refine zt_get (pc' := 27) (v := .int (zI (s10 164 4))) hX dX12_name_24 rfl zf_X12_266 (by decide) zc_164 zs_46 rfl ?_
      refine zt_iceq (pc' := 30) (tgt := 37) hX dX12_name_27 rfl (by decide) ⟨by omega, by omega⟩ ⟨by omega, by omega⟩ (fun c63 => ?_) (fun c63 => ?_)
      · refine zt_aload_n (pc' := 38) hX dX12_name_37 rfl rfl ?_
        refine zt_iconst (pc' := 39) hX dX12_name_38 rfl ?_
        refine zt_aload_n (pc' := 40) hX dX12_name_39 rfl rfl ?_
        refine zt_get (pc' := 43) (v := .int (zI (s10 164 2))) hX dX12_name_40 rfl zf_X12_252 (by decide) zc_164 zs_46 rfl ?_
        refine zt_cVv (pc' := 46) hX dX12_name_43 rfl zm_yX12_fail zw_26_19 zc_164 (by decide) zs_46 (q := (RX12, TX12, 108)) rfl rfl (yc_X12_fail _ _ s10 hI13 1 ⟨by omega, by omega⟩ (s10 164 2) ⟨by omega, by omega⟩ f (yTq_w hT17)) rfl rfl (Nat.le_of_ble_eq_true rfl) (by decide) (fun r64 s65 hr66 hp67 => ?_)
        obtain ⟨hI68, hF69, hT70, z71, z72⟩ := hp67
        have hE73 : yqs f s65 = yPno 1 (s10 164 2) (yqs f σ) := by rw [z71, hE21]
        have hF74 := zOn_tr hF22 hF69 zi_id
        have b75 := zv_46_2 hI68 zc_164
        have b76 := zv_46_3 hI68 zc_164
        have b77 := zv_46_5 hI68 zc_164
        have b78 := zv_46_4 hI68 zc_164
        have b79 := zv_46_6 hI68 zc_164
        have b80 := zv_46_38 hI68 zc_164
        have e81 := hF69 164 3 rfl
        refine zt_lconst (pc' := 47) (y := 0) hX dX12_name_46 rfl (by decide +kernel) ?_
        exact zt_lret hX hR dX12_name_47 ⟨by omega, by omega⟩ ⟨hI68, hF74, by omega, by omega, hT70, hE73.trans (by first | exact yNm_a hq (yk_nl (by omega)).1 (Or.inl (yk_nl (by omega)).2) | exact yNm_a hq (by have t := (yq_K hT17 (by omega) (yL_t.mpr (by omega))).1 (by omega); omega) (Or.inl (by have t := (yq_K hT17 (by omega) (yL_t.mpr (by omega))).1 (by omega); omega))), (fun o => by rw [hE73, yPo_no] at o; exact absurd o (by decide))⟩
      · refine zt_aload_n (pc' := 31) hX dX12_name_30 rfl rfl ?_
        refine zt_cVz (pc' := 34) hX dX12_name_31 rfl zm_yX12_isOwnHere zw_28_17 zc_164 (by decide) zs_46 (q := (RX12, TX12, 108)) rfl rfl (yc_X12_isOwnHere _ _ s10 hI13 f hT17 (yWd_1 hWd hF22)) rfl rfl (Nat.le_of_ble_eq_true rfl) (by decide) (fun r82 s83 hr84 hp85 => ?_)
        obtain ⟨hI86, hF87, q88, q89, hT90, z91, z92, z93⟩ := hp85
        have hE94 : yqs f s83 = (yqs f σ) := by rw [z91, hE21]
        rw [hE21] at z92
        rw [hE21] at z93
        have hF95 := zOn_tr hF22 hF87 zi_a1
        have b96 := zv_46_2 hI86 zc_164
        have b97 := zv_46_3 hI86 zc_164
        have b98 := zv_46_5 hI86 zc_164
        have b99 := zv_46_4 hI86 zc_164
        have b100 := zv_46_6 hI86 zc_164
        have b101 := zv_46_38 hI86 zc_164
        have e102 := hF87 164 3 rfl
        have e103 := hF87 164 5 rfl
        have e104 := hF87 164 4 rfl
        have e105 := hF87 164 6 rfl
        have e106 := hF87 164 38 rfl
        have hat : s83 164 2 = (s10 164 2) := by have t := z93 (by omega); rw [hq] at t; exact t
        rw [hq] at z92
        have hiq : yPi f (.ok (s10 164 2)) = yI f (s10 164 2) := rfl
        refine zt_ifeq (pc' := 37) (tgt := 48) hX dX12_name_34 rfl (by decide) ⟨by omega, by omega⟩ (fun c107 => ?_) (fun c107 => ?_)
        · refine zt_aload_n (pc' := 49) hX dX12_name_48 rfl rfl ?_
          refine zt_aload_n (pc' := 50) hX dX12_name_49 rfl rfl ?_
          have b108 := zv_46_2 hI86 zc_164
          refine zt_get (pc' := 53) (v := .int (zI (s83 164 2))) hX dX12_name_50 rfl zf_X12_252 (by decide) zc_164 zs_46 rfl ?_
          refine zt_put (pc' := 56) (x := (s83 164 2)) hX dX12_name_53 rfl zf_X12_297 (by decide) zc_164 zs_46 (fun q hq => by cases hq; rfl) rfl rfl rfl ?_
          generalize hs110 : zset s83 164 38 (s83 164 2) = s109
          have hI111 : zInv s109 := hs110 ▸ zp_46_38 hI86 zc_164 ⟨by omega, by omega⟩
          have hF112 : zOn zQ1 σ s109 := hs110 ▸ zOn_set hF95 (by decide)
          have e113 : s109 164 2 = s83 164 2 := by rw [← hs110]; exact zset_j (by decide)
          have e114 : s109 164 3 = s83 164 3 := by rw [← hs110]; exact zset_j (by decide)
          have e115 : s109 164 5 = s83 164 5 := by rw [← hs110]; exact zset_j (by decide)
          have e116 : s109 164 4 = s83 164 4 := by rw [← hs110]; exact zset_j (by decide)
          have e117 : s109 164 6 = s83 164 6 := by rw [← hs110]; exact zset_j (by decide)
          have e118 : s109 164 38 = (s83 164 2) := by rw [← hs110]; exact zset_s
          refine zt_lconst (pc' := 57) (y := 0) hX dX12_name_56 rfl (by decide +kernel) ?_
          refine zt_lstore_n (pc' := 58) (lv' := [some (.ref (X.1.1 + 164)), some (.long (zJ 0)), none]) hX dX12_name_57 rfl hL (by decide) rfl ?_
          have L_58_134 : ∀ (N : Nat) (x119 : Int) (s122 : zSto), -9223372036854775808 ≤ x119 → x119 ≤ 9223372036854775807 → zInv s122 → zOn zQ1 σ s122 → (s10 164 2) ≤ s122 164 2 → s122 164 2 ≤ σ 164 3 → s122 164 2 - (s10 164 2) ≤ 6 → s122 164 38 = (s10 164 2) → s122 164 3 = σ 164 3 → s122 164 5 = 0 → s122 164 6 = -1 → yTw f s122 → (∀ j, (s10 164 2) ≤ j → j < s122 164 2 → yL (f j) = true) → yut f (s10 164 2) (s122 164 2 - (s10 164 2)).toNat = x119 → ((1601 - s122 164 2).toNat) < N → zF X s122 58 [some (.ref (X.1.1 + 164)), some (.long (zJ x119)), none] [] := by
            intro N
            induction N with
            | zero =>
              intro x119 s122 h120 h121 hI123 hF124 g125 g126 g127 g128 g129 g130 g131 g132 g133 g134 hm136
              exact absurd hm136 (Nat.not_lt_zero _)
            | succ N ih137 =>
              intro x119 s122 h120 h121 hI123 hF124 g125 g126 g127 g128 g129 g130 g131 g132 g133 g134 hm136
              have b138 := zv_46_2 hI123 zc_164
              have b139 := zv_46_3 hI123 zc_164
              have b140 := zv_46_5 hI123 zc_164
              have b141 := zv_46_4 hI123 zc_164
              have b142 := zv_46_6 hI123 zc_164
              have b143 := zv_46_38 hI123 zc_164
              have hb4 := yut_6 (f := f) (p := (s10 164 2)) (n := s122 164 2 - (s10 164 2)) (by omega) (fun j h1 h2 => g133 j h1 (by omega)); rw [g134] at hb4
              refine zt_aload_n (pc' := 59) hX dX12_name_58 rfl rfl ?_
              have b144 := zv_46_2 hI123 zc_164
              refine zt_get (pc' := 62) (v := .int (zI (s122 164 2))) hX dX12_name_59 rfl zf_X12_252 (by decide) zc_164 zs_46 rfl ?_
              refine zt_aload_n (pc' := 63) hX dX12_name_62 rfl rfl ?_
              have b145 := zv_46_3 hI123 zc_164
              refine zt_get (pc' := 66) (v := .int (zI (s122 164 3))) hX dX12_name_63 rfl zf_X12_255 (by decide) zc_164 zs_46 rfl ?_
              refine zt_icge (pc' := 69) (tgt := 145) hX dX12_name_66 rfl (by decide) ⟨by omega, by omega⟩ ⟨by omega, by omega⟩ (fun c146 => ?_) (fun c146 => ?_)
              · refine zt_aload_n (pc' := 146) hX dX12_name_145 rfl rfl ?_
                refine zt_aload_n (pc' := 147) hX dX12_name_146 rfl rfl ?_
                refine zt_get (pc' := 150) (v := .int (zI (s122 164 2))) hX dX12_name_147 rfl zf_X12_252 (by decide) zc_164 zs_46 rfl ?_
                refine zt_put (pc' := 153) (x := (s122 164 2)) hX dX12_name_150 rfl zf_X12_266 (by decide) zc_164 zs_46 (fun q hq => by cases hq; rfl) rfl rfl rfl ?_
                generalize hs148 : zset s122 164 4 (s122 164 2) = s147
                have hI149 : zInv s147 := hs148 ▸ zp_46_4 hI123 zc_164 ⟨by omega, by omega⟩
                have hF150 : zOn zQ1 σ s147 := hs148 ▸ zOn_set hF124 (by decide)
                have e151 : s147 164 2 = s122 164 2 := by rw [← hs148]; exact zset_j (by decide)
                have e152 : s147 164 3 = s122 164 3 := by rw [← hs148]; exact zset_j (by decide)
                have e153 : s147 164 5 = s122 164 5 := by rw [← hs148]; exact zset_j (by decide)
                have e154 : s147 164 4 = (s122 164 2) := by rw [← hs148]; exact zset_s
                have e155 : s147 164 6 = s122 164 6 := by rw [← hs148]; exact zset_j (by decide)
                have e156 : s147 164 38 = s122 164 38 := by rw [← hs148]; exact zset_j (by decide)
                refine zt_lload_n (pc' := 154) hX dX12_name_153 rfl rfl ?_
                have hx : s122 164 3 ≤ s122 164 2 → f (s122 164 2) = -1 := fun h => yW_out g132 h
                have hWe : yWe f (s10 164 2) = s122 164 2 := yE_u hT.1 yL_m (by omega) (by omega) g133 (Bool.eq_false_iff.mpr (fun c => by have c := yL_t.mp c; omega))
                have hl : yL (f (s10 164 2)) = true := yL_t.mpr (by omega)
                have hk := (yq_K hT17 (by omega) hl).2 (by omega)
                have hk2 := yk_1 hk (by omega) hl
                have h157 := yL_nam g132 (by omega) (by omega) hq (by omega) hl hWe hs148
                exact zt_lret hX hR dX12_name_154 ⟨by omega, by omega⟩ ⟨hI149, hF150, by omega, by omega, h157.1, h157.2.trans (yNm_g hq hk2 (by omega)), (fun _ => ⟨by rw [hq]; show _ = yut f (s10 164 2) (yWe f (s10 164 2) - (s10 164 2)).toNat; rw [hWe]; exact g134.symm, by rw [hq]; show s147 164 38 = (s10 164 2); omega⟩)⟩
              · refine zt_aload_n (pc' := 70) hX dX12_name_69 rfl rfl ?_
                refine zt_get (pc' := 73) (v := .ref (X.1.1 + 165)) hX dX12_name_70 rfl zf_X12_7 (by decide) zc_164 zs_46 (zrf_of (zv_46_0 hI123 zc_164)) ?_
                refine zt_aload_n (pc' := 74) hX dX12_name_73 rfl rfl ?_
                refine zt_get (pc' := 77) (v := .int (zI (s122 164 2))) hX dX12_name_74 rfl zf_X12_252 (by decide) zc_164 zs_46 rfl ?_
                refine zt_iald (pc' := 78) hX dX12_name_77 rfl (by decide) zc_165 zs_47 (by decide) ⟨by omega, by omega⟩ ?_
                generalize hv158 : s122 165 ((s122 164 2).toNat) = v158
                have bv158 : 0 ≤ v158 ∧ v158 ≤ 255 := hv158 ▸ zv_47 hI123 zc_165 _
                have h159 := yW_at g132 (by omega) (by omega) hv158
                refine zt_cSz (pc' := 81) hX dX12_name_78 rfl zm_yX12_isLetter zw_26_16 (yc_X12_isLetter _ _ s122  v158 ⟨by omega, by omega⟩) rfl rfl (Nat.le_of_ble_eq_true rfl) (by decide) (fun r160 s161 hr162 hp163 => ?_)
                obtain ⟨rfl, q164, q165, z166⟩ := hp163
                refine zt_ifeq (pc' := 84) (tgt := 145) hX dX12_name_81 rfl (by decide) ⟨by omega, by omega⟩ (fun c167 => ?_) (fun c167 => ?_)
                · refine zt_aload_n (pc' := 146) hX dX12_name_145 rfl rfl ?_
                  refine zt_aload_n (pc' := 147) hX dX12_name_146 rfl rfl ?_
                  refine zt_get (pc' := 150) (v := .int (zI (s122 164 2))) hX dX12_name_147 rfl zf_X12_252 (by decide) zc_164 zs_46 rfl ?_
                  refine zt_put (pc' := 153) (x := (s122 164 2)) hX dX12_name_150 rfl zf_X12_266 (by decide) zc_164 zs_46 (fun q hq => by cases hq; rfl) rfl rfl rfl ?_
                  generalize hs169 : zset s122 164 4 (s122 164 2) = s168
                  have hI170 : zInv s168 := hs169 ▸ zp_46_4 hI123 zc_164 ⟨by omega, by omega⟩
                  have hF171 : zOn zQ1 σ s168 := hs169 ▸ zOn_set hF124 (by decide)
                  have e172 : s168 164 2 = s122 164 2 := by rw [← hs169]; exact zset_j (by decide)
                  have e173 : s168 164 3 = s122 164 3 := by rw [← hs169]; exact zset_j (by decide)
                  have e174 : s168 164 5 = s122 164 5 := by rw [← hs169]; exact zset_j (by decide)
                  have e175 : s168 164 4 = (s122 164 2) := by rw [← hs169]; exact zset_s
                  have e176 : s168 164 6 = s122 164 6 := by rw [← hs169]; exact zset_j (by decide)
                  have e177 : s168 164 38 = s122 164 38 := by rw [← hs169]; exact zset_j (by decide)
                  refine zt_lload_n (pc' := 154) hX dX12_name_153 rfl rfl ?_
                  have hx : s122 164 3 ≤ s122 164 2 → f (s122 164 2) = -1 := fun h => yW_out g132 h
                  have hWe : yWe f (s10 164 2) = s122 164 2 := yE_u hT.1 yL_m (by omega) (by omega) g133 (Bool.eq_false_iff.mpr (fun c => by have c := yL_t.mp c; omega))
                  have hl : yL (f (s10 164 2)) = true := yL_t.mpr (by omega)
                  have hk := (yq_K hT17 (by omega) hl).2 (by omega)
                  have hk2 := yk_1 hk (by omega) hl
                  have h178 := yL_nam g132 (by omega) (by omega) hq (by omega) hl hWe hs169
                  exact zt_lret hX hR dX12_name_154 ⟨by omega, by omega⟩ ⟨hI170, hF171, by omega, by omega, h178.1, h178.2.trans (yNm_g hq hk2 (by omega)), (fun _ => ⟨by rw [hq]; show _ = yut f (s10 164 2) (yWe f (s10 164 2) - (s10 164 2)).toNat; rw [hWe]; exact g134.symm, by rw [hq]; show s168 164 38 = (s10 164 2); omega⟩)⟩
                · refine zt_aload_n (pc' := 85) hX dX12_name_84 rfl rfl ?_
                  refine zt_get (pc' := 88) (v := .int (zI (s122 164 2))) hX dX12_name_85 rfl zf_X12_252 (by decide) zc_164 zs_46 rfl ?_
                  refine zt_aload_n (pc' := 89) hX dX12_name_88 rfl rfl ?_
                  have b179 := zv_46_38 hI123 zc_164
                  refine zt_get (pc' := 92) (v := .int (zI (s122 164 38))) hX dX12_name_89 rfl zf_X12_297 (by decide) zc_164 zs_46 rfl ?_
                  refine zt_isub (pc' := 93) hX dX12_name_92 rfl ?_
                  refine zt_wrap (fun r180 zr180 lr180 ur180 => ?_)
                  replace zr180 := ywr_eq zr180
                  refine zt_bipush (pc' := 95) hX dX12_name_93 rfl (by decide) (by decide) ?_
                  refine zt_icne (pc' := 98) (tgt := 109) hX dX12_name_95 rfl (by decide) ⟨by omega, by omega⟩ ⟨by omega, by omega⟩ (fun c181 => ?_) (fun c181 => ?_)
                  · refine zt_ldc2 (pc' := 112) (x := 27) hX dX12_name_109 rfl zw_28_15 (by decide +kernel) ?_
                    refine zt_lload_n (pc' := 113) hX dX12_name_112 rfl rfl ?_
                    refine zt_lmul (pc' := 114) hX dX12_name_113 rfl ?_
                    refine zt_wrapl (fun r182 zr182 lr182 ur182 => ?_)
                    replace zr182 := ywrl_eq zr182
                    refine zt_aload_n (pc' := 115) hX dX12_name_114 rfl rfl ?_
                    refine zt_get (pc' := 118) (v := .ref (X.1.1 + 165)) hX dX12_name_115 rfl zf_X12_7 (by decide) zc_164 zs_46 (zrf_of (zv_46_0 hI123 zc_164)) ?_
                    refine zt_aload_n (pc' := 119) hX dX12_name_118 rfl rfl ?_
                    refine zt_get (pc' := 122) (v := .int (zI (s122 164 2))) hX dX12_name_119 rfl zf_X12_252 (by decide) zc_164 zs_46 rfl ?_
                    refine zt_iald (pc' := 123) hX dX12_name_122 rfl (by decide) zc_165 zs_47 (by decide) ⟨by omega, by omega⟩ ?_
                    generalize hv183 : s122 165 ((s122 164 2).toNat) = v183
                    have bv183 : 0 ≤ v183 ∧ v183 ≤ 255 := hv183 ▸ zv_47 hI123 zc_165 _
                    have h184 := yW_at g132 (by omega) (by omega) hv183
                    refine zt_i2l (pc' := 124) hX dX12_name_123 rfl ⟨by omega, by omega⟩ ?_
                    refine zt_ladd (pc' := 125) hX dX12_name_124 rfl ?_
                    refine zt_wrapl (fun r185 zr185 lr185 ur185 => ?_)
                    replace zr185 := ywrl_eq zr185
                    refine zt_ldc2 (pc' := 128) (x := 97) hX dX12_name_125 rfl zw_28_16 (by decide +kernel) ?_
                    refine zt_lsub (pc' := 129) hX dX12_name_128 rfl ?_
                    refine zt_wrapl (fun r186 zr186 lr186 ur186 => ?_)
                    replace zr186 := ywrl_eq zr186
                    refine zt_lconst (pc' := 130) (y := 1) hX dX12_name_129 rfl (by decide +kernel) ?_
                    refine zt_ladd (pc' := 131) hX dX12_name_130 rfl ?_
                    refine zt_wrapl (fun r187 zr187 lr187 ur187 => ?_)
                    replace zr187 := ywrl_eq zr187
                    refine zt_lstore_n (pc' := 132) (lv' := [some (.ref (X.1.1 + 164)), some (.long (zJ r187)), none]) hX dX12_name_131 rfl hL (by decide) rfl ?_
                    refine zt_aload_n (pc' := 133) hX dX12_name_132 rfl rfl ?_
                    refine zt_dup (pc' := 134) hX dX12_name_133 rfl rfl ?_
                    refine zt_get (pc' := 137) (v := .int (zI (s122 164 2))) hX dX12_name_134 rfl zf_X12_252 (by decide) zc_164 zs_46 rfl ?_
                    refine zt_iconst (pc' := 138) hX dX12_name_137 rfl ?_
                    refine zt_iadd (pc' := 139) hX dX12_name_138 rfl ?_
                    refine zt_put (pc' := 142) (x := ((s122 164 2) + 1)) hX dX12_name_139 rfl zf_X12_252 (by decide) zc_164 zs_46 (fun q hq => by cases hq; rfl) rfl rfl rfl ?_
                    generalize hs189 : zset s122 164 2 ((s122 164 2) + 1) = s188
                    have hI190 : zInv s188 := hs189 ▸ zp_46_2 hI123 zc_164 ⟨by omega, by omega⟩
                    have hF191 : zOn zQ1 σ s188 := hs189 ▸ zOn_set hF124 (by decide)
                    have e192 : s188 164 2 = ((s122 164 2) + 1) := by rw [← hs189]; exact zset_s
                    have e193 : s188 164 3 = s122 164 3 := by rw [← hs189]; exact zset_j (by decide)
                    have e194 : s188 164 5 = s122 164 5 := by rw [← hs189]; exact zset_j (by decide)
                    have e195 : s188 164 4 = s122 164 4 := by rw [← hs189]; exact zset_j (by decide)
                    have e196 : s188 164 6 = s122 164 6 := by rw [← hs189]; exact zset_j (by decide)
                    have e197 : s188 164 38 = s122 164 38 := by rw [← hs189]; exact zset_j (by decide)
                    refine zt_goto (tgt := 58) hX dX12_name_142 (by decide) ?_
                    exact ih137 r187 s188 (by omega) (by omega) hI190 hF191 (by omega) (by omega) (by omega) (by omega) (by omega) (by omega) (by omega) (yTw_s g132 hs189 (by omega)) (fun j h1 h2 => yall_s g133 (yL_t.mpr (by omega)) j h1 (by omega)) (by have t := yut_s (p := (s10 164 2)) (n := s122 164 2 - (s10 164 2)) (by omega) g134 (show f ((s10 164 2) + (s122 164 2 - (s10 164 2))) = v183 from by rw [show (s10 164 2) + (s122 164 2 - (s10 164 2)) = s122 164 2 by omega]; exact h184); rw [show s188 164 2 - (s10 164 2) = s122 164 2 - (s10 164 2) + 1 by omega, t]; omega) (by omega)
                  · refine zt_aload_n (pc' := 99) hX dX12_name_98 rfl rfl ?_
                    refine zt_iconst (pc' := 100) hX dX12_name_99 rfl ?_
                    refine zt_aload_n (pc' := 101) hX dX12_name_100 rfl rfl ?_
                    refine zt_get (pc' := 104) (v := .int (zI (s122 164 2))) hX dX12_name_101 rfl zf_X12_252 (by decide) zc_164 zs_46 rfl ?_
                    refine zt_cVv (pc' := 107) hX dX12_name_104 rfl zm_yX12_fail zw_26_19 zc_164 (by decide) zs_46 (q := (RX12, TX12, 108)) rfl rfl (yc_X12_fail _ _ s122 hI123 1 ⟨by omega, by omega⟩ (s122 164 2) ⟨by omega, by omega⟩ f g132) rfl rfl (Nat.le_of_ble_eq_true rfl) (by decide) (fun r198 s199 hr200 hp201 => ?_)
                    obtain ⟨hI202, hF203, hT204, z205, z206⟩ := hp201
                    have hE207 : yqs f s199 = yPno 1 (s122 164 2) (yqs f s122) := z205
                    have hF208 := zOn_tr hF124 hF203 zi_id
                    have b209 := zv_46_2 hI202 zc_164
                    have b210 := zv_46_3 hI202 zc_164
                    have b211 := zv_46_5 hI202 zc_164
                    have b212 := zv_46_4 hI202 zc_164
                    have b213 := zv_46_6 hI202 zc_164
                    have b214 := zv_46_38 hI202 zc_164
                    have e215 := hF203 164 3 rfl
                    refine zt_lconst (pc' := 108) (y := 0) hX dX12_name_107 rfl (by decide +kernel) ?_
                    have hl : yL (f (s10 164 2)) = true := yL_t.mpr (by omega)
                    have hk := (yq_K hT17 (by omega) hl).2 (by omega)
                    have hlong : 6 < yWe f (s10 164 2) - (s10 164 2) := by have t := yE_i7 hT.1 (f := f) (b := (s10 164 2)) (e := s122 164 2) (by omega) (yall_s g133 (yL_t.mpr (by omega))); omega
                    exact zt_lret hX hR dX12_name_108 ⟨by omega, by omega⟩ ⟨hI202, hF208, by omega, by omega, hT204, hE207.trans (yNm_6 hq (by rw [yqs_1 (by omega)]; rfl) hk hlong (by omega) hl), (fun o => by rw [hE207, yPo_no] at o; exact absurd o (by decide))⟩
          have hs6 := (hT90.2.2.2 (by omega)).2.2.1
          exact L_58_134 _ 0 s109 (by omega) (by omega) hI111 hF112 (by omega) (by omega) (by omega) (by omega) (by omega) (by omega) (by omega) (yTw_j hT90 hs110) (fun j h1 h2 => absurd h2 (by omega)) (by rw [show s109 164 2 - (s10 164 2) = 0 by omega]; rfl) (Nat.lt_succ_self _)
        · refine zt_aload_n (pc' := 38) hX dX12_name_37 rfl rfl ?_
          refine zt_iconst (pc' := 39) hX dX12_name_38 rfl ?_
          refine zt_aload_n (pc' := 40) hX dX12_name_39 rfl rfl ?_
          have b216 := zv_46_2 hI86 zc_164
          refine zt_get (pc' := 43) (v := .int (zI (s83 164 2))) hX dX12_name_40 rfl zf_X12_252 (by decide) zc_164 zs_46 rfl ?_
          refine zt_cVv (pc' := 46) hX dX12_name_43 rfl zm_yX12_fail zw_26_19 zc_164 (by decide) zs_46 (q := (RX12, TX12, 108)) rfl rfl (yc_X12_fail _ _ s83 hI86 1 ⟨by omega, by omega⟩ (s83 164 2) ⟨by omega, by omega⟩ f (yTq_w hT90)) rfl rfl (Nat.le_of_ble_eq_true rfl) (by decide) (fun r217 s218 hr219 hp220 => ?_)
          obtain ⟨hI221, hF222, hT223, z224, z225⟩ := hp220
          have hE226 : yqs f s218 = yPno 1 (s83 164 2) (yqs f σ) := by rw [z224, hE94]
          have hF227 := zOn_tr hF95 hF222 zi_id
          have b228 := zv_46_2 hI221 zc_164
          have b229 := zv_46_3 hI221 zc_164
          have b230 := zv_46_5 hI221 zc_164
          have b231 := zv_46_4 hI221 zc_164
          have b232 := zv_46_6 hI221 zc_164
          have b233 := zv_46_38 hI221 zc_164
          have e234 := hF222 164 3 rfl
          refine zt_lconst (pc' := 47) (y := 0) hX dX12_name_46 rfl (by decide +kernel) ?_
          exact zt_lret hX hR dX12_name_47 ⟨by omega, by omega⟩ ⟨hI221, hF227, by omega, by omega, hT223, hE226.trans (by rw [show s83 164 2 = (s10 164 2) by omega]; exact yNm_a hq (by have t := yi_own (f := f) (q := (s10 164 2)) (by omega); omega) (Or.inr (by omega))), (fun o => by rw [hE226, yPo_no] at o; exact absurd o (by decide))⟩
  · refine zt_lconst (pc' := 8) (y := 0) hX dX12_name_7 rfl (by decide +kernel) ?_
    exact zt_lret hX hR dX12_name_8 ⟨by omega, by omega⟩ ⟨hI, hF, by omega, by omega, hT, hE0.trans (yNm_no (by omega)), (fun o => by omega)⟩
