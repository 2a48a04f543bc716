set_option maxRecDepth 100000 in
set_option maxHeartbeats 4000000 in
theorem zc_X12_fail (l : Launch) (E : zEN) (σ : zSto) (hI : zInv σ) (a1_ : Int) (ha1_ : 1 ≤ a1_ ∧ a1_ ≤ 5) (a2_ : Int) (ha2_ : -2147483648 ≤ a2_ ∧ a2_ ≤ 2147483647) : zCt l E yX12_fail cX12_fail 3 none 0 zNC zNC 0 0 σ [.ref (E.1 + 164), .int (zI a1_), .int (zI a2_)] (fun r σ' => zInv σ' ∧ zOn zQ1 σ σ' ∧ ((σ 164 5 ≠ 0 → σ' 164 5 = σ 164 5) ∧ (σ 164 5 = 0 → σ' 164 5 = a1_)) ∧ (σ' 164 2 = σ 164 2)) := by
  refine zCt_of2 [some (.ref (E.1 + 164)), some (.int (zI a1_)), some (.int (zI a2_))] (by decide +kernel) (Nat.le_of_ble_eq_true rfl) rfl ?_
  intro X hE hX hR hL hN
  subst hE
  have hX : zok X cX12_fail RX12 0 := hX
  have hF := zOn_rf zQ1 σ
  have b1 := zv_46_2 hI zc_164
  have b2 := zv_46_3 hI zc_164
  have b3 := zv_46_5 hI zc_164
  have b4 := zv_46_4 hI zc_164
  refine zt_aload_n (pc' := 1) hX dX12_fail_0 rfl rfl ?_
  have b5 := zv_46_5 hI zc_164
  refine zt_get (pc' := 4) (v := .int (zI (σ 164 5))) hX dX12_fail_1 rfl zf_X12_246 (by decide) zc_164 zs_46 rfl ?_
  refine zt_ifeq (pc' := 7) (tgt := 8) hX dX12_fail_4 rfl (by decide) ⟨by omega, by omega⟩ (fun c6 => ?_) (fun c6 => ?_)
  · refine zt_aload_n (pc' := 9) hX dX12_fail_8 rfl rfl ?_
    refine zt_iload_n (pc' := 10) hX dX12_fail_9 rfl rfl ?_
    refine zt_put (pc' := 13) (x := a1_) hX dX12_fail_10 rfl zf_X12_246 (by decide) zc_164 zs_46 (fun q hq => by cases hq; rfl) rfl rfl rfl ?_
    generalize hs8 : zset σ 164 5 a1_ = s7
    have hI9 : zInv s7 := hs8 ▸ zp_46_5 hI zc_164 ⟨by omega, by omega⟩
    have hF10 : zOn zQ1 σ s7 := hs8 ▸ zOn_set hF (by decide)
    have e11 : s7 164 2 = σ 164 2 := by rw [← hs8]; exact zset_j (by decide)
    have e12 : s7 164 3 = σ 164 3 := by rw [← hs8]; exact zset_j (by decide)
    have e13 : s7 164 5 = a1_ := by rw [← hs8]; exact zset_s
    have e14 : s7 164 4 = σ 164 4 := by rw [← hs8]; exact zset_j (by decide)
    refine zt_aload_n (pc' := 14) hX dX12_fail_13 rfl rfl ?_
    refine zt_iload_n (pc' := 15) hX dX12_fail_14 rfl rfl ?_
    refine zt_put (pc' := 18) (x := a2_) hX dX12_fail_15 rfl zf_X12_249 (by decide) zc_164 zs_46 (fun q hq => by cases hq; rfl) rfl rfl rfl ?_
    generalize hs16 : zset s7 164 6 a2_ = s15
    have hI17 : zInv s15 := hs16 ▸ zp_46_6 hI9 zc_164 ⟨by omega, by omega⟩
    have hF18 : zOn zQ1 σ s15 := hs16 ▸ zOn_set hF10 (by decide)
    have e19 : s15 164 2 = s7 164 2 := by rw [← hs16]; exact zset_j (by decide)
    have e20 : s15 164 3 = s7 164 3 := by rw [← hs16]; exact zset_j (by decide)
    have e21 : s15 164 5 = s7 164 5 := by rw [← hs16]; exact zset_j (by decide)
    have e22 : s15 164 4 = s7 164 4 := by rw [← hs16]; exact zset_j (by decide)
    exact zt_vret hX hR dX12_fail_18 ⟨hI17, hF18, by omega, by omega⟩
  · exact zt_vret hX hR dX12_fail_7 ⟨hI, hF, by omega, by omega⟩

set_option maxRecDepth 100000 in
set_option maxHeartbeats 4000000 in
theorem zc_X12_isLetter (l : Launch) (E : zEN) (σ : zSto)  (a0_ : Int) (ha0_ : -2147483648 ≤ a0_ ∧ a0_ ≤ 2147483647) : zCt l E yX12_isLetter cX12_isLetter 1 (some .boolean) 0 zNC zNC 0 0 σ [.int (zI a0_)] (fun r σ' => σ = σ' ∧ 0 ≤ r ∧ r ≤ 1 ∧ ((r = 1 → 97 ≤ a0_ ∧ a0_ ≤ 122) ∧ (r = 0 → a0_ < 97 ∨ 122 < a0_))) := by
  refine zCt_of2 [some (.int (zI a0_))] (by decide +kernel) (Nat.le_of_ble_eq_true rfl) rfl ?_
  intro X hE hX hR hL hN
  subst hE
  have hX : zok X cX12_isLetter RX12 0 := hX
  refine zt_iload_n (pc' := 1) hX dX12_isLetter_0 rfl rfl ?_
  refine zt_bipush (pc' := 3) hX dX12_isLetter_1 rfl (by decide) (by decide) ?_
  refine zt_iclt (pc' := 6) (tgt := 16) hX dX12_isLetter_3 rfl (by decide) ⟨by omega, by omega⟩ ⟨by omega, by omega⟩ (fun c1 => ?_) (fun c1 => ?_)
  · refine zt_iconst (pc' := 17) hX dX12_isLetter_16 rfl ?_
    exact zt_zret hX hR dX12_isLetter_17 ⟨by omega, by omega⟩ ⟨rfl, by omega, by omega, by omega⟩
  · refine zt_iload_n (pc' := 7) hX dX12_isLetter_6 rfl rfl ?_
    refine zt_bipush (pc' := 9) hX dX12_isLetter_7 rfl (by decide) (by decide) ?_
    refine zt_icgt (pc' := 12) (tgt := 16) hX dX12_isLetter_9 rfl (by decide) ⟨by omega, by omega⟩ ⟨by omega, by omega⟩ (fun c2 => ?_) (fun c2 => ?_)
    · refine zt_iconst (pc' := 17) hX dX12_isLetter_16 rfl ?_
      exact zt_zret hX hR dX12_isLetter_17 ⟨by omega, by omega⟩ ⟨rfl, by omega, by omega, by omega⟩
    · refine zt_iconst (pc' := 13) hX dX12_isLetter_12 rfl ?_
      refine zt_goto (tgt := 17) hX dX12_isLetter_13 (by decide) ?_
      exact zt_zret hX hR dX12_isLetter_17 ⟨by omega, by omega⟩ ⟨rfl, by omega, by omega, by omega⟩

set_option maxRecDepth 100000 in
set_option maxHeartbeats 4000000 in
theorem zc_X12_isDigit (l : Launch) (E : zEN) (σ : zSto)  (a0_ : Int) (ha0_ : -2147483648 ≤ a0_ ∧ a0_ ≤ 2147483647) : zCt l E yX12_isDigit cX12_isDigit 1 (some .boolean) 0 zNC zNC 0 0 σ [.int (zI a0_)] (fun r σ' => σ = σ' ∧ 0 ≤ r ∧ r ≤ 1 ∧ ((r = 1 → 48 ≤ a0_ ∧ a0_ ≤ 57) ∧ (r = 0 → a0_ < 48 ∨ 57 < a0_))) := by
  refine zCt_of2 [some (.int (zI a0_))] (by decide +kernel) (Nat.le_of_ble_eq_true rfl) rfl ?_
  intro X hE hX hR hL hN
  subst hE
  have hX : zok X cX12_isDigit RX12 0 := hX
  refine zt_iload_n (pc' := 1) hX dX12_isDigit_0 rfl rfl ?_
  refine zt_bipush (pc' := 3) hX dX12_isDigit_1 rfl (by decide) (by decide) ?_
  refine zt_iclt (pc' := 6) (tgt := 16) hX dX12_isDigit_3 rfl (by decide) ⟨by omega, by omega⟩ ⟨by omega, by omega⟩ (fun c1 => ?_) (fun c1 => ?_)
  · refine zt_iconst (pc' := 17) hX dX12_isDigit_16 rfl ?_
    exact zt_zret hX hR dX12_isDigit_17 ⟨by omega, by omega⟩ ⟨rfl, by omega, by omega, by omega⟩
  · refine zt_iload_n (pc' := 7) hX dX12_isDigit_6 rfl rfl ?_
    refine zt_bipush (pc' := 9) hX dX12_isDigit_7 rfl (by decide) (by decide) ?_
    refine zt_icgt (pc' := 12) (tgt := 16) hX dX12_isDigit_9 rfl (by decide) ⟨by omega, by omega⟩ ⟨by omega, by omega⟩ (fun c2 => ?_) (fun c2 => ?_)
    · refine zt_iconst (pc' := 17) hX dX12_isDigit_16 rfl ?_
      exact zt_zret hX hR dX12_isDigit_17 ⟨by omega, by omega⟩ ⟨rfl, by omega, by omega, by omega⟩
    · refine zt_iconst (pc' := 13) hX dX12_isDigit_12 rfl ?_
      refine zt_goto (tgt := 17) hX dX12_isDigit_13 (by decide) ?_
      exact zt_zret hX hR dX12_isDigit_17 ⟨by omega, by omega⟩ ⟨rfl, by omega, by omega, by omega⟩

set_option maxRecDepth 100000 in
set_option maxHeartbeats 4000000 in
theorem zc_X12_look (l : Launch) (E : zEN) (σ : zSto) (hI : zInv σ)  : zCt l E yX12_look cX12_look 1 (some .int) 0 zNC zNC 0 0 σ [.ref (E.1 + 164)] (fun r σ' => zInv σ' ∧ zOn zQ1 σ σ' ∧ -1 ≤ r ∧ r ≤ 255 ∧ (σ 164 2 ≤ σ' 164 2 ∧ (σ 164 2 ≤ σ 164 3 → σ' 164 2 ≤ σ 164 3)) ∧ (r ≠ -1 → σ' 164 2 < σ 164 3 ∧ r = σ' 165 (σ' 164 2).toNat ∧ zsb σ' = 1) ∧ (σ' 164 5 = σ 164 5) ∧ (zsb σ = 1 → σ' 164 2 = σ 164 2 ∧ zsb σ' = 1)) := by
  refine zCt_of2 [some (.ref (E.1 + 164))] (by decide +kernel) (Nat.le_of_ble_eq_true rfl) rfl ?_
  intro X hE hX hR hL hN
  subst hE
  have hX : zok X cX12_look RX12 0 := hX
  have hF := zOn_rf zQ1 σ
  have b1 := zv_46_2 hI zc_164
  have b2 := zv_46_3 hI zc_164
  have b3 := zv_46_5 hI zc_164
  have b4 := zv_46_4 hI zc_164
  have L_0_11 : ∀ (N : Nat) (s5 : zSto), zInv s5 → zOn zQ1 σ s5 → (σ 164 2 ≤ s5 164 2 ∧ (σ 164 2 ≤ σ 164 3 → s5 164 2 ≤ σ 164 3)) → s5 164 3 = σ 164 3 → s5 164 5 = σ 164 5 → (zsb σ = 1 → s5 164 2 = σ 164 2) → ((1601 - s5 164 2).toNat) < N → zF X s5 0 [some (.ref (X.1.1 + 164))] [] := by
    intro N
    induction N with
    | zero =>
      intro s5 hI6 hF7 g8 g9 g10 g11 hm13
      exact absurd hm13 (Nat.not_lt_zero _)
    | succ N ih14 =>
      intro s5 hI6 hF7 g8 g9 g10 g11 hm13
      have b15 := zv_46_2 hI6 zc_164
      have b16 := zv_46_3 hI6 zc_164
      have b17 := zv_46_5 hI6 zc_164
      have b18 := zv_46_4 hI6 zc_164
      refine zt_aload_n (pc' := 1) hX dX12_look_0 rfl rfl ?_
      have b19 := zv_46_2 hI6 zc_164
      refine zt_get (pc' := 4) (v := .int (zI (s5 164 2))) hX dX12_look_1 rfl zf_X12_252 (by decide) zc_164 zs_46 rfl ?_
      refine zt_aload_n (pc' := 5) hX dX12_look_4 rfl rfl ?_
      have b20 := zv_46_3 hI6 zc_164
      refine zt_get (pc' := 8) (v := .int (zI (s5 164 3))) hX dX12_look_5 rfl zf_X12_255 (by decide) zc_164 zs_46 rfl ?_
      have J_52_21 : (s5 164 2 < s5 164 3 → zsb s5 = 1) → zF X s5 52 [some (.ref (X.1.1 + 164))] [] := by
        intro g21
        refine zt_aload_n (pc' := 53) hX dX12_look_52 rfl rfl ?_
        refine zt_get (pc' := 56) (v := .int (zI (s5 164 2))) hX dX12_look_53 rfl zf_X12_252 (by decide) zc_164 zs_46 rfl ?_
        have h23 := zsb_c hF7
        refine zt_aload_n (pc' := 57) hX dX12_look_56 rfl rfl ?_
        refine zt_get (pc' := 60) (v := .int (zI (s5 164 3))) hX dX12_look_57 rfl zf_X12_255 (by decide) zc_164 zs_46 rfl ?_
        refine zt_icge (pc' := 63) (tgt := 75) hX dX12_look_60 rfl (by decide) ⟨by omega, by omega⟩ ⟨by omega, by omega⟩ (fun c24 => ?_) (fun c24 => ?_)
        · refine zt_iconst (pc' := 76) hX dX12_look_75 rfl ?_
          exact zt_iret hX hR dX12_look_76 ⟨by omega, by omega⟩ ⟨hI6, hF7, by omega, by omega, by omega, by omega, by omega, by omega⟩
        · refine zt_aload_n (pc' := 64) hX dX12_look_63 rfl rfl ?_
          refine zt_get (pc' := 67) (v := .ref (X.1.1 + 165)) hX dX12_look_64 rfl zf_X12_7 (by decide) zc_164 zs_46 (zrf_of (zv_46_0 hI6 zc_164)) ?_
          refine zt_aload_n (pc' := 68) hX dX12_look_67 rfl rfl ?_
          refine zt_get (pc' := 71) (v := .int (zI (s5 164 2))) hX dX12_look_68 rfl zf_X12_252 (by decide) zc_164 zs_46 rfl ?_
          refine zt_iald (pc' := 72) hX dX12_look_71 rfl (by decide) zc_165 zs_47 (by decide) ⟨by omega, by omega⟩ ?_
          generalize hv25 : s5 165 ((s5 164 2).toNat) = v25
          have bv25 : 0 ≤ v25 ∧ v25 ≤ 255 := hv25 ▸ zv_47 hI6 zc_165 _
          refine zt_goto (tgt := 76) hX dX12_look_72 (by decide) ?_
          exact zt_iret hX hR dX12_look_76 ⟨by omega, by omega⟩ ⟨hI6, hF7, by omega, by omega, by omega, by omega, by omega, by omega⟩
      refine zt_icge (pc' := 11) (tgt := 52) hX dX12_look_8 rfl (by decide) ⟨by omega, by omega⟩ ⟨by omega, by omega⟩ (fun c26 => ?_) (fun c26 => ?_)
      · exact J_52_21 (by omega)
      · refine zt_aload_n (pc' := 12) hX dX12_look_11 rfl rfl ?_
        refine zt_get (pc' := 15) (v := .ref (X.1.1 + 165)) hX dX12_look_12 rfl zf_X12_7 (by decide) zc_164 zs_46 (zrf_of (zv_46_0 hI6 zc_164)) ?_
        refine zt_aload_n (pc' := 16) hX dX12_look_15 rfl rfl ?_
        refine zt_get (pc' := 19) (v := .int (zI (s5 164 2))) hX dX12_look_16 rfl zf_X12_252 (by decide) zc_164 zs_46 rfl ?_
        refine zt_iald (pc' := 20) hX dX12_look_19 rfl (by decide) zc_165 zs_47 (by decide) ⟨by omega, by omega⟩ ?_
        generalize hv27 : s5 165 ((s5 164 2).toNat) = v27
        have bv27 : 0 ≤ v27 ∧ v27 ≤ 255 := hv27 ▸ zv_47 hI6 zc_165 _
        have h28 := zsb_x hv27
        have h29 := zsb_c hF7
        refine zt_bipush (pc' := 22) hX dX12_look_20 rfl (by decide) (by decide) ?_
        have J_39_30 : zsb s5 ≠ 1 → zF X s5 39 [some (.ref (X.1.1 + 164))] [] := by
          intro g30
          refine zt_aload_n (pc' := 40) hX dX12_look_39 rfl rfl ?_
          refine zt_dup (pc' := 41) hX dX12_look_40 rfl rfl ?_
          refine zt_get (pc' := 44) (v := .int (zI (s5 164 2))) hX dX12_look_41 rfl zf_X12_252 (by decide) zc_164 zs_46 rfl ?_
          refine zt_iconst (pc' := 45) hX dX12_look_44 rfl ?_
          refine zt_iadd (pc' := 46) hX dX12_look_45 rfl ?_
          refine zt_put (pc' := 49) (x := ((s5 164 2) + 1)) hX dX12_look_46 rfl zf_X12_252 (by decide) zc_164 zs_46 (fun q hq => by cases hq; rfl) rfl rfl rfl ?_
          generalize hs33 : zset s5 164 2 ((s5 164 2) + 1) = s32
          have hI34 : zInv s32 := hs33 ▸ zp_46_2 hI6 zc_164 ⟨by omega, by omega⟩
          have hF35 : zOn zQ1 σ s32 := hs33 ▸ zOn_set hF7 (by decide)
          have e36 : s32 164 2 = ((s5 164 2) + 1) := by rw [← hs33]; exact zset_s
          have e37 : s32 164 3 = s5 164 3 := by rw [← hs33]; exact zset_j (by decide)
          have e38 : s32 164 5 = s5 164 5 := by rw [← hs33]; exact zset_j (by decide)
          have e39 : s32 164 4 = s5 164 4 := by rw [← hs33]; exact zset_j (by decide)
          refine zt_goto (tgt := 0) hX dX12_look_49 (by decide) ?_
          exact ih14 s32 hI34 hF35 (by omega) (by omega) (by omega) (by omega) (by omega)
        refine zt_iceq (pc' := 25) (tgt := 39) hX dX12_look_22 rfl (by decide) ⟨by omega, by omega⟩ ⟨by omega, by omega⟩ (fun c40 => ?_) (fun c40 => ?_)
        · exact J_39_30 (by omega)
        · refine zt_aload_n (pc' := 26) hX dX12_look_25 rfl rfl ?_
          refine zt_get (pc' := 29) (v := .ref (X.1.1 + 165)) hX dX12_look_26 rfl zf_X12_7 (by decide) zc_164 zs_46 (zrf_of (zv_46_0 hI6 zc_164)) ?_
          refine zt_aload_n (pc' := 30) hX dX12_look_29 rfl rfl ?_
          refine zt_get (pc' := 33) (v := .int (zI (s5 164 2))) hX dX12_look_30 rfl zf_X12_252 (by decide) zc_164 zs_46 rfl ?_
          refine zt_iald (pc' := 34) hX dX12_look_33 rfl (by decide) zc_165 zs_47 (by decide) ⟨by omega, by omega⟩ ?_
          generalize hv41 : s5 165 ((s5 164 2).toNat) = v41
          have bv41 : 0 ≤ v41 ∧ v41 ≤ 255 := hv41 ▸ zv_47 hI6 zc_165 _
          have h42 := zsb_x hv41
          refine zt_bipush (pc' := 36) hX dX12_look_34 rfl (by decide) (by decide) ?_
          refine zt_icne (pc' := 39) (tgt := 52) hX dX12_look_36 rfl (by decide) ⟨by omega, by omega⟩ ⟨by omega, by omega⟩ (fun c43 => ?_) (fun c43 => ?_)
          · exact J_52_21 (by omega)
          · exact J_39_30 (by omega)
  exact L_0_11 _ σ hI hF (by omega) (by omega) (by omega) (by omega) (Nat.lt_succ_self _)

set_option maxRecDepth 100000 in
set_option maxHeartbeats 4000000 in
theorem zc_X12_isHere (l : Launch) (E : zEN) (σ : zSto) (hI : zInv σ) (kw : Nat) (rw_ nw : Nat) (hkw : zro kw = rw_) (hrw : rw_ ≠ 0) (hsw : zrs rw_ = .inr (3, nw)) (hnw : 2 ≤ nw ∧ nw ≤ 6) : zCt l E yX12_isHere cX12_isHere 4 (some .boolean) 1 zNC zNC 0 0 σ [.ref (E.1 + 164), .ref (E.1 + kw)] (fun r σ' => zInv σ' ∧ zOn zQ1 σ σ' ∧ 0 ≤ r ∧ r ≤ 1 ∧ (σ 164 2 ≤ σ' 164 2 ∧ (σ 164 2 ≤ σ 164 3 → σ' 164 2 ≤ σ 164 3)) ∧ (r = 1 → σ' 164 2 + (nw : Int) ≤ σ 164 3 ∧ σ 164 5 = 0) ∧ (σ' 164 5 = σ 164 5) ∧ (zsb σ = 1 → σ' 164 2 = σ 164 2 ∧ zsb σ' = 1)) := by
  refine zCt_of2 [some (.ref (E.1 + 164)), some (.ref (E.1 + kw)), none, none] (by decide +kernel) (Nat.le_of_ble_eq_true rfl) rfl ?_
  intro X hE hX hR hL hN
  subst hE
  have hX : zok X cX12_isHere RX12 1 := hX
  have hF := zOn_rf zQ1 σ
  have b1 := zv_46_2 hI zc_164
  have b2 := zv_46_3 hI zc_164
  have b3 := zv_46_5 hI zc_164
  have b4 := zv_46_4 hI zc_164
  refine zt_aload_n (pc' := 1) hX dX12_isHere_0 rfl rfl ?_
  have b5 := zv_46_5 hI zc_164
  refine zt_get (pc' := 4) (v := .int (zI (σ 164 5))) hX dX12_isHere_1 rfl zf_X12_246 (by decide) zc_164 zs_46 rfl ?_
  refine zt_ifne (pc' := 7) (tgt := 28) hX dX12_isHere_4 rfl (by decide) ⟨by omega, by omega⟩ (fun c6 => ?_) (fun c6 => ?_)
  · refine zt_iconst (pc' := 29) hX dX12_isHere_28 rfl ?_
    exact zt_zret hX hR dX12_isHere_29 ⟨by omega, by omega⟩ ⟨hI, hF, by omega, by omega, by omega, by omega, by omega, by omega⟩
  · refine zt_aload_n (pc' := 8) hX dX12_isHere_7 rfl rfl ?_
    refine zt_cVi (pc' := 11) hX dX12_isHere_8 rfl zm_yX12_look zw_26_12 zc_164 (by decide) zs_46 (q := (RX12, TX12, 108)) rfl rfl (zc_X12_look _ _ σ hI ) rfl rfl (Nat.le_of_ble_eq_true rfl) (by decide) (fun r7 s8 hr9 hp10 => ?_)
    obtain ⟨hI11, hF12, q13, q14, z15, z16, z17, z18⟩ := hp10
    have e19 := hF12 164 3 rfl
    have hF20 := zOn_tr hF hF12 zi_id
    have b21 := zv_46_2 hI11 zc_164
    have b22 := zv_46_3 hI11 zc_164
    have b23 := zv_46_5 hI11 zc_164
    have b24 := zv_46_4 hI11 zc_164
    refine zt_cSz (pc' := 14) hX dX12_isHere_11 rfl zm_yX12_isLetter zw_26_16 (zc_X12_isLetter _ _ s8  r7 ⟨by omega, by omega⟩) rfl rfl (Nat.le_of_ble_eq_true rfl) (by decide) (fun r25 s26 hr27 hp28 => ?_)
    obtain ⟨rfl, q29, q30, z31⟩ := hp28
    refine zt_ifeq (pc' := 17) (tgt := 28) hX dX12_isHere_14 rfl (by decide) ⟨by omega, by omega⟩ (fun c32 => ?_) (fun c32 => ?_)
    · refine zt_iconst (pc' := 29) hX dX12_isHere_28 rfl ?_
      exact zt_zret hX hR dX12_isHere_29 ⟨by omega, by omega⟩ ⟨hI11, hF20, by omega, by omega, by omega, by omega, by omega, by omega⟩
    · refine zt_aload_n (pc' := 18) hX dX12_isHere_17 rfl rfl ?_
      have b33 := zv_46_2 hI11 zc_164
      refine zt_get (pc' := 21) (v := .int (zI (s8 164 2))) hX dX12_isHere_18 rfl zf_X12_252 (by decide) zc_164 zs_46 rfl ?_
      refine zt_aload_n (pc' := 22) hX dX12_isHere_21 rfl rfl ?_
      have b34 := zv_46_4 hI11 zc_164
      refine zt_get (pc' := 25) (v := .int (zI (s8 164 4))) hX dX12_isHere_22 rfl zf_X12_266 (by decide) zc_164 zs_46 rfl ?_
      refine zt_icne (pc' := 28) (tgt := 30) hX dX12_isHere_25 rfl (by decide) ⟨by omega, by omega⟩ ⟨by omega, by omega⟩ (fun c35 => ?_) (fun c35 => ?_)
      · refine zt_aload_n (pc' := 31) hX dX12_isHere_30 rfl rfl ?_
        refine zt_get (pc' := 34) (v := .int (zI (s8 164 2))) hX dX12_isHere_31 rfl zf_X12_252 (by decide) zc_164 zs_46 rfl ?_
        refine zt_istore_n (pc' := 35) (lv' := [some (.ref (X.1.1 + 164)), some (.ref (X.1.1 + kw)), some (.int (zI (s8 164 2))), none]) hX dX12_isHere_34 rfl hL (by decide) rfl ?_
        have L_35_39 : ∀ (N : Nat) (x36 : Int), 0 ≤ x36 → x36 ≤ 1600 → x36 ≤ s8 164 3 → ((1601 - x36).toNat) < N → zF X s8 35 [some (.ref (X.1.1 + 164)), some (.ref (X.1.1 + kw)), some (.int (zI x36)), none] [] := by
          intro N
          induction N with
          | zero =>
            intro x36 h37 h38 g39 hm41
            exact absurd hm41 (Nat.not_lt_zero _)
          | succ N ih42 =>
            intro x36 h37 h38 g39 hm41
            refine zt_iload_n (pc' := 36) hX dX12_isHere_35 rfl rfl ?_
            refine zt_aload_n (pc' := 37) hX dX12_isHere_36 rfl rfl ?_
            have b43 := zv_46_3 hI11 zc_164
            refine zt_get (pc' := 40) (v := .int (zI (s8 164 3))) hX dX12_isHere_37 rfl zf_X12_255 (by decide) zc_164 zs_46 rfl ?_
            have J_61_43 : zF X s8 61 [some (.ref (X.1.1 + 164)), some (.ref (X.1.1 + kw)), some (.int (zI x36)), none] [] := by
              refine zt_iload_n (pc' := 62) hX dX12_isHere_61 rfl rfl ?_
              refine zt_aload_n (pc' := 63) hX dX12_isHere_62 rfl rfl ?_
              refine zt_get (pc' := 66) (v := .int (zI (s8 164 2))) hX dX12_isHere_63 rfl zf_X12_252 (by decide) zc_164 zs_46 rfl ?_
              refine zt_isub (pc' := 67) hX dX12_isHere_66 rfl ?_
              refine zt_aload_n (pc' := 68) hX dX12_isHere_67 rfl rfl ?_
              refine zt_alen (pc' := 69) hX dX12_isHere_68 rfl (zro_lt hkw hrw) hkw hsw (by decide) ?_
              refine zt_iceq (pc' := 72) (tgt := 74) hX dX12_isHere_69 rfl (by decide) ⟨by omega, by omega⟩ ⟨by omega, by omega⟩ (fun c45 => ?_) (fun c45 => ?_)
              · refine zt_iconst (pc' := 75) hX dX12_isHere_74 rfl ?_
                refine zt_istore_n (pc' := 76) (lv' := [some (.ref (X.1.1 + 164)), some (.ref (X.1.1 + kw)), some (.int (zI x36)), some (.int (zI 0))]) hX dX12_isHere_75 rfl hL (by decide) rfl ?_
                have L_76_48 : ∀ (N : Nat) (x46 : Int), 0 ≤ x46 → x46 ≤ 6 → ((7 - x46).toNat) < N → zF X s8 76 [some (.ref (X.1.1 + 164)), some (.ref (X.1.1 + kw)), none, some (.int (zI x46))] [] := by
                  intro N
                  induction N with
                  | zero =>
                    intro x46 h47 h48 hm50
                    exact absurd hm50 (Nat.not_lt_zero _)
                  | succ N ih51 =>
                    intro x46 h47 h48 hm50
                    refine zt_iload_n (pc' := 77) hX dX12_isHere_76 rfl rfl ?_
                    refine zt_aload_n (pc' := 78) hX dX12_isHere_77 rfl rfl ?_
                    refine zt_alen (pc' := 79) hX dX12_isHere_78 rfl (zro_lt hkw hrw) hkw hsw (by decide) ?_
                    refine zt_icge (pc' := 82) (tgt := 107) hX dX12_isHere_79 rfl (by decide) ⟨by omega, by omega⟩ ⟨by omega, by omega⟩ (fun c52 => ?_) (fun c52 => ?_)
                    · refine zt_iconst (pc' := 108) hX dX12_isHere_107 rfl ?_
                      exact zt_zret hX hR dX12_isHere_108 ⟨by omega, by omega⟩ ⟨hI11, hF20, by omega, by omega, by omega, by omega, by omega, by omega⟩
                    · refine zt_aload_n (pc' := 83) hX dX12_isHere_82 rfl rfl ?_
                      refine zt_get (pc' := 86) (v := .ref (X.1.1 + 165)) hX dX12_isHere_83 rfl zf_X12_7 (by decide) zc_164 zs_46 (zrf_of (zv_46_0 hI11 zc_164)) ?_
                      refine zt_aload_n (pc' := 87) hX dX12_isHere_86 rfl rfl ?_
                      refine zt_get (pc' := 90) (v := .int (zI (s8 164 2))) hX dX12_isHere_87 rfl zf_X12_252 (by decide) zc_164 zs_46 rfl ?_
                      refine zt_iload_n (pc' := 91) hX dX12_isHere_90 rfl rfl ?_
                      refine zt_iadd (pc' := 92) hX dX12_isHere_91 rfl ?_
                      refine zt_iald (pc' := 93) hX dX12_isHere_92 rfl (by decide) zc_165 zs_47 (by decide) ⟨by omega, by omega⟩ ?_
                      generalize hv53 : s8 165 (((s8 164 2) + x46).toNat) = v53
                      have bv53 : 0 ≤ v53 ∧ v53 ≤ 255 := hv53 ▸ zv_47 hI11 zc_165 _
                      refine zt_aload_n (pc' := 94) hX dX12_isHere_93 rfl rfl ?_
                      refine zt_iload_n (pc' := 95) hX dX12_isHere_94 rfl rfl ?_
                      refine zt_cald (pc' := 96) hX dX12_isHere_95 rfl (zro_lt hkw hrw) hkw hsw (by omega) ⟨by omega, by omega⟩ ?_
                      refine zt_wrap (fun r54 zr54 lr54 ur54 => ?_)
                      clear zr54
                      refine zt_iceq (pc' := 99) (tgt := 101) hX dX12_isHere_96 rfl (by decide) ⟨by omega, by omega⟩ ⟨by omega, by omega⟩ (fun c55 => ?_) (fun c55 => ?_)
                      · refine zt_iinc (pc' := 104) (lv' := [some (.ref (X.1.1 + 164)), some (.ref (X.1.1 + kw)), none, some (.int (zI (x46 + 1)))]) hX dX12_isHere_101 rfl rfl hL (by decide) rfl ?_
                        refine zt_goto (tgt := 76) hX dX12_isHere_104 (by decide) ?_
                        exact ih51 (x46 + 1) (by omega) (by omega) (by omega)
                      · refine zt_iconst (pc' := 100) hX dX12_isHere_99 rfl ?_
                        exact zt_zret hX hR dX12_isHere_100 ⟨by omega, by omega⟩ ⟨hI11, hF20, by omega, by omega, by omega, by omega, by omega, by omega⟩
                refine zt_mask [true, true, false, true] rfl ?_
                exact L_76_48 _ 0 (by omega) (by omega) (Nat.lt_succ_self _)
              · refine zt_iconst (pc' := 73) hX dX12_isHere_72 rfl ?_
                exact zt_zret hX hR dX12_isHere_73 ⟨by omega, by omega⟩ ⟨hI11, hF20, by omega, by omega, by omega, by omega, by omega, by omega⟩
            refine zt_icge (pc' := 43) (tgt := 61) hX dX12_isHere_40 rfl (by decide) ⟨by omega, by omega⟩ ⟨by omega, by omega⟩ (fun c56 => ?_) (fun c56 => ?_)
            · exact J_61_43
            · refine zt_aload_n (pc' := 44) hX dX12_isHere_43 rfl rfl ?_
              refine zt_get (pc' := 47) (v := .ref (X.1.1 + 165)) hX dX12_isHere_44 rfl zf_X12_7 (by decide) zc_164 zs_46 (zrf_of (zv_46_0 hI11 zc_164)) ?_
              refine zt_iload_n (pc' := 48) hX dX12_isHere_47 rfl rfl ?_
              refine zt_iald (pc' := 49) hX dX12_isHere_48 rfl (by decide) zc_165 zs_47 (by decide) ⟨by omega, by omega⟩ ?_
              generalize hv57 : s8 165 (x36.toNat) = v57
              have bv57 : 0 ≤ v57 ∧ v57 ≤ 255 := hv57 ▸ zv_47 hI11 zc_165 _
              refine zt_cSz (pc' := 52) hX dX12_isHere_49 rfl zm_yX12_isLetter zw_26_16 (zc_X12_isLetter _ _ s8  v57 ⟨by omega, by omega⟩) rfl rfl (Nat.le_of_ble_eq_true rfl) (by decide) (fun r58 s59 hr60 hp61 => ?_)
              obtain ⟨rfl, q62, q63, z64⟩ := hp61
              refine zt_ifeq (pc' := 55) (tgt := 61) hX dX12_isHere_52 rfl (by decide) ⟨by omega, by omega⟩ (fun c65 => ?_) (fun c65 => ?_)
              · exact J_61_43
              · refine zt_iinc (pc' := 58) (lv' := [some (.ref (X.1.1 + 164)), some (.ref (X.1.1 + kw)), some (.int (zI (x36 + 1))), none]) hX dX12_isHere_55 rfl rfl hL (by decide) rfl ?_
                refine zt_goto (tgt := 35) hX dX12_isHere_58 (by decide) ?_
                exact ih42 (x36 + 1) (by omega) (by omega) (by omega) (by omega)
        exact L_35_39 _ (s8 164 2) (by omega) (by omega) (by omega) (Nat.lt_succ_self _)
      · refine zt_iconst (pc' := 29) hX dX12_isHere_28 rfl ?_
        exact zt_zret hX hR dX12_isHere_29 ⟨by omega, by omega⟩ ⟨hI11, hF20, by omega, by omega, by omega, by omega, by omega, by omega⟩

set_option maxRecDepth 100000 in
set_option maxHeartbeats 4000000 in
theorem zc_X12_takes (l : Launch) (E : zEN) (σ : zSto) (hI : zInv σ) (kw : Nat) (rw_ nw : Nat) (hkw : zro kw = rw_) (hrw : rw_ ≠ 0) (hsw : zrs rw_ = .inr (3, nw)) (hnw : 2 ≤ nw ∧ nw ≤ 6) : zCt l E yX12_takes cX12_takes 2 (some .boolean) 2 zNC zNC 0 0 σ [.ref (E.1 + 164), .ref (E.1 + kw)] (fun r σ' => zInv σ' ∧ zOn zQ1 σ σ' ∧ 0 ≤ r ∧ r ≤ 1 ∧ (σ 164 2 ≤ σ' 164 2 ∧ (σ 164 2 ≤ σ 164 3 → σ' 164 2 ≤ σ 164 3)) ∧ (r = 1 → σ 164 2 + 2 ≤ σ' 164 2 ∧ σ 164 5 = 0) ∧ (σ' 164 5 = σ 164 5)) := by
  refine zCt_of2 [some (.ref (E.1 + 164)), some (.ref (E.1 + kw))] (by decide +kernel) (Nat.le_of_ble_eq_true rfl) rfl ?_
  intro X hE hX hR hL hN
  subst hE
  have hX : zok X cX12_takes RX12 2 := hX
  have hF := zOn_rf zQ1 σ
  have b1 := zv_46_2 hI zc_164
  have b2 := zv_46_3 hI zc_164
  have b3 := zv_46_5 hI zc_164
  have b4 := zv_46_4 hI zc_164
  refine zt_aload_n (pc' := 1) hX dX12_takes_0 rfl rfl ?_
  refine zt_aload_n (pc' := 2) hX dX12_takes_1 rfl rfl ?_
  refine zt_cVz (pc' := 5) hX dX12_takes_2 rfl zm_yX12_isHere zw_26_8 zc_164 (by decide) zs_46 (q := (RX12, TX12, 108)) rfl rfl (zc_X12_isHere _ _ σ hI kw rw_ nw hkw hrw hsw hnw) rfl rfl (Nat.le_of_ble_eq_true rfl) (by decide) (fun r5 s6 hr7 hp8 => ?_)
  obtain ⟨hI9, hF10, q11, q12, z13, z14, z15, z16⟩ := hp8
  have e17 := hF10 164 3 rfl
  have hF18 := zOn_tr hF hF10 zi_id
  have b19 := zv_46_2 hI9 zc_164
  have b20 := zv_46_3 hI9 zc_164
  have b21 := zv_46_5 hI9 zc_164
  have b22 := zv_46_4 hI9 zc_164
  clear z16
  refine zt_ifne (pc' := 8) (tgt := 10) hX dX12_takes_5 rfl (by decide) ⟨by omega, by omega⟩ (fun c23 => ?_) (fun c23 => ?_)
  · refine zt_aload_n (pc' := 11) hX dX12_takes_10 rfl rfl ?_
    refine zt_dup (pc' := 12) hX dX12_takes_11 rfl rfl ?_
    have b24 := zv_46_2 hI9 zc_164
    refine zt_get (pc' := 15) (v := .int (zI (s6 164 2))) hX dX12_takes_12 rfl zf_X12_252 (by decide) zc_164 zs_46 rfl ?_
    refine zt_aload_n (pc' := 16) hX dX12_takes_15 rfl rfl ?_
    refine zt_alen (pc' := 17) hX dX12_takes_16 rfl (zro_lt hkw hrw) hkw hsw (by decide) ?_
    refine zt_iadd (pc' := 18) hX dX12_takes_17 rfl ?_
    refine zt_put (pc' := 21) (x := ((s6 164 2) + (nw : Int))) hX dX12_takes_18 rfl zf_X12_252 (by decide) zc_164 zs_46 (fun q hq => by cases hq; rfl) rfl rfl rfl ?_
    generalize hs26 : zset s6 164 2 ((s6 164 2) + (nw : Int)) = s25
    have hI27 : zInv s25 := hs26 ▸ zp_46_2 hI9 zc_164 ⟨by omega, by omega⟩
    have hF28 : zOn zQ1 σ s25 := hs26 ▸ zOn_set hF18 (by decide)
    have e29 : s25 164 2 = ((s6 164 2) + (nw : Int)) := by rw [← hs26]; exact zset_s
    have e30 : s25 164 3 = s6 164 3 := by rw [← hs26]; exact zset_j (by decide)
    have e31 : s25 164 5 = s6 164 5 := by rw [← hs26]; exact zset_j (by decide)
    have e32 : s25 164 4 = s6 164 4 := by rw [← hs26]; exact zset_j (by decide)
    refine zt_aload_n (pc' := 22) hX dX12_takes_21 rfl rfl ?_
    refine zt_aload_n (pc' := 23) hX dX12_takes_22 rfl rfl ?_
    have b33 := zv_46_2 hI27 zc_164
    refine zt_get (pc' := 26) (v := .int (zI (s25 164 2))) hX dX12_takes_23 rfl zf_X12_252 (by decide) zc_164 zs_46 rfl ?_
    refine zt_put (pc' := 29) (x := (s25 164 2)) hX dX12_takes_26 rfl zf_X12_266 (by decide) zc_164 zs_46 (fun q hq => by cases hq; rfl) rfl rfl rfl ?_
    generalize hs35 : zset s25 164 4 (s25 164 2) = s34
    have hI36 : zInv s34 := hs35 ▸ zp_46_4 hI27 zc_164 ⟨by omega, by omega⟩
    have hF37 : zOn zQ1 σ s34 := hs35 ▸ zOn_set hF28 (by decide)
    have e38 : s34 164 2 = s25 164 2 := by rw [← hs35]; exact zset_j (by decide)
    have e39 : s34 164 3 = s25 164 3 := by rw [← hs35]; exact zset_j (by decide)
    have e40 : s34 164 5 = s25 164 5 := by rw [← hs35]; exact zset_j (by decide)
    have e41 : s34 164 4 = (s25 164 2) := by rw [← hs35]; exact zset_s
    refine zt_iconst (pc' := 30) hX dX12_takes_29 rfl ?_
    exact zt_zret hX hR dX12_takes_30 ⟨by omega, by omega⟩ ⟨hI36, hF37, by omega, by omega, by omega, by omega, by omega⟩
  · refine zt_iconst (pc' := 9) hX dX12_takes_8 rfl ?_
    exact zt_zret hX hR dX12_takes_9 ⟨by omega, by omega⟩ ⟨hI9, hF18, by omega, by omega, by omega, by omega, by omega⟩

set_option maxRecDepth 100000 in
set_option maxHeartbeats 4000000 in
theorem zc_X12_asks (l : Launch) (E : zEN) (σ : zSto) (hI : zInv σ) (kw : Nat) (rw_ nw : Nat) (hkw : zro kw = rw_) (hrw : rw_ ≠ 0) (hsw : zrs rw_ = .inr (3, nw)) (hnw : 2 ≤ nw ∧ nw ≤ 6) : zCt l E yX12_asks cX12_asks 2 none 3 zNC zNC 0 0 σ [.ref (E.1 + 164), .ref (E.1 + kw)] (fun r σ' => zInv σ' ∧ zOn zQ1 σ σ' ∧ (σ 164 2 ≤ σ' 164 2 ∧ (σ 164 2 ≤ σ 164 3 → σ' 164 2 ≤ σ 164 3)) ∧ (σ' 164 5 = 0 → σ 164 5 = 0 ∧ σ 164 2 + 2 ≤ σ' 164 2)) := by
  refine zCt_of2 [some (.ref (E.1 + 164)), some (.ref (E.1 + kw))] (by decide +kernel) (Nat.le_of_ble_eq_true rfl) rfl ?_
  intro X hE hX hR hL hN
  subst hE
  have hX : zok X cX12_asks RX12 3 := hX
  have hF := zOn_rf zQ1 σ
  have b1 := zv_46_2 hI zc_164
  have b2 := zv_46_3 hI zc_164
  have b3 := zv_46_5 hI zc_164
  have b4 := zv_46_4 hI zc_164
  refine zt_aload_n (pc' := 1) hX dX12_asks_0 rfl rfl ?_
  have b5 := zv_46_5 hI zc_164
  refine zt_get (pc' := 4) (v := .int (zI (σ 164 5))) hX dX12_asks_1 rfl zf_X12_246 (by decide) zc_164 zs_46 rfl ?_
  refine zt_ifne (pc' := 7) (tgt := 24) hX dX12_asks_4 rfl (by decide) ⟨by omega, by omega⟩ (fun c6 => ?_) (fun c6 => ?_)
  · exact zt_vret hX hR dX12_asks_24 ⟨hI, hF, by omega, by omega⟩
  · refine zt_aload_n (pc' := 8) hX dX12_asks_7 rfl rfl ?_
    refine zt_aload_n (pc' := 9) hX dX12_asks_8 rfl rfl ?_
    refine zt_cVz (pc' := 12) hX dX12_asks_9 rfl zm_yX12_takes zw_26_4 zc_164 (by decide) zs_46 (q := (RX12, TX12, 108)) rfl rfl (zc_X12_takes _ _ σ hI kw rw_ nw hkw hrw hsw hnw) rfl rfl (Nat.le_of_ble_eq_true rfl) (by decide) (fun r7 s8 hr9 hp10 => ?_)
    obtain ⟨hI11, hF12, q13, q14, z15, z16, z17⟩ := hp10
    have e18 := hF12 164 3 rfl
    have hF19 := zOn_tr hF hF12 zi_id
    have b20 := zv_46_2 hI11 zc_164
    have b21 := zv_46_3 hI11 zc_164
    have b22 := zv_46_5 hI11 zc_164
    have b23 := zv_46_4 hI11 zc_164
    refine zt_ifne (pc' := 15) (tgt := 24) hX dX12_asks_12 rfl (by decide) ⟨by omega, by omega⟩ (fun c24 => ?_) (fun c24 => ?_)
    · exact zt_vret hX hR dX12_asks_24 ⟨hI11, hF19, by omega, by omega⟩
    · refine zt_aload_n (pc' := 16) hX dX12_asks_15 rfl rfl ?_
      refine zt_iconst (pc' := 17) hX dX12_asks_16 rfl ?_
      refine zt_aload_n (pc' := 18) hX dX12_asks_17 rfl rfl ?_
      have b25 := zv_46_2 hI11 zc_164
      refine zt_get (pc' := 21) (v := .int (zI (s8 164 2))) hX dX12_asks_18 rfl zf_X12_252 (by decide) zc_164 zs_46 rfl ?_
      refine zt_cVv (pc' := 24) hX dX12_asks_21 rfl zm_yX12_fail zw_26_19 zc_164 (by decide) zs_46 (q := (RX12, TX12, 108)) rfl rfl (zc_X12_fail _ _ s8 hI11 1 ⟨by omega, by omega⟩ (s8 164 2) ⟨by omega, by omega⟩) rfl rfl (Nat.le_of_ble_eq_true rfl) (by decide) (fun r26 s27 hr28 hp29 => ?_)
      obtain ⟨hI30, hF31, z32, z33⟩ := hp29
      have e34 := hF31 164 3 rfl
      have hF35 := zOn_tr hF19 hF31 zi_id
      have b36 := zv_46_2 hI30 zc_164
      have b37 := zv_46_3 hI30 zc_164
      have b38 := zv_46_5 hI30 zc_164
      have b39 := zv_46_4 hI30 zc_164
      exact zt_vret hX hR dX12_asks_24 ⟨hI30, hF35, by omega, by omega⟩

set_option maxRecDepth 100000 in
set_option maxHeartbeats 4000000 in
theorem zc_X12_takesSign (l : Launch) (E : zEN) (σ : zSto) (hI : zInv σ) (a1_ : Int) (ha1_ : 1 ≤ a1_ ∧ a1_ ≤ 255) : zCt l E yX12_takesSign cX12_takesSign 2 (some .boolean) 1 zNC zNC 0 0 σ [.ref (E.1 + 164), .int (zI a1_)] (fun r σ' => zInv σ' ∧ zOn zQ1 σ σ' ∧ 0 ≤ r ∧ r ≤ 1 ∧ (σ 164 2 ≤ σ' 164 2 ∧ (σ 164 2 ≤ σ 164 3 → σ' 164 2 ≤ σ 164 3)) ∧ (r = 1 → σ 164 2 + 1 ≤ σ' 164 2 ∧ σ 164 5 = 0) ∧ (σ' 164 5 = σ 164 5)) := by
  refine zCt_of2 [some (.ref (E.1 + 164)), some (.int (zI a1_))] (by decide +kernel) (Nat.le_of_ble_eq_true rfl) rfl ?_
  intro X hE hX hR hL hN
  subst hE
  have hX : zok X cX12_takesSign RX12 1 := hX
  have hF := zOn_rf zQ1 σ
  have b1 := zv_46_2 hI zc_164
  have b2 := zv_46_3 hI zc_164
  have b3 := zv_46_5 hI zc_164
  have b4 := zv_46_4 hI zc_164
  refine zt_aload_n (pc' := 1) hX dX12_takesSign_0 rfl rfl ?_
  have b5 := zv_46_5 hI zc_164
  refine zt_get (pc' := 4) (v := .int (zI (σ 164 5))) hX dX12_takesSign_1 rfl zf_X12_246 (by decide) zc_164 zs_46 rfl ?_
  refine zt_ifne (pc' := 7) (tgt := 15) hX dX12_takesSign_4 rfl (by decide) ⟨by omega, by omega⟩ (fun c6 => ?_) (fun c6 => ?_)
  · refine zt_iconst (pc' := 16) hX dX12_takesSign_15 rfl ?_
    exact zt_zret hX hR dX12_takesSign_16 ⟨by omega, by omega⟩ ⟨hI, hF, by omega, by omega, by omega, by omega, by omega⟩
  · refine zt_aload_n (pc' := 8) hX dX12_takesSign_7 rfl rfl ?_
    refine zt_cVi (pc' := 11) hX dX12_takesSign_8 rfl zm_yX12_look zw_26_12 zc_164 (by decide) zs_46 (q := (RX12, TX12, 108)) rfl rfl (zc_X12_look _ _ σ hI ) rfl rfl (Nat.le_of_ble_eq_true rfl) (by decide) (fun r7 s8 hr9 hp10 => ?_)
    obtain ⟨hI11, hF12, q13, q14, z15, z16, z17, z18⟩ := hp10
    have e19 := hF12 164 3 rfl
    have hF20 := zOn_tr hF hF12 zi_id
    have b21 := zv_46_2 hI11 zc_164
    have b22 := zv_46_3 hI11 zc_164
    have b23 := zv_46_5 hI11 zc_164
    have b24 := zv_46_4 hI11 zc_164
    clear z18
    refine zt_iload_n (pc' := 12) hX dX12_takesSign_11 rfl rfl ?_
    refine zt_iceq (pc' := 15) (tgt := 17) hX dX12_takesSign_12 rfl (by decide) ⟨by omega, by omega⟩ ⟨by omega, by omega⟩ (fun c25 => ?_) (fun c25 => ?_)
    · refine zt_aload_n (pc' := 18) hX dX12_takesSign_17 rfl rfl ?_
      refine zt_dup (pc' := 19) hX dX12_takesSign_18 rfl rfl ?_
      have b26 := zv_46_2 hI11 zc_164
      refine zt_get (pc' := 22) (v := .int (zI (s8 164 2))) hX dX12_takesSign_19 rfl zf_X12_252 (by decide) zc_164 zs_46 rfl ?_
      refine zt_iconst (pc' := 23) hX dX12_takesSign_22 rfl ?_
      refine zt_iadd (pc' := 24) hX dX12_takesSign_23 rfl ?_
      refine zt_put (pc' := 27) (x := ((s8 164 2) + 1)) hX dX12_takesSign_24 rfl zf_X12_252 (by decide) zc_164 zs_46 (fun q hq => by cases hq; rfl) rfl rfl rfl ?_
      generalize hs28 : zset s8 164 2 ((s8 164 2) + 1) = s27
      have hI29 : zInv s27 := hs28 ▸ zp_46_2 hI11 zc_164 ⟨by omega, by omega⟩
      have hF30 : zOn zQ1 σ s27 := hs28 ▸ zOn_set hF20 (by decide)
      have e31 : s27 164 2 = ((s8 164 2) + 1) := by rw [← hs28]; exact zset_s
      have e32 : s27 164 3 = s8 164 3 := by rw [← hs28]; exact zset_j (by decide)
      have e33 : s27 164 5 = s8 164 5 := by rw [← hs28]; exact zset_j (by decide)
      have e34 : s27 164 4 = s8 164 4 := by rw [← hs28]; exact zset_j (by decide)
      refine zt_iconst (pc' := 28) hX dX12_takesSign_27 rfl ?_
      exact zt_zret hX hR dX12_takesSign_28 ⟨by omega, by omega⟩ ⟨hI29, hF30, by omega, by omega, by omega, by omega, by omega⟩
    · refine zt_iconst (pc' := 16) hX dX12_takesSign_15 rfl ?_
      exact zt_zret hX hR dX12_takesSign_16 ⟨by omega, by omega⟩ ⟨hI11, hF20, by omega, by omega, by omega, by omega, by omega⟩

set_option maxRecDepth 100000 in
set_option maxHeartbeats 4000000 in
theorem zc_X12_asksSign (l : Launch) (E : zEN) (σ : zSto) (hI : zInv σ) (a1_ : Int) (ha1_ : 1 ≤ a1_ ∧ a1_ ≤ 255) : zCt l E yX12_asksSign cX12_asksSign 2 none 2 zNC zNC 0 0 σ [.ref (E.1 + 164), .int (zI a1_)] (fun r σ' => zInv σ' ∧ zOn zQ1 σ σ' ∧ (σ 164 2 ≤ σ' 164 2 ∧ (σ 164 2 ≤ σ 164 3 → σ' 164 2 ≤ σ 164 3)) ∧ (σ' 164 5 = 0 → σ 164 5 = 0 ∧ σ 164 2 + 1 ≤ σ' 164 2)) := by
  refine zCt_of2 [some (.ref (E.1 + 164)), some (.int (zI a1_))] (by decide +kernel) (Nat.le_of_ble_eq_true rfl) rfl ?_
  intro X hE hX hR hL hN
  subst hE
  have hX : zok X cX12_asksSign RX12 2 := hX
  have hF := zOn_rf zQ1 σ
  have b1 := zv_46_2 hI zc_164
  have b2 := zv_46_3 hI zc_164
  have b3 := zv_46_5 hI zc_164
  have b4 := zv_46_4 hI zc_164
  refine zt_aload_n (pc' := 1) hX dX12_asksSign_0 rfl rfl ?_
  have b5 := zv_46_5 hI zc_164
  refine zt_get (pc' := 4) (v := .int (zI (σ 164 5))) hX dX12_asksSign_1 rfl zf_X12_246 (by decide) zc_164 zs_46 rfl ?_
  refine zt_ifne (pc' := 7) (tgt := 24) hX dX12_asksSign_4 rfl (by decide) ⟨by omega, by omega⟩ (fun c6 => ?_) (fun c6 => ?_)
  · exact zt_vret hX hR dX12_asksSign_24 ⟨hI, hF, by omega, by omega⟩
  · refine zt_aload_n (pc' := 8) hX dX12_asksSign_7 rfl rfl ?_
    refine zt_iload_n (pc' := 9) hX dX12_asksSign_8 rfl rfl ?_
    refine zt_cVz (pc' := 12) hX dX12_asksSign_9 rfl zm_yX12_takesSign zw_27_14 zc_164 (by decide) zs_46 (q := (RX12, TX12, 108)) rfl rfl (zc_X12_takesSign _ _ σ hI a1_ ⟨by omega, by omega⟩) rfl rfl (Nat.le_of_ble_eq_true rfl) (by decide) (fun r7 s8 hr9 hp10 => ?_)
    obtain ⟨hI11, hF12, q13, q14, z15, z16, z17⟩ := hp10
    have e18 := hF12 164 3 rfl
    have hF19 := zOn_tr hF hF12 zi_id
    have b20 := zv_46_2 hI11 zc_164
    have b21 := zv_46_3 hI11 zc_164
    have b22 := zv_46_5 hI11 zc_164
    have b23 := zv_46_4 hI11 zc_164
    refine zt_ifne (pc' := 15) (tgt := 24) hX dX12_asksSign_12 rfl (by decide) ⟨by omega, by omega⟩ (fun c24 => ?_) (fun c24 => ?_)
    · exact zt_vret hX hR dX12_asksSign_24 ⟨hI11, hF19, by omega, by omega⟩
    · refine zt_aload_n (pc' := 16) hX dX12_asksSign_15 rfl rfl ?_
      refine zt_iconst (pc' := 17) hX dX12_asksSign_16 rfl ?_
      refine zt_aload_n (pc' := 18) hX dX12_asksSign_17 rfl rfl ?_
      have b25 := zv_46_2 hI11 zc_164
      refine zt_get (pc' := 21) (v := .int (zI (s8 164 2))) hX dX12_asksSign_18 rfl zf_X12_252 (by decide) zc_164 zs_46 rfl ?_
      refine zt_cVv (pc' := 24) hX dX12_asksSign_21 rfl zm_yX12_fail zw_26_19 zc_164 (by decide) zs_46 (q := (RX12, TX12, 108)) rfl rfl (zc_X12_fail _ _ s8 hI11 1 ⟨by omega, by omega⟩ (s8 164 2) ⟨by omega, by omega⟩) rfl rfl (Nat.le_of_ble_eq_true rfl) (by decide) (fun r26 s27 hr28 hp29 => ?_)
      obtain ⟨hI30, hF31, z32, z33⟩ := hp29
      have e34 := hF31 164 3 rfl
      have hF35 := zOn_tr hF19 hF31 zi_id
      have b36 := zv_46_2 hI30 zc_164
      have b37 := zv_46_3 hI30 zc_164
      have b38 := zv_46_5 hI30 zc_164
      have b39 := zv_46_4 hI30 zc_164
      exact zt_vret hX hR dX12_asksSign_24 ⟨hI30, hF35, by omega, by omega⟩

set_option maxRecDepth 100000 in
set_option maxHeartbeats 4000000 in
theorem zc_X12_number (l : Launch) (E : zEN) (σ : zSto) (hI : zInv σ) (a1_ : Int) (ha1_ : -2147483648 ≤ a1_ ∧ a1_ ≤ 2147483647) (a2_ : Int) (ha2_ : -2147483648 ≤ a2_ ∧ a2_ ≤ 2147483647) : zCt l E yX12_number cX12_number 5 (some .int) 1 zNC zNC 0 0 σ [.ref (E.1 + 164), .int (zI a1_), .int (zI a2_)] (fun r σ' => zInv σ' ∧ zOn zQ1 σ σ' ∧ -2147483648 ≤ r ∧ r ≤ 2147483647 ∧ (σ 164 2 ≤ σ' 164 2 ∧ (σ 164 2 ≤ σ 164 3 → σ' 164 2 ≤ σ 164 3)) ∧ (σ' 164 5 = 0 → σ 164 5 = 0 ∧ a1_ ≤ r ∧ r ≤ a2_ ∧ σ 164 2 + 1 ≤ σ' 164 2) ∧ (σ 164 5 ≠ 0 → σ' 164 5 = σ 164 5)) := by
  refine zCt_of2 [some (.ref (E.1 + 164)), some (.int (zI a1_)), some (.int (zI a2_)), none, none] (by decide +kernel) (Nat.le_of_ble_eq_true rfl) rfl ?_
  intro X hE hX hR hL hN
  subst hE
  have hX : zok X cX12_number RX12 1 := hX
  have hF := zOn_rf zQ1 σ
  have b1 := zv_46_2 hI zc_164
  have b2 := zv_46_3 hI zc_164
  have b3 := zv_46_5 hI zc_164
  have b4 := zv_46_4 hI zc_164
  refine zt_aload_n (pc' := 1) hX dX12_number_0 rfl rfl ?_
  have b5 := zv_46_5 hI zc_164
  refine zt_get (pc' := 4) (v := .int (zI (σ 164 5))) hX dX12_number_1 rfl zf_X12_246 (by decide) zc_164 zs_46 rfl ?_
  refine zt_ifeq (pc' := 7) (tgt := 9) hX dX12_number_4 rfl (by decide) ⟨by omega, by omega⟩ (fun c6 => ?_) (fun c6 => ?_)
  · refine zt_aload_n (pc' := 10) hX dX12_number_9 rfl rfl ?_
    refine zt_cVi (pc' := 13) hX dX12_number_10 rfl zm_yX12_look zw_26_12 zc_164 (by decide) zs_46 (q := (RX12, TX12, 108)) rfl rfl (zc_X12_look _ _ σ hI ) rfl rfl (Nat.le_of_ble_eq_true rfl) (by decide) (fun r7 s8 hr9 hp10 => ?_)
    obtain ⟨hI11, hF12, q13, q14, z15, z16, z17, z18⟩ := hp10
    have e19 := hF12 164 3 rfl
    have hF20 := zOn_tr hF hF12 zi_id
    have b21 := zv_46_2 hI11 zc_164
    have b22 := zv_46_3 hI11 zc_164
    have b23 := zv_46_5 hI11 zc_164
    have b24 := zv_46_4 hI11 zc_164
    clear z18
    refine zt_cSz (pc' := 16) hX dX12_number_13 rfl zm_yX12_isDigit zw_27_4 (zc_X12_isDigit _ _ s8  r7 ⟨by omega, by omega⟩) rfl rfl (Nat.le_of_ble_eq_true rfl) (by decide) (fun r25 s26 hr27 hp28 => ?_)
    obtain ⟨rfl, q29, q30, z31⟩ := hp28
    have J_30_31 : zF X s8 30 [some (.ref (X.1.1 + 164)), none, none, none, none] [] := by
      refine zt_aload_n (pc' := 31) hX dX12_number_30 rfl rfl ?_
      refine zt_iconst (pc' := 32) hX dX12_number_31 rfl ?_
      refine zt_aload_n (pc' := 33) hX dX12_number_32 rfl rfl ?_
      have b33 := zv_46_2 hI11 zc_164
      refine zt_get (pc' := 36) (v := .int (zI (s8 164 2))) hX dX12_number_33 rfl zf_X12_252 (by decide) zc_164 zs_46 rfl ?_
      refine zt_cVv (pc' := 39) hX dX12_number_36 rfl zm_yX12_fail zw_26_19 zc_164 (by decide) zs_46 (q := (RX12, TX12, 108)) rfl rfl (zc_X12_fail _ _ s8 hI11 1 ⟨by omega, by omega⟩ (s8 164 2) ⟨by omega, by omega⟩) rfl rfl (Nat.le_of_ble_eq_true rfl) (by decide) (fun r34 s35 hr36 hp37 => ?_)
      obtain ⟨hI38, hF39, z40, z41⟩ := hp37
      have e42 := hF39 164 3 rfl
      have hF43 := zOn_tr hF20 hF39 zi_id
      have b44 := zv_46_2 hI38 zc_164
      have b45 := zv_46_3 hI38 zc_164
      have b46 := zv_46_5 hI38 zc_164
      have b47 := zv_46_4 hI38 zc_164
      refine zt_iconst (pc' := 40) hX dX12_number_39 rfl ?_
      exact zt_iret hX hR dX12_number_40 ⟨by omega, by omega⟩ ⟨hI38, hF43, by omega, by omega, by omega, by omega, by omega⟩
    refine zt_ifeq (pc' := 19) (tgt := 30) hX dX12_number_16 rfl (by decide) ⟨by omega, by omega⟩ (fun c48 => ?_) (fun c48 => ?_)
    · refine zt_mask [true, false, false, false, false] rfl ?_
      exact J_30_31
    · refine zt_aload_n (pc' := 20) hX dX12_number_19 rfl rfl ?_
      have b49 := zv_46_2 hI11 zc_164
      refine zt_get (pc' := 23) (v := .int (zI (s8 164 2))) hX dX12_number_20 rfl zf_X12_252 (by decide) zc_164 zs_46 rfl ?_
      refine zt_aload_n (pc' := 24) hX dX12_number_23 rfl rfl ?_
      have b50 := zv_46_4 hI11 zc_164
      refine zt_get (pc' := 27) (v := .int (zI (s8 164 4))) hX dX12_number_24 rfl zf_X12_266 (by decide) zc_164 zs_46 rfl ?_
      refine zt_icne (pc' := 30) (tgt := 41) hX dX12_number_27 rfl (by decide) ⟨by omega, by omega⟩ ⟨by omega, by omega⟩ (fun c51 => ?_) (fun c51 => ?_)
      · refine zt_aload_n (pc' := 42) hX dX12_number_41 rfl rfl ?_
        refine zt_get (pc' := 45) (v := .int (zI (s8 164 2))) hX dX12_number_42 rfl zf_X12_252 (by decide) zc_164 zs_46 rfl ?_
        refine zt_istore_n (pc' := 46) (lv' := [some (.ref (X.1.1 + 164)), some (.int (zI a1_)), some (.int (zI a2_)), some (.int (zI (s8 164 2))), none]) hX dX12_number_45 rfl hL (by decide) rfl ?_
        refine zt_iconst (pc' := 47) hX dX12_number_46 rfl ?_
        refine zt_istore (pc' := 49) (lv' := [some (.ref (X.1.1 + 164)), some (.int (zI a1_)), some (.int (zI a2_)), some (.int (zI (s8 164 2))), some (.int (zI 0))]) hX dX12_number_47 rfl hL (by decide) rfl ?_
        have L_49_63 : ∀ (N : Nat) (x52 : Int) (s55 : zSto), -2147483648 ≤ x52 → x52 ≤ 2147483647 → zInv s55 → zOn zQ1 σ s55 → ((s8 164 2) < s55 164 2 ∨ (s55 164 2 < s55 164 3 ∧ 48 ≤ s55 165 (s55 164 2).toNat ∧ s55 165 (s55 164 2).toNat ≤ 57)) → σ 164 2 ≤ (s8 164 2) → (s8 164 2) ≤ s55 164 2 → (σ 164 2 ≤ s55 164 2 ∧ (σ 164 2 ≤ σ 164 3 → s55 164 2 ≤ σ 164 3)) → s55 164 3 = σ 164 3 → s55 164 5 = σ 164 5 → ((1601 - s55 164 2).toNat) < N → zF X s55 49 [some (.ref (X.1.1 + 164)), some (.int (zI a1_)), some (.int (zI a2_)), some (.int (zI (s8 164 2))), some (.int (zI x52))] [] := by
          intro N
          induction N with
          | zero =>
            intro x52 s55 h53 h54 hI56 hF57 g58 g59 g60 g61 g62 g63 hm65
            exact absurd hm65 (Nat.not_lt_zero _)
          | succ N ih66 =>
            intro x52 s55 h53 h54 hI56 hF57 g58 g59 g60 g61 g62 g63 hm65
            have b67 := zv_46_2 hI56 zc_164
            have b68 := zv_46_3 hI56 zc_164
            have b69 := zv_46_5 hI56 zc_164
            have b70 := zv_46_4 hI56 zc_164
            refine zt_aload_n (pc' := 50) hX dX12_number_49 rfl rfl ?_
            have b71 := zv_46_2 hI56 zc_164
            refine zt_get (pc' := 53) (v := .int (zI (s55 164 2))) hX dX12_number_50 rfl zf_X12_252 (by decide) zc_164 zs_46 rfl ?_
            refine zt_aload_n (pc' := 54) hX dX12_number_53 rfl rfl ?_
            have b72 := zv_46_3 hI56 zc_164
            refine zt_get (pc' := 57) (v := .int (zI (s55 164 3))) hX dX12_number_54 rfl zf_X12_255 (by decide) zc_164 zs_46 rfl ?_
            have J_129_73 : (s8 164 2) < s55 164 2 → zF X s55 129 [some (.ref (X.1.1 + 164)), some (.int (zI a1_)), some (.int (zI a2_)), some (.int (zI (s8 164 2))), some (.int (zI x52))] [] := by
              intro g73
              refine zt_aload_n (pc' := 130) hX dX12_number_129 rfl rfl ?_
              refine zt_aload_n (pc' := 131) hX dX12_number_130 rfl rfl ?_
              refine zt_get (pc' := 134) (v := .int (zI (s55 164 2))) hX dX12_number_131 rfl zf_X12_252 (by decide) zc_164 zs_46 rfl ?_
              refine zt_put (pc' := 137) (x := (s55 164 2)) hX dX12_number_134 rfl zf_X12_266 (by decide) zc_164 zs_46 (fun q hq => by cases hq; rfl) rfl rfl rfl ?_
              generalize hs76 : zset s55 164 4 (s55 164 2) = s75
              have hI77 : zInv s75 := hs76 ▸ zp_46_4 hI56 zc_164 ⟨by omega, by omega⟩
              have hF78 : zOn zQ1 σ s75 := hs76 ▸ zOn_set hF57 (by decide)
              have e79 : s75 164 2 = s55 164 2 := by rw [← hs76]; exact zset_j (by decide)
              have e80 : s75 164 3 = s55 164 3 := by rw [← hs76]; exact zset_j (by decide)
              have e81 : s75 164 5 = s55 164 5 := by rw [← hs76]; exact zset_j (by decide)
              have e82 : s75 164 4 = (s55 164 2) := by rw [← hs76]; exact zset_s
              refine zt_aload_n (pc' := 138) hX dX12_number_137 rfl rfl ?_
              refine zt_iload_n (pc' := 139) hX dX12_number_138 rfl rfl ?_
              refine zt_put (pc' := 142) (x := (s8 164 2)) hX dX12_number_139 rfl zf_X12_286 (by decide) zc_164 zs_46 (fun q hq => by cases hq; rfl) rfl rfl rfl ?_
              generalize hs84 : zset s75 164 10 (s8 164 2) = s83
              have hI85 : zInv s83 := hs84 ▸ zp_46_10 hI77 zc_164 ⟨by omega, by omega⟩
              have hF86 : zOn zQ1 σ s83 := hs84 ▸ zOn_set hF78 (by decide)
              have e87 : s83 164 2 = s75 164 2 := by rw [← hs84]; exact zset_j (by decide)
              have e88 : s83 164 3 = s75 164 3 := by rw [← hs84]; exact zset_j (by decide)
              have e89 : s83 164 5 = s75 164 5 := by rw [← hs84]; exact zset_j (by decide)
              have e90 : s83 164 4 = s75 164 4 := by rw [← hs84]; exact zset_j (by decide)
              refine zt_iload (pc' := 144) hX dX12_number_142 rfl rfl ?_
              refine zt_i2l (pc' := 145) hX dX12_number_144 rfl ⟨by omega, by omega⟩ ?_
              refine zt_iload_n (pc' := 146) hX dX12_number_145 rfl rfl ?_
              refine zt_i2l (pc' := 147) hX dX12_number_146 rfl ⟨by omega, by omega⟩ ?_
              refine zt_iload_n (pc' := 148) hX dX12_number_147 rfl rfl ?_
              refine zt_i2l (pc' := 149) hX dX12_number_148 rfl ⟨by omega, by omega⟩ ?_
              refine zt_cSz (pc' := 152) hX dX12_number_149 rfl zm_yX12_isIn zw_27_7 (zc_X12_isIn _ _ s83  x52 ⟨by omega, by omega⟩ a1_ ⟨by omega, by omega⟩ a2_ ⟨by omega, by omega⟩) rfl rfl (Nat.le_of_ble_eq_true rfl) (by decide) (fun r91 s92 hr93 hp94 => ?_)
              obtain ⟨rfl, q95, q96, z97⟩ := hp94
              refine zt_ifne (pc' := 155) (tgt := 161) hX dX12_number_152 rfl (by decide) ⟨by omega, by omega⟩ (fun c98 => ?_) (fun c98 => ?_)
              · refine zt_iload (pc' := 163) hX dX12_number_161 rfl rfl ?_
                exact zt_iret hX hR dX12_number_163 ⟨by omega, by omega⟩ ⟨hI85, hF86, by omega, by omega, by omega, by omega, by omega⟩
              · refine zt_aload_n (pc' := 156) hX dX12_number_155 rfl rfl ?_
                refine zt_iconst (pc' := 157) hX dX12_number_156 rfl ?_
                refine zt_iload_n (pc' := 158) hX dX12_number_157 rfl rfl ?_
                refine zt_cVv (pc' := 161) hX dX12_number_158 rfl zm_yX12_fail zw_26_19 zc_164 (by decide) zs_46 (q := (RX12, TX12, 108)) rfl rfl (zc_X12_fail _ _ s83 hI85 2 ⟨by omega, by omega⟩ (s8 164 2) ⟨by omega, by omega⟩) rfl rfl (Nat.le_of_ble_eq_true rfl) (by decide) (fun r99 s100 hr101 hp102 => ?_)
                obtain ⟨hI103, hF104, z105, z106⟩ := hp102
                have e107 := hF104 164 3 rfl
                have hF108 := zOn_tr hF86 hF104 zi_id
                have b109 := zv_46_2 hI103 zc_164
                have b110 := zv_46_3 hI103 zc_164
                have b111 := zv_46_5 hI103 zc_164
                have b112 := zv_46_4 hI103 zc_164
                refine zt_iload (pc' := 163) hX dX12_number_161 rfl rfl ?_
                exact zt_iret hX hR dX12_number_163 ⟨by omega, by omega⟩ ⟨hI103, hF108, by omega, by omega, by omega, by omega, by omega⟩
            refine zt_icge (pc' := 60) (tgt := 129) hX dX12_number_57 rfl (by decide) ⟨by omega, by omega⟩ ⟨by omega, by omega⟩ (fun c113 => ?_) (fun c113 => ?_)
            · exact J_129_73 (by omega)
            · refine zt_aload_n (pc' := 61) hX dX12_number_60 rfl rfl ?_
              refine zt_get (pc' := 64) (v := .ref (X.1.1 + 165)) hX dX12_number_61 rfl zf_X12_7 (by decide) zc_164 zs_46 (zrf_of (zv_46_0 hI56 zc_164)) ?_
              refine zt_aload_n (pc' := 65) hX dX12_number_64 rfl rfl ?_
              refine zt_get (pc' := 68) (v := .int (zI (s55 164 2))) hX dX12_number_65 rfl zf_X12_252 (by decide) zc_164 zs_46 rfl ?_
              refine zt_iald (pc' := 69) hX dX12_number_68 rfl (by decide) zc_165 zs_47 (by decide) ⟨by omega, by omega⟩ ?_
              generalize hv114 : s55 165 ((s55 164 2).toNat) = v114
              have bv114 : 0 ≤ v114 ∧ v114 ≤ 255 := hv114 ▸ zv_47 hI56 zc_165 _
              refine zt_cSz (pc' := 72) hX dX12_number_69 rfl zm_yX12_isDigit zw_27_4 (zc_X12_isDigit _ _ s55  v114 ⟨by omega, by omega⟩) rfl rfl (Nat.le_of_ble_eq_true rfl) (by decide) (fun r115 s116 hr117 hp118 => ?_)
              obtain ⟨rfl, q119, q120, z121⟩ := hp118
              refine zt_ifeq (pc' := 75) (tgt := 129) hX dX12_number_72 rfl (by decide) ⟨by omega, by omega⟩ (fun c122 => ?_) (fun c122 => ?_)
              · exact J_129_73 (by omega)
              · refine zt_aload_n (pc' := 76) hX dX12_number_75 rfl rfl ?_
                refine zt_get (pc' := 79) (v := .int (zI (s55 164 2))) hX dX12_number_76 rfl zf_X12_252 (by decide) zc_164 zs_46 rfl ?_
                refine zt_iload_n (pc' := 80) hX dX12_number_79 rfl rfl ?_
                refine zt_isub (pc' := 81) hX dX12_number_80 rfl ?_
                refine zt_iconst (pc' := 82) hX dX12_number_81 rfl ?_
                refine zt_icne (pc' := 85) (tgt := 96) hX dX12_number_82 rfl (by decide) ⟨by omega, by omega⟩ ⟨by omega, by omega⟩ (fun c123 => ?_) (fun c123 => ?_)
                · refine zt_bipush (pc' := 98) hX dX12_number_96 rfl (by decide) (by decide) ?_
                  refine zt_iload (pc' := 100) hX dX12_number_98 rfl rfl ?_
                  refine zt_imul (pc' := 101) hX dX12_number_100 rfl ?_
                  refine zt_wrap (fun r124 zr124 lr124 ur124 => ?_)
                  clear zr124
                  refine zt_aload_n (pc' := 102) hX dX12_number_101 rfl rfl ?_
                  refine zt_get (pc' := 105) (v := .ref (X.1.1 + 165)) hX dX12_number_102 rfl zf_X12_7 (by decide) zc_164 zs_46 (zrf_of (zv_46_0 hI56 zc_164)) ?_
                  refine zt_aload_n (pc' := 106) hX dX12_number_105 rfl rfl ?_
                  refine zt_get (pc' := 109) (v := .int (zI (s55 164 2))) hX dX12_number_106 rfl zf_X12_252 (by decide) zc_164 zs_46 rfl ?_
                  refine zt_iald (pc' := 110) hX dX12_number_109 rfl (by decide) zc_165 zs_47 (by decide) ⟨by omega, by omega⟩ ?_
                  generalize hv125 : s55 165 ((s55 164 2).toNat) = v125
                  have bv125 : 0 ≤ v125 ∧ v125 ≤ 255 := hv125 ▸ zv_47 hI56 zc_165 _
                  refine zt_iadd (pc' := 111) hX dX12_number_110 rfl ?_
                  refine zt_wrap (fun r126 zr126 lr126 ur126 => ?_)
                  clear zr126
                  refine zt_bipush (pc' := 113) hX dX12_number_111 rfl (by decide) (by decide) ?_
                  refine zt_isub (pc' := 114) hX dX12_number_113 rfl ?_
                  refine zt_wrap (fun r127 zr127 lr127 ur127 => ?_)
                  clear zr127
                  refine zt_istore (pc' := 116) (lv' := [some (.ref (X.1.1 + 164)), some (.int (zI a1_)), some (.int (zI a2_)), some (.int (zI (s8 164 2))), some (.int (zI r127))]) hX dX12_number_114 rfl hL (by decide) rfl ?_
                  refine zt_aload_n (pc' := 117) hX dX12_number_116 rfl rfl ?_
                  refine zt_dup (pc' := 118) hX dX12_number_117 rfl rfl ?_
                  refine zt_get (pc' := 121) (v := .int (zI (s55 164 2))) hX dX12_number_118 rfl zf_X12_252 (by decide) zc_164 zs_46 rfl ?_
                  refine zt_iconst (pc' := 122) hX dX12_number_121 rfl ?_
                  refine zt_iadd (pc' := 123) hX dX12_number_122 rfl ?_
                  refine zt_put (pc' := 126) (x := ((s55 164 2) + 1)) hX dX12_number_123 rfl zf_X12_252 (by decide) zc_164 zs_46 (fun q hq => by cases hq; rfl) rfl rfl rfl ?_
                  generalize hs129 : zset s55 164 2 ((s55 164 2) + 1) = s128
                  have hI130 : zInv s128 := hs129 ▸ zp_46_2 hI56 zc_164 ⟨by omega, by omega⟩
                  have hF131 : zOn zQ1 σ s128 := hs129 ▸ zOn_set hF57 (by decide)
                  have e132 : s128 164 2 = ((s55 164 2) + 1) := by rw [← hs129]; exact zset_s
                  have e133 : s128 164 3 = s55 164 3 := by rw [← hs129]; exact zset_j (by decide)
                  have e134 : s128 164 5 = s55 164 5 := by rw [← hs129]; exact zset_j (by decide)
                  have e135 : s128 164 4 = s55 164 4 := by rw [← hs129]; exact zset_j (by decide)
                  refine zt_goto (tgt := 49) hX dX12_number_126 (by decide) ?_
                  exact ih66 r127 s128 (by omega) (by omega) hI130 hF131 (by omega) (by omega) (by omega) (by omega) (by omega) (by omega) (by omega)
                · refine zt_aload_n (pc' := 86) hX dX12_number_85 rfl rfl ?_
                  refine zt_iconst (pc' := 87) hX dX12_number_86 rfl ?_
                  refine zt_aload_n (pc' := 88) hX dX12_number_87 rfl rfl ?_
                  refine zt_get (pc' := 91) (v := .int (zI (s55 164 2))) hX dX12_number_88 rfl zf_X12_252 (by decide) zc_164 zs_46 rfl ?_
                  refine zt_cVv (pc' := 94) hX dX12_number_91 rfl zm_yX12_fail zw_26_19 zc_164 (by decide) zs_46 (q := (RX12, TX12, 108)) rfl rfl (zc_X12_fail _ _ s55 hI56 1 ⟨by omega, by omega⟩ (s55 164 2) ⟨by omega, by omega⟩) rfl rfl (Nat.le_of_ble_eq_true rfl) (by decide) (fun r136 s137 hr138 hp139 => ?_)
                  obtain ⟨hI140, hF141, z142, z143⟩ := hp139
                  have e144 := hF141 164 3 rfl
                  have hF145 := zOn_tr hF57 hF141 zi_id
                  have b146 := zv_46_2 hI140 zc_164
                  have b147 := zv_46_3 hI140 zc_164
                  have b148 := zv_46_5 hI140 zc_164
                  have b149 := zv_46_4 hI140 zc_164
                  refine zt_iconst (pc' := 95) hX dX12_number_94 rfl ?_
                  exact zt_iret hX hR dX12_number_95 ⟨by omega, by omega⟩ ⟨hI140, hF145, by omega, by omega, by omega, by omega, by omega⟩
        exact L_49_63 _ 0 s8 (by omega) (by omega) hI11 hF20 (by omega) (by omega) (by omega) (by omega) (by omega) (by omega) (Nat.lt_succ_self _)
      · refine zt_mask [true, false, false, false, false] rfl ?_
        exact J_30_31
  · refine zt_iconst (pc' := 8) hX dX12_number_7 rfl ?_
    exact zt_iret hX hR dX12_number_8 ⟨by omega, by omega⟩ ⟨hI, hF, by omega, by omega, by omega, by omega, by omega⟩

set_option maxRecDepth 100000 in
set_option maxHeartbeats 4000000 in
theorem zc_X12_isOwnHere (l : Launch) (E : zEN) (σ : zSto) (hI : zInv σ)  : zCt l E yX12_isOwnHere cX12_isOwnHere 2 (some .boolean) 2 zNC zNC 0 0 σ [.ref (E.1 + 164)] (fun r σ' => zInv σ' ∧ zOn zQ1 σ σ' ∧ 0 ≤ r ∧ r ≤ 1 ∧ (σ 164 2 ≤ σ' 164 2 ∧ (σ 164 2 ≤ σ 164 3 → σ' 164 2 ≤ σ 164 3)) ∧ (σ' 164 5 = σ 164 5)) := by
  refine zCt_of2 [some (.ref (E.1 + 164)), none] (by decide +kernel) (Nat.le_of_ble_eq_true rfl) rfl ?_
  intro X hE hX hR hL hN
  subst hE
  have hX : zok X cX12_isOwnHere RX12 2 := hX
  have hF := zOn_rf zQ1 σ
  have b1 := zv_46_2 hI zc_164
  have b2 := zv_46_3 hI zc_164
  have b3 := zv_46_5 hI zc_164
  have b4 := zv_46_4 hI zc_164
  refine zt_aload_n (pc' := 1) hX dX12_isOwnHere_0 rfl rfl ?_
  refine zt_aload_n (pc' := 2) hX dX12_isOwnHere_1 rfl rfl ?_
  refine zt_get (pc' := 5) (v := .ref (X.1.1 + 167)) hX dX12_isOwnHere_2 rfl zf_X12_20 (by decide) zc_164 zs_46 (zrf_of (zv_46_11 hI zc_164)) ?_
  refine zt_cVz (pc' := 8) hX dX12_isOwnHere_5 rfl zm_yX12_isHere zw_26_8 zc_164 (by decide) zs_46 (q := (RX12, TX12, 108)) rfl rfl (zc_X12_isHere _ _ σ hI 167 49 4 zc_167 (by decide) zs_49 (by decide)) rfl rfl (Nat.le_of_ble_eq_true rfl) (by decide) (fun r5 s6 hr7 hp8 => ?_)
  obtain ⟨hI9, hF10, q11, q12, z13, z14, z15, z16⟩ := hp8
  have e17 := hF10 164 3 rfl
  have hF18 := zOn_tr hF hF10 zi_id
  have b19 := zv_46_2 hI9 zc_164
  have b20 := zv_46_3 hI9 zc_164
  have b21 := zv_46_5 hI9 zc_164
  have b22 := zv_46_4 hI9 zc_164
  clear z16
  have J_71_31 : ∀ (y23 : Int) (s26 : zSto), 0 ≤ y23 → y23 ≤ 1 → zInv s26 → zOn zQ1 σ s26 → (σ 164 2 ≤ s26 164 2 ∧ (σ 164 2 ≤ σ 164 3 → s26 164 2 ≤ σ 164 3)) → s26 164 3 = σ 164 3 → s26 164 5 = σ 164 5 → zF X s26 71 [some (.ref (X.1.1 + 164)), none] [.int (zI y23)] := by
    intro y23 s26 h24 h25 hI27 hF28 g29 g30 g31
    have b33 := zv_46_2 hI27 zc_164
    have b34 := zv_46_3 hI27 zc_164
    have b35 := zv_46_5 hI27 zc_164
    have b36 := zv_46_4 hI27 zc_164
    refine zt_istore_n (pc' := 72) (lv' := [some (.ref (X.1.1 + 164)), some (.int (zI y23))]) hX dX12_isOwnHere_71 rfl hL (by decide) rfl ?_
    refine zt_iload_n (pc' := 73) hX dX12_isOwnHere_72 rfl rfl ?_
    have J_147_45 : ∀ (y37 : Int) (s40 : zSto), 0 ≤ y37 → y37 ≤ 1 → zInv s40 → zOn zQ1 σ s40 → (σ 164 2 ≤ s40 164 2 ∧ (σ 164 2 ≤ σ 164 3 → s40 164 2 ≤ σ 164 3)) → s40 164 3 = σ 164 3 → s40 164 5 = σ 164 5 → zF X s40 147 [some (.ref (X.1.1 + 164)), none] [.int (zI y37)] := by
      intro y37 s40 h38 h39 hI41 hF42 g43 g44 g45
      have b47 := zv_46_2 hI41 zc_164
      have b48 := zv_46_3 hI41 zc_164
      have b49 := zv_46_5 hI41 zc_164
      have b50 := zv_46_4 hI41 zc_164
      refine zt_istore_n (pc' := 148) (lv' := [some (.ref (X.1.1 + 164)), some (.int (zI y37))]) hX dX12_isOwnHere_147 rfl hL (by decide) rfl ?_
      refine zt_iload_n (pc' := 149) hX dX12_isOwnHere_148 rfl rfl ?_
      have J_223_59 : ∀ (y51 : Int) (s54 : zSto), 0 ≤ y51 → y51 ≤ 1 → zInv s54 → zOn zQ1 σ s54 → (σ 164 2 ≤ s54 164 2 ∧ (σ 164 2 ≤ σ 164 3 → s54 164 2 ≤ σ 164 3)) → s54 164 3 = σ 164 3 → s54 164 5 = σ 164 5 → zF X s54 223 [some (.ref (X.1.1 + 164)), none] [.int (zI y51)] := by
        intro y51 s54 h52 h53 hI55 hF56 g57 g58 g59
        have b61 := zv_46_2 hI55 zc_164
        have b62 := zv_46_3 hI55 zc_164
        have b63 := zv_46_5 hI55 zc_164
        have b64 := zv_46_4 hI55 zc_164
        refine zt_istore_n (pc' := 224) (lv' := [some (.ref (X.1.1 + 164)), some (.int (zI y51))]) hX dX12_isOwnHere_223 rfl hL (by decide) rfl ?_
        refine zt_iload_n (pc' := 225) hX dX12_isOwnHere_224 rfl rfl ?_
        have J_299_73 : ∀ (y65 : Int) (s68 : zSto), 0 ≤ y65 → y65 ≤ 1 → zInv s68 → zOn zQ1 σ s68 → (σ 164 2 ≤ s68 164 2 ∧ (σ 164 2 ≤ σ 164 3 → s68 164 2 ≤ σ 164 3)) → s68 164 3 = σ 164 3 → s68 164 5 = σ 164 5 → zF X s68 299 [some (.ref (X.1.1 + 164)), none] [.int (zI y65)] := by
          intro y65 s68 h66 h67 hI69 hF70 g71 g72 g73
          have b75 := zv_46_2 hI69 zc_164
          have b76 := zv_46_3 hI69 zc_164
          have b77 := zv_46_5 hI69 zc_164
          have b78 := zv_46_4 hI69 zc_164
          refine zt_istore_n (pc' := 300) (lv' := [some (.ref (X.1.1 + 164)), some (.int (zI y65))]) hX dX12_isOwnHere_299 rfl hL (by decide) rfl ?_
          refine zt_iload_n (pc' := 301) hX dX12_isOwnHere_300 rfl rfl ?_
          have J_337_84 : ∀ (s79 : zSto), zInv s79 → zOn zQ1 σ s79 → (σ 164 2 ≤ s79 164 2 ∧ (σ 164 2 ≤ σ 164 3 → s79 164 2 ≤ σ 164 3)) → s79 164 3 = σ 164 3 → s79 164 5 = σ 164 5 → zF X s79 337 [none, none] [] := by
            intro s79 hI80 hF81 g82 g83 g84
            have b86 := zv_46_2 hI80 zc_164
            have b87 := zv_46_3 hI80 zc_164
            have b88 := zv_46_5 hI80 zc_164
            have b89 := zv_46_4 hI80 zc_164
            refine zt_iconst (pc' := 338) hX dX12_isOwnHere_337 rfl ?_
            refine zt_goto (tgt := 342) hX dX12_isOwnHere_338 (by decide) ?_
            refine zt_istore_n (pc' := 343) (lv' := [none, some (.int (zI 1))]) hX dX12_isOwnHere_342 rfl hL (by decide) rfl ?_
            refine zt_iload_n (pc' := 344) hX dX12_isOwnHere_343 rfl rfl ?_
            exact zt_zret hX hR dX12_isOwnHere_344 ⟨by omega, by omega⟩ ⟨hI80, hF81, by omega, by omega, by omega, by omega⟩
          refine zt_ifne (pc' := 304) (tgt := 337) hX dX12_isOwnHere_301 rfl (by decide) ⟨by omega, by omega⟩ (fun c90 => ?_) (fun c90 => ?_)
          · refine zt_mask [false, false] rfl ?_
            exact J_337_84 s68 hI69 hF70 (by omega) (by omega) (by omega)
          · refine zt_aload_n (pc' := 305) hX dX12_isOwnHere_304 rfl rfl ?_
            refine zt_aload_n (pc' := 306) hX dX12_isOwnHere_305 rfl rfl ?_
            refine zt_get (pc' := 309) (v := .ref (X.1.1 + 191)) hX dX12_isOwnHere_306 rfl zf_X12_93 (by decide) zc_164 zs_46 (zrf_of (zv_46_35 hI69 zc_164)) ?_
            refine zt_cVz (pc' := 312) hX dX12_isOwnHere_309 rfl zm_yX12_isHere zw_26_8 zc_164 (by decide) zs_46 (q := (RX12, TX12, 108)) rfl rfl (zc_X12_isHere _ _ s68 hI69 191 73 3 zc_191 (by decide) zs_73 (by decide)) rfl rfl (Nat.le_of_ble_eq_true rfl) (by decide) (fun r91 s92 hr93 hp94 => ?_)
            obtain ⟨hI95, hF96, q97, q98, z99, z100, z101, z102⟩ := hp94
            have e103 := hF96 164 3 rfl
            have hF104 := zOn_tr hF70 hF96 zi_id
            have b105 := zv_46_2 hI95 zc_164
            have b106 := zv_46_3 hI95 zc_164
            have b107 := zv_46_5 hI95 zc_164
            have b108 := zv_46_4 hI95 zc_164
            clear z102
            refine zt_ifne (pc' := 315) (tgt := 337) hX dX12_isOwnHere_312 rfl (by decide) ⟨by omega, by omega⟩ (fun c109 => ?_) (fun c109 => ?_)
            · refine zt_mask [false, false] rfl ?_
              exact J_337_84 s92 hI95 hF104 (by omega) (by omega) (by omega)
            · refine zt_aload_n (pc' := 316) hX dX12_isOwnHere_315 rfl rfl ?_
              refine zt_aload_n (pc' := 317) hX dX12_isOwnHere_316 rfl rfl ?_
              refine zt_get (pc' := 320) (v := .ref (X.1.1 + 192)) hX dX12_isOwnHere_317 rfl zf_X12_96 (by decide) zc_164 zs_46 (zrf_of (zv_46_36 hI95 zc_164)) ?_
              refine zt_cVz (pc' := 323) hX dX12_isOwnHere_320 rfl zm_yX12_isHere zw_26_8 zc_164 (by decide) zs_46 (q := (RX12, TX12, 108)) rfl rfl (zc_X12_isHere _ _ s92 hI95 192 74 3 zc_192 (by decide) zs_74 (by decide)) rfl rfl (Nat.le_of_ble_eq_true rfl) (by decide) (fun r110 s111 hr112 hp113 => ?_)
              obtain ⟨hI114, hF115, q116, q117, z118, z119, z120, z121⟩ := hp113
              have e122 := hF115 164 3 rfl
              have hF123 := zOn_tr hF104 hF115 zi_id
              have b124 := zv_46_2 hI114 zc_164
              have b125 := zv_46_3 hI114 zc_164
              have b126 := zv_46_5 hI114 zc_164
              have b127 := zv_46_4 hI114 zc_164
              clear z121
              refine zt_ifne (pc' := 326) (tgt := 337) hX dX12_isOwnHere_323 rfl (by decide) ⟨by omega, by omega⟩ (fun c128 => ?_) (fun c128 => ?_)
              · refine zt_mask [false, false] rfl ?_
                exact J_337_84 s111 hI114 hF123 (by omega) (by omega) (by omega)
              · refine zt_aload_n (pc' := 327) hX dX12_isOwnHere_326 rfl rfl ?_
                refine zt_aload_n (pc' := 328) hX dX12_isOwnHere_327 rfl rfl ?_
                refine zt_get (pc' := 331) (v := .ref (X.1.1 + 193)) hX dX12_isOwnHere_328 rfl zf_X12_99 (by decide) zc_164 zs_46 (zrf_of (zv_46_37 hI114 zc_164)) ?_
                refine zt_cVz (pc' := 334) hX dX12_isOwnHere_331 rfl zm_yX12_isHere zw_26_8 zc_164 (by decide) zs_46 (q := (RX12, TX12, 108)) rfl rfl (zc_X12_isHere _ _ s111 hI114 193 75 3 zc_193 (by decide) zs_75 (by decide)) rfl rfl (Nat.le_of_ble_eq_true rfl) (by decide) (fun r129 s130 hr131 hp132 => ?_)
                obtain ⟨hI133, hF134, q135, q136, z137, z138, z139, z140⟩ := hp132
                have e141 := hF134 164 3 rfl
                have hF142 := zOn_tr hF123 hF134 zi_id
                have b143 := zv_46_2 hI133 zc_164
                have b144 := zv_46_3 hI133 zc_164
                have b145 := zv_46_5 hI133 zc_164
                have b146 := zv_46_4 hI133 zc_164
                clear z140
                refine zt_ifeq (pc' := 337) (tgt := 341) hX dX12_isOwnHere_334 rfl (by decide) ⟨by omega, by omega⟩ (fun c147 => ?_) (fun c147 => ?_)
                · refine zt_iconst (pc' := 342) hX dX12_isOwnHere_341 rfl ?_
                  refine zt_istore_n (pc' := 343) (lv' := [some (.ref (X.1.1 + 164)), some (.int (zI 0))]) hX dX12_isOwnHere_342 rfl hL (by decide) rfl ?_
                  refine zt_iload_n (pc' := 344) hX dX12_isOwnHere_343 rfl rfl ?_
                  exact zt_zret hX hR dX12_isOwnHere_344 ⟨by omega, by omega⟩ ⟨hI133, hF142, by omega, by omega, by omega, by omega⟩
                · refine zt_mask [false, false] rfl ?_
                  exact J_337_84 s130 hI133 hF142 (by omega) (by omega) (by omega)
        have J_294_153 : ∀ (s148 : zSto), zInv s148 → zOn zQ1 σ s148 → (σ 164 2 ≤ s148 164 2 ∧ (σ 164 2 ≤ σ 164 3 → s148 164 2 ≤ σ 164 3)) → s148 164 3 = σ 164 3 → s148 164 5 = σ 164 5 → zF X s148 294 [some (.ref (X.1.1 + 164)), none] [] := by
          intro s148 hI149 hF150 g151 g152 g153
          have b155 := zv_46_2 hI149 zc_164
          have b156 := zv_46_3 hI149 zc_164
          have b157 := zv_46_5 hI149 zc_164
          have b158 := zv_46_4 hI149 zc_164
          refine zt_iconst (pc' := 295) hX dX12_isOwnHere_294 rfl ?_
          refine zt_goto (tgt := 299) hX dX12_isOwnHere_295 (by decide) ?_
          exact J_299_73 1 s148 (by omega) (by omega) hI149 hF150 (by omega) (by omega) (by omega)
        refine zt_ifne (pc' := 228) (tgt := 294) hX dX12_isOwnHere_225 rfl (by decide) ⟨by omega, by omega⟩ (fun c159 => ?_) (fun c159 => ?_)
        · refine zt_mask [true, false] rfl ?_
          exact J_294_153 s54 hI55 hF56 (by omega) (by omega) (by omega)
        · refine zt_aload_n (pc' := 229) hX dX12_isOwnHere_228 rfl rfl ?_
          refine zt_aload_n (pc' := 230) hX dX12_isOwnHere_229 rfl rfl ?_
          refine zt_get (pc' := 233) (v := .ref (X.1.1 + 185)) hX dX12_isOwnHere_230 rfl zf_X12_75 (by decide) zc_164 zs_46 (zrf_of (zv_46_29 hI55 zc_164)) ?_
          refine zt_cVz (pc' := 236) hX dX12_isOwnHere_233 rfl zm_yX12_isHere zw_26_8 zc_164 (by decide) zs_46 (q := (RX12, TX12, 108)) rfl rfl (zc_X12_isHere _ _ s54 hI55 185 67 6 zc_185 (by decide) zs_67 (by decide)) rfl rfl (Nat.le_of_ble_eq_true rfl) (by decide) (fun r160 s161 hr162 hp163 => ?_)
          obtain ⟨hI164, hF165, q166, q167, z168, z169, z170, z171⟩ := hp163
          have e172 := hF165 164 3 rfl
          have hF173 := zOn_tr hF56 hF165 zi_id
          have b174 := zv_46_2 hI164 zc_164
          have b175 := zv_46_3 hI164 zc_164
          have b176 := zv_46_5 hI164 zc_164
          have b177 := zv_46_4 hI164 zc_164
          clear z171
          refine zt_ifne (pc' := 239) (tgt := 294) hX dX12_isOwnHere_236 rfl (by decide) ⟨by omega, by omega⟩ (fun c178 => ?_) (fun c178 => ?_)
          · refine zt_mask [true, false] rfl ?_
            exact J_294_153 s161 hI164 hF173 (by omega) (by omega) (by omega)
          · refine zt_aload_n (pc' := 240) hX dX12_isOwnHere_239 rfl rfl ?_
            refine zt_aload_n (pc' := 241) hX dX12_isOwnHere_240 rfl rfl ?_
            refine zt_get (pc' := 244) (v := .ref (X.1.1 + 186)) hX dX12_isOwnHere_241 rfl zf_X12_78 (by decide) zc_164 zs_46 (zrf_of (zv_46_30 hI164 zc_164)) ?_
            refine zt_cVz (pc' := 247) hX dX12_isOwnHere_244 rfl zm_yX12_isHere zw_26_8 zc_164 (by decide) zs_46 (q := (RX12, TX12, 108)) rfl rfl (zc_X12_isHere _ _ s161 hI164 186 68 3 zc_186 (by decide) zs_68 (by decide)) rfl rfl (Nat.le_of_ble_eq_true rfl) (by decide) (fun r179 s180 hr181 hp182 => ?_)
            obtain ⟨hI183, hF184, q185, q186, z187, z188, z189, z190⟩ := hp182
            have e191 := hF184 164 3 rfl
            have hF192 := zOn_tr hF173 hF184 zi_id
            have b193 := zv_46_2 hI183 zc_164
            have b194 := zv_46_3 hI183 zc_164
            have b195 := zv_46_5 hI183 zc_164
            have b196 := zv_46_4 hI183 zc_164
            clear z190
            refine zt_ifne (pc' := 250) (tgt := 294) hX dX12_isOwnHere_247 rfl (by decide) ⟨by omega, by omega⟩ (fun c197 => ?_) (fun c197 => ?_)
            · refine zt_mask [true, false] rfl ?_
              exact J_294_153 s180 hI183 hF192 (by omega) (by omega) (by omega)
            · refine zt_aload_n (pc' := 251) hX dX12_isOwnHere_250 rfl rfl ?_
              refine zt_aload_n (pc' := 252) hX dX12_isOwnHere_251 rfl rfl ?_
              refine zt_get (pc' := 255) (v := .ref (X.1.1 + 187)) hX dX12_isOwnHere_252 rfl zf_X12_81 (by decide) zc_164 zs_46 (zrf_of (zv_46_31 hI183 zc_164)) ?_
              refine zt_cVz (pc' := 258) hX dX12_isOwnHere_255 rfl zm_yX12_isHere zw_26_8 zc_164 (by decide) zs_46 (q := (RX12, TX12, 108)) rfl rfl (zc_X12_isHere _ _ s180 hI183 187 69 3 zc_187 (by decide) zs_69 (by decide)) rfl rfl (Nat.le_of_ble_eq_true rfl) (by decide) (fun r198 s199 hr200 hp201 => ?_)
              obtain ⟨hI202, hF203, q204, q205, z206, z207, z208, z209⟩ := hp201
              have e210 := hF203 164 3 rfl
              have hF211 := zOn_tr hF192 hF203 zi_id
              have b212 := zv_46_2 hI202 zc_164
              have b213 := zv_46_3 hI202 zc_164
              have b214 := zv_46_5 hI202 zc_164
              have b215 := zv_46_4 hI202 zc_164
              clear z209
              refine zt_ifne (pc' := 261) (tgt := 294) hX dX12_isOwnHere_258 rfl (by decide) ⟨by omega, by omega⟩ (fun c216 => ?_) (fun c216 => ?_)
              · refine zt_mask [true, false] rfl ?_
                exact J_294_153 s199 hI202 hF211 (by omega) (by omega) (by omega)
              · refine zt_aload_n (pc' := 262) hX dX12_isOwnHere_261 rfl rfl ?_
                refine zt_aload_n (pc' := 263) hX dX12_isOwnHere_262 rfl rfl ?_
                refine zt_get (pc' := 266) (v := .ref (X.1.1 + 188)) hX dX12_isOwnHere_263 rfl zf_X12_84 (by decide) zc_164 zs_46 (zrf_of (zv_46_32 hI202 zc_164)) ?_
                refine zt_cVz (pc' := 269) hX dX12_isOwnHere_266 rfl zm_yX12_isHere zw_26_8 zc_164 (by decide) zs_46 (q := (RX12, TX12, 108)) rfl rfl (zc_X12_isHere _ _ s199 hI202 188 70 2 zc_188 (by decide) zs_70 (by decide)) rfl rfl (Nat.le_of_ble_eq_true rfl) (by decide) (fun r217 s218 hr219 hp220 => ?_)
                obtain ⟨hI221, hF222, q223, q224, z225, z226, z227, z228⟩ := hp220
                have e229 := hF222 164 3 rfl
                have hF230 := zOn_tr hF211 hF222 zi_id
                have b231 := zv_46_2 hI221 zc_164
                have b232 := zv_46_3 hI221 zc_164
                have b233 := zv_46_5 hI221 zc_164
                have b234 := zv_46_4 hI221 zc_164
                clear z228
                refine zt_ifne (pc' := 272) (tgt := 294) hX dX12_isOwnHere_269 rfl (by decide) ⟨by omega, by omega⟩ (fun c235 => ?_) (fun c235 => ?_)
                · refine zt_mask [true, false] rfl ?_
                  exact J_294_153 s218 hI221 hF230 (by omega) (by omega) (by omega)
                · refine zt_aload_n (pc' := 273) hX dX12_isOwnHere_272 rfl rfl ?_
                  refine zt_aload_n (pc' := 274) hX dX12_isOwnHere_273 rfl rfl ?_
                  refine zt_get (pc' := 277) (v := .ref (X.1.1 + 189)) hX dX12_isOwnHere_274 rfl zf_X12_87 (by decide) zc_164 zs_46 (zrf_of (zv_46_33 hI221 zc_164)) ?_
                  refine zt_cVz (pc' := 280) hX dX12_isOwnHere_277 rfl zm_yX12_isHere zw_26_8 zc_164 (by decide) zs_46 (q := (RX12, TX12, 108)) rfl rfl (zc_X12_isHere _ _ s218 hI221 189 71 3 zc_189 (by decide) zs_71 (by decide)) rfl rfl (Nat.le_of_ble_eq_true rfl) (by decide) (fun r236 s237 hr238 hp239 => ?_)
                  obtain ⟨hI240, hF241, q242, q243, z244, z245, z246, z247⟩ := hp239
                  have e248 := hF241 164 3 rfl
                  have hF249 := zOn_tr hF230 hF241 zi_id
                  have b250 := zv_46_2 hI240 zc_164
                  have b251 := zv_46_3 hI240 zc_164
                  have b252 := zv_46_5 hI240 zc_164
                  have b253 := zv_46_4 hI240 zc_164
                  clear z247
                  refine zt_ifne (pc' := 283) (tgt := 294) hX dX12_isOwnHere_280 rfl (by decide) ⟨by omega, by omega⟩ (fun c254 => ?_) (fun c254 => ?_)
                  · refine zt_mask [true, false] rfl ?_
                    exact J_294_153 s237 hI240 hF249 (by omega) (by omega) (by omega)
                  · refine zt_aload_n (pc' := 284) hX dX12_isOwnHere_283 rfl rfl ?_
                    refine zt_aload_n (pc' := 285) hX dX12_isOwnHere_284 rfl rfl ?_
                    refine zt_get (pc' := 288) (v := .ref (X.1.1 + 190)) hX dX12_isOwnHere_285 rfl zf_X12_90 (by decide) zc_164 zs_46 (zrf_of (zv_46_34 hI240 zc_164)) ?_
                    refine zt_cVz (pc' := 291) hX dX12_isOwnHere_288 rfl zm_yX12_isHere zw_26_8 zc_164 (by decide) zs_46 (q := (RX12, TX12, 108)) rfl rfl (zc_X12_isHere _ _ s237 hI240 190 72 3 zc_190 (by decide) zs_72 (by decide)) rfl rfl (Nat.le_of_ble_eq_true rfl) (by decide) (fun r255 s256 hr257 hp258 => ?_)
                    obtain ⟨hI259, hF260, q261, q262, z263, z264, z265, z266⟩ := hp258
                    have e267 := hF260 164 3 rfl
                    have hF268 := zOn_tr hF249 hF260 zi_id
                    have b269 := zv_46_2 hI259 zc_164
                    have b270 := zv_46_3 hI259 zc_164
                    have b271 := zv_46_5 hI259 zc_164
                    have b272 := zv_46_4 hI259 zc_164
                    clear z266
                    refine zt_ifeq (pc' := 294) (tgt := 298) hX dX12_isOwnHere_291 rfl (by decide) ⟨by omega, by omega⟩ (fun c273 => ?_) (fun c273 => ?_)
                    · refine zt_iconst (pc' := 299) hX dX12_isOwnHere_298 rfl ?_
                      refine zt_mask [true, false] rfl ?_
                      exact J_299_73 0 s256 (by omega) (by omega) hI259 hF268 (by omega) (by omega) (by omega)
                    · refine zt_mask [true, false] rfl ?_
                      exact J_294_153 s256 hI259 hF268 (by omega) (by omega) (by omega)
      have J_218_279 : ∀ (s274 : zSto), zInv s274 → zOn zQ1 σ s274 → (σ 164 2 ≤ s274 164 2 ∧ (σ 164 2 ≤ σ 164 3 → s274 164 2 ≤ σ 164 3)) → s274 164 3 = σ 164 3 → s274 164 5 = σ 164 5 → zF X s274 218 [some (.ref (X.1.1 + 164)), none] [] := by
        intro s274 hI275 hF276 g277 g278 g279
        have b281 := zv_46_2 hI275 zc_164
        have b282 := zv_46_3 hI275 zc_164
        have b283 := zv_46_5 hI275 zc_164
        have b284 := zv_46_4 hI275 zc_164
        refine zt_iconst (pc' := 219) hX dX12_isOwnHere_218 rfl ?_
        refine zt_goto (tgt := 223) hX dX12_isOwnHere_219 (by decide) ?_
        exact J_223_59 1 s274 (by omega) (by omega) hI275 hF276 (by omega) (by omega) (by omega)
      refine zt_ifne (pc' := 152) (tgt := 218) hX dX12_isOwnHere_149 rfl (by decide) ⟨by omega, by omega⟩ (fun c285 => ?_) (fun c285 => ?_)
      · refine zt_mask [true, false] rfl ?_
        exact J_218_279 s40 hI41 hF42 (by omega) (by omega) (by omega)
      · refine zt_aload_n (pc' := 153) hX dX12_isOwnHere_152 rfl rfl ?_
        refine zt_aload_n (pc' := 154) hX dX12_isOwnHere_153 rfl rfl ?_
        refine zt_get (pc' := 157) (v := .ref (X.1.1 + 179)) hX dX12_isOwnHere_154 rfl zf_X12_57 (by decide) zc_164 zs_46 (zrf_of (zv_46_23 hI41 zc_164)) ?_
        refine zt_cVz (pc' := 160) hX dX12_isOwnHere_157 rfl zm_yX12_isHere zw_26_8 zc_164 (by decide) zs_46 (q := (RX12, TX12, 108)) rfl rfl (zc_X12_isHere _ _ s40 hI41 179 61 4 zc_179 (by decide) zs_61 (by decide)) rfl rfl (Nat.le_of_ble_eq_true rfl) (by decide) (fun r286 s287 hr288 hp289 => ?_)
        obtain ⟨hI290, hF291, q292, q293, z294, z295, z296, z297⟩ := hp289
        have e298 := hF291 164 3 rfl
        have hF299 := zOn_tr hF42 hF291 zi_id
        have b300 := zv_46_2 hI290 zc_164
        have b301 := zv_46_3 hI290 zc_164
        have b302 := zv_46_5 hI290 zc_164
        have b303 := zv_46_4 hI290 zc_164
        clear z297
        refine zt_ifne (pc' := 163) (tgt := 218) hX dX12_isOwnHere_160 rfl (by decide) ⟨by omega, by omega⟩ (fun c304 => ?_) (fun c304 => ?_)
        · refine zt_mask [true, false] rfl ?_
          exact J_218_279 s287 hI290 hF299 (by omega) (by omega) (by omega)
        · refine zt_aload_n (pc' := 164) hX dX12_isOwnHere_163 rfl rfl ?_
          refine zt_aload_n (pc' := 165) hX dX12_isOwnHere_164 rfl rfl ?_
          refine zt_get (pc' := 168) (v := .ref (X.1.1 + 180)) hX dX12_isOwnHere_165 rfl zf_X12_60 (by decide) zc_164 zs_46 (zrf_of (zv_46_24 hI290 zc_164)) ?_
          refine zt_cVz (pc' := 171) hX dX12_isOwnHere_168 rfl zm_yX12_isHere zw_26_8 zc_164 (by decide) zs_46 (q := (RX12, TX12, 108)) rfl rfl (zc_X12_isHere _ _ s287 hI290 180 62 6 zc_180 (by decide) zs_62 (by decide)) rfl rfl (Nat.le_of_ble_eq_true rfl) (by decide) (fun r305 s306 hr307 hp308 => ?_)
          obtain ⟨hI309, hF310, q311, q312, z313, z314, z315, z316⟩ := hp308
          have e317 := hF310 164 3 rfl
          have hF318 := zOn_tr hF299 hF310 zi_id
          have b319 := zv_46_2 hI309 zc_164
          have b320 := zv_46_3 hI309 zc_164
          have b321 := zv_46_5 hI309 zc_164
          have b322 := zv_46_4 hI309 zc_164
          clear z316
          refine zt_ifne (pc' := 174) (tgt := 218) hX dX12_isOwnHere_171 rfl (by decide) ⟨by omega, by omega⟩ (fun c323 => ?_) (fun c323 => ?_)
          · refine zt_mask [true, false] rfl ?_
            exact J_218_279 s306 hI309 hF318 (by omega) (by omega) (by omega)
          · refine zt_aload_n (pc' := 175) hX dX12_isOwnHere_174 rfl rfl ?_
            refine zt_aload_n (pc' := 176) hX dX12_isOwnHere_175 rfl rfl ?_
            refine zt_get (pc' := 179) (v := .ref (X.1.1 + 181)) hX dX12_isOwnHere_176 rfl zf_X12_63 (by decide) zc_164 zs_46 (zrf_of (zv_46_25 hI309 zc_164)) ?_
            refine zt_cVz (pc' := 182) hX dX12_isOwnHere_179 rfl zm_yX12_isHere zw_26_8 zc_164 (by decide) zs_46 (q := (RX12, TX12, 108)) rfl rfl (zc_X12_isHere _ _ s306 hI309 181 63 6 zc_181 (by decide) zs_63 (by decide)) rfl rfl (Nat.le_of_ble_eq_true rfl) (by decide) (fun r324 s325 hr326 hp327 => ?_)
            obtain ⟨hI328, hF329, q330, q331, z332, z333, z334, z335⟩ := hp327
            have e336 := hF329 164 3 rfl
            have hF337 := zOn_tr hF318 hF329 zi_id
            have b338 := zv_46_2 hI328 zc_164
            have b339 := zv_46_3 hI328 zc_164
            have b340 := zv_46_5 hI328 zc_164
            have b341 := zv_46_4 hI328 zc_164
            clear z335
            refine zt_ifne (pc' := 185) (tgt := 218) hX dX12_isOwnHere_182 rfl (by decide) ⟨by omega, by omega⟩ (fun c342 => ?_) (fun c342 => ?_)
            · refine zt_mask [true, false] rfl ?_
              exact J_218_279 s325 hI328 hF337 (by omega) (by omega) (by omega)
            · refine zt_aload_n (pc' := 186) hX dX12_isOwnHere_185 rfl rfl ?_
              refine zt_aload_n (pc' := 187) hX dX12_isOwnHere_186 rfl rfl ?_
              refine zt_get (pc' := 190) (v := .ref (X.1.1 + 182)) hX dX12_isOwnHere_187 rfl zf_X12_66 (by decide) zc_164 zs_46 (zrf_of (zv_46_26 hI328 zc_164)) ?_
              refine zt_cVz (pc' := 193) hX dX12_isOwnHere_190 rfl zm_yX12_isHere zw_26_8 zc_164 (by decide) zs_46 (q := (RX12, TX12, 108)) rfl rfl (zc_X12_isHere _ _ s325 hI328 182 64 5 zc_182 (by decide) zs_64 (by decide)) rfl rfl (Nat.le_of_ble_eq_true rfl) (by decide) (fun r343 s344 hr345 hp346 => ?_)
              obtain ⟨hI347, hF348, q349, q350, z351, z352, z353, z354⟩ := hp346
              have e355 := hF348 164 3 rfl
              have hF356 := zOn_tr hF337 hF348 zi_id
              have b357 := zv_46_2 hI347 zc_164
              have b358 := zv_46_3 hI347 zc_164
              have b359 := zv_46_5 hI347 zc_164
              have b360 := zv_46_4 hI347 zc_164
              clear z354
              refine zt_ifne (pc' := 196) (tgt := 218) hX dX12_isOwnHere_193 rfl (by decide) ⟨by omega, by omega⟩ (fun c361 => ?_) (fun c361 => ?_)
              · refine zt_mask [true, false] rfl ?_
                exact J_218_279 s344 hI347 hF356 (by omega) (by omega) (by omega)
              · refine zt_aload_n (pc' := 197) hX dX12_isOwnHere_196 rfl rfl ?_
                refine zt_aload_n (pc' := 198) hX dX12_isOwnHere_197 rfl rfl ?_
                refine zt_get (pc' := 201) (v := .ref (X.1.1 + 183)) hX dX12_isOwnHere_198 rfl zf_X12_69 (by decide) zc_164 zs_46 (zrf_of (zv_46_27 hI347 zc_164)) ?_
                refine zt_cVz (pc' := 204) hX dX12_isOwnHere_201 rfl zm_yX12_isHere zw_26_8 zc_164 (by decide) zs_46 (q := (RX12, TX12, 108)) rfl rfl (zc_X12_isHere _ _ s344 hI347 183 65 4 zc_183 (by decide) zs_65 (by decide)) rfl rfl (Nat.le_of_ble_eq_true rfl) (by decide) (fun r362 s363 hr364 hp365 => ?_)
                obtain ⟨hI366, hF367, q368, q369, z370, z371, z372, z373⟩ := hp365
                have e374 := hF367 164 3 rfl
                have hF375 := zOn_tr hF356 hF367 zi_id
                have b376 := zv_46_2 hI366 zc_164
                have b377 := zv_46_3 hI366 zc_164
                have b378 := zv_46_5 hI366 zc_164
                have b379 := zv_46_4 hI366 zc_164
                clear z373
                refine zt_ifne (pc' := 207) (tgt := 218) hX dX12_isOwnHere_204 rfl (by decide) ⟨by omega, by omega⟩ (fun c380 => ?_) (fun c380 => ?_)
                · refine zt_mask [true, false] rfl ?_
                  exact J_218_279 s363 hI366 hF375 (by omega) (by omega) (by omega)
                · refine zt_aload_n (pc' := 208) hX dX12_isOwnHere_207 rfl rfl ?_
                  refine zt_aload_n (pc' := 209) hX dX12_isOwnHere_208 rfl rfl ?_
                  refine zt_get (pc' := 212) (v := .ref (X.1.1 + 184)) hX dX12_isOwnHere_209 rfl zf_X12_72 (by decide) zc_164 zs_46 (zrf_of (zv_46_28 hI366 zc_164)) ?_
                  refine zt_cVz (pc' := 215) hX dX12_isOwnHere_212 rfl zm_yX12_isHere zw_26_8 zc_164 (by decide) zs_46 (q := (RX12, TX12, 108)) rfl rfl (zc_X12_isHere _ _ s363 hI366 184 66 6 zc_184 (by decide) zs_66 (by decide)) rfl rfl (Nat.le_of_ble_eq_true rfl) (by decide) (fun r381 s382 hr383 hp384 => ?_)
                  obtain ⟨hI385, hF386, q387, q388, z389, z390, z391, z392⟩ := hp384
                  have e393 := hF386 164 3 rfl
                  have hF394 := zOn_tr hF375 hF386 zi_id
                  have b395 := zv_46_2 hI385 zc_164
                  have b396 := zv_46_3 hI385 zc_164
                  have b397 := zv_46_5 hI385 zc_164
                  have b398 := zv_46_4 hI385 zc_164
                  clear z392
                  refine zt_ifeq (pc' := 218) (tgt := 222) hX dX12_isOwnHere_215 rfl (by decide) ⟨by omega, by omega⟩ (fun c399 => ?_) (fun c399 => ?_)
                  · refine zt_iconst (pc' := 223) hX dX12_isOwnHere_222 rfl ?_
                    refine zt_mask [true, false] rfl ?_
                    exact J_223_59 0 s382 (by omega) (by omega) hI385 hF394 (by omega) (by omega) (by omega)
                  · refine zt_mask [true, false] rfl ?_
                    exact J_218_279 s382 hI385 hF394 (by omega) (by omega) (by omega)
    have J_142_405 : ∀ (s400 : zSto), zInv s400 → zOn zQ1 σ s400 → (σ 164 2 ≤ s400 164 2 ∧ (σ 164 2 ≤ σ 164 3 → s400 164 2 ≤ σ 164 3)) → s400 164 3 = σ 164 3 → s400 164 5 = σ 164 5 → zF X s400 142 [some (.ref (X.1.1 + 164)), none] [] := by
      intro s400 hI401 hF402 g403 g404 g405
      have b407 := zv_46_2 hI401 zc_164
      have b408 := zv_46_3 hI401 zc_164
      have b409 := zv_46_5 hI401 zc_164
      have b410 := zv_46_4 hI401 zc_164
      refine zt_iconst (pc' := 143) hX dX12_isOwnHere_142 rfl ?_
      refine zt_goto (tgt := 147) hX dX12_isOwnHere_143 (by decide) ?_
      exact J_147_45 1 s400 (by omega) (by omega) hI401 hF402 (by omega) (by omega) (by omega)
    refine zt_ifne (pc' := 76) (tgt := 142) hX dX12_isOwnHere_73 rfl (by decide) ⟨by omega, by omega⟩ (fun c411 => ?_) (fun c411 => ?_)
    · refine zt_mask [true, false] rfl ?_
      exact J_142_405 s26 hI27 hF28 (by omega) (by omega) (by omega)
    · refine zt_aload_n (pc' := 77) hX dX12_isOwnHere_76 rfl rfl ?_
      refine zt_aload_n (pc' := 78) hX dX12_isOwnHere_77 rfl rfl ?_
      refine zt_get (pc' := 81) (v := .ref (X.1.1 + 173)) hX dX12_isOwnHere_78 rfl zf_X12_39 (by decide) zc_164 zs_46 (zrf_of (zv_46_17 hI27 zc_164)) ?_
      refine zt_cVz (pc' := 84) hX dX12_isOwnHere_81 rfl zm_yX12_isHere zw_26_8 zc_164 (by decide) zs_46 (q := (RX12, TX12, 108)) rfl rfl (zc_X12_isHere _ _ s26 hI27 173 55 5 zc_173 (by decide) zs_55 (by decide)) rfl rfl (Nat.le_of_ble_eq_true rfl) (by decide) (fun r412 s413 hr414 hp415 => ?_)
      obtain ⟨hI416, hF417, q418, q419, z420, z421, z422, z423⟩ := hp415
      have e424 := hF417 164 3 rfl
      have hF425 := zOn_tr hF28 hF417 zi_id
      have b426 := zv_46_2 hI416 zc_164
      have b427 := zv_46_3 hI416 zc_164
      have b428 := zv_46_5 hI416 zc_164
      have b429 := zv_46_4 hI416 zc_164
      clear z423
      refine zt_ifne (pc' := 87) (tgt := 142) hX dX12_isOwnHere_84 rfl (by decide) ⟨by omega, by omega⟩ (fun c430 => ?_) (fun c430 => ?_)
      · refine zt_mask [true, false] rfl ?_
        exact J_142_405 s413 hI416 hF425 (by omega) (by omega) (by omega)
      · refine zt_aload_n (pc' := 88) hX dX12_isOwnHere_87 rfl rfl ?_
        refine zt_aload_n (pc' := 89) hX dX12_isOwnHere_88 rfl rfl ?_
        refine zt_get (pc' := 92) (v := .ref (X.1.1 + 174)) hX dX12_isOwnHere_89 rfl zf_X12_42 (by decide) zc_164 zs_46 (zrf_of (zv_46_18 hI416 zc_164)) ?_
        refine zt_cVz (pc' := 95) hX dX12_isOwnHere_92 rfl zm_yX12_isHere zw_26_8 zc_164 (by decide) zs_46 (q := (RX12, TX12, 108)) rfl rfl (zc_X12_isHere _ _ s413 hI416 174 56 4 zc_174 (by decide) zs_56 (by decide)) rfl rfl (Nat.le_of_ble_eq_true rfl) (by decide) (fun r431 s432 hr433 hp434 => ?_)
        obtain ⟨hI435, hF436, q437, q438, z439, z440, z441, z442⟩ := hp434
        have e443 := hF436 164 3 rfl
        have hF444 := zOn_tr hF425 hF436 zi_id
        have b445 := zv_46_2 hI435 zc_164
        have b446 := zv_46_3 hI435 zc_164
        have b447 := zv_46_5 hI435 zc_164
        have b448 := zv_46_4 hI435 zc_164
        clear z442
        refine zt_ifne (pc' := 98) (tgt := 142) hX dX12_isOwnHere_95 rfl (by decide) ⟨by omega, by omega⟩ (fun c449 => ?_) (fun c449 => ?_)
        · refine zt_mask [true, false] rfl ?_
          exact J_142_405 s432 hI435 hF444 (by omega) (by omega) (by omega)
        · refine zt_aload_n (pc' := 99) hX dX12_isOwnHere_98 rfl rfl ?_
          refine zt_aload_n (pc' := 100) hX dX12_isOwnHere_99 rfl rfl ?_
          refine zt_get (pc' := 103) (v := .ref (X.1.1 + 175)) hX dX12_isOwnHere_100 rfl zf_X12_45 (by decide) zc_164 zs_46 (zrf_of (zv_46_19 hI435 zc_164)) ?_
          refine zt_cVz (pc' := 106) hX dX12_isOwnHere_103 rfl zm_yX12_isHere zw_26_8 zc_164 (by decide) zs_46 (q := (RX12, TX12, 108)) rfl rfl (zc_X12_isHere _ _ s432 hI435 175 57 5 zc_175 (by decide) zs_57 (by decide)) rfl rfl (Nat.le_of_ble_eq_true rfl) (by decide) (fun r450 s451 hr452 hp453 => ?_)
          obtain ⟨hI454, hF455, q456, q457, z458, z459, z460, z461⟩ := hp453
          have e462 := hF455 164 3 rfl
          have hF463 := zOn_tr hF444 hF455 zi_id
          have b464 := zv_46_2 hI454 zc_164
          have b465 := zv_46_3 hI454 zc_164
          have b466 := zv_46_5 hI454 zc_164
          have b467 := zv_46_4 hI454 zc_164
          clear z461
          refine zt_ifne (pc' := 109) (tgt := 142) hX dX12_isOwnHere_106 rfl (by decide) ⟨by omega, by omega⟩ (fun c468 => ?_) (fun c468 => ?_)
          · refine zt_mask [true, false] rfl ?_
            exact J_142_405 s451 hI454 hF463 (by omega) (by omega) (by omega)
          · refine zt_aload_n (pc' := 110) hX dX12_isOwnHere_109 rfl rfl ?_
            refine zt_aload_n (pc' := 111) hX dX12_isOwnHere_110 rfl rfl ?_
            refine zt_get (pc' := 114) (v := .ref (X.1.1 + 176)) hX dX12_isOwnHere_111 rfl zf_X12_48 (by decide) zc_164 zs_46 (zrf_of (zv_46_20 hI454 zc_164)) ?_
            refine zt_cVz (pc' := 117) hX dX12_isOwnHere_114 rfl zm_yX12_isHere zw_26_8 zc_164 (by decide) zs_46 (q := (RX12, TX12, 108)) rfl rfl (zc_X12_isHere _ _ s451 hI454 176 58 5 zc_176 (by decide) zs_58 (by decide)) rfl rfl (Nat.le_of_ble_eq_true rfl) (by decide) (fun r469 s470 hr471 hp472 => ?_)
            obtain ⟨hI473, hF474, q475, q476, z477, z478, z479, z480⟩ := hp472
            have e481 := hF474 164 3 rfl
            have hF482 := zOn_tr hF463 hF474 zi_id
            have b483 := zv_46_2 hI473 zc_164
            have b484 := zv_46_3 hI473 zc_164
            have b485 := zv_46_5 hI473 zc_164
            have b486 := zv_46_4 hI473 zc_164
            clear z480
            refine zt_ifne (pc' := 120) (tgt := 142) hX dX12_isOwnHere_117 rfl (by decide) ⟨by omega, by omega⟩ (fun c487 => ?_) (fun c487 => ?_)
            · refine zt_mask [true, false] rfl ?_
              exact J_142_405 s470 hI473 hF482 (by omega) (by omega) (by omega)
            · refine zt_aload_n (pc' := 121) hX dX12_isOwnHere_120 rfl rfl ?_
              refine zt_aload_n (pc' := 122) hX dX12_isOwnHere_121 rfl rfl ?_
              refine zt_get (pc' := 125) (v := .ref (X.1.1 + 177)) hX dX12_isOwnHere_122 rfl zf_X12_51 (by decide) zc_164 zs_46 (zrf_of (zv_46_21 hI473 zc_164)) ?_
              refine zt_cVz (pc' := 128) hX dX12_isOwnHere_125 rfl zm_yX12_isHere zw_26_8 zc_164 (by decide) zs_46 (q := (RX12, TX12, 108)) rfl rfl (zc_X12_isHere _ _ s470 hI473 177 59 5 zc_177 (by decide) zs_59 (by decide)) rfl rfl (Nat.le_of_ble_eq_true rfl) (by decide) (fun r488 s489 hr490 hp491 => ?_)
              obtain ⟨hI492, hF493, q494, q495, z496, z497, z498, z499⟩ := hp491
              have e500 := hF493 164 3 rfl
              have hF501 := zOn_tr hF482 hF493 zi_id
              have b502 := zv_46_2 hI492 zc_164
              have b503 := zv_46_3 hI492 zc_164
              have b504 := zv_46_5 hI492 zc_164
              have b505 := zv_46_4 hI492 zc_164
              clear z499
              refine zt_ifne (pc' := 131) (tgt := 142) hX dX12_isOwnHere_128 rfl (by decide) ⟨by omega, by omega⟩ (fun c506 => ?_) (fun c506 => ?_)
              · refine zt_mask [true, false] rfl ?_
                exact J_142_405 s489 hI492 hF501 (by omega) (by omega) (by omega)
              · refine zt_aload_n (pc' := 132) hX dX12_isOwnHere_131 rfl rfl ?_
                refine zt_aload_n (pc' := 133) hX dX12_isOwnHere_132 rfl rfl ?_
                refine zt_get (pc' := 136) (v := .ref (X.1.1 + 178)) hX dX12_isOwnHere_133 rfl zf_X12_54 (by decide) zc_164 zs_46 (zrf_of (zv_46_22 hI492 zc_164)) ?_
                refine zt_cVz (pc' := 139) hX dX12_isOwnHere_136 rfl zm_yX12_isHere zw_26_8 zc_164 (by decide) zs_46 (q := (RX12, TX12, 108)) rfl rfl (zc_X12_isHere _ _ s489 hI492 178 60 4 zc_178 (by decide) zs_60 (by decide)) rfl rfl (Nat.le_of_ble_eq_true rfl) (by decide) (fun r507 s508 hr509 hp510 => ?_)
                obtain ⟨hI511, hF512, q513, q514, z515, z516, z517, z518⟩ := hp510
                have e519 := hF512 164 3 rfl
                have hF520 := zOn_tr hF501 hF512 zi_id
                have b521 := zv_46_2 hI511 zc_164
                have b522 := zv_46_3 hI511 zc_164
                have b523 := zv_46_5 hI511 zc_164
                have b524 := zv_46_4 hI511 zc_164
                clear z518
                refine zt_ifeq (pc' := 142) (tgt := 146) hX dX12_isOwnHere_139 rfl (by decide) ⟨by omega, by omega⟩ (fun c525 => ?_) (fun c525 => ?_)
                · refine zt_iconst (pc' := 147) hX dX12_isOwnHere_146 rfl ?_
                  refine zt_mask [true, false] rfl ?_
                  exact J_147_45 0 s508 (by omega) (by omega) hI511 hF520 (by omega) (by omega) (by omega)
                · refine zt_mask [true, false] rfl ?_
                  exact J_142_405 s508 hI511 hF520 (by omega) (by omega) (by omega)
  have J_66_531 : ∀ (s526 : zSto), zInv s526 → zOn zQ1 σ s526 → (σ 164 2 ≤ s526 164 2 ∧ (σ 164 2 ≤ σ 164 3 → s526 164 2 ≤ σ 164 3)) → s526 164 3 = σ 164 3 → s526 164 5 = σ 164 5 → zF X s526 66 [some (.ref (X.1.1 + 164)), none] [] := by
    intro s526 hI527 hF528 g529 g530 g531
    have b533 := zv_46_2 hI527 zc_164
    have b534 := zv_46_3 hI527 zc_164
    have b535 := zv_46_5 hI527 zc_164
    have b536 := zv_46_4 hI527 zc_164
    refine zt_iconst (pc' := 67) hX dX12_isOwnHere_66 rfl ?_
    refine zt_goto (tgt := 71) hX dX12_isOwnHere_67 (by decide) ?_
    exact J_71_31 1 s526 (by omega) (by omega) hI527 hF528 (by omega) (by omega) (by omega)
  refine zt_ifne (pc' := 11) (tgt := 66) hX dX12_isOwnHere_8 rfl (by decide) ⟨by omega, by omega⟩ (fun c537 => ?_) (fun c537 => ?_)
  · exact J_66_531 s6 hI9 hF18 (by omega) (by omega) (by omega)
  · refine zt_aload_n (pc' := 12) hX dX12_isOwnHere_11 rfl rfl ?_
    refine zt_aload_n (pc' := 13) hX dX12_isOwnHere_12 rfl rfl ?_
    refine zt_get (pc' := 16) (v := .ref (X.1.1 + 168)) hX dX12_isOwnHere_13 rfl zf_X12_24 (by decide) zc_164 zs_46 (zrf_of (zv_46_12 hI9 zc_164)) ?_
    refine zt_cVz (pc' := 19) hX dX12_isOwnHere_16 rfl zm_yX12_isHere zw_26_8 zc_164 (by decide) zs_46 (q := (RX12, TX12, 108)) rfl rfl (zc_X12_isHere _ _ s6 hI9 168 50 2 zc_168 (by decide) zs_50 (by decide)) rfl rfl (Nat.le_of_ble_eq_true rfl) (by decide) (fun r538 s539 hr540 hp541 => ?_)
    obtain ⟨hI542, hF543, q544, q545, z546, z547, z548, z549⟩ := hp541
    have e550 := hF543 164 3 rfl
    have hF551 := zOn_tr hF18 hF543 zi_id
    have b552 := zv_46_2 hI542 zc_164
    have b553 := zv_46_3 hI542 zc_164
    have b554 := zv_46_5 hI542 zc_164
    have b555 := zv_46_4 hI542 zc_164
    clear z549
    refine zt_ifne (pc' := 22) (tgt := 66) hX dX12_isOwnHere_19 rfl (by decide) ⟨by omega, by omega⟩ (fun c556 => ?_) (fun c556 => ?_)
    · exact J_66_531 s539 hI542 hF551 (by omega) (by omega) (by omega)
    · refine zt_aload_n (pc' := 23) hX dX12_isOwnHere_22 rfl rfl ?_
      refine zt_aload_n (pc' := 24) hX dX12_isOwnHere_23 rfl rfl ?_
      refine zt_get (pc' := 27) (v := .ref (X.1.1 + 169)) hX dX12_isOwnHere_24 rfl zf_X12_27 (by decide) zc_164 zs_46 (zrf_of (zv_46_13 hI542 zc_164)) ?_
      refine zt_cVz (pc' := 30) hX dX12_isOwnHere_27 rfl zm_yX12_isHere zw_26_8 zc_164 (by decide) zs_46 (q := (RX12, TX12, 108)) rfl rfl (zc_X12_isHere _ _ s539 hI542 169 51 5 zc_169 (by decide) zs_51 (by decide)) rfl rfl (Nat.le_of_ble_eq_true rfl) (by decide) (fun r557 s558 hr559 hp560 => ?_)
      obtain ⟨hI561, hF562, q563, q564, z565, z566, z567, z568⟩ := hp560
      have e569 := hF562 164 3 rfl
      have hF570 := zOn_tr hF551 hF562 zi_id
      have b571 := zv_46_2 hI561 zc_164
      have b572 := zv_46_3 hI561 zc_164
      have b573 := zv_46_5 hI561 zc_164
      have b574 := zv_46_4 hI561 zc_164
      clear z568
      refine zt_ifne (pc' := 33) (tgt := 66) hX dX12_isOwnHere_30 rfl (by decide) ⟨by omega, by omega⟩ (fun c575 => ?_) (fun c575 => ?_)
      · exact J_66_531 s558 hI561 hF570 (by omega) (by omega) (by omega)
      · refine zt_aload_n (pc' := 34) hX dX12_isOwnHere_33 rfl rfl ?_
        refine zt_aload_n (pc' := 35) hX dX12_isOwnHere_34 rfl rfl ?_
        refine zt_get (pc' := 38) (v := .ref (X.1.1 + 170)) hX dX12_isOwnHere_35 rfl zf_X12_30 (by decide) zc_164 zs_46 (zrf_of (zv_46_14 hI561 zc_164)) ?_
        refine zt_cVz (pc' := 41) hX dX12_isOwnHere_38 rfl zm_yX12_isHere zw_26_8 zc_164 (by decide) zs_46 (q := (RX12, TX12, 108)) rfl rfl (zc_X12_isHere _ _ s558 hI561 170 52 5 zc_170 (by decide) zs_52 (by decide)) rfl rfl (Nat.le_of_ble_eq_true rfl) (by decide) (fun r576 s577 hr578 hp579 => ?_)
        obtain ⟨hI580, hF581, q582, q583, z584, z585, z586, z587⟩ := hp579
        have e588 := hF581 164 3 rfl
        have hF589 := zOn_tr hF570 hF581 zi_id
        have b590 := zv_46_2 hI580 zc_164
        have b591 := zv_46_3 hI580 zc_164
        have b592 := zv_46_5 hI580 zc_164
        have b593 := zv_46_4 hI580 zc_164
        clear z587
        refine zt_ifne (pc' := 44) (tgt := 66) hX dX12_isOwnHere_41 rfl (by decide) ⟨by omega, by omega⟩ (fun c594 => ?_) (fun c594 => ?_)
        · exact J_66_531 s577 hI580 hF589 (by omega) (by omega) (by omega)
        · refine zt_aload_n (pc' := 45) hX dX12_isOwnHere_44 rfl rfl ?_
          refine zt_aload_n (pc' := 46) hX dX12_isOwnHere_45 rfl rfl ?_
          refine zt_get (pc' := 49) (v := .ref (X.1.1 + 171)) hX dX12_isOwnHere_46 rfl zf_X12_33 (by decide) zc_164 zs_46 (zrf_of (zv_46_15 hI580 zc_164)) ?_
          refine zt_cVz (pc' := 52) hX dX12_isOwnHere_49 rfl zm_yX12_isHere zw_26_8 zc_164 (by decide) zs_46 (q := (RX12, TX12, 108)) rfl rfl (zc_X12_isHere _ _ s577 hI580 171 53 4 zc_171 (by decide) zs_53 (by decide)) rfl rfl (Nat.le_of_ble_eq_true rfl) (by decide) (fun r595 s596 hr597 hp598 => ?_)
          obtain ⟨hI599, hF600, q601, q602, z603, z604, z605, z606⟩ := hp598
          have e607 := hF600 164 3 rfl
          have hF608 := zOn_tr hF589 hF600 zi_id
          have b609 := zv_46_2 hI599 zc_164
          have b610 := zv_46_3 hI599 zc_164
          have b611 := zv_46_5 hI599 zc_164
          have b612 := zv_46_4 hI599 zc_164
          clear z606
          refine zt_ifne (pc' := 55) (tgt := 66) hX dX12_isOwnHere_52 rfl (by decide) ⟨by omega, by omega⟩ (fun c613 => ?_) (fun c613 => ?_)
          · exact J_66_531 s596 hI599 hF608 (by omega) (by omega) (by omega)
          · refine zt_aload_n (pc' := 56) hX dX12_isOwnHere_55 rfl rfl ?_
            refine zt_aload_n (pc' := 57) hX dX12_isOwnHere_56 rfl rfl ?_
            refine zt_get (pc' := 60) (v := .ref (X.1.1 + 172)) hX dX12_isOwnHere_57 rfl zf_X12_36 (by decide) zc_164 zs_46 (zrf_of (zv_46_16 hI599 zc_164)) ?_
            refine zt_cVz (pc' := 63) hX dX12_isOwnHere_60 rfl zm_yX12_isHere zw_26_8 zc_164 (by decide) zs_46 (q := (RX12, TX12, 108)) rfl rfl (zc_X12_isHere _ _ s596 hI599 172 54 2 zc_172 (by decide) zs_54 (by decide)) rfl rfl (Nat.le_of_ble_eq_true rfl) (by decide) (fun r614 s615 hr616 hp617 => ?_)
            obtain ⟨hI618, hF619, q620, q621, z622, z623, z624, z625⟩ := hp617
            have e626 := hF619 164 3 rfl
            have hF627 := zOn_tr hF608 hF619 zi_id
            have b628 := zv_46_2 hI618 zc_164
            have b629 := zv_46_3 hI618 zc_164
            have b630 := zv_46_5 hI618 zc_164
            have b631 := zv_46_4 hI618 zc_164
            clear z625
            refine zt_ifeq (pc' := 66) (tgt := 70) hX dX12_isOwnHere_63 rfl (by decide) ⟨by omega, by omega⟩ (fun c632 => ?_) (fun c632 => ?_)
            · refine zt_iconst (pc' := 71) hX dX12_isOwnHere_70 rfl ?_
              exact J_71_31 0 s615 (by omega) (by omega) hI618 hF627 (by omega) (by omega) (by omega)
            · exact J_66_531 s615 hI618 hF627 (by omega) (by omega) (by omega)

set_option maxRecDepth 100000 in
set_option maxHeartbeats 4000000 in
theorem zc_X12_name (l : Launch) (E : zEN) (σ : zSto) (hI : zInv σ)  : zCt l E yX12_name cX12_name 3 (some .long) 3 zNC zNC 0 0 σ [.ref (E.1 + 164)] (fun r σ' => zInv σ' ∧ zOn zQ1 σ σ' ∧ -9223372036854775808 ≤ r ∧ r ≤ 9223372036854775807 ∧ (σ 164 2 ≤ σ' 164 2 ∧ (σ 164 2 ≤ σ 164 3 → σ' 164 2 ≤ σ 164 3)) ∧ (σ' 164 5 = 0 → σ 164 5 = 0)) := by
  refine zCt_of2 [some (.ref (E.1 + 164)), none, none] (by decide +kernel) (Nat.le_of_ble_eq_true rfl) rfl ?_
  intro X hE hX hR hL hN
  subst hE
  have hX : zok X cX12_name RX12 3 := hX
  have hF := zOn_rf zQ1 σ
  have b1 := zv_46_2 hI zc_164
  have b2 := zv_46_3 hI zc_164
  have b3 := zv_46_5 hI zc_164
  have b4 := zv_46_4 hI zc_164
  refine zt_aload_n (pc' := 1) hX dX12_name_0 rfl rfl ?_
  have b5 := zv_46_5 hI zc_164
  refine zt_get (pc' := 4) (v := .int (zI (σ 164 5))) hX dX12_name_1 rfl zf_X12_246 (by decide) zc_164 zs_46 rfl ?_
  refine zt_ifeq (pc' := 7) (tgt := 9) hX dX12_name_4 rfl (by decide) ⟨by omega, by omega⟩ (fun c6 => ?_) (fun c6 => ?_)
  · refine zt_aload_n (pc' := 10) hX dX12_name_9 rfl rfl ?_
    refine zt_cVi (pc' := 13) hX dX12_name_10 rfl zm_yX12_look zw_26_12 zc_164 (by decide) zs_46 (q := (RX12, TX12, 108)) rfl rfl (zc_X12_look _ _ σ hI ) rfl rfl (Nat.le_of_ble_eq_true rfl) (by decide) (fun r7 s8 hr9 hp10 => ?_)
    obtain ⟨hI11, hF12, q13, q14, z15, z16, z17, z18⟩ := hp10
    have e19 := hF12 164 3 rfl
    have hF20 := zOn_tr hF hF12 zi_id
    have b21 := zv_46_2 hI11 zc_164
    have b22 := zv_46_3 hI11 zc_164
    have b23 := zv_46_5 hI11 zc_164
    have b24 := zv_46_4 hI11 zc_164
    clear z18
    refine zt_cSz (pc' := 16) hX dX12_name_13 rfl zm_yX12_isLetter zw_26_16 (zc_X12_isLetter _ _ s8  r7 ⟨by omega, by omega⟩) rfl rfl (Nat.le_of_ble_eq_true rfl) (by decide) (fun r25 s26 hr27 hp28 => ?_)
    obtain ⟨rfl, q29, q30, z31⟩ := hp28
    have J_37_37 : ∀ (s32 : zSto), zInv s32 → zOn zQ1 σ s32 → (σ 164 2 ≤ s32 164 2 ∧ (σ 164 2 ≤ σ 164 3 → s32 164 2 ≤ σ 164 3)) → s32 164 3 = σ 164 3 → s32 164 5 = σ 164 5 → zF X s32 37 [some (.ref (X.1.1 + 164)), none, none] [] := by
      intro s32 hI33 hF34 g35 g36 g37
      have b39 := zv_46_2 hI33 zc_164
      have b40 := zv_46_3 hI33 zc_164
      have b41 := zv_46_5 hI33 zc_164
      have b42 := zv_46_4 hI33 zc_164
      refine zt_aload_n (pc' := 38) hX dX12_name_37 rfl rfl ?_
      refine zt_iconst (pc' := 39) hX dX12_name_38 rfl ?_
      refine zt_aload_n (pc' := 40) hX dX12_name_39 rfl rfl ?_
      have b43 := zv_46_2 hI33 zc_164
      refine zt_get (pc' := 43) (v := .int (zI (s32 164 2))) hX dX12_name_40 rfl zf_X12_252 (by decide) zc_164 zs_46 rfl ?_
      refine zt_cVv (pc' := 46) hX dX12_name_43 rfl zm_yX12_fail zw_26_19 zc_164 (by decide) zs_46 (q := (RX12, TX12, 108)) rfl rfl (zc_X12_fail _ _ s32 hI33 1 ⟨by omega, by omega⟩ (s32 164 2) ⟨by omega, by omega⟩) rfl rfl (Nat.le_of_ble_eq_true rfl) (by decide) (fun r44 s45 hr46 hp47 => ?_)
      obtain ⟨hI48, hF49, z50, z51⟩ := hp47
      have e52 := hF49 164 3 rfl
      have hF53 := zOn_tr hF34 hF49 zi_id
      have b54 := zv_46_2 hI48 zc_164
      have b55 := zv_46_3 hI48 zc_164
      have b56 := zv_46_5 hI48 zc_164
      have b57 := zv_46_4 hI48 zc_164
      refine zt_lconst (pc' := 47) (y := 0) hX dX12_name_46 rfl (by decide +kernel) ?_
      exact zt_lret hX hR dX12_name_47 ⟨by omega, by omega⟩ ⟨hI48, hF53, by omega, by omega, by omega, by omega⟩
    refine zt_ifeq (pc' := 19) (tgt := 37) hX dX12_name_16 rfl (by decide) ⟨by omega, by omega⟩ (fun c58 => ?_) (fun c58 => ?_)
    · exact J_37_37 s8 hI11 hF20 (by omega) (by omega) (by omega)
    · refine zt_aload_n (pc' := 20) hX dX12_name_19 rfl rfl ?_
      have b59 := zv_46_2 hI11 zc_164
      refine zt_get (pc' := 23) (v := .int (zI (s8 164 2))) hX dX12_name_20 rfl zf_X12_252 (by decide) zc_164 zs_46 rfl ?_
      refine zt_aload_n (pc' := 24) hX dX12_name_23 rfl rfl ?_
      have b60 := zv_46_4 hI11 zc_164
      refine zt_get (pc' := 27) (v := .int (zI (s8 164 4))) hX dX12_name_24 rfl zf_X12_266 (by decide) zc_164 zs_46 rfl ?_
      refine zt_iceq (pc' := 30) (tgt := 37) hX dX12_name_27 rfl (by decide) ⟨by omega, by omega⟩ ⟨by omega, by omega⟩ (fun c61 => ?_) (fun c61 => ?_)
      · exact J_37_37 s8 hI11 hF20 (by omega) (by omega) (by omega)
      · refine zt_aload_n (pc' := 31) hX dX12_name_30 rfl rfl ?_
        refine zt_cVz (pc' := 34) hX dX12_name_31 rfl zm_yX12_isOwnHere zw_28_17 zc_164 (by decide) zs_46 (q := (RX12, TX12, 108)) rfl rfl (zc_X12_isOwnHere _ _ s8 hI11 ) rfl rfl (Nat.le_of_ble_eq_true rfl) (by decide) (fun r62 s63 hr64 hp65 => ?_)
        obtain ⟨hI66, hF67, q68, q69, z70, z71⟩ := hp65
        have e72 := hF67 164 3 rfl
        have hF73 := zOn_tr hF20 hF67 zi_id
        have b74 := zv_46_2 hI66 zc_164
        have b75 := zv_46_3 hI66 zc_164
        have b76 := zv_46_5 hI66 zc_164
        have b77 := zv_46_4 hI66 zc_164
        refine zt_ifeq (pc' := 37) (tgt := 48) hX dX12_name_34 rfl (by decide) ⟨by omega, by omega⟩ (fun c78 => ?_) (fun c78 => ?_)
        · refine zt_aload_n (pc' := 49) hX dX12_name_48 rfl rfl ?_
          refine zt_aload_n (pc' := 50) hX dX12_name_49 rfl rfl ?_
          have b79 := zv_46_2 hI66 zc_164
          refine zt_get (pc' := 53) (v := .int (zI (s63 164 2))) hX dX12_name_50 rfl zf_X12_252 (by decide) zc_164 zs_46 rfl ?_
          refine zt_put (pc' := 56) (x := (s63 164 2)) hX dX12_name_53 rfl zf_X12_297 (by decide) zc_164 zs_46 (fun q hq => by cases hq; rfl) rfl rfl rfl ?_
          generalize hs81 : zset s63 164 38 (s63 164 2) = s80
          have hI82 : zInv s80 := hs81 ▸ zp_46_38 hI66 zc_164 ⟨by omega, by omega⟩
          have hF83 : zOn zQ1 σ s80 := hs81 ▸ zOn_set hF73 (by decide)
          have e84 : s80 164 2 = s63 164 2 := by rw [← hs81]; exact zset_j (by decide)
          have e85 : s80 164 3 = s63 164 3 := by rw [← hs81]; exact zset_j (by decide)
          have e86 : s80 164 5 = s63 164 5 := by rw [← hs81]; exact zset_j (by decide)
          have e87 : s80 164 4 = s63 164 4 := by rw [← hs81]; exact zset_j (by decide)
          refine zt_lconst (pc' := 57) (y := 0) hX dX12_name_56 rfl (by decide +kernel) ?_
          refine zt_lstore_n (pc' := 58) (lv' := [some (.ref (X.1.1 + 164)), some (.long (zJ 0)), none]) hX dX12_name_57 rfl hL (by decide) rfl ?_
          have L_58_96 : ∀ (N : Nat) (x88 : Int) (s91 : zSto), -9223372036854775808 ≤ x88 → x88 ≤ 9223372036854775807 → zInv s91 → zOn zQ1 σ s91 → (σ 164 2 ≤ s91 164 2 ∧ (σ 164 2 ≤ σ 164 3 → s91 164 2 ≤ σ 164 3)) → s91 164 3 = σ 164 3 → s91 164 5 = σ 164 5 → ((1601 - s91 164 2).toNat) < N → zF X s91 58 [some (.ref (X.1.1 + 164)), some (.long (zJ x88)), none] [] := by
            intro N
            induction N with
            | zero =>
              intro x88 s91 h89 h90 hI92 hF93 g94 g95 g96 hm98
              exact absurd hm98 (Nat.not_lt_zero _)
            | succ N ih99 =>
              intro x88 s91 h89 h90 hI92 hF93 g94 g95 g96 hm98
              have b100 := zv_46_2 hI92 zc_164
              have b101 := zv_46_3 hI92 zc_164
              have b102 := zv_46_5 hI92 zc_164
              have b103 := zv_46_4 hI92 zc_164
              refine zt_aload_n (pc' := 59) hX dX12_name_58 rfl rfl ?_
              have b104 := zv_46_2 hI92 zc_164
              refine zt_get (pc' := 62) (v := .int (zI (s91 164 2))) hX dX12_name_59 rfl zf_X12_252 (by decide) zc_164 zs_46 rfl ?_
              refine zt_aload_n (pc' := 63) hX dX12_name_62 rfl rfl ?_
              have b105 := zv_46_3 hI92 zc_164
              refine zt_get (pc' := 66) (v := .int (zI (s91 164 3))) hX dX12_name_63 rfl zf_X12_255 (by decide) zc_164 zs_46 rfl ?_
              have J_145_105 : zF X s91 145 [some (.ref (X.1.1 + 164)), some (.long (zJ x88)), none] [] := by
                refine zt_aload_n (pc' := 146) hX dX12_name_145 rfl rfl ?_
                refine zt_aload_n (pc' := 147) hX dX12_name_146 rfl rfl ?_
                refine zt_get (pc' := 150) (v := .int (zI (s91 164 2))) hX dX12_name_147 rfl zf_X12_252 (by decide) zc_164 zs_46 rfl ?_
                refine zt_put (pc' := 153) (x := (s91 164 2)) hX dX12_name_150 rfl zf_X12_266 (by decide) zc_164 zs_46 (fun q hq => by cases hq; rfl) rfl rfl rfl ?_
                generalize hs108 : zset s91 164 4 (s91 164 2) = s107
                have hI109 : zInv s107 := hs108 ▸ zp_46_4 hI92 zc_164 ⟨by omega, by omega⟩
                have hF110 : zOn zQ1 σ s107 := hs108 ▸ zOn_set hF93 (by decide)
                have e111 : s107 164 2 = s91 164 2 := by rw [← hs108]; exact zset_j (by decide)
                have e112 : s107 164 3 = s91 164 3 := by rw [← hs108]; exact zset_j (by decide)
                have e113 : s107 164 5 = s91 164 5 := by rw [← hs108]; exact zset_j (by decide)
                have e114 : s107 164 4 = (s91 164 2) := by rw [← hs108]; exact zset_s
                refine zt_lload_n (pc' := 154) hX dX12_name_153 rfl rfl ?_
                exact zt_lret hX hR dX12_name_154 ⟨by omega, by omega⟩ ⟨hI109, hF110, by omega, by omega, by omega, by omega⟩
              refine zt_icge (pc' := 69) (tgt := 145) hX dX12_name_66 rfl (by decide) ⟨by omega, by omega⟩ ⟨by omega, by omega⟩ (fun c115 => ?_) (fun c115 => ?_)
              · exact J_145_105
              · refine zt_aload_n (pc' := 70) hX dX12_name_69 rfl rfl ?_
                refine zt_get (pc' := 73) (v := .ref (X.1.1 + 165)) hX dX12_name_70 rfl zf_X12_7 (by decide) zc_164 zs_46 (zrf_of (zv_46_0 hI92 zc_164)) ?_
                refine zt_aload_n (pc' := 74) hX dX12_name_73 rfl rfl ?_
                refine zt_get (pc' := 77) (v := .int (zI (s91 164 2))) hX dX12_name_74 rfl zf_X12_252 (by decide) zc_164 zs_46 rfl ?_
                refine zt_iald (pc' := 78) hX dX12_name_77 rfl (by decide) zc_165 zs_47 (by decide) ⟨by omega, by omega⟩ ?_
                generalize hv116 : s91 165 ((s91 164 2).toNat) = v116
                have bv116 : 0 ≤ v116 ∧ v116 ≤ 255 := hv116 ▸ zv_47 hI92 zc_165 _
                refine zt_cSz (pc' := 81) hX dX12_name_78 rfl zm_yX12_isLetter zw_26_16 (zc_X12_isLetter _ _ s91  v116 ⟨by omega, by omega⟩) rfl rfl (Nat.le_of_ble_eq_true rfl) (by decide) (fun r117 s118 hr119 hp120 => ?_)
                obtain ⟨rfl, q121, q122, z123⟩ := hp120
                refine zt_ifeq (pc' := 84) (tgt := 145) hX dX12_name_81 rfl (by decide) ⟨by omega, by omega⟩ (fun c124 => ?_) (fun c124 => ?_)
                · exact J_145_105
                · refine zt_aload_n (pc' := 85) hX dX12_name_84 rfl rfl ?_
                  refine zt_get (pc' := 88) (v := .int (zI (s91 164 2))) hX dX12_name_85 rfl zf_X12_252 (by decide) zc_164 zs_46 rfl ?_
                  refine zt_aload_n (pc' := 89) hX dX12_name_88 rfl rfl ?_
                  have b125 := zv_46_38 hI92 zc_164
                  refine zt_get (pc' := 92) (v := .int (zI (s91 164 38))) hX dX12_name_89 rfl zf_X12_297 (by decide) zc_164 zs_46 rfl ?_
                  refine zt_isub (pc' := 93) hX dX12_name_92 rfl ?_
                  refine zt_wrap (fun r126 zr126 lr126 ur126 => ?_)
                  clear zr126
                  refine zt_bipush (pc' := 95) hX dX12_name_93 rfl (by decide) (by decide) ?_
                  refine zt_icne (pc' := 98) (tgt := 109) hX dX12_name_95 rfl (by decide) ⟨by omega, by omega⟩ ⟨by omega, by omega⟩ (fun c127 => ?_) (fun c127 => ?_)
                  · refine zt_ldc2 (pc' := 112) (x := 27) hX dX12_name_109 rfl zw_28_15 (by decide +kernel) ?_
                    refine zt_lload_n (pc' := 113) hX dX12_name_112 rfl rfl ?_
                    refine zt_lmul (pc' := 114) hX dX12_name_113 rfl ?_
                    refine zt_wrapl (fun r128 zr128 lr128 ur128 => ?_)
                    clear zr128
                    refine zt_aload_n (pc' := 115) hX dX12_name_114 rfl rfl ?_
                    refine zt_get (pc' := 118) (v := .ref (X.1.1 + 165)) hX dX12_name_115 rfl zf_X12_7 (by decide) zc_164 zs_46 (zrf_of (zv_46_0 hI92 zc_164)) ?_
                    refine zt_aload_n (pc' := 119) hX dX12_name_118 rfl rfl ?_
                    refine zt_get (pc' := 122) (v := .int (zI (s91 164 2))) hX dX12_name_119 rfl zf_X12_252 (by decide) zc_164 zs_46 rfl ?_
                    refine zt_iald (pc' := 123) hX dX12_name_122 rfl (by decide) zc_165 zs_47 (by decide) ⟨by omega, by omega⟩ ?_
                    generalize hv129 : s91 165 ((s91 164 2).toNat) = v129
                    have bv129 : 0 ≤ v129 ∧ v129 ≤ 255 := hv129 ▸ zv_47 hI92 zc_165 _
                    refine zt_i2l (pc' := 124) hX dX12_name_123 rfl ⟨by omega, by omega⟩ ?_
                    refine zt_ladd (pc' := 125) hX dX12_name_124 rfl ?_
                    refine zt_wrapl (fun r130 zr130 lr130 ur130 => ?_)
                    clear zr130
                    refine zt_ldc2 (pc' := 128) (x := 97) hX dX12_name_125 rfl zw_28_16 (by decide +kernel) ?_
                    refine zt_lsub (pc' := 129) hX dX12_name_128 rfl ?_
                    refine zt_wrapl (fun r131 zr131 lr131 ur131 => ?_)
                    clear zr131
                    refine zt_lconst (pc' := 130) (y := 1) hX dX12_name_129 rfl (by decide +kernel) ?_
                    refine zt_ladd (pc' := 131) hX dX12_name_130 rfl ?_
                    refine zt_wrapl (fun r132 zr132 lr132 ur132 => ?_)
                    clear zr132
                    refine zt_lstore_n (pc' := 132) (lv' := [some (.ref (X.1.1 + 164)), some (.long (zJ r132)), none]) hX dX12_name_131 rfl hL (by decide) rfl ?_
                    refine zt_aload_n (pc' := 133) hX dX12_name_132 rfl rfl ?_
                    refine zt_dup (pc' := 134) hX dX12_name_133 rfl rfl ?_
                    refine zt_get (pc' := 137) (v := .int (zI (s91 164 2))) hX dX12_name_134 rfl zf_X12_252 (by decide) zc_164 zs_46 rfl ?_
                    refine zt_iconst (pc' := 138) hX dX12_name_137 rfl ?_
                    refine zt_iadd (pc' := 139) hX dX12_name_138 rfl ?_
                    refine zt_put (pc' := 142) (x := ((s91 164 2) + 1)) hX dX12_name_139 rfl zf_X12_252 (by decide) zc_164 zs_46 (fun q hq => by cases hq; rfl) rfl rfl rfl ?_
                    generalize hs134 : zset s91 164 2 ((s91 164 2) + 1) = s133
                    have hI135 : zInv s133 := hs134 ▸ zp_46_2 hI92 zc_164 ⟨by omega, by omega⟩
                    have hF136 : zOn zQ1 σ s133 := hs134 ▸ zOn_set hF93 (by decide)
                    have e137 : s133 164 2 = ((s91 164 2) + 1) := by rw [← hs134]; exact zset_s
                    have e138 : s133 164 3 = s91 164 3 := by rw [← hs134]; exact zset_j (by decide)
                    have e139 : s133 164 5 = s91 164 5 := by rw [← hs134]; exact zset_j (by decide)
                    have e140 : s133 164 4 = s91 164 4 := by rw [← hs134]; exact zset_j (by decide)
                    refine zt_goto (tgt := 58) hX dX12_name_142 (by decide) ?_
                    exact ih99 r132 s133 (by omega) (by omega) hI135 hF136 (by omega) (by omega) (by omega) (by omega)
                  · refine zt_aload_n (pc' := 99) hX dX12_name_98 rfl rfl ?_
                    refine zt_iconst (pc' := 100) hX dX12_name_99 rfl ?_
                    refine zt_aload_n (pc' := 101) hX dX12_name_100 rfl rfl ?_
                    refine zt_get (pc' := 104) (v := .int (zI (s91 164 2))) hX dX12_name_101 rfl zf_X12_252 (by decide) zc_164 zs_46 rfl ?_
                    refine zt_cVv (pc' := 107) hX dX12_name_104 rfl zm_yX12_fail zw_26_19 zc_164 (by decide) zs_46 (q := (RX12, TX12, 108)) rfl rfl (zc_X12_fail _ _ s91 hI92 1 ⟨by omega, by omega⟩ (s91 164 2) ⟨by omega, by omega⟩) rfl rfl (Nat.le_of_ble_eq_true rfl) (by decide) (fun r141 s142 hr143 hp144 => ?_)
                    obtain ⟨hI145, hF146, z147, z148⟩ := hp144
                    have e149 := hF146 164 3 rfl
                    have hF150 := zOn_tr hF93 hF146 zi_id
                    have b151 := zv_46_2 hI145 zc_164
                    have b152 := zv_46_3 hI145 zc_164
                    have b153 := zv_46_5 hI145 zc_164
                    have b154 := zv_46_4 hI145 zc_164
                    refine zt_lconst (pc' := 108) (y := 0) hX dX12_name_107 rfl (by decide +kernel) ?_
                    exact zt_lret hX hR dX12_name_108 ⟨by omega, by omega⟩ ⟨hI145, hF150, by omega, by omega, by omega, by omega⟩
          exact L_58_96 _ 0 s80 (by omega) (by omega) hI82 hF83 (by omega) (by omega) (by omega) (Nat.lt_succ_self _)
        · exact J_37_37 s63 hI66 hF73 (by omega) (by omega) (by omega)
  · refine zt_lconst (pc' := 8) (y := 0) hX dX12_name_7 rfl (by decide +kernel) ?_
    exact zt_lret hX hR dX12_name_8 ⟨by omega, by omega⟩ ⟨hI, hF, by omega, by omega, by omega, by omega⟩

set_option maxRecDepth 100000 in
set_option maxHeartbeats 4000000 in
theorem zc_X12_isAllowed (l : Launch) (E : zEN) (σ : zSto) (hI : zInv σ) (a1_ : Int) (ha1_ : -2147483648 ≤ a1_ ∧ a1_ ≤ 2147483647) : zCt l E yX12_isAllowed cX12_isAllowed 2 (some .boolean) 1 zNC zNC 0 0 σ [.ref (E.1 + 164), .int (zI a1_)] (fun r σ' => σ = σ' ∧ 0 ≤ r ∧ r ≤ 1) := by
  refine zCt_of2 [some (.ref (E.1 + 164)), some (.int (zI a1_))] (by decide +kernel) (Nat.le_of_ble_eq_true rfl) rfl ?_
  intro X hE hX hR hL hN
  subst hE
  have hX : zok X cX12_isAllowed RX12 1 := hX
  refine zt_iload_n (pc' := 1) hX dX12_isAllowed_0 rfl rfl ?_
  refine zt_iconst (pc' := 2) hX dX12_isAllowed_1 rfl ?_
  refine zt_iclt (pc' := 5) (tgt := 50) hX dX12_isAllowed_2 rfl (by decide) ⟨by omega, by omega⟩ ⟨by omega, by omega⟩ (fun c1 => ?_) (fun c1 => ?_)
  · refine zt_iconst (pc' := 51) hX dX12_isAllowed_50 rfl ?_
    refine zt_goto (tgt := 55) hX dX12_isAllowed_51 (by decide) ?_
    exact zt_zret hX hR dX12_isAllowed_55 ⟨by omega, by omega⟩ ⟨rfl, by omega, by omega⟩
  · refine zt_aload_n (pc' := 6) hX dX12_isAllowed_5 rfl rfl ?_
    have b2 := zv_46_51 hI zc_164
    refine zt_get (pc' := 9) (v := .int (zI (σ 164 51))) hX dX12_isAllowed_6 rfl zf_X12_304 (by decide) zc_164 zs_46 rfl ?_
    refine zt_ifne (pc' := 12) (tgt := 20) hX dX12_isAllowed_9 rfl (by decide) ⟨by omega, by omega⟩ (fun c3 => ?_) (fun c3 => ?_)
    · refine zt_aload_n (pc' := 21) hX dX12_isAllowed_20 rfl rfl ?_
      refine zt_get (pc' := 24) (v := .int (zI (σ 164 51))) hX dX12_isAllowed_21 rfl zf_X12_304 (by decide) zc_164 zs_46 rfl ?_
      refine zt_iconst (pc' := 25) hX dX12_isAllowed_24 rfl ?_
      refine zt_icne (pc' := 28) (tgt := 45) hX dX12_isAllowed_25 rfl (by decide) ⟨by omega, by omega⟩ ⟨by omega, by omega⟩ (fun c4 => ?_) (fun c4 => ?_)
      · refine zt_iload_n (pc' := 46) hX dX12_isAllowed_45 rfl rfl ?_
        refine zt_iconst (pc' := 47) hX dX12_isAllowed_46 rfl ?_
        refine zt_icle (pc' := 50) (tgt := 54) hX dX12_isAllowed_47 rfl (by decide) ⟨by omega, by omega⟩ ⟨by omega, by omega⟩ (fun c5 => ?_) (fun c5 => ?_)
        · refine zt_iconst (pc' := 55) hX dX12_isAllowed_54 rfl ?_
          exact zt_zret hX hR dX12_isAllowed_55 ⟨by omega, by omega⟩ ⟨rfl, by omega, by omega⟩
        · refine zt_iconst (pc' := 51) hX dX12_isAllowed_50 rfl ?_
          refine zt_goto (tgt := 55) hX dX12_isAllowed_51 (by decide) ?_
          exact zt_zret hX hR dX12_isAllowed_55 ⟨by omega, by omega⟩ ⟨rfl, by omega, by omega⟩
      · refine zt_iload_n (pc' := 29) hX dX12_isAllowed_28 rfl rfl ?_
        refine zt_i2l (pc' := 30) hX dX12_isAllowed_29 rfl ⟨by omega, by omega⟩ ?_
        refine zt_ldc2 (pc' := 33) (x := 3) hX dX12_isAllowed_30 rfl zw_30_18 (by decide +kernel) ?_
        refine zt_ldc2 (pc' := 36) (x := 5) hX dX12_isAllowed_33 rfl zw_30_19 (by decide +kernel) ?_
        refine zt_cSz (pc' := 39) hX dX12_isAllowed_36 rfl zm_yX12_isIn zw_27_7 (zc_X12_isIn _ _ σ  a1_ ⟨by omega, by omega⟩ 3 ⟨by omega, by omega⟩ 5 ⟨by omega, by omega⟩) rfl rfl (Nat.le_of_ble_eq_true rfl) (by decide) (fun r6 s7 hr8 hp9 => ?_)
        obtain ⟨rfl, q10, q11, z12⟩ := hp9
        refine zt_ifeq (pc' := 42) (tgt := 54) hX dX12_isAllowed_39 rfl (by decide) ⟨by omega, by omega⟩ (fun c13 => ?_) (fun c13 => ?_)
        · refine zt_iconst (pc' := 55) hX dX12_isAllowed_54 rfl ?_
          exact zt_zret hX hR dX12_isAllowed_55 ⟨by omega, by omega⟩ ⟨rfl, by omega, by omega⟩
        · refine zt_goto (tgt := 50) hX dX12_isAllowed_42 (by decide) ?_
          refine zt_iconst (pc' := 51) hX dX12_isAllowed_50 rfl ?_
          refine zt_goto (tgt := 55) hX dX12_isAllowed_51 (by decide) ?_
          exact zt_zret hX hR dX12_isAllowed_55 ⟨by omega, by omega⟩ ⟨rfl, by omega, by omega⟩
    · refine zt_iload_n (pc' := 13) hX dX12_isAllowed_12 rfl rfl ?_
      refine zt_iconst (pc' := 14) hX dX12_isAllowed_13 rfl ?_
      refine zt_icne (pc' := 17) (tgt := 54) hX dX12_isAllowed_14 rfl (by decide) ⟨by omega, by omega⟩ ⟨by omega, by omega⟩ (fun c14 => ?_) (fun c14 => ?_)
      · refine zt_iconst (pc' := 55) hX dX12_isAllowed_54 rfl ?_
        exact zt_zret hX hR dX12_isAllowed_55 ⟨by omega, by omega⟩ ⟨rfl, by omega, by omega⟩
      · refine zt_goto (tgt := 50) hX dX12_isAllowed_17 (by decide) ?_
        refine zt_iconst (pc' := 51) hX dX12_isAllowed_50 rfl ?_
        refine zt_goto (tgt := 55) hX dX12_isAllowed_51 (by decide) ?_
        exact zt_zret hX hR dX12_isAllowed_55 ⟨by omega, by omega⟩ ⟨rfl, by omega, by omega⟩
