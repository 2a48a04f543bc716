set_option maxRecDepth 100000 in
set_option maxHeartbeats 4000000 in
theorem zc_X12_fail (l : Launch) (E : zEN) (σ : zSto) (hI : zInv σ) (a1_ : Int) (ha1_ : 1 ≤ a1_ ∧ a1_ ≤ 5) (a2_ : Int) (ha2_ : -2147483648 ≤ a2_ ∧ a2_ ≤ 2147483647) : zCt l E yX12_fail cX12_fail 3 none 0 zNC zNC 0 0 σ [.ref (E.1 + 164), .int (zI a1_), .int (zI a2_)] (fun r σ' => zInv σ' ∧ zOn zQ1 σ σ' ∧ ((σ 164 5 ≠ 0 → σ' 164 5 = σ 164 5) ∧ (σ 164 5 = 0 → σ' 164 5 = a1_)) ∧ (σ' 164 2 = σ 164 2)) := by
  refine zCt_of2 [some (.ref (E.1 + 164)), some (.int (zI a1_)), some (.int (zI a2_))] (by decide +kernel) (Nat.le_of_ble_eq_true rfl) rfl ?_
  intro X hE hX hR hL hN
  subst hE
  have hX : zok X cX12_fail RX12 0 := hX
  have hF := zOn_rf zQ1 σ
  have b1 := zv_46_2 hI zc_164
  have b2 := zv_46_3 hI zc_164
  have b3 := zv_46_5 hI zc_164
  have b4 := zv_46_4 hI zc_164
  refine zt_aload_n (pc' := 1) hX dX12_fail_0 rfl rfl ?_
  have b5 := zv_46_5 hI zc_164
  refine zt_get (pc' := 4) (v := .int (zI (σ 164 5))) hX dX12_fail_1 rfl zf_X12_246 (by decide) zc_164 zs_46 rfl ?_
  refine zt_ifeq (pc' := 7) (tgt := 8) hX dX12_fail_4 rfl (by decide) ⟨by omega, by omega⟩ (fun c6 => ?_) (fun c6 => ?_)
  · refine zt_aload_n (pc' := 9) hX dX12_fail_8 rfl rfl ?_
    refine zt_iload_n (pc' := 10) hX dX12_fail_9 rfl rfl ?_
    refine zt_put (pc' := 13) (x := a1_) hX dX12_fail_10 rfl zf_X12_246 (by decide) zc_164 zs_46 (fun q hq => by cases hq; rfl) rfl rfl rfl ?_
    generalize hs8 : zset σ 164 5 a1_ = s7
    have hI9 : zInv s7 := hs8 ▸ zp_46_5 hI zc_164 ⟨by omega, by omega⟩
    have hF10 : zOn zQ1 σ s7 := hs8 ▸ zOn_set hF (by decide)
    have e11 : s7 164 2 = σ 164 2 := by rw [← hs8]; exact zset_j (by decide)
    have e12 : s7 164 3 = σ 164 3 := by rw [← hs8]; exact zset_j (by decide)
    have e13 : s7 164 5 = a1_ := by rw [← hs8]; exact zset_s
    have e14 : s7 164 4 = σ 164 4 := by rw [← hs8]; exact zset_j (by decide)
    refine zt_aload_n (pc' := 14) hX dX12_fail_13 rfl rfl ?_
    refine zt_iload_n (pc' := 15) hX dX12_fail_14 rfl rfl ?_
    refine zt_put (pc' := 18) (x := a2_) hX dX12_fail_15 rfl zf_X12_249 (by decide) zc_164 zs_46 (fun q hq => by cases hq; rfl) rfl rfl rfl ?_
    generalize hs16 : zset s7 164 6 a2_ = s15
    have hI17 : zInv s15 := hs16 ▸ zp_46_6 hI9 zc_164 ⟨by omega, by omega⟩
    have hF18 : zOn zQ1 σ s15 := hs16 ▸ zOn_set hF10 (by decide)
    have e19 : s15 164 2 = s7 164 2 := by rw [← hs16]; exact zset_j (by decide)
    have e20 : s15 164 3 = s7 164 3 := by rw [← hs16]; exact zset_j (by decide)
    have e21 : s15 164 5 = s7 164 5 := by rw [← hs16]; exact zset_j (by decide)
    have e22 : s15 164 4 = s7 164 4 := by rw [← hs16]; exact zset_j (by decide)
    exact zt_vret hX hR dX12_fail_18 ⟨hI17, hF18, by omega, by omega⟩
  · exact zt_vret hX hR dX12_fail_7 ⟨hI, hF, by omega, by omega⟩

set_option maxRecDepth 100000 in
set_option maxHeartbeats 4000000 in
theorem zc_X12_isLetter (l : Launch) (E : zEN) (σ : zSto)  (a0_ : Int) (ha0_ : -2147483648 ≤ a0_ ∧ a0_ ≤ 2147483647) : zCt l E yX12_isLetter cX12_isLetter 1 (some .boolean) 0 zNC zNC 0 0 σ [.int (zI a0_)] (fun r σ' => σ = σ' ∧ 0 ≤ r ∧ r ≤ 1 ∧ ((r = 1 → 97 ≤ a0_ ∧ a0_ ≤ 122) ∧ (r = 0 → a0_ < 97 ∨ 122 < a0_))) := by
  refine zCt_of2 [some (.int (zI a0_))] (by decide +kernel) (Nat.le_of_ble_eq_true rfl) rfl ?_
  intro X hE hX hR hL hN
  subst hE
  have hX : zok X cX12_isLetter RX12 0 := hX
  refine zt_iload_n (pc' := 1) hX dX12_isLetter_0 rfl rfl ?_
  refine zt_bipush (pc' := 3) hX dX12_isLetter_1 rfl (by decide) (by decide) ?_
  refine zt_iclt (pc' := 6) (tgt := 16) hX dX12_isLetter_3 rfl (by decide) ⟨by omega, by omega⟩ ⟨by omega, by omega⟩ (fun c1 => ?_) (fun c1 => ?_)
  · refine zt_iconst (pc' := 17) hX dX12_isLetter_16 rfl ?_
    exact zt_zret hX hR dX12_isLetter_17 ⟨by omega, by omega⟩ ⟨rfl, by omega, by omega, by omega⟩
  · refine zt_iload_n (pc' := 7) hX dX12_isLetter_6 rfl rfl ?_
    refine zt_bipush (pc' := 9) hX dX12_isLetter_7 rfl (by decide) (by decide) ?_
    refine zt_icgt (pc' := 12) (tgt := 16) hX dX12_isLetter_9 rfl (by decide) ⟨by omega, by omega⟩ ⟨by omega, by omega⟩ (fun c2 => ?_) (fun c2 => ?_)
    · refine zt_iconst (pc' := 17) hX dX12_isLetter_16 rfl ?_
      exact zt_zret hX hR dX12_isLetter_17 ⟨by omega, by omega⟩ ⟨rfl, by omega, by omega, by omega⟩
    · refine zt_iconst (pc' := 13) hX dX12_isLetter_12 rfl ?_
      refine zt_goto (tgt := 17) hX dX12_isLetter_13 (by decide) ?_
      exact zt_zret hX hR dX12_isLetter_17 ⟨by omega, by omega⟩ ⟨rfl, by omega, by omega, by omega⟩

set_option maxRecDepth 100000 in
set_option maxHeartbeats 4000000 in
theorem zc_X12_isDigit (l : Launch) (E : zEN) (σ : zSto)  (a0_ : Int) (ha0_ : -2147483648 ≤ a0_ ∧ a0_ ≤ 2147483647) : zCt l E yX12_isDigit cX12_isDigit 1 (some .boolean) 0 zNC zNC 0 0 σ [.int (zI a0_)] (fun r σ' => σ = σ' ∧ 0 ≤ r ∧ r ≤ 1 ∧ ((r = 1 → 48 ≤ a0_ ∧ a0_ ≤ 57) ∧ (r = 0 → a0_ < 48 ∨ 57 < a0_))) := by
  refine zCt_of2 [some (.int (zI a0_))] (by decide +kernel) (Nat.le_of_ble_eq_true rfl) rfl ?_
  intro X hE hX hR hL hN
  subst hE
  have hX : zok X cX12_isDigit RX12 0 := hX
  refine zt_iload_n (pc' := 1) hX dX12_isDigit_0 rfl rfl ?_
  refine zt_bipush (pc' := 3) hX dX12_isDigit_1 rfl (by decide) (by decide) ?_
  refine zt_iclt (pc' := 6) (tgt := 16) hX dX12_isDigit_3 rfl (by decide) ⟨by omega, by omega⟩ ⟨by omega, by omega⟩ (fun c1 => ?_) (fun c1 => ?_)
  · refine zt_iconst (pc' := 17) hX dX12_isDigit_16 rfl ?_
    exact zt_zret hX hR dX12_isDigit_17 ⟨by omega, by omega⟩ ⟨rfl, by omega, by omega, by omega⟩
  · refine zt_iload_n (pc' := 7) hX dX12_isDigit_6 rfl rfl ?_
    refine zt_bipush (pc' := 9) hX dX12_isDigit_7 rfl (by decide) (by decide) ?_
    refine zt_icgt (pc' := 12) (tgt := 16) hX dX12_isDigit_9 rfl (by decide) ⟨by omega, by omega⟩ ⟨by omega, by omega⟩ (fun c2 => ?_) (fun c2 => ?_)
    · refine zt_iconst (pc' := 17) hX dX12_isDigit_16 rfl ?_
      exact zt_zret hX hR dX12_isDigit_17 ⟨by omega, by omega⟩ ⟨rfl, by omega, by omega, by omega⟩
    · refine zt_iconst (pc' := 13) hX dX12_isDigit_12 rfl ?_
      refine zt_goto (tgt := 17) hX dX12_isDigit_13 (by decide) ?_
      exact zt_zret hX hR dX12_isDigit_17 ⟨by omega, by omega⟩ ⟨rfl, by omega, by omega, by omega⟩

set_option maxRecDepth 100000 in
set_option maxHeartbeats 4000000 in
theorem zc_X12_look (l : Launch) (E : zEN) (σ : zSto) (hI : zInv σ)  : zCt l E yX12_look cX12_look 1 (some .int) 0 zNC zNC 0 0 σ [.ref (E.1 + 164)] (fun r σ' => zInv σ' ∧ zOn zQ1 σ σ' ∧ -1 ≤ r ∧ r ≤ 255 ∧ (σ 164 2 ≤ σ' 164 2 ∧ (σ 164 2 ≤ σ 164 3 → σ' 164 2 ≤ σ 164 3)) ∧ (r ≠ -1 → σ' 164 2 < σ 164 3 ∧ r = σ' 165 (σ' 164 2).toNat) ∧ (σ' 164 5 = σ 164 5)) := by
  refine zCt_of2 [some (.ref (E.1 + 164))] (by decide +kernel) (Nat.le_of_ble_eq_true rfl) rfl ?_
  intro X hE hX hR hL hN
  subst hE
  have hX : zok X cX12_look RX12 0 := hX
  have hF := zOn_rf zQ1 σ
  have b1 := zv_46_2 hI zc_164
  have b2 := zv_46_3 hI zc_164
  have b3 := zv_46_5 hI zc_164
  have b4 := zv_46_4 hI zc_164
  have L_0_10 : ∀ (N : Nat) (s5 : zSto), zInv s5 → zOn zQ1 σ s5 → (σ 164 2 ≤ s5 164 2 ∧ (σ 164 2 ≤ σ 164 3 → s5 164 2 ≤ σ 164 3)) → s5 164 3 = σ 164 3 → s5 164 5 = σ 164 5 → ((1601 - s5 164 2).toNat) < N → zF X s5 0 [some (.ref (X.1.1 + 164))] [] := by
    intro N
    induction N with
    | zero =>
      intro s5 hI6 hF7 g8 g9 g10 hm12
      exact absurd hm12 (Nat.not_lt_zero _)
    | succ N ih13 =>
      intro s5 hI6 hF7 g8 g9 g10 hm12
      have b14 := zv_46_2 hI6 zc_164
      have b15 := zv_46_3 hI6 zc_164
      have b16 := zv_46_5 hI6 zc_164
      have b17 := zv_46_4 hI6 zc_164
      refine zt_aload_n (pc' := 1) hX dX12_look_0 rfl rfl ?_
      have b18 := zv_46_2 hI6 zc_164
      refine zt_get (pc' := 4) (v := .int (zI (s5 164 2))) hX dX12_look_1 rfl zf_X12_252 (by decide) zc_164 zs_46 rfl ?_
      refine zt_aload_n (pc' := 5) hX dX12_look_4 rfl rfl ?_
      have b19 := zv_46_3 hI6 zc_164
      refine zt_get (pc' := 8) (v := .int (zI (s5 164 3))) hX dX12_look_5 rfl zf_X12_255 (by decide) zc_164 zs_46 rfl ?_
      have J_52_19 : zF X s5 52 [some (.ref (X.1.1 + 164))] [] := by
        refine zt_aload_n (pc' := 53) hX dX12_look_52 rfl rfl ?_
        refine zt_get (pc' := 56) (v := .int (zI (s5 164 2))) hX dX12_look_53 rfl zf_X12_252 (by decide) zc_164 zs_46 rfl ?_
        refine zt_aload_n (pc' := 57) hX dX12_look_56 rfl rfl ?_
        refine zt_get (pc' := 60) (v := .int (zI (s5 164 3))) hX dX12_look_57 rfl zf_X12_255 (by decide) zc_164 zs_46 rfl ?_
        refine zt_icge (pc' := 63) (tgt := 75) hX dX12_look_60 rfl (by decide) ⟨by omega, by omega⟩ ⟨by omega, by omega⟩ (fun c21 => ?_) (fun c21 => ?_)
        · refine zt_iconst (pc' := 76) hX dX12_look_75 rfl ?_
          exact zt_iret hX hR dX12_look_76 ⟨by omega, by omega⟩ ⟨hI6, hF7, by omega, by omega, by omega, by omega, by omega⟩
        · refine zt_aload_n (pc' := 64) hX dX12_look_63 rfl rfl ?_
          refine zt_get (pc' := 67) (v := .ref (X.1.1 + 165)) hX dX12_look_64 rfl zf_X12_7 (by decide) zc_164 zs_46 (zrf_of (zv_46_0 hI6 zc_164)) ?_
          refine zt_aload_n (pc' := 68) hX dX12_look_67 rfl rfl ?_
          refine zt_get (pc' := 71) (v := .int (zI (s5 164 2))) hX dX12_look_68 rfl zf_X12_252 (by decide) zc_164 zs_46 rfl ?_
          refine zt_iald (pc' := 72) hX dX12_look_71 rfl (by decide) zc_165 zs_47 (by decide) ⟨by omega, by omega⟩ ?_
          generalize hv22 : s5 165 ((s5 164 2).toNat) = v22
          have bv22 : 0 ≤ v22 ∧ v22 ≤ 255 := hv22 ▸ zv_47 hI6 zc_165 _
          refine zt_goto (tgt := 76) hX dX12_look_72 (by decide) ?_
          exact zt_iret hX hR dX12_look_76 ⟨by omega, by omega⟩ ⟨hI6, hF7, by omega, by omega, by omega, by omega, by omega⟩
      refine zt_icge (pc' := 11) (tgt := 52) hX dX12_look_8 rfl (by decide) ⟨by omega, by omega⟩ ⟨by omega, by omega⟩ (fun c23 => ?_) (fun c23 => ?_)
      · exact J_52_19
      · refine zt_aload_n (pc' := 12) hX dX12_look_11 rfl rfl ?_
        refine zt_get (pc' := 15) (v := .ref (X.1.1 + 165)) hX dX12_look_12 rfl zf_X12_7 (by decide) zc_164 zs_46 (zrf_of (zv_46_0 hI6 zc_164)) ?_
        refine zt_aload_n (pc' := 16) hX dX12_look_15 rfl rfl ?_
        refine zt_get (pc' := 19) (v := .int (zI (s5 164 2))) hX dX12_look_16 rfl zf_X12_252 (by decide) zc_164 zs_46 rfl ?_
        refine zt_iald (pc' := 20) hX dX12_look_19 rfl (by decide) zc_165 zs_47 (by decide) ⟨by omega, by omega⟩ ?_
        generalize hv24 : s5 165 ((s5 164 2).toNat) = v24
        have bv24 : 0 ≤ v24 ∧ v24 ≤ 255 := hv24 ▸ zv_47 hI6 zc_165 _
        refine zt_bipush (pc' := 22) hX dX12_look_20 rfl (by decide) (by decide) ?_
        have J_39_24 : zF X s5 39 [some (.ref (X.1.1 + 164))] [] := by
          refine zt_aload_n (pc' := 40) hX dX12_look_39 rfl rfl ?_
          refine zt_dup (pc' := 41) hX dX12_look_40 rfl rfl ?_
          refine zt_get (pc' := 44) (v := .int (zI (s5 164 2))) hX dX12_look_41 rfl zf_X12_252 (by decide) zc_164 zs_46 rfl ?_
          refine zt_iconst (pc' := 45) hX dX12_look_44 rfl ?_
          refine zt_iadd (pc' := 46) hX dX12_look_45 rfl ?_
          refine zt_put (pc' := 49) (x := ((s5 164 2) + 1)) hX dX12_look_46 rfl zf_X12_252 (by decide) zc_164 zs_46 (fun q hq => by cases hq; rfl) rfl rfl rfl ?_
          generalize hs27 : zset s5 164 2 ((s5 164 2) + 1) = s26
          have hI28 : zInv s26 := hs27 ▸ zp_46_2 hI6 zc_164 ⟨by omega, by omega⟩
          have hF29 : zOn zQ1 σ s26 := hs27 ▸ zOn_set hF7 (by decide)
          have e30 : s26 164 2 = ((s5 164 2) + 1) := by rw [← hs27]; exact zset_s
          have e31 : s26 164 3 = s5 164 3 := by rw [← hs27]; exact zset_j (by decide)
          have e32 : s26 164 5 = s5 164 5 := by rw [← hs27]; exact zset_j (by decide)
          have e33 : s26 164 4 = s5 164 4 := by rw [← hs27]; exact zset_j (by decide)
          refine zt_goto (tgt := 0) hX dX12_look_49 (by decide) ?_
          exact ih13 s26 hI28 hF29 (by omega) (by omega) (by omega) (by omega)
        refine zt_iceq (pc' := 25) (tgt := 39) hX dX12_look_22 rfl (by decide) ⟨by omega, by omega⟩ ⟨by omega, by omega⟩ (fun c34 => ?_) (fun c34 => ?_)
        · exact J_39_24
        · refine zt_aload_n (pc' := 26) hX dX12_look_25 rfl rfl ?_
          refine zt_get (pc' := 29) (v := .ref (X.1.1 + 165)) hX dX12_look_26 rfl zf_X12_7 (by decide) zc_164 zs_46 (zrf_of (zv_46_0 hI6 zc_164)) ?_
          refine zt_aload_n (pc' := 30) hX dX12_look_29 rfl rfl ?_
          refine zt_get (pc' := 33) (v := .int (zI (s5 164 2))) hX dX12_look_30 rfl zf_X12_252 (by decide) zc_164 zs_46 rfl ?_
          refine zt_iald (pc' := 34) hX dX12_look_33 rfl (by decide) zc_165 zs_47 (by decide) ⟨by omega, by omega⟩ ?_
          generalize hv35 : s5 165 ((s5 164 2).toNat) = v35
          have bv35 : 0 ≤ v35 ∧ v35 ≤ 255 := hv35 ▸ zv_47 hI6 zc_165 _
          refine zt_bipush (pc' := 36) hX dX12_look_34 rfl (by decide) (by decide) ?_
          refine zt_icne (pc' := 39) (tgt := 52) hX dX12_look_36 rfl (by decide) ⟨by omega, by omega⟩ ⟨by omega, by omega⟩ (fun c36 => ?_) (fun c36 => ?_)
          · exact J_52_19
          · exact J_39_24
  exact L_0_10 _ σ hI hF (by omega) (by omega) (by omega) (Nat.lt_succ_self _)

set_option maxRecDepth 100000 in
set_option maxHeartbeats 4000000 in
theorem zc_X12_isHere (l : Launch) (E : zEN) (σ : zSto) (hI : zInv σ) (kw : Nat) (rw_ nw : Nat) (hkw : zro kw = rw_) (hrw : rw_ ≠ 0) (hsw : zrs rw_ = .inr (3, nw)) (hnw : 2 ≤ nw ∧ nw ≤ 6) : zCt l E yX12_isHere cX12_isHere 4 (some .boolean) 1 zNC zNC 0 0 σ [.ref (E.1 + 164), .ref (E.1 + kw)] (fun r σ' => zInv σ' ∧ zOn zQ1 σ σ' ∧ 0 ≤ r ∧ r ≤ 1 ∧ (σ 164 2 ≤ σ' 164 2 ∧ (σ 164 2 ≤ σ 164 3 → σ' 164 2 ≤ σ 164 3)) ∧ (r = 1 → σ' 164 2 + (nw : Int) ≤ σ 164 3 ∧ σ 164 5 = 0) ∧ (σ' 164 5 = σ 164 5)) := by
  refine zCt_of2 [some (.ref (E.1 + 164)), some (.ref (E.1 + kw)), none, none] (by decide +kernel) (Nat.le_of_ble_eq_true rfl) rfl ?_
  intro X hE hX hR hL hN
  subst hE
  have hX : zok X cX12_isHere RX12 1 := hX
  have hF := zOn_rf zQ1 σ
  have b1 := zv_46_2 hI zc_164
  have b2 := zv_46_3 hI zc_164
  have b3 := zv_46_5 hI zc_164
  have b4 := zv_46_4 hI zc_164
  refine zt_aload_n (pc' := 1) hX dX12_isHere_0 rfl rfl ?_
  have b5 := zv_46_5 hI zc_164
  refine zt_get (pc' := 4) (v := .int (zI (σ 164 5))) hX dX12_isHere_1 rfl zf_X12_246 (by decide) zc_164 zs_46 rfl ?_
  refine zt_ifne (pc' := 7) (tgt := 28) hX dX12_isHere_4 rfl (by decide) ⟨by omega, by omega⟩ (fun c6 => ?_) (fun c6 => ?_)
  · refine zt_iconst (pc' := 29) hX dX12_isHere_28 rfl ?_
    exact zt_zret hX hR dX12_isHere_29 ⟨by omega, by omega⟩ ⟨hI, hF, by omega, by omega, by omega, by omega, by omega⟩
  · refine zt_aload_n (pc' := 8) hX dX12_isHere_7 rfl rfl ?_
    refine zt_cVi (pc' := 11) hX dX12_isHere_8 rfl zm_yX12_look zw_26_12 zc_164 (by decide) zs_46 (q := (RX12, TX12, 108)) rfl rfl (zc_X12_look _ _ σ hI ) rfl rfl (Nat.le_of_ble_eq_true rfl) (by decide) (fun r7 s8 hr9 hp10 => ?_)
    obtain ⟨hI11, hF12, q13, q14, z15, z16, z17⟩ := hp10
    have e18 := hF12 164 3 rfl
    have hF19 := zOn_tr hF hF12 zi_id
    have b20 := zv_46_2 hI11 zc_164
    have b21 := zv_46_3 hI11 zc_164
    have b22 := zv_46_5 hI11 zc_164
    have b23 := zv_46_4 hI11 zc_164
    refine zt_cSz (pc' := 14) hX dX12_isHere_11 rfl zm_yX12_isLetter zw_26_16 (zc_X12_isLetter _ _ s8  r7 ⟨by omega, by omega⟩) rfl rfl (Nat.le_of_ble_eq_true rfl) (by decide) (fun r24 s25 hr26 hp27 => ?_)
    obtain ⟨rfl, q28, q29, z30⟩ := hp27
    refine zt_ifeq (pc' := 17) (tgt := 28) hX dX12_isHere_14 rfl (by decide) ⟨by omega, by omega⟩ (fun c31 => ?_) (fun c31 => ?_)
    · refine zt_iconst (pc' := 29) hX dX12_isHere_28 rfl ?_
      exact zt_zret hX hR dX12_isHere_29 ⟨by omega, by omega⟩ ⟨hI11, hF19, by omega, by omega, by omega, by omega, by omega⟩
    · refine zt_aload_n (pc' := 18) hX dX12_isHere_17 rfl rfl ?_
      have b32 := zv_46_2 hI11 zc_164
      refine zt_get (pc' := 21) (v := .int (zI (s8 164 2))) hX dX12_isHere_18 rfl zf_X12_252 (by decide) zc_164 zs_46 rfl ?_
      refine zt_aload_n (pc' := 22) hX dX12_isHere_21 rfl rfl ?_
      have b33 := zv_46_4 hI11 zc_164
      refine zt_get (pc' := 25) (v := .int (zI (s8 164 4))) hX dX12_isHere_22 rfl zf_X12_266 (by decide) zc_164 zs_46 rfl ?_
      refine zt_icne (pc' := 28) (tgt := 30) hX dX12_isHere_25 rfl (by decide) ⟨by omega, by omega⟩ ⟨by omega, by omega⟩ (fun c34 => ?_) (fun c34 => ?_)
      · refine zt_aload_n (pc' := 31) hX dX12_isHere_30 rfl rfl ?_
        refine zt_get (pc' := 34) (v := .int (zI (s8 164 2))) hX dX12_isHere_31 rfl zf_X12_252 (by decide) zc_164 zs_46 rfl ?_
        refine zt_istore_n (pc' := 35) (lv' := [some (.ref (X.1.1 + 164)), some (.ref (X.1.1 + kw)), some (.int (zI (s8 164 2))), none]) hX dX12_isHere_34 rfl hL (by decide) rfl ?_
        have L_35_38 : ∀ (N : Nat) (x35 : Int), 0 ≤ x35 → x35 ≤ 1600 → x35 ≤ s8 164 3 → ((1601 - x35).toNat) < N → zF X s8 35 [some (.ref (X.1.1 + 164)), some (.ref (X.1.1 + kw)), some (.int (zI x35)), none] [] := by
          intro N
          induction N with
          | zero =>
            intro x35 h36 h37 g38 hm40
            exact absurd hm40 (Nat.not_lt_zero _)
          | succ N ih41 =>
            intro x35 h36 h37 g38 hm40
            refine zt_iload_n (pc' := 36) hX dX12_isHere_35 rfl rfl ?_
            refine zt_aload_n (pc' := 37) hX dX12_isHere_36 rfl rfl ?_
            have b42 := zv_46_3 hI11 zc_164
            refine zt_get (pc' := 40) (v := .int (zI (s8 164 3))) hX dX12_isHere_37 rfl zf_X12_255 (by decide) zc_164 zs_46 rfl ?_
            have J_61_42 : zF X s8 61 [some (.ref (X.1.1 + 164)), some (.ref (X.1.1 + kw)), some (.int (zI x35)), none] [] := by
              refine zt_iload_n (pc' := 62) hX dX12_isHere_61 rfl rfl ?_
              refine zt_aload_n (pc' := 63) hX dX12_isHere_62 rfl rfl ?_
              refine zt_get (pc' := 66) (v := .int (zI (s8 164 2))) hX dX12_isHere_63 rfl zf_X12_252 (by decide) zc_164 zs_46 rfl ?_
              refine zt_isub (pc' := 67) hX dX12_isHere_66 rfl ?_
              refine zt_aload_n (pc' := 68) hX dX12_isHere_67 rfl rfl ?_
              refine zt_alen (pc' := 69) hX dX12_isHere_68 rfl (zro_lt hkw hrw) hkw hsw (by decide) ?_
              refine zt_iceq (pc' := 72) (tgt := 74) hX dX12_isHere_69 rfl (by decide) ⟨by omega, by omega⟩ ⟨by omega, by omega⟩ (fun c44 => ?_) (fun c44 => ?_)
              · refine zt_iconst (pc' := 75) hX dX12_isHere_74 rfl ?_
                refine zt_istore_n (pc' := 76) (lv' := [some (.ref (X.1.1 + 164)), some (.ref (X.1.1 + kw)), some (.int (zI x35)), some (.int (zI 0))]) hX dX12_isHere_75 rfl hL (by decide) rfl ?_
                have L_76_47 : ∀ (N : Nat) (x45 : Int), 0 ≤ x45 → x45 ≤ 6 → ((7 - x45).toNat) < N → zF X s8 76 [some (.ref (X.1.1 + 164)), some (.ref (X.1.1 + kw)), none, some (.int (zI x45))] [] := by
                  intro N
                  induction N with
                  | zero =>
                    intro x45 h46 h47 hm49
                    exact absurd hm49 (Nat.not_lt_zero _)
                  | succ N ih50 =>
                    intro x45 h46 h47 hm49
                    refine zt_iload_n (pc' := 77) hX dX12_isHere_76 rfl rfl ?_
                    refine zt_aload_n (pc' := 78) hX dX12_isHere_77 rfl rfl ?_
                    refine zt_alen (pc' := 79) hX dX12_isHere_78 rfl (zro_lt hkw hrw) hkw hsw (by decide) ?_
                    refine zt_icge (pc' := 82) (tgt := 107) hX dX12_isHere_79 rfl (by decide) ⟨by omega, by omega⟩ ⟨by omega, by omega⟩ (fun c51 => ?_) (fun c51 => ?_)
                    · refine zt_iconst (pc' := 108) hX dX12_isHere_107 rfl ?_
                      exact zt_zret hX hR dX12_isHere_108 ⟨by omega, by omega⟩ ⟨hI11, hF19, by omega, by omega, by omega, by omega, by omega⟩
                    · refine zt_aload_n (pc' := 83) hX dX12_isHere_82 rfl rfl ?_
                      refine zt_get (pc' := 86) (v := .ref (X.1.1 + 165)) hX dX12_isHere_83 rfl zf_X12_7 (by decide) zc_164 zs_46 (zrf_of (zv_46_0 hI11 zc_164)) ?_
                      refine zt_aload_n (pc' := 87) hX dX12_isHere_86 rfl rfl ?_
                      refine zt_get (pc' := 90) (v := .int (zI (s8 164 2))) hX dX12_isHere_87 rfl zf_X12_252 (by decide) zc_164 zs_46 rfl ?_
                      refine zt_iload_n (pc' := 91) hX dX12_isHere_90 rfl rfl ?_
                      refine zt_iadd (pc' := 92) hX dX12_isHere_91 rfl ?_
                      refine zt_iald (pc' := 93) hX dX12_isHere_92 rfl (by decide) zc_165 zs_47 (by decide) ⟨by omega, by omega⟩ ?_
                      generalize hv52 : s8 165 (((s8 164 2) + x45).toNat) = v52
                      have bv52 : 0 ≤ v52 ∧ v52 ≤ 255 := hv52 ▸ zv_47 hI11 zc_165 _
                      refine zt_aload_n (pc' := 94) hX dX12_isHere_93 rfl rfl ?_
                      refine zt_iload_n (pc' := 95) hX dX12_isHere_94 rfl rfl ?_
                      refine zt_cald (pc' := 96) hX dX12_isHere_95 rfl (zro_lt hkw hrw) hkw hsw (by omega) ⟨by omega, by omega⟩ ?_
                      refine zt_wrap (fun r53 zr53 lr53 ur53 => ?_)
                      clear zr53
                      refine zt_iceq (pc' := 99) (tgt := 101) hX dX12_isHere_96 rfl (by decide) ⟨by omega, by omega⟩ ⟨by omega, by omega⟩ (fun c54 => ?_) (fun c54 => ?_)
                      · refine zt_iinc (pc' := 104) (lv' := [some (.ref (X.1.1 + 164)), some (.ref (X.1.1 + kw)), none, some (.int (zI (x45 + 1)))]) hX dX12_isHere_101 rfl rfl hL (by decide) rfl ?_
                        refine zt_goto (tgt := 76) hX dX12_isHere_104 (by decide) ?_
                        exact ih50 (x45 + 1) (by omega) (by omega) (by omega)
                      · refine zt_iconst (pc' := 100) hX dX12_isHere_99 rfl ?_
                        exact zt_zret hX hR dX12_isHere_100 ⟨by omega, by omega⟩ ⟨hI11, hF19, by omega, by omega, by omega, by omega, by omega⟩
                refine zt_mask [true, true, false, true] rfl ?_
                exact L_76_47 _ 0 (by omega) (by omega) (Nat.lt_succ_self _)
              · refine zt_iconst (pc' := 73) hX dX12_isHere_72 rfl ?_
                exact zt_zret hX hR dX12_isHere_73 ⟨by omega, by omega⟩ ⟨hI11, hF19, by omega, by omega, by omega, by omega, by omega⟩
            refine zt_icge (pc' := 43) (tgt := 61) hX dX12_isHere_40 rfl (by decide) ⟨by omega, by omega⟩ ⟨by omega, by omega⟩ (fun c55 => ?_) (fun c55 => ?_)
            · exact J_61_42
            · refine zt_aload_n (pc' := 44) hX dX12_isHere_43 rfl rfl ?_
              refine zt_get (pc' := 47) (v := .ref (X.1.1 + 165)) hX dX12_isHere_44 rfl zf_X12_7 (by decide) zc_164 zs_46 (zrf_of (zv_46_0 hI11 zc_164)) ?_
              refine zt_iload_n (pc' := 48) hX dX12_isHere_47 rfl rfl ?_
              refine zt_iald (pc' := 49) hX dX12_isHere_48 rfl (by decide) zc_165 zs_47 (by decide) ⟨by omega, by omega⟩ ?_
              generalize hv56 : s8 165 (x35.toNat) = v56
              have bv56 : 0 ≤ v56 ∧ v56 ≤ 255 := hv56 ▸ zv_47 hI11 zc_165 _
              refine zt_cSz (pc' := 52) hX dX12_isHere_49 rfl zm_yX12_isLetter zw_26_16 (zc_X12_isLetter _ _ s8  v56 ⟨by omega, by omega⟩) rfl rfl (Nat.le_of_ble_eq_true rfl) (by decide) (fun r57 s58 hr59 hp60 => ?_)
              obtain ⟨rfl, q61, q62, z63⟩ := hp60
              refine zt_ifeq (pc' := 55) (tgt := 61) hX dX12_isHere_52 rfl (by decide) ⟨by omega, by omega⟩ (fun c64 => ?_) (fun c64 => ?_)
              · exact J_61_42
              · refine zt_iinc (pc' := 58) (lv' := [some (.ref (X.1.1 + 164)), some (.ref (X.1.1 + kw)), some (.int (zI (x35 + 1))), none]) hX dX12_isHere_55 rfl rfl hL (by decide) rfl ?_
                refine zt_goto (tgt := 35) hX dX12_isHere_58 (by decide) ?_
                exact ih41 (x35 + 1) (by omega) (by omega) (by omega) (by omega)
        exact L_35_38 _ (s8 164 2) (by omega) (by omega) (by omega) (Nat.lt_succ_self _)
      · refine zt_iconst (pc' := 29) hX dX12_isHere_28 rfl ?_
        exact zt_zret hX hR dX12_isHere_29 ⟨by omega, by omega⟩ ⟨hI11, hF19, by omega, by omega, by omega, by omega, by omega⟩

set_option maxRecDepth 100000 in
set_option maxHeartbeats 4000000 in
theorem zc_X12_takes (l : Launch) (E : zEN) (σ : zSto) (hI : zInv σ) (kw : Nat) (rw_ nw : Nat) (hkw : zro kw = rw_) (hrw : rw_ ≠ 0) (hsw : zrs rw_ = .inr (3, nw)) (hnw : 2 ≤ nw ∧ nw ≤ 6) : zCt l E yX12_takes cX12_takes 2 (some .boolean) 2 zNC zNC 0 0 σ [.ref (E.1 + 164), .ref (E.1 + kw)] (fun r σ' => zInv σ' ∧ zOn zQ1 σ σ' ∧ 0 ≤ r ∧ r ≤ 1 ∧ (σ 164 2 ≤ σ' 164 2 ∧ (σ 164 2 ≤ σ 164 3 → σ' 164 2 ≤ σ 164 3)) ∧ (r = 1 → σ 164 2 + 2 ≤ σ' 164 2 ∧ σ 164 5 = 0) ∧ (σ' 164 5 = σ 164 5)) := by
  refine zCt_of2 [some (.ref (E.1 + 164)), some (.ref (E.1 + kw))] (by decide +kernel) (Nat.le_of_ble_eq_true rfl) rfl ?_
  intro X hE hX hR hL hN
  subst hE
  have hX : zok X cX12_takes RX12 2 := hX
  have hF := zOn_rf zQ1 σ
  have b1 := zv_46_2 hI zc_164
  have b2 := zv_46_3 hI zc_164
  have b3 := zv_46_5 hI zc_164
  have b4 := zv_46_4 hI zc_164
  refine zt_aload_n (pc' := 1) hX dX12_takes_0 rfl rfl ?_
  refine zt_aload_n (pc' := 2) hX dX12_takes_1 rfl rfl ?_
  refine zt_cVz (pc' := 5) hX dX12_takes_2 rfl zm_yX12_isHere zw_26_8 zc_164 (by decide) zs_46 (q := (RX12, TX12, 108)) rfl rfl (zc_X12_isHere _ _ σ hI kw rw_ nw hkw hrw hsw hnw) rfl rfl (Nat.le_of_ble_eq_true rfl) (by decide) (fun r5 s6 hr7 hp8 => ?_)
  obtain ⟨hI9, hF10, q11, q12, z13, z14, z15⟩ := hp8
  have e16 := hF10 164 3 rfl
  have hF17 := zOn_tr hF hF10 zi_id
  have b18 := zv_46_2 hI9 zc_164
  have b19 := zv_46_3 hI9 zc_164
  have b20 := zv_46_5 hI9 zc_164
  have b21 := zv_46_4 hI9 zc_164
  refine zt_ifne (pc' := 8) (tgt := 10) hX dX12_takes_5 rfl (by decide) ⟨by omega, by omega⟩ (fun c22 => ?_) (fun c22 => ?_)
  · refine zt_aload_n (pc' := 11) hX dX12_takes_10 rfl rfl ?_
    refine zt_dup (pc' := 12) hX dX12_takes_11 rfl rfl ?_
    have b23 := zv_46_2 hI9 zc_164
    refine zt_get (pc' := 15) (v := .int (zI (s6 164 2))) hX dX12_takes_12 rfl zf_X12_252 (by decide) zc_164 zs_46 rfl ?_
    refine zt_aload_n (pc' := 16) hX dX12_takes_15 rfl rfl ?_
    refine zt_alen (pc' := 17) hX dX12_takes_16 rfl (zro_lt hkw hrw) hkw hsw (by decide) ?_
    refine zt_iadd (pc' := 18) hX dX12_takes_17 rfl ?_
    refine zt_put (pc' := 21) (x := ((s6 164 2) + (nw : Int))) hX dX12_takes_18 rfl zf_X12_252 (by decide) zc_164 zs_46 (fun q hq => by cases hq; rfl) rfl rfl rfl ?_
    generalize hs25 : zset s6 164 2 ((s6 164 2) + (nw : Int)) = s24
    have hI26 : zInv s24 := hs25 ▸ zp_46_2 hI9 zc_164 ⟨by omega, by omega⟩
    have hF27 : zOn zQ1 σ s24 := hs25 ▸ zOn_set hF17 (by decide)
    have e28 : s24 164 2 = ((s6 164 2) + (nw : Int)) := by rw [← hs25]; exact zset_s
    have e29 : s24 164 3 = s6 164 3 := by rw [← hs25]; exact zset_j (by decide)
    have e30 : s24 164 5 = s6 164 5 := by rw [← hs25]; exact zset_j (by decide)
    have e31 : s24 164 4 = s6 164 4 := by rw [← hs25]; exact zset_j (by decide)
    refine zt_aload_n (pc' := 22) hX dX12_takes_21 rfl rfl ?_
    refine zt_aload_n (pc' := 23) hX dX12_takes_22 rfl rfl ?_
    have b32 := zv_46_2 hI26 zc_164
    refine zt_get (pc' := 26) (v := .int (zI (s24 164 2))) hX dX12_takes_23 rfl zf_X12_252 (by decide) zc_164 zs_46 rfl ?_
    refine zt_put (pc' := 29) (x := (s24 164 2)) hX dX12_takes_26 rfl zf_X12_266 (by decide) zc_164 zs_46 (fun q hq => by cases hq; rfl) rfl rfl rfl ?_
    generalize hs34 : zset s24 164 4 (s24 164 2) = s33
    have hI35 : zInv s33 := hs34 ▸ zp_46_4 hI26 zc_164 ⟨by omega, by omega⟩
    have hF36 : zOn zQ1 σ s33 := hs34 ▸ zOn_set hF27 (by decide)
    have e37 : s33 164 2 = s24 164 2 := by rw [← hs34]; exact zset_j (by decide)
    have e38 : s33 164 3 = s24 164 3 := by rw [← hs34]; exact zset_j (by decide)
    have e39 : s33 164 5 = s24 164 5 := by rw [← hs34]; exact zset_j (by decide)
    have e40 : s33 164 4 = (s24 164 2) := by rw [← hs34]; exact zset_s
    refine zt_iconst (pc' := 30) hX dX12_takes_29 rfl ?_
    exact zt_zret hX hR dX12_takes_30 ⟨by omega, by omega⟩ ⟨hI35, hF36, by omega, by omega, by omega, by omega, by omega⟩
  · refine zt_iconst (pc' := 9) hX dX12_takes_8 rfl ?_
    exact zt_zret hX hR dX12_takes_9 ⟨by omega, by omega⟩ ⟨hI9, hF17, by omega, by omega, by omega, by omega, by omega⟩

set_option maxRecDepth 100000 in
set_option maxHeartbeats 4000000 in
theorem zc_X12_asks (l : Launch) (E : zEN) (σ : zSto) (hI : zInv σ) (kw : Nat) (rw_ nw : Nat) (hkw : zro kw = rw_) (hrw : rw_ ≠ 0) (hsw : zrs rw_ = .inr (3, nw)) (hnw : 2 ≤ nw ∧ nw ≤ 6) : zCt l E yX12_asks cX12_asks 2 none 3 zNC zNC 0 0 σ [.ref (E.1 + 164), .ref (E.1 + kw)] (fun r σ' => zInv σ' ∧ zOn zQ1 σ σ' ∧ (σ 164 2 ≤ σ' 164 2 ∧ (σ 164 2 ≤ σ 164 3 → σ' 164 2 ≤ σ 164 3)) ∧ (σ' 164 5 = 0 → σ 164 5 = 0 ∧ σ 164 2 + 2 ≤ σ' 164 2)) := by
  refine zCt_of2 [some (.ref (E.1 + 164)), some (.ref (E.1 + kw))] (by decide +kernel) (Nat.le_of_ble_eq_true rfl) rfl ?_
  intro X hE hX hR hL hN
  subst hE
  have hX : zok X cX12_asks RX12 3 := hX
  have hF := zOn_rf zQ1 σ
  have b1 := zv_46_2 hI zc_164
  have b2 := zv_46_3 hI zc_164
  have b3 := zv_46_5 hI zc_164
  have b4 := zv_46_4 hI zc_164
  refine zt_aload_n (pc' := 1) hX dX12_asks_0 rfl rfl ?_
  have b5 := zv_46_5 hI zc_164
  refine zt_get (pc' := 4) (v := .int (zI (σ 164 5))) hX dX12_asks_1 rfl zf_X12_246 (by decide) zc_164 zs_46 rfl ?_
  refine zt_ifne (pc' := 7) (tgt := 24) hX dX12_asks_4 rfl (by decide) ⟨by omega, by omega⟩ (fun c6 => ?_) (fun c6 => ?_)
  · exact zt_vret hX hR dX12_asks_24 ⟨hI, hF, by omega, by omega⟩
  · refine zt_aload_n (pc' := 8) hX dX12_asks_7 rfl rfl ?_
    refine zt_aload_n (pc' := 9) hX dX12_asks_8 rfl rfl ?_
    refine zt_cVz (pc' := 12) hX dX12_asks_9 rfl zm_yX12_takes zw_26_4 zc_164 (by decide) zs_46 (q := (RX12, TX12, 108)) rfl rfl (zc_X12_takes _ _ σ hI kw rw_ nw hkw hrw hsw hnw) rfl rfl (Nat.le_of_ble_eq_true rfl) (by decide) (fun r7 s8 hr9 hp10 => ?_)
    obtain ⟨hI11, hF12, q13, q14, z15, z16, z17⟩ := hp10
    have e18 := hF12 164 3 rfl
    have hF19 := zOn_tr hF hF12 zi_id
    have b20 := zv_46_2 hI11 zc_164
    have b21 := zv_46_3 hI11 zc_164
    have b22 := zv_46_5 hI11 zc_164
    have b23 := zv_46_4 hI11 zc_164
    refine zt_ifne (pc' := 15) (tgt := 24) hX dX12_asks_12 rfl (by decide) ⟨by omega, by omega⟩ (fun c24 => ?_) (fun c24 => ?_)
    · exact zt_vret hX hR dX12_asks_24 ⟨hI11, hF19, by omega, by omega⟩
    · refine zt_aload_n (pc' := 16) hX dX12_asks_15 rfl rfl ?_
      refine zt_iconst (pc' := 17) hX dX12_asks_16 rfl ?_
      refine zt_aload_n (pc' := 18) hX dX12_asks_17 rfl rfl ?_
      have b25 := zv_46_2 hI11 zc_164
      refine zt_get (pc' := 21) (v := .int (zI (s8 164 2))) hX dX12_asks_18 rfl zf_X12_252 (by decide) zc_164 zs_46 rfl ?_
      refine zt_cVv (pc' := 24) hX dX12_asks_21 rfl zm_yX12_fail zw_26_19 zc_164 (by decide) zs_46 (q := (RX12, TX12, 108)) rfl rfl (zc_X12_fail _ _ s8 hI11 1 ⟨by omega, by omega⟩ (s8 164 2) ⟨by omega, by omega⟩) rfl rfl (Nat.le_of_ble_eq_true rfl) (by decide) (fun r26 s27 hr28 hp29 => ?_)
      obtain ⟨hI30, hF31, z32, z33⟩ := hp29
      have e34 := hF31 164 3 rfl
      have hF35 := zOn_tr hF19 hF31 zi_id
      have b36 := zv_46_2 hI30 zc_164
      have b37 := zv_46_3 hI30 zc_164
      have b38 := zv_46_5 hI30 zc_164
      have b39 := zv_46_4 hI30 zc_164
      exact zt_vret hX hR dX12_asks_24 ⟨hI30, hF35, by omega, by omega⟩

set_option maxRecDepth 100000 in
set_option maxHeartbeats 4000000 in
theorem zc_X12_takesSign (l : Launch) (E : zEN) (σ : zSto) (hI : zInv σ) (a1_ : Int) (ha1_ : 1 ≤ a1_ ∧ a1_ ≤ 255) : zCt l E yX12_takesSign cX12_takesSign 2 (some .boolean) 1 zNC zNC 0 0 σ [.ref (E.1 + 164), .int (zI a1_)] (fun r σ' => zInv σ' ∧ zOn zQ1 σ σ' ∧ 0 ≤ r ∧ r ≤ 1 ∧ (σ 164 2 ≤ σ' 164 2 ∧ (σ 164 2 ≤ σ 164 3 → σ' 164 2 ≤ σ 164 3)) ∧ (r = 1 → σ 164 2 + 1 ≤ σ' 164 2 ∧ σ 164 5 = 0) ∧ (σ' 164 5 = σ 164 5)) := by
  refine zCt_of2 [some (.ref (E.1 + 164)), some (.int (zI a1_))] (by decide +kernel) (Nat.le_of_ble_eq_true rfl) rfl ?_
  intro X hE hX hR hL hN
  subst hE
  have hX : zok X cX12_takesSign RX12 1 := hX
  have hF := zOn_rf zQ1 σ
  have b1 := zv_46_2 hI zc_164
  have b2 := zv_46_3 hI zc_164
  have b3 := zv_46_5 hI zc_164
  have b4 := zv_46_4 hI zc_164
  refine zt_aload_n (pc' := 1) hX dX12_takesSign_0 rfl rfl ?_
  have b5 := zv_46_5 hI zc_164
  refine zt_get (pc' := 4) (v := .int (zI (σ 164 5))) hX dX12_takesSign_1 rfl zf_X12_246 (by decide) zc_164 zs_46 rfl ?_
  refine zt_ifne (pc' := 7) (tgt := 15) hX dX12_takesSign_4 rfl (by decide) ⟨by omega, by omega⟩ (fun c6 => ?_) (fun c6 => ?_)
  · refine zt_iconst (pc' := 16) hX dX12_takesSign_15 rfl ?_
    exact zt_zret hX hR dX12_takesSign_16 ⟨by omega, by omega⟩ ⟨hI, hF, by omega, by omega, by omega, by omega, by omega⟩
  · refine zt_aload_n (pc' := 8) hX dX12_takesSign_7 rfl rfl ?_
    refine zt_cVi (pc' := 11) hX dX12_takesSign_8 rfl zm_yX12_look zw_26_12 zc_164 (by decide) zs_46 (q := (RX12, TX12, 108)) rfl rfl (zc_X12_look _ _ σ hI ) rfl rfl (Nat.le_of_ble_eq_true rfl) (by decide) (fun r7 s8 hr9 hp10 => ?_)
    obtain ⟨hI11, hF12, q13, q14, z15, z16, z17⟩ := hp10
    have e18 := hF12 164 3 rfl
    have hF19 := zOn_tr hF hF12 zi_id
    have b20 := zv_46_2 hI11 zc_164
    have b21 := zv_46_3 hI11 zc_164
    have b22 := zv_46_5 hI11 zc_164
    have b23 := zv_46_4 hI11 zc_164
    refine zt_iload_n (pc' := 12) hX dX12_takesSign_11 rfl rfl ?_
    refine zt_iceq (pc' := 15) (tgt := 17) hX dX12_takesSign_12 rfl (by decide) ⟨by omega, by omega⟩ ⟨by omega, by omega⟩ (fun c24 => ?_) (fun c24 => ?_)
    · refine zt_aload_n (pc' := 18) hX dX12_takesSign_17 rfl rfl ?_
      refine zt_dup (pc' := 19) hX dX12_takesSign_18 rfl rfl ?_
      have b25 := zv_46_2 hI11 zc_164
      refine zt_get (pc' := 22) (v := .int (zI (s8 164 2))) hX dX12_takesSign_19 rfl zf_X12_252 (by decide) zc_164 zs_46 rfl ?_
      refine zt_iconst (pc' := 23) hX dX12_takesSign_22 rfl ?_
      refine zt_iadd (pc' := 24) hX dX12_takesSign_23 rfl ?_
      refine zt_put (pc' := 27) (x := ((s8 164 2) + 1)) hX dX12_takesSign_24 rfl zf_X12_252 (by decide) zc_164 zs_46 (fun q hq => by cases hq; rfl) rfl rfl rfl ?_
      generalize hs27 : zset s8 164 2 ((s8 164 2) + 1) = s26
      have hI28 : zInv s26 := hs27 ▸ zp_46_2 hI11 zc_164 ⟨by omega, by omega⟩
      have hF29 : zOn zQ1 σ s26 := hs27 ▸ zOn_set hF19 (by decide)
      have e30 : s26 164 2 = ((s8 164 2) + 1) := by rw [← hs27]; exact zset_s
      have e31 : s26 164 3 = s8 164 3 := by rw [← hs27]; exact zset_j (by decide)
      have e32 : s26 164 5 = s8 164 5 := by rw [← hs27]; exact zset_j (by decide)
      have e33 : s26 164 4 = s8 164 4 := by rw [← hs27]; exact zset_j (by decide)
      refine zt_iconst (pc' := 28) hX dX12_takesSign_27 rfl ?_
      exact zt_zret hX hR dX12_takesSign_28 ⟨by omega, by omega⟩ ⟨hI28, hF29, by omega, by omega, by omega, by omega, by omega⟩
    · refine zt_iconst (pc' := 16) hX dX12_takesSign_15 rfl ?_
      exact zt_zret hX hR dX12_takesSign_16 ⟨by omega, by omega⟩ ⟨hI11, hF19, by omega, by omega, by omega, by omega, by omega⟩

set_option maxRecDepth 100000 in
set_option maxHeartbeats 4000000 in
theorem zc_X12_asksSign (l : Launch) (E : zEN) (σ : zSto) (hI : zInv σ) (a1_ : Int) (ha1_ : 1 ≤ a1_ ∧ a1_ ≤ 255) : zCt l E yX12_asksSign cX12_asksSign 2 none 2 zNC zNC 0 0 σ [.ref (E.1 + 164), .int (zI a1_)] (fun r σ' => zInv σ' ∧ zOn zQ1 σ σ' ∧ (σ 164 2 ≤ σ' 164 2 ∧ (σ 164 2 ≤ σ 164 3 → σ' 164 2 ≤ σ 164 3)) ∧ (σ' 164 5 = 0 → σ 164 5 = 0 ∧ σ 164 2 + 1 ≤ σ' 164 2)) := by
  refine zCt_of2 [some (.ref (E.1 + 164)), some (.int (zI a1_))] (by decide +kernel) (Nat.le_of_ble_eq_true rfl) rfl ?_
  intro X hE hX hR hL hN
  subst hE
  have hX : zok X cX12_asksSign RX12 2 := hX
  have hF := zOn_rf zQ1 σ
  have b1 := zv_46_2 hI zc_164
  have b2 := zv_46_3 hI zc_164
  have b3 := zv_46_5 hI zc_164
  have b4 := zv_46_4 hI zc_164
  refine zt_aload_n (pc' := 1) hX dX12_asksSign_0 rfl rfl ?_
  have b5 := zv_46_5 hI zc_164
  refine zt_get (pc' := 4) (v := .int (zI (σ 164 5))) hX dX12_asksSign_1 rfl zf_X12_246 (by decide) zc_164 zs_46 rfl ?_
  refine zt_ifne (pc' := 7) (tgt := 24) hX dX12_asksSign_4 rfl (by decide) ⟨by omega, by omega⟩ (fun c6 => ?_) (fun c6 => ?_)
  · exact zt_vret hX hR dX12_asksSign_24 ⟨hI, hF, by omega, by omega⟩
  · refine zt_aload_n (pc' := 8) hX dX12_asksSign_7 rfl rfl ?_
    refine zt_iload_n (pc' := 9) hX dX12_asksSign_8 rfl rfl ?_
    refine zt_cVz (pc' := 12) hX dX12_asksSign_9 rfl zm_yX12_takesSign zw_27_14 zc_164 (by decide) zs_46 (q := (RX12, TX12, 108)) rfl rfl (zc_X12_takesSign _ _ σ hI a1_ ⟨by omega, by omega⟩) rfl rfl (Nat.le_of_ble_eq_true rfl) (by decide) (fun r7 s8 hr9 hp10 => ?_)
    obtain ⟨hI11, hF12, q13, q14, z15, z16, z17⟩ := hp10
    have e18 := hF12 164 3 rfl
    have hF19 := zOn_tr hF hF12 zi_id
    have b20 := zv_46_2 hI11 zc_164
    have b21 := zv_46_3 hI11 zc_164
    have b22 := zv_46_5 hI11 zc_164
    have b23 := zv_46_4 hI11 zc_164
    refine zt_ifne (pc' := 15) (tgt := 24) hX dX12_asksSign_12 rfl (by decide) ⟨by omega, by omega⟩ (fun c24 => ?_) (fun c24 => ?_)
    · exact zt_vret hX hR dX12_asksSign_24 ⟨hI11, hF19, by omega, by omega⟩
    · refine zt_aload_n (pc' := 16) hX dX12_asksSign_15 rfl rfl ?_
      refine zt_iconst (pc' := 17) hX dX12_asksSign_16 rfl ?_
      refine zt_aload_n (pc' := 18) hX dX12_asksSign_17 rfl rfl ?_
      have b25 := zv_46_2 hI11 zc_164
      refine zt_get (pc' := 21) (v := .int (zI (s8 164 2))) hX dX12_asksSign_18 rfl zf_X12_252 (by decide) zc_164 zs_46 rfl ?_
      refine zt_cVv (pc' := 24) hX dX12_asksSign_21 rfl zm_yX12_fail zw_26_19 zc_164 (by decide) zs_46 (q := (RX12, TX12, 108)) rfl rfl (zc_X12_fail _ _ s8 hI11 1 ⟨by omega, by omega⟩ (s8 164 2) ⟨by omega, by omega⟩) rfl rfl (Nat.le_of_ble_eq_true rfl) (by decide) (fun r26 s27 hr28 hp29 => ?_)
      obtain ⟨hI30, hF31, z32, z33⟩ := hp29
      have e34 := hF31 164 3 rfl
      have hF35 := zOn_tr hF19 hF31 zi_id
      have b36 := zv_46_2 hI30 zc_164
      have b37 := zv_46_3 hI30 zc_164
      have b38 := zv_46_5 hI30 zc_164
      have b39 := zv_46_4 hI30 zc_164
      exact zt_vret hX hR dX12_asksSign_24 ⟨hI30, hF35, by omega, by omega⟩

set_option maxRecDepth 100000 in
set_option maxHeartbeats 4000000 in
theorem zc_X12_number (l : Launch) (E : zEN) (σ : zSto) (hI : zInv σ) (a1_ : Int) (ha1_ : -2147483648 ≤ a1_ ∧ a1_ ≤ 2147483647) (a2_ : Int) (ha2_ : -2147483648 ≤ a2_ ∧ a2_ ≤ 2147483647) : zCt l E yX12_number cX12_number 5 (some .int) 1 zNC zNC 0 0 σ [.ref (E.1 + 164), .int (zI a1_), .int (zI a2_)] (fun r σ' => zInv σ' ∧ zOn zQ1 σ σ' ∧ -2147483648 ≤ r ∧ r ≤ 2147483647 ∧ (σ 164 2 ≤ σ' 164 2 ∧ (σ 164 2 ≤ σ 164 3 → σ' 164 2 ≤ σ 164 3)) ∧ (σ' 164 5 = 0 → σ 164 5 = 0 ∧ a1_ ≤ r ∧ r ≤ a2_ ∧ σ 164 2 + 1 ≤ σ' 164 2) ∧ (σ 164 5 ≠ 0 → σ' 164 5 = σ 164 5)) := by
  refine zCt_of2 [some (.ref (E.1 + 164)), some (.int (zI a1_)), some (.int (zI a2_)), none, none] (by decide +kernel) (Nat.le_of_ble_eq_true rfl) rfl ?_
  intro X hE hX hR hL hN
  subst hE
  have hX : zok X cX12_number RX12 1 := hX
  have hF := zOn_rf zQ1 σ
  have b1 := zv_46_2 hI zc_164
  have b2 := zv_46_3 hI zc_164
  have b3 := zv_46_5 hI zc_164
  have b4 := zv_46_4 hI zc_164
  refine zt_aload_n (pc' := 1) hX dX12_number_0 rfl rfl ?_
  have b5 := zv_46_5 hI zc_164
  refine zt_get (pc' := 4) (v := .int (zI (σ 164 5))) hX dX12_number_1 rfl zf_X12_246 (by decide) zc_164 zs_46 rfl ?_
  refine zt_ifeq (pc' := 7) (tgt := 9) hX dX12_number_4 rfl (by decide) ⟨by omega, by omega⟩ (fun c6 => ?_) (fun c6 => ?_)
  · refine zt_aload_n (pc' := 10) hX dX12_number_9 rfl rfl ?_
    refine zt_cVi (pc' := 13) hX dX12_number_10 rfl zm_yX12_look zw_26_12 zc_164 (by decide) zs_46 (q := (RX12, TX12, 108)) rfl rfl (zc_X12_look _ _ σ hI ) rfl rfl (Nat.le_of_ble_eq_true rfl) (by decide) (fun r7 s8 hr9 hp10 => ?_)
    obtain ⟨hI11, hF12, q13, q14, z15, z16, z17⟩ := hp10
    have e18 := hF12 164 3 rfl
    have hF19 := zOn_tr hF hF12 zi_id
    have b20 := zv_46_2 hI11 zc_164
    have b21 := zv_46_3 hI11 zc_164
    have b22 := zv_46_5 hI11 zc_164
    have b23 := zv_46_4 hI11 zc_164
    refine zt_cSz (pc' := 16) hX dX12_number_13 rfl zm_yX12_isDigit zw_27_4 (zc_X12_isDigit _ _ s8  r7 ⟨by omega, by omega⟩) rfl rfl (Nat.le_of_ble_eq_true rfl) (by decide) (fun r24 s25 hr26 hp27 => ?_)
    obtain ⟨rfl, q28, q29, z30⟩ := hp27
    have J_30_30 : zF X s8 30 [some (.ref (X.1.1 + 164)), none, none, none, none] [] := by
      refine zt_aload_n (pc' := 31) hX dX12_number_30 rfl rfl ?_
      refine zt_iconst (pc' := 32) hX dX12_number_31 rfl ?_
      refine zt_aload_n (pc' := 33) hX dX12_number_32 rfl rfl ?_
      have b32 := zv_46_2 hI11 zc_164
      refine zt_get (pc' := 36) (v := .int (zI (s8 164 2))) hX dX12_number_33 rfl zf_X12_252 (by decide) zc_164 zs_46 rfl ?_
      refine zt_cVv (pc' := 39) hX dX12_number_36 rfl zm_yX12_fail zw_26_19 zc_164 (by decide) zs_46 (q := (RX12, TX12, 108)) rfl rfl (zc_X12_fail _ _ s8 hI11 1 ⟨by omega, by omega⟩ (s8 164 2) ⟨by omega, by omega⟩) rfl rfl (Nat.le_of_ble_eq_true rfl) (by decide) (fun r33 s34 hr35 hp36 => ?_)
      obtain ⟨hI37, hF38, z39, z40⟩ := hp36
      have e41 := hF38 164 3 rfl
      have hF42 := zOn_tr hF19 hF38 zi_id
      have b43 := zv_46_2 hI37 zc_164
      have b44 := zv_46_3 hI37 zc_164
      have b45 := zv_46_5 hI37 zc_164
      have b46 := zv_46_4 hI37 zc_164
      refine zt_iconst (pc' := 40) hX dX12_number_39 rfl ?_
      exact zt_iret hX hR dX12_number_40 ⟨by omega, by omega⟩ ⟨hI37, hF42, by omega, by omega, by omega, by omega, by omega⟩
    refine zt_ifeq (pc' := 19) (tgt := 30) hX dX12_number_16 rfl (by decide) ⟨by omega, by omega⟩ (fun c47 => ?_) (fun c47 => ?_)
    · refine zt_mask [true, false, false, false, false] rfl ?_
      exact J_30_30
    · refine zt_aload_n (pc' := 20) hX dX12_number_19 rfl rfl ?_
      have b48 := zv_46_2 hI11 zc_164
      refine zt_get (pc' := 23) (v := .int (zI (s8 164 2))) hX dX12_number_20 rfl zf_X12_252 (by decide) zc_164 zs_46 rfl ?_
      refine zt_aload_n (pc' := 24) hX dX12_number_23 rfl rfl ?_
      have b49 := zv_46_4 hI11 zc_164
      refine zt_get (pc' := 27) (v := .int (zI (s8 164 4))) hX dX12_number_24 rfl zf_X12_266 (by decide) zc_164 zs_46 rfl ?_
      refine zt_icne (pc' := 30) (tgt := 41) hX dX12_number_27 rfl (by decide) ⟨by omega, by omega⟩ ⟨by omega, by omega⟩ (fun c50 => ?_) (fun c50 => ?_)
      · refine zt_aload_n (pc' := 42) hX dX12_number_41 rfl rfl ?_
        refine zt_get (pc' := 45) (v := .int (zI (s8 164 2))) hX dX12_number_42 rfl zf_X12_252 (by decide) zc_164 zs_46 rfl ?_
        refine zt_istore_n (pc' := 46) (lv' := [some (.ref (X.1.1 + 164)), some (.int (zI a1_)), some (.int (zI a2_)), some (.int (zI (s8 164 2))), none]) hX dX12_number_45 rfl hL (by decide) rfl ?_
        refine zt_iconst (pc' := 47) hX dX12_number_46 rfl ?_
        refine zt_istore (pc' := 49) (lv' := [some (.ref (X.1.1 + 164)), some (.int (zI a1_)), some (.int (zI a2_)), some (.int (zI (s8 164 2))), some (.int (zI 0))]) hX dX12_number_47 rfl hL (by decide) rfl ?_
        have L_49_62 : ∀ (N : Nat) (x51 : Int) (s54 : zSto), -2147483648 ≤ x51 → x51 ≤ 2147483647 → zInv s54 → zOn zQ1 σ s54 → ((s8 164 2) < s54 164 2 ∨ (s54 164 2 < s54 164 3 ∧ 48 ≤ s54 165 (s54 164 2).toNat ∧ s54 165 (s54 164 2).toNat ≤ 57)) → σ 164 2 ≤ (s8 164 2) → (s8 164 2) ≤ s54 164 2 → (σ 164 2 ≤ s54 164 2 ∧ (σ 164 2 ≤ σ 164 3 → s54 164 2 ≤ σ 164 3)) → s54 164 3 = σ 164 3 → s54 164 5 = σ 164 5 → ((1601 - s54 164 2).toNat) < N → zF X s54 49 [some (.ref (X.1.1 + 164)), some (.int (zI a1_)), some (.int (zI a2_)), some (.int (zI (s8 164 2))), some (.int (zI x51))] [] := by
          intro N
          induction N with
          | zero =>
            intro x51 s54 h52 h53 hI55 hF56 g57 g58 g59 g60 g61 g62 hm64
            exact absurd hm64 (Nat.not_lt_zero _)
          | succ N ih65 =>
            intro x51 s54 h52 h53 hI55 hF56 g57 g58 g59 g60 g61 g62 hm64
            have b66 := zv_46_2 hI55 zc_164
            have b67 := zv_46_3 hI55 zc_164
            have b68 := zv_46_5 hI55 zc_164
            have b69 := zv_46_4 hI55 zc_164
            refine zt_aload_n (pc' := 50) hX dX12_number_49 rfl rfl ?_
            have b70 := zv_46_2 hI55 zc_164
            refine zt_get (pc' := 53) (v := .int (zI (s54 164 2))) hX dX12_number_50 rfl zf_X12_252 (by decide) zc_164 zs_46 rfl ?_
            refine zt_aload_n (pc' := 54) hX dX12_number_53 rfl rfl ?_
            have b71 := zv_46_3 hI55 zc_164
            refine zt_get (pc' := 57) (v := .int (zI (s54 164 3))) hX dX12_number_54 rfl zf_X12_255 (by decide) zc_164 zs_46 rfl ?_
            have J_129_72 : (s8 164 2) < s54 164 2 → zF X s54 129 [some (.ref (X.1.1 + 164)), some (.int (zI a1_)), some (.int (zI a2_)), some (.int (zI (s8 164 2))), some (.int (zI x51))] [] := by
              intro g72
              refine zt_aload_n (pc' := 130) hX dX12_number_129 rfl rfl ?_
              refine zt_aload_n (pc' := 131) hX dX12_number_130 rfl rfl ?_
              refine zt_get (pc' := 134) (v := .int (zI (s54 164 2))) hX dX12_number_131 rfl zf_X12_252 (by decide) zc_164 zs_46 rfl ?_
              refine zt_put (pc' := 137) (x := (s54 164 2)) hX dX12_number_134 rfl zf_X12_266 (by decide) zc_164 zs_46 (fun q hq => by cases hq; rfl) rfl rfl rfl ?_
              generalize hs75 : zset s54 164 4 (s54 164 2) = s74
              have hI76 : zInv s74 := hs75 ▸ zp_46_4 hI55 zc_164 ⟨by omega, by omega⟩
              have hF77 : zOn zQ1 σ s74 := hs75 ▸ zOn_set hF56 (by decide)
              have e78 : s74 164 2 = s54 164 2 := by rw [← hs75]; exact zset_j (by decide)
              have e79 : s74 164 3 = s54 164 3 := by rw [← hs75]; exact zset_j (by decide)
              have e80 : s74 164 5 = s54 164 5 := by rw [← hs75]; exact zset_j (by decide)
              have e81 : s74 164 4 = (s54 164 2) := by rw [← hs75]; exact zset_s
              refine zt_aload_n (pc' := 138) hX dX12_number_137 rfl rfl ?_
              refine zt_iload_n (pc' := 139) hX dX12_number_138 rfl rfl ?_
              refine zt_put (pc' := 142) (x := (s8 164 2)) hX dX12_number_139 rfl zf_X12_286 (by decide) zc_164 zs_46 (fun q hq => by cases hq; rfl) rfl rfl rfl ?_
              generalize hs83 : zset s74 164 10 (s8 164 2) = s82
              have hI84 : zInv s82 := hs83 ▸ zp_46_10 hI76 zc_164 ⟨by omega, by omega⟩
              have hF85 : zOn zQ1 σ s82 := hs83 ▸ zOn_set hF77 (by decide)
              have e86 : s82 164 2 = s74 164 2 := by rw [← hs83]; exact zset_j (by decide)
              have e87 : s82 164 3 = s74 164 3 := by rw [← hs83]; exact zset_j (by decide)
              have e88 : s82 164 5 = s74 164 5 := by rw [← hs83]; exact zset_j (by decide)
              have e89 : s82 164 4 = s74 164 4 := by rw [← hs83]; exact zset_j (by decide)
              refine zt_iload (pc' := 144) hX dX12_number_142 rfl rfl ?_
              refine zt_i2l (pc' := 145) hX dX12_number_144 rfl ⟨by omega, by omega⟩ ?_
              refine zt_iload_n (pc' := 146) hX dX12_number_145 rfl rfl ?_
              refine zt_i2l (pc' := 147) hX dX12_number_146 rfl ⟨by omega, by omega⟩ ?_
              refine zt_iload_n (pc' := 148) hX dX12_number_147 rfl rfl ?_
              refine zt_i2l (pc' := 149) hX dX12_number_148 rfl ⟨by omega, by omega⟩ ?_
              refine zt_cSz (pc' := 152) hX dX12_number_149 rfl zm_yX12_isIn zw_27_7 (zc_X12_isIn _ _ s82  x51 ⟨by omega, by omega⟩ a1_ ⟨by omega, by omega⟩ a2_ ⟨by omega, by omega⟩) rfl rfl (Nat.le_of_ble_eq_true rfl) (by decide) (fun r90 s91 hr92 hp93 => ?_)
              obtain ⟨rfl, q94, q95, z96⟩ := hp93
              refine zt_ifne (pc' := 155) (tgt := 161) hX dX12_number_152 rfl (by decide) ⟨by omega, by omega⟩ (fun c97 => ?_) (fun c97 => ?_)
              · refine zt_iload (pc' := 163) hX dX12_number_161 rfl rfl ?_
                exact zt_iret hX hR dX12_number_163 ⟨by omega, by omega⟩ ⟨hI84, hF85, by omega, by omega, by omega, by omega, by omega⟩
              · refine zt_aload_n (pc' := 156) hX dX12_number_155 rfl rfl ?_
                refine zt_iconst (pc' := 157) hX dX12_number_156 rfl ?_
                refine zt_iload_n (pc' := 158) hX dX12_number_157 rfl rfl ?_
                refine zt_cVv (pc' := 161) hX dX12_number_158 rfl zm_yX12_fail zw_26_19 zc_164 (by decide) zs_46 (q := (RX12, TX12, 108)) rfl rfl (zc_X12_fail _ _ s82 hI84 2 ⟨by omega, by omega⟩ (s8 164 2) ⟨by omega, by omega⟩) rfl rfl (Nat.le_of_ble_eq_true rfl) (by decide) (fun r98 s99 hr100 hp101 => ?_)
                obtain ⟨hI102, hF103, z104, z105⟩ := hp101
                have e106 := hF103 164 3 rfl
                have hF107 := zOn_tr hF85 hF103 zi_id
                have b108 := zv_46_2 hI102 zc_164
                have b109 := zv_46_3 hI102 zc_164
                have b110 := zv_46_5 hI102 zc_164
                have b111 := zv_46_4 hI102 zc_164
                refine zt_iload (pc' := 163) hX dX12_number_161 rfl rfl ?_
                exact zt_iret hX hR dX12_number_163 ⟨by omega, by omega⟩ ⟨hI102, hF107, by omega, by omega, by omega, by omega, by omega⟩
            refine zt_icge (pc' := 60) (tgt := 129) hX dX12_number_57 rfl (by decide) ⟨by omega, by omega⟩ ⟨by omega, by omega⟩ (fun c112 => ?_) (fun c112 => ?_)
            · exact J_129_72 (by omega)
            · refine zt_aload_n (pc' := 61) hX dX12_number_60 rfl rfl ?_
              refine zt_get (pc' := 64) (v := .ref (X.1.1 + 165)) hX dX12_number_61 rfl zf_X12_7 (by decide) zc_164 zs_46 (zrf_of (zv_46_0 hI55 zc_164)) ?_
              refine zt_aload_n (pc' := 65) hX dX12_number_64 rfl rfl ?_
              refine zt_get (pc' := 68) (v := .int (zI (s54 164 2))) hX dX12_number_65 rfl zf_X12_252 (by decide) zc_164 zs_46 rfl ?_
              refine zt_iald (pc' := 69) hX dX12_number_68 rfl (by decide) zc_165 zs_47 (by decide) ⟨by omega, by omega⟩ ?_
              generalize hv113 : s54 165 ((s54 164 2).toNat) = v113
              have bv113 : 0 ≤ v113 ∧ v113 ≤ 255 := hv113 ▸ zv_47 hI55 zc_165 _
              refine zt_cSz (pc' := 72) hX dX12_number_69 rfl zm_yX12_isDigit zw_27_4 (zc_X12_isDigit _ _ s54  v113 ⟨by omega, by omega⟩) rfl rfl (Nat.le_of_ble_eq_true rfl) (by decide) (fun r114 s115 hr116 hp117 => ?_)
              obtain ⟨rfl, q118, q119, z120⟩ := hp117
              refine zt_ifeq (pc' := 75) (tgt := 129) hX dX12_number_72 rfl (by decide) ⟨by omega, by omega⟩ (fun c121 => ?_) (fun c121 => ?_)
              · exact J_129_72 (by omega)
              · refine zt_aload_n (pc' := 76) hX dX12_number_75 rfl rfl ?_
                refine zt_get (pc' := 79) (v := .int (zI (s54 164 2))) hX dX12_number_76 rfl zf_X12_252 (by decide) zc_164 zs_46 rfl ?_
                refine zt_iload_n (pc' := 80) hX dX12_number_79 rfl rfl ?_
                refine zt_isub (pc' := 81) hX dX12_number_80 rfl ?_
                refine zt_iconst (pc' := 82) hX dX12_number_81 rfl ?_
                refine zt_icne (pc' := 85) (tgt := 96) hX dX12_number_82 rfl (by decide) ⟨by omega, by omega⟩ ⟨by omega, by omega⟩ (fun c122 => ?_) (fun c122 => ?_)
                · refine zt_bipush (pc' := 98) hX dX12_number_96 rfl (by decide) (by decide) ?_
                  refine zt_iload (pc' := 100) hX dX12_number_98 rfl rfl ?_
                  refine zt_imul (pc' := 101) hX dX12_number_100 rfl ?_
                  refine zt_wrap (fun r123 zr123 lr123 ur123 => ?_)
                  clear zr123
                  refine zt_aload_n (pc' := 102) hX dX12_number_101 rfl rfl ?_
                  refine zt_get (pc' := 105) (v := .ref (X.1.1 + 165)) hX dX12_number_102 rfl zf_X12_7 (by decide) zc_164 zs_46 (zrf_of (zv_46_0 hI55 zc_164)) ?_
                  refine zt_aload_n (pc' := 106) hX dX12_number_105 rfl rfl ?_
                  refine zt_get (pc' := 109) (v := .int (zI (s54 164 2))) hX dX12_number_106 rfl zf_X12_252 (by decide) zc_164 zs_46 rfl ?_
                  refine zt_iald (pc' := 110) hX dX12_number_109 rfl (by decide) zc_165 zs_47 (by decide) ⟨by omega, by omega⟩ ?_
                  generalize hv124 : s54 165 ((s54 164 2).toNat) = v124
                  have bv124 : 0 ≤ v124 ∧ v124 ≤ 255 := hv124 ▸ zv_47 hI55 zc_165 _
                  refine zt_iadd (pc' := 111) hX dX12_number_110 rfl ?_
                  refine zt_wrap (fun r125 zr125 lr125 ur125 => ?_)
                  clear zr125
                  refine zt_bipush (pc' := 113) hX dX12_number_111 rfl (by decide) (by decide) ?_
                  refine zt_isub (pc' := 114) hX dX12_number_113 rfl ?_
                  refine zt_wrap (fun r126 zr126 lr126 ur126 => ?_)
                  clear zr126
                  refine zt_istore (pc' := 116) (lv' := [some (.ref (X.1.1 + 164)), some (.int (zI a1_)), some (.int (zI a2_)), some (.int (zI (s8 164 2))), some (.int (zI r126))]) hX dX12_number_114 rfl hL (by decide) rfl ?_
                  refine zt_aload_n (pc' := 117) hX dX12_number_116 rfl rfl ?_
                  refine zt_dup (pc' := 118) hX dX12_number_117 rfl rfl ?_
                  refine zt_get (pc' := 121) (v := .int (zI (s54 164 2))) hX dX12_number_118 rfl zf_X12_252 (by decide) zc_164 zs_46 rfl ?_
                  refine zt_iconst (pc' := 122) hX dX12_number_121 rfl ?_
                  refine zt_iadd (pc' := 123) hX dX12_number_122 rfl ?_
                  refine zt_put (pc' := 126) (x := ((s54 164 2) + 1)) hX dX12_number_123 rfl zf_X12_252 (by decide) zc_164 zs_46 (fun q hq => by cases hq; rfl) rfl rfl rfl ?_
                  generalize hs128 : zset s54 164 2 ((s54 164 2) + 1) = s127
                  have hI129 : zInv s127 := hs128 ▸ zp_46_2 hI55 zc_164 ⟨by omega, by omega⟩
                  have hF130 : zOn zQ1 σ s127 := hs128 ▸ zOn_set hF56 (by decide)
                  have e131 : s127 164 2 = ((s54 164 2) + 1) := by rw [← hs128]; exact zset_s
                  have e132 : s127 164 3 = s54 164 3 := by rw [← hs128]; exact zset_j (by decide)
                  have e133 : s127 164 5 = s54 164 5 := by rw [← hs128]; exact zset_j (by decide)
                  have e134 : s127 164 4 = s54 164 4 := by rw [← hs128]; exact zset_j (by decide)
                  refine zt_goto (tgt := 49) hX dX12_number_126 (by decide) ?_
                  exact ih65 r126 s127 (by omega) (by omega) hI129 hF130 (by omega) (by omega) (by omega) (by omega) (by omega) (by omega) (by omega)
                · refine zt_aload_n (pc' := 86) hX dX12_number_85 rfl rfl ?_
                  refine zt_iconst (pc' := 87) hX dX12_number_86 rfl ?_
                  refine zt_aload_n (pc' := 88) hX dX12_number_87 rfl rfl ?_
                  refine zt_get (pc' := 91) (v := .int (zI (s54 164 2))) hX dX12_number_88 rfl zf_X12_252 (by decide) zc_164 zs_46 rfl ?_
                  refine zt_cVv (pc' := 94) hX dX12_number_91 rfl zm_yX12_fail zw_26_19 zc_164 (by decide) zs_46 (q := (RX12, TX12, 108)) rfl rfl (zc_X12_fail _ _ s54 hI55 1 ⟨by omega, by omega⟩ (s54 164 2) ⟨by omega, by omega⟩) rfl rfl (Nat.le_of_ble_eq_true rfl) (by decide) (fun r135 s136 hr137 hp138 => ?_)
                  obtain ⟨hI139, hF140, z141, z142⟩ := hp138
                  have e143 := hF140 164 3 rfl
                  have hF144 := zOn_tr hF56 hF140 zi_id
                  have b145 := zv_46_2 hI139 zc_164
                  have b146 := zv_46_3 hI139 zc_164
                  have b147 := zv_46_5 hI139 zc_164
                  have b148 := zv_46_4 hI139 zc_164
                  refine zt_iconst (pc' := 95) hX dX12_number_94 rfl ?_
                  exact zt_iret hX hR dX12_number_95 ⟨by omega, by omega⟩ ⟨hI139, hF144, by omega, by omega, by omega, by omega, by omega⟩
        exact L_49_62 _ 0 s8 (by omega) (by omega) hI11 hF19 (by omega) (by omega) (by omega) (by omega) (by omega) (by omega) (Nat.lt_succ_self _)
      · refine zt_mask [true, false, false, false, false] rfl ?_
        exact J_30_30
  · refine zt_iconst (pc' := 8) hX dX12_number_7 rfl ?_
    exact zt_iret hX hR dX12_number_8 ⟨by omega, by omega⟩ ⟨hI, hF, by omega, by omega, by omega, by omega, by omega⟩

set_option maxRecDepth 100000 in
set_option maxHeartbeats 4000000 in
theorem zc_X12_isOwnHere (l : Launch) (E : zEN) (σ : zSto) (hI : zInv σ)  : zCt l E yX12_isOwnHere cX12_isOwnHere 2 (some .boolean) 2 zNC zNC 0 0 σ [.ref (E.1 + 164)] (fun r σ' => zInv σ' ∧ zOn zQ1 σ σ' ∧ 0 ≤ r ∧ r ≤ 1 ∧ (σ 164 2 ≤ σ' 164 2 ∧ (σ 164 2 ≤ σ 164 3 → σ' 164 2 ≤ σ 164 3)) ∧ (σ' 164 5 = σ 164 5)) := by
  refine zCt_of2 [some (.ref (E.1 + 164)), none] (by decide +kernel) (Nat.le_of_ble_eq_true rfl) rfl ?_
  intro X hE hX hR hL hN
  subst hE
  have hX : zok X cX12_isOwnHere RX12 2 := hX
  have hF := zOn_rf zQ1 σ
  have b1 := zv_46_2 hI zc_164
  have b2 := zv_46_3 hI zc_164
  have b3 := zv_46_5 hI zc_164
  have b4 := zv_46_4 hI zc_164
  refine zt_aload_n (pc' := 1) hX dX12_isOwnHere_0 rfl rfl ?_
  refine zt_aload_n (pc' := 2) hX dX12_isOwnHere_1 rfl rfl ?_
  refine zt_get (pc' := 5) (v := .ref (X.1.1 + 167)) hX dX12_isOwnHere_2 rfl zf_X12_20 (by decide) zc_164 zs_46 (zrf_of (zv_46_11 hI zc_164)) ?_
  refine zt_cVz (pc' := 8) hX dX12_isOwnHere_5 rfl zm_yX12_isHere zw_26_8 zc_164 (by decide) zs_46 (q := (RX12, TX12, 108)) rfl rfl (zc_X12_isHere _ _ σ hI 167 49 4 zc_167 (by decide) zs_49 (by decide)) rfl rfl (Nat.le_of_ble_eq_true rfl) (by decide) (fun r5 s6 hr7 hp8 => ?_)
  obtain ⟨hI9, hF10, q11, q12, z13, z14, z15⟩ := hp8
  have e16 := hF10 164 3 rfl
  have hF17 := zOn_tr hF hF10 zi_id
  have b18 := zv_46_2 hI9 zc_164
  have b19 := zv_46_3 hI9 zc_164
  have b20 := zv_46_5 hI9 zc_164
  have b21 := zv_46_4 hI9 zc_164
  have J_71_30 : ∀ (y22 : Int) (s25 : zSto), 0 ≤ y22 → y22 ≤ 1 → zInv s25 → zOn zQ1 σ s25 → (σ 164 2 ≤ s25 164 2 ∧ (σ 164 2 ≤ σ 164 3 → s25 164 2 ≤ σ 164 3)) → s25 164 3 = σ 164 3 → s25 164 5 = σ 164 5 → zF X s25 71 [some (.ref (X.1.1 + 164)), none] [.int (zI y22)] := by
    intro y22 s25 h23 h24 hI26 hF27 g28 g29 g30
    have b32 := zv_46_2 hI26 zc_164
    have b33 := zv_46_3 hI26 zc_164
    have b34 := zv_46_5 hI26 zc_164
    have b35 := zv_46_4 hI26 zc_164
    refine zt_istore_n (pc' := 72) (lv' := [some (.ref (X.1.1 + 164)), some (.int (zI y22))]) hX dX12_isOwnHere_71 rfl hL (by decide) rfl ?_
    refine zt_iload_n (pc' := 73) hX dX12_isOwnHere_72 rfl rfl ?_
    have J_147_44 : ∀ (y36 : Int) (s39 : zSto), 0 ≤ y36 → y36 ≤ 1 → zInv s39 → zOn zQ1 σ s39 → (σ 164 2 ≤ s39 164 2 ∧ (σ 164 2 ≤ σ 164 3 → s39 164 2 ≤ σ 164 3)) → s39 164 3 = σ 164 3 → s39 164 5 = σ 164 5 → zF X s39 147 [some (.ref (X.1.1 + 164)), none] [.int (zI y36)] := by
      intro y36 s39 h37 h38 hI40 hF41 g42 g43 g44
      have b46 := zv_46_2 hI40 zc_164
      have b47 := zv_46_3 hI40 zc_164
      have b48 := zv_46_5 hI40 zc_164
      have b49 := zv_46_4 hI40 zc_164
      refine zt_istore_n (pc' := 148) (lv' := [some (.ref (X.1.1 + 164)), some (.int (zI y36))]) hX dX12_isOwnHere_147 rfl hL (by decide) rfl ?_
      refine zt_iload_n (pc' := 149) hX dX12_isOwnHere_148 rfl rfl ?_
      have J_223_58 : ∀ (y50 : Int) (s53 : zSto), 0 ≤ y50 → y50 ≤ 1 → zInv s53 → zOn zQ1 σ s53 → (σ 164 2 ≤ s53 164 2 ∧ (σ 164 2 ≤ σ 164 3 → s53 164 2 ≤ σ 164 3)) → s53 164 3 = σ 164 3 → s53 164 5 = σ 164 5 → zF X s53 223 [some (.ref (X.1.1 + 164)), none] [.int (zI y50)] := by
        intro y50 s53 h51 h52 hI54 hF55 g56 g57 g58
        have b60 := zv_46_2 hI54 zc_164
        have b61 := zv_46_3 hI54 zc_164
        have b62 := zv_46_5 hI54 zc_164
        have b63 := zv_46_4 hI54 zc_164
        refine zt_istore_n (pc' := 224) (lv' := [some (.ref (X.1.1 + 164)), some (.int (zI y50))]) hX dX12_isOwnHere_223 rfl hL (by decide) rfl ?_
        refine zt_iload_n (pc' := 225) hX dX12_isOwnHere_224 rfl rfl ?_
        have J_299_72 : ∀ (y64 : Int) (s67 : zSto), 0 ≤ y64 → y64 ≤ 1 → zInv s67 → zOn zQ1 σ s67 → (σ 164 2 ≤ s67 164 2 ∧ (σ 164 2 ≤ σ 164 3 → s67 164 2 ≤ σ 164 3)) → s67 164 3 = σ 164 3 → s67 164 5 = σ 164 5 → zF X s67 299 [some (.ref (X.1.1 + 164)), none] [.int (zI y64)] := by
          intro y64 s67 h65 h66 hI68 hF69 g70 g71 g72
          have b74 := zv_46_2 hI68 zc_164
          have b75 := zv_46_3 hI68 zc_164
          have b76 := zv_46_5 hI68 zc_164
          have b77 := zv_46_4 hI68 zc_164
          refine zt_istore_n (pc' := 300) (lv' := [some (.ref (X.1.1 + 164)), some (.int (zI y64))]) hX dX12_isOwnHere_299 rfl hL (by decide) rfl ?_
          refine zt_iload_n (pc' := 301) hX dX12_isOwnHere_300 rfl rfl ?_
          have J_337_83 : ∀ (s78 : zSto), zInv s78 → zOn zQ1 σ s78 → (σ 164 2 ≤ s78 164 2 ∧ (σ 164 2 ≤ σ 164 3 → s78 164 2 ≤ σ 164 3)) → s78 164 3 = σ 164 3 → s78 164 5 = σ 164 5 → zF X s78 337 [none, none] [] := by
            intro s78 hI79 hF80 g81 g82 g83
            have b85 := zv_46_2 hI79 zc_164
            have b86 := zv_46_3 hI79 zc_164
            have b87 := zv_46_5 hI79 zc_164
            have b88 := zv_46_4 hI79 zc_164
            refine zt_iconst (pc' := 338) hX dX12_isOwnHere_337 rfl ?_
            refine zt_goto (tgt := 342) hX dX12_isOwnHere_338 (by decide) ?_
            refine zt_istore_n (pc' := 343) (lv' := [none, some (.int (zI 1))]) hX dX12_isOwnHere_342 rfl hL (by decide) rfl ?_
            refine zt_iload_n (pc' := 344) hX dX12_isOwnHere_343 rfl rfl ?_
            exact zt_zret hX hR dX12_isOwnHere_344 ⟨by omega, by omega⟩ ⟨hI79, hF80, by omega, by omega, by omega, by omega⟩
          refine zt_ifne (pc' := 304) (tgt := 337) hX dX12_isOwnHere_301 rfl (by decide) ⟨by omega, by omega⟩ (fun c89 => ?_) (fun c89 => ?_)
          · refine zt_mask [false, false] rfl ?_
            exact J_337_83 s67 hI68 hF69 (by omega) (by omega) (by omega)
          · refine zt_aload_n (pc' := 305) hX dX12_isOwnHere_304 rfl rfl ?_
            refine zt_aload_n (pc' := 306) hX dX12_isOwnHere_305 rfl rfl ?_
            refine zt_get (pc' := 309) (v := .ref (X.1.1 + 191)) hX dX12_isOwnHere_306 rfl zf_X12_93 (by decide) zc_164 zs_46 (zrf_of (zv_46_35 hI68 zc_164)) ?_
            refine zt_cVz (pc' := 312) hX dX12_isOwnHere_309 rfl zm_yX12_isHere zw_26_8 zc_164 (by decide) zs_46 (q := (RX12, TX12, 108)) rfl rfl (zc_X12_isHere _ _ s67 hI68 191 73 3 zc_191 (by decide) zs_73 (by decide)) rfl rfl (Nat.le_of_ble_eq_true rfl) (by decide) (fun r90 s91 hr92 hp93 => ?_)
            obtain ⟨hI94, hF95, q96, q97, z98, z99, z100⟩ := hp93
            have e101 := hF95 164 3 rfl
            have hF102 := zOn_tr hF69 hF95 zi_id
            have b103 := zv_46_2 hI94 zc_164
            have b104 := zv_46_3 hI94 zc_164
            have b105 := zv_46_5 hI94 zc_164
            have b106 := zv_46_4 hI94 zc_164
            refine zt_ifne (pc' := 315) (tgt := 337) hX dX12_isOwnHere_312 rfl (by decide) ⟨by omega, by omega⟩ (fun c107 => ?_) (fun c107 => ?_)
            · refine zt_mask [false, false] rfl ?_
              exact J_337_83 s91 hI94 hF102 (by omega) (by omega) (by omega)
            · refine zt_aload_n (pc' := 316) hX dX12_isOwnHere_315 rfl rfl ?_
              refine zt_aload_n (pc' := 317) hX dX12_isOwnHere_316 rfl rfl ?_
              refine zt_get (pc' := 320) (v := .ref (X.1.1 + 192)) hX dX12_isOwnHere_317 rfl zf_X12_96 (by decide) zc_164 zs_46 (zrf_of (zv_46_36 hI94 zc_164)) ?_
              refine zt_cVz (pc' := 323) hX dX12_isOwnHere_320 rfl zm_yX12_isHere zw_26_8 zc_164 (by decide) zs_46 (q := (RX12, TX12, 108)) rfl rfl (zc_X12_isHere _ _ s91 hI94 192 74 3 zc_192 (by decide) zs_74 (by decide)) rfl rfl (Nat.le_of_ble_eq_true rfl) (by decide) (fun r108 s109 hr110 hp111 => ?_)
              obtain ⟨hI112, hF113, q114, q115, z116, z117, z118⟩ := hp111
              have e119 := hF113 164 3 rfl
              have hF120 := zOn_tr hF102 hF113 zi_id
              have b121 := zv_46_2 hI112 zc_164
              have b122 := zv_46_3 hI112 zc_164
              have b123 := zv_46_5 hI112 zc_164
              have b124 := zv_46_4 hI112 zc_164
              refine zt_ifne (pc' := 326) (tgt := 337) hX dX12_isOwnHere_323 rfl (by decide) ⟨by omega, by omega⟩ (fun c125 => ?_) (fun c125 => ?_)
              · refine zt_mask [false, false] rfl ?_
                exact J_337_83 s109 hI112 hF120 (by omega) (by omega) (by omega)
              · refine zt_aload_n (pc' := 327) hX dX12_isOwnHere_326 rfl rfl ?_
                refine zt_aload_n (pc' := 328) hX dX12_isOwnHere_327 rfl rfl ?_
                refine zt_get (pc' := 331) (v := .ref (X.1.1 + 193)) hX dX12_isOwnHere_328 rfl zf_X12_99 (by decide) zc_164 zs_46 (zrf_of (zv_46_37 hI112 zc_164)) ?_
                refine zt_cVz (pc' := 334) hX dX12_isOwnHere_331 rfl zm_yX12_isHere zw_26_8 zc_164 (by decide) zs_46 (q := (RX12, TX12, 108)) rfl rfl (zc_X12_isHere _ _ s109 hI112 193 75 3 zc_193 (by decide) zs_75 (by decide)) rfl rfl (Nat.le_of_ble_eq_true rfl) (by decide) (fun r126 s127 hr128 hp129 => ?_)
                obtain ⟨hI130, hF131, q132, q133, z134, z135, z136⟩ := hp129
                have e137 := hF131 164 3 rfl
                have hF138 := zOn_tr hF120 hF131 zi_id
                have b139 := zv_46_2 hI130 zc_164
                have b140 := zv_46_3 hI130 zc_164
                have b141 := zv_46_5 hI130 zc_164
                have b142 := zv_46_4 hI130 zc_164
                refine zt_ifeq (pc' := 337) (tgt := 341) hX dX12_isOwnHere_334 rfl (by decide) ⟨by omega, by omega⟩ (fun c143 => ?_) (fun c143 => ?_)
                · refine zt_iconst (pc' := 342) hX dX12_isOwnHere_341 rfl ?_
                  refine zt_istore_n (pc' := 343) (lv' := [some (.ref (X.1.1 + 164)), some (.int (zI 0))]) hX dX12_isOwnHere_342 rfl hL (by decide) rfl ?_
                  refine zt_iload_n (pc' := 344) hX dX12_isOwnHere_343 rfl rfl ?_
                  exact zt_zret hX hR dX12_isOwnHere_344 ⟨by omega, by omega⟩ ⟨hI130, hF138, by omega, by omega, by omega, by omega⟩
                · refine zt_mask [false, false] rfl ?_
                  exact J_337_83 s127 hI130 hF138 (by omega) (by omega) (by omega)
        have J_294_149 : ∀ (s144 : zSto), zInv s144 → zOn zQ1 σ s144 → (σ 164 2 ≤ s144 164 2 ∧ (σ 164 2 ≤ σ 164 3 → s144 164 2 ≤ σ 164 3)) → s144 164 3 = σ 164 3 → s144 164 5 = σ 164 5 → zF X s144 294 [some (.ref (X.1.1 + 164)), none] [] := by
          intro s144 hI145 hF146 g147 g148 g149
          have b151 := zv_46_2 hI145 zc_164
          have b152 := zv_46_3 hI145 zc_164
          have b153 := zv_46_5 hI145 zc_164
          have b154 := zv_46_4 hI145 zc_164
          refine zt_iconst (pc' := 295) hX dX12_isOwnHere_294 rfl ?_
          refine zt_goto (tgt := 299) hX dX12_isOwnHere_295 (by decide) ?_
          exact J_299_72 1 s144 (by omega) (by omega) hI145 hF146 (by omega) (by omega) (by omega)
        refine zt_ifne (pc' := 228) (tgt := 294) hX dX12_isOwnHere_225 rfl (by decide) ⟨by omega, by omega⟩ (fun c155 => ?_) (fun c155 => ?_)
        · refine zt_mask [true, false] rfl ?_
          exact J_294_149 s53 hI54 hF55 (by omega) (by omega) (by omega)
        · refine zt_aload_n (pc' := 229) hX dX12_isOwnHere_228 rfl rfl ?_
          refine zt_aload_n (pc' := 230) hX dX12_isOwnHere_229 rfl rfl ?_
          refine zt_get (pc' := 233) (v := .ref (X.1.1 + 185)) hX dX12_isOwnHere_230 rfl zf_X12_75 (by decide) zc_164 zs_46 (zrf_of (zv_46_29 hI54 zc_164)) ?_
          refine zt_cVz (pc' := 236) hX dX12_isOwnHere_233 rfl zm_yX12_isHere zw_26_8 zc_164 (by decide) zs_46 (q := (RX12, TX12, 108)) rfl rfl (zc_X12_isHere _ _ s53 hI54 185 67 6 zc_185 (by decide) zs_67 (by decide)) rfl rfl (Nat.le_of_ble_eq_true rfl) (by decide) (fun r156 s157 hr158 hp159 => ?_)
          obtain ⟨hI160, hF161, q162, q163, z164, z165, z166⟩ := hp159
          have e167 := hF161 164 3 rfl
          have hF168 := zOn_tr hF55 hF161 zi_id
          have b169 := zv_46_2 hI160 zc_164
          have b170 := zv_46_3 hI160 zc_164
          have b171 := zv_46_5 hI160 zc_164
          have b172 := zv_46_4 hI160 zc_164
          refine zt_ifne (pc' := 239) (tgt := 294) hX dX12_isOwnHere_236 rfl (by decide) ⟨by omega, by omega⟩ (fun c173 => ?_) (fun c173 => ?_)
          · refine zt_mask [true, false] rfl ?_
            exact J_294_149 s157 hI160 hF168 (by omega) (by omega) (by omega)
          · refine zt_aload_n (pc' := 240) hX dX12_isOwnHere_239 rfl rfl ?_
            refine zt_aload_n (pc' := 241) hX dX12_isOwnHere_240 rfl rfl ?_
            refine zt_get (pc' := 244) (v := .ref (X.1.1 + 186)) hX dX12_isOwnHere_241 rfl zf_X12_78 (by decide) zc_164 zs_46 (zrf_of (zv_46_30 hI160 zc_164)) ?_
            refine zt_cVz (pc' := 247) hX dX12_isOwnHere_244 rfl zm_yX12_isHere zw_26_8 zc_164 (by decide) zs_46 (q := (RX12, TX12, 108)) rfl rfl (zc_X12_isHere _ _ s157 hI160 186 68 3 zc_186 (by decide) zs_68 (by decide)) rfl rfl (Nat.le_of_ble_eq_true rfl) (by decide) (fun r174 s175 hr176 hp177 => ?_)
            obtain ⟨hI178, hF179, q180, q181, z182, z183, z184⟩ := hp177
            have e185 := hF179 164 3 rfl
            have hF186 := zOn_tr hF168 hF179 zi_id
            have b187 := zv_46_2 hI178 zc_164
            have b188 := zv_46_3 hI178 zc_164
            have b189 := zv_46_5 hI178 zc_164
            have b190 := zv_46_4 hI178 zc_164
            refine zt_ifne (pc' := 250) (tgt := 294) hX dX12_isOwnHere_247 rfl (by decide) ⟨by omega, by omega⟩ (fun c191 => ?_) (fun c191 => ?_)
            · refine zt_mask [true, false] rfl ?_
              exact J_294_149 s175 hI178 hF186 (by omega) (by omega) (by omega)
            · refine zt_aload_n (pc' := 251) hX dX12_isOwnHere_250 rfl rfl ?_
              refine zt_aload_n (pc' := 252) hX dX12_isOwnHere_251 rfl rfl ?_
              refine zt_get (pc' := 255) (v := .ref (X.1.1 + 187)) hX dX12_isOwnHere_252 rfl zf_X12_81 (by decide) zc_164 zs_46 (zrf_of (zv_46_31 hI178 zc_164)) ?_
              refine zt_cVz (pc' := 258) hX dX12_isOwnHere_255 rfl zm_yX12_isHere zw_26_8 zc_164 (by decide) zs_46 (q := (RX12, TX12, 108)) rfl rfl (zc_X12_isHere _ _ s175 hI178 187 69 3 zc_187 (by decide) zs_69 (by decide)) rfl rfl (Nat.le_of_ble_eq_true rfl) (by decide) (fun r192 s193 hr194 hp195 => ?_)
              obtain ⟨hI196, hF197, q198, q199, z200, z201, z202⟩ := hp195
              have e203 := hF197 164 3 rfl
              have hF204 := zOn_tr hF186 hF197 zi_id
              have b205 := zv_46_2 hI196 zc_164
              have b206 := zv_46_3 hI196 zc_164
              have b207 := zv_46_5 hI196 zc_164
              have b208 := zv_46_4 hI196 zc_164
              refine zt_ifne (pc' := 261) (tgt := 294) hX dX12_isOwnHere_258 rfl (by decide) ⟨by omega, by omega⟩ (fun c209 => ?_) (fun c209 => ?_)
              · refine zt_mask [true, false] rfl ?_
                exact J_294_149 s193 hI196 hF204 (by omega) (by omega) (by omega)
              · refine zt_aload_n (pc' := 262) hX dX12_isOwnHere_261 rfl rfl ?_
                refine zt_aload_n (pc' := 263) hX dX12_isOwnHere_262 rfl rfl ?_
                refine zt_get (pc' := 266) (v := .ref (X.1.1 + 188)) hX dX12_isOwnHere_263 rfl zf_X12_84 (by decide) zc_164 zs_46 (zrf_of (zv_46_32 hI196 zc_164)) ?_
                refine zt_cVz (pc' := 269) hX dX12_isOwnHere_266 rfl zm_yX12_isHere zw_26_8 zc_164 (by decide) zs_46 (q := (RX12, TX12, 108)) rfl rfl (zc_X12_isHere _ _ s193 hI196 188 70 2 zc_188 (by decide) zs_70 (by decide)) rfl rfl (Nat.le_of_ble_eq_true rfl) (by decide) (fun r210 s211 hr212 hp213 => ?_)
                obtain ⟨hI214, hF215, q216, q217, z218, z219, z220⟩ := hp213
                have e221 := hF215 164 3 rfl
                have hF222 := zOn_tr hF204 hF215 zi_id
                have b223 := zv_46_2 hI214 zc_164
                have b224 := zv_46_3 hI214 zc_164
                have b225 := zv_46_5 hI214 zc_164
                have b226 := zv_46_4 hI214 zc_164
                refine zt_ifne (pc' := 272) (tgt := 294) hX dX12_isOwnHere_269 rfl (by decide) ⟨by omega, by omega⟩ (fun c227 => ?_) (fun c227 => ?_)
                · refine zt_mask [true, false] rfl ?_
                  exact J_294_149 s211 hI214 hF222 (by omega) (by omega) (by omega)
                · refine zt_aload_n (pc' := 273) hX dX12_isOwnHere_272 rfl rfl ?_
                  refine zt_aload_n (pc' := 274) hX dX12_isOwnHere_273 rfl rfl ?_
                  refine zt_get (pc' := 277) (v := .ref (X.1.1 + 189)) hX dX12_isOwnHere_274 rfl zf_X12_87 (by decide) zc_164 zs_46 (zrf_of (zv_46_33 hI214 zc_164)) ?_
                  refine zt_cVz (pc' := 280) hX dX12_isOwnHere_277 rfl zm_yX12_isHere zw_26_8 zc_164 (by decide) zs_46 (q := (RX12, TX12, 108)) rfl rfl (zc_X12_isHere _ _ s211 hI214 189 71 3 zc_189 (by decide) zs_71 (by decide)) rfl rfl (Nat.le_of_ble_eq_true rfl) (by decide) (fun r228 s229 hr230 hp231 => ?_)
                  obtain ⟨hI232, hF233, q234, q235, z236, z237, z238⟩ := hp231
                  have e239 := hF233 164 3 rfl
                  have hF240 := zOn_tr hF222 hF233 zi_id
                  have b241 := zv_46_2 hI232 zc_164
                  have b242 := zv_46_3 hI232 zc_164
                  have b243 := zv_46_5 hI232 zc_164
                  have b244 := zv_46_4 hI232 zc_164
                  refine zt_ifne (pc' := 283) (tgt := 294) hX dX12_isOwnHere_280 rfl (by decide) ⟨by omega, by omega⟩ (fun c245 => ?_) (fun c245 => ?_)
                  · refine zt_mask [true, false] rfl ?_
                    exact J_294_149 s229 hI232 hF240 (by omega) (by omega) (by omega)
                  · refine zt_aload_n (pc' := 284) hX dX12_isOwnHere_283 rfl rfl ?_
                    refine zt_aload_n (pc' := 285) hX dX12_isOwnHere_284 rfl rfl ?_
                    refine zt_get (pc' := 288) (v := .ref (X.1.1 + 190)) hX dX12_isOwnHere_285 rfl zf_X12_90 (by decide) zc_164 zs_46 (zrf_of (zv_46_34 hI232 zc_164)) ?_
                    refine zt_cVz (pc' := 291) hX dX12_isOwnHere_288 rfl zm_yX12_isHere zw_26_8 zc_164 (by decide) zs_46 (q := (RX12, TX12, 108)) rfl rfl (zc_X12_isHere _ _ s229 hI232 190 72 3 zc_190 (by decide) zs_72 (by decide)) rfl rfl (Nat.le_of_ble_eq_true rfl) (by decide) (fun r246 s247 hr248 hp249 => ?_)
                    obtain ⟨hI250, hF251, q252, q253, z254, z255, z256⟩ := hp249
                    have e257 := hF251 164 3 rfl
                    have hF258 := zOn_tr hF240 hF251 zi_id
                    have b259 := zv_46_2 hI250 zc_164
                    have b260 := zv_46_3 hI250 zc_164
                    have b261 := zv_46_5 hI250 zc_164
                    have b262 := zv_46_4 hI250 zc_164
                    refine zt_ifeq (pc' := 294) (tgt := 298) hX dX12_isOwnHere_291 rfl (by decide) ⟨by omega, by omega⟩ (fun c263 => ?_) (fun c263 => ?_)
                    · refine zt_iconst (pc' := 299) hX dX12_isOwnHere_298 rfl ?_
                      refine zt_mask [true, false] rfl ?_
                      exact J_299_72 0 s247 (by omega) (by omega) hI250 hF258 (by omega) (by omega) (by omega)
                    · refine zt_mask [true, false] rfl ?_
                      exact J_294_149 s247 hI250 hF258 (by omega) (by omega) (by omega)
      have J_218_269 : ∀ (s264 : zSto), zInv s264 → zOn zQ1 σ s264 → (σ 164 2 ≤ s264 164 2 ∧ (σ 164 2 ≤ σ 164 3 → s264 164 2 ≤ σ 164 3)) → s264 164 3 = σ 164 3 → s264 164 5 = σ 164 5 → zF X s264 218 [some (.ref (X.1.1 + 164)), none] [] := by
        intro s264 hI265 hF266 g267 g268 g269
        have b271 := zv_46_2 hI265 zc_164
        have b272 := zv_46_3 hI265 zc_164
        have b273 := zv_46_5 hI265 zc_164
        have b274 := zv_46_4 hI265 zc_164
        refine zt_iconst (pc' := 219) hX dX12_isOwnHere_218 rfl ?_
        refine zt_goto (tgt := 223) hX dX12_isOwnHere_219 (by decide) ?_
        exact J_223_58 1 s264 (by omega) (by omega) hI265 hF266 (by omega) (by omega) (by omega)
      refine zt_ifne (pc' := 152) (tgt := 218) hX dX12_isOwnHere_149 rfl (by decide) ⟨by omega, by omega⟩ (fun c275 => ?_) (fun c275 => ?_)
      · refine zt_mask [true, false] rfl ?_
        exact J_218_269 s39 hI40 hF41 (by omega) (by omega) (by omega)
      · refine zt_aload_n (pc' := 153) hX dX12_isOwnHere_152 rfl rfl ?_
        refine zt_aload_n (pc' := 154) hX dX12_isOwnHere_153 rfl rfl ?_
        refine zt_get (pc' := 157) (v := .ref (X.1.1 + 179)) hX dX12_isOwnHere_154 rfl zf_X12_57 (by decide) zc_164 zs_46 (zrf_of (zv_46_23 hI40 zc_164)) ?_
        refine zt_cVz (pc' := 160) hX dX12_isOwnHere_157 rfl zm_yX12_isHere zw_26_8 zc_164 (by decide) zs_46 (q := (RX12, TX12, 108)) rfl rfl (zc_X12_isHere _ _ s39 hI40 179 61 4 zc_179 (by decide) zs_61 (by decide)) rfl rfl (Nat.le_of_ble_eq_true rfl) (by decide) (fun r276 s277 hr278 hp279 => ?_)
        obtain ⟨hI280, hF281, q282, q283, z284, z285, z286⟩ := hp279
        have e287 := hF281 164 3 rfl
        have hF288 := zOn_tr hF41 hF281 zi_id
        have b289 := zv_46_2 hI280 zc_164
        have b290 := zv_46_3 hI280 zc_164
        have b291 := zv_46_5 hI280 zc_164
        have b292 := zv_46_4 hI280 zc_164
        refine zt_ifne (pc' := 163) (tgt := 218) hX dX12_isOwnHere_160 rfl (by decide) ⟨by omega, by omega⟩ (fun c293 => ?_) (fun c293 => ?_)
        · refine zt_mask [true, false] rfl ?_
          exact J_218_269 s277 hI280 hF288 (by omega) (by omega) (by omega)
        · refine zt_aload_n (pc' := 164) hX dX12_isOwnHere_163 rfl rfl ?_
          refine zt_aload_n (pc' := 165) hX dX12_isOwnHere_164 rfl rfl ?_
          refine zt_get (pc' := 168) (v := .ref (X.1.1 + 180)) hX dX12_isOwnHere_165 rfl zf_X12_60 (by decide) zc_164 zs_46 (zrf_of (zv_46_24 hI280 zc_164)) ?_
          refine zt_cVz (pc' := 171) hX dX12_isOwnHere_168 rfl zm_yX12_isHere zw_26_8 zc_164 (by decide) zs_46 (q := (RX12, TX12, 108)) rfl rfl (zc_X12_isHere _ _ s277 hI280 180 62 6 zc_180 (by decide) zs_62 (by decide)) rfl rfl (Nat.le_of_ble_eq_true rfl) (by decide) (fun r294 s295 hr296 hp297 => ?_)
          obtain ⟨hI298, hF299, q300, q301, z302, z303, z304⟩ := hp297
          have e305 := hF299 164 3 rfl
          have hF306 := zOn_tr hF288 hF299 zi_id
          have b307 := zv_46_2 hI298 zc_164
          have b308 := zv_46_3 hI298 zc_164
          have b309 := zv_46_5 hI298 zc_164
          have b310 := zv_46_4 hI298 zc_164
          refine zt_ifne (pc' := 174) (tgt := 218) hX dX12_isOwnHere_171 rfl (by decide) ⟨by omega, by omega⟩ (fun c311 => ?_) (fun c311 => ?_)
          · refine zt_mask [true, false] rfl ?_
            exact J_218_269 s295 hI298 hF306 (by omega) (by omega) (by omega)
          · refine zt_aload_n (pc' := 175) hX dX12_isOwnHere_174 rfl rfl ?_
            refine zt_aload_n (pc' := 176) hX dX12_isOwnHere_175 rfl rfl ?_
            refine zt_get (pc' := 179) (v := .ref (X.1.1 + 181)) hX dX12_isOwnHere_176 rfl zf_X12_63 (by decide) zc_164 zs_46 (zrf_of (zv_46_25 hI298 zc_164)) ?_
            refine zt_cVz (pc' := 182) hX dX12_isOwnHere_179 rfl zm_yX12_isHere zw_26_8 zc_164 (by decide) zs_46 (q := (RX12, TX12, 108)) rfl rfl (zc_X12_isHere _ _ s295 hI298 181 63 6 zc_181 (by decide) zs_63 (by decide)) rfl rfl (Nat.le_of_ble_eq_true rfl) (by decide) (fun r312 s313 hr314 hp315 => ?_)
            obtain ⟨hI316, hF317, q318, q319, z320, z321, z322⟩ := hp315
            have e323 := hF317 164 3 rfl
            have hF324 := zOn_tr hF306 hF317 zi_id
            have b325 := zv_46_2 hI316 zc_164
            have b326 := zv_46_3 hI316 zc_164
            have b327 := zv_46_5 hI316 zc_164
            have b328 := zv_46_4 hI316 zc_164
            refine zt_ifne (pc' := 185) (tgt := 218) hX dX12_isOwnHere_182 rfl (by decide) ⟨by omega, by omega⟩ (fun c329 => ?_) (fun c329 => ?_)
            · refine zt_mask [true, false] rfl ?_
              exact J_218_269 s313 hI316 hF324 (by omega) (by omega) (by omega)
            · refine zt_aload_n (pc' := 186) hX dX12_isOwnHere_185 rfl rfl ?_
              refine zt_aload_n (pc' := 187) hX dX12_isOwnHere_186 rfl rfl ?_
              refine zt_get (pc' := 190) (v := .ref (X.1.1 + 182)) hX dX12_isOwnHere_187 rfl zf_X12_66 (by decide) zc_164 zs_46 (zrf_of (zv_46_26 hI316 zc_164)) ?_
              refine zt_cVz (pc' := 193) hX dX12_isOwnHere_190 rfl zm_yX12_isHere zw_26_8 zc_164 (by decide) zs_46 (q := (RX12, TX12, 108)) rfl rfl (zc_X12_isHere _ _ s313 hI316 182 64 5 zc_182 (by decide) zs_64 (by decide)) rfl rfl (Nat.le_of_ble_eq_true rfl) (by decide) (fun r330 s331 hr332 hp333 => ?_)
              obtain ⟨hI334, hF335, q336, q337, z338, z339, z340⟩ := hp333
              have e341 := hF335 164 3 rfl
              have hF342 := zOn_tr hF324 hF335 zi_id
              have b343 := zv_46_2 hI334 zc_164
              have b344 := zv_46_3 hI334 zc_164
              have b345 := zv_46_5 hI334 zc_164
              have b346 := zv_46_4 hI334 zc_164
              refine zt_ifne (pc' := 196) (tgt := 218) hX dX12_isOwnHere_193 rfl (by decide) ⟨by omega, by omega⟩ (fun c347 => ?_) (fun c347 => ?_)
              · refine zt_mask [true, false] rfl ?_
                exact J_218_269 s331 hI334 hF342 (by omega) (by omega) (by omega)
              · refine zt_aload_n (pc' := 197) hX dX12_isOwnHere_196 rfl rfl ?_
                refine zt_aload_n (pc' := 198) hX dX12_isOwnHere_197 rfl rfl ?_
                refine zt_get (pc' := 201) (v := .ref (X.1.1 + 183)) hX dX12_isOwnHere_198 rfl zf_X12_69 (by decide) zc_164 zs_46 (zrf_of (zv_46_27 hI334 zc_164)) ?_
                refine zt_cVz (pc' := 204) hX dX12_isOwnHere_201 rfl zm_yX12_isHere zw_26_8 zc_164 (by decide) zs_46 (q := (RX12, TX12, 108)) rfl rfl (zc_X12_isHere _ _ s331 hI334 183 65 4 zc_183 (by decide) zs_65 (by decide)) rfl rfl (Nat.le_of_ble_eq_true rfl) (by decide) (fun r348 s349 hr350 hp351 => ?_)
                obtain ⟨hI352, hF353, q354, q355, z356, z357, z358⟩ := hp351
                have e359 := hF353 164 3 rfl
                have hF360 := zOn_tr hF342 hF353 zi_id
                have b361 := zv_46_2 hI352 zc_164
                have b362 := zv_46_3 hI352 zc_164
                have b363 := zv_46_5 hI352 zc_164
                have b364 := zv_46_4 hI352 zc_164
                refine zt_ifne (pc' := 207) (tgt := 218) hX dX12_isOwnHere_204 rfl (by decide) ⟨by omega, by omega⟩ (fun c365 => ?_) (fun c365 => ?_)
                · refine zt_mask [true, false] rfl ?_
                  exact J_218_269 s349 hI352 hF360 (by omega) (by omega) (by omega)
                · refine zt_aload_n (pc' := 208) hX dX12_isOwnHere_207 rfl rfl ?_
                  refine zt_aload_n (pc' := 209) hX dX12_isOwnHere_208 rfl rfl ?_
                  refine zt_get (pc' := 212) (v := .ref (X.1.1 + 184)) hX dX12_isOwnHere_209 rfl zf_X12_72 (by decide) zc_164 zs_46 (zrf_of (zv_46_28 hI352 zc_164)) ?_
                  refine zt_cVz (pc' := 215) hX dX12_isOwnHere_212 rfl zm_yX12_isHere zw_26_8 zc_164 (by decide) zs_46 (q := (RX12, TX12, 108)) rfl rfl (zc_X12_isHere _ _ s349 hI352 184 66 6 zc_184 (by decide) zs_66 (by decide)) rfl rfl (Nat.le_of_ble_eq_true rfl) (by decide) (fun r366 s367 hr368 hp369 => ?_)
                  obtain ⟨hI370, hF371, q372, q373, z374, z375, z376⟩ := hp369
                  have e377 := hF371 164 3 rfl
                  have hF378 := zOn_tr hF360 hF371 zi_id
                  have b379 := zv_46_2 hI370 zc_164
                  have b380 := zv_46_3 hI370 zc_164
                  have b381 := zv_46_5 hI370 zc_164
                  have b382 := zv_46_4 hI370 zc_164
                  refine zt_ifeq (pc' := 218) (tgt := 222) hX dX12_isOwnHere_215 rfl (by decide) ⟨by omega, by omega⟩ (fun c383 => ?_) (fun c383 => ?_)
                  · refine zt_iconst (pc' := 223) hX dX12_isOwnHere_222 rfl ?_
                    refine zt_mask [true, false] rfl ?_
                    exact J_223_58 0 s367 (by omega) (by omega) hI370 hF378 (by omega) (by omega) (by omega)
                  · refine zt_mask [true, false] rfl ?_
                    exact J_218_269 s367 hI370 hF378 (by omega) (by omega) (by omega)
    have J_142_389 : ∀ (s384 : zSto), zInv s384 → zOn zQ1 σ s384 → (σ 164 2 ≤ s384 164 2 ∧ (σ 164 2 ≤ σ 164 3 → s384 164 2 ≤ σ 164 3)) → s384 164 3 = σ 164 3 → s384 164 5 = σ 164 5 → zF X s384 142 [some (.ref (X.1.1 + 164)), none] [] := by
      intro s384 hI385 hF386 g387 g388 g389
      have b391 := zv_46_2 hI385 zc_164
      have b392 := zv_46_3 hI385 zc_164
      have b393 := zv_46_5 hI385 zc_164
      have b394 := zv_46_4 hI385 zc_164
      refine zt_iconst (pc' := 143) hX dX12_isOwnHere_142 rfl ?_
      refine zt_goto (tgt := 147) hX dX12_isOwnHere_143 (by decide) ?_
      exact J_147_44 1 s384 (by omega) (by omega) hI385 hF386 (by omega) (by omega) (by omega)
    refine zt_ifne (pc' := 76) (tgt := 142) hX dX12_isOwnHere_73 rfl (by decide) ⟨by omega, by omega⟩ (fun c395 => ?_) (fun c395 => ?_)
    · refine zt_mask [true, false] rfl ?_
      exact J_142_389 s25 hI26 hF27 (by omega) (by omega) (by omega)
    · refine zt_aload_n (pc' := 77) hX dX12_isOwnHere_76 rfl rfl ?_
      refine zt_aload_n (pc' := 78) hX dX12_isOwnHere_77 rfl rfl ?_
      refine zt_get (pc' := 81) (v := .ref (X.1.1 + 173)) hX dX12_isOwnHere_78 rfl zf_X12_39 (by decide) zc_164 zs_46 (zrf_of (zv_46_17 hI26 zc_164)) ?_
      refine zt_cVz (pc' := 84) hX dX12_isOwnHere_81 rfl zm_yX12_isHere zw_26_8 zc_164 (by decide) zs_46 (q := (RX12, TX12, 108)) rfl rfl (zc_X12_isHere _ _ s25 hI26 173 55 5 zc_173 (by decide) zs_55 (by decide)) rfl rfl (Nat.le_of_ble_eq_true rfl) (by decide) (fun r396 s397 hr398 hp399 => ?_)
      obtain ⟨hI400, hF401, q402, q403, z404, z405, z406⟩ := hp399
      have e407 := hF401 164 3 rfl
      have hF408 := zOn_tr hF27 hF401 zi_id
      have b409 := zv_46_2 hI400 zc_164
      have b410 := zv_46_3 hI400 zc_164
      have b411 := zv_46_5 hI400 zc_164
      have b412 := zv_46_4 hI400 zc_164
      refine zt_ifne (pc' := 87) (tgt := 142) hX dX12_isOwnHere_84 rfl (by decide) ⟨by omega, by omega⟩ (fun c413 => ?_) (fun c413 => ?_)
      · refine zt_mask [true, false] rfl ?_
        exact J_142_389 s397 hI400 hF408 (by omega) (by omega) (by omega)
      · refine zt_aload_n (pc' := 88) hX dX12_isOwnHere_87 rfl rfl ?_
        refine zt_aload_n (pc' := 89) hX dX12_isOwnHere_88 rfl rfl ?_
        refine zt_get (pc' := 92) (v := .ref (X.1.1 + 174)) hX dX12_isOwnHere_89 rfl zf_X12_42 (by decide) zc_164 zs_46 (zrf_of (zv_46_18 hI400 zc_164)) ?_
        refine zt_cVz (pc' := 95) hX dX12_isOwnHere_92 rfl zm_yX12_isHere zw_26_8 zc_164 (by decide) zs_46 (q := (RX12, TX12, 108)) rfl rfl (zc_X12_isHere _ _ s397 hI400 174 56 4 zc_174 (by decide) zs_56 (by decide)) rfl rfl (Nat.le_of_ble_eq_true rfl) (by decide) (fun r414 s415 hr416 hp417 => ?_)
        obtain ⟨hI418, hF419, q420, q421, z422, z423, z424⟩ := hp417
        have e425 := hF419 164 3 rfl
        have hF426 := zOn_tr hF408 hF419 zi_id
        have b427 := zv_46_2 hI418 zc_164
        have b428 := zv_46_3 hI418 zc_164
        have b429 := zv_46_5 hI418 zc_164
        have b430 := zv_46_4 hI418 zc_164
        refine zt_ifne (pc' := 98) (tgt := 142) hX dX12_isOwnHere_95 rfl (by decide) ⟨by omega, by omega⟩ (fun c431 => ?_) (fun c431 => ?_)
        · refine zt_mask [true, false] rfl ?_
          exact J_142_389 s415 hI418 hF426 (by omega) (by omega) (by omega)
        · refine zt_aload_n (pc' := 99) hX dX12_isOwnHere_98 rfl rfl ?_
          refine zt_aload_n (pc' := 100) hX dX12_isOwnHere_99 rfl rfl ?_
          refine zt_get (pc' := 103) (v := .ref (X.1.1 + 175)) hX dX12_isOwnHere_100 rfl zf_X12_45 (by decide) zc_164 zs_46 (zrf_of (zv_46_19 hI418 zc_164)) ?_
          refine zt_cVz (pc' := 106) hX dX12_isOwnHere_103 rfl zm_yX12_isHere zw_26_8 zc_164 (by decide) zs_46 (q := (RX12, TX12, 108)) rfl rfl (zc_X12_isHere _ _ s415 hI418 175 57 5 zc_175 (by decide) zs_57 (by decide)) rfl rfl (Nat.le_of_ble_eq_true rfl) (by decide) (fun r432 s433 hr434 hp435 => ?_)
          obtain ⟨hI436, hF437, q438, q439, z440, z441, z442⟩ := hp435
          have e443 := hF437 164 3 rfl
          have hF444 := zOn_tr hF426 hF437 zi_id
          have b445 := zv_46_2 hI436 zc_164
          have b446 := zv_46_3 hI436 zc_164
          have b447 := zv_46_5 hI436 zc_164
          have b448 := zv_46_4 hI436 zc_164
          refine zt_ifne (pc' := 109) (tgt := 142) hX dX12_isOwnHere_106 rfl (by decide) ⟨by omega, by omega⟩ (fun c449 => ?_) (fun c449 => ?_)
          · refine zt_mask [true, false] rfl ?_
            exact J_142_389 s433 hI436 hF444 (by omega) (by omega) (by omega)
          · refine zt_aload_n (pc' := 110) hX dX12_isOwnHere_109 rfl rfl ?_
            refine zt_aload_n (pc' := 111) hX dX12_isOwnHere_110 rfl rfl ?_
            refine zt_get (pc' := 114) (v := .ref (X.1.1 + 176)) hX dX12_isOwnHere_111 rfl zf_X12_48 (by decide) zc_164 zs_46 (zrf_of (zv_46_20 hI436 zc_164)) ?_
            refine zt_cVz (pc' := 117) hX dX12_isOwnHere_114 rfl zm_yX12_isHere zw_26_8 zc_164 (by decide) zs_46 (q := (RX12, TX12, 108)) rfl rfl (zc_X12_isHere _ _ s433 hI436 176 58 5 zc_176 (by decide) zs_58 (by decide)) rfl rfl (Nat.le_of_ble_eq_true rfl) (by decide) (fun r450 s451 hr452 hp453 => ?_)
            obtain ⟨hI454, hF455, q456, q457, z458, z459, z460⟩ := hp453
            have e461 := hF455 164 3 rfl
            have hF462 := zOn_tr hF444 hF455 zi_id
            have b463 := zv_46_2 hI454 zc_164
            have b464 := zv_46_3 hI454 zc_164
            have b465 := zv_46_5 hI454 zc_164
            have b466 := zv_46_4 hI454 zc_164
            refine zt_ifne (pc' := 120) (tgt := 142) hX dX12_isOwnHere_117 rfl (by decide) ⟨by omega, by omega⟩ (fun c467 => ?_) (fun c467 => ?_)
            · refine zt_mask [true, false] rfl ?_
              exact J_142_389 s451 hI454 hF462 (by omega) (by omega) (by omega)
            · refine zt_aload_n (pc' := 121) hX dX12_isOwnHere_120 rfl rfl ?_
              refine zt_aload_n (pc' := 122) hX dX12_isOwnHere_121 rfl rfl ?_
              refine zt_get (pc' := 125) (v := .ref (X.1.1 + 177)) hX dX12_isOwnHere_122 rfl zf_X12_51 (by decide) zc_164 zs_46 (zrf_of (zv_46_21 hI454 zc_164)) ?_
              refine zt_cVz (pc' := 128) hX dX12_isOwnHere_125 rfl zm_yX12_isHere zw_26_8 zc_164 (by decide) zs_46 (q := (RX12, TX12, 108)) rfl rfl (zc_X12_isHere _ _ s451 hI454 177 59 5 zc_177 (by decide) zs_59 (by decide)) rfl rfl (Nat.le_of_ble_eq_true rfl) (by decide) (fun r468 s469 hr470 hp471 => ?_)
              obtain ⟨hI472, hF473, q474, q475, z476, z477, z478⟩ := hp471
              have e479 := hF473 164 3 rfl
              have hF480 := zOn_tr hF462 hF473 zi_id
              have b481 := zv_46_2 hI472 zc_164
              have b482 := zv_46_3 hI472 zc_164
              have b483 := zv_46_5 hI472 zc_164
              have b484 := zv_46_4 hI472 zc_164
              refine zt_ifne (pc' := 131) (tgt := 142) hX dX12_isOwnHere_128 rfl (by decide) ⟨by omega, by omega⟩ (fun c485 => ?_) (fun c485 => ?_)
              · refine zt_mask [true, false] rfl ?_
                exact J_142_389 s469 hI472 hF480 (by omega) (by omega) (by omega)
              · refine zt_aload_n (pc' := 132) hX dX12_isOwnHere_131 rfl rfl ?_
                refine zt_aload_n (pc' := 133) hX dX12_isOwnHere_132 rfl rfl ?_
                refine zt_get (pc' := 136) (v := .ref (X.1.1 + 178)) hX dX12_isOwnHere_133 rfl zf_X12_54 (by decide) zc_164 zs_46 (zrf_of (zv_46_22 hI472 zc_164)) ?_
                refine zt_cVz (pc' := 139) hX dX12_isOwnHere_136 rfl zm_yX12_isHere zw_26_8 zc_164 (by decide) zs_46 (q := (RX12, TX12, 108)) rfl rfl (zc_X12_isHere _ _ s469 hI472 178 60 4 zc_178 (by decide) zs_60 (by decide)) rfl rfl (Nat.le_of_ble_eq_true rfl) (by decide) (fun r486 s487 hr488 hp489 => ?_)
                obtain ⟨hI490, hF491, q492, q493, z494, z495, z496⟩ := hp489
                have e497 := hF491 164 3 rfl
                have hF498 := zOn_tr hF480 hF491 zi_id
                have b499 := zv_46_2 hI490 zc_164
                have b500 := zv_46_3 hI490 zc_164
                have b501 := zv_46_5 hI490 zc_164
                have b502 := zv_46_4 hI490 zc_164
                refine zt_ifeq (pc' := 142) (tgt := 146) hX dX12_isOwnHere_139 rfl (by decide) ⟨by omega, by omega⟩ (fun c503 => ?_) (fun c503 => ?_)
                · refine zt_iconst (pc' := 147) hX dX12_isOwnHere_146 rfl ?_
                  refine zt_mask [true, false] rfl ?_
                  exact J_147_44 0 s487 (by omega) (by omega) hI490 hF498 (by omega) (by omega) (by omega)
                · refine zt_mask [true, false] rfl ?_
                  exact J_142_389 s487 hI490 hF498 (by omega) (by omega) (by omega)
  have J_66_509 : ∀ (s504 : zSto), zInv s504 → zOn zQ1 σ s504 → (σ 164 2 ≤ s504 164 2 ∧ (σ 164 2 ≤ σ 164 3 → s504 164 2 ≤ σ 164 3)) → s504 164 3 = σ 164 3 → s504 164 5 = σ 164 5 → zF X s504 66 [some (.ref (X.1.1 + 164)), none] [] := by
    intro s504 hI505 hF506 g507 g508 g509
    have b511 := zv_46_2 hI505 zc_164
    have b512 := zv_46_3 hI505 zc_164
    have b513 := zv_46_5 hI505 zc_164
    have b514 := zv_46_4 hI505 zc_164
    refine zt_iconst (pc' := 67) hX dX12_isOwnHere_66 rfl ?_
    refine zt_goto (tgt := 71) hX dX12_isOwnHere_67 (by decide) ?_
    exact J_71_30 1 s504 (by omega) (by omega) hI505 hF506 (by omega) (by omega) (by omega)
  refine zt_ifne (pc' := 11) (tgt := 66) hX dX12_isOwnHere_8 rfl (by decide) ⟨by omega, by omega⟩ (fun c515 => ?_) (fun c515 => ?_)
  · exact J_66_509 s6 hI9 hF17 (by omega) (by omega) (by omega)
  · refine zt_aload_n (pc' := 12) hX dX12_isOwnHere_11 rfl rfl ?_
    refine zt_aload_n (pc' := 13) hX dX12_isOwnHere_12 rfl rfl ?_
    refine zt_get (pc' := 16) (v := .ref (X.1.1 + 168)) hX dX12_isOwnHere_13 rfl zf_X12_24 (by decide) zc_164 zs_46 (zrf_of (zv_46_12 hI9 zc_164)) ?_
    refine zt_cVz (pc' := 19) hX dX12_isOwnHere_16 rfl zm_yX12_isHere zw_26_8 zc_164 (by decide) zs_46 (q := (RX12, TX12, 108)) rfl rfl (zc_X12_isHere _ _ s6 hI9 168 50 2 zc_168 (by decide) zs_50 (by decide)) rfl rfl (Nat.le_of_ble_eq_true rfl) (by decide) (fun r516 s517 hr518 hp519 => ?_)
    obtain ⟨hI520, hF521, q522, q523, z524, z525, z526⟩ := hp519
    have e527 := hF521 164 3 rfl
    have hF528 := zOn_tr hF17 hF521 zi_id
    have b529 := zv_46_2 hI520 zc_164
    have b530 := zv_46_3 hI520 zc_164
    have b531 := zv_46_5 hI520 zc_164
    have b532 := zv_46_4 hI520 zc_164
    refine zt_ifne (pc' := 22) (tgt := 66) hX dX12_isOwnHere_19 rfl (by decide) ⟨by omega, by omega⟩ (fun c533 => ?_) (fun c533 => ?_)
    · exact J_66_509 s517 hI520 hF528 (by omega) (by omega) (by omega)
    · refine zt_aload_n (pc' := 23) hX dX12_isOwnHere_22 rfl rfl ?_
      refine zt_aload_n (pc' := 24) hX dX12_isOwnHere_23 rfl rfl ?_
      refine zt_get (pc' := 27) (v := .ref (X.1.1 + 169)) hX dX12_isOwnHere_24 rfl zf_X12_27 (by decide) zc_164 zs_46 (zrf_of (zv_46_13 hI520 zc_164)) ?_
      refine zt_cVz (pc' := 30) hX dX12_isOwnHere_27 rfl zm_yX12_isHere zw_26_8 zc_164 (by decide) zs_46 (q := (RX12, TX12, 108)) rfl rfl (zc_X12_isHere _ _ s517 hI520 169 51 5 zc_169 (by decide) zs_51 (by decide)) rfl rfl (Nat.le_of_ble_eq_true rfl) (by decide) (fun r534 s535 hr536 hp537 => ?_)
      obtain ⟨hI538, hF539, q540, q541, z542, z543, z544⟩ := hp537
      have e545 := hF539 164 3 rfl
      have hF546 := zOn_tr hF528 hF539 zi_id
      have b547 := zv_46_2 hI538 zc_164
      have b548 := zv_46_3 hI538 zc_164
      have b549 := zv_46_5 hI538 zc_164
      have b550 := zv_46_4 hI538 zc_164
      refine zt_ifne (pc' := 33) (tgt := 66) hX dX12_isOwnHere_30 rfl (by decide) ⟨by omega, by omega⟩ (fun c551 => ?_) (fun c551 => ?_)
      · exact J_66_509 s535 hI538 hF546 (by omega) (by omega) (by omega)
      · refine zt_aload_n (pc' := 34) hX dX12_isOwnHere_33 rfl rfl ?_
        refine zt_aload_n (pc' := 35) hX dX12_isOwnHere_34 rfl rfl ?_
        refine zt_get (pc' := 38) (v := .ref (X.1.1 + 170)) hX dX12_isOwnHere_35 rfl zf_X12_30 (by decide) zc_164 zs_46 (zrf_of (zv_46_14 hI538 zc_164)) ?_
        refine zt_cVz (pc' := 41) hX dX12_isOwnHere_38 rfl zm_yX12_isHere zw_26_8 zc_164 (by decide) zs_46 (q := (RX12, TX12, 108)) rfl rfl (zc_X12_isHere _ _ s535 hI538 170 52 5 zc_170 (by decide) zs_52 (by decide)) rfl rfl (Nat.le_of_ble_eq_true rfl) (by decide) (fun r552 s553 hr554 hp555 => ?_)
        obtain ⟨hI556, hF557, q558, q559, z560, z561, z562⟩ := hp555
        have e563 := hF557 164 3 rfl
        have hF564 := zOn_tr hF546 hF557 zi_id
        have b565 := zv_46_2 hI556 zc_164
        have b566 := zv_46_3 hI556 zc_164
        have b567 := zv_46_5 hI556 zc_164
        have b568 := zv_46_4 hI556 zc_164
        refine zt_ifne (pc' := 44) (tgt := 66) hX dX12_isOwnHere_41 rfl (by decide) ⟨by omega, by omega⟩ (fun c569 => ?_) (fun c569 => ?_)
        · exact J_66_509 s553 hI556 hF564 (by omega) (by omega) (by omega)
        · refine zt_aload_n (pc' := 45) hX dX12_isOwnHere_44 rfl rfl ?_
          refine zt_aload_n (pc' := 46) hX dX12_isOwnHere_45 rfl rfl ?_
          refine zt_get (pc' := 49) (v := .ref (X.1.1 + 171)) hX dX12_isOwnHere_46 rfl zf_X12_33 (by decide) zc_164 zs_46 (zrf_of (zv_46_15 hI556 zc_164)) ?_
          refine zt_cVz (pc' := 52) hX dX12_isOwnHere_49 rfl zm_yX12_isHere zw_26_8 zc_164 (by decide) zs_46 (q := (RX12, TX12, 108)) rfl rfl (zc_X12_isHere _ _ s553 hI556 171 53 4 zc_171 (by decide) zs_53 (by decide)) rfl rfl (Nat.le_of_ble_eq_true rfl) (by decide) (fun r570 s571 hr572 hp573 => ?_)
          obtain ⟨hI574, hF575, q576, q577, z578, z579, z580⟩ := hp573
          have e581 := hF575 164 3 rfl
          have hF582 := zOn_tr hF564 hF575 zi_id
          have b583 := zv_46_2 hI574 zc_164
          have b584 := zv_46_3 hI574 zc_164
          have b585 := zv_46_5 hI574 zc_164
          have b586 := zv_46_4 hI574 zc_164
          refine zt_ifne (pc' := 55) (tgt := 66) hX dX12_isOwnHere_52 rfl (by decide) ⟨by omega, by omega⟩ (fun c587 => ?_) (fun c587 => ?_)
          · exact J_66_509 s571 hI574 hF582 (by omega) (by omega) (by omega)
          · refine zt_aload_n (pc' := 56) hX dX12_isOwnHere_55 rfl rfl ?_
            refine zt_aload_n (pc' := 57) hX dX12_isOwnHere_56 rfl rfl ?_
            refine zt_get (pc' := 60) (v := .ref (X.1.1 + 172)) hX dX12_isOwnHere_57 rfl zf_X12_36 (by decide) zc_164 zs_46 (zrf_of (zv_46_16 hI574 zc_164)) ?_
            refine zt_cVz (pc' := 63) hX dX12_isOwnHere_60 rfl zm_yX12_isHere zw_26_8 zc_164 (by decide) zs_46 (q := (RX12, TX12, 108)) rfl rfl (zc_X12_isHere _ _ s571 hI574 172 54 2 zc_172 (by decide) zs_54 (by decide)) rfl rfl (Nat.le_of_ble_eq_true rfl) (by decide) (fun r588 s589 hr590 hp591 => ?_)
            obtain ⟨hI592, hF593, q594, q595, z596, z597, z598⟩ := hp591
            have e599 := hF593 164 3 rfl
            have hF600 := zOn_tr hF582 hF593 zi_id
            have b601 := zv_46_2 hI592 zc_164
            have b602 := zv_46_3 hI592 zc_164
            have b603 := zv_46_5 hI592 zc_164
            have b604 := zv_46_4 hI592 zc_164
            refine zt_ifeq (pc' := 66) (tgt := 70) hX dX12_isOwnHere_63 rfl (by decide) ⟨by omega, by omega⟩ (fun c605 => ?_) (fun c605 => ?_)
            · refine zt_iconst (pc' := 71) hX dX12_isOwnHere_70 rfl ?_
              exact J_71_30 0 s589 (by omega) (by omega) hI592 hF600 (by omega) (by omega) (by omega)
            · exact J_66_509 s589 hI592 hF600 (by omega) (by omega) (by omega)

set_option maxRecDepth 100000 in
set_option maxHeartbeats 4000000 in
theorem zc_X12_name (l : Launch) (E : zEN) (σ : zSto) (hI : zInv σ)  : zCt l E yX12_name cX12_name 3 (some .long) 3 zNC zNC 0 0 σ [.ref (E.1 + 164)] (fun r σ' => zInv σ' ∧ zOn zQ1 σ σ' ∧ -9223372036854775808 ≤ r ∧ r ≤ 9223372036854775807 ∧ (σ 164 2 ≤ σ' 164 2 ∧ (σ 164 2 ≤ σ 164 3 → σ' 164 2 ≤ σ 164 3)) ∧ (σ' 164 5 = 0 → σ 164 5 = 0)) := by
  refine zCt_of2 [some (.ref (E.1 + 164)), none, none] (by decide +kernel) (Nat.le_of_ble_eq_true rfl) rfl ?_
  intro X hE hX hR hL hN
  subst hE
  have hX : zok X cX12_name RX12 3 := hX
  have hF := zOn_rf zQ1 σ
  have b1 := zv_46_2 hI zc_164
  have b2 := zv_46_3 hI zc_164
  have b3 := zv_46_5 hI zc_164
  have b4 := zv_46_4 hI zc_164
  refine zt_aload_n (pc' := 1) hX dX12_name_0 rfl rfl ?_
  have b5 := zv_46_5 hI zc_164
  refine zt_get (pc' := 4) (v := .int (zI (σ 164 5))) hX dX12_name_1 rfl zf_X12_246 (by decide) zc_164 zs_46 rfl ?_
  refine zt_ifeq (pc' := 7) (tgt := 9) hX dX12_name_4 rfl (by decide) ⟨by omega, by omega⟩ (fun c6 => ?_) (fun c6 => ?_)
  · refine zt_aload_n (pc' := 10) hX dX12_name_9 rfl rfl ?_
    refine zt_cVi (pc' := 13) hX dX12_name_10 rfl zm_yX12_look zw_26_12 zc_164 (by decide) zs_46 (q := (RX12, TX12, 108)) rfl rfl (zc_X12_look _ _ σ hI ) rfl rfl (Nat.le_of_ble_eq_true rfl) (by decide) (fun r7 s8 hr9 hp10 => ?_)
    obtain ⟨hI11, hF12, q13, q14, z15, z16, z17⟩ := hp10
    have e18 := hF12 164 3 rfl
    have hF19 := zOn_tr hF hF12 zi_id
    have b20 := zv_46_2 hI11 zc_164
    have b21 := zv_46_3 hI11 zc_164
    have b22 := zv_46_5 hI11 zc_164
    have b23 := zv_46_4 hI11 zc_164
    refine zt_cSz (pc' := 16) hX dX12_name_13 rfl zm_yX12_isLetter zw_26_16 (zc_X12_isLetter _ _ s8  r7 ⟨by omega, by omega⟩) rfl rfl (Nat.le_of_ble_eq_true rfl) (by decide) (fun r24 s25 hr26 hp27 => ?_)
    obtain ⟨rfl, q28, q29, z30⟩ := hp27
    have J_37_36 : ∀ (s31 : zSto), zInv s31 → zOn zQ1 σ s31 → (σ 164 2 ≤ s31 164 2 ∧ (σ 164 2 ≤ σ 164 3 → s31 164 2 ≤ σ 164 3)) → s31 164 3 = σ 164 3 → s31 164 5 = σ 164 5 → zF X s31 37 [some (.ref (X.1.1 + 164)), none, none] [] := by
      intro s31 hI32 hF33 g34 g35 g36
      have b38 := zv_46_2 hI32 zc_164
      have b39 := zv_46_3 hI32 zc_164
      have b40 := zv_46_5 hI32 zc_164
      have b41 := zv_46_4 hI32 zc_164
      refine zt_aload_n (pc' := 38) hX dX12_name_37 rfl rfl ?_
      refine zt_iconst (pc' := 39) hX dX12_name_38 rfl ?_
      refine zt_aload_n (pc' := 40) hX dX12_name_39 rfl rfl ?_
      have b42 := zv_46_2 hI32 zc_164
      refine zt_get (pc' := 43) (v := .int (zI (s31 164 2))) hX dX12_name_40 rfl zf_X12_252 (by decide) zc_164 zs_46 rfl ?_
      refine zt_cVv (pc' := 46) hX dX12_name_43 rfl zm_yX12_fail zw_26_19 zc_164 (by decide) zs_46 (q := (RX12, TX12, 108)) rfl rfl (zc_X12_fail _ _ s31 hI32 1 ⟨by omega, by omega⟩ (s31 164 2) ⟨by omega, by omega⟩) rfl rfl (Nat.le_of_ble_eq_true rfl) (by decide) (fun r43 s44 hr45 hp46 => ?_)
      obtain ⟨hI47, hF48, z49, z50⟩ := hp46
      have e51 := hF48 164 3 rfl
      have hF52 := zOn_tr hF33 hF48 zi_id
      have b53 := zv_46_2 hI47 zc_164
      have b54 := zv_46_3 hI47 zc_164
      have b55 := zv_46_5 hI47 zc_164
      have b56 := zv_46_4 hI47 zc_164
      refine zt_lconst (pc' := 47) (y := 0) hX dX12_name_46 rfl (by decide +kernel) ?_
      exact zt_lret hX hR dX12_name_47 ⟨by omega, by omega⟩ ⟨hI47, hF52, by omega, by omega, by omega, by omega⟩
    refine zt_ifeq (pc' := 19) (tgt := 37) hX dX12_name_16 rfl (by decide) ⟨by omega, by omega⟩ (fun c57 => ?_) (fun c57 => ?_)
    · exact J_37_36 s8 hI11 hF19 (by omega) (by omega) (by omega)
    · refine zt_aload_n (pc' := 20) hX dX12_name_19 rfl rfl ?_
      have b58 := zv_46_2 hI11 zc_164
      refine zt_get (pc' := 23) (v := .int (zI (s8 164 2))) hX dX12_name_20 rfl zf_X12_252 (by decide) zc_164 zs_46 rfl ?_
      refine zt_aload_n (pc' := 24) hX dX12_name_23 rfl rfl ?_
      have b59 := zv_46_4 hI11 zc_164
      refine zt_get (pc' := 27) (v := .int (zI (s8 164 4))) hX dX12_name_24 rfl zf_X12_266 (by decide) zc_164 zs_46 rfl ?_
      refine zt_iceq (pc' := 30) (tgt := 37) hX dX12_name_27 rfl (by decide) ⟨by omega, by omega⟩ ⟨by omega, by omega⟩ (fun c60 => ?_) (fun c60 => ?_)
      · exact J_37_36 s8 hI11 hF19 (by omega) (by omega) (by omega)
      · refine zt_aload_n (pc' := 31) hX dX12_name_30 rfl rfl ?_
        refine zt_cVz (pc' := 34) hX dX12_name_31 rfl zm_yX12_isOwnHere zw_28_17 zc_164 (by decide) zs_46 (q := (RX12, TX12, 108)) rfl rfl (zc_X12_isOwnHere _ _ s8 hI11 ) rfl rfl (Nat.le_of_ble_eq_true rfl) (by decide) (fun r61 s62 hr63 hp64 => ?_)
        obtain ⟨hI65, hF66, q67, q68, z69, z70⟩ := hp64
        have e71 := hF66 164 3 rfl
        have hF72 := zOn_tr hF19 hF66 zi_id
        have b73 := zv_46_2 hI65 zc_164
        have b74 := zv_46_3 hI65 zc_164
        have b75 := zv_46_5 hI65 zc_164
        have b76 := zv_46_4 hI65 zc_164
        refine zt_ifeq (pc' := 37) (tgt := 48) hX dX12_name_34 rfl (by decide) ⟨by omega, by omega⟩ (fun c77 => ?_) (fun c77 => ?_)
        · refine zt_aload_n (pc' := 49) hX dX12_name_48 rfl rfl ?_
          refine zt_aload_n (pc' := 50) hX dX12_name_49 rfl rfl ?_
          have b78 := zv_46_2 hI65 zc_164
          refine zt_get (pc' := 53) (v := .int (zI (s62 164 2))) hX dX12_name_50 rfl zf_X12_252 (by decide) zc_164 zs_46 rfl ?_
          refine zt_put (pc' := 56) (x := (s62 164 2)) hX dX12_name_53 rfl zf_X12_297 (by decide) zc_164 zs_46 (fun q hq => by cases hq; rfl) rfl rfl rfl ?_
          generalize hs80 : zset s62 164 38 (s62 164 2) = s79
          have hI81 : zInv s79 := hs80 ▸ zp_46_38 hI65 zc_164 ⟨by omega, by omega⟩
          have hF82 : zOn zQ1 σ s79 := hs80 ▸ zOn_set hF72 (by decide)
          have e83 : s79 164 2 = s62 164 2 := by rw [← hs80]; exact zset_j (by decide)
          have e84 : s79 164 3 = s62 164 3 := by rw [← hs80]; exact zset_j (by decide)
          have e85 : s79 164 5 = s62 164 5 := by rw [← hs80]; exact zset_j (by decide)
          have e86 : s79 164 4 = s62 164 4 := by rw [← hs80]; exact zset_j (by decide)
          refine zt_lconst (pc' := 57) (y := 0) hX dX12_name_56 rfl (by decide +kernel) ?_
          refine zt_lstore_n (pc' := 58) (lv' := [some (.ref (X.1.1 + 164)), some (.long (zJ 0)), none]) hX dX12_name_57 rfl hL (by decide) rfl ?_
          have L_58_95 : ∀ (N : Nat) (x87 : Int) (s90 : zSto), -9223372036854775808 ≤ x87 → x87 ≤ 9223372036854775807 → zInv s90 → zOn zQ1 σ s90 → (σ 164 2 ≤ s90 164 2 ∧ (σ 164 2 ≤ σ 164 3 → s90 164 2 ≤ σ 164 3)) → s90 164 3 = σ 164 3 → s90 164 5 = σ 164 5 → ((1601 - s90 164 2).toNat) < N → zF X s90 58 [some (.ref (X.1.1 + 164)), some (.long (zJ x87)), none] [] := by
            intro N
            induction N with
            | zero =>
              intro x87 s90 h88 h89 hI91 hF92 g93 g94 g95 hm97
              exact absurd hm97 (Nat.not_lt_zero _)
            | succ N ih98 =>
              intro x87 s90 h88 h89 hI91 hF92 g93 g94 g95 hm97
              have b99 := zv_46_2 hI91 zc_164
              have b100 := zv_46_3 hI91 zc_164
              have b101 := zv_46_5 hI91 zc_164
              have b102 := zv_46_4 hI91 zc_164
              refine zt_aload_n (pc' := 59) hX dX12_name_58 rfl rfl ?_
              have b103 := zv_46_2 hI91 zc_164
              refine zt_get (pc' := 62) (v := .int (zI (s90 164 2))) hX dX12_name_59 rfl zf_X12_252 (by decide) zc_164 zs_46 rfl ?_
              refine zt_aload_n (pc' := 63) hX dX12_name_62 rfl rfl ?_
              have b104 := zv_46_3 hI91 zc_164
              refine zt_get (pc' := 66) (v := .int (zI (s90 164 3))) hX dX12_name_63 rfl zf_X12_255 (by decide) zc_164 zs_46 rfl ?_
              have J_145_104 : zF X s90 145 [some (.ref (X.1.1 + 164)), some (.long (zJ x87)), none] [] := by
                refine zt_aload_n (pc' := 146) hX dX12_name_145 rfl rfl ?_
                refine zt_aload_n (pc' := 147) hX dX12_name_146 rfl rfl ?_
                refine zt_get (pc' := 150) (v := .int (zI (s90 164 2))) hX dX12_name_147 rfl zf_X12_252 (by decide) zc_164 zs_46 rfl ?_
                refine zt_put (pc' := 153) (x := (s90 164 2)) hX dX12_name_150 rfl zf_X12_266 (by decide) zc_164 zs_46 (fun q hq => by cases hq; rfl) rfl rfl rfl ?_
                generalize hs107 : zset s90 164 4 (s90 164 2) = s106
                have hI108 : zInv s106 := hs107 ▸ zp_46_4 hI91 zc_164 ⟨by omega, by omega⟩
                have hF109 : zOn zQ1 σ s106 := hs107 ▸ zOn_set hF92 (by decide)
                have e110 : s106 164 2 = s90 164 2 := by rw [← hs107]; exact zset_j (by decide)
                have e111 : s106 164 3 = s90 164 3 := by rw [← hs107]; exact zset_j (by decide)
                have e112 : s106 164 5 = s90 164 5 := by rw [← hs107]; exact zset_j (by decide)
                have e113 : s106 164 4 = (s90 164 2) := by rw [← hs107]; exact zset_s
                refine zt_lload_n (pc' := 154) hX dX12_name_153 rfl rfl ?_
                exact zt_lret hX hR dX12_name_154 ⟨by omega, by omega⟩ ⟨hI108, hF109, by omega, by omega, by omega, by omega⟩
              refine zt_icge (pc' := 69) (tgt := 145) hX dX12_name_66 rfl (by decide) ⟨by omega, by omega⟩ ⟨by omega, by omega⟩ (fun c114 => ?_) (fun c114 => ?_)
              · exact J_145_104
              · refine zt_aload_n (pc' := 70) hX dX12_name_69 rfl rfl ?_
                refine zt_get (pc' := 73) (v := .ref (X.1.1 + 165)) hX dX12_name_70 rfl zf_X12_7 (by decide) zc_164 zs_46 (zrf_of (zv_46_0 hI91 zc_164)) ?_
                refine zt_aload_n (pc' := 74) hX dX12_name_73 rfl rfl ?_
                refine zt_get (pc' := 77) (v := .int (zI (s90 164 2))) hX dX12_name_74 rfl zf_X12_252 (by decide) zc_164 zs_46 rfl ?_
                refine zt_iald (pc' := 78) hX dX12_name_77 rfl (by decide) zc_165 zs_47 (by decide) ⟨by omega, by omega⟩ ?_
                generalize hv115 : s90 165 ((s90 164 2).toNat) = v115
                have bv115 : 0 ≤ v115 ∧ v115 ≤ 255 := hv115 ▸ zv_47 hI91 zc_165 _
                refine zt_cSz (pc' := 81) hX dX12_name_78 rfl zm_yX12_isLetter zw_26_16 (zc_X12_isLetter _ _ s90  v115 ⟨by omega, by omega⟩) rfl rfl (Nat.le_of_ble_eq_true rfl) (by decide) (fun r116 s117 hr118 hp119 => ?_)
                obtain ⟨rfl, q120, q121, z122⟩ := hp119
                refine zt_ifeq (pc' := 84) (tgt := 145) hX dX12_name_81 rfl (by decide) ⟨by omega, by omega⟩ (fun c123 => ?_) (fun c123 => ?_)
                · exact J_145_104
                · refine zt_aload_n (pc' := 85) hX dX12_name_84 rfl rfl ?_
                  refine zt_get (pc' := 88) (v := .int (zI (s90 164 2))) hX dX12_name_85 rfl zf_X12_252 (by decide) zc_164 zs_46 rfl ?_
                  refine zt_aload_n (pc' := 89) hX dX12_name_88 rfl rfl ?_
                  have b124 := zv_46_38 hI91 zc_164
                  refine zt_get (pc' := 92) (v := .int (zI (s90 164 38))) hX dX12_name_89 rfl zf_X12_297 (by decide) zc_164 zs_46 rfl ?_
                  refine zt_isub (pc' := 93) hX dX12_name_92 rfl ?_
                  refine zt_wrap (fun r125 zr125 lr125 ur125 => ?_)
                  clear zr125
                  refine zt_bipush (pc' := 95) hX dX12_name_93 rfl (by decide) (by decide) ?_
                  refine zt_icne (pc' := 98) (tgt := 109) hX dX12_name_95 rfl (by decide) ⟨by omega, by omega⟩ ⟨by omega, by omega⟩ (fun c126 => ?_) (fun c126 => ?_)
                  · refine zt_ldc2 (pc' := 112) (x := 27) hX dX12_name_109 rfl zw_28_15 (by decide +kernel) ?_
                    refine zt_lload_n (pc' := 113) hX dX12_name_112 rfl rfl ?_
                    refine zt_lmul (pc' := 114) hX dX12_name_113 rfl ?_
                    refine zt_wrapl (fun r127 zr127 lr127 ur127 => ?_)
                    clear zr127
                    refine zt_aload_n (pc' := 115) hX dX12_name_114 rfl rfl ?_
                    refine zt_get (pc' := 118) (v := .ref (X.1.1 + 165)) hX dX12_name_115 rfl zf_X12_7 (by decide) zc_164 zs_46 (zrf_of (zv_46_0 hI91 zc_164)) ?_
                    refine zt_aload_n (pc' := 119) hX dX12_name_118 rfl rfl ?_
                    refine zt_get (pc' := 122) (v := .int (zI (s90 164 2))) hX dX12_name_119 rfl zf_X12_252 (by decide) zc_164 zs_46 rfl ?_
                    refine zt_iald (pc' := 123) hX dX12_name_122 rfl (by decide) zc_165 zs_47 (by decide) ⟨by omega, by omega⟩ ?_
                    generalize hv128 : s90 165 ((s90 164 2).toNat) = v128
                    have bv128 : 0 ≤ v128 ∧ v128 ≤ 255 := hv128 ▸ zv_47 hI91 zc_165 _
                    refine zt_i2l (pc' := 124) hX dX12_name_123 rfl ⟨by omega, by omega⟩ ?_
                    refine zt_ladd (pc' := 125) hX dX12_name_124 rfl ?_
                    refine zt_wrapl (fun r129 zr129 lr129 ur129 => ?_)
                    clear zr129
                    refine zt_ldc2 (pc' := 128) (x := 97) hX dX12_name_125 rfl zw_28_16 (by decide +kernel) ?_
                    refine zt_lsub (pc' := 129) hX dX12_name_128 rfl ?_
                    refine zt_wrapl (fun r130 zr130 lr130 ur130 => ?_)
                    clear zr130
                    refine zt_lconst (pc' := 130) (y := 1) hX dX12_name_129 rfl (by decide +kernel) ?_
                    refine zt_ladd (pc' := 131) hX dX12_name_130 rfl ?_
                    refine zt_wrapl (fun r131 zr131 lr131 ur131 => ?_)
                    clear zr131
                    refine zt_lstore_n (pc' := 132) (lv' := [some (.ref (X.1.1 + 164)), some (.long (zJ r131)), none]) hX dX12_name_131 rfl hL (by decide) rfl ?_
                    refine zt_aload_n (pc' := 133) hX dX12_name_132 rfl rfl ?_
                    refine zt_dup (pc' := 134) hX dX12_name_133 rfl rfl ?_
                    refine zt_get (pc' := 137) (v := .int (zI (s90 164 2))) hX dX12_name_134 rfl zf_X12_252 (by decide) zc_164 zs_46 rfl ?_
                    refine zt_iconst (pc' := 138) hX dX12_name_137 rfl ?_
                    refine zt_iadd (pc' := 139) hX dX12_name_138 rfl ?_
                    refine zt_put (pc' := 142) (x := ((s90 164 2) + 1)) hX dX12_name_139 rfl zf_X12_252 (by decide) zc_164 zs_46 (fun q hq => by cases hq; rfl) rfl rfl rfl ?_
                    generalize hs133 : zset s90 164 2 ((s90 164 2) + 1) = s132
                    have hI134 : zInv s132 := hs133 ▸ zp_46_2 hI91 zc_164 ⟨by omega, by omega⟩
                    have hF135 : zOn zQ1 σ s132 := hs133 ▸ zOn_set hF92 (by decide)
                    have e136 : s132 164 2 = ((s90 164 2) + 1) := by rw [← hs133]; exact zset_s
                    have e137 : s132 164 3 = s90 164 3 := by rw [← hs133]; exact zset_j (by decide)
                    have e138 : s132 164 5 = s90 164 5 := by rw [← hs133]; exact zset_j (by decide)
                    have e139 : s132 164 4 = s90 164 4 := by rw [← hs133]; exact zset_j (by decide)
                    refine zt_goto (tgt := 58) hX dX12_name_142 (by decide) ?_
                    exact ih98 r131 s132 (by omega) (by omega) hI134 hF135 (by omega) (by omega) (by omega) (by omega)
                  · refine zt_aload_n (pc' := 99) hX dX12_name_98 rfl rfl ?_
                    refine zt_iconst (pc' := 100) hX dX12_name_99 rfl ?_
                    refine zt_aload_n (pc' := 101) hX dX12_name_100 rfl rfl ?_
                    refine zt_get (pc' := 104) (v := .int (zI (s90 164 2))) hX dX12_name_101 rfl zf_X12_252 (by decide) zc_164 zs_46 rfl ?_
                    refine zt_cVv (pc' := 107) hX dX12_name_104 rfl zm_yX12_fail zw_26_19 zc_164 (by decide) zs_46 (q := (RX12, TX12, 108)) rfl rfl (zc_X12_fail _ _ s90 hI91 1 ⟨by omega, by omega⟩ (s90 164 2) ⟨by omega, by omega⟩) rfl rfl (Nat.le_of_ble_eq_true rfl) (by decide) (fun r140 s141 hr142 hp143 => ?_)
                    obtain ⟨hI144, hF145, z146, z147⟩ := hp143
                    have e148 := hF145 164 3 rfl
                    have hF149 := zOn_tr hF92 hF145 zi_id
                    have b150 := zv_46_2 hI144 zc_164
                    have b151 := zv_46_3 hI144 zc_164
                    have b152 := zv_46_5 hI144 zc_164
                    have b153 := zv_46_4 hI144 zc_164
                    refine zt_lconst (pc' := 108) (y := 0) hX dX12_name_107 rfl (by decide +kernel) ?_
                    exact zt_lret hX hR dX12_name_108 ⟨by omega, by omega⟩ ⟨hI144, hF149, by omega, by omega, by omega, by omega⟩
          exact L_58_95 _ 0 s79 (by omega) (by omega) hI81 hF82 (by omega) (by omega) (by omega) (Nat.lt_succ_self _)
        · exact J_37_36 s62 hI65 hF72 (by omega) (by omega) (by omega)
  · refine zt_lconst (pc' := 8) (y := 0) hX dX12_name_7 rfl (by decide +kernel) ?_
    exact zt_lret hX hR dX12_name_8 ⟨by omega, by omega⟩ ⟨hI, hF, by omega, by omega, by omega, by omega⟩

set_option maxRecDepth 100000 in
set_option maxHeartbeats 4000000 in
theorem zc_X12_isAllowed (l : Launch) (E : zEN) (σ : zSto) (hI : zInv σ) (a1_ : Int) (ha1_ : -2147483648 ≤ a1_ ∧ a1_ ≤ 2147483647) : zCt l E yX12_isAllowed cX12_isAllowed 2 (some .boolean) 1 zNC zNC 0 0 σ [.ref (E.1 + 164), .int (zI a1_)] (fun r σ' => σ = σ' ∧ 0 ≤ r ∧ r ≤ 1) := by
  refine zCt_of2 [some (.ref (E.1 + 164)), some (.int (zI a1_))] (by decide +kernel) (Nat.le_of_ble_eq_true rfl) rfl ?_
  intro X hE hX hR hL hN
  subst hE
  have hX : zok X cX12_isAllowed RX12 1 := hX
  refine zt_iload_n (pc' := 1) hX dX12_isAllowed_0 rfl rfl ?_
  refine zt_iconst (pc' := 2) hX dX12_isAllowed_1 rfl ?_
  refine zt_iclt (pc' := 5) (tgt := 50) hX dX12_isAllowed_2 rfl (by decide) ⟨by omega, by omega⟩ ⟨by omega, by omega⟩ (fun c1 => ?_) (fun c1 => ?_)
  · refine zt_iconst (pc' := 51) hX dX12_isAllowed_50 rfl ?_
    refine zt_goto (tgt := 55) hX dX12_isAllowed_51 (by decide) ?_
    exact zt_zret hX hR dX12_isAllowed_55 ⟨by omega, by omega⟩ ⟨rfl, by omega, by omega⟩
  · refine zt_aload_n (pc' := 6) hX dX12_isAllowed_5 rfl rfl ?_
    have b2 := zv_46_51 hI zc_164
    refine zt_get (pc' := 9) (v := .int (zI (σ 164 51))) hX dX12_isAllowed_6 rfl zf_X12_304 (by decide) zc_164 zs_46 rfl ?_
    refine zt_ifne (pc' := 12) (tgt := 20) hX dX12_isAllowed_9 rfl (by decide) ⟨by omega, by omega⟩ (fun c3 => ?_) (fun c3 => ?_)
    · refine zt_aload_n (pc' := 21) hX dX12_isAllowed_20 rfl rfl ?_
      refine zt_get (pc' := 24) (v := .int (zI (σ 164 51))) hX dX12_isAllowed_21 rfl zf_X12_304 (by decide) zc_164 zs_46 rfl ?_
      refine zt_iconst (pc' := 25) hX dX12_isAllowed_24 rfl ?_
      refine zt_icne (pc' := 28) (tgt := 45) hX dX12_isAllowed_25 rfl (by decide) ⟨by omega, by omega⟩ ⟨by omega, by omega⟩ (fun c4 => ?_) (fun c4 => ?_)
      · refine zt_iload_n (pc' := 46) hX dX12_isAllowed_45 rfl rfl ?_
        refine zt_iconst (pc' := 47) hX dX12_isAllowed_46 rfl ?_
        refine zt_icle (pc' := 50) (tgt := 54) hX dX12_isAllowed_47 rfl (by decide) ⟨by omega, by omega⟩ ⟨by omega, by omega⟩ (fun c5 => ?_) (fun c5 => ?_)
        · refine zt_iconst (pc' := 55) hX dX12_isAllowed_54 rfl ?_
          exact zt_zret hX hR dX12_isAllowed_55 ⟨by omega, by omega⟩ ⟨rfl, by omega, by omega⟩
        · refine zt_iconst (pc' := 51) hX dX12_isAllowed_50 rfl ?_
          refine zt_goto (tgt := 55) hX dX12_isAllowed_51 (by decide) ?_
          exact zt_zret hX hR dX12_isAllowed_55 ⟨by omega, by omega⟩ ⟨rfl, by omega, by omega⟩
      · refine zt_iload_n (pc' := 29) hX dX12_isAllowed_28 rfl rfl ?_
        refine zt_i2l (pc' := 30) hX dX12_isAllowed_29 rfl ⟨by omega, by omega⟩ ?_
        refine zt_ldc2 (pc' := 33) (x := 3) hX dX12_isAllowed_30 rfl zw_30_18 (by decide +kernel) ?_
        refine zt_ldc2 (pc' := 36) (x := 5) hX dX12_isAllowed_33 rfl zw_30_19 (by decide +kernel) ?_
        refine zt_cSz (pc' := 39) hX dX12_isAllowed_36 rfl zm_yX12_isIn zw_27_7 (zc_X12_isIn _ _ σ  a1_ ⟨by omega, by omega⟩ 3 ⟨by omega, by omega⟩ 5 ⟨by omega, by omega⟩) rfl rfl (Nat.le_of_ble_eq_true rfl) (by decide) (fun r6 s7 hr8 hp9 => ?_)
        obtain ⟨rfl, q10, q11, z12⟩ := hp9
        refine zt_ifeq (pc' := 42) (tgt := 54) hX dX12_isAllowed_39 rfl (by decide) ⟨by omega, by omega⟩ (fun c13 => ?_) (fun c13 => ?_)
        · refine zt_iconst (pc' := 55) hX dX12_isAllowed_54 rfl ?_
          exact zt_zret hX hR dX12_isAllowed_55 ⟨by omega, by omega⟩ ⟨rfl, by omega, by omega⟩
        · refine zt_goto (tgt := 50) hX dX12_isAllowed_42 (by decide) ?_
          refine zt_iconst (pc' := 51) hX dX12_isAllowed_50 rfl ?_
          refine zt_goto (tgt := 55) hX dX12_isAllowed_51 (by decide) ?_
          exact zt_zret hX hR dX12_isAllowed_55 ⟨by omega, by omega⟩ ⟨rfl, by omega, by omega⟩
    · refine zt_iload_n (pc' := 13) hX dX12_isAllowed_12 rfl rfl ?_
      refine zt_iconst (pc' := 14) hX dX12_isAllowed_13 rfl ?_
      refine zt_icne (pc' := 17) (tgt := 54) hX dX12_isAllowed_14 rfl (by decide) ⟨by omega, by omega⟩ ⟨by omega, by omega⟩ (fun c14 => ?_) (fun c14 => ?_)
      · refine zt_iconst (pc' := 55) hX dX12_isAllowed_54 rfl ?_
        exact zt_zret hX hR dX12_isAllowed_55 ⟨by omega, by omega⟩ ⟨rfl, by omega, by omega⟩
      · refine zt_goto (tgt := 50) hX dX12_isAllowed_17 (by decide) ?_
        refine zt_iconst (pc' := 51) hX dX12_isAllowed_50 rfl ?_
        refine zt_goto (tgt := 55) hX dX12_isAllowed_51 (by decide) ?_
        exact zt_zret hX hR dX12_isAllowed_55 ⟨by omega, by omega⟩ ⟨rfl, by omega, by omega⟩
