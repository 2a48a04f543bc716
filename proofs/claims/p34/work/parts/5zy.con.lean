set_option maxRecDepth 100000 in
set_option maxHeartbeats 4000000 in
theorem yd_X9_pairAt (l : Launch) (E : zEN) (σ : zSto) (hI : zInv σ) (a1_ : Int) (ha1_ : 0 ≤ a1_ ∧ a1_ ≤ 1600) (hpre0 : a1_ + 2 ≤ σ 1 1) : zCt l E yX9_pairAt cX9_pairAt 2 (some .int) 1 zNC zNC 0 0 σ [.ref (E.1 + 1), .int (zI a1_)] (fun r σ' => σ = σ' ∧ -2147483648 ≤ r ∧ r ≤ 2147483647 ∧ (r = 256 * yT σ a1_ + yT σ (a1_ + 1))) := by
  refine zCt_of2 [some (.ref (E.1 + 1)), some (.int (zI a1_))] (by decide +kernel) (Nat.le_of_ble_eq_true rfl) rfl ?_
  intro X hE_ hX hR hL hN
  subst hE_
  have hX : zok X cX9_pairAt RX9 1 := hX
  have b1 := zv_2_1 hI zc_1
  refine zt_aload_n (pc' := 1) hX dX9_pairAt_0 rfl rfl ?_
  refine zt_iload_n (pc' := 2) hX dX9_pairAt_1 rfl rfl ?_
  refine zt_cVi (pc' := 5) hX dX9_pairAt_2 rfl zm_yX9_byteAt zw_57_5 zc_1 (by decide) zs_2 (q := (RX9, TX9, 2)) rfl rfl (yc_X9_byteAt _ _ σ hI a1_ ⟨by omega, by omega⟩) rfl rfl (Nat.le_of_ble_eq_true rfl) (by decide) (fun r2 s3 hr4 hp5 => ?_)
  obtain ⟨rfl, q6, q7, z8⟩ := hp5
  refine zt_bipush (pc' := 7) hX dX9_pairAt_5 rfl (by decide) (by decide) ?_
  refine zt_ishl (pc' := 8) hX dX9_pairAt_7 rfl (fun r9 zr9 lr9 ur9 => ?_)
  replace zr9 : r9 = ysl r2 8 := zr9
  refine zt_aload_n (pc' := 9) hX dX9_pairAt_8 rfl rfl ?_
  refine zt_iload_n (pc' := 10) hX dX9_pairAt_9 rfl rfl ?_
  refine zt_iconst (pc' := 11) hX dX9_pairAt_10 rfl ?_
  refine zt_iadd (pc' := 12) hX dX9_pairAt_11 rfl ?_
  refine zt_cVi (pc' := 15) hX dX9_pairAt_12 rfl zm_yX9_byteAt zw_57_5 zc_1 (by decide) zs_2 (q := (RX9, TX9, 2)) rfl rfl (yc_X9_byteAt _ _ σ hI (a1_ + 1) ⟨by omega, by omega⟩) rfl rfl (Nat.le_of_ble_eq_true rfl) (by decide) (fun r10 s11 hr12 hp13 => ?_)
  obtain ⟨rfl, q14, q15, z16⟩ := hp13
  refine zt_ior (pc' := 16) hX dX9_pairAt_15 rfl (fun r17 zr17 lr17 ur17 => ?_)
  replace zr17 : r17 = yor r9 r10 := zr17
  exact zt_iret hX hR dX9_pairAt_16 ⟨by omega, by omega⟩ ⟨rfl, by omega, by omega, (ypair (by rw [z8]; exact yT_r ⟨by omega, by omega⟩) (by rw [z16]; exact yT_r ⟨by omega, by omega⟩) zr9 zr17 (by rw [z8, z16]))⟩
set_option maxRecDepth 100000 in
set_option maxHeartbeats 4000000 in
theorem yd_X9_checkOf (l : Launch) (E : zEN) (σ : zSto) (hI : zInv σ) (a1_ : Int) (ha1_ : 0 ≤ a1_ ∧ a1_ ≤ 100) : zCt l E yX9_checkOf cX9_checkOf 4 (some .int) 1 zNC zNC 0 0 σ [.ref (E.1 + 1), .int (zI a1_)] (fun r σ' => σ = σ' ∧ -250 ≤ r ∧ r ≤ 250 ∧ (r = yckz (yT σ) a1_)) := by
  refine zCt_of2 [some (.ref (E.1 + 1)), some (.int (zI a1_)), none, none] (by decide +kernel) (Nat.le_of_ble_eq_true rfl) rfl ?_
  intro X hE_ hX hR hL hN
  subst hE_
  have hX : zok X cX9_checkOf RX9 1 := hX
  refine zt_bipush (pc' := 2) hX dX9_checkOf_0 rfl (by decide) (by decide) ?_
  refine zt_istore_n (pc' := 3) (lv' := [some (.ref (X.1.1 + 1)), some (.int (zI a1_)), some (.int (zI 127)), none]) hX dX9_checkOf_2 rfl hL (by decide) rfl ?_
  refine zt_iconst (pc' := 4) hX dX9_checkOf_3 rfl ?_
  refine zt_istore_n (pc' := 5) (lv' := [some (.ref (X.1.1 + 1)), some (.int (zI a1_)), some (.int (zI 127)), some (.int (zI 0))]) hX dX9_checkOf_4 rfl hL (by decide) rfl ?_
  have L_5_9 : ∀ (N : Nat) (x1 : Int) (x4 : Int), -250 ≤ x1 → x1 ≤ 250 → 0 ≤ x4 → x4 ≤ 100 → 0 ≤ x4 → x4 ≤ a1_ → x1 = yckz (yT σ) x4 → ((a1_ - x4).toNat) < N → zF X σ 5 [some (.ref (X.1.1 + 1)), some (.int (zI a1_)), some (.int (zI x1)), some (.int (zI x4))] [] := by
    intro N
    induction N with
    | zero =>
      intro x1 x4 h2 h3 h5 h6 g7 g8 g9 hm11
      exact absurd hm11 (Nat.not_lt_zero _)
    | succ N ih12 =>
      intro x1 x4 h2 h3 h5 h6 g7 g8 g9 hm11
      refine zt_iload_n (pc' := 6) hX dX9_checkOf_5 rfl rfl ?_
      refine zt_iload_n (pc' := 7) hX dX9_checkOf_6 rfl rfl ?_
      refine zt_icge (pc' := 10) (tgt := 30) hX dX9_checkOf_7 rfl (by decide) ⟨by omega, by omega⟩ ⟨by omega, by omega⟩ (fun c13 => ?_) (fun c13 => ?_)
      · refine zt_iload_n (pc' := 31) hX dX9_checkOf_30 rfl rfl ?_
        exact zt_iret hX hR dX9_checkOf_31 ⟨by omega, by omega⟩ ⟨rfl, by omega, by omega, (by rw [show a1_ = x4 by omega]; exact g9)⟩
      · refine zt_iconst (pc' := 11) hX dX9_checkOf_10 rfl ?_
        refine zt_iload_n (pc' := 12) hX dX9_checkOf_11 rfl rfl ?_
        refine zt_imul (pc' := 13) hX dX9_checkOf_12 rfl ?_
        refine zt_aload_n (pc' := 14) hX dX9_checkOf_13 rfl rfl ?_
        refine zt_iload_n (pc' := 15) hX dX9_checkOf_14 rfl rfl ?_
        refine zt_cVi (pc' := 18) hX dX9_checkOf_15 rfl zm_yX9_byteAt zw_57_5 zc_1 (by decide) zs_2 (q := (RX9, TX9, 2)) rfl rfl (yc_X9_byteAt _ _ σ hI x4 ⟨by omega, by omega⟩) rfl rfl (Nat.le_of_ble_eq_true rfl) (by decide) (fun r14 s15 hr16 hp17 => ?_)
        obtain ⟨rfl, q18, q19, z20⟩ := hp17
        refine zt_iadd (pc' := 19) hX dX9_checkOf_18 rfl ?_
        refine zt_sipush (pc' := 22) hX dX9_checkOf_19 rfl (by decide) (by decide) ?_
        refine zt_irem (pc' := 23) hX dX9_checkOf_22 rfl ⟨by omega, by omega⟩ ⟨by omega, by omega⟩ (fun r21 er21 br21 nr21 => ?_)
        refine zt_istore_n (pc' := 24) (lv' := [some (.ref (X.1.1 + 1)), some (.int (zI a1_)), some (.int (zI r21)), some (.int (zI x4))]) hX dX9_checkOf_23 rfl hL (by decide) rfl ?_
        refine zt_iinc (pc' := 27) (lv' := [some (.ref (X.1.1 + 1)), some (.int (zI a1_)), some (.int (zI r21)), some (.int (zI (x4 + 1)))]) hX dX9_checkOf_24 rfl rfl hL (by decide) rfl ?_
        refine zt_goto (tgt := 5) hX dX9_checkOf_27 (by decide) ?_
        exact ih12 r21 (x4 + 1) (by omega) (by omega) (by omega) (by omega) (by omega) (by omega) (yckz_s g9 (by omega) z20 rfl er21) (by omega)
  exact L_5_9 _ 127 0 (by omega) (by omega) (by omega) (by omega) (by omega) (by omega) yckz_0 (Nat.lt_succ_self _)
set_option maxRecDepth 100000 in
set_option maxHeartbeats 4000000 in
theorem yd_X10_between (l : Launch) (E : zEN) (σ : zSto) (hI : zInv σ) (a1_ : Int) (ha1_ : 0 ≤ a1_ ∧ a1_ ≤ 9) (a2_ : Int) (ha2_ : -1 ≤ a2_ ∧ a2_ ≤ 255) (a3_ : Int) (ha3_ : -1 ≤ a3_ ∧ a3_ ≤ 255) : zCt l E yX10_between cX10_between 4 (some .int) 1 zNC zNC 0 0 σ [.ref (E.1 + 40), .int (zI a1_), .int (zI a2_), .int (zI a3_)] (fun r σ' => σ = σ' ∧ 0 ≤ r ∧ r ≤ 512 ∧ (yBz (σ 41 a1_.toNat) a2_ (σ 42 a1_.toNat) a3_ r)) := by
  refine zCt_of2 [some (.ref (E.1 + 40)), some (.int (zI a1_)), some (.int (zI a2_)), some (.int (zI a3_))] (by decide +kernel) (Nat.le_of_ble_eq_true rfl) rfl ?_
  intro X hE_ hX hR hL hN
  subst hE_
  have hX : zok X cX10_between RX10 1 := hX
  refine zt_aload_n (pc' := 1) hX dX10_between_0 rfl rfl ?_
  refine zt_get (pc' := 4) (v := .ref (X.1.1 + 41)) hX dX10_between_1 rfl zf_X10_9 (by decide) zc_40 zs_22 (zrf_of (zv_22_0 hI zc_40)) ?_
  refine zt_iload_n (pc' := 5) hX dX10_between_4 rfl rfl ?_
  refine zt_iald (pc' := 6) hX dX10_between_5 rfl (by decide) zc_41 zs_23 (by decide) ⟨by omega, by omega⟩ ?_
  generalize hv1 : σ 41 (a1_.toNat) = v1
  have bv1 : -1 ≤ v1 ∧ v1 ≤ 255 := hv1 ▸ zv_23 hI zc_41 _
  refine zt_iload_n (pc' := 7) hX dX10_between_6 rfl rfl ?_
  refine zt_isub (pc' := 8) hX dX10_between_7 rfl ?_
  refine zt_mabs (pc' := 11) hX (by decide) dX10_between_8 rfl zw_34_19 zw_34_20 zw_34_21 zw_34_22 (Nat.le_of_ble_eq_true rfl) ⟨Nat.zero_le _, Nat.zero_le _⟩ ⟨by omega, by omega⟩ (fun r2 er2 => ?_)
  refine zt_aload_n (pc' := 12) hX dX10_between_11 rfl rfl ?_
  refine zt_get (pc' := 15) (v := .ref (X.1.1 + 42)) hX dX10_between_12 rfl zf_X10_15 (by decide) zc_40 zs_22 (zrf_of (zv_22_1 hI zc_40)) ?_
  refine zt_iload_n (pc' := 16) hX dX10_between_15 rfl rfl ?_
  refine zt_iald (pc' := 17) hX dX10_between_16 rfl (by decide) zc_42 zs_24 (by decide) ⟨by omega, by omega⟩ ?_
  generalize hv3 : σ 42 (a1_.toNat) = v3
  have bv3 : -1 ≤ v3 ∧ v3 ≤ 255 := hv3 ▸ zv_24 hI zc_42 _
  refine zt_iload_n (pc' := 18) hX dX10_between_17 rfl rfl ?_
  refine zt_isub (pc' := 19) hX dX10_between_18 rfl ?_
  refine zt_mabs (pc' := 22) hX (by decide) dX10_between_19 rfl zw_34_19 zw_34_20 zw_34_21 zw_34_22 (Nat.le_of_ble_eq_true rfl) ⟨Nat.zero_le _, Nat.zero_le _⟩ ⟨by omega, by omega⟩ (fun r4 er4 => ?_)
  refine zt_iadd (pc' := 23) hX dX10_between_22 rfl ?_
  exact zt_iret hX hR dX10_between_23 ⟨by omega, by omega⟩ ⟨rfl, by omega, by omega, (by rw [hv1, hv3]; exact ⟨fun h => by omega, fun h g => h ⟨by omega, by omega⟩⟩)⟩
set_option maxRecDepth 100000 in
set_option maxHeartbeats 4000000 in
theorem yd_X10_readPerson_7 (l : Launch) (E : zEN) (σ : zSto) (hI : zInv σ) (a3_ : Int) (ha3_ : 0 ≤ a3_ ∧ a3_ ≤ 9) (a4_ : Int) (ha4_ : 0 ≤ a4_ ∧ a4_ ≤ 100) (f : Int → Int) (hf : yT σ = f) (bb : Int) (hb : a4_ = bb + 4 * a3_) (cc rr : Int) (hcc : σ 7 10 = cc ∧ σ 7 11 = rr) (hA : yAh f σ bb a3_) : zCt l E yX10_readPerson cX10_readPerson 7 (some .boolean) 2 zNC zNC 0 0 σ [.ref (E.1 + 40), .ref (E.1 + 7), .ref (E.1 + 1), .int (zI a3_), .int (zI a4_)] (fun r σ' => zInv σ' ∧ zOn zSe σ σ' ∧ 0 ≤ r ∧ r ≤ 1 ∧ ((r = 1 ∧ yPe f bb cc rr a3_ ∧ yAh f σ' bb (a3_ + 1)) ∨ (r = 0 ∧ ¬ yPe f bb cc rr a3_))) := by
  refine zCt_of2 [some (.ref (E.1 + 40)), some (.ref (E.1 + 7)), some (.ref (E.1 + 1)), some (.int (zI a3_)), some (.int (zI a4_)), none, none] (by decide +kernel) (Nat.le_of_ble_eq_true rfl) rfl ?_
  intro X hE_ hX hR hL hN
  subst hE_
  have hX : zok X cX10_readPerson RX10 2 := hX
  have hF := zOn_rf zSe σ
  obtain ⟨hcc1, hcc2⟩ := hcc
  have b_a := zv_8_10 hI zc_7
  have b_b := zv_8_11 hI zc_7
  have b1 := zv_8_10 hI zc_7
  have b2 := zv_8_11 hI zc_7
  have b3 := zv_25 hI zc_43 a3_.toNat
  refine zt_aload_n (pc' := 1) hX dX10_readPerson_0 rfl rfl ?_
  refine zt_get (pc' := 4) (v := .ref (X.1.1 + 41)) hX dX10_readPerson_1 rfl zf_X10_9 (by decide) zc_40 zs_22 (zrf_of (zv_22_0 hI zc_40)) ?_
  refine zt_iload_n (pc' := 5) hX dX10_readPerson_4 rfl rfl ?_
  refine zt_aload_n (pc' := 6) hX dX10_readPerson_5 rfl rfl ?_
  refine zt_iload (pc' := 8) hX dX10_readPerson_6 rfl rfl ?_
  refine zt_cVi (pc' := 11) hX dX10_readPerson_8 rfl zm_yX9_byteAt zw_69_2 zc_1 (by decide) zs_2 (q := (RX9, TX9, 2)) rfl rfl (yc_X9_byteAt _ _ σ hI a4_ ⟨by omega, by omega⟩) rfl rfl (Nat.le_of_ble_eq_true rfl) (by decide) (fun r4 s5 hr6 hp7 => ?_)
  obtain ⟨rfl, q8, q9, z10⟩ := hp7
  have w11 : r4 = f (bb + 4 * a3_) := by rw [← hf, ← hb]; exact z10
  clear z10
  refine zt_iast (pc' := 12) hX dX10_readPerson_11 rfl (by decide) zc_41 zs_23 (by decide) ⟨by omega, by omega⟩ ?_
  generalize hs13 : zset σ 41 (a3_.toNat) r4 = s12
  have hI14 : zInv s12 := hs13 ▸ zp_23 hI zc_41 (a3_.toNat) ⟨by omega, by omega⟩
  have hF15 : zOn zSe σ s12 := hs13 ▸ zOn_set hF rfl
  have e16 : s12 7 10 = σ 7 10 := by rw [← hs13]; exact zset_k (zne_r zc_7 zc_41 (by decide))
  have e17 : s12 7 11 = σ 7 11 := by rw [← hs13]; exact zset_k (zne_r zc_7 zc_41 (by decide))
  have e18 : s12 43 (a3_.toNat) = σ 43 (a3_.toNat) := by rw [← hs13]; exact zset_k (zne_r zc_43 zc_41 (by decide))
  refine zt_aload_n (pc' := 13) hX dX10_readPerson_12 rfl rfl ?_
  refine zt_get (pc' := 16) (v := .ref (X.1.1 + 42)) hX dX10_readPerson_13 rfl zf_X10_15 (by decide) zc_40 zs_22 (zrf_of (zv_22_1 hI14 zc_40)) ?_
  refine zt_iload_n (pc' := 17) hX dX10_readPerson_16 rfl rfl ?_
  refine zt_aload_n (pc' := 18) hX dX10_readPerson_17 rfl rfl ?_
  refine zt_iload (pc' := 20) hX dX10_readPerson_18 rfl rfl ?_
  refine zt_iconst (pc' := 21) hX dX10_readPerson_20 rfl ?_
  refine zt_iadd (pc' := 22) hX dX10_readPerson_21 rfl ?_
  refine zt_cVi (pc' := 25) hX dX10_readPerson_22 rfl zm_yX9_byteAt zw_69_2 zc_1 (by decide) zs_2 (q := (RX9, TX9, 2)) rfl rfl (yc_X9_byteAt _ _ s12 hI14 (a4_ + 1) ⟨by omega, by omega⟩) rfl rfl (Nat.le_of_ble_eq_true rfl) (by decide) (fun r19 s20 hr21 hp22 => ?_)
  obtain ⟨rfl, q23, q24, z25⟩ := hp22
  have w26 : r19 = f (bb + 4 * a3_ + 1) := by rw [← hf, ← hb]; exact z25.trans (congrFun (yT_eq (hF15 1 1 rfl) (fun j => hF15 2 j rfl)) _)
  clear z25
  refine zt_iast (pc' := 26) hX dX10_readPerson_25 rfl (by decide) zc_42 zs_24 (by decide) ⟨by omega, by omega⟩ ?_
  generalize hs28 : zset s12 42 (a3_.toNat) r19 = s27
  have hI29 : zInv s27 := hs28 ▸ zp_24 hI14 zc_42 (a3_.toNat) ⟨by omega, by omega⟩
  have hF30 : zOn zSe σ s27 := hs28 ▸ zOn_set hF15 rfl
  have e31 : s27 7 10 = s12 7 10 := by rw [← hs28]; exact zset_k (zne_r zc_7 zc_42 (by decide))
  have e32 : s27 7 11 = s12 7 11 := by rw [← hs28]; exact zset_k (zne_r zc_7 zc_42 (by decide))
  have e33 : s27 43 (a3_.toNat) = s12 43 (a3_.toNat) := by rw [← hs28]; exact zset_k (zne_r zc_43 zc_42 (by decide))
  refine zt_aload_n (pc' := 27) hX dX10_readPerson_26 rfl rfl ?_
  refine zt_get (pc' := 30) (v := .ref (X.1.1 + 43)) hX dX10_readPerson_27 rfl zf_X10_18 (by decide) zc_40 zs_22 (zrf_of (zv_22_2 hI29 zc_40)) ?_
  refine zt_iload_n (pc' := 31) hX dX10_readPerson_30 rfl rfl ?_
  refine zt_aload_n (pc' := 32) hX dX10_readPerson_31 rfl rfl ?_
  refine zt_iload (pc' := 34) hX dX10_readPerson_32 rfl rfl ?_
  refine zt_iconst (pc' := 35) hX dX10_readPerson_34 rfl ?_
  refine zt_iadd (pc' := 36) hX dX10_readPerson_35 rfl ?_
  refine zt_cVi (pc' := 39) hX dX10_readPerson_36 rfl zm_yX9_byteAt zw_69_2 zc_1 (by decide) zs_2 (q := (RX9, TX9, 2)) rfl rfl (yc_X9_byteAt _ _ s27 hI29 (a4_ + 2) ⟨by omega, by omega⟩) rfl rfl (Nat.le_of_ble_eq_true rfl) (by decide) (fun r34 s35 hr36 hp37 => ?_)
  obtain ⟨rfl, q38, q39, z40⟩ := hp37
  have w41 : r34 = f (bb + 4 * a3_ + 2) := by rw [← hf, ← hb]; exact z40.trans (congrFun (yT_eq (hF30 1 1 rfl) (fun j => hF30 2 j rfl)) _)
  clear z40
  refine zt_iast (pc' := 40) hX dX10_readPerson_39 rfl (by decide) zc_43 zs_25 (by decide) ⟨by omega, by omega⟩ ?_
  generalize hs43 : zset s27 43 (a3_.toNat) r34 = s42
  have hI44 : zInv s42 := hs43 ▸ zp_25 hI29 zc_43 (a3_.toNat) ⟨by omega, by omega⟩
  have hF45 : zOn zSe σ s42 := hs43 ▸ zOn_set hF30 rfl
  have e46 : s42 7 10 = s27 7 10 := by rw [← hs43]; exact zset_k (zne_r zc_7 zc_43 (by decide))
  have e47 : s42 7 11 = s27 7 11 := by rw [← hs43]; exact zset_k (zne_r zc_7 zc_43 (by decide))
  have e48 : s42 43 (a3_.toNat) = r34 := by rw [← hs43]; exact zset_s
  refine zt_aload_n (pc' := 41) hX dX10_readPerson_40 rfl rfl ?_
  refine zt_iload (pc' := 43) hX dX10_readPerson_41 rfl rfl ?_
  refine zt_iconst (pc' := 44) hX dX10_readPerson_43 rfl ?_
  refine zt_iadd (pc' := 45) hX dX10_readPerson_44 rfl ?_
  refine zt_cVi (pc' := 48) hX dX10_readPerson_45 rfl zm_yX9_byteAt zw_69_2 zc_1 (by decide) zs_2 (q := (RX9, TX9, 2)) rfl rfl (yc_X9_byteAt _ _ s42 hI44 (a4_ + 3) ⟨by omega, by omega⟩) rfl rfl (Nat.le_of_ble_eq_true rfl) (by decide) (fun r49 s50 hr51 hp52 => ?_)
  obtain ⟨rfl, q53, q54, z55⟩ := hp52
  have w56 : r49 = f (bb + 4 * a3_ + 3) := by rw [← hf, ← hb]; exact z55.trans (congrFun (yT_eq (hF45 1 1 rfl) (fun j => hF45 2 j rfl)) _)
  clear z55
  refine zt_istore (pc' := 50) (lv' := [some (.ref (X.1.1 + 40)), some (.ref (X.1.1 + 7)), some (.ref (X.1.1 + 1)), some (.int (zI a3_)), some (.int (zI a4_)), some (.int (zI r49)), none]) hX dX10_readPerson_48 rfl hL (by decide) rfl ?_
  refine zt_aload_n (pc' := 51) hX dX10_readPerson_50 rfl rfl ?_
  refine zt_dup (pc' := 52) hX dX10_readPerson_51 rfl rfl ?_
  have b57 := zv_22_7 hI44 zc_40
  have e58 : s42 40 7 = s27 40 7 := by rw [← hs43]; exact zset_k (zne_r zc_40 zc_43 (by decide))
  have e59 : s27 40 7 = s12 40 7 := by rw [← hs28]; exact zset_k (zne_r zc_40 zc_42 (by decide))
  have e60 : s12 40 7 = σ 40 7 := by rw [← hs13]; exact zset_k (zne_r zc_40 zc_41 (by decide))
  refine zt_get (pc' := 55) (v := .int (zI (s42 40 7))) hX dX10_readPerson_52 rfl zf_X10_35 (by decide) zc_40 zs_22 rfl ?_
  refine zt_iload (pc' := 57) hX dX10_readPerson_55 rfl rfl ?_
  refine zt_iconst (pc' := 58) hX dX10_readPerson_57 rfl ?_
  refine zt_iandm (pc' := 59) hX dX10_readPerson_58 rfl 1 (by decide +kernel) (by decide) (fun r61 er61 lr61 ur61 => ?_)
  have ur61 : r61 ≤ 1 := by omega
  refine zt_iload_n (pc' := 60) hX dX10_readPerson_59 rfl rfl ?_
  refine zt_ishl (pc' := 61) hX dX10_readPerson_60 rfl (fun r62 zr62 lr62 ur62 => ?_)
  clear zr62
  refine zt_ior (pc' := 62) hX dX10_readPerson_61 rfl (fun r63 zr63 lr63 ur63 => ?_)
  clear zr63
  refine zt_put (pc' := 65) (x := r63) hX dX10_readPerson_62 rfl zf_X10_35 (by decide) zc_40 zs_22 (fun q hq => by cases hq; rfl) rfl rfl rfl ?_
  generalize hs65 : zset s42 40 7 r63 = s64
  have hI66 : zInv s64 := hs65 ▸ zp_22_7 hI44 zc_40 ⟨by omega, by omega⟩
  have hF67 : zOn zSe σ s64 := hs65 ▸ zOn_set hF45 rfl
  have e68 : s64 7 10 = s42 7 10 := by rw [← hs65]; exact zset_k (zne_r zc_7 zc_40 (by decide))
  have e69 : s64 7 11 = s42 7 11 := by rw [← hs65]; exact zset_k (zne_r zc_7 zc_40 (by decide))
  have e70 : s64 43 (a3_.toNat) = s42 43 (a3_.toNat) := by rw [← hs65]; exact zset_k (zne_r zc_43 zc_40 (by decide))
  have hAn : yAh f s64 bb (a3_ + 1) := yAh_s hA hs13 hs28 hs43 hs65 (by omega) w11 w26
  refine zt_iconst (pc' := 66) hX dX10_readPerson_65 rfl ?_
  refine zt_istore (pc' := 68) (lv' := [some (.ref (X.1.1 + 40)), some (.ref (X.1.1 + 7)), some (.ref (X.1.1 + 1)), some (.int (zI a3_)), some (.int (zI a4_)), some (.int (zI r49)), some (.int (zI 0))]) hX dX10_readPerson_66 rfl hL (by decide) rfl ?_
  have L_68_76 : ∀ (N : Nat) (x71 : Int), 0 ≤ x71 → x71 ≤ 9 → 0 ≤ x71 → x71 ≤ a3_ → yOt f bb a3_ x71 → ((10 - x71).toNat) < N → zF X s64 68 [some (.ref (X.1.1 + 40)), some (.ref (X.1.1 + 7)), none, some (.int (zI a3_)), none, some (.int (zI r49)), some (.int (zI x71))] [] := by
    intro N
    induction N with
    | zero =>
      intro x71 h72 h73 g74 g75 g76 hm78
      exact absurd hm78 (Nat.not_lt_zero _)
    | succ N ih79 =>
      intro x71 h72 h73 g74 g75 g76 hm78
      have q80 := 0
      · refine zt_iload (pc' := 70) hX dX10_readPerson_68 rfl rfl ?_
        refine zt_iload_n (pc' := 71) hX dX10_readPerson_70 rfl rfl ?_
        refine zt_icge (pc' := 74) (tgt := 103) hX dX10_readPerson_71 rfl (by decide) ⟨by omega, by omega⟩ ⟨by omega, by omega⟩ (fun c81 => ?_) (fun c81 => ?_)
        · refine zt_aload_n (pc' := 104) hX dX10_readPerson_103 rfl rfl ?_
          refine zt_aload_n (pc' := 105) hX dX10_readPerson_104 rfl rfl ?_
          refine zt_get (pc' := 108) (v := .ref (X.1.1 + 41)) hX dX10_readPerson_105 rfl zf_X10_9 (by decide) zc_40 zs_22 (zrf_of (zv_22_0 hI66 zc_40)) ?_
          refine zt_iload_n (pc' := 109) hX dX10_readPerson_108 rfl rfl ?_
          refine zt_iald (pc' := 110) hX dX10_readPerson_109 rfl (by decide) zc_41 zs_23 (by decide) ⟨by omega, by omega⟩ ?_
          generalize hv82 : s64 41 (a3_.toNat) = v82
          have bv82 : -1 ≤ v82 ∧ v82 ≤ 255 := hv82 ▸ zv_23 hI66 zc_41 _
          refine zt_aload_n (pc' := 111) hX dX10_readPerson_110 rfl rfl ?_
          refine zt_get (pc' := 114) (v := .ref (X.1.1 + 42)) hX dX10_readPerson_111 rfl zf_X10_15 (by decide) zc_40 zs_22 (zrf_of (zv_22_1 hI66 zc_40)) ?_
          refine zt_iload_n (pc' := 115) hX dX10_readPerson_114 rfl rfl ?_
          refine zt_iald (pc' := 116) hX dX10_readPerson_115 rfl (by decide) zc_42 zs_24 (by decide) ⟨by omega, by omega⟩ ?_
          generalize hv83 : s64 42 (a3_.toNat) = v83
          have bv83 : -1 ≤ v83 ∧ v83 ≤ 255 := hv83 ▸ zv_24 hI66 zc_42 _
          refine zt_cVz (pc' := 119) hX dX10_readPerson_116 rfl zm_yX3_hasCell zw_69_10 zc_7 (by decide) zs_8 (q := (RX3, TX3, 17)) rfl rfl (yd_X3_hasCell_7 _ _ s64 hI66 v82 ⟨by omega, by omega⟩ v83 ⟨by omega, by omega⟩) rfl rfl (Nat.le_of_ble_eq_true rfl) (by decide) (fun r84 s85 hr86 hp87 => ?_)
          obtain ⟨rfl, q88, q89, z90⟩ := hp87
          rcases ysph z90 with ⟨rfl, c91⟩ | ⟨rfl, c91⟩
          · clear z90
            refine zt_ifeq (pc' := 122) (tgt := 143) hX dX10_readPerson_119 rfl (by decide) ⟨by omega, by omega⟩ (fun c92 => ?_) (fun c92 => ?_)
            · exact absurd c92 (by omega)
            · refine zt_aload_n (pc' := 123) hX dX10_readPerson_122 rfl rfl ?_
              refine zt_get (pc' := 126) (v := .ref (X.1.1 + 43)) hX dX10_readPerson_123 rfl zf_X10_18 (by decide) zc_40 zs_22 (zrf_of (zv_22_2 hI66 zc_40)) ?_
              refine zt_iload_n (pc' := 127) hX dX10_readPerson_126 rfl rfl ?_
              refine zt_iald (pc' := 128) hX dX10_readPerson_127 rfl (by decide) zc_43 zs_25 (by decide) ⟨by omega, by omega⟩ ?_
              generalize hv93 : s64 43 (a3_.toNat) = v93
              have bv93 : -1 ≤ v93 ∧ v93 ≤ 255 := hv93 ▸ zv_25 hI66 zc_43 _
              refine zt_bipush (pc' := 130) hX dX10_readPerson_128 rfl (by decide) (by decide) ?_
              refine zt_icgt (pc' := 133) (tgt := 143) hX dX10_readPerson_130 rfl (by decide) ⟨by omega, by omega⟩ ⟨by omega, by omega⟩ (fun c94 => ?_) (fun c94 => ?_)
              · refine zt_iconst (pc' := 144) hX dX10_readPerson_143 rfl ?_
                exact zt_zret hX hR dX10_readPerson_144 ⟨by omega, by omega⟩ ⟨hI66, hF67, by omega, by omega, (Or.inr ⟨rfl, by first | exact yPe_t (show v93 = f (bb + 4 * a3_ + 2) by omega) (by omega) | exact yPe_u w56 (by omega)⟩)⟩
              · refine zt_iload (pc' := 135) hX dX10_readPerson_133 rfl rfl ?_
                refine zt_iconst (pc' := 136) hX dX10_readPerson_135 rfl ?_
                refine zt_icgt (pc' := 139) (tgt := 143) hX dX10_readPerson_136 rfl (by decide) ⟨by omega, by omega⟩ ⟨by omega, by omega⟩ (fun c95 => ?_) (fun c95 => ?_)
                · refine zt_iconst (pc' := 144) hX dX10_readPerson_143 rfl ?_
                  exact zt_zret hX hR dX10_readPerson_144 ⟨by omega, by omega⟩ ⟨hI66, hF67, by omega, by omega, (Or.inr ⟨rfl, by first | exact yPe_t (show v93 = f (bb + 4 * a3_ + 2) by omega) (by omega) | exact yPe_u w56 (by omega)⟩)⟩
                · refine zt_iconst (pc' := 140) hX dX10_readPerson_139 rfl ?_
                  refine zt_goto (tgt := 144) hX dX10_readPerson_140 (by decide) ?_
                  exact zt_zret hX hR dX10_readPerson_144 ⟨by omega, by omega⟩ ⟨hI66, hF67, by omega, by omega, (Or.inl ⟨rfl, yPe_y (hv82.symm.trans (yAh_a hAn (by omega) (by omega)).1) (hv83.symm.trans (yAh_a hAn (by omega) (by omega)).2) (show v93 = f (bb + 4 * a3_ + 2) by omega) w56 (by have q := c91; exact ⟨by omega, by omega, by omega, by omega⟩) ⟨by omega, by omega⟩ (yOt_le g76 (by omega)), hAn⟩)⟩
          · clear z90
            refine zt_ifeq (pc' := 122) (tgt := 143) hX dX10_readPerson_119 rfl (by decide) ⟨by omega, by omega⟩ (fun c96 => ?_) (fun c96 => ?_)
            · refine zt_iconst (pc' := 144) hX dX10_readPerson_143 rfl ?_
              exact zt_zret hX hR dX10_readPerson_144 ⟨by omega, by omega⟩ ⟨hI66, hF67, by omega, by omega, (Or.inr ⟨rfl, yPe_c (hv82.symm.trans (yAh_a hAn (by omega) (by omega)).1) (hv83.symm.trans (yAh_a hAn (by omega) (by omega)).2) (fun g => c91 ⟨by omega, by omega, by omega, by omega⟩)⟩)⟩
            · exact absurd c96 (by omega)
        · refine zt_aload_n (pc' := 75) hX dX10_readPerson_74 rfl rfl ?_
          refine zt_iload (pc' := 77) hX dX10_readPerson_75 rfl rfl ?_
          refine zt_aload_n (pc' := 78) hX dX10_readPerson_77 rfl rfl ?_
          refine zt_get (pc' := 81) (v := .ref (X.1.1 + 41)) hX dX10_readPerson_78 rfl zf_X10_9 (by decide) zc_40 zs_22 (zrf_of (zv_22_0 hI66 zc_40)) ?_
          refine zt_iload_n (pc' := 82) hX dX10_readPerson_81 rfl rfl ?_
          refine zt_iald (pc' := 83) hX dX10_readPerson_82 rfl (by decide) zc_41 zs_23 (by decide) ⟨by omega, by omega⟩ ?_
          generalize hv97 : s64 41 (a3_.toNat) = v97
          have bv97 : -1 ≤ v97 ∧ v97 ≤ 255 := hv97 ▸ zv_23 hI66 zc_41 _
          refine zt_aload_n (pc' := 84) hX dX10_readPerson_83 rfl rfl ?_
          refine zt_get (pc' := 87) (v := .ref (X.1.1 + 42)) hX dX10_readPerson_84 rfl zf_X10_15 (by decide) zc_40 zs_22 (zrf_of (zv_22_1 hI66 zc_40)) ?_
          refine zt_iload_n (pc' := 88) hX dX10_readPerson_87 rfl rfl ?_
          refine zt_iald (pc' := 89) hX dX10_readPerson_88 rfl (by decide) zc_42 zs_24 (by decide) ⟨by omega, by omega⟩ ?_
          generalize hv98 : s64 42 (a3_.toNat) = v98
          have bv98 : -1 ≤ v98 ∧ v98 ≤ 255 := hv98 ▸ zv_24 hI66 zc_42 _
          refine zt_cVi (pc' := 92) hX dX10_readPerson_89 rfl zm_yX10_between zw_69_9 zc_40 (by decide) zs_22 (q := (RX10, TX10, 8)) rfl rfl (yd_X10_between _ _ s64 hI66 x71 ⟨by omega, by omega⟩ v97 ⟨by omega, by omega⟩ v98 ⟨by omega, by omega⟩) rfl rfl (Nat.le_of_ble_eq_true rfl) (by decide) (fun r99 s100 hr101 hp102 => ?_)
          obtain ⟨rfl, q103, q104, z105⟩ := hp102
          refine zt_ifne (pc' := 95) (tgt := 97) hX dX10_readPerson_92 rfl (by decide) ⟨by omega, by omega⟩ (fun c106 => ?_) (fun c106 => ?_)
          · refine zt_iinc (pc' := 100) (lv' := [some (.ref (X.1.1 + 40)), some (.ref (X.1.1 + 7)), none, some (.int (zI a3_)), none, some (.int (zI r49)), some (.int (zI (x71 + 1)))]) hX dX10_readPerson_97 rfl rfl hL (by decide) rfl ?_
            refine zt_goto (tgt := 68) hX dX10_readPerson_100 (by decide) ?_
            exact ih79 (x71 + 1) (by omega) (by omega) (by omega) (by omega) (yOt_s g76 (yAh_a hAn (k := x71) (by omega) (by omega)).1 (yAh_a hAn (k := x71) (by omega) (by omega)).2 (hv97.symm.trans (yAh_a hAn (by omega) (by omega)).1) (hv98.symm.trans (yAh_a hAn (by omega) (by omega)).2) (yBz_1 z105 (by omega))) (by omega)
          · refine zt_iconst (pc' := 96) hX dX10_readPerson_95 rfl ?_
            exact zt_zret hX hR dX10_readPerson_96 ⟨by omega, by omega⟩ ⟨hI66, hF67, by omega, by omega, (Or.inr ⟨rfl, yPe_o (yOt_n (k := x71) (by omega) (by omega) (yAh_a hAn (by omega) (by omega)).1 (yAh_a hAn (by omega) (by omega)).2 (hv97.symm.trans (yAh_a hAn (by omega) (by omega)).1) (hv98.symm.trans (yAh_a hAn (by omega) (by omega)).2) (yBz_0 z105 (by omega)))⟩)⟩
  refine zt_mask [true, true, false, true, false, true, true] rfl ?_
  exact L_68_76 _ 0 (by omega) (by omega) (by omega) (by omega) yOt_0 (Nat.lt_succ_self _)
set_option maxRecDepth 100000 in
set_option maxHeartbeats 4000000 in
theorem yd_X10_readImage_7 (l : Launch) (E : zEN) (σ : zSto) (hI : zInv σ) (hc1 : 1 ≤ σ 7 10) : zCt l E yX10_readImage cX10_readImage 8 (some .boolean) 3 zNC zNC 0 0 σ [.ref (E.1 + 40), .ref (E.1 + 7), .ref (E.1 + 1)] (fun r σ' => zInv σ' ∧ zOn zSe σ σ' ∧ 0 ≤ r ∧ r ≤ 1 ∧ (yIr (yIx (yT σ) (σ 1 1) (σ 7 10) (σ 7 11) (σ 7 12)) r)) := by
  refine zCt_of2 [some (.ref (E.1 + 40)), some (.ref (E.1 + 7)), some (.ref (E.1 + 1)), none, none, none, none, none] (by decide +kernel) (Nat.le_of_ble_eq_true rfl) rfl ?_
  intro X hE_ hX hR hL hN
  subst hE_
  have hX : zok X cX10_readImage RX10 3 := hX
  have hF := zOn_rf zSe σ
  have b_a := zv_8_10 hI zc_7
  have b_b := zv_8_11 hI zc_7
  have b_m := ymul36 (a := σ 7 10) (b := σ 7 11) ⟨by omega, by omega⟩ ⟨by omega, by omega⟩
  have b_p := zv_8_12 hI zc_7
  have b_q := 0
  have b1 := zv_2_1 hI zc_1
  have b2 := zv_8_10 hI zc_7
  have b3 := zv_8_11 hI zc_7
  have b4 := zv_8_12 hI zc_7
  refine zt_iconst (pc' := 1) hX dX10_readImage_0 rfl ?_
  refine zt_aload_n (pc' := 2) hX dX10_readImage_1 rfl rfl ?_
  refine zt_cVi (pc' := 5) hX dX10_readImage_2 rfl zm_yX3_cells zw_69_1 zc_7 (by decide) zs_8 (q := (RX3, TX3, 17)) rfl rfl (yd_X3_cells_7 _ _ σ hI ) rfl rfl (Nat.le_of_ble_eq_true rfl) (by decide) (fun r5 s6 hr7 hp8 => ?_)
  obtain ⟨rfl, q9, q10, z11⟩ := hp8
  have hc12 : r5 = σ 7 10 * σ 7 11 := z11.trans (ymul_c (by omega) (by omega))
  clear z11
  refine zt_iadd (pc' := 6) hX dX10_readImage_5 rfl ?_
  refine zt_istore_n (pc' := 7) (lv' := [some (.ref (X.1.1 + 40)), some (.ref (X.1.1 + 7)), some (.ref (X.1.1 + 1)), some (.int (zI (2 + r5))), none, none, none, none]) hX dX10_readImage_6 rfl hL (by decide) rfl ?_
  refine zt_iload_n (pc' := 8) hX dX10_readImage_7 rfl rfl ?_
  refine zt_iconst (pc' := 9) hX dX10_readImage_8 rfl ?_
  refine zt_aload_n (pc' := 10) hX dX10_readImage_9 rfl rfl ?_
  have b13 := zv_8_12 hI zc_7
  refine zt_get (pc' := 13) (v := .int (zI (σ 7 12))) hX dX10_readImage_10 rfl zf_X10_38 (by decide) zc_7 zs_8 rfl ?_
  refine zt_imul (pc' := 14) hX dX10_readImage_13 rfl ?_
  refine zt_iadd (pc' := 15) hX dX10_readImage_14 rfl ?_
  refine zt_istore (pc' := 17) (lv' := [some (.ref (X.1.1 + 40)), some (.ref (X.1.1 + 7)), some (.ref (X.1.1 + 1)), some (.int (zI (2 + r5))), some (.int (zI ((2 + r5) + (4 * (σ 7 12))))), none, none, none]) hX dX10_readImage_15 rfl hL (by decide) rfl ?_
  refine zt_aload_n (pc' := 18) hX dX10_readImage_17 rfl rfl ?_
  have b14 := zv_2_1 hI zc_1
  refine zt_get (pc' := 21) (v := .int (zI (σ 1 1))) hX dX10_readImage_18 rfl zf_X10_83 (by decide) zc_1 zs_2 rfl ?_
  refine zt_iload (pc' := 23) hX dX10_readImage_21 rfl rfl ?_
  refine zt_iconst (pc' := 24) hX dX10_readImage_23 rfl ?_
  refine zt_iadd (pc' := 25) hX dX10_readImage_24 rfl ?_
  refine zt_icne (pc' := 28) (tgt := 43) hX dX10_readImage_25 rfl (by decide) ⟨by omega, by omega⟩ ⟨by omega, by omega⟩ (fun c15 => ?_) (fun c15 => ?_)
  · refine zt_iconst (pc' := 44) hX dX10_readImage_43 rfl ?_
    exact zt_zret hX hR dX10_readImage_44 ⟨by omega, by omega⟩ ⟨hI, hF, by omega, by omega, (yIr_n (yIx_l (by omega)) rfl)⟩
  · refine zt_aload_n (pc' := 29) hX dX10_readImage_28 rfl rfl ?_
    refine zt_iload (pc' := 31) hX dX10_readImage_29 rfl rfl ?_
    refine zt_cVi (pc' := 34) hX dX10_readImage_31 rfl zm_yX9_byteAt zw_69_2 zc_1 (by decide) zs_2 (q := (RX9, TX9, 2)) rfl rfl (yc_X9_byteAt _ _ σ hI ((2 + r5) + (4 * (σ 7 12))) ⟨by omega, by omega⟩) rfl rfl (Nat.le_of_ble_eq_true rfl) (by decide) (fun r16 s17 hr18 hp19 => ?_)
    obtain ⟨rfl, q20, q21, z22⟩ := hp19
    refine zt_aload_n (pc' := 35) hX dX10_readImage_34 rfl rfl ?_
    refine zt_iload (pc' := 37) hX dX10_readImage_35 rfl rfl ?_
    refine zt_cVi (pc' := 40) hX dX10_readImage_37 rfl zm_yX9_checkOf zw_69_3 zc_1 (by decide) zs_2 (q := (RX9, TX9, 2)) rfl rfl (yd_X9_checkOf _ _ σ hI ((2 + r5) + (4 * (σ 7 12))) ⟨by omega, by omega⟩) rfl rfl (Nat.le_of_ble_eq_true rfl) (by decide) (fun r23 s24 hr25 hp26 => ?_)
    obtain ⟨rfl, q27, q28, z29⟩ := hp26
    refine zt_iceq (pc' := 43) (tgt := 45) hX dX10_readImage_40 rfl (by decide) ⟨by omega, by omega⟩ ⟨by omega, by omega⟩ (fun c30 => ?_) (fun c30 => ?_)
    · refine zt_aload_n (pc' := 46) hX dX10_readImage_45 rfl rfl ?_
      refine zt_aload_n (pc' := 47) hX dX10_readImage_46 rfl rfl ?_
      refine zt_iconst (pc' := 48) hX dX10_readImage_47 rfl ?_
      refine zt_cVi (pc' := 51) hX dX10_readImage_48 rfl zm_yX9_pairAt zw_69_4 zc_1 (by decide) zs_2 (q := (RX9, TX9, 2)) rfl rfl (yd_X9_pairAt _ _ σ hI 0 ⟨by omega, by omega⟩ (by omega)) rfl rfl (Nat.le_of_ble_eq_true rfl) (by decide) (fun r31 s32 hr33 hp34 => ?_)
      obtain ⟨rfl, q35, q36, z37⟩ := hp34
      refine zt_put (pc' := 54) (x := r31) hX dX10_readImage_51 rfl zf_X10_28 (by decide) zc_40 zs_22 (fun q hq => by cases hq; rfl) rfl rfl rfl ?_
      generalize hs39 : zset σ 40 5 r31 = s38
      have hI40 : zInv s38 := hs39 ▸ zp_22_5 hI zc_40 ⟨by omega, by omega⟩
      have hF41 : zOn zSe σ s38 := hs39 ▸ zOn_set hF rfl
      have e42 : s38 1 1 = σ 1 1 := by rw [← hs39]; exact zset_k (zne_r zc_1 zc_40 (by decide))
      have e43 : s38 7 10 = σ 7 10 := by rw [← hs39]; exact zset_k (zne_r zc_7 zc_40 (by decide))
      have e44 : s38 7 11 = σ 7 11 := by rw [← hs39]; exact zset_k (zne_r zc_7 zc_40 (by decide))
      have e45 : s38 7 12 = σ 7 12 := by rw [← hs39]; exact zset_k (zne_r zc_7 zc_40 (by decide))
      refine zt_aload_n (pc' := 55) hX dX10_readImage_54 rfl rfl ?_
      refine zt_lconst (pc' := 56) (y := 0) hX dX10_readImage_55 rfl (by decide +kernel) ?_
      refine zt_put (pc' := 59) (x := 0) hX dX10_readImage_56 rfl zf_X10_31 (by decide) zc_40 zs_22 (fun q hq => by cases hq; rfl) rfl rfl rfl ?_
      generalize hs47 : zset s38 40 6 0 = s46
      have hI48 : zInv s46 := hs47 ▸ zp_22_6 hI40 zc_40 ⟨by omega, by omega⟩
      have hF49 : zOn zSe σ s46 := hs47 ▸ zOn_set hF41 rfl
      have e50 : s46 1 1 = s38 1 1 := by rw [← hs47]; exact zset_k (zne_r zc_1 zc_40 (by decide))
      have e51 : s46 7 10 = s38 7 10 := by rw [← hs47]; exact zset_k (zne_r zc_7 zc_40 (by decide))
      have e52 : s46 7 11 = s38 7 11 := by rw [← hs47]; exact zset_k (zne_r zc_7 zc_40 (by decide))
      have e53 : s46 7 12 = s38 7 12 := by rw [← hs47]; exact zset_k (zne_r zc_7 zc_40 (by decide))
      refine zt_aload_n (pc' := 60) hX dX10_readImage_59 rfl rfl ?_
      refine zt_iconst (pc' := 61) hX dX10_readImage_60 rfl ?_
      refine zt_put (pc' := 64) (x := 0) hX dX10_readImage_61 rfl zf_X10_35 (by decide) zc_40 zs_22 (fun q hq => by cases hq; rfl) rfl rfl rfl ?_
      generalize hs55 : zset s46 40 7 0 = s54
      have hI56 : zInv s54 := hs55 ▸ zp_22_7 hI48 zc_40 ⟨by omega, by omega⟩
      have hF57 : zOn zSe σ s54 := hs55 ▸ zOn_set hF49 rfl
      have e58 : s54 1 1 = s46 1 1 := by rw [← hs55]; exact zset_k (zne_r zc_1 zc_40 (by decide))
      have e59 : s54 7 10 = s46 7 10 := by rw [← hs55]; exact zset_k (zne_r zc_7 zc_40 (by decide))
      have e60 : s54 7 11 = s46 7 11 := by rw [← hs55]; exact zset_k (zne_r zc_7 zc_40 (by decide))
      have e61 : s54 7 12 = s46 7 12 := by rw [← hs55]; exact zset_k (zne_r zc_7 zc_40 (by decide))
      refine zt_aload_n (pc' := 65) hX dX10_readImage_64 rfl rfl ?_
      have b62 := zv_22_5 hI56 zc_40
      have e63 : s54 40 5 = s46 40 5 := by rw [← hs55]; exact zset_j (by decide)
      have e64 : s46 40 5 = s38 40 5 := by rw [← hs47]; exact zset_j (by decide)
      have e65 : s38 40 5 = r31 := by rw [← hs39]; exact zset_s
      refine zt_get (pc' := 68) (v := .int (zI (s54 40 5))) hX dX10_readImage_65 rfl zf_X10_28 (by decide) zc_40 zs_22 rfl ?_
      refine zt_sipush (pc' := 71) hX dX10_readImage_68 rfl (by decide) (by decide) ?_
      refine zt_icgt (pc' := 74) (tgt := 78) hX dX10_readImage_71 rfl (by decide) ⟨by omega, by omega⟩ ⟨by omega, by omega⟩ (fun c66 => ?_) (fun c66 => ?_)
      · refine zt_iconst (pc' := 79) hX dX10_readImage_78 rfl ?_
        refine zt_istore (pc' := 81) (lv' := [some (.ref (X.1.1 + 40)), some (.ref (X.1.1 + 7)), some (.ref (X.1.1 + 1)), some (.int (zI (2 + r5))), some (.int (zI ((2 + r5) + (4 * (σ 7 12))))), some (.int (zI 0)), none, none]) hX dX10_readImage_79 rfl hL (by decide) rfl ?_
        refine zt_iconst (pc' := 82) hX dX10_readImage_81 rfl ?_
        refine zt_istore (pc' := 84) (lv' := [some (.ref (X.1.1 + 40)), some (.ref (X.1.1 + 7)), some (.ref (X.1.1 + 1)), some (.int (zI (2 + r5))), some (.int (zI ((2 + r5) + (4 * (σ 7 12))))), some (.int (zI 0)), some (.int (zI 0)), none]) hX dX10_readImage_82 rfl hL (by decide) rfl ?_
        have L_84_82 : ∀ (N : Nat) (x67 : Int) (x70 : Int) (s73 : zSto), 0 ≤ x67 → x67 ≤ 1 → 0 ≤ x70 → x70 ≤ 36 → zInv s73 → zOn zSe σ s73 → 0 ≤ x70 → x70 ≤ (σ 7 10 * σ 7 11) → s73 7 10 = σ 7 10 → s73 7 11 = σ 7 11 → s73 7 12 = σ 7 12 → s73 1 1 = σ 1 1 → yJ1 (yT σ) (σ 1 1) (σ 7 10) (σ 7 11) (σ 7 12) x67 x70 → ((37 - x70).toNat) < N → zF X s73 84 [some (.ref (X.1.1 + 40)), some (.ref (X.1.1 + 7)), some (.ref (X.1.1 + 1)), some (.int (zI (2 + r5))), none, some (.int (zI x67)), some (.int (zI x70)), none] [] := by
          intro N
          induction N with
          | zero =>
            intro x67 x70 s73 h68 h69 h71 h72 hI74 hF75 g76 g77 g78 g79 g80 g81 g82 hm84
            exact absurd hm84 (Nat.not_lt_zero _)
          | succ N ih85 =>
            intro x67 x70 s73 h68 h69 h71 h72 hI74 hF75 g76 g77 g78 g79 g80 g81 g82 hm84
            have b86 := zv_2_1 hI74 zc_1
            have b87 := zv_8_10 hI74 zc_7
            have b88 := zv_8_11 hI74 zc_7
            have b89 := zv_8_12 hI74 zc_7
            rcases g82 with ⟨hv90, mh91, mc92⟩ | ⟨hv90, mx93⟩
            · refine zt_iload (pc' := 86) hX dX10_readImage_84 rfl rfl ?_
              refine zt_aload_n (pc' := 87) hX dX10_readImage_86 rfl rfl ?_
              refine zt_cVi (pc' := 90) hX dX10_readImage_87 rfl zm_yX3_cells zw_69_1 zc_7 (by decide) zs_8 (q := (RX3, TX3, 17)) rfl rfl (yd_X3_cells_7 _ _ s73 hI74 ) rfl rfl (Nat.le_of_ble_eq_true rfl) (by decide) (fun r94 s95 hr96 hp97 => ?_)
              obtain ⟨rfl, q98, q99, z100⟩ := hp97
              have hc101 : r94 = σ 7 10 * σ 7 11 := z100.trans (ymul_c (by omega) (by omega))
              clear z100
              refine zt_icge (pc' := 93) (tgt := 144) hX dX10_readImage_90 rfl (by decide) ⟨by omega, by omega⟩ ⟨by omega, by omega⟩ (fun c102 => ?_) (fun c102 => ?_)
              · refine zt_iconst (pc' := 145) hX dX10_readImage_144 rfl ?_
                refine zt_istore (pc' := 147) (lv' := [some (.ref (X.1.1 + 40)), some (.ref (X.1.1 + 7)), some (.ref (X.1.1 + 1)), some (.int (zI (2 + r5))), none, some (.int (zI x67)), some (.int (zI 0)), none]) hX dX10_readImage_145 rfl hL (by decide) rfl ?_
                have L_147_118 : ∀ (N : Nat) (x103 : Int) (x106 : Int) (s109 : zSto), 0 ≤ x103 → x103 ≤ 1 → 0 ≤ x106 → x106 ≤ 10 → zInv s109 → zOn zSe σ s109 → 0 ≤ x106 → x106 ≤ (σ 7 12) → s109 7 10 = σ 7 10 → s109 7 11 = σ 7 11 → s109 7 12 = σ 7 12 → s109 1 1 = σ 1 1 → yJ2 (yT σ) s109 (σ 1 1) (σ 7 10) (σ 7 11) (σ 7 12) x103 x106 → ((11 - x106).toNat) < N → zF X s109 147 [some (.ref (X.1.1 + 40)), some (.ref (X.1.1 + 7)), some (.ref (X.1.1 + 1)), some (.int (zI (2 + r5))), none, some (.int (zI x103)), some (.int (zI x106)), none] [] := by
                  intro N
                  induction N with
                  | zero =>
                    intro x103 x106 s109 h104 h105 h107 h108 hI110 hF111 g112 g113 g114 g115 g116 g117 g118 hm120
                    exact absurd hm120 (Nat.not_lt_zero _)
                  | succ N ih121 =>
                    intro x103 x106 s109 h104 h105 h107 h108 hI110 hF111 g112 g113 g114 g115 g116 g117 g118 hm120
                    have b122 := zv_2_1 hI110 zc_1
                    have b123 := zv_8_10 hI110 zc_7
                    have b124 := zv_8_11 hI110 zc_7
                    have b125 := zv_8_12 hI110 zc_7
                    rcases g118 with ⟨hv126, mh127, mc128, mp129, ma130⟩ | ⟨hv126, mx131⟩
                    · refine zt_iload (pc' := 149) hX dX10_readImage_147 rfl rfl ?_
                      refine zt_aload_n (pc' := 150) hX dX10_readImage_149 rfl rfl ?_
                      have b132 := zv_8_12 hI110 zc_7
                      refine zt_get (pc' := 153) (v := .int (zI (s109 7 12))) hX dX10_readImage_150 rfl zf_X10_38 (by decide) zc_7 zs_8 rfl ?_
                      refine zt_icge (pc' := 156) (tgt := 191) hX dX10_readImage_153 rfl (by decide) ⟨by omega, by omega⟩ ⟨by omega, by omega⟩ (fun c133 => ?_) (fun c133 => ?_)
                      · refine zt_iload (pc' := 193) hX dX10_readImage_191 rfl rfl ?_
                        exact zt_zret hX hR dX10_readImage_193 ⟨by omega, by omega⟩ ⟨hI110, hF111, by omega, by omega, (yIr_y ⟨mh127, mc128, (by rw [show (σ 7 12) = x106 by omega]; exact mp129)⟩ hv126)⟩
                      · refine zt_iload (pc' := 158) hX dX10_readImage_156 rfl rfl ?_
                        refine zt_ifeq (pc' := 161) (tgt := 182) hX dX10_readImage_158 rfl (by decide) ⟨by omega, by omega⟩ (fun c134 => ?_) (fun c134 => ?_)
                        · exact absurd c134 (by omega)
                        · refine zt_aload_n (pc' := 162) hX dX10_readImage_161 rfl rfl ?_
                          refine zt_aload_n (pc' := 163) hX dX10_readImage_162 rfl rfl ?_
                          refine zt_aload_n (pc' := 164) hX dX10_readImage_163 rfl rfl ?_
                          refine zt_iload (pc' := 166) hX dX10_readImage_164 rfl rfl ?_
                          refine zt_iload_n (pc' := 167) hX dX10_readImage_166 rfl rfl ?_
                          refine zt_iconst (pc' := 168) hX dX10_readImage_167 rfl ?_
                          refine zt_iload (pc' := 170) hX dX10_readImage_168 rfl rfl ?_
                          refine zt_imul (pc' := 171) hX dX10_readImage_170 rfl ?_
                          refine zt_iadd (pc' := 172) hX dX10_readImage_171 rfl ?_
                          refine zt_cVz (pc' := 175) hX dX10_readImage_172 rfl zm_yX10_readPerson zw_69_5 zc_40 (by decide) zs_22 (q := (RX10, TX10, 8)) rfl rfl (yd_X10_readPerson_7 _ _ s109 hI110 x106 ⟨by omega, by omega⟩ ((2 + r5) + (4 * x106)) ⟨by omega, by omega⟩ (yT σ) (yT_eq (hF111 1 1 rfl) (fun j => hF111 2 j rfl)) (2 + σ 7 10 * σ 7 11) (by omega) (σ 7 10) (σ 7 11) ⟨by omega, by omega⟩ ma130) rfl rfl (Nat.le_of_ble_eq_true rfl) (by decide) (fun r135 s136 hr137 hp138 => ?_)
                          obtain ⟨hI139, hF140, q141, q142, z143⟩ := hp138
                          have hF144 := zOn_tr hF111 hF140 zi_id
                          have b145 := zv_2_1 hI139 zc_1
                          have b146 := zv_8_10 hI139 zc_7
                          have b147 := zv_8_11 hI139 zc_7
                          have b148 := zv_8_12 hI139 zc_7
                          have e149 := hF140 1 1 rfl
                          have e150 := hF140 7 10 rfl
                          have e151 := hF140 7 11 rfl
                          have e152 := hF140 7 12 rfl
                          rcases id z143 with ⟨rfl, c153⟩ | ⟨rfl, c153⟩
                          · clear z143
                            refine zt_ifeq (pc' := 178) (tgt := 182) hX dX10_readImage_175 rfl (by decide) ⟨by omega, by omega⟩ (fun c154 => ?_) (fun c154 => ?_)
                            · exact absurd c154 (by omega)
                            · refine zt_iconst (pc' := 179) hX dX10_readImage_178 rfl ?_
                              refine zt_goto (tgt := 183) hX dX10_readImage_179 (by decide) ?_
                              refine zt_istore (pc' := 185) (lv' := [some (.ref (X.1.1 + 40)), some (.ref (X.1.1 + 7)), some (.ref (X.1.1 + 1)), some (.int (zI (2 + r5))), none, some (.int (zI 1)), some (.int (zI x106)), none]) hX dX10_readImage_183 rfl hL (by decide) rfl ?_
                              refine zt_iinc (pc' := 188) (lv' := [some (.ref (X.1.1 + 40)), some (.ref (X.1.1 + 7)), some (.ref (X.1.1 + 1)), some (.int (zI (2 + r5))), none, some (.int (zI 1)), some (.int (zI (x106 + 1))), none]) hX dX10_readImage_185 rfl rfl hL (by decide) rfl ?_
                              refine zt_goto (tgt := 147) hX dX10_readImage_188 (by decide) ?_
                              exact ih121 1 (x106 + 1) s136 (by omega) (by omega) (by omega) (by omega) hI139 hF144 (by omega) (by omega) (by omega) (by omega) (by omega) (by omega) (Or.inl ⟨rfl, mh127, mc128, yPs__s mp129 c153.1, c153.2⟩) (by omega)
                          · clear z143
                            refine zt_ifeq (pc' := 178) (tgt := 182) hX dX10_readImage_175 rfl (by decide) ⟨by omega, by omega⟩ (fun c155 => ?_) (fun c155 => ?_)
                            · refine zt_iconst (pc' := 183) hX dX10_readImage_182 rfl ?_
                              refine zt_istore (pc' := 185) (lv' := [some (.ref (X.1.1 + 40)), some (.ref (X.1.1 + 7)), some (.ref (X.1.1 + 1)), some (.int (zI (2 + r5))), none, some (.int (zI 0)), some (.int (zI x106)), none]) hX dX10_readImage_183 rfl hL (by decide) rfl ?_
                              refine zt_iinc (pc' := 188) (lv' := [some (.ref (X.1.1 + 40)), some (.ref (X.1.1 + 7)), some (.ref (X.1.1 + 1)), some (.int (zI (2 + r5))), none, some (.int (zI 0)), some (.int (zI (x106 + 1))), none]) hX dX10_readImage_185 rfl rfl hL (by decide) rfl ?_
                              refine zt_goto (tgt := 147) hX dX10_readImage_188 (by decide) ?_
                              exact ih121 0 (x106 + 1) s136 (by omega) (by omega) (by omega) (by omega) hI139 hF144 (by omega) (by omega) (by omega) (by omega) (by omega) (by omega) (Or.inr ⟨rfl, fun g => yPs__n (k := x106) (by omega) (by omega) c153 g.2.2⟩) (by omega)
                            · exact absurd c155 (by omega)
                    · refine zt_iload (pc' := 149) hX dX10_readImage_147 rfl rfl ?_
                      refine zt_aload_n (pc' := 150) hX dX10_readImage_149 rfl rfl ?_
                      have b156 := zv_8_12 hI110 zc_7
                      refine zt_get (pc' := 153) (v := .int (zI (s109 7 12))) hX dX10_readImage_150 rfl zf_X10_38 (by decide) zc_7 zs_8 rfl ?_
                      refine zt_icge (pc' := 156) (tgt := 191) hX dX10_readImage_153 rfl (by decide) ⟨by omega, by omega⟩ ⟨by omega, by omega⟩ (fun c157 => ?_) (fun c157 => ?_)
                      · refine zt_iload (pc' := 193) hX dX10_readImage_191 rfl rfl ?_
                        exact zt_zret hX hR dX10_readImage_193 ⟨by omega, by omega⟩ ⟨hI110, hF111, by omega, by omega, (yIr_n mx131 hv126)⟩
                      · refine zt_iload (pc' := 158) hX dX10_readImage_156 rfl rfl ?_
                        refine zt_ifeq (pc' := 161) (tgt := 182) hX dX10_readImage_158 rfl (by decide) ⟨by omega, by omega⟩ (fun c158 => ?_) (fun c158 => ?_)
                        · refine zt_iconst (pc' := 183) hX dX10_readImage_182 rfl ?_
                          refine zt_istore (pc' := 185) (lv' := [some (.ref (X.1.1 + 40)), some (.ref (X.1.1 + 7)), some (.ref (X.1.1 + 1)), some (.int (zI (2 + r5))), none, some (.int (zI 0)), some (.int (zI x106)), none]) hX dX10_readImage_183 rfl hL (by decide) rfl ?_
                          refine zt_iinc (pc' := 188) (lv' := [some (.ref (X.1.1 + 40)), some (.ref (X.1.1 + 7)), some (.ref (X.1.1 + 1)), some (.int (zI (2 + r5))), none, some (.int (zI 0)), some (.int (zI (x106 + 1))), none]) hX dX10_readImage_185 rfl rfl hL (by decide) rfl ?_
                          refine zt_goto (tgt := 147) hX dX10_readImage_188 (by decide) ?_
                          exact ih121 0 (x106 + 1) s109 (by omega) (by omega) (by omega) (by omega) hI110 hF111 (by omega) (by omega) (by omega) (by omega) (by omega) (by omega) (Or.inr ⟨rfl, mx131⟩) (by omega)
                        · exact absurd c158 (by omega)
                exact L_147_118 _ x67 0 s73 (by omega) (by omega) (by omega) (by omega) hI74 hF75 (by omega) (by omega) (by omega) (by omega) (by omega) (by omega) (Or.inl ⟨hv90, mh91, (by rw [show (σ 7 10 * σ 7 11) = x70 by omega]; exact mc92), yPs__0, yAh_0⟩) (Nat.lt_succ_self _)
              · refine zt_aload_n (pc' := 94) hX dX10_readImage_93 rfl rfl ?_
                refine zt_iconst (pc' := 95) hX dX10_readImage_94 rfl ?_
                refine zt_iload (pc' := 97) hX dX10_readImage_95 rfl rfl ?_
                refine zt_iadd (pc' := 98) hX dX10_readImage_97 rfl ?_
                refine zt_cVi (pc' := 101) hX dX10_readImage_98 rfl zm_yX9_byteAt zw_69_2 zc_1 (by decide) zs_2 (q := (RX9, TX9, 2)) rfl rfl (yc_X9_byteAt _ _ s73 hI74 (2 + x70) ⟨by omega, by omega⟩) rfl rfl (Nat.le_of_ble_eq_true rfl) (by decide) (fun r159 s160 hr161 hp162 => ?_)
                obtain ⟨rfl, q163, q164, z165⟩ := hp162
                have w166 := z165.trans (congrFun (yT_eq (hF75 1 1 rfl) (fun j => hF75 2 j rfl)) _)
                clear z165
                refine zt_istore (pc' := 103) (lv' := [some (.ref (X.1.1 + 40)), some (.ref (X.1.1 + 7)), some (.ref (X.1.1 + 1)), some (.int (zI (2 + r5))), none, some (.int (zI x67)), some (.int (zI x70)), some (.int (zI r159))]) hX dX10_readImage_101 rfl hL (by decide) rfl ?_
                refine zt_iload (pc' := 105) hX dX10_readImage_103 rfl rfl ?_
                refine zt_ifeq (pc' := 108) (tgt := 118) hX dX10_readImage_105 rfl (by decide) ⟨by omega, by omega⟩ (fun c167 => ?_) (fun c167 => ?_)
                · exact absurd c167 (by omega)
                · refine zt_iload (pc' := 110) hX dX10_readImage_108 rfl rfl ?_
                  refine zt_iconst (pc' := 111) hX dX10_readImage_110 rfl ?_
                  refine zt_icgt (pc' := 114) (tgt := 118) hX dX10_readImage_111 rfl (by decide) ⟨by omega, by omega⟩ ⟨by omega, by omega⟩ (fun c168 => ?_) (fun c168 => ?_)
                  · refine zt_iconst (pc' := 119) hX dX10_readImage_118 rfl ?_
                    refine zt_istore (pc' := 121) (lv' := [some (.ref (X.1.1 + 40)), some (.ref (X.1.1 + 7)), some (.ref (X.1.1 + 1)), some (.int (zI (2 + r5))), none, some (.int (zI 0)), some (.int (zI x70)), some (.int (zI r159))]) hX dX10_readImage_119 rfl hL (by decide) rfl ?_
                    refine zt_aload_n (pc' := 122) hX dX10_readImage_121 rfl rfl ?_
                    refine zt_dup (pc' := 123) hX dX10_readImage_122 rfl rfl ?_
                    have b169 := zv_22_6 hI74 zc_40
                    refine zt_get (pc' := 126) (v := .long (zJ (s73 40 6))) hX dX10_readImage_123 rfl zf_X10_31 (by decide) zc_40 zs_22 rfl ?_
                    refine zt_iload (pc' := 128) hX dX10_readImage_126 rfl rfl ?_
                    refine zt_iconst (pc' := 129) hX dX10_readImage_128 rfl ?_
                    refine zt_iandm (pc' := 130) hX dX10_readImage_129 rfl 1 (by decide +kernel) (by decide) (fun r170 er170 lr170 ur170 => ?_)
                    have ur170 : r170 ≤ 1 := by omega
                    refine zt_i2l (pc' := 131) hX dX10_readImage_130 rfl ⟨by omega, by omega⟩ ?_
                    refine zt_iload (pc' := 133) hX dX10_readImage_131 rfl rfl ?_
                    refine zt_lshl (pc' := 134) hX dX10_readImage_133 rfl (fun r171 zr171 lr171 ur171 => ?_)
                    clear zr171
                    refine zt_lor (pc' := 135) hX dX10_readImage_134 rfl (fun r172 zr172 lr172 ur172 => ?_)
                    clear zr172
                    refine zt_put (pc' := 138) (x := r172) hX dX10_readImage_135 rfl zf_X10_31 (by decide) zc_40 zs_22 (fun q hq => by cases hq; rfl) rfl rfl rfl ?_
                    generalize hs174 : zset s73 40 6 r172 = s173
                    have hI175 : zInv s173 := hs174 ▸ zp_22_6 hI74 zc_40 ⟨by omega, by omega⟩
                    have hF176 : zOn zSe σ s173 := hs174 ▸ zOn_set hF75 rfl
                    have e177 : s173 1 1 = s73 1 1 := by rw [← hs174]; exact zset_k (zne_r zc_1 zc_40 (by decide))
                    have e178 : s173 7 10 = s73 7 10 := by rw [← hs174]; exact zset_k (zne_r zc_7 zc_40 (by decide))
                    have e179 : s173 7 11 = s73 7 11 := by rw [← hs174]; exact zset_k (zne_r zc_7 zc_40 (by decide))
                    have e180 : s173 7 12 = s73 7 12 := by rw [← hs174]; exact zset_k (zne_r zc_7 zc_40 (by decide))
                    refine zt_iinc (pc' := 141) (lv' := [some (.ref (X.1.1 + 40)), some (.ref (X.1.1 + 7)), some (.ref (X.1.1 + 1)), some (.int (zI (2 + r5))), none, some (.int (zI 0)), some (.int (zI (x70 + 1))), some (.int (zI r159))]) hX dX10_readImage_138 rfl rfl hL (by decide) rfl ?_
                    refine zt_goto (tgt := 84) hX dX10_readImage_141 (by decide) ?_
                    refine zt_mask [true, true, true, true, false, true, true, false] rfl ?_
                    exact ih85 0 (x70 + 1) s173 (by omega) (by omega) (by omega) (by omega) hI175 hF176 (by omega) (by omega) (by omega) (by omega) (by omega) (by omega) (Or.inr ⟨rfl, fun g => yCe_n (k := x70) (by omega) (by omega) w166 rfl (by omega) g.2.1⟩) (by omega)
                  · refine zt_iconst (pc' := 115) hX dX10_readImage_114 rfl ?_
                    refine zt_goto (tgt := 119) hX dX10_readImage_115 (by decide) ?_
                    refine zt_istore (pc' := 121) (lv' := [some (.ref (X.1.1 + 40)), some (.ref (X.1.1 + 7)), some (.ref (X.1.1 + 1)), some (.int (zI (2 + r5))), none, some (.int (zI 1)), some (.int (zI x70)), some (.int (zI r159))]) hX dX10_readImage_119 rfl hL (by decide) rfl ?_
                    refine zt_aload_n (pc' := 122) hX dX10_readImage_121 rfl rfl ?_
                    refine zt_dup (pc' := 123) hX dX10_readImage_122 rfl rfl ?_
                    have b181 := zv_22_6 hI74 zc_40
                    refine zt_get (pc' := 126) (v := .long (zJ (s73 40 6))) hX dX10_readImage_123 rfl zf_X10_31 (by decide) zc_40 zs_22 rfl ?_
                    refine zt_iload (pc' := 128) hX dX10_readImage_126 rfl rfl ?_
                    refine zt_iconst (pc' := 129) hX dX10_readImage_128 rfl ?_
                    refine zt_iandm (pc' := 130) hX dX10_readImage_129 rfl 1 (by decide +kernel) (by decide) (fun r182 er182 lr182 ur182 => ?_)
                    have ur182 : r182 ≤ 1 := by omega
                    refine zt_i2l (pc' := 131) hX dX10_readImage_130 rfl ⟨by omega, by omega⟩ ?_
                    refine zt_iload (pc' := 133) hX dX10_readImage_131 rfl rfl ?_
                    refine zt_lshl (pc' := 134) hX dX10_readImage_133 rfl (fun r183 zr183 lr183 ur183 => ?_)
                    clear zr183
                    refine zt_lor (pc' := 135) hX dX10_readImage_134 rfl (fun r184 zr184 lr184 ur184 => ?_)
                    clear zr184
                    refine zt_put (pc' := 138) (x := r184) hX dX10_readImage_135 rfl zf_X10_31 (by decide) zc_40 zs_22 (fun q hq => by cases hq; rfl) rfl rfl rfl ?_
                    generalize hs186 : zset s73 40 6 r184 = s185
                    have hI187 : zInv s185 := hs186 ▸ zp_22_6 hI74 zc_40 ⟨by omega, by omega⟩
                    have hF188 : zOn zSe σ s185 := hs186 ▸ zOn_set hF75 rfl
                    have e189 : s185 1 1 = s73 1 1 := by rw [← hs186]; exact zset_k (zne_r zc_1 zc_40 (by decide))
                    have e190 : s185 7 10 = s73 7 10 := by rw [← hs186]; exact zset_k (zne_r zc_7 zc_40 (by decide))
                    have e191 : s185 7 11 = s73 7 11 := by rw [← hs186]; exact zset_k (zne_r zc_7 zc_40 (by decide))
                    have e192 : s185 7 12 = s73 7 12 := by rw [← hs186]; exact zset_k (zne_r zc_7 zc_40 (by decide))
                    refine zt_iinc (pc' := 141) (lv' := [some (.ref (X.1.1 + 40)), some (.ref (X.1.1 + 7)), some (.ref (X.1.1 + 1)), some (.int (zI (2 + r5))), none, some (.int (zI 1)), some (.int (zI (x70 + 1))), some (.int (zI r159))]) hX dX10_readImage_138 rfl rfl hL (by decide) rfl ?_
                    refine zt_goto (tgt := 84) hX dX10_readImage_141 (by decide) ?_
                    refine zt_mask [true, true, true, true, false, true, true, false] rfl ?_
                    exact ih85 1 (x70 + 1) s185 (by omega) (by omega) (by omega) (by omega) hI187 hF188 (by omega) (by omega) (by omega) (by omega) (by omega) (by omega) (Or.inl ⟨rfl, mh91, yCe_s mc92 w166 rfl (by omega)⟩) (by omega)
            · refine zt_iload (pc' := 86) hX dX10_readImage_84 rfl rfl ?_
              refine zt_aload_n (pc' := 87) hX dX10_readImage_86 rfl rfl ?_
              refine zt_cVi (pc' := 90) hX dX10_readImage_87 rfl zm_yX3_cells zw_69_1 zc_7 (by decide) zs_8 (q := (RX3, TX3, 17)) rfl rfl (yd_X3_cells_7 _ _ s73 hI74 ) rfl rfl (Nat.le_of_ble_eq_true rfl) (by decide) (fun r193 s194 hr195 hp196 => ?_)
              obtain ⟨rfl, q197, q198, z199⟩ := hp196
              have hc200 : r193 = σ 7 10 * σ 7 11 := z199.trans (ymul_c (by omega) (by omega))
              clear z199
              refine zt_icge (pc' := 93) (tgt := 144) hX dX10_readImage_90 rfl (by decide) ⟨by omega, by omega⟩ ⟨by omega, by omega⟩ (fun c201 => ?_) (fun c201 => ?_)
              · refine zt_iconst (pc' := 145) hX dX10_readImage_144 rfl ?_
                refine zt_istore (pc' := 147) (lv' := [some (.ref (X.1.1 + 40)), some (.ref (X.1.1 + 7)), some (.ref (X.1.1 + 1)), some (.int (zI (2 + r5))), none, some (.int (zI x67)), some (.int (zI 0)), none]) hX dX10_readImage_145 rfl hL (by decide) rfl ?_
                have L_147_217 : ∀ (N : Nat) (x202 : Int) (x205 : Int) (s208 : zSto), 0 ≤ x202 → x202 ≤ 1 → 0 ≤ x205 → x205 ≤ 10 → zInv s208 → zOn zSe σ s208 → 0 ≤ x205 → x205 ≤ (σ 7 12) → s208 7 10 = σ 7 10 → s208 7 11 = σ 7 11 → s208 7 12 = σ 7 12 → s208 1 1 = σ 1 1 → yJ2 (yT σ) s208 (σ 1 1) (σ 7 10) (σ 7 11) (σ 7 12) x202 x205 → ((11 - x205).toNat) < N → zF X s208 147 [some (.ref (X.1.1 + 40)), some (.ref (X.1.1 + 7)), some (.ref (X.1.1 + 1)), some (.int (zI (2 + r5))), none, some (.int (zI x202)), some (.int (zI x205)), none] [] := by
                  intro N
                  induction N with
                  | zero =>
                    intro x202 x205 s208 h203 h204 h206 h207 hI209 hF210 g211 g212 g213 g214 g215 g216 g217 hm219
                    exact absurd hm219 (Nat.not_lt_zero _)
                  | succ N ih220 =>
                    intro x202 x205 s208 h203 h204 h206 h207 hI209 hF210 g211 g212 g213 g214 g215 g216 g217 hm219
                    have b221 := zv_2_1 hI209 zc_1
                    have b222 := zv_8_10 hI209 zc_7
                    have b223 := zv_8_11 hI209 zc_7
                    have b224 := zv_8_12 hI209 zc_7
                    rcases g217 with ⟨hv225, mh226, mc227, mp228, ma229⟩ | ⟨hv225, mx230⟩
                    · refine zt_iload (pc' := 149) hX dX10_readImage_147 rfl rfl ?_
                      refine zt_aload_n (pc' := 150) hX dX10_readImage_149 rfl rfl ?_
                      have b231 := zv_8_12 hI209 zc_7
                      refine zt_get (pc' := 153) (v := .int (zI (s208 7 12))) hX dX10_readImage_150 rfl zf_X10_38 (by decide) zc_7 zs_8 rfl ?_
                      refine zt_icge (pc' := 156) (tgt := 191) hX dX10_readImage_153 rfl (by decide) ⟨by omega, by omega⟩ ⟨by omega, by omega⟩ (fun c232 => ?_) (fun c232 => ?_)
                      · refine zt_iload (pc' := 193) hX dX10_readImage_191 rfl rfl ?_
                        exact zt_zret hX hR dX10_readImage_193 ⟨by omega, by omega⟩ ⟨hI209, hF210, by omega, by omega, (yIr_y ⟨mh226, mc227, (by rw [show (σ 7 12) = x205 by omega]; exact mp228)⟩ hv225)⟩
                      · refine zt_iload (pc' := 158) hX dX10_readImage_156 rfl rfl ?_
                        refine zt_ifeq (pc' := 161) (tgt := 182) hX dX10_readImage_158 rfl (by decide) ⟨by omega, by omega⟩ (fun c233 => ?_) (fun c233 => ?_)
                        · exact absurd c233 (by omega)
                        · refine zt_aload_n (pc' := 162) hX dX10_readImage_161 rfl rfl ?_
                          refine zt_aload_n (pc' := 163) hX dX10_readImage_162 rfl rfl ?_
                          refine zt_aload_n (pc' := 164) hX dX10_readImage_163 rfl rfl ?_
                          refine zt_iload (pc' := 166) hX dX10_readImage_164 rfl rfl ?_
                          refine zt_iload_n (pc' := 167) hX dX10_readImage_166 rfl rfl ?_
                          refine zt_iconst (pc' := 168) hX dX10_readImage_167 rfl ?_
                          refine zt_iload (pc' := 170) hX dX10_readImage_168 rfl rfl ?_
                          refine zt_imul (pc' := 171) hX dX10_readImage_170 rfl ?_
                          refine zt_iadd (pc' := 172) hX dX10_readImage_171 rfl ?_
                          refine zt_cVz (pc' := 175) hX dX10_readImage_172 rfl zm_yX10_readPerson zw_69_5 zc_40 (by decide) zs_22 (q := (RX10, TX10, 8)) rfl rfl (yd_X10_readPerson_7 _ _ s208 hI209 x205 ⟨by omega, by omega⟩ ((2 + r5) + (4 * x205)) ⟨by omega, by omega⟩ (yT σ) (yT_eq (hF210 1 1 rfl) (fun j => hF210 2 j rfl)) (2 + σ 7 10 * σ 7 11) (by omega) (σ 7 10) (σ 7 11) ⟨by omega, by omega⟩ ma229) rfl rfl (Nat.le_of_ble_eq_true rfl) (by decide) (fun r234 s235 hr236 hp237 => ?_)
                          obtain ⟨hI238, hF239, q240, q241, z242⟩ := hp237
                          have hF243 := zOn_tr hF210 hF239 zi_id
                          have b244 := zv_2_1 hI238 zc_1
                          have b245 := zv_8_10 hI238 zc_7
                          have b246 := zv_8_11 hI238 zc_7
                          have b247 := zv_8_12 hI238 zc_7
                          have e248 := hF239 1 1 rfl
                          have e249 := hF239 7 10 rfl
                          have e250 := hF239 7 11 rfl
                          have e251 := hF239 7 12 rfl
                          rcases id z242 with ⟨rfl, c252⟩ | ⟨rfl, c252⟩
                          · clear z242
                            refine zt_ifeq (pc' := 178) (tgt := 182) hX dX10_readImage_175 rfl (by decide) ⟨by omega, by omega⟩ (fun c253 => ?_) (fun c253 => ?_)
                            · exact absurd c253 (by omega)
                            · refine zt_iconst (pc' := 179) hX dX10_readImage_178 rfl ?_
                              refine zt_goto (tgt := 183) hX dX10_readImage_179 (by decide) ?_
                              refine zt_istore (pc' := 185) (lv' := [some (.ref (X.1.1 + 40)), some (.ref (X.1.1 + 7)), some (.ref (X.1.1 + 1)), some (.int (zI (2 + r5))), none, some (.int (zI 1)), some (.int (zI x205)), none]) hX dX10_readImage_183 rfl hL (by decide) rfl ?_
                              refine zt_iinc (pc' := 188) (lv' := [some (.ref (X.1.1 + 40)), some (.ref (X.1.1 + 7)), some (.ref (X.1.1 + 1)), some (.int (zI (2 + r5))), none, some (.int (zI 1)), some (.int (zI (x205 + 1))), none]) hX dX10_readImage_185 rfl rfl hL (by decide) rfl ?_
                              refine zt_goto (tgt := 147) hX dX10_readImage_188 (by decide) ?_
                              exact ih220 1 (x205 + 1) s235 (by omega) (by omega) (by omega) (by omega) hI238 hF243 (by omega) (by omega) (by omega) (by omega) (by omega) (by omega) (Or.inl ⟨rfl, mh226, mc227, yPs__s mp228 c252.1, c252.2⟩) (by omega)
                          · clear z242
                            refine zt_ifeq (pc' := 178) (tgt := 182) hX dX10_readImage_175 rfl (by decide) ⟨by omega, by omega⟩ (fun c254 => ?_) (fun c254 => ?_)
                            · refine zt_iconst (pc' := 183) hX dX10_readImage_182 rfl ?_
                              refine zt_istore (pc' := 185) (lv' := [some (.ref (X.1.1 + 40)), some (.ref (X.1.1 + 7)), some (.ref (X.1.1 + 1)), some (.int (zI (2 + r5))), none, some (.int (zI 0)), some (.int (zI x205)), none]) hX dX10_readImage_183 rfl hL (by decide) rfl ?_
                              refine zt_iinc (pc' := 188) (lv' := [some (.ref (X.1.1 + 40)), some (.ref (X.1.1 + 7)), some (.ref (X.1.1 + 1)), some (.int (zI (2 + r5))), none, some (.int (zI 0)), some (.int (zI (x205 + 1))), none]) hX dX10_readImage_185 rfl rfl hL (by decide) rfl ?_
                              refine zt_goto (tgt := 147) hX dX10_readImage_188 (by decide) ?_
                              exact ih220 0 (x205 + 1) s235 (by omega) (by omega) (by omega) (by omega) hI238 hF243 (by omega) (by omega) (by omega) (by omega) (by omega) (by omega) (Or.inr ⟨rfl, fun g => yPs__n (k := x205) (by omega) (by omega) c252 g.2.2⟩) (by omega)
                            · exact absurd c254 (by omega)
                    · refine zt_iload (pc' := 149) hX dX10_readImage_147 rfl rfl ?_
                      refine zt_aload_n (pc' := 150) hX dX10_readImage_149 rfl rfl ?_
                      have b255 := zv_8_12 hI209 zc_7
                      refine zt_get (pc' := 153) (v := .int (zI (s208 7 12))) hX dX10_readImage_150 rfl zf_X10_38 (by decide) zc_7 zs_8 rfl ?_
                      refine zt_icge (pc' := 156) (tgt := 191) hX dX10_readImage_153 rfl (by decide) ⟨by omega, by omega⟩ ⟨by omega, by omega⟩ (fun c256 => ?_) (fun c256 => ?_)
                      · refine zt_iload (pc' := 193) hX dX10_readImage_191 rfl rfl ?_
                        exact zt_zret hX hR dX10_readImage_193 ⟨by omega, by omega⟩ ⟨hI209, hF210, by omega, by omega, (yIr_n mx230 hv225)⟩
                      · refine zt_iload (pc' := 158) hX dX10_readImage_156 rfl rfl ?_
                        refine zt_ifeq (pc' := 161) (tgt := 182) hX dX10_readImage_158 rfl (by decide) ⟨by omega, by omega⟩ (fun c257 => ?_) (fun c257 => ?_)
                        · refine zt_iconst (pc' := 183) hX dX10_readImage_182 rfl ?_
                          refine zt_istore (pc' := 185) (lv' := [some (.ref (X.1.1 + 40)), some (.ref (X.1.1 + 7)), some (.ref (X.1.1 + 1)), some (.int (zI (2 + r5))), none, some (.int (zI 0)), some (.int (zI x205)), none]) hX dX10_readImage_183 rfl hL (by decide) rfl ?_
                          refine zt_iinc (pc' := 188) (lv' := [some (.ref (X.1.1 + 40)), some (.ref (X.1.1 + 7)), some (.ref (X.1.1 + 1)), some (.int (zI (2 + r5))), none, some (.int (zI 0)), some (.int (zI (x205 + 1))), none]) hX dX10_readImage_185 rfl rfl hL (by decide) rfl ?_
                          refine zt_goto (tgt := 147) hX dX10_readImage_188 (by decide) ?_
                          exact ih220 0 (x205 + 1) s208 (by omega) (by omega) (by omega) (by omega) hI209 hF210 (by omega) (by omega) (by omega) (by omega) (by omega) (by omega) (Or.inr ⟨rfl, mx230⟩) (by omega)
                        · exact absurd c257 (by omega)
                exact L_147_217 _ x67 0 s73 (by omega) (by omega) (by omega) (by omega) hI74 hF75 (by omega) (by omega) (by omega) (by omega) (by omega) (by omega) (Or.inr ⟨hv90, mx93⟩) (Nat.lt_succ_self _)
              · refine zt_aload_n (pc' := 94) hX dX10_readImage_93 rfl rfl ?_
                refine zt_iconst (pc' := 95) hX dX10_readImage_94 rfl ?_
                refine zt_iload (pc' := 97) hX dX10_readImage_95 rfl rfl ?_
                refine zt_iadd (pc' := 98) hX dX10_readImage_97 rfl ?_
                refine zt_cVi (pc' := 101) hX dX10_readImage_98 rfl zm_yX9_byteAt zw_69_2 zc_1 (by decide) zs_2 (q := (RX9, TX9, 2)) rfl rfl (yc_X9_byteAt _ _ s73 hI74 (2 + x70) ⟨by omega, by omega⟩) rfl rfl (Nat.le_of_ble_eq_true rfl) (by decide) (fun r258 s259 hr260 hp261 => ?_)
                obtain ⟨rfl, q262, q263, z264⟩ := hp261
                have w265 := z264.trans (congrFun (yT_eq (hF75 1 1 rfl) (fun j => hF75 2 j rfl)) _)
                clear z264
                refine zt_istore (pc' := 103) (lv' := [some (.ref (X.1.1 + 40)), some (.ref (X.1.1 + 7)), some (.ref (X.1.1 + 1)), some (.int (zI (2 + r5))), none, some (.int (zI x67)), some (.int (zI x70)), some (.int (zI r258))]) hX dX10_readImage_101 rfl hL (by decide) rfl ?_
                refine zt_iload (pc' := 105) hX dX10_readImage_103 rfl rfl ?_
                refine zt_ifeq (pc' := 108) (tgt := 118) hX dX10_readImage_105 rfl (by decide) ⟨by omega, by omega⟩ (fun c266 => ?_) (fun c266 => ?_)
                · refine zt_iconst (pc' := 119) hX dX10_readImage_118 rfl ?_
                  refine zt_istore (pc' := 121) (lv' := [some (.ref (X.1.1 + 40)), some (.ref (X.1.1 + 7)), some (.ref (X.1.1 + 1)), some (.int (zI (2 + r5))), none, some (.int (zI 0)), some (.int (zI x70)), some (.int (zI r258))]) hX dX10_readImage_119 rfl hL (by decide) rfl ?_
                  refine zt_aload_n (pc' := 122) hX dX10_readImage_121 rfl rfl ?_
                  refine zt_dup (pc' := 123) hX dX10_readImage_122 rfl rfl ?_
                  have b267 := zv_22_6 hI74 zc_40
                  refine zt_get (pc' := 126) (v := .long (zJ (s73 40 6))) hX dX10_readImage_123 rfl zf_X10_31 (by decide) zc_40 zs_22 rfl ?_
                  refine zt_iload (pc' := 128) hX dX10_readImage_126 rfl rfl ?_
                  refine zt_iconst (pc' := 129) hX dX10_readImage_128 rfl ?_
                  refine zt_iandm (pc' := 130) hX dX10_readImage_129 rfl 1 (by decide +kernel) (by decide) (fun r268 er268 lr268 ur268 => ?_)
                  have ur268 : r268 ≤ 1 := by omega
                  refine zt_i2l (pc' := 131) hX dX10_readImage_130 rfl ⟨by omega, by omega⟩ ?_
                  refine zt_iload (pc' := 133) hX dX10_readImage_131 rfl rfl ?_
                  refine zt_lshl (pc' := 134) hX dX10_readImage_133 rfl (fun r269 zr269 lr269 ur269 => ?_)
                  clear zr269
                  refine zt_lor (pc' := 135) hX dX10_readImage_134 rfl (fun r270 zr270 lr270 ur270 => ?_)
                  clear zr270
                  refine zt_put (pc' := 138) (x := r270) hX dX10_readImage_135 rfl zf_X10_31 (by decide) zc_40 zs_22 (fun q hq => by cases hq; rfl) rfl rfl rfl ?_
                  generalize hs272 : zset s73 40 6 r270 = s271
                  have hI273 : zInv s271 := hs272 ▸ zp_22_6 hI74 zc_40 ⟨by omega, by omega⟩
                  have hF274 : zOn zSe σ s271 := hs272 ▸ zOn_set hF75 rfl
                  have e275 : s271 1 1 = s73 1 1 := by rw [← hs272]; exact zset_k (zne_r zc_1 zc_40 (by decide))
                  have e276 : s271 7 10 = s73 7 10 := by rw [← hs272]; exact zset_k (zne_r zc_7 zc_40 (by decide))
                  have e277 : s271 7 11 = s73 7 11 := by rw [← hs272]; exact zset_k (zne_r zc_7 zc_40 (by decide))
                  have e278 : s271 7 12 = s73 7 12 := by rw [← hs272]; exact zset_k (zne_r zc_7 zc_40 (by decide))
                  refine zt_iinc (pc' := 141) (lv' := [some (.ref (X.1.1 + 40)), some (.ref (X.1.1 + 7)), some (.ref (X.1.1 + 1)), some (.int (zI (2 + r5))), none, some (.int (zI 0)), some (.int (zI (x70 + 1))), some (.int (zI r258))]) hX dX10_readImage_138 rfl rfl hL (by decide) rfl ?_
                  refine zt_goto (tgt := 84) hX dX10_readImage_141 (by decide) ?_
                  refine zt_mask [true, true, true, true, false, true, true, false] rfl ?_
                  exact ih85 0 (x70 + 1) s271 (by omega) (by omega) (by omega) (by omega) hI273 hF274 (by omega) (by omega) (by omega) (by omega) (by omega) (by omega) (Or.inr ⟨rfl, mx93⟩) (by omega)
                · exact absurd c266 (by omega)
        refine zt_mask [true, true, true, true, false, true, true, false] rfl ?_
        exact L_84_82 _ 0 0 s54 (by omega) (by omega) (by omega) (by omega) hI56 hF57 (by omega) (by omega) (by omega) (by omega) (by omega) (by omega) (Or.inr ⟨rfl, yIx_h z37 (by omega)⟩) (Nat.lt_succ_self _)
      · refine zt_iconst (pc' := 75) hX dX10_readImage_74 rfl ?_
        refine zt_goto (tgt := 79) hX dX10_readImage_75 (by decide) ?_
        refine zt_istore (pc' := 81) (lv' := [some (.ref (X.1.1 + 40)), some (.ref (X.1.1 + 7)), some (.ref (X.1.1 + 1)), some (.int (zI (2 + r5))), some (.int (zI ((2 + r5) + (4 * (σ 7 12))))), some (.int (zI 1)), none, none]) hX dX10_readImage_79 rfl hL (by decide) rfl ?_
        refine zt_iconst (pc' := 82) hX dX10_readImage_81 rfl ?_
        refine zt_istore (pc' := 84) (lv' := [some (.ref (X.1.1 + 40)), some (.ref (X.1.1 + 7)), some (.ref (X.1.1 + 1)), some (.int (zI (2 + r5))), some (.int (zI ((2 + r5) + (4 * (σ 7 12))))), some (.int (zI 1)), some (.int (zI 0)), none]) hX dX10_readImage_82 rfl hL (by decide) rfl ?_
        have L_84_294 : ∀ (N : Nat) (x279 : Int) (x282 : Int) (s285 : zSto), 0 ≤ x279 → x279 ≤ 1 → 0 ≤ x282 → x282 ≤ 36 → zInv s285 → zOn zSe σ s285 → 0 ≤ x282 → x282 ≤ (σ 7 10 * σ 7 11) → s285 7 10 = σ 7 10 → s285 7 11 = σ 7 11 → s285 7 12 = σ 7 12 → s285 1 1 = σ 1 1 → yJ1 (yT σ) (σ 1 1) (σ 7 10) (σ 7 11) (σ 7 12) x279 x282 → ((37 - x282).toNat) < N → zF X s285 84 [some (.ref (X.1.1 + 40)), some (.ref (X.1.1 + 7)), some (.ref (X.1.1 + 1)), some (.int (zI (2 + r5))), none, some (.int (zI x279)), some (.int (zI x282)), none] [] := by
          intro N
          induction N with
          | zero =>
            intro x279 x282 s285 h280 h281 h283 h284 hI286 hF287 g288 g289 g290 g291 g292 g293 g294 hm296
            exact absurd hm296 (Nat.not_lt_zero _)
          | succ N ih297 =>
            intro x279 x282 s285 h280 h281 h283 h284 hI286 hF287 g288 g289 g290 g291 g292 g293 g294 hm296
            have b298 := zv_2_1 hI286 zc_1
            have b299 := zv_8_10 hI286 zc_7
            have b300 := zv_8_11 hI286 zc_7
            have b301 := zv_8_12 hI286 zc_7
            rcases g294 with ⟨hv302, mh303, mc304⟩ | ⟨hv302, mx305⟩
            · refine zt_iload (pc' := 86) hX dX10_readImage_84 rfl rfl ?_
              refine zt_aload_n (pc' := 87) hX dX10_readImage_86 rfl rfl ?_
              refine zt_cVi (pc' := 90) hX dX10_readImage_87 rfl zm_yX3_cells zw_69_1 zc_7 (by decide) zs_8 (q := (RX3, TX3, 17)) rfl rfl (yd_X3_cells_7 _ _ s285 hI286 ) rfl rfl (Nat.le_of_ble_eq_true rfl) (by decide) (fun r306 s307 hr308 hp309 => ?_)
              obtain ⟨rfl, q310, q311, z312⟩ := hp309
              have hc313 : r306 = σ 7 10 * σ 7 11 := z312.trans (ymul_c (by omega) (by omega))
              clear z312
              refine zt_icge (pc' := 93) (tgt := 144) hX dX10_readImage_90 rfl (by decide) ⟨by omega, by omega⟩ ⟨by omega, by omega⟩ (fun c314 => ?_) (fun c314 => ?_)
              · refine zt_iconst (pc' := 145) hX dX10_readImage_144 rfl ?_
                refine zt_istore (pc' := 147) (lv' := [some (.ref (X.1.1 + 40)), some (.ref (X.1.1 + 7)), some (.ref (X.1.1 + 1)), some (.int (zI (2 + r5))), none, some (.int (zI x279)), some (.int (zI 0)), none]) hX dX10_readImage_145 rfl hL (by decide) rfl ?_
                have L_147_330 : ∀ (N : Nat) (x315 : Int) (x318 : Int) (s321 : zSto), 0 ≤ x315 → x315 ≤ 1 → 0 ≤ x318 → x318 ≤ 10 → zInv s321 → zOn zSe σ s321 → 0 ≤ x318 → x318 ≤ (σ 7 12) → s321 7 10 = σ 7 10 → s321 7 11 = σ 7 11 → s321 7 12 = σ 7 12 → s321 1 1 = σ 1 1 → yJ2 (yT σ) s321 (σ 1 1) (σ 7 10) (σ 7 11) (σ 7 12) x315 x318 → ((11 - x318).toNat) < N → zF X s321 147 [some (.ref (X.1.1 + 40)), some (.ref (X.1.1 + 7)), some (.ref (X.1.1 + 1)), some (.int (zI (2 + r5))), none, some (.int (zI x315)), some (.int (zI x318)), none] [] := by
                  intro N
                  induction N with
                  | zero =>
                    intro x315 x318 s321 h316 h317 h319 h320 hI322 hF323 g324 g325 g326 g327 g328 g329 g330 hm332
                    exact absurd hm332 (Nat.not_lt_zero _)
                  | succ N ih333 =>
                    intro x315 x318 s321 h316 h317 h319 h320 hI322 hF323 g324 g325 g326 g327 g328 g329 g330 hm332
                    have b334 := zv_2_1 hI322 zc_1
                    have b335 := zv_8_10 hI322 zc_7
                    have b336 := zv_8_11 hI322 zc_7
                    have b337 := zv_8_12 hI322 zc_7
                    rcases g330 with ⟨hv338, mh339, mc340, mp341, ma342⟩ | ⟨hv338, mx343⟩
                    · refine zt_iload (pc' := 149) hX dX10_readImage_147 rfl rfl ?_
                      refine zt_aload_n (pc' := 150) hX dX10_readImage_149 rfl rfl ?_
                      have b344 := zv_8_12 hI322 zc_7
                      refine zt_get (pc' := 153) (v := .int (zI (s321 7 12))) hX dX10_readImage_150 rfl zf_X10_38 (by decide) zc_7 zs_8 rfl ?_
                      refine zt_icge (pc' := 156) (tgt := 191) hX dX10_readImage_153 rfl (by decide) ⟨by omega, by omega⟩ ⟨by omega, by omega⟩ (fun c345 => ?_) (fun c345 => ?_)
                      · refine zt_iload (pc' := 193) hX dX10_readImage_191 rfl rfl ?_
                        exact zt_zret hX hR dX10_readImage_193 ⟨by omega, by omega⟩ ⟨hI322, hF323, by omega, by omega, (yIr_y ⟨mh339, mc340, (by rw [show (σ 7 12) = x318 by omega]; exact mp341)⟩ hv338)⟩
                      · refine zt_iload (pc' := 158) hX dX10_readImage_156 rfl rfl ?_
                        refine zt_ifeq (pc' := 161) (tgt := 182) hX dX10_readImage_158 rfl (by decide) ⟨by omega, by omega⟩ (fun c346 => ?_) (fun c346 => ?_)
                        · exact absurd c346 (by omega)
                        · refine zt_aload_n (pc' := 162) hX dX10_readImage_161 rfl rfl ?_
                          refine zt_aload_n (pc' := 163) hX dX10_readImage_162 rfl rfl ?_
                          refine zt_aload_n (pc' := 164) hX dX10_readImage_163 rfl rfl ?_
                          refine zt_iload (pc' := 166) hX dX10_readImage_164 rfl rfl ?_
                          refine zt_iload_n (pc' := 167) hX dX10_readImage_166 rfl rfl ?_
                          refine zt_iconst (pc' := 168) hX dX10_readImage_167 rfl ?_
                          refine zt_iload (pc' := 170) hX dX10_readImage_168 rfl rfl ?_
                          refine zt_imul (pc' := 171) hX dX10_readImage_170 rfl ?_
                          refine zt_iadd (pc' := 172) hX dX10_readImage_171 rfl ?_
                          refine zt_cVz (pc' := 175) hX dX10_readImage_172 rfl zm_yX10_readPerson zw_69_5 zc_40 (by decide) zs_22 (q := (RX10, TX10, 8)) rfl rfl (yd_X10_readPerson_7 _ _ s321 hI322 x318 ⟨by omega, by omega⟩ ((2 + r5) + (4 * x318)) ⟨by omega, by omega⟩ (yT σ) (yT_eq (hF323 1 1 rfl) (fun j => hF323 2 j rfl)) (2 + σ 7 10 * σ 7 11) (by omega) (σ 7 10) (σ 7 11) ⟨by omega, by omega⟩ ma342) rfl rfl (Nat.le_of_ble_eq_true rfl) (by decide) (fun r347 s348 hr349 hp350 => ?_)
                          obtain ⟨hI351, hF352, q353, q354, z355⟩ := hp350
                          have hF356 := zOn_tr hF323 hF352 zi_id
                          have b357 := zv_2_1 hI351 zc_1
                          have b358 := zv_8_10 hI351 zc_7
                          have b359 := zv_8_11 hI351 zc_7
                          have b360 := zv_8_12 hI351 zc_7
                          have e361 := hF352 1 1 rfl
                          have e362 := hF352 7 10 rfl
                          have e363 := hF352 7 11 rfl
                          have e364 := hF352 7 12 rfl
                          rcases id z355 with ⟨rfl, c365⟩ | ⟨rfl, c365⟩
                          · clear z355
                            refine zt_ifeq (pc' := 178) (tgt := 182) hX dX10_readImage_175 rfl (by decide) ⟨by omega, by omega⟩ (fun c366 => ?_) (fun c366 => ?_)
                            · exact absurd c366 (by omega)
                            · refine zt_iconst (pc' := 179) hX dX10_readImage_178 rfl ?_
                              refine zt_goto (tgt := 183) hX dX10_readImage_179 (by decide) ?_
                              refine zt_istore (pc' := 185) (lv' := [some (.ref (X.1.1 + 40)), some (.ref (X.1.1 + 7)), some (.ref (X.1.1 + 1)), some (.int (zI (2 + r5))), none, some (.int (zI 1)), some (.int (zI x318)), none]) hX dX10_readImage_183 rfl hL (by decide) rfl ?_
                              refine zt_iinc (pc' := 188) (lv' := [some (.ref (X.1.1 + 40)), some (.ref (X.1.1 + 7)), some (.ref (X.1.1 + 1)), some (.int (zI (2 + r5))), none, some (.int (zI 1)), some (.int (zI (x318 + 1))), none]) hX dX10_readImage_185 rfl rfl hL (by decide) rfl ?_
                              refine zt_goto (tgt := 147) hX dX10_readImage_188 (by decide) ?_
                              exact ih333 1 (x318 + 1) s348 (by omega) (by omega) (by omega) (by omega) hI351 hF356 (by omega) (by omega) (by omega) (by omega) (by omega) (by omega) (Or.inl ⟨rfl, mh339, mc340, yPs__s mp341 c365.1, c365.2⟩) (by omega)
                          · clear z355
                            refine zt_ifeq (pc' := 178) (tgt := 182) hX dX10_readImage_175 rfl (by decide) ⟨by omega, by omega⟩ (fun c367 => ?_) (fun c367 => ?_)
                            · refine zt_iconst (pc' := 183) hX dX10_readImage_182 rfl ?_
                              refine zt_istore (pc' := 185) (lv' := [some (.ref (X.1.1 + 40)), some (.ref (X.1.1 + 7)), some (.ref (X.1.1 + 1)), some (.int (zI (2 + r5))), none, some (.int (zI 0)), some (.int (zI x318)), none]) hX dX10_readImage_183 rfl hL (by decide) rfl ?_
                              refine zt_iinc (pc' := 188) (lv' := [some (.ref (X.1.1 + 40)), some (.ref (X.1.1 + 7)), some (.ref (X.1.1 + 1)), some (.int (zI (2 + r5))), none, some (.int (zI 0)), some (.int (zI (x318 + 1))), none]) hX dX10_readImage_185 rfl rfl hL (by decide) rfl ?_
                              refine zt_goto (tgt := 147) hX dX10_readImage_188 (by decide) ?_
                              exact ih333 0 (x318 + 1) s348 (by omega) (by omega) (by omega) (by omega) hI351 hF356 (by omega) (by omega) (by omega) (by omega) (by omega) (by omega) (Or.inr ⟨rfl, fun g => yPs__n (k := x318) (by omega) (by omega) c365 g.2.2⟩) (by omega)
                            · exact absurd c367 (by omega)
                    · refine zt_iload (pc' := 149) hX dX10_readImage_147 rfl rfl ?_
                      refine zt_aload_n (pc' := 150) hX dX10_readImage_149 rfl rfl ?_
                      have b368 := zv_8_12 hI322 zc_7
                      refine zt_get (pc' := 153) (v := .int (zI (s321 7 12))) hX dX10_readImage_150 rfl zf_X10_38 (by decide) zc_7 zs_8 rfl ?_
                      refine zt_icge (pc' := 156) (tgt := 191) hX dX10_readImage_153 rfl (by decide) ⟨by omega, by omega⟩ ⟨by omega, by omega⟩ (fun c369 => ?_) (fun c369 => ?_)
                      · refine zt_iload (pc' := 193) hX dX10_readImage_191 rfl rfl ?_
                        exact zt_zret hX hR dX10_readImage_193 ⟨by omega, by omega⟩ ⟨hI322, hF323, by omega, by omega, (yIr_n mx343 hv338)⟩
                      · refine zt_iload (pc' := 158) hX dX10_readImage_156 rfl rfl ?_
                        refine zt_ifeq (pc' := 161) (tgt := 182) hX dX10_readImage_158 rfl (by decide) ⟨by omega, by omega⟩ (fun c370 => ?_) (fun c370 => ?_)
                        · refine zt_iconst (pc' := 183) hX dX10_readImage_182 rfl ?_
                          refine zt_istore (pc' := 185) (lv' := [some (.ref (X.1.1 + 40)), some (.ref (X.1.1 + 7)), some (.ref (X.1.1 + 1)), some (.int (zI (2 + r5))), none, some (.int (zI 0)), some (.int (zI x318)), none]) hX dX10_readImage_183 rfl hL (by decide) rfl ?_
                          refine zt_iinc (pc' := 188) (lv' := [some (.ref (X.1.1 + 40)), some (.ref (X.1.1 + 7)), some (.ref (X.1.1 + 1)), some (.int (zI (2 + r5))), none, some (.int (zI 0)), some (.int (zI (x318 + 1))), none]) hX dX10_readImage_185 rfl rfl hL (by decide) rfl ?_
                          refine zt_goto (tgt := 147) hX dX10_readImage_188 (by decide) ?_
                          exact ih333 0 (x318 + 1) s321 (by omega) (by omega) (by omega) (by omega) hI322 hF323 (by omega) (by omega) (by omega) (by omega) (by omega) (by omega) (Or.inr ⟨rfl, mx343⟩) (by omega)
                        · exact absurd c370 (by omega)
                exact L_147_330 _ x279 0 s285 (by omega) (by omega) (by omega) (by omega) hI286 hF287 (by omega) (by omega) (by omega) (by omega) (by omega) (by omega) (Or.inl ⟨hv302, mh303, (by rw [show (σ 7 10 * σ 7 11) = x282 by omega]; exact mc304), yPs__0, yAh_0⟩) (Nat.lt_succ_self _)
              · refine zt_aload_n (pc' := 94) hX dX10_readImage_93 rfl rfl ?_
                refine zt_iconst (pc' := 95) hX dX10_readImage_94 rfl ?_
                refine zt_iload (pc' := 97) hX dX10_readImage_95 rfl rfl ?_
                refine zt_iadd (pc' := 98) hX dX10_readImage_97 rfl ?_
                refine zt_cVi (pc' := 101) hX dX10_readImage_98 rfl zm_yX9_byteAt zw_69_2 zc_1 (by decide) zs_2 (q := (RX9, TX9, 2)) rfl rfl (yc_X9_byteAt _ _ s285 hI286 (2 + x282) ⟨by omega, by omega⟩) rfl rfl (Nat.le_of_ble_eq_true rfl) (by decide) (fun r371 s372 hr373 hp374 => ?_)
                obtain ⟨rfl, q375, q376, z377⟩ := hp374
                have w378 := z377.trans (congrFun (yT_eq (hF287 1 1 rfl) (fun j => hF287 2 j rfl)) _)
                clear z377
                refine zt_istore (pc' := 103) (lv' := [some (.ref (X.1.1 + 40)), some (.ref (X.1.1 + 7)), some (.ref (X.1.1 + 1)), some (.int (zI (2 + r5))), none, some (.int (zI x279)), some (.int (zI x282)), some (.int (zI r371))]) hX dX10_readImage_101 rfl hL (by decide) rfl ?_
                refine zt_iload (pc' := 105) hX dX10_readImage_103 rfl rfl ?_
                refine zt_ifeq (pc' := 108) (tgt := 118) hX dX10_readImage_105 rfl (by decide) ⟨by omega, by omega⟩ (fun c379 => ?_) (fun c379 => ?_)
                · exact absurd c379 (by omega)
                · refine zt_iload (pc' := 110) hX dX10_readImage_108 rfl rfl ?_
                  refine zt_iconst (pc' := 111) hX dX10_readImage_110 rfl ?_
                  refine zt_icgt (pc' := 114) (tgt := 118) hX dX10_readImage_111 rfl (by decide) ⟨by omega, by omega⟩ ⟨by omega, by omega⟩ (fun c380 => ?_) (fun c380 => ?_)
                  · refine zt_iconst (pc' := 119) hX dX10_readImage_118 rfl ?_
                    refine zt_istore (pc' := 121) (lv' := [some (.ref (X.1.1 + 40)), some (.ref (X.1.1 + 7)), some (.ref (X.1.1 + 1)), some (.int (zI (2 + r5))), none, some (.int (zI 0)), some (.int (zI x282)), some (.int (zI r371))]) hX dX10_readImage_119 rfl hL (by decide) rfl ?_
                    refine zt_aload_n (pc' := 122) hX dX10_readImage_121 rfl rfl ?_
                    refine zt_dup (pc' := 123) hX dX10_readImage_122 rfl rfl ?_
                    have b381 := zv_22_6 hI286 zc_40
                    refine zt_get (pc' := 126) (v := .long (zJ (s285 40 6))) hX dX10_readImage_123 rfl zf_X10_31 (by decide) zc_40 zs_22 rfl ?_
                    refine zt_iload (pc' := 128) hX dX10_readImage_126 rfl rfl ?_
                    refine zt_iconst (pc' := 129) hX dX10_readImage_128 rfl ?_
                    refine zt_iandm (pc' := 130) hX dX10_readImage_129 rfl 1 (by decide +kernel) (by decide) (fun r382 er382 lr382 ur382 => ?_)
                    have ur382 : r382 ≤ 1 := by omega
                    refine zt_i2l (pc' := 131) hX dX10_readImage_130 rfl ⟨by omega, by omega⟩ ?_
                    refine zt_iload (pc' := 133) hX dX10_readImage_131 rfl rfl ?_
                    refine zt_lshl (pc' := 134) hX dX10_readImage_133 rfl (fun r383 zr383 lr383 ur383 => ?_)
                    clear zr383
                    refine zt_lor (pc' := 135) hX dX10_readImage_134 rfl (fun r384 zr384 lr384 ur384 => ?_)
                    clear zr384
                    refine zt_put (pc' := 138) (x := r384) hX dX10_readImage_135 rfl zf_X10_31 (by decide) zc_40 zs_22 (fun q hq => by cases hq; rfl) rfl rfl rfl ?_
                    generalize hs386 : zset s285 40 6 r384 = s385
                    have hI387 : zInv s385 := hs386 ▸ zp_22_6 hI286 zc_40 ⟨by omega, by omega⟩
                    have hF388 : zOn zSe σ s385 := hs386 ▸ zOn_set hF287 rfl
                    have e389 : s385 1 1 = s285 1 1 := by rw [← hs386]; exact zset_k (zne_r zc_1 zc_40 (by decide))
                    have e390 : s385 7 10 = s285 7 10 := by rw [← hs386]; exact zset_k (zne_r zc_7 zc_40 (by decide))
                    have e391 : s385 7 11 = s285 7 11 := by rw [← hs386]; exact zset_k (zne_r zc_7 zc_40 (by decide))
                    have e392 : s385 7 12 = s285 7 12 := by rw [← hs386]; exact zset_k (zne_r zc_7 zc_40 (by decide))
                    refine zt_iinc (pc' := 141) (lv' := [some (.ref (X.1.1 + 40)), some (.ref (X.1.1 + 7)), some (.ref (X.1.1 + 1)), some (.int (zI (2 + r5))), none, some (.int (zI 0)), some (.int (zI (x282 + 1))), some (.int (zI r371))]) hX dX10_readImage_138 rfl rfl hL (by decide) rfl ?_
                    refine zt_goto (tgt := 84) hX dX10_readImage_141 (by decide) ?_
                    refine zt_mask [true, true, true, true, false, true, true, false] rfl ?_
                    exact ih297 0 (x282 + 1) s385 (by omega) (by omega) (by omega) (by omega) hI387 hF388 (by omega) (by omega) (by omega) (by omega) (by omega) (by omega) (Or.inr ⟨rfl, fun g => yCe_n (k := x282) (by omega) (by omega) w378 rfl (by omega) g.2.1⟩) (by omega)
                  · refine zt_iconst (pc' := 115) hX dX10_readImage_114 rfl ?_
                    refine zt_goto (tgt := 119) hX dX10_readImage_115 (by decide) ?_
                    refine zt_istore (pc' := 121) (lv' := [some (.ref (X.1.1 + 40)), some (.ref (X.1.1 + 7)), some (.ref (X.1.1 + 1)), some (.int (zI (2 + r5))), none, some (.int (zI 1)), some (.int (zI x282)), some (.int (zI r371))]) hX dX10_readImage_119 rfl hL (by decide) rfl ?_
                    refine zt_aload_n (pc' := 122) hX dX10_readImage_121 rfl rfl ?_
                    refine zt_dup (pc' := 123) hX dX10_readImage_122 rfl rfl ?_
                    have b393 := zv_22_6 hI286 zc_40
                    refine zt_get (pc' := 126) (v := .long (zJ (s285 40 6))) hX dX10_readImage_123 rfl zf_X10_31 (by decide) zc_40 zs_22 rfl ?_
                    refine zt_iload (pc' := 128) hX dX10_readImage_126 rfl rfl ?_
                    refine zt_iconst (pc' := 129) hX dX10_readImage_128 rfl ?_
                    refine zt_iandm (pc' := 130) hX dX10_readImage_129 rfl 1 (by decide +kernel) (by decide) (fun r394 er394 lr394 ur394 => ?_)
                    have ur394 : r394 ≤ 1 := by omega
                    refine zt_i2l (pc' := 131) hX dX10_readImage_130 rfl ⟨by omega, by omega⟩ ?_
                    refine zt_iload (pc' := 133) hX dX10_readImage_131 rfl rfl ?_
                    refine zt_lshl (pc' := 134) hX dX10_readImage_133 rfl (fun r395 zr395 lr395 ur395 => ?_)
                    clear zr395
                    refine zt_lor (pc' := 135) hX dX10_readImage_134 rfl (fun r396 zr396 lr396 ur396 => ?_)
                    clear zr396
                    refine zt_put (pc' := 138) (x := r396) hX dX10_readImage_135 rfl zf_X10_31 (by decide) zc_40 zs_22 (fun q hq => by cases hq; rfl) rfl rfl rfl ?_
                    generalize hs398 : zset s285 40 6 r396 = s397
                    have hI399 : zInv s397 := hs398 ▸ zp_22_6 hI286 zc_40 ⟨by omega, by omega⟩
                    have hF400 : zOn zSe σ s397 := hs398 ▸ zOn_set hF287 rfl
                    have e401 : s397 1 1 = s285 1 1 := by rw [← hs398]; exact zset_k (zne_r zc_1 zc_40 (by decide))
                    have e402 : s397 7 10 = s285 7 10 := by rw [← hs398]; exact zset_k (zne_r zc_7 zc_40 (by decide))
                    have e403 : s397 7 11 = s285 7 11 := by rw [← hs398]; exact zset_k (zne_r zc_7 zc_40 (by decide))
                    have e404 : s397 7 12 = s285 7 12 := by rw [← hs398]; exact zset_k (zne_r zc_7 zc_40 (by decide))
                    refine zt_iinc (pc' := 141) (lv' := [some (.ref (X.1.1 + 40)), some (.ref (X.1.1 + 7)), some (.ref (X.1.1 + 1)), some (.int (zI (2 + r5))), none, some (.int (zI 1)), some (.int (zI (x282 + 1))), some (.int (zI r371))]) hX dX10_readImage_138 rfl rfl hL (by decide) rfl ?_
                    refine zt_goto (tgt := 84) hX dX10_readImage_141 (by decide) ?_
                    refine zt_mask [true, true, true, true, false, true, true, false] rfl ?_
                    exact ih297 1 (x282 + 1) s397 (by omega) (by omega) (by omega) (by omega) hI399 hF400 (by omega) (by omega) (by omega) (by omega) (by omega) (by omega) (Or.inl ⟨rfl, mh303, yCe_s mc304 w378 rfl (by omega)⟩) (by omega)
            · refine zt_iload (pc' := 86) hX dX10_readImage_84 rfl rfl ?_
              refine zt_aload_n (pc' := 87) hX dX10_readImage_86 rfl rfl ?_
              refine zt_cVi (pc' := 90) hX dX10_readImage_87 rfl zm_yX3_cells zw_69_1 zc_7 (by decide) zs_8 (q := (RX3, TX3, 17)) rfl rfl (yd_X3_cells_7 _ _ s285 hI286 ) rfl rfl (Nat.le_of_ble_eq_true rfl) (by decide) (fun r405 s406 hr407 hp408 => ?_)
              obtain ⟨rfl, q409, q410, z411⟩ := hp408
              have hc412 : r405 = σ 7 10 * σ 7 11 := z411.trans (ymul_c (by omega) (by omega))
              clear z411
              refine zt_icge (pc' := 93) (tgt := 144) hX dX10_readImage_90 rfl (by decide) ⟨by omega, by omega⟩ ⟨by omega, by omega⟩ (fun c413 => ?_) (fun c413 => ?_)
              · refine zt_iconst (pc' := 145) hX dX10_readImage_144 rfl ?_
                refine zt_istore (pc' := 147) (lv' := [some (.ref (X.1.1 + 40)), some (.ref (X.1.1 + 7)), some (.ref (X.1.1 + 1)), some (.int (zI (2 + r5))), none, some (.int (zI x279)), some (.int (zI 0)), none]) hX dX10_readImage_145 rfl hL (by decide) rfl ?_
                have L_147_429 : ∀ (N : Nat) (x414 : Int) (x417 : Int) (s420 : zSto), 0 ≤ x414 → x414 ≤ 1 → 0 ≤ x417 → x417 ≤ 10 → zInv s420 → zOn zSe σ s420 → 0 ≤ x417 → x417 ≤ (σ 7 12) → s420 7 10 = σ 7 10 → s420 7 11 = σ 7 11 → s420 7 12 = σ 7 12 → s420 1 1 = σ 1 1 → yJ2 (yT σ) s420 (σ 1 1) (σ 7 10) (σ 7 11) (σ 7 12) x414 x417 → ((11 - x417).toNat) < N → zF X s420 147 [some (.ref (X.1.1 + 40)), some (.ref (X.1.1 + 7)), some (.ref (X.1.1 + 1)), some (.int (zI (2 + r5))), none, some (.int (zI x414)), some (.int (zI x417)), none] [] := by
                  intro N
                  induction N with
                  | zero =>
                    intro x414 x417 s420 h415 h416 h418 h419 hI421 hF422 g423 g424 g425 g426 g427 g428 g429 hm431
                    exact absurd hm431 (Nat.not_lt_zero _)
                  | succ N ih432 =>
                    intro x414 x417 s420 h415 h416 h418 h419 hI421 hF422 g423 g424 g425 g426 g427 g428 g429 hm431
                    have b433 := zv_2_1 hI421 zc_1
                    have b434 := zv_8_10 hI421 zc_7
                    have b435 := zv_8_11 hI421 zc_7
                    have b436 := zv_8_12 hI421 zc_7
                    rcases g429 with ⟨hv437, mh438, mc439, mp440, ma441⟩ | ⟨hv437, mx442⟩
                    · refine zt_iload (pc' := 149) hX dX10_readImage_147 rfl rfl ?_
                      refine zt_aload_n (pc' := 150) hX dX10_readImage_149 rfl rfl ?_
                      have b443 := zv_8_12 hI421 zc_7
                      refine zt_get (pc' := 153) (v := .int (zI (s420 7 12))) hX dX10_readImage_150 rfl zf_X10_38 (by decide) zc_7 zs_8 rfl ?_
                      refine zt_icge (pc' := 156) (tgt := 191) hX dX10_readImage_153 rfl (by decide) ⟨by omega, by omega⟩ ⟨by omega, by omega⟩ (fun c444 => ?_) (fun c444 => ?_)
                      · refine zt_iload (pc' := 193) hX dX10_readImage_191 rfl rfl ?_
                        exact zt_zret hX hR dX10_readImage_193 ⟨by omega, by omega⟩ ⟨hI421, hF422, by omega, by omega, (yIr_y ⟨mh438, mc439, (by rw [show (σ 7 12) = x417 by omega]; exact mp440)⟩ hv437)⟩
                      · refine zt_iload (pc' := 158) hX dX10_readImage_156 rfl rfl ?_
                        refine zt_ifeq (pc' := 161) (tgt := 182) hX dX10_readImage_158 rfl (by decide) ⟨by omega, by omega⟩ (fun c445 => ?_) (fun c445 => ?_)
                        · exact absurd c445 (by omega)
                        · refine zt_aload_n (pc' := 162) hX dX10_readImage_161 rfl rfl ?_
                          refine zt_aload_n (pc' := 163) hX dX10_readImage_162 rfl rfl ?_
                          refine zt_aload_n (pc' := 164) hX dX10_readImage_163 rfl rfl ?_
                          refine zt_iload (pc' := 166) hX dX10_readImage_164 rfl rfl ?_
                          refine zt_iload_n (pc' := 167) hX dX10_readImage_166 rfl rfl ?_
                          refine zt_iconst (pc' := 168) hX dX10_readImage_167 rfl ?_
                          refine zt_iload (pc' := 170) hX dX10_readImage_168 rfl rfl ?_
                          refine zt_imul (pc' := 171) hX dX10_readImage_170 rfl ?_
                          refine zt_iadd (pc' := 172) hX dX10_readImage_171 rfl ?_
                          refine zt_cVz (pc' := 175) hX dX10_readImage_172 rfl zm_yX10_readPerson zw_69_5 zc_40 (by decide) zs_22 (q := (RX10, TX10, 8)) rfl rfl (yd_X10_readPerson_7 _ _ s420 hI421 x417 ⟨by omega, by omega⟩ ((2 + r5) + (4 * x417)) ⟨by omega, by omega⟩ (yT σ) (yT_eq (hF422 1 1 rfl) (fun j => hF422 2 j rfl)) (2 + σ 7 10 * σ 7 11) (by omega) (σ 7 10) (σ 7 11) ⟨by omega, by omega⟩ ma441) rfl rfl (Nat.le_of_ble_eq_true rfl) (by decide) (fun r446 s447 hr448 hp449 => ?_)
                          obtain ⟨hI450, hF451, q452, q453, z454⟩ := hp449
                          have hF455 := zOn_tr hF422 hF451 zi_id
                          have b456 := zv_2_1 hI450 zc_1
                          have b457 := zv_8_10 hI450 zc_7
                          have b458 := zv_8_11 hI450 zc_7
                          have b459 := zv_8_12 hI450 zc_7
                          have e460 := hF451 1 1 rfl
                          have e461 := hF451 7 10 rfl
                          have e462 := hF451 7 11 rfl
                          have e463 := hF451 7 12 rfl
                          rcases id z454 with ⟨rfl, c464⟩ | ⟨rfl, c464⟩
                          · clear z454
                            refine zt_ifeq (pc' := 178) (tgt := 182) hX dX10_readImage_175 rfl (by decide) ⟨by omega, by omega⟩ (fun c465 => ?_) (fun c465 => ?_)
                            · exact absurd c465 (by omega)
                            · refine zt_iconst (pc' := 179) hX dX10_readImage_178 rfl ?_
                              refine zt_goto (tgt := 183) hX dX10_readImage_179 (by decide) ?_
                              refine zt_istore (pc' := 185) (lv' := [some (.ref (X.1.1 + 40)), some (.ref (X.1.1 + 7)), some (.ref (X.1.1 + 1)), some (.int (zI (2 + r5))), none, some (.int (zI 1)), some (.int (zI x417)), none]) hX dX10_readImage_183 rfl hL (by decide) rfl ?_
                              refine zt_iinc (pc' := 188) (lv' := [some (.ref (X.1.1 + 40)), some (.ref (X.1.1 + 7)), some (.ref (X.1.1 + 1)), some (.int (zI (2 + r5))), none, some (.int (zI 1)), some (.int (zI (x417 + 1))), none]) hX dX10_readImage_185 rfl rfl hL (by decide) rfl ?_
                              refine zt_goto (tgt := 147) hX dX10_readImage_188 (by decide) ?_
                              exact ih432 1 (x417 + 1) s447 (by omega) (by omega) (by omega) (by omega) hI450 hF455 (by omega) (by omega) (by omega) (by omega) (by omega) (by omega) (Or.inl ⟨rfl, mh438, mc439, yPs__s mp440 c464.1, c464.2⟩) (by omega)
                          · clear z454
                            refine zt_ifeq (pc' := 178) (tgt := 182) hX dX10_readImage_175 rfl (by decide) ⟨by omega, by omega⟩ (fun c466 => ?_) (fun c466 => ?_)
                            · refine zt_iconst (pc' := 183) hX dX10_readImage_182 rfl ?_
                              refine zt_istore (pc' := 185) (lv' := [some (.ref (X.1.1 + 40)), some (.ref (X.1.1 + 7)), some (.ref (X.1.1 + 1)), some (.int (zI (2 + r5))), none, some (.int (zI 0)), some (.int (zI x417)), none]) hX dX10_readImage_183 rfl hL (by decide) rfl ?_
                              refine zt_iinc (pc' := 188) (lv' := [some (.ref (X.1.1 + 40)), some (.ref (X.1.1 + 7)), some (.ref (X.1.1 + 1)), some (.int (zI (2 + r5))), none, some (.int (zI 0)), some (.int (zI (x417 + 1))), none]) hX dX10_readImage_185 rfl rfl hL (by decide) rfl ?_
                              refine zt_goto (tgt := 147) hX dX10_readImage_188 (by decide) ?_
                              exact ih432 0 (x417 + 1) s447 (by omega) (by omega) (by omega) (by omega) hI450 hF455 (by omega) (by omega) (by omega) (by omega) (by omega) (by omega) (Or.inr ⟨rfl, fun g => yPs__n (k := x417) (by omega) (by omega) c464 g.2.2⟩) (by omega)
                            · exact absurd c466 (by omega)
                    · refine zt_iload (pc' := 149) hX dX10_readImage_147 rfl rfl ?_
                      refine zt_aload_n (pc' := 150) hX dX10_readImage_149 rfl rfl ?_
                      have b467 := zv_8_12 hI421 zc_7
                      refine zt_get (pc' := 153) (v := .int (zI (s420 7 12))) hX dX10_readImage_150 rfl zf_X10_38 (by decide) zc_7 zs_8 rfl ?_
                      refine zt_icge (pc' := 156) (tgt := 191) hX dX10_readImage_153 rfl (by decide) ⟨by omega, by omega⟩ ⟨by omega, by omega⟩ (fun c468 => ?_) (fun c468 => ?_)
                      · refine zt_iload (pc' := 193) hX dX10_readImage_191 rfl rfl ?_
                        exact zt_zret hX hR dX10_readImage_193 ⟨by omega, by omega⟩ ⟨hI421, hF422, by omega, by omega, (yIr_n mx442 hv437)⟩
                      · refine zt_iload (pc' := 158) hX dX10_readImage_156 rfl rfl ?_
                        refine zt_ifeq (pc' := 161) (tgt := 182) hX dX10_readImage_158 rfl (by decide) ⟨by omega, by omega⟩ (fun c469 => ?_) (fun c469 => ?_)
                        · refine zt_iconst (pc' := 183) hX dX10_readImage_182 rfl ?_
                          refine zt_istore (pc' := 185) (lv' := [some (.ref (X.1.1 + 40)), some (.ref (X.1.1 + 7)), some (.ref (X.1.1 + 1)), some (.int (zI (2 + r5))), none, some (.int (zI 0)), some (.int (zI x417)), none]) hX dX10_readImage_183 rfl hL (by decide) rfl ?_
                          refine zt_iinc (pc' := 188) (lv' := [some (.ref (X.1.1 + 40)), some (.ref (X.1.1 + 7)), some (.ref (X.1.1 + 1)), some (.int (zI (2 + r5))), none, some (.int (zI 0)), some (.int (zI (x417 + 1))), none]) hX dX10_readImage_185 rfl rfl hL (by decide) rfl ?_
                          refine zt_goto (tgt := 147) hX dX10_readImage_188 (by decide) ?_
                          exact ih432 0 (x417 + 1) s420 (by omega) (by omega) (by omega) (by omega) hI421 hF422 (by omega) (by omega) (by omega) (by omega) (by omega) (by omega) (Or.inr ⟨rfl, mx442⟩) (by omega)
                        · exact absurd c469 (by omega)
                exact L_147_429 _ x279 0 s285 (by omega) (by omega) (by omega) (by omega) hI286 hF287 (by omega) (by omega) (by omega) (by omega) (by omega) (by omega) (Or.inr ⟨hv302, mx305⟩) (Nat.lt_succ_self _)
              · refine zt_aload_n (pc' := 94) hX dX10_readImage_93 rfl rfl ?_
                refine zt_iconst (pc' := 95) hX dX10_readImage_94 rfl ?_
                refine zt_iload (pc' := 97) hX dX10_readImage_95 rfl rfl ?_
                refine zt_iadd (pc' := 98) hX dX10_readImage_97 rfl ?_
                refine zt_cVi (pc' := 101) hX dX10_readImage_98 rfl zm_yX9_byteAt zw_69_2 zc_1 (by decide) zs_2 (q := (RX9, TX9, 2)) rfl rfl (yc_X9_byteAt _ _ s285 hI286 (2 + x282) ⟨by omega, by omega⟩) rfl rfl (Nat.le_of_ble_eq_true rfl) (by decide) (fun r470 s471 hr472 hp473 => ?_)
                obtain ⟨rfl, q474, q475, z476⟩ := hp473
                have w477 := z476.trans (congrFun (yT_eq (hF287 1 1 rfl) (fun j => hF287 2 j rfl)) _)
                clear z476
                refine zt_istore (pc' := 103) (lv' := [some (.ref (X.1.1 + 40)), some (.ref (X.1.1 + 7)), some (.ref (X.1.1 + 1)), some (.int (zI (2 + r5))), none, some (.int (zI x279)), some (.int (zI x282)), some (.int (zI r470))]) hX dX10_readImage_101 rfl hL (by decide) rfl ?_
                refine zt_iload (pc' := 105) hX dX10_readImage_103 rfl rfl ?_
                refine zt_ifeq (pc' := 108) (tgt := 118) hX dX10_readImage_105 rfl (by decide) ⟨by omega, by omega⟩ (fun c478 => ?_) (fun c478 => ?_)
                · refine zt_iconst (pc' := 119) hX dX10_readImage_118 rfl ?_
                  refine zt_istore (pc' := 121) (lv' := [some (.ref (X.1.1 + 40)), some (.ref (X.1.1 + 7)), some (.ref (X.1.1 + 1)), some (.int (zI (2 + r5))), none, some (.int (zI 0)), some (.int (zI x282)), some (.int (zI r470))]) hX dX10_readImage_119 rfl hL (by decide) rfl ?_
                  refine zt_aload_n (pc' := 122) hX dX10_readImage_121 rfl rfl ?_
                  refine zt_dup (pc' := 123) hX dX10_readImage_122 rfl rfl ?_
                  have b479 := zv_22_6 hI286 zc_40
                  refine zt_get (pc' := 126) (v := .long (zJ (s285 40 6))) hX dX10_readImage_123 rfl zf_X10_31 (by decide) zc_40 zs_22 rfl ?_
                  refine zt_iload (pc' := 128) hX dX10_readImage_126 rfl rfl ?_
                  refine zt_iconst (pc' := 129) hX dX10_readImage_128 rfl ?_
                  refine zt_iandm (pc' := 130) hX dX10_readImage_129 rfl 1 (by decide +kernel) (by decide) (fun r480 er480 lr480 ur480 => ?_)
                  have ur480 : r480 ≤ 1 := by omega
                  refine zt_i2l (pc' := 131) hX dX10_readImage_130 rfl ⟨by omega, by omega⟩ ?_
                  refine zt_iload (pc' := 133) hX dX10_readImage_131 rfl rfl ?_
                  refine zt_lshl (pc' := 134) hX dX10_readImage_133 rfl (fun r481 zr481 lr481 ur481 => ?_)
                  clear zr481
                  refine zt_lor (pc' := 135) hX dX10_readImage_134 rfl (fun r482 zr482 lr482 ur482 => ?_)
                  clear zr482
                  refine zt_put (pc' := 138) (x := r482) hX dX10_readImage_135 rfl zf_X10_31 (by decide) zc_40 zs_22 (fun q hq => by cases hq; rfl) rfl rfl rfl ?_
                  generalize hs484 : zset s285 40 6 r482 = s483
                  have hI485 : zInv s483 := hs484 ▸ zp_22_6 hI286 zc_40 ⟨by omega, by omega⟩
                  have hF486 : zOn zSe σ s483 := hs484 ▸ zOn_set hF287 rfl
                  have e487 : s483 1 1 = s285 1 1 := by rw [← hs484]; exact zset_k (zne_r zc_1 zc_40 (by decide))
                  have e488 : s483 7 10 = s285 7 10 := by rw [← hs484]; exact zset_k (zne_r zc_7 zc_40 (by decide))
                  have e489 : s483 7 11 = s285 7 11 := by rw [← hs484]; exact zset_k (zne_r zc_7 zc_40 (by decide))
                  have e490 : s483 7 12 = s285 7 12 := by rw [← hs484]; exact zset_k (zne_r zc_7 zc_40 (by decide))
                  refine zt_iinc (pc' := 141) (lv' := [some (.ref (X.1.1 + 40)), some (.ref (X.1.1 + 7)), some (.ref (X.1.1 + 1)), some (.int (zI (2 + r5))), none, some (.int (zI 0)), some (.int (zI (x282 + 1))), some (.int (zI r470))]) hX dX10_readImage_138 rfl rfl hL (by decide) rfl ?_
                  refine zt_goto (tgt := 84) hX dX10_readImage_141 (by decide) ?_
                  refine zt_mask [true, true, true, true, false, true, true, false] rfl ?_
                  exact ih297 0 (x282 + 1) s483 (by omega) (by omega) (by omega) (by omega) hI485 hF486 (by omega) (by omega) (by omega) (by omega) (by omega) (by omega) (Or.inr ⟨rfl, mx305⟩) (by omega)
                · exact absurd c478 (by omega)
        refine zt_mask [true, true, true, true, false, true, true, false] rfl ?_
        exact L_84_294 _ 1 0 s54 (by omega) (by omega) (by omega) (by omega) hI56 hF57 (by omega) (by omega) (by omega) (by omega) (by omega) (by omega) (Or.inl ⟨rfl, yHd_y hc1 (by omega) z22 (by omega) z29 (by omega) z37 (by omega), yCe_0⟩) (Nat.lt_succ_self _)
    · refine zt_iconst (pc' := 44) hX dX10_readImage_43 rfl ?_
      exact zt_zret hX hR dX10_readImage_44 ⟨by omega, by omega⟩ ⟨hI, hF, by omega, by omega, (yIr_n (yIx_k z22 (by omega) z29 (by omega)) rfl)⟩
set_option maxRecDepth 100000 in
set_option maxHeartbeats 4000000 in
theorem yd_X11_on_7 (l : Launch) (E : zEN) (σ : zSto) (hI : zInv σ) (hpre0 : σ 0 3 = 7) : zCt l E yX11_on cX11_on 2 (some .boolean) 4 zNC zNC 0 0 σ [.ref (E.1 + 0)] (fun r σ' => zInv σ' ∧ zOn zAl σ σ' ∧ 0 ≤ r ∧ r ≤ 1 ∧ (yIr (yIx (yT σ) (σ 1 1) (σ 7 10) (σ 7 11) (σ 7 12)) r)) := by
  refine zCt_of2 [some (.ref (E.1 + 0)), none] (by decide +kernel) (Nat.le_of_ble_eq_true rfl) rfl ?_
  intro X hE_ hX hR hL hN
  subst hE_
  have hX : zok X cX11_on RX11 4 := hX
  have hF := zOn_rf zAl σ
  have b_a := zv_8_10 hI zc_7
  have b1 := zv_1_3 hI zc_0
  refine zt_aload_n (pc' := 1) hX dX11_on_0 rfl rfl ?_
  have ek2 : σ 0 3 = ((7 : Nat) : Int) := by omega
  refine zt_get (pc' := 4) (v := .ref (X.1.1 + 7)) hX dX11_on_1 rfl zf_X11_31 (by decide) zc_0 zs_1 (zrf_of ek2) ?_
  refine zt_cVz (pc' := 7) hX dX11_on_4 rfl zm_yX3_isTold zw_48_6 zc_7 (by decide) zs_8 (q := (RX3, TX3, 17)) rfl rfl (yd_X3_isTold_7 _ _ σ hI ) rfl rfl (Nat.le_of_ble_eq_true rfl) (by decide) (fun r3 s4 hr5 hp6 => ?_)
  obtain ⟨rfl, q7, q8, z9⟩ := hp6
  obtain ⟨ht, hu⟩ := z9
  replace ht : yIm _ _ := ht
  replace hu : yIm _ _ := hu
  refine zt_ifeq (pc' := 10) (tgt := 32) hX dX11_on_7 rfl (by decide) ⟨by omega, by omega⟩ (fun c10 => ?_) (fun c10 => ?_)
  · refine zt_iconst (pc' := 33) hX dX11_on_32 rfl ?_
    refine zt_istore_n (pc' := 34) (lv' := [some (.ref (X.1.1 + 0)), some (.int (zI 0))]) hX dX11_on_33 rfl hL (by decide) rfl ?_
    refine zt_aload_n (pc' := 35) hX dX11_on_34 rfl rfl ?_
    refine zt_get (pc' := 38) (v := .ref (X.1.1 + 1)) hX dX11_on_35 rfl zf_X11_14 (by decide) zc_0 zs_1 (zrf_of (zv_1_0 hI zc_0)) ?_
    refine zt_iconst (pc' := 39) hX dX11_on_38 rfl ?_
    refine zt_put (pc' := 42) (x := 0) hX dX11_on_39 rfl zf_X11_110 (by decide) zc_1 zs_2 (fun q hq => by cases hq; rfl) rfl rfl rfl ?_
    generalize hs12 : zset σ 1 1 0 = s11
    have hI13 : zInv s11 := hs12 ▸ zp_2_1 hI zc_1 ⟨by omega, by omega⟩
    have hF14 : zOn zAl σ s11 := hs12 ▸ zOn_set hF rfl
    have e15 : s11 0 3 = σ 0 3 := by rw [← hs12]; exact zset_k (zne_r zc_0 zc_1 (by decide))
    refine zt_iload_n (pc' := 43) hX dX11_on_42 rfl rfl ?_
    refine zt_ifne (pc' := 46) (tgt := 52) hX dX11_on_43 rfl (by decide) ⟨by omega, by omega⟩ (fun c16 => ?_) (fun c16 => ?_)
    · exact absurd c16 (by omega)
    · refine zt_aload_n (pc' := 47) hX dX11_on_46 rfl rfl ?_
      refine zt_iconst (pc' := 48) hX dX11_on_47 rfl ?_
      refine zt_cVz (pc' := 51) hX dX11_on_48 rfl zm_yX11_denial zw_15_0 zc_0 (by decide) zs_1 (q := (RX11, TX11, 17)) rfl rfl (zc_X11_denial _ _ s11 hI13 5 ⟨by omega, by omega⟩) rfl rfl (Nat.le_of_ble_eq_true rfl) (by decide) (fun r17 s18 hr19 hp20 => ?_)
      obtain ⟨hI21, hF22, q23, q24⟩ := hp20
      have hF25 : zOn zAl σ s18 := zOn_al
      have b26 := zv_1_3 hI21 zc_0
      exact zt_zret hX hR dX11_on_51 ⟨by omega, by omega⟩ ⟨hI21, hF25, by omega, by omega, (yIr_n (yIx_c (fun h => absurd (show _ = (1 : Int) from ht h) (by omega))) (by omega))⟩
  · refine zt_aload_n (pc' := 11) hX dX11_on_10 rfl rfl ?_
    refine zt_get (pc' := 14) (v := .ref (X.1.1 + 40)) hX dX11_on_11 rfl zf_X11_70 (by decide) zc_0 zs_1 (zrf_of (zv_1_9 hI zc_0)) ?_
    refine zt_aload_n (pc' := 15) hX dX11_on_14 rfl rfl ?_
    refine zt_get (pc' := 18) (v := .ref (X.1.1 + 7)) hX dX11_on_15 rfl zf_X11_31 (by decide) zc_0 zs_1 (zrf_of ek2) ?_
    refine zt_aload_n (pc' := 19) hX dX11_on_18 rfl rfl ?_
    refine zt_get (pc' := 22) (v := .ref (X.1.1 + 1)) hX dX11_on_19 rfl zf_X11_14 (by decide) zc_0 zs_1 (zrf_of (zv_1_0 hI zc_0)) ?_
    refine zt_cVz (pc' := 25) hX dX11_on_22 rfl zm_yX10_readImage zw_68_20 zc_40 (by decide) zs_22 (q := (RX10, TX10, 8)) rfl rfl (yd_X10_readImage_7 _ _ σ hI (by rcases Int.lt_or_le (σ 7 10) 1 with g | g; exact absurd (show _ = (0 : Int) from hu (by omega)) (by omega); exact g)) rfl rfl (Nat.le_of_ble_eq_true rfl) (by decide) (fun r27 s28 hr29 hp30 => ?_)
    obtain ⟨hI31, hF32, q33, q34, z35⟩ := hp30
    have hF36 : zOn zAl σ s28 := zOn_al
    have b37 := zv_1_3 hI31 zc_0
    rcases yIr_b z35 with ⟨rfl, c38⟩ | ⟨rfl, c38⟩
    · clear z35
      refine zt_ifeq (pc' := 28) (tgt := 32) hX dX11_on_25 rfl (by decide) ⟨by omega, by omega⟩ (fun c39 => ?_) (fun c39 => ?_)
      · exact absurd c39 (by omega)
      · refine zt_iconst (pc' := 29) hX dX11_on_28 rfl ?_
        refine zt_goto (tgt := 33) hX dX11_on_29 (by decide) ?_
        refine zt_istore_n (pc' := 34) (lv' := [some (.ref (X.1.1 + 0)), some (.int (zI 1))]) hX dX11_on_33 rfl hL (by decide) rfl ?_
        refine zt_aload_n (pc' := 35) hX dX11_on_34 rfl rfl ?_
        refine zt_get (pc' := 38) (v := .ref (X.1.1 + 1)) hX dX11_on_35 rfl zf_X11_14 (by decide) zc_0 zs_1 (zrf_of (zv_1_0 hI31 zc_0)) ?_
        refine zt_iconst (pc' := 39) hX dX11_on_38 rfl ?_
        refine zt_put (pc' := 42) (x := 0) hX dX11_on_39 rfl zf_X11_110 (by decide) zc_1 zs_2 (fun q hq => by cases hq; rfl) rfl rfl rfl ?_
        generalize hs41 : zset s28 1 1 0 = s40
        have hI42 : zInv s40 := hs41 ▸ zp_2_1 hI31 zc_1 ⟨by omega, by omega⟩
        have hF43 : zOn zAl σ s40 := hs41 ▸ zOn_set hF36 rfl
        have e44 : s40 0 3 = s28 0 3 := by rw [← hs41]; exact zset_k (zne_r zc_0 zc_1 (by decide))
        refine zt_iload_n (pc' := 43) hX dX11_on_42 rfl rfl ?_
        refine zt_ifne (pc' := 46) (tgt := 52) hX dX11_on_43 rfl (by decide) ⟨by omega, by omega⟩ (fun c45 => ?_) (fun c45 => ?_)
        · refine zt_aload_n (pc' := 53) hX dX11_on_52 rfl rfl ?_
          refine zt_get (pc' := 56) (v := .ref (X.1.1 + 35)) hX dX11_on_53 rfl zf_X11_66 (by decide) zc_0 zs_1 (zrf_of (zv_1_8 hI42 zc_0)) ?_
          refine zt_aload_n (pc' := 57) hX dX11_on_56 rfl rfl ?_
          refine zt_get (pc' := 60) (v := .ref (X.1.1 + 40)) hX dX11_on_57 rfl zf_X11_70 (by decide) zc_0 zs_1 (zrf_of (zv_1_9 hI42 zc_0)) ?_
          refine zt_cVv (pc' := 63) hX dX11_on_60 rfl zm_yX10_takeLife zw_48_14 zc_35 (by decide) zs_22 (q := (RX10, TX10, 8)) rfl rfl (zc_X10_takeLife _ _ s40 hI42 35 zc_35 40 zc_40) rfl rfl (Nat.le_of_ble_eq_true rfl) (by decide) (fun r46 s47 hr48 hp49 => ?_)
          obtain ⟨hI50, hF51⟩ := hp49
          have hF52 : zOn zAl σ s47 := zOn_al
          have b53 := zv_1_3 hI50 zc_0
          refine zt_aload_n (pc' := 64) hX dX11_on_63 rfl rfl ?_
          refine zt_get (pc' := 67) (v := .ref (X.1.1 + 35)) hX dX11_on_64 rfl zf_X11_66 (by decide) zc_0 zs_1 (zrf_of (zv_1_8 hI50 zc_0)) ?_
          refine zt_iconst (pc' := 68) hX dX11_on_67 rfl ?_
          refine zt_put (pc' := 71) (x := 0) hX dX11_on_68 rfl zf_X11_174 (by decide) zc_35 zs_22 (fun q hq => by cases hq; rfl) rfl rfl rfl ?_
          generalize hs55 : zset s47 35 4 0 = s54
          have hI56 : zInv s54 := hs55 ▸ zp_22_4 hI50 zc_35 ⟨by omega, by omega⟩
          have hF57 : zOn zAl σ s54 := hs55 ▸ zOn_set hF52 rfl
          have e58 : s54 0 3 = s47 0 3 := by rw [← hs55]; exact zset_k (zne_r zc_0 zc_35 (by decide))
          refine zt_aload_n (pc' := 72) hX dX11_on_71 rfl rfl ?_
          refine zt_get (pc' := 75) (v := .ref (X.1.1 + 45)) hX dX11_on_72 rfl zf_X11_76 (by decide) zc_0 zs_1 (zrf_of (zv_1_10 hI56 zc_0)) ?_
          refine zt_iconst (pc' := 76) hX dX11_on_75 rfl ?_
          refine zt_put (pc' := 79) (x := 0) hX dX11_on_76 rfl zf_X11_135 (by decide) zc_45 zs_27 (fun q hq => by cases hq; rfl) rfl rfl rfl ?_
          generalize hs60 : zset s54 45 2 0 = s59
          have hI61 : zInv s59 := hs60 ▸ zp_27_2 hI56 zc_45 ⟨by omega, by omega⟩
          have hF62 : zOn zAl σ s59 := hs60 ▸ zOn_set hF57 rfl
          have e63 : s59 0 3 = s54 0 3 := by rw [← hs60]; exact zset_k (zne_r zc_0 zc_45 (by decide))
          refine zt_iconst (pc' := 80) hX dX11_on_79 rfl ?_
          exact zt_zret hX hR dX11_on_80 ⟨by omega, by omega⟩ ⟨hI61, hF62, by omega, by omega, (yIr_y c38 (by omega))⟩
        · exact absurd c45 (by omega)
    · clear z35
      refine zt_ifeq (pc' := 28) (tgt := 32) hX dX11_on_25 rfl (by decide) ⟨by omega, by omega⟩ (fun c64 => ?_) (fun c64 => ?_)
      · refine zt_iconst (pc' := 33) hX dX11_on_32 rfl ?_
        refine zt_istore_n (pc' := 34) (lv' := [some (.ref (X.1.1 + 0)), some (.int (zI 0))]) hX dX11_on_33 rfl hL (by decide) rfl ?_
        refine zt_aload_n (pc' := 35) hX dX11_on_34 rfl rfl ?_
        refine zt_get (pc' := 38) (v := .ref (X.1.1 + 1)) hX dX11_on_35 rfl zf_X11_14 (by decide) zc_0 zs_1 (zrf_of (zv_1_0 hI31 zc_0)) ?_
        refine zt_iconst (pc' := 39) hX dX11_on_38 rfl ?_
        refine zt_put (pc' := 42) (x := 0) hX dX11_on_39 rfl zf_X11_110 (by decide) zc_1 zs_2 (fun q hq => by cases hq; rfl) rfl rfl rfl ?_
        generalize hs66 : zset s28 1 1 0 = s65
        have hI67 : zInv s65 := hs66 ▸ zp_2_1 hI31 zc_1 ⟨by omega, by omega⟩
        have hF68 : zOn zAl σ s65 := hs66 ▸ zOn_set hF36 rfl
        have e69 : s65 0 3 = s28 0 3 := by rw [← hs66]; exact zset_k (zne_r zc_0 zc_1 (by decide))
        refine zt_iload_n (pc' := 43) hX dX11_on_42 rfl rfl ?_
        refine zt_ifne (pc' := 46) (tgt := 52) hX dX11_on_43 rfl (by decide) ⟨by omega, by omega⟩ (fun c70 => ?_) (fun c70 => ?_)
        · exact absurd c70 (by omega)
        · refine zt_aload_n (pc' := 47) hX dX11_on_46 rfl rfl ?_
          refine zt_iconst (pc' := 48) hX dX11_on_47 rfl ?_
          refine zt_cVz (pc' := 51) hX dX11_on_48 rfl zm_yX11_denial zw_15_0 zc_0 (by decide) zs_1 (q := (RX11, TX11, 17)) rfl rfl (zc_X11_denial _ _ s65 hI67 5 ⟨by omega, by omega⟩) rfl rfl (Nat.le_of_ble_eq_true rfl) (by decide) (fun r71 s72 hr73 hp74 => ?_)
          obtain ⟨hI75, hF76, q77, q78⟩ := hp74
          have hF79 : zOn zAl σ s72 := zOn_al
          have b80 := zv_1_3 hI75 zc_0
          exact zt_zret hX hR dX11_on_51 ⟨by omega, by omega⟩ ⟨hI75, hF79, by omega, by omega, (yIr_n c38 (by omega))⟩
      · exact absurd c64 (by omega)
set_option maxRecDepth 100000 in
set_option maxHeartbeats 4000000 in
theorem yd_X10_readPerson_17 (l : Launch) (E : zEN) (σ : zSto) (hI : zInv σ) (a3_ : Int) (ha3_ : 0 ≤ a3_ ∧ a3_ ≤ 9) (a4_ : Int) (ha4_ : 0 ≤ a4_ ∧ a4_ ≤ 100) (f : Int → Int) (hf : yT σ = f) (bb : Int) (hb : a4_ = bb + 4 * a3_) (cc rr : Int) (hcc : σ 17 10 = cc ∧ σ 17 11 = rr) (hA : yAh f σ bb a3_) : zCt l E yX10_readPerson cX10_readPerson 7 (some .boolean) 2 zNC zNC 0 0 σ [.ref (E.1 + 40), .ref (E.1 + 17), .ref (E.1 + 1), .int (zI a3_), .int (zI a4_)] (fun r σ' => zInv σ' ∧ zOn zSe σ σ' ∧ 0 ≤ r ∧ r ≤ 1 ∧ ((r = 1 ∧ yPe f bb cc rr a3_ ∧ yAh f σ' bb (a3_ + 1)) ∨ (r = 0 ∧ ¬ yPe f bb cc rr a3_))) := by
  refine zCt_of2 [some (.ref (E.1 + 40)), some (.ref (E.1 + 17)), some (.ref (E.1 + 1)), some (.int (zI a3_)), some (.int (zI a4_)), none, none] (by decide +kernel) (Nat.le_of_ble_eq_true rfl) rfl ?_
  intro X hE_ hX hR hL hN
  subst hE_
  have hX : zok X cX10_readPerson RX10 2 := hX
  have hF := zOn_rf zSe σ
  obtain ⟨hcc1, hcc2⟩ := hcc
  have b_a := zv_8_10 hI zc_17
  have b_b := zv_8_11 hI zc_17
  have b1 := zv_8_10 hI zc_17
  have b2 := zv_8_11 hI zc_17
  have b3 := zv_25 hI zc_43 a3_.toNat
  refine zt_aload_n (pc' := 1) hX dX10_readPerson_0 rfl rfl ?_
  refine zt_get (pc' := 4) (v := .ref (X.1.1 + 41)) hX dX10_readPerson_1 rfl zf_X10_9 (by decide) zc_40 zs_22 (zrf_of (zv_22_0 hI zc_40)) ?_
  refine zt_iload_n (pc' := 5) hX dX10_readPerson_4 rfl rfl ?_
  refine zt_aload_n (pc' := 6) hX dX10_readPerson_5 rfl rfl ?_
  refine zt_iload (pc' := 8) hX dX10_readPerson_6 rfl rfl ?_
  refine zt_cVi (pc' := 11) hX dX10_readPerson_8 rfl zm_yX9_byteAt zw_69_2 zc_1 (by decide) zs_2 (q := (RX9, TX9, 2)) rfl rfl (yc_X9_byteAt _ _ σ hI a4_ ⟨by omega, by omega⟩) rfl rfl (Nat.le_of_ble_eq_true rfl) (by decide) (fun r4 s5 hr6 hp7 => ?_)
  obtain ⟨rfl, q8, q9, z10⟩ := hp7
  have w11 : r4 = f (bb + 4 * a3_) := by rw [← hf, ← hb]; exact z10
  clear z10
  refine zt_iast (pc' := 12) hX dX10_readPerson_11 rfl (by decide) zc_41 zs_23 (by decide) ⟨by omega, by omega⟩ ?_
  generalize hs13 : zset σ 41 (a3_.toNat) r4 = s12
  have hI14 : zInv s12 := hs13 ▸ zp_23 hI zc_41 (a3_.toNat) ⟨by omega, by omega⟩
  have hF15 : zOn zSe σ s12 := hs13 ▸ zOn_set hF rfl
  have e16 : s12 17 10 = σ 17 10 := by rw [← hs13]; exact zset_k (zne_r zc_17 zc_41 (by decide))
  have e17 : s12 17 11 = σ 17 11 := by rw [← hs13]; exact zset_k (zne_r zc_17 zc_41 (by decide))
  have e18 : s12 43 (a3_.toNat) = σ 43 (a3_.toNat) := by rw [← hs13]; exact zset_k (zne_r zc_43 zc_41 (by decide))
  refine zt_aload_n (pc' := 13) hX dX10_readPerson_12 rfl rfl ?_
  refine zt_get (pc' := 16) (v := .ref (X.1.1 + 42)) hX dX10_readPerson_13 rfl zf_X10_15 (by decide) zc_40 zs_22 (zrf_of (zv_22_1 hI14 zc_40)) ?_
  refine zt_iload_n (pc' := 17) hX dX10_readPerson_16 rfl rfl ?_
  refine zt_aload_n (pc' := 18) hX dX10_readPerson_17 rfl rfl ?_
  refine zt_iload (pc' := 20) hX dX10_readPerson_18 rfl rfl ?_
  refine zt_iconst (pc' := 21) hX dX10_readPerson_20 rfl ?_
  refine zt_iadd (pc' := 22) hX dX10_readPerson_21 rfl ?_
  refine zt_cVi (pc' := 25) hX dX10_readPerson_22 rfl zm_yX9_byteAt zw_69_2 zc_1 (by decide) zs_2 (q := (RX9, TX9, 2)) rfl rfl (yc_X9_byteAt _ _ s12 hI14 (a4_ + 1) ⟨by omega, by omega⟩) rfl rfl (Nat.le_of_ble_eq_true rfl) (by decide) (fun r19 s20 hr21 hp22 => ?_)
  obtain ⟨rfl, q23, q24, z25⟩ := hp22
  have w26 : r19 = f (bb + 4 * a3_ + 1) := by rw [← hf, ← hb]; exact z25.trans (congrFun (yT_eq (hF15 1 1 rfl) (fun j => hF15 2 j rfl)) _)
  clear z25
  refine zt_iast (pc' := 26) hX dX10_readPerson_25 rfl (by decide) zc_42 zs_24 (by decide) ⟨by omega, by omega⟩ ?_
  generalize hs28 : zset s12 42 (a3_.toNat) r19 = s27
  have hI29 : zInv s27 := hs28 ▸ zp_24 hI14 zc_42 (a3_.toNat) ⟨by omega, by omega⟩
  have hF30 : zOn zSe σ s27 := hs28 ▸ zOn_set hF15 rfl
  have e31 : s27 17 10 = s12 17 10 := by rw [← hs28]; exact zset_k (zne_r zc_17 zc_42 (by decide))
  have e32 : s27 17 11 = s12 17 11 := by rw [← hs28]; exact zset_k (zne_r zc_17 zc_42 (by decide))
  have e33 : s27 43 (a3_.toNat) = s12 43 (a3_.toNat) := by rw [← hs28]; exact zset_k (zne_r zc_43 zc_42 (by decide))
  refine zt_aload_n (pc' := 27) hX dX10_readPerson_26 rfl rfl ?_
  refine zt_get (pc' := 30) (v := .ref (X.1.1 + 43)) hX dX10_readPerson_27 rfl zf_X10_18 (by decide) zc_40 zs_22 (zrf_of (zv_22_2 hI29 zc_40)) ?_
  refine zt_iload_n (pc' := 31) hX dX10_readPerson_30 rfl rfl ?_
  refine zt_aload_n (pc' := 32) hX dX10_readPerson_31 rfl rfl ?_
  refine zt_iload (pc' := 34) hX dX10_readPerson_32 rfl rfl ?_
  refine zt_iconst (pc' := 35) hX dX10_readPerson_34 rfl ?_
  refine zt_iadd (pc' := 36) hX dX10_readPerson_35 rfl ?_
  refine zt_cVi (pc' := 39) hX dX10_readPerson_36 rfl zm_yX9_byteAt zw_69_2 zc_1 (by decide) zs_2 (q := (RX9, TX9, 2)) rfl rfl (yc_X9_byteAt _ _ s27 hI29 (a4_ + 2) ⟨by omega, by omega⟩) rfl rfl (Nat.le_of_ble_eq_true rfl) (by decide) (fun r34 s35 hr36 hp37 => ?_)
  obtain ⟨rfl, q38, q39, z40⟩ := hp37
  have w41 : r34 = f (bb + 4 * a3_ + 2) := by rw [← hf, ← hb]; exact z40.trans (congrFun (yT_eq (hF30 1 1 rfl) (fun j => hF30 2 j rfl)) _)
  clear z40
  refine zt_iast (pc' := 40) hX dX10_readPerson_39 rfl (by decide) zc_43 zs_25 (by decide) ⟨by omega, by omega⟩ ?_
  generalize hs43 : zset s27 43 (a3_.toNat) r34 = s42
  have hI44 : zInv s42 := hs43 ▸ zp_25 hI29 zc_43 (a3_.toNat) ⟨by omega, by omega⟩
  have hF45 : zOn zSe σ s42 := hs43 ▸ zOn_set hF30 rfl
  have e46 : s42 17 10 = s27 17 10 := by rw [← hs43]; exact zset_k (zne_r zc_17 zc_43 (by decide))
  have e47 : s42 17 11 = s27 17 11 := by rw [← hs43]; exact zset_k (zne_r zc_17 zc_43 (by decide))
  have e48 : s42 43 (a3_.toNat) = r34 := by rw [← hs43]; exact zset_s
  refine zt_aload_n (pc' := 41) hX dX10_readPerson_40 rfl rfl ?_
  refine zt_iload (pc' := 43) hX dX10_readPerson_41 rfl rfl ?_
  refine zt_iconst (pc' := 44) hX dX10_readPerson_43 rfl ?_
  refine zt_iadd (pc' := 45) hX dX10_readPerson_44 rfl ?_
  refine zt_cVi (pc' := 48) hX dX10_readPerson_45 rfl zm_yX9_byteAt zw_69_2 zc_1 (by decide) zs_2 (q := (RX9, TX9, 2)) rfl rfl (yc_X9_byteAt _ _ s42 hI44 (a4_ + 3) ⟨by omega, by omega⟩) rfl rfl (Nat.le_of_ble_eq_true rfl) (by decide) (fun r49 s50 hr51 hp52 => ?_)
  obtain ⟨rfl, q53, q54, z55⟩ := hp52
  have w56 : r49 = f (bb + 4 * a3_ + 3) := by rw [← hf, ← hb]; exact z55.trans (congrFun (yT_eq (hF45 1 1 rfl) (fun j => hF45 2 j rfl)) _)
  clear z55
  refine zt_istore (pc' := 50) (lv' := [some (.ref (X.1.1 + 40)), some (.ref (X.1.1 + 17)), some (.ref (X.1.1 + 1)), some (.int (zI a3_)), some (.int (zI a4_)), some (.int (zI r49)), none]) hX dX10_readPerson_48 rfl hL (by decide) rfl ?_
  refine zt_aload_n (pc' := 51) hX dX10_readPerson_50 rfl rfl ?_
  refine zt_dup (pc' := 52) hX dX10_readPerson_51 rfl rfl ?_
  have b57 := zv_22_7 hI44 zc_40
  have e58 : s42 40 7 = s27 40 7 := by rw [← hs43]; exact zset_k (zne_r zc_40 zc_43 (by decide))
  have e59 : s27 40 7 = s12 40 7 := by rw [← hs28]; exact zset_k (zne_r zc_40 zc_42 (by decide))
  have e60 : s12 40 7 = σ 40 7 := by rw [← hs13]; exact zset_k (zne_r zc_40 zc_41 (by decide))
  refine zt_get (pc' := 55) (v := .int (zI (s42 40 7))) hX dX10_readPerson_52 rfl zf_X10_35 (by decide) zc_40 zs_22 rfl ?_
  refine zt_iload (pc' := 57) hX dX10_readPerson_55 rfl rfl ?_
  refine zt_iconst (pc' := 58) hX dX10_readPerson_57 rfl ?_
  refine zt_iandm (pc' := 59) hX dX10_readPerson_58 rfl 1 (by decide +kernel) (by decide) (fun r61 er61 lr61 ur61 => ?_)
  have ur61 : r61 ≤ 1 := by omega
  refine zt_iload_n (pc' := 60) hX dX10_readPerson_59 rfl rfl ?_
  refine zt_ishl (pc' := 61) hX dX10_readPerson_60 rfl (fun r62 zr62 lr62 ur62 => ?_)
  clear zr62
  refine zt_ior (pc' := 62) hX dX10_readPerson_61 rfl (fun r63 zr63 lr63 ur63 => ?_)
  clear zr63
  refine zt_put (pc' := 65) (x := r63) hX dX10_readPerson_62 rfl zf_X10_35 (by decide) zc_40 zs_22 (fun q hq => by cases hq; rfl) rfl rfl rfl ?_
  generalize hs65 : zset s42 40 7 r63 = s64
  have hI66 : zInv s64 := hs65 ▸ zp_22_7 hI44 zc_40 ⟨by omega, by omega⟩
  have hF67 : zOn zSe σ s64 := hs65 ▸ zOn_set hF45 rfl
  have e68 : s64 17 10 = s42 17 10 := by rw [← hs65]; exact zset_k (zne_r zc_17 zc_40 (by decide))
  have e69 : s64 17 11 = s42 17 11 := by rw [← hs65]; exact zset_k (zne_r zc_17 zc_40 (by decide))
  have e70 : s64 43 (a3_.toNat) = s42 43 (a3_.toNat) := by rw [← hs65]; exact zset_k (zne_r zc_43 zc_40 (by decide))
  have hAn : yAh f s64 bb (a3_ + 1) := yAh_s hA hs13 hs28 hs43 hs65 (by omega) w11 w26
  refine zt_iconst (pc' := 66) hX dX10_readPerson_65 rfl ?_
  refine zt_istore (pc' := 68) (lv' := [some (.ref (X.1.1 + 40)), some (.ref (X.1.1 + 17)), some (.ref (X.1.1 + 1)), some (.int (zI a3_)), some (.int (zI a4_)), some (.int (zI r49)), some (.int (zI 0))]) hX dX10_readPerson_66 rfl hL (by decide) rfl ?_
  have L_68_76 : ∀ (N : Nat) (x71 : Int), 0 ≤ x71 → x71 ≤ 9 → 0 ≤ x71 → x71 ≤ a3_ → yOt f bb a3_ x71 → ((10 - x71).toNat) < N → zF X s64 68 [some (.ref (X.1.1 + 40)), some (.ref (X.1.1 + 17)), none, some (.int (zI a3_)), none, some (.int (zI r49)), some (.int (zI x71))] [] := by
    intro N
    induction N with
    | zero =>
      intro x71 h72 h73 g74 g75 g76 hm78
      exact absurd hm78 (Nat.not_lt_zero _)
    | succ N ih79 =>
      intro x71 h72 h73 g74 g75 g76 hm78
      have q80 := 0
      · refine zt_iload (pc' := 70) hX dX10_readPerson_68 rfl rfl ?_
        refine zt_iload_n (pc' := 71) hX dX10_readPerson_70 rfl rfl ?_
        refine zt_icge (pc' := 74) (tgt := 103) hX dX10_readPerson_71 rfl (by decide) ⟨by omega, by omega⟩ ⟨by omega, by omega⟩ (fun c81 => ?_) (fun c81 => ?_)
        · refine zt_aload_n (pc' := 104) hX dX10_readPerson_103 rfl rfl ?_
          refine zt_aload_n (pc' := 105) hX dX10_readPerson_104 rfl rfl ?_
          refine zt_get (pc' := 108) (v := .ref (X.1.1 + 41)) hX dX10_readPerson_105 rfl zf_X10_9 (by decide) zc_40 zs_22 (zrf_of (zv_22_0 hI66 zc_40)) ?_
          refine zt_iload_n (pc' := 109) hX dX10_readPerson_108 rfl rfl ?_
          refine zt_iald (pc' := 110) hX dX10_readPerson_109 rfl (by decide) zc_41 zs_23 (by decide) ⟨by omega, by omega⟩ ?_
          generalize hv82 : s64 41 (a3_.toNat) = v82
          have bv82 : -1 ≤ v82 ∧ v82 ≤ 255 := hv82 ▸ zv_23 hI66 zc_41 _
          refine zt_aload_n (pc' := 111) hX dX10_readPerson_110 rfl rfl ?_
          refine zt_get (pc' := 114) (v := .ref (X.1.1 + 42)) hX dX10_readPerson_111 rfl zf_X10_15 (by decide) zc_40 zs_22 (zrf_of (zv_22_1 hI66 zc_40)) ?_
          refine zt_iload_n (pc' := 115) hX dX10_readPerson_114 rfl rfl ?_
          refine zt_iald (pc' := 116) hX dX10_readPerson_115 rfl (by decide) zc_42 zs_24 (by decide) ⟨by omega, by omega⟩ ?_
          generalize hv83 : s64 42 (a3_.toNat) = v83
          have bv83 : -1 ≤ v83 ∧ v83 ≤ 255 := hv83 ▸ zv_24 hI66 zc_42 _
          refine zt_cVz (pc' := 119) hX dX10_readPerson_116 rfl zm_yX3_hasCell zw_69_10 zc_17 (by decide) zs_8 (q := (RX3, TX3, 17)) rfl rfl (yd_X3_hasCell_17 _ _ s64 hI66 v82 ⟨by omega, by omega⟩ v83 ⟨by omega, by omega⟩) rfl rfl (Nat.le_of_ble_eq_true rfl) (by decide) (fun r84 s85 hr86 hp87 => ?_)
          obtain ⟨rfl, q88, q89, z90⟩ := hp87
          rcases ysph z90 with ⟨rfl, c91⟩ | ⟨rfl, c91⟩
          · clear z90
            refine zt_ifeq (pc' := 122) (tgt := 143) hX dX10_readPerson_119 rfl (by decide) ⟨by omega, by omega⟩ (fun c92 => ?_) (fun c92 => ?_)
            · exact absurd c92 (by omega)
            · refine zt_aload_n (pc' := 123) hX dX10_readPerson_122 rfl rfl ?_
              refine zt_get (pc' := 126) (v := .ref (X.1.1 + 43)) hX dX10_readPerson_123 rfl zf_X10_18 (by decide) zc_40 zs_22 (zrf_of (zv_22_2 hI66 zc_40)) ?_
              refine zt_iload_n (pc' := 127) hX dX10_readPerson_126 rfl rfl ?_
              refine zt_iald (pc' := 128) hX dX10_readPerson_127 rfl (by decide) zc_43 zs_25 (by decide) ⟨by omega, by omega⟩ ?_
              generalize hv93 : s64 43 (a3_.toNat) = v93
              have bv93 : -1 ≤ v93 ∧ v93 ≤ 255 := hv93 ▸ zv_25 hI66 zc_43 _
              refine zt_bipush (pc' := 130) hX dX10_readPerson_128 rfl (by decide) (by decide) ?_
              refine zt_icgt (pc' := 133) (tgt := 143) hX dX10_readPerson_130 rfl (by decide) ⟨by omega, by omega⟩ ⟨by omega, by omega⟩ (fun c94 => ?_) (fun c94 => ?_)
              · refine zt_iconst (pc' := 144) hX dX10_readPerson_143 rfl ?_
                exact zt_zret hX hR dX10_readPerson_144 ⟨by omega, by omega⟩ ⟨hI66, hF67, by omega, by omega, (Or.inr ⟨rfl, by first | exact yPe_t (show v93 = f (bb + 4 * a3_ + 2) by omega) (by omega) | exact yPe_u w56 (by omega)⟩)⟩
              · refine zt_iload (pc' := 135) hX dX10_readPerson_133 rfl rfl ?_
                refine zt_iconst (pc' := 136) hX dX10_readPerson_135 rfl ?_
                refine zt_icgt (pc' := 139) (tgt := 143) hX dX10_readPerson_136 rfl (by decide) ⟨by omega, by omega⟩ ⟨by omega, by omega⟩ (fun c95 => ?_) (fun c95 => ?_)
                · refine zt_iconst (pc' := 144) hX dX10_readPerson_143 rfl ?_
                  exact zt_zret hX hR dX10_readPerson_144 ⟨by omega, by omega⟩ ⟨hI66, hF67, by omega, by omega, (Or.inr ⟨rfl, by first | exact yPe_t (show v93 = f (bb + 4 * a3_ + 2) by omega) (by omega) | exact yPe_u w56 (by omega)⟩)⟩
                · refine zt_iconst (pc' := 140) hX dX10_readPerson_139 rfl ?_
                  refine zt_goto (tgt := 144) hX dX10_readPerson_140 (by decide) ?_
                  exact zt_zret hX hR dX10_readPerson_144 ⟨by omega, by omega⟩ ⟨hI66, hF67, by omega, by omega, (Or.inl ⟨rfl, yPe_y (hv82.symm.trans (yAh_a hAn (by omega) (by omega)).1) (hv83.symm.trans (yAh_a hAn (by omega) (by omega)).2) (show v93 = f (bb + 4 * a3_ + 2) by omega) w56 (by have q := c91; exact ⟨by omega, by omega, by omega, by omega⟩) ⟨by omega, by omega⟩ (yOt_le g76 (by omega)), hAn⟩)⟩
          · clear z90
            refine zt_ifeq (pc' := 122) (tgt := 143) hX dX10_readPerson_119 rfl (by decide) ⟨by omega, by omega⟩ (fun c96 => ?_) (fun c96 => ?_)
            · refine zt_iconst (pc' := 144) hX dX10_readPerson_143 rfl ?_
              exact zt_zret hX hR dX10_readPerson_144 ⟨by omega, by omega⟩ ⟨hI66, hF67, by omega, by omega, (Or.inr ⟨rfl, yPe_c (hv82.symm.trans (yAh_a hAn (by omega) (by omega)).1) (hv83.symm.trans (yAh_a hAn (by omega) (by omega)).2) (fun g => c91 ⟨by omega, by omega, by omega, by omega⟩)⟩)⟩
            · exact absurd c96 (by omega)
        · refine zt_aload_n (pc' := 75) hX dX10_readPerson_74 rfl rfl ?_
          refine zt_iload (pc' := 77) hX dX10_readPerson_75 rfl rfl ?_
          refine zt_aload_n (pc' := 78) hX dX10_readPerson_77 rfl rfl ?_
          refine zt_get (pc' := 81) (v := .ref (X.1.1 + 41)) hX dX10_readPerson_78 rfl zf_X10_9 (by decide) zc_40 zs_22 (zrf_of (zv_22_0 hI66 zc_40)) ?_
          refine zt_iload_n (pc' := 82) hX dX10_readPerson_81 rfl rfl ?_
          refine zt_iald (pc' := 83) hX dX10_readPerson_82 rfl (by decide) zc_41 zs_23 (by decide) ⟨by omega, by omega⟩ ?_
          generalize hv97 : s64 41 (a3_.toNat) = v97
          have bv97 : -1 ≤ v97 ∧ v97 ≤ 255 := hv97 ▸ zv_23 hI66 zc_41 _
          refine zt_aload_n (pc' := 84) hX dX10_readPerson_83 rfl rfl ?_
          refine zt_get (pc' := 87) (v := .ref (X.1.1 + 42)) hX dX10_readPerson_84 rfl zf_X10_15 (by decide) zc_40 zs_22 (zrf_of (zv_22_1 hI66 zc_40)) ?_
          refine zt_iload_n (pc' := 88) hX dX10_readPerson_87 rfl rfl ?_
          refine zt_iald (pc' := 89) hX dX10_readPerson_88 rfl (by decide) zc_42 zs_24 (by decide) ⟨by omega, by omega⟩ ?_
          generalize hv98 : s64 42 (a3_.toNat) = v98
          have bv98 : -1 ≤ v98 ∧ v98 ≤ 255 := hv98 ▸ zv_24 hI66 zc_42 _
          refine zt_cVi (pc' := 92) hX dX10_readPerson_89 rfl zm_yX10_between zw_69_9 zc_40 (by decide) zs_22 (q := (RX10, TX10, 8)) rfl rfl (yd_X10_between _ _ s64 hI66 x71 ⟨by omega, by omega⟩ v97 ⟨by omega, by omega⟩ v98 ⟨by omega, by omega⟩) rfl rfl (Nat.le_of_ble_eq_true rfl) (by decide) (fun r99 s100 hr101 hp102 => ?_)
          obtain ⟨rfl, q103, q104, z105⟩ := hp102
          refine zt_ifne (pc' := 95) (tgt := 97) hX dX10_readPerson_92 rfl (by decide) ⟨by omega, by omega⟩ (fun c106 => ?_) (fun c106 => ?_)
          · refine zt_iinc (pc' := 100) (lv' := [some (.ref (X.1.1 + 40)), some (.ref (X.1.1 + 17)), none, some (.int (zI a3_)), none, some (.int (zI r49)), some (.int (zI (x71 + 1)))]) hX dX10_readPerson_97 rfl rfl hL (by decide) rfl ?_
            refine zt_goto (tgt := 68) hX dX10_readPerson_100 (by decide) ?_
            exact ih79 (x71 + 1) (by omega) (by omega) (by omega) (by omega) (yOt_s g76 (yAh_a hAn (k := x71) (by omega) (by omega)).1 (yAh_a hAn (k := x71) (by omega) (by omega)).2 (hv97.symm.trans (yAh_a hAn (by omega) (by omega)).1) (hv98.symm.trans (yAh_a hAn (by omega) (by omega)).2) (yBz_1 z105 (by omega))) (by omega)
          · refine zt_iconst (pc' := 96) hX dX10_readPerson_95 rfl ?_
            exact zt_zret hX hR dX10_readPerson_96 ⟨by omega, by omega⟩ ⟨hI66, hF67, by omega, by omega, (Or.inr ⟨rfl, yPe_o (yOt_n (k := x71) (by omega) (by omega) (yAh_a hAn (by omega) (by omega)).1 (yAh_a hAn (by omega) (by omega)).2 (hv97.symm.trans (yAh_a hAn (by omega) (by omega)).1) (hv98.symm.trans (yAh_a hAn (by omega) (by omega)).2) (yBz_0 z105 (by omega)))⟩)⟩
  refine zt_mask [true, true, false, true, false, true, true] rfl ?_
  exact L_68_76 _ 0 (by omega) (by omega) (by omega) (by omega) yOt_0 (Nat.lt_succ_self _)
set_option maxRecDepth 100000 in
set_option maxHeartbeats 4000000 in
theorem yd_X10_readImage_17 (l : Launch) (E : zEN) (σ : zSto) (hI : zInv σ) (hc1 : 1 ≤ σ 17 10) : zCt l E yX10_readImage cX10_readImage 8 (some .boolean) 3 zNC zNC 0 0 σ [.ref (E.1 + 40), .ref (E.1 + 17), .ref (E.1 + 1)] (fun r σ' => zInv σ' ∧ zOn zSe σ σ' ∧ 0 ≤ r ∧ r ≤ 1 ∧ (yIr (yIx (yT σ) (σ 1 1) (σ 17 10) (σ 17 11) (σ 17 12)) r)) := by
  refine zCt_of2 [some (.ref (E.1 + 40)), some (.ref (E.1 + 17)), some (.ref (E.1 + 1)), none, none, none, none, none] (by decide +kernel) (Nat.le_of_ble_eq_true rfl) rfl ?_
  intro X hE_ hX hR hL hN
  subst hE_
  have hX : zok X cX10_readImage RX10 3 := hX
  have hF := zOn_rf zSe σ
  have b_a := zv_8_10 hI zc_17
  have b_b := zv_8_11 hI zc_17
  have b_m := ymul36 (a := σ 17 10) (b := σ 17 11) ⟨by omega, by omega⟩ ⟨by omega, by omega⟩
  have b_p := zv_8_12 hI zc_17
  have b_q := 0
  have b1 := zv_2_1 hI zc_1
  have b2 := zv_8_10 hI zc_17
  have b3 := zv_8_11 hI zc_17
  have b4 := zv_8_12 hI zc_17
  refine zt_iconst (pc' := 1) hX dX10_readImage_0 rfl ?_
  refine zt_aload_n (pc' := 2) hX dX10_readImage_1 rfl rfl ?_
  refine zt_cVi (pc' := 5) hX dX10_readImage_2 rfl zm_yX3_cells zw_69_1 zc_17 (by decide) zs_8 (q := (RX3, TX3, 17)) rfl rfl (yd_X3_cells_17 _ _ σ hI ) rfl rfl (Nat.le_of_ble_eq_true rfl) (by decide) (fun r5 s6 hr7 hp8 => ?_)
  obtain ⟨rfl, q9, q10, z11⟩ := hp8
  have hc12 : r5 = σ 17 10 * σ 17 11 := z11.trans (ymul_c (by omega) (by omega))
  clear z11
  refine zt_iadd (pc' := 6) hX dX10_readImage_5 rfl ?_
  refine zt_istore_n (pc' := 7) (lv' := [some (.ref (X.1.1 + 40)), some (.ref (X.1.1 + 17)), some (.ref (X.1.1 + 1)), some (.int (zI (2 + r5))), none, none, none, none]) hX dX10_readImage_6 rfl hL (by decide) rfl ?_
  refine zt_iload_n (pc' := 8) hX dX10_readImage_7 rfl rfl ?_
  refine zt_iconst (pc' := 9) hX dX10_readImage_8 rfl ?_
  refine zt_aload_n (pc' := 10) hX dX10_readImage_9 rfl rfl ?_
  have b13 := zv_8_12 hI zc_17
  refine zt_get (pc' := 13) (v := .int (zI (σ 17 12))) hX dX10_readImage_10 rfl zf_X10_38 (by decide) zc_17 zs_8 rfl ?_
  refine zt_imul (pc' := 14) hX dX10_readImage_13 rfl ?_
  refine zt_iadd (pc' := 15) hX dX10_readImage_14 rfl ?_
  refine zt_istore (pc' := 17) (lv' := [some (.ref (X.1.1 + 40)), some (.ref (X.1.1 + 17)), some (.ref (X.1.1 + 1)), some (.int (zI (2 + r5))), some (.int (zI ((2 + r5) + (4 * (σ 17 12))))), none, none, none]) hX dX10_readImage_15 rfl hL (by decide) rfl ?_
  refine zt_aload_n (pc' := 18) hX dX10_readImage_17 rfl rfl ?_
  have b14 := zv_2_1 hI zc_1
  refine zt_get (pc' := 21) (v := .int (zI (σ 1 1))) hX dX10_readImage_18 rfl zf_X10_83 (by decide) zc_1 zs_2 rfl ?_
  refine zt_iload (pc' := 23) hX dX10_readImage_21 rfl rfl ?_
  refine zt_iconst (pc' := 24) hX dX10_readImage_23 rfl ?_
  refine zt_iadd (pc' := 25) hX dX10_readImage_24 rfl ?_
  refine zt_icne (pc' := 28) (tgt := 43) hX dX10_readImage_25 rfl (by decide) ⟨by omega, by omega⟩ ⟨by omega, by omega⟩ (fun c15 => ?_) (fun c15 => ?_)
  · refine zt_iconst (pc' := 44) hX dX10_readImage_43 rfl ?_
    exact zt_zret hX hR dX10_readImage_44 ⟨by omega, by omega⟩ ⟨hI, hF, by omega, by omega, (yIr_n (yIx_l (by omega)) rfl)⟩
  · refine zt_aload_n (pc' := 29) hX dX10_readImage_28 rfl rfl ?_
    refine zt_iload (pc' := 31) hX dX10_readImage_29 rfl rfl ?_
    refine zt_cVi (pc' := 34) hX dX10_readImage_31 rfl zm_yX9_byteAt zw_69_2 zc_1 (by decide) zs_2 (q := (RX9, TX9, 2)) rfl rfl (yc_X9_byteAt _ _ σ hI ((2 + r5) + (4 * (σ 17 12))) ⟨by omega, by omega⟩) rfl rfl (Nat.le_of_ble_eq_true rfl) (by decide) (fun r16 s17 hr18 hp19 => ?_)
    obtain ⟨rfl, q20, q21, z22⟩ := hp19
    refine zt_aload_n (pc' := 35) hX dX10_readImage_34 rfl rfl ?_
    refine zt_iload (pc' := 37) hX dX10_readImage_35 rfl rfl ?_
    refine zt_cVi (pc' := 40) hX dX10_readImage_37 rfl zm_yX9_checkOf zw_69_3 zc_1 (by decide) zs_2 (q := (RX9, TX9, 2)) rfl rfl (yd_X9_checkOf _ _ σ hI ((2 + r5) + (4 * (σ 17 12))) ⟨by omega, by omega⟩) rfl rfl (Nat.le_of_ble_eq_true rfl) (by decide) (fun r23 s24 hr25 hp26 => ?_)
    obtain ⟨rfl, q27, q28, z29⟩ := hp26
    refine zt_iceq (pc' := 43) (tgt := 45) hX dX10_readImage_40 rfl (by decide) ⟨by omega, by omega⟩ ⟨by omega, by omega⟩ (fun c30 => ?_) (fun c30 => ?_)
    · refine zt_aload_n (pc' := 46) hX dX10_readImage_45 rfl rfl ?_
      refine zt_aload_n (pc' := 47) hX dX10_readImage_46 rfl rfl ?_
      refine zt_iconst (pc' := 48) hX dX10_readImage_47 rfl ?_
      refine zt_cVi (pc' := 51) hX dX10_readImage_48 rfl zm_yX9_pairAt zw_69_4 zc_1 (by decide) zs_2 (q := (RX9, TX9, 2)) rfl rfl (yd_X9_pairAt _ _ σ hI 0 ⟨by omega, by omega⟩ (by omega)) rfl rfl (Nat.le_of_ble_eq_true rfl) (by decide) (fun r31 s32 hr33 hp34 => ?_)
      obtain ⟨rfl, q35, q36, z37⟩ := hp34
      refine zt_put (pc' := 54) (x := r31) hX dX10_readImage_51 rfl zf_X10_28 (by decide) zc_40 zs_22 (fun q hq => by cases hq; rfl) rfl rfl rfl ?_
      generalize hs39 : zset σ 40 5 r31 = s38
      have hI40 : zInv s38 := hs39 ▸ zp_22_5 hI zc_40 ⟨by omega, by omega⟩
      have hF41 : zOn zSe σ s38 := hs39 ▸ zOn_set hF rfl
      have e42 : s38 1 1 = σ 1 1 := by rw [← hs39]; exact zset_k (zne_r zc_1 zc_40 (by decide))
      have e43 : s38 17 10 = σ 17 10 := by rw [← hs39]; exact zset_k (zne_r zc_17 zc_40 (by decide))
      have e44 : s38 17 11 = σ 17 11 := by rw [← hs39]; exact zset_k (zne_r zc_17 zc_40 (by decide))
      have e45 : s38 17 12 = σ 17 12 := by rw [← hs39]; exact zset_k (zne_r zc_17 zc_40 (by decide))
      refine zt_aload_n (pc' := 55) hX dX10_readImage_54 rfl rfl ?_
      refine zt_lconst (pc' := 56) (y := 0) hX dX10_readImage_55 rfl (by decide +kernel) ?_
      refine zt_put (pc' := 59) (x := 0) hX dX10_readImage_56 rfl zf_X10_31 (by decide) zc_40 zs_22 (fun q hq => by cases hq; rfl) rfl rfl rfl ?_
      generalize hs47 : zset s38 40 6 0 = s46
      have hI48 : zInv s46 := hs47 ▸ zp_22_6 hI40 zc_40 ⟨by omega, by omega⟩
      have hF49 : zOn zSe σ s46 := hs47 ▸ zOn_set hF41 rfl
      have e50 : s46 1 1 = s38 1 1 := by rw [← hs47]; exact zset_k (zne_r zc_1 zc_40 (by decide))
      have e51 : s46 17 10 = s38 17 10 := by rw [← hs47]; exact zset_k (zne_r zc_17 zc_40 (by decide))
      have e52 : s46 17 11 = s38 17 11 := by rw [← hs47]; exact zset_k (zne_r zc_17 zc_40 (by decide))
      have e53 : s46 17 12 = s38 17 12 := by rw [← hs47]; exact zset_k (zne_r zc_17 zc_40 (by decide))
      refine zt_aload_n (pc' := 60) hX dX10_readImage_59 rfl rfl ?_
      refine zt_iconst (pc' := 61) hX dX10_readImage_60 rfl ?_
      refine zt_put (pc' := 64) (x := 0) hX dX10_readImage_61 rfl zf_X10_35 (by decide) zc_40 zs_22 (fun q hq => by cases hq; rfl) rfl rfl rfl ?_
      generalize hs55 : zset s46 40 7 0 = s54
      have hI56 : zInv s54 := hs55 ▸ zp_22_7 hI48 zc_40 ⟨by omega, by omega⟩
      have hF57 : zOn zSe σ s54 := hs55 ▸ zOn_set hF49 rfl
      have e58 : s54 1 1 = s46 1 1 := by rw [← hs55]; exact zset_k (zne_r zc_1 zc_40 (by decide))
      have e59 : s54 17 10 = s46 17 10 := by rw [← hs55]; exact zset_k (zne_r zc_17 zc_40 (by decide))
      have e60 : s54 17 11 = s46 17 11 := by rw [← hs55]; exact zset_k (zne_r zc_17 zc_40 (by decide))
      have e61 : s54 17 12 = s46 17 12 := by rw [← hs55]; exact zset_k (zne_r zc_17 zc_40 (by decide))
      refine zt_aload_n (pc' := 65) hX dX10_readImage_64 rfl rfl ?_
      have b62 := zv_22_5 hI56 zc_40
      have e63 : s54 40 5 = s46 40 5 := by rw [← hs55]; exact zset_j (by decide)
      have e64 : s46 40 5 = s38 40 5 := by rw [← hs47]; exact zset_j (by decide)
      have e65 : s38 40 5 = r31 := by rw [← hs39]; exact zset_s
      refine zt_get (pc' := 68) (v := .int (zI (s54 40 5))) hX dX10_readImage_65 rfl zf_X10_28 (by decide) zc_40 zs_22 rfl ?_
      refine zt_sipush (pc' := 71) hX dX10_readImage_68 rfl (by decide) (by decide) ?_
      refine zt_icgt (pc' := 74) (tgt := 78) hX dX10_readImage_71 rfl (by decide) ⟨by omega, by omega⟩ ⟨by omega, by omega⟩ (fun c66 => ?_) (fun c66 => ?_)
      · refine zt_iconst (pc' := 79) hX dX10_readImage_78 rfl ?_
        refine zt_istore (pc' := 81) (lv' := [some (.ref (X.1.1 + 40)), some (.ref (X.1.1 + 17)), some (.ref (X.1.1 + 1)), some (.int (zI (2 + r5))), some (.int (zI ((2 + r5) + (4 * (σ 17 12))))), some (.int (zI 0)), none, none]) hX dX10_readImage_79 rfl hL (by decide) rfl ?_
        refine zt_iconst (pc' := 82) hX dX10_readImage_81 rfl ?_
        refine zt_istore (pc' := 84) (lv' := [some (.ref (X.1.1 + 40)), some (.ref (X.1.1 + 17)), some (.ref (X.1.1 + 1)), some (.int (zI (2 + r5))), some (.int (zI ((2 + r5) + (4 * (σ 17 12))))), some (.int (zI 0)), some (.int (zI 0)), none]) hX dX10_readImage_82 rfl hL (by decide) rfl ?_
        have L_84_82 : ∀ (N : Nat) (x67 : Int) (x70 : Int) (s73 : zSto), 0 ≤ x67 → x67 ≤ 1 → 0 ≤ x70 → x70 ≤ 36 → zInv s73 → zOn zSe σ s73 → 0 ≤ x70 → x70 ≤ (σ 17 10 * σ 17 11) → s73 17 10 = σ 17 10 → s73 17 11 = σ 17 11 → s73 17 12 = σ 17 12 → s73 1 1 = σ 1 1 → yJ1 (yT σ) (σ 1 1) (σ 17 10) (σ 17 11) (σ 17 12) x67 x70 → ((37 - x70).toNat) < N → zF X s73 84 [some (.ref (X.1.1 + 40)), some (.ref (X.1.1 + 17)), some (.ref (X.1.1 + 1)), some (.int (zI (2 + r5))), none, some (.int (zI x67)), some (.int (zI x70)), none] [] := by
          intro N
          induction N with
          | zero =>
            intro x67 x70 s73 h68 h69 h71 h72 hI74 hF75 g76 g77 g78 g79 g80 g81 g82 hm84
            exact absurd hm84 (Nat.not_lt_zero _)
          | succ N ih85 =>
            intro x67 x70 s73 h68 h69 h71 h72 hI74 hF75 g76 g77 g78 g79 g80 g81 g82 hm84
            have b86 := zv_2_1 hI74 zc_1
            have b87 := zv_8_10 hI74 zc_17
            have b88 := zv_8_11 hI74 zc_17
            have b89 := zv_8_12 hI74 zc_17
            rcases g82 with ⟨hv90, mh91, mc92⟩ | ⟨hv90, mx93⟩
            · refine zt_iload (pc' := 86) hX dX10_readImage_84 rfl rfl ?_
              refine zt_aload_n (pc' := 87) hX dX10_readImage_86 rfl rfl ?_
              refine zt_cVi (pc' := 90) hX dX10_readImage_87 rfl zm_yX3_cells zw_69_1 zc_17 (by decide) zs_8 (q := (RX3, TX3, 17)) rfl rfl (yd_X3_cells_17 _ _ s73 hI74 ) rfl rfl (Nat.le_of_ble_eq_true rfl) (by decide) (fun r94 s95 hr96 hp97 => ?_)
              obtain ⟨rfl, q98, q99, z100⟩ := hp97
              have hc101 : r94 = σ 17 10 * σ 17 11 := z100.trans (ymul_c (by omega) (by omega))
              clear z100
              refine zt_icge (pc' := 93) (tgt := 144) hX dX10_readImage_90 rfl (by decide) ⟨by omega, by omega⟩ ⟨by omega, by omega⟩ (fun c102 => ?_) (fun c102 => ?_)
              · refine zt_iconst (pc' := 145) hX dX10_readImage_144 rfl ?_
                refine zt_istore (pc' := 147) (lv' := [some (.ref (X.1.1 + 40)), some (.ref (X.1.1 + 17)), some (.ref (X.1.1 + 1)), some (.int (zI (2 + r5))), none, some (.int (zI x67)), some (.int (zI 0)), none]) hX dX10_readImage_145 rfl hL (by decide) rfl ?_
                have L_147_118 : ∀ (N : Nat) (x103 : Int) (x106 : Int) (s109 : zSto), 0 ≤ x103 → x103 ≤ 1 → 0 ≤ x106 → x106 ≤ 10 → zInv s109 → zOn zSe σ s109 → 0 ≤ x106 → x106 ≤ (σ 17 12) → s109 17 10 = σ 17 10 → s109 17 11 = σ 17 11 → s109 17 12 = σ 17 12 → s109 1 1 = σ 1 1 → yJ2 (yT σ) s109 (σ 1 1) (σ 17 10) (σ 17 11) (σ 17 12) x103 x106 → ((11 - x106).toNat) < N → zF X s109 147 [some (.ref (X.1.1 + 40)), some (.ref (X.1.1 + 17)), some (.ref (X.1.1 + 1)), some (.int (zI (2 + r5))), none, some (.int (zI x103)), some (.int (zI x106)), none] [] := by
                  intro N
                  induction N with
                  | zero =>
                    intro x103 x106 s109 h104 h105 h107 h108 hI110 hF111 g112 g113 g114 g115 g116 g117 g118 hm120
                    exact absurd hm120 (Nat.not_lt_zero _)
                  | succ N ih121 =>
                    intro x103 x106 s109 h104 h105 h107 h108 hI110 hF111 g112 g113 g114 g115 g116 g117 g118 hm120
                    have b122 := zv_2_1 hI110 zc_1
                    have b123 := zv_8_10 hI110 zc_17
                    have b124 := zv_8_11 hI110 zc_17
                    have b125 := zv_8_12 hI110 zc_17
                    rcases g118 with ⟨hv126, mh127, mc128, mp129, ma130⟩ | ⟨hv126, mx131⟩
                    · refine zt_iload (pc' := 149) hX dX10_readImage_147 rfl rfl ?_
                      refine zt_aload_n (pc' := 150) hX dX10_readImage_149 rfl rfl ?_
                      have b132 := zv_8_12 hI110 zc_17
                      refine zt_get (pc' := 153) (v := .int (zI (s109 17 12))) hX dX10_readImage_150 rfl zf_X10_38 (by decide) zc_17 zs_8 rfl ?_
                      refine zt_icge (pc' := 156) (tgt := 191) hX dX10_readImage_153 rfl (by decide) ⟨by omega, by omega⟩ ⟨by omega, by omega⟩ (fun c133 => ?_) (fun c133 => ?_)
                      · refine zt_iload (pc' := 193) hX dX10_readImage_191 rfl rfl ?_
                        exact zt_zret hX hR dX10_readImage_193 ⟨by omega, by omega⟩ ⟨hI110, hF111, by omega, by omega, (yIr_y ⟨mh127, mc128, (by rw [show (σ 17 12) = x106 by omega]; exact mp129)⟩ hv126)⟩
                      · refine zt_iload (pc' := 158) hX dX10_readImage_156 rfl rfl ?_
                        refine zt_ifeq (pc' := 161) (tgt := 182) hX dX10_readImage_158 rfl (by decide) ⟨by omega, by omega⟩ (fun c134 => ?_) (fun c134 => ?_)
                        · exact absurd c134 (by omega)
                        · refine zt_aload_n (pc' := 162) hX dX10_readImage_161 rfl rfl ?_
                          refine zt_aload_n (pc' := 163) hX dX10_readImage_162 rfl rfl ?_
                          refine zt_aload_n (pc' := 164) hX dX10_readImage_163 rfl rfl ?_
                          refine zt_iload (pc' := 166) hX dX10_readImage_164 rfl rfl ?_
                          refine zt_iload_n (pc' := 167) hX dX10_readImage_166 rfl rfl ?_
                          refine zt_iconst (pc' := 168) hX dX10_readImage_167 rfl ?_
                          refine zt_iload (pc' := 170) hX dX10_readImage_168 rfl rfl ?_
                          refine zt_imul (pc' := 171) hX dX10_readImage_170 rfl ?_
                          refine zt_iadd (pc' := 172) hX dX10_readImage_171 rfl ?_
                          refine zt_cVz (pc' := 175) hX dX10_readImage_172 rfl zm_yX10_readPerson zw_69_5 zc_40 (by decide) zs_22 (q := (RX10, TX10, 8)) rfl rfl (yd_X10_readPerson_17 _ _ s109 hI110 x106 ⟨by omega, by omega⟩ ((2 + r5) + (4 * x106)) ⟨by omega, by omega⟩ (yT σ) (yT_eq (hF111 1 1 rfl) (fun j => hF111 2 j rfl)) (2 + σ 17 10 * σ 17 11) (by omega) (σ 17 10) (σ 17 11) ⟨by omega, by omega⟩ ma130) rfl rfl (Nat.le_of_ble_eq_true rfl) (by decide) (fun r135 s136 hr137 hp138 => ?_)
                          obtain ⟨hI139, hF140, q141, q142, z143⟩ := hp138
                          have hF144 := zOn_tr hF111 hF140 zi_id
                          have b145 := zv_2_1 hI139 zc_1
                          have b146 := zv_8_10 hI139 zc_17
                          have b147 := zv_8_11 hI139 zc_17
                          have b148 := zv_8_12 hI139 zc_17
                          have e149 := hF140 1 1 rfl
                          have e150 := hF140 17 10 rfl
                          have e151 := hF140 17 11 rfl
                          have e152 := hF140 17 12 rfl
                          rcases id z143 with ⟨rfl, c153⟩ | ⟨rfl, c153⟩
                          · clear z143
                            refine zt_ifeq (pc' := 178) (tgt := 182) hX dX10_readImage_175 rfl (by decide) ⟨by omega, by omega⟩ (fun c154 => ?_) (fun c154 => ?_)
                            · exact absurd c154 (by omega)
                            · refine zt_iconst (pc' := 179) hX dX10_readImage_178 rfl ?_
                              refine zt_goto (tgt := 183) hX dX10_readImage_179 (by decide) ?_
                              refine zt_istore (pc' := 185) (lv' := [some (.ref (X.1.1 + 40)), some (.ref (X.1.1 + 17)), some (.ref (X.1.1 + 1)), some (.int (zI (2 + r5))), none, some (.int (zI 1)), some (.int (zI x106)), none]) hX dX10_readImage_183 rfl hL (by decide) rfl ?_
                              refine zt_iinc (pc' := 188) (lv' := [some (.ref (X.1.1 + 40)), some (.ref (X.1.1 + 17)), some (.ref (X.1.1 + 1)), some (.int (zI (2 + r5))), none, some (.int (zI 1)), some (.int (zI (x106 + 1))), none]) hX dX10_readImage_185 rfl rfl hL (by decide) rfl ?_
                              refine zt_goto (tgt := 147) hX dX10_readImage_188 (by decide) ?_
                              exact ih121 1 (x106 + 1) s136 (by omega) (by omega) (by omega) (by omega) hI139 hF144 (by omega) (by omega) (by omega) (by omega) (by omega) (by omega) (Or.inl ⟨rfl, mh127, mc128, yPs__s mp129 c153.1, c153.2⟩) (by omega)
                          · clear z143
                            refine zt_ifeq (pc' := 178) (tgt := 182) hX dX10_readImage_175 rfl (by decide) ⟨by omega, by omega⟩ (fun c155 => ?_) (fun c155 => ?_)
                            · refine zt_iconst (pc' := 183) hX dX10_readImage_182 rfl ?_
                              refine zt_istore (pc' := 185) (lv' := [some (.ref (X.1.1 + 40)), some (.ref (X.1.1 + 17)), some (.ref (X.1.1 + 1)), some (.int (zI (2 + r5))), none, some (.int (zI 0)), some (.int (zI x106)), none]) hX dX10_readImage_183 rfl hL (by decide) rfl ?_
                              refine zt_iinc (pc' := 188) (lv' := [some (.ref (X.1.1 + 40)), some (.ref (X.1.1 + 17)), some (.ref (X.1.1 + 1)), some (.int (zI (2 + r5))), none, some (.int (zI 0)), some (.int (zI (x106 + 1))), none]) hX dX10_readImage_185 rfl rfl hL (by decide) rfl ?_
                              refine zt_goto (tgt := 147) hX dX10_readImage_188 (by decide) ?_
                              exact ih121 0 (x106 + 1) s136 (by omega) (by omega) (by omega) (by omega) hI139 hF144 (by omega) (by omega) (by omega) (by omega) (by omega) (by omega) (Or.inr ⟨rfl, fun g => yPs__n (k := x106) (by omega) (by omega) c153 g.2.2⟩) (by omega)
                            · exact absurd c155 (by omega)
                    · refine zt_iload (pc' := 149) hX dX10_readImage_147 rfl rfl ?_
                      refine zt_aload_n (pc' := 150) hX dX10_readImage_149 rfl rfl ?_
                      have b156 := zv_8_12 hI110 zc_17
                      refine zt_get (pc' := 153) (v := .int (zI (s109 17 12))) hX dX10_readImage_150 rfl zf_X10_38 (by decide) zc_17 zs_8 rfl ?_
                      refine zt_icge (pc' := 156) (tgt := 191) hX dX10_readImage_153 rfl (by decide) ⟨by omega, by omega⟩ ⟨by omega, by omega⟩ (fun c157 => ?_) (fun c157 => ?_)
                      · refine zt_iload (pc' := 193) hX dX10_readImage_191 rfl rfl ?_
                        exact zt_zret hX hR dX10_readImage_193 ⟨by omega, by omega⟩ ⟨hI110, hF111, by omega, by omega, (yIr_n mx131 hv126)⟩
                      · refine zt_iload (pc' := 158) hX dX10_readImage_156 rfl rfl ?_
                        refine zt_ifeq (pc' := 161) (tgt := 182) hX dX10_readImage_158 rfl (by decide) ⟨by omega, by omega⟩ (fun c158 => ?_) (fun c158 => ?_)
                        · refine zt_iconst (pc' := 183) hX dX10_readImage_182 rfl ?_
                          refine zt_istore (pc' := 185) (lv' := [some (.ref (X.1.1 + 40)), some (.ref (X.1.1 + 17)), some (.ref (X.1.1 + 1)), some (.int (zI (2 + r5))), none, some (.int (zI 0)), some (.int (zI x106)), none]) hX dX10_readImage_183 rfl hL (by decide) rfl ?_
                          refine zt_iinc (pc' := 188) (lv' := [some (.ref (X.1.1 + 40)), some (.ref (X.1.1 + 17)), some (.ref (X.1.1 + 1)), some (.int (zI (2 + r5))), none, some (.int (zI 0)), some (.int (zI (x106 + 1))), none]) hX dX10_readImage_185 rfl rfl hL (by decide) rfl ?_
                          refine zt_goto (tgt := 147) hX dX10_readImage_188 (by decide) ?_
                          exact ih121 0 (x106 + 1) s109 (by omega) (by omega) (by omega) (by omega) hI110 hF111 (by omega) (by omega) (by omega) (by omega) (by omega) (by omega) (Or.inr ⟨rfl, mx131⟩) (by omega)
                        · exact absurd c158 (by omega)
                exact L_147_118 _ x67 0 s73 (by omega) (by omega) (by omega) (by omega) hI74 hF75 (by omega) (by omega) (by omega) (by omega) (by omega) (by omega) (Or.inl ⟨hv90, mh91, (by rw [show (σ 17 10 * σ 17 11) = x70 by omega]; exact mc92), yPs__0, yAh_0⟩) (Nat.lt_succ_self _)
              · refine zt_aload_n (pc' := 94) hX dX10_readImage_93 rfl rfl ?_
                refine zt_iconst (pc' := 95) hX dX10_readImage_94 rfl ?_
                refine zt_iload (pc' := 97) hX dX10_readImage_95 rfl rfl ?_
                refine zt_iadd (pc' := 98) hX dX10_readImage_97 rfl ?_
                refine zt_cVi (pc' := 101) hX dX10_readImage_98 rfl zm_yX9_byteAt zw_69_2 zc_1 (by decide) zs_2 (q := (RX9, TX9, 2)) rfl rfl (yc_X9_byteAt _ _ s73 hI74 (2 + x70) ⟨by omega, by omega⟩) rfl rfl (Nat.le_of_ble_eq_true rfl) (by decide) (fun r159 s160 hr161 hp162 => ?_)
                obtain ⟨rfl, q163, q164, z165⟩ := hp162
                have w166 := z165.trans (congrFun (yT_eq (hF75 1 1 rfl) (fun j => hF75 2 j rfl)) _)
                clear z165
                refine zt_istore (pc' := 103) (lv' := [some (.ref (X.1.1 + 40)), some (.ref (X.1.1 + 17)), some (.ref (X.1.1 + 1)), some (.int (zI (2 + r5))), none, some (.int (zI x67)), some (.int (zI x70)), some (.int (zI r159))]) hX dX10_readImage_101 rfl hL (by decide) rfl ?_
                refine zt_iload (pc' := 105) hX dX10_readImage_103 rfl rfl ?_
                refine zt_ifeq (pc' := 108) (tgt := 118) hX dX10_readImage_105 rfl (by decide) ⟨by omega, by omega⟩ (fun c167 => ?_) (fun c167 => ?_)
                · exact absurd c167 (by omega)
                · refine zt_iload (pc' := 110) hX dX10_readImage_108 rfl rfl ?_
                  refine zt_iconst (pc' := 111) hX dX10_readImage_110 rfl ?_
                  refine zt_icgt (pc' := 114) (tgt := 118) hX dX10_readImage_111 rfl (by decide) ⟨by omega, by omega⟩ ⟨by omega, by omega⟩ (fun c168 => ?_) (fun c168 => ?_)
                  · refine zt_iconst (pc' := 119) hX dX10_readImage_118 rfl ?_
                    refine zt_istore (pc' := 121) (lv' := [some (.ref (X.1.1 + 40)), some (.ref (X.1.1 + 17)), some (.ref (X.1.1 + 1)), some (.int (zI (2 + r5))), none, some (.int (zI 0)), some (.int (zI x70)), some (.int (zI r159))]) hX dX10_readImage_119 rfl hL (by decide) rfl ?_
                    refine zt_aload_n (pc' := 122) hX dX10_readImage_121 rfl rfl ?_
                    refine zt_dup (pc' := 123) hX dX10_readImage_122 rfl rfl ?_
                    have b169 := zv_22_6 hI74 zc_40
                    refine zt_get (pc' := 126) (v := .long (zJ (s73 40 6))) hX dX10_readImage_123 rfl zf_X10_31 (by decide) zc_40 zs_22 rfl ?_
                    refine zt_iload (pc' := 128) hX dX10_readImage_126 rfl rfl ?_
                    refine zt_iconst (pc' := 129) hX dX10_readImage_128 rfl ?_
                    refine zt_iandm (pc' := 130) hX dX10_readImage_129 rfl 1 (by decide +kernel) (by decide) (fun r170 er170 lr170 ur170 => ?_)
                    have ur170 : r170 ≤ 1 := by omega
                    refine zt_i2l (pc' := 131) hX dX10_readImage_130 rfl ⟨by omega, by omega⟩ ?_
                    refine zt_iload (pc' := 133) hX dX10_readImage_131 rfl rfl ?_
                    refine zt_lshl (pc' := 134) hX dX10_readImage_133 rfl (fun r171 zr171 lr171 ur171 => ?_)
                    clear zr171
                    refine zt_lor (pc' := 135) hX dX10_readImage_134 rfl (fun r172 zr172 lr172 ur172 => ?_)
                    clear zr172
                    refine zt_put (pc' := 138) (x := r172) hX dX10_readImage_135 rfl zf_X10_31 (by decide) zc_40 zs_22 (fun q hq => by cases hq; rfl) rfl rfl rfl ?_
                    generalize hs174 : zset s73 40 6 r172 = s173
                    have hI175 : zInv s173 := hs174 ▸ zp_22_6 hI74 zc_40 ⟨by omega, by omega⟩
                    have hF176 : zOn zSe σ s173 := hs174 ▸ zOn_set hF75 rfl
                    have e177 : s173 1 1 = s73 1 1 := by rw [← hs174]; exact zset_k (zne_r zc_1 zc_40 (by decide))
                    have e178 : s173 17 10 = s73 17 10 := by rw [← hs174]; exact zset_k (zne_r zc_17 zc_40 (by decide))
                    have e179 : s173 17 11 = s73 17 11 := by rw [← hs174]; exact zset_k (zne_r zc_17 zc_40 (by decide))
                    have e180 : s173 17 12 = s73 17 12 := by rw [← hs174]; exact zset_k (zne_r zc_17 zc_40 (by decide))
                    refine zt_iinc (pc' := 141) (lv' := [some (.ref (X.1.1 + 40)), some (.ref (X.1.1 + 17)), some (.ref (X.1.1 + 1)), some (.int (zI (2 + r5))), none, some (.int (zI 0)), some (.int (zI (x70 + 1))), some (.int (zI r159))]) hX dX10_readImage_138 rfl rfl hL (by decide) rfl ?_
                    refine zt_goto (tgt := 84) hX dX10_readImage_141 (by decide) ?_
                    refine zt_mask [true, true, true, true, false, true, true, false] rfl ?_
                    exact ih85 0 (x70 + 1) s173 (by omega) (by omega) (by omega) (by omega) hI175 hF176 (by omega) (by omega) (by omega) (by omega) (by omega) (by omega) (Or.inr ⟨rfl, fun g => yCe_n (k := x70) (by omega) (by omega) w166 rfl (by omega) g.2.1⟩) (by omega)
                  · refine zt_iconst (pc' := 115) hX dX10_readImage_114 rfl ?_
                    refine zt_goto (tgt := 119) hX dX10_readImage_115 (by decide) ?_
                    refine zt_istore (pc' := 121) (lv' := [some (.ref (X.1.1 + 40)), some (.ref (X.1.1 + 17)), some (.ref (X.1.1 + 1)), some (.int (zI (2 + r5))), none, some (.int (zI 1)), some (.int (zI x70)), some (.int (zI r159))]) hX dX10_readImage_119 rfl hL (by decide) rfl ?_
                    refine zt_aload_n (pc' := 122) hX dX10_readImage_121 rfl rfl ?_
                    refine zt_dup (pc' := 123) hX dX10_readImage_122 rfl rfl ?_
                    have b181 := zv_22_6 hI74 zc_40
                    refine zt_get (pc' := 126) (v := .long (zJ (s73 40 6))) hX dX10_readImage_123 rfl zf_X10_31 (by decide) zc_40 zs_22 rfl ?_
                    refine zt_iload (pc' := 128) hX dX10_readImage_126 rfl rfl ?_
                    refine zt_iconst (pc' := 129) hX dX10_readImage_128 rfl ?_
                    refine zt_iandm (pc' := 130) hX dX10_readImage_129 rfl 1 (by decide +kernel) (by decide) (fun r182 er182 lr182 ur182 => ?_)
                    have ur182 : r182 ≤ 1 := by omega
                    refine zt_i2l (pc' := 131) hX dX10_readImage_130 rfl ⟨by omega, by omega⟩ ?_
                    refine zt_iload (pc' := 133) hX dX10_readImage_131 rfl rfl ?_
                    refine zt_lshl (pc' := 134) hX dX10_readImage_133 rfl (fun r183 zr183 lr183 ur183 => ?_)
                    clear zr183
                    refine zt_lor (pc' := 135) hX dX10_readImage_134 rfl (fun r184 zr184 lr184 ur184 => ?_)
                    clear zr184
                    refine zt_put (pc' := 138) (x := r184) hX dX10_readImage_135 rfl zf_X10_31 (by decide) zc_40 zs_22 (fun q hq => by cases hq; rfl) rfl rfl rfl ?_
                    generalize hs186 : zset s73 40 6 r184 = s185
                    have hI187 : zInv s185 := hs186 ▸ zp_22_6 hI74 zc_40 ⟨by omega, by omega⟩
                    have hF188 : zOn zSe σ s185 := hs186 ▸ zOn_set hF75 rfl
                    have e189 : s185 1 1 = s73 1 1 := by rw [← hs186]; exact zset_k (zne_r zc_1 zc_40 (by decide))
                    have e190 : s185 17 10 = s73 17 10 := by rw [← hs186]; exact zset_k (zne_r zc_17 zc_40 (by decide))
                    have e191 : s185 17 11 = s73 17 11 := by rw [← hs186]; exact zset_k (zne_r zc_17 zc_40 (by decide))
                    have e192 : s185 17 12 = s73 17 12 := by rw [← hs186]; exact zset_k (zne_r zc_17 zc_40 (by decide))
                    refine zt_iinc (pc' := 141) (lv' := [some (.ref (X.1.1 + 40)), some (.ref (X.1.1 + 17)), some (.ref (X.1.1 + 1)), some (.int (zI (2 + r5))), none, some (.int (zI 1)), some (.int (zI (x70 + 1))), some (.int (zI r159))]) hX dX10_readImage_138 rfl rfl hL (by decide) rfl ?_
                    refine zt_goto (tgt := 84) hX dX10_readImage_141 (by decide) ?_
                    refine zt_mask [true, true, true, true, false, true, true, false] rfl ?_
                    exact ih85 1 (x70 + 1) s185 (by omega) (by omega) (by omega) (by omega) hI187 hF188 (by omega) (by omega) (by omega) (by omega) (by omega) (by omega) (Or.inl ⟨rfl, mh91, yCe_s mc92 w166 rfl (by omega)⟩) (by omega)
            · refine zt_iload (pc' := 86) hX dX10_readImage_84 rfl rfl ?_
              refine zt_aload_n (pc' := 87) hX dX10_readImage_86 rfl rfl ?_
              refine zt_cVi (pc' := 90) hX dX10_readImage_87 rfl zm_yX3_cells zw_69_1 zc_17 (by decide) zs_8 (q := (RX3, TX3, 17)) rfl rfl (yd_X3_cells_17 _ _ s73 hI74 ) rfl rfl (Nat.le_of_ble_eq_true rfl) (by decide) (fun r193 s194 hr195 hp196 => ?_)
              obtain ⟨rfl, q197, q198, z199⟩ := hp196
              have hc200 : r193 = σ 17 10 * σ 17 11 := z199.trans (ymul_c (by omega) (by omega))
              clear z199
              refine zt_icge (pc' := 93) (tgt := 144) hX dX10_readImage_90 rfl (by decide) ⟨by omega, by omega⟩ ⟨by omega, by omega⟩ (fun c201 => ?_) (fun c201 => ?_)
              · refine zt_iconst (pc' := 145) hX dX10_readImage_144 rfl ?_
                refine zt_istore (pc' := 147) (lv' := [some (.ref (X.1.1 + 40)), some (.ref (X.1.1 + 17)), some (.ref (X.1.1 + 1)), some (.int (zI (2 + r5))), none, some (.int (zI x67)), some (.int (zI 0)), none]) hX dX10_readImage_145 rfl hL (by decide) rfl ?_
                have L_147_217 : ∀ (N : Nat) (x202 : Int) (x205 : Int) (s208 : zSto), 0 ≤ x202 → x202 ≤ 1 → 0 ≤ x205 → x205 ≤ 10 → zInv s208 → zOn zSe σ s208 → 0 ≤ x205 → x205 ≤ (σ 17 12) → s208 17 10 = σ 17 10 → s208 17 11 = σ 17 11 → s208 17 12 = σ 17 12 → s208 1 1 = σ 1 1 → yJ2 (yT σ) s208 (σ 1 1) (σ 17 10) (σ 17 11) (σ 17 12) x202 x205 → ((11 - x205).toNat) < N → zF X s208 147 [some (.ref (X.1.1 + 40)), some (.ref (X.1.1 + 17)), some (.ref (X.1.1 + 1)), some (.int (zI (2 + r5))), none, some (.int (zI x202)), some (.int (zI x205)), none] [] := by
                  intro N
                  induction N with
                  | zero =>
                    intro x202 x205 s208 h203 h204 h206 h207 hI209 hF210 g211 g212 g213 g214 g215 g216 g217 hm219
                    exact absurd hm219 (Nat.not_lt_zero _)
                  | succ N ih220 =>
                    intro x202 x205 s208 h203 h204 h206 h207 hI209 hF210 g211 g212 g213 g214 g215 g216 g217 hm219
                    have b221 := zv_2_1 hI209 zc_1
                    have b222 := zv_8_10 hI209 zc_17
                    have b223 := zv_8_11 hI209 zc_17
                    have b224 := zv_8_12 hI209 zc_17
                    rcases g217 with ⟨hv225, mh226, mc227, mp228, ma229⟩ | ⟨hv225, mx230⟩
                    · refine zt_iload (pc' := 149) hX dX10_readImage_147 rfl rfl ?_
                      refine zt_aload_n (pc' := 150) hX dX10_readImage_149 rfl rfl ?_
                      have b231 := zv_8_12 hI209 zc_17
                      refine zt_get (pc' := 153) (v := .int (zI (s208 17 12))) hX dX10_readImage_150 rfl zf_X10_38 (by decide) zc_17 zs_8 rfl ?_
                      refine zt_icge (pc' := 156) (tgt := 191) hX dX10_readImage_153 rfl (by decide) ⟨by omega, by omega⟩ ⟨by omega, by omega⟩ (fun c232 => ?_) (fun c232 => ?_)
                      · refine zt_iload (pc' := 193) hX dX10_readImage_191 rfl rfl ?_
                        exact zt_zret hX hR dX10_readImage_193 ⟨by omega, by omega⟩ ⟨hI209, hF210, by omega, by omega, (yIr_y ⟨mh226, mc227, (by rw [show (σ 17 12) = x205 by omega]; exact mp228)⟩ hv225)⟩
                      · refine zt_iload (pc' := 158) hX dX10_readImage_156 rfl rfl ?_
                        refine zt_ifeq (pc' := 161) (tgt := 182) hX dX10_readImage_158 rfl (by decide) ⟨by omega, by omega⟩ (fun c233 => ?_) (fun c233 => ?_)
                        · exact absurd c233 (by omega)
                        · refine zt_aload_n (pc' := 162) hX dX10_readImage_161 rfl rfl ?_
                          refine zt_aload_n (pc' := 163) hX dX10_readImage_162 rfl rfl ?_
                          refine zt_aload_n (pc' := 164) hX dX10_readImage_163 rfl rfl ?_
                          refine zt_iload (pc' := 166) hX dX10_readImage_164 rfl rfl ?_
                          refine zt_iload_n (pc' := 167) hX dX10_readImage_166 rfl rfl ?_
                          refine zt_iconst (pc' := 168) hX dX10_readImage_167 rfl ?_
                          refine zt_iload (pc' := 170) hX dX10_readImage_168 rfl rfl ?_
                          refine zt_imul (pc' := 171) hX dX10_readImage_170 rfl ?_
                          refine zt_iadd (pc' := 172) hX dX10_readImage_171 rfl ?_
                          refine zt_cVz (pc' := 175) hX dX10_readImage_172 rfl zm_yX10_readPerson zw_69_5 zc_40 (by decide) zs_22 (q := (RX10, TX10, 8)) rfl rfl (yd_X10_readPerson_17 _ _ s208 hI209 x205 ⟨by omega, by omega⟩ ((2 + r5) + (4 * x205)) ⟨by omega, by omega⟩ (yT σ) (yT_eq (hF210 1 1 rfl) (fun j => hF210 2 j rfl)) (2 + σ 17 10 * σ 17 11) (by omega) (σ 17 10) (σ 17 11) ⟨by omega, by omega⟩ ma229) rfl rfl (Nat.le_of_ble_eq_true rfl) (by decide) (fun r234 s235 hr236 hp237 => ?_)
                          obtain ⟨hI238, hF239, q240, q241, z242⟩ := hp237
                          have hF243 := zOn_tr hF210 hF239 zi_id
                          have b244 := zv_2_1 hI238 zc_1
                          have b245 := zv_8_10 hI238 zc_17
                          have b246 := zv_8_11 hI238 zc_17
                          have b247 := zv_8_12 hI238 zc_17
                          have e248 := hF239 1 1 rfl
                          have e249 := hF239 17 10 rfl
                          have e250 := hF239 17 11 rfl
                          have e251 := hF239 17 12 rfl
                          rcases id z242 with ⟨rfl, c252⟩ | ⟨rfl, c252⟩
                          · clear z242
                            refine zt_ifeq (pc' := 178) (tgt := 182) hX dX10_readImage_175 rfl (by decide) ⟨by omega, by omega⟩ (fun c253 => ?_) (fun c253 => ?_)
                            · exact absurd c253 (by omega)
                            · refine zt_iconst (pc' := 179) hX dX10_readImage_178 rfl ?_
                              refine zt_goto (tgt := 183) hX dX10_readImage_179 (by decide) ?_
                              refine zt_istore (pc' := 185) (lv' := [some (.ref (X.1.1 + 40)), some (.ref (X.1.1 + 17)), some (.ref (X.1.1 + 1)), some (.int (zI (2 + r5))), none, some (.int (zI 1)), some (.int (zI x205)), none]) hX dX10_readImage_183 rfl hL (by decide) rfl ?_
                              refine zt_iinc (pc' := 188) (lv' := [some (.ref (X.1.1 + 40)), some (.ref (X.1.1 + 17)), some (.ref (X.1.1 + 1)), some (.int (zI (2 + r5))), none, some (.int (zI 1)), some (.int (zI (x205 + 1))), none]) hX dX10_readImage_185 rfl rfl hL (by decide) rfl ?_
                              refine zt_goto (tgt := 147) hX dX10_readImage_188 (by decide) ?_
                              exact ih220 1 (x205 + 1) s235 (by omega) (by omega) (by omega) (by omega) hI238 hF243 (by omega) (by omega) (by omega) (by omega) (by omega) (by omega) (Or.inl ⟨rfl, mh226, mc227, yPs__s mp228 c252.1, c252.2⟩) (by omega)
                          · clear z242
                            refine zt_ifeq (pc' := 178) (tgt := 182) hX dX10_readImage_175 rfl (by decide) ⟨by omega, by omega⟩ (fun c254 => ?_) (fun c254 => ?_)
                            · refine zt_iconst (pc' := 183) hX dX10_readImage_182 rfl ?_
                              refine zt_istore (pc' := 185) (lv' := [some (.ref (X.1.1 + 40)), some (.ref (X.1.1 + 17)), some (.ref (X.1.1 + 1)), some (.int (zI (2 + r5))), none, some (.int (zI 0)), some (.int (zI x205)), none]) hX dX10_readImage_183 rfl hL (by decide) rfl ?_
                              refine zt_iinc (pc' := 188) (lv' := [some (.ref (X.1.1 + 40)), some (.ref (X.1.1 + 17)), some (.ref (X.1.1 + 1)), some (.int (zI (2 + r5))), none, some (.int (zI 0)), some (.int (zI (x205 + 1))), none]) hX dX10_readImage_185 rfl rfl hL (by decide) rfl ?_
                              refine zt_goto (tgt := 147) hX dX10_readImage_188 (by decide) ?_
                              exact ih220 0 (x205 + 1) s235 (by omega) (by omega) (by omega) (by omega) hI238 hF243 (by omega) (by omega) (by omega) (by omega) (by omega) (by omega) (Or.inr ⟨rfl, fun g => yPs__n (k := x205) (by omega) (by omega) c252 g.2.2⟩) (by omega)
                            · exact absurd c254 (by omega)
                    · refine zt_iload (pc' := 149) hX dX10_readImage_147 rfl rfl ?_
                      refine zt_aload_n (pc' := 150) hX dX10_readImage_149 rfl rfl ?_
                      have b255 := zv_8_12 hI209 zc_17
                      refine zt_get (pc' := 153) (v := .int (zI (s208 17 12))) hX dX10_readImage_150 rfl zf_X10_38 (by decide) zc_17 zs_8 rfl ?_
                      refine zt_icge (pc' := 156) (tgt := 191) hX dX10_readImage_153 rfl (by decide) ⟨by omega, by omega⟩ ⟨by omega, by omega⟩ (fun c256 => ?_) (fun c256 => ?_)
                      · refine zt_iload (pc' := 193) hX dX10_readImage_191 rfl rfl ?_
                        exact zt_zret hX hR dX10_readImage_193 ⟨by omega, by omega⟩ ⟨hI209, hF210, by omega, by omega, (yIr_n mx230 hv225)⟩
                      · refine zt_iload (pc' := 158) hX dX10_readImage_156 rfl rfl ?_
                        refine zt_ifeq (pc' := 161) (tgt := 182) hX dX10_readImage_158 rfl (by decide) ⟨by omega, by omega⟩ (fun c257 => ?_) (fun c257 => ?_)
                        · refine zt_iconst (pc' := 183) hX dX10_readImage_182 rfl ?_
                          refine zt_istore (pc' := 185) (lv' := [some (.ref (X.1.1 + 40)), some (.ref (X.1.1 + 17)), some (.ref (X.1.1 + 1)), some (.int (zI (2 + r5))), none, some (.int (zI 0)), some (.int (zI x205)), none]) hX dX10_readImage_183 rfl hL (by decide) rfl ?_
                          refine zt_iinc (pc' := 188) (lv' := [some (.ref (X.1.1 + 40)), some (.ref (X.1.1 + 17)), some (.ref (X.1.1 + 1)), some (.int (zI (2 + r5))), none, some (.int (zI 0)), some (.int (zI (x205 + 1))), none]) hX dX10_readImage_185 rfl rfl hL (by decide) rfl ?_
                          refine zt_goto (tgt := 147) hX dX10_readImage_188 (by decide) ?_
                          exact ih220 0 (x205 + 1) s208 (by omega) (by omega) (by omega) (by omega) hI209 hF210 (by omega) (by omega) (by omega) (by omega) (by omega) (by omega) (Or.inr ⟨rfl, mx230⟩) (by omega)
                        · exact absurd c257 (by omega)
                exact L_147_217 _ x67 0 s73 (by omega) (by omega) (by omega) (by omega) hI74 hF75 (by omega) (by omega) (by omega) (by omega) (by omega) (by omega) (Or.inr ⟨hv90, mx93⟩) (Nat.lt_succ_self _)
              · refine zt_aload_n (pc' := 94) hX dX10_readImage_93 rfl rfl ?_
                refine zt_iconst (pc' := 95) hX dX10_readImage_94 rfl ?_
                refine zt_iload (pc' := 97) hX dX10_readImage_95 rfl rfl ?_
                refine zt_iadd (pc' := 98) hX dX10_readImage_97 rfl ?_
                refine zt_cVi (pc' := 101) hX dX10_readImage_98 rfl zm_yX9_byteAt zw_69_2 zc_1 (by decide) zs_2 (q := (RX9, TX9, 2)) rfl rfl (yc_X9_byteAt _ _ s73 hI74 (2 + x70) ⟨by omega, by omega⟩) rfl rfl (Nat.le_of_ble_eq_true rfl) (by decide) (fun r258 s259 hr260 hp261 => ?_)
                obtain ⟨rfl, q262, q263, z264⟩ := hp261
                have w265 := z264.trans (congrFun (yT_eq (hF75 1 1 rfl) (fun j => hF75 2 j rfl)) _)
                clear z264
                refine zt_istore (pc' := 103) (lv' := [some (.ref (X.1.1 + 40)), some (.ref (X.1.1 + 17)), some (.ref (X.1.1 + 1)), some (.int (zI (2 + r5))), none, some (.int (zI x67)), some (.int (zI x70)), some (.int (zI r258))]) hX dX10_readImage_101 rfl hL (by decide) rfl ?_
                refine zt_iload (pc' := 105) hX dX10_readImage_103 rfl rfl ?_
                refine zt_ifeq (pc' := 108) (tgt := 118) hX dX10_readImage_105 rfl (by decide) ⟨by omega, by omega⟩ (fun c266 => ?_) (fun c266 => ?_)
                · refine zt_iconst (pc' := 119) hX dX10_readImage_118 rfl ?_
                  refine zt_istore (pc' := 121) (lv' := [some (.ref (X.1.1 + 40)), some (.ref (X.1.1 + 17)), some (.ref (X.1.1 + 1)), some (.int (zI (2 + r5))), none, some (.int (zI 0)), some (.int (zI x70)), some (.int (zI r258))]) hX dX10_readImage_119 rfl hL (by decide) rfl ?_
                  refine zt_aload_n (pc' := 122) hX dX10_readImage_121 rfl rfl ?_
                  refine zt_dup (pc' := 123) hX dX10_readImage_122 rfl rfl ?_
                  have b267 := zv_22_6 hI74 zc_40
                  refine zt_get (pc' := 126) (v := .long (zJ (s73 40 6))) hX dX10_readImage_123 rfl zf_X10_31 (by decide) zc_40 zs_22 rfl ?_
                  refine zt_iload (pc' := 128) hX dX10_readImage_126 rfl rfl ?_
                  refine zt_iconst (pc' := 129) hX dX10_readImage_128 rfl ?_
                  refine zt_iandm (pc' := 130) hX dX10_readImage_129 rfl 1 (by decide +kernel) (by decide) (fun r268 er268 lr268 ur268 => ?_)
                  have ur268 : r268 ≤ 1 := by omega
                  refine zt_i2l (pc' := 131) hX dX10_readImage_130 rfl ⟨by omega, by omega⟩ ?_
                  refine zt_iload (pc' := 133) hX dX10_readImage_131 rfl rfl ?_
                  refine zt_lshl (pc' := 134) hX dX10_readImage_133 rfl (fun r269 zr269 lr269 ur269 => ?_)
                  clear zr269
                  refine zt_lor (pc' := 135) hX dX10_readImage_134 rfl (fun r270 zr270 lr270 ur270 => ?_)
                  clear zr270
                  refine zt_put (pc' := 138) (x := r270) hX dX10_readImage_135 rfl zf_X10_31 (by decide) zc_40 zs_22 (fun q hq => by cases hq; rfl) rfl rfl rfl ?_
                  generalize hs272 : zset s73 40 6 r270 = s271
                  have hI273 : zInv s271 := hs272 ▸ zp_22_6 hI74 zc_40 ⟨by omega, by omega⟩
                  have hF274 : zOn zSe σ s271 := hs272 ▸ zOn_set hF75 rfl
                  have e275 : s271 1 1 = s73 1 1 := by rw [← hs272]; exact zset_k (zne_r zc_1 zc_40 (by decide))
                  have e276 : s271 17 10 = s73 17 10 := by rw [← hs272]; exact zset_k (zne_r zc_17 zc_40 (by decide))
                  have e277 : s271 17 11 = s73 17 11 := by rw [← hs272]; exact zset_k (zne_r zc_17 zc_40 (by decide))
                  have e278 : s271 17 12 = s73 17 12 := by rw [← hs272]; exact zset_k (zne_r zc_17 zc_40 (by decide))
                  refine zt_iinc (pc' := 141) (lv' := [some (.ref (X.1.1 + 40)), some (.ref (X.1.1 + 17)), some (.ref (X.1.1 + 1)), some (.int (zI (2 + r5))), none, some (.int (zI 0)), some (.int (zI (x70 + 1))), some (.int (zI r258))]) hX dX10_readImage_138 rfl rfl hL (by decide) rfl ?_
                  refine zt_goto (tgt := 84) hX dX10_readImage_141 (by decide) ?_
                  refine zt_mask [true, true, true, true, false, true, true, false] rfl ?_
                  exact ih85 0 (x70 + 1) s271 (by omega) (by omega) (by omega) (by omega) hI273 hF274 (by omega) (by omega) (by omega) (by omega) (by omega) (by omega) (Or.inr ⟨rfl, mx93⟩) (by omega)
                · exact absurd c266 (by omega)
        refine zt_mask [true, true, true, true, false, true, true, false] rfl ?_
        exact L_84_82 _ 0 0 s54 (by omega) (by omega) (by omega) (by omega) hI56 hF57 (by omega) (by omega) (by omega) (by omega) (by omega) (by omega) (Or.inr ⟨rfl, yIx_h z37 (by omega)⟩) (Nat.lt_succ_self _)
      · refine zt_iconst (pc' := 75) hX dX10_readImage_74 rfl ?_
        refine zt_goto (tgt := 79) hX dX10_readImage_75 (by decide) ?_
        refine zt_istore (pc' := 81) (lv' := [some (.ref (X.1.1 + 40)), some (.ref (X.1.1 + 17)), some (.ref (X.1.1 + 1)), some (.int (zI (2 + r5))), some (.int (zI ((2 + r5) + (4 * (σ 17 12))))), some (.int (zI 1)), none, none]) hX dX10_readImage_79 rfl hL (by decide) rfl ?_
        refine zt_iconst (pc' := 82) hX dX10_readImage_81 rfl ?_
        refine zt_istore (pc' := 84) (lv' := [some (.ref (X.1.1 + 40)), some (.ref (X.1.1 + 17)), some (.ref (X.1.1 + 1)), some (.int (zI (2 + r5))), some (.int (zI ((2 + r5) + (4 * (σ 17 12))))), some (.int (zI 1)), some (.int (zI 0)), none]) hX dX10_readImage_82 rfl hL (by decide) rfl ?_
        have L_84_294 : ∀ (N : Nat) (x279 : Int) (x282 : Int) (s285 : zSto), 0 ≤ x279 → x279 ≤ 1 → 0 ≤ x282 → x282 ≤ 36 → zInv s285 → zOn zSe σ s285 → 0 ≤ x282 → x282 ≤ (σ 17 10 * σ 17 11) → s285 17 10 = σ 17 10 → s285 17 11 = σ 17 11 → s285 17 12 = σ 17 12 → s285 1 1 = σ 1 1 → yJ1 (yT σ) (σ 1 1) (σ 17 10) (σ 17 11) (σ 17 12) x279 x282 → ((37 - x282).toNat) < N → zF X s285 84 [some (.ref (X.1.1 + 40)), some (.ref (X.1.1 + 17)), some (.ref (X.1.1 + 1)), some (.int (zI (2 + r5))), none, some (.int (zI x279)), some (.int (zI x282)), none] [] := by
          intro N
          induction N with
          | zero =>
            intro x279 x282 s285 h280 h281 h283 h284 hI286 hF287 g288 g289 g290 g291 g292 g293 g294 hm296
            exact absurd hm296 (Nat.not_lt_zero _)
          | succ N ih297 =>
            intro x279 x282 s285 h280 h281 h283 h284 hI286 hF287 g288 g289 g290 g291 g292 g293 g294 hm296
            have b298 := zv_2_1 hI286 zc_1
            have b299 := zv_8_10 hI286 zc_17
            have b300 := zv_8_11 hI286 zc_17
            have b301 := zv_8_12 hI286 zc_17
            rcases g294 with ⟨hv302, mh303, mc304⟩ | ⟨hv302, mx305⟩
            · refine zt_iload (pc' := 86) hX dX10_readImage_84 rfl rfl ?_
              refine zt_aload_n (pc' := 87) hX dX10_readImage_86 rfl rfl ?_
              refine zt_cVi (pc' := 90) hX dX10_readImage_87 rfl zm_yX3_cells zw_69_1 zc_17 (by decide) zs_8 (q := (RX3, TX3, 17)) rfl rfl (yd_X3_cells_17 _ _ s285 hI286 ) rfl rfl (Nat.le_of_ble_eq_true rfl) (by decide) (fun r306 s307 hr308 hp309 => ?_)
              obtain ⟨rfl, q310, q311, z312⟩ := hp309
              have hc313 : r306 = σ 17 10 * σ 17 11 := z312.trans (ymul_c (by omega) (by omega))
              clear z312
              refine zt_icge (pc' := 93) (tgt := 144) hX dX10_readImage_90 rfl (by decide) ⟨by omega, by omega⟩ ⟨by omega, by omega⟩ (fun c314 => ?_) (fun c314 => ?_)
              · refine zt_iconst (pc' := 145) hX dX10_readImage_144 rfl ?_
                refine zt_istore (pc' := 147) (lv' := [some (.ref (X.1.1 + 40)), some (.ref (X.1.1 + 17)), some (.ref (X.1.1 + 1)), some (.int (zI (2 + r5))), none, some (.int (zI x279)), some (.int (zI 0)), none]) hX dX10_readImage_145 rfl hL (by decide) rfl ?_
                have L_147_330 : ∀ (N : Nat) (x315 : Int) (x318 : Int) (s321 : zSto), 0 ≤ x315 → x315 ≤ 1 → 0 ≤ x318 → x318 ≤ 10 → zInv s321 → zOn zSe σ s321 → 0 ≤ x318 → x318 ≤ (σ 17 12) → s321 17 10 = σ 17 10 → s321 17 11 = σ 17 11 → s321 17 12 = σ 17 12 → s321 1 1 = σ 1 1 → yJ2 (yT σ) s321 (σ 1 1) (σ 17 10) (σ 17 11) (σ 17 12) x315 x318 → ((11 - x318).toNat) < N → zF X s321 147 [some (.ref (X.1.1 + 40)), some (.ref (X.1.1 + 17)), some (.ref (X.1.1 + 1)), some (.int (zI (2 + r5))), none, some (.int (zI x315)), some (.int (zI x318)), none] [] := by
                  intro N
                  induction N with
                  | zero =>
                    intro x315 x318 s321 h316 h317 h319 h320 hI322 hF323 g324 g325 g326 g327 g328 g329 g330 hm332
                    exact absurd hm332 (Nat.not_lt_zero _)
                  | succ N ih333 =>
                    intro x315 x318 s321 h316 h317 h319 h320 hI322 hF323 g324 g325 g326 g327 g328 g329 g330 hm332
                    have b334 := zv_2_1 hI322 zc_1
                    have b335 := zv_8_10 hI322 zc_17
                    have b336 := zv_8_11 hI322 zc_17
                    have b337 := zv_8_12 hI322 zc_17
                    rcases g330 with ⟨hv338, mh339, mc340, mp341, ma342⟩ | ⟨hv338, mx343⟩
                    · refine zt_iload (pc' := 149) hX dX10_readImage_147 rfl rfl ?_
                      refine zt_aload_n (pc' := 150) hX dX10_readImage_149 rfl rfl ?_
                      have b344 := zv_8_12 hI322 zc_17
                      refine zt_get (pc' := 153) (v := .int (zI (s321 17 12))) hX dX10_readImage_150 rfl zf_X10_38 (by decide) zc_17 zs_8 rfl ?_
                      refine zt_icge (pc' := 156) (tgt := 191) hX dX10_readImage_153 rfl (by decide) ⟨by omega, by omega⟩ ⟨by omega, by omega⟩ (fun c345 => ?_) (fun c345 => ?_)
                      · refine zt_iload (pc' := 193) hX dX10_readImage_191 rfl rfl ?_
                        exact zt_zret hX hR dX10_readImage_193 ⟨by omega, by omega⟩ ⟨hI322, hF323, by omega, by omega, (yIr_y ⟨mh339, mc340, (by rw [show (σ 17 12) = x318 by omega]; exact mp341)⟩ hv338)⟩
                      · refine zt_iload (pc' := 158) hX dX10_readImage_156 rfl rfl ?_
                        refine zt_ifeq (pc' := 161) (tgt := 182) hX dX10_readImage_158 rfl (by decide) ⟨by omega, by omega⟩ (fun c346 => ?_) (fun c346 => ?_)
                        · exact absurd c346 (by omega)
                        · refine zt_aload_n (pc' := 162) hX dX10_readImage_161 rfl rfl ?_
                          refine zt_aload_n (pc' := 163) hX dX10_readImage_162 rfl rfl ?_
                          refine zt_aload_n (pc' := 164) hX dX10_readImage_163 rfl rfl ?_
                          refine zt_iload (pc' := 166) hX dX10_readImage_164 rfl rfl ?_
                          refine zt_iload_n (pc' := 167) hX dX10_readImage_166 rfl rfl ?_
                          refine zt_iconst (pc' := 168) hX dX10_readImage_167 rfl ?_
                          refine zt_iload (pc' := 170) hX dX10_readImage_168 rfl rfl ?_
                          refine zt_imul (pc' := 171) hX dX10_readImage_170 rfl ?_
                          refine zt_iadd (pc' := 172) hX dX10_readImage_171 rfl ?_
                          refine zt_cVz (pc' := 175) hX dX10_readImage_172 rfl zm_yX10_readPerson zw_69_5 zc_40 (by decide) zs_22 (q := (RX10, TX10, 8)) rfl rfl (yd_X10_readPerson_17 _ _ s321 hI322 x318 ⟨by omega, by omega⟩ ((2 + r5) + (4 * x318)) ⟨by omega, by omega⟩ (yT σ) (yT_eq (hF323 1 1 rfl) (fun j => hF323 2 j rfl)) (2 + σ 17 10 * σ 17 11) (by omega) (σ 17 10) (σ 17 11) ⟨by omega, by omega⟩ ma342) rfl rfl (Nat.le_of_ble_eq_true rfl) (by decide) (fun r347 s348 hr349 hp350 => ?_)
                          obtain ⟨hI351, hF352, q353, q354, z355⟩ := hp350
                          have hF356 := zOn_tr hF323 hF352 zi_id
                          have b357 := zv_2_1 hI351 zc_1
                          have b358 := zv_8_10 hI351 zc_17
                          have b359 := zv_8_11 hI351 zc_17
                          have b360 := zv_8_12 hI351 zc_17
                          have e361 := hF352 1 1 rfl
                          have e362 := hF352 17 10 rfl
                          have e363 := hF352 17 11 rfl
                          have e364 := hF352 17 12 rfl
                          rcases id z355 with ⟨rfl, c365⟩ | ⟨rfl, c365⟩
                          · clear z355
                            refine zt_ifeq (pc' := 178) (tgt := 182) hX dX10_readImage_175 rfl (by decide) ⟨by omega, by omega⟩ (fun c366 => ?_) (fun c366 => ?_)
                            · exact absurd c366 (by omega)
                            · refine zt_iconst (pc' := 179) hX dX10_readImage_178 rfl ?_
                              refine zt_goto (tgt := 183) hX dX10_readImage_179 (by decide) ?_
                              refine zt_istore (pc' := 185) (lv' := [some (.ref (X.1.1 + 40)), some (.ref (X.1.1 + 17)), some (.ref (X.1.1 + 1)), some (.int (zI (2 + r5))), none, some (.int (zI 1)), some (.int (zI x318)), none]) hX dX10_readImage_183 rfl hL (by decide) rfl ?_
                              refine zt_iinc (pc' := 188) (lv' := [some (.ref (X.1.1 + 40)), some (.ref (X.1.1 + 17)), some (.ref (X.1.1 + 1)), some (.int (zI (2 + r5))), none, some (.int (zI 1)), some (.int (zI (x318 + 1))), none]) hX dX10_readImage_185 rfl rfl hL (by decide) rfl ?_
                              refine zt_goto (tgt := 147) hX dX10_readImage_188 (by decide) ?_
                              exact ih333 1 (x318 + 1) s348 (by omega) (by omega) (by omega) (by omega) hI351 hF356 (by omega) (by omega) (by omega) (by omega) (by omega) (by omega) (Or.inl ⟨rfl, mh339, mc340, yPs__s mp341 c365.1, c365.2⟩) (by omega)
                          · clear z355
                            refine zt_ifeq (pc' := 178) (tgt := 182) hX dX10_readImage_175 rfl (by decide) ⟨by omega, by omega⟩ (fun c367 => ?_) (fun c367 => ?_)
                            · refine zt_iconst (pc' := 183) hX dX10_readImage_182 rfl ?_
                              refine zt_istore (pc' := 185) (lv' := [some (.ref (X.1.1 + 40)), some (.ref (X.1.1 + 17)), some (.ref (X.1.1 + 1)), some (.int (zI (2 + r5))), none, some (.int (zI 0)), some (.int (zI x318)), none]) hX dX10_readImage_183 rfl hL (by decide) rfl ?_
                              refine zt_iinc (pc' := 188) (lv' := [some (.ref (X.1.1 + 40)), some (.ref (X.1.1 + 17)), some (.ref (X.1.1 + 1)), some (.int (zI (2 + r5))), none, some (.int (zI 0)), some (.int (zI (x318 + 1))), none]) hX dX10_readImage_185 rfl rfl hL (by decide) rfl ?_
                              refine zt_goto (tgt := 147) hX dX10_readImage_188 (by decide) ?_
                              exact ih333 0 (x318 + 1) s348 (by omega) (by omega) (by omega) (by omega) hI351 hF356 (by omega) (by omega) (by omega) (by omega) (by omega) (by omega) (Or.inr ⟨rfl, fun g => yPs__n (k := x318) (by omega) (by omega) c365 g.2.2⟩) (by omega)
                            · exact absurd c367 (by omega)
                    · refine zt_iload (pc' := 149) hX dX10_readImage_147 rfl rfl ?_
                      refine zt_aload_n (pc' := 150) hX dX10_readImage_149 rfl rfl ?_
                      have b368 := zv_8_12 hI322 zc_17
                      refine zt_get (pc' := 153) (v := .int (zI (s321 17 12))) hX dX10_readImage_150 rfl zf_X10_38 (by decide) zc_17 zs_8 rfl ?_
                      refine zt_icge (pc' := 156) (tgt := 191) hX dX10_readImage_153 rfl (by decide) ⟨by omega, by omega⟩ ⟨by omega, by omega⟩ (fun c369 => ?_) (fun c369 => ?_)
                      · refine zt_iload (pc' := 193) hX dX10_readImage_191 rfl rfl ?_
                        exact zt_zret hX hR dX10_readImage_193 ⟨by omega, by omega⟩ ⟨hI322, hF323, by omega, by omega, (yIr_n mx343 hv338)⟩
                      · refine zt_iload (pc' := 158) hX dX10_readImage_156 rfl rfl ?_
                        refine zt_ifeq (pc' := 161) (tgt := 182) hX dX10_readImage_158 rfl (by decide) ⟨by omega, by omega⟩ (fun c370 => ?_) (fun c370 => ?_)
                        · refine zt_iconst (pc' := 183) hX dX10_readImage_182 rfl ?_
                          refine zt_istore (pc' := 185) (lv' := [some (.ref (X.1.1 + 40)), some (.ref (X.1.1 + 17)), some (.ref (X.1.1 + 1)), some (.int (zI (2 + r5))), none, some (.int (zI 0)), some (.int (zI x318)), none]) hX dX10_readImage_183 rfl hL (by decide) rfl ?_
                          refine zt_iinc (pc' := 188) (lv' := [some (.ref (X.1.1 + 40)), some (.ref (X.1.1 + 17)), some (.ref (X.1.1 + 1)), some (.int (zI (2 + r5))), none, some (.int (zI 0)), some (.int (zI (x318 + 1))), none]) hX dX10_readImage_185 rfl rfl hL (by decide) rfl ?_
                          refine zt_goto (tgt := 147) hX dX10_readImage_188 (by decide) ?_
                          exact ih333 0 (x318 + 1) s321 (by omega) (by omega) (by omega) (by omega) hI322 hF323 (by omega) (by omega) (by omega) (by omega) (by omega) (by omega) (Or.inr ⟨rfl, mx343⟩) (by omega)
                        · exact absurd c370 (by omega)
                exact L_147_330 _ x279 0 s285 (by omega) (by omega) (by omega) (by omega) hI286 hF287 (by omega) (by omega) (by omega) (by omega) (by omega) (by omega) (Or.inl ⟨hv302, mh303, (by rw [show (σ 17 10 * σ 17 11) = x282 by omega]; exact mc304), yPs__0, yAh_0⟩) (Nat.lt_succ_self _)
              · refine zt_aload_n (pc' := 94) hX dX10_readImage_93 rfl rfl ?_
                refine zt_iconst (pc' := 95) hX dX10_readImage_94 rfl ?_
                refine zt_iload (pc' := 97) hX dX10_readImage_95 rfl rfl ?_
                refine zt_iadd (pc' := 98) hX dX10_readImage_97 rfl ?_
                refine zt_cVi (pc' := 101) hX dX10_readImage_98 rfl zm_yX9_byteAt zw_69_2 zc_1 (by decide) zs_2 (q := (RX9, TX9, 2)) rfl rfl (yc_X9_byteAt _ _ s285 hI286 (2 + x282) ⟨by omega, by omega⟩) rfl rfl (Nat.le_of_ble_eq_true rfl) (by decide) (fun r371 s372 hr373 hp374 => ?_)
                obtain ⟨rfl, q375, q376, z377⟩ := hp374
                have w378 := z377.trans (congrFun (yT_eq (hF287 1 1 rfl) (fun j => hF287 2 j rfl)) _)
                clear z377
                refine zt_istore (pc' := 103) (lv' := [some (.ref (X.1.1 + 40)), some (.ref (X.1.1 + 17)), some (.ref (X.1.1 + 1)), some (.int (zI (2 + r5))), none, some (.int (zI x279)), some (.int (zI x282)), some (.int (zI r371))]) hX dX10_readImage_101 rfl hL (by decide) rfl ?_
                refine zt_iload (pc' := 105) hX dX10_readImage_103 rfl rfl ?_
                refine zt_ifeq (pc' := 108) (tgt := 118) hX dX10_readImage_105 rfl (by decide) ⟨by omega, by omega⟩ (fun c379 => ?_) (fun c379 => ?_)
                · exact absurd c379 (by omega)
                · refine zt_iload (pc' := 110) hX dX10_readImage_108 rfl rfl ?_
                  refine zt_iconst (pc' := 111) hX dX10_readImage_110 rfl ?_
                  refine zt_icgt (pc' := 114) (tgt := 118) hX dX10_readImage_111 rfl (by decide) ⟨by omega, by omega⟩ ⟨by omega, by omega⟩ (fun c380 => ?_) (fun c380 => ?_)
                  · refine zt_iconst (pc' := 119) hX dX10_readImage_118 rfl ?_
                    refine zt_istore (pc' := 121) (lv' := [some (.ref (X.1.1 + 40)), some (.ref (X.1.1 + 17)), some (.ref (X.1.1 + 1)), some (.int (zI (2 + r5))), none, some (.int (zI 0)), some (.int (zI x282)), some (.int (zI r371))]) hX dX10_readImage_119 rfl hL (by decide) rfl ?_
                    refine zt_aload_n (pc' := 122) hX dX10_readImage_121 rfl rfl ?_
                    refine zt_dup (pc' := 123) hX dX10_readImage_122 rfl rfl ?_
                    have b381 := zv_22_6 hI286 zc_40
                    refine zt_get (pc' := 126) (v := .long (zJ (s285 40 6))) hX dX10_readImage_123 rfl zf_X10_31 (by decide) zc_40 zs_22 rfl ?_
                    refine zt_iload (pc' := 128) hX dX10_readImage_126 rfl rfl ?_
                    refine zt_iconst (pc' := 129) hX dX10_readImage_128 rfl ?_
                    refine zt_iandm (pc' := 130) hX dX10_readImage_129 rfl 1 (by decide +kernel) (by decide) (fun r382 er382 lr382 ur382 => ?_)
                    have ur382 : r382 ≤ 1 := by omega
                    refine zt_i2l (pc' := 131) hX dX10_readImage_130 rfl ⟨by omega, by omega⟩ ?_
                    refine zt_iload (pc' := 133) hX dX10_readImage_131 rfl rfl ?_
                    refine zt_lshl (pc' := 134) hX dX10_readImage_133 rfl (fun r383 zr383 lr383 ur383 => ?_)
                    clear zr383
                    refine zt_lor (pc' := 135) hX dX10_readImage_134 rfl (fun r384 zr384 lr384 ur384 => ?_)
                    clear zr384
                    refine zt_put (pc' := 138) (x := r384) hX dX10_readImage_135 rfl zf_X10_31 (by decide) zc_40 zs_22 (fun q hq => by cases hq; rfl) rfl rfl rfl ?_
                    generalize hs386 : zset s285 40 6 r384 = s385
                    have hI387 : zInv s385 := hs386 ▸ zp_22_6 hI286 zc_40 ⟨by omega, by omega⟩
                    have hF388 : zOn zSe σ s385 := hs386 ▸ zOn_set hF287 rfl
                    have e389 : s385 1 1 = s285 1 1 := by rw [← hs386]; exact zset_k (zne_r zc_1 zc_40 (by decide))
                    have e390 : s385 17 10 = s285 17 10 := by rw [← hs386]; exact zset_k (zne_r zc_17 zc_40 (by decide))
                    have e391 : s385 17 11 = s285 17 11 := by rw [← hs386]; exact zset_k (zne_r zc_17 zc_40 (by decide))
                    have e392 : s385 17 12 = s285 17 12 := by rw [← hs386]; exact zset_k (zne_r zc_17 zc_40 (by decide))
                    refine zt_iinc (pc' := 141) (lv' := [some (.ref (X.1.1 + 40)), some (.ref (X.1.1 + 17)), some (.ref (X.1.1 + 1)), some (.int (zI (2 + r5))), none, some (.int (zI 0)), some (.int (zI (x282 + 1))), some (.int (zI r371))]) hX dX10_readImage_138 rfl rfl hL (by decide) rfl ?_
                    refine zt_goto (tgt := 84) hX dX10_readImage_141 (by decide) ?_
                    refine zt_mask [true, true, true, true, false, true, true, false] rfl ?_
                    exact ih297 0 (x282 + 1) s385 (by omega) (by omega) (by omega) (by omega) hI387 hF388 (by omega) (by omega) (by omega) (by omega) (by omega) (by omega) (Or.inr ⟨rfl, fun g => yCe_n (k := x282) (by omega) (by omega) w378 rfl (by omega) g.2.1⟩) (by omega)
                  · refine zt_iconst (pc' := 115) hX dX10_readImage_114 rfl ?_
                    refine zt_goto (tgt := 119) hX dX10_readImage_115 (by decide) ?_
                    refine zt_istore (pc' := 121) (lv' := [some (.ref (X.1.1 + 40)), some (.ref (X.1.1 + 17)), some (.ref (X.1.1 + 1)), some (.int (zI (2 + r5))), none, some (.int (zI 1)), some (.int (zI x282)), some (.int (zI r371))]) hX dX10_readImage_119 rfl hL (by decide) rfl ?_
                    refine zt_aload_n (pc' := 122) hX dX10_readImage_121 rfl rfl ?_
                    refine zt_dup (pc' := 123) hX dX10_readImage_122 rfl rfl ?_
                    have b393 := zv_22_6 hI286 zc_40
                    refine zt_get (pc' := 126) (v := .long (zJ (s285 40 6))) hX dX10_readImage_123 rfl zf_X10_31 (by decide) zc_40 zs_22 rfl ?_
                    refine zt_iload (pc' := 128) hX dX10_readImage_126 rfl rfl ?_
                    refine zt_iconst (pc' := 129) hX dX10_readImage_128 rfl ?_
                    refine zt_iandm (pc' := 130) hX dX10_readImage_129 rfl 1 (by decide +kernel) (by decide) (fun r394 er394 lr394 ur394 => ?_)
                    have ur394 : r394 ≤ 1 := by omega
                    refine zt_i2l (pc' := 131) hX dX10_readImage_130 rfl ⟨by omega, by omega⟩ ?_
                    refine zt_iload (pc' := 133) hX dX10_readImage_131 rfl rfl ?_
                    refine zt_lshl (pc' := 134) hX dX10_readImage_133 rfl (fun r395 zr395 lr395 ur395 => ?_)
                    clear zr395
                    refine zt_lor (pc' := 135) hX dX10_readImage_134 rfl (fun r396 zr396 lr396 ur396 => ?_)
                    clear zr396
                    refine zt_put (pc' := 138) (x := r396) hX dX10_readImage_135 rfl zf_X10_31 (by decide) zc_40 zs_22 (fun q hq => by cases hq; rfl) rfl rfl rfl ?_
                    generalize hs398 : zset s285 40 6 r396 = s397
                    have hI399 : zInv s397 := hs398 ▸ zp_22_6 hI286 zc_40 ⟨by omega, by omega⟩
                    have hF400 : zOn zSe σ s397 := hs398 ▸ zOn_set hF287 rfl
                    have e401 : s397 1 1 = s285 1 1 := by rw [← hs398]; exact zset_k (zne_r zc_1 zc_40 (by decide))
                    have e402 : s397 17 10 = s285 17 10 := by rw [← hs398]; exact zset_k (zne_r zc_17 zc_40 (by decide))
                    have e403 : s397 17 11 = s285 17 11 := by rw [← hs398]; exact zset_k (zne_r zc_17 zc_40 (by decide))
                    have e404 : s397 17 12 = s285 17 12 := by rw [← hs398]; exact zset_k (zne_r zc_17 zc_40 (by decide))
                    refine zt_iinc (pc' := 141) (lv' := [some (.ref (X.1.1 + 40)), some (.ref (X.1.1 + 17)), some (.ref (X.1.1 + 1)), some (.int (zI (2 + r5))), none, some (.int (zI 1)), some (.int (zI (x282 + 1))), some (.int (zI r371))]) hX dX10_readImage_138 rfl rfl hL (by decide) rfl ?_
                    refine zt_goto (tgt := 84) hX dX10_readImage_141 (by decide) ?_
                    refine zt_mask [true, true, true, true, false, true, true, false] rfl ?_
                    exact ih297 1 (x282 + 1) s397 (by omega) (by omega) (by omega) (by omega) hI399 hF400 (by omega) (by omega) (by omega) (by omega) (by omega) (by omega) (Or.inl ⟨rfl, mh303, yCe_s mc304 w378 rfl (by omega)⟩) (by omega)
            · refine zt_iload (pc' := 86) hX dX10_readImage_84 rfl rfl ?_
              refine zt_aload_n (pc' := 87) hX dX10_readImage_86 rfl rfl ?_
              refine zt_cVi (pc' := 90) hX dX10_readImage_87 rfl zm_yX3_cells zw_69_1 zc_17 (by decide) zs_8 (q := (RX3, TX3, 17)) rfl rfl (yd_X3_cells_17 _ _ s285 hI286 ) rfl rfl (Nat.le_of_ble_eq_true rfl) (by decide) (fun r405 s406 hr407 hp408 => ?_)
              obtain ⟨rfl, q409, q410, z411⟩ := hp408
              have hc412 : r405 = σ 17 10 * σ 17 11 := z411.trans (ymul_c (by omega) (by omega))
              clear z411
              refine zt_icge (pc' := 93) (tgt := 144) hX dX10_readImage_90 rfl (by decide) ⟨by omega, by omega⟩ ⟨by omega, by omega⟩ (fun c413 => ?_) (fun c413 => ?_)
              · refine zt_iconst (pc' := 145) hX dX10_readImage_144 rfl ?_
                refine zt_istore (pc' := 147) (lv' := [some (.ref (X.1.1 + 40)), some (.ref (X.1.1 + 17)), some (.ref (X.1.1 + 1)), some (.int (zI (2 + r5))), none, some (.int (zI x279)), some (.int (zI 0)), none]) hX dX10_readImage_145 rfl hL (by decide) rfl ?_
                have L_147_429 : ∀ (N : Nat) (x414 : Int) (x417 : Int) (s420 : zSto), 0 ≤ x414 → x414 ≤ 1 → 0 ≤ x417 → x417 ≤ 10 → zInv s420 → zOn zSe σ s420 → 0 ≤ x417 → x417 ≤ (σ 17 12) → s420 17 10 = σ 17 10 → s420 17 11 = σ 17 11 → s420 17 12 = σ 17 12 → s420 1 1 = σ 1 1 → yJ2 (yT σ) s420 (σ 1 1) (σ 17 10) (σ 17 11) (σ 17 12) x414 x417 → ((11 - x417).toNat) < N → zF X s420 147 [some (.ref (X.1.1 + 40)), some (.ref (X.1.1 + 17)), some (.ref (X.1.1 + 1)), some (.int (zI (2 + r5))), none, some (.int (zI x414)), some (.int (zI x417)), none] [] := by
                  intro N
                  induction N with
                  | zero =>
                    intro x414 x417 s420 h415 h416 h418 h419 hI421 hF422 g423 g424 g425 g426 g427 g428 g429 hm431
                    exact absurd hm431 (Nat.not_lt_zero _)
                  | succ N ih432 =>
                    intro x414 x417 s420 h415 h416 h418 h419 hI421 hF422 g423 g424 g425 g426 g427 g428 g429 hm431
                    have b433 := zv_2_1 hI421 zc_1
                    have b434 := zv_8_10 hI421 zc_17
                    have b435 := zv_8_11 hI421 zc_17
                    have b436 := zv_8_12 hI421 zc_17
                    rcases g429 with ⟨hv437, mh438, mc439, mp440, ma441⟩ | ⟨hv437, mx442⟩
                    · refine zt_iload (pc' := 149) hX dX10_readImage_147 rfl rfl ?_
                      refine zt_aload_n (pc' := 150) hX dX10_readImage_149 rfl rfl ?_
                      have b443 := zv_8_12 hI421 zc_17
                      refine zt_get (pc' := 153) (v := .int (zI (s420 17 12))) hX dX10_readImage_150 rfl zf_X10_38 (by decide) zc_17 zs_8 rfl ?_
                      refine zt_icge (pc' := 156) (tgt := 191) hX dX10_readImage_153 rfl (by decide) ⟨by omega, by omega⟩ ⟨by omega, by omega⟩ (fun c444 => ?_) (fun c444 => ?_)
                      · refine zt_iload (pc' := 193) hX dX10_readImage_191 rfl rfl ?_
                        exact zt_zret hX hR dX10_readImage_193 ⟨by omega, by omega⟩ ⟨hI421, hF422, by omega, by omega, (yIr_y ⟨mh438, mc439, (by rw [show (σ 17 12) = x417 by omega]; exact mp440)⟩ hv437)⟩
                      · refine zt_iload (pc' := 158) hX dX10_readImage_156 rfl rfl ?_
                        refine zt_ifeq (pc' := 161) (tgt := 182) hX dX10_readImage_158 rfl (by decide) ⟨by omega, by omega⟩ (fun c445 => ?_) (fun c445 => ?_)
                        · exact absurd c445 (by omega)
                        · refine zt_aload_n (pc' := 162) hX dX10_readImage_161 rfl rfl ?_
                          refine zt_aload_n (pc' := 163) hX dX10_readImage_162 rfl rfl ?_
                          refine zt_aload_n (pc' := 164) hX dX10_readImage_163 rfl rfl ?_
                          refine zt_iload (pc' := 166) hX dX10_readImage_164 rfl rfl ?_
                          refine zt_iload_n (pc' := 167) hX dX10_readImage_166 rfl rfl ?_
                          refine zt_iconst (pc' := 168) hX dX10_readImage_167 rfl ?_
                          refine zt_iload (pc' := 170) hX dX10_readImage_168 rfl rfl ?_
                          refine zt_imul (pc' := 171) hX dX10_readImage_170 rfl ?_
                          refine zt_iadd (pc' := 172) hX dX10_readImage_171 rfl ?_
                          refine zt_cVz (pc' := 175) hX dX10_readImage_172 rfl zm_yX10_readPerson zw_69_5 zc_40 (by decide) zs_22 (q := (RX10, TX10, 8)) rfl rfl (yd_X10_readPerson_17 _ _ s420 hI421 x417 ⟨by omega, by omega⟩ ((2 + r5) + (4 * x417)) ⟨by omega, by omega⟩ (yT σ) (yT_eq (hF422 1 1 rfl) (fun j => hF422 2 j rfl)) (2 + σ 17 10 * σ 17 11) (by omega) (σ 17 10) (σ 17 11) ⟨by omega, by omega⟩ ma441) rfl rfl (Nat.le_of_ble_eq_true rfl) (by decide) (fun r446 s447 hr448 hp449 => ?_)
                          obtain ⟨hI450, hF451, q452, q453, z454⟩ := hp449
                          have hF455 := zOn_tr hF422 hF451 zi_id
                          have b456 := zv_2_1 hI450 zc_1
                          have b457 := zv_8_10 hI450 zc_17
                          have b458 := zv_8_11 hI450 zc_17
                          have b459 := zv_8_12 hI450 zc_17
                          have e460 := hF451 1 1 rfl
                          have e461 := hF451 17 10 rfl
                          have e462 := hF451 17 11 rfl
                          have e463 := hF451 17 12 rfl
                          rcases id z454 with ⟨rfl, c464⟩ | ⟨rfl, c464⟩
                          · clear z454
                            refine zt_ifeq (pc' := 178) (tgt := 182) hX dX10_readImage_175 rfl (by decide) ⟨by omega, by omega⟩ (fun c465 => ?_) (fun c465 => ?_)
                            · exact absurd c465 (by omega)
                            · refine zt_iconst (pc' := 179) hX dX10_readImage_178 rfl ?_
                              refine zt_goto (tgt := 183) hX dX10_readImage_179 (by decide) ?_
                              refine zt_istore (pc' := 185) (lv' := [some (.ref (X.1.1 + 40)), some (.ref (X.1.1 + 17)), some (.ref (X.1.1 + 1)), some (.int (zI (2 + r5))), none, some (.int (zI 1)), some (.int (zI x417)), none]) hX dX10_readImage_183 rfl hL (by decide) rfl ?_
                              refine zt_iinc (pc' := 188) (lv' := [some (.ref (X.1.1 + 40)), some (.ref (X.1.1 + 17)), some (.ref (X.1.1 + 1)), some (.int (zI (2 + r5))), none, some (.int (zI 1)), some (.int (zI (x417 + 1))), none]) hX dX10_readImage_185 rfl rfl hL (by decide) rfl ?_
                              refine zt_goto (tgt := 147) hX dX10_readImage_188 (by decide) ?_
                              exact ih432 1 (x417 + 1) s447 (by omega) (by omega) (by omega) (by omega) hI450 hF455 (by omega) (by omega) (by omega) (by omega) (by omega) (by omega) (Or.inl ⟨rfl, mh438, mc439, yPs__s mp440 c464.1, c464.2⟩) (by omega)
                          · clear z454
                            refine zt_ifeq (pc' := 178) (tgt := 182) hX dX10_readImage_175 rfl (by decide) ⟨by omega, by omega⟩ (fun c466 => ?_) (fun c466 => ?_)
                            · refine zt_iconst (pc' := 183) hX dX10_readImage_182 rfl ?_
                              refine zt_istore (pc' := 185) (lv' := [some (.ref (X.1.1 + 40)), some (.ref (X.1.1 + 17)), some (.ref (X.1.1 + 1)), some (.int (zI (2 + r5))), none, some (.int (zI 0)), some (.int (zI x417)), none]) hX dX10_readImage_183 rfl hL (by decide) rfl ?_
                              refine zt_iinc (pc' := 188) (lv' := [some (.ref (X.1.1 + 40)), some (.ref (X.1.1 + 17)), some (.ref (X.1.1 + 1)), some (.int (zI (2 + r5))), none, some (.int (zI 0)), some (.int (zI (x417 + 1))), none]) hX dX10_readImage_185 rfl rfl hL (by decide) rfl ?_
                              refine zt_goto (tgt := 147) hX dX10_readImage_188 (by decide) ?_
                              exact ih432 0 (x417 + 1) s447 (by omega) (by omega) (by omega) (by omega) hI450 hF455 (by omega) (by omega) (by omega) (by omega) (by omega) (by omega) (Or.inr ⟨rfl, fun g => yPs__n (k := x417) (by omega) (by omega) c464 g.2.2⟩) (by omega)
                            · exact absurd c466 (by omega)
                    · refine zt_iload (pc' := 149) hX dX10_readImage_147 rfl rfl ?_
                      refine zt_aload_n (pc' := 150) hX dX10_readImage_149 rfl rfl ?_
                      have b467 := zv_8_12 hI421 zc_17
                      refine zt_get (pc' := 153) (v := .int (zI (s420 17 12))) hX dX10_readImage_150 rfl zf_X10_38 (by decide) zc_17 zs_8 rfl ?_
                      refine zt_icge (pc' := 156) (tgt := 191) hX dX10_readImage_153 rfl (by decide) ⟨by omega, by omega⟩ ⟨by omega, by omega⟩ (fun c468 => ?_) (fun c468 => ?_)
                      · refine zt_iload (pc' := 193) hX dX10_readImage_191 rfl rfl ?_
                        exact zt_zret hX hR dX10_readImage_193 ⟨by omega, by omega⟩ ⟨hI421, hF422, by omega, by omega, (yIr_n mx442 hv437)⟩
                      · refine zt_iload (pc' := 158) hX dX10_readImage_156 rfl rfl ?_
                        refine zt_ifeq (pc' := 161) (tgt := 182) hX dX10_readImage_158 rfl (by decide) ⟨by omega, by omega⟩ (fun c469 => ?_) (fun c469 => ?_)
                        · refine zt_iconst (pc' := 183) hX dX10_readImage_182 rfl ?_
                          refine zt_istore (pc' := 185) (lv' := [some (.ref (X.1.1 + 40)), some (.ref (X.1.1 + 17)), some (.ref (X.1.1 + 1)), some (.int (zI (2 + r5))), none, some (.int (zI 0)), some (.int (zI x417)), none]) hX dX10_readImage_183 rfl hL (by decide) rfl ?_
                          refine zt_iinc (pc' := 188) (lv' := [some (.ref (X.1.1 + 40)), some (.ref (X.1.1 + 17)), some (.ref (X.1.1 + 1)), some (.int (zI (2 + r5))), none, some (.int (zI 0)), some (.int (zI (x417 + 1))), none]) hX dX10_readImage_185 rfl rfl hL (by decide) rfl ?_
                          refine zt_goto (tgt := 147) hX dX10_readImage_188 (by decide) ?_
                          exact ih432 0 (x417 + 1) s420 (by omega) (by omega) (by omega) (by omega) hI421 hF422 (by omega) (by omega) (by omega) (by omega) (by omega) (by omega) (Or.inr ⟨rfl, mx442⟩) (by omega)
                        · exact absurd c469 (by omega)
                exact L_147_429 _ x279 0 s285 (by omega) (by omega) (by omega) (by omega) hI286 hF287 (by omega) (by omega) (by omega) (by omega) (by omega) (by omega) (Or.inr ⟨hv302, mx305⟩) (Nat.lt_succ_self _)
              · refine zt_aload_n (pc' := 94) hX dX10_readImage_93 rfl rfl ?_
                refine zt_iconst (pc' := 95) hX dX10_readImage_94 rfl ?_
                refine zt_iload (pc' := 97) hX dX10_readImage_95 rfl rfl ?_
                refine zt_iadd (pc' := 98) hX dX10_readImage_97 rfl ?_
                refine zt_cVi (pc' := 101) hX dX10_readImage_98 rfl zm_yX9_byteAt zw_69_2 zc_1 (by decide) zs_2 (q := (RX9, TX9, 2)) rfl rfl (yc_X9_byteAt _ _ s285 hI286 (2 + x282) ⟨by omega, by omega⟩) rfl rfl (Nat.le_of_ble_eq_true rfl) (by decide) (fun r470 s471 hr472 hp473 => ?_)
                obtain ⟨rfl, q474, q475, z476⟩ := hp473
                have w477 := z476.trans (congrFun (yT_eq (hF287 1 1 rfl) (fun j => hF287 2 j rfl)) _)
                clear z476
                refine zt_istore (pc' := 103) (lv' := [some (.ref (X.1.1 + 40)), some (.ref (X.1.1 + 17)), some (.ref (X.1.1 + 1)), some (.int (zI (2 + r5))), none, some (.int (zI x279)), some (.int (zI x282)), some (.int (zI r470))]) hX dX10_readImage_101 rfl hL (by decide) rfl ?_
                refine zt_iload (pc' := 105) hX dX10_readImage_103 rfl rfl ?_
                refine zt_ifeq (pc' := 108) (tgt := 118) hX dX10_readImage_105 rfl (by decide) ⟨by omega, by omega⟩ (fun c478 => ?_) (fun c478 => ?_)
                · refine zt_iconst (pc' := 119) hX dX10_readImage_118 rfl ?_
                  refine zt_istore (pc' := 121) (lv' := [some (.ref (X.1.1 + 40)), some (.ref (X.1.1 + 17)), some (.ref (X.1.1 + 1)), some (.int (zI (2 + r5))), none, some (.int (zI 0)), some (.int (zI x282)), some (.int (zI r470))]) hX dX10_readImage_119 rfl hL (by decide) rfl ?_
                  refine zt_aload_n (pc' := 122) hX dX10_readImage_121 rfl rfl ?_
                  refine zt_dup (pc' := 123) hX dX10_readImage_122 rfl rfl ?_
                  have b479 := zv_22_6 hI286 zc_40
                  refine zt_get (pc' := 126) (v := .long (zJ (s285 40 6))) hX dX10_readImage_123 rfl zf_X10_31 (by decide) zc_40 zs_22 rfl ?_
                  refine zt_iload (pc' := 128) hX dX10_readImage_126 rfl rfl ?_
                  refine zt_iconst (pc' := 129) hX dX10_readImage_128 rfl ?_
                  refine zt_iandm (pc' := 130) hX dX10_readImage_129 rfl 1 (by decide +kernel) (by decide) (fun r480 er480 lr480 ur480 => ?_)
                  have ur480 : r480 ≤ 1 := by omega
                  refine zt_i2l (pc' := 131) hX dX10_readImage_130 rfl ⟨by omega, by omega⟩ ?_
                  refine zt_iload (pc' := 133) hX dX10_readImage_131 rfl rfl ?_
                  refine zt_lshl (pc' := 134) hX dX10_readImage_133 rfl (fun r481 zr481 lr481 ur481 => ?_)
                  clear zr481
                  refine zt_lor (pc' := 135) hX dX10_readImage_134 rfl (fun r482 zr482 lr482 ur482 => ?_)
                  clear zr482
                  refine zt_put (pc' := 138) (x := r482) hX dX10_readImage_135 rfl zf_X10_31 (by decide) zc_40 zs_22 (fun q hq => by cases hq; rfl) rfl rfl rfl ?_
                  generalize hs484 : zset s285 40 6 r482 = s483
                  have hI485 : zInv s483 := hs484 ▸ zp_22_6 hI286 zc_40 ⟨by omega, by omega⟩
                  have hF486 : zOn zSe σ s483 := hs484 ▸ zOn_set hF287 rfl
                  have e487 : s483 1 1 = s285 1 1 := by rw [← hs484]; exact zset_k (zne_r zc_1 zc_40 (by decide))
                  have e488 : s483 17 10 = s285 17 10 := by rw [← hs484]; exact zset_k (zne_r zc_17 zc_40 (by decide))
                  have e489 : s483 17 11 = s285 17 11 := by rw [← hs484]; exact zset_k (zne_r zc_17 zc_40 (by decide))
                  have e490 : s483 17 12 = s285 17 12 := by rw [← hs484]; exact zset_k (zne_r zc_17 zc_40 (by decide))
                  refine zt_iinc (pc' := 141) (lv' := [some (.ref (X.1.1 + 40)), some (.ref (X.1.1 + 17)), some (.ref (X.1.1 + 1)), some (.int (zI (2 + r5))), none, some (.int (zI 0)), some (.int (zI (x282 + 1))), some (.int (zI r470))]) hX dX10_readImage_138 rfl rfl hL (by decide) rfl ?_
                  refine zt_goto (tgt := 84) hX dX10_readImage_141 (by decide) ?_
                  refine zt_mask [true, true, true, true, false, true, true, false] rfl ?_
                  exact ih297 0 (x282 + 1) s483 (by omega) (by omega) (by omega) (by omega) hI485 hF486 (by omega) (by omega) (by omega) (by omega) (by omega) (by omega) (Or.inr ⟨rfl, mx305⟩) (by omega)
                · exact absurd c478 (by omega)
        refine zt_mask [true, true, true, true, false, true, true, false] rfl ?_
        exact L_84_294 _ 1 0 s54 (by omega) (by omega) (by omega) (by omega) hI56 hF57 (by omega) (by omega) (by omega) (by omega) (by omega) (by omega) (Or.inl ⟨rfl, yHd_y hc1 (by omega) z22 (by omega) z29 (by omega) z37 (by omega), yCe_0⟩) (Nat.lt_succ_self _)
    · refine zt_iconst (pc' := 44) hX dX10_readImage_43 rfl ?_
      exact zt_zret hX hR dX10_readImage_44 ⟨by omega, by omega⟩ ⟨hI, hF, by omega, by omega, (yIr_n (yIx_k z22 (by omega) z29 (by omega)) rfl)⟩
set_option maxRecDepth 100000 in
set_option maxHeartbeats 4000000 in
theorem yd_X11_on_17 (l : Launch) (E : zEN) (σ : zSto) (hI : zInv σ) (hpre0 : σ 0 3 = 17) : zCt l E yX11_on cX11_on 2 (some .boolean) 4 zNC zNC 0 0 σ [.ref (E.1 + 0)] (fun r σ' => zInv σ' ∧ zOn zAl σ σ' ∧ 0 ≤ r ∧ r ≤ 1 ∧ (yIr (yIx (yT σ) (σ 1 1) (σ 17 10) (σ 17 11) (σ 17 12)) r)) := by
  refine zCt_of2 [some (.ref (E.1 + 0)), none] (by decide +kernel) (Nat.le_of_ble_eq_true rfl) rfl ?_
  intro X hE_ hX hR hL hN
  subst hE_
  have hX : zok X cX11_on RX11 4 := hX
  have hF := zOn_rf zAl σ
  have b_a := zv_8_10 hI zc_17
  have b1 := zv_1_3 hI zc_0
  refine zt_aload_n (pc' := 1) hX dX11_on_0 rfl rfl ?_
  have ek2 : σ 0 3 = ((17 : Nat) : Int) := by omega
  refine zt_get (pc' := 4) (v := .ref (X.1.1 + 17)) hX dX11_on_1 rfl zf_X11_31 (by decide) zc_0 zs_1 (zrf_of ek2) ?_
  refine zt_cVz (pc' := 7) hX dX11_on_4 rfl zm_yX3_isTold zw_48_6 zc_17 (by decide) zs_8 (q := (RX3, TX3, 17)) rfl rfl (yd_X3_isTold_17 _ _ σ hI ) rfl rfl (Nat.le_of_ble_eq_true rfl) (by decide) (fun r3 s4 hr5 hp6 => ?_)
  obtain ⟨rfl, q7, q8, z9⟩ := hp6
  obtain ⟨ht, hu⟩ := z9
  replace ht : yIm _ _ := ht
  replace hu : yIm _ _ := hu
  refine zt_ifeq (pc' := 10) (tgt := 32) hX dX11_on_7 rfl (by decide) ⟨by omega, by omega⟩ (fun c10 => ?_) (fun c10 => ?_)
  · refine zt_iconst (pc' := 33) hX dX11_on_32 rfl ?_
    refine zt_istore_n (pc' := 34) (lv' := [some (.ref (X.1.1 + 0)), some (.int (zI 0))]) hX dX11_on_33 rfl hL (by decide) rfl ?_
    refine zt_aload_n (pc' := 35) hX dX11_on_34 rfl rfl ?_
    refine zt_get (pc' := 38) (v := .ref (X.1.1 + 1)) hX dX11_on_35 rfl zf_X11_14 (by decide) zc_0 zs_1 (zrf_of (zv_1_0 hI zc_0)) ?_
    refine zt_iconst (pc' := 39) hX dX11_on_38 rfl ?_
    refine zt_put (pc' := 42) (x := 0) hX dX11_on_39 rfl zf_X11_110 (by decide) zc_1 zs_2 (fun q hq => by cases hq; rfl) rfl rfl rfl ?_
    generalize hs12 : zset σ 1 1 0 = s11
    have hI13 : zInv s11 := hs12 ▸ zp_2_1 hI zc_1 ⟨by omega, by omega⟩
    have hF14 : zOn zAl σ s11 := hs12 ▸ zOn_set hF rfl
    have e15 : s11 0 3 = σ 0 3 := by rw [← hs12]; exact zset_k (zne_r zc_0 zc_1 (by decide))
    refine zt_iload_n (pc' := 43) hX dX11_on_42 rfl rfl ?_
    refine zt_ifne (pc' := 46) (tgt := 52) hX dX11_on_43 rfl (by decide) ⟨by omega, by omega⟩ (fun c16 => ?_) (fun c16 => ?_)
    · exact absurd c16 (by omega)
    · refine zt_aload_n (pc' := 47) hX dX11_on_46 rfl rfl ?_
      refine zt_iconst (pc' := 48) hX dX11_on_47 rfl ?_
      refine zt_cVz (pc' := 51) hX dX11_on_48 rfl zm_yX11_denial zw_15_0 zc_0 (by decide) zs_1 (q := (RX11, TX11, 17)) rfl rfl (zc_X11_denial _ _ s11 hI13 5 ⟨by omega, by omega⟩) rfl rfl (Nat.le_of_ble_eq_true rfl) (by decide) (fun r17 s18 hr19 hp20 => ?_)
      obtain ⟨hI21, hF22, q23, q24⟩ := hp20
      have hF25 : zOn zAl σ s18 := zOn_al
      have b26 := zv_1_3 hI21 zc_0
      exact zt_zret hX hR dX11_on_51 ⟨by omega, by omega⟩ ⟨hI21, hF25, by omega, by omega, (yIr_n (yIx_c (fun h => absurd (show _ = (1 : Int) from ht h) (by omega))) (by omega))⟩
  · refine zt_aload_n (pc' := 11) hX dX11_on_10 rfl rfl ?_
    refine zt_get (pc' := 14) (v := .ref (X.1.1 + 40)) hX dX11_on_11 rfl zf_X11_70 (by decide) zc_0 zs_1 (zrf_of (zv_1_9 hI zc_0)) ?_
    refine zt_aload_n (pc' := 15) hX dX11_on_14 rfl rfl ?_
    refine zt_get (pc' := 18) (v := .ref (X.1.1 + 17)) hX dX11_on_15 rfl zf_X11_31 (by decide) zc_0 zs_1 (zrf_of ek2) ?_
    refine zt_aload_n (pc' := 19) hX dX11_on_18 rfl rfl ?_
    refine zt_get (pc' := 22) (v := .ref (X.1.1 + 1)) hX dX11_on_19 rfl zf_X11_14 (by decide) zc_0 zs_1 (zrf_of (zv_1_0 hI zc_0)) ?_
    refine zt_cVz (pc' := 25) hX dX11_on_22 rfl zm_yX10_readImage zw_68_20 zc_40 (by decide) zs_22 (q := (RX10, TX10, 8)) rfl rfl (yd_X10_readImage_17 _ _ σ hI (by rcases Int.lt_or_le (σ 17 10) 1 with g | g; exact absurd (show _ = (0 : Int) from hu (by omega)) (by omega); exact g)) rfl rfl (Nat.le_of_ble_eq_true rfl) (by decide) (fun r27 s28 hr29 hp30 => ?_)
    obtain ⟨hI31, hF32, q33, q34, z35⟩ := hp30
    have hF36 : zOn zAl σ s28 := zOn_al
    have b37 := zv_1_3 hI31 zc_0
    rcases yIr_b z35 with ⟨rfl, c38⟩ | ⟨rfl, c38⟩
    · clear z35
      refine zt_ifeq (pc' := 28) (tgt := 32) hX dX11_on_25 rfl (by decide) ⟨by omega, by omega⟩ (fun c39 => ?_) (fun c39 => ?_)
      · exact absurd c39 (by omega)
      · refine zt_iconst (pc' := 29) hX dX11_on_28 rfl ?_
        refine zt_goto (tgt := 33) hX dX11_on_29 (by decide) ?_
        refine zt_istore_n (pc' := 34) (lv' := [some (.ref (X.1.1 + 0)), some (.int (zI 1))]) hX dX11_on_33 rfl hL (by decide) rfl ?_
        refine zt_aload_n (pc' := 35) hX dX11_on_34 rfl rfl ?_
        refine zt_get (pc' := 38) (v := .ref (X.1.1 + 1)) hX dX11_on_35 rfl zf_X11_14 (by decide) zc_0 zs_1 (zrf_of (zv_1_0 hI31 zc_0)) ?_
        refine zt_iconst (pc' := 39) hX dX11_on_38 rfl ?_
        refine zt_put (pc' := 42) (x := 0) hX dX11_on_39 rfl zf_X11_110 (by decide) zc_1 zs_2 (fun q hq => by cases hq; rfl) rfl rfl rfl ?_
        generalize hs41 : zset s28 1 1 0 = s40
        have hI42 : zInv s40 := hs41 ▸ zp_2_1 hI31 zc_1 ⟨by omega, by omega⟩
        have hF43 : zOn zAl σ s40 := hs41 ▸ zOn_set hF36 rfl
        have e44 : s40 0 3 = s28 0 3 := by rw [← hs41]; exact zset_k (zne_r zc_0 zc_1 (by decide))
        refine zt_iload_n (pc' := 43) hX dX11_on_42 rfl rfl ?_
        refine zt_ifne (pc' := 46) (tgt := 52) hX dX11_on_43 rfl (by decide) ⟨by omega, by omega⟩ (fun c45 => ?_) (fun c45 => ?_)
        · refine zt_aload_n (pc' := 53) hX dX11_on_52 rfl rfl ?_
          refine zt_get (pc' := 56) (v := .ref (X.1.1 + 35)) hX dX11_on_53 rfl zf_X11_66 (by decide) zc_0 zs_1 (zrf_of (zv_1_8 hI42 zc_0)) ?_
          refine zt_aload_n (pc' := 57) hX dX11_on_56 rfl rfl ?_
          refine zt_get (pc' := 60) (v := .ref (X.1.1 + 40)) hX dX11_on_57 rfl zf_X11_70 (by decide) zc_0 zs_1 (zrf_of (zv_1_9 hI42 zc_0)) ?_
          refine zt_cVv (pc' := 63) hX dX11_on_60 rfl zm_yX10_takeLife zw_48_14 zc_35 (by decide) zs_22 (q := (RX10, TX10, 8)) rfl rfl (zc_X10_takeLife _ _ s40 hI42 35 zc_35 40 zc_40) rfl rfl (Nat.le_of_ble_eq_true rfl) (by decide) (fun r46 s47 hr48 hp49 => ?_)
          obtain ⟨hI50, hF51⟩ := hp49
          have hF52 : zOn zAl σ s47 := zOn_al
          have b53 := zv_1_3 hI50 zc_0
          refine zt_aload_n (pc' := 64) hX dX11_on_63 rfl rfl ?_
          refine zt_get (pc' := 67) (v := .ref (X.1.1 + 35)) hX dX11_on_64 rfl zf_X11_66 (by decide) zc_0 zs_1 (zrf_of (zv_1_8 hI50 zc_0)) ?_
          refine zt_iconst (pc' := 68) hX dX11_on_67 rfl ?_
          refine zt_put (pc' := 71) (x := 0) hX dX11_on_68 rfl zf_X11_174 (by decide) zc_35 zs_22 (fun q hq => by cases hq; rfl) rfl rfl rfl ?_
          generalize hs55 : zset s47 35 4 0 = s54
          have hI56 : zInv s54 := hs55 ▸ zp_22_4 hI50 zc_35 ⟨by omega, by omega⟩
          have hF57 : zOn zAl σ s54 := hs55 ▸ zOn_set hF52 rfl
          have e58 : s54 0 3 = s47 0 3 := by rw [← hs55]; exact zset_k (zne_r zc_0 zc_35 (by decide))
          refine zt_aload_n (pc' := 72) hX dX11_on_71 rfl rfl ?_
          refine zt_get (pc' := 75) (v := .ref (X.1.1 + 45)) hX dX11_on_72 rfl zf_X11_76 (by decide) zc_0 zs_1 (zrf_of (zv_1_10 hI56 zc_0)) ?_
          refine zt_iconst (pc' := 76) hX dX11_on_75 rfl ?_
          refine zt_put (pc' := 79) (x := 0) hX dX11_on_76 rfl zf_X11_135 (by decide) zc_45 zs_27 (fun q hq => by cases hq; rfl) rfl rfl rfl ?_
          generalize hs60 : zset s54 45 2 0 = s59
          have hI61 : zInv s59 := hs60 ▸ zp_27_2 hI56 zc_45 ⟨by omega, by omega⟩
          have hF62 : zOn zAl σ s59 := hs60 ▸ zOn_set hF57 rfl
          have e63 : s59 0 3 = s54 0 3 := by rw [← hs60]; exact zset_k (zne_r zc_0 zc_45 (by decide))
          refine zt_iconst (pc' := 80) hX dX11_on_79 rfl ?_
          exact zt_zret hX hR dX11_on_80 ⟨by omega, by omega⟩ ⟨hI61, hF62, by omega, by omega, (yIr_y c38 (by omega))⟩
        · exact absurd c45 (by omega)
    · clear z35
      refine zt_ifeq (pc' := 28) (tgt := 32) hX dX11_on_25 rfl (by decide) ⟨by omega, by omega⟩ (fun c64 => ?_) (fun c64 => ?_)
      · refine zt_iconst (pc' := 33) hX dX11_on_32 rfl ?_
        refine zt_istore_n (pc' := 34) (lv' := [some (.ref (X.1.1 + 0)), some (.int (zI 0))]) hX dX11_on_33 rfl hL (by decide) rfl ?_
        refine zt_aload_n (pc' := 35) hX dX11_on_34 rfl rfl ?_
        refine zt_get (pc' := 38) (v := .ref (X.1.1 + 1)) hX dX11_on_35 rfl zf_X11_14 (by decide) zc_0 zs_1 (zrf_of (zv_1_0 hI31 zc_0)) ?_
        refine zt_iconst (pc' := 39) hX dX11_on_38 rfl ?_
        refine zt_put (pc' := 42) (x := 0) hX dX11_on_39 rfl zf_X11_110 (by decide) zc_1 zs_2 (fun q hq => by cases hq; rfl) rfl rfl rfl ?_
        generalize hs66 : zset s28 1 1 0 = s65
        have hI67 : zInv s65 := hs66 ▸ zp_2_1 hI31 zc_1 ⟨by omega, by omega⟩
        have hF68 : zOn zAl σ s65 := hs66 ▸ zOn_set hF36 rfl
        have e69 : s65 0 3 = s28 0 3 := by rw [← hs66]; exact zset_k (zne_r zc_0 zc_1 (by decide))
        refine zt_iload_n (pc' := 43) hX dX11_on_42 rfl rfl ?_
        refine zt_ifne (pc' := 46) (tgt := 52) hX dX11_on_43 rfl (by decide) ⟨by omega, by omega⟩ (fun c70 => ?_) (fun c70 => ?_)
        · exact absurd c70 (by omega)
        · refine zt_aload_n (pc' := 47) hX dX11_on_46 rfl rfl ?_
          refine zt_iconst (pc' := 48) hX dX11_on_47 rfl ?_
          refine zt_cVz (pc' := 51) hX dX11_on_48 rfl zm_yX11_denial zw_15_0 zc_0 (by decide) zs_1 (q := (RX11, TX11, 17)) rfl rfl (zc_X11_denial _ _ s65 hI67 5 ⟨by omega, by omega⟩) rfl rfl (Nat.le_of_ble_eq_true rfl) (by decide) (fun r71 s72 hr73 hp74 => ?_)
          obtain ⟨hI75, hF76, q77, q78⟩ := hp74
          have hF79 : zOn zAl σ s72 := zOn_al
          have b80 := zv_1_3 hI75 zc_0
          exact zt_zret hX hR dX11_on_51 ⟨by omega, by omega⟩ ⟨hI75, hF79, by omega, by omega, (yIr_n c38 (by omega))⟩
      · exact absurd c64 (by omega)
