set_option maxRecDepth 100000 in
set_option maxHeartbeats 4000000 in
theorem yd_X9_addByte2 (l : Launch) (E : zEN) (σ : zSto) (hI : zInv σ) (a1_ : Int) (ha1_ : -2147483648 ≤ a1_ ∧ a1_ ≤ 2147483647) (hpre0 : σ 3 1 ≤ 79) : zCt l E yX9_addByte cX9_addByte 2 none 0 zNC zNC 0 0 σ [.ref (E.1 + 3), .int (zI a1_)] (fun r σ' => zInv σ' ∧ zOn zF3 σ σ' ∧ (σ' 3 1 = σ 3 1 + 1)) := by
  refine zCt_of2 [some (.ref (E.1 + 3)), some (.int (zI a1_))] (by decide +kernel) (Nat.le_of_ble_eq_true rfl) rfl ?_
  intro X hE_ hX hR hL hN
  subst hE_
  have hX : zok X cX9_addByte RX9 0 := hX
  have hF := zOn_rf zF3 σ
  have b1 := zv_4_1 hI zc_3
  refine zt_aload_n (pc' := 1) hX dX9_addByte_0 rfl rfl ?_
  have b2 := zv_4_1 hI zc_3
  refine zt_get (pc' := 4) (v := .int (zI (σ 3 1))) hX dX9_addByte_1 rfl zf_X9_9 (by decide) zc_3 zs_4 rfl ?_
  refine zt_aload_n (pc' := 5) hX dX9_addByte_4 rfl rfl ?_
  refine zt_get (pc' := 8) (v := .ref (X.1.1 + 4)) hX dX9_addByte_5 rfl zf_X9_15 (by decide) zc_3 zs_4 (zrf_of (zv_4_0 hI zc_3)) ?_
  refine zt_alen (pc' := 9) hX dX9_addByte_8 rfl (by decide) zc_4 zs_5 (by decide) ?_
  rw [show ((80 : Nat) : Int) = 80 from rfl]
  refine zt_icge (pc' := 12) (tgt := 33) hX dX9_addByte_9 rfl (by decide) ⟨by omega, by omega⟩ ⟨by omega, by omega⟩ (fun c3 => ?_) (fun c3 => ?_)
  · exact zt_vret hX hR dX9_addByte_33 ⟨hI, hF, by omega⟩
  · refine zt_aload_n (pc' := 13) hX dX9_addByte_12 rfl rfl ?_
    refine zt_get (pc' := 16) (v := .ref (X.1.1 + 4)) hX dX9_addByte_13 rfl zf_X9_15 (by decide) zc_3 zs_4 (zrf_of (zv_4_0 hI zc_3)) ?_
    refine zt_aload_n (pc' := 17) hX dX9_addByte_16 rfl rfl ?_
    refine zt_get (pc' := 20) (v := .int (zI (σ 3 1))) hX dX9_addByte_17 rfl zf_X9_9 (by decide) zc_3 zs_4 rfl ?_
    refine zt_iload_n (pc' := 21) hX dX9_addByte_20 rfl rfl ?_
    refine zt_i2b (pc' := 22) hX dX9_addByte_21 rfl (fun r4 er4 lr4 ur4 => ?_)
    refine zt_bast (pc' := 23) hX dX9_addByte_22 rfl (by decide) zc_4 zs_5 (by decide) ⟨by omega, by omega⟩ ⟨by omega, by omega⟩ ?_
    generalize hs6 : zset σ 4 ((σ 3 1).toNat) r4 = s5
    have hI7 : zInv s5 := hs6 ▸ zp_5 hI zc_4 ((σ 3 1).toNat) ⟨by omega, by omega⟩
    have hF8 : zOn zF3 σ s5 := hs6 ▸ zOn_set hF rfl
    have e9 : s5 3 1 = σ 3 1 := by rw [← hs6]; exact zset_k (zne_r zc_3 zc_4 (by decide))
    refine zt_aload_n (pc' := 24) hX dX9_addByte_23 rfl rfl ?_
    refine zt_dup (pc' := 25) hX dX9_addByte_24 rfl rfl ?_
    have b10 := zv_4_1 hI7 zc_3
    refine zt_get (pc' := 28) (v := .int (zI (s5 3 1))) hX dX9_addByte_25 rfl zf_X9_9 (by decide) zc_3 zs_4 rfl ?_
    refine zt_iconst (pc' := 29) hX dX9_addByte_28 rfl ?_
    refine zt_iadd (pc' := 30) hX dX9_addByte_29 rfl ?_
    refine zt_put (pc' := 33) (x := ((s5 3 1) + 1)) hX dX9_addByte_30 rfl zf_X9_9 (by decide) zc_3 zs_4 (fun q hq => by cases hq; rfl) rfl rfl rfl ?_
    generalize hs12 : zset s5 3 1 ((s5 3 1) + 1) = s11
    have hI13 : zInv s11 := hs12 ▸ zp_4_1 hI7 zc_3 ⟨by omega, by omega⟩
    have hF14 : zOn zF3 σ s11 := hs12 ▸ zOn_set hF8 rfl
    have e15 : s11 3 1 = ((s5 3 1) + 1) := by rw [← hs12]; exact zset_s
    exact zt_vret hX hR dX9_addByte_33 ⟨hI13, hF14, by omega⟩
set_option maxRecDepth 100000 in
set_option maxHeartbeats 4000000 in
theorem yd_X3_cells_7 (l : Launch) (E : zEN) (σ : zSto) (hI : zInv σ)  : zCt l E yX3_cells cX3_cells 1 (some .int) 0 zNC zNC 0 0 σ [.ref (E.1 + 7)] (fun r σ' => σ = σ' ∧ 0 ≤ r ∧ r ≤ 36 ∧ (r = σ 7 10 * σ 7 11)) := by
  refine zCt_of2 [some (.ref (E.1 + 7))] (by decide +kernel) (Nat.le_of_ble_eq_true rfl) rfl ?_
  intro X hE_ hX hR hL hN
  subst hE_
  have hX : zok X cX3_cells RX3 0 := hX
  have b1 := zv_8_10 hI zc_7
  have b2 := zv_8_11 hI zc_7
  refine zt_aload_n (pc' := 1) hX dX3_cells_0 rfl rfl ?_
  have b3 := zv_8_10 hI zc_7
  refine zt_get (pc' := 4) (v := .int (zI (σ 7 10))) hX dX3_cells_1 rfl zf_X3_47 (by decide) zc_7 zs_8 rfl ?_
  refine zt_aload_n (pc' := 5) hX dX3_cells_4 rfl rfl ?_
  have b4 := zv_8_11 hI zc_7
  refine zt_get (pc' := 8) (v := .int (zI (σ 7 11))) hX dX3_cells_5 rfl zf_X3_51 (by decide) zc_7 zs_8 rfl ?_
  refine zt_imul (pc' := 9) hX dX3_cells_8 rfl ?_
  generalize hp5 : (σ 7 10) * (σ 7 11) = p5
  have cp5 : 0 ≤ (σ 7 10) ∧ (σ 7 10) ≤ 6 → 0 ≤ p5 ∧ p5 ≤ 36 := fun h => hp5 ▸ zmul_b (a := 6) (b := 6) h.1 h.2 (by omega) (by omega)
  have bp5 : 0 ≤ p5 ∧ p5 ≤ 36 := hp5 ▸ zmul_b (a := 6) (b := 6) (by omega) (by omega) (by omega) (by omega)
  exact zt_iret hX hR dX3_cells_9 ⟨by omega, by omega⟩ ⟨rfl, by omega, by omega, by omega⟩
set_option maxRecDepth 100000 in
set_option maxHeartbeats 4000000 in
theorem yd_X3_cells_17 (l : Launch) (E : zEN) (σ : zSto) (hI : zInv σ)  : zCt l E yX3_cells cX3_cells 1 (some .int) 0 zNC zNC 0 0 σ [.ref (E.1 + 17)] (fun r σ' => σ = σ' ∧ 0 ≤ r ∧ r ≤ 36 ∧ (r = σ 17 10 * σ 17 11)) := by
  refine zCt_of2 [some (.ref (E.1 + 17))] (by decide +kernel) (Nat.le_of_ble_eq_true rfl) rfl ?_
  intro X hE_ hX hR hL hN
  subst hE_
  have hX : zok X cX3_cells RX3 0 := hX
  have b1 := zv_8_10 hI zc_17
  have b2 := zv_8_11 hI zc_17
  refine zt_aload_n (pc' := 1) hX dX3_cells_0 rfl rfl ?_
  have b3 := zv_8_10 hI zc_17
  refine zt_get (pc' := 4) (v := .int (zI (σ 17 10))) hX dX3_cells_1 rfl zf_X3_47 (by decide) zc_17 zs_8 rfl ?_
  refine zt_aload_n (pc' := 5) hX dX3_cells_4 rfl rfl ?_
  have b4 := zv_8_11 hI zc_17
  refine zt_get (pc' := 8) (v := .int (zI (σ 17 11))) hX dX3_cells_5 rfl zf_X3_51 (by decide) zc_17 zs_8 rfl ?_
  refine zt_imul (pc' := 9) hX dX3_cells_8 rfl ?_
  generalize hp5 : (σ 17 10) * (σ 17 11) = p5
  have cp5 : 0 ≤ (σ 17 10) ∧ (σ 17 10) ≤ 6 → 0 ≤ p5 ∧ p5 ≤ 36 := fun h => hp5 ▸ zmul_b (a := 6) (b := 6) h.1 h.2 (by omega) (by omega)
  have bp5 : 0 ≤ p5 ∧ p5 ≤ 36 := hp5 ▸ zmul_b (a := 6) (b := 6) (by omega) (by omega) (by omega) (by omega)
  exact zt_iret hX hR dX3_cells_9 ⟨by omega, by omega⟩ ⟨rfl, by omega, by omega, by omega⟩
set_option maxRecDepth 100000 in
set_option maxHeartbeats 4000000 in
theorem yd_X11_image_7 (l : Launch) (E : zEN) (σ : zSto) (hI : zInv σ) (hpre0 : σ 0 3 = 7) : zCt l E yX11_image cX11_image 2 (some .int) 2 zNC zNC 0 0 σ [.ref (E.1 + 0)] (fun r σ' => zInv σ' ∧ zOn zF3 σ σ' ∧ -2147483648 ≤ r ∧ r ≤ 2147483647 ∧ (r = 3 + σ 7 10 * σ 7 11 + 4 * σ 7 12)) := by
  refine zCt_of2 [some (.ref (E.1 + 0)), none] (by decide +kernel) (Nat.le_of_ble_eq_true rfl) rfl ?_
  intro X hE_ hX hR hL hN
  subst hE_
  have hX : zok X cX11_image RX11 2 := hX
  have hF := zOn_rf zF3 σ
  have b_a := zv_8_10 hI zc_7
  have b_b := zv_8_11 hI zc_7
  have b_m := ymul36 (a := σ 7 10) (b := σ 7 11) ⟨by omega, by omega⟩ ⟨by omega, by omega⟩
  have b_p := zv_8_12 hI zc_7
  have b1 := zv_4_1 hI zc_3
  have b2 := zv_1_3 hI zc_0
  have b3 := zv_8_10 hI zc_7
  have b4 := zv_8_11 hI zc_7
  have b5 := zv_8_12 hI zc_7
  refine zt_aload_n (pc' := 1) hX dX11_image_0 rfl rfl ?_
  refine zt_get (pc' := 4) (v := .ref (X.1.1 + 3)) hX dX11_image_1 rfl zf_X11_18 (by decide) zc_0 zs_1 (zrf_of (zv_1_1 hI zc_0)) ?_
  refine zt_iconst (pc' := 5) hX dX11_image_4 rfl ?_
  refine zt_put (pc' := 8) (x := 0) hX dX11_image_5 rfl zf_X11_110 (by decide) zc_3 zs_4 (fun q hq => by cases hq; rfl) rfl rfl rfl ?_
  generalize hs7 : zset σ 3 1 0 = s6
  have hI8 : zInv s6 := hs7 ▸ zp_4_1 hI zc_3 ⟨by omega, by omega⟩
  have hF9 : zOn zF3 σ s6 := hs7 ▸ zOn_set hF rfl
  have e10 : s6 3 1 = 0 := by rw [← hs7]; exact zset_s
  have e11 : s6 0 3 = σ 0 3 := by rw [← hs7]; exact zset_k (zne_r zc_0 zc_3 (by decide))
  have e12 : s6 7 10 = σ 7 10 := by rw [← hs7]; exact zset_k (zne_r zc_7 zc_3 (by decide))
  have e13 : s6 7 11 = σ 7 11 := by rw [← hs7]; exact zset_k (zne_r zc_7 zc_3 (by decide))
  have e14 : s6 7 12 = σ 7 12 := by rw [← hs7]; exact zset_k (zne_r zc_7 zc_3 (by decide))
  refine zt_aload_n (pc' := 9) hX dX11_image_8 rfl rfl ?_
  refine zt_get (pc' := 12) (v := .ref (X.1.1 + 3)) hX dX11_image_9 rfl zf_X11_18 (by decide) zc_0 zs_1 (zrf_of (zv_1_1 hI8 zc_0)) ?_
  refine zt_aload_n (pc' := 13) hX dX11_image_12 rfl rfl ?_
  refine zt_get (pc' := 16) (v := .ref (X.1.1 + 35)) hX dX11_image_13 rfl zf_X11_66 (by decide) zc_0 zs_1 (zrf_of (zv_1_8 hI8 zc_0)) ?_
  have b15 := zv_22_5 hI8 zc_35
  have e16 : s6 35 5 = σ 35 5 := by rw [← hs7]; exact zset_k (zne_r zc_35 zc_3 (by decide))
  refine zt_get (pc' := 19) (v := .int (zI (s6 35 5))) hX dX11_image_16 rfl zf_X11_150 (by decide) zc_35 zs_22 rfl ?_
  refine zt_bipush (pc' := 21) hX dX11_image_19 rfl (by decide) (by decide) ?_
  refine zt_ishr (pc' := 22) hX dX11_image_21 rfl (fun r17 zr17 lr17 ur17 => ?_)
  clear zr17
  refine zt_cVv (pc' := 25) hX dX11_image_22 rfl zm_yX9_addByte zw_67_14 zc_3 (by decide) zs_4 (q := (RX9, TX9, 2)) rfl rfl (yd_X9_addByte2 _ _ s6 hI8 r17 ⟨by omega, by omega⟩ (by omega)) rfl rfl (Nat.le_of_ble_eq_true rfl) (by decide) (fun r18 s19 hr20 hp21 => ?_)
  obtain ⟨hI22, hF23, z24⟩ := hp21
  have hF25 := zOn_tr hF9 hF23 zi_id
  have b26 := zv_4_1 hI22 zc_3
  have b27 := zv_1_3 hI22 zc_0
  have b28 := zv_8_10 hI22 zc_7
  have b29 := zv_8_11 hI22 zc_7
  have b30 := zv_8_12 hI22 zc_7
  have e31 := hF23 0 3 rfl
  have e32 := hF23 7 10 rfl
  have e33 := hF23 7 11 rfl
  have e34 := hF23 7 12 rfl
  refine zt_aload_n (pc' := 26) hX dX11_image_25 rfl rfl ?_
  refine zt_get (pc' := 29) (v := .ref (X.1.1 + 3)) hX dX11_image_26 rfl zf_X11_18 (by decide) zc_0 zs_1 (zrf_of (zv_1_1 hI22 zc_0)) ?_
  refine zt_aload_n (pc' := 30) hX dX11_image_29 rfl rfl ?_
  refine zt_get (pc' := 33) (v := .ref (X.1.1 + 35)) hX dX11_image_30 rfl zf_X11_66 (by decide) zc_0 zs_1 (zrf_of (zv_1_8 hI22 zc_0)) ?_
  have b35 := zv_22_5 hI22 zc_35
  refine zt_get (pc' := 36) (v := .int (zI (s19 35 5))) hX dX11_image_33 rfl zf_X11_150 (by decide) zc_35 zs_22 rfl ?_
  refine zt_sipush (pc' := 39) hX dX11_image_36 rfl (by decide) (by decide) ?_
  refine zt_iandm (pc' := 40) hX dX11_image_39 rfl 8 (by decide +kernel) (by decide) (fun r36 er36 lr36 ur36 => ?_)
  have ur36 : r36 ≤ 255 := by omega
  refine zt_cVv (pc' := 43) hX dX11_image_40 rfl zm_yX9_addByte zw_67_14 zc_3 (by decide) zs_4 (q := (RX9, TX9, 2)) rfl rfl (yd_X9_addByte2 _ _ s19 hI22 r36 ⟨by omega, by omega⟩ (by omega)) rfl rfl (Nat.le_of_ble_eq_true rfl) (by decide) (fun r37 s38 hr39 hp40 => ?_)
  obtain ⟨hI41, hF42, z43⟩ := hp40
  have hF44 := zOn_tr hF25 hF42 zi_id
  have b45 := zv_4_1 hI41 zc_3
  have b46 := zv_1_3 hI41 zc_0
  have b47 := zv_8_10 hI41 zc_7
  have b48 := zv_8_11 hI41 zc_7
  have b49 := zv_8_12 hI41 zc_7
  have e50 := hF42 0 3 rfl
  have e51 := hF42 7 10 rfl
  have e52 := hF42 7 11 rfl
  have e53 := hF42 7 12 rfl
  refine zt_iconst (pc' := 44) hX dX11_image_43 rfl ?_
  refine zt_istore_n (pc' := 45) (lv' := [some (.ref (X.1.1 + 0)), some (.int (zI 0))]) hX dX11_image_44 rfl hL (by decide) rfl ?_
  have L_45_66 : ∀ (N : Nat) (x54 : Int) (s57 : zSto), 0 ≤ x54 → x54 ≤ 36 → zInv s57 → zOn zF3 σ s57 → s57 3 1 = 2 + x54 → 0 ≤ x54 → x54 ≤ σ 7 10 * σ 7 11 → s57 0 3 = 7 → s57 7 10 = σ 7 10 → s57 7 11 = σ 7 11 → s57 7 12 = σ 7 12 → ((37 - x54).toNat) < N → zF X s57 45 [some (.ref (X.1.1 + 0)), some (.int (zI x54))] [] := by
    intro N
    induction N with
    | zero =>
      intro x54 s57 h55 h56 hI58 hF59 g60 g61 g62 g63 g64 g65 g66 hm68
      exact absurd hm68 (Nat.not_lt_zero _)
    | succ N ih69 =>
      intro x54 s57 h55 h56 hI58 hF59 g60 g61 g62 g63 g64 g65 g66 hm68
      have b70 := zv_4_1 hI58 zc_3
      have b71 := zv_1_3 hI58 zc_0
      have b72 := zv_8_10 hI58 zc_7
      have b73 := zv_8_11 hI58 zc_7
      have b74 := zv_8_12 hI58 zc_7
      refine zt_iload_n (pc' := 46) hX dX11_image_45 rfl rfl ?_
      refine zt_aload_n (pc' := 47) hX dX11_image_46 rfl rfl ?_
      have ek75 : s57 0 3 = ((7 : Nat) : Int) := by omega
      refine zt_get (pc' := 50) (v := .ref (X.1.1 + 7)) hX dX11_image_47 rfl zf_X11_31 (by decide) zc_0 zs_1 (zrf_of ek75) ?_
      refine zt_cVi (pc' := 53) hX dX11_image_50 rfl zm_yX3_cells zw_56_2 zc_7 (by decide) zs_8 (q := (RX3, TX3, 17)) rfl rfl (yd_X3_cells_7 _ _ s57 hI58 ) rfl rfl (Nat.le_of_ble_eq_true rfl) (by decide) (fun r76 s77 hr78 hp79 => ?_)
      obtain ⟨rfl, q80, q81, z82⟩ := hp79
      have hc83 : r76 = σ 7 10 * σ 7 11 := z82.trans (ymul_c (by omega) (by omega))
      clear z82
      refine zt_icge (pc' := 56) (tgt := 85) hX dX11_image_53 rfl (by decide) ⟨by omega, by omega⟩ ⟨by omega, by omega⟩ (fun c84 => ?_) (fun c84 => ?_)
      · refine zt_iconst (pc' := 86) hX dX11_image_85 rfl ?_
        refine zt_istore_n (pc' := 87) (lv' := [some (.ref (X.1.1 + 0)), some (.int (zI 0))]) hX dX11_image_86 rfl hL (by decide) rfl ?_
        have L_87_97 : ∀ (N : Nat) (x85 : Int) (s88 : zSto), 0 ≤ x85 → x85 ≤ 10 → zInv s88 → zOn zF3 σ s88 → s88 3 1 = 2 + σ 7 10 * σ 7 11 + 4 * x85 → 0 ≤ x85 → x85 ≤ σ 7 12 → s88 0 3 = 7 → s88 7 10 = σ 7 10 → s88 7 11 = σ 7 11 → s88 7 12 = σ 7 12 → ((11 - x85).toNat) < N → zF X s88 87 [some (.ref (X.1.1 + 0)), some (.int (zI x85))] [] := by
          intro N
          induction N with
          | zero =>
            intro x85 s88 h86 h87 hI89 hF90 g91 g92 g93 g94 g95 g96 g97 hm99
            exact absurd hm99 (Nat.not_lt_zero _)
          | succ N ih100 =>
            intro x85 s88 h86 h87 hI89 hF90 g91 g92 g93 g94 g95 g96 g97 hm99
            have b101 := zv_4_1 hI89 zc_3
            have b102 := zv_1_3 hI89 zc_0
            have b103 := zv_8_10 hI89 zc_7
            have b104 := zv_8_11 hI89 zc_7
            have b105 := zv_8_12 hI89 zc_7
            refine zt_iload_n (pc' := 88) hX dX11_image_87 rfl rfl ?_
            refine zt_aload_n (pc' := 89) hX dX11_image_88 rfl rfl ?_
            have ek106 : s88 0 3 = ((7 : Nat) : Int) := by omega
            refine zt_get (pc' := 92) (v := .ref (X.1.1 + 7)) hX dX11_image_89 rfl zf_X11_31 (by decide) zc_0 zs_1 (zrf_of ek106) ?_
            have b107 := zv_8_12 hI89 zc_7
            refine zt_get (pc' := 95) (v := .int (zI (s88 7 12))) hX dX11_image_92 rfl zf_X11_147 (by decide) zc_7 zs_8 rfl ?_
            refine zt_icge (pc' := 98) (tgt := 170) hX dX11_image_95 rfl (by decide) ⟨by omega, by omega⟩ ⟨by omega, by omega⟩ (fun c108 => ?_) (fun c108 => ?_)
            · refine zt_aload_n (pc' := 171) hX dX11_image_170 rfl rfl ?_
              refine zt_get (pc' := 174) (v := .ref (X.1.1 + 3)) hX dX11_image_171 rfl zf_X11_18 (by decide) zc_0 zs_1 (zrf_of (zv_1_1 hI89 zc_0)) ?_
              refine zt_aload_n (pc' := 175) hX dX11_image_174 rfl rfl ?_
              refine zt_get (pc' := 178) (v := .ref (X.1.1 + 3)) hX dX11_image_175 rfl zf_X11_18 (by decide) zc_0 zs_1 (zrf_of (zv_1_1 hI89 zc_0)) ?_
              refine zt_aload_n (pc' := 179) hX dX11_image_178 rfl rfl ?_
              refine zt_get (pc' := 182) (v := .ref (X.1.1 + 3)) hX dX11_image_179 rfl zf_X11_18 (by decide) zc_0 zs_1 (zrf_of (zv_1_1 hI89 zc_0)) ?_
              have b109 := zv_4_1 hI89 zc_3
              refine zt_get (pc' := 185) (v := .int (zI (s88 3 1))) hX dX11_image_182 rfl zf_X11_110 (by decide) zc_3 zs_4 rfl ?_
              refine zt_cVi (pc' := 188) hX dX11_image_185 rfl zm_yX9_checkOf zw_67_15 zc_3 (by decide) zs_4 (q := (RX9, TX9, 2)) rfl rfl (zc_X9_checkOf_2 _ _ s88 hI89 (s88 3 1) ⟨by omega, by omega⟩) rfl rfl (Nat.le_of_ble_eq_true rfl) (by decide) (fun r110 s111 hr112 hp113 => ?_)
              obtain ⟨rfl, q114, q115⟩ := hp113
              refine zt_cVv (pc' := 191) hX dX11_image_188 rfl zm_yX9_addByte zw_67_14 zc_3 (by decide) zs_4 (q := (RX9, TX9, 2)) rfl rfl (yd_X9_addByte2 _ _ s88 hI89 r110 ⟨by omega, by omega⟩ (by omega)) rfl rfl (Nat.le_of_ble_eq_true rfl) (by decide) (fun r116 s117 hr118 hp119 => ?_)
              obtain ⟨hI120, hF121, z122⟩ := hp119
              have hF123 := zOn_tr hF90 hF121 zi_id
              have b124 := zv_4_1 hI120 zc_3
              have b125 := zv_1_3 hI120 zc_0
              have b126 := zv_8_10 hI120 zc_7
              have b127 := zv_8_11 hI120 zc_7
              have b128 := zv_8_12 hI120 zc_7
              have e129 := hF121 0 3 rfl
              have e130 := hF121 7 10 rfl
              have e131 := hF121 7 11 rfl
              have e132 := hF121 7 12 rfl
              refine zt_aload_n (pc' := 192) hX dX11_image_191 rfl rfl ?_
              refine zt_get (pc' := 195) (v := .ref (X.1.1 + 3)) hX dX11_image_192 rfl zf_X11_18 (by decide) zc_0 zs_1 (zrf_of (zv_1_1 hI120 zc_0)) ?_
              have b133 := zv_4_1 hI120 zc_3
              refine zt_get (pc' := 198) (v := .int (zI (s117 3 1))) hX dX11_image_195 rfl zf_X11_110 (by decide) zc_3 zs_4 rfl ?_
              exact zt_iret hX hR dX11_image_198 ⟨by omega, by omega⟩ ⟨hI120, hF123, by omega, by omega, by omega⟩
            · refine zt_aload_n (pc' := 99) hX dX11_image_98 rfl rfl ?_
              refine zt_get (pc' := 102) (v := .ref (X.1.1 + 3)) hX dX11_image_99 rfl zf_X11_18 (by decide) zc_0 zs_1 (zrf_of (zv_1_1 hI89 zc_0)) ?_
              refine zt_aload_n (pc' := 103) hX dX11_image_102 rfl rfl ?_
              refine zt_get (pc' := 106) (v := .ref (X.1.1 + 35)) hX dX11_image_103 rfl zf_X11_66 (by decide) zc_0 zs_1 (zrf_of (zv_1_8 hI89 zc_0)) ?_
              refine zt_get (pc' := 109) (v := .ref (X.1.1 + 36)) hX dX11_image_106 rfl zf_X11_215 (by decide) zc_35 zs_22 (zrf_of (zv_22_0 hI89 zc_35)) ?_
              refine zt_iload_n (pc' := 110) hX dX11_image_109 rfl rfl ?_
              refine zt_iald (pc' := 111) hX dX11_image_110 rfl (by decide) zc_36 zs_23 (by decide) ⟨by omega, by omega⟩ ?_
              generalize hv134 : s88 36 (x85.toNat) = v134
              have bv134 : -1 ≤ v134 ∧ v134 ≤ 255 := hv134 ▸ zv_23 hI89 zc_36 _
              refine zt_cVv (pc' := 114) hX dX11_image_111 rfl zm_yX9_addByte zw_67_14 zc_3 (by decide) zs_4 (q := (RX9, TX9, 2)) rfl rfl (yd_X9_addByte2 _ _ s88 hI89 v134 ⟨by omega, by omega⟩ (by omega)) rfl rfl (Nat.le_of_ble_eq_true rfl) (by decide) (fun r135 s136 hr137 hp138 => ?_)
              obtain ⟨hI139, hF140, z141⟩ := hp138
              have hF142 := zOn_tr hF90 hF140 zi_id
              have b143 := zv_4_1 hI139 zc_3
              have b144 := zv_1_3 hI139 zc_0
              have b145 := zv_8_10 hI139 zc_7
              have b146 := zv_8_11 hI139 zc_7
              have b147 := zv_8_12 hI139 zc_7
              have e148 := hF140 0 3 rfl
              have e149 := hF140 7 10 rfl
              have e150 := hF140 7 11 rfl
              have e151 := hF140 7 12 rfl
              refine zt_aload_n (pc' := 115) hX dX11_image_114 rfl rfl ?_
              refine zt_get (pc' := 118) (v := .ref (X.1.1 + 3)) hX dX11_image_115 rfl zf_X11_18 (by decide) zc_0 zs_1 (zrf_of (zv_1_1 hI139 zc_0)) ?_
              refine zt_aload_n (pc' := 119) hX dX11_image_118 rfl rfl ?_
              refine zt_get (pc' := 122) (v := .ref (X.1.1 + 35)) hX dX11_image_119 rfl zf_X11_66 (by decide) zc_0 zs_1 (zrf_of (zv_1_8 hI139 zc_0)) ?_
              refine zt_get (pc' := 125) (v := .ref (X.1.1 + 37)) hX dX11_image_122 rfl zf_X11_218 (by decide) zc_35 zs_22 (zrf_of (zv_22_1 hI139 zc_35)) ?_
              refine zt_iload_n (pc' := 126) hX dX11_image_125 rfl rfl ?_
              refine zt_iald (pc' := 127) hX dX11_image_126 rfl (by decide) zc_37 zs_24 (by decide) ⟨by omega, by omega⟩ ?_
              generalize hv152 : s136 37 (x85.toNat) = v152
              have bv152 : -1 ≤ v152 ∧ v152 ≤ 255 := hv152 ▸ zv_24 hI139 zc_37 _
              refine zt_cVv (pc' := 130) hX dX11_image_127 rfl zm_yX9_addByte zw_67_14 zc_3 (by decide) zs_4 (q := (RX9, TX9, 2)) rfl rfl (yd_X9_addByte2 _ _ s136 hI139 v152 ⟨by omega, by omega⟩ (by omega)) rfl rfl (Nat.le_of_ble_eq_true rfl) (by decide) (fun r153 s154 hr155 hp156 => ?_)
              obtain ⟨hI157, hF158, z159⟩ := hp156
              have hF160 := zOn_tr hF142 hF158 zi_id
              have b161 := zv_4_1 hI157 zc_3
              have b162 := zv_1_3 hI157 zc_0
              have b163 := zv_8_10 hI157 zc_7
              have b164 := zv_8_11 hI157 zc_7
              have b165 := zv_8_12 hI157 zc_7
              have e166 := hF158 0 3 rfl
              have e167 := hF158 7 10 rfl
              have e168 := hF158 7 11 rfl
              have e169 := hF158 7 12 rfl
              refine zt_aload_n (pc' := 131) hX dX11_image_130 rfl rfl ?_
              refine zt_get (pc' := 134) (v := .ref (X.1.1 + 3)) hX dX11_image_131 rfl zf_X11_18 (by decide) zc_0 zs_1 (zrf_of (zv_1_1 hI157 zc_0)) ?_
              refine zt_aload_n (pc' := 135) hX dX11_image_134 rfl rfl ?_
              refine zt_get (pc' := 138) (v := .ref (X.1.1 + 35)) hX dX11_image_135 rfl zf_X11_66 (by decide) zc_0 zs_1 (zrf_of (zv_1_8 hI157 zc_0)) ?_
              refine zt_get (pc' := 141) (v := .ref (X.1.1 + 38)) hX dX11_image_138 rfl zf_X11_224 (by decide) zc_35 zs_22 (zrf_of (zv_22_2 hI157 zc_35)) ?_
              refine zt_iload_n (pc' := 142) hX dX11_image_141 rfl rfl ?_
              refine zt_iald (pc' := 143) hX dX11_image_142 rfl (by decide) zc_38 zs_25 (by decide) ⟨by omega, by omega⟩ ?_
              generalize hv170 : s154 38 (x85.toNat) = v170
              have bv170 : -1 ≤ v170 ∧ v170 ≤ 255 := hv170 ▸ zv_25 hI157 zc_38 _
              refine zt_cVv (pc' := 146) hX dX11_image_143 rfl zm_yX9_addByte zw_67_14 zc_3 (by decide) zs_4 (q := (RX9, TX9, 2)) rfl rfl (yd_X9_addByte2 _ _ s154 hI157 v170 ⟨by omega, by omega⟩ (by omega)) rfl rfl (Nat.le_of_ble_eq_true rfl) (by decide) (fun r171 s172 hr173 hp174 => ?_)
              obtain ⟨hI175, hF176, z177⟩ := hp174
              have hF178 := zOn_tr hF160 hF176 zi_id
              have b179 := zv_4_1 hI175 zc_3
              have b180 := zv_1_3 hI175 zc_0
              have b181 := zv_8_10 hI175 zc_7
              have b182 := zv_8_11 hI175 zc_7
              have b183 := zv_8_12 hI175 zc_7
              have e184 := hF176 0 3 rfl
              have e185 := hF176 7 10 rfl
              have e186 := hF176 7 11 rfl
              have e187 := hF176 7 12 rfl
              refine zt_aload_n (pc' := 147) hX dX11_image_146 rfl rfl ?_
              refine zt_get (pc' := 150) (v := .ref (X.1.1 + 3)) hX dX11_image_147 rfl zf_X11_18 (by decide) zc_0 zs_1 (zrf_of (zv_1_1 hI175 zc_0)) ?_
              refine zt_aload_n (pc' := 151) hX dX11_image_150 rfl rfl ?_
              refine zt_get (pc' := 154) (v := .ref (X.1.1 + 35)) hX dX11_image_151 rfl zf_X11_66 (by decide) zc_0 zs_1 (zrf_of (zv_1_8 hI175 zc_0)) ?_
              have b188 := zv_22_7 hI175 zc_35
              refine zt_get (pc' := 157) (v := .int (zI (s172 35 7))) hX dX11_image_154 rfl zf_X11_171 (by decide) zc_35 zs_22 rfl ?_
              refine zt_iload_n (pc' := 158) hX dX11_image_157 rfl rfl ?_
              refine zt_ishr (pc' := 159) hX dX11_image_158 rfl (fun r189 zr189 lr189 ur189 => ?_)
              clear zr189
              refine zt_iconst (pc' := 160) hX dX11_image_159 rfl ?_
              refine zt_iandm (pc' := 161) hX dX11_image_160 rfl 1 (by decide +kernel) (by decide) (fun r190 er190 lr190 ur190 => ?_)
              have ur190 : r190 ≤ 1 := by omega
              refine zt_cVv (pc' := 164) hX dX11_image_161 rfl zm_yX9_addByte zw_67_14 zc_3 (by decide) zs_4 (q := (RX9, TX9, 2)) rfl rfl (yd_X9_addByte2 _ _ s172 hI175 r190 ⟨by omega, by omega⟩ (by omega)) rfl rfl (Nat.le_of_ble_eq_true rfl) (by decide) (fun r191 s192 hr193 hp194 => ?_)
              obtain ⟨hI195, hF196, z197⟩ := hp194
              have hF198 := zOn_tr hF178 hF196 zi_id
              have b199 := zv_4_1 hI195 zc_3
              have b200 := zv_1_3 hI195 zc_0
              have b201 := zv_8_10 hI195 zc_7
              have b202 := zv_8_11 hI195 zc_7
              have b203 := zv_8_12 hI195 zc_7
              have e204 := hF196 0 3 rfl
              have e205 := hF196 7 10 rfl
              have e206 := hF196 7 11 rfl
              have e207 := hF196 7 12 rfl
              refine zt_iinc (pc' := 167) (lv' := [some (.ref (X.1.1 + 0)), some (.int (zI (x85 + 1)))]) hX dX11_image_164 rfl rfl hL (by decide) rfl ?_
              refine zt_goto (tgt := 87) hX dX11_image_167 (by decide) ?_
              exact ih100 (x85 + 1) s192 (by omega) (by omega) hI195 hF198 (by omega) (by omega) (by omega) (by omega) (by omega) (by omega) (by omega) (by omega)
        exact L_87_97 _ 0 s57 (by omega) (by omega) hI58 hF59 (by omega) (by omega) (by omega) (by omega) (by omega) (by omega) (by omega) (Nat.lt_succ_self _)
      · refine zt_aload_n (pc' := 57) hX dX11_image_56 rfl rfl ?_
        refine zt_get (pc' := 60) (v := .ref (X.1.1 + 3)) hX dX11_image_57 rfl zf_X11_18 (by decide) zc_0 zs_1 (zrf_of (zv_1_1 hI58 zc_0)) ?_
        refine zt_aload_n (pc' := 61) hX dX11_image_60 rfl rfl ?_
        refine zt_get (pc' := 64) (v := .ref (X.1.1 + 35)) hX dX11_image_61 rfl zf_X11_66 (by decide) zc_0 zs_1 (zrf_of (zv_1_8 hI58 zc_0)) ?_
        refine zt_iload_n (pc' := 65) hX dX11_image_64 rfl rfl ?_
        refine zt_cVz (pc' := 68) hX dX11_image_65 rfl zm_yX10_isCracked zw_42_7 zc_35 (by decide) zs_22 (q := (RX10, TX10, 8)) rfl rfl (zc_X10_isCracked _ _ s57 hI58 35 zc_35 x54 ⟨by omega, by omega⟩) rfl rfl (Nat.le_of_ble_eq_true rfl) (by decide) (fun r208 s209 hr210 hp211 => ?_)
        obtain ⟨rfl, q212, q213⟩ := hp211
        refine zt_ifeq (pc' := 71) (tgt := 75) hX dX11_image_68 rfl (by decide) ⟨by omega, by omega⟩ (fun c214 => ?_) (fun c214 => ?_)
        · refine zt_iconst (pc' := 76) hX dX11_image_75 rfl ?_
          refine zt_cVv (pc' := 79) hX dX11_image_76 rfl zm_yX9_addByte zw_67_14 zc_3 (by decide) zs_4 (q := (RX9, TX9, 2)) rfl rfl (yd_X9_addByte2 _ _ s57 hI58 0 ⟨by omega, by omega⟩ (by omega)) rfl rfl (Nat.le_of_ble_eq_true rfl) (by decide) (fun r215 s216 hr217 hp218 => ?_)
          obtain ⟨hI219, hF220, z221⟩ := hp218
          have hF222 := zOn_tr hF59 hF220 zi_id
          have b223 := zv_4_1 hI219 zc_3
          have b224 := zv_1_3 hI219 zc_0
          have b225 := zv_8_10 hI219 zc_7
          have b226 := zv_8_11 hI219 zc_7
          have b227 := zv_8_12 hI219 zc_7
          have e228 := hF220 0 3 rfl
          have e229 := hF220 7 10 rfl
          have e230 := hF220 7 11 rfl
          have e231 := hF220 7 12 rfl
          refine zt_iinc (pc' := 82) (lv' := [some (.ref (X.1.1 + 0)), some (.int (zI (x54 + 1)))]) hX dX11_image_79 rfl rfl hL (by decide) rfl ?_
          refine zt_goto (tgt := 45) hX dX11_image_82 (by decide) ?_
          exact ih69 (x54 + 1) s216 (by omega) (by omega) hI219 hF222 (by omega) (by omega) (by omega) (by omega) (by omega) (by omega) (by omega) (by omega)
        · refine zt_iconst (pc' := 72) hX dX11_image_71 rfl ?_
          refine zt_goto (tgt := 76) hX dX11_image_72 (by decide) ?_
          refine zt_cVv (pc' := 79) hX dX11_image_76 rfl zm_yX9_addByte zw_67_14 zc_3 (by decide) zs_4 (q := (RX9, TX9, 2)) rfl rfl (yd_X9_addByte2 _ _ s57 hI58 1 ⟨by omega, by omega⟩ (by omega)) rfl rfl (Nat.le_of_ble_eq_true rfl) (by decide) (fun r232 s233 hr234 hp235 => ?_)
          obtain ⟨hI236, hF237, z238⟩ := hp235
          have hF239 := zOn_tr hF59 hF237 zi_id
          have b240 := zv_4_1 hI236 zc_3
          have b241 := zv_1_3 hI236 zc_0
          have b242 := zv_8_10 hI236 zc_7
          have b243 := zv_8_11 hI236 zc_7
          have b244 := zv_8_12 hI236 zc_7
          have e245 := hF237 0 3 rfl
          have e246 := hF237 7 10 rfl
          have e247 := hF237 7 11 rfl
          have e248 := hF237 7 12 rfl
          refine zt_iinc (pc' := 82) (lv' := [some (.ref (X.1.1 + 0)), some (.int (zI (x54 + 1)))]) hX dX11_image_79 rfl rfl hL (by decide) rfl ?_
          refine zt_goto (tgt := 45) hX dX11_image_82 (by decide) ?_
          exact ih69 (x54 + 1) s233 (by omega) (by omega) hI236 hF239 (by omega) (by omega) (by omega) (by omega) (by omega) (by omega) (by omega) (by omega)
  exact L_45_66 _ 0 s38 (by omega) (by omega) hI41 hF44 (by omega) (by omega) (by omega) (by omega) (by omega) (by omega) (by omega) (Nat.lt_succ_self _)
set_option maxRecDepth 100000 in
set_option maxHeartbeats 4000000 in
theorem yd_X11_image_17 (l : Launch) (E : zEN) (σ : zSto) (hI : zInv σ) (hpre0 : σ 0 3 = 17) : zCt l E yX11_image cX11_image 2 (some .int) 2 zNC zNC 0 0 σ [.ref (E.1 + 0)] (fun r σ' => zInv σ' ∧ zOn zF3 σ σ' ∧ -2147483648 ≤ r ∧ r ≤ 2147483647 ∧ (r = 3 + σ 17 10 * σ 17 11 + 4 * σ 17 12)) := by
  refine zCt_of2 [some (.ref (E.1 + 0)), none] (by decide +kernel) (Nat.le_of_ble_eq_true rfl) rfl ?_
  intro X hE_ hX hR hL hN
  subst hE_
  have hX : zok X cX11_image RX11 2 := hX
  have hF := zOn_rf zF3 σ
  have b_a := zv_8_10 hI zc_17
  have b_b := zv_8_11 hI zc_17
  have b_m := ymul36 (a := σ 17 10) (b := σ 17 11) ⟨by omega, by omega⟩ ⟨by omega, by omega⟩
  have b_p := zv_8_12 hI zc_17
  have b1 := zv_4_1 hI zc_3
  have b2 := zv_1_3 hI zc_0
  have b3 := zv_8_10 hI zc_17
  have b4 := zv_8_11 hI zc_17
  have b5 := zv_8_12 hI zc_17
  refine zt_aload_n (pc' := 1) hX dX11_image_0 rfl rfl ?_
  refine zt_get (pc' := 4) (v := .ref (X.1.1 + 3)) hX dX11_image_1 rfl zf_X11_18 (by decide) zc_0 zs_1 (zrf_of (zv_1_1 hI zc_0)) ?_
  refine zt_iconst (pc' := 5) hX dX11_image_4 rfl ?_
  refine zt_put (pc' := 8) (x := 0) hX dX11_image_5 rfl zf_X11_110 (by decide) zc_3 zs_4 (fun q hq => by cases hq; rfl) rfl rfl rfl ?_
  generalize hs7 : zset σ 3 1 0 = s6
  have hI8 : zInv s6 := hs7 ▸ zp_4_1 hI zc_3 ⟨by omega, by omega⟩
  have hF9 : zOn zF3 σ s6 := hs7 ▸ zOn_set hF rfl
  have e10 : s6 3 1 = 0 := by rw [← hs7]; exact zset_s
  have e11 : s6 0 3 = σ 0 3 := by rw [← hs7]; exact zset_k (zne_r zc_0 zc_3 (by decide))
  have e12 : s6 17 10 = σ 17 10 := by rw [← hs7]; exact zset_k (zne_r zc_17 zc_3 (by decide))
  have e13 : s6 17 11 = σ 17 11 := by rw [← hs7]; exact zset_k (zne_r zc_17 zc_3 (by decide))
  have e14 : s6 17 12 = σ 17 12 := by rw [← hs7]; exact zset_k (zne_r zc_17 zc_3 (by decide))
  refine zt_aload_n (pc' := 9) hX dX11_image_8 rfl rfl ?_
  refine zt_get (pc' := 12) (v := .ref (X.1.1 + 3)) hX dX11_image_9 rfl zf_X11_18 (by decide) zc_0 zs_1 (zrf_of (zv_1_1 hI8 zc_0)) ?_
  refine zt_aload_n (pc' := 13) hX dX11_image_12 rfl rfl ?_
  refine zt_get (pc' := 16) (v := .ref (X.1.1 + 35)) hX dX11_image_13 rfl zf_X11_66 (by decide) zc_0 zs_1 (zrf_of (zv_1_8 hI8 zc_0)) ?_
  have b15 := zv_22_5 hI8 zc_35
  have e16 : s6 35 5 = σ 35 5 := by rw [← hs7]; exact zset_k (zne_r zc_35 zc_3 (by decide))
  refine zt_get (pc' := 19) (v := .int (zI (s6 35 5))) hX dX11_image_16 rfl zf_X11_150 (by decide) zc_35 zs_22 rfl ?_
  refine zt_bipush (pc' := 21) hX dX11_image_19 rfl (by decide) (by decide) ?_
  refine zt_ishr (pc' := 22) hX dX11_image_21 rfl (fun r17 zr17 lr17 ur17 => ?_)
  clear zr17
  refine zt_cVv (pc' := 25) hX dX11_image_22 rfl zm_yX9_addByte zw_67_14 zc_3 (by decide) zs_4 (q := (RX9, TX9, 2)) rfl rfl (yd_X9_addByte2 _ _ s6 hI8 r17 ⟨by omega, by omega⟩ (by omega)) rfl rfl (Nat.le_of_ble_eq_true rfl) (by decide) (fun r18 s19 hr20 hp21 => ?_)
  obtain ⟨hI22, hF23, z24⟩ := hp21
  have hF25 := zOn_tr hF9 hF23 zi_id
  have b26 := zv_4_1 hI22 zc_3
  have b27 := zv_1_3 hI22 zc_0
  have b28 := zv_8_10 hI22 zc_17
  have b29 := zv_8_11 hI22 zc_17
  have b30 := zv_8_12 hI22 zc_17
  have e31 := hF23 0 3 rfl
  have e32 := hF23 17 10 rfl
  have e33 := hF23 17 11 rfl
  have e34 := hF23 17 12 rfl
  refine zt_aload_n (pc' := 26) hX dX11_image_25 rfl rfl ?_
  refine zt_get (pc' := 29) (v := .ref (X.1.1 + 3)) hX dX11_image_26 rfl zf_X11_18 (by decide) zc_0 zs_1 (zrf_of (zv_1_1 hI22 zc_0)) ?_
  refine zt_aload_n (pc' := 30) hX dX11_image_29 rfl rfl ?_
  refine zt_get (pc' := 33) (v := .ref (X.1.1 + 35)) hX dX11_image_30 rfl zf_X11_66 (by decide) zc_0 zs_1 (zrf_of (zv_1_8 hI22 zc_0)) ?_
  have b35 := zv_22_5 hI22 zc_35
  refine zt_get (pc' := 36) (v := .int (zI (s19 35 5))) hX dX11_image_33 rfl zf_X11_150 (by decide) zc_35 zs_22 rfl ?_
  refine zt_sipush (pc' := 39) hX dX11_image_36 rfl (by decide) (by decide) ?_
  refine zt_iandm (pc' := 40) hX dX11_image_39 rfl 8 (by decide +kernel) (by decide) (fun r36 er36 lr36 ur36 => ?_)
  have ur36 : r36 ≤ 255 := by omega
  refine zt_cVv (pc' := 43) hX dX11_image_40 rfl zm_yX9_addByte zw_67_14 zc_3 (by decide) zs_4 (q := (RX9, TX9, 2)) rfl rfl (yd_X9_addByte2 _ _ s19 hI22 r36 ⟨by omega, by omega⟩ (by omega)) rfl rfl (Nat.le_of_ble_eq_true rfl) (by decide) (fun r37 s38 hr39 hp40 => ?_)
  obtain ⟨hI41, hF42, z43⟩ := hp40
  have hF44 := zOn_tr hF25 hF42 zi_id
  have b45 := zv_4_1 hI41 zc_3
  have b46 := zv_1_3 hI41 zc_0
  have b47 := zv_8_10 hI41 zc_17
  have b48 := zv_8_11 hI41 zc_17
  have b49 := zv_8_12 hI41 zc_17
  have e50 := hF42 0 3 rfl
  have e51 := hF42 17 10 rfl
  have e52 := hF42 17 11 rfl
  have e53 := hF42 17 12 rfl
  refine zt_iconst (pc' := 44) hX dX11_image_43 rfl ?_
  refine zt_istore_n (pc' := 45) (lv' := [some (.ref (X.1.1 + 0)), some (.int (zI 0))]) hX dX11_image_44 rfl hL (by decide) rfl ?_
  have L_45_66 : ∀ (N : Nat) (x54 : Int) (s57 : zSto), 0 ≤ x54 → x54 ≤ 36 → zInv s57 → zOn zF3 σ s57 → s57 3 1 = 2 + x54 → 0 ≤ x54 → x54 ≤ σ 17 10 * σ 17 11 → s57 0 3 = 17 → s57 17 10 = σ 17 10 → s57 17 11 = σ 17 11 → s57 17 12 = σ 17 12 → ((37 - x54).toNat) < N → zF X s57 45 [some (.ref (X.1.1 + 0)), some (.int (zI x54))] [] := by
    intro N
    induction N with
    | zero =>
      intro x54 s57 h55 h56 hI58 hF59 g60 g61 g62 g63 g64 g65 g66 hm68
      exact absurd hm68 (Nat.not_lt_zero _)
    | succ N ih69 =>
      intro x54 s57 h55 h56 hI58 hF59 g60 g61 g62 g63 g64 g65 g66 hm68
      have b70 := zv_4_1 hI58 zc_3
      have b71 := zv_1_3 hI58 zc_0
      have b72 := zv_8_10 hI58 zc_17
      have b73 := zv_8_11 hI58 zc_17
      have b74 := zv_8_12 hI58 zc_17
      refine zt_iload_n (pc' := 46) hX dX11_image_45 rfl rfl ?_
      refine zt_aload_n (pc' := 47) hX dX11_image_46 rfl rfl ?_
      have ek75 : s57 0 3 = ((17 : Nat) : Int) := by omega
      refine zt_get (pc' := 50) (v := .ref (X.1.1 + 17)) hX dX11_image_47 rfl zf_X11_31 (by decide) zc_0 zs_1 (zrf_of ek75) ?_
      refine zt_cVi (pc' := 53) hX dX11_image_50 rfl zm_yX3_cells zw_56_2 zc_17 (by decide) zs_8 (q := (RX3, TX3, 17)) rfl rfl (yd_X3_cells_17 _ _ s57 hI58 ) rfl rfl (Nat.le_of_ble_eq_true rfl) (by decide) (fun r76 s77 hr78 hp79 => ?_)
      obtain ⟨rfl, q80, q81, z82⟩ := hp79
      have hc83 : r76 = σ 17 10 * σ 17 11 := z82.trans (ymul_c (by omega) (by omega))
      clear z82
      refine zt_icge (pc' := 56) (tgt := 85) hX dX11_image_53 rfl (by decide) ⟨by omega, by omega⟩ ⟨by omega, by omega⟩ (fun c84 => ?_) (fun c84 => ?_)
      · refine zt_iconst (pc' := 86) hX dX11_image_85 rfl ?_
        refine zt_istore_n (pc' := 87) (lv' := [some (.ref (X.1.1 + 0)), some (.int (zI 0))]) hX dX11_image_86 rfl hL (by decide) rfl ?_
        have L_87_97 : ∀ (N : Nat) (x85 : Int) (s88 : zSto), 0 ≤ x85 → x85 ≤ 10 → zInv s88 → zOn zF3 σ s88 → s88 3 1 = 2 + σ 17 10 * σ 17 11 + 4 * x85 → 0 ≤ x85 → x85 ≤ σ 17 12 → s88 0 3 = 17 → s88 17 10 = σ 17 10 → s88 17 11 = σ 17 11 → s88 17 12 = σ 17 12 → ((11 - x85).toNat) < N → zF X s88 87 [some (.ref (X.1.1 + 0)), some (.int (zI x85))] [] := by
          intro N
          induction N with
          | zero =>
            intro x85 s88 h86 h87 hI89 hF90 g91 g92 g93 g94 g95 g96 g97 hm99
            exact absurd hm99 (Nat.not_lt_zero _)
          | succ N ih100 =>
            intro x85 s88 h86 h87 hI89 hF90 g91 g92 g93 g94 g95 g96 g97 hm99
            have b101 := zv_4_1 hI89 zc_3
            have b102 := zv_1_3 hI89 zc_0
            have b103 := zv_8_10 hI89 zc_17
            have b104 := zv_8_11 hI89 zc_17
            have b105 := zv_8_12 hI89 zc_17
            refine zt_iload_n (pc' := 88) hX dX11_image_87 rfl rfl ?_
            refine zt_aload_n (pc' := 89) hX dX11_image_88 rfl rfl ?_
            have ek106 : s88 0 3 = ((17 : Nat) : Int) := by omega
            refine zt_get (pc' := 92) (v := .ref (X.1.1 + 17)) hX dX11_image_89 rfl zf_X11_31 (by decide) zc_0 zs_1 (zrf_of ek106) ?_
            have b107 := zv_8_12 hI89 zc_17
            refine zt_get (pc' := 95) (v := .int (zI (s88 17 12))) hX dX11_image_92 rfl zf_X11_147 (by decide) zc_17 zs_8 rfl ?_
            refine zt_icge (pc' := 98) (tgt := 170) hX dX11_image_95 rfl (by decide) ⟨by omega, by omega⟩ ⟨by omega, by omega⟩ (fun c108 => ?_) (fun c108 => ?_)
            · refine zt_aload_n (pc' := 171) hX dX11_image_170 rfl rfl ?_
              refine zt_get (pc' := 174) (v := .ref (X.1.1 + 3)) hX dX11_image_171 rfl zf_X11_18 (by decide) zc_0 zs_1 (zrf_of (zv_1_1 hI89 zc_0)) ?_
              refine zt_aload_n (pc' := 175) hX dX11_image_174 rfl rfl ?_
              refine zt_get (pc' := 178) (v := .ref (X.1.1 + 3)) hX dX11_image_175 rfl zf_X11_18 (by decide) zc_0 zs_1 (zrf_of (zv_1_1 hI89 zc_0)) ?_
              refine zt_aload_n (pc' := 179) hX dX11_image_178 rfl rfl ?_
              refine zt_get (pc' := 182) (v := .ref (X.1.1 + 3)) hX dX11_image_179 rfl zf_X11_18 (by decide) zc_0 zs_1 (zrf_of (zv_1_1 hI89 zc_0)) ?_
              have b109 := zv_4_1 hI89 zc_3
              refine zt_get (pc' := 185) (v := .int (zI (s88 3 1))) hX dX11_image_182 rfl zf_X11_110 (by decide) zc_3 zs_4 rfl ?_
              refine zt_cVi (pc' := 188) hX dX11_image_185 rfl zm_yX9_checkOf zw_67_15 zc_3 (by decide) zs_4 (q := (RX9, TX9, 2)) rfl rfl (zc_X9_checkOf_2 _ _ s88 hI89 (s88 3 1) ⟨by omega, by omega⟩) rfl rfl (Nat.le_of_ble_eq_true rfl) (by decide) (fun r110 s111 hr112 hp113 => ?_)
              obtain ⟨rfl, q114, q115⟩ := hp113
              refine zt_cVv (pc' := 191) hX dX11_image_188 rfl zm_yX9_addByte zw_67_14 zc_3 (by decide) zs_4 (q := (RX9, TX9, 2)) rfl rfl (yd_X9_addByte2 _ _ s88 hI89 r110 ⟨by omega, by omega⟩ (by omega)) rfl rfl (Nat.le_of_ble_eq_true rfl) (by decide) (fun r116 s117 hr118 hp119 => ?_)
              obtain ⟨hI120, hF121, z122⟩ := hp119
              have hF123 := zOn_tr hF90 hF121 zi_id
              have b124 := zv_4_1 hI120 zc_3
              have b125 := zv_1_3 hI120 zc_0
              have b126 := zv_8_10 hI120 zc_17
              have b127 := zv_8_11 hI120 zc_17
              have b128 := zv_8_12 hI120 zc_17
              have e129 := hF121 0 3 rfl
              have e130 := hF121 17 10 rfl
              have e131 := hF121 17 11 rfl
              have e132 := hF121 17 12 rfl
              refine zt_aload_n (pc' := 192) hX dX11_image_191 rfl rfl ?_
              refine zt_get (pc' := 195) (v := .ref (X.1.1 + 3)) hX dX11_image_192 rfl zf_X11_18 (by decide) zc_0 zs_1 (zrf_of (zv_1_1 hI120 zc_0)) ?_
              have b133 := zv_4_1 hI120 zc_3
              refine zt_get (pc' := 198) (v := .int (zI (s117 3 1))) hX dX11_image_195 rfl zf_X11_110 (by decide) zc_3 zs_4 rfl ?_
              exact zt_iret hX hR dX11_image_198 ⟨by omega, by omega⟩ ⟨hI120, hF123, by omega, by omega, by omega⟩
            · refine zt_aload_n (pc' := 99) hX dX11_image_98 rfl rfl ?_
              refine zt_get (pc' := 102) (v := .ref (X.1.1 + 3)) hX dX11_image_99 rfl zf_X11_18 (by decide) zc_0 zs_1 (zrf_of (zv_1_1 hI89 zc_0)) ?_
              refine zt_aload_n (pc' := 103) hX dX11_image_102 rfl rfl ?_
              refine zt_get (pc' := 106) (v := .ref (X.1.1 + 35)) hX dX11_image_103 rfl zf_X11_66 (by decide) zc_0 zs_1 (zrf_of (zv_1_8 hI89 zc_0)) ?_
              refine zt_get (pc' := 109) (v := .ref (X.1.1 + 36)) hX dX11_image_106 rfl zf_X11_215 (by decide) zc_35 zs_22 (zrf_of (zv_22_0 hI89 zc_35)) ?_
              refine zt_iload_n (pc' := 110) hX dX11_image_109 rfl rfl ?_
              refine zt_iald (pc' := 111) hX dX11_image_110 rfl (by decide) zc_36 zs_23 (by decide) ⟨by omega, by omega⟩ ?_
              generalize hv134 : s88 36 (x85.toNat) = v134
              have bv134 : -1 ≤ v134 ∧ v134 ≤ 255 := hv134 ▸ zv_23 hI89 zc_36 _
              refine zt_cVv (pc' := 114) hX dX11_image_111 rfl zm_yX9_addByte zw_67_14 zc_3 (by decide) zs_4 (q := (RX9, TX9, 2)) rfl rfl (yd_X9_addByte2 _ _ s88 hI89 v134 ⟨by omega, by omega⟩ (by omega)) rfl rfl (Nat.le_of_ble_eq_true rfl) (by decide) (fun r135 s136 hr137 hp138 => ?_)
              obtain ⟨hI139, hF140, z141⟩ := hp138
              have hF142 := zOn_tr hF90 hF140 zi_id
              have b143 := zv_4_1 hI139 zc_3
              have b144 := zv_1_3 hI139 zc_0
              have b145 := zv_8_10 hI139 zc_17
              have b146 := zv_8_11 hI139 zc_17
              have b147 := zv_8_12 hI139 zc_17
              have e148 := hF140 0 3 rfl
              have e149 := hF140 17 10 rfl
              have e150 := hF140 17 11 rfl
              have e151 := hF140 17 12 rfl
              refine zt_aload_n (pc' := 115) hX dX11_image_114 rfl rfl ?_
              refine zt_get (pc' := 118) (v := .ref (X.1.1 + 3)) hX dX11_image_115 rfl zf_X11_18 (by decide) zc_0 zs_1 (zrf_of (zv_1_1 hI139 zc_0)) ?_
              refine zt_aload_n (pc' := 119) hX dX11_image_118 rfl rfl ?_
              refine zt_get (pc' := 122) (v := .ref (X.1.1 + 35)) hX dX11_image_119 rfl zf_X11_66 (by decide) zc_0 zs_1 (zrf_of (zv_1_8 hI139 zc_0)) ?_
              refine zt_get (pc' := 125) (v := .ref (X.1.1 + 37)) hX dX11_image_122 rfl zf_X11_218 (by decide) zc_35 zs_22 (zrf_of (zv_22_1 hI139 zc_35)) ?_
              refine zt_iload_n (pc' := 126) hX dX11_image_125 rfl rfl ?_
              refine zt_iald (pc' := 127) hX dX11_image_126 rfl (by decide) zc_37 zs_24 (by decide) ⟨by omega, by omega⟩ ?_
              generalize hv152 : s136 37 (x85.toNat) = v152
              have bv152 : -1 ≤ v152 ∧ v152 ≤ 255 := hv152 ▸ zv_24 hI139 zc_37 _
              refine zt_cVv (pc' := 130) hX dX11_image_127 rfl zm_yX9_addByte zw_67_14 zc_3 (by decide) zs_4 (q := (RX9, TX9, 2)) rfl rfl (yd_X9_addByte2 _ _ s136 hI139 v152 ⟨by omega, by omega⟩ (by omega)) rfl rfl (Nat.le_of_ble_eq_true rfl) (by decide) (fun r153 s154 hr155 hp156 => ?_)
              obtain ⟨hI157, hF158, z159⟩ := hp156
              have hF160 := zOn_tr hF142 hF158 zi_id
              have b161 := zv_4_1 hI157 zc_3
              have b162 := zv_1_3 hI157 zc_0
              have b163 := zv_8_10 hI157 zc_17
              have b164 := zv_8_11 hI157 zc_17
              have b165 := zv_8_12 hI157 zc_17
              have e166 := hF158 0 3 rfl
              have e167 := hF158 17 10 rfl
              have e168 := hF158 17 11 rfl
              have e169 := hF158 17 12 rfl
              refine zt_aload_n (pc' := 131) hX dX11_image_130 rfl rfl ?_
              refine zt_get (pc' := 134) (v := .ref (X.1.1 + 3)) hX dX11_image_131 rfl zf_X11_18 (by decide) zc_0 zs_1 (zrf_of (zv_1_1 hI157 zc_0)) ?_
              refine zt_aload_n (pc' := 135) hX dX11_image_134 rfl rfl ?_
              refine zt_get (pc' := 138) (v := .ref (X.1.1 + 35)) hX dX11_image_135 rfl zf_X11_66 (by decide) zc_0 zs_1 (zrf_of (zv_1_8 hI157 zc_0)) ?_
              refine zt_get (pc' := 141) (v := .ref (X.1.1 + 38)) hX dX11_image_138 rfl zf_X11_224 (by decide) zc_35 zs_22 (zrf_of (zv_22_2 hI157 zc_35)) ?_
              refine zt_iload_n (pc' := 142) hX dX11_image_141 rfl rfl ?_
              refine zt_iald (pc' := 143) hX dX11_image_142 rfl (by decide) zc_38 zs_25 (by decide) ⟨by omega, by omega⟩ ?_
              generalize hv170 : s154 38 (x85.toNat) = v170
              have bv170 : -1 ≤ v170 ∧ v170 ≤ 255 := hv170 ▸ zv_25 hI157 zc_38 _
              refine zt_cVv (pc' := 146) hX dX11_image_143 rfl zm_yX9_addByte zw_67_14 zc_3 (by decide) zs_4 (q := (RX9, TX9, 2)) rfl rfl (yd_X9_addByte2 _ _ s154 hI157 v170 ⟨by omega, by omega⟩ (by omega)) rfl rfl (Nat.le_of_ble_eq_true rfl) (by decide) (fun r171 s172 hr173 hp174 => ?_)
              obtain ⟨hI175, hF176, z177⟩ := hp174
              have hF178 := zOn_tr hF160 hF176 zi_id
              have b179 := zv_4_1 hI175 zc_3
              have b180 := zv_1_3 hI175 zc_0
              have b181 := zv_8_10 hI175 zc_17
              have b182 := zv_8_11 hI175 zc_17
              have b183 := zv_8_12 hI175 zc_17
              have e184 := hF176 0 3 rfl
              have e185 := hF176 17 10 rfl
              have e186 := hF176 17 11 rfl
              have e187 := hF176 17 12 rfl
              refine zt_aload_n (pc' := 147) hX dX11_image_146 rfl rfl ?_
              refine zt_get (pc' := 150) (v := .ref (X.1.1 + 3)) hX dX11_image_147 rfl zf_X11_18 (by decide) zc_0 zs_1 (zrf_of (zv_1_1 hI175 zc_0)) ?_
              refine zt_aload_n (pc' := 151) hX dX11_image_150 rfl rfl ?_
              refine zt_get (pc' := 154) (v := .ref (X.1.1 + 35)) hX dX11_image_151 rfl zf_X11_66 (by decide) zc_0 zs_1 (zrf_of (zv_1_8 hI175 zc_0)) ?_
              have b188 := zv_22_7 hI175 zc_35
              refine zt_get (pc' := 157) (v := .int (zI (s172 35 7))) hX dX11_image_154 rfl zf_X11_171 (by decide) zc_35 zs_22 rfl ?_
              refine zt_iload_n (pc' := 158) hX dX11_image_157 rfl rfl ?_
              refine zt_ishr (pc' := 159) hX dX11_image_158 rfl (fun r189 zr189 lr189 ur189 => ?_)
              clear zr189
              refine zt_iconst (pc' := 160) hX dX11_image_159 rfl ?_
              refine zt_iandm (pc' := 161) hX dX11_image_160 rfl 1 (by decide +kernel) (by decide) (fun r190 er190 lr190 ur190 => ?_)
              have ur190 : r190 ≤ 1 := by omega
              refine zt_cVv (pc' := 164) hX dX11_image_161 rfl zm_yX9_addByte zw_67_14 zc_3 (by decide) zs_4 (q := (RX9, TX9, 2)) rfl rfl (yd_X9_addByte2 _ _ s172 hI175 r190 ⟨by omega, by omega⟩ (by omega)) rfl rfl (Nat.le_of_ble_eq_true rfl) (by decide) (fun r191 s192 hr193 hp194 => ?_)
              obtain ⟨hI195, hF196, z197⟩ := hp194
              have hF198 := zOn_tr hF178 hF196 zi_id
              have b199 := zv_4_1 hI195 zc_3
              have b200 := zv_1_3 hI195 zc_0
              have b201 := zv_8_10 hI195 zc_17
              have b202 := zv_8_11 hI195 zc_17
              have b203 := zv_8_12 hI195 zc_17
              have e204 := hF196 0 3 rfl
              have e205 := hF196 17 10 rfl
              have e206 := hF196 17 11 rfl
              have e207 := hF196 17 12 rfl
              refine zt_iinc (pc' := 167) (lv' := [some (.ref (X.1.1 + 0)), some (.int (zI (x85 + 1)))]) hX dX11_image_164 rfl rfl hL (by decide) rfl ?_
              refine zt_goto (tgt := 87) hX dX11_image_167 (by decide) ?_
              exact ih100 (x85 + 1) s192 (by omega) (by omega) hI195 hF198 (by omega) (by omega) (by omega) (by omega) (by omega) (by omega) (by omega) (by omega)
        exact L_87_97 _ 0 s57 (by omega) (by omega) hI58 hF59 (by omega) (by omega) (by omega) (by omega) (by omega) (by omega) (by omega) (Nat.lt_succ_self _)
      · refine zt_aload_n (pc' := 57) hX dX11_image_56 rfl rfl ?_
        refine zt_get (pc' := 60) (v := .ref (X.1.1 + 3)) hX dX11_image_57 rfl zf_X11_18 (by decide) zc_0 zs_1 (zrf_of (zv_1_1 hI58 zc_0)) ?_
        refine zt_aload_n (pc' := 61) hX dX11_image_60 rfl rfl ?_
        refine zt_get (pc' := 64) (v := .ref (X.1.1 + 35)) hX dX11_image_61 rfl zf_X11_66 (by decide) zc_0 zs_1 (zrf_of (zv_1_8 hI58 zc_0)) ?_
        refine zt_iload_n (pc' := 65) hX dX11_image_64 rfl rfl ?_
        refine zt_cVz (pc' := 68) hX dX11_image_65 rfl zm_yX10_isCracked zw_42_7 zc_35 (by decide) zs_22 (q := (RX10, TX10, 8)) rfl rfl (zc_X10_isCracked _ _ s57 hI58 35 zc_35 x54 ⟨by omega, by omega⟩) rfl rfl (Nat.le_of_ble_eq_true rfl) (by decide) (fun r208 s209 hr210 hp211 => ?_)
        obtain ⟨rfl, q212, q213⟩ := hp211
        refine zt_ifeq (pc' := 71) (tgt := 75) hX dX11_image_68 rfl (by decide) ⟨by omega, by omega⟩ (fun c214 => ?_) (fun c214 => ?_)
        · refine zt_iconst (pc' := 76) hX dX11_image_75 rfl ?_
          refine zt_cVv (pc' := 79) hX dX11_image_76 rfl zm_yX9_addByte zw_67_14 zc_3 (by decide) zs_4 (q := (RX9, TX9, 2)) rfl rfl (yd_X9_addByte2 _ _ s57 hI58 0 ⟨by omega, by omega⟩ (by omega)) rfl rfl (Nat.le_of_ble_eq_true rfl) (by decide) (fun r215 s216 hr217 hp218 => ?_)
          obtain ⟨hI219, hF220, z221⟩ := hp218
          have hF222 := zOn_tr hF59 hF220 zi_id
          have b223 := zv_4_1 hI219 zc_3
          have b224 := zv_1_3 hI219 zc_0
          have b225 := zv_8_10 hI219 zc_17
          have b226 := zv_8_11 hI219 zc_17
          have b227 := zv_8_12 hI219 zc_17
          have e228 := hF220 0 3 rfl
          have e229 := hF220 17 10 rfl
          have e230 := hF220 17 11 rfl
          have e231 := hF220 17 12 rfl
          refine zt_iinc (pc' := 82) (lv' := [some (.ref (X.1.1 + 0)), some (.int (zI (x54 + 1)))]) hX dX11_image_79 rfl rfl hL (by decide) rfl ?_
          refine zt_goto (tgt := 45) hX dX11_image_82 (by decide) ?_
          exact ih69 (x54 + 1) s216 (by omega) (by omega) hI219 hF222 (by omega) (by omega) (by omega) (by omega) (by omega) (by omega) (by omega) (by omega)
        · refine zt_iconst (pc' := 72) hX dX11_image_71 rfl ?_
          refine zt_goto (tgt := 76) hX dX11_image_72 (by decide) ?_
          refine zt_cVv (pc' := 79) hX dX11_image_76 rfl zm_yX9_addByte zw_67_14 zc_3 (by decide) zs_4 (q := (RX9, TX9, 2)) rfl rfl (yd_X9_addByte2 _ _ s57 hI58 1 ⟨by omega, by omega⟩ (by omega)) rfl rfl (Nat.le_of_ble_eq_true rfl) (by decide) (fun r232 s233 hr234 hp235 => ?_)
          obtain ⟨hI236, hF237, z238⟩ := hp235
          have hF239 := zOn_tr hF59 hF237 zi_id
          have b240 := zv_4_1 hI236 zc_3
          have b241 := zv_1_3 hI236 zc_0
          have b242 := zv_8_10 hI236 zc_17
          have b243 := zv_8_11 hI236 zc_17
          have b244 := zv_8_12 hI236 zc_17
          have e245 := hF237 0 3 rfl
          have e246 := hF237 17 10 rfl
          have e247 := hF237 17 11 rfl
          have e248 := hF237 17 12 rfl
          refine zt_iinc (pc' := 82) (lv' := [some (.ref (X.1.1 + 0)), some (.int (zI (x54 + 1)))]) hX dX11_image_79 rfl rfl hL (by decide) rfl ?_
          refine zt_goto (tgt := 45) hX dX11_image_82 (by decide) ?_
          exact ih69 (x54 + 1) s233 (by omega) (by omega) hI236 hF239 (by omega) (by omega) (by omega) (by omega) (by omega) (by omega) (by omega) (by omega)
  exact L_45_66 _ 0 s38 (by omega) (by omega) hI41 hF44 (by omega) (by omega) (by omega) (by omega) (by omega) (by omega) (by omega) (Nat.lt_succ_self _)
set_option maxRecDepth 100000 in
set_option maxHeartbeats 4000000 in
theorem yd_X12_image (l : Launch) (E : zEN) (σ : zSto) (hI : zInv σ)  : zCt l E yX12_image cX12_image 2 (some .int) 1 zNC zNC 0 0 σ [.ref (E.1 + 164)] (fun r σ' => zInv σ' ∧ zOn zAl σ σ' ∧ -2147483648 ≤ r ∧ r ≤ 2147483647 ∧ (r = 3 + σ 194 3 * σ 194 4 + 4 * σ 195 1)) := by
  refine zCt_of2 [some (.ref (E.1 + 164)), none] (by decide +kernel) (Nat.le_of_ble_eq_true rfl) rfl ?_
  intro X hE_ hX hR hL hN
  subst hE_
  have hX : zok X cX12_image RX12 1 := hX
  have hF := zOn_rf zAl σ
  have b_a := zv_76 hI zc_194 3
  have b_b := zv_76 hI zc_194 4
  have b_m := ymul36 (a := σ 194 3) (b := σ 194 4) ⟨by omega, by omega⟩ ⟨by omega, by omega⟩
  have b_p := zv_77 hI zc_195 1
  have b1 := zv_46_107 hI zc_164
  have b2 := zv_77 hI zc_195 1
  refine zt_aload_n (pc' := 1) hX dX12_image_0 rfl rfl ?_
  refine zt_iconst (pc' := 2) hX dX12_image_1 rfl ?_
  refine zt_put (pc' := 5) (x := 0) hX dX12_image_2 rfl zf_X12_653 (by decide) zc_164 zs_46 (fun q hq => by cases hq; rfl) rfl rfl rfl ?_
  generalize hs4 : zset σ 164 107 0 = s3
  have hI5 : zInv s3 := hs4 ▸ zp_46_107 hI zc_164 ⟨by omega, by omega⟩
  have hF6 : zOn zAl σ s3 := hs4 ▸ zOn_set hF rfl
  have e7 : s3 164 107 = 0 := by rw [← hs4]; exact zset_s
  have e8 : s3 194 3 = σ 194 3 := by rw [← hs4]; exact zset_k (zne_r zc_194 zc_164 (by decide))
  have e9 : s3 194 4 = σ 194 4 := by rw [← hs4]; exact zset_k (zne_r zc_194 zc_164 (by decide))
  have e10 : s3 195 1 = σ 195 1 := by rw [← hs4]; exact zset_k (zne_r zc_195 zc_164 (by decide))
  refine zt_aload_n (pc' := 6) hX dX12_image_5 rfl rfl ?_
  refine zt_aload_n (pc' := 7) hX dX12_image_6 rfl rfl ?_
  refine zt_get (pc' := 10) (v := .ref (X.1.1 + 203)) hX dX12_image_7 rfl zf_X12_130 (by decide) zc_164 zs_46 (zrf_of (zv_46_52 hI5 zc_164)) ?_
  refine zt_iconst (pc' := 11) hX dX12_image_10 rfl ?_
  refine zt_iald (pc' := 12) hX dX12_image_11 rfl (by decide) zc_203 zs_85 (by decide) ⟨by omega, by omega⟩ ?_
  rw [show Int.toNat 0 = 0 from rfl]
  have b12 := zv_85 hI5 zc_203 0
  have e13 : s3 203 0 = σ 203 0 := by rw [← hs4]; exact zset_k (zne_r zc_203 zc_164 (by decide))
  refine zt_sipush (pc' := 15) hX dX12_image_12 rfl (by decide) (by decide) ?_
  refine zt_idiv (pc' := 16) hX dX12_image_15 rfl ⟨by omega, by omega⟩ ⟨by omega, by omega⟩ (fun r14 er14 br14 => ?_)
  refine zt_cVv (pc' := 19) hX dX12_image_16 rfl zm_yX12_writes zw_68_0 zc_164 (by decide) zs_46 (q := (RX12, TX12, 108)) rfl rfl (zc_X12_writes _ _ s3 hI5 r14 ⟨by omega, by omega⟩ (by omega)) rfl rfl (Nat.le_of_ble_eq_true rfl) (by decide) (fun r15 s16 hr17 hp18 => ?_)
  obtain ⟨hI19, hF20, z21⟩ := hp18
  have hF22 : zOn zAl σ s16 := zOn_al
  have b23 := zv_46_107 hI19 zc_164
  have b24 := zv_77 hI19 zc_195 1
  have e25 : s16 194 3 = s3 194 3 := hF20.2.1.2.2.2.1 3 (by decide)
  have e26 : s16 194 4 = s3 194 4 := hF20.2.1.2.2.2.1 4 (by decide)
  have e27 : s16 195 1 = s3 195 1 := hF20.2.1.2.2.2.2.2.1
  refine zt_aload_n (pc' := 20) hX dX12_image_19 rfl rfl ?_
  refine zt_aload_n (pc' := 21) hX dX12_image_20 rfl rfl ?_
  refine zt_get (pc' := 24) (v := .ref (X.1.1 + 203)) hX dX12_image_21 rfl zf_X12_130 (by decide) zc_164 zs_46 (zrf_of (zv_46_52 hI19 zc_164)) ?_
  refine zt_iconst (pc' := 25) hX dX12_image_24 rfl ?_
  refine zt_iald (pc' := 26) hX dX12_image_25 rfl (by decide) zc_203 zs_85 (by decide) ⟨by omega, by omega⟩ ?_
  rw [show Int.toNat 0 = 0 from rfl]
  have b29 := zv_85 hI19 zc_203 0
  refine zt_sipush (pc' := 29) hX dX12_image_26 rfl (by decide) (by decide) ?_
  refine zt_irem (pc' := 30) hX dX12_image_29 rfl ⟨by omega, by omega⟩ ⟨by omega, by omega⟩ (fun r30 er30 br30 nr30 => ?_)
  refine zt_cVv (pc' := 33) hX dX12_image_30 rfl zm_yX12_writes zw_68_0 zc_164 (by decide) zs_46 (q := (RX12, TX12, 108)) rfl rfl (zc_X12_writes _ _ s16 hI19 r30 ⟨by omega, by omega⟩ (by omega)) rfl rfl (Nat.le_of_ble_eq_true rfl) (by decide) (fun r31 s32 hr33 hp34 => ?_)
  obtain ⟨hI35, hF36, z37⟩ := hp34
  have hF38 : zOn zAl σ s32 := zOn_al
  have b39 := zv_46_107 hI35 zc_164
  have b40 := zv_77 hI35 zc_195 1
  have e41 : s32 194 3 = s16 194 3 := hF36.2.1.2.2.2.1 3 (by decide)
  have e42 : s32 194 4 = s16 194 4 := hF36.2.1.2.2.2.1 4 (by decide)
  have e43 : s32 195 1 = s16 195 1 := hF36.2.1.2.2.2.2.2.1
  refine zt_iconst (pc' := 34) hX dX12_image_33 rfl ?_
  refine zt_istore_n (pc' := 35) (lv' := [some (.ref (X.1.1 + 164)), some (.int (zI 0))]) hX dX12_image_34 rfl hL (by decide) rfl ?_
  have L_35_55 : ∀ (N : Nat) (x44 : Int) (s47 : zSto), 0 ≤ x44 → x44 ≤ 36 → zInv s47 → zOn zAl σ s47 → s47 164 107 = 2 + x44 → 0 ≤ x44 → x44 ≤ σ 194 3 * σ 194 4 → s47 194 3 = σ 194 3 → s47 194 4 = σ 194 4 → s47 195 1 = σ 195 1 → ((37 - x44).toNat) < N → zF X s47 35 [some (.ref (X.1.1 + 164)), some (.int (zI x44))] [] := by
    intro N
    induction N with
    | zero =>
      intro x44 s47 h45 h46 hI48 hF49 g50 g51 g52 g53 g54 g55 hm57
      exact absurd hm57 (Nat.not_lt_zero _)
    | succ N ih58 =>
      intro x44 s47 h45 h46 hI48 hF49 g50 g51 g52 g53 g54 g55 hm57
      have b59 := zv_46_107 hI48 zc_164
      have b60 := zv_77 hI48 zc_195 1
      refine zt_iload_n (pc' := 36) hX dX12_image_35 rfl rfl ?_
      refine zt_aload_n (pc' := 37) hX dX12_image_36 rfl rfl ?_
      refine zt_cVi (pc' := 40) hX dX12_image_37 rfl zm_yX12_cellMany zw_44_19 zc_164 (by decide) zs_46 (q := (RX12, TX12, 108)) rfl rfl (zc_X12_cellMany _ _ s47 hI48 ) rfl rfl (Nat.le_of_ble_eq_true rfl) (by decide) (fun r61 s62 hr63 hp64 => ?_)
      obtain ⟨rfl, q65, q66, z67⟩ := hp64
      have hc68 : r61 = σ 194 3 * σ 194 4 := z67.trans (ymul_c (by omega) (by omega))
      refine zt_icge (pc' := 43) (tgt := 65) hX dX12_image_40 rfl (by decide) ⟨by omega, by omega⟩ ⟨by omega, by omega⟩ (fun c69 => ?_) (fun c69 => ?_)
      · refine zt_iconst (pc' := 66) hX dX12_image_65 rfl ?_
        refine zt_istore_n (pc' := 67) (lv' := [some (.ref (X.1.1 + 164)), some (.int (zI 0))]) hX dX12_image_66 rfl hL (by decide) rfl ?_
        have L_67_81 : ∀ (N : Nat) (x70 : Int) (s73 : zSto), 0 ≤ x70 → x70 ≤ 10 → zInv s73 → zOn zAl σ s73 → s73 164 107 = 2 + σ 194 3 * σ 194 4 + 4 * x70 → 0 ≤ x70 → x70 ≤ σ 195 1 → s73 194 3 = σ 194 3 → s73 194 4 = σ 194 4 → s73 195 1 = σ 195 1 → ((11 - x70).toNat) < N → zF X s73 67 [some (.ref (X.1.1 + 164)), some (.int (zI x70))] [] := by
          intro N
          induction N with
          | zero =>
            intro x70 s73 h71 h72 hI74 hF75 g76 g77 g78 g79 g80 g81 hm83
            exact absurd hm83 (Nat.not_lt_zero _)
          | succ N ih84 =>
            intro x70 s73 h71 h72 hI74 hF75 g76 g77 g78 g79 g80 g81 hm83
            have b85 := zv_46_107 hI74 zc_164
            have b86 := zv_77 hI74 zc_195 1
            refine zt_iload_n (pc' := 68) hX dX12_image_67 rfl rfl ?_
            refine zt_aload_n (pc' := 69) hX dX12_image_68 rfl rfl ?_
            refine zt_cVi (pc' := 72) hX dX12_image_69 rfl zm_yX12_peopleMany zw_38_4 zc_164 (by decide) zs_46 (q := (RX12, TX12, 108)) rfl rfl (zc_X12_peopleMany _ _ s73 hI74 ) rfl rfl (Nat.le_of_ble_eq_true rfl) (by decide) (fun r87 s88 hr89 hp90 => ?_)
            obtain ⟨rfl, q91, q92, z93⟩ := hp90
            refine zt_icge (pc' := 75) (tgt := 131) hX dX12_image_72 rfl (by decide) ⟨by omega, by omega⟩ ⟨by omega, by omega⟩ (fun c94 => ?_) (fun c94 => ?_)
            · refine zt_aload_n (pc' := 132) hX dX12_image_131 rfl rfl ?_
              refine zt_aload_n (pc' := 133) hX dX12_image_132 rfl rfl ?_
              refine zt_get (pc' := 136) (v := .ref (X.1.1 + 237)) hX dX12_image_133 rfl zf_X12_240 (by decide) zc_164 zs_46 (zrf_of (zv_46_106 hI74 zc_164)) ?_
              refine zt_aload_n (pc' := 137) hX dX12_image_136 rfl rfl ?_
              have b95 := zv_46_107 hI74 zc_164
              refine zt_get (pc' := 140) (v := .int (zI (s73 164 107))) hX dX12_image_137 rfl zf_X12_653 (by decide) zc_164 zs_46 rfl ?_
              refine zt_cSi (pc' := 143) hX dX12_image_140 rfl zm_yX12_checked zw_68_4 (zc_X12_checked_o _ _ s73 hI74 (s73 164 107) ⟨by omega, by omega⟩) rfl rfl (Nat.le_of_ble_eq_true rfl) (by decide) (fun r96 s97 hr98 hp99 => ?_)
              obtain ⟨rfl, q100, q101⟩ := hp99
              refine zt_cVv (pc' := 146) hX dX12_image_143 rfl zm_yX12_writes zw_68_0 zc_164 (by decide) zs_46 (q := (RX12, TX12, 108)) rfl rfl (zc_X12_writes _ _ s73 hI74 r96 ⟨by omega, by omega⟩ (by omega)) rfl rfl (Nat.le_of_ble_eq_true rfl) (by decide) (fun r102 s103 hr104 hp105 => ?_)
              obtain ⟨hI106, hF107, z108⟩ := hp105
              have hF109 : zOn zAl σ s103 := zOn_al
              have b110 := zv_46_107 hI106 zc_164
              have b111 := zv_77 hI106 zc_195 1
              have e112 : s103 194 3 = s73 194 3 := hF107.2.1.2.2.2.1 3 (by decide)
              have e113 : s103 194 4 = s73 194 4 := hF107.2.1.2.2.2.1 4 (by decide)
              have e114 : s103 195 1 = s73 195 1 := hF107.2.1.2.2.2.2.2.1
              refine zt_aload_n (pc' := 147) hX dX12_image_146 rfl rfl ?_
              have b115 := zv_46_107 hI106 zc_164
              refine zt_get (pc' := 150) (v := .int (zI (s103 164 107))) hX dX12_image_147 rfl zf_X12_653 (by decide) zc_164 zs_46 rfl ?_
              exact zt_iret hX hR dX12_image_150 ⟨by omega, by omega⟩ ⟨hI106, hF109, by omega, by omega, by omega⟩
            · refine zt_aload_n (pc' := 76) hX dX12_image_75 rfl rfl ?_
              refine zt_aload_n (pc' := 77) hX dX12_image_76 rfl rfl ?_
              refine zt_iload_n (pc' := 78) hX dX12_image_77 rfl rfl ?_
              refine zt_cVi (pc' := 81) hX dX12_image_78 rfl zm_yX12_placeOf zw_40_0 zc_164 (by decide) zs_46 (q := (RX12, TX12, 108)) rfl rfl (zc_X12_placeOf _ _ s73 hI74 x70 ⟨by omega, by omega⟩) rfl rfl (Nat.le_of_ble_eq_true rfl) (by decide) (fun r116 s117 hr118 hp119 => ?_)
              obtain ⟨rfl, q120, q121⟩ := hp119
              refine zt_bipush (pc' := 83) hX dX12_image_81 rfl (by decide) (by decide) ?_
              refine zt_irem (pc' := 84) hX dX12_image_83 rfl ⟨by omega, by omega⟩ ⟨by omega, by omega⟩ (fun r122 er122 br122 nr122 => ?_)
              rw [ztm_p (by omega)] at er122
              refine zt_cVv (pc' := 87) hX dX12_image_84 rfl zm_yX12_writes zw_68_0 zc_164 (by decide) zs_46 (q := (RX12, TX12, 108)) rfl rfl (zc_X12_writes _ _ s73 hI74 r122 ⟨by omega, by omega⟩ (by omega)) rfl rfl (Nat.le_of_ble_eq_true rfl) (by decide) (fun r123 s124 hr125 hp126 => ?_)
              obtain ⟨hI127, hF128, z129⟩ := hp126
              have hF130 : zOn zAl σ s124 := zOn_al
              have b131 := zv_46_107 hI127 zc_164
              have b132 := zv_77 hI127 zc_195 1
              have e133 : s124 194 3 = s73 194 3 := hF128.2.1.2.2.2.1 3 (by decide)
              have e134 : s124 194 4 = s73 194 4 := hF128.2.1.2.2.2.1 4 (by decide)
              have e135 : s124 195 1 = s73 195 1 := hF128.2.1.2.2.2.2.2.1
              refine zt_aload_n (pc' := 88) hX dX12_image_87 rfl rfl ?_
              refine zt_aload_n (pc' := 89) hX dX12_image_88 rfl rfl ?_
              refine zt_iload_n (pc' := 90) hX dX12_image_89 rfl rfl ?_
              refine zt_cVi (pc' := 93) hX dX12_image_90 rfl zm_yX12_placeOf zw_40_0 zc_164 (by decide) zs_46 (q := (RX12, TX12, 108)) rfl rfl (zc_X12_placeOf _ _ s124 hI127 x70 ⟨by omega, by omega⟩) rfl rfl (Nat.le_of_ble_eq_true rfl) (by decide) (fun r136 s137 hr138 hp139 => ?_)
              obtain ⟨rfl, q140, q141⟩ := hp139
              refine zt_bipush (pc' := 95) hX dX12_image_93 rfl (by decide) (by decide) ?_
              refine zt_idiv (pc' := 96) hX dX12_image_95 rfl ⟨by omega, by omega⟩ ⟨by omega, by omega⟩ (fun r142 er142 br142 => ?_)
              rw [ztd_p (by omega)] at er142
              refine zt_cVv (pc' := 99) hX dX12_image_96 rfl zm_yX12_writes zw_68_0 zc_164 (by decide) zs_46 (q := (RX12, TX12, 108)) rfl rfl (zc_X12_writes _ _ s124 hI127 r142 ⟨by omega, by omega⟩ (by omega)) rfl rfl (Nat.le_of_ble_eq_true rfl) (by decide) (fun r143 s144 hr145 hp146 => ?_)
              obtain ⟨hI147, hF148, z149⟩ := hp146
              have hF150 : zOn zAl σ s144 := zOn_al
              have b151 := zv_46_107 hI147 zc_164
              have b152 := zv_77 hI147 zc_195 1
              have e153 : s144 194 3 = s124 194 3 := hF148.2.1.2.2.2.1 3 (by decide)
              have e154 : s144 194 4 = s124 194 4 := hF148.2.1.2.2.2.1 4 (by decide)
              have e155 : s144 195 1 = s124 195 1 := hF148.2.1.2.2.2.2.2.1
              refine zt_aload_n (pc' := 100) hX dX12_image_99 rfl rfl ?_
              refine zt_aload_n (pc' := 101) hX dX12_image_100 rfl rfl ?_
              refine zt_iload_n (pc' := 102) hX dX12_image_101 rfl rfl ?_
              refine zt_cVi (pc' := 105) hX dX12_image_102 rfl zm_yX12_tiredOf zw_39_16 zc_164 (by decide) zs_46 (q := (RX12, TX12, 108)) rfl rfl (zc_X12_tiredOf _ _ s144 hI147 x70 ⟨by omega, by omega⟩) rfl rfl (Nat.le_of_ble_eq_true rfl) (by decide) (fun r156 s157 hr158 hp159 => ?_)
              obtain ⟨rfl, q160, q161⟩ := hp159
              refine zt_cVv (pc' := 108) hX dX12_image_105 rfl zm_yX12_writes zw_68_0 zc_164 (by decide) zs_46 (q := (RX12, TX12, 108)) rfl rfl (zc_X12_writes _ _ s144 hI147 r156 ⟨by omega, by omega⟩ (by omega)) rfl rfl (Nat.le_of_ble_eq_true rfl) (by decide) (fun r162 s163 hr164 hp165 => ?_)
              obtain ⟨hI166, hF167, z168⟩ := hp165
              have hF169 : zOn zAl σ s163 := zOn_al
              have b170 := zv_46_107 hI166 zc_164
              have b171 := zv_77 hI166 zc_195 1
              have e172 : s163 194 3 = s144 194 3 := hF167.2.1.2.2.2.1 3 (by decide)
              have e173 : s163 194 4 = s144 194 4 := hF167.2.1.2.2.2.1 4 (by decide)
              have e174 : s163 195 1 = s144 195 1 := hF167.2.1.2.2.2.2.2.1
              refine zt_aload_n (pc' := 109) hX dX12_image_108 rfl rfl ?_
              refine zt_aload_n (pc' := 110) hX dX12_image_109 rfl rfl ?_
              refine zt_iload_n (pc' := 111) hX dX12_image_110 rfl rfl ?_
              refine zt_cVz (pc' := 114) hX dX12_image_111 rfl zm_yX12_isAtRest zw_38_16 zc_164 (by decide) zs_46 (q := (RX12, TX12, 108)) rfl rfl (zc_X12_isAtRest _ _ s163 hI166 x70 ⟨by omega, by omega⟩) rfl rfl (Nat.le_of_ble_eq_true rfl) (by decide) (fun r175 s176 hr177 hp178 => ?_)
              obtain ⟨rfl, q179, q180⟩ := hp178
              refine zt_ifeq (pc' := 117) (tgt := 121) hX dX12_image_114 rfl (by decide) ⟨by omega, by omega⟩ (fun c181 => ?_) (fun c181 => ?_)
              · refine zt_iconst (pc' := 122) hX dX12_image_121 rfl ?_
                refine zt_cVv (pc' := 125) hX dX12_image_122 rfl zm_yX12_writes zw_68_0 zc_164 (by decide) zs_46 (q := (RX12, TX12, 108)) rfl rfl (zc_X12_writes _ _ s163 hI166 0 ⟨by omega, by omega⟩ (by omega)) rfl rfl (Nat.le_of_ble_eq_true rfl) (by decide) (fun r182 s183 hr184 hp185 => ?_)
                obtain ⟨hI186, hF187, z188⟩ := hp185
                have hF189 : zOn zAl σ s183 := zOn_al
                have b190 := zv_46_107 hI186 zc_164
                have b191 := zv_77 hI186 zc_195 1
                have e192 : s183 194 3 = s163 194 3 := hF187.2.1.2.2.2.1 3 (by decide)
                have e193 : s183 194 4 = s163 194 4 := hF187.2.1.2.2.2.1 4 (by decide)
                have e194 : s183 195 1 = s163 195 1 := hF187.2.1.2.2.2.2.2.1
                refine zt_iinc (pc' := 128) (lv' := [some (.ref (X.1.1 + 164)), some (.int (zI (x70 + 1)))]) hX dX12_image_125 rfl rfl hL (by decide) rfl ?_
                refine zt_goto (tgt := 67) hX dX12_image_128 (by decide) ?_
                exact ih84 (x70 + 1) s183 (by omega) (by omega) hI186 hF189 (by omega) (by omega) (by omega) (by omega) (by omega) (by omega) (by omega)
              · refine zt_iconst (pc' := 118) hX dX12_image_117 rfl ?_
                refine zt_goto (tgt := 122) hX dX12_image_118 (by decide) ?_
                refine zt_cVv (pc' := 125) hX dX12_image_122 rfl zm_yX12_writes zw_68_0 zc_164 (by decide) zs_46 (q := (RX12, TX12, 108)) rfl rfl (zc_X12_writes _ _ s163 hI166 1 ⟨by omega, by omega⟩ (by omega)) rfl rfl (Nat.le_of_ble_eq_true rfl) (by decide) (fun r195 s196 hr197 hp198 => ?_)
                obtain ⟨hI199, hF200, z201⟩ := hp198
                have hF202 : zOn zAl σ s196 := zOn_al
                have b203 := zv_46_107 hI199 zc_164
                have b204 := zv_77 hI199 zc_195 1
                have e205 : s196 194 3 = s163 194 3 := hF200.2.1.2.2.2.1 3 (by decide)
                have e206 : s196 194 4 = s163 194 4 := hF200.2.1.2.2.2.1 4 (by decide)
                have e207 : s196 195 1 = s163 195 1 := hF200.2.1.2.2.2.2.2.1
                refine zt_iinc (pc' := 128) (lv' := [some (.ref (X.1.1 + 164)), some (.int (zI (x70 + 1)))]) hX dX12_image_125 rfl rfl hL (by decide) rfl ?_
                refine zt_goto (tgt := 67) hX dX12_image_128 (by decide) ?_
                exact ih84 (x70 + 1) s196 (by omega) (by omega) hI199 hF202 (by omega) (by omega) (by omega) (by omega) (by omega) (by omega) (by omega)
        exact L_67_81 _ 0 s47 (by omega) (by omega) hI48 hF49 (by omega) (by omega) (by omega) (by omega) (by omega) (by omega) (Nat.lt_succ_self _)
      · refine zt_aload_n (pc' := 44) hX dX12_image_43 rfl rfl ?_
        refine zt_aload_n (pc' := 45) hX dX12_image_44 rfl rfl ?_
        refine zt_get (pc' := 48) (v := .ref (X.1.1 + 203)) hX dX12_image_45 rfl zf_X12_130 (by decide) zc_164 zs_46 (zrf_of (zv_46_52 hI48 zc_164)) ?_
        refine zt_iconst (pc' := 49) hX dX12_image_48 rfl ?_
        refine zt_aload_n (pc' := 50) hX dX12_image_49 rfl rfl ?_
        refine zt_iload_n (pc' := 51) hX dX12_image_50 rfl rfl ?_
        refine zt_cVi (pc' := 54) hX dX12_image_51 rfl zm_yX12_cellOf zw_44_23 zc_164 (by decide) zs_46 (q := (RX12, TX12, 108)) rfl rfl (zc_X12_cellOf _ _ s47 hI48 x44 ⟨by omega, by omega⟩ (by omega)) rfl rfl (Nat.le_of_ble_eq_true rfl) (by decide) (fun r208 s209 hr210 hp211 => ?_)
        obtain ⟨rfl, q212, q213⟩ := hp211
        refine zt_iadd (pc' := 55) hX dX12_image_54 rfl ?_
        refine zt_iald (pc' := 56) hX dX12_image_55 rfl (by decide) zc_203 zs_85 (by decide) ⟨by omega, by omega⟩ ?_
        have bv214 := zv_85 hI48 zc_203 ((1 + r208).toNat)
        generalize hv214 : s47 203 ((1 + r208).toNat) = v214 at bv214 ⊢
        refine zt_cVv (pc' := 59) hX dX12_image_56 rfl zm_yX12_writes zw_68_0 zc_164 (by decide) zs_46 (q := (RX12, TX12, 108)) rfl rfl (zc_X12_writes _ _ s47 hI48 v214 ⟨by omega, by omega⟩ (by omega)) rfl rfl (Nat.le_of_ble_eq_true rfl) (by decide) (fun r215 s216 hr217 hp218 => ?_)
        obtain ⟨hI219, hF220, z221⟩ := hp218
        have hF222 : zOn zAl σ s216 := zOn_al
        have b223 := zv_46_107 hI219 zc_164
        have b224 := zv_77 hI219 zc_195 1
        have e225 : s216 194 3 = s47 194 3 := hF220.2.1.2.2.2.1 3 (by decide)
        have e226 : s216 194 4 = s47 194 4 := hF220.2.1.2.2.2.1 4 (by decide)
        have e227 : s216 195 1 = s47 195 1 := hF220.2.1.2.2.2.2.2.1
        refine zt_iinc (pc' := 62) (lv' := [some (.ref (X.1.1 + 164)), some (.int (zI (x44 + 1)))]) hX dX12_image_59 rfl rfl hL (by decide) rfl ?_
        refine zt_goto (tgt := 35) hX dX12_image_62 (by decide) ?_
        exact ih58 (x44 + 1) s216 (by omega) (by omega) hI219 hF222 (by omega) (by omega) (by omega) (by omega) (by omega) (by omega) (by omega)
  exact L_35_55 _ 0 s32 (by omega) (by omega) hI35 hF38 (by omega) (by omega) (by omega) (by omega) (by omega) (by omega) (Nat.lt_succ_self _)
