set_option maxRecDepth 100000 in
set_option maxHeartbeats 4000000 in
theorem yc_X11_rememberFault (l : Launch) (E : zEN) (σ : zSto) (hI : zInv σ)  : zCt l E yX11_rememberFault cX11_rememberFault 1 none 0 zNC zNC 0 0 σ [.ref (E.1 + 0)] (fun r σ' => zInv σ' ∧ zOn zRf σ σ' ∧ (σ' 0 15 = σ 27 7 ∧ σ' 0 16 = σ 27 8)) := by
  refine zCt_of2 [some (.ref (E.1 + 0))] (by decide +kernel) (Nat.le_of_ble_eq_true rfl) rfl ?_
  intro X hE_ hX hR hL hN
  subst hE_
  have hX : zok X cX11_rememberFault RX11 0 := hX
  have hF := zOn_rf zRf σ
  have b1 := zv_14_7 hI zc_27
  have b2 := zv_14_8 hI zc_27
  have b3 := zv_1_15 hI zc_0
  have b4 := zv_1_16 hI zc_0
  refine zt_aload_n (pc' := 1) hX dX11_rememberFault_0 rfl rfl ?_
  refine zt_aload_n (pc' := 2) hX dX11_rememberFault_1 rfl rfl ?_
  refine zt_get (pc' := 5) (v := .ref (X.1.1 + 27)) hX dX11_rememberFault_2 rfl zf_X11_41 (by decide) zc_0 zs_1 (zrf_of (zv_1_5 hI zc_0)) ?_
  have b5 := zv_14_7 hI zc_27
  refine zt_get (pc' := 8) (v := .int (zI (σ 27 7))) hX dX11_rememberFault_5 rfl zf_X11_369 (by decide) zc_27 zs_14 rfl ?_
  refine zt_put (pc' := 11) (x := (σ 27 7)) hX dX11_rememberFault_8 rfl zf_X11_104 (by decide) zc_0 zs_1 (fun q hq => by cases hq; rfl) rfl rfl rfl ?_
  generalize hs7 : zset σ 0 15 (σ 27 7) = s6
  have hI8 : zInv s6 := hs7 ▸ zp_1_15 hI zc_0 ⟨by omega, by omega⟩
  have hF9 : zOn zRf σ s6 := hs7 ▸ zOn_set hF (by decide)
  have e10 : s6 27 7 = σ 27 7 := by rw [← hs7]; exact zset_k (zne_r zc_27 zc_0 (by decide))
  have e11 : s6 27 8 = σ 27 8 := by rw [← hs7]; exact zset_k (zne_r zc_27 zc_0 (by decide))
  have e12 : s6 0 15 = (σ 27 7) := by rw [← hs7]; exact zset_s
  have e13 : s6 0 16 = σ 0 16 := by rw [← hs7]; exact zset_j (by decide)
  refine zt_aload_n (pc' := 12) hX dX11_rememberFault_11 rfl rfl ?_
  refine zt_aload_n (pc' := 13) hX dX11_rememberFault_12 rfl rfl ?_
  refine zt_get (pc' := 16) (v := .ref (X.1.1 + 27)) hX dX11_rememberFault_13 rfl zf_X11_41 (by decide) zc_0 zs_1 (zrf_of (zv_1_5 hI8 zc_0)) ?_
  have b14 := zv_14_8 hI8 zc_27
  refine zt_get (pc' := 19) (v := .int (zI (s6 27 8))) hX dX11_rememberFault_16 rfl zf_X11_372 (by decide) zc_27 zs_14 rfl ?_
  refine zt_put (pc' := 22) (x := (s6 27 8)) hX dX11_rememberFault_19 rfl zf_X11_107 (by decide) zc_0 zs_1 (fun q hq => by cases hq; rfl) rfl rfl rfl ?_
  generalize hs16 : zset s6 0 16 (s6 27 8) = s15
  have hI17 : zInv s15 := hs16 ▸ zp_1_16 hI8 zc_0 ⟨by omega, by omega⟩
  have hF18 : zOn zRf σ s15 := hs16 ▸ zOn_set hF9 (by decide)
  have e19 : s15 27 7 = s6 27 7 := by rw [← hs16]; exact zset_k (zne_r zc_27 zc_0 (by decide))
  have e20 : s15 27 8 = s6 27 8 := by rw [← hs16]; exact zset_k (zne_r zc_27 zc_0 (by decide))
  have e21 : s15 0 15 = s6 0 15 := by rw [← hs16]; exact zset_j (by decide)
  have e22 : s15 0 16 = (s6 27 8) := by rw [← hs16]; exact zset_s
  exact zt_vret hX hR dX11_rememberFault_22 ⟨hI17, hF18, by omega⟩
set_option maxRecDepth 100000 in
set_option maxHeartbeats 4000000 in
theorem yc_X11_pane_7 (l : Launch) (E : zEN) (σ : zSto) (hI : zInv σ) (hpre0 : σ 0 4 = 7) (hW : yTab σ) : zCt l E yX11_pane cX11_pane 3 (some .int) 38 zNC zNC 0 0 σ [.ref (E.1 + 0)] (fun r σ' => zInv σ' ∧ zOn zAl σ σ' ∧ -2147483648 ≤ r ∧ r ≤ 2147483647 ∧ ((yPo (yAll (yT σ)).1 = 1 → r = (yAll (yT σ)).2.2) ∧ (yPo (yAll (yT σ)).1 = 0 → r = -1))) := by
  refine zCt_of2 [some (.ref (E.1 + 0)), none, none] (by decide +kernel) (Nat.le_of_ble_eq_true rfl) rfl ?_
  intro X hE_ hX hR hL hN
  subst hE_
  have hX : zok X cX11_pane RX11 38 := hX
  have hF := zOn_rf zAl σ
  have b1 := zv_14_7 hI zc_27
  have b2 := zv_1_15 hI zc_0
  refine zt_aload_n (pc' := 1) hX dX11_pane_0 rfl rfl ?_
  refine zt_get (pc' := 4) (v := .ref (X.1.1 + 34)) hX dX11_pane_1 rfl zf_X11_59 (by decide) zc_0 zs_1 (zrf_of (zv_1_7 hI zc_0)) ?_
  refine zt_aload_n (pc' := 5) hX dX11_pane_4 rfl rfl ?_
  have ek3 : σ 0 4 = ((7 : Nat) : Int) := by omega
  refine zt_get (pc' := 8) (v := .ref (X.1.1 + 7)) hX dX11_pane_5 rfl zf_X11_35 (by decide) zc_0 zs_1 (zrf_of ek3) ?_
  refine zt_aload_n (pc' := 9) hX dX11_pane_8 rfl rfl ?_
  refine zt_get (pc' := 12) (v := .ref (X.1.1 + 1)) hX dX11_pane_9 rfl zf_X11_14 (by decide) zc_0 zs_1 (zrf_of (zv_1_0 hI zc_0)) ?_
  refine zt_cVi (pc' := 15) hX dX11_pane_12 rfl zm_yX8_readInto zw_15_14 zc_34 (by decide) zs_21 (q := (RX8, TX8, 3)) rfl rfl (yc_X8_readInto_7 _ _ σ hI hW) rfl rfl (Nat.le_of_ble_eq_true rfl) (by decide) (fun r4 s5 hr6 hp7 => ?_)
  obtain ⟨hI8, hF9, q10, q11, z12, z13, z14⟩ := hp7
  have hF15 : zOn zAl σ s5 := zOn_al
  have b16 := zv_14_7 hI8 zc_27
  have b17 := zv_1_15 hI8 zc_0
  have p18 := yst_po (s := s5)
  rw [z13] at p18 z14
  clear z12 z13
  replace z14 : yIm _ _ := z14
  obtain ⟨p19, p20⟩ := p18
  replace p19 : yIm _ _ := p19
  replace p20 : yIm _ _ := p20
  refine zt_istore_n (pc' := 16) (lv' := [some (.ref (X.1.1 + 0)), some (.int (zI r4)), none]) hX dX11_pane_15 rfl hL (by decide) rfl ?_
  refine zt_aload_n (pc' := 17) hX dX11_pane_16 rfl rfl ?_
  refine zt_get (pc' := 20) (v := .ref (X.1.1 + 1)) hX dX11_pane_17 rfl zf_X11_14 (by decide) zc_0 zs_1 (zrf_of (zv_1_0 hI8 zc_0)) ?_
  refine zt_iconst (pc' := 21) hX dX11_pane_20 rfl ?_
  refine zt_put (pc' := 24) (x := 0) hX dX11_pane_21 rfl zf_X11_110 (by decide) zc_1 zs_2 (fun q hq => by cases hq; rfl) rfl rfl rfl ?_
  generalize hs22 : zset s5 1 1 0 = s21
  have hI23 : zInv s21 := hs22 ▸ zp_2_1 hI8 zc_1 ⟨by omega, by omega⟩
  have hF24 : zOn zAl σ s21 := hs22 ▸ zOn_set hF15 rfl
  have e25 : s21 27 7 = s5 27 7 := by rw [← hs22]; exact zset_k (zne_r zc_27 zc_1 (by decide))
  have e26 : s21 0 15 = s5 0 15 := by rw [← hs22]; exact zset_k (zne_r zc_0 zc_1 (by decide))
  refine zt_aload_n (pc' := 25) hX dX11_pane_24 rfl rfl ?_
  refine zt_cVv (pc' := 28) hX dX11_pane_25 rfl zm_yX11_rememberFault zw_24_19 zc_0 (by decide) zs_1 (q := (RX11, TX11, 17)) rfl rfl (yc_X11_rememberFault _ _ s21 hI23 ) rfl rfl (Nat.le_of_ble_eq_true rfl) (by decide) (fun r27 s28 hr29 hp30 => ?_)
  obtain ⟨hI31, hF32, z33⟩ := hp30
  have hF34 : zOn zAl σ s28 := zOn_al
  have b35 := zv_14_7 hI31 zc_27
  have b36 := zv_1_15 hI31 zc_0
  have e37 := hF32 27 7 rfl
  refine zt_aload_n (pc' := 29) hX dX11_pane_28 rfl rfl ?_
  have b38 := zv_1_15 hI31 zc_0
  refine zt_get (pc' := 32) (v := .int (zI (s28 0 15))) hX dX11_pane_29 rfl zf_X11_104 (by decide) zc_0 zs_1 rfl ?_
  refine zt_ifeq (pc' := 35) (tgt := 41) hX dX11_pane_32 rfl (by decide) ⟨by omega, by omega⟩ (fun c39 => ?_) (fun c39 => ?_)
  · refine zt_aload_n (pc' := 42) hX dX11_pane_41 rfl rfl ?_
    obtain ⟨k40, ek41, hk42⟩ := zv_1_3 hI31 zc_0
    refine zt_get (pc' := 45) (v := .ref (X.1.1 + k40)) hX dX11_pane_42 rfl zf_X11_31 (by decide) zc_0 zs_1 (zrf_of ek41) ?_
    refine zt_astore_n (pc' := 46) (lv' := [some (.ref (X.1.1 + 0)), some (.int (zI r4)), some (.ref (X.1.1 + k40))]) hX dX11_pane_45 rfl hL (by decide) rfl ?_
    refine zt_aload_n (pc' := 47) hX dX11_pane_46 rfl rfl ?_
    refine zt_aload_n (pc' := 48) hX dX11_pane_47 rfl rfl ?_
    obtain ⟨k43, ek44, hk45⟩ := zv_1_4 hI31 zc_0
    refine zt_get (pc' := 51) (v := .ref (X.1.1 + k43)) hX dX11_pane_48 rfl zf_X11_35 (by decide) zc_0 zs_1 (zrf_of ek44) ?_
    refine zt_put (pc' := 54) (x := ((k43 : Nat) : Int)) hX dX11_pane_51 rfl zf_X11_31 (by decide) zc_0 zs_1 (fun q hq => by cases hq; rfl) (zrf_of rfl) rfl rfl ?_
    generalize hs47 : zset s28 0 3 ((k43 : Nat) : Int) = s46
    have hI48 : zInv s46 := hs47 ▸ zp_1_3 hI31 zc_0 ⟨k43, rfl, hk45⟩
    have hF49 : zOn zAl σ s46 := hs47 ▸ zOn_set hF34 rfl
    have e50 : s46 27 7 = s28 27 7 := by rw [← hs47]; exact zset_k (zne_r zc_27 zc_0 (by decide))
    have e51 : s46 0 15 = s28 0 15 := by rw [← hs47]; exact zset_j (by decide)
    have ek52 : s46 0 3 = ((k43 : Nat) : Int) := by rw [← hs47]; exact zset_s
    refine zt_aload_n (pc' := 55) hX dX11_pane_54 rfl rfl ?_
    refine zt_aload_n (pc' := 56) hX dX11_pane_55 rfl rfl ?_
    refine zt_put (pc' := 59) (x := ((k40 : Nat) : Int)) hX dX11_pane_56 rfl zf_X11_35 (by decide) zc_0 zs_1 (fun q hq => by cases hq; rfl) (zrf_of rfl) rfl rfl ?_
    generalize hs54 : zset s46 0 4 ((k40 : Nat) : Int) = s53
    have hI55 : zInv s53 := hs54 ▸ zp_1_4 hI48 zc_0 ⟨k40, rfl, hk42⟩
    have hF56 : zOn zAl σ s53 := hs54 ▸ zOn_set hF49 rfl
    have e57 : s53 27 7 = s46 27 7 := by rw [← hs54]; exact zset_k (zne_r zc_27 zc_0 (by decide))
    have e58 : s53 0 15 = s46 0 15 := by rw [← hs54]; exact zset_j (by decide)
    have ek59 : s53 0 4 = ((k40 : Nat) : Int) := by rw [← hs54]; exact zset_s
    refine zt_aload_n (pc' := 60) hX dX11_pane_59 rfl rfl ?_
    refine zt_get (pc' := 63) (v := .ref (X.1.1 + 35)) hX dX11_pane_60 rfl zf_X11_66 (by decide) zc_0 zs_1 (zrf_of (zv_1_8 hI55 zc_0)) ?_
    refine zt_aload_n (pc' := 64) hX dX11_pane_63 rfl rfl ?_
    have e63 : s53 0 3 = s46 0 3 := by rw [← hs54]; exact zset_j (by decide)
    have e64 : s46 0 3 = ((k43 : Nat) : Int) := by rw [← hs47]; exact zset_s
    have ek61 : s53 0 3 = ((k43 : Nat) : Int) := by omega
    refine zt_get (pc' := 67) (v := .ref (X.1.1 + k43)) hX dX11_pane_64 rfl zf_X11_31 (by decide) zc_0 zs_1 (zrf_of ek61) ?_
    refine zt_cVv (pc' := 70) hX dX11_pane_67 rfl zm_yX10_begin zw_25_1 zc_35 (by decide) zs_22 (q := (RX10, TX10, 8)) rfl rfl (zc_X10_begin _ _ s53 hI55 35 zc_35 k43 hk45) rfl rfl (Nat.le_of_ble_eq_true rfl) (by decide) (fun r65 s66 hr67 hp68 => ?_)
    obtain ⟨hI69, hF70⟩ := hp68
    have hF71 : zOn zAl σ s66 := zOn_al
    have b72 := zv_14_7 hI69 zc_27
    have b73 := zv_1_15 hI69 zc_0
    refine zt_aload_n (pc' := 71) hX dX11_pane_70 rfl rfl ?_
    refine zt_get (pc' := 74) (v := .ref (X.1.1 + 45)) hX dX11_pane_71 rfl zf_X11_76 (by decide) zc_0 zs_1 (zrf_of (zv_1_10 hI69 zc_0)) ?_
    refine zt_iconst (pc' := 75) hX dX11_pane_74 rfl ?_
    refine zt_put (pc' := 78) (x := 0) hX dX11_pane_75 rfl zf_X11_135 (by decide) zc_45 zs_27 (fun q hq => by cases hq; rfl) rfl rfl rfl ?_
    generalize hs75 : zset s66 45 2 0 = s74
    have hI76 : zInv s74 := hs75 ▸ zp_27_2 hI69 zc_45 ⟨by omega, by omega⟩
    have hF77 : zOn zAl σ s74 := hs75 ▸ zOn_set hF71 rfl
    have e78 : s74 27 7 = s66 27 7 := by rw [← hs75]; exact zset_k (zne_r zc_27 zc_45 (by decide))
    have e79 : s74 0 15 = s66 0 15 := by rw [← hs75]; exact zset_k (zne_r zc_0 zc_45 (by decide))
    refine zt_aload_n (pc' := 79) hX dX11_pane_78 rfl rfl ?_
    refine zt_get (pc' := 82) (v := .ref (X.1.1 + 147)) hX dX11_pane_79 rfl zf_X11_83 (by decide) zc_0 zs_1 (zrf_of (zv_1_11 hI76 zc_0)) ?_
    refine zt_iconst (pc' := 83) hX dX11_pane_82 rfl ?_
    refine zt_put (pc' := 86) (x := 0) hX dX11_pane_83 rfl zf_X11_138 (by decide) zc_147 zs_29 (fun q hq => by cases hq; rfl) rfl rfl rfl ?_
    generalize hs81 : zset s74 147 5 0 = s80
    have hI82 : zInv s80 := hs81 ▸ zp_29_5 hI76 zc_147 ⟨by omega, by omega⟩
    have hF83 : zOn zAl σ s80 := hs81 ▸ zOn_set hF77 rfl
    have e84 : s80 27 7 = s74 27 7 := by rw [← hs81]; exact zset_k (zne_r zc_27 zc_147 (by decide))
    have e85 : s80 0 15 = s74 0 15 := by rw [← hs81]; exact zset_k (zne_r zc_0 zc_147 (by decide))
    refine zt_iload_n (pc' := 87) hX dX11_pane_86 rfl rfl ?_
    exact zt_iret hX hR dX11_pane_87 ⟨by omega, by omega⟩ ⟨hI82, hF83, by omega, by omega, ⟨fun o => (z14 o).2, fun o => absurd (p19 (by omega)) (by rw [o]; decide)⟩⟩
  · refine zt_aload_n (pc' := 36) hX dX11_pane_35 rfl rfl ?_
    refine zt_iconst (pc' := 37) hX dX11_pane_36 rfl ?_
    refine zt_cVi (pc' := 40) hX dX11_pane_37 rfl zm_yX11_refusal zw_14_3 zc_0 (by decide) zs_1 (q := (RX11, TX11, 17)) rfl rfl (zc_X11_refusal _ _ s28 hI31 1 ⟨by omega, by omega⟩) rfl rfl (Nat.le_of_ble_eq_true rfl) (by decide) (fun r86 s87 hr88 hp89 => ?_)
    obtain ⟨hI90, hF91, q92, q93⟩ := hp89
    have hF94 : zOn zAl σ s87 := zOn_al
    have b95 := zv_14_7 hI90 zc_27
    have b96 := zv_1_15 hI90 zc_0
    exact zt_iret hX hR dX11_pane_40 ⟨by omega, by omega⟩ ⟨hI90, hF94, by omega, by omega, ⟨fun o => absurd (p20 (by omega)) (by rw [o]; decide), fun _ => by omega⟩⟩
set_option maxRecDepth 100000 in
set_option maxHeartbeats 4000000 in
theorem yc_X11_pane_17 (l : Launch) (E : zEN) (σ : zSto) (hI : zInv σ) (hpre0 : σ 0 4 = 17) (hW : yTab σ) : zCt l E yX11_pane cX11_pane 3 (some .int) 38 zNC zNC 0 0 σ [.ref (E.1 + 0)] (fun r σ' => zInv σ' ∧ zOn zAl σ σ' ∧ -2147483648 ≤ r ∧ r ≤ 2147483647 ∧ ((yPo (yAll (yT σ)).1 = 1 → r = (yAll (yT σ)).2.2) ∧ (yPo (yAll (yT σ)).1 = 0 → r = -1))) := by
  refine zCt_of2 [some (.ref (E.1 + 0)), none, none] (by decide +kernel) (Nat.le_of_ble_eq_true rfl) rfl ?_
  intro X hE_ hX hR hL hN
  subst hE_
  have hX : zok X cX11_pane RX11 38 := hX
  have hF := zOn_rf zAl σ
  have b1 := zv_14_7 hI zc_27
  have b2 := zv_1_15 hI zc_0
  refine zt_aload_n (pc' := 1) hX dX11_pane_0 rfl rfl ?_
  refine zt_get (pc' := 4) (v := .ref (X.1.1 + 34)) hX dX11_pane_1 rfl zf_X11_59 (by decide) zc_0 zs_1 (zrf_of (zv_1_7 hI zc_0)) ?_
  refine zt_aload_n (pc' := 5) hX dX11_pane_4 rfl rfl ?_
  have ek3 : σ 0 4 = ((17 : Nat) : Int) := by omega
  refine zt_get (pc' := 8) (v := .ref (X.1.1 + 17)) hX dX11_pane_5 rfl zf_X11_35 (by decide) zc_0 zs_1 (zrf_of ek3) ?_
  refine zt_aload_n (pc' := 9) hX dX11_pane_8 rfl rfl ?_
  refine zt_get (pc' := 12) (v := .ref (X.1.1 + 1)) hX dX11_pane_9 rfl zf_X11_14 (by decide) zc_0 zs_1 (zrf_of (zv_1_0 hI zc_0)) ?_
  refine zt_cVi (pc' := 15) hX dX11_pane_12 rfl zm_yX8_readInto zw_15_14 zc_34 (by decide) zs_21 (q := (RX8, TX8, 3)) rfl rfl (yc_X8_readInto_17 _ _ σ hI hW) rfl rfl (Nat.le_of_ble_eq_true rfl) (by decide) (fun r4 s5 hr6 hp7 => ?_)
  obtain ⟨hI8, hF9, q10, q11, z12, z13, z14⟩ := hp7
  have hF15 : zOn zAl σ s5 := zOn_al
  have b16 := zv_14_7 hI8 zc_27
  have b17 := zv_1_15 hI8 zc_0
  have p18 := yst_po (s := s5)
  rw [z13] at p18 z14
  clear z12 z13
  replace z14 : yIm _ _ := z14
  obtain ⟨p19, p20⟩ := p18
  replace p19 : yIm _ _ := p19
  replace p20 : yIm _ _ := p20
  refine zt_istore_n (pc' := 16) (lv' := [some (.ref (X.1.1 + 0)), some (.int (zI r4)), none]) hX dX11_pane_15 rfl hL (by decide) rfl ?_
  refine zt_aload_n (pc' := 17) hX dX11_pane_16 rfl rfl ?_
  refine zt_get (pc' := 20) (v := .ref (X.1.1 + 1)) hX dX11_pane_17 rfl zf_X11_14 (by decide) zc_0 zs_1 (zrf_of (zv_1_0 hI8 zc_0)) ?_
  refine zt_iconst (pc' := 21) hX dX11_pane_20 rfl ?_
  refine zt_put (pc' := 24) (x := 0) hX dX11_pane_21 rfl zf_X11_110 (by decide) zc_1 zs_2 (fun q hq => by cases hq; rfl) rfl rfl rfl ?_
  generalize hs22 : zset s5 1 1 0 = s21
  have hI23 : zInv s21 := hs22 ▸ zp_2_1 hI8 zc_1 ⟨by omega, by omega⟩
  have hF24 : zOn zAl σ s21 := hs22 ▸ zOn_set hF15 rfl
  have e25 : s21 27 7 = s5 27 7 := by rw [← hs22]; exact zset_k (zne_r zc_27 zc_1 (by decide))
  have e26 : s21 0 15 = s5 0 15 := by rw [← hs22]; exact zset_k (zne_r zc_0 zc_1 (by decide))
  refine zt_aload_n (pc' := 25) hX dX11_pane_24 rfl rfl ?_
  refine zt_cVv (pc' := 28) hX dX11_pane_25 rfl zm_yX11_rememberFault zw_24_19 zc_0 (by decide) zs_1 (q := (RX11, TX11, 17)) rfl rfl (yc_X11_rememberFault _ _ s21 hI23 ) rfl rfl (Nat.le_of_ble_eq_true rfl) (by decide) (fun r27 s28 hr29 hp30 => ?_)
  obtain ⟨hI31, hF32, z33⟩ := hp30
  have hF34 : zOn zAl σ s28 := zOn_al
  have b35 := zv_14_7 hI31 zc_27
  have b36 := zv_1_15 hI31 zc_0
  have e37 := hF32 27 7 rfl
  refine zt_aload_n (pc' := 29) hX dX11_pane_28 rfl rfl ?_
  have b38 := zv_1_15 hI31 zc_0
  refine zt_get (pc' := 32) (v := .int (zI (s28 0 15))) hX dX11_pane_29 rfl zf_X11_104 (by decide) zc_0 zs_1 rfl ?_
  refine zt_ifeq (pc' := 35) (tgt := 41) hX dX11_pane_32 rfl (by decide) ⟨by omega, by omega⟩ (fun c39 => ?_) (fun c39 => ?_)
  · refine zt_aload_n (pc' := 42) hX dX11_pane_41 rfl rfl ?_
    obtain ⟨k40, ek41, hk42⟩ := zv_1_3 hI31 zc_0
    refine zt_get (pc' := 45) (v := .ref (X.1.1 + k40)) hX dX11_pane_42 rfl zf_X11_31 (by decide) zc_0 zs_1 (zrf_of ek41) ?_
    refine zt_astore_n (pc' := 46) (lv' := [some (.ref (X.1.1 + 0)), some (.int (zI r4)), some (.ref (X.1.1 + k40))]) hX dX11_pane_45 rfl hL (by decide) rfl ?_
    refine zt_aload_n (pc' := 47) hX dX11_pane_46 rfl rfl ?_
    refine zt_aload_n (pc' := 48) hX dX11_pane_47 rfl rfl ?_
    obtain ⟨k43, ek44, hk45⟩ := zv_1_4 hI31 zc_0
    refine zt_get (pc' := 51) (v := .ref (X.1.1 + k43)) hX dX11_pane_48 rfl zf_X11_35 (by decide) zc_0 zs_1 (zrf_of ek44) ?_
    refine zt_put (pc' := 54) (x := ((k43 : Nat) : Int)) hX dX11_pane_51 rfl zf_X11_31 (by decide) zc_0 zs_1 (fun q hq => by cases hq; rfl) (zrf_of rfl) rfl rfl ?_
    generalize hs47 : zset s28 0 3 ((k43 : Nat) : Int) = s46
    have hI48 : zInv s46 := hs47 ▸ zp_1_3 hI31 zc_0 ⟨k43, rfl, hk45⟩
    have hF49 : zOn zAl σ s46 := hs47 ▸ zOn_set hF34 rfl
    have e50 : s46 27 7 = s28 27 7 := by rw [← hs47]; exact zset_k (zne_r zc_27 zc_0 (by decide))
    have e51 : s46 0 15 = s28 0 15 := by rw [← hs47]; exact zset_j (by decide)
    have ek52 : s46 0 3 = ((k43 : Nat) : Int) := by rw [← hs47]; exact zset_s
    refine zt_aload_n (pc' := 55) hX dX11_pane_54 rfl rfl ?_
    refine zt_aload_n (pc' := 56) hX dX11_pane_55 rfl rfl ?_
    refine zt_put (pc' := 59) (x := ((k40 : Nat) : Int)) hX dX11_pane_56 rfl zf_X11_35 (by decide) zc_0 zs_1 (fun q hq => by cases hq; rfl) (zrf_of rfl) rfl rfl ?_
    generalize hs54 : zset s46 0 4 ((k40 : Nat) : Int) = s53
    have hI55 : zInv s53 := hs54 ▸ zp_1_4 hI48 zc_0 ⟨k40, rfl, hk42⟩
    have hF56 : zOn zAl σ s53 := hs54 ▸ zOn_set hF49 rfl
    have e57 : s53 27 7 = s46 27 7 := by rw [← hs54]; exact zset_k (zne_r zc_27 zc_0 (by decide))
    have e58 : s53 0 15 = s46 0 15 := by rw [← hs54]; exact zset_j (by decide)
    have ek59 : s53 0 4 = ((k40 : Nat) : Int) := by rw [← hs54]; exact zset_s
    refine zt_aload_n (pc' := 60) hX dX11_pane_59 rfl rfl ?_
    refine zt_get (pc' := 63) (v := .ref (X.1.1 + 35)) hX dX11_pane_60 rfl zf_X11_66 (by decide) zc_0 zs_1 (zrf_of (zv_1_8 hI55 zc_0)) ?_
    refine zt_aload_n (pc' := 64) hX dX11_pane_63 rfl rfl ?_
    have e63 : s53 0 3 = s46 0 3 := by rw [← hs54]; exact zset_j (by decide)
    have e64 : s46 0 3 = ((k43 : Nat) : Int) := by rw [← hs47]; exact zset_s
    have ek61 : s53 0 3 = ((k43 : Nat) : Int) := by omega
    refine zt_get (pc' := 67) (v := .ref (X.1.1 + k43)) hX dX11_pane_64 rfl zf_X11_31 (by decide) zc_0 zs_1 (zrf_of ek61) ?_
    refine zt_cVv (pc' := 70) hX dX11_pane_67 rfl zm_yX10_begin zw_25_1 zc_35 (by decide) zs_22 (q := (RX10, TX10, 8)) rfl rfl (zc_X10_begin _ _ s53 hI55 35 zc_35 k43 hk45) rfl rfl (Nat.le_of_ble_eq_true rfl) (by decide) (fun r65 s66 hr67 hp68 => ?_)
    obtain ⟨hI69, hF70⟩ := hp68
    have hF71 : zOn zAl σ s66 := zOn_al
    have b72 := zv_14_7 hI69 zc_27
    have b73 := zv_1_15 hI69 zc_0
    refine zt_aload_n (pc' := 71) hX dX11_pane_70 rfl rfl ?_
    refine zt_get (pc' := 74) (v := .ref (X.1.1 + 45)) hX dX11_pane_71 rfl zf_X11_76 (by decide) zc_0 zs_1 (zrf_of (zv_1_10 hI69 zc_0)) ?_
    refine zt_iconst (pc' := 75) hX dX11_pane_74 rfl ?_
    refine zt_put (pc' := 78) (x := 0) hX dX11_pane_75 rfl zf_X11_135 (by decide) zc_45 zs_27 (fun q hq => by cases hq; rfl) rfl rfl rfl ?_
    generalize hs75 : zset s66 45 2 0 = s74
    have hI76 : zInv s74 := hs75 ▸ zp_27_2 hI69 zc_45 ⟨by omega, by omega⟩
    have hF77 : zOn zAl σ s74 := hs75 ▸ zOn_set hF71 rfl
    have e78 : s74 27 7 = s66 27 7 := by rw [← hs75]; exact zset_k (zne_r zc_27 zc_45 (by decide))
    have e79 : s74 0 15 = s66 0 15 := by rw [← hs75]; exact zset_k (zne_r zc_0 zc_45 (by decide))
    refine zt_aload_n (pc' := 79) hX dX11_pane_78 rfl rfl ?_
    refine zt_get (pc' := 82) (v := .ref (X.1.1 + 147)) hX dX11_pane_79 rfl zf_X11_83 (by decide) zc_0 zs_1 (zrf_of (zv_1_11 hI76 zc_0)) ?_
    refine zt_iconst (pc' := 83) hX dX11_pane_82 rfl ?_
    refine zt_put (pc' := 86) (x := 0) hX dX11_pane_83 rfl zf_X11_138 (by decide) zc_147 zs_29 (fun q hq => by cases hq; rfl) rfl rfl rfl ?_
    generalize hs81 : zset s74 147 5 0 = s80
    have hI82 : zInv s80 := hs81 ▸ zp_29_5 hI76 zc_147 ⟨by omega, by omega⟩
    have hF83 : zOn zAl σ s80 := hs81 ▸ zOn_set hF77 rfl
    have e84 : s80 27 7 = s74 27 7 := by rw [← hs81]; exact zset_k (zne_r zc_27 zc_147 (by decide))
    have e85 : s80 0 15 = s74 0 15 := by rw [← hs81]; exact zset_k (zne_r zc_0 zc_147 (by decide))
    refine zt_iload_n (pc' := 87) hX dX11_pane_86 rfl rfl ?_
    exact zt_iret hX hR dX11_pane_87 ⟨by omega, by omega⟩ ⟨hI82, hF83, by omega, by omega, ⟨fun o => (z14 o).2, fun o => absurd (p19 (by omega)) (by rw [o]; decide)⟩⟩
  · refine zt_aload_n (pc' := 36) hX dX11_pane_35 rfl rfl ?_
    refine zt_iconst (pc' := 37) hX dX11_pane_36 rfl ?_
    refine zt_cVi (pc' := 40) hX dX11_pane_37 rfl zm_yX11_refusal zw_14_3 zc_0 (by decide) zs_1 (q := (RX11, TX11, 17)) rfl rfl (zc_X11_refusal _ _ s28 hI31 1 ⟨by omega, by omega⟩) rfl rfl (Nat.le_of_ble_eq_true rfl) (by decide) (fun r86 s87 hr88 hp89 => ?_)
    obtain ⟨hI90, hF91, q92, q93⟩ := hp89
    have hF94 : zOn zAl σ s87 := zOn_al
    have b95 := zv_14_7 hI90 zc_27
    have b96 := zv_1_15 hI90 zc_0
    exact zt_iret hX hR dX11_pane_40 ⟨by omega, by omega⟩ ⟨hI90, hF94, by omega, by omega, ⟨fun o => absurd (p20 (by omega)) (by rw [o]; decide), fun _ => by omega⟩⟩
