set_option maxRecDepth 100000 in
set_option maxHeartbeats 4000000 in
theorem yc_X11_rememberFault (l : Launch) (E : zEN) (σ : zSto) (hI : zInv σ)  : zCt l E yX11_rememberFault cX11_rememberFault 1 none 0 zNC zNC 0 0 σ [.ref (E.1 + 0)] (fun r σ' => zInv σ' ∧ zOn zRf σ σ' ∧ (σ' 0 15 = σ 27 7 ∧ σ' 0 16 = σ 27 8)) := by
  refine zCt_of2 [some (.ref (E.1 + 0))] (by decide +kernel) (Nat.le_of_ble_eq_true rfl) rfl ?_
  intro X hE_ hX hR hL hN
  subst hE_
  have hX : zok X cX11_rememberFault RX11 0 := hX
  have hF := zOn_rf zRf σ
  have b1 := zv_14_7 hI zc_27
  have b2 := zv_14_8 hI zc_27
  have b3 := zv_1_15 hI zc_0
  have b4 := zv_1_16 hI zc_0
  refine zt_aload_n (pc' := 1) hX dX11_rememberFault_0 rfl rfl ?_
  refine zt_aload_n (pc' := 2) hX dX11_rememberFault_1 rfl rfl ?_
  refine zt_get (pc' := 5) (v := .ref (X.1.1 + 27)) hX dX11_rememberFault_2 rfl zf_X11_41 (by decide) zc_0 zs_1 (zrf_of (zv_1_5 hI zc_0)) ?_
  have b5 := zv_14_7 hI zc_27
  refine zt_get (pc' := 8) (v := .int (zI (σ 27 7))) hX dX11_rememberFault_5 rfl zf_X11_369 (by decide) zc_27 zs_14 rfl ?_
  refine zt_put (pc' := 11) (x := (σ 27 7)) hX dX11_rememberFault_8 rfl zf_X11_104 (by decide) zc_0 zs_1 (fun q hq => by cases hq; rfl) rfl rfl rfl ?_
  generalize hs7 : zset σ 0 15 (σ 27 7) = s6
  have hI8 : zInv s6 := hs7 ▸ zp_1_15 hI zc_0 ⟨by omega, by omega⟩
  have hF9 : zOn zRf σ s6 := hs7 ▸ zOn_set hF (by decide)
  have e10 : s6 27 7 = σ 27 7 := by rw [← hs7]; exact zset_k (zne_r zc_27 zc_0 (by decide))
  have e11 : s6 27 8 = σ 27 8 := by rw [← hs7]; exact zset_k (zne_r zc_27 zc_0 (by decide))
  have e12 : s6 0 15 = (σ 27 7) := by rw [← hs7]; exact zset_s
  have e13 : s6 0 16 = σ 0 16 := by rw [← hs7]; exact zset_j (by decide)
  refine zt_aload_n (pc' := 12) hX dX11_rememberFault_11 rfl rfl ?_
  refine zt_aload_n (pc' := 13) hX dX11_rememberFault_12 rfl rfl ?_
  refine zt_get (pc' := 16) (v := .ref (X.1.1 + 27)) hX dX11_rememberFault_13 rfl zf_X11_41 (by decide) zc_0 zs_1 (zrf_of (zv_1_5 hI8 zc_0)) ?_
  have b14 := zv_14_8 hI8 zc_27
  refine zt_get (pc' := 19) (v := .int (zI (s6 27 8))) hX dX11_rememberFault_16 rfl zf_X11_372 (by decide) zc_27 zs_14 rfl ?_
  refine zt_put (pc' := 22) (x := (s6 27 8)) hX dX11_rememberFault_19 rfl zf_X11_107 (by decide) zc_0 zs_1 (fun q hq => by cases hq; rfl) rfl rfl rfl ?_
  generalize hs16 : zset s6 0 16 (s6 27 8) = s15
  have hI17 : zInv s15 := hs16 ▸ zp_1_16 hI8 zc_0 ⟨by omega, by omega⟩
  have hF18 : zOn zRf σ s15 := hs16 ▸ zOn_set hF9 (by decide)
  have e19 : s15 27 7 = s6 27 7 := by rw [← hs16]; exact zset_k (zne_r zc_27 zc_0 (by decide))
  have e20 : s15 27 8 = s6 27 8 := by rw [← hs16]; exact zset_k (zne_r zc_27 zc_0 (by decide))
  have e21 : s15 0 15 = s6 0 15 := by rw [← hs16]; exact zset_j (by decide)
  have e22 : s15 0 16 = (s6 27 8) := by rw [← hs16]; exact zset_s
  exact zt_vret hX hR dX11_rememberFault_22 ⟨hI17, hF18, by omega⟩
set_option maxRecDepth 100000 in
set_option maxHeartbeats 4000000 in
theorem yd_X11_pane_7 (l : Launch) (E : zEN) (σ : zSto) (hI : zInv σ) (hpre0 : σ 0 4 = 7) (hpre1 : σ 0 3 = 17) (hW : yTab σ) : zCt l E yX11_pane cX11_pane 3 (some .int) 38 zNC zNC 0 0 σ [.ref (E.1 + 0)] (fun r σ' => zInv σ' ∧ zOn zPb σ σ' ∧ -1 ≤ r ∧ r ≤ 80 ∧ (σ' 1 1 = 0) ∧ (yAns (yAll (yT σ)) r) ∧ (yPo (yAll (yT σ)).1 = 1 → σ' 0 3 = 7 ∧ σ' 0 4 = 17 ∧ yNc σ' 7 (yAll (yT σ)).2.1) ∧ (yPo (yAll (yT σ)).1 = 0 → σ' 0 3 = σ 0 3 ∧ σ' 0 4 = σ 0 4 ∧ σ' 17 10 = σ 17 10 ∧ σ' 17 11 = σ 17 11 ∧ σ' 17 12 = σ 17 12)) := by
  refine zCt_of2 [some (.ref (E.1 + 0)), none, none] (by decide +kernel) (Nat.le_of_ble_eq_true rfl) rfl ?_
  intro X hE_ hX hR hL hN
  subst hE_
  have hX : zok X cX11_pane RX11 38 := hX
  have hF := zOn_rf zPb σ
  have b1 := zv_14_7 hI zc_27
  have b2 := zv_1_15 hI zc_0
  have b3 := zv_1_3 hI zc_0
  have b4 := zv_1_4 hI zc_0
  have b5 := zv_8_10 hI zc_7
  have b6 := zv_8_11 hI zc_7
  have b7 := zv_8_12 hI zc_7
  have b8 := zv_8_10 hI zc_17
  have b9 := zv_8_11 hI zc_17
  have b10 := zv_8_12 hI zc_17
  have b11 := zv_2_1 hI zc_1
  refine zt_aload_n (pc' := 1) hX dX11_pane_0 rfl rfl ?_
  refine zt_get (pc' := 4) (v := .ref (X.1.1 + 34)) hX dX11_pane_1 rfl zf_X11_59 (by decide) zc_0 zs_1 (zrf_of (zv_1_7 hI zc_0)) ?_
  refine zt_aload_n (pc' := 5) hX dX11_pane_4 rfl rfl ?_
  have ek12 : σ 0 4 = ((7 : Nat) : Int) := by omega
  refine zt_get (pc' := 8) (v := .ref (X.1.1 + 7)) hX dX11_pane_5 rfl zf_X11_35 (by decide) zc_0 zs_1 (zrf_of ek12) ?_
  refine zt_aload_n (pc' := 9) hX dX11_pane_8 rfl rfl ?_
  refine zt_get (pc' := 12) (v := .ref (X.1.1 + 1)) hX dX11_pane_9 rfl zf_X11_14 (by decide) zc_0 zs_1 (zrf_of (zv_1_0 hI zc_0)) ?_
  refine zt_cVi (pc' := 15) hX dX11_pane_12 rfl zm_yX8_readInto zw_15_14 zc_34 (by decide) zs_21 (q := (RX8, TX8, 3)) rfl rfl (yc_X8_readInto_7 _ _ σ hI hW) rfl rfl (Nat.le_of_ble_eq_true rfl) (by decide) (fun r13 s14 hr15 hp16 => ?_)
  obtain ⟨hI17, hF18, q19, q20, z21, z22, z23⟩ := hp16
  have hF24 := zOn_tr hF hF18 zi_t7b
  have b25 := zv_14_7 hI17 zc_27
  have b26 := zv_1_15 hI17 zc_0
  have b27 := zv_1_3 hI17 zc_0
  have b28 := zv_1_4 hI17 zc_0
  have b29 := zv_8_10 hI17 zc_7
  have b30 := zv_8_11 hI17 zc_7
  have b31 := zv_8_12 hI17 zc_7
  have b32 := zv_8_10 hI17 zc_17
  have b33 := zv_8_11 hI17 zc_17
  have b34 := zv_8_12 hI17 zc_17
  have b35 := zv_2_1 hI17 zc_1
  have e36 := hF18 0 15 rfl
  have e37 := hF18 0 3 rfl
  have e38 := hF18 0 4 rfl
  have e39 := hF18 17 10 rfl
  have e40 := hF18 17 11 rfl
  have e41 := hF18 17 12 rfl
  have e42 := hF18 1 1 rfl
  have p43 := yst_po (s := s14)
  rw [z22] at p43 z23
  clear z21 z22
  replace z23 : yIm _ _ := z23
  obtain ⟨p44, p45⟩ := p43
  replace p44 : yIm _ _ := p44
  replace p45 : yIm _ _ := p45
  refine zt_istore_n (pc' := 16) (lv' := [some (.ref (X.1.1 + 0)), some (.int (zI r13)), none]) hX dX11_pane_15 rfl hL (by decide) rfl ?_
  refine zt_aload_n (pc' := 17) hX dX11_pane_16 rfl rfl ?_
  refine zt_get (pc' := 20) (v := .ref (X.1.1 + 1)) hX dX11_pane_17 rfl zf_X11_14 (by decide) zc_0 zs_1 (zrf_of (zv_1_0 hI17 zc_0)) ?_
  refine zt_iconst (pc' := 21) hX dX11_pane_20 rfl ?_
  refine zt_put (pc' := 24) (x := 0) hX dX11_pane_21 rfl zf_X11_110 (by decide) zc_1 zs_2 (fun q hq => by cases hq; rfl) rfl rfl rfl ?_
  generalize hs47 : zset s14 1 1 0 = s46
  have hI48 : zInv s46 := hs47 ▸ zp_2_1 hI17 zc_1 ⟨by omega, by omega⟩
  have hF49 : zOn zPb σ s46 := hs47 ▸ zOn_set hF24 rfl
  have e50 : s46 27 7 = s14 27 7 := by rw [← hs47]; exact zset_k (zne_r zc_27 zc_1 (by decide))
  have e51 : s46 0 15 = s14 0 15 := by rw [← hs47]; exact zset_k (zne_r zc_0 zc_1 (by decide))
  have e52 : s46 0 3 = s14 0 3 := by rw [← hs47]; exact zset_k (zne_r zc_0 zc_1 (by decide))
  have e53 : s46 0 4 = s14 0 4 := by rw [← hs47]; exact zset_k (zne_r zc_0 zc_1 (by decide))
  have e54 : s46 7 10 = s14 7 10 := by rw [← hs47]; exact zset_k (zne_r zc_7 zc_1 (by decide))
  have e55 : s46 7 11 = s14 7 11 := by rw [← hs47]; exact zset_k (zne_r zc_7 zc_1 (by decide))
  have e56 : s46 7 12 = s14 7 12 := by rw [← hs47]; exact zset_k (zne_r zc_7 zc_1 (by decide))
  have e57 : s46 17 10 = s14 17 10 := by rw [← hs47]; exact zset_k (zne_r zc_17 zc_1 (by decide))
  have e58 : s46 17 11 = s14 17 11 := by rw [← hs47]; exact zset_k (zne_r zc_17 zc_1 (by decide))
  have e59 : s46 17 12 = s14 17 12 := by rw [← hs47]; exact zset_k (zne_r zc_17 zc_1 (by decide))
  have e60 : s46 1 1 = 0 := by rw [← hs47]; exact zset_s
  refine zt_aload_n (pc' := 25) hX dX11_pane_24 rfl rfl ?_
  refine zt_cVv (pc' := 28) hX dX11_pane_25 rfl zm_yX11_rememberFault zw_24_19 zc_0 (by decide) zs_1 (q := (RX11, TX11, 17)) rfl rfl (yc_X11_rememberFault _ _ s46 hI48 ) rfl rfl (Nat.le_of_ble_eq_true rfl) (by decide) (fun r61 s62 hr63 hp64 => ?_)
  obtain ⟨hI65, hF66, z67⟩ := hp64
  have hF68 := zOn_tr hF49 hF66 zi_fb
  have b69 := zv_14_7 hI65 zc_27
  have b70 := zv_1_15 hI65 zc_0
  have b71 := zv_1_3 hI65 zc_0
  have b72 := zv_1_4 hI65 zc_0
  have b73 := zv_8_10 hI65 zc_7
  have b74 := zv_8_11 hI65 zc_7
  have b75 := zv_8_12 hI65 zc_7
  have b76 := zv_8_10 hI65 zc_17
  have b77 := zv_8_11 hI65 zc_17
  have b78 := zv_8_12 hI65 zc_17
  have b79 := zv_2_1 hI65 zc_1
  have e80 := hF66 27 7 rfl
  have e81 := hF66 0 3 rfl
  have e82 := hF66 0 4 rfl
  have e83 := hF66 7 10 rfl
  have e84 := hF66 7 11 rfl
  have e85 := hF66 7 12 rfl
  have e86 := hF66 17 10 rfl
  have e87 := hF66 17 11 rfl
  have e88 := hF66 17 12 rfl
  have e89 := hF66 1 1 rfl
  refine zt_aload_n (pc' := 29) hX dX11_pane_28 rfl rfl ?_
  have b90 := zv_1_15 hI65 zc_0
  refine zt_get (pc' := 32) (v := .int (zI (s62 0 15))) hX dX11_pane_29 rfl zf_X11_104 (by decide) zc_0 zs_1 rfl ?_
  refine zt_ifeq (pc' := 35) (tgt := 41) hX dX11_pane_32 rfl (by decide) ⟨by omega, by omega⟩ (fun c91 => ?_) (fun c91 => ?_)
  · refine zt_aload_n (pc' := 42) hX dX11_pane_41 rfl rfl ?_
    obtain ⟨k92, ek93, hk94⟩ := zv_1_3 hI65 zc_0
    refine zt_get (pc' := 45) (v := .ref (X.1.1 + k92)) hX dX11_pane_42 rfl zf_X11_31 (by decide) zc_0 zs_1 (zrf_of ek93) ?_
    refine zt_astore_n (pc' := 46) (lv' := [some (.ref (X.1.1 + 0)), some (.int (zI r13)), some (.ref (X.1.1 + k92))]) hX dX11_pane_45 rfl hL (by decide) rfl ?_
    refine zt_aload_n (pc' := 47) hX dX11_pane_46 rfl rfl ?_
    refine zt_aload_n (pc' := 48) hX dX11_pane_47 rfl rfl ?_
    obtain ⟨k95, ek96, hk97⟩ := zv_1_4 hI65 zc_0
    refine zt_get (pc' := 51) (v := .ref (X.1.1 + k95)) hX dX11_pane_48 rfl zf_X11_35 (by decide) zc_0 zs_1 (zrf_of ek96) ?_
    refine zt_put (pc' := 54) (x := ((k95 : Nat) : Int)) hX dX11_pane_51 rfl zf_X11_31 (by decide) zc_0 zs_1 (fun q hq => by cases hq; rfl) (zrf_of rfl) rfl rfl ?_
    generalize hs99 : zset s62 0 3 ((k95 : Nat) : Int) = s98
    have hI100 : zInv s98 := hs99 ▸ zp_1_3 hI65 zc_0 ⟨k95, rfl, hk97⟩
    have hF101 : zOn zPb σ s98 := hs99 ▸ zOn_set hF68 rfl
    have e102 : s98 27 7 = s62 27 7 := by rw [← hs99]; exact zset_k (zne_r zc_27 zc_0 (by decide))
    have e103 : s98 0 15 = s62 0 15 := by rw [← hs99]; exact zset_j (by decide)
    have e104 : s98 0 3 = ((k95 : Nat) : Int) := by rw [← hs99]; exact zset_s
    have e105 : s98 0 4 = s62 0 4 := by rw [← hs99]; exact zset_j (by decide)
    have e106 : s98 7 10 = s62 7 10 := by rw [← hs99]; exact zset_k (zne_r zc_7 zc_0 (by decide))
    have e107 : s98 7 11 = s62 7 11 := by rw [← hs99]; exact zset_k (zne_r zc_7 zc_0 (by decide))
    have e108 : s98 7 12 = s62 7 12 := by rw [← hs99]; exact zset_k (zne_r zc_7 zc_0 (by decide))
    have e109 : s98 17 10 = s62 17 10 := by rw [← hs99]; exact zset_k (zne_r zc_17 zc_0 (by decide))
    have e110 : s98 17 11 = s62 17 11 := by rw [← hs99]; exact zset_k (zne_r zc_17 zc_0 (by decide))
    have e111 : s98 17 12 = s62 17 12 := by rw [← hs99]; exact zset_k (zne_r zc_17 zc_0 (by decide))
    have e112 : s98 1 1 = s62 1 1 := by rw [← hs99]; exact zset_k (zne_r zc_1 zc_0 (by decide))
    have ek113 : s98 0 3 = ((k95 : Nat) : Int) := by rw [← hs99]; exact zset_s
    refine zt_aload_n (pc' := 55) hX dX11_pane_54 rfl rfl ?_
    refine zt_aload_n (pc' := 56) hX dX11_pane_55 rfl rfl ?_
    refine zt_put (pc' := 59) (x := ((k92 : Nat) : Int)) hX dX11_pane_56 rfl zf_X11_35 (by decide) zc_0 zs_1 (fun q hq => by cases hq; rfl) (zrf_of rfl) rfl rfl ?_
    generalize hs115 : zset s98 0 4 ((k92 : Nat) : Int) = s114
    have hI116 : zInv s114 := hs115 ▸ zp_1_4 hI100 zc_0 ⟨k92, rfl, hk94⟩
    have hF117 : zOn zPb σ s114 := hs115 ▸ zOn_set hF101 rfl
    have e118 : s114 27 7 = s98 27 7 := by rw [← hs115]; exact zset_k (zne_r zc_27 zc_0 (by decide))
    have e119 : s114 0 15 = s98 0 15 := by rw [← hs115]; exact zset_j (by decide)
    have e120 : s114 0 3 = s98 0 3 := by rw [← hs115]; exact zset_j (by decide)
    have e121 : s114 0 4 = ((k92 : Nat) : Int) := by rw [← hs115]; exact zset_s
    have e122 : s114 7 10 = s98 7 10 := by rw [← hs115]; exact zset_k (zne_r zc_7 zc_0 (by decide))
    have e123 : s114 7 11 = s98 7 11 := by rw [← hs115]; exact zset_k (zne_r zc_7 zc_0 (by decide))
    have e124 : s114 7 12 = s98 7 12 := by rw [← hs115]; exact zset_k (zne_r zc_7 zc_0 (by decide))
    have e125 : s114 17 10 = s98 17 10 := by rw [← hs115]; exact zset_k (zne_r zc_17 zc_0 (by decide))
    have e126 : s114 17 11 = s98 17 11 := by rw [← hs115]; exact zset_k (zne_r zc_17 zc_0 (by decide))
    have e127 : s114 17 12 = s98 17 12 := by rw [← hs115]; exact zset_k (zne_r zc_17 zc_0 (by decide))
    have e128 : s114 1 1 = s98 1 1 := by rw [← hs115]; exact zset_k (zne_r zc_1 zc_0 (by decide))
    have ek129 : s114 0 4 = ((k92 : Nat) : Int) := by rw [← hs115]; exact zset_s
    refine zt_aload_n (pc' := 60) hX dX11_pane_59 rfl rfl ?_
    refine zt_get (pc' := 63) (v := .ref (X.1.1 + 35)) hX dX11_pane_60 rfl zf_X11_66 (by decide) zc_0 zs_1 (zrf_of (zv_1_8 hI116 zc_0)) ?_
    refine zt_aload_n (pc' := 64) hX dX11_pane_63 rfl rfl ?_
    have ek131 : s114 0 3 = ((k95 : Nat) : Int) := by omega
    refine zt_get (pc' := 67) (v := .ref (X.1.1 + k95)) hX dX11_pane_64 rfl zf_X11_31 (by decide) zc_0 zs_1 (zrf_of ek131) ?_
    refine zt_cVv (pc' := 70) hX dX11_pane_67 rfl zm_yX10_begin zw_25_1 zc_35 (by decide) zs_22 (q := (RX10, TX10, 8)) rfl rfl (zc_X10_begin _ _ s114 hI116 35 zc_35 k95 hk97) rfl rfl (Nat.le_of_ble_eq_true rfl) (by decide) (fun r133 s134 hr135 hp136 => ?_)
    obtain ⟨hI137, hF138⟩ := hp136
    have hF139 := zOn_tr hF117 (zOn_be hF138) zi_id
    have b140 := zv_14_7 hI137 zc_27
    have b141 := zv_1_15 hI137 zc_0
    have b142 := zv_1_3 hI137 zc_0
    have b143 := zv_1_4 hI137 zc_0
    have b144 := zv_8_10 hI137 zc_7
    have b145 := zv_8_11 hI137 zc_7
    have b146 := zv_8_12 hI137 zc_7
    have b147 := zv_8_10 hI137 zc_17
    have b148 := zv_8_11 hI137 zc_17
    have b149 := zv_8_12 hI137 zc_17
    have b150 := zv_2_1 hI137 zc_1
    have e151 : s134 0 3 = s114 0 3 := hF138.1.2.1
    have e152 : s134 0 4 = s114 0 4 := hF138.1.2.2.1
    have e153 : s134 7 10 = s114 7 10 := congrFun (hF138.1.1 7 (by decide)) 10
    have e154 : s134 7 11 = s114 7 11 := congrFun (hF138.1.1 7 (by decide)) 11
    have e155 : s134 7 12 = s114 7 12 := congrFun (hF138.1.1 7 (by decide)) 12
    have e156 : s134 17 10 = s114 17 10 := congrFun (hF138.1.1 17 (by decide)) 10
    have e157 : s134 17 11 = s114 17 11 := congrFun (hF138.1.1 17 (by decide)) 11
    have e158 : s134 17 12 = s114 17 12 := congrFun (hF138.1.1 17 (by decide)) 12
    have e159 : s134 1 1 = s114 1 1 := hF138.2
    refine zt_aload_n (pc' := 71) hX dX11_pane_70 rfl rfl ?_
    refine zt_get (pc' := 74) (v := .ref (X.1.1 + 45)) hX dX11_pane_71 rfl zf_X11_76 (by decide) zc_0 zs_1 (zrf_of (zv_1_10 hI137 zc_0)) ?_
    refine zt_iconst (pc' := 75) hX dX11_pane_74 rfl ?_
    refine zt_put (pc' := 78) (x := 0) hX dX11_pane_75 rfl zf_X11_135 (by decide) zc_45 zs_27 (fun q hq => by cases hq; rfl) rfl rfl rfl ?_
    generalize hs161 : zset s134 45 2 0 = s160
    have hI162 : zInv s160 := hs161 ▸ zp_27_2 hI137 zc_45 ⟨by omega, by omega⟩
    have hF163 : zOn zPb σ s160 := hs161 ▸ zOn_set hF139 rfl
    have e164 : s160 27 7 = s134 27 7 := by rw [← hs161]; exact zset_k (zne_r zc_27 zc_45 (by decide))
    have e165 : s160 0 15 = s134 0 15 := by rw [← hs161]; exact zset_k (zne_r zc_0 zc_45 (by decide))
    have e166 : s160 0 3 = s134 0 3 := by rw [← hs161]; exact zset_k (zne_r zc_0 zc_45 (by decide))
    have e167 : s160 0 4 = s134 0 4 := by rw [← hs161]; exact zset_k (zne_r zc_0 zc_45 (by decide))
    have e168 : s160 7 10 = s134 7 10 := by rw [← hs161]; exact zset_k (zne_r zc_7 zc_45 (by decide))
    have e169 : s160 7 11 = s134 7 11 := by rw [← hs161]; exact zset_k (zne_r zc_7 zc_45 (by decide))
    have e170 : s160 7 12 = s134 7 12 := by rw [← hs161]; exact zset_k (zne_r zc_7 zc_45 (by decide))
    have e171 : s160 17 10 = s134 17 10 := by rw [← hs161]; exact zset_k (zne_r zc_17 zc_45 (by decide))
    have e172 : s160 17 11 = s134 17 11 := by rw [← hs161]; exact zset_k (zne_r zc_17 zc_45 (by decide))
    have e173 : s160 17 12 = s134 17 12 := by rw [← hs161]; exact zset_k (zne_r zc_17 zc_45 (by decide))
    have e174 : s160 1 1 = s134 1 1 := by rw [← hs161]; exact zset_k (zne_r zc_1 zc_45 (by decide))
    refine zt_aload_n (pc' := 79) hX dX11_pane_78 rfl rfl ?_
    refine zt_get (pc' := 82) (v := .ref (X.1.1 + 147)) hX dX11_pane_79 rfl zf_X11_83 (by decide) zc_0 zs_1 (zrf_of (zv_1_11 hI162 zc_0)) ?_
    refine zt_iconst (pc' := 83) hX dX11_pane_82 rfl ?_
    refine zt_put (pc' := 86) (x := 0) hX dX11_pane_83 rfl zf_X11_138 (by decide) zc_147 zs_29 (fun q hq => by cases hq; rfl) rfl rfl rfl ?_
    generalize hs176 : zset s160 147 5 0 = s175
    have hI177 : zInv s175 := hs176 ▸ zp_29_5 hI162 zc_147 ⟨by omega, by omega⟩
    have hF178 : zOn zPb σ s175 := hs176 ▸ zOn_set hF163 rfl
    have e179 : s175 27 7 = s160 27 7 := by rw [← hs176]; exact zset_k (zne_r zc_27 zc_147 (by decide))
    have e180 : s175 0 15 = s160 0 15 := by rw [← hs176]; exact zset_k (zne_r zc_0 zc_147 (by decide))
    have e181 : s175 0 3 = s160 0 3 := by rw [← hs176]; exact zset_k (zne_r zc_0 zc_147 (by decide))
    have e182 : s175 0 4 = s160 0 4 := by rw [← hs176]; exact zset_k (zne_r zc_0 zc_147 (by decide))
    have e183 : s175 7 10 = s160 7 10 := by rw [← hs176]; exact zset_k (zne_r zc_7 zc_147 (by decide))
    have e184 : s175 7 11 = s160 7 11 := by rw [← hs176]; exact zset_k (zne_r zc_7 zc_147 (by decide))
    have e185 : s175 7 12 = s160 7 12 := by rw [← hs176]; exact zset_k (zne_r zc_7 zc_147 (by decide))
    have e186 : s175 17 10 = s160 17 10 := by rw [← hs176]; exact zset_k (zne_r zc_17 zc_147 (by decide))
    have e187 : s175 17 11 = s160 17 11 := by rw [← hs176]; exact zset_k (zne_r zc_17 zc_147 (by decide))
    have e188 : s175 17 12 = s160 17 12 := by rw [← hs176]; exact zset_k (zne_r zc_17 zc_147 (by decide))
    have e189 : s175 1 1 = s160 1 1 := by rw [← hs176]; exact zset_k (zne_r zc_1 zc_147 (by decide))
    refine zt_iload_n (pc' := 87) hX dX11_pane_86 rfl rfl ?_
    exact zt_iret hX hR dX11_pane_87 ⟨by omega, by omega⟩ ⟨hI177, hF178, by omega, by omega, by omega, ⟨fun o => (z23 o).2, fun o => absurd (p44 (by omega)) (by rw [o]; decide)⟩, (fun o => ⟨by omega, by omega, yNc_of (z23 o).1 (by omega) ⟨by omega, by omega, by omega⟩⟩), (fun o => absurd (p44 (by omega)) (by rw [o]; decide))⟩
  · refine zt_aload_n (pc' := 36) hX dX11_pane_35 rfl rfl ?_
    refine zt_iconst (pc' := 37) hX dX11_pane_36 rfl ?_
    refine zt_cVi (pc' := 40) hX dX11_pane_37 rfl zm_yX11_refusal zw_14_3 zc_0 (by decide) zs_1 (q := (RX11, TX11, 17)) rfl rfl (zc_X11_refusal _ _ s62 hI65 1 ⟨by omega, by omega⟩) rfl rfl (Nat.le_of_ble_eq_true rfl) (by decide) (fun r190 s191 hr192 hp193 => ?_)
    obtain ⟨hI194, hF195, q196, q197⟩ := hp193
    have hF198 := zOn_tr hF68 (zOn_be hF195) zi_id
    have b199 := zv_14_7 hI194 zc_27
    have b200 := zv_1_15 hI194 zc_0
    have b201 := zv_1_3 hI194 zc_0
    have b202 := zv_1_4 hI194 zc_0
    have b203 := zv_8_10 hI194 zc_7
    have b204 := zv_8_11 hI194 zc_7
    have b205 := zv_8_12 hI194 zc_7
    have b206 := zv_8_10 hI194 zc_17
    have b207 := zv_8_11 hI194 zc_17
    have b208 := zv_8_12 hI194 zc_17
    have b209 := zv_2_1 hI194 zc_1
    have e210 : s191 0 3 = s62 0 3 := hF195.1.2.1
    have e211 : s191 0 4 = s62 0 4 := hF195.1.2.2.1
    have e212 : s191 7 10 = s62 7 10 := congrFun (hF195.1.1 7 (by decide)) 10
    have e213 : s191 7 11 = s62 7 11 := congrFun (hF195.1.1 7 (by decide)) 11
    have e214 : s191 7 12 = s62 7 12 := congrFun (hF195.1.1 7 (by decide)) 12
    have e215 : s191 17 10 = s62 17 10 := congrFun (hF195.1.1 17 (by decide)) 10
    have e216 : s191 17 11 = s62 17 11 := congrFun (hF195.1.1 17 (by decide)) 11
    have e217 : s191 17 12 = s62 17 12 := congrFun (hF195.1.1 17 (by decide)) 12
    have e218 : s191 1 1 = s62 1 1 := hF195.2
    exact zt_iret hX hR dX11_pane_40 ⟨by omega, by omega⟩ ⟨hI194, hF198, by omega, by omega, by omega, ⟨fun o => absurd (p45 (by omega)) (by rw [o]; decide), fun _ => by omega⟩, (fun o => absurd (p45 (by omega)) (by rw [o]; decide)), (fun _ => ⟨by omega, by omega, by omega, by omega, by omega⟩)⟩
set_option maxRecDepth 100000 in
set_option maxHeartbeats 4000000 in
theorem yd_X11_pane_17 (l : Launch) (E : zEN) (σ : zSto) (hI : zInv σ) (hpre0 : σ 0 4 = 17) (hpre1 : σ 0 3 = 7) (hW : yTab σ) : zCt l E yX11_pane cX11_pane 3 (some .int) 38 zNC zNC 0 0 σ [.ref (E.1 + 0)] (fun r σ' => zInv σ' ∧ zOn zPb σ σ' ∧ -1 ≤ r ∧ r ≤ 80 ∧ (σ' 1 1 = 0) ∧ (yAns (yAll (yT σ)) r) ∧ (yPo (yAll (yT σ)).1 = 1 → σ' 0 3 = 17 ∧ σ' 0 4 = 7 ∧ yNc σ' 17 (yAll (yT σ)).2.1) ∧ (yPo (yAll (yT σ)).1 = 0 → σ' 0 3 = σ 0 3 ∧ σ' 0 4 = σ 0 4 ∧ σ' 7 10 = σ 7 10 ∧ σ' 7 11 = σ 7 11 ∧ σ' 7 12 = σ 7 12)) := by
  refine zCt_of2 [some (.ref (E.1 + 0)), none, none] (by decide +kernel) (Nat.le_of_ble_eq_true rfl) rfl ?_
  intro X hE_ hX hR hL hN
  subst hE_
  have hX : zok X cX11_pane RX11 38 := hX
  have hF := zOn_rf zPb σ
  have b1 := zv_14_7 hI zc_27
  have b2 := zv_1_15 hI zc_0
  have b3 := zv_1_3 hI zc_0
  have b4 := zv_1_4 hI zc_0
  have b5 := zv_8_10 hI zc_7
  have b6 := zv_8_11 hI zc_7
  have b7 := zv_8_12 hI zc_7
  have b8 := zv_8_10 hI zc_17
  have b9 := zv_8_11 hI zc_17
  have b10 := zv_8_12 hI zc_17
  have b11 := zv_2_1 hI zc_1
  refine zt_aload_n (pc' := 1) hX dX11_pane_0 rfl rfl ?_
  refine zt_get (pc' := 4) (v := .ref (X.1.1 + 34)) hX dX11_pane_1 rfl zf_X11_59 (by decide) zc_0 zs_1 (zrf_of (zv_1_7 hI zc_0)) ?_
  refine zt_aload_n (pc' := 5) hX dX11_pane_4 rfl rfl ?_
  have ek12 : σ 0 4 = ((17 : Nat) : Int) := by omega
  refine zt_get (pc' := 8) (v := .ref (X.1.1 + 17)) hX dX11_pane_5 rfl zf_X11_35 (by decide) zc_0 zs_1 (zrf_of ek12) ?_
  refine zt_aload_n (pc' := 9) hX dX11_pane_8 rfl rfl ?_
  refine zt_get (pc' := 12) (v := .ref (X.1.1 + 1)) hX dX11_pane_9 rfl zf_X11_14 (by decide) zc_0 zs_1 (zrf_of (zv_1_0 hI zc_0)) ?_
  refine zt_cVi (pc' := 15) hX dX11_pane_12 rfl zm_yX8_readInto zw_15_14 zc_34 (by decide) zs_21 (q := (RX8, TX8, 3)) rfl rfl (yc_X8_readInto_17 _ _ σ hI hW) rfl rfl (Nat.le_of_ble_eq_true rfl) (by decide) (fun r13 s14 hr15 hp16 => ?_)
  obtain ⟨hI17, hF18, q19, q20, z21, z22, z23⟩ := hp16
  have hF24 := zOn_tr hF hF18 zi_t17b
  have b25 := zv_14_7 hI17 zc_27
  have b26 := zv_1_15 hI17 zc_0
  have b27 := zv_1_3 hI17 zc_0
  have b28 := zv_1_4 hI17 zc_0
  have b29 := zv_8_10 hI17 zc_7
  have b30 := zv_8_11 hI17 zc_7
  have b31 := zv_8_12 hI17 zc_7
  have b32 := zv_8_10 hI17 zc_17
  have b33 := zv_8_11 hI17 zc_17
  have b34 := zv_8_12 hI17 zc_17
  have b35 := zv_2_1 hI17 zc_1
  have e36 := hF18 0 15 rfl
  have e37 := hF18 0 3 rfl
  have e38 := hF18 0 4 rfl
  have e39 := hF18 7 10 rfl
  have e40 := hF18 7 11 rfl
  have e41 := hF18 7 12 rfl
  have e42 := hF18 1 1 rfl
  have p43 := yst_po (s := s14)
  rw [z22] at p43 z23
  clear z21 z22
  replace z23 : yIm _ _ := z23
  obtain ⟨p44, p45⟩ := p43
  replace p44 : yIm _ _ := p44
  replace p45 : yIm _ _ := p45
  refine zt_istore_n (pc' := 16) (lv' := [some (.ref (X.1.1 + 0)), some (.int (zI r13)), none]) hX dX11_pane_15 rfl hL (by decide) rfl ?_
  refine zt_aload_n (pc' := 17) hX dX11_pane_16 rfl rfl ?_
  refine zt_get (pc' := 20) (v := .ref (X.1.1 + 1)) hX dX11_pane_17 rfl zf_X11_14 (by decide) zc_0 zs_1 (zrf_of (zv_1_0 hI17 zc_0)) ?_
  refine zt_iconst (pc' := 21) hX dX11_pane_20 rfl ?_
  refine zt_put (pc' := 24) (x := 0) hX dX11_pane_21 rfl zf_X11_110 (by decide) zc_1 zs_2 (fun q hq => by cases hq; rfl) rfl rfl rfl ?_
  generalize hs47 : zset s14 1 1 0 = s46
  have hI48 : zInv s46 := hs47 ▸ zp_2_1 hI17 zc_1 ⟨by omega, by omega⟩
  have hF49 : zOn zPb σ s46 := hs47 ▸ zOn_set hF24 rfl
  have e50 : s46 27 7 = s14 27 7 := by rw [← hs47]; exact zset_k (zne_r zc_27 zc_1 (by decide))
  have e51 : s46 0 15 = s14 0 15 := by rw [← hs47]; exact zset_k (zne_r zc_0 zc_1 (by decide))
  have e52 : s46 0 3 = s14 0 3 := by rw [← hs47]; exact zset_k (zne_r zc_0 zc_1 (by decide))
  have e53 : s46 0 4 = s14 0 4 := by rw [← hs47]; exact zset_k (zne_r zc_0 zc_1 (by decide))
  have e54 : s46 7 10 = s14 7 10 := by rw [← hs47]; exact zset_k (zne_r zc_7 zc_1 (by decide))
  have e55 : s46 7 11 = s14 7 11 := by rw [← hs47]; exact zset_k (zne_r zc_7 zc_1 (by decide))
  have e56 : s46 7 12 = s14 7 12 := by rw [← hs47]; exact zset_k (zne_r zc_7 zc_1 (by decide))
  have e57 : s46 17 10 = s14 17 10 := by rw [← hs47]; exact zset_k (zne_r zc_17 zc_1 (by decide))
  have e58 : s46 17 11 = s14 17 11 := by rw [← hs47]; exact zset_k (zne_r zc_17 zc_1 (by decide))
  have e59 : s46 17 12 = s14 17 12 := by rw [← hs47]; exact zset_k (zne_r zc_17 zc_1 (by decide))
  have e60 : s46 1 1 = 0 := by rw [← hs47]; exact zset_s
  refine zt_aload_n (pc' := 25) hX dX11_pane_24 rfl rfl ?_
  refine zt_cVv (pc' := 28) hX dX11_pane_25 rfl zm_yX11_rememberFault zw_24_19 zc_0 (by decide) zs_1 (q := (RX11, TX11, 17)) rfl rfl (yc_X11_rememberFault _ _ s46 hI48 ) rfl rfl (Nat.le_of_ble_eq_true rfl) (by decide) (fun r61 s62 hr63 hp64 => ?_)
  obtain ⟨hI65, hF66, z67⟩ := hp64
  have hF68 := zOn_tr hF49 hF66 zi_fb
  have b69 := zv_14_7 hI65 zc_27
  have b70 := zv_1_15 hI65 zc_0
  have b71 := zv_1_3 hI65 zc_0
  have b72 := zv_1_4 hI65 zc_0
  have b73 := zv_8_10 hI65 zc_7
  have b74 := zv_8_11 hI65 zc_7
  have b75 := zv_8_12 hI65 zc_7
  have b76 := zv_8_10 hI65 zc_17
  have b77 := zv_8_11 hI65 zc_17
  have b78 := zv_8_12 hI65 zc_17
  have b79 := zv_2_1 hI65 zc_1
  have e80 := hF66 27 7 rfl
  have e81 := hF66 0 3 rfl
  have e82 := hF66 0 4 rfl
  have e83 := hF66 7 10 rfl
  have e84 := hF66 7 11 rfl
  have e85 := hF66 7 12 rfl
  have e86 := hF66 17 10 rfl
  have e87 := hF66 17 11 rfl
  have e88 := hF66 17 12 rfl
  have e89 := hF66 1 1 rfl
  refine zt_aload_n (pc' := 29) hX dX11_pane_28 rfl rfl ?_
  have b90 := zv_1_15 hI65 zc_0
  refine zt_get (pc' := 32) (v := .int (zI (s62 0 15))) hX dX11_pane_29 rfl zf_X11_104 (by decide) zc_0 zs_1 rfl ?_
  refine zt_ifeq (pc' := 35) (tgt := 41) hX dX11_pane_32 rfl (by decide) ⟨by omega, by omega⟩ (fun c91 => ?_) (fun c91 => ?_)
  · refine zt_aload_n (pc' := 42) hX dX11_pane_41 rfl rfl ?_
    obtain ⟨k92, ek93, hk94⟩ := zv_1_3 hI65 zc_0
    refine zt_get (pc' := 45) (v := .ref (X.1.1 + k92)) hX dX11_pane_42 rfl zf_X11_31 (by decide) zc_0 zs_1 (zrf_of ek93) ?_
    refine zt_astore_n (pc' := 46) (lv' := [some (.ref (X.1.1 + 0)), some (.int (zI r13)), some (.ref (X.1.1 + k92))]) hX dX11_pane_45 rfl hL (by decide) rfl ?_
    refine zt_aload_n (pc' := 47) hX dX11_pane_46 rfl rfl ?_
    refine zt_aload_n (pc' := 48) hX dX11_pane_47 rfl rfl ?_
    obtain ⟨k95, ek96, hk97⟩ := zv_1_4 hI65 zc_0
    refine zt_get (pc' := 51) (v := .ref (X.1.1 + k95)) hX dX11_pane_48 rfl zf_X11_35 (by decide) zc_0 zs_1 (zrf_of ek96) ?_
    refine zt_put (pc' := 54) (x := ((k95 : Nat) : Int)) hX dX11_pane_51 rfl zf_X11_31 (by decide) zc_0 zs_1 (fun q hq => by cases hq; rfl) (zrf_of rfl) rfl rfl ?_
    generalize hs99 : zset s62 0 3 ((k95 : Nat) : Int) = s98
    have hI100 : zInv s98 := hs99 ▸ zp_1_3 hI65 zc_0 ⟨k95, rfl, hk97⟩
    have hF101 : zOn zPb σ s98 := hs99 ▸ zOn_set hF68 rfl
    have e102 : s98 27 7 = s62 27 7 := by rw [← hs99]; exact zset_k (zne_r zc_27 zc_0 (by decide))
    have e103 : s98 0 15 = s62 0 15 := by rw [← hs99]; exact zset_j (by decide)
    have e104 : s98 0 3 = ((k95 : Nat) : Int) := by rw [← hs99]; exact zset_s
    have e105 : s98 0 4 = s62 0 4 := by rw [← hs99]; exact zset_j (by decide)
    have e106 : s98 7 10 = s62 7 10 := by rw [← hs99]; exact zset_k (zne_r zc_7 zc_0 (by decide))
    have e107 : s98 7 11 = s62 7 11 := by rw [← hs99]; exact zset_k (zne_r zc_7 zc_0 (by decide))
    have e108 : s98 7 12 = s62 7 12 := by rw [← hs99]; exact zset_k (zne_r zc_7 zc_0 (by decide))
    have e109 : s98 17 10 = s62 17 10 := by rw [← hs99]; exact zset_k (zne_r zc_17 zc_0 (by decide))
    have e110 : s98 17 11 = s62 17 11 := by rw [← hs99]; exact zset_k (zne_r zc_17 zc_0 (by decide))
    have e111 : s98 17 12 = s62 17 12 := by rw [← hs99]; exact zset_k (zne_r zc_17 zc_0 (by decide))
    have e112 : s98 1 1 = s62 1 1 := by rw [← hs99]; exact zset_k (zne_r zc_1 zc_0 (by decide))
    have ek113 : s98 0 3 = ((k95 : Nat) : Int) := by rw [← hs99]; exact zset_s
    refine zt_aload_n (pc' := 55) hX dX11_pane_54 rfl rfl ?_
    refine zt_aload_n (pc' := 56) hX dX11_pane_55 rfl rfl ?_
    refine zt_put (pc' := 59) (x := ((k92 : Nat) : Int)) hX dX11_pane_56 rfl zf_X11_35 (by decide) zc_0 zs_1 (fun q hq => by cases hq; rfl) (zrf_of rfl) rfl rfl ?_
    generalize hs115 : zset s98 0 4 ((k92 : Nat) : Int) = s114
    have hI116 : zInv s114 := hs115 ▸ zp_1_4 hI100 zc_0 ⟨k92, rfl, hk94⟩
    have hF117 : zOn zPb σ s114 := hs115 ▸ zOn_set hF101 rfl
    have e118 : s114 27 7 = s98 27 7 := by rw [← hs115]; exact zset_k (zne_r zc_27 zc_0 (by decide))
    have e119 : s114 0 15 = s98 0 15 := by rw [← hs115]; exact zset_j (by decide)
    have e120 : s114 0 3 = s98 0 3 := by rw [← hs115]; exact zset_j (by decide)
    have e121 : s114 0 4 = ((k92 : Nat) : Int) := by rw [← hs115]; exact zset_s
    have e122 : s114 7 10 = s98 7 10 := by rw [← hs115]; exact zset_k (zne_r zc_7 zc_0 (by decide))
    have e123 : s114 7 11 = s98 7 11 := by rw [← hs115]; exact zset_k (zne_r zc_7 zc_0 (by decide))
    have e124 : s114 7 12 = s98 7 12 := by rw [← hs115]; exact zset_k (zne_r zc_7 zc_0 (by decide))
    have e125 : s114 17 10 = s98 17 10 := by rw [← hs115]; exact zset_k (zne_r zc_17 zc_0 (by decide))
    have e126 : s114 17 11 = s98 17 11 := by rw [← hs115]; exact zset_k (zne_r zc_17 zc_0 (by decide))
    have e127 : s114 17 12 = s98 17 12 := by rw [← hs115]; exact zset_k (zne_r zc_17 zc_0 (by decide))
    have e128 : s114 1 1 = s98 1 1 := by rw [← hs115]; exact zset_k (zne_r zc_1 zc_0 (by decide))
    have ek129 : s114 0 4 = ((k92 : Nat) : Int) := by rw [← hs115]; exact zset_s
    refine zt_aload_n (pc' := 60) hX dX11_pane_59 rfl rfl ?_
    refine zt_get (pc' := 63) (v := .ref (X.1.1 + 35)) hX dX11_pane_60 rfl zf_X11_66 (by decide) zc_0 zs_1 (zrf_of (zv_1_8 hI116 zc_0)) ?_
    refine zt_aload_n (pc' := 64) hX dX11_pane_63 rfl rfl ?_
    have ek131 : s114 0 3 = ((k95 : Nat) : Int) := by omega
    refine zt_get (pc' := 67) (v := .ref (X.1.1 + k95)) hX dX11_pane_64 rfl zf_X11_31 (by decide) zc_0 zs_1 (zrf_of ek131) ?_
    refine zt_cVv (pc' := 70) hX dX11_pane_67 rfl zm_yX10_begin zw_25_1 zc_35 (by decide) zs_22 (q := (RX10, TX10, 8)) rfl rfl (zc_X10_begin _ _ s114 hI116 35 zc_35 k95 hk97) rfl rfl (Nat.le_of_ble_eq_true rfl) (by decide) (fun r133 s134 hr135 hp136 => ?_)
    obtain ⟨hI137, hF138⟩ := hp136
    have hF139 := zOn_tr hF117 (zOn_be hF138) zi_id
    have b140 := zv_14_7 hI137 zc_27
    have b141 := zv_1_15 hI137 zc_0
    have b142 := zv_1_3 hI137 zc_0
    have b143 := zv_1_4 hI137 zc_0
    have b144 := zv_8_10 hI137 zc_7
    have b145 := zv_8_11 hI137 zc_7
    have b146 := zv_8_12 hI137 zc_7
    have b147 := zv_8_10 hI137 zc_17
    have b148 := zv_8_11 hI137 zc_17
    have b149 := zv_8_12 hI137 zc_17
    have b150 := zv_2_1 hI137 zc_1
    have e151 : s134 0 3 = s114 0 3 := hF138.1.2.1
    have e152 : s134 0 4 = s114 0 4 := hF138.1.2.2.1
    have e153 : s134 7 10 = s114 7 10 := congrFun (hF138.1.1 7 (by decide)) 10
    have e154 : s134 7 11 = s114 7 11 := congrFun (hF138.1.1 7 (by decide)) 11
    have e155 : s134 7 12 = s114 7 12 := congrFun (hF138.1.1 7 (by decide)) 12
    have e156 : s134 17 10 = s114 17 10 := congrFun (hF138.1.1 17 (by decide)) 10
    have e157 : s134 17 11 = s114 17 11 := congrFun (hF138.1.1 17 (by decide)) 11
    have e158 : s134 17 12 = s114 17 12 := congrFun (hF138.1.1 17 (by decide)) 12
    have e159 : s134 1 1 = s114 1 1 := hF138.2
    refine zt_aload_n (pc' := 71) hX dX11_pane_70 rfl rfl ?_
    refine zt_get (pc' := 74) (v := .ref (X.1.1 + 45)) hX dX11_pane_71 rfl zf_X11_76 (by decide) zc_0 zs_1 (zrf_of (zv_1_10 hI137 zc_0)) ?_
    refine zt_iconst (pc' := 75) hX dX11_pane_74 rfl ?_
    refine zt_put (pc' := 78) (x := 0) hX dX11_pane_75 rfl zf_X11_135 (by decide) zc_45 zs_27 (fun q hq => by cases hq; rfl) rfl rfl rfl ?_
    generalize hs161 : zset s134 45 2 0 = s160
    have hI162 : zInv s160 := hs161 ▸ zp_27_2 hI137 zc_45 ⟨by omega, by omega⟩
    have hF163 : zOn zPb σ s160 := hs161 ▸ zOn_set hF139 rfl
    have e164 : s160 27 7 = s134 27 7 := by rw [← hs161]; exact zset_k (zne_r zc_27 zc_45 (by decide))
    have e165 : s160 0 15 = s134 0 15 := by rw [← hs161]; exact zset_k (zne_r zc_0 zc_45 (by decide))
    have e166 : s160 0 3 = s134 0 3 := by rw [← hs161]; exact zset_k (zne_r zc_0 zc_45 (by decide))
    have e167 : s160 0 4 = s134 0 4 := by rw [← hs161]; exact zset_k (zne_r zc_0 zc_45 (by decide))
    have e168 : s160 7 10 = s134 7 10 := by rw [← hs161]; exact zset_k (zne_r zc_7 zc_45 (by decide))
    have e169 : s160 7 11 = s134 7 11 := by rw [← hs161]; exact zset_k (zne_r zc_7 zc_45 (by decide))
    have e170 : s160 7 12 = s134 7 12 := by rw [← hs161]; exact zset_k (zne_r zc_7 zc_45 (by decide))
    have e171 : s160 17 10 = s134 17 10 := by rw [← hs161]; exact zset_k (zne_r zc_17 zc_45 (by decide))
    have e172 : s160 17 11 = s134 17 11 := by rw [← hs161]; exact zset_k (zne_r zc_17 zc_45 (by decide))
    have e173 : s160 17 12 = s134 17 12 := by rw [← hs161]; exact zset_k (zne_r zc_17 zc_45 (by decide))
    have e174 : s160 1 1 = s134 1 1 := by rw [← hs161]; exact zset_k (zne_r zc_1 zc_45 (by decide))
    refine zt_aload_n (pc' := 79) hX dX11_pane_78 rfl rfl ?_
    refine zt_get (pc' := 82) (v := .ref (X.1.1 + 147)) hX dX11_pane_79 rfl zf_X11_83 (by decide) zc_0 zs_1 (zrf_of (zv_1_11 hI162 zc_0)) ?_
    refine zt_iconst (pc' := 83) hX dX11_pane_82 rfl ?_
    refine zt_put (pc' := 86) (x := 0) hX dX11_pane_83 rfl zf_X11_138 (by decide) zc_147 zs_29 (fun q hq => by cases hq; rfl) rfl rfl rfl ?_
    generalize hs176 : zset s160 147 5 0 = s175
    have hI177 : zInv s175 := hs176 ▸ zp_29_5 hI162 zc_147 ⟨by omega, by omega⟩
    have hF178 : zOn zPb σ s175 := hs176 ▸ zOn_set hF163 rfl
    have e179 : s175 27 7 = s160 27 7 := by rw [← hs176]; exact zset_k (zne_r zc_27 zc_147 (by decide))
    have e180 : s175 0 15 = s160 0 15 := by rw [← hs176]; exact zset_k (zne_r zc_0 zc_147 (by decide))
    have e181 : s175 0 3 = s160 0 3 := by rw [← hs176]; exact zset_k (zne_r zc_0 zc_147 (by decide))
    have e182 : s175 0 4 = s160 0 4 := by rw [← hs176]; exact zset_k (zne_r zc_0 zc_147 (by decide))
    have e183 : s175 7 10 = s160 7 10 := by rw [← hs176]; exact zset_k (zne_r zc_7 zc_147 (by decide))
    have e184 : s175 7 11 = s160 7 11 := by rw [← hs176]; exact zset_k (zne_r zc_7 zc_147 (by decide))
    have e185 : s175 7 12 = s160 7 12 := by rw [← hs176]; exact zset_k (zne_r zc_7 zc_147 (by decide))
    have e186 : s175 17 10 = s160 17 10 := by rw [← hs176]; exact zset_k (zne_r zc_17 zc_147 (by decide))
    have e187 : s175 17 11 = s160 17 11 := by rw [← hs176]; exact zset_k (zne_r zc_17 zc_147 (by decide))
    have e188 : s175 17 12 = s160 17 12 := by rw [← hs176]; exact zset_k (zne_r zc_17 zc_147 (by decide))
    have e189 : s175 1 1 = s160 1 1 := by rw [← hs176]; exact zset_k (zne_r zc_1 zc_147 (by decide))
    refine zt_iload_n (pc' := 87) hX dX11_pane_86 rfl rfl ?_
    exact zt_iret hX hR dX11_pane_87 ⟨by omega, by omega⟩ ⟨hI177, hF178, by omega, by omega, by omega, ⟨fun o => (z23 o).2, fun o => absurd (p44 (by omega)) (by rw [o]; decide)⟩, (fun o => ⟨by omega, by omega, yNc_of (z23 o).1 (by omega) ⟨by omega, by omega, by omega⟩⟩), (fun o => absurd (p44 (by omega)) (by rw [o]; decide))⟩
  · refine zt_aload_n (pc' := 36) hX dX11_pane_35 rfl rfl ?_
    refine zt_iconst (pc' := 37) hX dX11_pane_36 rfl ?_
    refine zt_cVi (pc' := 40) hX dX11_pane_37 rfl zm_yX11_refusal zw_14_3 zc_0 (by decide) zs_1 (q := (RX11, TX11, 17)) rfl rfl (zc_X11_refusal _ _ s62 hI65 1 ⟨by omega, by omega⟩) rfl rfl (Nat.le_of_ble_eq_true rfl) (by decide) (fun r190 s191 hr192 hp193 => ?_)
    obtain ⟨hI194, hF195, q196, q197⟩ := hp193
    have hF198 := zOn_tr hF68 (zOn_be hF195) zi_id
    have b199 := zv_14_7 hI194 zc_27
    have b200 := zv_1_15 hI194 zc_0
    have b201 := zv_1_3 hI194 zc_0
    have b202 := zv_1_4 hI194 zc_0
    have b203 := zv_8_10 hI194 zc_7
    have b204 := zv_8_11 hI194 zc_7
    have b205 := zv_8_12 hI194 zc_7
    have b206 := zv_8_10 hI194 zc_17
    have b207 := zv_8_11 hI194 zc_17
    have b208 := zv_8_12 hI194 zc_17
    have b209 := zv_2_1 hI194 zc_1
    have e210 : s191 0 3 = s62 0 3 := hF195.1.2.1
    have e211 : s191 0 4 = s62 0 4 := hF195.1.2.2.1
    have e212 : s191 7 10 = s62 7 10 := congrFun (hF195.1.1 7 (by decide)) 10
    have e213 : s191 7 11 = s62 7 11 := congrFun (hF195.1.1 7 (by decide)) 11
    have e214 : s191 7 12 = s62 7 12 := congrFun (hF195.1.1 7 (by decide)) 12
    have e215 : s191 17 10 = s62 17 10 := congrFun (hF195.1.1 17 (by decide)) 10
    have e216 : s191 17 11 = s62 17 11 := congrFun (hF195.1.1 17 (by decide)) 11
    have e217 : s191 17 12 = s62 17 12 := congrFun (hF195.1.1 17 (by decide)) 12
    have e218 : s191 1 1 = s62 1 1 := hF195.2
    exact zt_iret hX hR dX11_pane_40 ⟨by omega, by omega⟩ ⟨hI194, hF198, by omega, by omega, by omega, ⟨fun o => absurd (p45 (by omega)) (by rw [o]; decide), fun _ => by omega⟩, (fun o => absurd (p45 (by omega)) (by rw [o]; decide)), (fun _ => ⟨by omega, by omega, by omega, by omega, by omega⟩)⟩
