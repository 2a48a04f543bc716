set_option maxRecDepth 100000 in
set_option maxHeartbeats 4000000 in
theorem yc_X11_rememberFault (l : Launch) (E : zEN) (σ : zSto) (hI : zInv σ)  : zCt l E yX11_rememberFault cX11_rememberFault 1 none 0 zNC zNC 0 0 σ [.ref (E.1 + 0)] (fun r σ' => zInv σ' ∧ zOn zRf σ σ' ∧ (σ' 0 15 = σ 27 7 ∧ σ' 0 16 = σ 27 8)) := by
  refine zCt_of2 [some (.ref (E.1 + 0))] (by decide +kernel) (Nat.le_of_ble_eq_true rfl) rfl ?_
  intro X hE_ hX hR hL hN
  subst hE_
  have hX : zok X cX11_rememberFault RX11 0 := hX
  have hF := zOn_rf zRf σ
  have b1 := zv_14_7 hI zc_27
  have b2 := zv_14_8 hI zc_27
  have b3 := zv_1_15 hI zc_0
  have b4 := zv_1_16 hI zc_0
  refine zt_aload_n (pc' := 1) hX dX11_rememberFault_0 rfl rfl ?_
  refine zt_aload_n (pc' := 2) hX dX11_rememberFault_1 rfl rfl ?_
  refine zt_get (pc' := 5) (v := .ref (X.1.1 + 27)) hX dX11_rememberFault_2 rfl zf_X11_41 (by decide) zc_0 zs_1 (zrf_of (zv_1_5 hI zc_0)) ?_
  have b5 := zv_14_7 hI zc_27
  refine zt_get (pc' := 8) (v := .int (zI (σ 27 7))) hX dX11_rememberFault_5 rfl zf_X11_369 (by decide) zc_27 zs_14 rfl ?_
  refine zt_put (pc' := 11) (x := (σ 27 7)) hX dX11_rememberFault_8 rfl zf_X11_104 (by decide) zc_0 zs_1 (fun q hq => by cases hq; rfl) rfl rfl rfl ?_
  generalize hs7 : zset σ 0 15 (σ 27 7) = s6
  have hI8 : zInv s6 := hs7 ▸ zp_1_15 hI zc_0 ⟨by omega, by omega⟩
  have hF9 : zOn zRf σ s6 := hs7 ▸ zOn_set hF (by decide)
  have e10 : s6 27 7 = σ 27 7 := by rw [← hs7]; exact zset_k (zne_r zc_27 zc_0 (by decide))
  have e11 : s6 27 8 = σ 27 8 := by rw [← hs7]; exact zset_k (zne_r zc_27 zc_0 (by decide))
  have e12 : s6 0 15 = (σ 27 7) := by rw [← hs7]; exact zset_s
  have e13 : s6 0 16 = σ 0 16 := by rw [← hs7]; exact zset_j (by decide)
  refine zt_aload_n (pc' := 12) hX dX11_rememberFault_11 rfl rfl ?_
  refine zt_aload_n (pc' := 13) hX dX11_rememberFault_12 rfl rfl ?_
  refine zt_get (pc' := 16) (v := .ref (X.1.1 + 27)) hX dX11_rememberFault_13 rfl zf_X11_41 (by decide) zc_0 zs_1 (zrf_of (zv_1_5 hI8 zc_0)) ?_
  have b14 := zv_14_8 hI8 zc_27
  refine zt_get (pc' := 19) (v := .int (zI (s6 27 8))) hX dX11_rememberFault_16 rfl zf_X11_372 (by decide) zc_27 zs_14 rfl ?_
  refine zt_put (pc' := 22) (x := (s6 27 8)) hX dX11_rememberFault_19 rfl zf_X11_107 (by decide) zc_0 zs_1 (fun q hq => by cases hq; rfl) rfl rfl rfl ?_
  generalize hs16 : zset s6 0 16 (s6 27 8) = s15
  have hI17 : zInv s15 := hs16 ▸ zp_1_16 hI8 zc_0 ⟨by omega, by omega⟩
  have hF18 : zOn zRf σ s15 := hs16 ▸ zOn_set hF9 (by decide)
  have e19 : s15 27 7 = s6 27 7 := by rw [← hs16]; exact zset_k (zne_r zc_27 zc_0 (by decide))
  have e20 : s15 27 8 = s6 27 8 := by rw [← hs16]; exact zset_k (zne_r zc_27 zc_0 (by decide))
  have e21 : s15 0 15 = s6 0 15 := by rw [← hs16]; exact zset_j (by decide)
  have e22 : s15 0 16 = (s6 27 8) := by rw [← hs16]; exact zset_s
  exact zt_vret hX hR dX11_rememberFault_22 ⟨hI17, hF18, by omega⟩
set_option maxRecDepth 100000 in
set_option maxHeartbeats 4000000 in
theorem yd_X11_pane_7 (l : Launch) (E : zEN) (σ : zSto) (hI : zInv σ) (hpre0 : σ 0 4 = 7) (hpre1 : σ 0 3 = 17) (hW : yTab σ) : zCt l E yX11_pane cX11_pane 3 (some .int) 38 zNC zNC 0 0 σ [.ref (E.1 + 0)] (fun r σ' => zInv σ' ∧ zOn zPb σ σ' ∧ -1 ≤ r ∧ r ≤ 80 ∧ (σ' 1 1 = 0) ∧ (yAns (yAll (yT σ)) r) ∧ (yPo (yAll (yT σ)).1 = 1 → σ' 0 3 = 7 ∧ σ' 0 4 = 17 ∧ yNc σ' 7 (yAll (yT σ)).2.1) ∧ (yPo (yAll (yT σ)).1 = 0 → σ' 0 3 = σ 0 3 ∧ σ' 0 4 = σ 0 4 ∧ σ' 17 10 = σ 17 10 ∧ σ' 17 11 = σ 17 11 ∧ σ' 17 12 = σ 17 12) ∧ (yPo (yAll (yT σ)).1 = 1 → yNn σ' 7 (yAll (yT σ)).2.1) ∧ (yPo (yAll (yT σ)).1 = 0 → ∀ i : Nat, σ' 19 i = σ 19 i)) := by
  refine zCt_of2 [some (.ref (E.1 + 0)), none, none] (by decide +kernel) (Nat.le_of_ble_eq_true rfl) rfl ?_
  intro X hE_ hX hR hL hN
  subst hE_
  have hX : zok X cX11_pane RX11 38 := hX
  have hF := zOn_rf zPb σ
  have b1 := zv_14_7 hI zc_27
  have b2 := zv_1_15 hI zc_0
  have b3 := zv_1_3 hI zc_0
  have b4 := zv_1_4 hI zc_0
  have b5 := zv_8_10 hI zc_7
  have b6 := zv_8_11 hI zc_7
  have b7 := zv_8_12 hI zc_7
  have b8 := zv_8_10 hI zc_17
  have b9 := zv_8_11 hI zc_17
  have b10 := zv_8_12 hI zc_17
  have b11 := zv_2_1 hI zc_1
  refine zt_aload_n (pc' := 1) hX dX11_pane_0 rfl rfl ?_
  refine zt_get (pc' := 4) (v := .ref (X.1.1 + 34)) hX dX11_pane_1 rfl zf_X11_59 (by decide) zc_0 zs_1 (zrf_of (zv_1_7 hI zc_0)) ?_
  refine zt_aload_n (pc' := 5) hX dX11_pane_4 rfl rfl ?_
  have ek12 : σ 0 4 = ((7 : Nat) : Int) := by omega
  refine zt_get (pc' := 8) (v := .ref (X.1.1 + 7)) hX dX11_pane_5 rfl zf_X11_35 (by decide) zc_0 zs_1 (zrf_of ek12) ?_
  refine zt_aload_n (pc' := 9) hX dX11_pane_8 rfl rfl ?_
  refine zt_get (pc' := 12) (v := .ref (X.1.1 + 1)) hX dX11_pane_9 rfl zf_X11_14 (by decide) zc_0 zs_1 (zrf_of (zv_1_0 hI zc_0)) ?_
  refine zt_cVi (pc' := 15) hX dX11_pane_12 rfl zm_yX8_readInto zw_15_14 zc_34 (by decide) zs_21 (q := (RX8, TX8, 3)) rfl rfl (yc_X8_readInto_7 _ _ σ hI hW) rfl rfl (Nat.le_of_ble_eq_true rfl) (by decide) (fun r13 s14 hr15 hp16 => ?_)
  obtain ⟨hI17, hF18, q19, q20, z21, z22, z23⟩ := hp16
  have hF24 := zOn_tr hF hF18 zi_t7b
  have b25 := zv_14_7 hI17 zc_27
  have b26 := zv_1_15 hI17 zc_0
  have b27 := zv_1_3 hI17 zc_0
  have b28 := zv_1_4 hI17 zc_0
  have b29 := zv_8_10 hI17 zc_7
  have b30 := zv_8_11 hI17 zc_7
  have b31 := zv_8_12 hI17 zc_7
  have b32 := zv_8_10 hI17 zc_17
  have b33 := zv_8_11 hI17 zc_17
  have b34 := zv_8_12 hI17 zc_17
  have b35 := zv_2_1 hI17 zc_1
  have e36 := hF18 0 15 rfl
  have e37 := hF18 0 3 rfl
  have e38 := hF18 0 4 rfl
  have e39 := hF18 17 10 rfl
  have e40 := hF18 17 11 rfl
  have e41 := hF18 17 12 rfl
  have e42 := hF18 1 1 rfl
  have p43 := yst_po (s := s14)
  rw [z22] at p43 z23
  clear z21 z22
  replace z23 : yIm _ _ := z23
  obtain ⟨p44, p45⟩ := p43
  replace p44 : yIm _ _ := p44
  replace p45 : yIm _ _ := p45
  have nm46 : ∀ i : Nat, s14 19 i = σ 19 i := fun i => (hF18 19 i rfl).trans ((fun _ => rfl) i)
  refine zt_istore_n (pc' := 16) (lv' := [some (.ref (X.1.1 + 0)), some (.int (zI r13)), none]) hX dX11_pane_15 rfl hL (by decide) rfl ?_
  refine zt_aload_n (pc' := 17) hX dX11_pane_16 rfl rfl ?_
  refine zt_get (pc' := 20) (v := .ref (X.1.1 + 1)) hX dX11_pane_17 rfl zf_X11_14 (by decide) zc_0 zs_1 (zrf_of (zv_1_0 hI17 zc_0)) ?_
  refine zt_iconst (pc' := 21) hX dX11_pane_20 rfl ?_
  refine zt_put (pc' := 24) (x := 0) hX dX11_pane_21 rfl zf_X11_110 (by decide) zc_1 zs_2 (fun q hq => by cases hq; rfl) rfl rfl rfl ?_
  generalize hs48 : zset s14 1 1 0 = s47
  have hI49 : zInv s47 := hs48 ▸ zp_2_1 hI17 zc_1 ⟨by omega, by omega⟩
  have hF50 : zOn zPb σ s47 := hs48 ▸ zOn_set hF24 rfl
  have e51 : s47 27 7 = s14 27 7 := by rw [← hs48]; exact zset_k (zne_r zc_27 zc_1 (by decide))
  have e52 : s47 0 15 = s14 0 15 := by rw [← hs48]; exact zset_k (zne_r zc_0 zc_1 (by decide))
  have e53 : s47 0 3 = s14 0 3 := by rw [← hs48]; exact zset_k (zne_r zc_0 zc_1 (by decide))
  have e54 : s47 0 4 = s14 0 4 := by rw [← hs48]; exact zset_k (zne_r zc_0 zc_1 (by decide))
  have e55 : s47 7 10 = s14 7 10 := by rw [← hs48]; exact zset_k (zne_r zc_7 zc_1 (by decide))
  have e56 : s47 7 11 = s14 7 11 := by rw [← hs48]; exact zset_k (zne_r zc_7 zc_1 (by decide))
  have e57 : s47 7 12 = s14 7 12 := by rw [← hs48]; exact zset_k (zne_r zc_7 zc_1 (by decide))
  have e58 : s47 17 10 = s14 17 10 := by rw [← hs48]; exact zset_k (zne_r zc_17 zc_1 (by decide))
  have e59 : s47 17 11 = s14 17 11 := by rw [← hs48]; exact zset_k (zne_r zc_17 zc_1 (by decide))
  have e60 : s47 17 12 = s14 17 12 := by rw [← hs48]; exact zset_k (zne_r zc_17 zc_1 (by decide))
  have e61 : s47 1 1 = 0 := by rw [← hs48]; exact zset_s
  have nm62 : ∀ i : Nat, s47 9 i = s14 9 i := fun i => (show s47 9 i = s14 9 i by rw [← hs48]; exact zset_k (by decide)).trans ((fun _ => rfl) i)
  have nm63 : ∀ i : Nat, s47 19 i = σ 19 i := fun i => (show s47 19 i = s14 19 i by rw [← hs48]; exact zset_k (by decide)).trans (nm46 i)
  refine zt_aload_n (pc' := 25) hX dX11_pane_24 rfl rfl ?_
  refine zt_cVv (pc' := 28) hX dX11_pane_25 rfl zm_yX11_rememberFault zw_24_19 zc_0 (by decide) zs_1 (q := (RX11, TX11, 17)) rfl rfl (yc_X11_rememberFault _ _ s47 hI49 ) rfl rfl (Nat.le_of_ble_eq_true rfl) (by decide) (fun r64 s65 hr66 hp67 => ?_)
  obtain ⟨hI68, hF69, z70⟩ := hp67
  have hF71 := zOn_tr hF50 hF69 zi_fb
  have b72 := zv_14_7 hI68 zc_27
  have b73 := zv_1_15 hI68 zc_0
  have b74 := zv_1_3 hI68 zc_0
  have b75 := zv_1_4 hI68 zc_0
  have b76 := zv_8_10 hI68 zc_7
  have b77 := zv_8_11 hI68 zc_7
  have b78 := zv_8_12 hI68 zc_7
  have b79 := zv_8_10 hI68 zc_17
  have b80 := zv_8_11 hI68 zc_17
  have b81 := zv_8_12 hI68 zc_17
  have b82 := zv_2_1 hI68 zc_1
  have e83 := hF69 27 7 rfl
  have e84 := hF69 0 3 rfl
  have e85 := hF69 0 4 rfl
  have e86 := hF69 7 10 rfl
  have e87 := hF69 7 11 rfl
  have e88 := hF69 7 12 rfl
  have e89 := hF69 17 10 rfl
  have e90 := hF69 17 11 rfl
  have e91 := hF69 17 12 rfl
  have e92 := hF69 1 1 rfl
  have nm93 : ∀ i : Nat, s65 9 i = s14 9 i := fun i => (hF69 9 i rfl).trans (nm62 i)
  have nm94 : ∀ i : Nat, s65 19 i = σ 19 i := fun i => (hF69 19 i rfl).trans (nm63 i)
  refine zt_aload_n (pc' := 29) hX dX11_pane_28 rfl rfl ?_
  have b95 := zv_1_15 hI68 zc_0
  refine zt_get (pc' := 32) (v := .int (zI (s65 0 15))) hX dX11_pane_29 rfl zf_X11_104 (by decide) zc_0 zs_1 rfl ?_
  refine zt_ifeq (pc' := 35) (tgt := 41) hX dX11_pane_32 rfl (by decide) ⟨by omega, by omega⟩ (fun c96 => ?_) (fun c96 => ?_)
  · refine zt_aload_n (pc' := 42) hX dX11_pane_41 rfl rfl ?_
    obtain ⟨k97, ek98, hk99⟩ := zv_1_3 hI68 zc_0
    refine zt_get (pc' := 45) (v := .ref (X.1.1 + k97)) hX dX11_pane_42 rfl zf_X11_31 (by decide) zc_0 zs_1 (zrf_of ek98) ?_
    refine zt_astore_n (pc' := 46) (lv' := [some (.ref (X.1.1 + 0)), some (.int (zI r13)), some (.ref (X.1.1 + k97))]) hX dX11_pane_45 rfl hL (by decide) rfl ?_
    refine zt_aload_n (pc' := 47) hX dX11_pane_46 rfl rfl ?_
    refine zt_aload_n (pc' := 48) hX dX11_pane_47 rfl rfl ?_
    obtain ⟨k100, ek101, hk102⟩ := zv_1_4 hI68 zc_0
    refine zt_get (pc' := 51) (v := .ref (X.1.1 + k100)) hX dX11_pane_48 rfl zf_X11_35 (by decide) zc_0 zs_1 (zrf_of ek101) ?_
    refine zt_put (pc' := 54) (x := ((k100 : Nat) : Int)) hX dX11_pane_51 rfl zf_X11_31 (by decide) zc_0 zs_1 (fun q hq => by cases hq; rfl) (zrf_of rfl) rfl rfl ?_
    generalize hs104 : zset s65 0 3 ((k100 : Nat) : Int) = s103
    have hI105 : zInv s103 := hs104 ▸ zp_1_3 hI68 zc_0 ⟨k100, rfl, hk102⟩
    have hF106 : zOn zPb σ s103 := hs104 ▸ zOn_set hF71 rfl
    have e107 : s103 27 7 = s65 27 7 := by rw [← hs104]; exact zset_k (zne_r zc_27 zc_0 (by decide))
    have e108 : s103 0 15 = s65 0 15 := by rw [← hs104]; exact zset_j (by decide)
    have e109 : s103 0 3 = ((k100 : Nat) : Int) := by rw [← hs104]; exact zset_s
    have e110 : s103 0 4 = s65 0 4 := by rw [← hs104]; exact zset_j (by decide)
    have e111 : s103 7 10 = s65 7 10 := by rw [← hs104]; exact zset_k (zne_r zc_7 zc_0 (by decide))
    have e112 : s103 7 11 = s65 7 11 := by rw [← hs104]; exact zset_k (zne_r zc_7 zc_0 (by decide))
    have e113 : s103 7 12 = s65 7 12 := by rw [← hs104]; exact zset_k (zne_r zc_7 zc_0 (by decide))
    have e114 : s103 17 10 = s65 17 10 := by rw [← hs104]; exact zset_k (zne_r zc_17 zc_0 (by decide))
    have e115 : s103 17 11 = s65 17 11 := by rw [← hs104]; exact zset_k (zne_r zc_17 zc_0 (by decide))
    have e116 : s103 17 12 = s65 17 12 := by rw [← hs104]; exact zset_k (zne_r zc_17 zc_0 (by decide))
    have e117 : s103 1 1 = s65 1 1 := by rw [← hs104]; exact zset_k (zne_r zc_1 zc_0 (by decide))
    have nm118 : ∀ i : Nat, s103 9 i = s14 9 i := fun i => (show s103 9 i = s65 9 i by rw [← hs104]; exact zset_k (by decide)).trans (nm93 i)
    have nm119 : ∀ i : Nat, s103 19 i = σ 19 i := fun i => (show s103 19 i = s65 19 i by rw [← hs104]; exact zset_k (by decide)).trans (nm94 i)
    have ek120 : s103 0 3 = ((k100 : Nat) : Int) := by rw [← hs104]; exact zset_s
    refine zt_aload_n (pc' := 55) hX dX11_pane_54 rfl rfl ?_
    refine zt_aload_n (pc' := 56) hX dX11_pane_55 rfl rfl ?_
    refine zt_put (pc' := 59) (x := ((k97 : Nat) : Int)) hX dX11_pane_56 rfl zf_X11_35 (by decide) zc_0 zs_1 (fun q hq => by cases hq; rfl) (zrf_of rfl) rfl rfl ?_
    generalize hs122 : zset s103 0 4 ((k97 : Nat) : Int) = s121
    have hI123 : zInv s121 := hs122 ▸ zp_1_4 hI105 zc_0 ⟨k97, rfl, hk99⟩
    have hF124 : zOn zPb σ s121 := hs122 ▸ zOn_set hF106 rfl
    have e125 : s121 27 7 = s103 27 7 := by rw [← hs122]; exact zset_k (zne_r zc_27 zc_0 (by decide))
    have e126 : s121 0 15 = s103 0 15 := by rw [← hs122]; exact zset_j (by decide)
    have e127 : s121 0 3 = s103 0 3 := by rw [← hs122]; exact zset_j (by decide)
    have e128 : s121 0 4 = ((k97 : Nat) : Int) := by rw [← hs122]; exact zset_s
    have e129 : s121 7 10 = s103 7 10 := by rw [← hs122]; exact zset_k (zne_r zc_7 zc_0 (by decide))
    have e130 : s121 7 11 = s103 7 11 := by rw [← hs122]; exact zset_k (zne_r zc_7 zc_0 (by decide))
    have e131 : s121 7 12 = s103 7 12 := by rw [← hs122]; exact zset_k (zne_r zc_7 zc_0 (by decide))
    have e132 : s121 17 10 = s103 17 10 := by rw [← hs122]; exact zset_k (zne_r zc_17 zc_0 (by decide))
    have e133 : s121 17 11 = s103 17 11 := by rw [← hs122]; exact zset_k (zne_r zc_17 zc_0 (by decide))
    have e134 : s121 17 12 = s103 17 12 := by rw [← hs122]; exact zset_k (zne_r zc_17 zc_0 (by decide))
    have e135 : s121 1 1 = s103 1 1 := by rw [← hs122]; exact zset_k (zne_r zc_1 zc_0 (by decide))
    have nm136 : ∀ i : Nat, s121 9 i = s14 9 i := fun i => (show s121 9 i = s103 9 i by rw [← hs122]; exact zset_k (by decide)).trans (nm118 i)
    have nm137 : ∀ i : Nat, s121 19 i = σ 19 i := fun i => (show s121 19 i = s103 19 i by rw [← hs122]; exact zset_k (by decide)).trans (nm119 i)
    have ek138 : s121 0 4 = ((k97 : Nat) : Int) := by rw [← hs122]; exact zset_s
    refine zt_aload_n (pc' := 60) hX dX11_pane_59 rfl rfl ?_
    refine zt_get (pc' := 63) (v := .ref (X.1.1 + 35)) hX dX11_pane_60 rfl zf_X11_66 (by decide) zc_0 zs_1 (zrf_of (zv_1_8 hI123 zc_0)) ?_
    refine zt_aload_n (pc' := 64) hX dX11_pane_63 rfl rfl ?_
    have ek140 : s121 0 3 = ((k100 : Nat) : Int) := by omega
    refine zt_get (pc' := 67) (v := .ref (X.1.1 + k100)) hX dX11_pane_64 rfl zf_X11_31 (by decide) zc_0 zs_1 (zrf_of ek140) ?_
    refine zt_cVv (pc' := 70) hX dX11_pane_67 rfl zm_yX10_begin zw_25_1 zc_35 (by decide) zs_22 (q := (RX10, TX10, 8)) rfl rfl (zc_X10_begin _ _ s121 hI123 35 zc_35 k100 hk102) rfl rfl (Nat.le_of_ble_eq_true rfl) (by decide) (fun r142 s143 hr144 hp145 => ?_)
    obtain ⟨hI146, hF147⟩ := hp145
    have hF148 := zOn_tr hF124 (zOn_be hF147) zi_id
    have b149 := zv_14_7 hI146 zc_27
    have b150 := zv_1_15 hI146 zc_0
    have b151 := zv_1_3 hI146 zc_0
    have b152 := zv_1_4 hI146 zc_0
    have b153 := zv_8_10 hI146 zc_7
    have b154 := zv_8_11 hI146 zc_7
    have b155 := zv_8_12 hI146 zc_7
    have b156 := zv_8_10 hI146 zc_17
    have b157 := zv_8_11 hI146 zc_17
    have b158 := zv_8_12 hI146 zc_17
    have b159 := zv_2_1 hI146 zc_1
    have nm160 : ∀ i : Nat, s143 9 i = s14 9 i := fun i => (congrFun (hF147.1.1 9 (by decide)) i).trans (nm136 i)
    have nm161 : ∀ i : Nat, s143 19 i = σ 19 i := fun i => (congrFun (hF147.1.1 19 (by decide)) i).trans (nm137 i)
    have e162 : s143 0 3 = s121 0 3 := hF147.1.2.1
    have e163 : s143 0 4 = s121 0 4 := hF147.1.2.2.1
    have e164 : s143 7 10 = s121 7 10 := congrFun (hF147.1.1 7 (by decide)) 10
    have e165 : s143 7 11 = s121 7 11 := congrFun (hF147.1.1 7 (by decide)) 11
    have e166 : s143 7 12 = s121 7 12 := congrFun (hF147.1.1 7 (by decide)) 12
    have e167 : s143 17 10 = s121 17 10 := congrFun (hF147.1.1 17 (by decide)) 10
    have e168 : s143 17 11 = s121 17 11 := congrFun (hF147.1.1 17 (by decide)) 11
    have e169 : s143 17 12 = s121 17 12 := congrFun (hF147.1.1 17 (by decide)) 12
    have e170 : s143 1 1 = s121 1 1 := hF147.2
    refine zt_aload_n (pc' := 71) hX dX11_pane_70 rfl rfl ?_
    refine zt_get (pc' := 74) (v := .ref (X.1.1 + 45)) hX dX11_pane_71 rfl zf_X11_76 (by decide) zc_0 zs_1 (zrf_of (zv_1_10 hI146 zc_0)) ?_
    refine zt_iconst (pc' := 75) hX dX11_pane_74 rfl ?_
    refine zt_put (pc' := 78) (x := 0) hX dX11_pane_75 rfl zf_X11_135 (by decide) zc_45 zs_27 (fun q hq => by cases hq; rfl) rfl rfl rfl ?_
    generalize hs172 : zset s143 45 2 0 = s171
    have hI173 : zInv s171 := hs172 ▸ zp_27_2 hI146 zc_45 ⟨by omega, by omega⟩
    have hF174 : zOn zPb σ s171 := hs172 ▸ zOn_set hF148 rfl
    have e175 : s171 27 7 = s143 27 7 := by rw [← hs172]; exact zset_k (zne_r zc_27 zc_45 (by decide))
    have e176 : s171 0 15 = s143 0 15 := by rw [← hs172]; exact zset_k (zne_r zc_0 zc_45 (by decide))
    have e177 : s171 0 3 = s143 0 3 := by rw [← hs172]; exact zset_k (zne_r zc_0 zc_45 (by decide))
    have e178 : s171 0 4 = s143 0 4 := by rw [← hs172]; exact zset_k (zne_r zc_0 zc_45 (by decide))
    have e179 : s171 7 10 = s143 7 10 := by rw [← hs172]; exact zset_k (zne_r zc_7 zc_45 (by decide))
    have e180 : s171 7 11 = s143 7 11 := by rw [← hs172]; exact zset_k (zne_r zc_7 zc_45 (by decide))
    have e181 : s171 7 12 = s143 7 12 := by rw [← hs172]; exact zset_k (zne_r zc_7 zc_45 (by decide))
    have e182 : s171 17 10 = s143 17 10 := by rw [← hs172]; exact zset_k (zne_r zc_17 zc_45 (by decide))
    have e183 : s171 17 11 = s143 17 11 := by rw [← hs172]; exact zset_k (zne_r zc_17 zc_45 (by decide))
    have e184 : s171 17 12 = s143 17 12 := by rw [← hs172]; exact zset_k (zne_r zc_17 zc_45 (by decide))
    have e185 : s171 1 1 = s143 1 1 := by rw [← hs172]; exact zset_k (zne_r zc_1 zc_45 (by decide))
    have nm186 : ∀ i : Nat, s171 9 i = s14 9 i := fun i => (show s171 9 i = s143 9 i by rw [← hs172]; exact zset_k (by decide)).trans (nm160 i)
    have nm187 : ∀ i : Nat, s171 19 i = σ 19 i := fun i => (show s171 19 i = s143 19 i by rw [← hs172]; exact zset_k (by decide)).trans (nm161 i)
    refine zt_aload_n (pc' := 79) hX dX11_pane_78 rfl rfl ?_
    refine zt_get (pc' := 82) (v := .ref (X.1.1 + 147)) hX dX11_pane_79 rfl zf_X11_83 (by decide) zc_0 zs_1 (zrf_of (zv_1_11 hI173 zc_0)) ?_
    refine zt_iconst (pc' := 83) hX dX11_pane_82 rfl ?_
    refine zt_put (pc' := 86) (x := 0) hX dX11_pane_83 rfl zf_X11_138 (by decide) zc_147 zs_29 (fun q hq => by cases hq; rfl) rfl rfl rfl ?_
    generalize hs189 : zset s171 147 5 0 = s188
    have hI190 : zInv s188 := hs189 ▸ zp_29_5 hI173 zc_147 ⟨by omega, by omega⟩
    have hF191 : zOn zPb σ s188 := hs189 ▸ zOn_set hF174 rfl
    have e192 : s188 27 7 = s171 27 7 := by rw [← hs189]; exact zset_k (zne_r zc_27 zc_147 (by decide))
    have e193 : s188 0 15 = s171 0 15 := by rw [← hs189]; exact zset_k (zne_r zc_0 zc_147 (by decide))
    have e194 : s188 0 3 = s171 0 3 := by rw [← hs189]; exact zset_k (zne_r zc_0 zc_147 (by decide))
    have e195 : s188 0 4 = s171 0 4 := by rw [← hs189]; exact zset_k (zne_r zc_0 zc_147 (by decide))
    have e196 : s188 7 10 = s171 7 10 := by rw [← hs189]; exact zset_k (zne_r zc_7 zc_147 (by decide))
    have e197 : s188 7 11 = s171 7 11 := by rw [← hs189]; exact zset_k (zne_r zc_7 zc_147 (by decide))
    have e198 : s188 7 12 = s171 7 12 := by rw [← hs189]; exact zset_k (zne_r zc_7 zc_147 (by decide))
    have e199 : s188 17 10 = s171 17 10 := by rw [← hs189]; exact zset_k (zne_r zc_17 zc_147 (by decide))
    have e200 : s188 17 11 = s171 17 11 := by rw [← hs189]; exact zset_k (zne_r zc_17 zc_147 (by decide))
    have e201 : s188 17 12 = s171 17 12 := by rw [← hs189]; exact zset_k (zne_r zc_17 zc_147 (by decide))
    have e202 : s188 1 1 = s171 1 1 := by rw [← hs189]; exact zset_k (zne_r zc_1 zc_147 (by decide))
    have nm203 : ∀ i : Nat, s188 9 i = s14 9 i := fun i => (show s188 9 i = s171 9 i by rw [← hs189]; exact zset_k (by decide)).trans (nm186 i)
    have nm204 : ∀ i : Nat, s188 19 i = σ 19 i := fun i => (show s188 19 i = s171 19 i by rw [← hs189]; exact zset_k (by decide)).trans (nm187 i)
    refine zt_iload_n (pc' := 87) hX dX11_pane_86 rfl rfl ?_
    exact zt_iret hX hR dX11_pane_87 ⟨by omega, by omega⟩ ⟨hI190, hF191, by omega, by omega, by omega, ⟨fun o => (z23 o).2, fun o => absurd (p44 (by omega)) (by rw [o]; decide)⟩, (fun o => ⟨by omega, by omega, yNc_of (z23 o).1 (by omega) ⟨by omega, by omega, by omega⟩⟩), (fun o => absurd (p44 (by omega)) (by rw [o]; decide)), (fun o => yNn_of (z23 o).1 (by omega) nm203), (fun o => absurd (p44 (by omega)) (by rw [o]; decide))⟩
  · refine zt_aload_n (pc' := 36) hX dX11_pane_35 rfl rfl ?_
    refine zt_iconst (pc' := 37) hX dX11_pane_36 rfl ?_
    refine zt_cVi (pc' := 40) hX dX11_pane_37 rfl zm_yX11_refusal zw_14_3 zc_0 (by decide) zs_1 (q := (RX11, TX11, 17)) rfl rfl (zc_X11_refusal _ _ s65 hI68 1 ⟨by omega, by omega⟩) rfl rfl (Nat.le_of_ble_eq_true rfl) (by decide) (fun r205 s206 hr207 hp208 => ?_)
    obtain ⟨hI209, hF210, q211, q212⟩ := hp208
    have hF213 := zOn_tr hF71 (zOn_be hF210) zi_id
    have b214 := zv_14_7 hI209 zc_27
    have b215 := zv_1_15 hI209 zc_0
    have b216 := zv_1_3 hI209 zc_0
    have b217 := zv_1_4 hI209 zc_0
    have b218 := zv_8_10 hI209 zc_7
    have b219 := zv_8_11 hI209 zc_7
    have b220 := zv_8_12 hI209 zc_7
    have b221 := zv_8_10 hI209 zc_17
    have b222 := zv_8_11 hI209 zc_17
    have b223 := zv_8_12 hI209 zc_17
    have b224 := zv_2_1 hI209 zc_1
    have nm225 : ∀ i : Nat, s206 9 i = s14 9 i := fun i => (congrFun (hF210.1.1 9 (by decide)) i).trans (nm93 i)
    have nm226 : ∀ i : Nat, s206 19 i = σ 19 i := fun i => (congrFun (hF210.1.1 19 (by decide)) i).trans (nm94 i)
    have e227 : s206 0 3 = s65 0 3 := hF210.1.2.1
    have e228 : s206 0 4 = s65 0 4 := hF210.1.2.2.1
    have e229 : s206 7 10 = s65 7 10 := congrFun (hF210.1.1 7 (by decide)) 10
    have e230 : s206 7 11 = s65 7 11 := congrFun (hF210.1.1 7 (by decide)) 11
    have e231 : s206 7 12 = s65 7 12 := congrFun (hF210.1.1 7 (by decide)) 12
    have e232 : s206 17 10 = s65 17 10 := congrFun (hF210.1.1 17 (by decide)) 10
    have e233 : s206 17 11 = s65 17 11 := congrFun (hF210.1.1 17 (by decide)) 11
    have e234 : s206 17 12 = s65 17 12 := congrFun (hF210.1.1 17 (by decide)) 12
    have e235 : s206 1 1 = s65 1 1 := hF210.2
    exact zt_iret hX hR dX11_pane_40 ⟨by omega, by omega⟩ ⟨hI209, hF213, by omega, by omega, by omega, ⟨fun o => absurd (p45 (by omega)) (by rw [o]; decide), fun _ => by omega⟩, (fun o => absurd (p45 (by omega)) (by rw [o]; decide)), (fun _ => ⟨by omega, by omega, by omega, by omega, by omega⟩), (fun o => absurd (p45 (by omega)) (by rw [o]; decide)), (fun _ => nm226)⟩
set_option maxRecDepth 100000 in
set_option maxHeartbeats 4000000 in
theorem yd_X11_pane_17 (l : Launch) (E : zEN) (σ : zSto) (hI : zInv σ) (hpre0 : σ 0 4 = 17) (hpre1 : σ 0 3 = 7) (hW : yTab σ) : zCt l E yX11_pane cX11_pane 3 (some .int) 38 zNC zNC 0 0 σ [.ref (E.1 + 0)] (fun r σ' => zInv σ' ∧ zOn zPb σ σ' ∧ -1 ≤ r ∧ r ≤ 80 ∧ (σ' 1 1 = 0) ∧ (yAns (yAll (yT σ)) r) ∧ (yPo (yAll (yT σ)).1 = 1 → σ' 0 3 = 17 ∧ σ' 0 4 = 7 ∧ yNc σ' 17 (yAll (yT σ)).2.1) ∧ (yPo (yAll (yT σ)).1 = 0 → σ' 0 3 = σ 0 3 ∧ σ' 0 4 = σ 0 4 ∧ σ' 7 10 = σ 7 10 ∧ σ' 7 11 = σ 7 11 ∧ σ' 7 12 = σ 7 12) ∧ (yPo (yAll (yT σ)).1 = 1 → yNn σ' 17 (yAll (yT σ)).2.1) ∧ (yPo (yAll (yT σ)).1 = 0 → ∀ i : Nat, σ' 9 i = σ 9 i)) := by
  refine zCt_of2 [some (.ref (E.1 + 0)), none, none] (by decide +kernel) (Nat.le_of_ble_eq_true rfl) rfl ?_
  intro X hE_ hX hR hL hN
  subst hE_
  have hX : zok X cX11_pane RX11 38 := hX
  have hF := zOn_rf zPb σ
  have b1 := zv_14_7 hI zc_27
  have b2 := zv_1_15 hI zc_0
  have b3 := zv_1_3 hI zc_0
  have b4 := zv_1_4 hI zc_0
  have b5 := zv_8_10 hI zc_7
  have b6 := zv_8_11 hI zc_7
  have b7 := zv_8_12 hI zc_7
  have b8 := zv_8_10 hI zc_17
  have b9 := zv_8_11 hI zc_17
  have b10 := zv_8_12 hI zc_17
  have b11 := zv_2_1 hI zc_1
  refine zt_aload_n (pc' := 1) hX dX11_pane_0 rfl rfl ?_
  refine zt_get (pc' := 4) (v := .ref (X.1.1 + 34)) hX dX11_pane_1 rfl zf_X11_59 (by decide) zc_0 zs_1 (zrf_of (zv_1_7 hI zc_0)) ?_
  refine zt_aload_n (pc' := 5) hX dX11_pane_4 rfl rfl ?_
  have ek12 : σ 0 4 = ((17 : Nat) : Int) := by omega
  refine zt_get (pc' := 8) (v := .ref (X.1.1 + 17)) hX dX11_pane_5 rfl zf_X11_35 (by decide) zc_0 zs_1 (zrf_of ek12) ?_
  refine zt_aload_n (pc' := 9) hX dX11_pane_8 rfl rfl ?_
  refine zt_get (pc' := 12) (v := .ref (X.1.1 + 1)) hX dX11_pane_9 rfl zf_X11_14 (by decide) zc_0 zs_1 (zrf_of (zv_1_0 hI zc_0)) ?_
  refine zt_cVi (pc' := 15) hX dX11_pane_12 rfl zm_yX8_readInto zw_15_14 zc_34 (by decide) zs_21 (q := (RX8, TX8, 3)) rfl rfl (yc_X8_readInto_17 _ _ σ hI hW) rfl rfl (Nat.le_of_ble_eq_true rfl) (by decide) (fun r13 s14 hr15 hp16 => ?_)
  obtain ⟨hI17, hF18, q19, q20, z21, z22, z23⟩ := hp16
  have hF24 := zOn_tr hF hF18 zi_t17b
  have b25 := zv_14_7 hI17 zc_27
  have b26 := zv_1_15 hI17 zc_0
  have b27 := zv_1_3 hI17 zc_0
  have b28 := zv_1_4 hI17 zc_0
  have b29 := zv_8_10 hI17 zc_7
  have b30 := zv_8_11 hI17 zc_7
  have b31 := zv_8_12 hI17 zc_7
  have b32 := zv_8_10 hI17 zc_17
  have b33 := zv_8_11 hI17 zc_17
  have b34 := zv_8_12 hI17 zc_17
  have b35 := zv_2_1 hI17 zc_1
  have e36 := hF18 0 15 rfl
  have e37 := hF18 0 3 rfl
  have e38 := hF18 0 4 rfl
  have e39 := hF18 7 10 rfl
  have e40 := hF18 7 11 rfl
  have e41 := hF18 7 12 rfl
  have e42 := hF18 1 1 rfl
  have p43 := yst_po (s := s14)
  rw [z22] at p43 z23
  clear z21 z22
  replace z23 : yIm _ _ := z23
  obtain ⟨p44, p45⟩ := p43
  replace p44 : yIm _ _ := p44
  replace p45 : yIm _ _ := p45
  have nm46 : ∀ i : Nat, s14 9 i = σ 9 i := fun i => (hF18 9 i rfl).trans ((fun _ => rfl) i)
  refine zt_istore_n (pc' := 16) (lv' := [some (.ref (X.1.1 + 0)), some (.int (zI r13)), none]) hX dX11_pane_15 rfl hL (by decide) rfl ?_
  refine zt_aload_n (pc' := 17) hX dX11_pane_16 rfl rfl ?_
  refine zt_get (pc' := 20) (v := .ref (X.1.1 + 1)) hX dX11_pane_17 rfl zf_X11_14 (by decide) zc_0 zs_1 (zrf_of (zv_1_0 hI17 zc_0)) ?_
  refine zt_iconst (pc' := 21) hX dX11_pane_20 rfl ?_
  refine zt_put (pc' := 24) (x := 0) hX dX11_pane_21 rfl zf_X11_110 (by decide) zc_1 zs_2 (fun q hq => by cases hq; rfl) rfl rfl rfl ?_
  generalize hs48 : zset s14 1 1 0 = s47
  have hI49 : zInv s47 := hs48 ▸ zp_2_1 hI17 zc_1 ⟨by omega, by omega⟩
  have hF50 : zOn zPb σ s47 := hs48 ▸ zOn_set hF24 rfl
  have e51 : s47 27 7 = s14 27 7 := by rw [← hs48]; exact zset_k (zne_r zc_27 zc_1 (by decide))
  have e52 : s47 0 15 = s14 0 15 := by rw [← hs48]; exact zset_k (zne_r zc_0 zc_1 (by decide))
  have e53 : s47 0 3 = s14 0 3 := by rw [← hs48]; exact zset_k (zne_r zc_0 zc_1 (by decide))
  have e54 : s47 0 4 = s14 0 4 := by rw [← hs48]; exact zset_k (zne_r zc_0 zc_1 (by decide))
  have e55 : s47 7 10 = s14 7 10 := by rw [← hs48]; exact zset_k (zne_r zc_7 zc_1 (by decide))
  have e56 : s47 7 11 = s14 7 11 := by rw [← hs48]; exact zset_k (zne_r zc_7 zc_1 (by decide))
  have e57 : s47 7 12 = s14 7 12 := by rw [← hs48]; exact zset_k (zne_r zc_7 zc_1 (by decide))
  have e58 : s47 17 10 = s14 17 10 := by rw [← hs48]; exact zset_k (zne_r zc_17 zc_1 (by decide))
  have e59 : s47 17 11 = s14 17 11 := by rw [← hs48]; exact zset_k (zne_r zc_17 zc_1 (by decide))
  have e60 : s47 17 12 = s14 17 12 := by rw [← hs48]; exact zset_k (zne_r zc_17 zc_1 (by decide))
  have e61 : s47 1 1 = 0 := by rw [← hs48]; exact zset_s
  have nm62 : ∀ i : Nat, s47 19 i = s14 19 i := fun i => (show s47 19 i = s14 19 i by rw [← hs48]; exact zset_k (by decide)).trans ((fun _ => rfl) i)
  have nm63 : ∀ i : Nat, s47 9 i = σ 9 i := fun i => (show s47 9 i = s14 9 i by rw [← hs48]; exact zset_k (by decide)).trans (nm46 i)
  refine zt_aload_n (pc' := 25) hX dX11_pane_24 rfl rfl ?_
  refine zt_cVv (pc' := 28) hX dX11_pane_25 rfl zm_yX11_rememberFault zw_24_19 zc_0 (by decide) zs_1 (q := (RX11, TX11, 17)) rfl rfl (yc_X11_rememberFault _ _ s47 hI49 ) rfl rfl (Nat.le_of_ble_eq_true rfl) (by decide) (fun r64 s65 hr66 hp67 => ?_)
  obtain ⟨hI68, hF69, z70⟩ := hp67
  have hF71 := zOn_tr hF50 hF69 zi_fb
  have b72 := zv_14_7 hI68 zc_27
  have b73 := zv_1_15 hI68 zc_0
  have b74 := zv_1_3 hI68 zc_0
  have b75 := zv_1_4 hI68 zc_0
  have b76 := zv_8_10 hI68 zc_7
  have b77 := zv_8_11 hI68 zc_7
  have b78 := zv_8_12 hI68 zc_7
  have b79 := zv_8_10 hI68 zc_17
  have b80 := zv_8_11 hI68 zc_17
  have b81 := zv_8_12 hI68 zc_17
  have b82 := zv_2_1 hI68 zc_1
  have e83 := hF69 27 7 rfl
  have e84 := hF69 0 3 rfl
  have e85 := hF69 0 4 rfl
  have e86 := hF69 7 10 rfl
  have e87 := hF69 7 11 rfl
  have e88 := hF69 7 12 rfl
  have e89 := hF69 17 10 rfl
  have e90 := hF69 17 11 rfl
  have e91 := hF69 17 12 rfl
  have e92 := hF69 1 1 rfl
  have nm93 : ∀ i : Nat, s65 19 i = s14 19 i := fun i => (hF69 19 i rfl).trans (nm62 i)
  have nm94 : ∀ i : Nat, s65 9 i = σ 9 i := fun i => (hF69 9 i rfl).trans (nm63 i)
  refine zt_aload_n (pc' := 29) hX dX11_pane_28 rfl rfl ?_
  have b95 := zv_1_15 hI68 zc_0
  refine zt_get (pc' := 32) (v := .int (zI (s65 0 15))) hX dX11_pane_29 rfl zf_X11_104 (by decide) zc_0 zs_1 rfl ?_
  refine zt_ifeq (pc' := 35) (tgt := 41) hX dX11_pane_32 rfl (by decide) ⟨by omega, by omega⟩ (fun c96 => ?_) (fun c96 => ?_)
  · refine zt_aload_n (pc' := 42) hX dX11_pane_41 rfl rfl ?_
    obtain ⟨k97, ek98, hk99⟩ := zv_1_3 hI68 zc_0
    refine zt_get (pc' := 45) (v := .ref (X.1.1 + k97)) hX dX11_pane_42 rfl zf_X11_31 (by decide) zc_0 zs_1 (zrf_of ek98) ?_
    refine zt_astore_n (pc' := 46) (lv' := [some (.ref (X.1.1 + 0)), some (.int (zI r13)), some (.ref (X.1.1 + k97))]) hX dX11_pane_45 rfl hL (by decide) rfl ?_
    refine zt_aload_n (pc' := 47) hX dX11_pane_46 rfl rfl ?_
    refine zt_aload_n (pc' := 48) hX dX11_pane_47 rfl rfl ?_
    obtain ⟨k100, ek101, hk102⟩ := zv_1_4 hI68 zc_0
    refine zt_get (pc' := 51) (v := .ref (X.1.1 + k100)) hX dX11_pane_48 rfl zf_X11_35 (by decide) zc_0 zs_1 (zrf_of ek101) ?_
    refine zt_put (pc' := 54) (x := ((k100 : Nat) : Int)) hX dX11_pane_51 rfl zf_X11_31 (by decide) zc_0 zs_1 (fun q hq => by cases hq; rfl) (zrf_of rfl) rfl rfl ?_
    generalize hs104 : zset s65 0 3 ((k100 : Nat) : Int) = s103
    have hI105 : zInv s103 := hs104 ▸ zp_1_3 hI68 zc_0 ⟨k100, rfl, hk102⟩
    have hF106 : zOn zPb σ s103 := hs104 ▸ zOn_set hF71 rfl
    have e107 : s103 27 7 = s65 27 7 := by rw [← hs104]; exact zset_k (zne_r zc_27 zc_0 (by decide))
    have e108 : s103 0 15 = s65 0 15 := by rw [← hs104]; exact zset_j (by decide)
    have e109 : s103 0 3 = ((k100 : Nat) : Int) := by rw [← hs104]; exact zset_s
    have e110 : s103 0 4 = s65 0 4 := by rw [← hs104]; exact zset_j (by decide)
    have e111 : s103 7 10 = s65 7 10 := by rw [← hs104]; exact zset_k (zne_r zc_7 zc_0 (by decide))
    have e112 : s103 7 11 = s65 7 11 := by rw [← hs104]; exact zset_k (zne_r zc_7 zc_0 (by decide))
    have e113 : s103 7 12 = s65 7 12 := by rw [← hs104]; exact zset_k (zne_r zc_7 zc_0 (by decide))
    have e114 : s103 17 10 = s65 17 10 := by rw [← hs104]; exact zset_k (zne_r zc_17 zc_0 (by decide))
    have e115 : s103 17 11 = s65 17 11 := by rw [← hs104]; exact zset_k (zne_r zc_17 zc_0 (by decide))
    have e116 : s103 17 12 = s65 17 12 := by rw [← hs104]; exact zset_k (zne_r zc_17 zc_0 (by decide))
    have e117 : s103 1 1 = s65 1 1 := by rw [← hs104]; exact zset_k (zne_r zc_1 zc_0 (by decide))
    have nm118 : ∀ i : Nat, s103 19 i = s14 19 i := fun i => (show s103 19 i = s65 19 i by rw [← hs104]; exact zset_k (by decide)).trans (nm93 i)
    have nm119 : ∀ i : Nat, s103 9 i = σ 9 i := fun i => (show s103 9 i = s65 9 i by rw [← hs104]; exact zset_k (by decide)).trans (nm94 i)
    have ek120 : s103 0 3 = ((k100 : Nat) : Int) := by rw [← hs104]; exact zset_s
    refine zt_aload_n (pc' := 55) hX dX11_pane_54 rfl rfl ?_
    refine zt_aload_n (pc' := 56) hX dX11_pane_55 rfl rfl ?_
    refine zt_put (pc' := 59) (x := ((k97 : Nat) : Int)) hX dX11_pane_56 rfl zf_X11_35 (by decide) zc_0 zs_1 (fun q hq => by cases hq; rfl) (zrf_of rfl) rfl rfl ?_
    generalize hs122 : zset s103 0 4 ((k97 : Nat) : Int) = s121
    have hI123 : zInv s121 := hs122 ▸ zp_1_4 hI105 zc_0 ⟨k97, rfl, hk99⟩
    have hF124 : zOn zPb σ s121 := hs122 ▸ zOn_set hF106 rfl
    have e125 : s121 27 7 = s103 27 7 := by rw [← hs122]; exact zset_k (zne_r zc_27 zc_0 (by decide))
    have e126 : s121 0 15 = s103 0 15 := by rw [← hs122]; exact zset_j (by decide)
    have e127 : s121 0 3 = s103 0 3 := by rw [← hs122]; exact zset_j (by decide)
    have e128 : s121 0 4 = ((k97 : Nat) : Int) := by rw [← hs122]; exact zset_s
    have e129 : s121 7 10 = s103 7 10 := by rw [← hs122]; exact zset_k (zne_r zc_7 zc_0 (by decide))
    have e130 : s121 7 11 = s103 7 11 := by rw [← hs122]; exact zset_k (zne_r zc_7 zc_0 (by decide))
    have e131 : s121 7 12 = s103 7 12 := by rw [← hs122]; exact zset_k (zne_r zc_7 zc_0 (by decide))
    have e132 : s121 17 10 = s103 17 10 := by rw [← hs122]; exact zset_k (zne_r zc_17 zc_0 (by decide))
    have e133 : s121 17 11 = s103 17 11 := by rw [← hs122]; exact zset_k (zne_r zc_17 zc_0 (by decide))
    have e134 : s121 17 12 = s103 17 12 := by rw [← hs122]; exact zset_k (zne_r zc_17 zc_0 (by decide))
    have e135 : s121 1 1 = s103 1 1 := by rw [← hs122]; exact zset_k (zne_r zc_1 zc_0 (by decide))
    have nm136 : ∀ i : Nat, s121 19 i = s14 19 i := fun i => (show s121 19 i = s103 19 i by rw [← hs122]; exact zset_k (by decide)).trans (nm118 i)
    have nm137 : ∀ i : Nat, s121 9 i = σ 9 i := fun i => (show s121 9 i = s103 9 i by rw [← hs122]; exact zset_k (by decide)).trans (nm119 i)
    have ek138 : s121 0 4 = ((k97 : Nat) : Int) := by rw [← hs122]; exact zset_s
    refine zt_aload_n (pc' := 60) hX dX11_pane_59 rfl rfl ?_
    refine zt_get (pc' := 63) (v := .ref (X.1.1 + 35)) hX dX11_pane_60 rfl zf_X11_66 (by decide) zc_0 zs_1 (zrf_of (zv_1_8 hI123 zc_0)) ?_
    refine zt_aload_n (pc' := 64) hX dX11_pane_63 rfl rfl ?_
    have ek140 : s121 0 3 = ((k100 : Nat) : Int) := by omega
    refine zt_get (pc' := 67) (v := .ref (X.1.1 + k100)) hX dX11_pane_64 rfl zf_X11_31 (by decide) zc_0 zs_1 (zrf_of ek140) ?_
    refine zt_cVv (pc' := 70) hX dX11_pane_67 rfl zm_yX10_begin zw_25_1 zc_35 (by decide) zs_22 (q := (RX10, TX10, 8)) rfl rfl (zc_X10_begin _ _ s121 hI123 35 zc_35 k100 hk102) rfl rfl (Nat.le_of_ble_eq_true rfl) (by decide) (fun r142 s143 hr144 hp145 => ?_)
    obtain ⟨hI146, hF147⟩ := hp145
    have hF148 := zOn_tr hF124 (zOn_be hF147) zi_id
    have b149 := zv_14_7 hI146 zc_27
    have b150 := zv_1_15 hI146 zc_0
    have b151 := zv_1_3 hI146 zc_0
    have b152 := zv_1_4 hI146 zc_0
    have b153 := zv_8_10 hI146 zc_7
    have b154 := zv_8_11 hI146 zc_7
    have b155 := zv_8_12 hI146 zc_7
    have b156 := zv_8_10 hI146 zc_17
    have b157 := zv_8_11 hI146 zc_17
    have b158 := zv_8_12 hI146 zc_17
    have b159 := zv_2_1 hI146 zc_1
    have nm160 : ∀ i : Nat, s143 19 i = s14 19 i := fun i => (congrFun (hF147.1.1 19 (by decide)) i).trans (nm136 i)
    have nm161 : ∀ i : Nat, s143 9 i = σ 9 i := fun i => (congrFun (hF147.1.1 9 (by decide)) i).trans (nm137 i)
    have e162 : s143 0 3 = s121 0 3 := hF147.1.2.1
    have e163 : s143 0 4 = s121 0 4 := hF147.1.2.2.1
    have e164 : s143 7 10 = s121 7 10 := congrFun (hF147.1.1 7 (by decide)) 10
    have e165 : s143 7 11 = s121 7 11 := congrFun (hF147.1.1 7 (by decide)) 11
    have e166 : s143 7 12 = s121 7 12 := congrFun (hF147.1.1 7 (by decide)) 12
    have e167 : s143 17 10 = s121 17 10 := congrFun (hF147.1.1 17 (by decide)) 10
    have e168 : s143 17 11 = s121 17 11 := congrFun (hF147.1.1 17 (by decide)) 11
    have e169 : s143 17 12 = s121 17 12 := congrFun (hF147.1.1 17 (by decide)) 12
    have e170 : s143 1 1 = s121 1 1 := hF147.2
    refine zt_aload_n (pc' := 71) hX dX11_pane_70 rfl rfl ?_
    refine zt_get (pc' := 74) (v := .ref (X.1.1 + 45)) hX dX11_pane_71 rfl zf_X11_76 (by decide) zc_0 zs_1 (zrf_of (zv_1_10 hI146 zc_0)) ?_
    refine zt_iconst (pc' := 75) hX dX11_pane_74 rfl ?_
    refine zt_put (pc' := 78) (x := 0) hX dX11_pane_75 rfl zf_X11_135 (by decide) zc_45 zs_27 (fun q hq => by cases hq; rfl) rfl rfl rfl ?_
    generalize hs172 : zset s143 45 2 0 = s171
    have hI173 : zInv s171 := hs172 ▸ zp_27_2 hI146 zc_45 ⟨by omega, by omega⟩
    have hF174 : zOn zPb σ s171 := hs172 ▸ zOn_set hF148 rfl
    have e175 : s171 27 7 = s143 27 7 := by rw [← hs172]; exact zset_k (zne_r zc_27 zc_45 (by decide))
    have e176 : s171 0 15 = s143 0 15 := by rw [← hs172]; exact zset_k (zne_r zc_0 zc_45 (by decide))
    have e177 : s171 0 3 = s143 0 3 := by rw [← hs172]; exact zset_k (zne_r zc_0 zc_45 (by decide))
    have e178 : s171 0 4 = s143 0 4 := by rw [← hs172]; exact zset_k (zne_r zc_0 zc_45 (by decide))
    have e179 : s171 7 10 = s143 7 10 := by rw [← hs172]; exact zset_k (zne_r zc_7 zc_45 (by decide))
    have e180 : s171 7 11 = s143 7 11 := by rw [← hs172]; exact zset_k (zne_r zc_7 zc_45 (by decide))
    have e181 : s171 7 12 = s143 7 12 := by rw [← hs172]; exact zset_k (zne_r zc_7 zc_45 (by decide))
    have e182 : s171 17 10 = s143 17 10 := by rw [← hs172]; exact zset_k (zne_r zc_17 zc_45 (by decide))
    have e183 : s171 17 11 = s143 17 11 := by rw [← hs172]; exact zset_k (zne_r zc_17 zc_45 (by decide))
    have e184 : s171 17 12 = s143 17 12 := by rw [← hs172]; exact zset_k (zne_r zc_17 zc_45 (by decide))
    have e185 : s171 1 1 = s143 1 1 := by rw [← hs172]; exact zset_k (zne_r zc_1 zc_45 (by decide))
    have nm186 : ∀ i : Nat, s171 19 i = s14 19 i := fun i => (show s171 19 i = s143 19 i by rw [← hs172]; exact zset_k (by decide)).trans (nm160 i)
    have nm187 : ∀ i : Nat, s171 9 i = σ 9 i := fun i => (show s171 9 i = s143 9 i by rw [← hs172]; exact zset_k (by decide)).trans (nm161 i)
    refine zt_aload_n (pc' := 79) hX dX11_pane_78 rfl rfl ?_
    refine zt_get (pc' := 82) (v := .ref (X.1.1 + 147)) hX dX11_pane_79 rfl zf_X11_83 (by decide) zc_0 zs_1 (zrf_of (zv_1_11 hI173 zc_0)) ?_
    refine zt_iconst (pc' := 83) hX dX11_pane_82 rfl ?_
    refine zt_put (pc' := 86) (x := 0) hX dX11_pane_83 rfl zf_X11_138 (by decide) zc_147 zs_29 (fun q hq => by cases hq; rfl) rfl rfl rfl ?_
    generalize hs189 : zset s171 147 5 0 = s188
    have hI190 : zInv s188 := hs189 ▸ zp_29_5 hI173 zc_147 ⟨by omega, by omega⟩
    have hF191 : zOn zPb σ s188 := hs189 ▸ zOn_set hF174 rfl
    have e192 : s188 27 7 = s171 27 7 := by rw [← hs189]; exact zset_k (zne_r zc_27 zc_147 (by decide))
    have e193 : s188 0 15 = s171 0 15 := by rw [← hs189]; exact zset_k (zne_r zc_0 zc_147 (by decide))
    have e194 : s188 0 3 = s171 0 3 := by rw [← hs189]; exact zset_k (zne_r zc_0 zc_147 (by decide))
    have e195 : s188 0 4 = s171 0 4 := by rw [← hs189]; exact zset_k (zne_r zc_0 zc_147 (by decide))
    have e196 : s188 7 10 = s171 7 10 := by rw [← hs189]; exact zset_k (zne_r zc_7 zc_147 (by decide))
    have e197 : s188 7 11 = s171 7 11 := by rw [← hs189]; exact zset_k (zne_r zc_7 zc_147 (by decide))
    have e198 : s188 7 12 = s171 7 12 := by rw [← hs189]; exact zset_k (zne_r zc_7 zc_147 (by decide))
    have e199 : s188 17 10 = s171 17 10 := by rw [← hs189]; exact zset_k (zne_r zc_17 zc_147 (by decide))
    have e200 : s188 17 11 = s171 17 11 := by rw [← hs189]; exact zset_k (zne_r zc_17 zc_147 (by decide))
    have e201 : s188 17 12 = s171 17 12 := by rw [← hs189]; exact zset_k (zne_r zc_17 zc_147 (by decide))
    have e202 : s188 1 1 = s171 1 1 := by rw [← hs189]; exact zset_k (zne_r zc_1 zc_147 (by decide))
    have nm203 : ∀ i : Nat, s188 19 i = s14 19 i := fun i => (show s188 19 i = s171 19 i by rw [← hs189]; exact zset_k (by decide)).trans (nm186 i)
    have nm204 : ∀ i : Nat, s188 9 i = σ 9 i := fun i => (show s188 9 i = s171 9 i by rw [← hs189]; exact zset_k (by decide)).trans (nm187 i)
    refine zt_iload_n (pc' := 87) hX dX11_pane_86 rfl rfl ?_
    exact zt_iret hX hR dX11_pane_87 ⟨by omega, by omega⟩ ⟨hI190, hF191, by omega, by omega, by omega, ⟨fun o => (z23 o).2, fun o => absurd (p44 (by omega)) (by rw [o]; decide)⟩, (fun o => ⟨by omega, by omega, yNc_of (z23 o).1 (by omega) ⟨by omega, by omega, by omega⟩⟩), (fun o => absurd (p44 (by omega)) (by rw [o]; decide)), (fun o => yNn_of (z23 o).1 (by omega) nm203), (fun o => absurd (p44 (by omega)) (by rw [o]; decide))⟩
  · refine zt_aload_n (pc' := 36) hX dX11_pane_35 rfl rfl ?_
    refine zt_iconst (pc' := 37) hX dX11_pane_36 rfl ?_
    refine zt_cVi (pc' := 40) hX dX11_pane_37 rfl zm_yX11_refusal zw_14_3 zc_0 (by decide) zs_1 (q := (RX11, TX11, 17)) rfl rfl (zc_X11_refusal _ _ s65 hI68 1 ⟨by omega, by omega⟩) rfl rfl (Nat.le_of_ble_eq_true rfl) (by decide) (fun r205 s206 hr207 hp208 => ?_)
    obtain ⟨hI209, hF210, q211, q212⟩ := hp208
    have hF213 := zOn_tr hF71 (zOn_be hF210) zi_id
    have b214 := zv_14_7 hI209 zc_27
    have b215 := zv_1_15 hI209 zc_0
    have b216 := zv_1_3 hI209 zc_0
    have b217 := zv_1_4 hI209 zc_0
    have b218 := zv_8_10 hI209 zc_7
    have b219 := zv_8_11 hI209 zc_7
    have b220 := zv_8_12 hI209 zc_7
    have b221 := zv_8_10 hI209 zc_17
    have b222 := zv_8_11 hI209 zc_17
    have b223 := zv_8_12 hI209 zc_17
    have b224 := zv_2_1 hI209 zc_1
    have nm225 : ∀ i : Nat, s206 19 i = s14 19 i := fun i => (congrFun (hF210.1.1 19 (by decide)) i).trans (nm93 i)
    have nm226 : ∀ i : Nat, s206 9 i = σ 9 i := fun i => (congrFun (hF210.1.1 9 (by decide)) i).trans (nm94 i)
    have e227 : s206 0 3 = s65 0 3 := hF210.1.2.1
    have e228 : s206 0 4 = s65 0 4 := hF210.1.2.2.1
    have e229 : s206 7 10 = s65 7 10 := congrFun (hF210.1.1 7 (by decide)) 10
    have e230 : s206 7 11 = s65 7 11 := congrFun (hF210.1.1 7 (by decide)) 11
    have e231 : s206 7 12 = s65 7 12 := congrFun (hF210.1.1 7 (by decide)) 12
    have e232 : s206 17 10 = s65 17 10 := congrFun (hF210.1.1 17 (by decide)) 10
    have e233 : s206 17 11 = s65 17 11 := congrFun (hF210.1.1 17 (by decide)) 11
    have e234 : s206 17 12 = s65 17 12 := congrFun (hF210.1.1 17 (by decide)) 12
    have e235 : s206 1 1 = s65 1 1 := hF210.2
    exact zt_iret hX hR dX11_pane_40 ⟨by omega, by omega⟩ ⟨hI209, hF213, by omega, by omega, by omega, ⟨fun o => absurd (p45 (by omega)) (by rw [o]; decide), fun _ => by omega⟩, (fun o => absurd (p45 (by omega)) (by rw [o]; decide)), (fun _ => ⟨by omega, by omega, by omega, by omega, by omega⟩), (fun o => absurd (p45 (by omega)) (by rw [o]; decide)), (fun _ => nm226)⟩
