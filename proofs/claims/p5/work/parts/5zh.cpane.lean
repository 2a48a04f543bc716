set_option maxRecDepth 100000 in
set_option maxHeartbeats 4000000 in
theorem yc_X11_rememberFault (l : Launch) (E : zEN) (σ : zSto) (hI : zInv σ)  : zCt l E yX11_rememberFault cX11_rememberFault 1 none 0 zNC zNC 0 0 σ [.ref (E.1 + 0)] (fun r σ' => zInv σ' ∧ zOn zRf σ σ' ∧ (σ' 0 15 = σ 27 7 ∧ σ' 0 16 = σ 27 8)) := by
  refine zCt_of2 [some (.ref (E.1 + 0))] (by decide +kernel) (Nat.le_of_ble_eq_true rfl) rfl ?_
  intro X hE_ hX hR hL hN
  subst hE_
  have hX : zok X cX11_rememberFault RX11 0 := hX
  have hF := zOn_rf zRf σ
  have b1 := zv_14_7 hI zc_27
  have b2 := zv_14_8 hI zc_27
  have b3 := zv_1_15 hI zc_0
  have b4 := zv_1_16 hI zc_0
  refine zt_aload_n (pc' := 1) hX dX11_rememberFault_0 rfl rfl ?_
  refine zt_aload_n (pc' := 2) hX dX11_rememberFault_1 rfl rfl ?_
  refine zt_get (pc' := 5) (v := .ref (X.1.1 + 27)) hX dX11_rememberFault_2 rfl zf_X11_41 (by decide) zc_0 zs_1 (zrf_of (zv_1_5 hI zc_0)) ?_
  have b5 := zv_14_7 hI zc_27
  refine zt_get (pc' := 8) (v := .int (zI (σ 27 7))) hX dX11_rememberFault_5 rfl zf_X11_369 (by decide) zc_27 zs_14 rfl ?_
  refine zt_put (pc' := 11) (x := (σ 27 7)) hX dX11_rememberFault_8 rfl zf_X11_104 (by decide) zc_0 zs_1 (fun q hq => by cases hq; rfl) rfl rfl rfl ?_
  generalize hs7 : zset σ 0 15 (σ 27 7) = s6
  have hI8 : zInv s6 := hs7 ▸ zp_1_15 hI zc_0 ⟨by omega, by omega⟩
  have hF9 : zOn zRf σ s6 := hs7 ▸ zOn_set hF (by decide)
  have e10 : s6 27 7 = σ 27 7 := by rw [← hs7]; exact zset_k (zne_r zc_27 zc_0 (by decide))
  have e11 : s6 27 8 = σ 27 8 := by rw [← hs7]; exact zset_k (zne_r zc_27 zc_0 (by decide))
  have e12 : s6 0 15 = (σ 27 7) := by rw [← hs7]; exact zset_s
  have e13 : s6 0 16 = σ 0 16 := by rw [← hs7]; exact zset_j (by decide)
  refine zt_aload_n (pc' := 12) hX dX11_rememberFault_11 rfl rfl ?_
  refine zt_aload_n (pc' := 13) hX dX11_rememberFault_12 rfl rfl ?_
  refine zt_get (pc' := 16) (v := .ref (X.1.1 + 27)) hX dX11_rememberFault_13 rfl zf_X11_41 (by decide) zc_0 zs_1 (zrf_of (zv_1_5 hI8 zc_0)) ?_
  have b14 := zv_14_8 hI8 zc_27
  refine zt_get (pc' := 19) (v := .int (zI (s6 27 8))) hX dX11_rememberFault_16 rfl zf_X11_372 (by decide) zc_27 zs_14 rfl ?_
  refine zt_put (pc' := 22) (x := (s6 27 8)) hX dX11_rememberFault_19 rfl zf_X11_107 (by decide) zc_0 zs_1 (fun q hq => by cases hq; rfl) rfl rfl rfl ?_
  generalize hs16 : zset s6 0 16 (s6 27 8) = s15
  have hI17 : zInv s15 := hs16 ▸ zp_1_16 hI8 zc_0 ⟨by omega, by omega⟩
  have hF18 : zOn zRf σ s15 := hs16 ▸ zOn_set hF9 (by decide)
  have e19 : s15 27 7 = s6 27 7 := by rw [← hs16]; exact zset_k (zne_r zc_27 zc_0 (by decide))
  have e20 : s15 27 8 = s6 27 8 := by rw [← hs16]; exact zset_k (zne_r zc_27 zc_0 (by decide))
  have e21 : s15 0 15 = s6 0 15 := by rw [← hs16]; exact zset_j (by decide)
  have e22 : s15 0 16 = (s6 27 8) := by rw [← hs16]; exact zset_s
  exact zt_vret hX hR dX11_rememberFault_22 ⟨hI17, hF18, by omega⟩
set_option maxRecDepth 100000 in
set_option maxHeartbeats 4000000 in
theorem yd_X11_pane_7 (l : Launch) (E : zEN) (σ : zSto) (hI : zInv σ) (hpre0 : σ 0 4 = 7) (hpre1 : σ 0 3 = 17) (hW : yTab σ) : zCt l E yX11_pane cX11_pane 3 (some .int) 38 zNC zNC 0 0 σ [.ref (E.1 + 0)] (fun r σ' => zInv σ' ∧ zOn zPb σ σ' ∧ -1 ≤ r ∧ r ≤ 80 ∧ (σ' 1 1 = 0) ∧ (yAns (yAll (yT σ)) r) ∧ (yPo (yAll (yT σ)).1 = 1 → σ' 0 3 = 7 ∧ σ' 0 4 = 17 ∧ yNc σ' 7 (yAll (yT σ)).2.1) ∧ (yPo (yAll (yT σ)).1 = 0 → σ' 0 3 = σ 0 3 ∧ σ' 0 4 = σ 0 4 ∧ σ' 17 10 = σ 17 10 ∧ σ' 17 11 = σ 17 11 ∧ σ' 17 12 = σ 17 12) ∧ (yPo (yAll (yT σ)).1 = 1 → yNn σ' 7 (yAll (yT σ)).2.1) ∧ (yPo (yAll (yT σ)).1 = 0 → ∀ i : Nat, σ' 19 i = σ 19 i) ∧ (yFl (yAll (yT σ)).1 (σ' 0 15) (σ' 0 16))) := by
  refine zCt_of2 [some (.ref (E.1 + 0)), none, none] (by decide +kernel) (Nat.le_of_ble_eq_true rfl) rfl ?_
  intro X hE_ hX hR hL hN
  subst hE_
  have hX : zok X cX11_pane RX11 38 := hX
  have hF := zOn_rf zPb σ
  have b1 := zv_14_7 hI zc_27
  have b2 := zv_1_15 hI zc_0
  have b3 := zv_1_3 hI zc_0
  have b4 := zv_1_4 hI zc_0
  have b5 := zv_8_10 hI zc_7
  have b6 := zv_8_11 hI zc_7
  have b7 := zv_8_12 hI zc_7
  have b8 := zv_8_10 hI zc_17
  have b9 := zv_8_11 hI zc_17
  have b10 := zv_8_12 hI zc_17
  have b11 := zv_2_1 hI zc_1
  have b12 := zv_14_8 hI zc_27
  have b13 := zv_1_16 hI zc_0
  refine zt_aload_n (pc' := 1) hX dX11_pane_0 rfl rfl ?_
  refine zt_get (pc' := 4) (v := .ref (X.1.1 + 34)) hX dX11_pane_1 rfl zf_X11_59 (by decide) zc_0 zs_1 (zrf_of (zv_1_7 hI zc_0)) ?_
  refine zt_aload_n (pc' := 5) hX dX11_pane_4 rfl rfl ?_
  have ek14 : σ 0 4 = ((7 : Nat) : Int) := by omega
  refine zt_get (pc' := 8) (v := .ref (X.1.1 + 7)) hX dX11_pane_5 rfl zf_X11_35 (by decide) zc_0 zs_1 (zrf_of ek14) ?_
  refine zt_aload_n (pc' := 9) hX dX11_pane_8 rfl rfl ?_
  refine zt_get (pc' := 12) (v := .ref (X.1.1 + 1)) hX dX11_pane_9 rfl zf_X11_14 (by decide) zc_0 zs_1 (zrf_of (zv_1_0 hI zc_0)) ?_
  refine zt_cVi (pc' := 15) hX dX11_pane_12 rfl zm_yX8_readInto zw_15_14 zc_34 (by decide) zs_21 (q := (RX8, TX8, 3)) rfl rfl (yc_X8_readInto_7 _ _ σ hI hW) rfl rfl (Nat.le_of_ble_eq_true rfl) (by decide) (fun r15 s16 hr17 hp18 => ?_)
  obtain ⟨hI19, hF20, q21, q22, z23, z24, z25⟩ := hp18
  have hF26 := zOn_tr hF hF20 zi_t7b
  have b27 := zv_14_7 hI19 zc_27
  have b28 := zv_1_15 hI19 zc_0
  have b29 := zv_1_3 hI19 zc_0
  have b30 := zv_1_4 hI19 zc_0
  have b31 := zv_8_10 hI19 zc_7
  have b32 := zv_8_11 hI19 zc_7
  have b33 := zv_8_12 hI19 zc_7
  have b34 := zv_8_10 hI19 zc_17
  have b35 := zv_8_11 hI19 zc_17
  have b36 := zv_8_12 hI19 zc_17
  have b37 := zv_2_1 hI19 zc_1
  have b38 := zv_14_8 hI19 zc_27
  have b39 := zv_1_16 hI19 zc_0
  have e40 := hF20 0 15 rfl
  have e41 := hF20 0 3 rfl
  have e42 := hF20 0 4 rfl
  have e43 := hF20 17 10 rfl
  have e44 := hF20 17 11 rfl
  have e45 := hF20 17 12 rfl
  have e46 := hF20 1 1 rfl
  have e47 := hF20 0 16 rfl
  have fl48 := yFj_q z23 z24
  have p49 := yst_po (s := s16)
  rw [z24] at p49 z25
  clear z23 z24
  replace z25 : yIm _ _ := z25
  obtain ⟨p50, p51⟩ := p49
  replace p50 : yIm _ _ := p50
  replace p51 : yIm _ _ := p51
  have nm52 : ∀ i : Nat, s16 19 i = σ 19 i := fun i => (hF20 19 i rfl).trans ((fun _ => rfl) i)
  refine zt_istore_n (pc' := 16) (lv' := [some (.ref (X.1.1 + 0)), some (.int (zI r15)), none]) hX dX11_pane_15 rfl hL (by decide) rfl ?_
  refine zt_aload_n (pc' := 17) hX dX11_pane_16 rfl rfl ?_
  refine zt_get (pc' := 20) (v := .ref (X.1.1 + 1)) hX dX11_pane_17 rfl zf_X11_14 (by decide) zc_0 zs_1 (zrf_of (zv_1_0 hI19 zc_0)) ?_
  refine zt_iconst (pc' := 21) hX dX11_pane_20 rfl ?_
  refine zt_put (pc' := 24) (x := 0) hX dX11_pane_21 rfl zf_X11_110 (by decide) zc_1 zs_2 (fun q hq => by cases hq; rfl) rfl rfl rfl ?_
  generalize hs54 : zset s16 1 1 0 = s53
  have hI55 : zInv s53 := hs54 ▸ zp_2_1 hI19 zc_1 ⟨by omega, by omega⟩
  have hF56 : zOn zPb σ s53 := hs54 ▸ zOn_set hF26 rfl
  have e57 : s53 27 7 = s16 27 7 := by rw [← hs54]; exact zset_k (zne_r zc_27 zc_1 (by decide))
  have e58 : s53 0 15 = s16 0 15 := by rw [← hs54]; exact zset_k (zne_r zc_0 zc_1 (by decide))
  have e59 : s53 0 3 = s16 0 3 := by rw [← hs54]; exact zset_k (zne_r zc_0 zc_1 (by decide))
  have e60 : s53 0 4 = s16 0 4 := by rw [← hs54]; exact zset_k (zne_r zc_0 zc_1 (by decide))
  have e61 : s53 7 10 = s16 7 10 := by rw [← hs54]; exact zset_k (zne_r zc_7 zc_1 (by decide))
  have e62 : s53 7 11 = s16 7 11 := by rw [← hs54]; exact zset_k (zne_r zc_7 zc_1 (by decide))
  have e63 : s53 7 12 = s16 7 12 := by rw [← hs54]; exact zset_k (zne_r zc_7 zc_1 (by decide))
  have e64 : s53 17 10 = s16 17 10 := by rw [← hs54]; exact zset_k (zne_r zc_17 zc_1 (by decide))
  have e65 : s53 17 11 = s16 17 11 := by rw [← hs54]; exact zset_k (zne_r zc_17 zc_1 (by decide))
  have e66 : s53 17 12 = s16 17 12 := by rw [← hs54]; exact zset_k (zne_r zc_17 zc_1 (by decide))
  have e67 : s53 1 1 = 0 := by rw [← hs54]; exact zset_s
  have e68 : s53 27 8 = s16 27 8 := by rw [← hs54]; exact zset_k (zne_r zc_27 zc_1 (by decide))
  have e69 : s53 0 16 = s16 0 16 := by rw [← hs54]; exact zset_k (zne_r zc_0 zc_1 (by decide))
  have nm70 : ∀ i : Nat, s53 9 i = s16 9 i := fun i => (show s53 9 i = s16 9 i by rw [← hs54]; exact zset_k (by decide)).trans ((fun _ => rfl) i)
  have nm71 : ∀ i : Nat, s53 19 i = σ 19 i := fun i => (show s53 19 i = s16 19 i by rw [← hs54]; exact zset_k (by decide)).trans (nm52 i)
  refine zt_aload_n (pc' := 25) hX dX11_pane_24 rfl rfl ?_
  refine zt_cVv (pc' := 28) hX dX11_pane_25 rfl zm_yX11_rememberFault zw_24_19 zc_0 (by decide) zs_1 (q := (RX11, TX11, 17)) rfl rfl (yc_X11_rememberFault _ _ s53 hI55 ) rfl rfl (Nat.le_of_ble_eq_true rfl) (by decide) (fun r72 s73 hr74 hp75 => ?_)
  obtain ⟨hI76, hF77, z78⟩ := hp75
  have hF79 := zOn_tr hF56 hF77 zi_fb
  have b80 := zv_14_7 hI76 zc_27
  have b81 := zv_1_15 hI76 zc_0
  have b82 := zv_1_3 hI76 zc_0
  have b83 := zv_1_4 hI76 zc_0
  have b84 := zv_8_10 hI76 zc_7
  have b85 := zv_8_11 hI76 zc_7
  have b86 := zv_8_12 hI76 zc_7
  have b87 := zv_8_10 hI76 zc_17
  have b88 := zv_8_11 hI76 zc_17
  have b89 := zv_8_12 hI76 zc_17
  have b90 := zv_2_1 hI76 zc_1
  have b91 := zv_14_8 hI76 zc_27
  have b92 := zv_1_16 hI76 zc_0
  have e93 := hF77 27 7 rfl
  have e94 := hF77 0 3 rfl
  have e95 := hF77 0 4 rfl
  have e96 := hF77 7 10 rfl
  have e97 := hF77 7 11 rfl
  have e98 := hF77 7 12 rfl
  have e99 := hF77 17 10 rfl
  have e100 := hF77 17 11 rfl
  have e101 := hF77 17 12 rfl
  have e102 := hF77 1 1 rfl
  have e103 := hF77 27 8 rfl
  have nm104 : ∀ i : Nat, s73 9 i = s16 9 i := fun i => (hF77 9 i rfl).trans (nm70 i)
  have nm105 : ∀ i : Nat, s73 19 i = σ 19 i := fun i => (hF77 19 i rfl).trans (nm71 i)
  refine zt_aload_n (pc' := 29) hX dX11_pane_28 rfl rfl ?_
  have b106 := zv_1_15 hI76 zc_0
  refine zt_get (pc' := 32) (v := .int (zI (s73 0 15))) hX dX11_pane_29 rfl zf_X11_104 (by decide) zc_0 zs_1 rfl ?_
  refine zt_ifeq (pc' := 35) (tgt := 41) hX dX11_pane_32 rfl (by decide) ⟨by omega, by omega⟩ (fun c107 => ?_) (fun c107 => ?_)
  · refine zt_aload_n (pc' := 42) hX dX11_pane_41 rfl rfl ?_
    obtain ⟨k108, ek109, hk110⟩ := zv_1_3 hI76 zc_0
    refine zt_get (pc' := 45) (v := .ref (X.1.1 + k108)) hX dX11_pane_42 rfl zf_X11_31 (by decide) zc_0 zs_1 (zrf_of ek109) ?_
    refine zt_astore_n (pc' := 46) (lv' := [some (.ref (X.1.1 + 0)), some (.int (zI r15)), some (.ref (X.1.1 + k108))]) hX dX11_pane_45 rfl hL (by decide) rfl ?_
    refine zt_aload_n (pc' := 47) hX dX11_pane_46 rfl rfl ?_
    refine zt_aload_n (pc' := 48) hX dX11_pane_47 rfl rfl ?_
    obtain ⟨k111, ek112, hk113⟩ := zv_1_4 hI76 zc_0
    refine zt_get (pc' := 51) (v := .ref (X.1.1 + k111)) hX dX11_pane_48 rfl zf_X11_35 (by decide) zc_0 zs_1 (zrf_of ek112) ?_
    refine zt_put (pc' := 54) (x := ((k111 : Nat) : Int)) hX dX11_pane_51 rfl zf_X11_31 (by decide) zc_0 zs_1 (fun q hq => by cases hq; rfl) (zrf_of rfl) rfl rfl ?_
    generalize hs115 : zset s73 0 3 ((k111 : Nat) : Int) = s114
    have hI116 : zInv s114 := hs115 ▸ zp_1_3 hI76 zc_0 ⟨k111, rfl, hk113⟩
    have hF117 : zOn zPb σ s114 := hs115 ▸ zOn_set hF79 rfl
    have e118 : s114 27 7 = s73 27 7 := by rw [← hs115]; exact zset_k (zne_r zc_27 zc_0 (by decide))
    have e119 : s114 0 15 = s73 0 15 := by rw [← hs115]; exact zset_j (by decide)
    have e120 : s114 0 3 = ((k111 : Nat) : Int) := by rw [← hs115]; exact zset_s
    have e121 : s114 0 4 = s73 0 4 := by rw [← hs115]; exact zset_j (by decide)
    have e122 : s114 7 10 = s73 7 10 := by rw [← hs115]; exact zset_k (zne_r zc_7 zc_0 (by decide))
    have e123 : s114 7 11 = s73 7 11 := by rw [← hs115]; exact zset_k (zne_r zc_7 zc_0 (by decide))
    have e124 : s114 7 12 = s73 7 12 := by rw [← hs115]; exact zset_k (zne_r zc_7 zc_0 (by decide))
    have e125 : s114 17 10 = s73 17 10 := by rw [← hs115]; exact zset_k (zne_r zc_17 zc_0 (by decide))
    have e126 : s114 17 11 = s73 17 11 := by rw [← hs115]; exact zset_k (zne_r zc_17 zc_0 (by decide))
    have e127 : s114 17 12 = s73 17 12 := by rw [← hs115]; exact zset_k (zne_r zc_17 zc_0 (by decide))
    have e128 : s114 1 1 = s73 1 1 := by rw [← hs115]; exact zset_k (zne_r zc_1 zc_0 (by decide))
    have e129 : s114 27 8 = s73 27 8 := by rw [← hs115]; exact zset_k (zne_r zc_27 zc_0 (by decide))
    have e130 : s114 0 16 = s73 0 16 := by rw [← hs115]; exact zset_j (by decide)
    have nm131 : ∀ i : Nat, s114 9 i = s16 9 i := fun i => (show s114 9 i = s73 9 i by rw [← hs115]; exact zset_k (by decide)).trans (nm104 i)
    have nm132 : ∀ i : Nat, s114 19 i = σ 19 i := fun i => (show s114 19 i = s73 19 i by rw [← hs115]; exact zset_k (by decide)).trans (nm105 i)
    have ek133 : s114 0 3 = ((k111 : Nat) : Int) := by rw [← hs115]; exact zset_s
    refine zt_aload_n (pc' := 55) hX dX11_pane_54 rfl rfl ?_
    refine zt_aload_n (pc' := 56) hX dX11_pane_55 rfl rfl ?_
    refine zt_put (pc' := 59) (x := ((k108 : Nat) : Int)) hX dX11_pane_56 rfl zf_X11_35 (by decide) zc_0 zs_1 (fun q hq => by cases hq; rfl) (zrf_of rfl) rfl rfl ?_
    generalize hs135 : zset s114 0 4 ((k108 : Nat) : Int) = s134
    have hI136 : zInv s134 := hs135 ▸ zp_1_4 hI116 zc_0 ⟨k108, rfl, hk110⟩
    have hF137 : zOn zPb σ s134 := hs135 ▸ zOn_set hF117 rfl
    have e138 : s134 27 7 = s114 27 7 := by rw [← hs135]; exact zset_k (zne_r zc_27 zc_0 (by decide))
    have e139 : s134 0 15 = s114 0 15 := by rw [← hs135]; exact zset_j (by decide)
    have e140 : s134 0 3 = s114 0 3 := by rw [← hs135]; exact zset_j (by decide)
    have e141 : s134 0 4 = ((k108 : Nat) : Int) := by rw [← hs135]; exact zset_s
    have e142 : s134 7 10 = s114 7 10 := by rw [← hs135]; exact zset_k (zne_r zc_7 zc_0 (by decide))
    have e143 : s134 7 11 = s114 7 11 := by rw [← hs135]; exact zset_k (zne_r zc_7 zc_0 (by decide))
    have e144 : s134 7 12 = s114 7 12 := by rw [← hs135]; exact zset_k (zne_r zc_7 zc_0 (by decide))
    have e145 : s134 17 10 = s114 17 10 := by rw [← hs135]; exact zset_k (zne_r zc_17 zc_0 (by decide))
    have e146 : s134 17 11 = s114 17 11 := by rw [← hs135]; exact zset_k (zne_r zc_17 zc_0 (by decide))
    have e147 : s134 17 12 = s114 17 12 := by rw [← hs135]; exact zset_k (zne_r zc_17 zc_0 (by decide))
    have e148 : s134 1 1 = s114 1 1 := by rw [← hs135]; exact zset_k (zne_r zc_1 zc_0 (by decide))
    have e149 : s134 27 8 = s114 27 8 := by rw [← hs135]; exact zset_k (zne_r zc_27 zc_0 (by decide))
    have e150 : s134 0 16 = s114 0 16 := by rw [← hs135]; exact zset_j (by decide)
    have nm151 : ∀ i : Nat, s134 9 i = s16 9 i := fun i => (show s134 9 i = s114 9 i by rw [← hs135]; exact zset_k (by decide)).trans (nm131 i)
    have nm152 : ∀ i : Nat, s134 19 i = σ 19 i := fun i => (show s134 19 i = s114 19 i by rw [← hs135]; exact zset_k (by decide)).trans (nm132 i)
    have ek153 : s134 0 4 = ((k108 : Nat) : Int) := by rw [← hs135]; exact zset_s
    refine zt_aload_n (pc' := 60) hX dX11_pane_59 rfl rfl ?_
    refine zt_get (pc' := 63) (v := .ref (X.1.1 + 35)) hX dX11_pane_60 rfl zf_X11_66 (by decide) zc_0 zs_1 (zrf_of (zv_1_8 hI136 zc_0)) ?_
    refine zt_aload_n (pc' := 64) hX dX11_pane_63 rfl rfl ?_
    have ek155 : s134 0 3 = ((k111 : Nat) : Int) := by omega
    refine zt_get (pc' := 67) (v := .ref (X.1.1 + k111)) hX dX11_pane_64 rfl zf_X11_31 (by decide) zc_0 zs_1 (zrf_of ek155) ?_
    refine zt_cVv (pc' := 70) hX dX11_pane_67 rfl zm_yX10_begin zw_25_1 zc_35 (by decide) zs_22 (q := (RX10, TX10, 8)) rfl rfl (zc_X10_begin _ _ s134 hI136 35 zc_35 k111 hk113) rfl rfl (Nat.le_of_ble_eq_true rfl) (by decide) (fun r157 s158 hr159 hp160 => ?_)
    obtain ⟨hI161, hF162⟩ := hp160
    have hF163 := zOn_tr hF137 (zOn_be hF162) zi_id
    have b164 := zv_14_7 hI161 zc_27
    have b165 := zv_1_15 hI161 zc_0
    have b166 := zv_1_3 hI161 zc_0
    have b167 := zv_1_4 hI161 zc_0
    have b168 := zv_8_10 hI161 zc_7
    have b169 := zv_8_11 hI161 zc_7
    have b170 := zv_8_12 hI161 zc_7
    have b171 := zv_8_10 hI161 zc_17
    have b172 := zv_8_11 hI161 zc_17
    have b173 := zv_8_12 hI161 zc_17
    have b174 := zv_2_1 hI161 zc_1
    have b175 := zv_14_8 hI161 zc_27
    have b176 := zv_1_16 hI161 zc_0
    have e177 : s158 0 15 = s134 0 15 ∧ s158 0 16 = s134 0 16 := ⟨hF162.1.2.2.2.1, hF162.1.2.2.2.2⟩
    have nm178 : ∀ i : Nat, s158 9 i = s16 9 i := fun i => (congrFun (hF162.1.1 9 (by decide)) i).trans (nm151 i)
    have nm179 : ∀ i : Nat, s158 19 i = σ 19 i := fun i => (congrFun (hF162.1.1 19 (by decide)) i).trans (nm152 i)
    have e180 : s158 0 3 = s134 0 3 := hF162.1.2.1
    have e181 : s158 0 4 = s134 0 4 := hF162.1.2.2.1
    have e182 : s158 7 10 = s134 7 10 := congrFun (hF162.1.1 7 (by decide)) 10
    have e183 : s158 7 11 = s134 7 11 := congrFun (hF162.1.1 7 (by decide)) 11
    have e184 : s158 7 12 = s134 7 12 := congrFun (hF162.1.1 7 (by decide)) 12
    have e185 : s158 17 10 = s134 17 10 := congrFun (hF162.1.1 17 (by decide)) 10
    have e186 : s158 17 11 = s134 17 11 := congrFun (hF162.1.1 17 (by decide)) 11
    have e187 : s158 17 12 = s134 17 12 := congrFun (hF162.1.1 17 (by decide)) 12
    have e188 : s158 1 1 = s134 1 1 := hF162.2
    refine zt_aload_n (pc' := 71) hX dX11_pane_70 rfl rfl ?_
    refine zt_get (pc' := 74) (v := .ref (X.1.1 + 45)) hX dX11_pane_71 rfl zf_X11_76 (by decide) zc_0 zs_1 (zrf_of (zv_1_10 hI161 zc_0)) ?_
    refine zt_iconst (pc' := 75) hX dX11_pane_74 rfl ?_
    refine zt_put (pc' := 78) (x := 0) hX dX11_pane_75 rfl zf_X11_135 (by decide) zc_45 zs_27 (fun q hq => by cases hq; rfl) rfl rfl rfl ?_
    generalize hs190 : zset s158 45 2 0 = s189
    have hI191 : zInv s189 := hs190 ▸ zp_27_2 hI161 zc_45 ⟨by omega, by omega⟩
    have hF192 : zOn zPb σ s189 := hs190 ▸ zOn_set hF163 rfl
    have e193 : s189 27 7 = s158 27 7 := by rw [← hs190]; exact zset_k (zne_r zc_27 zc_45 (by decide))
    have e194 : s189 0 15 = s158 0 15 := by rw [← hs190]; exact zset_k (zne_r zc_0 zc_45 (by decide))
    have e195 : s189 0 3 = s158 0 3 := by rw [← hs190]; exact zset_k (zne_r zc_0 zc_45 (by decide))
    have e196 : s189 0 4 = s158 0 4 := by rw [← hs190]; exact zset_k (zne_r zc_0 zc_45 (by decide))
    have e197 : s189 7 10 = s158 7 10 := by rw [← hs190]; exact zset_k (zne_r zc_7 zc_45 (by decide))
    have e198 : s189 7 11 = s158 7 11 := by rw [← hs190]; exact zset_k (zne_r zc_7 zc_45 (by decide))
    have e199 : s189 7 12 = s158 7 12 := by rw [← hs190]; exact zset_k (zne_r zc_7 zc_45 (by decide))
    have e200 : s189 17 10 = s158 17 10 := by rw [← hs190]; exact zset_k (zne_r zc_17 zc_45 (by decide))
    have e201 : s189 17 11 = s158 17 11 := by rw [← hs190]; exact zset_k (zne_r zc_17 zc_45 (by decide))
    have e202 : s189 17 12 = s158 17 12 := by rw [← hs190]; exact zset_k (zne_r zc_17 zc_45 (by decide))
    have e203 : s189 1 1 = s158 1 1 := by rw [← hs190]; exact zset_k (zne_r zc_1 zc_45 (by decide))
    have e204 : s189 27 8 = s158 27 8 := by rw [← hs190]; exact zset_k (zne_r zc_27 zc_45 (by decide))
    have e205 : s189 0 16 = s158 0 16 := by rw [← hs190]; exact zset_k (zne_r zc_0 zc_45 (by decide))
    have nm206 : ∀ i : Nat, s189 9 i = s16 9 i := fun i => (show s189 9 i = s158 9 i by rw [← hs190]; exact zset_k (by decide)).trans (nm178 i)
    have nm207 : ∀ i : Nat, s189 19 i = σ 19 i := fun i => (show s189 19 i = s158 19 i by rw [← hs190]; exact zset_k (by decide)).trans (nm179 i)
    refine zt_aload_n (pc' := 79) hX dX11_pane_78 rfl rfl ?_
    refine zt_get (pc' := 82) (v := .ref (X.1.1 + 147)) hX dX11_pane_79 rfl zf_X11_83 (by decide) zc_0 zs_1 (zrf_of (zv_1_11 hI191 zc_0)) ?_
    refine zt_iconst (pc' := 83) hX dX11_pane_82 rfl ?_
    refine zt_put (pc' := 86) (x := 0) hX dX11_pane_83 rfl zf_X11_138 (by decide) zc_147 zs_29 (fun q hq => by cases hq; rfl) rfl rfl rfl ?_
    generalize hs209 : zset s189 147 5 0 = s208
    have hI210 : zInv s208 := hs209 ▸ zp_29_5 hI191 zc_147 ⟨by omega, by omega⟩
    have hF211 : zOn zPb σ s208 := hs209 ▸ zOn_set hF192 rfl
    have e212 : s208 27 7 = s189 27 7 := by rw [← hs209]; exact zset_k (zne_r zc_27 zc_147 (by decide))
    have e213 : s208 0 15 = s189 0 15 := by rw [← hs209]; exact zset_k (zne_r zc_0 zc_147 (by decide))
    have e214 : s208 0 3 = s189 0 3 := by rw [← hs209]; exact zset_k (zne_r zc_0 zc_147 (by decide))
    have e215 : s208 0 4 = s189 0 4 := by rw [← hs209]; exact zset_k (zne_r zc_0 zc_147 (by decide))
    have e216 : s208 7 10 = s189 7 10 := by rw [← hs209]; exact zset_k (zne_r zc_7 zc_147 (by decide))
    have e217 : s208 7 11 = s189 7 11 := by rw [← hs209]; exact zset_k (zne_r zc_7 zc_147 (by decide))
    have e218 : s208 7 12 = s189 7 12 := by rw [← hs209]; exact zset_k (zne_r zc_7 zc_147 (by decide))
    have e219 : s208 17 10 = s189 17 10 := by rw [← hs209]; exact zset_k (zne_r zc_17 zc_147 (by decide))
    have e220 : s208 17 11 = s189 17 11 := by rw [← hs209]; exact zset_k (zne_r zc_17 zc_147 (by decide))
    have e221 : s208 17 12 = s189 17 12 := by rw [← hs209]; exact zset_k (zne_r zc_17 zc_147 (by decide))
    have e222 : s208 1 1 = s189 1 1 := by rw [← hs209]; exact zset_k (zne_r zc_1 zc_147 (by decide))
    have e223 : s208 27 8 = s189 27 8 := by rw [← hs209]; exact zset_k (zne_r zc_27 zc_147 (by decide))
    have e224 : s208 0 16 = s189 0 16 := by rw [← hs209]; exact zset_k (zne_r zc_0 zc_147 (by decide))
    have nm225 : ∀ i : Nat, s208 9 i = s16 9 i := fun i => (show s208 9 i = s189 9 i by rw [← hs209]; exact zset_k (by decide)).trans (nm206 i)
    have nm226 : ∀ i : Nat, s208 19 i = σ 19 i := fun i => (show s208 19 i = s189 19 i by rw [← hs209]; exact zset_k (by decide)).trans (nm207 i)
    refine zt_iload_n (pc' := 87) hX dX11_pane_86 rfl rfl ?_
    exact zt_iret hX hR dX11_pane_87 ⟨by omega, by omega⟩ ⟨hI210, hF211, by omega, by omega, by omega, ⟨fun o => (z25 o).2, fun o => absurd (p50 (by omega)) (by rw [o]; decide)⟩, (fun o => ⟨by omega, by omega, yNc_of (z25 o).1 (by omega) ⟨by omega, by omega, by omega⟩⟩), (fun o => absurd (p50 (by omega)) (by rw [o]; decide)), (fun o => yNn_of (z25 o).1 (by omega) nm225), (fun o => absurd (p50 (by omega)) (by rw [o]; decide)), (yFj_eq fl48 (by omega) (by omega))⟩
  · refine zt_aload_n (pc' := 36) hX dX11_pane_35 rfl rfl ?_
    refine zt_iconst (pc' := 37) hX dX11_pane_36 rfl ?_
    refine zt_cVi (pc' := 40) hX dX11_pane_37 rfl zm_yX11_refusal zw_14_3 zc_0 (by decide) zs_1 (q := (RX11, TX11, 17)) rfl rfl (zc_X11_refusal _ _ s73 hI76 1 ⟨by omega, by omega⟩) rfl rfl (Nat.le_of_ble_eq_true rfl) (by decide) (fun r227 s228 hr229 hp230 => ?_)
    obtain ⟨hI231, hF232, q233, q234⟩ := hp230
    have hF235 := zOn_tr hF79 (zOn_be hF232) zi_id
    have b236 := zv_14_7 hI231 zc_27
    have b237 := zv_1_15 hI231 zc_0
    have b238 := zv_1_3 hI231 zc_0
    have b239 := zv_1_4 hI231 zc_0
    have b240 := zv_8_10 hI231 zc_7
    have b241 := zv_8_11 hI231 zc_7
    have b242 := zv_8_12 hI231 zc_7
    have b243 := zv_8_10 hI231 zc_17
    have b244 := zv_8_11 hI231 zc_17
    have b245 := zv_8_12 hI231 zc_17
    have b246 := zv_2_1 hI231 zc_1
    have b247 := zv_14_8 hI231 zc_27
    have b248 := zv_1_16 hI231 zc_0
    have e249 : s228 0 15 = s73 0 15 ∧ s228 0 16 = s73 0 16 := ⟨hF232.1.2.2.2.1, hF232.1.2.2.2.2⟩
    have nm250 : ∀ i : Nat, s228 9 i = s16 9 i := fun i => (congrFun (hF232.1.1 9 (by decide)) i).trans (nm104 i)
    have nm251 : ∀ i : Nat, s228 19 i = σ 19 i := fun i => (congrFun (hF232.1.1 19 (by decide)) i).trans (nm105 i)
    have e252 : s228 0 3 = s73 0 3 := hF232.1.2.1
    have e253 : s228 0 4 = s73 0 4 := hF232.1.2.2.1
    have e254 : s228 7 10 = s73 7 10 := congrFun (hF232.1.1 7 (by decide)) 10
    have e255 : s228 7 11 = s73 7 11 := congrFun (hF232.1.1 7 (by decide)) 11
    have e256 : s228 7 12 = s73 7 12 := congrFun (hF232.1.1 7 (by decide)) 12
    have e257 : s228 17 10 = s73 17 10 := congrFun (hF232.1.1 17 (by decide)) 10
    have e258 : s228 17 11 = s73 17 11 := congrFun (hF232.1.1 17 (by decide)) 11
    have e259 : s228 17 12 = s73 17 12 := congrFun (hF232.1.1 17 (by decide)) 12
    have e260 : s228 1 1 = s73 1 1 := hF232.2
    exact zt_iret hX hR dX11_pane_40 ⟨by omega, by omega⟩ ⟨hI231, hF235, by omega, by omega, by omega, ⟨fun o => absurd (p51 (by omega)) (by rw [o]; decide), fun _ => by omega⟩, (fun o => absurd (p51 (by omega)) (by rw [o]; decide)), (fun _ => ⟨by omega, by omega, by omega, by omega, by omega⟩), (fun o => absurd (p51 (by omega)) (by rw [o]; decide)), (fun _ => nm251), (yFj_eq fl48 (by omega) (by omega))⟩
set_option maxRecDepth 100000 in
set_option maxHeartbeats 4000000 in
theorem yd_X11_pane_17 (l : Launch) (E : zEN) (σ : zSto) (hI : zInv σ) (hpre0 : σ 0 4 = 17) (hpre1 : σ 0 3 = 7) (hW : yTab σ) : zCt l E yX11_pane cX11_pane 3 (some .int) 38 zNC zNC 0 0 σ [.ref (E.1 + 0)] (fun r σ' => zInv σ' ∧ zOn zPb σ σ' ∧ -1 ≤ r ∧ r ≤ 80 ∧ (σ' 1 1 = 0) ∧ (yAns (yAll (yT σ)) r) ∧ (yPo (yAll (yT σ)).1 = 1 → σ' 0 3 = 17 ∧ σ' 0 4 = 7 ∧ yNc σ' 17 (yAll (yT σ)).2.1) ∧ (yPo (yAll (yT σ)).1 = 0 → σ' 0 3 = σ 0 3 ∧ σ' 0 4 = σ 0 4 ∧ σ' 7 10 = σ 7 10 ∧ σ' 7 11 = σ 7 11 ∧ σ' 7 12 = σ 7 12) ∧ (yPo (yAll (yT σ)).1 = 1 → yNn σ' 17 (yAll (yT σ)).2.1) ∧ (yPo (yAll (yT σ)).1 = 0 → ∀ i : Nat, σ' 9 i = σ 9 i) ∧ (yFl (yAll (yT σ)).1 (σ' 0 15) (σ' 0 16))) := by
  refine zCt_of2 [some (.ref (E.1 + 0)), none, none] (by decide +kernel) (Nat.le_of_ble_eq_true rfl) rfl ?_
  intro X hE_ hX hR hL hN
  subst hE_
  have hX : zok X cX11_pane RX11 38 := hX
  have hF := zOn_rf zPb σ
  have b1 := zv_14_7 hI zc_27
  have b2 := zv_1_15 hI zc_0
  have b3 := zv_1_3 hI zc_0
  have b4 := zv_1_4 hI zc_0
  have b5 := zv_8_10 hI zc_7
  have b6 := zv_8_11 hI zc_7
  have b7 := zv_8_12 hI zc_7
  have b8 := zv_8_10 hI zc_17
  have b9 := zv_8_11 hI zc_17
  have b10 := zv_8_12 hI zc_17
  have b11 := zv_2_1 hI zc_1
  have b12 := zv_14_8 hI zc_27
  have b13 := zv_1_16 hI zc_0
  refine zt_aload_n (pc' := 1) hX dX11_pane_0 rfl rfl ?_
  refine zt_get (pc' := 4) (v := .ref (X.1.1 + 34)) hX dX11_pane_1 rfl zf_X11_59 (by decide) zc_0 zs_1 (zrf_of (zv_1_7 hI zc_0)) ?_
  refine zt_aload_n (pc' := 5) hX dX11_pane_4 rfl rfl ?_
  have ek14 : σ 0 4 = ((17 : Nat) : Int) := by omega
  refine zt_get (pc' := 8) (v := .ref (X.1.1 + 17)) hX dX11_pane_5 rfl zf_X11_35 (by decide) zc_0 zs_1 (zrf_of ek14) ?_
  refine zt_aload_n (pc' := 9) hX dX11_pane_8 rfl rfl ?_
  refine zt_get (pc' := 12) (v := .ref (X.1.1 + 1)) hX dX11_pane_9 rfl zf_X11_14 (by decide) zc_0 zs_1 (zrf_of (zv_1_0 hI zc_0)) ?_
  refine zt_cVi (pc' := 15) hX dX11_pane_12 rfl zm_yX8_readInto zw_15_14 zc_34 (by decide) zs_21 (q := (RX8, TX8, 3)) rfl rfl (yc_X8_readInto_17 _ _ σ hI hW) rfl rfl (Nat.le_of_ble_eq_true rfl) (by decide) (fun r15 s16 hr17 hp18 => ?_)
  obtain ⟨hI19, hF20, q21, q22, z23, z24, z25⟩ := hp18
  have hF26 := zOn_tr hF hF20 zi_t17b
  have b27 := zv_14_7 hI19 zc_27
  have b28 := zv_1_15 hI19 zc_0
  have b29 := zv_1_3 hI19 zc_0
  have b30 := zv_1_4 hI19 zc_0
  have b31 := zv_8_10 hI19 zc_7
  have b32 := zv_8_11 hI19 zc_7
  have b33 := zv_8_12 hI19 zc_7
  have b34 := zv_8_10 hI19 zc_17
  have b35 := zv_8_11 hI19 zc_17
  have b36 := zv_8_12 hI19 zc_17
  have b37 := zv_2_1 hI19 zc_1
  have b38 := zv_14_8 hI19 zc_27
  have b39 := zv_1_16 hI19 zc_0
  have e40 := hF20 0 15 rfl
  have e41 := hF20 0 3 rfl
  have e42 := hF20 0 4 rfl
  have e43 := hF20 7 10 rfl
  have e44 := hF20 7 11 rfl
  have e45 := hF20 7 12 rfl
  have e46 := hF20 1 1 rfl
  have e47 := hF20 0 16 rfl
  have fl48 := yFj_q z23 z24
  have p49 := yst_po (s := s16)
  rw [z24] at p49 z25
  clear z23 z24
  replace z25 : yIm _ _ := z25
  obtain ⟨p50, p51⟩ := p49
  replace p50 : yIm _ _ := p50
  replace p51 : yIm _ _ := p51
  have nm52 : ∀ i : Nat, s16 9 i = σ 9 i := fun i => (hF20 9 i rfl).trans ((fun _ => rfl) i)
  refine zt_istore_n (pc' := 16) (lv' := [some (.ref (X.1.1 + 0)), some (.int (zI r15)), none]) hX dX11_pane_15 rfl hL (by decide) rfl ?_
  refine zt_aload_n (pc' := 17) hX dX11_pane_16 rfl rfl ?_
  refine zt_get (pc' := 20) (v := .ref (X.1.1 + 1)) hX dX11_pane_17 rfl zf_X11_14 (by decide) zc_0 zs_1 (zrf_of (zv_1_0 hI19 zc_0)) ?_
  refine zt_iconst (pc' := 21) hX dX11_pane_20 rfl ?_
  refine zt_put (pc' := 24) (x := 0) hX dX11_pane_21 rfl zf_X11_110 (by decide) zc_1 zs_2 (fun q hq => by cases hq; rfl) rfl rfl rfl ?_
  generalize hs54 : zset s16 1 1 0 = s53
  have hI55 : zInv s53 := hs54 ▸ zp_2_1 hI19 zc_1 ⟨by omega, by omega⟩
  have hF56 : zOn zPb σ s53 := hs54 ▸ zOn_set hF26 rfl
  have e57 : s53 27 7 = s16 27 7 := by rw [← hs54]; exact zset_k (zne_r zc_27 zc_1 (by decide))
  have e58 : s53 0 15 = s16 0 15 := by rw [← hs54]; exact zset_k (zne_r zc_0 zc_1 (by decide))
  have e59 : s53 0 3 = s16 0 3 := by rw [← hs54]; exact zset_k (zne_r zc_0 zc_1 (by decide))
  have e60 : s53 0 4 = s16 0 4 := by rw [← hs54]; exact zset_k (zne_r zc_0 zc_1 (by decide))
  have e61 : s53 7 10 = s16 7 10 := by rw [← hs54]; exact zset_k (zne_r zc_7 zc_1 (by decide))
  have e62 : s53 7 11 = s16 7 11 := by rw [← hs54]; exact zset_k (zne_r zc_7 zc_1 (by decide))
  have e63 : s53 7 12 = s16 7 12 := by rw [← hs54]; exact zset_k (zne_r zc_7 zc_1 (by decide))
  have e64 : s53 17 10 = s16 17 10 := by rw [← hs54]; exact zset_k (zne_r zc_17 zc_1 (by decide))
  have e65 : s53 17 11 = s16 17 11 := by rw [← hs54]; exact zset_k (zne_r zc_17 zc_1 (by decide))
  have e66 : s53 17 12 = s16 17 12 := by rw [← hs54]; exact zset_k (zne_r zc_17 zc_1 (by decide))
  have e67 : s53 1 1 = 0 := by rw [← hs54]; exact zset_s
  have e68 : s53 27 8 = s16 27 8 := by rw [← hs54]; exact zset_k (zne_r zc_27 zc_1 (by decide))
  have e69 : s53 0 16 = s16 0 16 := by rw [← hs54]; exact zset_k (zne_r zc_0 zc_1 (by decide))
  have nm70 : ∀ i : Nat, s53 19 i = s16 19 i := fun i => (show s53 19 i = s16 19 i by rw [← hs54]; exact zset_k (by decide)).trans ((fun _ => rfl) i)
  have nm71 : ∀ i : Nat, s53 9 i = σ 9 i := fun i => (show s53 9 i = s16 9 i by rw [← hs54]; exact zset_k (by decide)).trans (nm52 i)
  refine zt_aload_n (pc' := 25) hX dX11_pane_24 rfl rfl ?_
  refine zt_cVv (pc' := 28) hX dX11_pane_25 rfl zm_yX11_rememberFault zw_24_19 zc_0 (by decide) zs_1 (q := (RX11, TX11, 17)) rfl rfl (yc_X11_rememberFault _ _ s53 hI55 ) rfl rfl (Nat.le_of_ble_eq_true rfl) (by decide) (fun r72 s73 hr74 hp75 => ?_)
  obtain ⟨hI76, hF77, z78⟩ := hp75
  have hF79 := zOn_tr hF56 hF77 zi_fb
  have b80 := zv_14_7 hI76 zc_27
  have b81 := zv_1_15 hI76 zc_0
  have b82 := zv_1_3 hI76 zc_0
  have b83 := zv_1_4 hI76 zc_0
  have b84 := zv_8_10 hI76 zc_7
  have b85 := zv_8_11 hI76 zc_7
  have b86 := zv_8_12 hI76 zc_7
  have b87 := zv_8_10 hI76 zc_17
  have b88 := zv_8_11 hI76 zc_17
  have b89 := zv_8_12 hI76 zc_17
  have b90 := zv_2_1 hI76 zc_1
  have b91 := zv_14_8 hI76 zc_27
  have b92 := zv_1_16 hI76 zc_0
  have e93 := hF77 27 7 rfl
  have e94 := hF77 0 3 rfl
  have e95 := hF77 0 4 rfl
  have e96 := hF77 7 10 rfl
  have e97 := hF77 7 11 rfl
  have e98 := hF77 7 12 rfl
  have e99 := hF77 17 10 rfl
  have e100 := hF77 17 11 rfl
  have e101 := hF77 17 12 rfl
  have e102 := hF77 1 1 rfl
  have e103 := hF77 27 8 rfl
  have nm104 : ∀ i : Nat, s73 19 i = s16 19 i := fun i => (hF77 19 i rfl).trans (nm70 i)
  have nm105 : ∀ i : Nat, s73 9 i = σ 9 i := fun i => (hF77 9 i rfl).trans (nm71 i)
  refine zt_aload_n (pc' := 29) hX dX11_pane_28 rfl rfl ?_
  have b106 := zv_1_15 hI76 zc_0
  refine zt_get (pc' := 32) (v := .int (zI (s73 0 15))) hX dX11_pane_29 rfl zf_X11_104 (by decide) zc_0 zs_1 rfl ?_
  refine zt_ifeq (pc' := 35) (tgt := 41) hX dX11_pane_32 rfl (by decide) ⟨by omega, by omega⟩ (fun c107 => ?_) (fun c107 => ?_)
  · refine zt_aload_n (pc' := 42) hX dX11_pane_41 rfl rfl ?_
    obtain ⟨k108, ek109, hk110⟩ := zv_1_3 hI76 zc_0
    refine zt_get (pc' := 45) (v := .ref (X.1.1 + k108)) hX dX11_pane_42 rfl zf_X11_31 (by decide) zc_0 zs_1 (zrf_of ek109) ?_
    refine zt_astore_n (pc' := 46) (lv' := [some (.ref (X.1.1 + 0)), some (.int (zI r15)), some (.ref (X.1.1 + k108))]) hX dX11_pane_45 rfl hL (by decide) rfl ?_
    refine zt_aload_n (pc' := 47) hX dX11_pane_46 rfl rfl ?_
    refine zt_aload_n (pc' := 48) hX dX11_pane_47 rfl rfl ?_
    obtain ⟨k111, ek112, hk113⟩ := zv_1_4 hI76 zc_0
    refine zt_get (pc' := 51) (v := .ref (X.1.1 + k111)) hX dX11_pane_48 rfl zf_X11_35 (by decide) zc_0 zs_1 (zrf_of ek112) ?_
    refine zt_put (pc' := 54) (x := ((k111 : Nat) : Int)) hX dX11_pane_51 rfl zf_X11_31 (by decide) zc_0 zs_1 (fun q hq => by cases hq; rfl) (zrf_of rfl) rfl rfl ?_
    generalize hs115 : zset s73 0 3 ((k111 : Nat) : Int) = s114
    have hI116 : zInv s114 := hs115 ▸ zp_1_3 hI76 zc_0 ⟨k111, rfl, hk113⟩
    have hF117 : zOn zPb σ s114 := hs115 ▸ zOn_set hF79 rfl
    have e118 : s114 27 7 = s73 27 7 := by rw [← hs115]; exact zset_k (zne_r zc_27 zc_0 (by decide))
    have e119 : s114 0 15 = s73 0 15 := by rw [← hs115]; exact zset_j (by decide)
    have e120 : s114 0 3 = ((k111 : Nat) : Int) := by rw [← hs115]; exact zset_s
    have e121 : s114 0 4 = s73 0 4 := by rw [← hs115]; exact zset_j (by decide)
    have e122 : s114 7 10 = s73 7 10 := by rw [← hs115]; exact zset_k (zne_r zc_7 zc_0 (by decide))
    have e123 : s114 7 11 = s73 7 11 := by rw [← hs115]; exact zset_k (zne_r zc_7 zc_0 (by decide))
    have e124 : s114 7 12 = s73 7 12 := by rw [← hs115]; exact zset_k (zne_r zc_7 zc_0 (by decide))
    have e125 : s114 17 10 = s73 17 10 := by rw [← hs115]; exact zset_k (zne_r zc_17 zc_0 (by decide))
    have e126 : s114 17 11 = s73 17 11 := by rw [← hs115]; exact zset_k (zne_r zc_17 zc_0 (by decide))
    have e127 : s114 17 12 = s73 17 12 := by rw [← hs115]; exact zset_k (zne_r zc_17 zc_0 (by decide))
    have e128 : s114 1 1 = s73 1 1 := by rw [← hs115]; exact zset_k (zne_r zc_1 zc_0 (by decide))
    have e129 : s114 27 8 = s73 27 8 := by rw [← hs115]; exact zset_k (zne_r zc_27 zc_0 (by decide))
    have e130 : s114 0 16 = s73 0 16 := by rw [← hs115]; exact zset_j (by decide)
    have nm131 : ∀ i : Nat, s114 19 i = s16 19 i := fun i => (show s114 19 i = s73 19 i by rw [← hs115]; exact zset_k (by decide)).trans (nm104 i)
    have nm132 : ∀ i : Nat, s114 9 i = σ 9 i := fun i => (show s114 9 i = s73 9 i by rw [← hs115]; exact zset_k (by decide)).trans (nm105 i)
    have ek133 : s114 0 3 = ((k111 : Nat) : Int) := by rw [← hs115]; exact zset_s
    refine zt_aload_n (pc' := 55) hX dX11_pane_54 rfl rfl ?_
    refine zt_aload_n (pc' := 56) hX dX11_pane_55 rfl rfl ?_
    refine zt_put (pc' := 59) (x := ((k108 : Nat) : Int)) hX dX11_pane_56 rfl zf_X11_35 (by decide) zc_0 zs_1 (fun q hq => by cases hq; rfl) (zrf_of rfl) rfl rfl ?_
    generalize hs135 : zset s114 0 4 ((k108 : Nat) : Int) = s134
    have hI136 : zInv s134 := hs135 ▸ zp_1_4 hI116 zc_0 ⟨k108, rfl, hk110⟩
    have hF137 : zOn zPb σ s134 := hs135 ▸ zOn_set hF117 rfl
    have e138 : s134 27 7 = s114 27 7 := by rw [← hs135]; exact zset_k (zne_r zc_27 zc_0 (by decide))
    have e139 : s134 0 15 = s114 0 15 := by rw [← hs135]; exact zset_j (by decide)
    have e140 : s134 0 3 = s114 0 3 := by rw [← hs135]; exact zset_j (by decide)
    have e141 : s134 0 4 = ((k108 : Nat) : Int) := by rw [← hs135]; exact zset_s
    have e142 : s134 7 10 = s114 7 10 := by rw [← hs135]; exact zset_k (zne_r zc_7 zc_0 (by decide))
    have e143 : s134 7 11 = s114 7 11 := by rw [← hs135]; exact zset_k (zne_r zc_7 zc_0 (by decide))
    have e144 : s134 7 12 = s114 7 12 := by rw [← hs135]; exact zset_k (zne_r zc_7 zc_0 (by decide))
    have e145 : s134 17 10 = s114 17 10 := by rw [← hs135]; exact zset_k (zne_r zc_17 zc_0 (by decide))
    have e146 : s134 17 11 = s114 17 11 := by rw [← hs135]; exact zset_k (zne_r zc_17 zc_0 (by decide))
    have e147 : s134 17 12 = s114 17 12 := by rw [← hs135]; exact zset_k (zne_r zc_17 zc_0 (by decide))
    have e148 : s134 1 1 = s114 1 1 := by rw [← hs135]; exact zset_k (zne_r zc_1 zc_0 (by decide))
    have e149 : s134 27 8 = s114 27 8 := by rw [← hs135]; exact zset_k (zne_r zc_27 zc_0 (by decide))
    have e150 : s134 0 16 = s114 0 16 := by rw [← hs135]; exact zset_j (by decide)
    have nm151 : ∀ i : Nat, s134 19 i = s16 19 i := fun i => (show s134 19 i = s114 19 i by rw [← hs135]; exact zset_k (by decide)).trans (nm131 i)
    have nm152 : ∀ i : Nat, s134 9 i = σ 9 i := fun i => (show s134 9 i = s114 9 i by rw [← hs135]; exact zset_k (by decide)).trans (nm132 i)
    have ek153 : s134 0 4 = ((k108 : Nat) : Int) := by rw [← hs135]; exact zset_s
    refine zt_aload_n (pc' := 60) hX dX11_pane_59 rfl rfl ?_
    refine zt_get (pc' := 63) (v := .ref (X.1.1 + 35)) hX dX11_pane_60 rfl zf_X11_66 (by decide) zc_0 zs_1 (zrf_of (zv_1_8 hI136 zc_0)) ?_
    refine zt_aload_n (pc' := 64) hX dX11_pane_63 rfl rfl ?_
    have ek155 : s134 0 3 = ((k111 : Nat) : Int) := by omega
    refine zt_get (pc' := 67) (v := .ref (X.1.1 + k111)) hX dX11_pane_64 rfl zf_X11_31 (by decide) zc_0 zs_1 (zrf_of ek155) ?_
    refine zt_cVv (pc' := 70) hX dX11_pane_67 rfl zm_yX10_begin zw_25_1 zc_35 (by decide) zs_22 (q := (RX10, TX10, 8)) rfl rfl (zc_X10_begin _ _ s134 hI136 35 zc_35 k111 hk113) rfl rfl (Nat.le_of_ble_eq_true rfl) (by decide) (fun r157 s158 hr159 hp160 => ?_)
    obtain ⟨hI161, hF162⟩ := hp160
    have hF163 := zOn_tr hF137 (zOn_be hF162) zi_id
    have b164 := zv_14_7 hI161 zc_27
    have b165 := zv_1_15 hI161 zc_0
    have b166 := zv_1_3 hI161 zc_0
    have b167 := zv_1_4 hI161 zc_0
    have b168 := zv_8_10 hI161 zc_7
    have b169 := zv_8_11 hI161 zc_7
    have b170 := zv_8_12 hI161 zc_7
    have b171 := zv_8_10 hI161 zc_17
    have b172 := zv_8_11 hI161 zc_17
    have b173 := zv_8_12 hI161 zc_17
    have b174 := zv_2_1 hI161 zc_1
    have b175 := zv_14_8 hI161 zc_27
    have b176 := zv_1_16 hI161 zc_0
    have e177 : s158 0 15 = s134 0 15 ∧ s158 0 16 = s134 0 16 := ⟨hF162.1.2.2.2.1, hF162.1.2.2.2.2⟩
    have nm178 : ∀ i : Nat, s158 19 i = s16 19 i := fun i => (congrFun (hF162.1.1 19 (by decide)) i).trans (nm151 i)
    have nm179 : ∀ i : Nat, s158 9 i = σ 9 i := fun i => (congrFun (hF162.1.1 9 (by decide)) i).trans (nm152 i)
    have e180 : s158 0 3 = s134 0 3 := hF162.1.2.1
    have e181 : s158 0 4 = s134 0 4 := hF162.1.2.2.1
    have e182 : s158 7 10 = s134 7 10 := congrFun (hF162.1.1 7 (by decide)) 10
    have e183 : s158 7 11 = s134 7 11 := congrFun (hF162.1.1 7 (by decide)) 11
    have e184 : s158 7 12 = s134 7 12 := congrFun (hF162.1.1 7 (by decide)) 12
    have e185 : s158 17 10 = s134 17 10 := congrFun (hF162.1.1 17 (by decide)) 10
    have e186 : s158 17 11 = s134 17 11 := congrFun (hF162.1.1 17 (by decide)) 11
    have e187 : s158 17 12 = s134 17 12 := congrFun (hF162.1.1 17 (by decide)) 12
    have e188 : s158 1 1 = s134 1 1 := hF162.2
    refine zt_aload_n (pc' := 71) hX dX11_pane_70 rfl rfl ?_
    refine zt_get (pc' := 74) (v := .ref (X.1.1 + 45)) hX dX11_pane_71 rfl zf_X11_76 (by decide) zc_0 zs_1 (zrf_of (zv_1_10 hI161 zc_0)) ?_
    refine zt_iconst (pc' := 75) hX dX11_pane_74 rfl ?_
    refine zt_put (pc' := 78) (x := 0) hX dX11_pane_75 rfl zf_X11_135 (by decide) zc_45 zs_27 (fun q hq => by cases hq; rfl) rfl rfl rfl ?_
    generalize hs190 : zset s158 45 2 0 = s189
    have hI191 : zInv s189 := hs190 ▸ zp_27_2 hI161 zc_45 ⟨by omega, by omega⟩
    have hF192 : zOn zPb σ s189 := hs190 ▸ zOn_set hF163 rfl
    have e193 : s189 27 7 = s158 27 7 := by rw [← hs190]; exact zset_k (zne_r zc_27 zc_45 (by decide))
    have e194 : s189 0 15 = s158 0 15 := by rw [← hs190]; exact zset_k (zne_r zc_0 zc_45 (by decide))
    have e195 : s189 0 3 = s158 0 3 := by rw [← hs190]; exact zset_k (zne_r zc_0 zc_45 (by decide))
    have e196 : s189 0 4 = s158 0 4 := by rw [← hs190]; exact zset_k (zne_r zc_0 zc_45 (by decide))
    have e197 : s189 7 10 = s158 7 10 := by rw [← hs190]; exact zset_k (zne_r zc_7 zc_45 (by decide))
    have e198 : s189 7 11 = s158 7 11 := by rw [← hs190]; exact zset_k (zne_r zc_7 zc_45 (by decide))
    have e199 : s189 7 12 = s158 7 12 := by rw [← hs190]; exact zset_k (zne_r zc_7 zc_45 (by decide))
    have e200 : s189 17 10 = s158 17 10 := by rw [← hs190]; exact zset_k (zne_r zc_17 zc_45 (by decide))
    have e201 : s189 17 11 = s158 17 11 := by rw [← hs190]; exact zset_k (zne_r zc_17 zc_45 (by decide))
    have e202 : s189 17 12 = s158 17 12 := by rw [← hs190]; exact zset_k (zne_r zc_17 zc_45 (by decide))
    have e203 : s189 1 1 = s158 1 1 := by rw [← hs190]; exact zset_k (zne_r zc_1 zc_45 (by decide))
    have e204 : s189 27 8 = s158 27 8 := by rw [← hs190]; exact zset_k (zne_r zc_27 zc_45 (by decide))
    have e205 : s189 0 16 = s158 0 16 := by rw [← hs190]; exact zset_k (zne_r zc_0 zc_45 (by decide))
    have nm206 : ∀ i : Nat, s189 19 i = s16 19 i := fun i => (show s189 19 i = s158 19 i by rw [← hs190]; exact zset_k (by decide)).trans (nm178 i)
    have nm207 : ∀ i : Nat, s189 9 i = σ 9 i := fun i => (show s189 9 i = s158 9 i by rw [← hs190]; exact zset_k (by decide)).trans (nm179 i)
    refine zt_aload_n (pc' := 79) hX dX11_pane_78 rfl rfl ?_
    refine zt_get (pc' := 82) (v := .ref (X.1.1 + 147)) hX dX11_pane_79 rfl zf_X11_83 (by decide) zc_0 zs_1 (zrf_of (zv_1_11 hI191 zc_0)) ?_
    refine zt_iconst (pc' := 83) hX dX11_pane_82 rfl ?_
    refine zt_put (pc' := 86) (x := 0) hX dX11_pane_83 rfl zf_X11_138 (by decide) zc_147 zs_29 (fun q hq => by cases hq; rfl) rfl rfl rfl ?_
    generalize hs209 : zset s189 147 5 0 = s208
    have hI210 : zInv s208 := hs209 ▸ zp_29_5 hI191 zc_147 ⟨by omega, by omega⟩
    have hF211 : zOn zPb σ s208 := hs209 ▸ zOn_set hF192 rfl
    have e212 : s208 27 7 = s189 27 7 := by rw [← hs209]; exact zset_k (zne_r zc_27 zc_147 (by decide))
    have e213 : s208 0 15 = s189 0 15 := by rw [← hs209]; exact zset_k (zne_r zc_0 zc_147 (by decide))
    have e214 : s208 0 3 = s189 0 3 := by rw [← hs209]; exact zset_k (zne_r zc_0 zc_147 (by decide))
    have e215 : s208 0 4 = s189 0 4 := by rw [← hs209]; exact zset_k (zne_r zc_0 zc_147 (by decide))
    have e216 : s208 7 10 = s189 7 10 := by rw [← hs209]; exact zset_k (zne_r zc_7 zc_147 (by decide))
    have e217 : s208 7 11 = s189 7 11 := by rw [← hs209]; exact zset_k (zne_r zc_7 zc_147 (by decide))
    have e218 : s208 7 12 = s189 7 12 := by rw [← hs209]; exact zset_k (zne_r zc_7 zc_147 (by decide))
    have e219 : s208 17 10 = s189 17 10 := by rw [← hs209]; exact zset_k (zne_r zc_17 zc_147 (by decide))
    have e220 : s208 17 11 = s189 17 11 := by rw [← hs209]; exact zset_k (zne_r zc_17 zc_147 (by decide))
    have e221 : s208 17 12 = s189 17 12 := by rw [← hs209]; exact zset_k (zne_r zc_17 zc_147 (by decide))
    have e222 : s208 1 1 = s189 1 1 := by rw [← hs209]; exact zset_k (zne_r zc_1 zc_147 (by decide))
    have e223 : s208 27 8 = s189 27 8 := by rw [← hs209]; exact zset_k (zne_r zc_27 zc_147 (by decide))
    have e224 : s208 0 16 = s189 0 16 := by rw [← hs209]; exact zset_k (zne_r zc_0 zc_147 (by decide))
    have nm225 : ∀ i : Nat, s208 19 i = s16 19 i := fun i => (show s208 19 i = s189 19 i by rw [← hs209]; exact zset_k (by decide)).trans (nm206 i)
    have nm226 : ∀ i : Nat, s208 9 i = σ 9 i := fun i => (show s208 9 i = s189 9 i by rw [← hs209]; exact zset_k (by decide)).trans (nm207 i)
    refine zt_iload_n (pc' := 87) hX dX11_pane_86 rfl rfl ?_
    exact zt_iret hX hR dX11_pane_87 ⟨by omega, by omega⟩ ⟨hI210, hF211, by omega, by omega, by omega, ⟨fun o => (z25 o).2, fun o => absurd (p50 (by omega)) (by rw [o]; decide)⟩, (fun o => ⟨by omega, by omega, yNc_of (z25 o).1 (by omega) ⟨by omega, by omega, by omega⟩⟩), (fun o => absurd (p50 (by omega)) (by rw [o]; decide)), (fun o => yNn_of (z25 o).1 (by omega) nm225), (fun o => absurd (p50 (by omega)) (by rw [o]; decide)), (yFj_eq fl48 (by omega) (by omega))⟩
  · refine zt_aload_n (pc' := 36) hX dX11_pane_35 rfl rfl ?_
    refine zt_iconst (pc' := 37) hX dX11_pane_36 rfl ?_
    refine zt_cVi (pc' := 40) hX dX11_pane_37 rfl zm_yX11_refusal zw_14_3 zc_0 (by decide) zs_1 (q := (RX11, TX11, 17)) rfl rfl (zc_X11_refusal _ _ s73 hI76 1 ⟨by omega, by omega⟩) rfl rfl (Nat.le_of_ble_eq_true rfl) (by decide) (fun r227 s228 hr229 hp230 => ?_)
    obtain ⟨hI231, hF232, q233, q234⟩ := hp230
    have hF235 := zOn_tr hF79 (zOn_be hF232) zi_id
    have b236 := zv_14_7 hI231 zc_27
    have b237 := zv_1_15 hI231 zc_0
    have b238 := zv_1_3 hI231 zc_0
    have b239 := zv_1_4 hI231 zc_0
    have b240 := zv_8_10 hI231 zc_7
    have b241 := zv_8_11 hI231 zc_7
    have b242 := zv_8_12 hI231 zc_7
    have b243 := zv_8_10 hI231 zc_17
    have b244 := zv_8_11 hI231 zc_17
    have b245 := zv_8_12 hI231 zc_17
    have b246 := zv_2_1 hI231 zc_1
    have b247 := zv_14_8 hI231 zc_27
    have b248 := zv_1_16 hI231 zc_0
    have e249 : s228 0 15 = s73 0 15 ∧ s228 0 16 = s73 0 16 := ⟨hF232.1.2.2.2.1, hF232.1.2.2.2.2⟩
    have nm250 : ∀ i : Nat, s228 19 i = s16 19 i := fun i => (congrFun (hF232.1.1 19 (by decide)) i).trans (nm104 i)
    have nm251 : ∀ i : Nat, s228 9 i = σ 9 i := fun i => (congrFun (hF232.1.1 9 (by decide)) i).trans (nm105 i)
    have e252 : s228 0 3 = s73 0 3 := hF232.1.2.1
    have e253 : s228 0 4 = s73 0 4 := hF232.1.2.2.1
    have e254 : s228 7 10 = s73 7 10 := congrFun (hF232.1.1 7 (by decide)) 10
    have e255 : s228 7 11 = s73 7 11 := congrFun (hF232.1.1 7 (by decide)) 11
    have e256 : s228 7 12 = s73 7 12 := congrFun (hF232.1.1 7 (by decide)) 12
    have e257 : s228 17 10 = s73 17 10 := congrFun (hF232.1.1 17 (by decide)) 10
    have e258 : s228 17 11 = s73 17 11 := congrFun (hF232.1.1 17 (by decide)) 11
    have e259 : s228 17 12 = s73 17 12 := congrFun (hF232.1.1 17 (by decide)) 12
    have e260 : s228 1 1 = s73 1 1 := hF232.2
    exact zt_iret hX hR dX11_pane_40 ⟨by omega, by omega⟩ ⟨hI231, hF235, by omega, by omega, by omega, ⟨fun o => absurd (p51 (by omega)) (by rw [o]; decide), fun _ => by omega⟩, (fun o => absurd (p51 (by omega)) (by rw [o]; decide)), (fun _ => ⟨by omega, by omega, by omega, by omega, by omega⟩), (fun o => absurd (p51 (by omega)) (by rw [o]; decide)), (fun _ => nm251), (yFj_eq fl48 (by omega) (by omega))⟩
