set_option maxRecDepth 100000 in
set_option maxHeartbeats 4000000 in
theorem zn_X11 (l : Launch) (E : zEN) (z : zST) (σ : zSto) (hI : zIR σ) (hD : zDf σ 0) (hz : yzs z) : zCt2 l E z yX11_init cX11_init 1 none 5 1 164 163 21726 σ [.ref (E.1 + 0)] (fun _ σ' => zCp σ σ' 0 164 ∧ σ' 1 1 = 0 ∧ yTab σ' ∧ (σ' 7 10 = 0 ∧ σ' 7 11 = 0 ∧ σ' 7 12 = 0) ∧ σ' 0 3 = 7 ∧ σ' 0 4 = 17 ∧ σ' 0 15 = 0 ∧ σ' 0 16 = -1) := by
  refine zCt2_of [some (.ref (E.1 + 0))] (by decide +kernel) (Nat.le_of_ble_eq_true rfl) rfl ?_
  intro X hE hX hR hL hN hxs
  subst hE
  have hX : zok X cX11_init RX11 5 := hX
  have q0 := zCs_0 hI hD
  refine zt_aload_n (pc' := 1) hX dX11_init_0 rfl rfl ?_
  refine zt_oinit (pc' := 4) hX (by decide) dX11_init_1 rfl zw_1_9 zw_1_10 zw_1_11 rfl ?_
  refine zt_aload_n (pc' := 5) hX dX11_init_4 rfl rfl ?_
  refine zt_new (pc' := 8) (c := 9) (q := (RX9, TX9, 2)) hX dX11_init_5 rfl rfl zw_1_12 zw_1_13 zw_1_14 (by decide) zc_1 zs_2 (by decide) (zCs_nx q0) ⟨by rw [hN.2.1]; exact Nat.le_of_ble_eq_true rfl, by rw [hN.2.2]; exact Nat.le_of_ble_eq_true rfl⟩ ?_
  refine zt_dup (pc' := 9) hX dX11_init_8 rfl rfl ?_
  refine zt_sipush (pc' := 12) hX dX11_init_9 rfl (by decide) (by decide) ?_
  refine zt_callI (pc' := 15) (As := [.int (zI 1600)]) (k := 1) hX (zn_X9_1 _ _ σ  q0.1 q0.2.1 ) zm_yX9_init dX11_init_12 rfl zw_3_12 rfl rfl (Nat.le_of_ble_eq_true rfl) (by decide) ⟨by rw [hN.2.1]; exact Nat.le_of_ble_eq_true rfl, by rw [hN.2.2]; exact Nat.le_of_ble_eq_true rfl⟩ (fun _ s1 hp2 => ?_)
  obtain ⟨hp2, x4⟩ := hp2
  have q3 := zCs_sub (n' := 3) q0 hp2 (by omega)
  refine zt_putF (pc' := 18) (x := ((1 : Nat) : Int)) hX dX11_init_15 rfl hN.1 zf_X11_14 (by omega) zc_0 zs_1 (fun q hq => by cases hq; exact ⟨rfl, rfl⟩) (zrf_of rfl) rfl rfl ?_
  generalize hs6 : zset s1 0 0 ((1 : Nat) : Int) = s5
  have q7 := zCs_ref hs6 q3 zc_0 zs_1 rfl (by omega) (by decide)
  have x8 : s5 1 1 = 0 := by rw [← hs6]; exact (zset_k (by decide)).trans x4
  refine zt_aload_n (pc' := 19) hX dX11_init_18 rfl rfl ?_
  refine zt_new (pc' := 22) (c := 9) (q := (RX9, TX9, 2)) hX dX11_init_19 rfl rfl zw_1_12 zw_1_13 zw_1_14 (by decide) zc_3 zs_4 (by decide) (zCs_nx q7) ⟨by rw [hN.2.1]; exact Nat.le_of_ble_eq_true rfl, by rw [hN.2.2]; exact Nat.le_of_ble_eq_true rfl⟩ ?_
  refine zt_dup (pc' := 23) hX dX11_init_22 rfl rfl ?_
  refine zt_bipush (pc' := 25) hX dX11_init_23 rfl (by decide) (by decide) ?_
  refine zt_callI (pc' := 28) (As := [.int (zI 80)]) (k := 3) hX (zn_X9_2 _ _ s5  q7.1 q7.2.1 ) zm_yX9_init dX11_init_25 rfl zw_3_12 rfl rfl (Nat.le_of_ble_eq_true rfl) (by decide) ⟨by rw [hN.2.1]; exact Nat.le_of_ble_eq_true rfl, by rw [hN.2.2]; exact Nat.le_of_ble_eq_true rfl⟩ (fun _ s9 hp10 => ?_)
  have x12 : s9 1 1 = 0 := (zCp_e hp10 (by omega) 1).trans x8
  have q11 := zCs_sub (n' := 5) q7 hp10 (by omega)
  refine zt_putF (pc' := 31) (x := ((3 : Nat) : Int)) hX dX11_init_28 rfl hN.1 zf_X11_18 (by omega) zc_0 zs_1 (fun q hq => by cases hq; exact ⟨rfl, rfl⟩) (zrf_of rfl) rfl rfl ?_
  generalize hs14 : zset s9 0 1 ((3 : Nat) : Int) = s13
  have q15 := zCs_ref hs14 q11 zc_0 zs_1 rfl (by omega) (by decide)
  have x16 : s13 1 1 = 0 := by rw [← hs14]; exact (zset_k (by decide)).trans x12
  refine zt_aload_n (pc' := 32) hX dX11_init_31 rfl rfl ?_
  refine zt_new (pc' := 35) (c := 4) (q := (RX4, TX4, 2)) hX dX11_init_32 rfl rfl zw_1_17 zw_1_18 zw_1_19 (by decide) zc_5 zs_6 (by decide) (zCs_nx q15) ⟨by rw [hN.2.1]; exact Nat.le_of_ble_eq_true rfl, by rw [hN.2.2]; exact Nat.le_of_ble_eq_true rfl⟩ ?_
  refine zt_dup (pc' := 36) hX dX11_init_35 rfl rfl ?_
  refine zt_callIN (pc' := 39) (As := []) (k := 5) hX (zn_X4 _ _ s13 5 zc_5 q15.1 q15.2.1 ) zm_yX4_init dX11_init_36 rfl (by decide +kernel) rfl rfl (Nat.le_of_ble_eq_true rfl) (by decide) ⟨by rw [hN.2.1]; exact Nat.le_of_ble_eq_true rfl, by rw [hN.2.2]; exact Nat.le_of_ble_eq_true rfl⟩ (fun _ s17 hp18 => ?_)
  have x20 : s17 1 1 = 0 := (zCp_e hp18 (by omega) 1).trans x16
  have q19 := zCs_sub (n' := 7) q15 hp18 (by omega)
  refine zt_putF (pc' := 42) (x := ((5 : Nat) : Int)) hX dX11_init_39 rfl hN.1 zf_X11_24 (by omega) zc_0 zs_1 (fun q hq => by cases hq; exact ⟨rfl, rfl⟩) (zrf_of rfl) rfl rfl ?_
  generalize hs22 : zset s17 0 2 ((5 : Nat) : Int) = s21
  have q23 := zCs_ref hs22 q19 zc_0 zs_1 rfl (by omega) (by decide)
  have x24 : s21 1 1 = 0 := by rw [← hs22]; exact (zset_k (by decide)).trans x20
  have e25 : s21 0 2 = ((5 : Nat) : Int) := by rw [← hs22]; exact zset_s
  refine zt_aload_n (pc' := 43) hX dX11_init_42 rfl rfl ?_
  refine zt_new (pc' := 46) (c := 3) (q := (RX3, TX3, 17)) hX dX11_init_43 rfl rfl zw_1_21 zw_1_22 zw_1_23 (by decide) zc_7 zs_8 (by decide) (zCs_nx q23) ⟨by rw [hN.2.1]; exact Nat.le_of_ble_eq_true rfl, by rw [hN.2.2]; exact Nat.le_of_ble_eq_true rfl⟩ ?_
  refine zt_dup (pc' := 47) hX dX11_init_46 rfl rfl ?_
  refine zt_callIN (pc' := 50) (As := []) (k := 7) hX (zn_X3 _ _ s21 7 zc_7 q23.1 q23.2.1 ) zm_yX3_init dX11_init_47 rfl (by decide +kernel) rfl rfl (Nat.le_of_ble_eq_true rfl) (by decide) ⟨by rw [hN.2.1]; exact Nat.le_of_ble_eq_true rfl, by rw [hN.2.2]; exact Nat.le_of_ble_eq_true rfl⟩ (fun _ s26 hp27 => ?_)
  obtain ⟨hp27, pp_s26⟩ := hp27
  have x29 : s26 1 1 = 0 := (zCp_e hp27 (by omega) 1).trans x24
  have q28 := zCs_sub (n' := 17) q23 hp27 (by omega)
  have e30 : s26 0 2 = ((5 : Nat) : Int) := (zCp_e hp27 (by omega) 2).trans e25
  refine zt_put (pc' := 53) (x := ((7 : Nat) : Int)) hX dX11_init_50 rfl zf_X11_31 (by omega) zc_0 zs_1 (fun q hq => by cases hq; rfl) (zrf_of rfl) rfl rfl ?_
  generalize hs32 : zset s26 0 3 ((7 : Nat) : Int) = s31
  have q33 := zCs_ref hs32 q28 zc_0 zs_1 ⟨7, rfl, zc_7⟩ (by omega) (by decide)
  have e34 : s31 0 2 = ((5 : Nat) : Int) := by rw [← hs32]; exact (zset_j (by decide)).trans e30
  have x35 : s31 1 1 = 0 := by rw [← hs32]; exact (zset_k (by decide)).trans x29
  have pp_s31 : s31 7 10 = 0 ∧ s31 7 11 = 0 ∧ s31 7 12 = 0 := by rw [← hs32, zset_k (by decide), zset_k (by decide), zset_k (by decide)]; exact pp_s26
  have e36 : s31 0 3 = ((7 : Nat) : Int) := by rw [← hs32]; exact zset_s
  refine zt_aload_n (pc' := 54) hX dX11_init_53 rfl rfl ?_
  refine zt_new (pc' := 57) (c := 3) (q := (RX3, TX3, 17)) hX dX11_init_54 rfl rfl zw_1_21 zw_1_22 zw_1_23 (by decide) zc_17 zs_8 (by decide) (zCs_nx q33) ⟨by rw [hN.2.1]; exact Nat.le_of_ble_eq_true rfl, by rw [hN.2.2]; exact Nat.le_of_ble_eq_true rfl⟩ ?_
  refine zt_dup (pc' := 58) hX dX11_init_57 rfl rfl ?_
  refine zt_callIN (pc' := 61) (As := []) (k := 17) hX (zn_X3 _ _ s31 17 zc_17 q33.1 q33.2.1 ) zm_yX3_init dX11_init_58 rfl (by decide +kernel) rfl rfl (Nat.le_of_ble_eq_true rfl) (by decide) ⟨by rw [hN.2.1]; exact Nat.le_of_ble_eq_true rfl, by rw [hN.2.2]; exact Nat.le_of_ble_eq_true rfl⟩ (fun _ s37 hp38 => ?_)
  obtain ⟨hp38, -⟩ := hp38
  have x40 : s37 1 1 = 0 := (zCp_e hp38 (by omega) 1).trans x35
  have pp_s37 : s37 7 10 = 0 ∧ s37 7 11 = 0 ∧ s37 7 12 = 0 := ⟨(zCp_e hp38 (by omega) 10).trans pp_s31.1, (zCp_e hp38 (by omega) 11).trans pp_s31.2.1, (zCp_e hp38 (by omega) 12).trans pp_s31.2.2⟩
  have q39 := zCs_sub (n' := 27) q33 hp38 (by omega)
  have e41 : s37 0 2 = ((5 : Nat) : Int) := (zCp_e hp38 (by omega) 2).trans e34
  have e42 : s37 0 3 = ((7 : Nat) : Int) := (zCp_e hp38 (by omega) 3).trans e36
  refine zt_put (pc' := 64) (x := ((17 : Nat) : Int)) hX dX11_init_61 rfl zf_X11_35 (by omega) zc_0 zs_1 (fun q hq => by cases hq; rfl) (zrf_of rfl) rfl rfl ?_
  generalize hs44 : zset s37 0 4 ((17 : Nat) : Int) = s43
  have q45 := zCs_ref hs44 q39 zc_0 zs_1 ⟨17, rfl, zc_17⟩ (by omega) (by decide)
  have e46 : s43 0 2 = ((5 : Nat) : Int) := by rw [← hs44]; exact (zset_j (by decide)).trans e41
  have e47 : s43 0 3 = ((7 : Nat) : Int) := by rw [← hs44]; exact (zset_j (by decide)).trans e42
  have x48 : s43 1 1 = 0 := by rw [← hs44]; exact (zset_k (by decide)).trans x40
  have pp_s43 : s43 7 10 = 0 ∧ s43 7 11 = 0 ∧ s43 7 12 = 0 := by rw [← hs44, zset_k (by decide), zset_k (by decide), zset_k (by decide)]; exact pp_s37
  have uu_s43 : s43 0 3 = 7 ∧ s43 0 4 = 17 := ⟨e47, by rw [← hs44]; exact zset_s⟩
  have e49 : s43 0 4 = ((17 : Nat) : Int) := by rw [← hs44]; exact zset_s
  refine zt_aload_n (pc' := 65) hX dX11_init_64 rfl rfl ?_
  refine zt_new (pc' := 68) (c := 5) (q := (RX5, TX5, 9)) hX dX11_init_65 rfl rfl zw_2_2 zw_2_3 zw_2_4 (by decide) zc_27 zs_14 (by decide) (zCs_nx q45) ⟨by rw [hN.2.1]; exact Nat.le_of_ble_eq_true rfl, by rw [hN.2.2]; exact Nat.le_of_ble_eq_true rfl⟩ ?_
  refine zt_dup (pc' := 69) hX dX11_init_68 rfl rfl ?_
  refine zt_callI2 (pc' := 72) (As := []) (k := 27) hX hxs (zn_X5 _ _ z s43  q45.1 q45.2.1 hz) zm_yX5_init dX11_init_69 rfl zw_4_21 rfl rfl (Nat.le_of_ble_eq_true rfl) (by decide) ⟨by rw [hN.2.1]; exact Nat.le_of_ble_eq_true rfl, by rw [hN.2.2]; exact Nat.le_of_ble_eq_true rfl⟩ (fun _ s50 hp51 => ?_)
  obtain ⟨hp51, tt_s50⟩ := hp51
  have x53 : s50 1 1 = 0 := (zCp_e hp51 (by omega) 1).trans x48
  have pp_s50 : s50 7 10 = 0 ∧ s50 7 11 = 0 ∧ s50 7 12 = 0 := ⟨(zCp_e hp51 (by omega) 10).trans pp_s43.1, (zCp_e hp51 (by omega) 11).trans pp_s43.2.1, (zCp_e hp51 (by omega) 12).trans pp_s43.2.2⟩
  have uu_s50 : s50 0 3 = 7 ∧ s50 0 4 = 17 := ⟨(zCp_e hp51 (by omega) 3).trans uu_s43.1, (zCp_e hp51 (by omega) 4).trans uu_s43.2⟩
  have q52 := zCs_sub (n' := 33) q45 hp51 (by omega)
  have e54 : s50 0 2 = ((5 : Nat) : Int) := (zCp_e hp51 (by omega) 2).trans e46
  have e55 : s50 0 3 = ((7 : Nat) : Int) := (zCp_e hp51 (by omega) 3).trans e47
  have e56 : s50 0 4 = ((17 : Nat) : Int) := (zCp_e hp51 (by omega) 4).trans e49
  refine zt_putF (pc' := 75) (x := ((27 : Nat) : Int)) hX dX11_init_72 rfl hN.1 zf_X11_41 (by omega) zc_0 zs_1 (fun q hq => by cases hq; exact ⟨rfl, rfl⟩) (zrf_of rfl) rfl rfl ?_
  generalize hs58 : zset s50 0 5 ((27 : Nat) : Int) = s57
  have q59 := zCs_ref hs58 q52 zc_0 zs_1 rfl (by omega) (by decide)
  have e60 : s57 0 2 = ((5 : Nat) : Int) := by rw [← hs58]; exact (zset_j (by decide)).trans e54
  have e61 : s57 0 3 = ((7 : Nat) : Int) := by rw [← hs58]; exact (zset_j (by decide)).trans e55
  have e62 : s57 0 4 = ((17 : Nat) : Int) := by rw [← hs58]; exact (zset_j (by decide)).trans e56
  have x63 : s57 1 1 = 0 := by rw [← hs58]; exact (zset_k (by decide)).trans x53
  have tt_s57 : yTab s57 := fun i hi => by rw [← hs58]; exact (zset_k (by decide)).trans (tt_s50 i hi)
  have pp_s57 : s57 7 10 = 0 ∧ s57 7 11 = 0 ∧ s57 7 12 = 0 := by rw [← hs58, zset_k (by decide), zset_k (by decide), zset_k (by decide)]; exact pp_s50
  have uu_s57 : s57 0 3 = 7 ∧ s57 0 4 = 17 := by rw [← hs58, zset_j (by decide), zset_j (by decide)]; exact uu_s50
  have e64 : s57 0 5 = ((27 : Nat) : Int) := by rw [← hs58]; exact zset_s
  refine zt_aload_n (pc' := 76) hX dX11_init_75 rfl rfl ?_
  refine zt_new (pc' := 79) (c := 1) (q := (RX1, TX1, 3)) hX dX11_init_76 rfl rfl zw_2_6 zw_2_7 zw_2_8 (by decide) zc_33 zs_20 (by decide) (zCs_nx q59) ⟨by rw [hN.2.1]; exact Nat.le_of_ble_eq_true rfl, by rw [hN.2.2]; exact Nat.le_of_ble_eq_true rfl⟩ ?_
  refine zt_dup (pc' := 80) hX dX11_init_79 rfl rfl ?_
  refine zt_aload_n (pc' := 81) hX dX11_init_80 rfl rfl ?_
  refine zt_get (pc' := 84) (v := .ref (X.1.1 + 27)) hX dX11_init_81 rfl zf_X11_41 (by omega) zc_0 zs_1 (zrf_of e64) ?_
  refine zt_aload_n (pc' := 85) hX dX11_init_84 rfl rfl ?_
  refine zt_get (pc' := 88) (v := .ref (X.1.1 + 5)) hX dX11_init_85 rfl zf_X11_24 (by omega) zc_0 zs_1 (zrf_of e60) ?_
  refine zt_callI (pc' := 91) (As := [.ref (X.1.1 + 27), .ref (X.1.1 + 5)]) (k := 33) hX (zn_X1 _ _ s57  q59.1 q59.2.1 ) zm_yX1_init dX11_init_88 rfl zw_7_11 rfl rfl (Nat.le_of_ble_eq_true rfl) (by decide) ⟨by rw [hN.2.1]; exact Nat.le_of_ble_eq_true rfl, by rw [hN.2.2]; exact Nat.le_of_ble_eq_true rfl⟩ (fun _ s65 hp66 => ?_)
  have x68 : s65 1 1 = 0 := (zCp_e hp66 (by omega) 1).trans x63
  have tt_s65 : yTab s65 := fun i hi => (zCp_e hp66 (by omega) i).trans (tt_s57 i hi)
  have pp_s65 : s65 7 10 = 0 ∧ s65 7 11 = 0 ∧ s65 7 12 = 0 := ⟨(zCp_e hp66 (by omega) 10).trans pp_s57.1, (zCp_e hp66 (by omega) 11).trans pp_s57.2.1, (zCp_e hp66 (by omega) 12).trans pp_s57.2.2⟩
  have uu_s65 : s65 0 3 = 7 ∧ s65 0 4 = 17 := ⟨(zCp_e hp66 (by omega) 3).trans uu_s57.1, (zCp_e hp66 (by omega) 4).trans uu_s57.2⟩
  have q67 := zCs_sub (n' := 34) q59 hp66 (by omega)
  have e69 : s65 0 2 = ((5 : Nat) : Int) := (zCp_e hp66 (by omega) 2).trans e60
  have e70 : s65 0 3 = ((7 : Nat) : Int) := (zCp_e hp66 (by omega) 3).trans e61
  have e71 : s65 0 4 = ((17 : Nat) : Int) := (zCp_e hp66 (by omega) 4).trans e62
  have e72 : s65 0 5 = ((27 : Nat) : Int) := (zCp_e hp66 (by omega) 5).trans e64
  refine zt_putF (pc' := 94) (x := ((33 : Nat) : Int)) hX dX11_init_91 rfl hN.1 zf_X11_50 (by omega) zc_0 zs_1 (fun q hq => by cases hq; exact ⟨rfl, rfl⟩) (zrf_of rfl) rfl rfl ?_
  generalize hs74 : zset s65 0 6 ((33 : Nat) : Int) = s73
  have q75 := zCs_ref hs74 q67 zc_0 zs_1 rfl (by omega) (by decide)
  have e76 : s73 0 2 = ((5 : Nat) : Int) := by rw [← hs74]; exact (zset_j (by decide)).trans e69
  have e77 : s73 0 3 = ((7 : Nat) : Int) := by rw [← hs74]; exact (zset_j (by decide)).trans e70
  have e78 : s73 0 4 = ((17 : Nat) : Int) := by rw [← hs74]; exact (zset_j (by decide)).trans e71
  have e79 : s73 0 5 = ((27 : Nat) : Int) := by rw [← hs74]; exact (zset_j (by decide)).trans e72
  have x80 : s73 1 1 = 0 := by rw [← hs74]; exact (zset_k (by decide)).trans x68
  have tt_s73 : yTab s73 := fun i hi => by rw [← hs74]; exact (zset_k (by decide)).trans (tt_s65 i hi)
  have pp_s73 : s73 7 10 = 0 ∧ s73 7 11 = 0 ∧ s73 7 12 = 0 := by rw [← hs74, zset_k (by decide), zset_k (by decide), zset_k (by decide)]; exact pp_s65
  have uu_s73 : s73 0 3 = 7 ∧ s73 0 4 = 17 := by rw [← hs74, zset_j (by decide), zset_j (by decide)]; exact uu_s65
  have e81 : s73 0 6 = ((33 : Nat) : Int) := by rw [← hs74]; exact zset_s
  refine zt_aload_n (pc' := 95) hX dX11_init_94 rfl rfl ?_
  refine zt_new (pc' := 98) (c := 8) (q := (RX8, TX8, 3)) hX dX11_init_95 rfl rfl zw_2_10 zw_2_11 zw_2_12 (by decide) zc_34 zs_21 (by decide) (zCs_nx q75) ⟨by rw [hN.2.1]; exact Nat.le_of_ble_eq_true rfl, by rw [hN.2.2]; exact Nat.le_of_ble_eq_true rfl⟩ ?_
  refine zt_dup (pc' := 99) hX dX11_init_98 rfl rfl ?_
  refine zt_aload_n (pc' := 100) hX dX11_init_99 rfl rfl ?_
  refine zt_get (pc' := 103) (v := .ref (X.1.1 + 27)) hX dX11_init_100 rfl zf_X11_41 (by omega) zc_0 zs_1 (zrf_of e79) ?_
  refine zt_aload_n (pc' := 104) hX dX11_init_103 rfl rfl ?_
  refine zt_get (pc' := 107) (v := .ref (X.1.1 + 33)) hX dX11_init_104 rfl zf_X11_50 (by omega) zc_0 zs_1 (zrf_of e81) ?_
  refine zt_aload_n (pc' := 108) hX dX11_init_107 rfl rfl ?_
  refine zt_get (pc' := 111) (v := .ref (X.1.1 + 17)) hX dX11_init_108 rfl zf_X11_35 (by omega) zc_0 zs_1 (zrf_of e78) ?_
  refine zt_callI (pc' := 114) (As := [.ref (X.1.1 + 27), .ref (X.1.1 + 33), .ref (X.1.1 + 17)]) (k := 34) hX (zn_X8 _ _ s73  q75.1 q75.2.1 ) zm_yX8_init dX11_init_111 rfl zw_7_18 rfl rfl (Nat.le_of_ble_eq_true rfl) (by decide) ⟨by rw [hN.2.1]; exact Nat.le_of_ble_eq_true rfl, by rw [hN.2.2]; exact Nat.le_of_ble_eq_true rfl⟩ (fun _ s82 hp83 => ?_)
  have x85 : s82 1 1 = 0 := (zCp_e hp83 (by omega) 1).trans x80
  have tt_s82 : yTab s82 := fun i hi => (zCp_e hp83 (by omega) i).trans (tt_s73 i hi)
  have pp_s82 : s82 7 10 = 0 ∧ s82 7 11 = 0 ∧ s82 7 12 = 0 := ⟨(zCp_e hp83 (by omega) 10).trans pp_s73.1, (zCp_e hp83 (by omega) 11).trans pp_s73.2.1, (zCp_e hp83 (by omega) 12).trans pp_s73.2.2⟩
  have uu_s82 : s82 0 3 = 7 ∧ s82 0 4 = 17 := ⟨(zCp_e hp83 (by omega) 3).trans uu_s73.1, (zCp_e hp83 (by omega) 4).trans uu_s73.2⟩
  have q84 := zCs_sub (n' := 35) q75 hp83 (by omega)
  have e86 : s82 0 2 = ((5 : Nat) : Int) := (zCp_e hp83 (by omega) 2).trans e76
  have e87 : s82 0 3 = ((7 : Nat) : Int) := (zCp_e hp83 (by omega) 3).trans e77
  have e88 : s82 0 4 = ((17 : Nat) : Int) := (zCp_e hp83 (by omega) 4).trans e78
  have e89 : s82 0 5 = ((27 : Nat) : Int) := (zCp_e hp83 (by omega) 5).trans e79
  have e90 : s82 0 6 = ((33 : Nat) : Int) := (zCp_e hp83 (by omega) 6).trans e81
  refine zt_putF (pc' := 117) (x := ((34 : Nat) : Int)) hX dX11_init_114 rfl hN.1 zf_X11_59 (by omega) zc_0 zs_1 (fun q hq => by cases hq; exact ⟨rfl, rfl⟩) (zrf_of rfl) rfl rfl ?_
  generalize hs92 : zset s82 0 7 ((34 : Nat) : Int) = s91
  have q93 := zCs_ref hs92 q84 zc_0 zs_1 rfl (by omega) (by decide)
  have e94 : s91 0 2 = ((5 : Nat) : Int) := by rw [← hs92]; exact (zset_j (by decide)).trans e86
  have e95 : s91 0 3 = ((7 : Nat) : Int) := by rw [← hs92]; exact (zset_j (by decide)).trans e87
  have e96 : s91 0 4 = ((17 : Nat) : Int) := by rw [← hs92]; exact (zset_j (by decide)).trans e88
  have e97 : s91 0 5 = ((27 : Nat) : Int) := by rw [← hs92]; exact (zset_j (by decide)).trans e89
  have e98 : s91 0 6 = ((33 : Nat) : Int) := by rw [← hs92]; exact (zset_j (by decide)).trans e90
  have x99 : s91 1 1 = 0 := by rw [← hs92]; exact (zset_k (by decide)).trans x85
  have tt_s91 : yTab s91 := fun i hi => by rw [← hs92]; exact (zset_k (by decide)).trans (tt_s82 i hi)
  have pp_s91 : s91 7 10 = 0 ∧ s91 7 11 = 0 ∧ s91 7 12 = 0 := by rw [← hs92, zset_k (by decide), zset_k (by decide), zset_k (by decide)]; exact pp_s82
  have uu_s91 : s91 0 3 = 7 ∧ s91 0 4 = 17 := by rw [← hs92, zset_j (by decide), zset_j (by decide)]; exact uu_s82
  refine zt_aload_n (pc' := 118) hX dX11_init_117 rfl rfl ?_
  refine zt_new (pc' := 121) (c := 10) (q := (RX10, TX10, 8)) hX dX11_init_118 rfl rfl zw_2_14 zw_2_15 zw_2_16 (by decide) zc_35 zs_22 (by decide) (zCs_nx q93) ⟨by rw [hN.2.1]; exact Nat.le_of_ble_eq_true rfl, by rw [hN.2.2]; exact Nat.le_of_ble_eq_true rfl⟩ ?_
  refine zt_dup (pc' := 122) hX dX11_init_121 rfl rfl ?_
  refine zt_callIN (pc' := 125) (As := []) (k := 35) hX (zn_X10 _ _ s91 35 zc_35 q93.1 q93.2.1 ) zm_yX10_init dX11_init_122 rfl (by decide +kernel) rfl rfl (Nat.le_of_ble_eq_true rfl) (by decide) ⟨by rw [hN.2.1]; exact Nat.le_of_ble_eq_true rfl, by rw [hN.2.2]; exact Nat.le_of_ble_eq_true rfl⟩ (fun _ s100 hp101 => ?_)
  have x103 : s100 1 1 = 0 := (zCp_e hp101 (by omega) 1).trans x99
  have tt_s100 : yTab s100 := fun i hi => (zCp_e hp101 (by omega) i).trans (tt_s91 i hi)
  have pp_s100 : s100 7 10 = 0 ∧ s100 7 11 = 0 ∧ s100 7 12 = 0 := ⟨(zCp_e hp101 (by omega) 10).trans pp_s91.1, (zCp_e hp101 (by omega) 11).trans pp_s91.2.1, (zCp_e hp101 (by omega) 12).trans pp_s91.2.2⟩
  have uu_s100 : s100 0 3 = 7 ∧ s100 0 4 = 17 := ⟨(zCp_e hp101 (by omega) 3).trans uu_s91.1, (zCp_e hp101 (by omega) 4).trans uu_s91.2⟩
  have q102 := zCs_sub (n' := 40) q93 hp101 (by omega)
  have e104 : s100 0 2 = ((5 : Nat) : Int) := (zCp_e hp101 (by omega) 2).trans e94
  have e105 : s100 0 3 = ((7 : Nat) : Int) := (zCp_e hp101 (by omega) 3).trans e95
  have e106 : s100 0 4 = ((17 : Nat) : Int) := (zCp_e hp101 (by omega) 4).trans e96
  have e107 : s100 0 5 = ((27 : Nat) : Int) := (zCp_e hp101 (by omega) 5).trans e97
  have e108 : s100 0 6 = ((33 : Nat) : Int) := (zCp_e hp101 (by omega) 6).trans e98
  refine zt_putF (pc' := 128) (x := ((35 : Nat) : Int)) hX dX11_init_125 rfl hN.1 zf_X11_66 (by omega) zc_0 zs_1 (fun q hq => by cases hq; exact ⟨rfl, rfl⟩) (zrf_of rfl) rfl rfl ?_
  generalize hs110 : zset s100 0 8 ((35 : Nat) : Int) = s109
  have q111 := zCs_ref hs110 q102 zc_0 zs_1 rfl (by omega) (by decide)
  have e112 : s109 0 2 = ((5 : Nat) : Int) := by rw [← hs110]; exact (zset_j (by decide)).trans e104
  have e113 : s109 0 3 = ((7 : Nat) : Int) := by rw [← hs110]; exact (zset_j (by decide)).trans e105
  have e114 : s109 0 4 = ((17 : Nat) : Int) := by rw [← hs110]; exact (zset_j (by decide)).trans e106
  have e115 : s109 0 5 = ((27 : Nat) : Int) := by rw [← hs110]; exact (zset_j (by decide)).trans e107
  have e116 : s109 0 6 = ((33 : Nat) : Int) := by rw [← hs110]; exact (zset_j (by decide)).trans e108
  have x117 : s109 1 1 = 0 := by rw [← hs110]; exact (zset_k (by decide)).trans x103
  have tt_s109 : yTab s109 := fun i hi => by rw [← hs110]; exact (zset_k (by decide)).trans (tt_s100 i hi)
  have pp_s109 : s109 7 10 = 0 ∧ s109 7 11 = 0 ∧ s109 7 12 = 0 := by rw [← hs110, zset_k (by decide), zset_k (by decide), zset_k (by decide)]; exact pp_s100
  have uu_s109 : s109 0 3 = 7 ∧ s109 0 4 = 17 := by rw [← hs110, zset_j (by decide), zset_j (by decide)]; exact uu_s100
  have e118 : s109 0 8 = ((35 : Nat) : Int) := by rw [← hs110]; exact zset_s
  refine zt_aload_n (pc' := 129) hX dX11_init_128 rfl rfl ?_
  refine zt_new (pc' := 132) (c := 10) (q := (RX10, TX10, 8)) hX dX11_init_129 rfl rfl zw_2_14 zw_2_15 zw_2_16 (by decide) zc_40 zs_22 (by decide) (zCs_nx q111) ⟨by rw [hN.2.1]; exact Nat.le_of_ble_eq_true rfl, by rw [hN.2.2]; exact Nat.le_of_ble_eq_true rfl⟩ ?_
  refine zt_dup (pc' := 133) hX dX11_init_132 rfl rfl ?_
  refine zt_callIN (pc' := 136) (As := []) (k := 40) hX (zn_X10 _ _ s109 40 zc_40 q111.1 q111.2.1 ) zm_yX10_init dX11_init_133 rfl (by decide +kernel) rfl rfl (Nat.le_of_ble_eq_true rfl) (by decide) ⟨by rw [hN.2.1]; exact Nat.le_of_ble_eq_true rfl, by rw [hN.2.2]; exact Nat.le_of_ble_eq_true rfl⟩ (fun _ s119 hp120 => ?_)
  have x122 : s119 1 1 = 0 := (zCp_e hp120 (by omega) 1).trans x117
  have tt_s119 : yTab s119 := fun i hi => (zCp_e hp120 (by omega) i).trans (tt_s109 i hi)
  have pp_s119 : s119 7 10 = 0 ∧ s119 7 11 = 0 ∧ s119 7 12 = 0 := ⟨(zCp_e hp120 (by omega) 10).trans pp_s109.1, (zCp_e hp120 (by omega) 11).trans pp_s109.2.1, (zCp_e hp120 (by omega) 12).trans pp_s109.2.2⟩
  have uu_s119 : s119 0 3 = 7 ∧ s119 0 4 = 17 := ⟨(zCp_e hp120 (by omega) 3).trans uu_s109.1, (zCp_e hp120 (by omega) 4).trans uu_s109.2⟩
  have q121 := zCs_sub (n' := 45) q111 hp120 (by omega)
  have e123 : s119 0 2 = ((5 : Nat) : Int) := (zCp_e hp120 (by omega) 2).trans e112
  have e124 : s119 0 3 = ((7 : Nat) : Int) := (zCp_e hp120 (by omega) 3).trans e113
  have e125 : s119 0 4 = ((17 : Nat) : Int) := (zCp_e hp120 (by omega) 4).trans e114
  have e126 : s119 0 5 = ((27 : Nat) : Int) := (zCp_e hp120 (by omega) 5).trans e115
  have e127 : s119 0 6 = ((33 : Nat) : Int) := (zCp_e hp120 (by omega) 6).trans e116
  have e128 : s119 0 8 = ((35 : Nat) : Int) := (zCp_e hp120 (by omega) 8).trans e118
  refine zt_putF (pc' := 139) (x := ((40 : Nat) : Int)) hX dX11_init_136 rfl hN.1 zf_X11_70 (by omega) zc_0 zs_1 (fun q hq => by cases hq; exact ⟨rfl, rfl⟩) (zrf_of rfl) rfl rfl ?_
  generalize hs130 : zset s119 0 9 ((40 : Nat) : Int) = s129
  have q131 := zCs_ref hs130 q121 zc_0 zs_1 rfl (by omega) (by decide)
  have e132 : s129 0 2 = ((5 : Nat) : Int) := by rw [← hs130]; exact (zset_j (by decide)).trans e123
  have e133 : s129 0 3 = ((7 : Nat) : Int) := by rw [← hs130]; exact (zset_j (by decide)).trans e124
  have e134 : s129 0 4 = ((17 : Nat) : Int) := by rw [← hs130]; exact (zset_j (by decide)).trans e125
  have e135 : s129 0 5 = ((27 : Nat) : Int) := by rw [← hs130]; exact (zset_j (by decide)).trans e126
  have e136 : s129 0 6 = ((33 : Nat) : Int) := by rw [← hs130]; exact (zset_j (by decide)).trans e127
  have e137 : s129 0 8 = ((35 : Nat) : Int) := by rw [← hs130]; exact (zset_j (by decide)).trans e128
  have x138 : s129 1 1 = 0 := by rw [← hs130]; exact (zset_k (by decide)).trans x122
  have tt_s129 : yTab s129 := fun i hi => by rw [← hs130]; exact (zset_k (by decide)).trans (tt_s119 i hi)
  have pp_s129 : s129 7 10 = 0 ∧ s129 7 11 = 0 ∧ s129 7 12 = 0 := by rw [← hs130, zset_k (by decide), zset_k (by decide), zset_k (by decide)]; exact pp_s119
  have uu_s129 : s129 0 3 = 7 ∧ s129 0 4 = 17 := by rw [← hs130, zset_j (by decide), zset_j (by decide)]; exact uu_s119
  refine zt_aload_n (pc' := 140) hX dX11_init_139 rfl rfl ?_
  refine zt_new (pc' := 143) (c := 2) (q := (RX2, TX2, 3)) hX dX11_init_140 rfl rfl zw_2_19 zw_2_20 zw_2_21 (by decide) zc_45 zs_27 (by decide) (zCs_nx q131) ⟨by rw [hN.2.1]; exact Nat.le_of_ble_eq_true rfl, by rw [hN.2.2]; exact Nat.le_of_ble_eq_true rfl⟩ ?_
  refine zt_dup (pc' := 144) hX dX11_init_143 rfl rfl ?_
  refine zt_callI2 (pc' := 147) (As := []) (k := 45) hX hxs (zn_X2 _ _ z s129  q131.1 q131.2.1 ) zm_yX2_init dX11_init_144 rfl zw_8_12 rfl rfl (Nat.le_of_ble_eq_true rfl) (by decide) ⟨by rw [hN.2.1]; exact Nat.le_of_ble_eq_true rfl, by rw [hN.2.2]; exact Nat.le_of_ble_eq_true rfl⟩ (fun _ s139 hp140 => ?_)
  have x142 : s139 1 1 = 0 := (zCp_e hp140 (by omega) 1).trans x138
  have tt_s139 : yTab s139 := fun i hi => (zCp_e hp140 (by omega) i).trans (tt_s129 i hi)
  have pp_s139 : s139 7 10 = 0 ∧ s139 7 11 = 0 ∧ s139 7 12 = 0 := ⟨(zCp_e hp140 (by omega) 10).trans pp_s129.1, (zCp_e hp140 (by omega) 11).trans pp_s129.2.1, (zCp_e hp140 (by omega) 12).trans pp_s129.2.2⟩
  have uu_s139 : s139 0 3 = 7 ∧ s139 0 4 = 17 := ⟨(zCp_e hp140 (by omega) 3).trans uu_s129.1, (zCp_e hp140 (by omega) 4).trans uu_s129.2⟩
  have q141 := zCs_sub (n' := 147) q131 hp140 (by omega)
  have e143 : s139 0 2 = ((5 : Nat) : Int) := (zCp_e hp140 (by omega) 2).trans e132
  have e144 : s139 0 3 = ((7 : Nat) : Int) := (zCp_e hp140 (by omega) 3).trans e133
  have e145 : s139 0 4 = ((17 : Nat) : Int) := (zCp_e hp140 (by omega) 4).trans e134
  have e146 : s139 0 5 = ((27 : Nat) : Int) := (zCp_e hp140 (by omega) 5).trans e135
  have e147 : s139 0 6 = ((33 : Nat) : Int) := (zCp_e hp140 (by omega) 6).trans e136
  have e148 : s139 0 8 = ((35 : Nat) : Int) := (zCp_e hp140 (by omega) 8).trans e137
  refine zt_putF (pc' := 150) (x := ((45 : Nat) : Int)) hX dX11_init_147 rfl hN.1 zf_X11_76 (by omega) zc_0 zs_1 (fun q hq => by cases hq; exact ⟨rfl, rfl⟩) (zrf_of rfl) rfl rfl ?_
  generalize hs150 : zset s139 0 10 ((45 : Nat) : Int) = s149
  have q151 := zCs_ref hs150 q141 zc_0 zs_1 rfl (by omega) (by decide)
  have e152 : s149 0 2 = ((5 : Nat) : Int) := by rw [← hs150]; exact (zset_j (by decide)).trans e143
  have e153 : s149 0 3 = ((7 : Nat) : Int) := by rw [← hs150]; exact (zset_j (by decide)).trans e144
  have e154 : s149 0 4 = ((17 : Nat) : Int) := by rw [← hs150]; exact (zset_j (by decide)).trans e145
  have e155 : s149 0 5 = ((27 : Nat) : Int) := by rw [← hs150]; exact (zset_j (by decide)).trans e146
  have e156 : s149 0 6 = ((33 : Nat) : Int) := by rw [← hs150]; exact (zset_j (by decide)).trans e147
  have e157 : s149 0 8 = ((35 : Nat) : Int) := by rw [← hs150]; exact (zset_j (by decide)).trans e148
  have x158 : s149 1 1 = 0 := by rw [← hs150]; exact (zset_k (by decide)).trans x142
  have tt_s149 : yTab s149 := fun i hi => by rw [← hs150]; exact (zset_k (by decide)).trans (tt_s139 i hi)
  have pp_s149 : s149 7 10 = 0 ∧ s149 7 11 = 0 ∧ s149 7 12 = 0 := by rw [← hs150, zset_k (by decide), zset_k (by decide), zset_k (by decide)]; exact pp_s139
  have uu_s149 : s149 0 3 = 7 ∧ s149 0 4 = 17 := by rw [← hs150, zset_j (by decide), zset_j (by decide)]; exact uu_s139
  refine zt_aload_n (pc' := 151) hX dX11_init_150 rfl rfl ?_
  refine zt_new (pc' := 154) (c := 7) (q := (RX7, TX7, 7)) hX dX11_init_151 rfl rfl zw_2_23 zw_3_0 zw_3_1 (by decide) zc_147 zs_29 (by decide) (zCs_nx q151) ⟨by rw [hN.2.1]; exact Nat.le_of_ble_eq_true rfl, by rw [hN.2.2]; exact Nat.le_of_ble_eq_true rfl⟩ ?_
  refine zt_dup (pc' := 155) hX dX11_init_154 rfl rfl ?_
  refine zt_callIN (pc' := 158) (As := []) (k := 147) hX (zn_X7 _ _ s149  q151.1 q151.2.1 ) zm_yX7_init dX11_init_155 rfl (by decide +kernel) rfl rfl (Nat.le_of_ble_eq_true rfl) (by decide) ⟨by rw [hN.2.1]; exact Nat.le_of_ble_eq_true rfl, by rw [hN.2.2]; exact Nat.le_of_ble_eq_true rfl⟩ (fun _ s159 hp160 => ?_)
  have x162 : s159 1 1 = 0 := (zCp_e hp160 (by omega) 1).trans x158
  have tt_s159 : yTab s159 := fun i hi => (zCp_e hp160 (by omega) i).trans (tt_s149 i hi)
  have pp_s159 : s159 7 10 = 0 ∧ s159 7 11 = 0 ∧ s159 7 12 = 0 := ⟨(zCp_e hp160 (by omega) 10).trans pp_s149.1, (zCp_e hp160 (by omega) 11).trans pp_s149.2.1, (zCp_e hp160 (by omega) 12).trans pp_s149.2.2⟩
  have uu_s159 : s159 0 3 = 7 ∧ s159 0 4 = 17 := ⟨(zCp_e hp160 (by omega) 3).trans uu_s149.1, (zCp_e hp160 (by omega) 4).trans uu_s149.2⟩
  have q161 := zCs_sub (n' := 153) q151 hp160 (by omega)
  have e163 : s159 0 2 = ((5 : Nat) : Int) := (zCp_e hp160 (by omega) 2).trans e152
  have e164 : s159 0 3 = ((7 : Nat) : Int) := (zCp_e hp160 (by omega) 3).trans e153
  have e165 : s159 0 4 = ((17 : Nat) : Int) := (zCp_e hp160 (by omega) 4).trans e154
  have e166 : s159 0 5 = ((27 : Nat) : Int) := (zCp_e hp160 (by omega) 5).trans e155
  have e167 : s159 0 6 = ((33 : Nat) : Int) := (zCp_e hp160 (by omega) 6).trans e156
  have e168 : s159 0 8 = ((35 : Nat) : Int) := (zCp_e hp160 (by omega) 8).trans e157
  refine zt_putF (pc' := 161) (x := ((147 : Nat) : Int)) hX dX11_init_158 rfl hN.1 zf_X11_83 (by omega) zc_0 zs_1 (fun q hq => by cases hq; exact ⟨rfl, rfl⟩) (zrf_of rfl) rfl rfl ?_
  generalize hs170 : zset s159 0 11 ((147 : Nat) : Int) = s169
  have q171 := zCs_ref hs170 q161 zc_0 zs_1 rfl (by omega) (by decide)
  have e172 : s169 0 2 = ((5 : Nat) : Int) := by rw [← hs170]; exact (zset_j (by decide)).trans e163
  have e173 : s169 0 3 = ((7 : Nat) : Int) := by rw [← hs170]; exact (zset_j (by decide)).trans e164
  have e174 : s169 0 4 = ((17 : Nat) : Int) := by rw [← hs170]; exact (zset_j (by decide)).trans e165
  have e175 : s169 0 5 = ((27 : Nat) : Int) := by rw [← hs170]; exact (zset_j (by decide)).trans e166
  have e176 : s169 0 6 = ((33 : Nat) : Int) := by rw [← hs170]; exact (zset_j (by decide)).trans e167
  have e177 : s169 0 8 = ((35 : Nat) : Int) := by rw [← hs170]; exact (zset_j (by decide)).trans e168
  have x178 : s169 1 1 = 0 := by rw [← hs170]; exact (zset_k (by decide)).trans x162
  have tt_s169 : yTab s169 := fun i hi => by rw [← hs170]; exact (zset_k (by decide)).trans (tt_s159 i hi)
  have pp_s169 : s169 7 10 = 0 ∧ s169 7 11 = 0 ∧ s169 7 12 = 0 := by rw [← hs170, zset_k (by decide), zset_k (by decide), zset_k (by decide)]; exact pp_s159
  have uu_s169 : s169 0 3 = 7 ∧ s169 0 4 = 17 := by rw [← hs170, zset_j (by decide), zset_j (by decide)]; exact uu_s159
  refine zt_aload_n (pc' := 162) hX dX11_init_161 rfl rfl ?_
  refine zt_new (pc' := 165) (c := 6) (q := (RX6, TX6, 14)) hX dX11_init_162 rfl rfl zw_3_3 zw_3_4 zw_3_5 (by decide) zc_153 zs_35 (by decide) (zCs_nx q171) ⟨by rw [hN.2.1]; exact Nat.le_of_ble_eq_true rfl, by rw [hN.2.2]; exact Nat.le_of_ble_eq_true rfl⟩ ?_
  refine zt_dup (pc' := 166) hX dX11_init_165 rfl rfl ?_
  refine zt_aload_n (pc' := 167) hX dX11_init_166 rfl rfl ?_
  refine zt_get (pc' := 170) (v := .ref (X.1.1 + 7)) hX dX11_init_167 rfl zf_X11_31 (by omega) zc_0 zs_1 (zrf_of e173) ?_
  refine zt_aload_n (pc' := 171) hX dX11_init_170 rfl rfl ?_
  refine zt_get (pc' := 174) (v := .ref (X.1.1 + 35)) hX dX11_init_171 rfl zf_X11_66 (by omega) zc_0 zs_1 (zrf_of e177) ?_
  refine zt_callI (pc' := 177) (As := [.ref (X.1.1 + 7), .ref (X.1.1 + 35)]) (k := 153) hX (zn_X6 _ _ s169  q171.1 q171.2.1 ) zm_yX6_init dX11_init_174 rfl zw_9_7 rfl rfl (Nat.le_of_ble_eq_true rfl) (by decide) ⟨by rw [hN.2.1]; exact Nat.le_of_ble_eq_true rfl, by rw [hN.2.2]; exact Nat.le_of_ble_eq_true rfl⟩ (fun _ s179 hp180 => ?_)
  have x182 : s179 1 1 = 0 := (zCp_e hp180 (by omega) 1).trans x178
  have tt_s179 : yTab s179 := fun i hi => (zCp_e hp180 (by omega) i).trans (tt_s169 i hi)
  have pp_s179 : s179 7 10 = 0 ∧ s179 7 11 = 0 ∧ s179 7 12 = 0 := ⟨(zCp_e hp180 (by omega) 10).trans pp_s169.1, (zCp_e hp180 (by omega) 11).trans pp_s169.2.1, (zCp_e hp180 (by omega) 12).trans pp_s169.2.2⟩
  have uu_s179 : s179 0 3 = 7 ∧ s179 0 4 = 17 := ⟨(zCp_e hp180 (by omega) 3).trans uu_s169.1, (zCp_e hp180 (by omega) 4).trans uu_s169.2⟩
  have q181 := zCs_sub (n' := 163) q171 hp180 (by omega)
  have e183 : s179 0 2 = ((5 : Nat) : Int) := (zCp_e hp180 (by omega) 2).trans e172
  have e184 : s179 0 3 = ((7 : Nat) : Int) := (zCp_e hp180 (by omega) 3).trans e173
  have e185 : s179 0 4 = ((17 : Nat) : Int) := (zCp_e hp180 (by omega) 4).trans e174
  have e186 : s179 0 5 = ((27 : Nat) : Int) := (zCp_e hp180 (by omega) 5).trans e175
  have e187 : s179 0 6 = ((33 : Nat) : Int) := (zCp_e hp180 (by omega) 6).trans e176
  have e188 : s179 0 8 = ((35 : Nat) : Int) := (zCp_e hp180 (by omega) 8).trans e177
  refine zt_putF (pc' := 180) (x := ((153 : Nat) : Int)) hX dX11_init_177 rfl hN.1 zf_X11_92 (by omega) zc_0 zs_1 (fun q hq => by cases hq; exact ⟨rfl, rfl⟩) (zrf_of rfl) rfl rfl ?_
  generalize hs190 : zset s179 0 12 ((153 : Nat) : Int) = s189
  have q191 := zCs_ref hs190 q181 zc_0 zs_1 rfl (by omega) (by decide)
  have e192 : s189 0 2 = ((5 : Nat) : Int) := by rw [← hs190]; exact (zset_j (by decide)).trans e183
  have e193 : s189 0 3 = ((7 : Nat) : Int) := by rw [← hs190]; exact (zset_j (by decide)).trans e184
  have e194 : s189 0 4 = ((17 : Nat) : Int) := by rw [← hs190]; exact (zset_j (by decide)).trans e185
  have e195 : s189 0 5 = ((27 : Nat) : Int) := by rw [← hs190]; exact (zset_j (by decide)).trans e186
  have e196 : s189 0 6 = ((33 : Nat) : Int) := by rw [← hs190]; exact (zset_j (by decide)).trans e187
  have e197 : s189 0 8 = ((35 : Nat) : Int) := by rw [← hs190]; exact (zset_j (by decide)).trans e188
  have x198 : s189 1 1 = 0 := by rw [← hs190]; exact (zset_k (by decide)).trans x182
  have tt_s189 : yTab s189 := fun i hi => by rw [← hs190]; exact (zset_k (by decide)).trans (tt_s179 i hi)
  have pp_s189 : s189 7 10 = 0 ∧ s189 7 11 = 0 ∧ s189 7 12 = 0 := by rw [← hs190, zset_k (by decide), zset_k (by decide), zset_k (by decide)]; exact pp_s179
  have uu_s189 : s189 0 3 = 7 ∧ s189 0 4 = 17 := by rw [← hs190, zset_j (by decide), zset_j (by decide)]; exact uu_s179
  refine zt_aload_n (pc' := 181) hX dX11_init_180 rfl rfl ?_
  refine zt_bipush (pc' := 183) hX dX11_init_181 rfl (by decide) (by decide) ?_
  refine zt_newa (pc' := 185) (t := 0) (N := 6) hX dX11_init_183 rfl zw_3_7 rfl (by decide) (by decide) zc_163 zs_45 (by decide) (by decide) (zCs_nx q191) ⟨by rw [hN.2.1]; exact Nat.le_of_ble_eq_true rfl, by rw [hN.2.2]; exact Nat.le_of_ble_eq_true rfl⟩ ?_
  have q199 := zCs_arr q191 zc_163 zs_45 (by decide)
  refine zt_putF (pc' := 188) (x := ((163 : Nat) : Int)) hX dX11_init_185 rfl hN.1 zf_X11_96 (by omega) zc_0 zs_1 (fun q hq => by cases hq; exact ⟨rfl, rfl⟩) (zrf_of rfl) rfl rfl ?_
  generalize hs201 : zset s189 0 13 ((163 : Nat) : Int) = s200
  have q202 := zCs_ref hs201 q199 zc_0 zs_1 rfl (by omega) (by decide)
  have e203 : s200 0 2 = ((5 : Nat) : Int) := by rw [← hs201]; exact (zset_j (by decide)).trans e192
  have e204 : s200 0 3 = ((7 : Nat) : Int) := by rw [← hs201]; exact (zset_j (by decide)).trans e193
  have e205 : s200 0 4 = ((17 : Nat) : Int) := by rw [← hs201]; exact (zset_j (by decide)).trans e194
  have e206 : s200 0 5 = ((27 : Nat) : Int) := by rw [← hs201]; exact (zset_j (by decide)).trans e195
  have e207 : s200 0 6 = ((33 : Nat) : Int) := by rw [← hs201]; exact (zset_j (by decide)).trans e196
  have e208 : s200 0 8 = ((35 : Nat) : Int) := by rw [← hs201]; exact (zset_j (by decide)).trans e197
  have x209 : s200 1 1 = 0 := by rw [← hs201]; exact (zset_k (by decide)).trans x198
  have tt_s200 : yTab s200 := fun i hi => by rw [← hs201]; exact (zset_k (by decide)).trans (tt_s189 i hi)
  have pp_s200 : s200 7 10 = 0 ∧ s200 7 11 = 0 ∧ s200 7 12 = 0 := by rw [← hs201, zset_k (by decide), zset_k (by decide), zset_k (by decide)]; exact pp_s189
  have uu_s200 : s200 0 3 = 7 ∧ s200 0 4 = 17 := by rw [← hs201, zset_j (by decide), zset_j (by decide)]; exact uu_s189
  refine zt_aload_n (pc' := 189) hX dX11_init_188 rfl rfl ?_
  refine zt_iconst (pc' := 190) hX dX11_init_189 rfl ?_
  refine zt_put (pc' := 193) (x := 1) hX dX11_init_190 rfl zf_X11_100 (by omega) zc_0 zs_1 (fun q hq => by cases hq; rfl) rfl rfl rfl ?_
  generalize hs211 : zset s200 0 14 1 = s210
  have q212 := zCs_int hs211 q202 zc_0 zs_1 (show -2147483648 ≤ (1 : Int) ∧ (1 : Int) ≤ 2147483647 from ⟨by decide, by decide⟩) (by decide)
  have e213 : s210 0 2 = ((5 : Nat) : Int) := by rw [← hs211]; exact (zset_j (by decide)).trans e203
  have e214 : s210 0 3 = ((7 : Nat) : Int) := by rw [← hs211]; exact (zset_j (by decide)).trans e204
  have e215 : s210 0 4 = ((17 : Nat) : Int) := by rw [← hs211]; exact (zset_j (by decide)).trans e205
  have e216 : s210 0 5 = ((27 : Nat) : Int) := by rw [← hs211]; exact (zset_j (by decide)).trans e206
  have e217 : s210 0 6 = ((33 : Nat) : Int) := by rw [← hs211]; exact (zset_j (by decide)).trans e207
  have e218 : s210 0 8 = ((35 : Nat) : Int) := by rw [← hs211]; exact (zset_j (by decide)).trans e208
  have x219 : s210 1 1 = 0 := by rw [← hs211]; exact (zset_k (by decide)).trans x209
  have tt_s210 : yTab s210 := fun i hi => by rw [← hs211]; exact (zset_k (by decide)).trans (tt_s200 i hi)
  have pp_s210 : s210 7 10 = 0 ∧ s210 7 11 = 0 ∧ s210 7 12 = 0 := by rw [← hs211, zset_k (by decide), zset_k (by decide), zset_k (by decide)]; exact pp_s200
  have uu_s210 : s210 0 3 = 7 ∧ s210 0 4 = 17 := by rw [← hs211, zset_j (by decide), zset_j (by decide)]; exact uu_s200
  refine zt_aload_n (pc' := 194) hX dX11_init_193 rfl rfl ?_
  refine zt_iconst (pc' := 195) hX dX11_init_194 rfl ?_
  refine zt_put (pc' := 198) (x := 0) hX dX11_init_195 rfl zf_X11_104 (by omega) zc_0 zs_1 (fun q hq => by cases hq; rfl) rfl rfl rfl ?_
  generalize hs221 : zset s210 0 15 0 = s220
  have q222 := zCs_int hs221 q212 zc_0 zs_1 (show -2147483648 ≤ (0 : Int) ∧ (0 : Int) ≤ 2147483647 from ⟨by decide, by decide⟩) (by decide)
  have e223 : s220 0 2 = ((5 : Nat) : Int) := by rw [← hs221]; exact (zset_j (by decide)).trans e213
  have e224 : s220 0 3 = ((7 : Nat) : Int) := by rw [← hs221]; exact (zset_j (by decide)).trans e214
  have e225 : s220 0 4 = ((17 : Nat) : Int) := by rw [← hs221]; exact (zset_j (by decide)).trans e215
  have e226 : s220 0 5 = ((27 : Nat) : Int) := by rw [← hs221]; exact (zset_j (by decide)).trans e216
  have e227 : s220 0 6 = ((33 : Nat) : Int) := by rw [← hs221]; exact (zset_j (by decide)).trans e217
  have e228 : s220 0 8 = ((35 : Nat) : Int) := by rw [← hs221]; exact (zset_j (by decide)).trans e218
  have x229 : s220 1 1 = 0 := by rw [← hs221]; exact (zset_k (by decide)).trans x219
  have tt_s220 : yTab s220 := fun i hi => by rw [← hs221]; exact (zset_k (by decide)).trans (tt_s210 i hi)
  have pp_s220 : s220 7 10 = 0 ∧ s220 7 11 = 0 ∧ s220 7 12 = 0 := by rw [← hs221, zset_k (by decide), zset_k (by decide), zset_k (by decide)]; exact pp_s210
  have uu_s220 : s220 0 3 = 7 ∧ s220 0 4 = 17 := by rw [← hs221, zset_j (by decide), zset_j (by decide)]; exact uu_s210
  refine zt_aload_n (pc' := 199) hX dX11_init_198 rfl rfl ?_
  refine zt_iconst (pc' := 200) hX dX11_init_199 rfl ?_
  refine zt_put (pc' := 203) (x := (-1)) hX dX11_init_200 rfl zf_X11_107 (by omega) zc_0 zs_1 (fun q hq => by cases hq; rfl) rfl rfl rfl ?_
  generalize hs231 : zset s220 0 16 (-1) = s230
  have q232 := zCs_int hs231 q222 zc_0 zs_1 (show -2147483648 ≤ ((-1) : Int) ∧ ((-1) : Int) ≤ 2147483647 from ⟨by decide, by decide⟩) (by decide)
  have e233 : s230 0 2 = ((5 : Nat) : Int) := by rw [← hs231]; exact (zset_j (by decide)).trans e223
  have e234 : s230 0 3 = ((7 : Nat) : Int) := by rw [← hs231]; exact (zset_j (by decide)).trans e224
  have e235 : s230 0 4 = ((17 : Nat) : Int) := by rw [← hs231]; exact (zset_j (by decide)).trans e225
  have e236 : s230 0 5 = ((27 : Nat) : Int) := by rw [← hs231]; exact (zset_j (by decide)).trans e226
  have e237 : s230 0 6 = ((33 : Nat) : Int) := by rw [← hs231]; exact (zset_j (by decide)).trans e227
  have e238 : s230 0 8 = ((35 : Nat) : Int) := by rw [← hs231]; exact (zset_j (by decide)).trans e228
  have x239 : s230 1 1 = 0 := by rw [← hs231]; exact (zset_k (by decide)).trans x229
  have tt_s230 : yTab s230 := fun i hi => by rw [← hs231]; exact (zset_k (by decide)).trans (tt_s220 i hi)
  have pp_s230 : s230 7 10 = 0 ∧ s230 7 11 = 0 ∧ s230 7 12 = 0 := by rw [← hs231, zset_k (by decide), zset_k (by decide), zset_k (by decide)]; exact pp_s220
  have uu_s230 : s230 0 3 = 7 ∧ s230 0 4 = 17 := by rw [← hs231, zset_j (by decide), zset_j (by decide)]; exact uu_s220
  exact zt_vret hX hR dX11_init_203 ⟨zCs_end (N := 17) q232 zc_0 zs_1 (by decide) (fun _ _ => trivial), x239, tt_s230, pp_s230, uu_s230.1, uu_s230.2, (by rw [← hs231, zset_j (by decide), ← hs221]; exact zset_s), (by rw [← hs231]; exact zset_s)⟩
