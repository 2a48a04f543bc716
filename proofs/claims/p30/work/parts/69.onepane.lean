set_option maxRecDepth 100000 in
set_option maxHeartbeats 4000000 in
theorem zn_X11 (l : Launch) (E : zEN) (z : zST) (σ : zSto) (hI : zIR σ) (hD : zDf σ 0) : zCt2 l E z yX11_init cX11_init 1 none 5 1 164 163 21726 σ [.ref (E.1 + 0)] (fun _ σ' => zCp σ σ' 0 164) := by
  refine zCt2_of [some (.ref (E.1 + 0))] (by decide +kernel) (Nat.le_of_ble_eq_true rfl) rfl ?_
  intro X hE hX hR hL hN hxs
  subst hE
  have hX : zok X cX11_init RX11 5 := hX
  have q0 := zCs_0 hI hD
  refine zt_aload_n (pc' := 1) hX dX11_init_0 rfl rfl ?_
  refine zt_oinit (pc' := 4) hX (by decide) dX11_init_1 rfl zw_1_9 zw_1_10 zw_1_11 rfl ?_
  refine zt_aload_n (pc' := 5) hX dX11_init_4 rfl rfl ?_
  refine zt_new (pc' := 8) (c := 9) (q := (RX9, TX9, 2)) hX dX11_init_5 rfl rfl zw_1_12 zw_1_13 zw_1_14 (by decide) zc_1 zs_2 (by decide) (zCs_nx q0) ⟨by rw [hN.2.1]; exact Nat.le_of_ble_eq_true rfl, by rw [hN.2.2]; exact Nat.le_of_ble_eq_true rfl⟩ ?_
  refine zt_dup (pc' := 9) hX dX11_init_8 rfl rfl ?_
  refine zt_sipush (pc' := 12) hX dX11_init_9 rfl (by decide) (by decide) ?_
  refine zt_callI (pc' := 15) (As := [.int (zI 1600)]) (k := 1) hX (zn_X9_1 _ _ σ  q0.1 q0.2.1 ) zm_yX9_init dX11_init_12 rfl zw_3_12 rfl rfl (Nat.le_of_ble_eq_true rfl) (by decide) ⟨by rw [hN.2.1]; exact Nat.le_of_ble_eq_true rfl, by rw [hN.2.2]; exact Nat.le_of_ble_eq_true rfl⟩ (fun _ s1 hp2 => ?_)
  have q3 := zCs_sub (n' := 3) q0 hp2 (by omega)
  refine zt_putF (pc' := 18) (x := ((1 : Nat) : Int)) hX dX11_init_15 rfl hN.1 zf_X11_14 (by omega) zc_0 zs_1 (fun q hq => by cases hq; exact ⟨rfl, rfl⟩) (zrf_of rfl) rfl rfl ?_
  generalize hs5 : zset s1 0 0 ((1 : Nat) : Int) = s4
  have q6 := zCs_ref hs5 q3 zc_0 zs_1 rfl (by omega) (by decide)
  refine zt_aload_n (pc' := 19) hX dX11_init_18 rfl rfl ?_
  refine zt_new (pc' := 22) (c := 9) (q := (RX9, TX9, 2)) hX dX11_init_19 rfl rfl zw_1_12 zw_1_13 zw_1_14 (by decide) zc_3 zs_4 (by decide) (zCs_nx q6) ⟨by rw [hN.2.1]; exact Nat.le_of_ble_eq_true rfl, by rw [hN.2.2]; exact Nat.le_of_ble_eq_true rfl⟩ ?_
  refine zt_dup (pc' := 23) hX dX11_init_22 rfl rfl ?_
  refine zt_bipush (pc' := 25) hX dX11_init_23 rfl (by decide) (by decide) ?_
  refine zt_callI (pc' := 28) (As := [.int (zI 80)]) (k := 3) hX (zn_X9_2 _ _ s4  q6.1 q6.2.1 ) zm_yX9_init dX11_init_25 rfl zw_3_12 rfl rfl (Nat.le_of_ble_eq_true rfl) (by decide) ⟨by rw [hN.2.1]; exact Nat.le_of_ble_eq_true rfl, by rw [hN.2.2]; exact Nat.le_of_ble_eq_true rfl⟩ (fun _ s7 hp8 => ?_)
  have q9 := zCs_sub (n' := 5) q6 hp8 (by omega)
  refine zt_putF (pc' := 31) (x := ((3 : Nat) : Int)) hX dX11_init_28 rfl hN.1 zf_X11_18 (by omega) zc_0 zs_1 (fun q hq => by cases hq; exact ⟨rfl, rfl⟩) (zrf_of rfl) rfl rfl ?_
  generalize hs11 : zset s7 0 1 ((3 : Nat) : Int) = s10
  have q12 := zCs_ref hs11 q9 zc_0 zs_1 rfl (by omega) (by decide)
  refine zt_aload_n (pc' := 32) hX dX11_init_31 rfl rfl ?_
  refine zt_new (pc' := 35) (c := 4) (q := (RX4, TX4, 2)) hX dX11_init_32 rfl rfl zw_1_17 zw_1_18 zw_1_19 (by decide) zc_5 zs_6 (by decide) (zCs_nx q12) ⟨by rw [hN.2.1]; exact Nat.le_of_ble_eq_true rfl, by rw [hN.2.2]; exact Nat.le_of_ble_eq_true rfl⟩ ?_
  refine zt_dup (pc' := 36) hX dX11_init_35 rfl rfl ?_
  refine zt_callIN (pc' := 39) (As := []) (k := 5) hX (zn_X4 _ _ s10 5 zc_5 q12.1 q12.2.1 ) zm_yX4_init dX11_init_36 rfl (by decide +kernel) rfl rfl (Nat.le_of_ble_eq_true rfl) (by decide) ⟨by rw [hN.2.1]; exact Nat.le_of_ble_eq_true rfl, by rw [hN.2.2]; exact Nat.le_of_ble_eq_true rfl⟩ (fun _ s13 hp14 => ?_)
  have q15 := zCs_sub (n' := 7) q12 hp14 (by omega)
  refine zt_putF (pc' := 42) (x := ((5 : Nat) : Int)) hX dX11_init_39 rfl hN.1 zf_X11_24 (by omega) zc_0 zs_1 (fun q hq => by cases hq; exact ⟨rfl, rfl⟩) (zrf_of rfl) rfl rfl ?_
  generalize hs17 : zset s13 0 2 ((5 : Nat) : Int) = s16
  have q18 := zCs_ref hs17 q15 zc_0 zs_1 rfl (by omega) (by decide)
  have e19 : s16 0 2 = ((5 : Nat) : Int) := by rw [← hs17]; exact zset_s
  refine zt_aload_n (pc' := 43) hX dX11_init_42 rfl rfl ?_
  refine zt_new (pc' := 46) (c := 3) (q := (RX3, TX3, 17)) hX dX11_init_43 rfl rfl zw_1_21 zw_1_22 zw_1_23 (by decide) zc_7 zs_8 (by decide) (zCs_nx q18) ⟨by rw [hN.2.1]; exact Nat.le_of_ble_eq_true rfl, by rw [hN.2.2]; exact Nat.le_of_ble_eq_true rfl⟩ ?_
  refine zt_dup (pc' := 47) hX dX11_init_46 rfl rfl ?_
  refine zt_callIN (pc' := 50) (As := []) (k := 7) hX (zn_X3 _ _ s16 7 zc_7 q18.1 q18.2.1 ) zm_yX3_init dX11_init_47 rfl (by decide +kernel) rfl rfl (Nat.le_of_ble_eq_true rfl) (by decide) ⟨by rw [hN.2.1]; exact Nat.le_of_ble_eq_true rfl, by rw [hN.2.2]; exact Nat.le_of_ble_eq_true rfl⟩ (fun _ s20 hp21 => ?_)
  have q22 := zCs_sub (n' := 17) q18 hp21 (by omega)
  have e23 : s20 0 2 = ((5 : Nat) : Int) := (zCp_e hp21 (by omega) 2).trans e19
  refine zt_put (pc' := 53) (x := ((7 : Nat) : Int)) hX dX11_init_50 rfl zf_X11_31 (by omega) zc_0 zs_1 (fun q hq => by cases hq; rfl) (zrf_of rfl) rfl rfl ?_
  generalize hs25 : zset s20 0 3 ((7 : Nat) : Int) = s24
  have q26 := zCs_ref hs25 q22 zc_0 zs_1 ⟨7, rfl, zc_7⟩ (by omega) (by decide)
  have e27 : s24 0 2 = ((5 : Nat) : Int) := by rw [← hs25]; exact (zset_j (by decide)).trans e23
  have e28 : s24 0 3 = ((7 : Nat) : Int) := by rw [← hs25]; exact zset_s
  refine zt_aload_n (pc' := 54) hX dX11_init_53 rfl rfl ?_
  refine zt_new (pc' := 57) (c := 3) (q := (RX3, TX3, 17)) hX dX11_init_54 rfl rfl zw_1_21 zw_1_22 zw_1_23 (by decide) zc_17 zs_8 (by decide) (zCs_nx q26) ⟨by rw [hN.2.1]; exact Nat.le_of_ble_eq_true rfl, by rw [hN.2.2]; exact Nat.le_of_ble_eq_true rfl⟩ ?_
  refine zt_dup (pc' := 58) hX dX11_init_57 rfl rfl ?_
  refine zt_callIN (pc' := 61) (As := []) (k := 17) hX (zn_X3 _ _ s24 17 zc_17 q26.1 q26.2.1 ) zm_yX3_init dX11_init_58 rfl (by decide +kernel) rfl rfl (Nat.le_of_ble_eq_true rfl) (by decide) ⟨by rw [hN.2.1]; exact Nat.le_of_ble_eq_true rfl, by rw [hN.2.2]; exact Nat.le_of_ble_eq_true rfl⟩ (fun _ s29 hp30 => ?_)
  have q31 := zCs_sub (n' := 27) q26 hp30 (by omega)
  have e32 : s29 0 2 = ((5 : Nat) : Int) := (zCp_e hp30 (by omega) 2).trans e27
  have e33 : s29 0 3 = ((7 : Nat) : Int) := (zCp_e hp30 (by omega) 3).trans e28
  refine zt_put (pc' := 64) (x := ((17 : Nat) : Int)) hX dX11_init_61 rfl zf_X11_35 (by omega) zc_0 zs_1 (fun q hq => by cases hq; rfl) (zrf_of rfl) rfl rfl ?_
  generalize hs35 : zset s29 0 4 ((17 : Nat) : Int) = s34
  have q36 := zCs_ref hs35 q31 zc_0 zs_1 ⟨17, rfl, zc_17⟩ (by omega) (by decide)
  have e37 : s34 0 2 = ((5 : Nat) : Int) := by rw [← hs35]; exact (zset_j (by decide)).trans e32
  have e38 : s34 0 3 = ((7 : Nat) : Int) := by rw [← hs35]; exact (zset_j (by decide)).trans e33
  have e39 : s34 0 4 = ((17 : Nat) : Int) := by rw [← hs35]; exact zset_s
  refine zt_aload_n (pc' := 65) hX dX11_init_64 rfl rfl ?_
  refine zt_new (pc' := 68) (c := 5) (q := (RX5, TX5, 9)) hX dX11_init_65 rfl rfl zw_2_2 zw_2_3 zw_2_4 (by decide) zc_27 zs_14 (by decide) (zCs_nx q36) ⟨by rw [hN.2.1]; exact Nat.le_of_ble_eq_true rfl, by rw [hN.2.2]; exact Nat.le_of_ble_eq_true rfl⟩ ?_
  refine zt_dup (pc' := 69) hX dX11_init_68 rfl rfl ?_
  refine zt_callI2 (pc' := 72) (As := []) (k := 27) hX hxs (zn_X5 _ _ z s34  q36.1 q36.2.1 ) zm_yX5_init dX11_init_69 rfl zw_4_21 rfl rfl (Nat.le_of_ble_eq_true rfl) (by decide) ⟨by rw [hN.2.1]; exact Nat.le_of_ble_eq_true rfl, by rw [hN.2.2]; exact Nat.le_of_ble_eq_true rfl⟩ (fun _ s40 hp41 => ?_)
  have q42 := zCs_sub (n' := 33) q36 hp41 (by omega)
  have e43 : s40 0 2 = ((5 : Nat) : Int) := (zCp_e hp41 (by omega) 2).trans e37
  have e44 : s40 0 3 = ((7 : Nat) : Int) := (zCp_e hp41 (by omega) 3).trans e38
  have e45 : s40 0 4 = ((17 : Nat) : Int) := (zCp_e hp41 (by omega) 4).trans e39
  refine zt_putF (pc' := 75) (x := ((27 : Nat) : Int)) hX dX11_init_72 rfl hN.1 zf_X11_41 (by omega) zc_0 zs_1 (fun q hq => by cases hq; exact ⟨rfl, rfl⟩) (zrf_of rfl) rfl rfl ?_
  generalize hs47 : zset s40 0 5 ((27 : Nat) : Int) = s46
  have q48 := zCs_ref hs47 q42 zc_0 zs_1 rfl (by omega) (by decide)
  have e49 : s46 0 2 = ((5 : Nat) : Int) := by rw [← hs47]; exact (zset_j (by decide)).trans e43
  have e50 : s46 0 3 = ((7 : Nat) : Int) := by rw [← hs47]; exact (zset_j (by decide)).trans e44
  have e51 : s46 0 4 = ((17 : Nat) : Int) := by rw [← hs47]; exact (zset_j (by decide)).trans e45
  have e52 : s46 0 5 = ((27 : Nat) : Int) := by rw [← hs47]; exact zset_s
  refine zt_aload_n (pc' := 76) hX dX11_init_75 rfl rfl ?_
  refine zt_new (pc' := 79) (c := 1) (q := (RX1, TX1, 3)) hX dX11_init_76 rfl rfl zw_2_6 zw_2_7 zw_2_8 (by decide) zc_33 zs_20 (by decide) (zCs_nx q48) ⟨by rw [hN.2.1]; exact Nat.le_of_ble_eq_true rfl, by rw [hN.2.2]; exact Nat.le_of_ble_eq_true rfl⟩ ?_
  refine zt_dup (pc' := 80) hX dX11_init_79 rfl rfl ?_
  refine zt_aload_n (pc' := 81) hX dX11_init_80 rfl rfl ?_
  refine zt_get (pc' := 84) (v := .ref (X.1.1 + 27)) hX dX11_init_81 rfl zf_X11_41 (by omega) zc_0 zs_1 (zrf_of e52) ?_
  refine zt_aload_n (pc' := 85) hX dX11_init_84 rfl rfl ?_
  refine zt_get (pc' := 88) (v := .ref (X.1.1 + 5)) hX dX11_init_85 rfl zf_X11_24 (by omega) zc_0 zs_1 (zrf_of e49) ?_
  refine zt_callI (pc' := 91) (As := [.ref (X.1.1 + 27), .ref (X.1.1 + 5)]) (k := 33) hX (zn_X1 _ _ s46  q48.1 q48.2.1 ) zm_yX1_init dX11_init_88 rfl zw_7_11 rfl rfl (Nat.le_of_ble_eq_true rfl) (by decide) ⟨by rw [hN.2.1]; exact Nat.le_of_ble_eq_true rfl, by rw [hN.2.2]; exact Nat.le_of_ble_eq_true rfl⟩ (fun _ s53 hp54 => ?_)
  have q55 := zCs_sub (n' := 34) q48 hp54 (by omega)
  have e56 : s53 0 2 = ((5 : Nat) : Int) := (zCp_e hp54 (by omega) 2).trans e49
  have e57 : s53 0 3 = ((7 : Nat) : Int) := (zCp_e hp54 (by omega) 3).trans e50
  have e58 : s53 0 4 = ((17 : Nat) : Int) := (zCp_e hp54 (by omega) 4).trans e51
  have e59 : s53 0 5 = ((27 : Nat) : Int) := (zCp_e hp54 (by omega) 5).trans e52
  refine zt_putF (pc' := 94) (x := ((33 : Nat) : Int)) hX dX11_init_91 rfl hN.1 zf_X11_50 (by omega) zc_0 zs_1 (fun q hq => by cases hq; exact ⟨rfl, rfl⟩) (zrf_of rfl) rfl rfl ?_
  generalize hs61 : zset s53 0 6 ((33 : Nat) : Int) = s60
  have q62 := zCs_ref hs61 q55 zc_0 zs_1 rfl (by omega) (by decide)
  have e63 : s60 0 2 = ((5 : Nat) : Int) := by rw [← hs61]; exact (zset_j (by decide)).trans e56
  have e64 : s60 0 3 = ((7 : Nat) : Int) := by rw [← hs61]; exact (zset_j (by decide)).trans e57
  have e65 : s60 0 4 = ((17 : Nat) : Int) := by rw [← hs61]; exact (zset_j (by decide)).trans e58
  have e66 : s60 0 5 = ((27 : Nat) : Int) := by rw [← hs61]; exact (zset_j (by decide)).trans e59
  have e67 : s60 0 6 = ((33 : Nat) : Int) := by rw [← hs61]; exact zset_s
  refine zt_aload_n (pc' := 95) hX dX11_init_94 rfl rfl ?_
  refine zt_new (pc' := 98) (c := 8) (q := (RX8, TX8, 3)) hX dX11_init_95 rfl rfl zw_2_10 zw_2_11 zw_2_12 (by decide) zc_34 zs_21 (by decide) (zCs_nx q62) ⟨by rw [hN.2.1]; exact Nat.le_of_ble_eq_true rfl, by rw [hN.2.2]; exact Nat.le_of_ble_eq_true rfl⟩ ?_
  refine zt_dup (pc' := 99) hX dX11_init_98 rfl rfl ?_
  refine zt_aload_n (pc' := 100) hX dX11_init_99 rfl rfl ?_
  refine zt_get (pc' := 103) (v := .ref (X.1.1 + 27)) hX dX11_init_100 rfl zf_X11_41 (by omega) zc_0 zs_1 (zrf_of e66) ?_
  refine zt_aload_n (pc' := 104) hX dX11_init_103 rfl rfl ?_
  refine zt_get (pc' := 107) (v := .ref (X.1.1 + 33)) hX dX11_init_104 rfl zf_X11_50 (by omega) zc_0 zs_1 (zrf_of e67) ?_
  refine zt_aload_n (pc' := 108) hX dX11_init_107 rfl rfl ?_
  refine zt_get (pc' := 111) (v := .ref (X.1.1 + 17)) hX dX11_init_108 rfl zf_X11_35 (by omega) zc_0 zs_1 (zrf_of e65) ?_
  refine zt_callI (pc' := 114) (As := [.ref (X.1.1 + 27), .ref (X.1.1 + 33), .ref (X.1.1 + 17)]) (k := 34) hX (zn_X8 _ _ s60  q62.1 q62.2.1 ) zm_yX8_init dX11_init_111 rfl zw_7_18 rfl rfl (Nat.le_of_ble_eq_true rfl) (by decide) ⟨by rw [hN.2.1]; exact Nat.le_of_ble_eq_true rfl, by rw [hN.2.2]; exact Nat.le_of_ble_eq_true rfl⟩ (fun _ s68 hp69 => ?_)
  have q70 := zCs_sub (n' := 35) q62 hp69 (by omega)
  have e71 : s68 0 2 = ((5 : Nat) : Int) := (zCp_e hp69 (by omega) 2).trans e63
  have e72 : s68 0 3 = ((7 : Nat) : Int) := (zCp_e hp69 (by omega) 3).trans e64
  have e73 : s68 0 4 = ((17 : Nat) : Int) := (zCp_e hp69 (by omega) 4).trans e65
  have e74 : s68 0 5 = ((27 : Nat) : Int) := (zCp_e hp69 (by omega) 5).trans e66
  have e75 : s68 0 6 = ((33 : Nat) : Int) := (zCp_e hp69 (by omega) 6).trans e67
  refine zt_putF (pc' := 117) (x := ((34 : Nat) : Int)) hX dX11_init_114 rfl hN.1 zf_X11_59 (by omega) zc_0 zs_1 (fun q hq => by cases hq; exact ⟨rfl, rfl⟩) (zrf_of rfl) rfl rfl ?_
  generalize hs77 : zset s68 0 7 ((34 : Nat) : Int) = s76
  have q78 := zCs_ref hs77 q70 zc_0 zs_1 rfl (by omega) (by decide)
  have e79 : s76 0 2 = ((5 : Nat) : Int) := by rw [← hs77]; exact (zset_j (by decide)).trans e71
  have e80 : s76 0 3 = ((7 : Nat) : Int) := by rw [← hs77]; exact (zset_j (by decide)).trans e72
  have e81 : s76 0 4 = ((17 : Nat) : Int) := by rw [← hs77]; exact (zset_j (by decide)).trans e73
  have e82 : s76 0 5 = ((27 : Nat) : Int) := by rw [← hs77]; exact (zset_j (by decide)).trans e74
  have e83 : s76 0 6 = ((33 : Nat) : Int) := by rw [← hs77]; exact (zset_j (by decide)).trans e75
  refine zt_aload_n (pc' := 118) hX dX11_init_117 rfl rfl ?_
  refine zt_new (pc' := 121) (c := 10) (q := (RX10, TX10, 8)) hX dX11_init_118 rfl rfl zw_2_14 zw_2_15 zw_2_16 (by decide) zc_35 zs_22 (by decide) (zCs_nx q78) ⟨by rw [hN.2.1]; exact Nat.le_of_ble_eq_true rfl, by rw [hN.2.2]; exact Nat.le_of_ble_eq_true rfl⟩ ?_
  refine zt_dup (pc' := 122) hX dX11_init_121 rfl rfl ?_
  refine zt_callIN (pc' := 125) (As := []) (k := 35) hX (zn_X10 _ _ s76 35 zc_35 q78.1 q78.2.1 ) zm_yX10_init dX11_init_122 rfl (by decide +kernel) rfl rfl (Nat.le_of_ble_eq_true rfl) (by decide) ⟨by rw [hN.2.1]; exact Nat.le_of_ble_eq_true rfl, by rw [hN.2.2]; exact Nat.le_of_ble_eq_true rfl⟩ (fun _ s84 hp85 => ?_)
  have q86 := zCs_sub (n' := 40) q78 hp85 (by omega)
  have e87 : s84 0 2 = ((5 : Nat) : Int) := (zCp_e hp85 (by omega) 2).trans e79
  have e88 : s84 0 3 = ((7 : Nat) : Int) := (zCp_e hp85 (by omega) 3).trans e80
  have e89 : s84 0 4 = ((17 : Nat) : Int) := (zCp_e hp85 (by omega) 4).trans e81
  have e90 : s84 0 5 = ((27 : Nat) : Int) := (zCp_e hp85 (by omega) 5).trans e82
  have e91 : s84 0 6 = ((33 : Nat) : Int) := (zCp_e hp85 (by omega) 6).trans e83
  refine zt_putF (pc' := 128) (x := ((35 : Nat) : Int)) hX dX11_init_125 rfl hN.1 zf_X11_66 (by omega) zc_0 zs_1 (fun q hq => by cases hq; exact ⟨rfl, rfl⟩) (zrf_of rfl) rfl rfl ?_
  generalize hs93 : zset s84 0 8 ((35 : Nat) : Int) = s92
  have q94 := zCs_ref hs93 q86 zc_0 zs_1 rfl (by omega) (by decide)
  have e95 : s92 0 2 = ((5 : Nat) : Int) := by rw [← hs93]; exact (zset_j (by decide)).trans e87
  have e96 : s92 0 3 = ((7 : Nat) : Int) := by rw [← hs93]; exact (zset_j (by decide)).trans e88
  have e97 : s92 0 4 = ((17 : Nat) : Int) := by rw [← hs93]; exact (zset_j (by decide)).trans e89
  have e98 : s92 0 5 = ((27 : Nat) : Int) := by rw [← hs93]; exact (zset_j (by decide)).trans e90
  have e99 : s92 0 6 = ((33 : Nat) : Int) := by rw [← hs93]; exact (zset_j (by decide)).trans e91
  have e100 : s92 0 8 = ((35 : Nat) : Int) := by rw [← hs93]; exact zset_s
  refine zt_aload_n (pc' := 129) hX dX11_init_128 rfl rfl ?_
  refine zt_new (pc' := 132) (c := 10) (q := (RX10, TX10, 8)) hX dX11_init_129 rfl rfl zw_2_14 zw_2_15 zw_2_16 (by decide) zc_40 zs_22 (by decide) (zCs_nx q94) ⟨by rw [hN.2.1]; exact Nat.le_of_ble_eq_true rfl, by rw [hN.2.2]; exact Nat.le_of_ble_eq_true rfl⟩ ?_
  refine zt_dup (pc' := 133) hX dX11_init_132 rfl rfl ?_
  refine zt_callIN (pc' := 136) (As := []) (k := 40) hX (zn_X10 _ _ s92 40 zc_40 q94.1 q94.2.1 ) zm_yX10_init dX11_init_133 rfl (by decide +kernel) rfl rfl (Nat.le_of_ble_eq_true rfl) (by decide) ⟨by rw [hN.2.1]; exact Nat.le_of_ble_eq_true rfl, by rw [hN.2.2]; exact Nat.le_of_ble_eq_true rfl⟩ (fun _ s101 hp102 => ?_)
  have q103 := zCs_sub (n' := 45) q94 hp102 (by omega)
  have e104 : s101 0 2 = ((5 : Nat) : Int) := (zCp_e hp102 (by omega) 2).trans e95
  have e105 : s101 0 3 = ((7 : Nat) : Int) := (zCp_e hp102 (by omega) 3).trans e96
  have e106 : s101 0 4 = ((17 : Nat) : Int) := (zCp_e hp102 (by omega) 4).trans e97
  have e107 : s101 0 5 = ((27 : Nat) : Int) := (zCp_e hp102 (by omega) 5).trans e98
  have e108 : s101 0 6 = ((33 : Nat) : Int) := (zCp_e hp102 (by omega) 6).trans e99
  have e109 : s101 0 8 = ((35 : Nat) : Int) := (zCp_e hp102 (by omega) 8).trans e100
  refine zt_putF (pc' := 139) (x := ((40 : Nat) : Int)) hX dX11_init_136 rfl hN.1 zf_X11_70 (by omega) zc_0 zs_1 (fun q hq => by cases hq; exact ⟨rfl, rfl⟩) (zrf_of rfl) rfl rfl ?_
  generalize hs111 : zset s101 0 9 ((40 : Nat) : Int) = s110
  have q112 := zCs_ref hs111 q103 zc_0 zs_1 rfl (by omega) (by decide)
  have e113 : s110 0 2 = ((5 : Nat) : Int) := by rw [← hs111]; exact (zset_j (by decide)).trans e104
  have e114 : s110 0 3 = ((7 : Nat) : Int) := by rw [← hs111]; exact (zset_j (by decide)).trans e105
  have e115 : s110 0 4 = ((17 : Nat) : Int) := by rw [← hs111]; exact (zset_j (by decide)).trans e106
  have e116 : s110 0 5 = ((27 : Nat) : Int) := by rw [← hs111]; exact (zset_j (by decide)).trans e107
  have e117 : s110 0 6 = ((33 : Nat) : Int) := by rw [← hs111]; exact (zset_j (by decide)).trans e108
  have e118 : s110 0 8 = ((35 : Nat) : Int) := by rw [← hs111]; exact (zset_j (by decide)).trans e109
  refine zt_aload_n (pc' := 140) hX dX11_init_139 rfl rfl ?_
  refine zt_new (pc' := 143) (c := 2) (q := (RX2, TX2, 3)) hX dX11_init_140 rfl rfl zw_2_19 zw_2_20 zw_2_21 (by decide) zc_45 zs_27 (by decide) (zCs_nx q112) ⟨by rw [hN.2.1]; exact Nat.le_of_ble_eq_true rfl, by rw [hN.2.2]; exact Nat.le_of_ble_eq_true rfl⟩ ?_
  refine zt_dup (pc' := 144) hX dX11_init_143 rfl rfl ?_
  refine zt_callI2 (pc' := 147) (As := []) (k := 45) hX hxs (zn_X2 _ _ z s110  q112.1 q112.2.1 ) zm_yX2_init dX11_init_144 rfl zw_8_12 rfl rfl (Nat.le_of_ble_eq_true rfl) (by decide) ⟨by rw [hN.2.1]; exact Nat.le_of_ble_eq_true rfl, by rw [hN.2.2]; exact Nat.le_of_ble_eq_true rfl⟩ (fun _ s119 hp120 => ?_)
  have q121 := zCs_sub (n' := 147) q112 hp120 (by omega)
  have e122 : s119 0 2 = ((5 : Nat) : Int) := (zCp_e hp120 (by omega) 2).trans e113
  have e123 : s119 0 3 = ((7 : Nat) : Int) := (zCp_e hp120 (by omega) 3).trans e114
  have e124 : s119 0 4 = ((17 : Nat) : Int) := (zCp_e hp120 (by omega) 4).trans e115
  have e125 : s119 0 5 = ((27 : Nat) : Int) := (zCp_e hp120 (by omega) 5).trans e116
  have e126 : s119 0 6 = ((33 : Nat) : Int) := (zCp_e hp120 (by omega) 6).trans e117
  have e127 : s119 0 8 = ((35 : Nat) : Int) := (zCp_e hp120 (by omega) 8).trans e118
  refine zt_putF (pc' := 150) (x := ((45 : Nat) : Int)) hX dX11_init_147 rfl hN.1 zf_X11_76 (by omega) zc_0 zs_1 (fun q hq => by cases hq; exact ⟨rfl, rfl⟩) (zrf_of rfl) rfl rfl ?_
  generalize hs129 : zset s119 0 10 ((45 : Nat) : Int) = s128
  have q130 := zCs_ref hs129 q121 zc_0 zs_1 rfl (by omega) (by decide)
  have e131 : s128 0 2 = ((5 : Nat) : Int) := by rw [← hs129]; exact (zset_j (by decide)).trans e122
  have e132 : s128 0 3 = ((7 : Nat) : Int) := by rw [← hs129]; exact (zset_j (by decide)).trans e123
  have e133 : s128 0 4 = ((17 : Nat) : Int) := by rw [← hs129]; exact (zset_j (by decide)).trans e124
  have e134 : s128 0 5 = ((27 : Nat) : Int) := by rw [← hs129]; exact (zset_j (by decide)).trans e125
  have e135 : s128 0 6 = ((33 : Nat) : Int) := by rw [← hs129]; exact (zset_j (by decide)).trans e126
  have e136 : s128 0 8 = ((35 : Nat) : Int) := by rw [← hs129]; exact (zset_j (by decide)).trans e127
  refine zt_aload_n (pc' := 151) hX dX11_init_150 rfl rfl ?_
  refine zt_new (pc' := 154) (c := 7) (q := (RX7, TX7, 7)) hX dX11_init_151 rfl rfl zw_2_23 zw_3_0 zw_3_1 (by decide) zc_147 zs_29 (by decide) (zCs_nx q130) ⟨by rw [hN.2.1]; exact Nat.le_of_ble_eq_true rfl, by rw [hN.2.2]; exact Nat.le_of_ble_eq_true rfl⟩ ?_
  refine zt_dup (pc' := 155) hX dX11_init_154 rfl rfl ?_
  refine zt_callIN (pc' := 158) (As := []) (k := 147) hX (zn_X7 _ _ s128  q130.1 q130.2.1 ) zm_yX7_init dX11_init_155 rfl (by decide +kernel) rfl rfl (Nat.le_of_ble_eq_true rfl) (by decide) ⟨by rw [hN.2.1]; exact Nat.le_of_ble_eq_true rfl, by rw [hN.2.2]; exact Nat.le_of_ble_eq_true rfl⟩ (fun _ s137 hp138 => ?_)
  have q139 := zCs_sub (n' := 153) q130 hp138 (by omega)
  have e140 : s137 0 2 = ((5 : Nat) : Int) := (zCp_e hp138 (by omega) 2).trans e131
  have e141 : s137 0 3 = ((7 : Nat) : Int) := (zCp_e hp138 (by omega) 3).trans e132
  have e142 : s137 0 4 = ((17 : Nat) : Int) := (zCp_e hp138 (by omega) 4).trans e133
  have e143 : s137 0 5 = ((27 : Nat) : Int) := (zCp_e hp138 (by omega) 5).trans e134
  have e144 : s137 0 6 = ((33 : Nat) : Int) := (zCp_e hp138 (by omega) 6).trans e135
  have e145 : s137 0 8 = ((35 : Nat) : Int) := (zCp_e hp138 (by omega) 8).trans e136
  refine zt_putF (pc' := 161) (x := ((147 : Nat) : Int)) hX dX11_init_158 rfl hN.1 zf_X11_83 (by omega) zc_0 zs_1 (fun q hq => by cases hq; exact ⟨rfl, rfl⟩) (zrf_of rfl) rfl rfl ?_
  generalize hs147 : zset s137 0 11 ((147 : Nat) : Int) = s146
  have q148 := zCs_ref hs147 q139 zc_0 zs_1 rfl (by omega) (by decide)
  have e149 : s146 0 2 = ((5 : Nat) : Int) := by rw [← hs147]; exact (zset_j (by decide)).trans e140
  have e150 : s146 0 3 = ((7 : Nat) : Int) := by rw [← hs147]; exact (zset_j (by decide)).trans e141
  have e151 : s146 0 4 = ((17 : Nat) : Int) := by rw [← hs147]; exact (zset_j (by decide)).trans e142
  have e152 : s146 0 5 = ((27 : Nat) : Int) := by rw [← hs147]; exact (zset_j (by decide)).trans e143
  have e153 : s146 0 6 = ((33 : Nat) : Int) := by rw [← hs147]; exact (zset_j (by decide)).trans e144
  have e154 : s146 0 8 = ((35 : Nat) : Int) := by rw [← hs147]; exact (zset_j (by decide)).trans e145
  refine zt_aload_n (pc' := 162) hX dX11_init_161 rfl rfl ?_
  refine zt_new (pc' := 165) (c := 6) (q := (RX6, TX6, 14)) hX dX11_init_162 rfl rfl zw_3_3 zw_3_4 zw_3_5 (by decide) zc_153 zs_35 (by decide) (zCs_nx q148) ⟨by rw [hN.2.1]; exact Nat.le_of_ble_eq_true rfl, by rw [hN.2.2]; exact Nat.le_of_ble_eq_true rfl⟩ ?_
  refine zt_dup (pc' := 166) hX dX11_init_165 rfl rfl ?_
  refine zt_aload_n (pc' := 167) hX dX11_init_166 rfl rfl ?_
  refine zt_get (pc' := 170) (v := .ref (X.1.1 + 7)) hX dX11_init_167 rfl zf_X11_31 (by omega) zc_0 zs_1 (zrf_of e150) ?_
  refine zt_aload_n (pc' := 171) hX dX11_init_170 rfl rfl ?_
  refine zt_get (pc' := 174) (v := .ref (X.1.1 + 35)) hX dX11_init_171 rfl zf_X11_66 (by omega) zc_0 zs_1 (zrf_of e154) ?_
  refine zt_callI (pc' := 177) (As := [.ref (X.1.1 + 7), .ref (X.1.1 + 35)]) (k := 153) hX (zn_X6 _ _ s146  q148.1 q148.2.1 ) zm_yX6_init dX11_init_174 rfl zw_9_7 rfl rfl (Nat.le_of_ble_eq_true rfl) (by decide) ⟨by rw [hN.2.1]; exact Nat.le_of_ble_eq_true rfl, by rw [hN.2.2]; exact Nat.le_of_ble_eq_true rfl⟩ (fun _ s155 hp156 => ?_)
  have q157 := zCs_sub (n' := 163) q148 hp156 (by omega)
  have e158 : s155 0 2 = ((5 : Nat) : Int) := (zCp_e hp156 (by omega) 2).trans e149
  have e159 : s155 0 3 = ((7 : Nat) : Int) := (zCp_e hp156 (by omega) 3).trans e150
  have e160 : s155 0 4 = ((17 : Nat) : Int) := (zCp_e hp156 (by omega) 4).trans e151
  have e161 : s155 0 5 = ((27 : Nat) : Int) := (zCp_e hp156 (by omega) 5).trans e152
  have e162 : s155 0 6 = ((33 : Nat) : Int) := (zCp_e hp156 (by omega) 6).trans e153
  have e163 : s155 0 8 = ((35 : Nat) : Int) := (zCp_e hp156 (by omega) 8).trans e154
  refine zt_putF (pc' := 180) (x := ((153 : Nat) : Int)) hX dX11_init_177 rfl hN.1 zf_X11_92 (by omega) zc_0 zs_1 (fun q hq => by cases hq; exact ⟨rfl, rfl⟩) (zrf_of rfl) rfl rfl ?_
  generalize hs165 : zset s155 0 12 ((153 : Nat) : Int) = s164
  have q166 := zCs_ref hs165 q157 zc_0 zs_1 rfl (by omega) (by decide)
  have e167 : s164 0 2 = ((5 : Nat) : Int) := by rw [← hs165]; exact (zset_j (by decide)).trans e158
  have e168 : s164 0 3 = ((7 : Nat) : Int) := by rw [← hs165]; exact (zset_j (by decide)).trans e159
  have e169 : s164 0 4 = ((17 : Nat) : Int) := by rw [← hs165]; exact (zset_j (by decide)).trans e160
  have e170 : s164 0 5 = ((27 : Nat) : Int) := by rw [← hs165]; exact (zset_j (by decide)).trans e161
  have e171 : s164 0 6 = ((33 : Nat) : Int) := by rw [← hs165]; exact (zset_j (by decide)).trans e162
  have e172 : s164 0 8 = ((35 : Nat) : Int) := by rw [← hs165]; exact (zset_j (by decide)).trans e163
  refine zt_aload_n (pc' := 181) hX dX11_init_180 rfl rfl ?_
  refine zt_bipush (pc' := 183) hX dX11_init_181 rfl (by decide) (by decide) ?_
  refine zt_newa (pc' := 185) (t := 0) (N := 6) hX dX11_init_183 rfl zw_3_7 rfl (by decide) (by decide) zc_163 zs_45 (by decide) (by decide) (zCs_nx q166) ⟨by rw [hN.2.1]; exact Nat.le_of_ble_eq_true rfl, by rw [hN.2.2]; exact Nat.le_of_ble_eq_true rfl⟩ ?_
  have q173 := zCs_arr q166 zc_163 zs_45 (by decide)
  refine zt_putF (pc' := 188) (x := ((163 : Nat) : Int)) hX dX11_init_185 rfl hN.1 zf_X11_96 (by omega) zc_0 zs_1 (fun q hq => by cases hq; exact ⟨rfl, rfl⟩) (zrf_of rfl) rfl rfl ?_
  generalize hs175 : zset s164 0 13 ((163 : Nat) : Int) = s174
  have q176 := zCs_ref hs175 q173 zc_0 zs_1 rfl (by omega) (by decide)
  have e177 : s174 0 2 = ((5 : Nat) : Int) := by rw [← hs175]; exact (zset_j (by decide)).trans e167
  have e178 : s174 0 3 = ((7 : Nat) : Int) := by rw [← hs175]; exact (zset_j (by decide)).trans e168
  have e179 : s174 0 4 = ((17 : Nat) : Int) := by rw [← hs175]; exact (zset_j (by decide)).trans e169
  have e180 : s174 0 5 = ((27 : Nat) : Int) := by rw [← hs175]; exact (zset_j (by decide)).trans e170
  have e181 : s174 0 6 = ((33 : Nat) : Int) := by rw [← hs175]; exact (zset_j (by decide)).trans e171
  have e182 : s174 0 8 = ((35 : Nat) : Int) := by rw [← hs175]; exact (zset_j (by decide)).trans e172
  refine zt_aload_n (pc' := 189) hX dX11_init_188 rfl rfl ?_
  refine zt_iconst (pc' := 190) hX dX11_init_189 rfl ?_
  refine zt_put (pc' := 193) (x := 1) hX dX11_init_190 rfl zf_X11_100 (by omega) zc_0 zs_1 (fun q hq => by cases hq; rfl) rfl rfl rfl ?_
  generalize hs184 : zset s174 0 14 1 = s183
  have q185 := zCs_int hs184 q176 zc_0 zs_1 (show -2147483648 ≤ (1 : Int) ∧ (1 : Int) ≤ 2147483647 from ⟨by decide, by decide⟩) (by decide)
  have e186 : s183 0 2 = ((5 : Nat) : Int) := by rw [← hs184]; exact (zset_j (by decide)).trans e177
  have e187 : s183 0 3 = ((7 : Nat) : Int) := by rw [← hs184]; exact (zset_j (by decide)).trans e178
  have e188 : s183 0 4 = ((17 : Nat) : Int) := by rw [← hs184]; exact (zset_j (by decide)).trans e179
  have e189 : s183 0 5 = ((27 : Nat) : Int) := by rw [← hs184]; exact (zset_j (by decide)).trans e180
  have e190 : s183 0 6 = ((33 : Nat) : Int) := by rw [← hs184]; exact (zset_j (by decide)).trans e181
  have e191 : s183 0 8 = ((35 : Nat) : Int) := by rw [← hs184]; exact (zset_j (by decide)).trans e182
  refine zt_aload_n (pc' := 194) hX dX11_init_193 rfl rfl ?_
  refine zt_iconst (pc' := 195) hX dX11_init_194 rfl ?_
  refine zt_put (pc' := 198) (x := 0) hX dX11_init_195 rfl zf_X11_104 (by omega) zc_0 zs_1 (fun q hq => by cases hq; rfl) rfl rfl rfl ?_
  generalize hs193 : zset s183 0 15 0 = s192
  have q194 := zCs_int hs193 q185 zc_0 zs_1 (show -2147483648 ≤ (0 : Int) ∧ (0 : Int) ≤ 2147483647 from ⟨by decide, by decide⟩) (by decide)
  have e195 : s192 0 2 = ((5 : Nat) : Int) := by rw [← hs193]; exact (zset_j (by decide)).trans e186
  have e196 : s192 0 3 = ((7 : Nat) : Int) := by rw [← hs193]; exact (zset_j (by decide)).trans e187
  have e197 : s192 0 4 = ((17 : Nat) : Int) := by rw [← hs193]; exact (zset_j (by decide)).trans e188
  have e198 : s192 0 5 = ((27 : Nat) : Int) := by rw [← hs193]; exact (zset_j (by decide)).trans e189
  have e199 : s192 0 6 = ((33 : Nat) : Int) := by rw [← hs193]; exact (zset_j (by decide)).trans e190
  have e200 : s192 0 8 = ((35 : Nat) : Int) := by rw [← hs193]; exact (zset_j (by decide)).trans e191
  refine zt_aload_n (pc' := 199) hX dX11_init_198 rfl rfl ?_
  refine zt_iconst (pc' := 200) hX dX11_init_199 rfl ?_
  refine zt_put (pc' := 203) (x := (-1)) hX dX11_init_200 rfl zf_X11_107 (by omega) zc_0 zs_1 (fun q hq => by cases hq; rfl) rfl rfl rfl ?_
  generalize hs202 : zset s192 0 16 (-1) = s201
  have q203 := zCs_int hs202 q194 zc_0 zs_1 (show -2147483648 ≤ ((-1) : Int) ∧ ((-1) : Int) ≤ 2147483647 from ⟨by decide, by decide⟩) (by decide)
  have e204 : s201 0 2 = ((5 : Nat) : Int) := by rw [← hs202]; exact (zset_j (by decide)).trans e195
  have e205 : s201 0 3 = ((7 : Nat) : Int) := by rw [← hs202]; exact (zset_j (by decide)).trans e196
  have e206 : s201 0 4 = ((17 : Nat) : Int) := by rw [← hs202]; exact (zset_j (by decide)).trans e197
  have e207 : s201 0 5 = ((27 : Nat) : Int) := by rw [← hs202]; exact (zset_j (by decide)).trans e198
  have e208 : s201 0 6 = ((33 : Nat) : Int) := by rw [← hs202]; exact (zset_j (by decide)).trans e199
  have e209 : s201 0 8 = ((35 : Nat) : Int) := by rw [← hs202]; exact (zset_j (by decide)).trans e200
  exact zt_vret hX hR dX11_init_203 (zCs_end (N := 17) q203 zc_0 zs_1 (by decide) (fun _ _ => trivial))
