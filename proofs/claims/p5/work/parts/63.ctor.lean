set_option maxRecDepth 100000 in
set_option maxHeartbeats 4000000 in
theorem zn_X9_1 (l : Launch) (E : zEN) (σ : zSto) (hI : zIR σ) (hD : zDf σ 1) : zCt l E yX9_init cX9_init 2 none 1 2 3 1 1600 σ [.ref (E.1 + 1), .int (zI 1600)] (fun _ σ' => zCp σ σ' 1 3 ∧ σ' 1 1 = 0) := by
  refine zCt_of2 [some (.ref (E.1 + 1)), some (.int (zI 1600))] (by decide +kernel) (Nat.le_of_ble_eq_true rfl) rfl ?_
  intro X hE hX hR hL hN
  subst hE
  have hX : zok X cX9_init RX9 1 := hX
  have q0 := zCs_0 hI hD
  refine zt_aload_n (pc' := 1) hX dX9_init_0 rfl rfl ?_
  refine zt_oinit (pc' := 4) hX (by decide) dX9_init_1 rfl zw_3_15 zw_1_10 zw_1_11 rfl ?_
  refine zt_aload_n (pc' := 5) hX dX9_init_4 rfl rfl ?_
  refine zt_iconst (pc' := 6) hX dX9_init_5 rfl ?_
  refine zt_put (pc' := 9) (x := 0) hX dX9_init_6 rfl zf_X9_9 (by omega) zc_1 zs_2 (fun q hq => by cases hq; rfl) rfl rfl rfl ?_
  generalize hs2 : zset σ 1 1 0 = s1
  have q3 := zCs_int hs2 q0 zc_1 zs_2 (show 0 ≤ (0 : Int) ∧ (0 : Int) ≤ 1600 from ⟨by decide, by decide⟩) (by decide)
  have t4 : s1 1 1 = 0 := by rw [← hs2]; exact zset_s
  refine zt_aload_n (pc' := 10) hX dX9_init_9 rfl rfl ?_
  refine zt_iload_n (pc' := 11) hX dX9_init_10 rfl rfl ?_
  refine zt_newa (pc' := 13) (t := 1) (N := 1600) hX dX9_init_11 rfl zw_3_17 rfl (by decide) (by decide) zc_2 zs_3 (by decide) (by decide) (zCs_nx q3) ⟨by rw [hN.2.1]; exact Nat.le_of_ble_eq_true rfl, by rw [hN.2.2]; exact Nat.le_of_ble_eq_true rfl⟩ ?_
  have q5 := zCs_arr q3 zc_2 zs_3 (by decide)
  refine zt_putF (pc' := 16) (x := ((2 : Nat) : Int)) hX dX9_init_13 rfl hN.1 zf_X9_15 (by omega) zc_1 zs_2 (fun q hq => by cases hq; exact ⟨rfl, rfl⟩) (zrf_of rfl) rfl rfl ?_
  generalize hs7 : zset s1 1 0 ((2 : Nat) : Int) = s6
  have q8 := zCs_ref hs7 q5 zc_1 zs_2 rfl (by omega) (by decide)
  have t9 : s6 1 1 = 0 := by rw [← hs7]; exact (zset_j (by decide)).trans t4
  exact zt_vret hX hR dX9_init_16 ⟨zCs_end (N := 2) q8 zc_1 zs_2 (by decide) (fun _ _ => trivial), t9⟩

set_option maxRecDepth 100000 in
set_option maxHeartbeats 4000000 in
theorem zn_X9_2 (l : Launch) (E : zEN) (σ : zSto) (hI : zIR σ) (hD : zDf σ 3) : zCt l E yX9_init cX9_init 2 none 1 4 5 1 80 σ [.ref (E.1 + 3), .int (zI 80)] (fun _ σ' => zCp σ σ' 3 5) := by
  refine zCt_of2 [some (.ref (E.1 + 3)), some (.int (zI 80))] (by decide +kernel) (Nat.le_of_ble_eq_true rfl) rfl ?_
  intro X hE hX hR hL hN
  subst hE
  have hX : zok X cX9_init RX9 1 := hX
  have q0 := zCs_0 hI hD
  refine zt_aload_n (pc' := 1) hX dX9_init_0 rfl rfl ?_
  refine zt_oinit (pc' := 4) hX (by decide) dX9_init_1 rfl zw_3_15 zw_1_10 zw_1_11 rfl ?_
  refine zt_aload_n (pc' := 5) hX dX9_init_4 rfl rfl ?_
  refine zt_iconst (pc' := 6) hX dX9_init_5 rfl ?_
  refine zt_put (pc' := 9) (x := 0) hX dX9_init_6 rfl zf_X9_9 (by omega) zc_3 zs_4 (fun q hq => by cases hq; rfl) rfl rfl rfl ?_
  generalize hs2 : zset σ 3 1 0 = s1
  have q3 := zCs_int hs2 q0 zc_3 zs_4 (show 0 ≤ (0 : Int) ∧ (0 : Int) ≤ 80 from ⟨by decide, by decide⟩) (by decide)
  refine zt_aload_n (pc' := 10) hX dX9_init_9 rfl rfl ?_
  refine zt_iload_n (pc' := 11) hX dX9_init_10 rfl rfl ?_
  refine zt_newa (pc' := 13) (t := 1) (N := 80) hX dX9_init_11 rfl zw_3_17 rfl (by decide) (by decide) zc_4 zs_5 (by decide) (by decide) (zCs_nx q3) ⟨by rw [hN.2.1]; exact Nat.le_of_ble_eq_true rfl, by rw [hN.2.2]; exact Nat.le_of_ble_eq_true rfl⟩ ?_
  have q4 := zCs_arr q3 zc_4 zs_5 (by decide)
  refine zt_putF (pc' := 16) (x := ((4 : Nat) : Int)) hX dX9_init_13 rfl hN.1 zf_X9_15 (by omega) zc_3 zs_4 (fun q hq => by cases hq; exact ⟨rfl, rfl⟩) (zrf_of rfl) rfl rfl ?_
  generalize hs6 : zset s1 3 0 ((4 : Nat) : Int) = s5
  have q7 := zCs_ref hs6 q4 zc_3 zs_4 rfl (by omega) (by decide)
  exact zt_vret hX hR dX9_init_16 (zCs_end (N := 2) q7 zc_3 zs_4 (by decide) (fun _ _ => trivial))

set_option maxRecDepth 100000 in
set_option maxHeartbeats 4000000 in
theorem zn_X4 (l : Launch) (E : zEN) (σ : zSto) (k : Nat) (hk : zro k = 6) (hI : zIR σ) (hD : zDf σ k) : zCt l E yX4_init cX4_init 1 none 1 (k + 1) (k + 2) 1 1600 σ [.ref (E.1 + k)] (fun _ σ' => zCp σ σ' k (k + 2)) := by
  refine zCt_of2 [some (.ref (E.1 + k))] (by decide +kernel) (Nat.le_of_ble_eq_true rfl) rfl ?_
  intro X hE hX hR hL hN
  subst hE
  have hX : zok X cX4_init RX4 1 := hX
  have q0 := zCs_0 hI hD
  have hkl := zro_lt hk (by decide)
  refine zt_aload_n (pc' := 1) hX dX4_init_0 rfl rfl ?_
  refine zt_oinit (pc' := 4) hX (by decide) dX4_init_1 rfl zw_3_21 zw_1_10 zw_1_11 rfl ?_
  refine zt_aload_n (pc' := 5) hX dX4_init_4 rfl rfl ?_
  refine zt_sipush (pc' := 8) hX dX4_init_5 rfl (by decide) (by decide) ?_
  refine zt_newa (pc' := 10) (t := 0) (N := 1600) hX dX4_init_8 rfl zw_3_7 rfl (by decide) (by have := zro_lt (zo_6_0 hk) (by decide); omega) (zo_6_0 hk) zs_7 (by decide) (by decide) (zCs_nx q0) ⟨by rw [hN.2.1]; exact Nat.le_of_ble_eq_true rfl, by rw [hN.2.2]; exact Nat.le_of_ble_eq_true rfl⟩ ?_
  have q1 := zCs_arr q0 (zo_6_0 hk) zs_7 (by decide)
  refine zt_putF (pc' := 13) (x := (((k + 1) : Nat) : Int)) hX dX4_init_10 rfl hN.1 zf_X4_9 (by omega) hk zs_6 (fun q hq => by cases hq; exact ⟨rfl, rfl⟩) (zrf_of rfl) rfl rfl ?_
  generalize hs3 : zset σ k 0 (((k + 1) : Nat) : Int) = s2
  have q4 := zCs_ref hs3 q1 hk zs_6 rfl (by omega) (by decide)
  refine zt_aload_n (pc' := 14) hX dX4_init_13 rfl rfl ?_
  refine zt_iconst (pc' := 15) hX dX4_init_14 rfl ?_
  refine zt_put (pc' := 18) (x := 0) hX dX4_init_15 rfl zf_X4_15 (by omega) hk zs_6 (fun q hq => by cases hq; rfl) rfl rfl rfl ?_
  generalize hs6 : zset s2 k 1 0 = s5
  have q7 := zCs_int hs6 q4 hk zs_6 (show 0 ≤ (0 : Int) ∧ (0 : Int) ≤ 1600 from ⟨by decide, by decide⟩) (by decide)
  exact zt_vret hX hR dX4_init_18 (zCs_end (N := 2) q7 hk zs_6 (by decide) (fun _ _ => trivial))

set_option maxRecDepth 100000 in
set_option maxHeartbeats 4000000 in
theorem zn_X3 (l : Launch) (E : zEN) (σ : zSto) (k : Nat) (hk : zro k = 8) (hI : zIR σ) (hD : zDf σ k) : zCt l E yX3_init cX3_init 1 none 2 (k + 1) (k + 10) 9 3280 σ [.ref (E.1 + k)] (fun _ σ' => zCp σ σ' k (k + 10) ∧ σ' k 10 = 0 ∧ σ' k 11 = 0 ∧ σ' k 12 = 0) := by
  refine zCt_of2 [some (.ref (E.1 + k))] (by decide +kernel) (Nat.le_of_ble_eq_true rfl) rfl ?_
  intro X hE hX hR hL hN
  subst hE
  have hX : zok X cX3_init RX3 2 := hX
  have q0 := zCs_0 hI hD
  have hkl := zro_lt hk (by decide)
  refine zt_aload_n (pc' := 1) hX dX3_init_0 rfl rfl ?_
  refine zt_oinit (pc' := 4) hX (by decide) dX3_init_1 rfl zw_4_2 zw_1_10 zw_1_11 rfl ?_
  refine zt_aload_n (pc' := 5) hX dX3_init_4 rfl rfl ?_
  refine zt_bipush (pc' := 7) hX dX3_init_5 rfl (by decide) (by decide) ?_
  refine zt_newa (pc' := 9) (t := 0) (N := 36) hX dX3_init_7 rfl zw_3_7 rfl (by decide) (by have := zro_lt (zo_8_0 hk) (by decide); omega) (zo_8_0 hk) zs_9 (by decide) (by decide) (zCs_nx q0) ⟨by rw [hN.2.1]; exact Nat.le_of_ble_eq_true rfl, by rw [hN.2.2]; exact Nat.le_of_ble_eq_true rfl⟩ ?_
  have q1 := zCs_arr q0 (zo_8_0 hk) zs_9 (by decide)
  refine zt_putF (pc' := 12) (x := (((k + 1) : Nat) : Int)) hX dX3_init_9 rfl hN.1 zf_X3_9 (by omega) hk zs_8 (fun q hq => by cases hq; exact ⟨rfl, rfl⟩) (zrf_of rfl) rfl rfl ?_
  generalize hs3 : zset σ k 0 (((k + 1) : Nat) : Int) = s2
  have q4 := zCs_ref hs3 q1 hk zs_8 rfl (by omega) (by decide)
  refine zt_aload_n (pc' := 13) hX dX3_init_12 rfl rfl ?_
  refine zt_bipush (pc' := 15) hX dX3_init_13 rfl (by decide) (by decide) ?_
  refine zt_newa (pc' := 17) (t := 0) (N := 10) hX dX3_init_15 rfl zw_3_7 rfl (by decide) (by have := zro_lt (zo_8_1 hk) (by decide); omega) (zo_8_1 hk) zs_10 (by decide) (by decide) (zCs_nx q4) ⟨by rw [hN.2.1]; exact Nat.le_of_ble_eq_true rfl, by rw [hN.2.2]; exact Nat.le_of_ble_eq_true rfl⟩ ?_
  have q5 := zCs_arr q4 (zo_8_1 hk) zs_10 (by decide)
  refine zt_putF (pc' := 20) (x := (((k + 2) : Nat) : Int)) hX dX3_init_17 rfl hN.1 zf_X3_15 (by omega) hk zs_8 (fun q hq => by cases hq; exact ⟨rfl, rfl⟩) (zrf_of rfl) rfl rfl ?_
  generalize hs7 : zset s2 k 1 (((k + 2) : Nat) : Int) = s6
  have q8 := zCs_ref hs7 q5 hk zs_8 rfl (by omega) (by decide)
  refine zt_aload_n (pc' := 21) hX dX3_init_20 rfl rfl ?_
  refine zt_bipush (pc' := 23) hX dX3_init_21 rfl (by decide) (by decide) ?_
  refine zt_newa (pc' := 25) (t := 0) (N := 10) hX dX3_init_23 rfl zw_3_7 rfl (by decide) (by have := zro_lt (zo_8_2 hk) (by decide); omega) (zo_8_2 hk) zs_11 (by decide) (by decide) (zCs_nx q8) ⟨by rw [hN.2.1]; exact Nat.le_of_ble_eq_true rfl, by rw [hN.2.2]; exact Nat.le_of_ble_eq_true rfl⟩ ?_
  have q9 := zCs_arr q8 (zo_8_2 hk) zs_11 (by decide)
  refine zt_putF (pc' := 28) (x := (((k + 3) : Nat) : Int)) hX dX3_init_25 rfl hN.1 zf_X3_18 (by omega) hk zs_8 (fun q hq => by cases hq; exact ⟨rfl, rfl⟩) (zrf_of rfl) rfl rfl ?_
  generalize hs11 : zset s6 k 2 (((k + 3) : Nat) : Int) = s10
  have q12 := zCs_ref hs11 q9 hk zs_8 rfl (by omega) (by decide)
  refine zt_aload_n (pc' := 29) hX dX3_init_28 rfl rfl ?_
  refine zt_bipush (pc' := 31) hX dX3_init_29 rfl (by decide) (by decide) ?_
  refine zt_newa (pc' := 33) (t := 0) (N := 10) hX dX3_init_31 rfl zw_3_7 rfl (by decide) (by have := zro_lt (zo_8_3 hk) (by decide); omega) (zo_8_3 hk) zs_12 (by decide) (by decide) (zCs_nx q12) ⟨by rw [hN.2.1]; exact Nat.le_of_ble_eq_true rfl, by rw [hN.2.2]; exact Nat.le_of_ble_eq_true rfl⟩ ?_
  have q13 := zCs_arr q12 (zo_8_3 hk) zs_12 (by decide)
  refine zt_putF (pc' := 36) (x := (((k + 4) : Nat) : Int)) hX dX3_init_33 rfl hN.1 zf_X3_21 (by omega) hk zs_8 (fun q hq => by cases hq; exact ⟨rfl, rfl⟩) (zrf_of rfl) rfl rfl ?_
  generalize hs15 : zset s10 k 3 (((k + 4) : Nat) : Int) = s14
  have q16 := zCs_ref hs15 q13 hk zs_8 rfl (by omega) (by decide)
  refine zt_aload_n (pc' := 37) hX dX3_init_36 rfl rfl ?_
  refine zt_bipush (pc' := 39) hX dX3_init_37 rfl (by decide) (by decide) ?_
  refine zt_newa (pc' := 41) (t := 0) (N := 10) hX dX3_init_39 rfl zw_3_7 rfl (by decide) (by have := zro_lt (zo_8_4 hk) (by decide); omega) (zo_8_4 hk) zs_13 (by decide) (by decide) (zCs_nx q16) ⟨by rw [hN.2.1]; exact Nat.le_of_ble_eq_true rfl, by rw [hN.2.2]; exact Nat.le_of_ble_eq_true rfl⟩ ?_
  have q17 := zCs_arr q16 (zo_8_4 hk) zs_13 (by decide)
  refine zt_putF (pc' := 44) (x := (((k + 5) : Nat) : Int)) hX dX3_init_41 rfl hN.1 zf_X3_24 (by omega) hk zs_8 (fun q hq => by cases hq; exact ⟨rfl, rfl⟩) (zrf_of rfl) rfl rfl ?_
  generalize hs19 : zset s14 k 4 (((k + 5) : Nat) : Int) = s18
  have q20 := zCs_ref hs19 q17 hk zs_8 rfl (by omega) (by decide)
  refine zt_aload_n (pc' := 45) hX dX3_init_44 rfl rfl ?_
  refine zt_new (pc' := 48) (c := 4) (q := (RX4, TX4, 2)) hX dX3_init_45 rfl rfl zw_4_8 zw_1_18 zw_1_19 (by have := zro_lt (zo_8_5 hk) (by decide); omega) (zo_8_5 hk) zs_6 (by decide) (zCs_nx q20) ⟨by rw [hN.2.1]; exact Nat.le_of_ble_eq_true rfl, by rw [hN.2.2]; exact Nat.le_of_ble_eq_true rfl⟩ ?_
  refine zt_dup (pc' := 49) hX dX3_init_48 rfl rfl ?_
  refine zt_callIN (pc' := 52) (As := []) (k := (k + 6)) hX (zn_X4 _ _ s18 (k + 6) (zo_8_5 hk) q20.1 q20.2.1 ) zm_yX4_init dX3_init_49 rfl (by decide +kernel) rfl rfl (Nat.le_of_ble_eq_true rfl) (by decide) ⟨by rw [hN.2.1]; exact Nat.le_of_ble_eq_true rfl, by rw [hN.2.2]; exact Nat.le_of_ble_eq_true rfl⟩ (fun _ s21 hp22 => ?_)
  have q23 := zCs_sub (n' := (k + 8)) q20 hp22 (by omega)
  refine zt_putF (pc' := 55) (x := (((k + 6) : Nat) : Int)) hX dX3_init_52 rfl hN.1 zf_X3_30 (by omega) hk zs_8 (fun q hq => by cases hq; exact ⟨rfl, rfl⟩) (zrf_of rfl) rfl rfl ?_
  generalize hs25 : zset s21 k 5 (((k + 6) : Nat) : Int) = s24
  have q26 := zCs_ref hs25 q23 hk zs_8 rfl (by omega) (by decide)
  refine zt_aload_n (pc' := 56) hX dX3_init_55 rfl rfl ?_
  refine zt_new (pc' := 59) (c := 4) (q := (RX4, TX4, 2)) hX dX3_init_56 rfl rfl zw_4_8 zw_1_18 zw_1_19 (by have := zro_lt (zo_8_6 hk) (by decide); omega) (zo_8_6 hk) zs_6 (by decide) (zCs_nx q26) ⟨by rw [hN.2.1]; exact Nat.le_of_ble_eq_true rfl, by rw [hN.2.2]; exact Nat.le_of_ble_eq_true rfl⟩ ?_
  refine zt_dup (pc' := 60) hX dX3_init_59 rfl rfl ?_
  refine zt_callIN (pc' := 63) (As := []) (k := (k + 8)) hX (zn_X4 _ _ s24 (k + 8) (zo_8_6 hk) q26.1 q26.2.1 ) zm_yX4_init dX3_init_60 rfl (by decide +kernel) rfl rfl (Nat.le_of_ble_eq_true rfl) (by decide) ⟨by rw [hN.2.1]; exact Nat.le_of_ble_eq_true rfl, by rw [hN.2.2]; exact Nat.le_of_ble_eq_true rfl⟩ (fun _ s27 hp28 => ?_)
  have q29 := zCs_sub (n' := (k + 10)) q26 hp28 (by omega)
  refine zt_putF (pc' := 66) (x := (((k + 8) : Nat) : Int)) hX dX3_init_63 rfl hN.1 zf_X3_34 (by omega) hk zs_8 (fun q hq => by cases hq; exact ⟨rfl, rfl⟩) (zrf_of rfl) rfl rfl ?_
  generalize hs31 : zset s27 k 6 (((k + 8) : Nat) : Int) = s30
  have q32 := zCs_ref hs31 q29 hk zs_8 rfl (by omega) (by decide)
  refine zt_aload_n (pc' := 67) hX dX3_init_66 rfl rfl ?_
  refine zt_iconst (pc' := 68) hX dX3_init_67 rfl ?_
  refine zt_put (pc' := 71) (x := 0) hX dX3_init_68 rfl zf_X3_37 (by omega) hk zs_8 (fun q hq => by cases hq; rfl) rfl (by decide +kernel) (by decide +kernel) ?_
  generalize hs34 : zset s30 k 7 0 = s33
  have q35 := zCs_int hs34 q32 hk zs_8 (show 0 ≤ (0 : Int) ∧ (0 : Int) ≤ 1 from ⟨by decide, by decide⟩) (by decide)
  refine zt_aload_n (pc' := 72) hX dX3_init_71 rfl rfl ?_
  refine zt_iconst (pc' := 73) hX dX3_init_72 rfl ?_
  refine zt_put (pc' := 76) (x := 0) hX dX3_init_73 rfl zf_X3_41 (by omega) hk zs_8 (fun q hq => by cases hq; rfl) rfl (by decide +kernel) (by decide +kernel) ?_
  generalize hs37 : zset s33 k 8 0 = s36
  have q38 := zCs_int hs37 q35 hk zs_8 (show 0 ≤ (0 : Int) ∧ (0 : Int) ≤ 1 from ⟨by decide, by decide⟩) (by decide)
  refine zt_aload_n (pc' := 77) hX dX3_init_76 rfl rfl ?_
  refine zt_iconst (pc' := 78) hX dX3_init_77 rfl ?_
  refine zt_put (pc' := 81) (x := 0) hX dX3_init_78 rfl zf_X3_44 (by omega) hk zs_8 (fun q hq => by cases hq; rfl) rfl (by decide +kernel) (by decide +kernel) ?_
  generalize hs40 : zset s36 k 9 0 = s39
  have q41 := zCs_int hs40 q38 hk zs_8 (show 0 ≤ (0 : Int) ∧ (0 : Int) ≤ 1 from ⟨by decide, by decide⟩) (by decide)
  refine zt_aload_n (pc' := 82) hX dX3_init_81 rfl rfl ?_
  refine zt_iconst (pc' := 83) hX dX3_init_82 rfl ?_
  refine zt_put (pc' := 86) (x := 0) hX dX3_init_83 rfl zf_X3_47 (by omega) hk zs_8 (fun q hq => by cases hq; rfl) rfl rfl rfl ?_
  generalize hs43 : zset s39 k 10 0 = s42
  have q44 := zCs_int hs43 q41 hk zs_8 (show 0 ≤ (0 : Int) ∧ (0 : Int) ≤ 6 from ⟨by decide, by decide⟩) (by decide)
  refine zt_aload_n (pc' := 87) hX dX3_init_86 rfl rfl ?_
  refine zt_iconst (pc' := 88) hX dX3_init_87 rfl ?_
  refine zt_put (pc' := 91) (x := 0) hX dX3_init_88 rfl zf_X3_51 (by omega) hk zs_8 (fun q hq => by cases hq; rfl) rfl rfl rfl ?_
  generalize hs46 : zset s42 k 11 0 = s45
  have q47 := zCs_int hs46 q44 hk zs_8 (show 0 ≤ (0 : Int) ∧ (0 : Int) ≤ 6 from ⟨by decide, by decide⟩) (by decide)
  refine zt_aload_n (pc' := 92) hX dX3_init_91 rfl rfl ?_
  refine zt_iconst (pc' := 93) hX dX3_init_92 rfl ?_
  refine zt_put (pc' := 96) (x := 0) hX dX3_init_93 rfl zf_X3_54 (by omega) hk zs_8 (fun q hq => by cases hq; rfl) rfl rfl rfl ?_
  generalize hs49 : zset s45 k 12 0 = s48
  have q50 := zCs_int hs49 q47 hk zs_8 (show 0 ≤ (0 : Int) ∧ (0 : Int) ≤ 10 from ⟨by decide, by decide⟩) (by decide)
  refine zt_aload_n (pc' := 97) hX dX3_init_96 rfl rfl ?_
  refine zt_iconst (pc' := 98) hX dX3_init_97 rfl ?_
  refine zt_put (pc' := 101) (x := 0) hX dX3_init_98 rfl zf_X3_57 (by omega) hk zs_8 (fun q hq => by cases hq; rfl) rfl rfl rfl ?_
  generalize hs52 : zset s48 k 13 0 = s51
  have q53 := zCs_int hs52 q50 hk zs_8 (show 0 ≤ (0 : Int) ∧ (0 : Int) ≤ 99 from ⟨by decide, by decide⟩) (by decide)
  refine zt_aload_n (pc' := 102) hX dX3_init_101 rfl rfl ?_
  refine zt_iconst (pc' := 103) hX dX3_init_102 rfl ?_
  refine zt_put (pc' := 106) (x := 0) hX dX3_init_103 rfl zf_X3_60 (by omega) hk zs_8 (fun q hq => by cases hq; rfl) rfl rfl rfl ?_
  generalize hs55 : zset s51 k 14 0 = s54
  have q56 := zCs_int hs55 q53 hk zs_8 (show 0 ≤ (0 : Int) ∧ (0 : Int) ≤ 99 from ⟨by decide, by decide⟩) (by decide)
  refine zt_aload_n (pc' := 107) hX dX3_init_106 rfl rfl ?_
  refine zt_iconst (pc' := 108) hX dX3_init_107 rfl ?_
  refine zt_put (pc' := 111) (x := 0) hX dX3_init_108 rfl zf_X3_63 (by omega) hk zs_8 (fun q hq => by cases hq; rfl) rfl rfl rfl ?_
  generalize hs58 : zset s54 k 15 0 = s57
  have q59 := zCs_int hs58 q56 hk zs_8 (show 0 ≤ (0 : Int) ∧ (0 : Int) ≤ 99 from ⟨by decide, by decide⟩) (by decide)
  refine zt_aload_n (pc' := 112) hX dX3_init_111 rfl rfl ?_
  refine zt_iconst (pc' := 113) hX dX3_init_112 rfl ?_
  refine zt_put (pc' := 116) (x := 0) hX dX3_init_113 rfl zf_X3_66 (by omega) hk zs_8 (fun q hq => by cases hq; rfl) rfl rfl rfl ?_
  generalize hs61 : zset s57 k 16 0 = s60
  have q62 := zCs_int hs61 q59 hk zs_8 (show 0 ≤ (0 : Int) ∧ (0 : Int) ≤ 100 from ⟨by decide, by decide⟩) (by decide)
  exact zt_vret hX hR dX3_init_116 ⟨zCs_end (N := 17) q62 hk zs_8 (by decide) (fun _ _ => trivial), (by rw [← hs61, zset_j (by decide), ← hs58, zset_j (by decide), ← hs55, zset_j (by decide), ← hs52, zset_j (by decide), ← hs49, zset_j (by decide), ← hs46, zset_j (by decide), ← hs43]; exact zset_s), (by rw [← hs61, zset_j (by decide), ← hs58, zset_j (by decide), ← hs55, zset_j (by decide), ← hs52, zset_j (by decide), ← hs49, zset_j (by decide), ← hs46]; exact zset_s), (by rw [← hs61, zset_j (by decide), ← hs58, zset_j (by decide), ← hs55, zset_j (by decide), ← hs52, zset_j (by decide), ← hs49]; exact zset_s)⟩

set_option maxRecDepth 100000 in
set_option maxHeartbeats 4000000 in
theorem zn_X10 (l : Launch) (E : zEN) (σ : zSto) (k : Nat) (hk : zro k = 22) (hI : zIR σ) (hD : zDf σ k) : zCt l E yX10_init cX10_init 1 none 1 (k + 1) (k + 5) 4 70 σ [.ref (E.1 + k)] (fun _ σ' => zCp σ σ' k (k + 5)) := by
  refine zCt_of2 [some (.ref (E.1 + k))] (by decide +kernel) (Nat.le_of_ble_eq_true rfl) rfl ?_
  intro X hE hX hR hL hN
  subst hE
  have hX : zok X cX10_init RX10 1 := hX
  have q0 := zCs_0 hI hD
  have hkl := zro_lt hk (by decide)
  refine zt_aload_n (pc' := 1) hX dX10_init_0 rfl rfl ?_
  refine zt_oinit (pc' := 4) hX (by decide) dX10_init_1 rfl zw_8_3 zw_1_10 zw_1_11 rfl ?_
  refine zt_aload_n (pc' := 5) hX dX10_init_4 rfl rfl ?_
  refine zt_bipush (pc' := 7) hX dX10_init_5 rfl (by decide) (by decide) ?_
  refine zt_newa (pc' := 9) (t := 0) (N := 10) hX dX10_init_7 rfl zw_3_7 rfl (by decide) (by have := zro_lt (zo_22_0 hk) (by decide); omega) (zo_22_0 hk) zs_23 (by decide) (by decide) (zCs_nx q0) ⟨by rw [hN.2.1]; exact Nat.le_of_ble_eq_true rfl, by rw [hN.2.2]; exact Nat.le_of_ble_eq_true rfl⟩ ?_
  have q1 := zCs_arr q0 (zo_22_0 hk) zs_23 (by decide)
  refine zt_putF (pc' := 12) (x := (((k + 1) : Nat) : Int)) hX dX10_init_9 rfl hN.1 zf_X10_9 (by omega) hk zs_22 (fun q hq => by cases hq; exact ⟨rfl, rfl⟩) (zrf_of rfl) rfl rfl ?_
  generalize hs3 : zset σ k 0 (((k + 1) : Nat) : Int) = s2
  have q4 := zCs_ref hs3 q1 hk zs_22 rfl (by omega) (by decide)
  refine zt_aload_n (pc' := 13) hX dX10_init_12 rfl rfl ?_
  refine zt_bipush (pc' := 15) hX dX10_init_13 rfl (by decide) (by decide) ?_
  refine zt_newa (pc' := 17) (t := 0) (N := 10) hX dX10_init_15 rfl zw_3_7 rfl (by decide) (by have := zro_lt (zo_22_1 hk) (by decide); omega) (zo_22_1 hk) zs_24 (by decide) (by decide) (zCs_nx q4) ⟨by rw [hN.2.1]; exact Nat.le_of_ble_eq_true rfl, by rw [hN.2.2]; exact Nat.le_of_ble_eq_true rfl⟩ ?_
  have q5 := zCs_arr q4 (zo_22_1 hk) zs_24 (by decide)
  refine zt_putF (pc' := 20) (x := (((k + 2) : Nat) : Int)) hX dX10_init_17 rfl hN.1 zf_X10_15 (by omega) hk zs_22 (fun q hq => by cases hq; exact ⟨rfl, rfl⟩) (zrf_of rfl) rfl rfl ?_
  generalize hs7 : zset s2 k 1 (((k + 2) : Nat) : Int) = s6
  have q8 := zCs_ref hs7 q5 hk zs_22 rfl (by omega) (by decide)
  refine zt_aload_n (pc' := 21) hX dX10_init_20 rfl rfl ?_
  refine zt_bipush (pc' := 23) hX dX10_init_21 rfl (by decide) (by decide) ?_
  refine zt_newa (pc' := 25) (t := 0) (N := 10) hX dX10_init_23 rfl zw_3_7 rfl (by decide) (by have := zro_lt (zo_22_2 hk) (by decide); omega) (zo_22_2 hk) zs_25 (by decide) (by decide) (zCs_nx q8) ⟨by rw [hN.2.1]; exact Nat.le_of_ble_eq_true rfl, by rw [hN.2.2]; exact Nat.le_of_ble_eq_true rfl⟩ ?_
  have q9 := zCs_arr q8 (zo_22_2 hk) zs_25 (by decide)
  refine zt_putF (pc' := 28) (x := (((k + 3) : Nat) : Int)) hX dX10_init_25 rfl hN.1 zf_X10_18 (by omega) hk zs_22 (fun q hq => by cases hq; exact ⟨rfl, rfl⟩) (zrf_of rfl) rfl rfl ?_
  generalize hs11 : zset s6 k 2 (((k + 3) : Nat) : Int) = s10
  have q12 := zCs_ref hs11 q9 hk zs_22 rfl (by omega) (by decide)
  refine zt_aload_n (pc' := 29) hX dX10_init_28 rfl rfl ?_
  refine zt_bipush (pc' := 31) hX dX10_init_29 rfl (by decide) (by decide) ?_
  refine zt_newa (pc' := 33) (t := 0) (N := 40) hX dX10_init_31 rfl zw_3_7 rfl (by decide) (by have := zro_lt (zo_22_3 hk) (by decide); omega) (zo_22_3 hk) zs_26 (by decide) (by decide) (zCs_nx q12) ⟨by rw [hN.2.1]; exact Nat.le_of_ble_eq_true rfl, by rw [hN.2.2]; exact Nat.le_of_ble_eq_true rfl⟩ ?_
  have q13 := zCs_arr q12 (zo_22_3 hk) zs_26 (by decide)
  refine zt_putF (pc' := 36) (x := (((k + 4) : Nat) : Int)) hX dX10_init_33 rfl hN.1 zf_X10_21 (by omega) hk zs_22 (fun q hq => by cases hq; exact ⟨rfl, rfl⟩) (zrf_of rfl) rfl rfl ?_
  generalize hs15 : zset s10 k 3 (((k + 4) : Nat) : Int) = s14
  have q16 := zCs_ref hs15 q13 hk zs_22 rfl (by omega) (by decide)
  refine zt_aload_n (pc' := 37) hX dX10_init_36 rfl rfl ?_
  refine zt_iconst (pc' := 38) hX dX10_init_37 rfl ?_
  refine zt_put (pc' := 41) (x := 0) hX dX10_init_38 rfl zf_X10_24 (by omega) hk zs_22 (fun q hq => by cases hq; rfl) rfl rfl rfl ?_
  generalize hs18 : zset s14 k 4 0 = s17
  have q19 := zCs_int hs18 q16 hk zs_22 (show 0 ≤ (0 : Int) ∧ (0 : Int) ≤ 40 from ⟨by decide, by decide⟩) (by decide)
  refine zt_aload_n (pc' := 42) hX dX10_init_41 rfl rfl ?_
  refine zt_iconst (pc' := 43) hX dX10_init_42 rfl ?_
  refine zt_put (pc' := 46) (x := 0) hX dX10_init_43 rfl zf_X10_28 (by omega) hk zs_22 (fun q hq => by cases hq; rfl) rfl rfl rfl ?_
  generalize hs21 : zset s17 k 5 0 = s20
  have q22 := zCs_int hs21 q19 hk zs_22 (show -2147483648 ≤ (0 : Int) ∧ (0 : Int) ≤ 2147483647 from ⟨by decide, by decide⟩) (by decide)
  refine zt_aload_n (pc' := 47) hX dX10_init_46 rfl rfl ?_
  refine zt_lconst (y := 0) (pc' := 48) hX dX10_init_47 rfl (by decide +kernel) ?_
  refine zt_put (pc' := 51) (x := 0) hX dX10_init_48 rfl zf_X10_31 (by omega) hk zs_22 (fun q hq => by cases hq; rfl) rfl rfl rfl ?_
  generalize hs24 : zset s20 k 6 0 = s23
  have q25 := zCs_int hs24 q22 hk zs_22 (show -9223372036854775808 ≤ (0 : Int) ∧ (0 : Int) ≤ 9223372036854775807 from ⟨by decide, by decide⟩) (by decide)
  refine zt_aload_n (pc' := 52) hX dX10_init_51 rfl rfl ?_
  refine zt_iconst (pc' := 53) hX dX10_init_52 rfl ?_
  refine zt_put (pc' := 56) (x := 0) hX dX10_init_53 rfl zf_X10_35 (by omega) hk zs_22 (fun q hq => by cases hq; rfl) rfl rfl rfl ?_
  generalize hs27 : zset s23 k 7 0 = s26
  have q28 := zCs_int hs27 q25 hk zs_22 (show -2147483648 ≤ (0 : Int) ∧ (0 : Int) ≤ 2147483647 from ⟨by decide, by decide⟩) (by decide)
  exact zt_vret hX hR dX10_init_56 (zCs_end (N := 8) q28 hk zs_22 (by decide) (fun _ _ => trivial))

set_option maxRecDepth 100000 in
set_option maxHeartbeats 4000000 in
theorem zn_X1 (l : Launch) (E : zEN) (σ : zSto) (hI : zIR σ) (hD : zDf σ 33) : zCt l E yX1_init cX1_init 3 none 1 34 34 0 0 σ [.ref (E.1 + 33), .ref (E.1 + 27), .ref (E.1 + 5)] (fun _ σ' => zCp σ σ' 33 34) := by
  refine zCt_of2 [some (.ref (E.1 + 33)), some (.ref (E.1 + 27)), some (.ref (E.1 + 5))] (by decide +kernel) (Nat.le_of_ble_eq_true rfl) rfl ?_
  intro X hE hX hR hL hN
  subst hE
  have hX : zok X cX1_init RX1 1 := hX
  have q0 := zCs_0 hI hD
  refine zt_aload_n (pc' := 1) hX dX1_init_0 rfl rfl ?_
  refine zt_oinit (pc' := 4) hX (by decide) dX1_init_1 rfl zw_7_14 zw_1_10 zw_1_11 rfl ?_
  refine zt_aload_n (pc' := 5) hX dX1_init_4 rfl rfl ?_
  refine zt_iconst (pc' := 6) hX dX1_init_5 rfl ?_
  refine zt_put (pc' := 9) (x := 2) hX dX1_init_6 rfl zf_X1_9 (by omega) zc_33 zs_20 (fun q hq => by cases hq; rfl) rfl rfl rfl ?_
  generalize hs2 : zset σ 33 2 2 = s1
  have q3 := zCs_int hs2 q0 zc_33 zs_20 (show 0 ≤ (2 : Int) ∧ (2 : Int) ≤ 2 from ⟨by decide, by decide⟩) (by decide)
  refine zt_aload_n (pc' := 10) hX dX1_init_9 rfl rfl ?_
  refine zt_aload_n (pc' := 11) hX dX1_init_10 rfl rfl ?_
  refine zt_putF (pc' := 14) (x := ((27 : Nat) : Int)) hX dX1_init_11 rfl hN.1 zf_X1_15 (by omega) zc_33 zs_20 (fun q hq => by cases hq; exact ⟨rfl, rfl⟩) (zrf_of rfl) rfl rfl ?_
  generalize hs5 : zset s1 33 0 ((27 : Nat) : Int) = s4
  have q6 := zCs_ref hs5 q3 zc_33 zs_20 rfl (by omega) (by decide)
  refine zt_aload_n (pc' := 15) hX dX1_init_14 rfl rfl ?_
  refine zt_aload_n (pc' := 16) hX dX1_init_15 rfl rfl ?_
  refine zt_put (pc' := 19) (x := ((5 : Nat) : Int)) hX dX1_init_16 rfl zf_X1_19 (by omega) zc_33 zs_20 (fun q hq => by cases hq; rfl) (zrf_of rfl) rfl rfl ?_
  generalize hs8 : zset s4 33 1 ((5 : Nat) : Int) = s7
  have q9 := zCs_ref hs8 q6 zc_33 zs_20 ⟨5, rfl, zc_5⟩ (by omega) (by decide)
  exact zt_vret hX hR dX1_init_19 (zCs_end (N := 3) q9 zc_33 zs_20 (by decide) (fun _ _ => trivial))

set_option maxRecDepth 100000 in
set_option maxHeartbeats 4000000 in
theorem zn_X8 (l : Launch) (E : zEN) (σ : zSto) (hI : zIR σ) (hD : zDf σ 34) : zCt l E yX8_init cX8_init 4 none 1 35 35 0 0 σ [.ref (E.1 + 34), .ref (E.1 + 27), .ref (E.1 + 33), .ref (E.1 + 17)] (fun _ σ' => zCp σ σ' 34 35) := by
  refine zCt_of2 [some (.ref (E.1 + 34)), some (.ref (E.1 + 27)), some (.ref (E.1 + 33)), some (.ref (E.1 + 17))] (by decide +kernel) (Nat.le_of_ble_eq_true rfl) rfl ?_
  intro X hE hX hR hL hN
  subst hE
  have hX : zok X cX8_init RX8 1 := hX
  have q0 := zCs_0 hI hD
  refine zt_aload_n (pc' := 1) hX dX8_init_0 rfl rfl ?_
  refine zt_oinit (pc' := 4) hX (by decide) dX8_init_1 rfl zw_7_21 zw_1_10 zw_1_11 rfl ?_
  refine zt_aload_n (pc' := 5) hX dX8_init_4 rfl rfl ?_
  refine zt_aload_n (pc' := 6) hX dX8_init_5 rfl rfl ?_
  refine zt_putF (pc' := 9) (x := ((27 : Nat) : Int)) hX dX8_init_6 rfl hN.1 zf_X8_9 (by omega) zc_34 zs_21 (fun q hq => by cases hq; exact ⟨rfl, rfl⟩) (zrf_of rfl) rfl rfl ?_
  generalize hs2 : zset σ 34 0 ((27 : Nat) : Int) = s1
  have q3 := zCs_ref hs2 q0 zc_34 zs_21 rfl (by omega) (by decide)
  refine zt_aload_n (pc' := 10) hX dX8_init_9 rfl rfl ?_
  refine zt_aload_n (pc' := 11) hX dX8_init_10 rfl rfl ?_
  refine zt_putF (pc' := 14) (x := ((33 : Nat) : Int)) hX dX8_init_11 rfl hN.1 zf_X8_15 (by omega) zc_34 zs_21 (fun q hq => by cases hq; exact ⟨rfl, rfl⟩) (zrf_of rfl) rfl rfl ?_
  generalize hs5 : zset s1 34 1 ((33 : Nat) : Int) = s4
  have q6 := zCs_ref hs5 q3 zc_34 zs_21 rfl (by omega) (by decide)
  refine zt_aload_n (pc' := 15) hX dX8_init_14 rfl rfl ?_
  refine zt_aload_n (pc' := 16) hX dX8_init_15 rfl rfl ?_
  refine zt_put (pc' := 19) (x := ((17 : Nat) : Int)) hX dX8_init_16 rfl zf_X8_19 (by omega) zc_34 zs_21 (fun q hq => by cases hq; rfl) (zrf_of rfl) rfl rfl ?_
  generalize hs8 : zset s4 34 2 ((17 : Nat) : Int) = s7
  have q9 := zCs_ref hs8 q6 zc_34 zs_21 ⟨17, rfl, zc_17⟩ (by omega) (by decide)
  exact zt_vret hX hR dX8_init_19 (zCs_end (N := 3) q9 zc_34 zs_21 (by decide) (fun _ _ => trivial))

set_option maxRecDepth 100000 in
set_option maxHeartbeats 4000000 in
theorem zn_X7 (l : Launch) (E : zEN) (σ : zSto) (hI : zIR σ) (hD : zDf σ 147) : zCt l E yX7_init cX7_init 1 none 1 148 153 5 3063 σ [.ref (E.1 + 147)] (fun _ σ' => zCp σ σ' 147 153) := by
  refine zCt_of2 [some (.ref (E.1 + 147))] (by decide +kernel) (Nat.le_of_ble_eq_true rfl) rfl ?_
  intro X hE hX hR hL hN
  subst hE
  have hX : zok X cX7_init RX7 1 := hX
  have q0 := zCs_0 hI hD
  refine zt_aload_n (pc' := 1) hX dX7_init_0 rfl rfl ?_
  refine zt_oinit (pc' := 4) hX (by decide) dX7_init_1 rfl zw_8_22 zw_1_10 zw_1_11 rfl ?_
  refine zt_aload_n (pc' := 5) hX dX7_init_4 rfl rfl ?_
  refine zt_sipush (pc' := 8) hX dX7_init_5 rfl (by decide) (by decide) ?_
  refine zt_newa (pc' := 10) (t := 2) (N := 1024) hX dX7_init_8 rfl zw_8_23 rfl (by decide) (by decide) zc_148 zs_30 (by decide) (by decide) (zCs_nx q0) ⟨by rw [hN.2.1]; exact Nat.le_of_ble_eq_true rfl, by rw [hN.2.2]; exact Nat.le_of_ble_eq_true rfl⟩ ?_
  have q1 := zCs_arr q0 zc_148 zs_30 (by decide)
  refine zt_putF (pc' := 13) (x := ((148 : Nat) : Int)) hX dX7_init_10 rfl hN.1 zf_X7_9 (by omega) zc_147 zs_29 (fun q hq => by cases hq; exact ⟨rfl, rfl⟩) (zrf_of rfl) rfl rfl ?_
  generalize hs3 : zset σ 147 0 ((148 : Nat) : Int) = s2
  have q4 := zCs_ref hs3 q1 zc_147 zs_29 rfl (by omega) (by decide)
  refine zt_aload_n (pc' := 14) hX dX7_init_13 rfl rfl ?_
  refine zt_sipush (pc' := 17) hX dX7_init_14 rfl (by decide) (by decide) ?_
  refine zt_newa (pc' := 19) (t := 0) (N := 1024) hX dX7_init_17 rfl zw_3_7 rfl (by decide) (by decide) zc_149 zs_31 (by decide) (by decide) (zCs_nx q4) ⟨by rw [hN.2.1]; exact Nat.le_of_ble_eq_true rfl, by rw [hN.2.2]; exact Nat.le_of_ble_eq_true rfl⟩ ?_
  have q5 := zCs_arr q4 zc_149 zs_31 (by decide)
  refine zt_putF (pc' := 22) (x := ((149 : Nat) : Int)) hX dX7_init_19 rfl hN.1 zf_X7_15 (by omega) zc_147 zs_29 (fun q hq => by cases hq; exact ⟨rfl, rfl⟩) (zrf_of rfl) rfl rfl ?_
  generalize hs7 : zset s2 147 1 ((149 : Nat) : Int) = s6
  have q8 := zCs_ref hs7 q5 zc_147 zs_29 rfl (by omega) (by decide)
  refine zt_aload_n (pc' := 23) hX dX7_init_22 rfl rfl ?_
  refine zt_sipush (pc' := 26) hX dX7_init_23 rfl (by decide) (by decide) ?_
  refine zt_newa (pc' := 28) (t := 0) (N := 991) hX dX7_init_26 rfl zw_3_7 rfl (by decide) (by decide) zc_150 zs_32 (by decide) (by decide) (zCs_nx q8) ⟨by rw [hN.2.1]; exact Nat.le_of_ble_eq_true rfl, by rw [hN.2.2]; exact Nat.le_of_ble_eq_true rfl⟩ ?_
  have q9 := zCs_arr q8 zc_150 zs_32 (by decide)
  refine zt_putF (pc' := 31) (x := ((150 : Nat) : Int)) hX dX7_init_28 rfl hN.1 zf_X7_19 (by omega) zc_147 zs_29 (fun q hq => by cases hq; exact ⟨rfl, rfl⟩) (zrf_of rfl) rfl rfl ?_
  generalize hs11 : zset s6 147 2 ((150 : Nat) : Int) = s10
  have q12 := zCs_ref hs11 q9 zc_147 zs_29 rfl (by omega) (by decide)
  refine zt_aload_n (pc' := 32) hX dX7_init_31 rfl rfl ?_
  refine zt_bipush (pc' := 34) hX dX7_init_32 rfl (by decide) (by decide) ?_
  refine zt_newa (pc' := 36) (t := 0) (N := 12) hX dX7_init_34 rfl zw_3_7 rfl (by decide) (by decide) zc_151 zs_33 (by decide) (by decide) (zCs_nx q12) ⟨by rw [hN.2.1]; exact Nat.le_of_ble_eq_true rfl, by rw [hN.2.2]; exact Nat.le_of_ble_eq_true rfl⟩ ?_
  have q13 := zCs_arr q12 zc_151 zs_33 (by decide)
  refine zt_putF (pc' := 39) (x := ((151 : Nat) : Int)) hX dX7_init_36 rfl hN.1 zf_X7_22 (by omega) zc_147 zs_29 (fun q hq => by cases hq; exact ⟨rfl, rfl⟩) (zrf_of rfl) rfl rfl ?_
  generalize hs15 : zset s10 147 3 ((151 : Nat) : Int) = s14
  have q16 := zCs_ref hs15 q13 zc_147 zs_29 rfl (by omega) (by decide)
  refine zt_aload_n (pc' := 40) hX dX7_init_39 rfl rfl ?_
  refine zt_bipush (pc' := 42) hX dX7_init_40 rfl (by decide) (by decide) ?_
  refine zt_newa (pc' := 44) (t := 0) (N := 12) hX dX7_init_42 rfl zw_3_7 rfl (by decide) (by decide) zc_152 zs_34 (by decide) (by decide) (zCs_nx q16) ⟨by rw [hN.2.1]; exact Nat.le_of_ble_eq_true rfl, by rw [hN.2.2]; exact Nat.le_of_ble_eq_true rfl⟩ ?_
  have q17 := zCs_arr q16 zc_152 zs_34 (by decide)
  refine zt_putF (pc' := 47) (x := ((152 : Nat) : Int)) hX dX7_init_44 rfl hN.1 zf_X7_25 (by omega) zc_147 zs_29 (fun q hq => by cases hq; exact ⟨rfl, rfl⟩) (zrf_of rfl) rfl rfl ?_
  generalize hs19 : zset s14 147 4 ((152 : Nat) : Int) = s18
  have q20 := zCs_ref hs19 q17 zc_147 zs_29 rfl (by omega) (by decide)
  refine zt_aload_n (pc' := 48) hX dX7_init_47 rfl rfl ?_
  refine zt_iconst (pc' := 49) hX dX7_init_48 rfl ?_
  refine zt_put (pc' := 52) (x := 0) hX dX7_init_49 rfl zf_X7_28 (by omega) zc_147 zs_29 (fun q hq => by cases hq; rfl) rfl rfl rfl ?_
  generalize hs22 : zset s18 147 5 0 = s21
  have q23 := zCs_int hs22 q20 zc_147 zs_29 (show 0 ≤ (0 : Int) ∧ (0 : Int) ≤ 12 from ⟨by decide, by decide⟩) (by decide)
  refine zt_aload_n (pc' := 53) hX dX7_init_52 rfl rfl ?_
  refine zt_iconst (pc' := 54) hX dX7_init_53 rfl ?_
  refine zt_put (pc' := 57) (x := 0) hX dX7_init_54 rfl zf_X7_32 (by omega) zc_147 zs_29 (fun q hq => by cases hq; rfl) rfl rfl rfl ?_
  generalize hs25 : zset s21 147 6 0 = s24
  have q26 := zCs_int hs25 q23 zc_147 zs_29 (show 0 ≤ (0 : Int) ∧ (0 : Int) ≤ 1024 from ⟨by decide, by decide⟩) (by decide)
  exact zt_vret hX hR dX7_init_57 (zCs_end (N := 7) q26 zc_147 zs_29 (by decide) (fun _ _ => trivial))

set_option maxRecDepth 100000 in
set_option maxHeartbeats 4000000 in
theorem zn_X0 (l : Launch) (E : zEN) (σ : zSto) (hI : zIR σ) (hD : zDf σ 154) : zCt l E yX0_init cX0_init 1 none 1 155 158 3 83 σ [.ref (E.1 + 154)] (fun _ σ' => zCp σ σ' 154 158) := by
  refine zCt_of2 [some (.ref (E.1 + 154))] (by decide +kernel) (Nat.le_of_ble_eq_true rfl) rfl ?_
  intro X hE hX hR hL hN
  subst hE
  have hX : zok X cX0_init RX0 1 := hX
  have q0 := zCs_0 hI hD
  refine zt_aload_n (pc' := 1) hX dX0_init_0 rfl rfl ?_
  refine zt_oinit (pc' := 4) hX (by decide) dX0_init_1 rfl zw_10_7 zw_1_10 zw_1_11 rfl ?_
  refine zt_aload_n (pc' := 5) hX dX0_init_4 rfl rfl ?_
  refine zt_bipush (pc' := 7) hX dX0_init_5 rfl (by decide) (by decide) ?_
  refine zt_newa (pc' := 9) (t := 0) (N := 33) hX dX0_init_7 rfl zw_3_7 rfl (by decide) (by decide) zc_155 zs_37 (by decide) (by decide) (zCs_nx q0) ⟨by rw [hN.2.1]; exact Nat.le_of_ble_eq_true rfl, by rw [hN.2.2]; exact Nat.le_of_ble_eq_true rfl⟩ ?_
  have q1 := zCs_arr q0 zc_155 zs_37 (by decide)
  refine zt_putF (pc' := 12) (x := ((155 : Nat) : Int)) hX dX0_init_9 rfl hN.1 zf_X0_9 (by omega) zc_154 zs_36 (fun q hq => by cases hq; exact ⟨rfl, rfl⟩) (zrf_of rfl) rfl rfl ?_
  generalize hs3 : zset σ 154 0 ((155 : Nat) : Int) = s2
  have q4 := zCs_ref hs3 q1 zc_154 zs_36 rfl (by omega) (by decide)
  have e5 : s2 154 0 = ((155 : Nat) : Int) := by rw [← hs3]; exact zset_s
  refine zt_aload_n (pc' := 13) hX dX0_init_12 rfl rfl ?_
  refine zt_bipush (pc' := 15) hX dX0_init_13 rfl (by decide) (by decide) ?_
  refine zt_newa (pc' := 17) (t := 0) (N := 40) hX dX0_init_15 rfl zw_3_7 rfl (by decide) (by decide) zc_156 zs_38 (by decide) (by decide) (zCs_nx q4) ⟨by rw [hN.2.1]; exact Nat.le_of_ble_eq_true rfl, by rw [hN.2.2]; exact Nat.le_of_ble_eq_true rfl⟩ ?_
  have q6 := zCs_arr q4 zc_156 zs_38 (by decide)
  refine zt_putF (pc' := 20) (x := ((156 : Nat) : Int)) hX dX0_init_17 rfl hN.1 zf_X0_15 (by omega) zc_154 zs_36 (fun q hq => by cases hq; exact ⟨rfl, rfl⟩) (zrf_of rfl) rfl rfl ?_
  generalize hs8 : zset s2 154 1 ((156 : Nat) : Int) = s7
  have q9 := zCs_ref hs8 q6 zc_154 zs_36 rfl (by omega) (by decide)
  have e10 : s7 154 0 = ((155 : Nat) : Int) := by rw [← hs8]; exact (zset_j (by decide)).trans e5
  refine zt_aload_n (pc' := 21) hX dX0_init_20 rfl rfl ?_
  refine zt_bipush (pc' := 23) hX dX0_init_21 rfl (by decide) (by decide) ?_
  refine zt_newa (pc' := 25) (t := 0) (N := 10) hX dX0_init_23 rfl zw_3_7 rfl (by decide) (by decide) zc_157 zs_39 (by decide) (by decide) (zCs_nx q9) ⟨by rw [hN.2.1]; exact Nat.le_of_ble_eq_true rfl, by rw [hN.2.2]; exact Nat.le_of_ble_eq_true rfl⟩ ?_
  have q11 := zCs_arr q9 zc_157 zs_39 (by decide)
  refine zt_putF (pc' := 28) (x := ((157 : Nat) : Int)) hX dX0_init_25 rfl hN.1 zf_X0_18 (by omega) zc_154 zs_36 (fun q hq => by cases hq; exact ⟨rfl, rfl⟩) (zrf_of rfl) rfl rfl ?_
  generalize hs13 : zset s7 154 2 ((157 : Nat) : Int) = s12
  have q14 := zCs_ref hs13 q11 zc_154 zs_36 rfl (by omega) (by decide)
  have e15 : s12 154 0 = ((155 : Nat) : Int) := by rw [← hs13]; exact (zset_j (by decide)).trans e10
  refine zt_aload_n (pc' := 29) hX dX0_init_28 rfl rfl ?_
  refine zt_iconst (pc' := 30) hX dX0_init_29 rfl ?_
  refine zt_put (pc' := 33) (x := 0) hX dX0_init_30 rfl zf_X0_21 (by omega) zc_154 zs_36 (fun q hq => by cases hq; rfl) rfl rfl rfl ?_
  generalize hs17 : zset s12 154 3 0 = s16
  have q18 := zCs_int hs17 q14 zc_154 zs_36 (show 0 ≤ (0 : Int) ∧ (0 : Int) ≤ 10 from ⟨by decide, by decide⟩) (by decide)
  have e19 : s16 154 0 = ((155 : Nat) : Int) := by rw [← hs17]; exact (zset_j (by decide)).trans e15
  refine zt_aload_n (pc' := 34) hX dX0_init_33 rfl rfl ?_
  refine zt_get (pc' := 37) (v := .ref (X.1.1 + 155)) hX dX0_init_34 rfl zf_X0_9 (by omega) zc_154 zs_36 (zrf_of e19) ?_
  refine zt_bipush (pc' := 39) hX dX0_init_37 rfl (by decide) (by decide) ?_
  refine zt_iconst (pc' := 40) hX dX0_init_39 rfl ?_
  refine zt_iast (pc' := 41) hX dX0_init_40 rfl (by omega) zc_155 zs_37 (by decide) ⟨by decide, by decide⟩ ?_
  rw [show Int.toNat 24 = 24 from rfl]
  generalize hs21 : zset s16 155 24 1 = s20
  have q22 := zCs_el hs21 q18 (by omega) (by omega) zc_155 zs_37 (show -2147483648 ≤ (1 : Int) ∧ (1 : Int) ≤ 2147483647 from ⟨by decide, by decide⟩)
  have e23 : s20 154 0 = ((155 : Nat) : Int) := by rw [← hs21]; exact (zset_k (by omega)).trans e19
  exact zt_vret hX hR dX0_init_41 (zCs_end (N := 4) q22 zc_154 zs_36 (by decide) (fun _ _ => trivial))

set_option maxRecDepth 100000 in
set_option maxHeartbeats 4000000 in
theorem zn_X6 (l : Launch) (E : zEN) (σ : zSto) (hI : zIR σ) (hD : zDf σ 153) : zCt l E yX6_init cX6_init 3 none 2 154 163 9 565 σ [.ref (E.1 + 153), .ref (E.1 + 7), .ref (E.1 + 35)] (fun _ σ' => zCp σ σ' 153 163) := by
  refine zCt_of2 [some (.ref (E.1 + 153)), some (.ref (E.1 + 7)), some (.ref (E.1 + 35))] (by decide +kernel) (Nat.le_of_ble_eq_true rfl) rfl ?_
  intro X hE hX hR hL hN
  subst hE
  have hX : zok X cX6_init RX6 2 := hX
  have q0 := zCs_0 hI hD
  refine zt_aload_n (pc' := 1) hX dX6_init_0 rfl rfl ?_
  refine zt_oinit (pc' := 4) hX (by decide) dX6_init_1 rfl zw_9_10 zw_1_10 zw_1_11 rfl ?_
  refine zt_aload_n (pc' := 5) hX dX6_init_4 rfl rfl ?_
  refine zt_new (pc' := 8) (c := 0) (q := (RX0, TX0, 4)) hX dX6_init_5 rfl rfl zw_9_11 zw_9_12 zw_9_13 (by decide) zc_154 zs_36 (by decide) (zCs_nx q0) ⟨by rw [hN.2.1]; exact Nat.le_of_ble_eq_true rfl, by rw [hN.2.2]; exact Nat.le_of_ble_eq_true rfl⟩ ?_
  refine zt_dup (pc' := 9) hX dX6_init_8 rfl rfl ?_
  refine zt_callI (pc' := 12) (As := []) (k := 154) hX (zn_X0 _ _ σ  q0.1 q0.2.1 ) zm_yX0_init dX6_init_9 rfl zw_10_4 rfl rfl (Nat.le_of_ble_eq_true rfl) (by decide) ⟨by rw [hN.2.1]; exact Nat.le_of_ble_eq_true rfl, by rw [hN.2.2]; exact Nat.le_of_ble_eq_true rfl⟩ (fun _ s1 hp2 => ?_)
  have q3 := zCs_sub (n' := 158) q0 hp2 (by omega)
  refine zt_putF (pc' := 15) (x := ((154 : Nat) : Int)) hX dX6_init_12 rfl hN.1 zf_X6_12 (by omega) zc_153 zs_35 (fun q hq => by cases hq; exact ⟨rfl, rfl⟩) (zrf_of rfl) rfl rfl ?_
  generalize hs5 : zset s1 153 0 ((154 : Nat) : Int) = s4
  have q6 := zCs_ref hs5 q3 zc_153 zs_35 rfl (by omega) (by decide)
  refine zt_aload_n (pc' := 16) hX dX6_init_15 rfl rfl ?_
  refine zt_sipush (pc' := 19) hX dX6_init_16 rfl (by decide) (by decide) ?_
  refine zt_newa (pc' := 21) (t := 0) (N := 360) hX dX6_init_19 rfl zw_3_7 rfl (by decide) (by decide) zc_158 zs_40 (by decide) (by decide) (zCs_nx q6) ⟨by rw [hN.2.1]; exact Nat.le_of_ble_eq_true rfl, by rw [hN.2.2]; exact Nat.le_of_ble_eq_true rfl⟩ ?_
  have q7 := zCs_arr q6 zc_158 zs_40 (by decide)
  refine zt_putF (pc' := 24) (x := ((158 : Nat) : Int)) hX dX6_init_21 rfl hN.1 zf_X6_18 (by omega) zc_153 zs_35 (fun q hq => by cases hq; exact ⟨rfl, rfl⟩) (zrf_of rfl) rfl rfl ?_
  generalize hs9 : zset s4 153 1 ((158 : Nat) : Int) = s8
  have q10 := zCs_ref hs9 q7 zc_153 zs_35 rfl (by omega) (by decide)
  refine zt_aload_n (pc' := 25) hX dX6_init_24 rfl rfl ?_
  refine zt_bipush (pc' := 27) hX dX6_init_25 rfl (by decide) (by decide) ?_
  refine zt_newa (pc' := 29) (t := 0) (N := 10) hX dX6_init_27 rfl zw_3_7 rfl (by decide) (by decide) zc_159 zs_41 (by decide) (by decide) (zCs_nx q10) ⟨by rw [hN.2.1]; exact Nat.le_of_ble_eq_true rfl, by rw [hN.2.2]; exact Nat.le_of_ble_eq_true rfl⟩ ?_
  have q11 := zCs_arr q10 zc_159 zs_41 (by decide)
  refine zt_putF (pc' := 32) (x := ((159 : Nat) : Int)) hX dX6_init_29 rfl hN.1 zf_X6_22 (by omega) zc_153 zs_35 (fun q hq => by cases hq; exact ⟨rfl, rfl⟩) (zrf_of rfl) rfl rfl ?_
  generalize hs13 : zset s8 153 2 ((159 : Nat) : Int) = s12
  have q14 := zCs_ref hs13 q11 zc_153 zs_35 rfl (by omega) (by decide)
  refine zt_aload_n (pc' := 33) hX dX6_init_32 rfl rfl ?_
  refine zt_bipush (pc' := 35) hX dX6_init_33 rfl (by decide) (by decide) ?_
  refine zt_newa (pc' := 37) (t := 0) (N := 36) hX dX6_init_35 rfl zw_3_7 rfl (by decide) (by decide) zc_160 zs_42 (by decide) (by decide) (zCs_nx q14) ⟨by rw [hN.2.1]; exact Nat.le_of_ble_eq_true rfl, by rw [hN.2.2]; exact Nat.le_of_ble_eq_true rfl⟩ ?_
  have q15 := zCs_arr q14 zc_160 zs_42 (by decide)
  refine zt_putF (pc' := 40) (x := ((160 : Nat) : Int)) hX dX6_init_37 rfl hN.1 zf_X6_25 (by omega) zc_153 zs_35 (fun q hq => by cases hq; exact ⟨rfl, rfl⟩) (zrf_of rfl) rfl rfl ?_
  generalize hs17 : zset s12 153 3 ((160 : Nat) : Int) = s16
  have q18 := zCs_ref hs17 q15 zc_153 zs_35 rfl (by omega) (by decide)
  refine zt_aload_n (pc' := 41) hX dX6_init_40 rfl rfl ?_
  refine zt_bipush (pc' := 43) hX dX6_init_41 rfl (by decide) (by decide) ?_
  refine zt_newa (pc' := 45) (t := 0) (N := 36) hX dX6_init_43 rfl zw_3_7 rfl (by decide) (by decide) zc_161 zs_43 (by decide) (by decide) (zCs_nx q18) ⟨by rw [hN.2.1]; exact Nat.le_of_ble_eq_true rfl, by rw [hN.2.2]; exact Nat.le_of_ble_eq_true rfl⟩ ?_
  have q19 := zCs_arr q18 zc_161 zs_43 (by decide)
  refine zt_putF (pc' := 48) (x := ((161 : Nat) : Int)) hX dX6_init_45 rfl hN.1 zf_X6_28 (by omega) zc_153 zs_35 (fun q hq => by cases hq; exact ⟨rfl, rfl⟩) (zrf_of rfl) rfl rfl ?_
  generalize hs21 : zset s16 153 4 ((161 : Nat) : Int) = s20
  have q22 := zCs_ref hs21 q19 zc_153 zs_35 rfl (by omega) (by decide)
  refine zt_aload_n (pc' := 49) hX dX6_init_48 rfl rfl ?_
  refine zt_bipush (pc' := 51) hX dX6_init_49 rfl (by decide) (by decide) ?_
  refine zt_newa (pc' := 53) (t := 0) (N := 36) hX dX6_init_51 rfl zw_3_7 rfl (by decide) (by decide) zc_162 zs_44 (by decide) (by decide) (zCs_nx q22) ⟨by rw [hN.2.1]; exact Nat.le_of_ble_eq_true rfl, by rw [hN.2.2]; exact Nat.le_of_ble_eq_true rfl⟩ ?_
  have q23 := zCs_arr q22 zc_162 zs_44 (by decide)
  refine zt_putF (pc' := 56) (x := ((162 : Nat) : Int)) hX dX6_init_53 rfl hN.1 zf_X6_31 (by omega) zc_153 zs_35 (fun q hq => by cases hq; exact ⟨rfl, rfl⟩) (zrf_of rfl) rfl rfl ?_
  generalize hs25 : zset s20 153 5 ((162 : Nat) : Int) = s24
  have q26 := zCs_ref hs25 q23 zc_153 zs_35 rfl (by omega) (by decide)
  refine zt_aload_n (pc' := 57) hX dX6_init_56 rfl rfl ?_
  refine zt_iconst (pc' := 58) hX dX6_init_57 rfl ?_
  refine zt_put (pc' := 61) (x := 0) hX dX6_init_58 rfl zf_X6_34 (by omega) zc_153 zs_35 (fun q hq => by cases hq; rfl) rfl rfl rfl ?_
  generalize hs28 : zset s24 153 8 0 = s27
  have q29 := zCs_int hs28 q26 zc_153 zs_35 (show 0 ≤ (0 : Int) ∧ (0 : Int) ≤ 99 from ⟨by decide, by decide⟩) (by decide)
  refine zt_aload_n (pc' := 62) hX dX6_init_61 rfl rfl ?_
  refine zt_iconst (pc' := 63) hX dX6_init_62 rfl ?_
  refine zt_put (pc' := 66) (x := (-1)) hX dX6_init_63 rfl zf_X6_38 (by omega) zc_153 zs_35 (fun q hq => by cases hq; rfl) rfl rfl rfl ?_
  generalize hs31 : zset s27 153 9 (-1) = s30
  have q32 := zCs_int hs31 q29 zc_153 zs_35 (show -2147483648 ≤ ((-1) : Int) ∧ ((-1) : Int) ≤ 2147483647 from ⟨by decide, by decide⟩) (by decide)
  refine zt_aload_n (pc' := 67) hX dX6_init_66 rfl rfl ?_
  refine zt_iconst (pc' := 68) hX dX6_init_67 rfl ?_
  refine zt_put (pc' := 71) (x := (-1)) hX dX6_init_68 rfl zf_X6_41 (by omega) zc_153 zs_35 (fun q hq => by cases hq; rfl) rfl rfl rfl ?_
  generalize hs34 : zset s30 153 10 (-1) = s33
  have q35 := zCs_int hs34 q32 zc_153 zs_35 (show -2147483648 ≤ ((-1) : Int) ∧ ((-1) : Int) ≤ 2147483647 from ⟨by decide, by decide⟩) (by decide)
  refine zt_aload_n (pc' := 72) hX dX6_init_71 rfl rfl ?_
  refine zt_lconst (y := 0) (pc' := 73) hX dX6_init_72 rfl (by decide +kernel) ?_
  refine zt_put (pc' := 76) (x := 0) hX dX6_init_73 rfl zf_X6_44 (by omega) zc_153 zs_35 (fun q hq => by cases hq; rfl) rfl rfl rfl ?_
  generalize hs37 : zset s33 153 11 0 = s36
  have q38 := zCs_int hs37 q35 zc_153 zs_35 (show -9223372036854775808 ≤ (0 : Int) ∧ (0 : Int) ≤ 9223372036854775807 from ⟨by decide, by decide⟩) (by decide)
  refine zt_aload_n (pc' := 77) hX dX6_init_76 rfl rfl ?_
  refine zt_iconst (pc' := 78) hX dX6_init_77 rfl ?_
  refine zt_put (pc' := 81) (x := 0) hX dX6_init_78 rfl zf_X6_48 (by omega) zc_153 zs_35 (fun q hq => by cases hq; rfl) rfl rfl rfl ?_
  generalize hs40 : zset s36 153 12 0 = s39
  have q41 := zCs_int hs40 q38 zc_153 zs_35 (show -2147483648 ≤ (0 : Int) ∧ (0 : Int) ≤ 2147483647 from ⟨by decide, by decide⟩) (by decide)
  refine zt_aload_n (pc' := 82) hX dX6_init_81 rfl rfl ?_
  refine zt_iconst (pc' := 83) hX dX6_init_82 rfl ?_
  refine zt_put (pc' := 86) (x := 0) hX dX6_init_83 rfl zf_X6_51 (by omega) zc_153 zs_35 (fun q hq => by cases hq; rfl) rfl rfl rfl ?_
  generalize hs43 : zset s39 153 13 0 = s42
  have q44 := zCs_int hs43 q41 zc_153 zs_35 (show -2147483648 ≤ (0 : Int) ∧ (0 : Int) ≤ 2147483647 from ⟨by decide, by decide⟩) (by decide)
  refine zt_aload_n (pc' := 87) hX dX6_init_86 rfl rfl ?_
  refine zt_aload_n (pc' := 88) hX dX6_init_87 rfl rfl ?_
  refine zt_put (pc' := 91) (x := ((7 : Nat) : Int)) hX dX6_init_88 rfl zf_X6_54 (by omega) zc_153 zs_35 (fun q hq => by cases hq; rfl) (zrf_of rfl) rfl rfl ?_
  generalize hs46 : zset s42 153 6 ((7 : Nat) : Int) = s45
  have q47 := zCs_ref hs46 q44 zc_153 zs_35 ⟨7, rfl, zc_7⟩ (by omega) (by decide)
  refine zt_aload_n (pc' := 92) hX dX6_init_91 rfl rfl ?_
  refine zt_aload_n (pc' := 93) hX dX6_init_92 rfl rfl ?_
  refine zt_put (pc' := 96) (x := ((35 : Nat) : Int)) hX dX6_init_93 rfl zf_X6_58 (by omega) zc_153 zs_35 (fun q hq => by cases hq; rfl) (zrf_of rfl) rfl rfl ?_
  generalize hs49 : zset s45 153 7 ((35 : Nat) : Int) = s48
  have q50 := zCs_ref hs49 q47 zc_153 zs_35 ⟨35, rfl, zc_35⟩ (by omega) (by decide)
  exact zt_vret hX hR dX6_init_96 (zCs_end (N := 14) q50 zc_153 zs_35 (by decide) (fun _ _ => trivial))
