set_option maxRecDepth 100000 in
set_option maxHeartbeats 4000000 in
theorem zc_J6_bitCount (l : Launch) (E : zEN) (σ : zSto)  (a0_ : Int) (ha0_ : -2147483648 ≤ a0_ ∧ a0_ ≤ 2147483647) : zCt l E yJ6_bitCount_0f7a4 cJ6_bitCount_0f7a4 1 (some .int) 0 zNC zNC 0 0 σ [.int (zI a0_)] (fun r σ' => σ = σ' ∧ 0 ≤ r ∧ r ≤ 63) := by
  refine zCt_of2 [some (.int (zI a0_))] (by decide +kernel) (Nat.le_of_ble_eq_true rfl) rfl ?_
  intro X hE hX hR hL hN
  subst hE
  have hX : zok X cJ6_bitCount_0f7a4 RJ6 0 := hX
  refine zt_iload_n hX dJ6_bitCount_0f7a4_0 rfl rfl ?_
  refine zt_iload_n hX dJ6_bitCount_0f7a4_1 rfl rfl ?_
  refine zt_iconst hX dJ6_bitCount_0f7a4_2 rfl ?_
  refine zt_iushr hX dJ6_bitCount_0f7a4_3 rfl (fun r1 lr1 ur1 => ?_)
  refine zt_ldcw (x := 1431655765) hX dJ6_bitCount_0f7a4_4 rfl zw_37_21 (by decide +kernel) ?_
  refine zt_iand hX dJ6_bitCount_0f7a4_7 rfl (fun r2 er2 lr2 ur2 => ?_)
  refine zt_isub hX dJ6_bitCount_0f7a4_8 rfl ?_
  refine zt_wrap (fun r3 er3 lr3 ur3 => ?_)
  refine zt_istore_n (lv' := [some (.int (zI r3))]) hX dJ6_bitCount_0f7a4_9 rfl hL (by decide) rfl ?_
  refine zt_iload_n hX dJ6_bitCount_0f7a4_10 rfl rfl ?_
  refine zt_ldcw (x := 858993459) hX dJ6_bitCount_0f7a4_11 rfl zw_37_22 (by decide +kernel) ?_
  refine zt_iand hX dJ6_bitCount_0f7a4_14 rfl (fun r4 er4 lr4 ur4 => ?_)
  refine zt_iload_n hX dJ6_bitCount_0f7a4_15 rfl rfl ?_
  refine zt_iconst hX dJ6_bitCount_0f7a4_16 rfl ?_
  refine zt_iushr hX dJ6_bitCount_0f7a4_17 rfl (fun r5 lr5 ur5 => ?_)
  refine zt_ldcw (x := 858993459) hX dJ6_bitCount_0f7a4_18 rfl zw_37_22 (by decide +kernel) ?_
  refine zt_iand hX dJ6_bitCount_0f7a4_21 rfl (fun r6 er6 lr6 ur6 => ?_)
  refine zt_iadd hX dJ6_bitCount_0f7a4_22 rfl ?_
  refine zt_wrap (fun r7 er7 lr7 ur7 => ?_)
  refine zt_istore_n (lv' := [some (.int (zI r7))]) hX dJ6_bitCount_0f7a4_23 rfl hL (by decide) rfl ?_
  refine zt_iload_n hX dJ6_bitCount_0f7a4_24 rfl rfl ?_
  refine zt_iload_n hX dJ6_bitCount_0f7a4_25 rfl rfl ?_
  refine zt_iconst hX dJ6_bitCount_0f7a4_26 rfl ?_
  refine zt_iushr hX dJ6_bitCount_0f7a4_27 rfl (fun r8 lr8 ur8 => ?_)
  refine zt_iadd hX dJ6_bitCount_0f7a4_28 rfl ?_
  refine zt_wrap (fun r9 er9 lr9 ur9 => ?_)
  refine zt_ldcw (x := 252645135) hX dJ6_bitCount_0f7a4_29 rfl zw_37_23 (by decide +kernel) ?_
  refine zt_iand hX dJ6_bitCount_0f7a4_32 rfl (fun r10 er10 lr10 ur10 => ?_)
  refine zt_istore_n (lv' := [some (.int (zI r10))]) hX dJ6_bitCount_0f7a4_33 rfl hL (by decide) rfl ?_
  refine zt_iload_n hX dJ6_bitCount_0f7a4_34 rfl rfl ?_
  refine zt_iload_n hX dJ6_bitCount_0f7a4_35 rfl rfl ?_
  refine zt_bipush hX dJ6_bitCount_0f7a4_36 rfl (by decide) (by decide) ?_
  refine zt_iushr hX dJ6_bitCount_0f7a4_38 rfl (fun r11 lr11 ur11 => ?_)
  refine zt_iadd hX dJ6_bitCount_0f7a4_39 rfl ?_
  refine zt_wrap (fun r12 er12 lr12 ur12 => ?_)
  refine zt_istore_n (lv' := [some (.int (zI r12))]) hX dJ6_bitCount_0f7a4_40 rfl hL (by decide) rfl ?_
  refine zt_iload_n hX dJ6_bitCount_0f7a4_41 rfl rfl ?_
  refine zt_iload_n hX dJ6_bitCount_0f7a4_42 rfl rfl ?_
  refine zt_bipush hX dJ6_bitCount_0f7a4_43 rfl (by decide) (by decide) ?_
  refine zt_iushr hX dJ6_bitCount_0f7a4_45 rfl (fun r13 lr13 ur13 => ?_)
  refine zt_iadd hX dJ6_bitCount_0f7a4_46 rfl ?_
  refine zt_wrap (fun r14 er14 lr14 ur14 => ?_)
  refine zt_istore_n (lv' := [some (.int (zI r14))]) hX dJ6_bitCount_0f7a4_47 rfl hL (by decide) rfl ?_
  refine zt_iload_n hX dJ6_bitCount_0f7a4_48 rfl rfl ?_
  refine zt_bipush hX dJ6_bitCount_0f7a4_49 rfl (by decide) (by decide) ?_
  refine zt_iandm hX dJ6_bitCount_0f7a4_51 rfl 6 (by decide +kernel) (by decide) (fun r15 er15 lr15 ur15 => ?_)
  have ur15 : r15 ≤ 63 := by omega
  exact zt_iret hX hR dJ6_bitCount_0f7a4_52 ⟨by omega, by omega⟩ ⟨rfl, by omega, by omega⟩

set_option maxRecDepth 100000 in
set_option maxHeartbeats 4000000 in
theorem zc_J13_bitCount (l : Launch) (E : zEN) (σ : zSto)  (a0_ : Int) (ha0_ : -9223372036854775808 ≤ a0_ ∧ a0_ ≤ 9223372036854775807) : zCt l E yJ13_bitCount_95d88 cJ13_bitCount_95d88 2 (some .int) 0 zNC zNC 0 0 σ [.long (zJ a0_)] (fun r σ' => σ = σ' ∧ 0 ≤ r ∧ r ≤ 127) := by
  refine zCt_of2 [some (.long (zJ a0_)), none] (by decide +kernel) (Nat.le_of_ble_eq_true rfl) rfl ?_
  intro X hE hX hR hL hN
  subst hE
  have hX : zok X cJ13_bitCount_95d88 RJ13 0 := hX
  refine zt_lload_n hX dJ13_bitCount_95d88_0 rfl rfl ?_
  refine zt_lload_n hX dJ13_bitCount_95d88_1 rfl rfl ?_
  refine zt_iconst hX dJ13_bitCount_95d88_2 rfl ?_
  refine zt_lushr hX dJ13_bitCount_95d88_3 rfl (fun r1 lr1 ur1 => ?_)
  refine zt_ldc2 (x := 6148914691236517205) hX dJ13_bitCount_95d88_4 rfl zw_33_21 (by decide +kernel) ?_
  refine zt_land hX dJ13_bitCount_95d88_7 rfl (fun r2 er2 lr2 ur2 => ?_)
  refine zt_lsub hX dJ13_bitCount_95d88_8 rfl ?_
  refine zt_wrapl (fun r3 er3 lr3 ur3 => ?_)
  refine zt_lstore_n (lv' := [some (.long (zJ r3)), none]) hX dJ13_bitCount_95d88_9 rfl hL (by decide) rfl ?_
  refine zt_lload_n hX dJ13_bitCount_95d88_10 rfl rfl ?_
  refine zt_ldc2 (x := 3689348814741910323) hX dJ13_bitCount_95d88_11 rfl zw_33_22 (by decide +kernel) ?_
  refine zt_land hX dJ13_bitCount_95d88_14 rfl (fun r4 er4 lr4 ur4 => ?_)
  refine zt_lload_n hX dJ13_bitCount_95d88_15 rfl rfl ?_
  refine zt_iconst hX dJ13_bitCount_95d88_16 rfl ?_
  refine zt_lushr hX dJ13_bitCount_95d88_17 rfl (fun r5 lr5 ur5 => ?_)
  refine zt_ldc2 (x := 3689348814741910323) hX dJ13_bitCount_95d88_18 rfl zw_33_22 (by decide +kernel) ?_
  refine zt_land hX dJ13_bitCount_95d88_21 rfl (fun r6 er6 lr6 ur6 => ?_)
  refine zt_ladd hX dJ13_bitCount_95d88_22 rfl ?_
  refine zt_wrapl (fun r7 er7 lr7 ur7 => ?_)
  refine zt_lstore_n (lv' := [some (.long (zJ r7)), none]) hX dJ13_bitCount_95d88_23 rfl hL (by decide) rfl ?_
  refine zt_lload_n hX dJ13_bitCount_95d88_24 rfl rfl ?_
  refine zt_lload_n hX dJ13_bitCount_95d88_25 rfl rfl ?_
  refine zt_iconst hX dJ13_bitCount_95d88_26 rfl ?_
  refine zt_lushr hX dJ13_bitCount_95d88_27 rfl (fun r8 lr8 ur8 => ?_)
  refine zt_ladd hX dJ13_bitCount_95d88_28 rfl ?_
  refine zt_wrapl (fun r9 er9 lr9 ur9 => ?_)
  refine zt_ldc2 (x := 1085102592571150095) hX dJ13_bitCount_95d88_29 rfl zw_33_23 (by decide +kernel) ?_
  refine zt_land hX dJ13_bitCount_95d88_32 rfl (fun r10 er10 lr10 ur10 => ?_)
  refine zt_lstore_n (lv' := [some (.long (zJ r10)), none]) hX dJ13_bitCount_95d88_33 rfl hL (by decide) rfl ?_
  refine zt_lload_n hX dJ13_bitCount_95d88_34 rfl rfl ?_
  refine zt_lload_n hX dJ13_bitCount_95d88_35 rfl rfl ?_
  refine zt_bipush hX dJ13_bitCount_95d88_36 rfl (by decide) (by decide) ?_
  refine zt_lushr hX dJ13_bitCount_95d88_38 rfl (fun r11 lr11 ur11 => ?_)
  refine zt_ladd hX dJ13_bitCount_95d88_39 rfl ?_
  refine zt_wrapl (fun r12 er12 lr12 ur12 => ?_)
  refine zt_lstore_n (lv' := [some (.long (zJ r12)), none]) hX dJ13_bitCount_95d88_40 rfl hL (by decide) rfl ?_
  refine zt_lload_n hX dJ13_bitCount_95d88_41 rfl rfl ?_
  refine zt_lload_n hX dJ13_bitCount_95d88_42 rfl rfl ?_
  refine zt_bipush hX dJ13_bitCount_95d88_43 rfl (by decide) (by decide) ?_
  refine zt_lushr hX dJ13_bitCount_95d88_45 rfl (fun r13 lr13 ur13 => ?_)
  refine zt_ladd hX dJ13_bitCount_95d88_46 rfl ?_
  refine zt_wrapl (fun r14 er14 lr14 ur14 => ?_)
  refine zt_lstore_n (lv' := [some (.long (zJ r14)), none]) hX dJ13_bitCount_95d88_47 rfl hL (by decide) rfl ?_
  refine zt_lload_n hX dJ13_bitCount_95d88_48 rfl rfl ?_
  refine zt_lload_n hX dJ13_bitCount_95d88_49 rfl rfl ?_
  refine zt_bipush hX dJ13_bitCount_95d88_50 rfl (by decide) (by decide) ?_
  refine zt_lushr hX dJ13_bitCount_95d88_52 rfl (fun r15 lr15 ur15 => ?_)
  refine zt_ladd hX dJ13_bitCount_95d88_53 rfl ?_
  refine zt_wrapl (fun r16 er16 lr16 ur16 => ?_)
  refine zt_lstore_n (lv' := [some (.long (zJ r16)), none]) hX dJ13_bitCount_95d88_54 rfl hL (by decide) rfl ?_
  refine zt_lload_n hX dJ13_bitCount_95d88_55 rfl rfl ?_
  refine zt_l2i hX dJ13_bitCount_95d88_56 rfl ?_
  refine zt_wrap (fun r17 er17 lr17 ur17 => ?_)
  refine zt_bipush hX dJ13_bitCount_95d88_57 rfl (by decide) (by decide) ?_
  refine zt_iandm hX dJ13_bitCount_95d88_59 rfl 7 (by decide +kernel) (by decide) (fun r18 er18 lr18 ur18 => ?_)
  have ur18 : r18 ≤ 127 := by omega
  exact zt_iret hX hR dJ13_bitCount_95d88_60 ⟨by omega, by omega⟩ ⟨rfl, by omega, by omega⟩

set_option maxRecDepth 100000 in
set_option maxHeartbeats 4000000 in
theorem zc_X9_byteAt_1 (l : Launch) (E : zEN) (σ : zSto) (hI : zInv σ) (a1_ : Int) (ha1_ : -2147483648 ≤ a1_ ∧ a1_ ≤ 2147483647) : zCt l E yX9_byteAt cX9_byteAt 2 (some .int) 0 zNC zNC 0 0 σ [.ref (E.1 + 1), .int (zI a1_)] (fun r σ' => σ = σ' ∧ -1 ≤ r ∧ r ≤ 255) := by
  refine zCt_of2 [some (.ref (E.1 + 1)), some (.int (zI a1_))] (by decide +kernel) (Nat.le_of_ble_eq_true rfl) rfl ?_
  intro X hE hX hR hL hN
  subst hE
  have hX : zok X cX9_byteAt RX9 0 := hX
  refine zt_iload_n hX dX9_byteAt_0 rfl rfl ?_
  refine zt_iflt (tgt := 34) hX dX9_byteAt_1 rfl (by decide) ⟨by omega, by omega⟩ (fun c1 => ?_) (fun c1 => ?_)
  · refine zt_iconst hX dX9_byteAt_34 rfl ?_
    exact zt_iret hX hR dX9_byteAt_35 ⟨by omega, by omega⟩ ⟨rfl, by omega, by omega⟩
  · refine zt_iload_n hX dX9_byteAt_4 rfl rfl ?_
    refine zt_aload_n hX dX9_byteAt_5 rfl rfl ?_
    have b2 := zv_2_1 hI zc_1
    refine zt_get (v := .int (zI (σ 1 1))) hX dX9_byteAt_6 rfl zf_X9_9 (by decide) zc_1 zs_2 rfl ?_
    refine zt_icge (tgt := 34) hX dX9_byteAt_9 rfl (by decide) ⟨by omega, by omega⟩ ⟨by omega, by omega⟩ (fun c3 => ?_) (fun c3 => ?_)
    · refine zt_iconst hX dX9_byteAt_34 rfl ?_
      exact zt_iret hX hR dX9_byteAt_35 ⟨by omega, by omega⟩ ⟨rfl, by omega, by omega⟩
    · refine zt_iload_n hX dX9_byteAt_12 rfl rfl ?_
      refine zt_aload_n hX dX9_byteAt_13 rfl rfl ?_
      refine zt_get (v := .ref (X.1.1 + 2)) hX dX9_byteAt_14 rfl zf_X9_15 (by decide) zc_1 zs_2 (zrf_of (zv_2_0 hI zc_1)) ?_
      refine zt_alen hX dX9_byteAt_17 rfl (by decide) zc_2 zs_3 (by decide) ?_
      rw [show ((1600 : Nat) : Int) = 1600 from rfl]
      refine zt_icge (tgt := 34) hX dX9_byteAt_18 rfl (by decide) ⟨by omega, by omega⟩ ⟨by omega, by omega⟩ (fun c4 => ?_) (fun c4 => ?_)
      · exact absurd c4 (by omega)
      · refine zt_aload_n hX dX9_byteAt_21 rfl rfl ?_
        refine zt_get (v := .ref (X.1.1 + 2)) hX dX9_byteAt_22 rfl zf_X9_15 (by decide) zc_1 zs_2 (zrf_of (zv_2_0 hI zc_1)) ?_
        refine zt_iload_n hX dX9_byteAt_25 rfl rfl ?_
        refine zt_bald hX dX9_byteAt_26 rfl (by decide) zc_2 zs_3 (by decide) ⟨by omega, by omega⟩ ?_
        generalize hv5 : σ 2 (a1_.toNat) = v5
        have bv5 : -128 ≤ v5 ∧ v5 ≤ 127 := hv5 ▸ zv_3 hI zc_2 _
        refine zt_sipush hX dX9_byteAt_27 rfl (by decide) (by decide) ?_
        refine zt_iandm hX dX9_byteAt_30 rfl 8 (by decide +kernel) (by decide) (fun r6 er6 lr6 ur6 => ?_)
        have ur6 : r6 ≤ 255 := by omega
        refine zt_goto (tgt := 35) hX dX9_byteAt_31 (by decide) ?_
        exact zt_iret hX hR dX9_byteAt_35 ⟨by omega, by omega⟩ ⟨rfl, by omega, by omega⟩

set_option maxRecDepth 100000 in
set_option maxHeartbeats 4000000 in
theorem zc_X9_pairAt_1 (l : Launch) (E : zEN) (σ : zSto) (hI : zInv σ) (a1_ : Int) (ha1_ : -2147483648 ≤ a1_ ∧ a1_ ≤ 2147483647) : zCt l E yX9_pairAt cX9_pairAt 2 (some .int) 1 zNC zNC 0 0 σ [.ref (E.1 + 1), .int (zI a1_)] (fun r σ' => σ = σ' ∧ -2147483648 ≤ r ∧ r ≤ 2147483647) := by
  refine zCt_of2 [some (.ref (E.1 + 1)), some (.int (zI a1_))] (by decide +kernel) (Nat.le_of_ble_eq_true rfl) rfl ?_
  intro X hE hX hR hL hN
  subst hE
  have hX : zok X cX9_pairAt RX9 1 := hX
  refine zt_aload_n hX dX9_pairAt_0 rfl rfl ?_
  refine zt_iload_n hX dX9_pairAt_1 rfl rfl ?_
  refine zt_cVi hX dX9_pairAt_2 rfl zm_yX9_byteAt zw_57_5 zc_1 (by decide) zs_2 (q := (RX9, TX9, 2)) rfl rfl (zc_X9_byteAt_1 _ _ σ hI a1_ ⟨by omega, by omega⟩) rfl rfl (Nat.le_of_ble_eq_true rfl) (by decide) (fun r1 s2 hr3 hp4 => ?_)
  obtain ⟨rfl, q5, q6⟩ := hp4
  refine zt_bipush hX dX9_pairAt_5 rfl (by decide) (by decide) ?_
  refine zt_ishl hX dX9_pairAt_7 rfl (fun r7 er7 lr7 ur7 => ?_)
  refine zt_aload_n hX dX9_pairAt_8 rfl rfl ?_
  refine zt_iload_n hX dX9_pairAt_9 rfl rfl ?_
  refine zt_iconst hX dX9_pairAt_10 rfl ?_
  refine zt_iadd hX dX9_pairAt_11 rfl ?_
  refine zt_wrap (fun r8 er8 lr8 ur8 => ?_)
  refine zt_cVi hX dX9_pairAt_12 rfl zm_yX9_byteAt zw_57_5 zc_1 (by decide) zs_2 (q := (RX9, TX9, 2)) rfl rfl (zc_X9_byteAt_1 _ _ σ hI r8 ⟨by omega, by omega⟩) rfl rfl (Nat.le_of_ble_eq_true rfl) (by decide) (fun r9 s10 hr11 hp12 => ?_)
  obtain ⟨rfl, q13, q14⟩ := hp12
  refine zt_ior hX dX9_pairAt_15 rfl (fun r15 er15 lr15 ur15 => ?_)
  exact zt_iret hX hR dX9_pairAt_16 ⟨by omega, by omega⟩ ⟨rfl, by omega, by omega⟩

set_option maxRecDepth 100000 in
set_option maxHeartbeats 4000000 in
theorem zc_X9_checkOf_1 (l : Launch) (E : zEN) (σ : zSto) (hI : zInv σ) (a1_ : Int) (ha1_ : 0 ≤ a1_ ∧ a1_ ≤ 100) : zCt l E yX9_checkOf cX9_checkOf 4 (some .int) 1 zNC zNC 0 0 σ [.ref (E.1 + 1), .int (zI a1_)] (fun r σ' => σ = σ' ∧ -250 ≤ r ∧ r ≤ 250) := by
  refine zCt_of2 [some (.ref (E.1 + 1)), some (.int (zI a1_)), none, none] (by decide +kernel) (Nat.le_of_ble_eq_true rfl) rfl ?_
  intro X hE hX hR hL hN
  subst hE
  have hX : zok X cX9_checkOf RX9 1 := hX
  refine zt_bipush hX dX9_checkOf_0 rfl (by decide) (by decide) ?_
  refine zt_istore_n (lv' := [some (.ref (X.1.1 + 1)), some (.int (zI a1_)), some (.int (zI 127)), none]) hX dX9_checkOf_2 rfl hL (by decide) rfl ?_
  refine zt_iconst hX dX9_checkOf_3 rfl ?_
  refine zt_istore_n (lv' := [some (.ref (X.1.1 + 1)), some (.int (zI a1_)), some (.int (zI 127)), some (.int (zI 0))]) hX dX9_checkOf_4 rfl hL (by decide) rfl ?_
  have L_5_6 : ∀ (N : Nat) (x1 : Int) (x4 : Int), -250 ≤ x1 → x1 ≤ 250 → 0 ≤ x4 → x4 ≤ 100 → ((101 - x4).toNat) < N → zF X σ 5 [some (.ref (X.1.1 + 1)), some (.int (zI a1_)), some (.int (zI x1)), some (.int (zI x4))] [] := by
    intro N
    induction N with
    | zero =>
      intro x1 x4 h2 h3 h5 h6 hm8
      exact absurd hm8 (Nat.not_lt_zero _)
    | succ N ih9 =>
      intro x1 x4 h2 h3 h5 h6 hm8
      refine zt_iload_n hX dX9_checkOf_5 rfl rfl ?_
      refine zt_iload_n hX dX9_checkOf_6 rfl rfl ?_
      refine zt_icge (tgt := 30) hX dX9_checkOf_7 rfl (by decide) ⟨by omega, by omega⟩ ⟨by omega, by omega⟩ (fun c10 => ?_) (fun c10 => ?_)
      · refine zt_iload_n hX dX9_checkOf_30 rfl rfl ?_
        exact zt_iret hX hR dX9_checkOf_31 ⟨by omega, by omega⟩ ⟨rfl, by omega, by omega⟩
      · refine zt_iconst hX dX9_checkOf_10 rfl ?_
        refine zt_iload_n hX dX9_checkOf_11 rfl rfl ?_
        refine zt_imul hX dX9_checkOf_12 rfl ?_
        refine zt_wrap (fun r11 er11 lr11 ur11 => ?_)
        refine zt_aload_n hX dX9_checkOf_13 rfl rfl ?_
        refine zt_iload_n hX dX9_checkOf_14 rfl rfl ?_
        refine zt_cVi hX dX9_checkOf_15 rfl zm_yX9_byteAt zw_57_5 zc_1 (by decide) zs_2 (q := (RX9, TX9, 2)) rfl rfl (zc_X9_byteAt_1 _ _ σ hI x4 ⟨by omega, by omega⟩) rfl rfl (Nat.le_of_ble_eq_true rfl) (by decide) (fun r12 s13 hr14 hp15 => ?_)
        obtain ⟨rfl, q16, q17⟩ := hp15
        refine zt_iadd hX dX9_checkOf_18 rfl ?_
        refine zt_wrap (fun r18 er18 lr18 ur18 => ?_)
        refine zt_sipush hX dX9_checkOf_19 rfl (by decide) (by decide) ?_
        refine zt_irem hX dX9_checkOf_22 rfl ⟨by omega, by omega⟩ ⟨by omega, by omega⟩ (fun r19 er19 br19 nr19 => ?_)
        refine zt_istore_n (lv' := [some (.ref (X.1.1 + 1)), some (.int (zI a1_)), some (.int (zI r19)), some (.int (zI x4))]) hX dX9_checkOf_23 rfl hL (by decide) rfl ?_
        refine zt_iinc (lv' := [some (.ref (X.1.1 + 1)), some (.int (zI a1_)), some (.int (zI r19)), some (.int (zI (x4 + 1)))]) hX dX9_checkOf_24 rfl rfl hL (by decide) rfl ?_
        refine zt_goto (tgt := 5) hX dX9_checkOf_27 (by decide) ?_
        exact ih9 r19 (x4 + 1) (by omega) (by omega) (by omega) (by omega) (by omega)
  exact L_5_6 _ 127 0 (by omega) (by omega) (by omega) (by omega) (Nat.lt_succ_self _)

set_option maxRecDepth 100000 in
set_option maxHeartbeats 4000000 in
theorem zc_X9_addByte_1 (l : Launch) (E : zEN) (σ : zSto) (hI : zInv σ) (a1_ : Int) (ha1_ : -2147483648 ≤ a1_ ∧ a1_ ≤ 2147483647) : zCt l E yX9_addByte cX9_addByte 2 none 0 zNC zNC 0 0 σ [.ref (E.1 + 1), .int (zI a1_)] (fun r σ' => zInv σ' ∧ zFB σ σ' ∧ ((σ 1 1 < 1600 → σ' 1 1 = σ 1 1 + 1) ∧ (¬ σ 1 1 < 1600 → σ' 1 1 = σ 1 1))) := by
  refine zCt_of2 [some (.ref (E.1 + 1)), some (.int (zI a1_))] (by decide +kernel) (Nat.le_of_ble_eq_true rfl) rfl ?_
  intro X hE hX hR hL hN
  subst hE
  have hX : zok X cX9_addByte RX9 0 := hX
  have hF := zFB_rf σ
  refine zt_aload_n hX dX9_addByte_0 rfl rfl ?_
  have b1 := zv_2_1 hI zc_1
  refine zt_get (v := .int (zI (σ 1 1))) hX dX9_addByte_1 rfl zf_X9_9 (by decide) zc_1 zs_2 rfl ?_
  refine zt_aload_n hX dX9_addByte_4 rfl rfl ?_
  refine zt_get (v := .ref (X.1.1 + 2)) hX dX9_addByte_5 rfl zf_X9_15 (by decide) zc_1 zs_2 (zrf_of (zv_2_0 hI zc_1)) ?_
  refine zt_alen hX dX9_addByte_8 rfl (by decide) zc_2 zs_3 (by decide) ?_
  rw [show ((1600 : Nat) : Int) = 1600 from rfl]
  refine zt_icge (tgt := 33) hX dX9_addByte_9 rfl (by decide) ⟨by omega, by omega⟩ ⟨by omega, by omega⟩ (fun c2 => ?_) (fun c2 => ?_)
  · exact zt_vret hX hR dX9_addByte_33 ⟨hI, hF, by omega⟩
  · refine zt_aload_n hX dX9_addByte_12 rfl rfl ?_
    refine zt_get (v := .ref (X.1.1 + 2)) hX dX9_addByte_13 rfl zf_X9_15 (by decide) zc_1 zs_2 (zrf_of (zv_2_0 hI zc_1)) ?_
    refine zt_aload_n hX dX9_addByte_16 rfl rfl ?_
    refine zt_get (v := .int (zI (σ 1 1))) hX dX9_addByte_17 rfl zf_X9_9 (by decide) zc_1 zs_2 rfl ?_
    refine zt_iload_n hX dX9_addByte_20 rfl rfl ?_
    refine zt_i2b hX dX9_addByte_21 rfl (fun r3 er3 lr3 ur3 => ?_)
    refine zt_bast hX dX9_addByte_22 rfl (by decide) zc_2 zs_3 (by decide) ⟨by omega, by omega⟩ ⟨by omega, by omega⟩ ?_
    generalize hs5 : zset σ 2 ((σ 1 1).toNat) r3 = s4
    have hI6 : zInv s4 := hs5 ▸ zp_3 hI zc_2 ((σ 1 1).toNat) ⟨by omega, by omega⟩
    have hF7 : zFB σ s4 := hs5 ▸ zFB_set hF zc_2 (by decide) zk_3
    refine zt_aload_n hX dX9_addByte_23 rfl rfl ?_
    refine zt_dup hX dX9_addByte_24 rfl rfl ?_
    have b8 := zv_2_1 hI6 zc_1
    have e9 : s4 1 1 = σ 1 1 := by rw [← hs5]; exact zset_k (zne_r zc_1 zc_2 (by decide))
    refine zt_get (v := .int (zI (s4 1 1))) hX dX9_addByte_25 rfl zf_X9_9 (by decide) zc_1 zs_2 rfl ?_
    refine zt_iconst hX dX9_addByte_28 rfl ?_
    refine zt_iadd hX dX9_addByte_29 rfl ?_
    refine zt_put (x := ((s4 1 1) + 1)) hX dX9_addByte_30 rfl zf_X9_9 (by decide) zc_1 zs_2 (fun q hq => by cases hq; rfl) rfl rfl rfl ?_
    generalize hs11 : zset s4 1 1 ((s4 1 1) + 1) = s10
    have hI12 : zInv s10 := hs11 ▸ zp_2_1 hI6 zc_1 ⟨by omega, by omega⟩
    have hF13 : zFB σ s10 := hs11 ▸ zFB_set hF7 zc_1 (by decide) zk_2
    have e14 : s10 1 1 = ((s4 1 1) + 1) := by rw [← hs11]; exact zset_s
    exact zt_vret hX hR dX9_addByte_33 ⟨hI12, hF13, by omega⟩

set_option maxRecDepth 100000 in
set_option maxHeartbeats 4000000 in
theorem zc_X9_byteAt_2 (l : Launch) (E : zEN) (σ : zSto) (hI : zInv σ) (a1_ : Int) (ha1_ : -2147483648 ≤ a1_ ∧ a1_ ≤ 2147483647) : zCt l E yX9_byteAt cX9_byteAt 2 (some .int) 0 zNC zNC 0 0 σ [.ref (E.1 + 3), .int (zI a1_)] (fun r σ' => σ = σ' ∧ -1 ≤ r ∧ r ≤ 255) := by
  refine zCt_of2 [some (.ref (E.1 + 3)), some (.int (zI a1_))] (by decide +kernel) (Nat.le_of_ble_eq_true rfl) rfl ?_
  intro X hE hX hR hL hN
  subst hE
  have hX : zok X cX9_byteAt RX9 0 := hX
  refine zt_iload_n hX dX9_byteAt_0 rfl rfl ?_
  refine zt_iflt (tgt := 34) hX dX9_byteAt_1 rfl (by decide) ⟨by omega, by omega⟩ (fun c1 => ?_) (fun c1 => ?_)
  · refine zt_iconst hX dX9_byteAt_34 rfl ?_
    exact zt_iret hX hR dX9_byteAt_35 ⟨by omega, by omega⟩ ⟨rfl, by omega, by omega⟩
  · refine zt_iload_n hX dX9_byteAt_4 rfl rfl ?_
    refine zt_aload_n hX dX9_byteAt_5 rfl rfl ?_
    have b2 := zv_4_1 hI zc_3
    refine zt_get (v := .int (zI (σ 3 1))) hX dX9_byteAt_6 rfl zf_X9_9 (by decide) zc_3 zs_4 rfl ?_
    refine zt_icge (tgt := 34) hX dX9_byteAt_9 rfl (by decide) ⟨by omega, by omega⟩ ⟨by omega, by omega⟩ (fun c3 => ?_) (fun c3 => ?_)
    · refine zt_iconst hX dX9_byteAt_34 rfl ?_
      exact zt_iret hX hR dX9_byteAt_35 ⟨by omega, by omega⟩ ⟨rfl, by omega, by omega⟩
    · refine zt_iload_n hX dX9_byteAt_12 rfl rfl ?_
      refine zt_aload_n hX dX9_byteAt_13 rfl rfl ?_
      refine zt_get (v := .ref (X.1.1 + 4)) hX dX9_byteAt_14 rfl zf_X9_15 (by decide) zc_3 zs_4 (zrf_of (zv_4_0 hI zc_3)) ?_
      refine zt_alen hX dX9_byteAt_17 rfl (by decide) zc_4 zs_5 (by decide) ?_
      rw [show ((80 : Nat) : Int) = 80 from rfl]
      refine zt_icge (tgt := 34) hX dX9_byteAt_18 rfl (by decide) ⟨by omega, by omega⟩ ⟨by omega, by omega⟩ (fun c4 => ?_) (fun c4 => ?_)
      · exact absurd c4 (by omega)
      · refine zt_aload_n hX dX9_byteAt_21 rfl rfl ?_
        refine zt_get (v := .ref (X.1.1 + 4)) hX dX9_byteAt_22 rfl zf_X9_15 (by decide) zc_3 zs_4 (zrf_of (zv_4_0 hI zc_3)) ?_
        refine zt_iload_n hX dX9_byteAt_25 rfl rfl ?_
        refine zt_bald hX dX9_byteAt_26 rfl (by decide) zc_4 zs_5 (by decide) ⟨by omega, by omega⟩ ?_
        generalize hv5 : σ 4 (a1_.toNat) = v5
        have bv5 : -128 ≤ v5 ∧ v5 ≤ 127 := hv5 ▸ zv_5 hI zc_4 _
        refine zt_sipush hX dX9_byteAt_27 rfl (by decide) (by decide) ?_
        refine zt_iandm hX dX9_byteAt_30 rfl 8 (by decide +kernel) (by decide) (fun r6 er6 lr6 ur6 => ?_)
        have ur6 : r6 ≤ 255 := by omega
        refine zt_goto (tgt := 35) hX dX9_byteAt_31 (by decide) ?_
        exact zt_iret hX hR dX9_byteAt_35 ⟨by omega, by omega⟩ ⟨rfl, by omega, by omega⟩

set_option maxRecDepth 100000 in
set_option maxHeartbeats 4000000 in
theorem zc_X9_pairAt_2 (l : Launch) (E : zEN) (σ : zSto) (hI : zInv σ) (a1_ : Int) (ha1_ : -2147483648 ≤ a1_ ∧ a1_ ≤ 2147483647) : zCt l E yX9_pairAt cX9_pairAt 2 (some .int) 1 zNC zNC 0 0 σ [.ref (E.1 + 3), .int (zI a1_)] (fun r σ' => σ = σ' ∧ -2147483648 ≤ r ∧ r ≤ 2147483647) := by
  refine zCt_of2 [some (.ref (E.1 + 3)), some (.int (zI a1_))] (by decide +kernel) (Nat.le_of_ble_eq_true rfl) rfl ?_
  intro X hE hX hR hL hN
  subst hE
  have hX : zok X cX9_pairAt RX9 1 := hX
  refine zt_aload_n hX dX9_pairAt_0 rfl rfl ?_
  refine zt_iload_n hX dX9_pairAt_1 rfl rfl ?_
  refine zt_cVi hX dX9_pairAt_2 rfl zm_yX9_byteAt zw_57_5 zc_3 (by decide) zs_4 (q := (RX9, TX9, 2)) rfl rfl (zc_X9_byteAt_2 _ _ σ hI a1_ ⟨by omega, by omega⟩) rfl rfl (Nat.le_of_ble_eq_true rfl) (by decide) (fun r1 s2 hr3 hp4 => ?_)
  obtain ⟨rfl, q5, q6⟩ := hp4
  refine zt_bipush hX dX9_pairAt_5 rfl (by decide) (by decide) ?_
  refine zt_ishl hX dX9_pairAt_7 rfl (fun r7 er7 lr7 ur7 => ?_)
  refine zt_aload_n hX dX9_pairAt_8 rfl rfl ?_
  refine zt_iload_n hX dX9_pairAt_9 rfl rfl ?_
  refine zt_iconst hX dX9_pairAt_10 rfl ?_
  refine zt_iadd hX dX9_pairAt_11 rfl ?_
  refine zt_wrap (fun r8 er8 lr8 ur8 => ?_)
  refine zt_cVi hX dX9_pairAt_12 rfl zm_yX9_byteAt zw_57_5 zc_3 (by decide) zs_4 (q := (RX9, TX9, 2)) rfl rfl (zc_X9_byteAt_2 _ _ σ hI r8 ⟨by omega, by omega⟩) rfl rfl (Nat.le_of_ble_eq_true rfl) (by decide) (fun r9 s10 hr11 hp12 => ?_)
  obtain ⟨rfl, q13, q14⟩ := hp12
  refine zt_ior hX dX9_pairAt_15 rfl (fun r15 er15 lr15 ur15 => ?_)
  exact zt_iret hX hR dX9_pairAt_16 ⟨by omega, by omega⟩ ⟨rfl, by omega, by omega⟩

set_option maxRecDepth 100000 in
set_option maxHeartbeats 4000000 in
theorem zc_X9_checkOf_2 (l : Launch) (E : zEN) (σ : zSto) (hI : zInv σ) (a1_ : Int) (ha1_ : 0 ≤ a1_ ∧ a1_ ≤ 100) : zCt l E yX9_checkOf cX9_checkOf 4 (some .int) 1 zNC zNC 0 0 σ [.ref (E.1 + 3), .int (zI a1_)] (fun r σ' => σ = σ' ∧ -250 ≤ r ∧ r ≤ 250) := by
  refine zCt_of2 [some (.ref (E.1 + 3)), some (.int (zI a1_)), none, none] (by decide +kernel) (Nat.le_of_ble_eq_true rfl) rfl ?_
  intro X hE hX hR hL hN
  subst hE
  have hX : zok X cX9_checkOf RX9 1 := hX
  refine zt_bipush hX dX9_checkOf_0 rfl (by decide) (by decide) ?_
  refine zt_istore_n (lv' := [some (.ref (X.1.1 + 3)), some (.int (zI a1_)), some (.int (zI 127)), none]) hX dX9_checkOf_2 rfl hL (by decide) rfl ?_
  refine zt_iconst hX dX9_checkOf_3 rfl ?_
  refine zt_istore_n (lv' := [some (.ref (X.1.1 + 3)), some (.int (zI a1_)), some (.int (zI 127)), some (.int (zI 0))]) hX dX9_checkOf_4 rfl hL (by decide) rfl ?_
  have L_5_6 : ∀ (N : Nat) (x1 : Int) (x4 : Int), -250 ≤ x1 → x1 ≤ 250 → 0 ≤ x4 → x4 ≤ 100 → ((101 - x4).toNat) < N → zF X σ 5 [some (.ref (X.1.1 + 3)), some (.int (zI a1_)), some (.int (zI x1)), some (.int (zI x4))] [] := by
    intro N
    induction N with
    | zero =>
      intro x1 x4 h2 h3 h5 h6 hm8
      exact absurd hm8 (Nat.not_lt_zero _)
    | succ N ih9 =>
      intro x1 x4 h2 h3 h5 h6 hm8
      refine zt_iload_n hX dX9_checkOf_5 rfl rfl ?_
      refine zt_iload_n hX dX9_checkOf_6 rfl rfl ?_
      refine zt_icge (tgt := 30) hX dX9_checkOf_7 rfl (by decide) ⟨by omega, by omega⟩ ⟨by omega, by omega⟩ (fun c10 => ?_) (fun c10 => ?_)
      · refine zt_iload_n hX dX9_checkOf_30 rfl rfl ?_
        exact zt_iret hX hR dX9_checkOf_31 ⟨by omega, by omega⟩ ⟨rfl, by omega, by omega⟩
      · refine zt_iconst hX dX9_checkOf_10 rfl ?_
        refine zt_iload_n hX dX9_checkOf_11 rfl rfl ?_
        refine zt_imul hX dX9_checkOf_12 rfl ?_
        refine zt_wrap (fun r11 er11 lr11 ur11 => ?_)
        refine zt_aload_n hX dX9_checkOf_13 rfl rfl ?_
        refine zt_iload_n hX dX9_checkOf_14 rfl rfl ?_
        refine zt_cVi hX dX9_checkOf_15 rfl zm_yX9_byteAt zw_57_5 zc_3 (by decide) zs_4 (q := (RX9, TX9, 2)) rfl rfl (zc_X9_byteAt_2 _ _ σ hI x4 ⟨by omega, by omega⟩) rfl rfl (Nat.le_of_ble_eq_true rfl) (by decide) (fun r12 s13 hr14 hp15 => ?_)
        obtain ⟨rfl, q16, q17⟩ := hp15
        refine zt_iadd hX dX9_checkOf_18 rfl ?_
        refine zt_wrap (fun r18 er18 lr18 ur18 => ?_)
        refine zt_sipush hX dX9_checkOf_19 rfl (by decide) (by decide) ?_
        refine zt_irem hX dX9_checkOf_22 rfl ⟨by omega, by omega⟩ ⟨by omega, by omega⟩ (fun r19 er19 br19 nr19 => ?_)
        refine zt_istore_n (lv' := [some (.ref (X.1.1 + 3)), some (.int (zI a1_)), some (.int (zI r19)), some (.int (zI x4))]) hX dX9_checkOf_23 rfl hL (by decide) rfl ?_
        refine zt_iinc (lv' := [some (.ref (X.1.1 + 3)), some (.int (zI a1_)), some (.int (zI r19)), some (.int (zI (x4 + 1)))]) hX dX9_checkOf_24 rfl rfl hL (by decide) rfl ?_
        refine zt_goto (tgt := 5) hX dX9_checkOf_27 (by decide) ?_
        exact ih9 r19 (x4 + 1) (by omega) (by omega) (by omega) (by omega) (by omega)
  exact L_5_6 _ 127 0 (by omega) (by omega) (by omega) (by omega) (Nat.lt_succ_self _)

set_option maxRecDepth 100000 in
set_option maxHeartbeats 4000000 in
theorem zc_X9_addByte_2 (l : Launch) (E : zEN) (σ : zSto) (hI : zInv σ) (a1_ : Int) (ha1_ : -2147483648 ≤ a1_ ∧ a1_ ≤ 2147483647) : zCt l E yX9_addByte cX9_addByte 2 none 0 zNC zNC 0 0 σ [.ref (E.1 + 3), .int (zI a1_)] (fun r σ' => zInv σ' ∧ zFA σ σ' ∧ ((σ 3 1 < 80 → σ' 3 1 = σ 3 1 + 1) ∧ (¬ σ 3 1 < 80 → σ' 3 1 = σ 3 1))) := by
  refine zCt_of2 [some (.ref (E.1 + 3)), some (.int (zI a1_))] (by decide +kernel) (Nat.le_of_ble_eq_true rfl) rfl ?_
  intro X hE hX hR hL hN
  subst hE
  have hX : zok X cX9_addByte RX9 0 := hX
  have hF := zFA_rf σ
  refine zt_aload_n hX dX9_addByte_0 rfl rfl ?_
  have b1 := zv_4_1 hI zc_3
  refine zt_get (v := .int (zI (σ 3 1))) hX dX9_addByte_1 rfl zf_X9_9 (by decide) zc_3 zs_4 rfl ?_
  refine zt_aload_n hX dX9_addByte_4 rfl rfl ?_
  refine zt_get (v := .ref (X.1.1 + 4)) hX dX9_addByte_5 rfl zf_X9_15 (by decide) zc_3 zs_4 (zrf_of (zv_4_0 hI zc_3)) ?_
  refine zt_alen hX dX9_addByte_8 rfl (by decide) zc_4 zs_5 (by decide) ?_
  rw [show ((80 : Nat) : Int) = 80 from rfl]
  refine zt_icge (tgt := 33) hX dX9_addByte_9 rfl (by decide) ⟨by omega, by omega⟩ ⟨by omega, by omega⟩ (fun c2 => ?_) (fun c2 => ?_)
  · exact zt_vret hX hR dX9_addByte_33 ⟨hI, hF, by omega⟩
  · refine zt_aload_n hX dX9_addByte_12 rfl rfl ?_
    refine zt_get (v := .ref (X.1.1 + 4)) hX dX9_addByte_13 rfl zf_X9_15 (by decide) zc_3 zs_4 (zrf_of (zv_4_0 hI zc_3)) ?_
    refine zt_aload_n hX dX9_addByte_16 rfl rfl ?_
    refine zt_get (v := .int (zI (σ 3 1))) hX dX9_addByte_17 rfl zf_X9_9 (by decide) zc_3 zs_4 rfl ?_
    refine zt_iload_n hX dX9_addByte_20 rfl rfl ?_
    refine zt_i2b hX dX9_addByte_21 rfl (fun r3 er3 lr3 ur3 => ?_)
    refine zt_bast hX dX9_addByte_22 rfl (by decide) zc_4 zs_5 (by decide) ⟨by omega, by omega⟩ ⟨by omega, by omega⟩ ?_
    generalize hs5 : zset σ 4 ((σ 3 1).toNat) r3 = s4
    have hI6 : zInv s4 := hs5 ▸ zp_5 hI zc_4 ((σ 3 1).toNat) ⟨by omega, by omega⟩
    have hF7 : zFA σ s4 := hs5 ▸ zFA_set hF zc_4 (by decide) zk_5 (by decide)
    refine zt_aload_n hX dX9_addByte_23 rfl rfl ?_
    refine zt_dup hX dX9_addByte_24 rfl rfl ?_
    have b8 := zv_4_1 hI6 zc_3
    have e9 : s4 3 1 = σ 3 1 := by rw [← hs5]; exact zset_k (zne_r zc_3 zc_4 (by decide))
    refine zt_get (v := .int (zI (s4 3 1))) hX dX9_addByte_25 rfl zf_X9_9 (by decide) zc_3 zs_4 rfl ?_
    refine zt_iconst hX dX9_addByte_28 rfl ?_
    refine zt_iadd hX dX9_addByte_29 rfl ?_
    refine zt_put (x := ((s4 3 1) + 1)) hX dX9_addByte_30 rfl zf_X9_9 (by decide) zc_3 zs_4 (fun q hq => by cases hq; rfl) rfl rfl rfl ?_
    generalize hs11 : zset s4 3 1 ((s4 3 1) + 1) = s10
    have hI12 : zInv s10 := hs11 ▸ zp_4_1 hI6 zc_3 ⟨by omega, by omega⟩
    have hF13 : zFA σ s10 := hs11 ▸ zFA_set hF7 zc_3 (by decide) zk_4 (by decide)
    have e14 : s10 3 1 = ((s4 3 1) + 1) := by rw [← hs11]; exact zset_s
    exact zt_vret hX hR dX9_addByte_33 ⟨hI12, hF13, by omega⟩

set_option maxRecDepth 100000 in
set_option maxHeartbeats 4000000 in
theorem zc_X9_addNumber_1 (l : Launch) (E : zEN) (σ : zSto) (hI : zInv σ) (a1_ : Int) (ha1_ : -2147483648 ≤ a1_ ∧ a1_ ≤ 2147483647) : zCt l E yX9_addNumber cX9_addNumber 2 none 1 zNC zNC 0 0 σ [.ref (E.1 + 1), .int (zI a1_)] (fun r σ' => zInv σ' ∧ zFB σ σ' ∧ (σ 1 1 ≤ 1596 → σ' 1 1 = σ 1 1 + 4)) := by
  refine zCt_of2 [some (.ref (E.1 + 1)), some (.int (zI a1_))] (by decide +kernel) (Nat.le_of_ble_eq_true rfl) rfl ?_
  intro X hE hX hR hL hN
  subst hE
  have hX : zok X cX9_addNumber RX9 1 := hX
  have hF := zFB_rf σ
  refine zt_aload_n hX dX9_addNumber_0 rfl rfl ?_
  refine zt_iload_n hX dX9_addNumber_1 rfl rfl ?_
  refine zt_bipush hX dX9_addNumber_2 rfl (by decide) (by decide) ?_
  refine zt_ishr hX dX9_addNumber_4 rfl (fun r1 er1 lr1 ur1 => ?_)
  refine zt_cVv hX dX9_addNumber_5 rfl zm_yX9_addByte zw_14_11 zc_1 (by decide) zs_2 (q := (RX9, TX9, 2)) rfl rfl (zc_X9_addByte_1 _ _ σ hI r1 ⟨by omega, by omega⟩) rfl rfl (Nat.le_of_ble_eq_true rfl) (by decide) (fun r2 s3 hr4 hp5 => ?_)
  obtain ⟨hI6, hF7, z8⟩ := hp5
  have hF9 := zFB_tr hF hF7
  refine zt_aload_n hX dX9_addNumber_8 rfl rfl ?_
  refine zt_iload_n hX dX9_addNumber_9 rfl rfl ?_
  refine zt_bipush hX dX9_addNumber_10 rfl (by decide) (by decide) ?_
  refine zt_ishr hX dX9_addNumber_12 rfl (fun r10 er10 lr10 ur10 => ?_)
  refine zt_cVv hX dX9_addNumber_13 rfl zm_yX9_addByte zw_14_11 zc_1 (by decide) zs_2 (q := (RX9, TX9, 2)) rfl rfl (zc_X9_addByte_1 _ _ s3 hI6 r10 ⟨by omega, by omega⟩) rfl rfl (Nat.le_of_ble_eq_true rfl) (by decide) (fun r11 s12 hr13 hp14 => ?_)
  obtain ⟨hI15, hF16, z17⟩ := hp14
  have hF18 := zFB_tr hF9 hF16
  refine zt_aload_n hX dX9_addNumber_16 rfl rfl ?_
  refine zt_iload_n hX dX9_addNumber_17 rfl rfl ?_
  refine zt_bipush hX dX9_addNumber_18 rfl (by decide) (by decide) ?_
  refine zt_ishr hX dX9_addNumber_20 rfl (fun r19 er19 lr19 ur19 => ?_)
  refine zt_cVv hX dX9_addNumber_21 rfl zm_yX9_addByte zw_14_11 zc_1 (by decide) zs_2 (q := (RX9, TX9, 2)) rfl rfl (zc_X9_addByte_1 _ _ s12 hI15 r19 ⟨by omega, by omega⟩) rfl rfl (Nat.le_of_ble_eq_true rfl) (by decide) (fun r20 s21 hr22 hp23 => ?_)
  obtain ⟨hI24, hF25, z26⟩ := hp23
  have hF27 := zFB_tr hF18 hF25
  refine zt_aload_n hX dX9_addNumber_24 rfl rfl ?_
  refine zt_iload_n hX dX9_addNumber_25 rfl rfl ?_
  refine zt_cVv hX dX9_addNumber_26 rfl zm_yX9_addByte zw_14_11 zc_1 (by decide) zs_2 (q := (RX9, TX9, 2)) rfl rfl (zc_X9_addByte_1 _ _ s21 hI24 a1_ ⟨by omega, by omega⟩) rfl rfl (Nat.le_of_ble_eq_true rfl) (by decide) (fun r28 s29 hr30 hp31 => ?_)
  obtain ⟨hI32, hF33, z34⟩ := hp31
  have hF35 := zFB_tr hF27 hF33
  exact zt_vret hX hR dX9_addNumber_29 ⟨hI32, hF35, by omega⟩

set_option maxRecDepth 100000 in
set_option maxHeartbeats 4000000 in
theorem zc_X4_addNumber (l : Launch) (E : zEN) (σ : zSto) (hI : zInv σ) (k0_ : Nat) (hk0_ : zro k0_ = 6) (a1_ : Int) (ha1_ : -2147483648 ≤ a1_ ∧ a1_ ≤ 2147483647) : zCt l E yX4_addNumber cX4_addNumber 2 none 0 zNC zNC 0 0 σ [.ref (E.1 + k0_), .int (zI a1_)] (fun r σ' => zInv σ' ∧ zFA σ σ') := by
  refine zCt_of2 [some (.ref (E.1 + k0_)), some (.int (zI a1_))] (by decide +kernel) (Nat.le_of_ble_eq_true rfl) rfl ?_
  intro X hE hX hR hL hN
  subst hE
  have hX : zok X cX4_addNumber RX4 0 := hX
  have hF := zFA_rf σ
  refine zt_aload_n hX dX4_addNumber_0 rfl rfl ?_
  have b1 := zv_6_1 hI hk0_
  refine zt_get (v := .int (zI (σ k0_ 1))) hX dX4_addNumber_1 rfl zf_X4_15 (zro_lt hk0_ (by decide)) hk0_ zs_6 rfl ?_
  refine zt_aload_n hX dX4_addNumber_4 rfl rfl ?_
  refine zt_get (v := .ref (X.1.1 + (k0_ + 1))) hX dX4_addNumber_5 rfl zf_X4_9 (zro_lt hk0_ (by decide)) hk0_ zs_6 (zrf_of (zv_6_0 hI hk0_)) ?_
  refine zt_alen hX dX4_addNumber_8 rfl (zro_lt (zo_6_0 hk0_) (by decide)) (zo_6_0 hk0_) zs_7 (by decide) ?_
  rw [show ((1600 : Nat) : Int) = 1600 from rfl]
  refine zt_icge (tgt := 32) hX dX4_addNumber_9 rfl (by decide) ⟨by omega, by omega⟩ ⟨by omega, by omega⟩ (fun c2 => ?_) (fun c2 => ?_)
  · exact zt_vret hX hR dX4_addNumber_32 ⟨hI, hF⟩
  · refine zt_aload_n hX dX4_addNumber_12 rfl rfl ?_
    refine zt_get (v := .ref (X.1.1 + (k0_ + 1))) hX dX4_addNumber_13 rfl zf_X4_9 (zro_lt hk0_ (by decide)) hk0_ zs_6 (zrf_of (zv_6_0 hI hk0_)) ?_
    refine zt_aload_n hX dX4_addNumber_16 rfl rfl ?_
    refine zt_get (v := .int (zI (σ k0_ 1))) hX dX4_addNumber_17 rfl zf_X4_15 (zro_lt hk0_ (by decide)) hk0_ zs_6 rfl ?_
    refine zt_iload_n hX dX4_addNumber_20 rfl rfl ?_
    refine zt_iast hX dX4_addNumber_21 rfl (zro_lt (zo_6_0 hk0_) (by decide)) (zo_6_0 hk0_) zs_7 (by decide) ⟨by omega, by omega⟩ ?_
    generalize hs4 : zset σ (k0_ + 1) ((σ k0_ 1).toNat) a1_ = s3
    have hI5 : zInv s3 := hs4 ▸ zp_7 hI (zo_6_0 hk0_) ((σ k0_ 1).toNat) ⟨by omega, by omega⟩
    have hF6 : zFA σ s3 := hs4 ▸ zFA_set hF (zo_6_0 hk0_) (by decide) zk_7 (by decide)
    refine zt_aload_n hX dX4_addNumber_22 rfl rfl ?_
    refine zt_dup hX dX4_addNumber_23 rfl rfl ?_
    have b7 := zv_6_1 hI5 hk0_
    have e8 : s3 k0_ 1 = σ k0_ 1 := by rw [← hs4]; exact zset_k (zne_r hk0_ (zo_6_0 hk0_) (by decide))
    refine zt_get (v := .int (zI (s3 k0_ 1))) hX dX4_addNumber_24 rfl zf_X4_15 (zro_lt hk0_ (by decide)) hk0_ zs_6 rfl ?_
    refine zt_iconst hX dX4_addNumber_27 rfl ?_
    refine zt_iadd hX dX4_addNumber_28 rfl ?_
    refine zt_put (x := ((s3 k0_ 1) + 1)) hX dX4_addNumber_29 rfl zf_X4_15 (zro_lt hk0_ (by decide)) hk0_ zs_6 (fun q hq => by cases hq; rfl) rfl rfl rfl ?_
    generalize hs10 : zset s3 k0_ 1 ((s3 k0_ 1) + 1) = s9
    have hI11 : zInv s9 := hs10 ▸ zp_6_1 hI5 hk0_ ⟨by omega, by omega⟩
    have hF12 : zFA σ s9 := hs10 ▸ zFA_set hF6 hk0_ (by decide) zk_6 (by decide)
    exact zt_vret hX hR dX4_addNumber_32 ⟨hI11, hF12⟩

set_option maxRecDepth 100000 in
set_option maxHeartbeats 4000000 in
theorem zc_X4_addStep (l : Launch) (E : zEN) (σ : zSto) (hI : zInv σ) (k0_ : Nat) (hk0_ : zro k0_ = 6) (a1_ : Int) (ha1_ : -2147483648 ≤ a1_ ∧ a1_ ≤ 2147483647) : zCt l E yX4_addStep cX4_addStep 2 none 1 zNC zNC 0 0 σ [.ref (E.1 + k0_), .int (zI a1_)] (fun r σ' => zInv σ' ∧ zFA σ σ') := by
  refine zCt_of2 [some (.ref (E.1 + k0_)), some (.int (zI a1_))] (by decide +kernel) (Nat.le_of_ble_eq_true rfl) rfl ?_
  intro X hE hX hR hL hN
  subst hE
  have hX : zok X cX4_addStep RX4 1 := hX
  have hF := zFA_rf σ
  refine zt_aload_n hX dX4_addStep_0 rfl rfl ?_
  refine zt_iload_n hX dX4_addStep_1 rfl rfl ?_
  refine zt_iconst hX dX4_addStep_2 rfl ?_
  refine zt_ixor hX dX4_addStep_3 rfl (fun r1 er1 lr1 ur1 => ?_)
  refine zt_cVv hX dX4_addStep_4 rfl zm_yX4_addNumber zw_16_6 hk0_ (by decide) zs_6 (q := (RX4, TX4, 2)) rfl rfl (zc_X4_addNumber _ _ σ hI k0_ hk0_ r1 ⟨by omega, by omega⟩) rfl rfl (Nat.le_of_ble_eq_true rfl) (by decide) (fun r2 s3 hr4 hp5 => ?_)
  obtain ⟨hI6, hF7⟩ := hp5
  have hF8 := zFA_tr hF hF7
  exact zt_vret hX hR dX4_addStep_7 ⟨hI6, hF8⟩

set_option maxRecDepth 100000 in
set_option maxHeartbeats 4000000 in
theorem zc_X4_setStep (l : Launch) (E : zEN) (σ : zSto) (hI : zInv σ) (k0_ : Nat) (hk0_ : zro k0_ = 6) (a1_ : Int) (ha1_ : -2147483648 ≤ a1_ ∧ a1_ ≤ 2147483647) : zCt l E yX4_setStep cX4_setStep 2 none 2 zNC zNC 0 0 σ [.ref (E.1 + k0_), .int (zI a1_)] (fun r σ' => zInv σ' ∧ zFA σ σ') := by
  refine zCt_of2 [some (.ref (E.1 + k0_)), some (.int (zI a1_))] (by decide +kernel) (Nat.le_of_ble_eq_true rfl) rfl ?_
  intro X hE hX hR hL hN
  subst hE
  have hX : zok X cX4_setStep RX4 2 := hX
  have hF := zFA_rf σ
  refine zt_aload_n hX dX4_setStep_0 rfl rfl ?_
  refine zt_iconst hX dX4_setStep_1 rfl ?_
  refine zt_put (x := 0) hX dX4_setStep_2 rfl zf_X4_15 (zro_lt hk0_ (by decide)) hk0_ zs_6 (fun q hq => by cases hq; rfl) rfl rfl rfl ?_
  generalize hs2 : zset σ k0_ 1 0 = s1
  have hI3 : zInv s1 := hs2 ▸ zp_6_1 hI hk0_ ⟨by omega, by omega⟩
  have hF4 : zFA σ s1 := hs2 ▸ zFA_set hF hk0_ (by decide) zk_6 (by decide)
  refine zt_aload_n hX dX4_setStep_5 rfl rfl ?_
  refine zt_iload_n hX dX4_setStep_6 rfl rfl ?_
  refine zt_cVv hX dX4_setStep_7 rfl zm_yX4_addStep zw_16_2 hk0_ (by decide) zs_6 (q := (RX4, TX4, 2)) rfl rfl (zc_X4_addStep _ _ s1 hI3 k0_ hk0_ a1_ ⟨by omega, by omega⟩) rfl rfl (Nat.le_of_ble_eq_true rfl) (by decide) (fun r5 s6 hr7 hp8 => ?_)
  obtain ⟨hI9, hF10⟩ := hp8
  have hF11 := zFA_tr hF4 hF10
  exact zt_vret hX hR dX4_setStep_10 ⟨hI9, hF11⟩

set_option maxRecDepth 100000 in
set_option maxHeartbeats 4000000 in
theorem zc_X4_hasStep (l : Launch) (E : zEN) (σ : zSto) (hI : zInv σ) (k0_ : Nat) (hk0_ : zro k0_ = 6) (a1_ : Int) (ha1_ : -2147483648 ≤ a1_ ∧ a1_ ≤ 2147483647) : zCt l E yX4_hasStep cX4_hasStep 3 (some .boolean) 0 zNC zNC 0 0 σ [.ref (E.1 + k0_), .int (zI a1_)] (fun r σ' => σ = σ' ∧ 0 ≤ r ∧ r ≤ 1) := by
  refine zCt_of2 [some (.ref (E.1 + k0_)), some (.int (zI a1_)), none] (by decide +kernel) (Nat.le_of_ble_eq_true rfl) rfl ?_
  intro X hE hX hR hL hN
  subst hE
  have hX : zok X cX4_hasStep RX4 0 := hX
  refine zt_iconst hX dX4_hasStep_0 rfl ?_
  refine zt_istore_n (lv' := [some (.ref (X.1.1 + k0_)), some (.int (zI a1_)), some (.int (zI 0))]) hX dX4_hasStep_1 rfl hL (by decide) rfl ?_
  have L_2_3 : ∀ (N : Nat) (x1 : Int), 0 ≤ x1 → x1 ≤ 1600 → ((1601 - x1).toNat) < N → zF X σ 2 [some (.ref (X.1.1 + k0_)), some (.int (zI a1_)), some (.int (zI x1))] [] := by
    intro N
    induction N with
    | zero =>
      intro x1 h2 h3 hm5
      exact absurd hm5 (Nat.not_lt_zero _)
    | succ N ih6 =>
      intro x1 h2 h3 hm5
      refine zt_iload_n hX dX4_hasStep_2 rfl rfl ?_
      refine zt_aload_n hX dX4_hasStep_3 rfl rfl ?_
      have b7 := zv_6_1 hI hk0_
      refine zt_get (v := .int (zI (σ k0_ 1))) hX dX4_hasStep_4 rfl zf_X4_15 (zro_lt hk0_ (by decide)) hk0_ zs_6 rfl ?_
      refine zt_icge (tgt := 30) hX dX4_hasStep_7 rfl (by decide) ⟨by omega, by omega⟩ ⟨by omega, by omega⟩ (fun c8 => ?_) (fun c8 => ?_)
      · refine zt_iconst hX dX4_hasStep_30 rfl ?_
        exact zt_zret hX hR dX4_hasStep_31 ⟨by omega, by omega⟩ ⟨rfl, by omega, by omega⟩
      · refine zt_aload_n hX dX4_hasStep_10 rfl rfl ?_
        refine zt_get (v := .ref (X.1.1 + (k0_ + 1))) hX dX4_hasStep_11 rfl zf_X4_9 (zro_lt hk0_ (by decide)) hk0_ zs_6 (zrf_of (zv_6_0 hI hk0_)) ?_
        refine zt_iload_n hX dX4_hasStep_14 rfl rfl ?_
        refine zt_iald hX dX4_hasStep_15 rfl (zro_lt (zo_6_0 hk0_) (by decide)) (zo_6_0 hk0_) zs_7 (by decide) ⟨by omega, by omega⟩ ?_
        generalize hv9 : σ (k0_ + 1) (x1.toNat) = v9
        have bv9 : -2147483648 ≤ v9 ∧ v9 ≤ 2147483647 := hv9 ▸ zv_7 hI (zo_6_0 hk0_) _
        refine zt_iload_n hX dX4_hasStep_16 rfl rfl ?_
        refine zt_iconst hX dX4_hasStep_17 rfl ?_
        refine zt_ixor hX dX4_hasStep_18 rfl (fun r10 er10 lr10 ur10 => ?_)
        refine zt_icne (tgt := 24) hX dX4_hasStep_19 rfl (by decide) ⟨by omega, by omega⟩ ⟨by omega, by omega⟩ (fun c11 => ?_) (fun c11 => ?_)
        · refine zt_iinc (lv' := [some (.ref (X.1.1 + k0_)), some (.int (zI a1_)), some (.int (zI (x1 + 1)))]) hX dX4_hasStep_24 rfl rfl hL (by decide) rfl ?_
          refine zt_goto (tgt := 2) hX dX4_hasStep_27 (by decide) ?_
          exact ih6 (x1 + 1) (by omega) (by omega) (by omega)
        · refine zt_iconst hX dX4_hasStep_22 rfl ?_
          exact zt_zret hX hR dX4_hasStep_23 ⟨by omega, by omega⟩ ⟨rfl, by omega, by omega⟩
  exact L_2_3 _ 0 (by omega) (by omega) (Nat.lt_succ_self _)

set_option maxRecDepth 100000 in
set_option maxHeartbeats 4000000 in
theorem zc_X3_isTold (l : Launch) (E : zEN) (σ : zSto) (hI : zInv σ) (k0_ : Nat) (hk0_ : zro k0_ = 8) : zCt l E yX3_isTold cX3_isTold 1 (some .boolean) 0 zNC zNC 0 0 σ [.ref (E.1 + k0_)] (fun r σ' => σ = σ' ∧ 0 ≤ r ∧ r ≤ 1) := by
  refine zCt_of2 [some (.ref (E.1 + k0_))] (by decide +kernel) (Nat.le_of_ble_eq_true rfl) rfl ?_
  intro X hE hX hR hL hN
  subst hE
  have hX : zok X cX3_isTold RX3 0 := hX
  refine zt_aload_n hX dX3_isTold_0 rfl rfl ?_
  have b1 := zv_8_10 hI hk0_
  refine zt_get (v := .int (zI (σ k0_ 10))) hX dX3_isTold_1 rfl zf_X3_47 (zro_lt hk0_ (by decide)) hk0_ zs_8 rfl ?_
  refine zt_ifle (tgt := 11) hX dX3_isTold_4 rfl (by decide) ⟨by omega, by omega⟩ (fun c2 => ?_) (fun c2 => ?_)
  · refine zt_iconst hX dX3_isTold_11 rfl ?_
    exact zt_zret hX hR dX3_isTold_12 ⟨by omega, by omega⟩ ⟨rfl, by omega, by omega⟩
  · refine zt_iconst hX dX3_isTold_7 rfl ?_
    refine zt_goto (tgt := 12) hX dX3_isTold_8 (by decide) ?_
    exact zt_zret hX hR dX3_isTold_12 ⟨by omega, by omega⟩ ⟨rfl, by omega, by omega⟩

set_option maxRecDepth 100000 in
set_option maxHeartbeats 4000000 in
theorem zc_X3_cells (l : Launch) (E : zEN) (σ : zSto) (hI : zInv σ) (k0_ : Nat) (hk0_ : zro k0_ = 8) : zCt l E yX3_cells cX3_cells 1 (some .int) 0 zNC zNC 0 0 σ [.ref (E.1 + k0_)] (fun r σ' => σ = σ' ∧ 0 ≤ r ∧ r ≤ 36) := by
  refine zCt_of2 [some (.ref (E.1 + k0_))] (by decide +kernel) (Nat.le_of_ble_eq_true rfl) rfl ?_
  intro X hE hX hR hL hN
  subst hE
  have hX : zok X cX3_cells RX3 0 := hX
  refine zt_aload_n hX dX3_cells_0 rfl rfl ?_
  have b1 := zv_8_10 hI hk0_
  refine zt_get (v := .int (zI (σ k0_ 10))) hX dX3_cells_1 rfl zf_X3_47 (zro_lt hk0_ (by decide)) hk0_ zs_8 rfl ?_
  refine zt_aload_n hX dX3_cells_4 rfl rfl ?_
  have b2 := zv_8_11 hI hk0_
  refine zt_get (v := .int (zI (σ k0_ 11))) hX dX3_cells_5 rfl zf_X3_51 (zro_lt hk0_ (by decide)) hk0_ zs_8 rfl ?_
  refine zt_imul hX dX3_cells_8 rfl ?_
  generalize hp3 : (σ k0_ 10) * (σ k0_ 11) = p3
  have bp3 : 0 ≤ p3 ∧ p3 ≤ 36 := hp3 ▸ zmul_b (a := 6) (b := 6) (by omega) (by omega) (by omega) (by omega)
  exact zt_iret hX hR dX3_cells_9 ⟨by omega, by omega⟩ ⟨rfl, by omega, by omega⟩

set_option maxRecDepth 100000 in
set_option maxHeartbeats 4000000 in
theorem zc_X3_cellAt (l : Launch) (E : zEN) (σ : zSto) (hI : zInv σ) (k0_ : Nat) (hk0_ : zro k0_ = 8) (a1_ : Int) (ha1_ : -1 ≤ a1_ ∧ a1_ ≤ 255) (a2_ : Int) (ha2_ : -1 ≤ a2_ ∧ a2_ ≤ 255) : zCt l E yX3_cellAt cX3_cellAt 3 (some .int) 0 zNC zNC 0 0 σ [.ref (E.1 + k0_), .int (zI a1_), .int (zI a2_)] (fun r σ' => σ = σ' ∧ -7 ≤ r ∧ r ≤ 1785 ∧ (0 ≤ a1_ ∧ a1_ ≤ 5 ∧ 0 ≤ a2_ ∧ a2_ ≤ 5 → 0 ≤ r ∧ r ≤ 35)) := by
  refine zCt_of2 [some (.ref (E.1 + k0_)), some (.int (zI a1_)), some (.int (zI a2_))] (by decide +kernel) (Nat.le_of_ble_eq_true rfl) rfl ?_
  intro X hE hX hR hL hN
  subst hE
  have hX : zok X cX3_cellAt RX3 0 := hX
  refine zt_iload_n hX dX3_cellAt_0 rfl rfl ?_
  refine zt_aload_n hX dX3_cellAt_1 rfl rfl ?_
  have b1 := zv_8_10 hI hk0_
  refine zt_get (v := .int (zI (σ k0_ 10))) hX dX3_cellAt_2 rfl zf_X3_47 (zro_lt hk0_ (by decide)) hk0_ zs_8 rfl ?_
  refine zt_imul hX dX3_cellAt_5 rfl ?_
  generalize hp2 : a2_ * (σ k0_ 10) = p2
  have cp2 : 0 ≤ a2_ ∧ a2_ ≤ 5 → 0 ≤ p2 ∧ p2 ≤ 30 := fun h => hp2 ▸ zmul_b (a := 5) (b := 6) h.1 h.2 (by omega) (by omega)
  have bp2 : -6 ≤ p2 ∧ p2 ≤ 1530 := hp2 ▸ zmul_s (lo := -1) (hi := 255) (b := 6) (by omega) (by omega) (by omega) (by omega) (by decide) (by decide)
  refine zt_iload_n hX dX3_cellAt_6 rfl rfl ?_
  refine zt_iadd hX dX3_cellAt_7 rfl ?_
  exact zt_iret hX hR dX3_cellAt_8 ⟨by omega, by omega⟩ ⟨rfl, by omega, by omega, by omega⟩

set_option maxRecDepth 100000 in
set_option maxHeartbeats 4000000 in
theorem zc_X3_hasCell (l : Launch) (E : zEN) (σ : zSto) (hI : zInv σ) (k0_ : Nat) (hk0_ : zro k0_ = 8) (a1_ : Int) (ha1_ : -2147483648 ≤ a1_ ∧ a1_ ≤ 2147483647) (a2_ : Int) (ha2_ : -2147483648 ≤ a2_ ∧ a2_ ≤ 2147483647) : zCt l E yX3_hasCell cX3_hasCell 3 (some .boolean) 0 zNC zNC 0 0 σ [.ref (E.1 + k0_), .int (zI a1_), .int (zI a2_)] (fun r σ' => σ = σ' ∧ 0 ≤ r ∧ r ≤ 1 ∧ (r = 1 → 0 ≤ a1_ ∧ a1_ < σ k0_ 10 ∧ 0 ≤ a2_ ∧ a2_ < σ k0_ 11 ∧ a1_ ≤ 5 ∧ a2_ ≤ 5)) := by
  refine zCt_of2 [some (.ref (E.1 + k0_)), some (.int (zI a1_)), some (.int (zI a2_))] (by decide +kernel) (Nat.le_of_ble_eq_true rfl) rfl ?_
  intro X hE hX hR hL hN
  subst hE
  have hX : zok X cX3_hasCell RX3 0 := hX
  refine zt_iload_n hX dX3_hasCell_0 rfl rfl ?_
  refine zt_iflt (tgt := 28) hX dX3_hasCell_1 rfl (by decide) ⟨by omega, by omega⟩ (fun c1 => ?_) (fun c1 => ?_)
  · refine zt_iconst hX dX3_hasCell_28 rfl ?_
    exact zt_zret hX hR dX3_hasCell_29 ⟨by omega, by omega⟩ ⟨rfl, by omega, by omega, by omega⟩
  · refine zt_iload_n hX dX3_hasCell_4 rfl rfl ?_
    refine zt_aload_n hX dX3_hasCell_5 rfl rfl ?_
    have b2 := zv_8_10 hI hk0_
    refine zt_get (v := .int (zI (σ k0_ 10))) hX dX3_hasCell_6 rfl zf_X3_47 (zro_lt hk0_ (by decide)) hk0_ zs_8 rfl ?_
    refine zt_icge (tgt := 28) hX dX3_hasCell_9 rfl (by decide) ⟨by omega, by omega⟩ ⟨by omega, by omega⟩ (fun c3 => ?_) (fun c3 => ?_)
    · refine zt_iconst hX dX3_hasCell_28 rfl ?_
      exact zt_zret hX hR dX3_hasCell_29 ⟨by omega, by omega⟩ ⟨rfl, by omega, by omega, by omega⟩
    · refine zt_iload_n hX dX3_hasCell_12 rfl rfl ?_
      refine zt_iflt (tgt := 28) hX dX3_hasCell_13 rfl (by decide) ⟨by omega, by omega⟩ (fun c4 => ?_) (fun c4 => ?_)
      · refine zt_iconst hX dX3_hasCell_28 rfl ?_
        exact zt_zret hX hR dX3_hasCell_29 ⟨by omega, by omega⟩ ⟨rfl, by omega, by omega, by omega⟩
      · refine zt_iload_n hX dX3_hasCell_16 rfl rfl ?_
        refine zt_aload_n hX dX3_hasCell_17 rfl rfl ?_
        have b5 := zv_8_11 hI hk0_
        refine zt_get (v := .int (zI (σ k0_ 11))) hX dX3_hasCell_18 rfl zf_X3_51 (zro_lt hk0_ (by decide)) hk0_ zs_8 rfl ?_
        refine zt_icge (tgt := 28) hX dX3_hasCell_21 rfl (by decide) ⟨by omega, by omega⟩ ⟨by omega, by omega⟩ (fun c6 => ?_) (fun c6 => ?_)
        · refine zt_iconst hX dX3_hasCell_28 rfl ?_
          exact zt_zret hX hR dX3_hasCell_29 ⟨by omega, by omega⟩ ⟨rfl, by omega, by omega, by omega⟩
        · refine zt_iconst hX dX3_hasCell_24 rfl ?_
          refine zt_goto (tgt := 29) hX dX3_hasCell_25 (by decide) ?_
          exact zt_zret hX hR dX3_hasCell_29 ⟨by omega, by omega⟩ ⟨rfl, by omega, by omega, by omega⟩

set_option maxRecDepth 100000 in
set_option maxHeartbeats 4000000 in
theorem zc_X3_hasPerson (l : Launch) (E : zEN) (σ : zSto) (hI : zInv σ) (k0_ : Nat) (hk0_ : zro k0_ = 8) (a1_ : Int) (ha1_ : -2147483648 ≤ a1_ ∧ a1_ ≤ 2147483647) : zCt l E yX3_hasPerson cX3_hasPerson 2 (some .boolean) 0 zNC zNC 0 0 σ [.ref (E.1 + k0_), .int (zI a1_)] (fun r σ' => σ = σ' ∧ 0 ≤ r ∧ r ≤ 1 ∧ (r = 1 → 0 ≤ a1_ ∧ a1_ < σ k0_ 12 ∧ a1_ ≤ 9)) := by
  refine zCt_of2 [some (.ref (E.1 + k0_)), some (.int (zI a1_))] (by decide +kernel) (Nat.le_of_ble_eq_true rfl) rfl ?_
  intro X hE hX hR hL hN
  subst hE
  have hX : zok X cX3_hasPerson RX3 0 := hX
  refine zt_iload_n hX dX3_hasPerson_0 rfl rfl ?_
  refine zt_iflt (tgt := 16) hX dX3_hasPerson_1 rfl (by decide) ⟨by omega, by omega⟩ (fun c1 => ?_) (fun c1 => ?_)
  · refine zt_iconst hX dX3_hasPerson_16 rfl ?_
    exact zt_zret hX hR dX3_hasPerson_17 ⟨by omega, by omega⟩ ⟨rfl, by omega, by omega, by omega⟩
  · refine zt_iload_n hX dX3_hasPerson_4 rfl rfl ?_
    refine zt_aload_n hX dX3_hasPerson_5 rfl rfl ?_
    have b2 := zv_8_12 hI hk0_
    refine zt_get (v := .int (zI (σ k0_ 12))) hX dX3_hasPerson_6 rfl zf_X3_54 (zro_lt hk0_ (by decide)) hk0_ zs_8 rfl ?_
    refine zt_icge (tgt := 16) hX dX3_hasPerson_9 rfl (by decide) ⟨by omega, by omega⟩ ⟨by omega, by omega⟩ (fun c3 => ?_) (fun c3 => ?_)
    · refine zt_iconst hX dX3_hasPerson_16 rfl ?_
      exact zt_zret hX hR dX3_hasPerson_17 ⟨by omega, by omega⟩ ⟨rfl, by omega, by omega, by omega⟩
    · refine zt_iconst hX dX3_hasPerson_12 rfl ?_
      refine zt_goto (tgt := 17) hX dX3_hasPerson_13 (by decide) ?_
      exact zt_zret hX hR dX3_hasPerson_17 ⟨by omega, by omega⟩ ⟨rfl, by omega, by omega, by omega⟩

set_option maxRecDepth 100000 in
set_option maxHeartbeats 4000000 in
theorem zc_X3_isNamed (l : Launch) (E : zEN) (σ : zSto) (hI : zInv σ) (k0_ : Nat) (hk0_ : zro k0_ = 8) (a1_ : Int) (ha1_ : -2147483648 ≤ a1_ ∧ a1_ ≤ 2147483647) : zCt l E yX3_isNamed cX3_isNamed 3 (some .boolean) 0 zNC zNC 0 0 σ [.ref (E.1 + k0_), .int (zI a1_)] (fun r σ' => σ = σ' ∧ 0 ≤ r ∧ r ≤ 1) := by
  refine zCt_of2 [some (.ref (E.1 + k0_)), some (.int (zI a1_)), none] (by decide +kernel) (Nat.le_of_ble_eq_true rfl) rfl ?_
  intro X hE hX hR hL hN
  subst hE
  have hX : zok X cX3_isNamed RX3 0 := hX
  refine zt_iconst hX dX3_isNamed_0 rfl ?_
  refine zt_istore_n (lv' := [some (.ref (X.1.1 + k0_)), some (.int (zI a1_)), some (.int (zI 0))]) hX dX3_isNamed_1 rfl hL (by decide) rfl ?_
  have L_2_3 : ∀ (N : Nat) (x1 : Int), 0 ≤ x1 → x1 ≤ 10 → ((11 - x1).toNat) < N → zF X σ 2 [some (.ref (X.1.1 + k0_)), some (.int (zI a1_)), some (.int (zI x1))] [] := by
    intro N
    induction N with
    | zero =>
      intro x1 h2 h3 hm5
      exact absurd hm5 (Nat.not_lt_zero _)
    | succ N ih6 =>
      intro x1 h2 h3 hm5
      refine zt_iload_n hX dX3_isNamed_2 rfl rfl ?_
      refine zt_aload_n hX dX3_isNamed_3 rfl rfl ?_
      have b7 := zv_8_12 hI hk0_
      refine zt_get (v := .int (zI (σ k0_ 12))) hX dX3_isNamed_4 rfl zf_X3_54 (zro_lt hk0_ (by decide)) hk0_ zs_8 rfl ?_
      refine zt_icge (tgt := 28) hX dX3_isNamed_7 rfl (by decide) ⟨by omega, by omega⟩ ⟨by omega, by omega⟩ (fun c8 => ?_) (fun c8 => ?_)
      · refine zt_iconst hX dX3_isNamed_28 rfl ?_
        exact zt_zret hX hR dX3_isNamed_29 ⟨by omega, by omega⟩ ⟨rfl, by omega, by omega⟩
      · refine zt_aload_n hX dX3_isNamed_10 rfl rfl ?_
        refine zt_get (v := .ref (X.1.1 + (k0_ + 2))) hX dX3_isNamed_11 rfl zf_X3_15 (zro_lt hk0_ (by decide)) hk0_ zs_8 (zrf_of (zv_8_1 hI hk0_)) ?_
        refine zt_iload_n hX dX3_isNamed_14 rfl rfl ?_
        refine zt_iald hX dX3_isNamed_15 rfl (zro_lt (zo_8_1 hk0_) (by decide)) (zo_8_1 hk0_) zs_10 (by decide) ⟨by omega, by omega⟩ ?_
        generalize hv9 : σ (k0_ + 2) (x1.toNat) = v9
        have bv9 : -2147483648 ≤ v9 ∧ v9 ≤ 2147483647 := hv9 ▸ zv_10 hI (zo_8_1 hk0_) _
        refine zt_iload_n hX dX3_isNamed_16 rfl rfl ?_
        refine zt_icne (tgt := 22) hX dX3_isNamed_17 rfl (by decide) ⟨by omega, by omega⟩ ⟨by omega, by omega⟩ (fun c10 => ?_) (fun c10 => ?_)
        · refine zt_iinc (lv' := [some (.ref (X.1.1 + k0_)), some (.int (zI a1_)), some (.int (zI (x1 + 1)))]) hX dX3_isNamed_22 rfl rfl hL (by decide) rfl ?_
          refine zt_goto (tgt := 2) hX dX3_isNamed_25 (by decide) ?_
          exact ih6 (x1 + 1) (by omega) (by omega) (by omega)
        · refine zt_iconst hX dX3_isNamed_20 rfl ?_
          exact zt_zret hX hR dX3_isNamed_21 ⟨by omega, by omega⟩ ⟨rfl, by omega, by omega⟩
  exact L_2_3 _ 0 (by omega) (by omega) (Nat.lt_succ_self _)

set_option maxRecDepth 100000 in
set_option maxHeartbeats 4000000 in
theorem zc_X3_isHome (l : Launch) (E : zEN) (σ : zSto) (hI : zInv σ) (k0_ : Nat) (hk0_ : zro k0_ = 8) (a1_ : Int) (ha1_ : -2147483648 ≤ a1_ ∧ a1_ ≤ 2147483647) (a2_ : Int) (ha2_ : -2147483648 ≤ a2_ ∧ a2_ ≤ 2147483647) : zCt l E yX3_isHome cX3_isHome 4 (some .boolean) 0 zNC zNC 0 0 σ [.ref (E.1 + k0_), .int (zI a1_), .int (zI a2_)] (fun r σ' => σ = σ' ∧ 0 ≤ r ∧ r ≤ 1) := by
  refine zCt_of2 [some (.ref (E.1 + k0_)), some (.int (zI a1_)), some (.int (zI a2_)), none] (by decide +kernel) (Nat.le_of_ble_eq_true rfl) rfl ?_
  intro X hE hX hR hL hN
  subst hE
  have hX : zok X cX3_isHome RX3 0 := hX
  refine zt_iconst hX dX3_isHome_0 rfl ?_
  refine zt_istore_n (lv' := [some (.ref (X.1.1 + k0_)), some (.int (zI a1_)), some (.int (zI a2_)), some (.int (zI 0))]) hX dX3_isHome_1 rfl hL (by decide) rfl ?_
  have L_2_3 : ∀ (N : Nat) (x1 : Int), 0 ≤ x1 → x1 ≤ 10 → ((11 - x1).toNat) < N → zF X σ 2 [some (.ref (X.1.1 + k0_)), some (.int (zI a1_)), some (.int (zI a2_)), some (.int (zI x1))] [] := by
    intro N
    induction N with
    | zero =>
      intro x1 h2 h3 hm5
      exact absurd hm5 (Nat.not_lt_zero _)
    | succ N ih6 =>
      intro x1 h2 h3 hm5
      refine zt_iload_n hX dX3_isHome_2 rfl rfl ?_
      refine zt_aload_n hX dX3_isHome_3 rfl rfl ?_
      have b7 := zv_8_12 hI hk0_
      refine zt_get (v := .int (zI (σ k0_ 12))) hX dX3_isHome_4 rfl zf_X3_54 (zro_lt hk0_ (by decide)) hk0_ zs_8 rfl ?_
      refine zt_icge (tgt := 38) hX dX3_isHome_7 rfl (by decide) ⟨by omega, by omega⟩ ⟨by omega, by omega⟩ (fun c8 => ?_) (fun c8 => ?_)
      · refine zt_iconst hX dX3_isHome_38 rfl ?_
        exact zt_zret hX hR dX3_isHome_39 ⟨by omega, by omega⟩ ⟨rfl, by omega, by omega⟩
      · refine zt_aload_n hX dX3_isHome_10 rfl rfl ?_
        refine zt_get (v := .ref (X.1.1 + (k0_ + 3))) hX dX3_isHome_11 rfl zf_X3_18 (zro_lt hk0_ (by decide)) hk0_ zs_8 (zrf_of (zv_8_2 hI hk0_)) ?_
        refine zt_iload_n hX dX3_isHome_14 rfl rfl ?_
        refine zt_iald hX dX3_isHome_15 rfl (zro_lt (zo_8_2 hk0_) (by decide)) (zo_8_2 hk0_) zs_11 (by decide) ⟨by omega, by omega⟩ ?_
        generalize hv9 : σ (k0_ + 3) (x1.toNat) = v9
        have bv9 : 0 ≤ v9 ∧ v9 ≤ 5 := hv9 ▸ zv_11 hI (zo_8_2 hk0_) _
        refine zt_iload_n hX dX3_isHome_16 rfl rfl ?_
        have J_32_9 : zF X σ 32 [some (.ref (X.1.1 + k0_)), some (.int (zI a1_)), some (.int (zI a2_)), some (.int (zI x1))] [] := by
          refine zt_iinc (lv' := [some (.ref (X.1.1 + k0_)), some (.int (zI a1_)), some (.int (zI a2_)), some (.int (zI (x1 + 1)))]) hX dX3_isHome_32 rfl rfl hL (by decide) rfl ?_
          refine zt_goto (tgt := 2) hX dX3_isHome_35 (by decide) ?_
          exact ih6 (x1 + 1) (by omega) (by omega) (by omega)
        refine zt_icne (tgt := 32) hX dX3_isHome_17 rfl (by decide) ⟨by omega, by omega⟩ ⟨by omega, by omega⟩ (fun c11 => ?_) (fun c11 => ?_)
        · exact J_32_9
        · refine zt_aload_n hX dX3_isHome_20 rfl rfl ?_
          refine zt_get (v := .ref (X.1.1 + (k0_ + 4))) hX dX3_isHome_21 rfl zf_X3_21 (zro_lt hk0_ (by decide)) hk0_ zs_8 (zrf_of (zv_8_3 hI hk0_)) ?_
          refine zt_iload_n hX dX3_isHome_24 rfl rfl ?_
          refine zt_iald hX dX3_isHome_25 rfl (zro_lt (zo_8_3 hk0_) (by decide)) (zo_8_3 hk0_) zs_12 (by decide) ⟨by omega, by omega⟩ ?_
          generalize hv12 : σ (k0_ + 4) (x1.toNat) = v12
          have bv12 : 0 ≤ v12 ∧ v12 ≤ 5 := hv12 ▸ zv_12 hI (zo_8_3 hk0_) _
          refine zt_iload_n hX dX3_isHome_26 rfl rfl ?_
          refine zt_icne (tgt := 32) hX dX3_isHome_27 rfl (by decide) ⟨by omega, by omega⟩ ⟨by omega, by omega⟩ (fun c13 => ?_) (fun c13 => ?_)
          · exact J_32_9
          · refine zt_iconst hX dX3_isHome_30 rfl ?_
            exact zt_zret hX hR dX3_isHome_31 ⟨by omega, by omega⟩ ⟨rfl, by omega, by omega⟩
  exact L_2_3 _ 0 (by omega) (by omega) (Nat.lt_succ_self _)

set_option maxRecDepth 100000 in
set_option maxHeartbeats 4000000 in
theorem zc_X3_addPerson (l : Launch) (E : zEN) (σ : zSto) (hI : zInv σ) (k0_ : Nat) (hk0_ : zro k0_ = 8) (a1_ : Int) (ha1_ : -2147483648 ≤ a1_ ∧ a1_ ≤ 2147483647) (a2_ : Int) (ha2_ : 0 ≤ a2_ ∧ a2_ ≤ 5) (a3_ : Int) (ha3_ : 0 ≤ a3_ ∧ a3_ ≤ 5) (a4_ : Int) (ha4_ : 0 ≤ a4_ ∧ a4_ ≤ 99) : zCt l E yX3_addPerson cX3_addPerson 5 none 0 zNC zNC 0 0 σ [.ref (E.1 + k0_), .int (zI a1_), .int (zI a2_), .int (zI a3_), .int (zI a4_)] (fun r σ' => zInv σ' ∧ zFA σ σ') := by
  refine zCt_of2 [some (.ref (E.1 + k0_)), some (.int (zI a1_)), some (.int (zI a2_)), some (.int (zI a3_)), some (.int (zI a4_))] (by decide +kernel) (Nat.le_of_ble_eq_true rfl) rfl ?_
  intro X hE hX hR hL hN
  subst hE
  have hX : zok X cX3_addPerson RX3 0 := hX
  have hF := zFA_rf σ
  refine zt_aload_n hX dX3_addPerson_0 rfl rfl ?_
  have b1 := zv_8_12 hI hk0_
  refine zt_get (v := .int (zI (σ k0_ 12))) hX dX3_addPerson_1 rfl zf_X3_54 (zro_lt hk0_ (by decide)) hk0_ zs_8 rfl ?_
  refine zt_bipush hX dX3_addPerson_4 rfl (by decide) (by decide) ?_
  refine zt_icge (tgt := 60) hX dX3_addPerson_6 rfl (by decide) ⟨by omega, by omega⟩ ⟨by omega, by omega⟩ (fun c2 => ?_) (fun c2 => ?_)
  · exact zt_vret hX hR dX3_addPerson_60 ⟨hI, hF⟩
  · refine zt_aload_n hX dX3_addPerson_9 rfl rfl ?_
    refine zt_get (v := .ref (X.1.1 + (k0_ + 2))) hX dX3_addPerson_10 rfl zf_X3_15 (zro_lt hk0_ (by decide)) hk0_ zs_8 (zrf_of (zv_8_1 hI hk0_)) ?_
    refine zt_aload_n hX dX3_addPerson_13 rfl rfl ?_
    refine zt_get (v := .int (zI (σ k0_ 12))) hX dX3_addPerson_14 rfl zf_X3_54 (zro_lt hk0_ (by decide)) hk0_ zs_8 rfl ?_
    refine zt_iload_n hX dX3_addPerson_17 rfl rfl ?_
    refine zt_iast hX dX3_addPerson_18 rfl (zro_lt (zo_8_1 hk0_) (by decide)) (zo_8_1 hk0_) zs_10 (by decide) ⟨by omega, by omega⟩ ?_
    generalize hs4 : zset σ (k0_ + 2) ((σ k0_ 12).toNat) a1_ = s3
    have hI5 : zInv s3 := hs4 ▸ zp_10 hI (zo_8_1 hk0_) ((σ k0_ 12).toNat) ⟨by omega, by omega⟩
    have hF6 : zFA σ s3 := hs4 ▸ zFA_set hF (zo_8_1 hk0_) (by decide) zk_10 (by decide)
    refine zt_aload_n hX dX3_addPerson_19 rfl rfl ?_
    refine zt_get (v := .ref (X.1.1 + (k0_ + 3))) hX dX3_addPerson_20 rfl zf_X3_18 (zro_lt hk0_ (by decide)) hk0_ zs_8 (zrf_of (zv_8_2 hI5 hk0_)) ?_
    refine zt_aload_n hX dX3_addPerson_23 rfl rfl ?_
    have b7 := zv_8_12 hI5 hk0_
    have e8 : s3 k0_ 12 = σ k0_ 12 := by rw [← hs4]; exact zset_k (zne_r hk0_ (zo_8_1 hk0_) (by decide))
    refine zt_get (v := .int (zI (s3 k0_ 12))) hX dX3_addPerson_24 rfl zf_X3_54 (zro_lt hk0_ (by decide)) hk0_ zs_8 rfl ?_
    refine zt_iload_n hX dX3_addPerson_27 rfl rfl ?_
    refine zt_iast hX dX3_addPerson_28 rfl (zro_lt (zo_8_2 hk0_) (by decide)) (zo_8_2 hk0_) zs_11 (by decide) ⟨by omega, by omega⟩ ?_
    generalize hs10 : zset s3 (k0_ + 3) ((s3 k0_ 12).toNat) a2_ = s9
    have hI11 : zInv s9 := hs10 ▸ zp_11 hI5 (zo_8_2 hk0_) ((s3 k0_ 12).toNat) ⟨by omega, by omega⟩
    have hF12 : zFA σ s9 := hs10 ▸ zFA_set hF6 (zo_8_2 hk0_) (by decide) zk_11 (by decide)
    refine zt_aload_n hX dX3_addPerson_29 rfl rfl ?_
    refine zt_get (v := .ref (X.1.1 + (k0_ + 4))) hX dX3_addPerson_30 rfl zf_X3_21 (zro_lt hk0_ (by decide)) hk0_ zs_8 (zrf_of (zv_8_3 hI11 hk0_)) ?_
    refine zt_aload_n hX dX3_addPerson_33 rfl rfl ?_
    have b13 := zv_8_12 hI11 hk0_
    have e14 : s9 k0_ 12 = s3 k0_ 12 := by rw [← hs10]; exact zset_k (zne_r hk0_ (zo_8_2 hk0_) (by decide))
    refine zt_get (v := .int (zI (s9 k0_ 12))) hX dX3_addPerson_34 rfl zf_X3_54 (zro_lt hk0_ (by decide)) hk0_ zs_8 rfl ?_
    refine zt_iload_n hX dX3_addPerson_37 rfl rfl ?_
    refine zt_iast hX dX3_addPerson_38 rfl (zro_lt (zo_8_3 hk0_) (by decide)) (zo_8_3 hk0_) zs_12 (by decide) ⟨by omega, by omega⟩ ?_
    generalize hs16 : zset s9 (k0_ + 4) ((s9 k0_ 12).toNat) a3_ = s15
    have hI17 : zInv s15 := hs16 ▸ zp_12 hI11 (zo_8_3 hk0_) ((s9 k0_ 12).toNat) ⟨by omega, by omega⟩
    have hF18 : zFA σ s15 := hs16 ▸ zFA_set hF12 (zo_8_3 hk0_) (by decide) zk_12 (by decide)
    refine zt_aload_n hX dX3_addPerson_39 rfl rfl ?_
    refine zt_get (v := .ref (X.1.1 + (k0_ + 5))) hX dX3_addPerson_40 rfl zf_X3_24 (zro_lt hk0_ (by decide)) hk0_ zs_8 (zrf_of (zv_8_4 hI17 hk0_)) ?_
    refine zt_aload_n hX dX3_addPerson_43 rfl rfl ?_
    have b19 := zv_8_12 hI17 hk0_
    have e20 : s15 k0_ 12 = s9 k0_ 12 := by rw [← hs16]; exact zset_k (zne_r hk0_ (zo_8_3 hk0_) (by decide))
    refine zt_get (v := .int (zI (s15 k0_ 12))) hX dX3_addPerson_44 rfl zf_X3_54 (zro_lt hk0_ (by decide)) hk0_ zs_8 rfl ?_
    refine zt_iload hX dX3_addPerson_47 rfl rfl ?_
    refine zt_iast hX dX3_addPerson_49 rfl (zro_lt (zo_8_4 hk0_) (by decide)) (zo_8_4 hk0_) zs_13 (by decide) ⟨by omega, by omega⟩ ?_
    generalize hs22 : zset s15 (k0_ + 5) ((s15 k0_ 12).toNat) a4_ = s21
    have hI23 : zInv s21 := hs22 ▸ zp_13 hI17 (zo_8_4 hk0_) ((s15 k0_ 12).toNat) ⟨by omega, by omega⟩
    have hF24 : zFA σ s21 := hs22 ▸ zFA_set hF18 (zo_8_4 hk0_) (by decide) zk_13 (by decide)
    refine zt_aload_n hX dX3_addPerson_50 rfl rfl ?_
    refine zt_dup hX dX3_addPerson_51 rfl rfl ?_
    have b25 := zv_8_12 hI23 hk0_
    have e26 : s21 k0_ 12 = s15 k0_ 12 := by rw [← hs22]; exact zset_k (zne_r hk0_ (zo_8_4 hk0_) (by decide))
    refine zt_get (v := .int (zI (s21 k0_ 12))) hX dX3_addPerson_52 rfl zf_X3_54 (zro_lt hk0_ (by decide)) hk0_ zs_8 rfl ?_
    refine zt_iconst hX dX3_addPerson_55 rfl ?_
    refine zt_iadd hX dX3_addPerson_56 rfl ?_
    refine zt_put (x := ((s21 k0_ 12) + 1)) hX dX3_addPerson_57 rfl zf_X3_54 (zro_lt hk0_ (by decide)) hk0_ zs_8 (fun q hq => by cases hq; rfl) rfl rfl rfl ?_
    generalize hs28 : zset s21 k0_ 12 ((s21 k0_ 12) + 1) = s27
    have hI29 : zInv s27 := hs28 ▸ zp_8_12 hI23 hk0_ ⟨by omega, by omega⟩
    have hF30 : zFA σ s27 := hs28 ▸ zFA_set hF24 hk0_ (by decide) zk_8 (by decide)
    exact zt_vret hX hR dX3_addPerson_60 ⟨hI29, hF30⟩

set_option maxRecDepth 100000 in
set_option maxHeartbeats 4000000 in
theorem zc_X3_setSides (l : Launch) (E : zEN) (σ : zSto) (hI : zInv σ) (k0_ : Nat) (hk0_ : zro k0_ = 8) (a1_ : Int) (ha1_ : 0 ≤ a1_ ∧ a1_ ≤ 6) (a2_ : Int) (ha2_ : 0 ≤ a2_ ∧ a2_ ≤ 6) : zCt l E yX3_setSides cX3_setSides 3 none 0 zNC zNC 0 0 σ [.ref (E.1 + k0_), .int (zI a1_), .int (zI a2_)] (fun r σ' => zInv σ' ∧ zFA σ σ') := by
  refine zCt_of2 [some (.ref (E.1 + k0_)), some (.int (zI a1_)), some (.int (zI a2_))] (by decide +kernel) (Nat.le_of_ble_eq_true rfl) rfl ?_
  intro X hE hX hR hL hN
  subst hE
  have hX : zok X cX3_setSides RX3 0 := hX
  have hF := zFA_rf σ
  refine zt_aload_n hX dX3_setSides_0 rfl rfl ?_
  refine zt_iload_n hX dX3_setSides_1 rfl rfl ?_
  refine zt_put (x := a1_) hX dX3_setSides_2 rfl zf_X3_47 (zro_lt hk0_ (by decide)) hk0_ zs_8 (fun q hq => by cases hq; rfl) rfl rfl rfl ?_
  generalize hs2 : zset σ k0_ 10 a1_ = s1
  have hI3 : zInv s1 := hs2 ▸ zp_8_10 hI hk0_ ⟨by omega, by omega⟩
  have hF4 : zFA σ s1 := hs2 ▸ zFA_set hF hk0_ (by decide) zk_8 (by decide)
  refine zt_aload_n hX dX3_setSides_5 rfl rfl ?_
  refine zt_iload_n hX dX3_setSides_6 rfl rfl ?_
  refine zt_put (x := a2_) hX dX3_setSides_7 rfl zf_X3_51 (zro_lt hk0_ (by decide)) hk0_ zs_8 (fun q hq => by cases hq; rfl) rfl rfl rfl ?_
  generalize hs6 : zset s1 k0_ 11 a2_ = s5
  have hI7 : zInv s5 := hs6 ▸ zp_8_11 hI3 hk0_ ⟨by omega, by omega⟩
  have hF8 : zFA σ s5 := hs6 ▸ zFA_set hF4 hk0_ (by decide) zk_8 (by decide)
  exact zt_vret hX hR dX3_setSides_10 ⟨hI7, hF8⟩

set_option maxRecDepth 100000 in
set_option maxHeartbeats 4000000 in
theorem zc_X3_clear (l : Launch) (E : zEN) (σ : zSto) (hI : zInv σ) (k0_ : Nat) (hk0_ : zro k0_ = 8) : zCt l E yX3_clear cX3_clear 2 none 3 zNC zNC 0 0 σ [.ref (E.1 + k0_)] (fun r σ' => zInv σ' ∧ zFA σ σ') := by
  refine zCt_of2 [some (.ref (E.1 + k0_)), none] (by decide +kernel) (Nat.le_of_ble_eq_true rfl) rfl ?_
  intro X hE hX hR hL hN
  subst hE
  have hX : zok X cX3_clear RX3 3 := hX
  have hF := zFA_rf σ
  refine zt_iconst hX dX3_clear_0 rfl ?_
  refine zt_istore_n (lv' := [some (.ref (X.1.1 + k0_)), some (.int (zI 0))]) hX dX3_clear_1 rfl hL (by decide) rfl ?_
  have L_2_6 : ∀ (N : Nat) (x1 : Int) (s4 : zSto), 0 ≤ x1 → x1 ≤ 36 → zInv s4 → zFA σ s4 → ((37 - x1).toNat) < N → zF X s4 2 [some (.ref (X.1.1 + k0_)), some (.int (zI x1))] [] := by
    intro N
    induction N with
    | zero =>
      intro x1 s4 h2 h3 hI5 hF6 hm8
      exact absurd hm8 (Nat.not_lt_zero _)
    | succ N ih9 =>
      intro x1 s4 h2 h3 hI5 hF6 hm8
      refine zt_iload_n hX dX3_clear_2 rfl rfl ?_
      refine zt_bipush hX dX3_clear_3 rfl (by decide) (by decide) ?_
      refine zt_icge (tgt := 21) hX dX3_clear_5 rfl (by decide) ⟨by omega, by omega⟩ ⟨by omega, by omega⟩ (fun c10 => ?_) (fun c10 => ?_)
      · refine zt_aload_n hX dX3_clear_21 rfl rfl ?_
        refine zt_get (v := .ref (X.1.1 + (k0_ + 6))) hX dX3_clear_22 rfl zf_X3_30 (zro_lt hk0_ (by decide)) hk0_ zs_8 (zrf_of (zv_8_5 hI5 hk0_)) ?_
        refine zt_bipush hX dX3_clear_25 rfl (by decide) (by decide) ?_
        refine zt_cVv hX dX3_clear_27 rfl zm_yX4_setStep zw_15_22 (zo_8_5 hk0_) (by decide) zs_6 (q := (RX4, TX4, 2)) rfl rfl (zc_X4_setStep _ _ s4 hI5 (k0_ + 6) (zo_8_5 hk0_) 14 ⟨by omega, by omega⟩) rfl rfl (Nat.le_of_ble_eq_true rfl) (by decide) (fun r11 s12 hr13 hp14 => ?_)
        obtain ⟨hI15, hF16⟩ := hp14
        have hF17 := zFA_tr hF6 hF16
        refine zt_aload_n hX dX3_clear_30 rfl rfl ?_
        refine zt_get (v := .ref (X.1.1 + (k0_ + 8))) hX dX3_clear_31 rfl zf_X3_34 (zro_lt hk0_ (by decide)) hk0_ zs_8 (zrf_of (zv_8_6 hI15 hk0_)) ?_
        refine zt_bipush hX dX3_clear_34 rfl (by decide) (by decide) ?_
        refine zt_cVv hX dX3_clear_36 rfl zm_yX4_setStep zw_15_22 (zo_8_6 hk0_) (by decide) zs_6 (q := (RX4, TX4, 2)) rfl rfl (zc_X4_setStep _ _ s12 hI15 (k0_ + 8) (zo_8_6 hk0_) 24 ⟨by omega, by omega⟩) rfl rfl (Nat.le_of_ble_eq_true rfl) (by decide) (fun r18 s19 hr20 hp21 => ?_)
        obtain ⟨hI22, hF23⟩ := hp21
        have hF24 := zFA_tr hF17 hF23
        refine zt_aload_n hX dX3_clear_39 rfl rfl ?_
        refine zt_iconst hX dX3_clear_40 rfl ?_
        refine zt_put (x := 0) hX dX3_clear_41 rfl zf_X3_37 (zro_lt hk0_ (by decide)) hk0_ zs_8 (fun q hq => by cases hq; rfl) rfl (zfit_z (by omega) (by omega)).1 (zfit_z (by omega) (by omega)).2 ?_
        generalize hs26 : zset s19 k0_ 7 0 = s25
        have hI27 : zInv s25 := hs26 ▸ zp_8_7 hI22 hk0_ ⟨by omega, by omega⟩
        have hF28 : zFA σ s25 := hs26 ▸ zFA_set hF24 hk0_ (by decide) zk_8 (by decide)
        refine zt_aload_n hX dX3_clear_44 rfl rfl ?_
        refine zt_iconst hX dX3_clear_45 rfl ?_
        refine zt_put (x := 0) hX dX3_clear_46 rfl zf_X3_41 (zro_lt hk0_ (by decide)) hk0_ zs_8 (fun q hq => by cases hq; rfl) rfl (zfit_z (by omega) (by omega)).1 (zfit_z (by omega) (by omega)).2 ?_
        generalize hs30 : zset s25 k0_ 8 0 = s29
        have hI31 : zInv s29 := hs30 ▸ zp_8_8 hI27 hk0_ ⟨by omega, by omega⟩
        have hF32 : zFA σ s29 := hs30 ▸ zFA_set hF28 hk0_ (by decide) zk_8 (by decide)
        refine zt_aload_n hX dX3_clear_49 rfl rfl ?_
        refine zt_iconst hX dX3_clear_50 rfl ?_
        refine zt_put (x := 0) hX dX3_clear_51 rfl zf_X3_44 (zro_lt hk0_ (by decide)) hk0_ zs_8 (fun q hq => by cases hq; rfl) rfl (zfit_z (by omega) (by omega)).1 (zfit_z (by omega) (by omega)).2 ?_
        generalize hs34 : zset s29 k0_ 9 0 = s33
        have hI35 : zInv s33 := hs34 ▸ zp_8_9 hI31 hk0_ ⟨by omega, by omega⟩
        have hF36 : zFA σ s33 := hs34 ▸ zFA_set hF32 hk0_ (by decide) zk_8 (by decide)
        refine zt_aload_n hX dX3_clear_54 rfl rfl ?_
        refine zt_iconst hX dX3_clear_55 rfl ?_
        refine zt_put (x := 0) hX dX3_clear_56 rfl zf_X3_47 (zro_lt hk0_ (by decide)) hk0_ zs_8 (fun q hq => by cases hq; rfl) rfl rfl rfl ?_
        generalize hs38 : zset s33 k0_ 10 0 = s37
        have hI39 : zInv s37 := hs38 ▸ zp_8_10 hI35 hk0_ ⟨by omega, by omega⟩
        have hF40 : zFA σ s37 := hs38 ▸ zFA_set hF36 hk0_ (by decide) zk_8 (by decide)
        refine zt_aload_n hX dX3_clear_59 rfl rfl ?_
        refine zt_iconst hX dX3_clear_60 rfl ?_
        refine zt_put (x := 0) hX dX3_clear_61 rfl zf_X3_51 (zro_lt hk0_ (by decide)) hk0_ zs_8 (fun q hq => by cases hq; rfl) rfl rfl rfl ?_
        generalize hs42 : zset s37 k0_ 11 0 = s41
        have hI43 : zInv s41 := hs42 ▸ zp_8_11 hI39 hk0_ ⟨by omega, by omega⟩
        have hF44 : zFA σ s41 := hs42 ▸ zFA_set hF40 hk0_ (by decide) zk_8 (by decide)
        refine zt_aload_n hX dX3_clear_64 rfl rfl ?_
        refine zt_iconst hX dX3_clear_65 rfl ?_
        refine zt_put (x := 0) hX dX3_clear_66 rfl zf_X3_54 (zro_lt hk0_ (by decide)) hk0_ zs_8 (fun q hq => by cases hq; rfl) rfl rfl rfl ?_
        generalize hs46 : zset s41 k0_ 12 0 = s45
        have hI47 : zInv s45 := hs46 ▸ zp_8_12 hI43 hk0_ ⟨by omega, by omega⟩
        have hF48 : zFA σ s45 := hs46 ▸ zFA_set hF44 hk0_ (by decide) zk_8 (by decide)
        refine zt_aload_n hX dX3_clear_69 rfl rfl ?_
        refine zt_iconst hX dX3_clear_70 rfl ?_
        refine zt_put (x := 0) hX dX3_clear_71 rfl zf_X3_57 (zro_lt hk0_ (by decide)) hk0_ zs_8 (fun q hq => by cases hq; rfl) rfl rfl rfl ?_
        generalize hs50 : zset s45 k0_ 13 0 = s49
        have hI51 : zInv s49 := hs50 ▸ zp_8_13 hI47 hk0_ ⟨by omega, by omega⟩
        have hF52 : zFA σ s49 := hs50 ▸ zFA_set hF48 hk0_ (by decide) zk_8 (by decide)
        refine zt_aload_n hX dX3_clear_74 rfl rfl ?_
        refine zt_iconst hX dX3_clear_75 rfl ?_
        refine zt_put (x := 3) hX dX3_clear_76 rfl zf_X3_60 (zro_lt hk0_ (by decide)) hk0_ zs_8 (fun q hq => by cases hq; rfl) rfl rfl rfl ?_
        generalize hs54 : zset s49 k0_ 14 3 = s53
        have hI55 : zInv s53 := hs54 ▸ zp_8_14 hI51 hk0_ ⟨by omega, by omega⟩
        have hF56 : zFA σ s53 := hs54 ▸ zFA_set hF52 hk0_ (by decide) zk_8 (by decide)
        refine zt_aload_n hX dX3_clear_79 rfl rfl ?_
        refine zt_bipush hX dX3_clear_80 rfl (by decide) (by decide) ?_
        refine zt_put (x := 20) hX dX3_clear_82 rfl zf_X3_63 (zro_lt hk0_ (by decide)) hk0_ zs_8 (fun q hq => by cases hq; rfl) rfl rfl rfl ?_
        generalize hs58 : zset s53 k0_ 15 20 = s57
        have hI59 : zInv s57 := hs58 ▸ zp_8_15 hI55 hk0_ ⟨by omega, by omega⟩
        have hF60 : zFA σ s57 := hs58 ▸ zFA_set hF56 hk0_ (by decide) zk_8 (by decide)
        refine zt_aload_n hX dX3_clear_85 rfl rfl ?_
        refine zt_iconst hX dX3_clear_86 rfl ?_
        refine zt_put (x := 0) hX dX3_clear_87 rfl zf_X3_66 (zro_lt hk0_ (by decide)) hk0_ zs_8 (fun q hq => by cases hq; rfl) rfl rfl rfl ?_
        generalize hs62 : zset s57 k0_ 16 0 = s61
        have hI63 : zInv s61 := hs62 ▸ zp_8_16 hI59 hk0_ ⟨by omega, by omega⟩
        have hF64 : zFA σ s61 := hs62 ▸ zFA_set hF60 hk0_ (by decide) zk_8 (by decide)
        exact zt_vret hX hR dX3_clear_90 ⟨hI63, hF64⟩
      · refine zt_aload_n hX dX3_clear_8 rfl rfl ?_
        refine zt_get (v := .ref (X.1.1 + (k0_ + 1))) hX dX3_clear_9 rfl zf_X3_9 (zro_lt hk0_ (by decide)) hk0_ zs_8 (zrf_of (zv_8_0 hI5 hk0_)) ?_
        refine zt_iload_n hX dX3_clear_12 rfl rfl ?_
        refine zt_iconst hX dX3_clear_13 rfl ?_
        refine zt_iast hX dX3_clear_14 rfl (zro_lt (zo_8_0 hk0_) (by decide)) (zo_8_0 hk0_) zs_9 (by decide) ⟨by omega, by omega⟩ ?_
        generalize hs66 : zset s4 (k0_ + 1) (x1.toNat) 1 = s65
        have hI67 : zInv s65 := hs66 ▸ zp_9 hI5 (zo_8_0 hk0_) (x1.toNat) ⟨by omega, by omega⟩
        have hF68 : zFA σ s65 := hs66 ▸ zFA_set hF6 (zo_8_0 hk0_) (by decide) zk_9 (by decide)
        refine zt_iinc (lv' := [some (.ref (X.1.1 + k0_)), some (.int (zI (x1 + 1)))]) hX dX3_clear_15 rfl rfl hL (by decide) rfl ?_
        refine zt_goto (tgt := 2) hX dX3_clear_18 (by decide) ?_
        exact ih9 (x1 + 1) s65 (by omega) (by omega) hI67 hF68 (by omega)
  exact L_2_6 _ 0 σ (by omega) (by omega) hI hF (Nat.lt_succ_self _)
