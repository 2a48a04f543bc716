set_option maxRecDepth 100000 in
set_option maxHeartbeats 4000000 in
theorem zc_J6_bitCount (l : Launch) (E : zEN) (σ : zSto)  (a0_ : Int) (ha0_ : -2147483648 ≤ a0_ ∧ a0_ ≤ 2147483647) : zCt l E yJ6_bitCount_0f7a4 cJ6_bitCount_0f7a4 1 (some .int) 0 zNC zNC 0 0 σ [.int (zI a0_)] (fun r σ' => σ = σ' ∧ 0 ≤ r ∧ r ≤ 63) := by
  refine zCt_of3 [some (.int (zI a0_))] (by decide +kernel) (Nat.le_of_ble_eq_true rfl) rfl ?_
  intro X hE hX hR hL hN
  subst hE
  have hX : zok X cJ6_bitCount_0f7a4 RJ6 0 := hX
  refine zt_iload_n (pc' := 1) hX dJ6_bitCount_0f7a4_0 rfl rfl ?_
  refine zt_iload_n (pc' := 2) hX dJ6_bitCount_0f7a4_1 rfl rfl ?_
  refine zt_iconst (pc' := 3) hX dJ6_bitCount_0f7a4_2 rfl ?_
  refine zt_iushr (pc' := 4) hX dJ6_bitCount_0f7a4_3 rfl (fun r1 lr1 ur1 => ?_)
  refine zt_ldcw (pc' := 7) (x := 1431655765) hX dJ6_bitCount_0f7a4_4 rfl zw_37_21 (by decide +kernel) ?_
  refine zt_iand (pc' := 8) hX dJ6_bitCount_0f7a4_7 rfl (fun r2 zr2 lr2 ur2 => ?_)
  clear zr2
  refine zt_isub (pc' := 9) hX dJ6_bitCount_0f7a4_8 rfl ?_
  refine zt_wrap (fun r3 zr3 lr3 ur3 => ?_)
  clear zr3
  refine zt_istore_n (pc' := 10) (lv' := [some (.int (zI r3))]) hX dJ6_bitCount_0f7a4_9 rfl hL (by decide) rfl ?_
  refine zt_iload_n (pc' := 11) hX dJ6_bitCount_0f7a4_10 rfl rfl ?_
  refine zt_ldcw (pc' := 14) (x := 858993459) hX dJ6_bitCount_0f7a4_11 rfl zw_37_22 (by decide +kernel) ?_
  refine zt_iand (pc' := 15) hX dJ6_bitCount_0f7a4_14 rfl (fun r4 zr4 lr4 ur4 => ?_)
  clear zr4
  refine zt_iload_n (pc' := 16) hX dJ6_bitCount_0f7a4_15 rfl rfl ?_
  refine zt_iconst (pc' := 17) hX dJ6_bitCount_0f7a4_16 rfl ?_
  refine zt_iushr (pc' := 18) hX dJ6_bitCount_0f7a4_17 rfl (fun r5 lr5 ur5 => ?_)
  refine zt_ldcw (pc' := 21) (x := 858993459) hX dJ6_bitCount_0f7a4_18 rfl zw_37_22 (by decide +kernel) ?_
  refine zt_iand (pc' := 22) hX dJ6_bitCount_0f7a4_21 rfl (fun r6 zr6 lr6 ur6 => ?_)
  clear zr6
  refine zt_iadd (pc' := 23) hX dJ6_bitCount_0f7a4_22 rfl ?_
  refine zt_wrap (fun r7 zr7 lr7 ur7 => ?_)
  clear zr7
  refine zt_istore_n (pc' := 24) (lv' := [some (.int (zI r7))]) hX dJ6_bitCount_0f7a4_23 rfl hL (by decide) rfl ?_
  refine zt_iload_n (pc' := 25) hX dJ6_bitCount_0f7a4_24 rfl rfl ?_
  refine zt_iload_n (pc' := 26) hX dJ6_bitCount_0f7a4_25 rfl rfl ?_
  refine zt_iconst (pc' := 27) hX dJ6_bitCount_0f7a4_26 rfl ?_
  refine zt_iushr (pc' := 28) hX dJ6_bitCount_0f7a4_27 rfl (fun r8 lr8 ur8 => ?_)
  refine zt_iadd (pc' := 29) hX dJ6_bitCount_0f7a4_28 rfl ?_
  refine zt_wrap (fun r9 zr9 lr9 ur9 => ?_)
  clear zr9
  refine zt_ldcw (pc' := 32) (x := 252645135) hX dJ6_bitCount_0f7a4_29 rfl zw_37_23 (by decide +kernel) ?_
  refine zt_iand (pc' := 33) hX dJ6_bitCount_0f7a4_32 rfl (fun r10 zr10 lr10 ur10 => ?_)
  clear zr10
  refine zt_istore_n (pc' := 34) (lv' := [some (.int (zI r10))]) hX dJ6_bitCount_0f7a4_33 rfl hL (by decide) rfl ?_
  refine zt_iload_n (pc' := 35) hX dJ6_bitCount_0f7a4_34 rfl rfl ?_
  refine zt_iload_n (pc' := 36) hX dJ6_bitCount_0f7a4_35 rfl rfl ?_
  refine zt_bipush (pc' := 38) hX dJ6_bitCount_0f7a4_36 rfl (by decide) (by decide) ?_
  refine zt_iushr (pc' := 39) hX dJ6_bitCount_0f7a4_38 rfl (fun r11 lr11 ur11 => ?_)
  refine zt_iadd (pc' := 40) hX dJ6_bitCount_0f7a4_39 rfl ?_
  refine zt_wrap (fun r12 zr12 lr12 ur12 => ?_)
  clear zr12
  refine zt_istore_n (pc' := 41) (lv' := [some (.int (zI r12))]) hX dJ6_bitCount_0f7a4_40 rfl hL (by decide) rfl ?_
  refine zt_iload_n (pc' := 42) hX dJ6_bitCount_0f7a4_41 rfl rfl ?_
  refine zt_iload_n (pc' := 43) hX dJ6_bitCount_0f7a4_42 rfl rfl ?_
  refine zt_bipush (pc' := 45) hX dJ6_bitCount_0f7a4_43 rfl (by decide) (by decide) ?_
  refine zt_iushr (pc' := 46) hX dJ6_bitCount_0f7a4_45 rfl (fun r13 lr13 ur13 => ?_)
  refine zt_iadd (pc' := 47) hX dJ6_bitCount_0f7a4_46 rfl ?_
  refine zt_wrap (fun r14 zr14 lr14 ur14 => ?_)
  clear zr14
  refine zt_istore_n (pc' := 48) (lv' := [some (.int (zI r14))]) hX dJ6_bitCount_0f7a4_47 rfl hL (by decide) rfl ?_
  refine zt_iload_n (pc' := 49) hX dJ6_bitCount_0f7a4_48 rfl rfl ?_
  refine zt_bipush (pc' := 51) hX dJ6_bitCount_0f7a4_49 rfl (by decide) (by decide) ?_
  refine zt_iandm (pc' := 52) hX dJ6_bitCount_0f7a4_51 rfl 6 (by decide +kernel) (by decide) (fun r15 er15 lr15 ur15 => ?_)
  have ur15 : r15 ≤ 63 := by omega
  exact zt_iret hX hR dJ6_bitCount_0f7a4_52 ⟨by omega, by omega⟩ ⟨rfl, by omega, by omega⟩

set_option maxRecDepth 100000 in
set_option maxHeartbeats 4000000 in
theorem zc_J13_bitCount (l : Launch) (E : zEN) (σ : zSto)  (a0_ : Int) (ha0_ : -9223372036854775808 ≤ a0_ ∧ a0_ ≤ 9223372036854775807) : zCt l E yJ13_bitCount_95d88 cJ13_bitCount_95d88 2 (some .int) 0 zNC zNC 0 0 σ [.long (zJ a0_)] (fun r σ' => σ = σ' ∧ 0 ≤ r ∧ r ≤ 127) := by
  refine zCt_of3 [some (.long (zJ a0_)), none] (by decide +kernel) (Nat.le_of_ble_eq_true rfl) rfl ?_
  intro X hE hX hR hL hN
  subst hE
  have hX : zok X cJ13_bitCount_95d88 RJ13 0 := hX
  refine zt_lload_n (pc' := 1) hX dJ13_bitCount_95d88_0 rfl rfl ?_
  refine zt_lload_n (pc' := 2) hX dJ13_bitCount_95d88_1 rfl rfl ?_
  refine zt_iconst (pc' := 3) hX dJ13_bitCount_95d88_2 rfl ?_
  refine zt_lushr (pc' := 4) hX dJ13_bitCount_95d88_3 rfl (fun r1 lr1 ur1 => ?_)
  refine zt_ldc2 (pc' := 7) (x := 6148914691236517205) hX dJ13_bitCount_95d88_4 rfl zw_33_21 (by decide +kernel) ?_
  refine zt_land (pc' := 8) hX dJ13_bitCount_95d88_7 rfl (fun r2 zr2 lr2 ur2 => ?_)
  clear zr2
  refine zt_lsub (pc' := 9) hX dJ13_bitCount_95d88_8 rfl ?_
  refine zt_wrapl (fun r3 zr3 lr3 ur3 => ?_)
  clear zr3
  refine zt_lstore_n (pc' := 10) (lv' := [some (.long (zJ r3)), none]) hX dJ13_bitCount_95d88_9 rfl hL (by decide) rfl ?_
  refine zt_lload_n (pc' := 11) hX dJ13_bitCount_95d88_10 rfl rfl ?_
  refine zt_ldc2 (pc' := 14) (x := 3689348814741910323) hX dJ13_bitCount_95d88_11 rfl zw_33_22 (by decide +kernel) ?_
  refine zt_land (pc' := 15) hX dJ13_bitCount_95d88_14 rfl (fun r4 zr4 lr4 ur4 => ?_)
  clear zr4
  refine zt_lload_n (pc' := 16) hX dJ13_bitCount_95d88_15 rfl rfl ?_
  refine zt_iconst (pc' := 17) hX dJ13_bitCount_95d88_16 rfl ?_
  refine zt_lushr (pc' := 18) hX dJ13_bitCount_95d88_17 rfl (fun r5 lr5 ur5 => ?_)
  refine zt_ldc2 (pc' := 21) (x := 3689348814741910323) hX dJ13_bitCount_95d88_18 rfl zw_33_22 (by decide +kernel) ?_
  refine zt_land (pc' := 22) hX dJ13_bitCount_95d88_21 rfl (fun r6 zr6 lr6 ur6 => ?_)
  clear zr6
  refine zt_ladd (pc' := 23) hX dJ13_bitCount_95d88_22 rfl ?_
  refine zt_wrapl (fun r7 zr7 lr7 ur7 => ?_)
  clear zr7
  refine zt_lstore_n (pc' := 24) (lv' := [some (.long (zJ r7)), none]) hX dJ13_bitCount_95d88_23 rfl hL (by decide) rfl ?_
  refine zt_lload_n (pc' := 25) hX dJ13_bitCount_95d88_24 rfl rfl ?_
  refine zt_lload_n (pc' := 26) hX dJ13_bitCount_95d88_25 rfl rfl ?_
  refine zt_iconst (pc' := 27) hX dJ13_bitCount_95d88_26 rfl ?_
  refine zt_lushr (pc' := 28) hX dJ13_bitCount_95d88_27 rfl (fun r8 lr8 ur8 => ?_)
  refine zt_ladd (pc' := 29) hX dJ13_bitCount_95d88_28 rfl ?_
  refine zt_wrapl (fun r9 zr9 lr9 ur9 => ?_)
  clear zr9
  refine zt_ldc2 (pc' := 32) (x := 1085102592571150095) hX dJ13_bitCount_95d88_29 rfl zw_33_23 (by decide +kernel) ?_
  refine zt_land (pc' := 33) hX dJ13_bitCount_95d88_32 rfl (fun r10 zr10 lr10 ur10 => ?_)
  clear zr10
  refine zt_lstore_n (pc' := 34) (lv' := [some (.long (zJ r10)), none]) hX dJ13_bitCount_95d88_33 rfl hL (by decide) rfl ?_
  refine zt_lload_n (pc' := 35) hX dJ13_bitCount_95d88_34 rfl rfl ?_
  refine zt_lload_n (pc' := 36) hX dJ13_bitCount_95d88_35 rfl rfl ?_
  refine zt_bipush (pc' := 38) hX dJ13_bitCount_95d88_36 rfl (by decide) (by decide) ?_
  refine zt_lushr (pc' := 39) hX dJ13_bitCount_95d88_38 rfl (fun r11 lr11 ur11 => ?_)
  refine zt_ladd (pc' := 40) hX dJ13_bitCount_95d88_39 rfl ?_
  refine zt_wrapl (fun r12 zr12 lr12 ur12 => ?_)
  clear zr12
  refine zt_lstore_n (pc' := 41) (lv' := [some (.long (zJ r12)), none]) hX dJ13_bitCount_95d88_40 rfl hL (by decide) rfl ?_
  refine zt_lload_n (pc' := 42) hX dJ13_bitCount_95d88_41 rfl rfl ?_
  refine zt_lload_n (pc' := 43) hX dJ13_bitCount_95d88_42 rfl rfl ?_
  refine zt_bipush (pc' := 45) hX dJ13_bitCount_95d88_43 rfl (by decide) (by decide) ?_
  refine zt_lushr (pc' := 46) hX dJ13_bitCount_95d88_45 rfl (fun r13 lr13 ur13 => ?_)
  refine zt_ladd (pc' := 47) hX dJ13_bitCount_95d88_46 rfl ?_
  refine zt_wrapl (fun r14 zr14 lr14 ur14 => ?_)
  clear zr14
  refine zt_lstore_n (pc' := 48) (lv' := [some (.long (zJ r14)), none]) hX dJ13_bitCount_95d88_47 rfl hL (by decide) rfl ?_
  refine zt_lload_n (pc' := 49) hX dJ13_bitCount_95d88_48 rfl rfl ?_
  refine zt_lload_n (pc' := 50) hX dJ13_bitCount_95d88_49 rfl rfl ?_
  refine zt_bipush (pc' := 52) hX dJ13_bitCount_95d88_50 rfl (by decide) (by decide) ?_
  refine zt_lushr (pc' := 53) hX dJ13_bitCount_95d88_52 rfl (fun r15 lr15 ur15 => ?_)
  refine zt_ladd (pc' := 54) hX dJ13_bitCount_95d88_53 rfl ?_
  refine zt_wrapl (fun r16 zr16 lr16 ur16 => ?_)
  clear zr16
  refine zt_lstore_n (pc' := 55) (lv' := [some (.long (zJ r16)), none]) hX dJ13_bitCount_95d88_54 rfl hL (by decide) rfl ?_
  refine zt_lload_n (pc' := 56) hX dJ13_bitCount_95d88_55 rfl rfl ?_
  refine zt_l2i (pc' := 57) hX dJ13_bitCount_95d88_56 rfl ?_
  refine zt_wrap (fun r17 zr17 lr17 ur17 => ?_)
  clear zr17
  refine zt_bipush (pc' := 59) hX dJ13_bitCount_95d88_57 rfl (by decide) (by decide) ?_
  refine zt_iandm (pc' := 60) hX dJ13_bitCount_95d88_59 rfl 7 (by decide +kernel) (by decide) (fun r18 er18 lr18 ur18 => ?_)
  have ur18 : r18 ≤ 127 := by omega
  exact zt_iret hX hR dJ13_bitCount_95d88_60 ⟨by omega, by omega⟩ ⟨rfl, by omega, by omega⟩

set_option maxRecDepth 100000 in
set_option maxHeartbeats 4000000 in
theorem zc_X9_byteAt_1 (l : Launch) (E : zEN) (σ : zSto) (hI : zInv σ) (a1_ : Int) (ha1_ : -2147483648 ≤ a1_ ∧ a1_ ≤ 2147483647) : zCt l E yX9_byteAt cX9_byteAt 2 (some .int) 0 zNC zNC 0 0 σ [.ref (E.1 + 1), .int (zI a1_)] (fun r σ' => σ = σ' ∧ -1 ≤ r ∧ r ≤ 255) := by
  refine zCt_of2 [some (.ref (E.1 + 1)), some (.int (zI a1_))] (by decide +kernel) (Nat.le_of_ble_eq_true rfl) rfl ?_
  intro X hE hX hR hL hN
  subst hE
  have hX : zok X cX9_byteAt RX9 0 := hX
  refine zt_iload_n (pc' := 1) hX dX9_byteAt_0 rfl rfl ?_
  refine zt_iflt (pc' := 4) (tgt := 34) hX dX9_byteAt_1 rfl (by decide) ⟨by omega, by omega⟩ (fun c1 => ?_) (fun c1 => ?_)
  · refine zt_iconst (pc' := 35) hX dX9_byteAt_34 rfl ?_
    exact zt_iret hX hR dX9_byteAt_35 ⟨by omega, by omega⟩ ⟨rfl, by omega, by omega⟩
  · refine zt_iload_n (pc' := 5) hX dX9_byteAt_4 rfl rfl ?_
    refine zt_aload_n (pc' := 6) hX dX9_byteAt_5 rfl rfl ?_
    have b2 := zv_2_1 hI zc_1
    refine zt_get (pc' := 9) (v := .int (zI (σ 1 1))) hX dX9_byteAt_6 rfl zf_X9_9 (by decide) zc_1 zs_2 rfl ?_
    refine zt_icge (pc' := 12) (tgt := 34) hX dX9_byteAt_9 rfl (by decide) ⟨by omega, by omega⟩ ⟨by omega, by omega⟩ (fun c3 => ?_) (fun c3 => ?_)
    · refine zt_iconst (pc' := 35) hX dX9_byteAt_34 rfl ?_
      exact zt_iret hX hR dX9_byteAt_35 ⟨by omega, by omega⟩ ⟨rfl, by omega, by omega⟩
    · refine zt_iload_n (pc' := 13) hX dX9_byteAt_12 rfl rfl ?_
      refine zt_aload_n (pc' := 14) hX dX9_byteAt_13 rfl rfl ?_
      refine zt_get (pc' := 17) (v := .ref (X.1.1 + 2)) hX dX9_byteAt_14 rfl zf_X9_15 (by decide) zc_1 zs_2 (zrf_of (zv_2_0 hI zc_1)) ?_
      refine zt_alen (pc' := 18) hX dX9_byteAt_17 rfl (by decide) zc_2 zs_3 (by decide) ?_
      rw [show ((1600 : Nat) : Int) = 1600 from rfl]
      refine zt_icge (pc' := 21) (tgt := 34) hX dX9_byteAt_18 rfl (by decide) ⟨by omega, by omega⟩ ⟨by omega, by omega⟩ (fun c4 => ?_) (fun c4 => ?_)
      · exact absurd c4 (by omega)
      · refine zt_aload_n (pc' := 22) hX dX9_byteAt_21 rfl rfl ?_
        refine zt_get (pc' := 25) (v := .ref (X.1.1 + 2)) hX dX9_byteAt_22 rfl zf_X9_15 (by decide) zc_1 zs_2 (zrf_of (zv_2_0 hI zc_1)) ?_
        refine zt_iload_n (pc' := 26) hX dX9_byteAt_25 rfl rfl ?_
        refine zt_bald (pc' := 27) hX dX9_byteAt_26 rfl (by decide) zc_2 zs_3 (by decide) ⟨by omega, by omega⟩ ?_
        generalize hv5 : σ 2 (a1_.toNat) = v5
        have bv5 : -128 ≤ v5 ∧ v5 ≤ 127 := hv5 ▸ zv_3 hI zc_2 _
        refine zt_sipush (pc' := 30) hX dX9_byteAt_27 rfl (by decide) (by decide) ?_
        refine zt_iandm (pc' := 31) hX dX9_byteAt_30 rfl 8 (by decide +kernel) (by decide) (fun r6 er6 lr6 ur6 => ?_)
        have ur6 : r6 ≤ 255 := by omega
        refine zt_goto (tgt := 35) hX dX9_byteAt_31 (by decide) ?_
        exact zt_iret hX hR dX9_byteAt_35 ⟨by omega, by omega⟩ ⟨rfl, by omega, by omega⟩

set_option maxRecDepth 100000 in
set_option maxHeartbeats 4000000 in
theorem zc_X9_pairAt_1 (l : Launch) (E : zEN) (σ : zSto) (hI : zInv σ) (a1_ : Int) (ha1_ : -2147483648 ≤ a1_ ∧ a1_ ≤ 2147483647) : zCt l E yX9_pairAt cX9_pairAt 2 (some .int) 1 zNC zNC 0 0 σ [.ref (E.1 + 1), .int (zI a1_)] (fun r σ' => σ = σ' ∧ -2147483648 ≤ r ∧ r ≤ 2147483647) := by
  refine zCt_of2 [some (.ref (E.1 + 1)), some (.int (zI a1_))] (by decide +kernel) (Nat.le_of_ble_eq_true rfl) rfl ?_
  intro X hE hX hR hL hN
  subst hE
  have hX : zok X cX9_pairAt RX9 1 := hX
  refine zt_aload_n (pc' := 1) hX dX9_pairAt_0 rfl rfl ?_
  refine zt_iload_n (pc' := 2) hX dX9_pairAt_1 rfl rfl ?_
  refine zt_cVi (pc' := 5) hX dX9_pairAt_2 rfl zm_yX9_byteAt zw_57_5 zc_1 (by decide) zs_2 (q := (RX9, TX9, 2)) rfl rfl (zc_X9_byteAt_1 _ _ σ hI a1_ ⟨by omega, by omega⟩) rfl rfl (Nat.le_of_ble_eq_true rfl) (by decide) (fun r1 s2 hr3 hp4 => ?_)
  obtain ⟨rfl, q5, q6⟩ := hp4
  refine zt_bipush (pc' := 7) hX dX9_pairAt_5 rfl (by decide) (by decide) ?_
  refine zt_ishl (pc' := 8) hX dX9_pairAt_7 rfl (fun r7 zr7 lr7 ur7 => ?_)
  clear zr7
  refine zt_aload_n (pc' := 9) hX dX9_pairAt_8 rfl rfl ?_
  refine zt_iload_n (pc' := 10) hX dX9_pairAt_9 rfl rfl ?_
  refine zt_iconst (pc' := 11) hX dX9_pairAt_10 rfl ?_
  refine zt_iadd (pc' := 12) hX dX9_pairAt_11 rfl ?_
  refine zt_wrap (fun r8 zr8 lr8 ur8 => ?_)
  clear zr8
  refine zt_cVi (pc' := 15) hX dX9_pairAt_12 rfl zm_yX9_byteAt zw_57_5 zc_1 (by decide) zs_2 (q := (RX9, TX9, 2)) rfl rfl (zc_X9_byteAt_1 _ _ σ hI r8 ⟨by omega, by omega⟩) rfl rfl (Nat.le_of_ble_eq_true rfl) (by decide) (fun r9 s10 hr11 hp12 => ?_)
  obtain ⟨rfl, q13, q14⟩ := hp12
  refine zt_ior (pc' := 16) hX dX9_pairAt_15 rfl (fun r15 zr15 lr15 ur15 => ?_)
  clear zr15
  exact zt_iret hX hR dX9_pairAt_16 ⟨by omega, by omega⟩ ⟨rfl, by omega, by omega⟩

set_option maxRecDepth 100000 in
set_option maxHeartbeats 4000000 in
theorem zc_X9_checkOf_1 (l : Launch) (E : zEN) (σ : zSto) (hI : zInv σ) (a1_ : Int) (ha1_ : 0 ≤ a1_ ∧ a1_ ≤ 100) : zCt l E yX9_checkOf cX9_checkOf 4 (some .int) 1 zNC zNC 0 0 σ [.ref (E.1 + 1), .int (zI a1_)] (fun r σ' => σ = σ' ∧ -250 ≤ r ∧ r ≤ 250) := by
  refine zCt_of2 [some (.ref (E.1 + 1)), some (.int (zI a1_)), none, none] (by decide +kernel) (Nat.le_of_ble_eq_true rfl) rfl ?_
  intro X hE hX hR hL hN
  subst hE
  have hX : zok X cX9_checkOf RX9 1 := hX
  refine zt_bipush (pc' := 2) hX dX9_checkOf_0 rfl (by decide) (by decide) ?_
  refine zt_istore_n (pc' := 3) (lv' := [some (.ref (X.1.1 + 1)), some (.int (zI a1_)), some (.int (zI 127)), none]) hX dX9_checkOf_2 rfl hL (by decide) rfl ?_
  refine zt_iconst (pc' := 4) hX dX9_checkOf_3 rfl ?_
  refine zt_istore_n (pc' := 5) (lv' := [some (.ref (X.1.1 + 1)), some (.int (zI a1_)), some (.int (zI 127)), some (.int (zI 0))]) hX dX9_checkOf_4 rfl hL (by decide) rfl ?_
  have L_5_6 : ∀ (N : Nat) (x1 : Int) (x4 : Int), -250 ≤ x1 → x1 ≤ 250 → 0 ≤ x4 → x4 ≤ 100 → ((101 - x4).toNat) < N → zF X σ 5 [some (.ref (X.1.1 + 1)), some (.int (zI a1_)), some (.int (zI x1)), some (.int (zI x4))] [] := by
    intro N
    induction N with
    | zero =>
      intro x1 x4 h2 h3 h5 h6 hm8
      exact absurd hm8 (Nat.not_lt_zero _)
    | succ N ih9 =>
      intro x1 x4 h2 h3 h5 h6 hm8
      refine zt_iload_n (pc' := 6) hX dX9_checkOf_5 rfl rfl ?_
      refine zt_iload_n (pc' := 7) hX dX9_checkOf_6 rfl rfl ?_
      refine zt_icge (pc' := 10) (tgt := 30) hX dX9_checkOf_7 rfl (by decide) ⟨by omega, by omega⟩ ⟨by omega, by omega⟩ (fun c10 => ?_) (fun c10 => ?_)
      · refine zt_iload_n (pc' := 31) hX dX9_checkOf_30 rfl rfl ?_
        exact zt_iret hX hR dX9_checkOf_31 ⟨by omega, by omega⟩ ⟨rfl, by omega, by omega⟩
      · refine zt_iconst (pc' := 11) hX dX9_checkOf_10 rfl ?_
        refine zt_iload_n (pc' := 12) hX dX9_checkOf_11 rfl rfl ?_
        refine zt_imul (pc' := 13) hX dX9_checkOf_12 rfl ?_
        refine zt_wrap (fun r11 zr11 lr11 ur11 => ?_)
        clear zr11
        refine zt_aload_n (pc' := 14) hX dX9_checkOf_13 rfl rfl ?_
        refine zt_iload_n (pc' := 15) hX dX9_checkOf_14 rfl rfl ?_
        refine zt_cVi (pc' := 18) hX dX9_checkOf_15 rfl zm_yX9_byteAt zw_57_5 zc_1 (by decide) zs_2 (q := (RX9, TX9, 2)) rfl rfl (zc_X9_byteAt_1 _ _ σ hI x4 ⟨by omega, by omega⟩) rfl rfl (Nat.le_of_ble_eq_true rfl) (by decide) (fun r12 s13 hr14 hp15 => ?_)
        obtain ⟨rfl, q16, q17⟩ := hp15
        refine zt_iadd (pc' := 19) hX dX9_checkOf_18 rfl ?_
        refine zt_wrap (fun r18 zr18 lr18 ur18 => ?_)
        clear zr18
        refine zt_sipush (pc' := 22) hX dX9_checkOf_19 rfl (by decide) (by decide) ?_
        refine zt_irem (pc' := 23) hX dX9_checkOf_22 rfl ⟨by omega, by omega⟩ ⟨by omega, by omega⟩ (fun r19 er19 br19 nr19 => ?_)
        refine zt_istore_n (pc' := 24) (lv' := [some (.ref (X.1.1 + 1)), some (.int (zI a1_)), some (.int (zI r19)), some (.int (zI x4))]) hX dX9_checkOf_23 rfl hL (by decide) rfl ?_
        refine zt_iinc (pc' := 27) (lv' := [some (.ref (X.1.1 + 1)), some (.int (zI a1_)), some (.int (zI r19)), some (.int (zI (x4 + 1)))]) hX dX9_checkOf_24 rfl rfl hL (by decide) rfl ?_
        refine zt_goto (tgt := 5) hX dX9_checkOf_27 (by decide) ?_
        exact ih9 r19 (x4 + 1) (by omega) (by omega) (by omega) (by omega) (by omega)
  exact L_5_6 _ 127 0 (by omega) (by omega) (by omega) (by omega) (Nat.lt_succ_self _)

set_option maxRecDepth 100000 in
set_option maxHeartbeats 4000000 in
theorem zc_X9_addByte_1 (l : Launch) (E : zEN) (σ : zSto) (hI : zInv σ) (a1_ : Int) (ha1_ : -2147483648 ≤ a1_ ∧ a1_ ≤ 2147483647) : zCt l E yX9_addByte cX9_addByte 2 none 0 zNC zNC 0 0 σ [.ref (E.1 + 1), .int (zI a1_)] (fun r σ' => zInv σ' ∧ zFC σ σ' ∧ ((σ 1 1 < 1600 → σ' 1 1 = σ 1 1 + 1) ∧ (¬ σ 1 1 < 1600 → σ' 1 1 = σ 1 1))) := by
  refine zCt_of2 [some (.ref (E.1 + 1)), some (.int (zI a1_))] (by decide +kernel) (Nat.le_of_ble_eq_true rfl) rfl ?_
  intro X hE hX hR hL hN
  subst hE
  have hX : zok X cX9_addByte RX9 0 := hX
  have hF := zFC_rf σ
  refine zt_aload_n (pc' := 1) hX dX9_addByte_0 rfl rfl ?_
  have b1 := zv_2_1 hI zc_1
  refine zt_get (pc' := 4) (v := .int (zI (σ 1 1))) hX dX9_addByte_1 rfl zf_X9_9 (by decide) zc_1 zs_2 rfl ?_
  refine zt_aload_n (pc' := 5) hX dX9_addByte_4 rfl rfl ?_
  refine zt_get (pc' := 8) (v := .ref (X.1.1 + 2)) hX dX9_addByte_5 rfl zf_X9_15 (by decide) zc_1 zs_2 (zrf_of (zv_2_0 hI zc_1)) ?_
  refine zt_alen (pc' := 9) hX dX9_addByte_8 rfl (by decide) zc_2 zs_3 (by decide) ?_
  rw [show ((1600 : Nat) : Int) = 1600 from rfl]
  refine zt_icge (pc' := 12) (tgt := 33) hX dX9_addByte_9 rfl (by decide) ⟨by omega, by omega⟩ ⟨by omega, by omega⟩ (fun c2 => ?_) (fun c2 => ?_)
  · exact zt_vret hX hR dX9_addByte_33 ⟨hI, hF, by omega⟩
  · refine zt_aload_n (pc' := 13) hX dX9_addByte_12 rfl rfl ?_
    refine zt_get (pc' := 16) (v := .ref (X.1.1 + 2)) hX dX9_addByte_13 rfl zf_X9_15 (by decide) zc_1 zs_2 (zrf_of (zv_2_0 hI zc_1)) ?_
    refine zt_aload_n (pc' := 17) hX dX9_addByte_16 rfl rfl ?_
    refine zt_get (pc' := 20) (v := .int (zI (σ 1 1))) hX dX9_addByte_17 rfl zf_X9_9 (by decide) zc_1 zs_2 rfl ?_
    refine zt_iload_n (pc' := 21) hX dX9_addByte_20 rfl rfl ?_
    refine zt_i2b (pc' := 22) hX dX9_addByte_21 rfl (fun r3 er3 lr3 ur3 => ?_)
    refine zt_bast (pc' := 23) hX dX9_addByte_22 rfl (by decide) zc_2 zs_3 (by decide) ⟨by omega, by omega⟩ ⟨by omega, by omega⟩ ?_
    generalize hs5 : zset σ 2 ((σ 1 1).toNat) r3 = s4
    have hI6 : zInv s4 := hs5 ▸ zp_3 hI zc_2 ((σ 1 1).toNat) ⟨by omega, by omega⟩
    have hF7 : zFC σ s4 := hs5 ▸ zFC_set hF zc_2 (by decide) zkc_3 (Or.inl (by decide))
    refine zt_aload_n (pc' := 24) hX dX9_addByte_23 rfl rfl ?_
    refine zt_dup (pc' := 25) hX dX9_addByte_24 rfl rfl ?_
    have b8 := zv_2_1 hI6 zc_1
    have e9 : s4 1 1 = σ 1 1 := by rw [← hs5]; exact zset_k (zne_r zc_1 zc_2 (by decide))
    refine zt_get (pc' := 28) (v := .int (zI (s4 1 1))) hX dX9_addByte_25 rfl zf_X9_9 (by decide) zc_1 zs_2 rfl ?_
    refine zt_iconst (pc' := 29) hX dX9_addByte_28 rfl ?_
    refine zt_iadd (pc' := 30) hX dX9_addByte_29 rfl ?_
    refine zt_put (pc' := 33) (x := ((s4 1 1) + 1)) hX dX9_addByte_30 rfl zf_X9_9 (by decide) zc_1 zs_2 (fun q hq => by cases hq; rfl) rfl rfl rfl ?_
    generalize hs11 : zset s4 1 1 ((s4 1 1) + 1) = s10
    have hI12 : zInv s10 := hs11 ▸ zp_2_1 hI6 zc_1 ⟨by omega, by omega⟩
    have hF13 : zFC σ s10 := hs11 ▸ zFC_set hF7 zc_1 (by decide) zkc_2 (Or.inl (by decide))
    have e14 : s10 1 1 = ((s4 1 1) + 1) := by rw [← hs11]; exact zset_s
    exact zt_vret hX hR dX9_addByte_33 ⟨hI12, hF13, by omega⟩

set_option maxRecDepth 100000 in
set_option maxHeartbeats 4000000 in
theorem zc_X9_byteAt_2 (l : Launch) (E : zEN) (σ : zSto) (hI : zInv σ) (a1_ : Int) (ha1_ : -2147483648 ≤ a1_ ∧ a1_ ≤ 2147483647) : zCt l E yX9_byteAt cX9_byteAt 2 (some .int) 0 zNC zNC 0 0 σ [.ref (E.1 + 3), .int (zI a1_)] (fun r σ' => σ = σ' ∧ -1 ≤ r ∧ r ≤ 255) := by
  refine zCt_of2 [some (.ref (E.1 + 3)), some (.int (zI a1_))] (by decide +kernel) (Nat.le_of_ble_eq_true rfl) rfl ?_
  intro X hE hX hR hL hN
  subst hE
  have hX : zok X cX9_byteAt RX9 0 := hX
  refine zt_iload_n (pc' := 1) hX dX9_byteAt_0 rfl rfl ?_
  refine zt_iflt (pc' := 4) (tgt := 34) hX dX9_byteAt_1 rfl (by decide) ⟨by omega, by omega⟩ (fun c1 => ?_) (fun c1 => ?_)
  · refine zt_iconst (pc' := 35) hX dX9_byteAt_34 rfl ?_
    exact zt_iret hX hR dX9_byteAt_35 ⟨by omega, by omega⟩ ⟨rfl, by omega, by omega⟩
  · refine zt_iload_n (pc' := 5) hX dX9_byteAt_4 rfl rfl ?_
    refine zt_aload_n (pc' := 6) hX dX9_byteAt_5 rfl rfl ?_
    have b2 := zv_4_1 hI zc_3
    refine zt_get (pc' := 9) (v := .int (zI (σ 3 1))) hX dX9_byteAt_6 rfl zf_X9_9 (by decide) zc_3 zs_4 rfl ?_
    refine zt_icge (pc' := 12) (tgt := 34) hX dX9_byteAt_9 rfl (by decide) ⟨by omega, by omega⟩ ⟨by omega, by omega⟩ (fun c3 => ?_) (fun c3 => ?_)
    · refine zt_iconst (pc' := 35) hX dX9_byteAt_34 rfl ?_
      exact zt_iret hX hR dX9_byteAt_35 ⟨by omega, by omega⟩ ⟨rfl, by omega, by omega⟩
    · refine zt_iload_n (pc' := 13) hX dX9_byteAt_12 rfl rfl ?_
      refine zt_aload_n (pc' := 14) hX dX9_byteAt_13 rfl rfl ?_
      refine zt_get (pc' := 17) (v := .ref (X.1.1 + 4)) hX dX9_byteAt_14 rfl zf_X9_15 (by decide) zc_3 zs_4 (zrf_of (zv_4_0 hI zc_3)) ?_
      refine zt_alen (pc' := 18) hX dX9_byteAt_17 rfl (by decide) zc_4 zs_5 (by decide) ?_
      rw [show ((80 : Nat) : Int) = 80 from rfl]
      refine zt_icge (pc' := 21) (tgt := 34) hX dX9_byteAt_18 rfl (by decide) ⟨by omega, by omega⟩ ⟨by omega, by omega⟩ (fun c4 => ?_) (fun c4 => ?_)
      · exact absurd c4 (by omega)
      · refine zt_aload_n (pc' := 22) hX dX9_byteAt_21 rfl rfl ?_
        refine zt_get (pc' := 25) (v := .ref (X.1.1 + 4)) hX dX9_byteAt_22 rfl zf_X9_15 (by decide) zc_3 zs_4 (zrf_of (zv_4_0 hI zc_3)) ?_
        refine zt_iload_n (pc' := 26) hX dX9_byteAt_25 rfl rfl ?_
        refine zt_bald (pc' := 27) hX dX9_byteAt_26 rfl (by decide) zc_4 zs_5 (by decide) ⟨by omega, by omega⟩ ?_
        generalize hv5 : σ 4 (a1_.toNat) = v5
        have bv5 : -128 ≤ v5 ∧ v5 ≤ 127 := hv5 ▸ zv_5 hI zc_4 _
        refine zt_sipush (pc' := 30) hX dX9_byteAt_27 rfl (by decide) (by decide) ?_
        refine zt_iandm (pc' := 31) hX dX9_byteAt_30 rfl 8 (by decide +kernel) (by decide) (fun r6 er6 lr6 ur6 => ?_)
        have ur6 : r6 ≤ 255 := by omega
        refine zt_goto (tgt := 35) hX dX9_byteAt_31 (by decide) ?_
        exact zt_iret hX hR dX9_byteAt_35 ⟨by omega, by omega⟩ ⟨rfl, by omega, by omega⟩

set_option maxRecDepth 100000 in
set_option maxHeartbeats 4000000 in
theorem zc_X9_pairAt_2 (l : Launch) (E : zEN) (σ : zSto) (hI : zInv σ) (a1_ : Int) (ha1_ : -2147483648 ≤ a1_ ∧ a1_ ≤ 2147483647) : zCt l E yX9_pairAt cX9_pairAt 2 (some .int) 1 zNC zNC 0 0 σ [.ref (E.1 + 3), .int (zI a1_)] (fun r σ' => σ = σ' ∧ -2147483648 ≤ r ∧ r ≤ 2147483647) := by
  refine zCt_of2 [some (.ref (E.1 + 3)), some (.int (zI a1_))] (by decide +kernel) (Nat.le_of_ble_eq_true rfl) rfl ?_
  intro X hE hX hR hL hN
  subst hE
  have hX : zok X cX9_pairAt RX9 1 := hX
  refine zt_aload_n (pc' := 1) hX dX9_pairAt_0 rfl rfl ?_
  refine zt_iload_n (pc' := 2) hX dX9_pairAt_1 rfl rfl ?_
  refine zt_cVi (pc' := 5) hX dX9_pairAt_2 rfl zm_yX9_byteAt zw_57_5 zc_3 (by decide) zs_4 (q := (RX9, TX9, 2)) rfl rfl (zc_X9_byteAt_2 _ _ σ hI a1_ ⟨by omega, by omega⟩) rfl rfl (Nat.le_of_ble_eq_true rfl) (by decide) (fun r1 s2 hr3 hp4 => ?_)
  obtain ⟨rfl, q5, q6⟩ := hp4
  refine zt_bipush (pc' := 7) hX dX9_pairAt_5 rfl (by decide) (by decide) ?_
  refine zt_ishl (pc' := 8) hX dX9_pairAt_7 rfl (fun r7 zr7 lr7 ur7 => ?_)
  clear zr7
  refine zt_aload_n (pc' := 9) hX dX9_pairAt_8 rfl rfl ?_
  refine zt_iload_n (pc' := 10) hX dX9_pairAt_9 rfl rfl ?_
  refine zt_iconst (pc' := 11) hX dX9_pairAt_10 rfl ?_
  refine zt_iadd (pc' := 12) hX dX9_pairAt_11 rfl ?_
  refine zt_wrap (fun r8 zr8 lr8 ur8 => ?_)
  clear zr8
  refine zt_cVi (pc' := 15) hX dX9_pairAt_12 rfl zm_yX9_byteAt zw_57_5 zc_3 (by decide) zs_4 (q := (RX9, TX9, 2)) rfl rfl (zc_X9_byteAt_2 _ _ σ hI r8 ⟨by omega, by omega⟩) rfl rfl (Nat.le_of_ble_eq_true rfl) (by decide) (fun r9 s10 hr11 hp12 => ?_)
  obtain ⟨rfl, q13, q14⟩ := hp12
  refine zt_ior (pc' := 16) hX dX9_pairAt_15 rfl (fun r15 zr15 lr15 ur15 => ?_)
  clear zr15
  exact zt_iret hX hR dX9_pairAt_16 ⟨by omega, by omega⟩ ⟨rfl, by omega, by omega⟩

set_option maxRecDepth 100000 in
set_option maxHeartbeats 4000000 in
theorem zc_X9_checkOf_2 (l : Launch) (E : zEN) (σ : zSto) (hI : zInv σ) (a1_ : Int) (ha1_ : 0 ≤ a1_ ∧ a1_ ≤ 100) : zCt l E yX9_checkOf cX9_checkOf 4 (some .int) 1 zNC zNC 0 0 σ [.ref (E.1 + 3), .int (zI a1_)] (fun r σ' => σ = σ' ∧ -250 ≤ r ∧ r ≤ 250) := by
  refine zCt_of2 [some (.ref (E.1 + 3)), some (.int (zI a1_)), none, none] (by decide +kernel) (Nat.le_of_ble_eq_true rfl) rfl ?_
  intro X hE hX hR hL hN
  subst hE
  have hX : zok X cX9_checkOf RX9 1 := hX
  refine zt_bipush (pc' := 2) hX dX9_checkOf_0 rfl (by decide) (by decide) ?_
  refine zt_istore_n (pc' := 3) (lv' := [some (.ref (X.1.1 + 3)), some (.int (zI a1_)), some (.int (zI 127)), none]) hX dX9_checkOf_2 rfl hL (by decide) rfl ?_
  refine zt_iconst (pc' := 4) hX dX9_checkOf_3 rfl ?_
  refine zt_istore_n (pc' := 5) (lv' := [some (.ref (X.1.1 + 3)), some (.int (zI a1_)), some (.int (zI 127)), some (.int (zI 0))]) hX dX9_checkOf_4 rfl hL (by decide) rfl ?_
  have L_5_6 : ∀ (N : Nat) (x1 : Int) (x4 : Int), -250 ≤ x1 → x1 ≤ 250 → 0 ≤ x4 → x4 ≤ 100 → ((101 - x4).toNat) < N → zF X σ 5 [some (.ref (X.1.1 + 3)), some (.int (zI a1_)), some (.int (zI x1)), some (.int (zI x4))] [] := by
    intro N
    induction N with
    | zero =>
      intro x1 x4 h2 h3 h5 h6 hm8
      exact absurd hm8 (Nat.not_lt_zero _)
    | succ N ih9 =>
      intro x1 x4 h2 h3 h5 h6 hm8
      refine zt_iload_n (pc' := 6) hX dX9_checkOf_5 rfl rfl ?_
      refine zt_iload_n (pc' := 7) hX dX9_checkOf_6 rfl rfl ?_
      refine zt_icge (pc' := 10) (tgt := 30) hX dX9_checkOf_7 rfl (by decide) ⟨by omega, by omega⟩ ⟨by omega, by omega⟩ (fun c10 => ?_) (fun c10 => ?_)
      · refine zt_iload_n (pc' := 31) hX dX9_checkOf_30 rfl rfl ?_
        exact zt_iret hX hR dX9_checkOf_31 ⟨by omega, by omega⟩ ⟨rfl, by omega, by omega⟩
      · refine zt_iconst (pc' := 11) hX dX9_checkOf_10 rfl ?_
        refine zt_iload_n (pc' := 12) hX dX9_checkOf_11 rfl rfl ?_
        refine zt_imul (pc' := 13) hX dX9_checkOf_12 rfl ?_
        refine zt_wrap (fun r11 zr11 lr11 ur11 => ?_)
        clear zr11
        refine zt_aload_n (pc' := 14) hX dX9_checkOf_13 rfl rfl ?_
        refine zt_iload_n (pc' := 15) hX dX9_checkOf_14 rfl rfl ?_
        refine zt_cVi (pc' := 18) hX dX9_checkOf_15 rfl zm_yX9_byteAt zw_57_5 zc_3 (by decide) zs_4 (q := (RX9, TX9, 2)) rfl rfl (zc_X9_byteAt_2 _ _ σ hI x4 ⟨by omega, by omega⟩) rfl rfl (Nat.le_of_ble_eq_true rfl) (by decide) (fun r12 s13 hr14 hp15 => ?_)
        obtain ⟨rfl, q16, q17⟩ := hp15
        refine zt_iadd (pc' := 19) hX dX9_checkOf_18 rfl ?_
        refine zt_wrap (fun r18 zr18 lr18 ur18 => ?_)
        clear zr18
        refine zt_sipush (pc' := 22) hX dX9_checkOf_19 rfl (by decide) (by decide) ?_
        refine zt_irem (pc' := 23) hX dX9_checkOf_22 rfl ⟨by omega, by omega⟩ ⟨by omega, by omega⟩ (fun r19 er19 br19 nr19 => ?_)
        refine zt_istore_n (pc' := 24) (lv' := [some (.ref (X.1.1 + 3)), some (.int (zI a1_)), some (.int (zI r19)), some (.int (zI x4))]) hX dX9_checkOf_23 rfl hL (by decide) rfl ?_
        refine zt_iinc (pc' := 27) (lv' := [some (.ref (X.1.1 + 3)), some (.int (zI a1_)), some (.int (zI r19)), some (.int (zI (x4 + 1)))]) hX dX9_checkOf_24 rfl rfl hL (by decide) rfl ?_
        refine zt_goto (tgt := 5) hX dX9_checkOf_27 (by decide) ?_
        exact ih9 r19 (x4 + 1) (by omega) (by omega) (by omega) (by omega) (by omega)
  exact L_5_6 _ 127 0 (by omega) (by omega) (by omega) (by omega) (Nat.lt_succ_self _)

set_option maxRecDepth 100000 in
set_option maxHeartbeats 4000000 in
theorem zc_X9_addByte_2 (l : Launch) (E : zEN) (σ : zSto) (hI : zInv σ) (a1_ : Int) (ha1_ : -2147483648 ≤ a1_ ∧ a1_ ≤ 2147483647) : zCt l E yX9_addByte cX9_addByte 2 none 0 zNC zNC 0 0 σ [.ref (E.1 + 3), .int (zI a1_)] (fun r σ' => zInv σ' ∧ zFE σ σ' ∧ ((σ 3 1 < 80 → σ' 3 1 = σ 3 1 + 1) ∧ (¬ σ 3 1 < 80 → σ' 3 1 = σ 3 1))) := by
  refine zCt_of2 [some (.ref (E.1 + 3)), some (.int (zI a1_))] (by decide +kernel) (Nat.le_of_ble_eq_true rfl) rfl ?_
  intro X hE hX hR hL hN
  subst hE
  have hX : zok X cX9_addByte RX9 0 := hX
  have hF := zFE_rf σ
  refine zt_aload_n (pc' := 1) hX dX9_addByte_0 rfl rfl ?_
  have b1 := zv_4_1 hI zc_3
  refine zt_get (pc' := 4) (v := .int (zI (σ 3 1))) hX dX9_addByte_1 rfl zf_X9_9 (by decide) zc_3 zs_4 rfl ?_
  refine zt_aload_n (pc' := 5) hX dX9_addByte_4 rfl rfl ?_
  refine zt_get (pc' := 8) (v := .ref (X.1.1 + 4)) hX dX9_addByte_5 rfl zf_X9_15 (by decide) zc_3 zs_4 (zrf_of (zv_4_0 hI zc_3)) ?_
  refine zt_alen (pc' := 9) hX dX9_addByte_8 rfl (by decide) zc_4 zs_5 (by decide) ?_
  rw [show ((80 : Nat) : Int) = 80 from rfl]
  refine zt_icge (pc' := 12) (tgt := 33) hX dX9_addByte_9 rfl (by decide) ⟨by omega, by omega⟩ ⟨by omega, by omega⟩ (fun c2 => ?_) (fun c2 => ?_)
  · exact zt_vret hX hR dX9_addByte_33 ⟨hI, hF, by omega⟩
  · refine zt_aload_n (pc' := 13) hX dX9_addByte_12 rfl rfl ?_
    refine zt_get (pc' := 16) (v := .ref (X.1.1 + 4)) hX dX9_addByte_13 rfl zf_X9_15 (by decide) zc_3 zs_4 (zrf_of (zv_4_0 hI zc_3)) ?_
    refine zt_aload_n (pc' := 17) hX dX9_addByte_16 rfl rfl ?_
    refine zt_get (pc' := 20) (v := .int (zI (σ 3 1))) hX dX9_addByte_17 rfl zf_X9_9 (by decide) zc_3 zs_4 rfl ?_
    refine zt_iload_n (pc' := 21) hX dX9_addByte_20 rfl rfl ?_
    refine zt_i2b (pc' := 22) hX dX9_addByte_21 rfl (fun r3 er3 lr3 ur3 => ?_)
    refine zt_bast (pc' := 23) hX dX9_addByte_22 rfl (by decide) zc_4 zs_5 (by decide) ⟨by omega, by omega⟩ ⟨by omega, by omega⟩ ?_
    generalize hs5 : zset σ 4 ((σ 3 1).toNat) r3 = s4
    have hI6 : zInv s4 := hs5 ▸ zp_5 hI zc_4 ((σ 3 1).toNat) ⟨by omega, by omega⟩
    have hF7 : zFE σ s4 := hs5 ▸ zFE_set hF zc_4 (by decide) zke_5 (Or.inl (by decide)) (Or.inl (by decide))
    refine zt_aload_n (pc' := 24) hX dX9_addByte_23 rfl rfl ?_
    refine zt_dup (pc' := 25) hX dX9_addByte_24 rfl rfl ?_
    have b8 := zv_4_1 hI6 zc_3
    have e9 : s4 3 1 = σ 3 1 := by rw [← hs5]; exact zset_k (zne_r zc_3 zc_4 (by decide))
    refine zt_get (pc' := 28) (v := .int (zI (s4 3 1))) hX dX9_addByte_25 rfl zf_X9_9 (by decide) zc_3 zs_4 rfl ?_
    refine zt_iconst (pc' := 29) hX dX9_addByte_28 rfl ?_
    refine zt_iadd (pc' := 30) hX dX9_addByte_29 rfl ?_
    refine zt_put (pc' := 33) (x := ((s4 3 1) + 1)) hX dX9_addByte_30 rfl zf_X9_9 (by decide) zc_3 zs_4 (fun q hq => by cases hq; rfl) rfl rfl rfl ?_
    generalize hs11 : zset s4 3 1 ((s4 3 1) + 1) = s10
    have hI12 : zInv s10 := hs11 ▸ zp_4_1 hI6 zc_3 ⟨by omega, by omega⟩
    have hF13 : zFE σ s10 := hs11 ▸ zFE_set hF7 zc_3 (by decide) zke_4 (Or.inl (by decide)) (Or.inl (by decide))
    have e14 : s10 3 1 = ((s4 3 1) + 1) := by rw [← hs11]; exact zset_s
    exact zt_vret hX hR dX9_addByte_33 ⟨hI12, hF13, by omega⟩

set_option maxRecDepth 100000 in
set_option maxHeartbeats 4000000 in
theorem zc_X9_addNumber_1 (l : Launch) (E : zEN) (σ : zSto) (hI : zInv σ) (a1_ : Int) (ha1_ : -2147483648 ≤ a1_ ∧ a1_ ≤ 2147483647) : zCt l E yX9_addNumber cX9_addNumber 2 none 1 zNC zNC 0 0 σ [.ref (E.1 + 1), .int (zI a1_)] (fun r σ' => zInv σ' ∧ zFC σ σ' ∧ (σ 1 1 ≤ 1596 → σ' 1 1 = σ 1 1 + 4)) := by
  refine zCt_of2 [some (.ref (E.1 + 1)), some (.int (zI a1_))] (by decide +kernel) (Nat.le_of_ble_eq_true rfl) rfl ?_
  intro X hE hX hR hL hN
  subst hE
  have hX : zok X cX9_addNumber RX9 1 := hX
  have hF := zFC_rf σ
  refine zt_aload_n (pc' := 1) hX dX9_addNumber_0 rfl rfl ?_
  refine zt_iload_n (pc' := 2) hX dX9_addNumber_1 rfl rfl ?_
  refine zt_bipush (pc' := 4) hX dX9_addNumber_2 rfl (by decide) (by decide) ?_
  refine zt_ishr (pc' := 5) hX dX9_addNumber_4 rfl (fun r1 zr1 lr1 ur1 => ?_)
  clear zr1
  refine zt_cVv (pc' := 8) hX dX9_addNumber_5 rfl zm_yX9_addByte zw_14_11 zc_1 (by decide) zs_2 (q := (RX9, TX9, 2)) rfl rfl (zc_X9_addByte_1 _ _ σ hI r1 ⟨by omega, by omega⟩) rfl rfl (Nat.le_of_ble_eq_true rfl) (by decide) (fun r2 s3 hr4 hp5 => ?_)
  obtain ⟨hI6, hF7, z8⟩ := hp5
  have hF9 := zFC_tr hF hF7
  refine zt_aload_n (pc' := 9) hX dX9_addNumber_8 rfl rfl ?_
  refine zt_iload_n (pc' := 10) hX dX9_addNumber_9 rfl rfl ?_
  refine zt_bipush (pc' := 12) hX dX9_addNumber_10 rfl (by decide) (by decide) ?_
  refine zt_ishr (pc' := 13) hX dX9_addNumber_12 rfl (fun r10 zr10 lr10 ur10 => ?_)
  clear zr10
  refine zt_cVv (pc' := 16) hX dX9_addNumber_13 rfl zm_yX9_addByte zw_14_11 zc_1 (by decide) zs_2 (q := (RX9, TX9, 2)) rfl rfl (zc_X9_addByte_1 _ _ s3 hI6 r10 ⟨by omega, by omega⟩) rfl rfl (Nat.le_of_ble_eq_true rfl) (by decide) (fun r11 s12 hr13 hp14 => ?_)
  obtain ⟨hI15, hF16, z17⟩ := hp14
  have hF18 := zFC_tr hF9 hF16
  refine zt_aload_n (pc' := 17) hX dX9_addNumber_16 rfl rfl ?_
  refine zt_iload_n (pc' := 18) hX dX9_addNumber_17 rfl rfl ?_
  refine zt_bipush (pc' := 20) hX dX9_addNumber_18 rfl (by decide) (by decide) ?_
  refine zt_ishr (pc' := 21) hX dX9_addNumber_20 rfl (fun r19 zr19 lr19 ur19 => ?_)
  clear zr19
  refine zt_cVv (pc' := 24) hX dX9_addNumber_21 rfl zm_yX9_addByte zw_14_11 zc_1 (by decide) zs_2 (q := (RX9, TX9, 2)) rfl rfl (zc_X9_addByte_1 _ _ s12 hI15 r19 ⟨by omega, by omega⟩) rfl rfl (Nat.le_of_ble_eq_true rfl) (by decide) (fun r20 s21 hr22 hp23 => ?_)
  obtain ⟨hI24, hF25, z26⟩ := hp23
  have hF27 := zFC_tr hF18 hF25
  refine zt_aload_n (pc' := 25) hX dX9_addNumber_24 rfl rfl ?_
  refine zt_iload_n (pc' := 26) hX dX9_addNumber_25 rfl rfl ?_
  refine zt_cVv (pc' := 29) hX dX9_addNumber_26 rfl zm_yX9_addByte zw_14_11 zc_1 (by decide) zs_2 (q := (RX9, TX9, 2)) rfl rfl (zc_X9_addByte_1 _ _ s21 hI24 a1_ ⟨by omega, by omega⟩) rfl rfl (Nat.le_of_ble_eq_true rfl) (by decide) (fun r28 s29 hr30 hp31 => ?_)
  obtain ⟨hI32, hF33, z34⟩ := hp31
  have hF35 := zFC_tr hF27 hF33
  exact zt_vret hX hR dX9_addNumber_29 ⟨hI32, hF35, by omega⟩

set_option maxRecDepth 100000 in
set_option maxHeartbeats 4000000 in
theorem zc_X4_addNumber (l : Launch) (E : zEN) (σ : zSto) (hI : zInv σ) (k0_ : Nat) (hk0_ : zro k0_ = 6) (a1_ : Int) (ha1_ : -2147483648 ≤ a1_ ∧ a1_ ≤ 2147483647) : zCt l E yX4_addNumber cX4_addNumber 2 none 0 zNC zNC 0 0 σ [.ref (E.1 + k0_), .int (zI a1_)] (fun r σ' => zInv σ' ∧ zFA σ σ' ∧ (σ' 27 5 = σ 27 5)) := by
  refine zCt_of2 [some (.ref (E.1 + k0_)), some (.int (zI a1_))] (by decide +kernel) (Nat.le_of_ble_eq_true rfl) rfl ?_
  intro X hE hX hR hL hN
  subst hE
  have hX : zok X cX4_addNumber RX4 0 := hX
  have hF := zFA_rf σ
  have b1 := zv_14_5 hI zc_27
  refine zt_aload_n (pc' := 1) hX dX4_addNumber_0 rfl rfl ?_
  have b2 := zv_6_1 hI hk0_
  refine zt_get (pc' := 4) (v := .int (zI (σ k0_ 1))) hX dX4_addNumber_1 rfl zf_X4_15 (zro_lt hk0_ (by decide)) hk0_ zs_6 rfl ?_
  refine zt_aload_n (pc' := 5) hX dX4_addNumber_4 rfl rfl ?_
  refine zt_get (pc' := 8) (v := .ref (X.1.1 + (k0_ + 1))) hX dX4_addNumber_5 rfl zf_X4_9 (zro_lt hk0_ (by decide)) hk0_ zs_6 (zrf_of (zv_6_0 hI hk0_)) ?_
  refine zt_alen (pc' := 9) hX dX4_addNumber_8 rfl (zro_lt (zo_6_0 hk0_) (by decide)) (zo_6_0 hk0_) zs_7 (by decide) ?_
  rw [show ((1600 : Nat) : Int) = 1600 from rfl]
  refine zt_icge (pc' := 12) (tgt := 32) hX dX4_addNumber_9 rfl (by decide) ⟨by omega, by omega⟩ ⟨by omega, by omega⟩ (fun c3 => ?_) (fun c3 => ?_)
  · exact zt_vret hX hR dX4_addNumber_32 ⟨hI, hF, by omega⟩
  · refine zt_aload_n (pc' := 13) hX dX4_addNumber_12 rfl rfl ?_
    refine zt_get (pc' := 16) (v := .ref (X.1.1 + (k0_ + 1))) hX dX4_addNumber_13 rfl zf_X4_9 (zro_lt hk0_ (by decide)) hk0_ zs_6 (zrf_of (zv_6_0 hI hk0_)) ?_
    refine zt_aload_n (pc' := 17) hX dX4_addNumber_16 rfl rfl ?_
    refine zt_get (pc' := 20) (v := .int (zI (σ k0_ 1))) hX dX4_addNumber_17 rfl zf_X4_15 (zro_lt hk0_ (by decide)) hk0_ zs_6 rfl ?_
    refine zt_iload_n (pc' := 21) hX dX4_addNumber_20 rfl rfl ?_
    refine zt_iast (pc' := 22) hX dX4_addNumber_21 rfl (zro_lt (zo_6_0 hk0_) (by decide)) (zo_6_0 hk0_) zs_7 (by decide) ⟨by omega, by omega⟩ ?_
    generalize hs5 : zset σ (k0_ + 1) ((σ k0_ 1).toNat) a1_ = s4
    have hI6 : zInv s4 := hs5 ▸ zp_7 hI (zo_6_0 hk0_) ((σ k0_ 1).toNat) ⟨by omega, by omega⟩
    have hF7 : zFA σ s4 := hs5 ▸ zFA_set hF (zo_6_0 hk0_) (by decide) zk_7 (Or.inl (by decide))
    have e8 : s4 27 5 = σ 27 5 := by rw [← hs5]; exact zset_k (zne_r zc_27 (zo_6_0 hk0_) (by decide))
    refine zt_aload_n (pc' := 23) hX dX4_addNumber_22 rfl rfl ?_
    refine zt_dup (pc' := 24) hX dX4_addNumber_23 rfl rfl ?_
    have b9 := zv_6_1 hI6 hk0_
    have e10 : s4 k0_ 1 = σ k0_ 1 := by rw [← hs5]; exact zset_k (zne_r hk0_ (zo_6_0 hk0_) (by decide))
    refine zt_get (pc' := 27) (v := .int (zI (s4 k0_ 1))) hX dX4_addNumber_24 rfl zf_X4_15 (zro_lt hk0_ (by decide)) hk0_ zs_6 rfl ?_
    refine zt_iconst (pc' := 28) hX dX4_addNumber_27 rfl ?_
    refine zt_iadd (pc' := 29) hX dX4_addNumber_28 rfl ?_
    refine zt_put (pc' := 32) (x := ((s4 k0_ 1) + 1)) hX dX4_addNumber_29 rfl zf_X4_15 (zro_lt hk0_ (by decide)) hk0_ zs_6 (fun q hq => by cases hq; rfl) rfl rfl rfl ?_
    generalize hs12 : zset s4 k0_ 1 ((s4 k0_ 1) + 1) = s11
    have hI13 : zInv s11 := hs12 ▸ zp_6_1 hI6 hk0_ ⟨by omega, by omega⟩
    have hF14 : zFA σ s11 := hs12 ▸ zFA_set hF7 hk0_ (by decide) zk_6 (Or.inl (by decide))
    have e15 : s11 27 5 = s4 27 5 := by rw [← hs12]; exact zset_k (zne_r zc_27 hk0_ (by decide))
    exact zt_vret hX hR dX4_addNumber_32 ⟨hI13, hF14, by omega⟩

set_option maxRecDepth 100000 in
set_option maxHeartbeats 4000000 in
theorem zc_X4_addStep (l : Launch) (E : zEN) (σ : zSto) (hI : zInv σ) (k0_ : Nat) (hk0_ : zro k0_ = 6) (a1_ : Int) (ha1_ : -2147483648 ≤ a1_ ∧ a1_ ≤ 2147483647) : zCt l E yX4_addStep cX4_addStep 2 none 1 zNC zNC 0 0 σ [.ref (E.1 + k0_), .int (zI a1_)] (fun r σ' => zInv σ' ∧ zFA σ σ' ∧ (σ' 27 5 = σ 27 5)) := by
  refine zCt_of2 [some (.ref (E.1 + k0_)), some (.int (zI a1_))] (by decide +kernel) (Nat.le_of_ble_eq_true rfl) rfl ?_
  intro X hE hX hR hL hN
  subst hE
  have hX : zok X cX4_addStep RX4 1 := hX
  have hF := zFA_rf σ
  have b1 := zv_14_5 hI zc_27
  refine zt_aload_n (pc' := 1) hX dX4_addStep_0 rfl rfl ?_
  refine zt_iload_n (pc' := 2) hX dX4_addStep_1 rfl rfl ?_
  refine zt_iconst (pc' := 3) hX dX4_addStep_2 rfl ?_
  refine zt_ixor (pc' := 4) hX dX4_addStep_3 rfl (fun r2 zr2 lr2 ur2 => ?_)
  clear zr2
  refine zt_cVv (pc' := 7) hX dX4_addStep_4 rfl zm_yX4_addNumber zw_16_6 hk0_ (by decide) zs_6 (q := (RX4, TX4, 2)) rfl rfl (zc_X4_addNumber _ _ σ hI k0_ hk0_ r2 ⟨by omega, by omega⟩) rfl rfl (Nat.le_of_ble_eq_true rfl) (by decide) (fun r3 s4 hr5 hp6 => ?_)
  obtain ⟨hI7, hF8, z9⟩ := hp6
  have hF10 := zFA_tr hF hF8
  have b11 := zv_14_5 hI7 zc_27
  exact zt_vret hX hR dX4_addStep_7 ⟨hI7, hF10, by omega⟩

set_option maxRecDepth 100000 in
set_option maxHeartbeats 4000000 in
theorem zc_X4_setStep (l : Launch) (E : zEN) (σ : zSto) (hI : zInv σ) (k0_ : Nat) (hk0_ : zro k0_ = 6) (a1_ : Int) (ha1_ : -2147483648 ≤ a1_ ∧ a1_ ≤ 2147483647) : zCt l E yX4_setStep cX4_setStep 2 none 2 zNC zNC 0 0 σ [.ref (E.1 + k0_), .int (zI a1_)] (fun r σ' => zInv σ' ∧ zFA σ σ' ∧ (σ' 27 5 = σ 27 5)) := by
  refine zCt_of2 [some (.ref (E.1 + k0_)), some (.int (zI a1_))] (by decide +kernel) (Nat.le_of_ble_eq_true rfl) rfl ?_
  intro X hE hX hR hL hN
  subst hE
  have hX : zok X cX4_setStep RX4 2 := hX
  have hF := zFA_rf σ
  have b1 := zv_14_5 hI zc_27
  refine zt_aload_n (pc' := 1) hX dX4_setStep_0 rfl rfl ?_
  refine zt_iconst (pc' := 2) hX dX4_setStep_1 rfl ?_
  refine zt_put (pc' := 5) (x := 0) hX dX4_setStep_2 rfl zf_X4_15 (zro_lt hk0_ (by decide)) hk0_ zs_6 (fun q hq => by cases hq; rfl) rfl rfl rfl ?_
  generalize hs3 : zset σ k0_ 1 0 = s2
  have hI4 : zInv s2 := hs3 ▸ zp_6_1 hI hk0_ ⟨by omega, by omega⟩
  have hF5 : zFA σ s2 := hs3 ▸ zFA_set hF hk0_ (by decide) zk_6 (Or.inl (by decide))
  have e6 : s2 27 5 = σ 27 5 := by rw [← hs3]; exact zset_k (zne_r zc_27 hk0_ (by decide))
  refine zt_aload_n (pc' := 6) hX dX4_setStep_5 rfl rfl ?_
  refine zt_iload_n (pc' := 7) hX dX4_setStep_6 rfl rfl ?_
  refine zt_cVv (pc' := 10) hX dX4_setStep_7 rfl zm_yX4_addStep zw_16_2 hk0_ (by decide) zs_6 (q := (RX4, TX4, 2)) rfl rfl (zc_X4_addStep _ _ s2 hI4 k0_ hk0_ a1_ ⟨by omega, by omega⟩) rfl rfl (Nat.le_of_ble_eq_true rfl) (by decide) (fun r7 s8 hr9 hp10 => ?_)
  obtain ⟨hI11, hF12, z13⟩ := hp10
  have hF14 := zFA_tr hF5 hF12
  have b15 := zv_14_5 hI11 zc_27
  exact zt_vret hX hR dX4_setStep_10 ⟨hI11, hF14, by omega⟩

set_option maxRecDepth 100000 in
set_option maxHeartbeats 4000000 in
theorem zc_X4_hasStep (l : Launch) (E : zEN) (σ : zSto) (hI : zInv σ) (k0_ : Nat) (hk0_ : zro k0_ = 6) (a1_ : Int) (ha1_ : -2147483648 ≤ a1_ ∧ a1_ ≤ 2147483647) : zCt l E yX4_hasStep cX4_hasStep 3 (some .boolean) 0 zNC zNC 0 0 σ [.ref (E.1 + k0_), .int (zI a1_)] (fun r σ' => σ = σ' ∧ 0 ≤ r ∧ r ≤ 1) := by
  refine zCt_of2 [some (.ref (E.1 + k0_)), some (.int (zI a1_)), none] (by decide +kernel) (Nat.le_of_ble_eq_true rfl) rfl ?_
  intro X hE hX hR hL hN
  subst hE
  have hX : zok X cX4_hasStep RX4 0 := hX
  refine zt_iconst (pc' := 1) hX dX4_hasStep_0 rfl ?_
  refine zt_istore_n (pc' := 2) (lv' := [some (.ref (X.1.1 + k0_)), some (.int (zI a1_)), some (.int (zI 0))]) hX dX4_hasStep_1 rfl hL (by decide) rfl ?_
  have L_2_3 : ∀ (N : Nat) (x1 : Int), 0 ≤ x1 → x1 ≤ 1600 → ((1601 - x1).toNat) < N → zF X σ 2 [some (.ref (X.1.1 + k0_)), some (.int (zI a1_)), some (.int (zI x1))] [] := by
    intro N
    induction N with
    | zero =>
      intro x1 h2 h3 hm5
      exact absurd hm5 (Nat.not_lt_zero _)
    | succ N ih6 =>
      intro x1 h2 h3 hm5
      refine zt_iload_n (pc' := 3) hX dX4_hasStep_2 rfl rfl ?_
      refine zt_aload_n (pc' := 4) hX dX4_hasStep_3 rfl rfl ?_
      have b7 := zv_6_1 hI hk0_
      refine zt_get (pc' := 7) (v := .int (zI (σ k0_ 1))) hX dX4_hasStep_4 rfl zf_X4_15 (zro_lt hk0_ (by decide)) hk0_ zs_6 rfl ?_
      refine zt_icge (pc' := 10) (tgt := 30) hX dX4_hasStep_7 rfl (by decide) ⟨by omega, by omega⟩ ⟨by omega, by omega⟩ (fun c8 => ?_) (fun c8 => ?_)
      · refine zt_iconst (pc' := 31) hX dX4_hasStep_30 rfl ?_
        exact zt_zret hX hR dX4_hasStep_31 ⟨by omega, by omega⟩ ⟨rfl, by omega, by omega⟩
      · refine zt_aload_n (pc' := 11) hX dX4_hasStep_10 rfl rfl ?_
        refine zt_get (pc' := 14) (v := .ref (X.1.1 + (k0_ + 1))) hX dX4_hasStep_11 rfl zf_X4_9 (zro_lt hk0_ (by decide)) hk0_ zs_6 (zrf_of (zv_6_0 hI hk0_)) ?_
        refine zt_iload_n (pc' := 15) hX dX4_hasStep_14 rfl rfl ?_
        refine zt_iald (pc' := 16) hX dX4_hasStep_15 rfl (zro_lt (zo_6_0 hk0_) (by decide)) (zo_6_0 hk0_) zs_7 (by decide) ⟨by omega, by omega⟩ ?_
        generalize hv9 : σ (k0_ + 1) (x1.toNat) = v9
        have bv9 : -2147483648 ≤ v9 ∧ v9 ≤ 2147483647 := hv9 ▸ zv_7 hI (zo_6_0 hk0_) _
        refine zt_iload_n (pc' := 17) hX dX4_hasStep_16 rfl rfl ?_
        refine zt_iconst (pc' := 18) hX dX4_hasStep_17 rfl ?_
        refine zt_ixor (pc' := 19) hX dX4_hasStep_18 rfl (fun r10 zr10 lr10 ur10 => ?_)
        clear zr10
        refine zt_icne (pc' := 22) (tgt := 24) hX dX4_hasStep_19 rfl (by decide) ⟨by omega, by omega⟩ ⟨by omega, by omega⟩ (fun c11 => ?_) (fun c11 => ?_)
        · refine zt_iinc (pc' := 27) (lv' := [some (.ref (X.1.1 + k0_)), some (.int (zI a1_)), some (.int (zI (x1 + 1)))]) hX dX4_hasStep_24 rfl rfl hL (by decide) rfl ?_
          refine zt_goto (tgt := 2) hX dX4_hasStep_27 (by decide) ?_
          exact ih6 (x1 + 1) (by omega) (by omega) (by omega)
        · refine zt_iconst (pc' := 23) hX dX4_hasStep_22 rfl ?_
          exact zt_zret hX hR dX4_hasStep_23 ⟨by omega, by omega⟩ ⟨rfl, by omega, by omega⟩
  exact L_2_3 _ 0 (by omega) (by omega) (Nat.lt_succ_self _)

set_option maxRecDepth 100000 in
set_option maxHeartbeats 4000000 in
theorem zc_X3_isTold (l : Launch) (E : zEN) (σ : zSto) (hI : zInv σ) (k0_ : Nat) (hk0_ : zro k0_ = 8) : zCt l E yX3_isTold cX3_isTold 1 (some .boolean) 0 zNC zNC 0 0 σ [.ref (E.1 + k0_)] (fun r σ' => σ = σ' ∧ 0 ≤ r ∧ r ≤ 1) := by
  refine zCt_of2 [some (.ref (E.1 + k0_))] (by decide +kernel) (Nat.le_of_ble_eq_true rfl) rfl ?_
  intro X hE hX hR hL hN
  subst hE
  have hX : zok X cX3_isTold RX3 0 := hX
  refine zt_aload_n (pc' := 1) hX dX3_isTold_0 rfl rfl ?_
  have b1 := zv_8_10 hI hk0_
  refine zt_get (pc' := 4) (v := .int (zI (σ k0_ 10))) hX dX3_isTold_1 rfl zf_X3_47 (zro_lt hk0_ (by decide)) hk0_ zs_8 rfl ?_
  refine zt_ifle (pc' := 7) (tgt := 11) hX dX3_isTold_4 rfl (by decide) ⟨by omega, by omega⟩ (fun c2 => ?_) (fun c2 => ?_)
  · refine zt_iconst (pc' := 12) hX dX3_isTold_11 rfl ?_
    exact zt_zret hX hR dX3_isTold_12 ⟨by omega, by omega⟩ ⟨rfl, by omega, by omega⟩
  · refine zt_iconst (pc' := 8) hX dX3_isTold_7 rfl ?_
    refine zt_goto (tgt := 12) hX dX3_isTold_8 (by decide) ?_
    exact zt_zret hX hR dX3_isTold_12 ⟨by omega, by omega⟩ ⟨rfl, by omega, by omega⟩

set_option maxRecDepth 100000 in
set_option maxHeartbeats 4000000 in
theorem zc_X3_cells (l : Launch) (E : zEN) (σ : zSto) (hI : zInv σ) (k0_ : Nat) (hk0_ : zro k0_ = 8) : zCt l E yX3_cells cX3_cells 1 (some .int) 0 zNC zNC 0 0 σ [.ref (E.1 + k0_)] (fun r σ' => σ = σ' ∧ 0 ≤ r ∧ r ≤ 36) := by
  refine zCt_of2 [some (.ref (E.1 + k0_))] (by decide +kernel) (Nat.le_of_ble_eq_true rfl) rfl ?_
  intro X hE hX hR hL hN
  subst hE
  have hX : zok X cX3_cells RX3 0 := hX
  refine zt_aload_n (pc' := 1) hX dX3_cells_0 rfl rfl ?_
  have b1 := zv_8_10 hI hk0_
  refine zt_get (pc' := 4) (v := .int (zI (σ k0_ 10))) hX dX3_cells_1 rfl zf_X3_47 (zro_lt hk0_ (by decide)) hk0_ zs_8 rfl ?_
  refine zt_aload_n (pc' := 5) hX dX3_cells_4 rfl rfl ?_
  have b2 := zv_8_11 hI hk0_
  refine zt_get (pc' := 8) (v := .int (zI (σ k0_ 11))) hX dX3_cells_5 rfl zf_X3_51 (zro_lt hk0_ (by decide)) hk0_ zs_8 rfl ?_
  refine zt_imul (pc' := 9) hX dX3_cells_8 rfl ?_
  generalize hp3 : (σ k0_ 10) * (σ k0_ 11) = p3
  have bp3 : 0 ≤ p3 ∧ p3 ≤ 36 := hp3 ▸ zmul_b (a := 6) (b := 6) (by omega) (by omega) (by omega) (by omega)
  exact zt_iret hX hR dX3_cells_9 ⟨by omega, by omega⟩ ⟨rfl, by omega, by omega⟩

set_option maxRecDepth 100000 in
set_option maxHeartbeats 4000000 in
theorem zc_X3_cellAt (l : Launch) (E : zEN) (σ : zSto) (hI : zInv σ) (k0_ : Nat) (hk0_ : zro k0_ = 8) (a1_ : Int) (ha1_ : -1 ≤ a1_ ∧ a1_ ≤ 255) (a2_ : Int) (ha2_ : -1 ≤ a2_ ∧ a2_ ≤ 255) : zCt l E yX3_cellAt cX3_cellAt 3 (some .int) 0 zNC zNC 0 0 σ [.ref (E.1 + k0_), .int (zI a1_), .int (zI a2_)] (fun r σ' => σ = σ' ∧ -7 ≤ r ∧ r ≤ 1785 ∧ (0 ≤ a1_ ∧ a1_ ≤ 5 ∧ 0 ≤ a2_ ∧ a2_ ≤ 5 → 0 ≤ r ∧ r ≤ 35)) := by
  refine zCt_of2 [some (.ref (E.1 + k0_)), some (.int (zI a1_)), some (.int (zI a2_))] (by decide +kernel) (Nat.le_of_ble_eq_true rfl) rfl ?_
  intro X hE hX hR hL hN
  subst hE
  have hX : zok X cX3_cellAt RX3 0 := hX
  refine zt_iload_n (pc' := 1) hX dX3_cellAt_0 rfl rfl ?_
  refine zt_aload_n (pc' := 2) hX dX3_cellAt_1 rfl rfl ?_
  have b1 := zv_8_10 hI hk0_
  refine zt_get (pc' := 5) (v := .int (zI (σ k0_ 10))) hX dX3_cellAt_2 rfl zf_X3_47 (zro_lt hk0_ (by decide)) hk0_ zs_8 rfl ?_
  refine zt_imul (pc' := 6) hX dX3_cellAt_5 rfl ?_
  generalize hp2 : a2_ * (σ k0_ 10) = p2
  have cp2 : 0 ≤ a2_ ∧ a2_ ≤ 5 → 0 ≤ p2 ∧ p2 ≤ 30 := fun h => hp2 ▸ zmul_b (a := 5) (b := 6) h.1 h.2 (by omega) (by omega)
  have bp2 : -6 ≤ p2 ∧ p2 ≤ 1530 := hp2 ▸ zmul_s (lo := -1) (hi := 255) (b := 6) (by omega) (by omega) (by omega) (by omega) (by decide) (by decide)
  refine zt_iload_n (pc' := 7) hX dX3_cellAt_6 rfl rfl ?_
  refine zt_iadd (pc' := 8) hX dX3_cellAt_7 rfl ?_
  exact zt_iret hX hR dX3_cellAt_8 ⟨by omega, by omega⟩ ⟨rfl, by omega, by omega, by omega⟩

set_option maxRecDepth 100000 in
set_option maxHeartbeats 4000000 in
theorem zc_X3_hasCell (l : Launch) (E : zEN) (σ : zSto) (hI : zInv σ) (k0_ : Nat) (hk0_ : zro k0_ = 8) (a1_ : Int) (ha1_ : -2147483648 ≤ a1_ ∧ a1_ ≤ 2147483647) (a2_ : Int) (ha2_ : -2147483648 ≤ a2_ ∧ a2_ ≤ 2147483647) : zCt l E yX3_hasCell cX3_hasCell 3 (some .boolean) 0 zNC zNC 0 0 σ [.ref (E.1 + k0_), .int (zI a1_), .int (zI a2_)] (fun r σ' => σ = σ' ∧ 0 ≤ r ∧ r ≤ 1 ∧ (r = 1 → 0 ≤ a1_ ∧ a1_ < σ k0_ 10 ∧ 0 ≤ a2_ ∧ a2_ < σ k0_ 11 ∧ a1_ ≤ 5 ∧ a2_ ≤ 5)) := by
  refine zCt_of2 [some (.ref (E.1 + k0_)), some (.int (zI a1_)), some (.int (zI a2_))] (by decide +kernel) (Nat.le_of_ble_eq_true rfl) rfl ?_
  intro X hE hX hR hL hN
  subst hE
  have hX : zok X cX3_hasCell RX3 0 := hX
  refine zt_iload_n (pc' := 1) hX dX3_hasCell_0 rfl rfl ?_
  refine zt_iflt (pc' := 4) (tgt := 28) hX dX3_hasCell_1 rfl (by decide) ⟨by omega, by omega⟩ (fun c1 => ?_) (fun c1 => ?_)
  · refine zt_iconst (pc' := 29) hX dX3_hasCell_28 rfl ?_
    exact zt_zret hX hR dX3_hasCell_29 ⟨by omega, by omega⟩ ⟨rfl, by omega, by omega, by omega⟩
  · refine zt_iload_n (pc' := 5) hX dX3_hasCell_4 rfl rfl ?_
    refine zt_aload_n (pc' := 6) hX dX3_hasCell_5 rfl rfl ?_
    have b2 := zv_8_10 hI hk0_
    refine zt_get (pc' := 9) (v := .int (zI (σ k0_ 10))) hX dX3_hasCell_6 rfl zf_X3_47 (zro_lt hk0_ (by decide)) hk0_ zs_8 rfl ?_
    refine zt_icge (pc' := 12) (tgt := 28) hX dX3_hasCell_9 rfl (by decide) ⟨by omega, by omega⟩ ⟨by omega, by omega⟩ (fun c3 => ?_) (fun c3 => ?_)
    · refine zt_iconst (pc' := 29) hX dX3_hasCell_28 rfl ?_
      exact zt_zret hX hR dX3_hasCell_29 ⟨by omega, by omega⟩ ⟨rfl, by omega, by omega, by omega⟩
    · refine zt_iload_n (pc' := 13) hX dX3_hasCell_12 rfl rfl ?_
      refine zt_iflt (pc' := 16) (tgt := 28) hX dX3_hasCell_13 rfl (by decide) ⟨by omega, by omega⟩ (fun c4 => ?_) (fun c4 => ?_)
      · refine zt_iconst (pc' := 29) hX dX3_hasCell_28 rfl ?_
        exact zt_zret hX hR dX3_hasCell_29 ⟨by omega, by omega⟩ ⟨rfl, by omega, by omega, by omega⟩
      · refine zt_iload_n (pc' := 17) hX dX3_hasCell_16 rfl rfl ?_
        refine zt_aload_n (pc' := 18) hX dX3_hasCell_17 rfl rfl ?_
        have b5 := zv_8_11 hI hk0_
        refine zt_get (pc' := 21) (v := .int (zI (σ k0_ 11))) hX dX3_hasCell_18 rfl zf_X3_51 (zro_lt hk0_ (by decide)) hk0_ zs_8 rfl ?_
        refine zt_icge (pc' := 24) (tgt := 28) hX dX3_hasCell_21 rfl (by decide) ⟨by omega, by omega⟩ ⟨by omega, by omega⟩ (fun c6 => ?_) (fun c6 => ?_)
        · refine zt_iconst (pc' := 29) hX dX3_hasCell_28 rfl ?_
          exact zt_zret hX hR dX3_hasCell_29 ⟨by omega, by omega⟩ ⟨rfl, by omega, by omega, by omega⟩
        · refine zt_iconst (pc' := 25) hX dX3_hasCell_24 rfl ?_
          refine zt_goto (tgt := 29) hX dX3_hasCell_25 (by decide) ?_
          exact zt_zret hX hR dX3_hasCell_29 ⟨by omega, by omega⟩ ⟨rfl, by omega, by omega, by omega⟩

set_option maxRecDepth 100000 in
set_option maxHeartbeats 4000000 in
theorem zc_X3_hasPerson (l : Launch) (E : zEN) (σ : zSto) (hI : zInv σ) (k0_ : Nat) (hk0_ : zro k0_ = 8) (a1_ : Int) (ha1_ : -2147483648 ≤ a1_ ∧ a1_ ≤ 2147483647) : zCt l E yX3_hasPerson cX3_hasPerson 2 (some .boolean) 0 zNC zNC 0 0 σ [.ref (E.1 + k0_), .int (zI a1_)] (fun r σ' => σ = σ' ∧ 0 ≤ r ∧ r ≤ 1 ∧ (r = 1 → 0 ≤ a1_ ∧ a1_ < σ k0_ 12 ∧ a1_ ≤ 9)) := by
  refine zCt_of2 [some (.ref (E.1 + k0_)), some (.int (zI a1_))] (by decide +kernel) (Nat.le_of_ble_eq_true rfl) rfl ?_
  intro X hE hX hR hL hN
  subst hE
  have hX : zok X cX3_hasPerson RX3 0 := hX
  refine zt_iload_n (pc' := 1) hX dX3_hasPerson_0 rfl rfl ?_
  refine zt_iflt (pc' := 4) (tgt := 16) hX dX3_hasPerson_1 rfl (by decide) ⟨by omega, by omega⟩ (fun c1 => ?_) (fun c1 => ?_)
  · refine zt_iconst (pc' := 17) hX dX3_hasPerson_16 rfl ?_
    exact zt_zret hX hR dX3_hasPerson_17 ⟨by omega, by omega⟩ ⟨rfl, by omega, by omega, by omega⟩
  · refine zt_iload_n (pc' := 5) hX dX3_hasPerson_4 rfl rfl ?_
    refine zt_aload_n (pc' := 6) hX dX3_hasPerson_5 rfl rfl ?_
    have b2 := zv_8_12 hI hk0_
    refine zt_get (pc' := 9) (v := .int (zI (σ k0_ 12))) hX dX3_hasPerson_6 rfl zf_X3_54 (zro_lt hk0_ (by decide)) hk0_ zs_8 rfl ?_
    refine zt_icge (pc' := 12) (tgt := 16) hX dX3_hasPerson_9 rfl (by decide) ⟨by omega, by omega⟩ ⟨by omega, by omega⟩ (fun c3 => ?_) (fun c3 => ?_)
    · refine zt_iconst (pc' := 17) hX dX3_hasPerson_16 rfl ?_
      exact zt_zret hX hR dX3_hasPerson_17 ⟨by omega, by omega⟩ ⟨rfl, by omega, by omega, by omega⟩
    · refine zt_iconst (pc' := 13) hX dX3_hasPerson_12 rfl ?_
      refine zt_goto (tgt := 17) hX dX3_hasPerson_13 (by decide) ?_
      exact zt_zret hX hR dX3_hasPerson_17 ⟨by omega, by omega⟩ ⟨rfl, by omega, by omega, by omega⟩

set_option maxRecDepth 100000 in
set_option maxHeartbeats 4000000 in
theorem zc_X3_isNamed (l : Launch) (E : zEN) (σ : zSto) (hI : zInv σ) (k0_ : Nat) (hk0_ : zro k0_ = 8) (a1_ : Int) (ha1_ : -2147483648 ≤ a1_ ∧ a1_ ≤ 2147483647) : zCt l E yX3_isNamed cX3_isNamed 3 (some .boolean) 0 zNC zNC 0 0 σ [.ref (E.1 + k0_), .int (zI a1_)] (fun r σ' => σ = σ' ∧ 0 ≤ r ∧ r ≤ 1) := by
  refine zCt_of2 [some (.ref (E.1 + k0_)), some (.int (zI a1_)), none] (by decide +kernel) (Nat.le_of_ble_eq_true rfl) rfl ?_
  intro X hE hX hR hL hN
  subst hE
  have hX : zok X cX3_isNamed RX3 0 := hX
  refine zt_iconst (pc' := 1) hX dX3_isNamed_0 rfl ?_
  refine zt_istore_n (pc' := 2) (lv' := [some (.ref (X.1.1 + k0_)), some (.int (zI a1_)), some (.int (zI 0))]) hX dX3_isNamed_1 rfl hL (by decide) rfl ?_
  have L_2_3 : ∀ (N : Nat) (x1 : Int), 0 ≤ x1 → x1 ≤ 10 → ((11 - x1).toNat) < N → zF X σ 2 [some (.ref (X.1.1 + k0_)), some (.int (zI a1_)), some (.int (zI x1))] [] := by
    intro N
    induction N with
    | zero =>
      intro x1 h2 h3 hm5
      exact absurd hm5 (Nat.not_lt_zero _)
    | succ N ih6 =>
      intro x1 h2 h3 hm5
      refine zt_iload_n (pc' := 3) hX dX3_isNamed_2 rfl rfl ?_
      refine zt_aload_n (pc' := 4) hX dX3_isNamed_3 rfl rfl ?_
      have b7 := zv_8_12 hI hk0_
      refine zt_get (pc' := 7) (v := .int (zI (σ k0_ 12))) hX dX3_isNamed_4 rfl zf_X3_54 (zro_lt hk0_ (by decide)) hk0_ zs_8 rfl ?_
      refine zt_icge (pc' := 10) (tgt := 28) hX dX3_isNamed_7 rfl (by decide) ⟨by omega, by omega⟩ ⟨by omega, by omega⟩ (fun c8 => ?_) (fun c8 => ?_)
      · refine zt_iconst (pc' := 29) hX dX3_isNamed_28 rfl ?_
        exact zt_zret hX hR dX3_isNamed_29 ⟨by omega, by omega⟩ ⟨rfl, by omega, by omega⟩
      · refine zt_aload_n (pc' := 11) hX dX3_isNamed_10 rfl rfl ?_
        refine zt_get (pc' := 14) (v := .ref (X.1.1 + (k0_ + 2))) hX dX3_isNamed_11 rfl zf_X3_15 (zro_lt hk0_ (by decide)) hk0_ zs_8 (zrf_of (zv_8_1 hI hk0_)) ?_
        refine zt_iload_n (pc' := 15) hX dX3_isNamed_14 rfl rfl ?_
        refine zt_iald (pc' := 16) hX dX3_isNamed_15 rfl (zro_lt (zo_8_1 hk0_) (by decide)) (zo_8_1 hk0_) zs_10 (by decide) ⟨by omega, by omega⟩ ?_
        generalize hv9 : σ (k0_ + 2) (x1.toNat) = v9
        have bv9 : -2147483648 ≤ v9 ∧ v9 ≤ 2147483647 := hv9 ▸ zv_10 hI (zo_8_1 hk0_) _
        refine zt_iload_n (pc' := 17) hX dX3_isNamed_16 rfl rfl ?_
        refine zt_icne (pc' := 20) (tgt := 22) hX dX3_isNamed_17 rfl (by decide) ⟨by omega, by omega⟩ ⟨by omega, by omega⟩ (fun c10 => ?_) (fun c10 => ?_)
        · refine zt_iinc (pc' := 25) (lv' := [some (.ref (X.1.1 + k0_)), some (.int (zI a1_)), some (.int (zI (x1 + 1)))]) hX dX3_isNamed_22 rfl rfl hL (by decide) rfl ?_
          refine zt_goto (tgt := 2) hX dX3_isNamed_25 (by decide) ?_
          exact ih6 (x1 + 1) (by omega) (by omega) (by omega)
        · refine zt_iconst (pc' := 21) hX dX3_isNamed_20 rfl ?_
          exact zt_zret hX hR dX3_isNamed_21 ⟨by omega, by omega⟩ ⟨rfl, by omega, by omega⟩
  exact L_2_3 _ 0 (by omega) (by omega) (Nat.lt_succ_self _)

set_option maxRecDepth 100000 in
set_option maxHeartbeats 4000000 in
theorem zc_X3_isHome (l : Launch) (E : zEN) (σ : zSto) (hI : zInv σ) (k0_ : Nat) (hk0_ : zro k0_ = 8) (a1_ : Int) (ha1_ : -2147483648 ≤ a1_ ∧ a1_ ≤ 2147483647) (a2_ : Int) (ha2_ : -2147483648 ≤ a2_ ∧ a2_ ≤ 2147483647) : zCt l E yX3_isHome cX3_isHome 4 (some .boolean) 0 zNC zNC 0 0 σ [.ref (E.1 + k0_), .int (zI a1_), .int (zI a2_)] (fun r σ' => σ = σ' ∧ 0 ≤ r ∧ r ≤ 1) := by
  refine zCt_of2 [some (.ref (E.1 + k0_)), some (.int (zI a1_)), some (.int (zI a2_)), none] (by decide +kernel) (Nat.le_of_ble_eq_true rfl) rfl ?_
  intro X hE hX hR hL hN
  subst hE
  have hX : zok X cX3_isHome RX3 0 := hX
  refine zt_iconst (pc' := 1) hX dX3_isHome_0 rfl ?_
  refine zt_istore_n (pc' := 2) (lv' := [some (.ref (X.1.1 + k0_)), some (.int (zI a1_)), some (.int (zI a2_)), some (.int (zI 0))]) hX dX3_isHome_1 rfl hL (by decide) rfl ?_
  have L_2_3 : ∀ (N : Nat) (x1 : Int), 0 ≤ x1 → x1 ≤ 10 → ((11 - x1).toNat) < N → zF X σ 2 [some (.ref (X.1.1 + k0_)), some (.int (zI a1_)), some (.int (zI a2_)), some (.int (zI x1))] [] := by
    intro N
    induction N with
    | zero =>
      intro x1 h2 h3 hm5
      exact absurd hm5 (Nat.not_lt_zero _)
    | succ N ih6 =>
      intro x1 h2 h3 hm5
      refine zt_iload_n (pc' := 3) hX dX3_isHome_2 rfl rfl ?_
      refine zt_aload_n (pc' := 4) hX dX3_isHome_3 rfl rfl ?_
      have b7 := zv_8_12 hI hk0_
      refine zt_get (pc' := 7) (v := .int (zI (σ k0_ 12))) hX dX3_isHome_4 rfl zf_X3_54 (zro_lt hk0_ (by decide)) hk0_ zs_8 rfl ?_
      refine zt_icge (pc' := 10) (tgt := 38) hX dX3_isHome_7 rfl (by decide) ⟨by omega, by omega⟩ ⟨by omega, by omega⟩ (fun c8 => ?_) (fun c8 => ?_)
      · refine zt_iconst (pc' := 39) hX dX3_isHome_38 rfl ?_
        exact zt_zret hX hR dX3_isHome_39 ⟨by omega, by omega⟩ ⟨rfl, by omega, by omega⟩
      · refine zt_aload_n (pc' := 11) hX dX3_isHome_10 rfl rfl ?_
        refine zt_get (pc' := 14) (v := .ref (X.1.1 + (k0_ + 3))) hX dX3_isHome_11 rfl zf_X3_18 (zro_lt hk0_ (by decide)) hk0_ zs_8 (zrf_of (zv_8_2 hI hk0_)) ?_
        refine zt_iload_n (pc' := 15) hX dX3_isHome_14 rfl rfl ?_
        refine zt_iald (pc' := 16) hX dX3_isHome_15 rfl (zro_lt (zo_8_2 hk0_) (by decide)) (zo_8_2 hk0_) zs_11 (by decide) ⟨by omega, by omega⟩ ?_
        generalize hv9 : σ (k0_ + 3) (x1.toNat) = v9
        have bv9 : 0 ≤ v9 ∧ v9 ≤ 5 := hv9 ▸ zv_11 hI (zo_8_2 hk0_) _
        refine zt_iload_n (pc' := 17) hX dX3_isHome_16 rfl rfl ?_
        have J_32_9 : zF X σ 32 [some (.ref (X.1.1 + k0_)), some (.int (zI a1_)), some (.int (zI a2_)), some (.int (zI x1))] [] := by
          refine zt_iinc (pc' := 35) (lv' := [some (.ref (X.1.1 + k0_)), some (.int (zI a1_)), some (.int (zI a2_)), some (.int (zI (x1 + 1)))]) hX dX3_isHome_32 rfl rfl hL (by decide) rfl ?_
          refine zt_goto (tgt := 2) hX dX3_isHome_35 (by decide) ?_
          exact ih6 (x1 + 1) (by omega) (by omega) (by omega)
        refine zt_icne (pc' := 20) (tgt := 32) hX dX3_isHome_17 rfl (by decide) ⟨by omega, by omega⟩ ⟨by omega, by omega⟩ (fun c11 => ?_) (fun c11 => ?_)
        · exact J_32_9
        · refine zt_aload_n (pc' := 21) hX dX3_isHome_20 rfl rfl ?_
          refine zt_get (pc' := 24) (v := .ref (X.1.1 + (k0_ + 4))) hX dX3_isHome_21 rfl zf_X3_21 (zro_lt hk0_ (by decide)) hk0_ zs_8 (zrf_of (zv_8_3 hI hk0_)) ?_
          refine zt_iload_n (pc' := 25) hX dX3_isHome_24 rfl rfl ?_
          refine zt_iald (pc' := 26) hX dX3_isHome_25 rfl (zro_lt (zo_8_3 hk0_) (by decide)) (zo_8_3 hk0_) zs_12 (by decide) ⟨by omega, by omega⟩ ?_
          generalize hv12 : σ (k0_ + 4) (x1.toNat) = v12
          have bv12 : 0 ≤ v12 ∧ v12 ≤ 5 := hv12 ▸ zv_12 hI (zo_8_3 hk0_) _
          refine zt_iload_n (pc' := 27) hX dX3_isHome_26 rfl rfl ?_
          refine zt_icne (pc' := 30) (tgt := 32) hX dX3_isHome_27 rfl (by decide) ⟨by omega, by omega⟩ ⟨by omega, by omega⟩ (fun c13 => ?_) (fun c13 => ?_)
          · exact J_32_9
          · refine zt_iconst (pc' := 31) hX dX3_isHome_30 rfl ?_
            exact zt_zret hX hR dX3_isHome_31 ⟨by omega, by omega⟩ ⟨rfl, by omega, by omega⟩
  exact L_2_3 _ 0 (by omega) (by omega) (Nat.lt_succ_self _)

set_option maxRecDepth 100000 in
set_option maxHeartbeats 4000000 in
theorem zc_X3_addPerson (l : Launch) (E : zEN) (σ : zSto) (hI : zInv σ) (k0_ : Nat) (hk0_ : zro k0_ = 8) (a1_ : Int) (ha1_ : -2147483648 ≤ a1_ ∧ a1_ ≤ 2147483647) (a2_ : Int) (ha2_ : 0 ≤ a2_ ∧ a2_ ≤ 5) (a3_ : Int) (ha3_ : 0 ≤ a3_ ∧ a3_ ≤ 5) (a4_ : Int) (ha4_ : 0 ≤ a4_ ∧ a4_ ≤ 99) : zCt l E yX3_addPerson cX3_addPerson 5 none 0 zNC zNC 0 0 σ [.ref (E.1 + k0_), .int (zI a1_), .int (zI a2_), .int (zI a3_), .int (zI a4_)] (fun r σ' => zInv σ' ∧ zFA σ σ' ∧ (σ' 27 5 = σ 27 5)) := by
  refine zCt_of2 [some (.ref (E.1 + k0_)), some (.int (zI a1_)), some (.int (zI a2_)), some (.int (zI a3_)), some (.int (zI a4_))] (by decide +kernel) (Nat.le_of_ble_eq_true rfl) rfl ?_
  intro X hE hX hR hL hN
  subst hE
  have hX : zok X cX3_addPerson RX3 0 := hX
  have hF := zFA_rf σ
  have b1 := zv_14_5 hI zc_27
  refine zt_aload_n (pc' := 1) hX dX3_addPerson_0 rfl rfl ?_
  have b2 := zv_8_12 hI hk0_
  refine zt_get (pc' := 4) (v := .int (zI (σ k0_ 12))) hX dX3_addPerson_1 rfl zf_X3_54 (zro_lt hk0_ (by decide)) hk0_ zs_8 rfl ?_
  refine zt_bipush (pc' := 6) hX dX3_addPerson_4 rfl (by decide) (by decide) ?_
  refine zt_icge (pc' := 9) (tgt := 60) hX dX3_addPerson_6 rfl (by decide) ⟨by omega, by omega⟩ ⟨by omega, by omega⟩ (fun c3 => ?_) (fun c3 => ?_)
  · exact zt_vret hX hR dX3_addPerson_60 ⟨hI, hF, by omega⟩
  · refine zt_aload_n (pc' := 10) hX dX3_addPerson_9 rfl rfl ?_
    refine zt_get (pc' := 13) (v := .ref (X.1.1 + (k0_ + 2))) hX dX3_addPerson_10 rfl zf_X3_15 (zro_lt hk0_ (by decide)) hk0_ zs_8 (zrf_of (zv_8_1 hI hk0_)) ?_
    refine zt_aload_n (pc' := 14) hX dX3_addPerson_13 rfl rfl ?_
    refine zt_get (pc' := 17) (v := .int (zI (σ k0_ 12))) hX dX3_addPerson_14 rfl zf_X3_54 (zro_lt hk0_ (by decide)) hk0_ zs_8 rfl ?_
    refine zt_iload_n (pc' := 18) hX dX3_addPerson_17 rfl rfl ?_
    refine zt_iast (pc' := 19) hX dX3_addPerson_18 rfl (zro_lt (zo_8_1 hk0_) (by decide)) (zo_8_1 hk0_) zs_10 (by decide) ⟨by omega, by omega⟩ ?_
    generalize hs5 : zset σ (k0_ + 2) ((σ k0_ 12).toNat) a1_ = s4
    have hI6 : zInv s4 := hs5 ▸ zp_10 hI (zo_8_1 hk0_) ((σ k0_ 12).toNat) ⟨by omega, by omega⟩
    have hF7 : zFA σ s4 := hs5 ▸ zFA_set hF (zo_8_1 hk0_) (by decide) zk_10 (Or.inl (by decide))
    have e8 : s4 27 5 = σ 27 5 := by rw [← hs5]; exact zset_k (zne_r zc_27 (zo_8_1 hk0_) (by decide))
    refine zt_aload_n (pc' := 20) hX dX3_addPerson_19 rfl rfl ?_
    refine zt_get (pc' := 23) (v := .ref (X.1.1 + (k0_ + 3))) hX dX3_addPerson_20 rfl zf_X3_18 (zro_lt hk0_ (by decide)) hk0_ zs_8 (zrf_of (zv_8_2 hI6 hk0_)) ?_
    refine zt_aload_n (pc' := 24) hX dX3_addPerson_23 rfl rfl ?_
    have b9 := zv_8_12 hI6 hk0_
    have e10 : s4 k0_ 12 = σ k0_ 12 := by rw [← hs5]; exact zset_k (zne_r hk0_ (zo_8_1 hk0_) (by decide))
    refine zt_get (pc' := 27) (v := .int (zI (s4 k0_ 12))) hX dX3_addPerson_24 rfl zf_X3_54 (zro_lt hk0_ (by decide)) hk0_ zs_8 rfl ?_
    refine zt_iload_n (pc' := 28) hX dX3_addPerson_27 rfl rfl ?_
    refine zt_iast (pc' := 29) hX dX3_addPerson_28 rfl (zro_lt (zo_8_2 hk0_) (by decide)) (zo_8_2 hk0_) zs_11 (by decide) ⟨by omega, by omega⟩ ?_
    generalize hs12 : zset s4 (k0_ + 3) ((s4 k0_ 12).toNat) a2_ = s11
    have hI13 : zInv s11 := hs12 ▸ zp_11 hI6 (zo_8_2 hk0_) ((s4 k0_ 12).toNat) ⟨by omega, by omega⟩
    have hF14 : zFA σ s11 := hs12 ▸ zFA_set hF7 (zo_8_2 hk0_) (by decide) zk_11 (Or.inl (by decide))
    have e15 : s11 27 5 = s4 27 5 := by rw [← hs12]; exact zset_k (zne_r zc_27 (zo_8_2 hk0_) (by decide))
    refine zt_aload_n (pc' := 30) hX dX3_addPerson_29 rfl rfl ?_
    refine zt_get (pc' := 33) (v := .ref (X.1.1 + (k0_ + 4))) hX dX3_addPerson_30 rfl zf_X3_21 (zro_lt hk0_ (by decide)) hk0_ zs_8 (zrf_of (zv_8_3 hI13 hk0_)) ?_
    refine zt_aload_n (pc' := 34) hX dX3_addPerson_33 rfl rfl ?_
    have b16 := zv_8_12 hI13 hk0_
    have e17 : s11 k0_ 12 = s4 k0_ 12 := by rw [← hs12]; exact zset_k (zne_r hk0_ (zo_8_2 hk0_) (by decide))
    refine zt_get (pc' := 37) (v := .int (zI (s11 k0_ 12))) hX dX3_addPerson_34 rfl zf_X3_54 (zro_lt hk0_ (by decide)) hk0_ zs_8 rfl ?_
    refine zt_iload_n (pc' := 38) hX dX3_addPerson_37 rfl rfl ?_
    refine zt_iast (pc' := 39) hX dX3_addPerson_38 rfl (zro_lt (zo_8_3 hk0_) (by decide)) (zo_8_3 hk0_) zs_12 (by decide) ⟨by omega, by omega⟩ ?_
    generalize hs19 : zset s11 (k0_ + 4) ((s11 k0_ 12).toNat) a3_ = s18
    have hI20 : zInv s18 := hs19 ▸ zp_12 hI13 (zo_8_3 hk0_) ((s11 k0_ 12).toNat) ⟨by omega, by omega⟩
    have hF21 : zFA σ s18 := hs19 ▸ zFA_set hF14 (zo_8_3 hk0_) (by decide) zk_12 (Or.inl (by decide))
    have e22 : s18 27 5 = s11 27 5 := by rw [← hs19]; exact zset_k (zne_r zc_27 (zo_8_3 hk0_) (by decide))
    refine zt_aload_n (pc' := 40) hX dX3_addPerson_39 rfl rfl ?_
    refine zt_get (pc' := 43) (v := .ref (X.1.1 + (k0_ + 5))) hX dX3_addPerson_40 rfl zf_X3_24 (zro_lt hk0_ (by decide)) hk0_ zs_8 (zrf_of (zv_8_4 hI20 hk0_)) ?_
    refine zt_aload_n (pc' := 44) hX dX3_addPerson_43 rfl rfl ?_
    have b23 := zv_8_12 hI20 hk0_
    have e24 : s18 k0_ 12 = s11 k0_ 12 := by rw [← hs19]; exact zset_k (zne_r hk0_ (zo_8_3 hk0_) (by decide))
    refine zt_get (pc' := 47) (v := .int (zI (s18 k0_ 12))) hX dX3_addPerson_44 rfl zf_X3_54 (zro_lt hk0_ (by decide)) hk0_ zs_8 rfl ?_
    refine zt_iload (pc' := 49) hX dX3_addPerson_47 rfl rfl ?_
    refine zt_iast (pc' := 50) hX dX3_addPerson_49 rfl (zro_lt (zo_8_4 hk0_) (by decide)) (zo_8_4 hk0_) zs_13 (by decide) ⟨by omega, by omega⟩ ?_
    generalize hs26 : zset s18 (k0_ + 5) ((s18 k0_ 12).toNat) a4_ = s25
    have hI27 : zInv s25 := hs26 ▸ zp_13 hI20 (zo_8_4 hk0_) ((s18 k0_ 12).toNat) ⟨by omega, by omega⟩
    have hF28 : zFA σ s25 := hs26 ▸ zFA_set hF21 (zo_8_4 hk0_) (by decide) zk_13 (Or.inl (by decide))
    have e29 : s25 27 5 = s18 27 5 := by rw [← hs26]; exact zset_k (zne_r zc_27 (zo_8_4 hk0_) (by decide))
    refine zt_aload_n (pc' := 51) hX dX3_addPerson_50 rfl rfl ?_
    refine zt_dup (pc' := 52) hX dX3_addPerson_51 rfl rfl ?_
    have b30 := zv_8_12 hI27 hk0_
    have e31 : s25 k0_ 12 = s18 k0_ 12 := by rw [← hs26]; exact zset_k (zne_r hk0_ (zo_8_4 hk0_) (by decide))
    refine zt_get (pc' := 55) (v := .int (zI (s25 k0_ 12))) hX dX3_addPerson_52 rfl zf_X3_54 (zro_lt hk0_ (by decide)) hk0_ zs_8 rfl ?_
    refine zt_iconst (pc' := 56) hX dX3_addPerson_55 rfl ?_
    refine zt_iadd (pc' := 57) hX dX3_addPerson_56 rfl ?_
    refine zt_put (pc' := 60) (x := ((s25 k0_ 12) + 1)) hX dX3_addPerson_57 rfl zf_X3_54 (zro_lt hk0_ (by decide)) hk0_ zs_8 (fun q hq => by cases hq; rfl) rfl rfl rfl ?_
    generalize hs33 : zset s25 k0_ 12 ((s25 k0_ 12) + 1) = s32
    have hI34 : zInv s32 := hs33 ▸ zp_8_12 hI27 hk0_ ⟨by omega, by omega⟩
    have hF35 : zFA σ s32 := hs33 ▸ zFA_set hF28 hk0_ (by decide) zk_8 (Or.inl (by decide))
    have e36 : s32 27 5 = s25 27 5 := by rw [← hs33]; exact zset_k (zne_r zc_27 hk0_ (by decide))
    exact zt_vret hX hR dX3_addPerson_60 ⟨hI34, hF35, by omega⟩

set_option maxRecDepth 100000 in
set_option maxHeartbeats 4000000 in
theorem zc_X3_setSides (l : Launch) (E : zEN) (σ : zSto) (hI : zInv σ) (k0_ : Nat) (hk0_ : zro k0_ = 8) (a1_ : Int) (ha1_ : 0 ≤ a1_ ∧ a1_ ≤ 6) (a2_ : Int) (ha2_ : 0 ≤ a2_ ∧ a2_ ≤ 6) : zCt l E yX3_setSides cX3_setSides 3 none 0 zNC zNC 0 0 σ [.ref (E.1 + k0_), .int (zI a1_), .int (zI a2_)] (fun r σ' => zInv σ' ∧ zFA σ σ' ∧ (σ' 27 5 = σ 27 5)) := by
  refine zCt_of2 [some (.ref (E.1 + k0_)), some (.int (zI a1_)), some (.int (zI a2_))] (by decide +kernel) (Nat.le_of_ble_eq_true rfl) rfl ?_
  intro X hE hX hR hL hN
  subst hE
  have hX : zok X cX3_setSides RX3 0 := hX
  have hF := zFA_rf σ
  have b1 := zv_14_5 hI zc_27
  refine zt_aload_n (pc' := 1) hX dX3_setSides_0 rfl rfl ?_
  refine zt_iload_n (pc' := 2) hX dX3_setSides_1 rfl rfl ?_
  refine zt_put (pc' := 5) (x := a1_) hX dX3_setSides_2 rfl zf_X3_47 (zro_lt hk0_ (by decide)) hk0_ zs_8 (fun q hq => by cases hq; rfl) rfl rfl rfl ?_
  generalize hs3 : zset σ k0_ 10 a1_ = s2
  have hI4 : zInv s2 := hs3 ▸ zp_8_10 hI hk0_ ⟨by omega, by omega⟩
  have hF5 : zFA σ s2 := hs3 ▸ zFA_set hF hk0_ (by decide) zk_8 (Or.inl (by decide))
  have e6 : s2 27 5 = σ 27 5 := by rw [← hs3]; exact zset_k (zne_r zc_27 hk0_ (by decide))
  refine zt_aload_n (pc' := 6) hX dX3_setSides_5 rfl rfl ?_
  refine zt_iload_n (pc' := 7) hX dX3_setSides_6 rfl rfl ?_
  refine zt_put (pc' := 10) (x := a2_) hX dX3_setSides_7 rfl zf_X3_51 (zro_lt hk0_ (by decide)) hk0_ zs_8 (fun q hq => by cases hq; rfl) rfl rfl rfl ?_
  generalize hs8 : zset s2 k0_ 11 a2_ = s7
  have hI9 : zInv s7 := hs8 ▸ zp_8_11 hI4 hk0_ ⟨by omega, by omega⟩
  have hF10 : zFA σ s7 := hs8 ▸ zFA_set hF5 hk0_ (by decide) zk_8 (Or.inl (by decide))
  have e11 : s7 27 5 = s2 27 5 := by rw [← hs8]; exact zset_k (zne_r zc_27 hk0_ (by decide))
  exact zt_vret hX hR dX3_setSides_10 ⟨hI9, hF10, by omega⟩

set_option maxRecDepth 100000 in
set_option maxHeartbeats 4000000 in
theorem zc_X3_clear (l : Launch) (E : zEN) (σ : zSto) (hI : zInv σ) (k0_ : Nat) (hk0_ : zro k0_ = 8) : zCt l E yX3_clear cX3_clear 2 none 3 zNC zNC 0 0 σ [.ref (E.1 + k0_)] (fun r σ' => zInv σ' ∧ zFA σ σ') := by
  refine zCt_of2 [some (.ref (E.1 + k0_)), none] (by decide +kernel) (Nat.le_of_ble_eq_true rfl) rfl ?_
  intro X hE hX hR hL hN
  subst hE
  have hX : zok X cX3_clear RX3 3 := hX
  have hF := zFA_rf σ
  refine zt_iconst (pc' := 1) hX dX3_clear_0 rfl ?_
  refine zt_istore_n (pc' := 2) (lv' := [some (.ref (X.1.1 + k0_)), some (.int (zI 0))]) hX dX3_clear_1 rfl hL (by decide) rfl ?_
  have L_2_6 : ∀ (N : Nat) (x1 : Int) (s4 : zSto), 0 ≤ x1 → x1 ≤ 36 → zInv s4 → zFA σ s4 → ((37 - x1).toNat) < N → zF X s4 2 [some (.ref (X.1.1 + k0_)), some (.int (zI x1))] [] := by
    intro N
    induction N with
    | zero =>
      intro x1 s4 h2 h3 hI5 hF6 hm8
      exact absurd hm8 (Nat.not_lt_zero _)
    | succ N ih9 =>
      intro x1 s4 h2 h3 hI5 hF6 hm8
      refine zt_iload_n (pc' := 3) hX dX3_clear_2 rfl rfl ?_
      refine zt_bipush (pc' := 5) hX dX3_clear_3 rfl (by decide) (by decide) ?_
      refine zt_icge (pc' := 8) (tgt := 21) hX dX3_clear_5 rfl (by decide) ⟨by omega, by omega⟩ ⟨by omega, by omega⟩ (fun c10 => ?_) (fun c10 => ?_)
      · refine zt_aload_n (pc' := 22) hX dX3_clear_21 rfl rfl ?_
        refine zt_get (pc' := 25) (v := .ref (X.1.1 + (k0_ + 6))) hX dX3_clear_22 rfl zf_X3_30 (zro_lt hk0_ (by decide)) hk0_ zs_8 (zrf_of (zv_8_5 hI5 hk0_)) ?_
        refine zt_bipush (pc' := 27) hX dX3_clear_25 rfl (by decide) (by decide) ?_
        refine zt_cVv (pc' := 30) hX dX3_clear_27 rfl zm_yX4_setStep zw_15_22 (zo_8_5 hk0_) (by decide) zs_6 (q := (RX4, TX4, 2)) rfl rfl (zc_X4_setStep _ _ s4 hI5 (k0_ + 6) (zo_8_5 hk0_) 14 ⟨by omega, by omega⟩) rfl rfl (Nat.le_of_ble_eq_true rfl) (by decide) (fun r11 s12 hr13 hp14 => ?_)
        obtain ⟨hI15, hF16, z17⟩ := hp14
        have hF18 := zFA_tr hF6 hF16
        refine zt_aload_n (pc' := 31) hX dX3_clear_30 rfl rfl ?_
        refine zt_get (pc' := 34) (v := .ref (X.1.1 + (k0_ + 8))) hX dX3_clear_31 rfl zf_X3_34 (zro_lt hk0_ (by decide)) hk0_ zs_8 (zrf_of (zv_8_6 hI15 hk0_)) ?_
        refine zt_bipush (pc' := 36) hX dX3_clear_34 rfl (by decide) (by decide) ?_
        refine zt_cVv (pc' := 39) hX dX3_clear_36 rfl zm_yX4_setStep zw_15_22 (zo_8_6 hk0_) (by decide) zs_6 (q := (RX4, TX4, 2)) rfl rfl (zc_X4_setStep _ _ s12 hI15 (k0_ + 8) (zo_8_6 hk0_) 24 ⟨by omega, by omega⟩) rfl rfl (Nat.le_of_ble_eq_true rfl) (by decide) (fun r19 s20 hr21 hp22 => ?_)
        obtain ⟨hI23, hF24, z25⟩ := hp22
        have hF26 := zFA_tr hF18 hF24
        refine zt_aload_n (pc' := 40) hX dX3_clear_39 rfl rfl ?_
        refine zt_iconst (pc' := 41) hX dX3_clear_40 rfl ?_
        refine zt_put (pc' := 44) (x := 0) hX dX3_clear_41 rfl zf_X3_37 (zro_lt hk0_ (by decide)) hk0_ zs_8 (fun q hq => by cases hq; rfl) rfl (zfit_z (by omega) (by omega)).1 (zfit_z (by omega) (by omega)).2 ?_
        generalize hs28 : zset s20 k0_ 7 0 = s27
        have hI29 : zInv s27 := hs28 ▸ zp_8_7 hI23 hk0_ ⟨by omega, by omega⟩
        have hF30 : zFA σ s27 := hs28 ▸ zFA_set hF26 hk0_ (by decide) zk_8 (Or.inl (by decide))
        refine zt_aload_n (pc' := 45) hX dX3_clear_44 rfl rfl ?_
        refine zt_iconst (pc' := 46) hX dX3_clear_45 rfl ?_
        refine zt_put (pc' := 49) (x := 0) hX dX3_clear_46 rfl zf_X3_41 (zro_lt hk0_ (by decide)) hk0_ zs_8 (fun q hq => by cases hq; rfl) rfl (zfit_z (by omega) (by omega)).1 (zfit_z (by omega) (by omega)).2 ?_
        generalize hs32 : zset s27 k0_ 8 0 = s31
        have hI33 : zInv s31 := hs32 ▸ zp_8_8 hI29 hk0_ ⟨by omega, by omega⟩
        have hF34 : zFA σ s31 := hs32 ▸ zFA_set hF30 hk0_ (by decide) zk_8 (Or.inl (by decide))
        refine zt_aload_n (pc' := 50) hX dX3_clear_49 rfl rfl ?_
        refine zt_iconst (pc' := 51) hX dX3_clear_50 rfl ?_
        refine zt_put (pc' := 54) (x := 0) hX dX3_clear_51 rfl zf_X3_44 (zro_lt hk0_ (by decide)) hk0_ zs_8 (fun q hq => by cases hq; rfl) rfl (zfit_z (by omega) (by omega)).1 (zfit_z (by omega) (by omega)).2 ?_
        generalize hs36 : zset s31 k0_ 9 0 = s35
        have hI37 : zInv s35 := hs36 ▸ zp_8_9 hI33 hk0_ ⟨by omega, by omega⟩
        have hF38 : zFA σ s35 := hs36 ▸ zFA_set hF34 hk0_ (by decide) zk_8 (Or.inl (by decide))
        refine zt_aload_n (pc' := 55) hX dX3_clear_54 rfl rfl ?_
        refine zt_iconst (pc' := 56) hX dX3_clear_55 rfl ?_
        refine zt_put (pc' := 59) (x := 0) hX dX3_clear_56 rfl zf_X3_47 (zro_lt hk0_ (by decide)) hk0_ zs_8 (fun q hq => by cases hq; rfl) rfl rfl rfl ?_
        generalize hs40 : zset s35 k0_ 10 0 = s39
        have hI41 : zInv s39 := hs40 ▸ zp_8_10 hI37 hk0_ ⟨by omega, by omega⟩
        have hF42 : zFA σ s39 := hs40 ▸ zFA_set hF38 hk0_ (by decide) zk_8 (Or.inl (by decide))
        refine zt_aload_n (pc' := 60) hX dX3_clear_59 rfl rfl ?_
        refine zt_iconst (pc' := 61) hX dX3_clear_60 rfl ?_
        refine zt_put (pc' := 64) (x := 0) hX dX3_clear_61 rfl zf_X3_51 (zro_lt hk0_ (by decide)) hk0_ zs_8 (fun q hq => by cases hq; rfl) rfl rfl rfl ?_
        generalize hs44 : zset s39 k0_ 11 0 = s43
        have hI45 : zInv s43 := hs44 ▸ zp_8_11 hI41 hk0_ ⟨by omega, by omega⟩
        have hF46 : zFA σ s43 := hs44 ▸ zFA_set hF42 hk0_ (by decide) zk_8 (Or.inl (by decide))
        refine zt_aload_n (pc' := 65) hX dX3_clear_64 rfl rfl ?_
        refine zt_iconst (pc' := 66) hX dX3_clear_65 rfl ?_
        refine zt_put (pc' := 69) (x := 0) hX dX3_clear_66 rfl zf_X3_54 (zro_lt hk0_ (by decide)) hk0_ zs_8 (fun q hq => by cases hq; rfl) rfl rfl rfl ?_
        generalize hs48 : zset s43 k0_ 12 0 = s47
        have hI49 : zInv s47 := hs48 ▸ zp_8_12 hI45 hk0_ ⟨by omega, by omega⟩
        have hF50 : zFA σ s47 := hs48 ▸ zFA_set hF46 hk0_ (by decide) zk_8 (Or.inl (by decide))
        refine zt_aload_n (pc' := 70) hX dX3_clear_69 rfl rfl ?_
        refine zt_iconst (pc' := 71) hX dX3_clear_70 rfl ?_
        refine zt_put (pc' := 74) (x := 0) hX dX3_clear_71 rfl zf_X3_57 (zro_lt hk0_ (by decide)) hk0_ zs_8 (fun q hq => by cases hq; rfl) rfl rfl rfl ?_
        generalize hs52 : zset s47 k0_ 13 0 = s51
        have hI53 : zInv s51 := hs52 ▸ zp_8_13 hI49 hk0_ ⟨by omega, by omega⟩
        have hF54 : zFA σ s51 := hs52 ▸ zFA_set hF50 hk0_ (by decide) zk_8 (Or.inl (by decide))
        refine zt_aload_n (pc' := 75) hX dX3_clear_74 rfl rfl ?_
        refine zt_iconst (pc' := 76) hX dX3_clear_75 rfl ?_
        refine zt_put (pc' := 79) (x := 3) hX dX3_clear_76 rfl zf_X3_60 (zro_lt hk0_ (by decide)) hk0_ zs_8 (fun q hq => by cases hq; rfl) rfl rfl rfl ?_
        generalize hs56 : zset s51 k0_ 14 3 = s55
        have hI57 : zInv s55 := hs56 ▸ zp_8_14 hI53 hk0_ ⟨by omega, by omega⟩
        have hF58 : zFA σ s55 := hs56 ▸ zFA_set hF54 hk0_ (by decide) zk_8 (Or.inl (by decide))
        refine zt_aload_n (pc' := 80) hX dX3_clear_79 rfl rfl ?_
        refine zt_bipush (pc' := 82) hX dX3_clear_80 rfl (by decide) (by decide) ?_
        refine zt_put (pc' := 85) (x := 20) hX dX3_clear_82 rfl zf_X3_63 (zro_lt hk0_ (by decide)) hk0_ zs_8 (fun q hq => by cases hq; rfl) rfl rfl rfl ?_
        generalize hs60 : zset s55 k0_ 15 20 = s59
        have hI61 : zInv s59 := hs60 ▸ zp_8_15 hI57 hk0_ ⟨by omega, by omega⟩
        have hF62 : zFA σ s59 := hs60 ▸ zFA_set hF58 hk0_ (by decide) zk_8 (Or.inl (by decide))
        refine zt_aload_n (pc' := 86) hX dX3_clear_85 rfl rfl ?_
        refine zt_iconst (pc' := 87) hX dX3_clear_86 rfl ?_
        refine zt_put (pc' := 90) (x := 0) hX dX3_clear_87 rfl zf_X3_66 (zro_lt hk0_ (by decide)) hk0_ zs_8 (fun q hq => by cases hq; rfl) rfl rfl rfl ?_
        generalize hs64 : zset s59 k0_ 16 0 = s63
        have hI65 : zInv s63 := hs64 ▸ zp_8_16 hI61 hk0_ ⟨by omega, by omega⟩
        have hF66 : zFA σ s63 := hs64 ▸ zFA_set hF62 hk0_ (by decide) zk_8 (Or.inl (by decide))
        exact zt_vret hX hR dX3_clear_90 ⟨hI65, hF66⟩
      · refine zt_aload_n (pc' := 9) hX dX3_clear_8 rfl rfl ?_
        refine zt_get (pc' := 12) (v := .ref (X.1.1 + (k0_ + 1))) hX dX3_clear_9 rfl zf_X3_9 (zro_lt hk0_ (by decide)) hk0_ zs_8 (zrf_of (zv_8_0 hI5 hk0_)) ?_
        refine zt_iload_n (pc' := 13) hX dX3_clear_12 rfl rfl ?_
        refine zt_iconst (pc' := 14) hX dX3_clear_13 rfl ?_
        refine zt_iast (pc' := 15) hX dX3_clear_14 rfl (zro_lt (zo_8_0 hk0_) (by decide)) (zo_8_0 hk0_) zs_9 (by decide) ⟨by omega, by omega⟩ ?_
        generalize hs68 : zset s4 (k0_ + 1) (x1.toNat) 1 = s67
        have hI69 : zInv s67 := hs68 ▸ zp_9 hI5 (zo_8_0 hk0_) (x1.toNat) ⟨by omega, by omega⟩
        have hF70 : zFA σ s67 := hs68 ▸ zFA_set hF6 (zo_8_0 hk0_) (by decide) zk_9 (Or.inl (by decide))
        refine zt_iinc (pc' := 18) (lv' := [some (.ref (X.1.1 + k0_)), some (.int (zI (x1 + 1)))]) hX dX3_clear_15 rfl rfl hL (by decide) rfl ?_
        refine zt_goto (tgt := 2) hX dX3_clear_18 (by decide) ?_
        exact ih9 (x1 + 1) s67 (by omega) (by omega) hI69 hF70 (by omega)
  exact L_2_6 _ 0 σ (by omega) (by omega) hI hF (Nat.lt_succ_self _)

set_option maxRecDepth 100000 in
set_option maxHeartbeats 4000000 in
theorem zc_X5_isLetter (l : Launch) (E : zEN) (σ : zSto)  (a0_ : Int) (ha0_ : -2147483648 ≤ a0_ ∧ a0_ ≤ 2147483647) : zCt l E yX5_isLetter cX5_isLetter 1 (some .boolean) 0 zNC zNC 0 0 σ [.int (zI a0_)] (fun r σ' => σ = σ' ∧ 0 ≤ r ∧ r ≤ 1) := by
  refine zCt_of2 [some (.int (zI a0_))] (by decide +kernel) (Nat.le_of_ble_eq_true rfl) rfl ?_
  intro X hE hX hR hL hN
  subst hE
  have hX : zok X cX5_isLetter RX5 0 := hX
  refine zt_iload_n (pc' := 1) hX dX5_isLetter_0 rfl rfl ?_
  refine zt_bipush (pc' := 3) hX dX5_isLetter_1 rfl (by decide) (by decide) ?_
  refine zt_iclt (pc' := 6) (tgt := 16) hX dX5_isLetter_3 rfl (by decide) ⟨by omega, by omega⟩ ⟨by omega, by omega⟩ (fun c1 => ?_) (fun c1 => ?_)
  · refine zt_iconst (pc' := 17) hX dX5_isLetter_16 rfl ?_
    exact zt_zret hX hR dX5_isLetter_17 ⟨by omega, by omega⟩ ⟨rfl, by omega, by omega⟩
  · refine zt_iload_n (pc' := 7) hX dX5_isLetter_6 rfl rfl ?_
    refine zt_bipush (pc' := 9) hX dX5_isLetter_7 rfl (by decide) (by decide) ?_
    refine zt_icgt (pc' := 12) (tgt := 16) hX dX5_isLetter_9 rfl (by decide) ⟨by omega, by omega⟩ ⟨by omega, by omega⟩ (fun c2 => ?_) (fun c2 => ?_)
    · refine zt_iconst (pc' := 17) hX dX5_isLetter_16 rfl ?_
      exact zt_zret hX hR dX5_isLetter_17 ⟨by omega, by omega⟩ ⟨rfl, by omega, by omega⟩
    · refine zt_iconst (pc' := 13) hX dX5_isLetter_12 rfl ?_
      refine zt_goto (tgt := 17) hX dX5_isLetter_13 (by decide) ?_
      exact zt_zret hX hR dX5_isLetter_17 ⟨by omega, by omega⟩ ⟨rfl, by omega, by omega⟩

set_option maxRecDepth 100000 in
set_option maxHeartbeats 4000000 in
theorem zc_X5_isDigit (l : Launch) (E : zEN) (σ : zSto)  (a0_ : Int) (ha0_ : -2147483648 ≤ a0_ ∧ a0_ ≤ 2147483647) : zCt l E yX5_isDigit cX5_isDigit 1 (some .boolean) 0 zNC zNC 0 0 σ [.int (zI a0_)] (fun r σ' => σ = σ' ∧ 0 ≤ r ∧ r ≤ 1) := by
  refine zCt_of2 [some (.int (zI a0_))] (by decide +kernel) (Nat.le_of_ble_eq_true rfl) rfl ?_
  intro X hE hX hR hL hN
  subst hE
  have hX : zok X cX5_isDigit RX5 0 := hX
  refine zt_iload_n (pc' := 1) hX dX5_isDigit_0 rfl rfl ?_
  refine zt_bipush (pc' := 3) hX dX5_isDigit_1 rfl (by decide) (by decide) ?_
  refine zt_iclt (pc' := 6) (tgt := 16) hX dX5_isDigit_3 rfl (by decide) ⟨by omega, by omega⟩ ⟨by omega, by omega⟩ (fun c1 => ?_) (fun c1 => ?_)
  · refine zt_iconst (pc' := 17) hX dX5_isDigit_16 rfl ?_
    exact zt_zret hX hR dX5_isDigit_17 ⟨by omega, by omega⟩ ⟨rfl, by omega, by omega⟩
  · refine zt_iload_n (pc' := 7) hX dX5_isDigit_6 rfl rfl ?_
    refine zt_bipush (pc' := 9) hX dX5_isDigit_7 rfl (by decide) (by decide) ?_
    refine zt_icgt (pc' := 12) (tgt := 16) hX dX5_isDigit_9 rfl (by decide) ⟨by omega, by omega⟩ ⟨by omega, by omega⟩ (fun c2 => ?_) (fun c2 => ?_)
    · refine zt_iconst (pc' := 17) hX dX5_isDigit_16 rfl ?_
      exact zt_zret hX hR dX5_isDigit_17 ⟨by omega, by omega⟩ ⟨rfl, by omega, by omega⟩
    · refine zt_iconst (pc' := 13) hX dX5_isDigit_12 rfl ?_
      refine zt_goto (tgt := 17) hX dX5_isDigit_13 (by decide) ?_
      exact zt_zret hX hR dX5_isDigit_17 ⟨by omega, by omega⟩ ⟨rfl, by omega, by omega⟩

set_option maxRecDepth 100000 in
set_option maxHeartbeats 4000000 in
theorem zc_X5_knownWord (l : Launch) (E : zEN) (σ : zSto) (hI : zInv σ) (a1_ : Int) (ha1_ : -2147483648 ≤ a1_ ∧ a1_ ≤ 2147483647) : zCt l E yX5_knownWord cX5_knownWord 3 (some .int) 0 zNC zNC 0 0 σ [.ref (E.1 + 27), .int (zI a1_)] (fun r σ' => σ = σ' ∧ -1 ≤ r ∧ r ≤ 32) := by
  refine zCt_of2 [some (.ref (E.1 + 27)), some (.int (zI a1_)), none] (by decide +kernel) (Nat.le_of_ble_eq_true rfl) rfl ?_
  intro X hE hX hR hL hN
  subst hE
  have hX : zok X cX5_knownWord RX5 0 := hX
  refine zt_iconst (pc' := 1) hX dX5_knownWord_0 rfl ?_
  refine zt_istore_n (pc' := 2) (lv' := [some (.ref (X.1.1 + 27)), some (.int (zI a1_)), some (.int (zI 0))]) hX dX5_knownWord_1 rfl hL (by decide) rfl ?_
  have L_2_3 : ∀ (N : Nat) (x1 : Int), 0 ≤ x1 → x1 ≤ 33 → ((34 - x1).toNat) < N → zF X σ 2 [some (.ref (X.1.1 + 27)), some (.int (zI a1_)), some (.int (zI x1))] [] := by
    intro N
    induction N with
    | zero =>
      intro x1 h2 h3 hm5
      exact absurd hm5 (Nat.not_lt_zero _)
    | succ N ih6 =>
      intro x1 h2 h3 hm5
      refine zt_iload_n (pc' := 3) hX dX5_knownWord_2 rfl rfl ?_
      refine zt_bipush (pc' := 5) hX dX5_knownWord_3 rfl (by decide) (by decide) ?_
      refine zt_icge (pc' := 8) (tgt := 26) hX dX5_knownWord_5 rfl (by decide) ⟨by omega, by omega⟩ ⟨by omega, by omega⟩ (fun c7 => ?_) (fun c7 => ?_)
      · refine zt_iconst (pc' := 27) hX dX5_knownWord_26 rfl ?_
        exact zt_iret hX hR dX5_knownWord_27 ⟨by omega, by omega⟩ ⟨rfl, by omega, by omega⟩
      · refine zt_aload_n (pc' := 9) hX dX5_knownWord_8 rfl rfl ?_
        refine zt_get (pc' := 12) (v := .ref (X.1.1 + 28)) hX dX5_knownWord_9 rfl zf_X5_9 (by decide) zc_27 zs_14 (zrf_of (zv_14_0 hI zc_27)) ?_
        refine zt_iload_n (pc' := 13) hX dX5_knownWord_12 rfl rfl ?_
        refine zt_iald (pc' := 14) hX dX5_knownWord_13 rfl (by decide) zc_28 zs_15 (by decide) ⟨by omega, by omega⟩ ?_
        generalize hv8 : σ 28 (x1.toNat) = v8
        have bv8 : -2147483648 ≤ v8 ∧ v8 ≤ 2147483647 := hv8 ▸ zv_15 hI zc_28 _
        refine zt_iload_n (pc' := 15) hX dX5_knownWord_14 rfl rfl ?_
        refine zt_icne (pc' := 18) (tgt := 20) hX dX5_knownWord_15 rfl (by decide) ⟨by omega, by omega⟩ ⟨by omega, by omega⟩ (fun c9 => ?_) (fun c9 => ?_)
        · refine zt_iinc (pc' := 23) (lv' := [some (.ref (X.1.1 + 27)), some (.int (zI a1_)), some (.int (zI (x1 + 1)))]) hX dX5_knownWord_20 rfl rfl hL (by decide) rfl ?_
          refine zt_goto (tgt := 2) hX dX5_knownWord_23 (by decide) ?_
          exact ih6 (x1 + 1) (by omega) (by omega) (by omega)
        · refine zt_iload_n (pc' := 19) hX dX5_knownWord_18 rfl rfl ?_
          exact zt_iret hX hR dX5_knownWord_19 ⟨by omega, by omega⟩ ⟨rfl, by omega, by omega⟩
  exact L_2_3 _ 0 (by omega) (by omega) (Nat.lt_succ_self _)

set_option maxRecDepth 100000 in
set_option maxHeartbeats 4000000 in
theorem zc_X5_addToken (l : Launch) (E : zEN) (σ : zSto) (hI : zInv σ) (a1_ : Int) (ha1_ : 0 ≤ a1_ ∧ a1_ ≤ 6) (a2_ : Int) (ha2_ : 0 ≤ a2_ ∧ a2_ ≤ 10000) (a3_ : Int) (ha3_ : -2147483648 ≤ a3_ ∧ a3_ ≤ 2147483647) (a4_ : Int) (ha4_ : -1 ≤ a4_ ∧ a4_ ≤ 32) : zCt l E yX5_addToken cX5_addToken 5 none 0 zNC zNC 0 0 σ [.ref (E.1 + 27), .int (zI a1_), .int (zI a2_), .int (zI a3_), .int (zI a4_)] (fun r σ' => zInv σ' ∧ zFA σ σ' ∧ ((σ 27 5 ≤ 1600 → σ' 27 5 = σ 27 5 + 1) ∧ (¬ σ 27 5 ≤ 1600 → σ' 27 5 = σ 27 5))) := by
  refine zCt_of2 [some (.ref (E.1 + 27)), some (.int (zI a1_)), some (.int (zI a2_)), some (.int (zI a3_)), some (.int (zI a4_))] (by decide +kernel) (Nat.le_of_ble_eq_true rfl) rfl ?_
  intro X hE hX hR hL hN
  subst hE
  have hX : zok X cX5_addToken RX5 0 := hX
  have hF := zFA_rf σ
  have b1 := zv_14_5 hI zc_27
  refine zt_aload_n (pc' := 1) hX dX5_addToken_0 rfl rfl ?_
  have b2 := zv_14_5 hI zc_27
  refine zt_get (pc' := 4) (v := .int (zI (σ 27 5))) hX dX5_addToken_1 rfl zf_X5_27 (by decide) zc_27 zs_14 rfl ?_
  refine zt_sipush (pc' := 7) hX dX5_addToken_4 rfl (by decide) (by decide) ?_
  refine zt_icgt (pc' := 10) (tgt := 61) hX dX5_addToken_7 rfl (by decide) ⟨by omega, by omega⟩ ⟨by omega, by omega⟩ (fun c3 => ?_) (fun c3 => ?_)
  · exact zt_vret hX hR dX5_addToken_61 ⟨hI, hF, by omega⟩
  · refine zt_aload_n (pc' := 11) hX dX5_addToken_10 rfl rfl ?_
    refine zt_get (pc' := 14) (v := .ref (X.1.1 + 29)) hX dX5_addToken_11 rfl zf_X5_15 (by decide) zc_27 zs_14 (zrf_of (zv_14_1 hI zc_27)) ?_
    refine zt_aload_n (pc' := 15) hX dX5_addToken_14 rfl rfl ?_
    refine zt_get (pc' := 18) (v := .int (zI (σ 27 5))) hX dX5_addToken_15 rfl zf_X5_27 (by decide) zc_27 zs_14 rfl ?_
    refine zt_iload_n (pc' := 19) hX dX5_addToken_18 rfl rfl ?_
    refine zt_iast (pc' := 20) hX dX5_addToken_19 rfl (by decide) zc_29 zs_16 (by decide) ⟨by omega, by omega⟩ ?_
    generalize hs5 : zset σ 29 ((σ 27 5).toNat) a1_ = s4
    have hI6 : zInv s4 := hs5 ▸ zp_16 hI zc_29 ((σ 27 5).toNat) ⟨by omega, by omega⟩
    have hF7 : zFA σ s4 := hs5 ▸ zFA_set hF zc_29 (by decide) zk_16 (Or.inl (by decide))
    have e8 : s4 27 5 = σ 27 5 := by rw [← hs5]; exact zset_k (zne_r zc_27 zc_29 (by decide))
    refine zt_aload_n (pc' := 21) hX dX5_addToken_20 rfl rfl ?_
    refine zt_get (pc' := 24) (v := .ref (X.1.1 + 30)) hX dX5_addToken_21 rfl zf_X5_18 (by decide) zc_27 zs_14 (zrf_of (zv_14_2 hI6 zc_27)) ?_
    refine zt_aload_n (pc' := 25) hX dX5_addToken_24 rfl rfl ?_
    have b9 := zv_14_5 hI6 zc_27
    refine zt_get (pc' := 28) (v := .int (zI (s4 27 5))) hX dX5_addToken_25 rfl zf_X5_27 (by decide) zc_27 zs_14 rfl ?_
    refine zt_iload_n (pc' := 29) hX dX5_addToken_28 rfl rfl ?_
    refine zt_iast (pc' := 30) hX dX5_addToken_29 rfl (by decide) zc_30 zs_17 (by decide) ⟨by omega, by omega⟩ ?_
    generalize hs11 : zset s4 30 ((s4 27 5).toNat) a2_ = s10
    have hI12 : zInv s10 := hs11 ▸ zp_17 hI6 zc_30 ((s4 27 5).toNat) ⟨by omega, by omega⟩
    have hF13 : zFA σ s10 := hs11 ▸ zFA_set hF7 zc_30 (by decide) zk_17 (Or.inl (by decide))
    have e14 : s10 27 5 = s4 27 5 := by rw [← hs11]; exact zset_k (zne_r zc_27 zc_30 (by decide))
    refine zt_aload_n (pc' := 31) hX dX5_addToken_30 rfl rfl ?_
    refine zt_get (pc' := 34) (v := .ref (X.1.1 + 31)) hX dX5_addToken_31 rfl zf_X5_21 (by decide) zc_27 zs_14 (zrf_of (zv_14_3 hI12 zc_27)) ?_
    refine zt_aload_n (pc' := 35) hX dX5_addToken_34 rfl rfl ?_
    have b15 := zv_14_5 hI12 zc_27
    refine zt_get (pc' := 38) (v := .int (zI (s10 27 5))) hX dX5_addToken_35 rfl zf_X5_27 (by decide) zc_27 zs_14 rfl ?_
    refine zt_iload_n (pc' := 39) hX dX5_addToken_38 rfl rfl ?_
    refine zt_iast (pc' := 40) hX dX5_addToken_39 rfl (by decide) zc_31 zs_18 (by decide) ⟨by omega, by omega⟩ ?_
    generalize hs17 : zset s10 31 ((s10 27 5).toNat) a3_ = s16
    have hI18 : zInv s16 := hs17 ▸ zp_18 hI12 zc_31 ((s10 27 5).toNat) ⟨by omega, by omega⟩
    have hF19 : zFA σ s16 := hs17 ▸ zFA_set hF13 zc_31 (by decide) zk_18 (Or.inl (by decide))
    have e20 : s16 27 5 = s10 27 5 := by rw [← hs17]; exact zset_k (zne_r zc_27 zc_31 (by decide))
    refine zt_aload_n (pc' := 41) hX dX5_addToken_40 rfl rfl ?_
    refine zt_get (pc' := 44) (v := .ref (X.1.1 + 32)) hX dX5_addToken_41 rfl zf_X5_24 (by decide) zc_27 zs_14 (zrf_of (zv_14_4 hI18 zc_27)) ?_
    refine zt_aload_n (pc' := 45) hX dX5_addToken_44 rfl rfl ?_
    have b21 := zv_14_5 hI18 zc_27
    refine zt_get (pc' := 48) (v := .int (zI (s16 27 5))) hX dX5_addToken_45 rfl zf_X5_27 (by decide) zc_27 zs_14 rfl ?_
    refine zt_iload (pc' := 50) hX dX5_addToken_48 rfl rfl ?_
    refine zt_iast (pc' := 51) hX dX5_addToken_50 rfl (by decide) zc_32 zs_19 (by decide) ⟨by omega, by omega⟩ ?_
    generalize hs23 : zset s16 32 ((s16 27 5).toNat) a4_ = s22
    have hI24 : zInv s22 := hs23 ▸ zp_19 hI18 zc_32 ((s16 27 5).toNat) ⟨by omega, by omega⟩
    have hF25 : zFA σ s22 := hs23 ▸ zFA_set hF19 zc_32 (by decide) zk_19 (Or.inl (by decide))
    have e26 : s22 27 5 = s16 27 5 := by rw [← hs23]; exact zset_k (zne_r zc_27 zc_32 (by decide))
    refine zt_aload_n (pc' := 52) hX dX5_addToken_51 rfl rfl ?_
    refine zt_dup (pc' := 53) hX dX5_addToken_52 rfl rfl ?_
    have b27 := zv_14_5 hI24 zc_27
    refine zt_get (pc' := 56) (v := .int (zI (s22 27 5))) hX dX5_addToken_53 rfl zf_X5_27 (by decide) zc_27 zs_14 rfl ?_
    refine zt_iconst (pc' := 57) hX dX5_addToken_56 rfl ?_
    refine zt_iadd (pc' := 58) hX dX5_addToken_57 rfl ?_
    refine zt_put (pc' := 61) (x := ((s22 27 5) + 1)) hX dX5_addToken_58 rfl zf_X5_27 (by decide) zc_27 zs_14 (fun q hq => by cases hq; rfl) rfl rfl rfl ?_
    generalize hs29 : zset s22 27 5 ((s22 27 5) + 1) = s28
    have hI30 : zInv s28 := hs29 ▸ zp_14_5 hI24 zc_27 ⟨by omega, by omega⟩
    have hF31 : zFA σ s28 := hs29 ▸ zFA_set hF25 zc_27 (by decide) zk_14 (Or.inl (by decide))
    have e32 : s28 27 5 = ((s22 27 5) + 1) := by rw [← hs29]; exact zset_s
    exact zt_vret hX hR dX5_addToken_61 ⟨hI30, hF31, by omega⟩

set_option maxRecDepth 100000 in
set_option maxHeartbeats 4000000 in
theorem zc_X5_cutWord (l : Launch) (E : zEN) (σ : zSto) (hI : zInv σ) (a2_ : Int) (ha2_ : 0 ≤ a2_ ∧ a2_ ≤ 1600) : zCt l E yX5_cutWord cX5_cutWord 6 (some .int) 1 zNC zNC 0 0 σ [.ref (E.1 + 27), .ref (E.1 + 1), .int (zI a2_)] (fun r σ' => zInv σ' ∧ zFA σ σ' ∧ 0 ≤ r ∧ r ≤ 1600) := by
  refine zCt_of2 [some (.ref (E.1 + 27)), some (.ref (E.1 + 1)), some (.int (zI a2_)), none, none, none] (by decide +kernel) (Nat.le_of_ble_eq_true rfl) rfl ?_
  intro X hE hX hR hL hN
  subst hE
  have hX : zok X cX5_cutWord RX5 1 := hX
  have hF := zFA_rf σ
  refine zt_iconst (pc' := 1) hX dX5_cutWord_0 rfl ?_
  refine zt_istore_n (pc' := 2) (lv' := [some (.ref (X.1.1 + 27)), some (.ref (X.1.1 + 1)), some (.int (zI a2_)), some (.int (zI 0)), none, none]) hX dX5_cutWord_1 rfl hL (by decide) rfl ?_
  refine zt_iconst (pc' := 3) hX dX5_cutWord_2 rfl ?_
  refine zt_istore (pc' := 5) (lv' := [some (.ref (X.1.1 + 27)), some (.ref (X.1.1 + 1)), some (.int (zI a2_)), some (.int (zI 0)), some (.int (zI 0)), none]) hX dX5_cutWord_3 rfl hL (by decide) rfl ?_
  refine zt_iload_n (pc' := 6) hX dX5_cutWord_5 rfl rfl ?_
  refine zt_istore (pc' := 8) (lv' := [some (.ref (X.1.1 + 27)), some (.ref (X.1.1 + 1)), some (.int (zI a2_)), some (.int (zI 0)), some (.int (zI 0)), some (.int (zI a2_))]) hX dX5_cutWord_6 rfl hL (by decide) rfl ?_
  have L_8_10 : ∀ (N : Nat) (x1 : Int) (x4 : Int) (x7 : Int), 0 ≤ x1 → x1 ≤ 1600 → -2147483648 ≤ x4 → x4 ≤ 2147483647 → 0 ≤ x7 → x7 ≤ 1600 → x1 = x7 - a2_ → ((1601 - x1).toNat) < N → zF X σ 8 [some (.ref (X.1.1 + 27)), some (.ref (X.1.1 + 1)), some (.int (zI a2_)), some (.int (zI x1)), some (.int (zI x4)), some (.int (zI x7))] [] := by
    intro N
    induction N with
    | zero =>
      intro x1 x4 x7 h2 h3 h5 h6 h8 h9 g10 hm12
      exact absurd hm12 (Nat.not_lt_zero _)
    | succ N ih13 =>
      intro x1 x4 x7 h2 h3 h5 h6 h8 h9 g10 hm12
      refine zt_iload (pc' := 10) hX dX5_cutWord_8 rfl rfl ?_
      refine zt_aload_n (pc' := 11) hX dX5_cutWord_10 rfl rfl ?_
      have b14 := zv_2_1 hI zc_1
      refine zt_get (pc' := 14) (v := .int (zI (σ 1 1))) hX dX5_cutWord_11 rfl zf_X5_55 (by decide) zc_1 zs_2 rfl ?_
      have J_64_14 : zF X σ 64 [some (.ref (X.1.1 + 27)), some (.ref (X.1.1 + 1)), some (.int (zI a2_)), some (.int (zI x1)), some (.int (zI x4)), none] [] := by
        refine zt_aload_n (pc' := 65) hX dX5_cutWord_64 rfl rfl ?_
        refine zt_iload_n (pc' := 66) hX dX5_cutWord_65 rfl rfl ?_
        refine zt_iconst (pc' := 67) hX dX5_cutWord_66 rfl ?_
        refine zt_isub (pc' := 68) hX dX5_cutWord_67 rfl ?_
        refine zt_cVi (pc' := 71) hX dX5_cutWord_68 rfl zm_yX9_byteAt zw_16_15 zc_1 (by decide) zs_2 (q := (RX9, TX9, 2)) rfl rfl (zc_X9_byteAt_1 _ _ σ hI (a2_ - 1) ⟨by omega, by omega⟩) rfl rfl (Nat.le_of_ble_eq_true rfl) (by decide) (fun r16 s17 hr18 hp19 => ?_)
        obtain ⟨rfl, q20, q21⟩ := hp19
        refine zt_cSz (pc' := 74) hX dX5_cutWord_71 rfl zm_yX5_isDigit zw_17_2 (zc_X5_isDigit _ _ σ  r16 ⟨by omega, by omega⟩) rfl rfl (Nat.le_of_ble_eq_true rfl) (by decide) (fun r22 s23 hr24 hp25 => ?_)
        obtain ⟨rfl, q26, q27⟩ := hp25
        refine zt_ifeq (pc' := 77) (tgt := 89) hX dX5_cutWord_74 rfl (by decide) ⟨by omega, by omega⟩ (fun c28 => ?_) (fun c28 => ?_)
        · refine zt_iload_n (pc' := 90) hX dX5_cutWord_89 rfl rfl ?_
          refine zt_bipush (pc' := 92) hX dX5_cutWord_90 rfl (by decide) (by decide) ?_
          refine zt_icle (pc' := 95) (tgt := 107) hX dX5_cutWord_92 rfl (by decide) ⟨by omega, by omega⟩ ⟨by omega, by omega⟩ (fun c29 => ?_) (fun c29 => ?_)
          · refine zt_aload_n (pc' := 108) hX dX5_cutWord_107 rfl rfl ?_
            refine zt_iconst (pc' := 109) hX dX5_cutWord_108 rfl ?_
            refine zt_iload_n (pc' := 110) hX dX5_cutWord_109 rfl rfl ?_
            refine zt_iload (pc' := 112) hX dX5_cutWord_110 rfl rfl ?_
            refine zt_aload_n (pc' := 113) hX dX5_cutWord_112 rfl rfl ?_
            refine zt_iload (pc' := 115) hX dX5_cutWord_113 rfl rfl ?_
            refine zt_cVi (pc' := 118) hX dX5_cutWord_115 rfl zm_yX5_knownWord zw_17_9 zc_27 (by decide) zs_14 (q := (RX5, TX5, 9)) rfl rfl (zc_X5_knownWord _ _ σ hI x4 ⟨by omega, by omega⟩) rfl rfl (Nat.le_of_ble_eq_true rfl) (by decide) (fun r30 s31 hr32 hp33 => ?_)
            obtain ⟨rfl, q34, q35⟩ := hp33
            refine zt_cVv (pc' := 121) hX dX5_cutWord_118 rfl zm_yX5_addToken zw_17_5 zc_27 (by decide) zs_14 (q := (RX5, TX5, 9)) rfl rfl (zc_X5_addToken _ _ σ hI 1 ⟨by omega, by omega⟩ a2_ ⟨by omega, by omega⟩ x4 ⟨by omega, by omega⟩ r30 ⟨by omega, by omega⟩) rfl rfl (Nat.le_of_ble_eq_true rfl) (by decide) (fun r36 s37 hr38 hp39 => ?_)
            obtain ⟨hI40, hF41, z42⟩ := hp39
            have hF43 := zFA_tr hF hF41
            refine zt_iload_n (pc' := 122) hX dX5_cutWord_121 rfl rfl ?_
            exact zt_iret hX hR dX5_cutWord_122 ⟨by omega, by omega⟩ ⟨hI40, hF43, by omega, by omega⟩
          · refine zt_aload_n (pc' := 96) hX dX5_cutWord_95 rfl rfl ?_
            refine zt_iconst (pc' := 97) hX dX5_cutWord_96 rfl ?_
            refine zt_iload_n (pc' := 98) hX dX5_cutWord_97 rfl rfl ?_
            refine zt_iload (pc' := 100) hX dX5_cutWord_98 rfl rfl ?_
            refine zt_iconst (pc' := 101) hX dX5_cutWord_100 rfl ?_
            refine zt_cVv (pc' := 104) hX dX5_cutWord_101 rfl zm_yX5_addToken zw_17_5 zc_27 (by decide) zs_14 (q := (RX5, TX5, 9)) rfl rfl (zc_X5_addToken _ _ σ hI 4 ⟨by omega, by omega⟩ a2_ ⟨by omega, by omega⟩ x4 ⟨by omega, by omega⟩ (-1) ⟨by omega, by omega⟩) rfl rfl (Nat.le_of_ble_eq_true rfl) (by decide) (fun r44 s45 hr46 hp47 => ?_)
            obtain ⟨hI48, hF49, z50⟩ := hp47
            have hF51 := zFA_tr hF hF49
            refine zt_goto (tgt := 121) hX dX5_cutWord_104 (by decide) ?_
            refine zt_iload_n (pc' := 122) hX dX5_cutWord_121 rfl rfl ?_
            exact zt_iret hX hR dX5_cutWord_122 ⟨by omega, by omega⟩ ⟨hI48, hF51, by omega, by omega⟩
        · refine zt_aload_n (pc' := 78) hX dX5_cutWord_77 rfl rfl ?_
          refine zt_bipush (pc' := 80) hX dX5_cutWord_78 rfl (by decide) (by decide) ?_
          refine zt_iload_n (pc' := 81) hX dX5_cutWord_80 rfl rfl ?_
          refine zt_iconst (pc' := 82) hX dX5_cutWord_81 rfl ?_
          refine zt_iconst (pc' := 83) hX dX5_cutWord_82 rfl ?_
          refine zt_cVv (pc' := 86) hX dX5_cutWord_83 rfl zm_yX5_addToken zw_17_5 zc_27 (by decide) zs_14 (q := (RX5, TX5, 9)) rfl rfl (zc_X5_addToken _ _ σ hI 6 ⟨by omega, by omega⟩ a2_ ⟨by omega, by omega⟩ (-1) ⟨by omega, by omega⟩ (-1) ⟨by omega, by omega⟩) rfl rfl (Nat.le_of_ble_eq_true rfl) (by decide) (fun r52 s53 hr54 hp55 => ?_)
          obtain ⟨hI56, hF57, z58⟩ := hp55
          have hF59 := zFA_tr hF hF57
          refine zt_goto (tgt := 121) hX dX5_cutWord_86 (by decide) ?_
          refine zt_iload_n (pc' := 122) hX dX5_cutWord_121 rfl rfl ?_
          exact zt_iret hX hR dX5_cutWord_122 ⟨by omega, by omega⟩ ⟨hI56, hF59, by omega, by omega⟩
      refine zt_icge (pc' := 17) (tgt := 64) hX dX5_cutWord_14 rfl (by decide) ⟨by omega, by omega⟩ ⟨by omega, by omega⟩ (fun c60 => ?_) (fun c60 => ?_)
      · refine zt_mask [true, true, true, true, true, false] rfl ?_
        exact J_64_14
      · refine zt_aload_n (pc' := 18) hX dX5_cutWord_17 rfl rfl ?_
        refine zt_iload (pc' := 20) hX dX5_cutWord_18 rfl rfl ?_
        refine zt_cVi (pc' := 23) hX dX5_cutWord_20 rfl zm_yX9_byteAt zw_16_15 zc_1 (by decide) zs_2 (q := (RX9, TX9, 2)) rfl rfl (zc_X9_byteAt_1 _ _ σ hI x7 ⟨by omega, by omega⟩) rfl rfl (Nat.le_of_ble_eq_true rfl) (by decide) (fun r61 s62 hr63 hp64 => ?_)
        obtain ⟨rfl, q65, q66⟩ := hp64
        refine zt_cSz (pc' := 26) hX dX5_cutWord_23 rfl zm_yX5_isLetter zw_16_19 (zc_X5_isLetter _ _ σ  r61 ⟨by omega, by omega⟩) rfl rfl (Nat.le_of_ble_eq_true rfl) (by decide) (fun r67 s68 hr69 hp70 => ?_)
        obtain ⟨rfl, q71, q72⟩ := hp70
        refine zt_ifeq (pc' := 29) (tgt := 64) hX dX5_cutWord_26 rfl (by decide) ⟨by omega, by omega⟩ (fun c73 => ?_) (fun c73 => ?_)
        · refine zt_mask [true, true, true, true, true, false] rfl ?_
          exact J_64_14
        · refine zt_iload_n (pc' := 30) hX dX5_cutWord_29 rfl rfl ?_
          refine zt_bipush (pc' := 32) hX dX5_cutWord_30 rfl (by decide) (by decide) ?_
          have J_55_76 : ∀ (x74 : Int), -2147483648 ≤ x74 → x74 ≤ 2147483647 → zF X σ 55 [some (.ref (X.1.1 + 27)), some (.ref (X.1.1 + 1)), some (.int (zI a2_)), some (.int (zI x1)), some (.int (zI x74)), some (.int (zI x7))] [] := by
            intro x74 h75 h76
            refine zt_iinc (pc' := 58) (lv' := [some (.ref (X.1.1 + 27)), some (.ref (X.1.1 + 1)), some (.int (zI a2_)), some (.int (zI (x1 + 1))), some (.int (zI x74)), some (.int (zI x7))]) hX dX5_cutWord_55 rfl rfl hL (by decide) rfl ?_
            refine zt_iinc (pc' := 61) (lv' := [some (.ref (X.1.1 + 27)), some (.ref (X.1.1 + 1)), some (.int (zI a2_)), some (.int (zI (x1 + 1))), some (.int (zI x74)), some (.int (zI (x7 + 1)))]) hX dX5_cutWord_58 rfl rfl hL (by decide) rfl ?_
            refine zt_goto (tgt := 8) hX dX5_cutWord_61 (by decide) ?_
            exact ih13 (x1 + 1) x74 (x7 + 1) (by omega) (by omega) (by omega) (by omega) (by omega) (by omega) (by omega) (by omega)
          refine zt_icge (pc' := 35) (tgt := 55) hX dX5_cutWord_32 rfl (by decide) ⟨by omega, by omega⟩ ⟨by omega, by omega⟩ (fun c78 => ?_) (fun c78 => ?_)
          · exact J_55_76 x4 (by omega) (by omega)
          · refine zt_iload (pc' := 37) hX dX5_cutWord_35 rfl rfl ?_
            refine zt_aload_n (pc' := 38) hX dX5_cutWord_37 rfl rfl ?_
            refine zt_iload (pc' := 40) hX dX5_cutWord_38 rfl rfl ?_
            refine zt_cVi (pc' := 43) hX dX5_cutWord_40 rfl zm_yX9_byteAt zw_16_15 zc_1 (by decide) zs_2 (q := (RX9, TX9, 2)) rfl rfl (zc_X9_byteAt_1 _ _ σ hI x7 ⟨by omega, by omega⟩) rfl rfl (Nat.le_of_ble_eq_true rfl) (by decide) (fun r79 s80 hr81 hp82 => ?_)
            obtain ⟨rfl, q83, q84⟩ := hp82
            refine zt_bipush (pc' := 45) hX dX5_cutWord_43 rfl (by decide) (by decide) ?_
            refine zt_isub (pc' := 46) hX dX5_cutWord_45 rfl ?_
            refine zt_lwgetN (pc' := 49) hX dX5_cutWord_46 rfl (by decide +kernel) (fun t85 hT86 => ?_)
            refine zt_iload_n (pc' := 50) hX dX5_cutWord_49 rfl rfl ?_
            refine zt_lwald (pc' := 51) hX dX5_cutWord_50 rfl hT86 ⟨by omega, by omega⟩ ?_
            generalize hv87 : zlw x1.toNat = v87
            have bv87 : 1 ≤ v87 ∧ v87 ≤ 14348907 := hv87 ▸ zlw_b _
            refine zt_imul (pc' := 52) hX dX5_cutWord_51 rfl ?_
            refine zt_wrap (fun r88 zr88 lr88 ur88 => ?_)
            clear zr88
            refine zt_iadd (pc' := 53) hX dX5_cutWord_52 rfl ?_
            refine zt_wrap (fun r89 zr89 lr89 ur89 => ?_)
            clear zr89
            refine zt_istore (pc' := 55) (lv' := [some (.ref (X.1.1 + 27)), some (.ref (X.1.1 + 1)), some (.int (zI a2_)), some (.int (zI x1)), some (.int (zI r89)), some (.int (zI x7))]) hX dX5_cutWord_53 rfl hL (by decide) rfl ?_
            exact J_55_76 r89 (by omega) (by omega)
  exact L_8_10 _ 0 0 a2_ (by omega) (by omega) (by omega) (by omega) (by omega) (by omega) (by omega) (Nat.lt_succ_self _)

set_option maxRecDepth 100000 in
set_option maxHeartbeats 4000000 in
theorem zc_X5_cutNumber (l : Launch) (E : zEN) (σ : zSto) (hI : zInv σ) (a2_ : Int) (ha2_ : 0 ≤ a2_ ∧ a2_ ≤ 1600) : zCt l E yX5_cutNumber cX5_cutNumber 6 (some .int) 1 zNC zNC 0 0 σ [.ref (E.1 + 27), .ref (E.1 + 1), .int (zI a2_)] (fun r σ' => zInv σ' ∧ zFA σ σ' ∧ 0 ≤ r ∧ r ≤ 1600) := by
  refine zCt_of2 [some (.ref (E.1 + 27)), some (.ref (E.1 + 1)), some (.int (zI a2_)), none, none, none] (by decide +kernel) (Nat.le_of_ble_eq_true rfl) rfl ?_
  intro X hE hX hR hL hN
  subst hE
  have hX : zok X cX5_cutNumber RX5 1 := hX
  have hF := zFA_rf σ
  refine zt_iconst (pc' := 1) hX dX5_cutNumber_0 rfl ?_
  refine zt_istore_n (pc' := 2) (lv' := [some (.ref (X.1.1 + 27)), some (.ref (X.1.1 + 1)), some (.int (zI a2_)), some (.int (zI 0)), none, none]) hX dX5_cutNumber_1 rfl hL (by decide) rfl ?_
  refine zt_iconst (pc' := 3) hX dX5_cutNumber_2 rfl ?_
  refine zt_istore (pc' := 5) (lv' := [some (.ref (X.1.1 + 27)), some (.ref (X.1.1 + 1)), some (.int (zI a2_)), some (.int (zI 0)), some (.int (zI 0)), none]) hX dX5_cutNumber_3 rfl hL (by decide) rfl ?_
  refine zt_iload_n (pc' := 6) hX dX5_cutNumber_5 rfl rfl ?_
  refine zt_istore (pc' := 8) (lv' := [some (.ref (X.1.1 + 27)), some (.ref (X.1.1 + 1)), some (.int (zI a2_)), some (.int (zI 0)), some (.int (zI 0)), some (.int (zI a2_))]) hX dX5_cutNumber_6 rfl hL (by decide) rfl ?_
  have L_8_10 : ∀ (N : Nat) (x1 : Int) (x4 : Int) (x7 : Int), 0 ≤ x1 → x1 ≤ 1600 → -2147483648 ≤ x4 → x4 ≤ 2147483647 → 0 ≤ x7 → x7 ≤ 1600 → x1 = x7 - a2_ → ((1601 - x1).toNat) < N → zF X σ 8 [some (.ref (X.1.1 + 27)), some (.ref (X.1.1 + 1)), some (.int (zI a2_)), some (.int (zI x1)), some (.int (zI x4)), some (.int (zI x7))] [] := by
    intro N
    induction N with
    | zero =>
      intro x1 x4 x7 h2 h3 h5 h6 h8 h9 g10 hm12
      exact absurd hm12 (Nat.not_lt_zero _)
    | succ N ih13 =>
      intro x1 x4 x7 h2 h3 h5 h6 h8 h9 g10 hm12
      refine zt_iload (pc' := 10) hX dX5_cutNumber_8 rfl rfl ?_
      refine zt_aload_n (pc' := 11) hX dX5_cutNumber_10 rfl rfl ?_
      have b14 := zv_2_1 hI zc_1
      refine zt_get (pc' := 14) (v := .int (zI (σ 1 1))) hX dX5_cutNumber_11 rfl zf_X5_55 (by decide) zc_1 zs_2 rfl ?_
      have J_60_14 : zF X σ 60 [some (.ref (X.1.1 + 27)), some (.ref (X.1.1 + 1)), some (.int (zI a2_)), some (.int (zI x1)), some (.int (zI x4)), none] [] := by
        refine zt_aload_n (pc' := 61) hX dX5_cutNumber_60 rfl rfl ?_
        refine zt_iload_n (pc' := 62) hX dX5_cutNumber_61 rfl rfl ?_
        refine zt_iconst (pc' := 63) hX dX5_cutNumber_62 rfl ?_
        refine zt_isub (pc' := 64) hX dX5_cutNumber_63 rfl ?_
        refine zt_cVi (pc' := 67) hX dX5_cutNumber_64 rfl zm_yX9_byteAt zw_16_15 zc_1 (by decide) zs_2 (q := (RX9, TX9, 2)) rfl rfl (zc_X9_byteAt_1 _ _ σ hI (a2_ - 1) ⟨by omega, by omega⟩) rfl rfl (Nat.le_of_ble_eq_true rfl) (by decide) (fun r16 s17 hr18 hp19 => ?_)
        obtain ⟨rfl, q20, q21⟩ := hp19
        refine zt_cSz (pc' := 70) hX dX5_cutNumber_67 rfl zm_yX5_isLetter zw_16_19 (zc_X5_isLetter _ _ σ  r16 ⟨by omega, by omega⟩) rfl rfl (Nat.le_of_ble_eq_true rfl) (by decide) (fun r22 s23 hr24 hp25 => ?_)
        obtain ⟨rfl, q26, q27⟩ := hp25
        refine zt_ifeq (pc' := 73) (tgt := 85) hX dX5_cutNumber_70 rfl (by decide) ⟨by omega, by omega⟩ (fun c28 => ?_) (fun c28 => ?_)
        · refine zt_aload_n (pc' := 86) hX dX5_cutNumber_85 rfl rfl ?_
          refine zt_iload_n (pc' := 87) hX dX5_cutNumber_86 rfl rfl ?_
          refine zt_iconst (pc' := 88) hX dX5_cutNumber_87 rfl ?_
          have J_96_31 : ∀ (y29 : Int), 2 ≤ y29 → y29 ≤ 5 → zF X σ 96 [none, none, some (.int (zI a2_)), some (.int (zI x1)), some (.int (zI x4)), none] [.int (zI y29), .ref (X.1.1 + 27)] := by
            intro y29 h30 h31
            refine zt_iload_n (pc' := 97) hX dX5_cutNumber_96 rfl rfl ?_
            refine zt_iload (pc' := 99) hX dX5_cutNumber_97 rfl rfl ?_
            refine zt_iconst (pc' := 100) hX dX5_cutNumber_99 rfl ?_
            refine zt_cVv (pc' := 103) hX dX5_cutNumber_100 rfl zm_yX5_addToken zw_17_5 zc_27 (by decide) zs_14 (q := (RX5, TX5, 9)) rfl rfl (zc_X5_addToken _ _ σ hI y29 ⟨by omega, by omega⟩ a2_ ⟨by omega, by omega⟩ x4 ⟨by omega, by omega⟩ (-1) ⟨by omega, by omega⟩) rfl rfl (Nat.le_of_ble_eq_true rfl) (by decide) (fun r33 s34 hr35 hp36 => ?_)
            obtain ⟨hI37, hF38, z39⟩ := hp36
            have hF40 := zFA_tr hF hF38
            refine zt_iload_n (pc' := 104) hX dX5_cutNumber_103 rfl rfl ?_
            exact zt_iret hX hR dX5_cutNumber_104 ⟨by omega, by omega⟩ ⟨hI37, hF40, by omega, by omega⟩
          refine zt_icle (pc' := 91) (tgt := 95) hX dX5_cutNumber_88 rfl (by decide) ⟨by omega, by omega⟩ ⟨by omega, by omega⟩ (fun c41 => ?_) (fun c41 => ?_)
          · refine zt_iconst (pc' := 96) hX dX5_cutNumber_95 rfl ?_
            refine zt_mask [false, false, true, true, true, false] rfl ?_
            exact J_96_31 2 (by omega) (by omega)
          · refine zt_iconst (pc' := 92) hX dX5_cutNumber_91 rfl ?_
            refine zt_goto (tgt := 96) hX dX5_cutNumber_92 (by decide) ?_
            refine zt_mask [false, false, true, true, true, false] rfl ?_
            exact J_96_31 5 (by omega) (by omega)
        · refine zt_aload_n (pc' := 74) hX dX5_cutNumber_73 rfl rfl ?_
          refine zt_bipush (pc' := 76) hX dX5_cutNumber_74 rfl (by decide) (by decide) ?_
          refine zt_iload_n (pc' := 77) hX dX5_cutNumber_76 rfl rfl ?_
          refine zt_iconst (pc' := 78) hX dX5_cutNumber_77 rfl ?_
          refine zt_iconst (pc' := 79) hX dX5_cutNumber_78 rfl ?_
          refine zt_cVv (pc' := 82) hX dX5_cutNumber_79 rfl zm_yX5_addToken zw_17_5 zc_27 (by decide) zs_14 (q := (RX5, TX5, 9)) rfl rfl (zc_X5_addToken _ _ σ hI 6 ⟨by omega, by omega⟩ a2_ ⟨by omega, by omega⟩ (-1) ⟨by omega, by omega⟩ (-1) ⟨by omega, by omega⟩) rfl rfl (Nat.le_of_ble_eq_true rfl) (by decide) (fun r42 s43 hr44 hp45 => ?_)
          obtain ⟨hI46, hF47, z48⟩ := hp45
          have hF49 := zFA_tr hF hF47
          refine zt_goto (tgt := 103) hX dX5_cutNumber_82 (by decide) ?_
          refine zt_iload_n (pc' := 104) hX dX5_cutNumber_103 rfl rfl ?_
          exact zt_iret hX hR dX5_cutNumber_104 ⟨by omega, by omega⟩ ⟨hI46, hF49, by omega, by omega⟩
      refine zt_icge (pc' := 17) (tgt := 60) hX dX5_cutNumber_14 rfl (by decide) ⟨by omega, by omega⟩ ⟨by omega, by omega⟩ (fun c50 => ?_) (fun c50 => ?_)
      · refine zt_mask [true, true, true, true, true, false] rfl ?_
        exact J_60_14
      · refine zt_aload_n (pc' := 18) hX dX5_cutNumber_17 rfl rfl ?_
        refine zt_iload (pc' := 20) hX dX5_cutNumber_18 rfl rfl ?_
        refine zt_cVi (pc' := 23) hX dX5_cutNumber_20 rfl zm_yX9_byteAt zw_16_15 zc_1 (by decide) zs_2 (q := (RX9, TX9, 2)) rfl rfl (zc_X9_byteAt_1 _ _ σ hI x7 ⟨by omega, by omega⟩) rfl rfl (Nat.le_of_ble_eq_true rfl) (by decide) (fun r51 s52 hr53 hp54 => ?_)
        obtain ⟨rfl, q55, q56⟩ := hp54
        refine zt_cSz (pc' := 26) hX dX5_cutNumber_23 rfl zm_yX5_isDigit zw_17_2 (zc_X5_isDigit _ _ σ  r51 ⟨by omega, by omega⟩) rfl rfl (Nat.le_of_ble_eq_true rfl) (by decide) (fun r57 s58 hr59 hp60 => ?_)
        obtain ⟨rfl, q61, q62⟩ := hp60
        refine zt_ifeq (pc' := 29) (tgt := 60) hX dX5_cutNumber_26 rfl (by decide) ⟨by omega, by omega⟩ (fun c63 => ?_) (fun c63 => ?_)
        · refine zt_mask [true, true, true, true, true, false] rfl ?_
          exact J_60_14
        · refine zt_iload_n (pc' := 30) hX dX5_cutNumber_29 rfl rfl ?_
          refine zt_iconst (pc' := 31) hX dX5_cutNumber_30 rfl ?_
          have J_51_66 : ∀ (x64 : Int), -2147483648 ≤ x64 → x64 ≤ 2147483647 → zF X σ 51 [some (.ref (X.1.1 + 27)), some (.ref (X.1.1 + 1)), some (.int (zI a2_)), some (.int (zI x1)), some (.int (zI x64)), some (.int (zI x7))] [] := by
            intro x64 h65 h66
            refine zt_iinc (pc' := 54) (lv' := [some (.ref (X.1.1 + 27)), some (.ref (X.1.1 + 1)), some (.int (zI a2_)), some (.int (zI (x1 + 1))), some (.int (zI x64)), some (.int (zI x7))]) hX dX5_cutNumber_51 rfl rfl hL (by decide) rfl ?_
            refine zt_iinc (pc' := 57) (lv' := [some (.ref (X.1.1 + 27)), some (.ref (X.1.1 + 1)), some (.int (zI a2_)), some (.int (zI (x1 + 1))), some (.int (zI x64)), some (.int (zI (x7 + 1)))]) hX dX5_cutNumber_54 rfl rfl hL (by decide) rfl ?_
            refine zt_goto (tgt := 8) hX dX5_cutNumber_57 (by decide) ?_
            exact ih13 (x1 + 1) x64 (x7 + 1) (by omega) (by omega) (by omega) (by omega) (by omega) (by omega) (by omega) (by omega)
          refine zt_icge (pc' := 34) (tgt := 51) hX dX5_cutNumber_31 rfl (by decide) ⟨by omega, by omega⟩ ⟨by omega, by omega⟩ (fun c68 => ?_) (fun c68 => ?_)
          · exact J_51_66 x4 (by omega) (by omega)
          · refine zt_iload (pc' := 36) hX dX5_cutNumber_34 rfl rfl ?_
            refine zt_bipush (pc' := 38) hX dX5_cutNumber_36 rfl (by decide) (by decide) ?_
            refine zt_imul (pc' := 39) hX dX5_cutNumber_38 rfl ?_
            refine zt_wrap (fun r69 zr69 lr69 ur69 => ?_)
            clear zr69
            refine zt_aload_n (pc' := 40) hX dX5_cutNumber_39 rfl rfl ?_
            refine zt_iload (pc' := 42) hX dX5_cutNumber_40 rfl rfl ?_
            refine zt_cVi (pc' := 45) hX dX5_cutNumber_42 rfl zm_yX9_byteAt zw_16_15 zc_1 (by decide) zs_2 (q := (RX9, TX9, 2)) rfl rfl (zc_X9_byteAt_1 _ _ σ hI x7 ⟨by omega, by omega⟩) rfl rfl (Nat.le_of_ble_eq_true rfl) (by decide) (fun r70 s71 hr72 hp73 => ?_)
            obtain ⟨rfl, q74, q75⟩ := hp73
            refine zt_iadd (pc' := 46) hX dX5_cutNumber_45 rfl ?_
            refine zt_wrap (fun r76 zr76 lr76 ur76 => ?_)
            clear zr76
            refine zt_bipush (pc' := 48) hX dX5_cutNumber_46 rfl (by decide) (by decide) ?_
            refine zt_isub (pc' := 49) hX dX5_cutNumber_48 rfl ?_
            refine zt_wrap (fun r77 zr77 lr77 ur77 => ?_)
            clear zr77
            refine zt_istore (pc' := 51) (lv' := [some (.ref (X.1.1 + 27)), some (.ref (X.1.1 + 1)), some (.int (zI a2_)), some (.int (zI x1)), some (.int (zI r77)), some (.int (zI x7))]) hX dX5_cutNumber_49 rfl hL (by decide) rfl ?_
            exact J_51_66 r77 (by omega) (by omega)
  exact L_8_10 _ 0 0 a2_ (by omega) (by omega) (by omega) (by omega) (by omega) (by omega) (by omega) (Nat.lt_succ_self _)
