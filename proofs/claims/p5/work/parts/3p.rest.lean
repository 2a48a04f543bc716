set_option maxRecDepth 100000 in
set_option maxHeartbeats 2000000 in
theorem zc_X12_bits (l : Launch) (E : zEN) (σ : zSto)  (a0_ : Int) (ha0_ : -2147483648 ≤ a0_ ∧ a0_ ≤ 2147483647) : zCt l E yX12_bits cX12_bits 3 (some .int) 0 zNC zNC 0 0 σ [.int (zI a0_)] (fun r σ' => σ = σ' ∧ -2147483648 ≤ r ∧ r ≤ 2147483647) := by
  refine zCt_of2 [some (.int (zI a0_)), none, none] (by decide +kernel) (Nat.le_of_ble_eq_true rfl) rfl ?_
  intro X hE hX hR hL hN
  subst hE
  have hX : zok X cX12_bits RX12 0 := hX
  refine zt_iconst (pc' := 1) hX dX12_bits_0 rfl ?_
  refine zt_istore_n (pc' := 2) (lv' := [some (.int (zI a0_)), some (.int (zI 0)), none]) hX dX12_bits_1 rfl hL (by decide) rfl ?_
  refine zt_iload_n (pc' := 3) hX dX12_bits_2 rfl rfl ?_
  refine zt_istore_n (pc' := 4) (lv' := [some (.int (zI a0_)), some (.int (zI 0)), some (.int (zI a0_))]) hX dX12_bits_3 rfl hL (by decide) rfl ?_
  have L_4_6 : ∀ (N : Nat) (x1 : Int) (x4 : Int), -2147483648 ≤ x1 → x1 ≤ 2147483647 → -2147483648 ≤ x4 → x4 ≤ 2147483647 → ((x4 % 4294967296).toNat) < N → zF X σ 4 [none, some (.int (zI x1)), some (.int (zI x4))] [] := by
    intro N
    induction N with
    | zero =>
      intro x1 x4 h2 h3 h5 h6 hm8
      exact absurd hm8 (Nat.not_lt_zero _)
    | succ N ih9 =>
      intro x1 x4 h2 h3 h5 h6 hm8
      refine zt_iload_n (pc' := 5) hX dX12_bits_4 rfl rfl ?_
      refine zt_ifeq (pc' := 8) (tgt := 20) hX dX12_bits_5 rfl (by decide) ⟨by omega, by omega⟩ (fun c10 => ?_) (fun c10 => ?_)
      · refine zt_iload_n (pc' := 21) hX dX12_bits_20 rfl rfl ?_
        exact zt_iret hX hR dX12_bits_21 ⟨by omega, by omega⟩ ⟨rfl, by omega, by omega⟩
      · refine zt_iinc (pc' := 11) (lv' := [none, some (.int (zI (x1 + 1))), some (.int (zI x4))]) hX dX12_bits_8 rfl rfl hL (by decide) rfl ?_
        obtain ⟨r11, er11, lr11, ur11⟩ := zwr (x1 + 1)
        rw [← er11]
        refine zt_iload_n (pc' := 12) hX dX12_bits_11 rfl rfl ?_
        refine zt_iload_n (pc' := 13) hX dX12_bits_12 rfl rfl ?_
        refine zt_iconst (pc' := 14) hX dX12_bits_13 rfl ?_
        refine zt_isub (pc' := 15) hX dX12_bits_14 rfl ?_
        refine zt_wrap (fun r12 zr12 lr12 ur12 => ?_)
        refine zt_iand (pc' := 16) hX dX12_bits_15 rfl (fun r13 zr13 lr13 ur13 => ?_)
        have h14 := zbits zr12 zr13 (by omega) (by omega) (by omega)
        clear zr13 zr12
        refine zt_istore_n (pc' := 17) (lv' := [none, some (.int (zI r11)), some (.int (zI r13))]) hX dX12_bits_16 rfl hL (by decide) rfl ?_
        refine zt_goto (tgt := 4) hX dX12_bits_17 (by decide) ?_
        exact ih9 r11 r13 (by omega) (by omega) (by omega) (by omega) (by omega)
  refine zt_mask [false, true, true] rfl ?_
  exact L_4_6 _ 0 a0_ (by omega) (by omega) (by omega) (by omega) (Nat.lt_succ_self _)

set_option maxRecDepth 100000 in
set_option maxHeartbeats 2000000 in
theorem zc_X12_has (l : Launch) (E : zEN) (σ : zSto) (hI : zInv σ) (a1_ : Int) (ha1_ : -2147483648 ≤ a1_ ∧ a1_ ≤ 2147483647) (hW : zWF σ) : zCt l E yX12_has cX12_has 2 (some .int) 5 zNC zNC 0 0 σ [.ref (E.1 + 164), .int (zI a1_)] (fun r σ' => zInv σ' ∧ zGM σ σ' ∧ -2147483648 ≤ r ∧ r ≤ 2147483647) := by
  refine zCt_of2 [some (.ref (E.1 + 164)), some (.int (zI a1_))] (by decide +kernel) (Nat.le_of_ble_eq_true rfl) rfl ?_
  intro X hE hX hR hL hN
  subst hE
  have hX : zok X cX12_has RX12 5 := hX
  have hF := zGM_rf σ
  refine zt_iload_n (pc' := 1) hX dX12_has_0 rfl rfl ?_
  rcases (show a1_ = 0 ∨ a1_ = 1 ∨ a1_ = 2 ∨ a1_ = 3 ∨ a1_ = 4 ∨ a1_ = 5 ∨ a1_ = 6 ∨ a1_ = 7 ∨ a1_ = 8 ∨ a1_ = 9 ∨ (a1_ < 0 ∨ 9 < a1_) by omega) with c1 | c1 | c1 | c1 | c1 | c1 | c1 | c1 | c1 | c1 | c1
  · refine zt_tsIn (v := 0) (tgt := 56) hX dX12_has_1 c1 (by decide) (by decide) (by decide) rfl (by decide) ?_
    refine zt_aload_n (pc' := 57) hX dX12_has_56 rfl rfl ?_
    refine zt_get (pc' := 60) (v := .ref (X.1.1 + 194)) hX dX12_has_57 rfl zf_X12_102 (by decide) zc_164 zs_46 (zrf_of (zv_46_39 hI zc_164)) ?_
    refine zt_iconst (pc' := 61) hX dX12_has_60 rfl ?_
    refine zt_iload_n (pc' := 62) hX dX12_has_61 rfl rfl ?_
    refine zt_iadd (pc' := 63) hX dX12_has_62 rfl ?_
    refine zt_iald (pc' := 64) hX dX12_has_63 rfl (by decide) zc_194 zs_76 (by decide) ⟨by omega, by omega⟩ ?_
    have bv2 := zv_76 hI zc_194 ((3 + a1_).toNat)
    generalize hv2 : σ 194 ((3 + a1_).toNat) = v2 at bv2 ⊢
    exact zt_iret hX hR dX12_has_64 ⟨by omega, by omega⟩ ⟨hI, hF, by omega, by omega⟩
  · refine zt_tsIn (v := 1) (tgt := 56) hX dX12_has_1 c1 (by decide) (by decide) (by decide) rfl (by decide) ?_
    refine zt_aload_n (pc' := 57) hX dX12_has_56 rfl rfl ?_
    refine zt_get (pc' := 60) (v := .ref (X.1.1 + 194)) hX dX12_has_57 rfl zf_X12_102 (by decide) zc_164 zs_46 (zrf_of (zv_46_39 hI zc_164)) ?_
    refine zt_iconst (pc' := 61) hX dX12_has_60 rfl ?_
    refine zt_iload_n (pc' := 62) hX dX12_has_61 rfl rfl ?_
    refine zt_iadd (pc' := 63) hX dX12_has_62 rfl ?_
    refine zt_iald (pc' := 64) hX dX12_has_63 rfl (by decide) zc_194 zs_76 (by decide) ⟨by omega, by omega⟩ ?_
    have bv3 := zv_76 hI zc_194 ((3 + a1_).toNat)
    generalize hv3 : σ 194 ((3 + a1_).toNat) = v3 at bv3 ⊢
    exact zt_iret hX hR dX12_has_64 ⟨by omega, by omega⟩ ⟨hI, hF, by omega, by omega⟩
  · refine zt_tsIn (v := 2) (tgt := 65) hX dX12_has_1 c1 (by decide) (by decide) (by decide) rfl (by decide) ?_
    refine zt_aload_n (pc' := 66) hX dX12_has_65 rfl rfl ?_
    refine zt_cVi (pc' := 69) hX dX12_has_66 rfl zm_yX12_peopleMany zw_38_4 zc_164 (by decide) zs_46 (q := (RX12, TX12, 108)) rfl rfl (zc_X12_peopleMany _ _ σ hI ) rfl rfl (Nat.le_of_ble_eq_true rfl) (by decide) (fun r4 s5 hr6 hp7 => ?_)
    obtain ⟨rfl, q8, q9, z10⟩ := hp7
    exact zt_iret hX hR dX12_has_69 ⟨by omega, by omega⟩ ⟨hI, hF, by omega, by omega⟩
  · refine zt_tsIn (v := 3) (tgt := 70) hX dX12_has_1 c1 (by decide) (by decide) (by decide) rfl (by decide) ?_
    refine zt_aload_n (pc' := 71) hX dX12_has_70 rfl rfl ?_
    refine zt_get (pc' := 74) (v := .ref (X.1.1 + 203)) hX dX12_has_71 rfl zf_X12_130 (by decide) zc_164 zs_46 (zrf_of (zv_46_52 hI zc_164)) ?_
    refine zt_iconst (pc' := 75) hX dX12_has_74 rfl ?_
    refine zt_iald (pc' := 76) hX dX12_has_75 rfl (by decide) zc_203 zs_85 (by decide) ⟨by omega, by omega⟩ ?_
    rw [show Int.toNat 0 = 0 from rfl]
    have b12 := zv_85 hI zc_203 0
    exact zt_iret hX hR dX12_has_76 ⟨by omega, by omega⟩ ⟨hI, hF, by omega, by omega⟩
  · refine zt_tsIn (v := 4) (tgt := 77) hX dX12_has_1 c1 (by decide) (by decide) (by decide) rfl (by decide) ?_
    refine zt_aload_n (pc' := 78) hX dX12_has_77 rfl rfl ?_
    refine zt_cVi (pc' := 81) hX dX12_has_78 rfl zm_yX12_crackedMany zw_38_8 zc_164 (by decide) zs_46 (q := (RX12, TX12, 108)) rfl rfl (zc_X12_crackedMany _ _ σ hI ) rfl rfl (Nat.le_of_ble_eq_true rfl) (by decide) (fun r13 s14 hr15 hp16 => ?_)
    obtain ⟨rfl, q17, q18⟩ := hp16
    exact zt_iret hX hR dX12_has_81 ⟨by omega, by omega⟩ ⟨hI, hF, by omega, by omega⟩
  · refine zt_tsIn (v := 5) (tgt := 82) hX dX12_has_1 c1 (by decide) (by decide) (by decide) rfl (by decide) ?_
    refine zt_aload_n (pc' := 83) hX dX12_has_82 rfl rfl ?_
    refine zt_cVi (pc' := 86) hX dX12_has_83 rfl zm_yX12_holders zw_38_12 zc_164 (by decide) zs_46 (q := (RX12, TX12, 108)) rfl rfl (zc_X12_holders _ _ σ hI (zWF_M hW hF)) rfl rfl (Nat.le_of_ble_eq_true rfl) (by decide) (fun r19 s20 hr21 hp22 => ?_)
    obtain ⟨hI23, hF24, q25, q26⟩ := hp22
    have hF27 := zGM_tr hF hF24
    refine zt_cSi (pc' := 89) hX dX12_has_86 rfl zm_yX12_bits zw_40_19 (zc_X12_bits _ _ s20  r19 ⟨by omega, by omega⟩) rfl rfl (Nat.le_of_ble_eq_true rfl) (by decide) (fun r28 s29 hr30 hp31 => ?_)
    obtain ⟨rfl, q32, q33⟩ := hp31
    exact zt_iret hX hR dX12_has_89 ⟨by omega, by omega⟩ ⟨hI23, hF27, by omega, by omega⟩
  · refine zt_tsIn (v := 6) (tgt := 90) hX dX12_has_1 c1 (by decide) (by decide) (by decide) rfl (by decide) ?_
    refine zt_aload_n (pc' := 91) hX dX12_has_90 rfl rfl ?_
    refine zt_cVi (pc' := 94) hX dX12_has_91 rfl zm_yX12_peopleMany zw_38_4 zc_164 (by decide) zs_46 (q := (RX12, TX12, 108)) rfl rfl (zc_X12_peopleMany _ _ σ hI ) rfl rfl (Nat.le_of_ble_eq_true rfl) (by decide) (fun r34 s35 hr36 hp37 => ?_)
    obtain ⟨rfl, q38, q39, z40⟩ := hp37
    refine zt_aload_n (pc' := 95) hX dX12_has_94 rfl rfl ?_
    refine zt_cVi (pc' := 98) hX dX12_has_95 rfl zm_yX12_awake zw_40_22 zc_164 (by decide) zs_46 (q := (RX12, TX12, 108)) rfl rfl (zc_X12_awake _ _ σ hI ) rfl rfl (Nat.le_of_ble_eq_true rfl) (by decide) (fun r41 s42 hr43 hp44 => ?_)
    obtain ⟨rfl, q45, q46⟩ := hp44
    refine zt_cSi (pc' := 101) hX dX12_has_98 rfl zm_yX12_bits zw_40_19 (zc_X12_bits _ _ σ  r41 ⟨by omega, by omega⟩) rfl rfl (Nat.le_of_ble_eq_true rfl) (by decide) (fun r47 s48 hr49 hp50 => ?_)
    obtain ⟨rfl, q51, q52⟩ := hp50
    refine zt_isub (pc' := 102) hX dX12_has_101 rfl ?_
    refine zt_wrap (fun r53 zr53 lr53 ur53 => ?_)
    clear zr53
    exact zt_iret hX hR dX12_has_102 ⟨by omega, by omega⟩ ⟨hI, hF, by omega, by omega⟩
  · refine zt_tsIn (v := 7) (tgt := 103) hX dX12_has_1 c1 (by decide) (by decide) (by decide) rfl (by decide) ?_
    refine zt_aload_n (pc' := 104) hX dX12_has_103 rfl rfl ?_
    refine zt_get (pc' := 107) (v := .ref (X.1.1 + 203)) hX dX12_has_104 rfl zf_X12_130 (by decide) zc_164 zs_46 (zrf_of (zv_46_52 hI zc_164)) ?_
    refine zt_bipush (pc' := 109) hX dX12_has_107 rfl (by decide) (by decide) ?_
    refine zt_iald (pc' := 110) hX dX12_has_109 rfl (by decide) zc_203 zs_85 (by decide) ⟨by omega, by omega⟩ ?_
    rw [show Int.toNat 67 = 67 from rfl]
    have b55 := zv_85 hI zc_203 67
    exact zt_iret hX hR dX12_has_110 ⟨by omega, by omega⟩ ⟨hI, hF, by omega, by omega⟩
  · refine zt_tsIn (v := 8) (tgt := 111) hX dX12_has_1 c1 (by decide) (by decide) (by decide) rfl (by decide) ?_
    refine zt_aload_n (pc' := 112) hX dX12_has_111 rfl rfl ?_
    have b56 := zv_46_64 hI zc_164
    refine zt_get (pc' := 115) (v := .int (zI (σ 164 64))) hX dX12_has_112 rfl zf_X12_382 (by decide) zc_164 zs_46 rfl ?_
    exact zt_iret hX hR dX12_has_115 ⟨by omega, by omega⟩ ⟨hI, hF, by omega, by omega⟩
  · refine zt_tsIn (v := 9) (tgt := 116) hX dX12_has_1 c1 (by decide) (by decide) (by decide) rfl (by decide) ?_
    refine zt_aload_n (pc' := 117) hX dX12_has_116 rfl rfl ?_
    have b57 := zv_46_70 hI zc_164
    refine zt_get (pc' := 120) (v := .int (zI (σ 164 70))) hX dX12_has_117 rfl zf_X12_379 (by decide) zc_164 zs_46 rfl ?_
    exact zt_iret hX hR dX12_has_120 ⟨by omega, by omega⟩ ⟨hI, hF, by omega, by omega⟩
  · refine zt_tsOut (tgt := 121) hX dX12_has_1 ⟨by omega, by omega⟩ c1 (by decide) ?_
    refine zt_iconst (pc' := 122) hX dX12_has_121 rfl ?_
    exact zt_iret hX hR dX12_has_122 ⟨by omega, by omega⟩ ⟨hI, hF, by omega, by omega⟩

set_option maxRecDepth 100000 in
set_option maxHeartbeats 2000000 in
theorem zc_X12_needed (l : Launch) (E : zEN) (σ : zSto) (hI : zInv σ) (hW : zWF σ) : zCt l E yX12_needed cX12_needed 4 (some .int) 6 zNC zNC 0 0 σ [.ref (E.1 + 164)] (fun r σ' => zInv σ' ∧ zGM σ σ' ∧ -2147483648 ≤ r ∧ r ≤ 2147483647) := by
  refine zCt_of2 [some (.ref (E.1 + 164)), none, none, none] (by decide +kernel) (Nat.le_of_ble_eq_true rfl) rfl ?_
  intro X hE hX hR hL hN
  subst hE
  have hX : zok X cX12_needed RX12 6 := hX
  have hF := zGM_rf σ
  refine zt_aload_n (pc' := 1) hX dX12_needed_0 rfl rfl ?_
  have b1 := zv_46_50 hI zc_164
  refine zt_get (pc' := 4) (v := .int (zI (σ 164 50))) hX dX12_needed_1 rfl zf_X12_375 (by decide) zc_164 zs_46 rfl ?_
  refine zt_ifne (pc' := 7) (tgt := 9) hX dX12_needed_4 rfl (by decide) ⟨by omega, by omega⟩ (fun c2 => ?_) (fun c2 => ?_)
  · refine zt_aload_n (pc' := 10) hX dX12_needed_9 rfl rfl ?_
    refine zt_cVv (pc' := 13) hX dX12_needed_10 rfl zm_yX12_laysLoads zw_44_15 zc_164 (by decide) zs_46 (q := (RX12, TX12, 108)) rfl rfl (zc_X12_laysLoads _ _ σ hI (zWF_M hW hF)) rfl rfl (Nat.le_of_ble_eq_true rfl) (by decide) (fun r3 s4 hr5 hp6 => ?_)
    obtain ⟨hI7, hF8⟩ := hp6
    have hF9 := zGM_tr hF hF8
    refine zt_aload_n (pc' := 14) hX dX12_needed_13 rfl rfl ?_
    refine zt_cVi (pc' := 17) hX dX12_needed_14 rfl zm_yX12_awake zw_40_22 zc_164 (by decide) zs_46 (q := (RX12, TX12, 108)) rfl rfl (zc_X12_awake _ _ s4 hI7 ) rfl rfl (Nat.le_of_ble_eq_true rfl) (by decide) (fun r10 s11 hr12 hp13 => ?_)
    obtain ⟨rfl, q14, q15⟩ := hp13
    refine zt_istore_n (pc' := 18) (lv' := [some (.ref (X.1.1 + 164)), some (.int (zI r10)), none, none]) hX dX12_needed_17 rfl hL (by decide) rfl ?_
    refine zt_iconst (pc' := 19) hX dX12_needed_18 rfl ?_
    refine zt_istore_n (pc' := 20) (lv' := [some (.ref (X.1.1 + 164)), some (.int (zI r10)), some (.int (zI (-1))), none]) hX dX12_needed_19 rfl hL (by decide) rfl ?_
    refine zt_iconst (pc' := 21) hX dX12_needed_20 rfl ?_
    refine zt_istore_n (pc' := 22) (lv' := [some (.ref (X.1.1 + 164)), some (.int (zI r10)), some (.int (zI (-1))), some (.int (zI 0))]) hX dX12_needed_21 rfl hL (by decide) rfl ?_
    have L_22_21 : ∀ (N : Nat) (x16 : Int) (x19 : Int), -1 ≤ x16 → x16 ≤ 1023 → 0 ≤ x19 → x19 ≤ 1024 → ((1025 - x19).toNat) < N → zF X s4 22 [some (.ref (X.1.1 + 164)), some (.int (zI r10)), some (.int (zI x16)), some (.int (zI x19))] [] := by
      intro N
      induction N with
      | zero =>
        intro x16 x19 h17 h18 h20 h21 hm23
        exact absurd hm23 (Nat.not_lt_zero _)
      | succ N ih24 =>
        intro x16 x19 h17 h18 h20 h21 hm23
        refine zt_iload_n (pc' := 23) hX dX12_needed_22 rfl rfl ?_
        refine zt_iconst (pc' := 24) hX dX12_needed_23 rfl ?_
        refine zt_aload_n (pc' := 25) hX dX12_needed_24 rfl rfl ?_
        refine zt_cVi (pc' := 28) hX dX12_needed_25 rfl zm_yX12_peopleMany zw_38_4 zc_164 (by decide) zs_46 (q := (RX12, TX12, 108)) rfl rfl (zc_X12_peopleMany _ _ s4 hI7 ) rfl rfl (Nat.le_of_ble_eq_true rfl) (by decide) (fun r25 s26 hr27 hp28 => ?_)
        obtain ⟨rfl, q29, q30, z31⟩ := hp28
        refine zt_ishl1 10 (pc' := 29) hX dX12_needed_28 rfl ⟨by omega, by omega⟩ (by decide) (fun r32 er32 lr32 ur32 => ?_)
        have ur32 : r32 ≤ 1024 := by omega
        refine zt_icge (pc' := 32) (tgt := 72) hX dX12_needed_29 rfl (by decide) ⟨by omega, by omega⟩ ⟨by omega, by omega⟩ (fun c33 => ?_) (fun c33 => ?_)
        · refine zt_iload_n (pc' := 73) hX dX12_needed_72 rfl rfl ?_
          exact zt_iret hX hR dX12_needed_73 ⟨by omega, by omega⟩ ⟨hI7, hF9, by omega, by omega⟩
        · refine zt_iload_n (pc' := 33) hX dX12_needed_32 rfl rfl ?_
          refine zt_iload_n (pc' := 34) hX dX12_needed_33 rfl rfl ?_
          refine zt_iconst (pc' := 35) hX dX12_needed_34 rfl ?_
          refine zt_ixor (pc' := 36) hX dX12_needed_35 rfl (fun r34 zr34 lr34 ur34 => ?_)
          clear zr34
          refine zt_iand (pc' := 37) hX dX12_needed_36 rfl (fun r35 zr35 lr35 ur35 => ?_)
          clear zr35
          have J_66_38 : ∀ (x36 : Int), -1 ≤ x36 → x36 ≤ 1023 → zF X s4 66 [some (.ref (X.1.1 + 164)), some (.int (zI r10)), some (.int (zI x36)), some (.int (zI x19))] [] := by
            intro x36 h37 h38
            refine zt_iinc (pc' := 69) (lv' := [some (.ref (X.1.1 + 164)), some (.int (zI r10)), some (.int (zI x36)), some (.int (zI (x19 + 1)))]) hX dX12_needed_66 rfl rfl hL (by decide) rfl ?_
            refine zt_goto (tgt := 22) hX dX12_needed_69 (by decide) ?_
            exact ih24 x36 (x19 + 1) (by omega) (by omega) (by omega) (by omega) (by omega)
          refine zt_ifne (pc' := 40) (tgt := 66) hX dX12_needed_37 rfl (by decide) ⟨by omega, by omega⟩ (fun c40 => ?_) (fun c40 => ?_)
          · exact J_66_38 x16 (by omega) (by omega)
          · refine zt_iload_n (pc' := 41) hX dX12_needed_40 rfl rfl ?_
            refine zt_iconst (pc' := 42) hX dX12_needed_41 rfl ?_
            have J_56_40 : zF X s4 56 [some (.ref (X.1.1 + 164)), some (.int (zI r10)), some (.int (zI x16)), some (.int (zI x19))] [] := by
              refine zt_aload_n (pc' := 57) hX dX12_needed_56 rfl rfl ?_
              refine zt_iload_n (pc' := 58) hX dX12_needed_57 rfl rfl ?_
              refine zt_cVi (pc' := 61) hX dX12_needed_58 rfl zm_yX12_cracksBy zw_52_16 zc_164 (by decide) zs_46 (q := (RX12, TX12, 108)) rfl rfl (zc_X12_cracksBy _ _ s4 hI7 x19 ⟨by omega, by omega⟩) rfl rfl (Nat.le_of_ble_eq_true rfl) (by decide) (fun r42 s43 hr44 hp45 => ?_)
              obtain ⟨rfl, q46, q47⟩ := hp45
              refine zt_ifne (pc' := 64) (tgt := 66) hX dX12_needed_61 rfl (by decide) ⟨by omega, by omega⟩ (fun c48 => ?_) (fun c48 => ?_)
              · exact J_66_38 x16 (by omega) (by omega)
              · refine zt_iload_n (pc' := 65) hX dX12_needed_64 rfl rfl ?_
                refine zt_istore_n (pc' := 66) (lv' := [some (.ref (X.1.1 + 164)), some (.int (zI r10)), some (.int (zI x19)), some (.int (zI x19))]) hX dX12_needed_65 rfl hL (by decide) rfl ?_
                exact J_66_38 x19 (by omega) (by omega)
            refine zt_iceq (pc' := 45) (tgt := 56) hX dX12_needed_42 rfl (by decide) ⟨by omega, by omega⟩ ⟨by omega, by omega⟩ (fun c49 => ?_) (fun c49 => ?_)
            · exact J_56_40
            · refine zt_iload_n (pc' := 46) hX dX12_needed_45 rfl rfl ?_
              refine zt_cSi (pc' := 49) hX dX12_needed_46 rfl zm_yX12_bits zw_40_19 (zc_X12_bits _ _ s4  x19 ⟨by omega, by omega⟩) rfl rfl (Nat.le_of_ble_eq_true rfl) (by decide) (fun r50 s51 hr52 hp53 => ?_)
              obtain ⟨rfl, q54, q55⟩ := hp53
              refine zt_iload_n (pc' := 50) hX dX12_needed_49 rfl rfl ?_
              refine zt_cSi (pc' := 53) hX dX12_needed_50 rfl zm_yX12_bits zw_40_19 (zc_X12_bits _ _ s4  x16 ⟨by omega, by omega⟩) rfl rfl (Nat.le_of_ble_eq_true rfl) (by decide) (fun r56 s57 hr58 hp59 => ?_)
              obtain ⟨rfl, q60, q61⟩ := hp59
              refine zt_icge (pc' := 56) (tgt := 66) hX dX12_needed_53 rfl (by decide) ⟨by omega, by omega⟩ ⟨by omega, by omega⟩ (fun c62 => ?_) (fun c62 => ?_)
              · exact J_66_38 x16 (by omega) (by omega)
              · exact J_56_40
    exact L_22_21 _ (-1) 0 (by omega) (by omega) (by omega) (by omega) (Nat.lt_succ_self _)
  · refine zt_iconst (pc' := 8) hX dX12_needed_7 rfl ?_
    exact zt_iret hX hR dX12_needed_8 ⟨by omega, by omega⟩ ⟨hI, hF, by omega, by omega⟩

set_option maxRecDepth 100000 in
set_option maxHeartbeats 2000000 in
theorem zc_X12_checked_t (l : Launch) (E : zEN) (σ : zSto) (hI : zInv σ) (a1_ : Int) (ha1_ : 0 ≤ a1_ ∧ a1_ ≤ 1600) : zCt l E yX12_checked cX12_checked 4 (some .int) 0 zNC zNC 0 0 σ [.ref (E.1 + 165), .int (zI a1_)] (fun r σ' => σ = σ' ∧ -250 ≤ r ∧ r ≤ 250) := by
  refine zCt_of2 [some (.ref (E.1 + 165)), some (.int (zI a1_)), none, none] (by decide +kernel) (Nat.le_of_ble_eq_true rfl) rfl ?_
  intro X hE hX hR hL hN
  subst hE
  have hX : zok X cX12_checked RX12 0 := hX
  refine zt_bipush (pc' := 2) hX dX12_checked_0 rfl (by decide) (by decide) ?_
  refine zt_istore_n (pc' := 3) (lv' := [some (.ref (X.1.1 + 165)), some (.int (zI a1_)), some (.int (zI 127)), none]) hX dX12_checked_2 rfl hL (by decide) rfl ?_
  refine zt_iconst (pc' := 4) hX dX12_checked_3 rfl ?_
  refine zt_istore_n (pc' := 5) (lv' := [some (.ref (X.1.1 + 165)), some (.int (zI a1_)), some (.int (zI 127)), some (.int (zI 0))]) hX dX12_checked_4 rfl hL (by decide) rfl ?_
  have L_5_6 : ∀ (N : Nat) (x1 : Int) (x4 : Int), 0 ≤ x1 → x1 ≤ 250 → 0 ≤ x4 → x4 ≤ 1600 → ((1601 - x4).toNat) < N → zF X σ 5 [some (.ref (X.1.1 + 165)), some (.int (zI a1_)), some (.int (zI x1)), some (.int (zI x4))] [] := by
    intro N
    induction N with
    | zero =>
      intro x1 x4 h2 h3 h5 h6 hm8
      exact absurd hm8 (Nat.not_lt_zero _)
    | succ N ih9 =>
      intro x1 x4 h2 h3 h5 h6 hm8
      refine zt_iload_n (pc' := 6) hX dX12_checked_5 rfl rfl ?_
      refine zt_iload_n (pc' := 7) hX dX12_checked_6 rfl rfl ?_
      refine zt_icge (pc' := 10) (tgt := 28) hX dX12_checked_7 rfl (by decide) ⟨by omega, by omega⟩ ⟨by omega, by omega⟩ (fun c10 => ?_) (fun c10 => ?_)
      · refine zt_iload_n (pc' := 29) hX dX12_checked_28 rfl rfl ?_
        exact zt_iret hX hR dX12_checked_29 ⟨by omega, by omega⟩ ⟨rfl, by omega, by omega⟩
      · refine zt_iconst (pc' := 11) hX dX12_checked_10 rfl ?_
        refine zt_iload_n (pc' := 12) hX dX12_checked_11 rfl rfl ?_
        refine zt_imul (pc' := 13) hX dX12_checked_12 rfl ?_
        refine zt_aload_n (pc' := 14) hX dX12_checked_13 rfl rfl ?_
        refine zt_iload_n (pc' := 15) hX dX12_checked_14 rfl rfl ?_
        refine zt_iald (pc' := 16) hX dX12_checked_15 rfl (by decide) zc_165 zs_47 (by decide) ⟨by omega, by omega⟩ ?_
        generalize hv11 : σ 165 (x4.toNat) = v11
        have bv11 : 0 ≤ v11 ∧ v11 ≤ 255 := hv11 ▸ zv_47 hI zc_165 _
        refine zt_iadd (pc' := 17) hX dX12_checked_16 rfl ?_
        refine zt_sipush (pc' := 20) hX dX12_checked_17 rfl (by decide) (by decide) ?_
        refine zt_irem (pc' := 21) hX dX12_checked_20 rfl ⟨by omega, by omega⟩ ⟨by omega, by omega⟩ (fun r12 er12 br12 nr12 => ?_)
        rw [ztm_p (by omega)] at er12
        refine zt_istore_n (pc' := 22) (lv' := [some (.ref (X.1.1 + 165)), some (.int (zI a1_)), some (.int (zI r12)), some (.int (zI x4))]) hX dX12_checked_21 rfl hL (by decide) rfl ?_
        refine zt_iinc (pc' := 25) (lv' := [some (.ref (X.1.1 + 165)), some (.int (zI a1_)), some (.int (zI r12)), some (.int (zI (x4 + 1)))]) hX dX12_checked_22 rfl rfl hL (by decide) rfl ?_
        refine zt_goto (tgt := 5) hX dX12_checked_25 (by decide) ?_
        exact ih9 r12 (x4 + 1) (by omega) (by omega) (by omega) (by omega) (by omega)
  exact L_5_6 _ 127 0 (by omega) (by omega) (by omega) (by omega) (Nat.lt_succ_self _)

set_option maxRecDepth 100000 in
set_option maxHeartbeats 2000000 in
theorem zc_X12_checked_o (l : Launch) (E : zEN) (σ : zSto) (hI : zInv σ) (a1_ : Int) (ha1_ : 0 ≤ a1_ ∧ a1_ ≤ 79) : zCt l E yX12_checked cX12_checked 4 (some .int) 0 zNC zNC 0 0 σ [.ref (E.1 + 237), .int (zI a1_)] (fun r σ' => σ = σ' ∧ -250 ≤ r ∧ r ≤ 250) := by
  refine zCt_of2 [some (.ref (E.1 + 237)), some (.int (zI a1_)), none, none] (by decide +kernel) (Nat.le_of_ble_eq_true rfl) rfl ?_
  intro X hE hX hR hL hN
  subst hE
  have hX : zok X cX12_checked RX12 0 := hX
  refine zt_bipush (pc' := 2) hX dX12_checked_0 rfl (by decide) (by decide) ?_
  refine zt_istore_n (pc' := 3) (lv' := [some (.ref (X.1.1 + 237)), some (.int (zI a1_)), some (.int (zI 127)), none]) hX dX12_checked_2 rfl hL (by decide) rfl ?_
  refine zt_iconst (pc' := 4) hX dX12_checked_3 rfl ?_
  refine zt_istore_n (pc' := 5) (lv' := [some (.ref (X.1.1 + 237)), some (.int (zI a1_)), some (.int (zI 127)), some (.int (zI 0))]) hX dX12_checked_4 rfl hL (by decide) rfl ?_
  have L_5_6 : ∀ (N : Nat) (x1 : Int) (x4 : Int), -250 ≤ x1 → x1 ≤ 250 → 0 ≤ x4 → x4 ≤ 79 → ((80 - x4).toNat) < N → zF X σ 5 [some (.ref (X.1.1 + 237)), some (.int (zI a1_)), some (.int (zI x1)), some (.int (zI x4))] [] := by
    intro N
    induction N with
    | zero =>
      intro x1 x4 h2 h3 h5 h6 hm8
      exact absurd hm8 (Nat.not_lt_zero _)
    | succ N ih9 =>
      intro x1 x4 h2 h3 h5 h6 hm8
      refine zt_iload_n (pc' := 6) hX dX12_checked_5 rfl rfl ?_
      refine zt_iload_n (pc' := 7) hX dX12_checked_6 rfl rfl ?_
      refine zt_icge (pc' := 10) (tgt := 28) hX dX12_checked_7 rfl (by decide) ⟨by omega, by omega⟩ ⟨by omega, by omega⟩ (fun c10 => ?_) (fun c10 => ?_)
      · refine zt_iload_n (pc' := 29) hX dX12_checked_28 rfl rfl ?_
        exact zt_iret hX hR dX12_checked_29 ⟨by omega, by omega⟩ ⟨rfl, by omega, by omega⟩
      · refine zt_iconst (pc' := 11) hX dX12_checked_10 rfl ?_
        refine zt_iload_n (pc' := 12) hX dX12_checked_11 rfl rfl ?_
        refine zt_imul (pc' := 13) hX dX12_checked_12 rfl ?_
        refine zt_aload_n (pc' := 14) hX dX12_checked_13 rfl rfl ?_
        refine zt_iload_n (pc' := 15) hX dX12_checked_14 rfl rfl ?_
        refine zt_iald (pc' := 16) hX dX12_checked_15 rfl (by decide) zc_237 zs_119 (by decide) ⟨by omega, by omega⟩ ?_
        generalize hv11 : σ 237 (x4.toNat) = v11
        have bv11 : -2147483648 ≤ v11 ∧ v11 ≤ 2147483647 := hv11 ▸ zv_119 hI zc_237 _
        refine zt_iadd (pc' := 17) hX dX12_checked_16 rfl ?_
        refine zt_wrap (fun r12 zr12 lr12 ur12 => ?_)
        clear zr12
        refine zt_sipush (pc' := 20) hX dX12_checked_17 rfl (by decide) (by decide) ?_
        refine zt_irem (pc' := 21) hX dX12_checked_20 rfl ⟨by omega, by omega⟩ ⟨by omega, by omega⟩ (fun r13 er13 br13 nr13 => ?_)
        refine zt_istore_n (pc' := 22) (lv' := [some (.ref (X.1.1 + 237)), some (.int (zI a1_)), some (.int (zI r13)), some (.int (zI x4))]) hX dX12_checked_21 rfl hL (by decide) rfl ?_
        refine zt_iinc (pc' := 25) (lv' := [some (.ref (X.1.1 + 237)), some (.int (zI a1_)), some (.int (zI r13)), some (.int (zI (x4 + 1)))]) hX dX12_checked_22 rfl rfl hL (by decide) rfl ?_
        refine zt_goto (tgt := 5) hX dX12_checked_25 (by decide) ?_
        exact ih9 r13 (x4 + 1) (by omega) (by omega) (by omega) (by omega) (by omega)
  exact L_5_6 _ 127 0 (by omega) (by omega) (by omega) (by omega) (Nat.lt_succ_self _)

set_option maxRecDepth 100000 in
set_option maxHeartbeats 2000000 in
theorem zc_X12_image (l : Launch) (E : zEN) (σ : zSto) (hI : zInv σ)  : zCt l E yX12_image cX12_image 2 (some .int) 1 zNC zNC 0 0 σ [.ref (E.1 + 164)] (fun r σ' => zInv σ' ∧ zGM σ σ' ∧ 0 ≤ r ∧ r ≤ 79) := by
  refine zCt_of2 [some (.ref (E.1 + 164)), none] (by decide +kernel) (Nat.le_of_ble_eq_true rfl) rfl ?_
  intro X hE hX hR hL hN
  subst hE
  have hX : zok X cX12_image RX12 1 := hX
  have hF := zGM_rf σ
  have b1 := zv_46_107 hI zc_164
  refine zt_aload_n (pc' := 1) hX dX12_image_0 rfl rfl ?_
  refine zt_iconst (pc' := 2) hX dX12_image_1 rfl ?_
  refine zt_put (pc' := 5) (x := 0) hX dX12_image_2 rfl zf_X12_653 (by decide) zc_164 zs_46 (fun q hq => by cases hq; rfl) rfl rfl rfl ?_
  generalize hs3 : zset σ 164 107 0 = s2
  have hI4 : zInv s2 := hs3 ▸ zp_46_107 hI zc_164 ⟨by omega, by omega⟩
  have hF5 : zGM σ s2 := hs3 ▸ zGM_set hF zc_164 (by decide) zk_46 (Or.inr (by decide)) (by decide)
  have e6 : s2 164 107 = 0 := by rw [← hs3]; exact zset_s
  refine zt_aload_n (pc' := 6) hX dX12_image_5 rfl rfl ?_
  refine zt_aload_n (pc' := 7) hX dX12_image_6 rfl rfl ?_
  refine zt_get (pc' := 10) (v := .ref (X.1.1 + 203)) hX dX12_image_7 rfl zf_X12_130 (by decide) zc_164 zs_46 (zrf_of (zv_46_52 hI4 zc_164)) ?_
  refine zt_iconst (pc' := 11) hX dX12_image_10 rfl ?_
  refine zt_iald (pc' := 12) hX dX12_image_11 rfl (by decide) zc_203 zs_85 (by decide) ⟨by omega, by omega⟩ ?_
  rw [show Int.toNat 0 = 0 from rfl]
  have b8 := zv_85 hI4 zc_203 0
  have e9 : s2 203 0 = σ 203 0 := by rw [← hs3]; exact zset_k (zne_r zc_203 zc_164 (by decide))
  refine zt_sipush (pc' := 15) hX dX12_image_12 rfl (by decide) (by decide) ?_
  refine zt_idiv (pc' := 16) hX dX12_image_15 rfl ⟨by omega, by omega⟩ ⟨by omega, by omega⟩ (fun r10 er10 br10 => ?_)
  refine zt_cVv (pc' := 19) hX dX12_image_16 rfl zm_yX12_writes zw_68_0 zc_164 (by decide) zs_46 (q := (RX12, TX12, 108)) rfl rfl (zc_X12_writes _ _ s2 hI4 r10 ⟨by omega, by omega⟩ (by omega)) rfl rfl (Nat.le_of_ble_eq_true rfl) (by decide) (fun r11 s12 hr13 hp14 => ?_)
  obtain ⟨hI15, hF16, z17⟩ := hp14
  have hF18 := zGM_tr hF5 hF16
  have b19 := zv_46_107 hI15 zc_164
  refine zt_aload_n (pc' := 20) hX dX12_image_19 rfl rfl ?_
  refine zt_aload_n (pc' := 21) hX dX12_image_20 rfl rfl ?_
  refine zt_get (pc' := 24) (v := .ref (X.1.1 + 203)) hX dX12_image_21 rfl zf_X12_130 (by decide) zc_164 zs_46 (zrf_of (zv_46_52 hI15 zc_164)) ?_
  refine zt_iconst (pc' := 25) hX dX12_image_24 rfl ?_
  refine zt_iald (pc' := 26) hX dX12_image_25 rfl (by decide) zc_203 zs_85 (by decide) ⟨by omega, by omega⟩ ?_
  rw [show Int.toNat 0 = 0 from rfl]
  have b21 := zv_85 hI15 zc_203 0
  refine zt_sipush (pc' := 29) hX dX12_image_26 rfl (by decide) (by decide) ?_
  refine zt_irem (pc' := 30) hX dX12_image_29 rfl ⟨by omega, by omega⟩ ⟨by omega, by omega⟩ (fun r22 er22 br22 nr22 => ?_)
  refine zt_cVv (pc' := 33) hX dX12_image_30 rfl zm_yX12_writes zw_68_0 zc_164 (by decide) zs_46 (q := (RX12, TX12, 108)) rfl rfl (zc_X12_writes _ _ s12 hI15 r22 ⟨by omega, by omega⟩ (by omega)) rfl rfl (Nat.le_of_ble_eq_true rfl) (by decide) (fun r23 s24 hr25 hp26 => ?_)
  obtain ⟨hI27, hF28, z29⟩ := hp26
  have hF30 := zGM_tr hF18 hF28
  have b31 := zv_46_107 hI27 zc_164
  refine zt_iconst (pc' := 34) hX dX12_image_33 rfl ?_
  refine zt_istore_n (pc' := 35) (lv' := [some (.ref (X.1.1 + 164)), some (.int (zI 0))]) hX dX12_image_34 rfl hL (by decide) rfl ?_
  have L_35_38 : ∀ (N : Nat) (x32 : Int) (s35 : zSto), 0 ≤ x32 → x32 ≤ 36 → zInv s35 → zGM σ s35 → s35 164 107 = 2 + x32 → ((37 - x32).toNat) < N → zF X s35 35 [some (.ref (X.1.1 + 164)), some (.int (zI x32))] [] := by
    intro N
    induction N with
    | zero =>
      intro x32 s35 h33 h34 hI36 hF37 g38 hm40
      exact absurd hm40 (Nat.not_lt_zero _)
    | succ N ih41 =>
      intro x32 s35 h33 h34 hI36 hF37 g38 hm40
      have b42 := zv_46_107 hI36 zc_164
      refine zt_iload_n (pc' := 36) hX dX12_image_35 rfl rfl ?_
      refine zt_aload_n (pc' := 37) hX dX12_image_36 rfl rfl ?_
      refine zt_cVi (pc' := 40) hX dX12_image_37 rfl zm_yX12_cellMany zw_44_19 zc_164 (by decide) zs_46 (q := (RX12, TX12, 108)) rfl rfl (zc_X12_cellMany _ _ s35 hI36 ) rfl rfl (Nat.le_of_ble_eq_true rfl) (by decide) (fun r43 s44 hr45 hp46 => ?_)
      obtain ⟨rfl, q47, q48, z49⟩ := hp46
      refine zt_icge (pc' := 43) (tgt := 65) hX dX12_image_40 rfl (by decide) ⟨by omega, by omega⟩ ⟨by omega, by omega⟩ (fun c50 => ?_) (fun c50 => ?_)
      · refine zt_iconst (pc' := 66) hX dX12_image_65 rfl ?_
        refine zt_istore_n (pc' := 67) (lv' := [some (.ref (X.1.1 + 164)), some (.int (zI 0))]) hX dX12_image_66 rfl hL (by decide) rfl ?_
        have L_67_57 : ∀ (N : Nat) (x51 : Int) (s54 : zSto), 0 ≤ x51 → x51 ≤ 10 → zInv s54 → zGM σ s54 → s54 164 107 ≤ 38 + 4 * x51 → ((11 - x51).toNat) < N → zF X s54 67 [some (.ref (X.1.1 + 164)), some (.int (zI x51))] [] := by
          intro N
          induction N with
          | zero =>
            intro x51 s54 h52 h53 hI55 hF56 g57 hm59
            exact absurd hm59 (Nat.not_lt_zero _)
          | succ N ih60 =>
            intro x51 s54 h52 h53 hI55 hF56 g57 hm59
            have b61 := zv_46_107 hI55 zc_164
            refine zt_iload_n (pc' := 68) hX dX12_image_67 rfl rfl ?_
            refine zt_aload_n (pc' := 69) hX dX12_image_68 rfl rfl ?_
            refine zt_cVi (pc' := 72) hX dX12_image_69 rfl zm_yX12_peopleMany zw_38_4 zc_164 (by decide) zs_46 (q := (RX12, TX12, 108)) rfl rfl (zc_X12_peopleMany _ _ s54 hI55 ) rfl rfl (Nat.le_of_ble_eq_true rfl) (by decide) (fun r62 s63 hr64 hp65 => ?_)
            obtain ⟨rfl, q66, q67, z68⟩ := hp65
            refine zt_icge (pc' := 75) (tgt := 131) hX dX12_image_72 rfl (by decide) ⟨by omega, by omega⟩ ⟨by omega, by omega⟩ (fun c69 => ?_) (fun c69 => ?_)
            · refine zt_aload_n (pc' := 132) hX dX12_image_131 rfl rfl ?_
              refine zt_aload_n (pc' := 133) hX dX12_image_132 rfl rfl ?_
              refine zt_get (pc' := 136) (v := .ref (X.1.1 + 237)) hX dX12_image_133 rfl zf_X12_240 (by decide) zc_164 zs_46 (zrf_of (zv_46_106 hI55 zc_164)) ?_
              refine zt_aload_n (pc' := 137) hX dX12_image_136 rfl rfl ?_
              have b70 := zv_46_107 hI55 zc_164
              refine zt_get (pc' := 140) (v := .int (zI (s54 164 107))) hX dX12_image_137 rfl zf_X12_653 (by decide) zc_164 zs_46 rfl ?_
              refine zt_cSi (pc' := 143) hX dX12_image_140 rfl zm_yX12_checked zw_68_4 (zc_X12_checked_o _ _ s54 hI55 (s54 164 107) ⟨by omega, by omega⟩) rfl rfl (Nat.le_of_ble_eq_true rfl) (by decide) (fun r71 s72 hr73 hp74 => ?_)
              obtain ⟨rfl, q75, q76⟩ := hp74
              refine zt_cVv (pc' := 146) hX dX12_image_143 rfl zm_yX12_writes zw_68_0 zc_164 (by decide) zs_46 (q := (RX12, TX12, 108)) rfl rfl (zc_X12_writes _ _ s54 hI55 r71 ⟨by omega, by omega⟩ (by omega)) rfl rfl (Nat.le_of_ble_eq_true rfl) (by decide) (fun r77 s78 hr79 hp80 => ?_)
              obtain ⟨hI81, hF82, z83⟩ := hp80
              have hF84 := zGM_tr hF56 hF82
              have b85 := zv_46_107 hI81 zc_164
              refine zt_aload_n (pc' := 147) hX dX12_image_146 rfl rfl ?_
              have b86 := zv_46_107 hI81 zc_164
              refine zt_get (pc' := 150) (v := .int (zI (s78 164 107))) hX dX12_image_147 rfl zf_X12_653 (by decide) zc_164 zs_46 rfl ?_
              exact zt_iret hX hR dX12_image_150 ⟨by omega, by omega⟩ ⟨hI81, hF84, by omega, by omega⟩
            · refine zt_aload_n (pc' := 76) hX dX12_image_75 rfl rfl ?_
              refine zt_aload_n (pc' := 77) hX dX12_image_76 rfl rfl ?_
              refine zt_iload_n (pc' := 78) hX dX12_image_77 rfl rfl ?_
              refine zt_cVi (pc' := 81) hX dX12_image_78 rfl zm_yX12_placeOf zw_40_0 zc_164 (by decide) zs_46 (q := (RX12, TX12, 108)) rfl rfl (zc_X12_placeOf _ _ s54 hI55 x51 ⟨by omega, by omega⟩) rfl rfl (Nat.le_of_ble_eq_true rfl) (by decide) (fun r87 s88 hr89 hp90 => ?_)
              obtain ⟨rfl, q91, q92⟩ := hp90
              refine zt_bipush (pc' := 83) hX dX12_image_81 rfl (by decide) (by decide) ?_
              refine zt_irem (pc' := 84) hX dX12_image_83 rfl ⟨by omega, by omega⟩ ⟨by omega, by omega⟩ (fun r93 er93 br93 nr93 => ?_)
              rw [ztm_p (by omega)] at er93
              refine zt_cVv (pc' := 87) hX dX12_image_84 rfl zm_yX12_writes zw_68_0 zc_164 (by decide) zs_46 (q := (RX12, TX12, 108)) rfl rfl (zc_X12_writes _ _ s54 hI55 r93 ⟨by omega, by omega⟩ (by omega)) rfl rfl (Nat.le_of_ble_eq_true rfl) (by decide) (fun r94 s95 hr96 hp97 => ?_)
              obtain ⟨hI98, hF99, z100⟩ := hp97
              have hF101 := zGM_tr hF56 hF99
              have b102 := zv_46_107 hI98 zc_164
              refine zt_aload_n (pc' := 88) hX dX12_image_87 rfl rfl ?_
              refine zt_aload_n (pc' := 89) hX dX12_image_88 rfl rfl ?_
              refine zt_iload_n (pc' := 90) hX dX12_image_89 rfl rfl ?_
              refine zt_cVi (pc' := 93) hX dX12_image_90 rfl zm_yX12_placeOf zw_40_0 zc_164 (by decide) zs_46 (q := (RX12, TX12, 108)) rfl rfl (zc_X12_placeOf _ _ s95 hI98 x51 ⟨by omega, by omega⟩) rfl rfl (Nat.le_of_ble_eq_true rfl) (by decide) (fun r103 s104 hr105 hp106 => ?_)
              obtain ⟨rfl, q107, q108⟩ := hp106
              refine zt_bipush (pc' := 95) hX dX12_image_93 rfl (by decide) (by decide) ?_
              refine zt_idiv (pc' := 96) hX dX12_image_95 rfl ⟨by omega, by omega⟩ ⟨by omega, by omega⟩ (fun r109 er109 br109 => ?_)
              rw [ztd_p (by omega)] at er109
              refine zt_cVv (pc' := 99) hX dX12_image_96 rfl zm_yX12_writes zw_68_0 zc_164 (by decide) zs_46 (q := (RX12, TX12, 108)) rfl rfl (zc_X12_writes _ _ s95 hI98 r109 ⟨by omega, by omega⟩ (by omega)) rfl rfl (Nat.le_of_ble_eq_true rfl) (by decide) (fun r110 s111 hr112 hp113 => ?_)
              obtain ⟨hI114, hF115, z116⟩ := hp113
              have hF117 := zGM_tr hF101 hF115
              have b118 := zv_46_107 hI114 zc_164
              refine zt_aload_n (pc' := 100) hX dX12_image_99 rfl rfl ?_
              refine zt_aload_n (pc' := 101) hX dX12_image_100 rfl rfl ?_
              refine zt_iload_n (pc' := 102) hX dX12_image_101 rfl rfl ?_
              refine zt_cVi (pc' := 105) hX dX12_image_102 rfl zm_yX12_tiredOf zw_39_16 zc_164 (by decide) zs_46 (q := (RX12, TX12, 108)) rfl rfl (zc_X12_tiredOf _ _ s111 hI114 x51 ⟨by omega, by omega⟩) rfl rfl (Nat.le_of_ble_eq_true rfl) (by decide) (fun r119 s120 hr121 hp122 => ?_)
              obtain ⟨rfl, q123, q124⟩ := hp122
              refine zt_cVv (pc' := 108) hX dX12_image_105 rfl zm_yX12_writes zw_68_0 zc_164 (by decide) zs_46 (q := (RX12, TX12, 108)) rfl rfl (zc_X12_writes _ _ s111 hI114 r119 ⟨by omega, by omega⟩ (by omega)) rfl rfl (Nat.le_of_ble_eq_true rfl) (by decide) (fun r125 s126 hr127 hp128 => ?_)
              obtain ⟨hI129, hF130, z131⟩ := hp128
              have hF132 := zGM_tr hF117 hF130
              have b133 := zv_46_107 hI129 zc_164
              refine zt_aload_n (pc' := 109) hX dX12_image_108 rfl rfl ?_
              refine zt_aload_n (pc' := 110) hX dX12_image_109 rfl rfl ?_
              refine zt_iload_n (pc' := 111) hX dX12_image_110 rfl rfl ?_
              refine zt_cVz (pc' := 114) hX dX12_image_111 rfl zm_yX12_isAtRest zw_38_16 zc_164 (by decide) zs_46 (q := (RX12, TX12, 108)) rfl rfl (zc_X12_isAtRest _ _ s126 hI129 x51 ⟨by omega, by omega⟩) rfl rfl (Nat.le_of_ble_eq_true rfl) (by decide) (fun r134 s135 hr136 hp137 => ?_)
              obtain ⟨rfl, q138, q139⟩ := hp137
              have J_122_143 : ∀ (y140 : Int), 0 ≤ y140 → y140 ≤ 1 → s126 164 107 ≤ 41 + 4 * x51 → zF X s126 122 [some (.ref (X.1.1 + 164)), some (.int (zI x51))] [.int (zI y140), .ref (X.1.1 + 164)] := by
                intro y140 h141 h142 g143
                refine zt_cVv (pc' := 125) hX dX12_image_122 rfl zm_yX12_writes zw_68_0 zc_164 (by decide) zs_46 (q := (RX12, TX12, 108)) rfl rfl (zc_X12_writes _ _ s126 hI129 y140 ⟨by omega, by omega⟩ (by omega)) rfl rfl (Nat.le_of_ble_eq_true rfl) (by decide) (fun r145 s146 hr147 hp148 => ?_)
                obtain ⟨hI149, hF150, z151⟩ := hp148
                have hF152 := zGM_tr hF132 hF150
                have b153 := zv_46_107 hI149 zc_164
                refine zt_iinc (pc' := 128) (lv' := [some (.ref (X.1.1 + 164)), some (.int (zI (x51 + 1)))]) hX dX12_image_125 rfl rfl hL (by decide) rfl ?_
                refine zt_goto (tgt := 67) hX dX12_image_128 (by decide) ?_
                exact ih60 (x51 + 1) s146 (by omega) (by omega) hI149 hF152 (by omega) (by omega)
              refine zt_ifeq (pc' := 117) (tgt := 121) hX dX12_image_114 rfl (by decide) ⟨by omega, by omega⟩ (fun c154 => ?_) (fun c154 => ?_)
              · refine zt_iconst (pc' := 122) hX dX12_image_121 rfl ?_
                exact J_122_143 0 (by omega) (by omega) (by omega)
              · refine zt_iconst (pc' := 118) hX dX12_image_117 rfl ?_
                refine zt_goto (tgt := 122) hX dX12_image_118 (by decide) ?_
                exact J_122_143 1 (by omega) (by omega) (by omega)
        exact L_67_57 _ 0 s35 (by omega) (by omega) hI36 hF37 (by omega) (Nat.lt_succ_self _)
      · refine zt_aload_n (pc' := 44) hX dX12_image_43 rfl rfl ?_
        refine zt_aload_n (pc' := 45) hX dX12_image_44 rfl rfl ?_
        refine zt_get (pc' := 48) (v := .ref (X.1.1 + 203)) hX dX12_image_45 rfl zf_X12_130 (by decide) zc_164 zs_46 (zrf_of (zv_46_52 hI36 zc_164)) ?_
        refine zt_iconst (pc' := 49) hX dX12_image_48 rfl ?_
        refine zt_aload_n (pc' := 50) hX dX12_image_49 rfl rfl ?_
        refine zt_iload_n (pc' := 51) hX dX12_image_50 rfl rfl ?_
        refine zt_cVi (pc' := 54) hX dX12_image_51 rfl zm_yX12_cellOf zw_44_23 zc_164 (by decide) zs_46 (q := (RX12, TX12, 108)) rfl rfl (zc_X12_cellOf _ _ s35 hI36 x32 ⟨by omega, by omega⟩ (by omega)) rfl rfl (Nat.le_of_ble_eq_true rfl) (by decide) (fun r155 s156 hr157 hp158 => ?_)
        obtain ⟨rfl, q159, q160⟩ := hp158
        refine zt_iadd (pc' := 55) hX dX12_image_54 rfl ?_
        refine zt_iald (pc' := 56) hX dX12_image_55 rfl (by decide) zc_203 zs_85 (by decide) ⟨by omega, by omega⟩ ?_
        have bv161 := zv_85 hI36 zc_203 ((1 + r155).toNat)
        generalize hv161 : s35 203 ((1 + r155).toNat) = v161 at bv161 ⊢
        refine zt_cVv (pc' := 59) hX dX12_image_56 rfl zm_yX12_writes zw_68_0 zc_164 (by decide) zs_46 (q := (RX12, TX12, 108)) rfl rfl (zc_X12_writes _ _ s35 hI36 v161 ⟨by omega, by omega⟩ (by omega)) rfl rfl (Nat.le_of_ble_eq_true rfl) (by decide) (fun r162 s163 hr164 hp165 => ?_)
        obtain ⟨hI166, hF167, z168⟩ := hp165
        have hF169 := zGM_tr hF37 hF167
        have b170 := zv_46_107 hI166 zc_164
        refine zt_iinc (pc' := 62) (lv' := [some (.ref (X.1.1 + 164)), some (.int (zI (x32 + 1)))]) hX dX12_image_59 rfl rfl hL (by decide) rfl ?_
        refine zt_goto (tgt := 35) hX dX12_image_62 (by decide) ?_
        exact ih41 (x32 + 1) s163 (by omega) (by omega) hI166 hF169 (by omega) (by omega)
  exact L_35_38 _ 0 s24 (by omega) (by omega) hI27 hF30 (by omega) (Nat.lt_succ_self _)

set_option maxRecDepth 100000 in
set_option maxHeartbeats 2000000 in
theorem zc_X12_cellAt_C (l : Launch) (E : zEN) (σ : zSto) (hI : zInv σ) (a1_ : Int) (ha1_ : -2147483648 ≤ a1_ ∧ a1_ ≤ 2147483647) (a2_ : Int) (ha2_ : -2147483648 ≤ a2_ ∧ a2_ ≤ 2147483647) : zCt l E yX12_cellAt cX12_cellAt 3 (some .int) 1 zNC zNC 0 0 σ [.ref (E.1 + 164), .int (zI a1_), .int (zI a2_)] (fun r σ' => σ = σ' ∧ -1 ≤ r ∧ r ≤ 35 ∧ (r ≠ -1 → (σ 164 50 = 1 ∧ 0 ≤ a1_ ∧ a1_ < σ 194 3 ∧ 0 ≤ a2_ ∧ a2_ < σ 194 4)) ∧ ((σ 164 50 = 1 ∧ 0 ≤ a1_ ∧ a1_ < σ 194 3 ∧ 0 ≤ a2_ ∧ a2_ < σ 194 4) → r ≠ -1)) := by
  refine zCt_of2 [some (.ref (E.1 + 164)), some (.int (zI a1_)), some (.int (zI a2_))] (by decide +kernel) (Nat.le_of_ble_eq_true rfl) rfl ?_
  intro X hE hX hR hL hN
  subst hE
  have hX : zok X cX12_cellAt RX12 1 := hX
  refine zt_aload_n (pc' := 1) hX dX12_cellAt_0 rfl rfl ?_
  have b1 := zv_46_50 hI zc_164
  refine zt_get (pc' := 4) (v := .int (zI (σ 164 50))) hX dX12_cellAt_1 rfl zf_X12_375 (by decide) zc_164 zs_46 rfl ?_
  refine zt_ifeq (pc' := 7) (tgt := 52) hX dX12_cellAt_4 rfl (by decide) ⟨by omega, by omega⟩ (fun c2 => ?_) (fun c2 => ?_)
  · refine zt_iconst (pc' := 53) hX dX12_cellAt_52 rfl ?_
    exact zt_iret hX hR dX12_cellAt_53 ⟨by omega, by omega⟩ ⟨rfl, by omega, by omega, by omega, by omega⟩
  · refine zt_iload_n (pc' := 8) hX dX12_cellAt_7 rfl rfl ?_
    refine zt_i2l (pc' := 9) hX dX12_cellAt_8 rfl ⟨by omega, by omega⟩ ?_
    refine zt_lconst (pc' := 10) (y := 0) hX dX12_cellAt_9 rfl (by decide +kernel) ?_
    refine zt_aload_n (pc' := 11) hX dX12_cellAt_10 rfl rfl ?_
    refine zt_get (pc' := 14) (v := .ref (X.1.1 + 194)) hX dX12_cellAt_11 rfl zf_X12_102 (by decide) zc_164 zs_46 (zrf_of (zv_46_39 hI zc_164)) ?_
    refine zt_iconst (pc' := 15) hX dX12_cellAt_14 rfl ?_
    refine zt_iald (pc' := 16) hX dX12_cellAt_15 rfl (by decide) zc_194 zs_76 (by decide) ⟨by omega, by omega⟩ ?_
    rw [show Int.toNat 3 = 3 from rfl]
    have b4 := zv_76 hI zc_194 3
    refine zt_iconst (pc' := 17) hX dX12_cellAt_16 rfl ?_
    refine zt_isub (pc' := 18) hX dX12_cellAt_17 rfl ?_
    refine zt_i2l (pc' := 19) hX dX12_cellAt_18 rfl ⟨by omega, by omega⟩ ?_
    refine zt_cSz (pc' := 22) hX dX12_cellAt_19 rfl zm_yX12_isIn zw_27_7 (zc_X12_isIn _ _ σ  a1_ ⟨by omega, by omega⟩ 0 ⟨by omega, by omega⟩ ((σ 194 3) - 1) ⟨by omega, by omega⟩) rfl rfl (Nat.le_of_ble_eq_true rfl) (by decide) (fun r5 s6 hr7 hp8 => ?_)
    obtain ⟨rfl, q9, q10, z11⟩ := hp8
    refine zt_ifeq (pc' := 25) (tgt := 52) hX dX12_cellAt_22 rfl (by decide) ⟨by omega, by omega⟩ (fun c12 => ?_) (fun c12 => ?_)
    · refine zt_iconst (pc' := 53) hX dX12_cellAt_52 rfl ?_
      exact zt_iret hX hR dX12_cellAt_53 ⟨by omega, by omega⟩ ⟨rfl, by omega, by omega, by omega, by omega⟩
    · refine zt_iload_n (pc' := 26) hX dX12_cellAt_25 rfl rfl ?_
      refine zt_i2l (pc' := 27) hX dX12_cellAt_26 rfl ⟨by omega, by omega⟩ ?_
      refine zt_lconst (pc' := 28) (y := 0) hX dX12_cellAt_27 rfl (by decide +kernel) ?_
      refine zt_aload_n (pc' := 29) hX dX12_cellAt_28 rfl rfl ?_
      refine zt_get (pc' := 32) (v := .ref (X.1.1 + 194)) hX dX12_cellAt_29 rfl zf_X12_102 (by decide) zc_164 zs_46 (zrf_of (zv_46_39 hI zc_164)) ?_
      refine zt_iconst (pc' := 33) hX dX12_cellAt_32 rfl ?_
      refine zt_iald (pc' := 34) hX dX12_cellAt_33 rfl (by decide) zc_194 zs_76 (by decide) ⟨by omega, by omega⟩ ?_
      rw [show Int.toNat 4 = 4 from rfl]
      have b14 := zv_76 hI zc_194 4
      refine zt_iconst (pc' := 35) hX dX12_cellAt_34 rfl ?_
      refine zt_isub (pc' := 36) hX dX12_cellAt_35 rfl ?_
      refine zt_i2l (pc' := 37) hX dX12_cellAt_36 rfl ⟨by omega, by omega⟩ ?_
      refine zt_cSz (pc' := 40) hX dX12_cellAt_37 rfl zm_yX12_isIn zw_27_7 (zc_X12_isIn _ _ σ  a2_ ⟨by omega, by omega⟩ 0 ⟨by omega, by omega⟩ ((σ 194 4) - 1) ⟨by omega, by omega⟩) rfl rfl (Nat.le_of_ble_eq_true rfl) (by decide) (fun r15 s16 hr17 hp18 => ?_)
      obtain ⟨rfl, q19, q20, z21⟩ := hp18
      refine zt_ifeq (pc' := 43) (tgt := 52) hX dX12_cellAt_40 rfl (by decide) ⟨by omega, by omega⟩ (fun c22 => ?_) (fun c22 => ?_)
      · refine zt_iconst (pc' := 53) hX dX12_cellAt_52 rfl ?_
        exact zt_iret hX hR dX12_cellAt_53 ⟨by omega, by omega⟩ ⟨rfl, by omega, by omega, by omega, by omega⟩
      · refine zt_iload_n (pc' := 44) hX dX12_cellAt_43 rfl rfl ?_
        refine zt_bipush (pc' := 46) hX dX12_cellAt_44 rfl (by decide) (by decide) ?_
        refine zt_iload_n (pc' := 47) hX dX12_cellAt_46 rfl rfl ?_
        refine zt_imul (pc' := 48) hX dX12_cellAt_47 rfl ?_
        refine zt_iadd (pc' := 49) hX dX12_cellAt_48 rfl ?_
        refine zt_goto (tgt := 53) hX dX12_cellAt_49 (by decide) ?_
        exact zt_iret hX hR dX12_cellAt_53 ⟨by omega, by omega⟩ ⟨rfl, by omega, by omega, by omega, by omega⟩

set_option maxRecDepth 100000 in
set_option maxHeartbeats 2000000 in
theorem zc_X12_sound (l : Launch) (E : zEN) (σ : zSto) (hI : zInv σ)  : zCt l E yX12_sound cX12_sound 4 (some .int) 2 zNC zNC 0 0 σ [.ref (E.1 + 164)] (fun r σ' => zInv σ' ∧ zGN σ σ' ∧ -1 ≤ r ∧ r ≤ 12 ∧ (σ' 164 1 = 0) ∧ (σ' 164 7 = σ 164 7) ∧ (σ' 164 8 = σ 164 8)) := by
  refine zCt_of2 [some (.ref (E.1 + 164)), none, none, none] (by decide +kernel) (Nat.le_of_ble_eq_true rfl) rfl ?_
  intro X hE hX hR hL hN
  subst hE
  have hX : zok X cX12_sound RX12 2 := hX
  have hF := zGN_rf σ
  have b1 := zv_46_1 hI zc_164
  have b2 := zv_46_64 hI zc_164
  have b3 := zv_46_7 hI zc_164
  have b4 := zv_46_8 hI zc_164
  refine zt_aload_n (pc' := 1) hX dX12_sound_0 rfl rfl ?_
  have b5 := zv_46_1 hI zc_164
  refine zt_get (pc' := 4) (v := .int (zI (σ 164 1))) hX dX12_sound_1 rfl zf_X12_243 (by decide) zc_164 zs_46 rfl ?_
  refine zt_istore_n (pc' := 5) (lv' := [some (.ref (X.1.1 + 164)), some (.int (zI (σ 164 1))), none, none]) hX dX12_sound_4 rfl hL (by decide) rfl ?_
  refine zt_aload_n (pc' := 6) hX dX12_sound_5 rfl rfl ?_
  refine zt_iconst (pc' := 7) hX dX12_sound_6 rfl ?_
  refine zt_put (pc' := 10) (x := 0) hX dX12_sound_7 rfl zf_X12_243 (by decide) zc_164 zs_46 (fun q hq => by cases hq; rfl) rfl rfl rfl ?_
  generalize hs7 : zset σ 164 1 0 = s6
  have hI8 : zInv s6 := hs7 ▸ zp_46_1 hI zc_164 ⟨by omega, by omega⟩
  have hF9 : zGN σ s6 := hs7 ▸ zGN_set hF zc_164 (by decide) zk_46 (Or.inr (by decide)) (by decide)
  have w10 := zsn_k hs7 (σ 164 1) ⟨Or.inr (by decide), by decide, by decide⟩
  have e11 : s6 164 1 = 0 := by rw [← hs7]; exact zset_s
  have e12 : s6 164 64 = σ 164 64 := by rw [← hs7]; exact zset_j (by decide)
  have e13 : s6 164 7 = σ 164 7 := by rw [← hs7]; exact zset_j (by decide)
  have e14 : s6 164 8 = σ 164 8 := by rw [← hs7]; exact zset_j (by decide)
  refine zt_aload_n (pc' := 11) hX dX12_sound_10 rfl rfl ?_
  have b15 := zv_46_50 hI8 zc_164
  have e16 : s6 164 50 = σ 164 50 := by rw [← hs7]; exact zset_j (by decide)
  refine zt_get (pc' := 14) (v := .int (zI (s6 164 50))) hX dX12_sound_11 rfl zf_X12_375 (by decide) zc_164 zs_46 rfl ?_
  have J_40_20 : ∀ (y17 : Int), 0 ≤ y17 → y17 ≤ 1 → (y17 = 1 → 0 < σ 164 1 ∧ σ 164 1 % 4 = 0 ∧ σ 164 1 ≤ 48) → zF X s6 40 [some (.ref (X.1.1 + 164)), some (.int (zI (σ 164 1))), none, none] [.int (zI y17)] := by
    intro y17 h18 h19 g20
    refine zt_istore_n (pc' := 41) (lv' := [some (.ref (X.1.1 + 164)), some (.int (zI (σ 164 1))), some (.int (zI y17)), none]) hX dX12_sound_40 rfl hL (by decide) rfl ?_
    refine zt_iconst (pc' := 42) hX dX12_sound_41 rfl ?_
    refine zt_istore_n (pc' := 43) (lv' := [some (.ref (X.1.1 + 164)), some (.int (zI (σ 164 1))), some (.int (zI y17)), some (.int (zI 0))]) hX dX12_sound_42 rfl hL (by decide) rfl ?_
    have h22 := zsn_0 s6
    have L_43_31 : ∀ (N : Nat) (x23 : Int) (x26 : Int), 0 ≤ x23 → x23 ≤ 1 → 0 ≤ x26 → x26 ≤ 1603 → (x23 = 1 → zsn s6 x26 = 1 ∧ 0 < σ 164 1 ∧ σ 164 1 % 4 = 0 ∧ σ 164 1 ≤ 48) → x26 % 4 = 0 → x26 ≤ 1603 → ((1604 - x26).toNat) < N → zF X s6 43 [some (.ref (X.1.1 + 164)), some (.int (zI (σ 164 1))), some (.int (zI x23)), some (.int (zI x26))] [] := by
      intro N
      induction N with
      | zero =>
        intro x23 x26 h24 h25 h27 h28 g29 g30 g31 hm33
        exact absurd hm33 (Nat.not_lt_zero _)
      | succ N ih34 =>
        intro x23 x26 h24 h25 h27 h28 g29 g30 g31 hm33
        refine zt_iload_n (pc' := 44) hX dX12_sound_43 rfl rfl ?_
        refine zt_iload_n (pc' := 45) hX dX12_sound_44 rfl rfl ?_
        have h35 : zsn s6 x26 = 1 ∧ (σ 164 1) ≤ x26 → zsn s6 (σ 164 1) = 1 := fun h => zsn_le h.1 h.2
        have J_86_36 : (x23 = 1 → zsn s6 (σ 164 1) = 1 ∧ 0 < σ 164 1 ∧ σ 164 1 % 4 = 0 ∧ σ 164 1 ≤ 48) → zF X s6 86 [some (.ref (X.1.1 + 164)), some (.int (zI (σ 164 1))), some (.int (zI x23)), none] [] := by
          intro g36
          refine zt_iload_n (pc' := 87) hX dX12_sound_86 rfl rfl ?_
          refine zt_ifne (pc' := 90) (tgt := 96) hX dX12_sound_87 rfl (by decide) ⟨by omega, by omega⟩ (fun c38 => ?_) (fun c38 => ?_)
          · refine zt_aload_n (pc' := 97) hX dX12_sound_96 rfl rfl ?_
            refine zt_iload_n (pc' := 98) hX dX12_sound_97 rfl rfl ?_
            refine zt_iconst (pc' := 99) hX dX12_sound_98 rfl ?_
            refine zt_idiv (pc' := 100) hX dX12_sound_99 rfl ⟨by omega, by omega⟩ ⟨by omega, by omega⟩ (fun r39 er39 br39 => ?_)
            rw [ztd_p (by omega)] at er39
            refine zt_put (pc' := 103) (x := r39) hX dX12_sound_100 rfl zf_X12_382 (by decide) zc_164 zs_46 (fun q hq => by cases hq; rfl) rfl rfl rfl ?_
            generalize hs41 : zset s6 164 64 r39 = s40
            have hI42 : zInv s40 := hs41 ▸ zp_46_64 hI8 zc_164 ⟨by omega, by omega⟩
            have hF43 : zGN σ s40 := hs41 ▸ zGN_set hF9 zc_164 (by decide) zk_46 (Or.inr (by decide)) (by decide)
            have w44 := zsn_k hs41 (σ 164 1) ⟨Or.inr (by decide), by decide, by decide⟩
            have e45 : s40 164 1 = s6 164 1 := by rw [← hs41]; exact zset_j (by decide)
            have e46 : s40 164 64 = r39 := by rw [← hs41]; exact zset_s
            have e47 : s40 164 7 = s6 164 7 := by rw [← hs41]; exact zset_j (by decide)
            have e48 : s40 164 8 = s6 164 8 := by rw [← hs41]; exact zset_j (by decide)
            refine zt_iconst (pc' := 104) hX dX12_sound_103 rfl ?_
            refine zt_istore_n (pc' := 105) (lv' := [some (.ref (X.1.1 + 164)), some (.int (zI (σ 164 1))), some (.int (zI x23)), some (.int (zI 0))]) hX dX12_sound_104 rfl hL (by decide) rfl ?_
            have L_105_59 : ∀ (N : Nat) (x49 : Int) (s52 : zSto), 0 ≤ x49 → x49 ≤ 12 → zInv s52 → zGN σ s52 → zsn s52 (σ 164 1) = 1 → 4 * s52 164 64 = σ 164 1 → s52 164 1 = 0 → s52 164 7 = σ 164 7 → s52 164 8 = σ 164 8 → ((13 - x49).toNat) < N → zF X s52 105 [some (.ref (X.1.1 + 164)), none, none, some (.int (zI x49))] [] := by
              intro N
              induction N with
              | zero =>
                intro x49 s52 h50 h51 hI53 hF54 g55 g56 g57 g58 g59 hm61
                exact absurd hm61 (Nat.not_lt_zero _)
              | succ N ih62 =>
                intro x49 s52 h50 h51 hI53 hF54 g55 g56 g57 g58 g59 hm61
                have b63 := zv_46_1 hI53 zc_164
                have b64 := zv_46_64 hI53 zc_164
                have b65 := zv_46_7 hI53 zc_164
                have b66 := zv_46_8 hI53 zc_164
                refine zt_iload_n (pc' := 106) hX dX12_sound_105 rfl rfl ?_
                refine zt_aload_n (pc' := 107) hX dX12_sound_106 rfl rfl ?_
                have b67 := zv_46_64 hI53 zc_164
                refine zt_get (pc' := 110) (v := .int (zI (s52 164 64))) hX dX12_sound_107 rfl zf_X12_382 (by decide) zc_164 zs_46 rfl ?_
                refine zt_icge (pc' := 113) (tgt := 188) hX dX12_sound_110 rfl (by decide) ⟨by omega, by omega⟩ ⟨by omega, by omega⟩ (fun c68 => ?_) (fun c68 => ?_)
                · refine zt_aload_n (pc' := 189) hX dX12_sound_188 rfl rfl ?_
                  refine zt_get (pc' := 192) (v := .int (zI (s52 164 64))) hX dX12_sound_189 rfl zf_X12_382 (by decide) zc_164 zs_46 rfl ?_
                  exact zt_iret hX hR dX12_sound_192 ⟨by omega, by omega⟩ ⟨hI53, hF54, by omega, by omega, by omega, by omega, by omega⟩
                · refine zt_aload_n (pc' := 114) hX dX12_sound_113 rfl rfl ?_
                  refine zt_get (pc' := 117) (v := .ref (X.1.1 + 207)) hX dX12_sound_114 rfl zf_X12_146 (by decide) zc_164 zs_46 (zrf_of (zv_46_65 hI53 zc_164)) ?_
                  refine zt_iconst (pc' := 118) hX dX12_sound_117 rfl ?_
                  refine zt_iload_n (pc' := 119) hX dX12_sound_118 rfl rfl ?_
                  refine zt_imul (pc' := 120) hX dX12_sound_119 rfl ?_
                  refine zt_aload_n (pc' := 121) hX dX12_sound_120 rfl rfl ?_
                  refine zt_aload_n (pc' := 122) hX dX12_sound_121 rfl rfl ?_
                  refine zt_get (pc' := 125) (v := .ref (X.1.1 + 165)) hX dX12_sound_122 rfl zf_X12_7 (by decide) zc_164 zs_46 (zrf_of (zv_46_0 hI53 zc_164)) ?_
                  refine zt_iconst (pc' := 126) hX dX12_sound_125 rfl ?_
                  refine zt_iload_n (pc' := 127) hX dX12_sound_126 rfl rfl ?_
                  refine zt_imul (pc' := 128) hX dX12_sound_127 rfl ?_
                  refine zt_iald (pc' := 129) hX dX12_sound_128 rfl (by decide) zc_165 zs_47 (by decide) ⟨by omega, by omega⟩ ?_
                  generalize hv69 : s52 165 ((4 * x49).toNat) = v69
                  have bv69 : 0 ≤ v69 ∧ v69 ≤ 255 := hv69 ▸ zv_47 hI53 zc_165 _
                  refine zt_aload_n (pc' := 130) hX dX12_sound_129 rfl rfl ?_
                  refine zt_get (pc' := 133) (v := .ref (X.1.1 + 165)) hX dX12_sound_130 rfl zf_X12_7 (by decide) zc_164 zs_46 (zrf_of (zv_46_0 hI53 zc_164)) ?_
                  refine zt_iconst (pc' := 134) hX dX12_sound_133 rfl ?_
                  refine zt_iload_n (pc' := 135) hX dX12_sound_134 rfl rfl ?_
                  refine zt_imul (pc' := 136) hX dX12_sound_135 rfl ?_
                  refine zt_iconst (pc' := 137) hX dX12_sound_136 rfl ?_
                  refine zt_iadd (pc' := 138) hX dX12_sound_137 rfl ?_
                  refine zt_iald (pc' := 139) hX dX12_sound_138 rfl (by decide) zc_165 zs_47 (by decide) ⟨by omega, by omega⟩ ?_
                  generalize hv70 : s52 165 (((4 * x49) + 1).toNat) = v70
                  have bv70 : 0 ≤ v70 ∧ v70 ≤ 255 := hv70 ▸ zv_47 hI53 zc_165 _
                  refine zt_cVi (pc' := 142) hX dX12_sound_139 rfl zm_yX12_cellAt zw_44_11 zc_164 (by decide) zs_46 (q := (RX12, TX12, 108)) rfl rfl (zc_X12_cellAt_C _ _ s52 hI53 v69 ⟨by omega, by omega⟩ v70 ⟨by omega, by omega⟩) rfl rfl (Nat.le_of_ble_eq_true rfl) (by decide) (fun r71 s72 hr73 hp74 => ?_)
                  obtain ⟨rfl, q75, q76, z77, z78⟩ := hp74
                  have h79 := zsn_at (s := s52) (n := σ 164 1) (k := x49) (by omega) (by omega) (by omega) hv69 hv70
                  refine zt_iast (pc' := 143) hX dX12_sound_142 rfl (by decide) zc_207 zs_89 (by decide) ⟨by omega, by omega⟩ ?_
                  generalize hs81 : zset s52 207 ((2 * x49).toNat) r71 = s80
                  have hI82 : zInv s80 := hs81 ▸ zp_89 hI53 zc_207 ((2 * x49).toNat) (by omega)
                  have hF83 : zGN σ s80 := hs81 ▸ zGN_set hF54 zc_207 (by decide) zk_89 (Or.inl (by decide)) (by decide)
                  have w84 := zsn_k hs81 (σ 164 1) ⟨Or.inl (by decide), by decide, by decide⟩
                  have e85 : s80 164 1 = s52 164 1 := by rw [← hs81]; exact zset_k (zne_r zc_164 zc_207 (by decide))
                  have e86 : s80 164 64 = s52 164 64 := by rw [← hs81]; exact zset_k (zne_r zc_164 zc_207 (by decide))
                  have e87 : s80 164 7 = s52 164 7 := by rw [← hs81]; exact zset_k (zne_r zc_164 zc_207 (by decide))
                  have e88 : s80 164 8 = s52 164 8 := by rw [← hs81]; exact zset_k (zne_r zc_164 zc_207 (by decide))
                  refine zt_aload_n (pc' := 144) hX dX12_sound_143 rfl rfl ?_
                  refine zt_get (pc' := 147) (v := .ref (X.1.1 + 207)) hX dX12_sound_144 rfl zf_X12_146 (by decide) zc_164 zs_46 (zrf_of (zv_46_65 hI82 zc_164)) ?_
                  refine zt_iconst (pc' := 148) hX dX12_sound_147 rfl ?_
                  refine zt_iload_n (pc' := 149) hX dX12_sound_148 rfl rfl ?_
                  refine zt_imul (pc' := 150) hX dX12_sound_149 rfl ?_
                  refine zt_iconst (pc' := 151) hX dX12_sound_150 rfl ?_
                  refine zt_iadd (pc' := 152) hX dX12_sound_151 rfl ?_
                  refine zt_sipush (pc' := 155) hX dX12_sound_152 rfl (by decide) (by decide) ?_
                  refine zt_aload_n (pc' := 156) hX dX12_sound_155 rfl rfl ?_
                  refine zt_get (pc' := 159) (v := .ref (X.1.1 + 165)) hX dX12_sound_156 rfl zf_X12_7 (by decide) zc_164 zs_46 (zrf_of (zv_46_0 hI82 zc_164)) ?_
                  refine zt_iconst (pc' := 160) hX dX12_sound_159 rfl ?_
                  refine zt_iload_n (pc' := 161) hX dX12_sound_160 rfl rfl ?_
                  refine zt_imul (pc' := 162) hX dX12_sound_161 rfl ?_
                  refine zt_iconst (pc' := 163) hX dX12_sound_162 rfl ?_
                  refine zt_iadd (pc' := 164) hX dX12_sound_163 rfl ?_
                  refine zt_iald (pc' := 165) hX dX12_sound_164 rfl (by decide) zc_165 zs_47 (by decide) ⟨by omega, by omega⟩ ?_
                  generalize hv89 : s80 165 (((4 * x49) + 2).toNat) = v89
                  have bv89 : 0 ≤ v89 ∧ v89 ≤ 255 := hv89 ▸ zv_47 hI82 zc_165 _
                  refine zt_imul (pc' := 166) hX dX12_sound_165 rfl ?_
                  refine zt_aload_n (pc' := 167) hX dX12_sound_166 rfl rfl ?_
                  refine zt_get (pc' := 170) (v := .ref (X.1.1 + 165)) hX dX12_sound_167 rfl zf_X12_7 (by decide) zc_164 zs_46 (zrf_of (zv_46_0 hI82 zc_164)) ?_
                  refine zt_iconst (pc' := 171) hX dX12_sound_170 rfl ?_
                  refine zt_iload_n (pc' := 172) hX dX12_sound_171 rfl rfl ?_
                  refine zt_imul (pc' := 173) hX dX12_sound_172 rfl ?_
                  refine zt_iconst (pc' := 174) hX dX12_sound_173 rfl ?_
                  refine zt_iadd (pc' := 175) hX dX12_sound_174 rfl ?_
                  refine zt_iald (pc' := 176) hX dX12_sound_175 rfl (by decide) zc_165 zs_47 (by decide) ⟨by omega, by omega⟩ ?_
                  generalize hv90 : s80 165 (((4 * x49) + 3).toNat) = v90
                  have bv90 : 0 ≤ v90 ∧ v90 ≤ 255 := hv90 ▸ zv_47 hI82 zc_165 _
                  refine zt_iadd (pc' := 177) hX dX12_sound_176 rfl ?_
                  refine zt_sipush (pc' := 180) hX dX12_sound_177 rfl (by decide) (by decide) ?_
                  refine zt_isub (pc' := 181) hX dX12_sound_180 rfl ?_
                  refine zt_iast (pc' := 182) hX dX12_sound_181 rfl (by decide) zc_207 zs_89 (by decide) ⟨by omega, by omega⟩ ?_
                  generalize hs92 : zset s80 207 (((2 * x49) + 1).toNat) (((256 * v89) + v90) - 500) = s91
                  have hI93 : zInv s91 := hs92 ▸ zp_89 hI82 zc_207 (((2 * x49) + 1).toNat) (by omega)
                  have hF94 : zGN σ s91 := hs92 ▸ zGN_set hF83 zc_207 (by decide) zk_89 (Or.inl (by decide)) (by decide)
                  have w95 := zsn_k hs92 (σ 164 1) ⟨Or.inl (by decide), by decide, by decide⟩
                  have e96 : s91 164 1 = s80 164 1 := by rw [← hs92]; exact zset_k (zne_r zc_164 zc_207 (by decide))
                  have e97 : s91 164 64 = s80 164 64 := by rw [← hs92]; exact zset_k (zne_r zc_164 zc_207 (by decide))
                  have e98 : s91 164 7 = s80 164 7 := by rw [← hs92]; exact zset_k (zne_r zc_164 zc_207 (by decide))
                  have e99 : s91 164 8 = s80 164 8 := by rw [← hs92]; exact zset_k (zne_r zc_164 zc_207 (by decide))
                  refine zt_iinc (pc' := 185) (lv' := [some (.ref (X.1.1 + 164)), none, none, some (.int (zI (x49 + 1)))]) hX dX12_sound_182 rfl rfl hL (by decide) rfl ?_
                  refine zt_goto (tgt := 105) hX dX12_sound_185 (by decide) ?_
                  exact ih62 (x49 + 1) s91 (by omega) (by omega) hI93 hF94 (by omega) (by omega) (by omega) (by omega) (by omega) (by omega)
            refine zt_mask [true, false, false, true] rfl ?_
            exact L_105_59 _ 0 s40 (by omega) (by omega) hI42 hF43 (by omega) (by omega) (by omega) (by omega) (by omega) (Nat.lt_succ_self _)
          · refine zt_aload_n (pc' := 91) hX dX12_sound_90 rfl rfl ?_
            refine zt_iconst (pc' := 92) hX dX12_sound_91 rfl ?_
            refine zt_cVi (pc' := 95) hX dX12_sound_92 rfl zm_yX12_refuses zw_57_10 zc_164 (by decide) zs_46 (q := (RX12, TX12, 108)) rfl rfl (zc_X12_refuses _ _ s6 hI8 1 ⟨by omega, by omega⟩) rfl rfl (Nat.le_of_ble_eq_true rfl) (by decide) (fun r100 s101 hr102 hp103 => ?_)
            obtain ⟨hI104, hF105, q106, q107⟩ := hp103
            have e108 : s101 164 1 = s6 164 1 := hF105.1.2.1
            have e109 : s101 164 7 = s6 164 7 := hF105.1.2.2.1
            have e110 : s101 164 8 = s6 164 8 := hF105.1.2.2.2
            have hF111 := zGN_tr hF9 (zGN_of hF105)
            have b112 := zv_46_1 hI104 zc_164
            have b113 := zv_46_64 hI104 zc_164
            have b114 := zv_46_7 hI104 zc_164
            have b115 := zv_46_8 hI104 zc_164
            exact zt_iret hX hR dX12_sound_95 ⟨by omega, by omega⟩ ⟨hI104, hF111, by omega, by omega, by omega, by omega, by omega⟩
        refine zt_icge (pc' := 48) (tgt := 86) hX dX12_sound_45 rfl (by decide) ⟨by omega, by omega⟩ ⟨by omega, by omega⟩ (fun c116 => ?_) (fun c116 => ?_)
        · refine zt_mask [true, true, true, false] rfl ?_
          exact J_86_36 (by omega)
        · refine zt_iload_n (pc' := 49) hX dX12_sound_48 rfl rfl ?_
          refine zt_ifeq (pc' := 52) (tgt := 86) hX dX12_sound_49 rfl (by decide) ⟨by omega, by omega⟩ (fun c117 => ?_) (fun c117 => ?_)
          · refine zt_mask [true, true, true, false] rfl ?_
            exact J_86_36 (by omega)
          · refine zt_aload_n (pc' := 53) hX dX12_sound_52 rfl rfl ?_
            refine zt_aload_n (pc' := 54) hX dX12_sound_53 rfl rfl ?_
            refine zt_get (pc' := 57) (v := .ref (X.1.1 + 165)) hX dX12_sound_54 rfl zf_X12_7 (by decide) zc_164 zs_46 (zrf_of (zv_46_0 hI8 zc_164)) ?_
            refine zt_iload_n (pc' := 58) hX dX12_sound_57 rfl rfl ?_
            refine zt_iald (pc' := 59) hX dX12_sound_58 rfl (by decide) zc_165 zs_47 (by decide) ⟨by omega, by omega⟩ ?_
            generalize hv118 : s6 165 (x26.toNat) = v118
            have bv118 : 0 ≤ v118 ∧ v118 ≤ 255 := hv118 ▸ zv_47 hI8 zc_165 _
            refine zt_aload_n (pc' := 60) hX dX12_sound_59 rfl rfl ?_
            refine zt_get (pc' := 63) (v := .ref (X.1.1 + 165)) hX dX12_sound_60 rfl zf_X12_7 (by decide) zc_164 zs_46 (zrf_of (zv_46_0 hI8 zc_164)) ?_
            refine zt_iload_n (pc' := 64) hX dX12_sound_63 rfl rfl ?_
            refine zt_iconst (pc' := 65) hX dX12_sound_64 rfl ?_
            refine zt_iadd (pc' := 66) hX dX12_sound_65 rfl ?_
            refine zt_iald (pc' := 67) hX dX12_sound_66 rfl (by decide) zc_165 zs_47 (by decide) ⟨by omega, by omega⟩ ?_
            generalize hv119 : s6 165 ((x26 + 1).toNat) = v119
            have bv119 : 0 ≤ v119 ∧ v119 ≤ 255 := hv119 ▸ zv_47 hI8 zc_165 _
            refine zt_cVi (pc' := 70) hX dX12_sound_67 rfl zm_yX12_cellAt zw_44_11 zc_164 (by decide) zs_46 (q := (RX12, TX12, 108)) rfl rfl (zc_X12_cellAt_C _ _ s6 hI8 v118 ⟨by omega, by omega⟩ v119 ⟨by omega, by omega⟩) rfl rfl (Nat.le_of_ble_eq_true rfl) (by decide) (fun r120 s121 hr122 hp123 => ?_)
            obtain ⟨rfl, q124, q125, z126, z127⟩ := hp123
            have h128 := zsn_s (s := s6) (k := x26) (by omega) (by omega) hv118 hv119
            refine zt_iconst (pc' := 71) hX dX12_sound_70 rfl ?_
            have J_79_132 : ∀ (y129 : Int), 0 ≤ y129 → y129 ≤ 1 → (y129 = 1 → zsn s6 (x26 + 4) = 1) → zF X s6 79 [some (.ref (X.1.1 + 164)), some (.int (zI (σ 164 1))), none, some (.int (zI x26))] [.int (zI y129)] := by
              intro y129 h130 h131 g132
              refine zt_istore_n (pc' := 80) (lv' := [some (.ref (X.1.1 + 164)), some (.int (zI (σ 164 1))), some (.int (zI y129)), some (.int (zI x26))]) hX dX12_sound_79 rfl hL (by decide) rfl ?_
              refine zt_iinc (pc' := 83) (lv' := [some (.ref (X.1.1 + 164)), some (.int (zI (σ 164 1))), some (.int (zI y129)), some (.int (zI (x26 + 4)))]) hX dX12_sound_80 rfl rfl hL (by decide) rfl ?_
              refine zt_goto (tgt := 43) hX dX12_sound_83 (by decide) ?_
              exact ih34 y129 (x26 + 4) (by omega) (by omega) (by omega) (by omega) (by omega) (by omega) (by omega) (by omega)
            refine zt_iceq (pc' := 74) (tgt := 78) hX dX12_sound_71 rfl (by decide) ⟨by omega, by omega⟩ ⟨by omega, by omega⟩ (fun c134 => ?_) (fun c134 => ?_)
            · clear z126
              refine zt_iconst (pc' := 79) hX dX12_sound_78 rfl ?_
              refine zt_mask [true, true, false, true] rfl ?_
              exact J_79_132 0 (by omega) (by omega) (by omega)
            · have qz126 := z126 (by omega)
              clear z126
              refine zt_iconst (pc' := 75) hX dX12_sound_74 rfl ?_
              refine zt_goto (tgt := 79) hX dX12_sound_75 (by decide) ?_
              refine zt_mask [true, true, false, true] rfl ?_
              exact J_79_132 1 (by omega) (by omega) (by omega)
    exact L_43_31 _ y17 0 (by omega) (by omega) (by omega) (by omega) (by omega) (by omega) (by omega) (Nat.lt_succ_self _)
  have J_39_134 : zF X s6 39 [some (.ref (X.1.1 + 164)), some (.int (zI (σ 164 1))), none, none] [] := by
    refine zt_iconst (pc' := 40) hX dX12_sound_39 rfl ?_
    exact J_40_20 0 (by omega) (by omega) (by omega)
  refine zt_ifeq (pc' := 17) (tgt := 39) hX dX12_sound_14 rfl (by decide) ⟨by omega, by omega⟩ (fun c136 => ?_) (fun c136 => ?_)
  · exact J_39_134
  · refine zt_iload_n (pc' := 18) hX dX12_sound_17 rfl rfl ?_
    refine zt_ifle (pc' := 21) (tgt := 39) hX dX12_sound_18 rfl (by decide) ⟨by omega, by omega⟩ (fun c137 => ?_) (fun c137 => ?_)
    · exact J_39_134
    · refine zt_iload_n (pc' := 22) hX dX12_sound_21 rfl rfl ?_
      refine zt_iconst (pc' := 23) hX dX12_sound_22 rfl ?_
      refine zt_irem (pc' := 24) hX dX12_sound_23 rfl ⟨by omega, by omega⟩ ⟨by omega, by omega⟩ (fun r138 er138 br138 nr138 => ?_)
      rw [ztm_p (by omega)] at er138
      refine zt_ifne (pc' := 27) (tgt := 39) hX dX12_sound_24 rfl (by decide) ⟨by omega, by omega⟩ (fun c139 => ?_) (fun c139 => ?_)
      · exact J_39_134
      · refine zt_iload_n (pc' := 28) hX dX12_sound_27 rfl rfl ?_
        refine zt_iconst (pc' := 29) hX dX12_sound_28 rfl ?_
        refine zt_idiv (pc' := 30) hX dX12_sound_29 rfl ⟨by omega, by omega⟩ ⟨by omega, by omega⟩ (fun r140 er140 br140 => ?_)
        rw [ztd_p (by omega)] at er140
        refine zt_bipush (pc' := 32) hX dX12_sound_30 rfl (by decide) (by decide) ?_
        refine zt_icgt (pc' := 35) (tgt := 39) hX dX12_sound_32 rfl (by decide) ⟨by omega, by omega⟩ ⟨by omega, by omega⟩ (fun c141 => ?_) (fun c141 => ?_)
        · exact J_39_134
        · refine zt_iconst (pc' := 36) hX dX12_sound_35 rfl ?_
          refine zt_goto (tgt := 40) hX dX12_sound_36 (by decide) ?_
          exact J_40_20 1 (by omega) (by omega) (by omega)

set_option maxRecDepth 100000 in
set_option maxHeartbeats 2000000 in
theorem zc_X12_isPersonTold (l : Launch) (E : zEN) (σ : zSto) (hI : zInv σ) (a1_ : Int) (ha1_ : 2 ≤ a1_ ∧ a1_ ≤ 38) (a2_ : Int) (ha2_ : 0 ≤ a2_ ∧ a2_ ≤ 9) : zCt l E yX12_isPersonTold cX12_isPersonTold 5 (some .boolean) 2 zNC zNC 0 0 σ [.ref (E.1 + 164), .int (zI a1_), .int (zI a2_)] (fun r σ' => σ = σ' ∧ 0 ≤ r ∧ r ≤ 1 ∧ (r = 1 → σ 165 (a1_ + 4 * a2_).toNat ≤ 5 ∧ σ 165 (a1_ + 4 * a2_ + 1).toNat ≤ 5)) := by
  refine zCt_of2 [some (.ref (E.1 + 164)), some (.int (zI a1_)), some (.int (zI a2_)), none, none] (by decide +kernel) (Nat.le_of_ble_eq_true rfl) rfl ?_
  intro X hE hX hR hL hN
  subst hE
  have hX : zok X cX12_isPersonTold RX12 2 := hX
  have b3 := zv_76 hI zc_194 3
  have b4 := zv_76 hI zc_194 4
  refine zt_iload_n (pc' := 1) hX dX12_isPersonTold_0 rfl rfl ?_
  refine zt_iconst (pc' := 2) hX dX12_isPersonTold_1 rfl ?_
  refine zt_iload_n (pc' := 3) hX dX12_isPersonTold_2 rfl rfl ?_
  refine zt_imul (pc' := 4) hX dX12_isPersonTold_3 rfl ?_
  refine zt_iadd (pc' := 5) hX dX12_isPersonTold_4 rfl ?_
  refine zt_istore_n (pc' := 6) (lv' := [some (.ref (X.1.1 + 164)), some (.int (zI a1_)), some (.int (zI a2_)), some (.int (zI (a1_ + (4 * a2_)))), none]) hX dX12_isPersonTold_5 rfl hL (by decide) rfl ?_
  refine zt_aload_n (pc' := 7) hX dX12_isPersonTold_6 rfl rfl ?_
  refine zt_aload_n (pc' := 8) hX dX12_isPersonTold_7 rfl rfl ?_
  refine zt_get (pc' := 11) (v := .ref (X.1.1 + 165)) hX dX12_isPersonTold_8 rfl zf_X12_7 (by decide) zc_164 zs_46 (zrf_of (zv_46_0 hI zc_164)) ?_
  refine zt_iload_n (pc' := 12) hX dX12_isPersonTold_11 rfl rfl ?_
  refine zt_iald (pc' := 13) hX dX12_isPersonTold_12 rfl (by decide) zc_165 zs_47 (by decide) ⟨by omega, by omega⟩ ?_
  generalize hv1 : σ 165 ((a1_ + (4 * a2_)).toNat) = v1
  have bv1 : 0 ≤ v1 ∧ v1 ≤ 255 := hv1 ▸ zv_47 hI zc_165 _
  refine zt_aload_n (pc' := 14) hX dX12_isPersonTold_13 rfl rfl ?_
  refine zt_get (pc' := 17) (v := .ref (X.1.1 + 165)) hX dX12_isPersonTold_14 rfl zf_X12_7 (by decide) zc_164 zs_46 (zrf_of (zv_46_0 hI zc_164)) ?_
  refine zt_iload_n (pc' := 18) hX dX12_isPersonTold_17 rfl rfl ?_
  refine zt_iconst (pc' := 19) hX dX12_isPersonTold_18 rfl ?_
  refine zt_iadd (pc' := 20) hX dX12_isPersonTold_19 rfl ?_
  refine zt_iald (pc' := 21) hX dX12_isPersonTold_20 rfl (by decide) zc_165 zs_47 (by decide) ⟨by omega, by omega⟩ ?_
  generalize hv2 : σ 165 (((a1_ + (4 * a2_)) + 1).toNat) = v2
  have bv2 : 0 ≤ v2 ∧ v2 ≤ 255 := hv2 ▸ zv_47 hI zc_165 _
  refine zt_cVi (pc' := 24) hX dX12_isPersonTold_21 rfl zm_yX12_cellAt zw_44_11 zc_164 (by decide) zs_46 (q := (RX12, TX12, 108)) rfl rfl (zc_X12_cellAt_C _ _ σ hI v1 ⟨by omega, by omega⟩ v2 ⟨by omega, by omega⟩) rfl rfl (Nat.le_of_ble_eq_true rfl) (by decide) (fun r3 s4 hr5 hp6 => ?_)
  obtain ⟨rfl, q7, q8, z9, z10⟩ := hp6
  refine zt_iconst (pc' := 25) hX dX12_isPersonTold_24 rfl ?_
  refine zt_iceq (pc' := 28) (tgt := 53) hX dX12_isPersonTold_25 rfl (by decide) ⟨by omega, by omega⟩ ⟨by omega, by omega⟩ (fun c11 => ?_) (fun c11 => ?_)
  · clear z9
    refine zt_iconst (pc' := 54) hX dX12_isPersonTold_53 rfl ?_
    exact zt_zret hX hR dX12_isPersonTold_54 ⟨by omega, by omega⟩ ⟨rfl, by omega, by omega, by omega⟩
  · have qz9 := z9 (by omega)
    clear z9
    refine zt_aload_n (pc' := 29) hX dX12_isPersonTold_28 rfl rfl ?_
    refine zt_get (pc' := 32) (v := .ref (X.1.1 + 165)) hX dX12_isPersonTold_29 rfl zf_X12_7 (by decide) zc_164 zs_46 (zrf_of (zv_46_0 hI zc_164)) ?_
    refine zt_iload_n (pc' := 33) hX dX12_isPersonTold_32 rfl rfl ?_
    refine zt_iconst (pc' := 34) hX dX12_isPersonTold_33 rfl ?_
    refine zt_iadd (pc' := 35) hX dX12_isPersonTold_34 rfl ?_
    refine zt_iald (pc' := 36) hX dX12_isPersonTold_35 rfl (by decide) zc_165 zs_47 (by decide) ⟨by omega, by omega⟩ ?_
    generalize hv12 : σ 165 (((a1_ + (4 * a2_)) + 2).toNat) = v12
    have bv12 : 0 ≤ v12 ∧ v12 ≤ 255 := hv12 ▸ zv_47 hI zc_165 _
    refine zt_bipush (pc' := 38) hX dX12_isPersonTold_36 rfl (by decide) (by decide) ?_
    refine zt_icgt (pc' := 41) (tgt := 53) hX dX12_isPersonTold_38 rfl (by decide) ⟨by omega, by omega⟩ ⟨by omega, by omega⟩ (fun c13 => ?_) (fun c13 => ?_)
    · refine zt_iconst (pc' := 54) hX dX12_isPersonTold_53 rfl ?_
      exact zt_zret hX hR dX12_isPersonTold_54 ⟨by omega, by omega⟩ ⟨rfl, by omega, by omega, by omega⟩
    · refine zt_aload_n (pc' := 42) hX dX12_isPersonTold_41 rfl rfl ?_
      refine zt_get (pc' := 45) (v := .ref (X.1.1 + 165)) hX dX12_isPersonTold_42 rfl zf_X12_7 (by decide) zc_164 zs_46 (zrf_of (zv_46_0 hI zc_164)) ?_
      refine zt_iload_n (pc' := 46) hX dX12_isPersonTold_45 rfl rfl ?_
      refine zt_iconst (pc' := 47) hX dX12_isPersonTold_46 rfl ?_
      refine zt_iadd (pc' := 48) hX dX12_isPersonTold_47 rfl ?_
      refine zt_iald (pc' := 49) hX dX12_isPersonTold_48 rfl (by decide) zc_165 zs_47 (by decide) ⟨by omega, by omega⟩ ?_
      generalize hv14 : σ 165 (((a1_ + (4 * a2_)) + 3).toNat) = v14
      have bv14 : 0 ≤ v14 ∧ v14 ≤ 255 := hv14 ▸ zv_47 hI zc_165 _
      refine zt_iconst (pc' := 50) hX dX12_isPersonTold_49 rfl ?_
      refine zt_icle (pc' := 53) (tgt := 55) hX dX12_isPersonTold_50 rfl (by decide) ⟨by omega, by omega⟩ ⟨by omega, by omega⟩ (fun c15 => ?_) (fun c15 => ?_)
      · refine zt_iload_n (pc' := 56) hX dX12_isPersonTold_55 rfl rfl ?_
        refine zt_istore (pc' := 58) (lv' := [some (.ref (X.1.1 + 164)), some (.int (zI a1_)), some (.int (zI a2_)), some (.int (zI (a1_ + (4 * a2_)))), some (.int (zI a1_))]) hX dX12_isPersonTold_56 rfl hL (by decide) rfl ?_
        have L_58_19 : ∀ (N : Nat) (x16 : Int), 2 ≤ x16 → x16 ≤ 77 → x16 ≤ 78 → ((80 - x16).toNat) < N → zF X σ 58 [some (.ref (X.1.1 + 164)), none, none, some (.int (zI (a1_ + (4 * a2_)))), some (.int (zI x16))] [] := by
          intro N
          induction N with
          | zero =>
            intro x16 h17 h18 g19 hm21
            exact absurd hm21 (Nat.not_lt_zero _)
          | succ N ih22 =>
            intro x16 h17 h18 g19 hm21
            refine zt_iload (pc' := 60) hX dX12_isPersonTold_58 rfl rfl ?_
            refine zt_iload_n (pc' := 61) hX dX12_isPersonTold_60 rfl rfl ?_
            refine zt_icge (pc' := 64) (tgt := 108) hX dX12_isPersonTold_61 rfl (by decide) ⟨by omega, by omega⟩ ⟨by omega, by omega⟩ (fun c23 => ?_) (fun c23 => ?_)
            · refine zt_iconst (pc' := 109) hX dX12_isPersonTold_108 rfl ?_
              exact zt_zret hX hR dX12_isPersonTold_109 ⟨by omega, by omega⟩ ⟨rfl, by omega, by omega, by omega⟩
            · refine zt_aload_n (pc' := 65) hX dX12_isPersonTold_64 rfl rfl ?_
              refine zt_get (pc' := 68) (v := .ref (X.1.1 + 165)) hX dX12_isPersonTold_65 rfl zf_X12_7 (by decide) zc_164 zs_46 (zrf_of (zv_46_0 hI zc_164)) ?_
              refine zt_iload (pc' := 70) hX dX12_isPersonTold_68 rfl rfl ?_
              refine zt_iald (pc' := 71) hX dX12_isPersonTold_70 rfl (by decide) zc_165 zs_47 (by decide) ⟨by omega, by omega⟩ ?_
              generalize hv24 : σ 165 (x16.toNat) = v24
              have bv24 : 0 ≤ v24 ∧ v24 ≤ 255 := hv24 ▸ zv_47 hI zc_165 _
              refine zt_aload_n (pc' := 72) hX dX12_isPersonTold_71 rfl rfl ?_
              refine zt_get (pc' := 75) (v := .ref (X.1.1 + 165)) hX dX12_isPersonTold_72 rfl zf_X12_7 (by decide) zc_164 zs_46 (zrf_of (zv_46_0 hI zc_164)) ?_
              refine zt_iload_n (pc' := 76) hX dX12_isPersonTold_75 rfl rfl ?_
              refine zt_iald (pc' := 77) hX dX12_isPersonTold_76 rfl (by decide) zc_165 zs_47 (by decide) ⟨by omega, by omega⟩ ?_
              generalize hv25 : σ 165 ((a1_ + (4 * a2_)).toNat) = v25
              have bv25 : 0 ≤ v25 ∧ v25 ≤ 255 := hv25 ▸ zv_47 hI zc_165 _
              have J_102_25 : zF X σ 102 [some (.ref (X.1.1 + 164)), none, none, some (.int (zI (a1_ + (4 * a2_)))), some (.int (zI x16))] [] := by
                refine zt_iinc (pc' := 105) (lv' := [some (.ref (X.1.1 + 164)), none, none, some (.int (zI (a1_ + (4 * a2_)))), some (.int (zI (x16 + 4)))]) hX dX12_isPersonTold_102 rfl rfl hL (by decide) rfl ?_
                refine zt_goto (tgt := 58) hX dX12_isPersonTold_105 (by decide) ?_
                exact ih22 (x16 + 4) (by omega) (by omega) (by omega) (by omega)
              refine zt_icne (pc' := 80) (tgt := 102) hX dX12_isPersonTold_77 rfl (by decide) ⟨by omega, by omega⟩ ⟨by omega, by omega⟩ (fun c27 => ?_) (fun c27 => ?_)
              · exact J_102_25
              · refine zt_aload_n (pc' := 81) hX dX12_isPersonTold_80 rfl rfl ?_
                refine zt_get (pc' := 84) (v := .ref (X.1.1 + 165)) hX dX12_isPersonTold_81 rfl zf_X12_7 (by decide) zc_164 zs_46 (zrf_of (zv_46_0 hI zc_164)) ?_
                refine zt_iload (pc' := 86) hX dX12_isPersonTold_84 rfl rfl ?_
                refine zt_iconst (pc' := 87) hX dX12_isPersonTold_86 rfl ?_
                refine zt_iadd (pc' := 88) hX dX12_isPersonTold_87 rfl ?_
                refine zt_iald (pc' := 89) hX dX12_isPersonTold_88 rfl (by decide) zc_165 zs_47 (by decide) ⟨by omega, by omega⟩ ?_
                generalize hv28 : σ 165 ((x16 + 1).toNat) = v28
                have bv28 : 0 ≤ v28 ∧ v28 ≤ 255 := hv28 ▸ zv_47 hI zc_165 _
                refine zt_aload_n (pc' := 90) hX dX12_isPersonTold_89 rfl rfl ?_
                refine zt_get (pc' := 93) (v := .ref (X.1.1 + 165)) hX dX12_isPersonTold_90 rfl zf_X12_7 (by decide) zc_164 zs_46 (zrf_of (zv_46_0 hI zc_164)) ?_
                refine zt_iload_n (pc' := 94) hX dX12_isPersonTold_93 rfl rfl ?_
                refine zt_iconst (pc' := 95) hX dX12_isPersonTold_94 rfl ?_
                refine zt_iadd (pc' := 96) hX dX12_isPersonTold_95 rfl ?_
                refine zt_iald (pc' := 97) hX dX12_isPersonTold_96 rfl (by decide) zc_165 zs_47 (by decide) ⟨by omega, by omega⟩ ?_
                generalize hv29 : σ 165 (((a1_ + (4 * a2_)) + 1).toNat) = v29
                have bv29 : 0 ≤ v29 ∧ v29 ≤ 255 := hv29 ▸ zv_47 hI zc_165 _
                refine zt_icne (pc' := 100) (tgt := 102) hX dX12_isPersonTold_97 rfl (by decide) ⟨by omega, by omega⟩ ⟨by omega, by omega⟩ (fun c30 => ?_) (fun c30 => ?_)
                · exact J_102_25
                · refine zt_iconst (pc' := 101) hX dX12_isPersonTold_100 rfl ?_
                  exact zt_zret hX hR dX12_isPersonTold_101 ⟨by omega, by omega⟩ ⟨rfl, by omega, by omega, by omega⟩
        refine zt_mask [true, false, false, true, true] rfl ?_
        exact L_58_19 _ a1_ (by omega) (by omega) (by omega) (Nat.lt_succ_self _)
      · refine zt_iconst (pc' := 54) hX dX12_isPersonTold_53 rfl ?_
        exact zt_zret hX hR dX12_isPersonTold_54 ⟨by omega, by omega⟩ ⟨rfl, by omega, by omega, by omega⟩

set_option maxRecDepth 100000 in
set_option maxHeartbeats 2000000 in
theorem zc_X12_isImage (l : Launch) (E : zEN) (σ : zSto) (hI : zInv σ) (a1_ : Int) (ha1_ : 0 ≤ a1_ ∧ a1_ ≤ 1600) : zCt l E yX12_isImage cX12_isImage 4 (some .boolean) 3 zNC zNC 0 0 σ [.ref (E.1 + 164), .int (zI a1_)] (fun r σ' => σ = σ' ∧ 0 ≤ r ∧ r ≤ 1 ∧ (r = 1 → zip σ (2 + σ 194 3 * σ 194 4) (σ 195 1) = 1)) := by
  refine zCt_of2 [some (.ref (E.1 + 164)), some (.int (zI a1_)), none, none] (by decide +kernel) (Nat.le_of_ble_eq_true rfl) rfl ?_
  intro X hE hX hR hL hN
  subst hE
  have hX : zok X cX12_isImage RX12 3 := hX
  have b1 := zv_77 hI zc_195 1
  refine zt_iconst (pc' := 1) hX dX12_isImage_0 rfl ?_
  refine zt_aload_n (pc' := 2) hX dX12_isImage_1 rfl rfl ?_
  refine zt_cVi (pc' := 5) hX dX12_isImage_2 rfl zm_yX12_cellMany zw_44_19 zc_164 (by decide) zs_46 (q := (RX12, TX12, 108)) rfl rfl (zc_X12_cellMany _ _ σ hI ) rfl rfl (Nat.le_of_ble_eq_true rfl) (by decide) (fun r2 s3 hr4 hp5 => ?_)
  obtain ⟨rfl, q6, q7, z8⟩ := hp5
  refine zt_iadd (pc' := 6) hX dX12_isImage_5 rfl ?_
  refine zt_istore_n (pc' := 7) (lv' := [some (.ref (X.1.1 + 164)), some (.int (zI a1_)), some (.int (zI (2 + r2))), none]) hX dX12_isImage_6 rfl hL (by decide) rfl ?_
  refine zt_aload_n (pc' := 8) hX dX12_isImage_7 rfl rfl ?_
  have b9 := zv_46_50 hI zc_164
  refine zt_get (pc' := 11) (v := .int (zI (σ 164 50))) hX dX12_isImage_8 rfl zf_X12_375 (by decide) zc_164 zs_46 rfl ?_
  refine zt_ifeq (pc' := 14) (tgt := 72) hX dX12_isImage_11 rfl (by decide) ⟨by omega, by omega⟩ (fun c10 => ?_) (fun c10 => ?_)
  · refine zt_iconst (pc' := 73) hX dX12_isImage_72 rfl ?_
    exact zt_zret hX hR dX12_isImage_73 ⟨by omega, by omega⟩ ⟨rfl, by omega, by omega, by omega⟩
  · refine zt_iload_n (pc' := 15) hX dX12_isImage_14 rfl rfl ?_
    refine zt_iload_n (pc' := 16) hX dX12_isImage_15 rfl rfl ?_
    refine zt_iconst (pc' := 17) hX dX12_isImage_16 rfl ?_
    refine zt_aload_n (pc' := 18) hX dX12_isImage_17 rfl rfl ?_
    refine zt_cVi (pc' := 21) hX dX12_isImage_18 rfl zm_yX12_peopleMany zw_38_4 zc_164 (by decide) zs_46 (q := (RX12, TX12, 108)) rfl rfl (zc_X12_peopleMany _ _ σ hI ) rfl rfl (Nat.le_of_ble_eq_true rfl) (by decide) (fun r11 s12 hr13 hp14 => ?_)
    obtain ⟨rfl, q15, q16, z17⟩ := hp14
    refine zt_imul (pc' := 22) hX dX12_isImage_21 rfl ?_
    refine zt_iadd (pc' := 23) hX dX12_isImage_22 rfl ?_
    refine zt_iconst (pc' := 24) hX dX12_isImage_23 rfl ?_
    refine zt_iadd (pc' := 25) hX dX12_isImage_24 rfl ?_
    refine zt_icne (pc' := 28) (tgt := 72) hX dX12_isImage_25 rfl (by decide) ⟨by omega, by omega⟩ ⟨by omega, by omega⟩ (fun c18 => ?_) (fun c18 => ?_)
    · refine zt_iconst (pc' := 73) hX dX12_isImage_72 rfl ?_
      exact zt_zret hX hR dX12_isImage_73 ⟨by omega, by omega⟩ ⟨rfl, by omega, by omega, by omega⟩
    · refine zt_aload_n (pc' := 29) hX dX12_isImage_28 rfl rfl ?_
      refine zt_get (pc' := 32) (v := .ref (X.1.1 + 165)) hX dX12_isImage_29 rfl zf_X12_7 (by decide) zc_164 zs_46 (zrf_of (zv_46_0 hI zc_164)) ?_
      refine zt_iload_n (pc' := 33) hX dX12_isImage_32 rfl rfl ?_
      refine zt_iconst (pc' := 34) hX dX12_isImage_33 rfl ?_
      refine zt_isub (pc' := 35) hX dX12_isImage_34 rfl ?_
      refine zt_iald (pc' := 36) hX dX12_isImage_35 rfl (by decide) zc_165 zs_47 (by decide) ⟨by omega, by omega⟩ ?_
      generalize hv19 : σ 165 ((a1_ - 1).toNat) = v19
      have bv19 : 0 ≤ v19 ∧ v19 ≤ 255 := hv19 ▸ zv_47 hI zc_165 _
      refine zt_aload_n (pc' := 37) hX dX12_isImage_36 rfl rfl ?_
      refine zt_get (pc' := 40) (v := .ref (X.1.1 + 165)) hX dX12_isImage_37 rfl zf_X12_7 (by decide) zc_164 zs_46 (zrf_of (zv_46_0 hI zc_164)) ?_
      refine zt_iload_n (pc' := 41) hX dX12_isImage_40 rfl rfl ?_
      refine zt_iconst (pc' := 42) hX dX12_isImage_41 rfl ?_
      refine zt_isub (pc' := 43) hX dX12_isImage_42 rfl ?_
      refine zt_cSi (pc' := 46) hX dX12_isImage_43 rfl zm_yX12_checked zw_68_4 (zc_X12_checked_t _ _ σ hI (a1_ - 1) ⟨by omega, by omega⟩) rfl rfl (Nat.le_of_ble_eq_true rfl) (by decide) (fun r20 s21 hr22 hp23 => ?_)
      obtain ⟨rfl, q24, q25⟩ := hp23
      refine zt_icne (pc' := 49) (tgt := 72) hX dX12_isImage_46 rfl (by decide) ⟨by omega, by omega⟩ ⟨by omega, by omega⟩ (fun c26 => ?_) (fun c26 => ?_)
      · refine zt_iconst (pc' := 73) hX dX12_isImage_72 rfl ?_
        exact zt_zret hX hR dX12_isImage_73 ⟨by omega, by omega⟩ ⟨rfl, by omega, by omega, by omega⟩
      · refine zt_sipush (pc' := 52) hX dX12_isImage_49 rfl (by decide) (by decide) ?_
        refine zt_aload_n (pc' := 53) hX dX12_isImage_52 rfl rfl ?_
        refine zt_get (pc' := 56) (v := .ref (X.1.1 + 165)) hX dX12_isImage_53 rfl zf_X12_7 (by decide) zc_164 zs_46 (zrf_of (zv_46_0 hI zc_164)) ?_
        refine zt_iconst (pc' := 57) hX dX12_isImage_56 rfl ?_
        refine zt_iald (pc' := 58) hX dX12_isImage_57 rfl (by decide) zc_165 zs_47 (by decide) ⟨by omega, by omega⟩ ?_
        rw [show Int.toNat 0 = 0 from rfl]
        have b28 := zv_47 hI zc_165 0
        refine zt_imul (pc' := 59) hX dX12_isImage_58 rfl ?_
        refine zt_aload_n (pc' := 60) hX dX12_isImage_59 rfl rfl ?_
        refine zt_get (pc' := 63) (v := .ref (X.1.1 + 165)) hX dX12_isImage_60 rfl zf_X12_7 (by decide) zc_164 zs_46 (zrf_of (zv_46_0 hI zc_164)) ?_
        refine zt_iconst (pc' := 64) hX dX12_isImage_63 rfl ?_
        refine zt_iald (pc' := 65) hX dX12_isImage_64 rfl (by decide) zc_165 zs_47 (by decide) ⟨by omega, by omega⟩ ?_
        rw [show Int.toNat 1 = 1 from rfl]
        have b30 := zv_47 hI zc_165 1
        refine zt_iadd (pc' := 66) hX dX12_isImage_65 rfl ?_
        refine zt_sipush (pc' := 69) hX dX12_isImage_66 rfl (by decide) (by decide) ?_
        refine zt_icle (pc' := 72) (tgt := 74) hX dX12_isImage_69 rfl (by decide) ⟨by omega, by omega⟩ ⟨by omega, by omega⟩ (fun c31 => ?_) (fun c31 => ?_)
        · refine zt_iconst (pc' := 75) hX dX12_isImage_74 rfl ?_
          refine zt_istore_n (pc' := 76) (lv' := [some (.ref (X.1.1 + 164)), some (.int (zI a1_)), some (.int (zI (2 + r2))), some (.int (zI 2))]) hX dX12_isImage_75 rfl hL (by decide) rfl ?_
          have L_76_34 : ∀ (N : Nat) (x32 : Int), 2 ≤ x32 → x32 ≤ 38 → ((39 - x32).toNat) < N → zF X σ 76 [some (.ref (X.1.1 + 164)), none, some (.int (zI (2 + r2))), some (.int (zI x32))] [] := by
            intro N
            induction N with
            | zero =>
              intro x32 h33 h34 hm36
              exact absurd hm36 (Nat.not_lt_zero _)
            | succ N ih37 =>
              intro x32 h33 h34 hm36
              refine zt_iload_n (pc' := 77) hX dX12_isImage_76 rfl rfl ?_
              refine zt_iload_n (pc' := 78) hX dX12_isImage_77 rfl rfl ?_
              refine zt_icge (pc' := 81) (tgt := 99) hX dX12_isImage_78 rfl (by decide) ⟨by omega, by omega⟩ ⟨by omega, by omega⟩ (fun c38 => ?_) (fun c38 => ?_)
              · refine zt_iconst (pc' := 100) hX dX12_isImage_99 rfl ?_
                refine zt_istore_n (pc' := 101) (lv' := [some (.ref (X.1.1 + 164)), none, some (.int (zI (2 + r2))), some (.int (zI 0))]) hX dX12_isImage_100 rfl hL (by decide) rfl ?_
                have h39 := zip_0 σ (2 + r2)
                have L_101_43 : ∀ (N : Nat) (x40 : Int), 0 ≤ x40 → x40 ≤ 10 → zip σ (2 + r2) x40 = 1 → ((11 - x40).toNat) < N → zF X σ 101 [some (.ref (X.1.1 + 164)), none, some (.int (zI (2 + r2))), some (.int (zI x40))] [] := by
                  intro N
                  induction N with
                  | zero =>
                    intro x40 h41 h42 g43 hm45
                    exact absurd hm45 (Nat.not_lt_zero _)
                  | succ N ih46 =>
                    intro x40 h41 h42 g43 hm45
                    refine zt_iload_n (pc' := 102) hX dX12_isImage_101 rfl rfl ?_
                    refine zt_aload_n (pc' := 103) hX dX12_isImage_102 rfl rfl ?_
                    refine zt_cVi (pc' := 106) hX dX12_isImage_103 rfl zm_yX12_peopleMany zw_38_4 zc_164 (by decide) zs_46 (q := (RX12, TX12, 108)) rfl rfl (zc_X12_peopleMany _ _ σ hI ) rfl rfl (Nat.le_of_ble_eq_true rfl) (by decide) (fun r47 s48 hr49 hp50 => ?_)
                    obtain ⟨rfl, q51, q52, z53⟩ := hp50
                    have h54 : zip σ (2 + r2) x40 = 1 ∧ σ 195 1 ≤ x40 → zip σ (2 + σ 194 3 * σ 194 4) (σ 195 1) = 1 := fun h => zip_u h.1 h.2 (by omega)
                    refine zt_icge (pc' := 109) (tgt := 126) hX dX12_isImage_106 rfl (by decide) ⟨by omega, by omega⟩ ⟨by omega, by omega⟩ (fun c55 => ?_) (fun c55 => ?_)
                    · refine zt_iconst (pc' := 127) hX dX12_isImage_126 rfl ?_
                      exact zt_zret hX hR dX12_isImage_127 ⟨by omega, by omega⟩ ⟨rfl, by omega, by omega, by omega⟩
                    · refine zt_aload_n (pc' := 110) hX dX12_isImage_109 rfl rfl ?_
                      refine zt_iload_n (pc' := 111) hX dX12_isImage_110 rfl rfl ?_
                      refine zt_iload_n (pc' := 112) hX dX12_isImage_111 rfl rfl ?_
                      refine zt_cVz (pc' := 115) hX dX12_isImage_112 rfl zm_yX12_isPersonTold zw_69_19 zc_164 (by decide) zs_46 (q := (RX12, TX12, 108)) rfl rfl (zc_X12_isPersonTold _ _ σ hI (2 + r2) ⟨by omega, by omega⟩ x40 ⟨by omega, by omega⟩) rfl rfl (Nat.le_of_ble_eq_true rfl) (by decide) (fun r56 s57 hr58 hp59 => ?_)
                      obtain ⟨rfl, q60, q61, z62⟩ := hp59
                      have h63 := zip_s (s := σ) (a := (2 + r2)) (k := x40) (by omega)
                      refine zt_ifne (pc' := 118) (tgt := 120) hX dX12_isImage_115 rfl (by decide) ⟨by omega, by omega⟩ (fun c64 => ?_) (fun c64 => ?_)
                      · have qz62 := z62 (by omega)
                        clear z62
                        refine zt_iinc (pc' := 123) (lv' := [some (.ref (X.1.1 + 164)), none, some (.int (zI (2 + r2))), some (.int (zI (x40 + 1)))]) hX dX12_isImage_120 rfl rfl hL (by decide) rfl ?_
                        refine zt_goto (tgt := 101) hX dX12_isImage_123 (by decide) ?_
                        exact ih46 (x40 + 1) (by omega) (by omega) (by omega) (by omega)
                      · clear z62
                        refine zt_iconst (pc' := 119) hX dX12_isImage_118 rfl ?_
                        exact zt_zret hX hR dX12_isImage_119 ⟨by omega, by omega⟩ ⟨rfl, by omega, by omega, by omega⟩
                exact L_101_43 _ 0 (by omega) (by omega) (by omega) (Nat.lt_succ_self _)
              · refine zt_aload_n (pc' := 82) hX dX12_isImage_81 rfl rfl ?_
                refine zt_get (pc' := 85) (v := .ref (X.1.1 + 165)) hX dX12_isImage_82 rfl zf_X12_7 (by decide) zc_164 zs_46 (zrf_of (zv_46_0 hI zc_164)) ?_
                refine zt_iload_n (pc' := 86) hX dX12_isImage_85 rfl rfl ?_
                refine zt_iald (pc' := 87) hX dX12_isImage_86 rfl (by decide) zc_165 zs_47 (by decide) ⟨by omega, by omega⟩ ?_
                generalize hv65 : σ 165 (x32.toNat) = v65
                have bv65 : 0 ≤ v65 ∧ v65 ≤ 255 := hv65 ▸ zv_47 hI zc_165 _
                refine zt_iconst (pc' := 88) hX dX12_isImage_87 rfl ?_
                refine zt_icle (pc' := 91) (tgt := 93) hX dX12_isImage_88 rfl (by decide) ⟨by omega, by omega⟩ ⟨by omega, by omega⟩ (fun c66 => ?_) (fun c66 => ?_)
                · refine zt_iinc (pc' := 96) (lv' := [some (.ref (X.1.1 + 164)), none, some (.int (zI (2 + r2))), some (.int (zI (x32 + 1)))]) hX dX12_isImage_93 rfl rfl hL (by decide) rfl ?_
                  refine zt_goto (tgt := 76) hX dX12_isImage_96 (by decide) ?_
                  exact ih37 (x32 + 1) (by omega) (by omega) (by omega)
                · refine zt_iconst (pc' := 92) hX dX12_isImage_91 rfl ?_
                  exact zt_zret hX hR dX12_isImage_92 ⟨by omega, by omega⟩ ⟨rfl, by omega, by omega, by omega⟩
          refine zt_mask [true, false, true, true] rfl ?_
          exact L_76_34 _ 2 (by omega) (by omega) (Nat.lt_succ_self _)
        · refine zt_iconst (pc' := 73) hX dX12_isImage_72 rfl ?_
          exact zt_zret hX hR dX12_isImage_73 ⟨by omega, by omega⟩ ⟨rfl, by omega, by omega, by omega⟩

set_option maxRecDepth 100000 in
set_option maxHeartbeats 2000000 in
theorem zc_X12_on (l : Launch) (E : zEN) (σ : zSto) (hI : zInv σ)  : zCt l E yX12_on cX12_on 5 (some .boolean) 4 zNC zNC 0 0 σ [.ref (E.1 + 164)] (fun r σ' => zInv σ' ∧ zGN σ σ' ∧ 0 ≤ r ∧ r ≤ 1 ∧ (σ' 164 1 = 0) ∧ (σ' 164 7 = σ 164 7) ∧ (σ' 164 8 = σ 164 8)) := by
  refine zCt_of2 [some (.ref (E.1 + 164)), none, none, none, none] (by decide +kernel) (Nat.le_of_ble_eq_true rfl) rfl ?_
  intro X hE hX hR hL hN
  subst hE
  have hX : zok X cX12_on RX12 4 := hX
  have hF := zGN_rf σ
  have b1 := zv_46_1 hI zc_164
  have b2 := zv_46_7 hI zc_164
  have b3 := zv_46_8 hI zc_164
  have b4 := zv_77 hI zc_195 1
  refine zt_aload_n (pc' := 1) hX dX12_on_0 rfl rfl ?_
  have b5 := zv_46_1 hI zc_164
  refine zt_get (pc' := 4) (v := .int (zI (σ 164 1))) hX dX12_on_1 rfl zf_X12_243 (by decide) zc_164 zs_46 rfl ?_
  refine zt_istore_n (pc' := 5) (lv' := [some (.ref (X.1.1 + 164)), some (.int (zI (σ 164 1))), none, none, none]) hX dX12_on_4 rfl hL (by decide) rfl ?_
  refine zt_aload_n (pc' := 6) hX dX12_on_5 rfl rfl ?_
  refine zt_iconst (pc' := 7) hX dX12_on_6 rfl ?_
  refine zt_put (pc' := 10) (x := 0) hX dX12_on_7 rfl zf_X12_243 (by decide) zc_164 zs_46 (fun q hq => by cases hq; rfl) rfl rfl rfl ?_
  generalize hs7 : zset σ 164 1 0 = s6
  have hI8 : zInv s6 := hs7 ▸ zp_46_1 hI zc_164 ⟨by omega, by omega⟩
  have hF9 : zGN σ s6 := hs7 ▸ zGN_set hF zc_164 (by decide) zk_46 (Or.inr (by decide)) (by decide)
  have w10 := zip_k hs7 (2 + σ 194 3 * σ 194 4) (σ 195 1) (by decide)
  have e11 : s6 164 1 = 0 := by rw [← hs7]; exact zset_s
  have e12 : s6 164 7 = σ 164 7 := by rw [← hs7]; exact zset_j (by decide)
  have e13 : s6 164 8 = σ 164 8 := by rw [← hs7]; exact zset_j (by decide)
  have e14 : s6 195 1 = σ 195 1 := by rw [← hs7]; exact zset_k (zne_r zc_195 zc_164 (by decide))
  have e15 : s6 194 3 = σ 194 3 := by rw [← hs7]; exact zset_k (zne_r zc_194 zc_164 (by decide))
  have e16 : s6 194 4 = σ 194 4 := by rw [← hs7]; exact zset_k (zne_r zc_194 zc_164 (by decide))
  have h17a : s6 194 3 = σ 194 3 := by rw [← hs7]; exact zset_k (by decide)
  have h17b : s6 194 4 = σ 194 4 := by rw [← hs7]; exact zset_k (by decide)
  have h17c : s6 195 1 = σ 195 1 := by rw [← hs7]; exact zset_k (by decide)
  have h17p : s6 194 3 * s6 194 4 = σ 194 3 * σ 194 4 := by rw [h17a, h17b]
  have h17z : zip s6 (2 + s6 194 3 * s6 194 4) (s6 195 1) = zip s6 (2 + σ 194 3 * σ 194 4) (σ 195 1) := by rw [h17a, h17b, h17c]
  refine zt_aload_n (pc' := 11) hX dX12_on_10 rfl rfl ?_
  refine zt_iload_n (pc' := 12) hX dX12_on_11 rfl rfl ?_
  refine zt_cVz (pc' := 15) hX dX12_on_12 rfl zm_yX12_isImage zw_69_15 zc_164 (by decide) zs_46 (q := (RX12, TX12, 108)) rfl rfl (zc_X12_isImage _ _ s6 hI8 (σ 164 1) ⟨by omega, by omega⟩) rfl rfl (Nat.le_of_ble_eq_true rfl) (by decide) (fun r18 s19 hr20 hp21 => ?_)
  obtain ⟨rfl, q22, q23, z24⟩ := hp21
  refine zt_ifne (pc' := 18) (tgt := 30) hX dX12_on_15 rfl (by decide) ⟨by omega, by omega⟩ (fun c25 => ?_) (fun c25 => ?_)
  · have qz24 := z24 (by omega)
    clear z24
    refine zt_iconst (pc' := 31) hX dX12_on_30 rfl ?_
    refine zt_aload_n (pc' := 32) hX dX12_on_31 rfl rfl ?_
    refine zt_cVi (pc' := 35) hX dX12_on_32 rfl zm_yX12_cellMany zw_44_19 zc_164 (by decide) zs_46 (q := (RX12, TX12, 108)) rfl rfl (zc_X12_cellMany _ _ s6 hI8 ) rfl rfl (Nat.le_of_ble_eq_true rfl) (by decide) (fun r26 s27 hr28 hp29 => ?_)
    obtain ⟨rfl, q30, q31, z32⟩ := hp29
    refine zt_iadd (pc' := 36) hX dX12_on_35 rfl ?_
    refine zt_istore_n (pc' := 37) (lv' := [some (.ref (X.1.1 + 164)), some (.int (zI (σ 164 1))), some (.int (zI (2 + r26))), none, none]) hX dX12_on_36 rfl hL (by decide) rfl ?_
    refine zt_aload_n (pc' := 38) hX dX12_on_37 rfl rfl ?_
    refine zt_get (pc' := 41) (v := .ref (X.1.1 + 203)) hX dX12_on_38 rfl zf_X12_130 (by decide) zc_164 zs_46 (zrf_of (zv_46_52 hI8 zc_164)) ?_
    refine zt_iconst (pc' := 42) hX dX12_on_41 rfl ?_
    refine zt_sipush (pc' := 45) hX dX12_on_42 rfl (by decide) (by decide) ?_
    refine zt_aload_n (pc' := 46) hX dX12_on_45 rfl rfl ?_
    refine zt_get (pc' := 49) (v := .ref (X.1.1 + 165)) hX dX12_on_46 rfl zf_X12_7 (by decide) zc_164 zs_46 (zrf_of (zv_46_0 hI8 zc_164)) ?_
    refine zt_iconst (pc' := 50) hX dX12_on_49 rfl ?_
    refine zt_iald (pc' := 51) hX dX12_on_50 rfl (by decide) zc_165 zs_47 (by decide) ⟨by omega, by omega⟩ ?_
    rw [show Int.toNat 0 = 0 from rfl]
    have b34 := zv_47 hI8 zc_165 0
    have e35 : s6 165 0 = σ 165 0 := by rw [← hs7]; exact zset_k (zne_r zc_165 zc_164 (by decide))
    refine zt_imul (pc' := 52) hX dX12_on_51 rfl ?_
    refine zt_aload_n (pc' := 53) hX dX12_on_52 rfl rfl ?_
    refine zt_get (pc' := 56) (v := .ref (X.1.1 + 165)) hX dX12_on_53 rfl zf_X12_7 (by decide) zc_164 zs_46 (zrf_of (zv_46_0 hI8 zc_164)) ?_
    refine zt_iconst (pc' := 57) hX dX12_on_56 rfl ?_
    refine zt_iald (pc' := 58) hX dX12_on_57 rfl (by decide) zc_165 zs_47 (by decide) ⟨by omega, by omega⟩ ?_
    rw [show Int.toNat 1 = 1 from rfl]
    have b37 := zv_47 hI8 zc_165 1
    have e38 : s6 165 1 = σ 165 1 := by rw [← hs7]; exact zset_k (zne_r zc_165 zc_164 (by decide))
    refine zt_iadd (pc' := 59) hX dX12_on_58 rfl ?_
    refine zt_iast (pc' := 60) hX dX12_on_59 rfl (by decide) zc_203 zs_85 (by decide) ⟨by omega, by omega⟩ ?_
    rw [show Int.toNat 0 = 0 from rfl]
    generalize hs40 : zset s6 203 0 ((256 * (s6 165 0)) + (s6 165 1)) = s39
    have hI41 : zInv s39 := hs40 ▸ zp_85 hI8 zc_203 0 (by omega)
    have hF42 : zGN σ s39 := hs40 ▸ zGN_set hF9 zc_203 (by decide) zk_85 (Or.inl (by decide)) (by decide)
    have w43 := zip_k hs40 (2 + σ 194 3 * σ 194 4) (σ 195 1) (by decide)
    have e44 : s39 164 1 = s6 164 1 := by rw [← hs40]; exact zset_k (zne_r zc_164 zc_203 (by decide))
    have e45 : s39 164 7 = s6 164 7 := by rw [← hs40]; exact zset_k (zne_r zc_164 zc_203 (by decide))
    have e46 : s39 164 8 = s6 164 8 := by rw [← hs40]; exact zset_k (zne_r zc_164 zc_203 (by decide))
    have e47 : s39 195 1 = s6 195 1 := by rw [← hs40]; exact zset_k (zne_r zc_195 zc_203 (by decide))
    have e48 : s39 194 3 = s6 194 3 := by rw [← hs40]; exact zset_k (zne_r zc_194 zc_203 (by decide))
    have e49 : s39 194 4 = s6 194 4 := by rw [← hs40]; exact zset_k (zne_r zc_194 zc_203 (by decide))
    refine zt_iconst (pc' := 61) hX dX12_on_60 rfl ?_
    refine zt_istore_n (pc' := 62) (lv' := [some (.ref (X.1.1 + 164)), some (.int (zI (σ 164 1))), some (.int (zI (2 + r26))), some (.int (zI 0)), none]) hX dX12_on_61 rfl hL (by decide) rfl ?_
    have L_62_60 : ∀ (N : Nat) (x50 : Int) (s53 : zSto), 0 ≤ x50 → x50 ≤ 36 → zInv s53 → zGN σ s53 → zip s53 (2 + σ 194 3 * σ 194 4) (σ 195 1) = 1 → s53 195 1 = σ 195 1 → s53 164 1 = 0 → s53 164 7 = σ 164 7 → s53 164 8 = σ 164 8 → ((37 - x50).toNat) < N → zF X s53 62 [some (.ref (X.1.1 + 164)), none, some (.int (zI (2 + r26))), some (.int (zI x50)), none] [] := by
      intro N
      induction N with
      | zero =>
        intro x50 s53 h51 h52 hI54 hF55 g56 g57 g58 g59 g60 hm62
        exact absurd hm62 (Nat.not_lt_zero _)
      | succ N ih63 =>
        intro x50 s53 h51 h52 hI54 hF55 g56 g57 g58 g59 g60 hm62
        have b64 := zv_46_1 hI54 zc_164
        have b65 := zv_46_7 hI54 zc_164
        have b66 := zv_46_8 hI54 zc_164
        have b67 := zv_77 hI54 zc_195 1
        refine zt_iload_n (pc' := 63) hX dX12_on_62 rfl rfl ?_
        refine zt_aload_n (pc' := 64) hX dX12_on_63 rfl rfl ?_
        refine zt_cVi (pc' := 67) hX dX12_on_64 rfl zm_yX12_cellMany zw_44_19 zc_164 (by decide) zs_46 (q := (RX12, TX12, 108)) rfl rfl (zc_X12_cellMany _ _ s53 hI54 ) rfl rfl (Nat.le_of_ble_eq_true rfl) (by decide) (fun r68 s69 hr70 hp71 => ?_)
        obtain ⟨rfl, q72, q73, z74⟩ := hp71
        refine zt_icge (pc' := 70) (tgt := 96) hX dX12_on_67 rfl (by decide) ⟨by omega, by omega⟩ ⟨by omega, by omega⟩ (fun c75 => ?_) (fun c75 => ?_)
        · refine zt_iconst (pc' := 97) hX dX12_on_96 rfl ?_
          refine zt_istore_n (pc' := 98) (lv' := [some (.ref (X.1.1 + 164)), none, some (.int (zI (2 + r26))), some (.int (zI 0)), none]) hX dX12_on_97 rfl hL (by decide) rfl ?_
          have L_98_86 : ∀ (N : Nat) (x76 : Int) (s79 : zSto), 0 ≤ x76 → x76 ≤ 10 → zInv s79 → zGN σ s79 → zip s79 (2 + σ 194 3 * σ 194 4) (σ 195 1) = 1 → s79 195 1 = σ 195 1 → s79 164 1 = 0 → s79 164 7 = σ 164 7 → s79 164 8 = σ 164 8 → ((11 - x76).toNat) < N → zF X s79 98 [some (.ref (X.1.1 + 164)), none, some (.int (zI (2 + r26))), some (.int (zI x76)), none] [] := by
            intro N
            induction N with
            | zero =>
              intro x76 s79 h77 h78 hI80 hF81 g82 g83 g84 g85 g86 hm88
              exact absurd hm88 (Nat.not_lt_zero _)
            | succ N ih89 =>
              intro x76 s79 h77 h78 hI80 hF81 g82 g83 g84 g85 g86 hm88
              have b90 := zv_46_1 hI80 zc_164
              have b91 := zv_46_7 hI80 zc_164
              have b92 := zv_46_8 hI80 zc_164
              have b93 := zv_77 hI80 zc_195 1
              refine zt_iload_n (pc' := 99) hX dX12_on_98 rfl rfl ?_
              refine zt_aload_n (pc' := 100) hX dX12_on_99 rfl rfl ?_
              refine zt_cVi (pc' := 103) hX dX12_on_100 rfl zm_yX12_peopleMany zw_38_4 zc_164 (by decide) zs_46 (q := (RX12, TX12, 108)) rfl rfl (zc_X12_peopleMany _ _ s79 hI80 ) rfl rfl (Nat.le_of_ble_eq_true rfl) (by decide) (fun r94 s95 hr96 hp97 => ?_)
              obtain ⟨rfl, q98, q99, z100⟩ := hp97
              refine zt_icge (pc' := 106) (tgt := 194) hX dX12_on_103 rfl (by decide) ⟨by omega, by omega⟩ ⟨by omega, by omega⟩ (fun c101 => ?_) (fun c101 => ?_)
              · refine zt_aload_n (pc' := 195) hX dX12_on_194 rfl rfl ?_
                refine zt_get (pc' := 198) (v := .ref (X.1.1 + 203)) hX dX12_on_195 rfl zf_X12_130 (by decide) zc_164 zs_46 (zrf_of (zv_46_52 hI80 zc_164)) ?_
                refine zt_bipush (pc' := 200) hX dX12_on_198 rfl (by decide) (by decide) ?_
                refine zt_iconst (pc' := 201) hX dX12_on_200 rfl ?_
                refine zt_iast (pc' := 202) hX dX12_on_201 rfl (by decide) zc_203 zs_85 (by decide) ⟨by omega, by omega⟩ ?_
                rw [show Int.toNat 67 = 67 from rfl]
                generalize hs103 : zset s79 203 67 0 = s102
                have hI104 : zInv s102 := hs103 ▸ zp_85 hI80 zc_203 67 (by omega)
                have hF105 : zGN σ s102 := hs103 ▸ zGN_set hF81 zc_203 (by decide) zk_85 (Or.inl (by decide)) (by decide)
                have w106 := zip_k hs103 (2 + σ 194 3 * σ 194 4) (σ 195 1) (by decide)
                have e107 : s102 164 1 = s79 164 1 := by rw [← hs103]; exact zset_k (zne_r zc_164 zc_203 (by decide))
                have e108 : s102 164 7 = s79 164 7 := by rw [← hs103]; exact zset_k (zne_r zc_164 zc_203 (by decide))
                have e109 : s102 164 8 = s79 164 8 := by rw [← hs103]; exact zset_k (zne_r zc_164 zc_203 (by decide))
                have e110 : s102 195 1 = s79 195 1 := by rw [← hs103]; exact zset_k (zne_r zc_195 zc_203 (by decide))
                have e111 : s102 194 3 = s79 194 3 := by rw [← hs103]; exact zset_k (zne_r zc_194 zc_203 (by decide))
                have e112 : s102 194 4 = s79 194 4 := by rw [← hs103]; exact zset_k (zne_r zc_194 zc_203 (by decide))
                refine zt_aload_n (pc' := 203) hX dX12_on_202 rfl rfl ?_
                refine zt_iconst (pc' := 204) hX dX12_on_203 rfl ?_
                refine zt_put (pc' := 207) (x := 0) hX dX12_on_204 rfl zf_X12_379 (by decide) zc_164 zs_46 (fun q hq => by cases hq; rfl) rfl rfl rfl ?_
                generalize hs114 : zset s102 164 70 0 = s113
                have hI115 : zInv s113 := hs114 ▸ zp_46_70 hI104 zc_164 ⟨by omega, by omega⟩
                have hF116 : zGN σ s113 := hs114 ▸ zGN_set hF105 zc_164 (by decide) zk_46 (Or.inr (by decide)) (by decide)
                have w117 := zip_k hs114 (2 + σ 194 3 * σ 194 4) (σ 195 1) (by decide)
                have e118 : s113 164 1 = s102 164 1 := by rw [← hs114]; exact zset_j (by decide)
                have e119 : s113 164 7 = s102 164 7 := by rw [← hs114]; exact zset_j (by decide)
                have e120 : s113 164 8 = s102 164 8 := by rw [← hs114]; exact zset_j (by decide)
                have e121 : s113 195 1 = s102 195 1 := by rw [← hs114]; exact zset_k (zne_r zc_195 zc_164 (by decide))
                have e122 : s113 194 3 = s102 194 3 := by rw [← hs114]; exact zset_k (zne_r zc_194 zc_164 (by decide))
                have e123 : s113 194 4 = s102 194 4 := by rw [← hs114]; exact zset_k (zne_r zc_194 zc_164 (by decide))
                refine zt_iconst (pc' := 208) hX dX12_on_207 rfl ?_
                exact zt_zret hX hR dX12_on_208 ⟨by omega, by omega⟩ ⟨hI115, hF116, by omega, by omega, by omega, by omega, by omega⟩
              · refine zt_iload_n (pc' := 107) hX dX12_on_106 rfl rfl ?_
                refine zt_iconst (pc' := 108) hX dX12_on_107 rfl ?_
                refine zt_iload_n (pc' := 109) hX dX12_on_108 rfl rfl ?_
                refine zt_imul (pc' := 110) hX dX12_on_109 rfl ?_
                refine zt_iadd (pc' := 111) hX dX12_on_110 rfl ?_
                refine zt_istore (pc' := 113) (lv' := [some (.ref (X.1.1 + 164)), none, some (.int (zI (2 + r26))), some (.int (zI x76)), some (.int (zI ((2 + r26) + (4 * x76))))]) hX dX12_on_111 rfl hL (by decide) rfl ?_
                refine zt_aload_n (pc' := 114) hX dX12_on_113 rfl rfl ?_
                refine zt_get (pc' := 117) (v := .ref (X.1.1 + 203)) hX dX12_on_114 rfl zf_X12_130 (by decide) zc_164 zs_46 (zrf_of (zv_46_52 hI80 zc_164)) ?_
                refine zt_bipush (pc' := 119) hX dX12_on_117 rfl (by decide) (by decide) ?_
                refine zt_iconst (pc' := 120) hX dX12_on_119 rfl ?_
                refine zt_iload_n (pc' := 121) hX dX12_on_120 rfl rfl ?_
                refine zt_imul (pc' := 122) hX dX12_on_121 rfl ?_
                refine zt_iadd (pc' := 123) hX dX12_on_122 rfl ?_
                refine zt_aload_n (pc' := 124) hX dX12_on_123 rfl rfl ?_
                refine zt_get (pc' := 127) (v := .ref (X.1.1 + 165)) hX dX12_on_124 rfl zf_X12_7 (by decide) zc_164 zs_46 (zrf_of (zv_46_0 hI80 zc_164)) ?_
                refine zt_iload (pc' := 129) hX dX12_on_127 rfl rfl ?_
                refine zt_iald (pc' := 130) hX dX12_on_129 rfl (by decide) zc_165 zs_47 (by decide) ⟨by omega, by omega⟩ ?_
                generalize hv124 : s79 165 (((2 + r26) + (4 * x76)).toNat) = v124
                have bv124 : 0 ≤ v124 ∧ v124 ≤ 255 := hv124 ▸ zv_47 hI80 zc_165 _
                refine zt_bipush (pc' := 132) hX dX12_on_130 rfl (by decide) (by decide) ?_
                refine zt_aload_n (pc' := 133) hX dX12_on_132 rfl rfl ?_
                refine zt_get (pc' := 136) (v := .ref (X.1.1 + 165)) hX dX12_on_133 rfl zf_X12_7 (by decide) zc_164 zs_46 (zrf_of (zv_46_0 hI80 zc_164)) ?_
                refine zt_iload (pc' := 138) hX dX12_on_136 rfl rfl ?_
                refine zt_iconst (pc' := 139) hX dX12_on_138 rfl ?_
                refine zt_iadd (pc' := 140) hX dX12_on_139 rfl ?_
                refine zt_iald (pc' := 141) hX dX12_on_140 rfl (by decide) zc_165 zs_47 (by decide) ⟨by omega, by omega⟩ ?_
                generalize hv125 : s79 165 ((((2 + r26) + (4 * x76)) + 1).toNat) = v125
                have bv125 : 0 ≤ v125 ∧ v125 ≤ 255 := hv125 ▸ zv_47 hI80 zc_165 _
                have h126 := zip_at (s := s79) (a := 2 + σ 194 3 * σ 194 4) (n := σ 195 1) (k := x76) (v := v124) (w := v125) (by omega) (by omega) (by omega) (by rw [show 2 + σ 194 3 * σ 194 4 + 4 * x76 = ((2 + r26) + (4 * x76)) by omega]; exact hv124) (by rw [show 2 + σ 194 3 * σ 194 4 + 4 * x76 + 1 = ((2 + r26) + (4 * x76)) + 1 by omega]; exact hv125)
                refine zt_imul (pc' := 142) hX dX12_on_141 rfl ?_
                refine zt_iadd (pc' := 143) hX dX12_on_142 rfl ?_
                refine zt_iast (pc' := 144) hX dX12_on_143 rfl (by decide) zc_203 zs_85 (by decide) ⟨by omega, by omega⟩ ?_
                generalize hs128 : zset s79 203 ((37 + (3 * x76)).toNat) (v124 + (6 * v125)) = s127
                have hI129 : zInv s127 := hs128 ▸ zp_85 hI80 zc_203 ((37 + (3 * x76)).toNat) (by omega)
                have hF130 : zGN σ s127 := hs128 ▸ zGN_set hF81 zc_203 (by decide) zk_85 (Or.inl (by decide)) (by decide)
                have w131 := zip_k hs128 (2 + σ 194 3 * σ 194 4) (σ 195 1) (by decide)
                have e132 : s127 164 1 = s79 164 1 := by rw [← hs128]; exact zset_k (zne_r zc_164 zc_203 (by decide))
                have e133 : s127 164 7 = s79 164 7 := by rw [← hs128]; exact zset_k (zne_r zc_164 zc_203 (by decide))
                have e134 : s127 164 8 = s79 164 8 := by rw [← hs128]; exact zset_k (zne_r zc_164 zc_203 (by decide))
                have e135 : s127 195 1 = s79 195 1 := by rw [← hs128]; exact zset_k (zne_r zc_195 zc_203 (by decide))
                have e136 : s127 194 3 = s79 194 3 := by rw [← hs128]; exact zset_k (zne_r zc_194 zc_203 (by decide))
                have e137 : s127 194 4 = s79 194 4 := by rw [← hs128]; exact zset_k (zne_r zc_194 zc_203 (by decide))
                refine zt_aload_n (pc' := 145) hX dX12_on_144 rfl rfl ?_
                refine zt_get (pc' := 148) (v := .ref (X.1.1 + 203)) hX dX12_on_145 rfl zf_X12_130 (by decide) zc_164 zs_46 (zrf_of (zv_46_52 hI129 zc_164)) ?_
                refine zt_bipush (pc' := 150) hX dX12_on_148 rfl (by decide) (by decide) ?_
                refine zt_iconst (pc' := 151) hX dX12_on_150 rfl ?_
                refine zt_iload_n (pc' := 152) hX dX12_on_151 rfl rfl ?_
                refine zt_imul (pc' := 153) hX dX12_on_152 rfl ?_
                refine zt_iadd (pc' := 154) hX dX12_on_153 rfl ?_
                refine zt_iconst (pc' := 155) hX dX12_on_154 rfl ?_
                refine zt_iadd (pc' := 156) hX dX12_on_155 rfl ?_
                refine zt_aload_n (pc' := 157) hX dX12_on_156 rfl rfl ?_
                refine zt_get (pc' := 160) (v := .ref (X.1.1 + 165)) hX dX12_on_157 rfl zf_X12_7 (by decide) zc_164 zs_46 (zrf_of (zv_46_0 hI129 zc_164)) ?_
                refine zt_iload (pc' := 162) hX dX12_on_160 rfl rfl ?_
                refine zt_iconst (pc' := 163) hX dX12_on_162 rfl ?_
                refine zt_iadd (pc' := 164) hX dX12_on_163 rfl ?_
                refine zt_iald (pc' := 165) hX dX12_on_164 rfl (by decide) zc_165 zs_47 (by decide) ⟨by omega, by omega⟩ ?_
                generalize hv138 : s127 165 ((((2 + r26) + (4 * x76)) + 2).toNat) = v138
                have bv138 : 0 ≤ v138 ∧ v138 ≤ 255 := hv138 ▸ zv_47 hI129 zc_165 _
                refine zt_iast (pc' := 166) hX dX12_on_165 rfl (by decide) zc_203 zs_85 (by decide) ⟨by omega, by omega⟩ ?_
                generalize hs140 : zset s127 203 (((37 + (3 * x76)) + 1).toNat) v138 = s139
                have hI141 : zInv s139 := hs140 ▸ zp_85 hI129 zc_203 (((37 + (3 * x76)) + 1).toNat) (by omega)
                have hF142 : zGN σ s139 := hs140 ▸ zGN_set hF130 zc_203 (by decide) zk_85 (Or.inl (by decide)) (by decide)
                have w143 := zip_k hs140 (2 + σ 194 3 * σ 194 4) (σ 195 1) (by decide)
                have e144 : s139 164 1 = s127 164 1 := by rw [← hs140]; exact zset_k (zne_r zc_164 zc_203 (by decide))
                have e145 : s139 164 7 = s127 164 7 := by rw [← hs140]; exact zset_k (zne_r zc_164 zc_203 (by decide))
                have e146 : s139 164 8 = s127 164 8 := by rw [← hs140]; exact zset_k (zne_r zc_164 zc_203 (by decide))
                have e147 : s139 195 1 = s127 195 1 := by rw [← hs140]; exact zset_k (zne_r zc_195 zc_203 (by decide))
                have e148 : s139 194 3 = s127 194 3 := by rw [← hs140]; exact zset_k (zne_r zc_194 zc_203 (by decide))
                have e149 : s139 194 4 = s127 194 4 := by rw [← hs140]; exact zset_k (zne_r zc_194 zc_203 (by decide))
                refine zt_aload_n (pc' := 167) hX dX12_on_166 rfl rfl ?_
                refine zt_get (pc' := 170) (v := .ref (X.1.1 + 203)) hX dX12_on_167 rfl zf_X12_130 (by decide) zc_164 zs_46 (zrf_of (zv_46_52 hI141 zc_164)) ?_
                refine zt_bipush (pc' := 172) hX dX12_on_170 rfl (by decide) (by decide) ?_
                refine zt_iconst (pc' := 173) hX dX12_on_172 rfl ?_
                refine zt_iload_n (pc' := 174) hX dX12_on_173 rfl rfl ?_
                refine zt_imul (pc' := 175) hX dX12_on_174 rfl ?_
                refine zt_iadd (pc' := 176) hX dX12_on_175 rfl ?_
                refine zt_iconst (pc' := 177) hX dX12_on_176 rfl ?_
                refine zt_iadd (pc' := 178) hX dX12_on_177 rfl ?_
                refine zt_aload_n (pc' := 179) hX dX12_on_178 rfl rfl ?_
                refine zt_get (pc' := 182) (v := .ref (X.1.1 + 165)) hX dX12_on_179 rfl zf_X12_7 (by decide) zc_164 zs_46 (zrf_of (zv_46_0 hI141 zc_164)) ?_
                refine zt_iload (pc' := 184) hX dX12_on_182 rfl rfl ?_
                refine zt_iconst (pc' := 185) hX dX12_on_184 rfl ?_
                refine zt_iadd (pc' := 186) hX dX12_on_185 rfl ?_
                refine zt_iald (pc' := 187) hX dX12_on_186 rfl (by decide) zc_165 zs_47 (by decide) ⟨by omega, by omega⟩ ?_
                generalize hv150 : s139 165 ((((2 + r26) + (4 * x76)) + 3).toNat) = v150
                have bv150 : 0 ≤ v150 ∧ v150 ≤ 255 := hv150 ▸ zv_47 hI141 zc_165 _
                refine zt_iast (pc' := 188) hX dX12_on_187 rfl (by decide) zc_203 zs_85 (by decide) ⟨by omega, by omega⟩ ?_
                generalize hs152 : zset s139 203 (((37 + (3 * x76)) + 2).toNat) v150 = s151
                have hI153 : zInv s151 := hs152 ▸ zp_85 hI141 zc_203 (((37 + (3 * x76)) + 2).toNat) (by omega)
                have hF154 : zGN σ s151 := hs152 ▸ zGN_set hF142 zc_203 (by decide) zk_85 (Or.inl (by decide)) (by decide)
                have w155 := zip_k hs152 (2 + σ 194 3 * σ 194 4) (σ 195 1) (by decide)
                have e156 : s151 164 1 = s139 164 1 := by rw [← hs152]; exact zset_k (zne_r zc_164 zc_203 (by decide))
                have e157 : s151 164 7 = s139 164 7 := by rw [← hs152]; exact zset_k (zne_r zc_164 zc_203 (by decide))
                have e158 : s151 164 8 = s139 164 8 := by rw [← hs152]; exact zset_k (zne_r zc_164 zc_203 (by decide))
                have e159 : s151 195 1 = s139 195 1 := by rw [← hs152]; exact zset_k (zne_r zc_195 zc_203 (by decide))
                have e160 : s151 194 3 = s139 194 3 := by rw [← hs152]; exact zset_k (zne_r zc_194 zc_203 (by decide))
                have e161 : s151 194 4 = s139 194 4 := by rw [← hs152]; exact zset_k (zne_r zc_194 zc_203 (by decide))
                refine zt_iinc (pc' := 191) (lv' := [some (.ref (X.1.1 + 164)), none, some (.int (zI (2 + r26))), some (.int (zI (x76 + 1))), some (.int (zI ((2 + r26) + (4 * x76))))]) hX dX12_on_188 rfl rfl hL (by decide) rfl ?_
                refine zt_goto (tgt := 98) hX dX12_on_191 (by decide) ?_
                refine zt_mask [true, false, true, true, false] rfl ?_
                exact ih89 (x76 + 1) s151 (by omega) (by omega) hI153 hF154 (by omega) (by omega) (by omega) (by omega) (by omega) (by omega)
          exact L_98_86 _ 0 s53 (by omega) (by omega) hI54 hF55 (by omega) (by omega) (by omega) (by omega) (by omega) (Nat.lt_succ_self _)
        · refine zt_aload_n (pc' := 71) hX dX12_on_70 rfl rfl ?_
          refine zt_get (pc' := 74) (v := .ref (X.1.1 + 203)) hX dX12_on_71 rfl zf_X12_130 (by decide) zc_164 zs_46 (zrf_of (zv_46_52 hI54 zc_164)) ?_
          refine zt_iconst (pc' := 75) hX dX12_on_74 rfl ?_
          refine zt_aload_n (pc' := 76) hX dX12_on_75 rfl rfl ?_
          refine zt_iload_n (pc' := 77) hX dX12_on_76 rfl rfl ?_
          refine zt_cVi (pc' := 80) hX dX12_on_77 rfl zm_yX12_cellOf zw_44_23 zc_164 (by decide) zs_46 (q := (RX12, TX12, 108)) rfl rfl (zc_X12_cellOf _ _ s53 hI54 x50 ⟨by omega, by omega⟩ (by omega)) rfl rfl (Nat.le_of_ble_eq_true rfl) (by decide) (fun r162 s163 hr164 hp165 => ?_)
          obtain ⟨rfl, q166, q167⟩ := hp165
          refine zt_iadd (pc' := 81) hX dX12_on_80 rfl ?_
          refine zt_aload_n (pc' := 82) hX dX12_on_81 rfl rfl ?_
          refine zt_get (pc' := 85) (v := .ref (X.1.1 + 165)) hX dX12_on_82 rfl zf_X12_7 (by decide) zc_164 zs_46 (zrf_of (zv_46_0 hI54 zc_164)) ?_
          refine zt_iconst (pc' := 86) hX dX12_on_85 rfl ?_
          refine zt_iload_n (pc' := 87) hX dX12_on_86 rfl rfl ?_
          refine zt_iadd (pc' := 88) hX dX12_on_87 rfl ?_
          refine zt_iald (pc' := 89) hX dX12_on_88 rfl (by decide) zc_165 zs_47 (by decide) ⟨by omega, by omega⟩ ?_
          generalize hv168 : s53 165 ((2 + x50).toNat) = v168
          have bv168 : 0 ≤ v168 ∧ v168 ≤ 255 := hv168 ▸ zv_47 hI54 zc_165 _
          refine zt_iast (pc' := 90) hX dX12_on_89 rfl (by decide) zc_203 zs_85 (by decide) ⟨by omega, by omega⟩ ?_
          generalize hs170 : zset s53 203 ((1 + r162).toNat) v168 = s169
          have hI171 : zInv s169 := hs170 ▸ zp_85 hI54 zc_203 ((1 + r162).toNat) (by omega)
          have hF172 : zGN σ s169 := hs170 ▸ zGN_set hF55 zc_203 (by decide) zk_85 (Or.inl (by decide)) (by decide)
          have w173 := zip_k hs170 (2 + σ 194 3 * σ 194 4) (σ 195 1) (by decide)
          have e174 : s169 164 1 = s53 164 1 := by rw [← hs170]; exact zset_k (zne_r zc_164 zc_203 (by decide))
          have e175 : s169 164 7 = s53 164 7 := by rw [← hs170]; exact zset_k (zne_r zc_164 zc_203 (by decide))
          have e176 : s169 164 8 = s53 164 8 := by rw [← hs170]; exact zset_k (zne_r zc_164 zc_203 (by decide))
          have e177 : s169 195 1 = s53 195 1 := by rw [← hs170]; exact zset_k (zne_r zc_195 zc_203 (by decide))
          have e178 : s169 194 3 = s53 194 3 := by rw [← hs170]; exact zset_k (zne_r zc_194 zc_203 (by decide))
          have e179 : s169 194 4 = s53 194 4 := by rw [← hs170]; exact zset_k (zne_r zc_194 zc_203 (by decide))
          refine zt_iinc (pc' := 93) (lv' := [some (.ref (X.1.1 + 164)), none, some (.int (zI (2 + r26))), some (.int (zI (x50 + 1))), none]) hX dX12_on_90 rfl rfl hL (by decide) rfl ?_
          refine zt_goto (tgt := 62) hX dX12_on_93 (by decide) ?_
          exact ih63 (x50 + 1) s169 (by omega) (by omega) hI171 hF172 (by omega) (by omega) (by omega) (by omega) (by omega) (by omega)
    refine zt_mask [true, false, true, true, false] rfl ?_
    exact L_62_60 _ 0 s39 (by omega) (by omega) hI41 hF42 (by omega) (by omega) (by omega) (by omega) (by omega) (Nat.lt_succ_self _)
  · clear z24
    refine zt_aload_n (pc' := 19) hX dX12_on_18 rfl rfl ?_
    refine zt_get (pc' := 22) (v := .ref (X.1.1 + 166)) hX dX12_on_19 rfl zf_X12_17 (by decide) zc_164 zs_46 (zrf_of (zv_46_9 hI8 zc_164)) ?_
    refine zt_iconst (pc' := 23) hX dX12_on_22 rfl ?_
    refine zt_dup2 (pc' := 24) hX dX12_on_23 rfl rfl rfl ?_
    refine zt_iald (pc' := 25) hX dX12_on_24 rfl (by decide) zc_166 zs_48 (by decide) ⟨by omega, by omega⟩ ?_
    rw [show Int.toNat 5 = 5 from rfl]
    have b181 := zv_48 hI8 zc_166 5
    have e182 : s6 166 5 = σ 166 5 := by rw [← hs7]; exact zset_k (zne_r zc_166 zc_164 (by decide))
    refine zt_iconst (pc' := 26) hX dX12_on_25 rfl ?_
    refine zt_iadd (pc' := 27) hX dX12_on_26 rfl ?_
    refine zt_wrap (fun r183 zr183 lr183 ur183 => ?_)
    clear zr183
    refine zt_iast (pc' := 28) hX dX12_on_27 rfl (by decide) zc_166 zs_48 (by decide) ⟨by omega, by omega⟩ ?_
    rw [show Int.toNat 5 = 5 from rfl]
    generalize hs185 : zset s6 166 5 r183 = s184
    have hI186 : zInv s184 := hs185 ▸ zp_48 hI8 zc_166 5 ⟨by omega, by omega⟩
    have hF187 : zGN σ s184 := hs185 ▸ zGN_set hF9 zc_166 (by decide) zk_48 (Or.inl (by decide)) (by decide)
    have w188 := zip_k hs185 (2 + σ 194 3 * σ 194 4) (σ 195 1) (by decide)
    have e189 : s184 164 1 = s6 164 1 := by rw [← hs185]; exact zset_k (zne_r zc_164 zc_166 (by decide))
    have e190 : s184 164 7 = s6 164 7 := by rw [← hs185]; exact zset_k (zne_r zc_164 zc_166 (by decide))
    have e191 : s184 164 8 = s6 164 8 := by rw [← hs185]; exact zset_k (zne_r zc_164 zc_166 (by decide))
    have e192 : s184 195 1 = s6 195 1 := by rw [← hs185]; exact zset_k (zne_r zc_195 zc_166 (by decide))
    have e193 : s184 194 3 = s6 194 3 := by rw [← hs185]; exact zset_k (zne_r zc_194 zc_166 (by decide))
    have e194 : s184 194 4 = s6 194 4 := by rw [← hs185]; exact zset_k (zne_r zc_194 zc_166 (by decide))
    refine zt_iconst (pc' := 29) hX dX12_on_28 rfl ?_
    exact zt_zret hX hR dX12_on_29 ⟨by omega, by omega⟩ ⟨hI186, hF187, by omega, by omega, by omega, by omega, by omega⟩
