set_option maxRecDepth 100000 in
set_option maxHeartbeats 4000000 in
theorem zc_X12_cellTold (l : Launch) (E : zEN) (σ : zSto) (hI : zInv σ) (hpre0 : 2 ≤ σ 194 0 ∧ σ 194 0 ≤ 6 ∧ 2 ≤ σ 194 1 ∧ σ 194 1 ≤ 6) : zCt l E yX12_cellTold cX12_cellTold 3 (some .int) 2 zNC zNC 0 0 σ [.ref (E.1 + 164)] (fun r σ' => zInv σ' ∧ zOn zQ1 σ σ' ∧ 0 ≤ r ∧ r ≤ 35 ∧ (σ 164 2 ≤ σ' 164 2 ∧ (σ 164 2 ≤ σ 164 3 → σ' 164 2 ≤ σ 164 3)) ∧ (σ' 164 5 = 0 → σ 164 5 = 0)) := by
  refine zCt_of2 [some (.ref (E.1 + 164)), none, none] (by decide +kernel) (Nat.le_of_ble_eq_true rfl) rfl ?_
  intro X hE hX hR hL hN
  subst hE
  have hX : zok X cX12_cellTold RX12 2 := hX
  have hF := zOn_rf zQ1 σ
  have b1 := zv_46_2 hI zc_164
  have b2 := zv_46_3 hI zc_164
  have b3 := zv_46_5 hI zc_164
  have b4 := zv_46_4 hI zc_164
  refine zt_aload_n (pc' := 1) hX dX12_cellTold_0 rfl rfl ?_
  refine zt_iconst (pc' := 2) hX dX12_cellTold_1 rfl ?_
  refine zt_aload_n (pc' := 3) hX dX12_cellTold_2 rfl rfl ?_
  refine zt_get (pc' := 6) (v := .ref (X.1.1 + 194)) hX dX12_cellTold_3 rfl zf_X12_102 (by decide) zc_164 zs_46 (zrf_of (zv_46_39 hI zc_164)) ?_
  refine zt_iconst (pc' := 7) hX dX12_cellTold_6 rfl ?_
  refine zt_iald (pc' := 8) hX dX12_cellTold_7 rfl (by decide) zc_194 zs_76 (by decide) ⟨by omega, by omega⟩ ?_
  rw [show Int.toNat 0 = 0 from rfl]
  have b6 := zv_76 hI zc_194 0
  refine zt_iconst (pc' := 9) hX dX12_cellTold_8 rfl ?_
  refine zt_isub (pc' := 10) hX dX12_cellTold_9 rfl ?_
  refine zt_cVi (pc' := 13) hX dX12_cellTold_10 rfl zm_yX12_number zw_26_23 zc_164 (by decide) zs_46 (q := (RX12, TX12, 108)) rfl rfl (zc_X12_number _ _ σ hI 0 ⟨by omega, by omega⟩ ((σ 194 0) - 1) ⟨by omega, by omega⟩) rfl rfl (Nat.le_of_ble_eq_true rfl) (by decide) (fun r7 s8 hr9 hp10 => ?_)
  obtain ⟨hI11, hF12, q13, q14, z15, z16, z17⟩ := hp10
  have e18 := hF12 164 3 rfl
  have e19 := hF12 194 0 rfl
  have e20 := hF12 194 1 rfl
  have hF21 := zOn_tr hF hF12 zi_id
  have b22 := zv_46_2 hI11 zc_164
  have b23 := zv_46_3 hI11 zc_164
  have b24 := zv_46_5 hI11 zc_164
  have b25 := zv_46_4 hI11 zc_164
  refine zt_istore_n (pc' := 14) (lv' := [some (.ref (X.1.1 + 164)), some (.int (zI r7)), none]) hX dX12_cellTold_13 rfl hL (by decide) rfl ?_
  refine zt_aload_n (pc' := 15) hX dX12_cellTold_14 rfl rfl ?_
  refine zt_iconst (pc' := 16) hX dX12_cellTold_15 rfl ?_
  refine zt_aload_n (pc' := 17) hX dX12_cellTold_16 rfl rfl ?_
  refine zt_get (pc' := 20) (v := .ref (X.1.1 + 194)) hX dX12_cellTold_17 rfl zf_X12_102 (by decide) zc_164 zs_46 (zrf_of (zv_46_39 hI11 zc_164)) ?_
  refine zt_iconst (pc' := 21) hX dX12_cellTold_20 rfl ?_
  refine zt_iald (pc' := 22) hX dX12_cellTold_21 rfl (by decide) zc_194 zs_76 (by decide) ⟨by omega, by omega⟩ ?_
  rw [show Int.toNat 1 = 1 from rfl]
  have b27 := zv_76 hI11 zc_194 1
  refine zt_iconst (pc' := 23) hX dX12_cellTold_22 rfl ?_
  refine zt_isub (pc' := 24) hX dX12_cellTold_23 rfl ?_
  refine zt_cVi (pc' := 27) hX dX12_cellTold_24 rfl zm_yX12_number zw_26_23 zc_164 (by decide) zs_46 (q := (RX12, TX12, 108)) rfl rfl (zc_X12_number _ _ s8 hI11 0 ⟨by omega, by omega⟩ ((s8 194 1) - 1) ⟨by omega, by omega⟩) rfl rfl (Nat.le_of_ble_eq_true rfl) (by decide) (fun r28 s29 hr30 hp31 => ?_)
  obtain ⟨hI32, hF33, q34, q35, z36, z37, z38⟩ := hp31
  have e39 := hF33 164 3 rfl
  have e40 := hF33 194 0 rfl
  have e41 := hF33 194 1 rfl
  have hF42 := zOn_tr hF21 hF33 zi_id
  have b43 := zv_46_2 hI32 zc_164
  have b44 := zv_46_3 hI32 zc_164
  have b45 := zv_46_5 hI32 zc_164
  have b46 := zv_46_4 hI32 zc_164
  refine zt_istore_n (pc' := 28) (lv' := [some (.ref (X.1.1 + 164)), some (.int (zI r7)), some (.int (zI r28))]) hX dX12_cellTold_27 rfl hL (by decide) rfl ?_
  refine zt_aload_n (pc' := 29) hX dX12_cellTold_28 rfl rfl ?_
  have b47 := zv_46_5 hI32 zc_164
  refine zt_get (pc' := 32) (v := .int (zI (s29 164 5))) hX dX12_cellTold_29 rfl zf_X12_246 (by decide) zc_164 zs_46 rfl ?_
  refine zt_ifne (pc' := 35) (tgt := 44) hX dX12_cellTold_32 rfl (by decide) ⟨by omega, by omega⟩ (fun c48 => ?_) (fun c48 => ?_)
  · refine zt_iconst (pc' := 45) hX dX12_cellTold_44 rfl ?_
    exact zt_iret hX hR dX12_cellTold_45 ⟨by omega, by omega⟩ ⟨hI32, hF42, by omega, by omega, by omega, by omega⟩
  · refine zt_iload_n (pc' := 36) hX dX12_cellTold_35 rfl rfl ?_
    refine zt_bipush (pc' := 38) hX dX12_cellTold_36 rfl (by decide) (by decide) ?_
    refine zt_iload_n (pc' := 39) hX dX12_cellTold_38 rfl rfl ?_
    refine zt_imul (pc' := 40) hX dX12_cellTold_39 rfl ?_
    refine zt_iadd (pc' := 41) hX dX12_cellTold_40 rfl ?_
    refine zt_goto (tgt := 45) hX dX12_cellTold_41 (by decide) ?_
    exact zt_iret hX hR dX12_cellTold_45 ⟨by omega, by omega⟩ ⟨hI32, hF42, by omega, by omega, by omega, by omega⟩

set_option maxRecDepth 100000 in
set_option maxHeartbeats 4000000 in
theorem zc_X12_heavyTold (l : Launch) (E : zEN) (σ : zSto) (hI : zInv σ) (hpre0 : 2 ≤ σ 194 0 ∧ σ 194 0 ≤ 6 ∧ 2 ≤ σ 194 1 ∧ σ 194 1 ≤ 6) : zCt l E yX12_heavyTold cX12_heavyTold 3 none 3 zNC zNC 0 0 σ [.ref (E.1 + 164)] (fun r σ' => zInv σ' ∧ zOn zQ4 σ σ' ∧ (σ 164 2 ≤ σ' 164 2 ∧ (σ 164 2 ≤ σ 164 3 → σ' 164 2 ≤ σ 164 3)) ∧ (σ' 164 5 = 0 → σ 164 5 = 0)) := by
  refine zCt_of2 [some (.ref (E.1 + 164)), none, none] (by decide +kernel) (Nat.le_of_ble_eq_true rfl) rfl ?_
  intro X hE hX hR hL hN
  subst hE
  have hX : zok X cX12_heavyTold RX12 3 := hX
  have hF := zOn_rf zQ4 σ
  have b1 := zv_46_2 hI zc_164
  have b2 := zv_46_3 hI zc_164
  have b3 := zv_46_5 hI zc_164
  have b4 := zv_46_4 hI zc_164
  refine zt_aload_n (pc' := 1) hX dX12_heavyTold_0 rfl rfl ?_
  refine zt_cVi (pc' := 4) hX dX12_heavyTold_1 rfl zm_yX12_cellTold zw_28_2 zc_164 (by decide) zs_46 (q := (RX12, TX12, 108)) rfl rfl (zc_X12_cellTold _ _ σ hI (by omega)) rfl rfl (Nat.le_of_ble_eq_true rfl) (by decide) (fun r5 s6 hr7 hp8 => ?_)
  obtain ⟨hI9, hF10, q11, q12, z13, z14⟩ := hp8
  have e15 := hF10 164 3 rfl
  have e16 := hF10 194 0 rfl
  have e17 := hF10 194 1 rfl
  have hF18 := zOn_tr hF hF10 zi_14
  have b19 := zv_46_2 hI9 zc_164
  have b20 := zv_46_3 hI9 zc_164
  have b21 := zv_46_5 hI9 zc_164
  have b22 := zv_46_4 hI9 zc_164
  refine zt_istore_n (pc' := 5) (lv' := [some (.ref (X.1.1 + 164)), some (.int (zI r5)), none]) hX dX12_heavyTold_4 rfl hL (by decide) rfl ?_
  refine zt_aload_n (pc' := 6) hX dX12_heavyTold_5 rfl rfl ?_
  refine zt_iconst (pc' := 7) hX dX12_heavyTold_6 rfl ?_
  refine zt_bipush (pc' := 9) hX dX12_heavyTold_7 rfl (by decide) (by decide) ?_
  refine zt_cVi (pc' := 12) hX dX12_heavyTold_9 rfl zm_yX12_number zw_26_23 zc_164 (by decide) zs_46 (q := (RX12, TX12, 108)) rfl rfl (zc_X12_number _ _ s6 hI9 0 ⟨by omega, by omega⟩ 99 ⟨by omega, by omega⟩) rfl rfl (Nat.le_of_ble_eq_true rfl) (by decide) (fun r23 s24 hr25 hp26 => ?_)
  obtain ⟨hI27, hF28, q29, q30, z31, z32, z33⟩ := hp26
  have e34 := hF28 164 3 rfl
  have e35 := hF28 194 0 rfl
  have e36 := hF28 194 1 rfl
  have hF37 := zOn_tr hF18 hF28 zi_14
  have b38 := zv_46_2 hI27 zc_164
  have b39 := zv_46_3 hI27 zc_164
  have b40 := zv_46_5 hI27 zc_164
  have b41 := zv_46_4 hI27 zc_164
  refine zt_istore_n (pc' := 13) (lv' := [some (.ref (X.1.1 + 164)), some (.int (zI r5)), some (.int (zI r23))]) hX dX12_heavyTold_12 rfl hL (by decide) rfl ?_
  refine zt_aload_n (pc' := 14) hX dX12_heavyTold_13 rfl rfl ?_
  have b42 := zv_46_5 hI27 zc_164
  refine zt_get (pc' := 17) (v := .int (zI (s24 164 5))) hX dX12_heavyTold_14 rfl zf_X12_246 (by decide) zc_164 zs_46 rfl ?_
  refine zt_ifne (pc' := 20) (tgt := 27) hX dX12_heavyTold_17 rfl (by decide) ⟨by omega, by omega⟩ (fun c43 => ?_) (fun c43 => ?_)
  · exact zt_vret hX hR dX12_heavyTold_27 ⟨hI27, hF37, by omega, by omega⟩
  · refine zt_aload_n (pc' := 21) hX dX12_heavyTold_20 rfl rfl ?_
    refine zt_get (pc' := 24) (v := .ref (X.1.1 + 197)) hX dX12_heavyTold_21 rfl zf_X12_112 (by decide) zc_164 zs_46 (zrf_of (zv_46_42 hI27 zc_164)) ?_
    refine zt_iload_n (pc' := 25) hX dX12_heavyTold_24 rfl rfl ?_
    refine zt_iload_n (pc' := 26) hX dX12_heavyTold_25 rfl rfl ?_
    refine zt_iast (pc' := 27) hX dX12_heavyTold_26 rfl (by decide) zc_197 zs_79 (by decide) ⟨by omega, by omega⟩ ?_
    generalize hs45 : zset s24 197 (r5.toNat) r23 = s44
    have hI46 : zInv s44 := hs45 ▸ zp_79 hI27 zc_197 (r5.toNat) ⟨by omega, by omega⟩
    have hF47 : zOn zQ4 σ s44 := hs45 ▸ zOn_set hF37 (zq4_197 (by omega))
    have e48 : s44 164 2 = s24 164 2 := by rw [← hs45]; exact zset_k (zne_r zc_164 zc_197 (by decide))
    have e49 : s44 164 3 = s24 164 3 := by rw [← hs45]; exact zset_k (zne_r zc_164 zc_197 (by decide))
    have e50 : s44 164 5 = s24 164 5 := by rw [← hs45]; exact zset_k (zne_r zc_164 zc_197 (by decide))
    have e51 : s44 164 4 = s24 164 4 := by rw [← hs45]; exact zset_k (zne_r zc_164 zc_197 (by decide))
    have e52 : s44 194 0 = s24 194 0 := by rw [← hs45]; exact zset_k (zne_r zc_194 zc_197 (by decide))
    have e53 : s44 194 1 = s24 194 1 := by rw [← hs45]; exact zset_k (zne_r zc_194 zc_197 (by decide))
    exact zt_vret hX hR dX12_heavyTold_27 ⟨hI46, hF47, by omega, by omega⟩

set_option maxRecDepth 100000 in
set_option maxHeartbeats 4000000 in
theorem zc_X12_poleTold (l : Launch) (E : zEN) (σ : zSto) (hI : zInv σ) (a1_ : Int) (ha1_ : -2147483648 ≤ a1_ ∧ a1_ ≤ 2147483647) (hpre0 : 2 ≤ σ 194 0 ∧ σ 194 0 ≤ 6 ∧ 2 ≤ σ 194 1 ∧ σ 194 1 ≤ 6) : zCt l E yX12_poleTold cX12_poleTold 6 none 4 zNC zNC 0 0 σ [.ref (E.1 + 164), .int (zI a1_)] (fun r σ' => zInv σ' ∧ zOn zQ4 σ σ' ∧ (σ 164 2 ≤ σ' 164 2 ∧ (σ 164 2 ≤ σ 164 3 → σ' 164 2 ≤ σ 164 3)) ∧ (σ' 164 5 = 0 → σ 164 5 = 0)) := by
  refine zCt_of2 [some (.ref (E.1 + 164)), some (.int (zI a1_)), none, none, none, none] (by decide +kernel) (Nat.le_of_ble_eq_true rfl) rfl ?_
  intro X hE hX hR hL hN
  subst hE
  have hX : zok X cX12_poleTold RX12 4 := hX
  have hF := zOn_rf zQ4 σ
  have b1 := zv_46_2 hI zc_164
  have b2 := zv_46_3 hI zc_164
  have b3 := zv_46_5 hI zc_164
  have b4 := zv_46_4 hI zc_164
  have b5 := zv_77 hI zc_195 0
  refine zt_aload_n (pc' := 1) hX dX12_poleTold_0 rfl rfl ?_
  have b6 := zv_46_5 hI zc_164
  refine zt_get (pc' := 4) (v := .int (zI (σ 164 5))) hX dX12_poleTold_1 rfl zf_X12_246 (by decide) zc_164 zs_46 rfl ?_
  have J_24_15 : ∀ (s7 : zSto), zInv s7 → zOn zQ4 σ s7 → (σ 164 2 ≤ s7 164 2 ∧ (σ 164 2 ≤ σ 164 3 → s7 164 2 ≤ σ 164 3)) → s7 164 3 = σ 164 3 → (σ 164 5 ≠ 0 → s7 164 5 ≠ 0) → s7 195 0 = σ 195 0 → (s7 194 0 = σ 194 0 ∧ s7 194 1 = σ 194 1) → (s7 164 5 = 0 → σ 195 0 ≤ 9) → zF X s7 24 [some (.ref (X.1.1 + 164)), none, none, none, none, none] [] := by
    intro s7 hI8 hF9 g10 g11 g12 g13 g14 g15
    have b17 := zv_46_2 hI8 zc_164
    have b18 := zv_46_3 hI8 zc_164
    have b19 := zv_46_5 hI8 zc_164
    have b20 := zv_46_4 hI8 zc_164
    have b21 := zv_77 hI8 zc_195 0
    refine zt_aload_n (pc' := 25) hX dX12_poleTold_24 rfl rfl ?_
    have b22 := zv_46_5 hI8 zc_164
    refine zt_get (pc' := 28) (v := .int (zI (s7 164 5))) hX dX12_poleTold_25 rfl zf_X12_246 (by decide) zc_164 zs_46 rfl ?_
    refine zt_ifeq (pc' := 31) (tgt := 32) hX dX12_poleTold_28 rfl (by decide) ⟨by omega, by omega⟩ (fun c23 => ?_) (fun c23 => ?_)
    · refine zt_aload_n (pc' := 33) hX dX12_poleTold_32 rfl rfl ?_
      refine zt_cVl (pc' := 36) hX dX12_poleTold_33 rfl zm_yX12_name zw_28_11 zc_164 (by decide) zs_46 (q := (RX12, TX12, 108)) rfl rfl (zc_X12_name _ _ s7 hI8 ) rfl rfl (Nat.le_of_ble_eq_true rfl) (by decide) (fun r24 s25 hr26 hp27 => ?_)
      obtain ⟨hI28, hF29, q30, q31, z32, z33⟩ := hp27
      have e34 := hF29 164 3 rfl
      have e35 := hF29 194 0 rfl
      have e36 := hF29 194 1 rfl
      have e37 := hF29 195 0 rfl
      have hF38 := zOn_tr hF9 hF29 zi_14
      have b39 := zv_46_2 hI28 zc_164
      have b40 := zv_46_3 hI28 zc_164
      have b41 := zv_46_5 hI28 zc_164
      have b42 := zv_46_4 hI28 zc_164
      have b43 := zv_77 hI28 zc_195 0
      refine zt_lstore_n (pc' := 37) (lv' := [some (.ref (X.1.1 + 164)), none, some (.long (zJ r24)), none, none, none]) hX dX12_poleTold_36 rfl hL (by decide) rfl ?_
      refine zt_iconst (pc' := 38) hX dX12_poleTold_37 rfl ?_
      refine zt_istore (pc' := 40) (lv' := [some (.ref (X.1.1 + 164)), none, some (.long (zJ r24)), none, some (.int (zI 0)), none]) hX dX12_poleTold_38 rfl hL (by decide) rfl ?_
      have L_40_55 : ∀ (N : Nat) (x44 : Int) (s47 : zSto), 0 ≤ x44 → x44 ≤ 10 → zInv s47 → zOn zQ4 σ s47 → (σ 164 2 ≤ s47 164 2 ∧ (σ 164 2 ≤ σ 164 3 → s47 164 2 ≤ σ 164 3)) → s47 164 3 = σ 164 3 → (σ 164 5 ≠ 0 → s47 164 5 ≠ 0) → s47 195 0 = σ 195 0 → (s47 194 0 = σ 194 0 ∧ s47 194 1 = σ 194 1) → (s47 164 5 = 0 → σ 195 0 ≤ 9) → ((11 - x44).toNat) < N → zF X s47 40 [some (.ref (X.1.1 + 164)), none, some (.long (zJ r24)), none, some (.int (zI x44)), none] [] := by
        intro N
        induction N with
        | zero =>
          intro x44 s47 h45 h46 hI48 hF49 g50 g51 g52 g53 g54 g55 hm57
          exact absurd hm57 (Nat.not_lt_zero _)
        | succ N ih58 =>
          intro x44 s47 h45 h46 hI48 hF49 g50 g51 g52 g53 g54 g55 hm57
          have b59 := zv_46_2 hI48 zc_164
          have b60 := zv_46_3 hI48 zc_164
          have b61 := zv_46_5 hI48 zc_164
          have b62 := zv_46_4 hI48 zc_164
          have b63 := zv_77 hI48 zc_195 0
          refine zt_iload (pc' := 42) hX dX12_poleTold_40 rfl rfl ?_
          refine zt_aload_n (pc' := 43) hX dX12_poleTold_42 rfl rfl ?_
          refine zt_get (pc' := 46) (v := .ref (X.1.1 + 195)) hX dX12_poleTold_43 rfl zf_X12_105 (by decide) zc_164 zs_46 (zrf_of (zv_46_40 hI48 zc_164)) ?_
          refine zt_iconst (pc' := 47) hX dX12_poleTold_46 rfl ?_
          refine zt_iald (pc' := 48) hX dX12_poleTold_47 rfl (by decide) zc_195 zs_77 (by decide) ⟨by omega, by omega⟩ ?_
          rw [show Int.toNat 0 = 0 from rfl]
          have b65 := zv_77 hI48 zc_195 0
          refine zt_icge (pc' := 51) (tgt := 85) hX dX12_poleTold_48 rfl (by decide) ⟨by omega, by omega⟩ ⟨by omega, by omega⟩ (fun c66 => ?_) (fun c66 => ?_)
          · refine zt_aload_n (pc' := 86) hX dX12_poleTold_85 rfl rfl ?_
            refine zt_aload_n (pc' := 87) hX dX12_poleTold_86 rfl rfl ?_
            refine zt_get (pc' := 90) (v := .ref (X.1.1 + 172)) hX dX12_poleTold_87 rfl zf_X12_36 (by decide) zc_164 zs_46 (zrf_of (zv_46_16 hI48 zc_164)) ?_
            refine zt_cVv (pc' := 93) hX dX12_poleTold_90 rfl zm_yX12_asks zw_26_0 zc_164 (by decide) zs_46 (q := (RX12, TX12, 108)) rfl rfl (zc_X12_asks _ _ s47 hI48 172 54 2 zc_172 (by decide) zs_54 (by decide)) rfl rfl (Nat.le_of_ble_eq_true rfl) (by decide) (fun r67 s68 hr69 hp70 => ?_)
            obtain ⟨hI71, hF72, z73, z74⟩ := hp70
            have e75 := hF72 164 3 rfl
            have e76 := hF72 194 0 rfl
            have e77 := hF72 194 1 rfl
            have e78 := hF72 195 0 rfl
            have hF79 := zOn_tr hF49 hF72 zi_14
            have b80 := zv_46_2 hI71 zc_164
            have b81 := zv_46_3 hI71 zc_164
            have b82 := zv_46_5 hI71 zc_164
            have b83 := zv_46_4 hI71 zc_164
            have b84 := zv_77 hI71 zc_195 0
            refine zt_aload_n (pc' := 94) hX dX12_poleTold_93 rfl rfl ?_
            refine zt_cVi (pc' := 97) hX dX12_poleTold_94 rfl zm_yX12_cellTold zw_28_2 zc_164 (by decide) zs_46 (q := (RX12, TX12, 108)) rfl rfl (zc_X12_cellTold _ _ s68 hI71 (by omega)) rfl rfl (Nat.le_of_ble_eq_true rfl) (by decide) (fun r85 s86 hr87 hp88 => ?_)
            obtain ⟨hI89, hF90, q91, q92, z93, z94⟩ := hp88
            have e95 := hF90 164 3 rfl
            have e96 := hF90 194 0 rfl
            have e97 := hF90 194 1 rfl
            have e98 := hF90 195 0 rfl
            have hF99 := zOn_tr hF79 hF90 zi_14
            have b100 := zv_46_2 hI89 zc_164
            have b101 := zv_46_3 hI89 zc_164
            have b102 := zv_46_5 hI89 zc_164
            have b103 := zv_46_4 hI89 zc_164
            have b104 := zv_77 hI89 zc_195 0
            refine zt_istore (pc' := 99) (lv' := [some (.ref (X.1.1 + 164)), none, some (.long (zJ r24)), none, some (.int (zI r85)), none]) hX dX12_poleTold_97 rfl hL (by decide) rfl ?_
            refine zt_iconst (pc' := 100) hX dX12_poleTold_99 rfl ?_
            refine zt_istore (pc' := 102) (lv' := [some (.ref (X.1.1 + 164)), none, some (.long (zJ r24)), none, some (.int (zI r85)), some (.int (zI 0))]) hX dX12_poleTold_100 rfl hL (by decide) rfl ?_
            have L_102_116 : ∀ (N : Nat) (x105 : Int) (s108 : zSto), 0 ≤ x105 → x105 ≤ 10 → zInv s108 → zOn zQ4 σ s108 → (σ 164 2 ≤ s108 164 2 ∧ (σ 164 2 ≤ σ 164 3 → s108 164 2 ≤ σ 164 3)) → s108 164 3 = σ 164 3 → (σ 164 5 ≠ 0 → s108 164 5 ≠ 0) → s108 195 0 = σ 195 0 → (s108 194 0 = σ 194 0 ∧ s108 194 1 = σ 194 1) → (s108 164 5 = 0 → σ 195 0 ≤ 9) → ((11 - x105).toNat) < N → zF X s108 102 [some (.ref (X.1.1 + 164)), none, some (.long (zJ r24)), none, some (.int (zI r85)), some (.int (zI x105))] [] := by
              intro N
              induction N with
              | zero =>
                intro x105 s108 h106 h107 hI109 hF110 g111 g112 g113 g114 g115 g116 hm118
                exact absurd hm118 (Nat.not_lt_zero _)
              | succ N ih119 =>
                intro x105 s108 h106 h107 hI109 hF110 g111 g112 g113 g114 g115 g116 hm118
                have b120 := zv_46_2 hI109 zc_164
                have b121 := zv_46_3 hI109 zc_164
                have b122 := zv_46_5 hI109 zc_164
                have b123 := zv_46_4 hI109 zc_164
                have b124 := zv_77 hI109 zc_195 0
                refine zt_iload (pc' := 104) hX dX12_poleTold_102 rfl rfl ?_
                refine zt_aload_n (pc' := 105) hX dX12_poleTold_104 rfl rfl ?_
                refine zt_get (pc' := 108) (v := .ref (X.1.1 + 195)) hX dX12_poleTold_105 rfl zf_X12_105 (by decide) zc_164 zs_46 (zrf_of (zv_46_40 hI109 zc_164)) ?_
                refine zt_iconst (pc' := 109) hX dX12_poleTold_108 rfl ?_
                refine zt_iald (pc' := 110) hX dX12_poleTold_109 rfl (by decide) zc_195 zs_77 (by decide) ⟨by omega, by omega⟩ ?_
                rw [show Int.toNat 0 = 0 from rfl]
                have b126 := zv_77 hI109 zc_195 0
                refine zt_icge (pc' := 113) (tgt := 149) hX dX12_poleTold_110 rfl (by decide) ⟨by omega, by omega⟩ ⟨by omega, by omega⟩ (fun c127 => ?_) (fun c127 => ?_)
                · refine zt_aload_n (pc' := 150) hX dX12_poleTold_149 rfl rfl ?_
                  refine zt_aload_n (pc' := 151) hX dX12_poleTold_150 rfl rfl ?_
                  refine zt_get (pc' := 154) (v := .ref (X.1.1 + 173)) hX dX12_poleTold_151 rfl zf_X12_39 (by decide) zc_164 zs_46 (zrf_of (zv_46_17 hI109 zc_164)) ?_
                  refine zt_cVv (pc' := 157) hX dX12_poleTold_154 rfl zm_yX12_asks zw_26_0 zc_164 (by decide) zs_46 (q := (RX12, TX12, 108)) rfl rfl (zc_X12_asks _ _ s108 hI109 173 55 5 zc_173 (by decide) zs_55 (by decide)) rfl rfl (Nat.le_of_ble_eq_true rfl) (by decide) (fun r128 s129 hr130 hp131 => ?_)
                  obtain ⟨hI132, hF133, z134, z135⟩ := hp131
                  have e136 := hF133 164 3 rfl
                  have e137 := hF133 194 0 rfl
                  have e138 := hF133 194 1 rfl
                  have e139 := hF133 195 0 rfl
                  have hF140 := zOn_tr hF110 hF133 zi_14
                  have b141 := zv_46_2 hI132 zc_164
                  have b142 := zv_46_3 hI132 zc_164
                  have b143 := zv_46_5 hI132 zc_164
                  have b144 := zv_46_4 hI132 zc_164
                  have b145 := zv_77 hI132 zc_195 0
                  refine zt_aload_n (pc' := 158) hX dX12_poleTold_157 rfl rfl ?_
                  refine zt_iconst (pc' := 159) hX dX12_poleTold_158 rfl ?_
                  refine zt_bipush (pc' := 161) hX dX12_poleTold_159 rfl (by decide) (by decide) ?_
                  refine zt_cVi (pc' := 164) hX dX12_poleTold_161 rfl zm_yX12_number zw_26_23 zc_164 (by decide) zs_46 (q := (RX12, TX12, 108)) rfl rfl (zc_X12_number _ _ s129 hI132 0 ⟨by omega, by omega⟩ 99 ⟨by omega, by omega⟩) rfl rfl (Nat.le_of_ble_eq_true rfl) (by decide) (fun r146 s147 hr148 hp149 => ?_)
                  obtain ⟨hI150, hF151, q152, q153, z154, z155, z156⟩ := hp149
                  have e157 := hF151 164 3 rfl
                  have e158 := hF151 194 0 rfl
                  have e159 := hF151 194 1 rfl
                  have e160 := hF151 195 0 rfl
                  have hF161 := zOn_tr hF140 hF151 zi_14
                  have b162 := zv_46_2 hI150 zc_164
                  have b163 := zv_46_3 hI150 zc_164
                  have b164 := zv_46_5 hI150 zc_164
                  have b165 := zv_46_4 hI150 zc_164
                  have b166 := zv_77 hI150 zc_195 0
                  refine zt_istore (pc' := 166) (lv' := [some (.ref (X.1.1 + 164)), none, some (.long (zJ r24)), none, some (.int (zI r85)), some (.int (zI r146))]) hX dX12_poleTold_164 rfl hL (by decide) rfl ?_
                  refine zt_aload_n (pc' := 167) hX dX12_poleTold_166 rfl rfl ?_
                  have b167 := zv_46_5 hI150 zc_164
                  refine zt_get (pc' := 170) (v := .int (zI (s147 164 5))) hX dX12_poleTold_167 rfl zf_X12_246 (by decide) zc_164 zs_46 rfl ?_
                  refine zt_ifeq (pc' := 173) (tgt := 174) hX dX12_poleTold_170 rfl (by decide) ⟨by omega, by omega⟩ (fun c168 => ?_) (fun c168 => ?_)
                  · refine zt_aload_n (pc' := 175) hX dX12_poleTold_174 rfl rfl ?_
                    refine zt_get (pc' := 178) (v := .ref (X.1.1 + 196)) hX dX12_poleTold_175 rfl zf_X12_108 (by decide) zc_164 zs_46 (zrf_of (zv_46_41 hI150 zc_164)) ?_
                    refine zt_aload_n (pc' := 179) hX dX12_poleTold_178 rfl rfl ?_
                    refine zt_get (pc' := 182) (v := .ref (X.1.1 + 195)) hX dX12_poleTold_179 rfl zf_X12_105 (by decide) zc_164 zs_46 (zrf_of (zv_46_40 hI150 zc_164)) ?_
                    refine zt_iconst (pc' := 183) hX dX12_poleTold_182 rfl ?_
                    refine zt_iald (pc' := 184) hX dX12_poleTold_183 rfl (by decide) zc_195 zs_77 (by decide) ⟨by omega, by omega⟩ ?_
                    rw [show Int.toNat 0 = 0 from rfl]
                    have b170 := zv_77 hI150 zc_195 0
                    refine zt_lload_n (pc' := 185) hX dX12_poleTold_184 rfl rfl ?_
                    refine zt_last (pc' := 186) hX dX12_poleTold_185 rfl (by decide) zc_196 zs_78 (by decide) ⟨by omega, by omega⟩ ?_
                    generalize hs172 : zset s147 196 ((s147 195 0).toNat) r24 = s171
                    have hI173 : zInv s171 := hs172 ▸ zp_78 hI150 zc_196 ((s147 195 0).toNat) ⟨by omega, by omega⟩
                    have hF174 : zOn zQ4 σ s171 := hs172 ▸ zOn_set hF161 (zq4_196 (by omega))
                    have e175 : s171 164 2 = s147 164 2 := by rw [← hs172]; exact zset_k (zne_r zc_164 zc_196 (by decide))
                    have e176 : s171 164 3 = s147 164 3 := by rw [← hs172]; exact zset_k (zne_r zc_164 zc_196 (by decide))
                    have e177 : s171 164 5 = s147 164 5 := by rw [← hs172]; exact zset_k (zne_r zc_164 zc_196 (by decide))
                    have e178 : s171 164 4 = s147 164 4 := by rw [← hs172]; exact zset_k (zne_r zc_164 zc_196 (by decide))
                    have e179 : s171 194 0 = s147 194 0 := by rw [← hs172]; exact zset_k (zne_r zc_194 zc_196 (by decide))
                    have e180 : s171 194 1 = s147 194 1 := by rw [← hs172]; exact zset_k (zne_r zc_194 zc_196 (by decide))
                    have e181 : s171 195 0 = s147 195 0 := by rw [← hs172]; exact zset_k (zne_r zc_195 zc_196 (by decide))
                    refine zt_aload_n (pc' := 187) hX dX12_poleTold_186 rfl rfl ?_
                    refine zt_get (pc' := 190) (v := .ref (X.1.1 + 198)) hX dX12_poleTold_187 rfl zf_X12_115 (by decide) zc_164 zs_46 (zrf_of (zv_46_43 hI173 zc_164)) ?_
                    refine zt_iconst (pc' := 191) hX dX12_poleTold_190 rfl ?_
                    refine zt_aload_n (pc' := 192) hX dX12_poleTold_191 rfl rfl ?_
                    refine zt_get (pc' := 195) (v := .ref (X.1.1 + 195)) hX dX12_poleTold_192 rfl zf_X12_105 (by decide) zc_164 zs_46 (zrf_of (zv_46_40 hI173 zc_164)) ?_
                    refine zt_iconst (pc' := 196) hX dX12_poleTold_195 rfl ?_
                    refine zt_iald (pc' := 197) hX dX12_poleTold_196 rfl (by decide) zc_195 zs_77 (by decide) ⟨by omega, by omega⟩ ?_
                    rw [show Int.toNat 0 = 0 from rfl]
                    have b183 := zv_77 hI173 zc_195 0
                    refine zt_imul (pc' := 198) hX dX12_poleTold_197 rfl ?_
                    refine zt_iload (pc' := 200) hX dX12_poleTold_198 rfl rfl ?_
                    refine zt_iast (pc' := 201) hX dX12_poleTold_200 rfl (by decide) zc_198 zs_80 (by decide) ⟨by omega, by omega⟩ ?_
                    generalize hs185 : zset s171 198 ((2 * (s171 195 0)).toNat) r85 = s184
                    have hI186 : zInv s184 := hs185 ▸ zp_80 hI173 zc_198 ((2 * (s171 195 0)).toNat) (by omega)
                    have hF187 : zOn zQ4 σ s184 := hs185 ▸ zOn_set hF174 (zq4_198 (by omega))
                    have e188 : s184 164 2 = s171 164 2 := by rw [← hs185]; exact zset_k (zne_r zc_164 zc_198 (by decide))
                    have e189 : s184 164 3 = s171 164 3 := by rw [← hs185]; exact zset_k (zne_r zc_164 zc_198 (by decide))
                    have e190 : s184 164 5 = s171 164 5 := by rw [← hs185]; exact zset_k (zne_r zc_164 zc_198 (by decide))
                    have e191 : s184 164 4 = s171 164 4 := by rw [← hs185]; exact zset_k (zne_r zc_164 zc_198 (by decide))
                    have e192 : s184 194 0 = s171 194 0 := by rw [← hs185]; exact zset_k (zne_r zc_194 zc_198 (by decide))
                    have e193 : s184 194 1 = s171 194 1 := by rw [← hs185]; exact zset_k (zne_r zc_194 zc_198 (by decide))
                    have e194 : s184 195 0 = s171 195 0 := by rw [← hs185]; exact zset_k (zne_r zc_195 zc_198 (by decide))
                    refine zt_aload_n (pc' := 202) hX dX12_poleTold_201 rfl rfl ?_
                    refine zt_get (pc' := 205) (v := .ref (X.1.1 + 198)) hX dX12_poleTold_202 rfl zf_X12_115 (by decide) zc_164 zs_46 (zrf_of (zv_46_43 hI186 zc_164)) ?_
                    refine zt_iconst (pc' := 206) hX dX12_poleTold_205 rfl ?_
                    refine zt_aload_n (pc' := 207) hX dX12_poleTold_206 rfl rfl ?_
                    refine zt_get (pc' := 210) (v := .ref (X.1.1 + 195)) hX dX12_poleTold_207 rfl zf_X12_105 (by decide) zc_164 zs_46 (zrf_of (zv_46_40 hI186 zc_164)) ?_
                    refine zt_iconst (pc' := 211) hX dX12_poleTold_210 rfl ?_
                    refine zt_iald (pc' := 212) hX dX12_poleTold_211 rfl (by decide) zc_195 zs_77 (by decide) ⟨by omega, by omega⟩ ?_
                    rw [show Int.toNat 0 = 0 from rfl]
                    have b196 := zv_77 hI186 zc_195 0
                    refine zt_imul (pc' := 213) hX dX12_poleTold_212 rfl ?_
                    refine zt_iconst (pc' := 214) hX dX12_poleTold_213 rfl ?_
                    refine zt_iadd (pc' := 215) hX dX12_poleTold_214 rfl ?_
                    refine zt_iload (pc' := 217) hX dX12_poleTold_215 rfl rfl ?_
                    refine zt_iast (pc' := 218) hX dX12_poleTold_217 rfl (by decide) zc_198 zs_80 (by decide) ⟨by omega, by omega⟩ ?_
                    generalize hs198 : zset s184 198 (((2 * (s184 195 0)) + 1).toNat) r146 = s197
                    have hI199 : zInv s197 := hs198 ▸ zp_80 hI186 zc_198 (((2 * (s184 195 0)) + 1).toNat) (by omega)
                    have hF200 : zOn zQ4 σ s197 := hs198 ▸ zOn_set hF187 (zq4_198 (by omega))
                    have e201 : s197 164 2 = s184 164 2 := by rw [← hs198]; exact zset_k (zne_r zc_164 zc_198 (by decide))
                    have e202 : s197 164 3 = s184 164 3 := by rw [← hs198]; exact zset_k (zne_r zc_164 zc_198 (by decide))
                    have e203 : s197 164 5 = s184 164 5 := by rw [← hs198]; exact zset_k (zne_r zc_164 zc_198 (by decide))
                    have e204 : s197 164 4 = s184 164 4 := by rw [← hs198]; exact zset_k (zne_r zc_164 zc_198 (by decide))
                    have e205 : s197 194 0 = s184 194 0 := by rw [← hs198]; exact zset_k (zne_r zc_194 zc_198 (by decide))
                    have e206 : s197 194 1 = s184 194 1 := by rw [← hs198]; exact zset_k (zne_r zc_194 zc_198 (by decide))
                    have e207 : s197 195 0 = s184 195 0 := by rw [← hs198]; exact zset_k (zne_r zc_195 zc_198 (by decide))
                    refine zt_aload_n (pc' := 219) hX dX12_poleTold_218 rfl rfl ?_
                    refine zt_get (pc' := 222) (v := .ref (X.1.1 + 195)) hX dX12_poleTold_219 rfl zf_X12_105 (by decide) zc_164 zs_46 (zrf_of (zv_46_40 hI199 zc_164)) ?_
                    refine zt_iconst (pc' := 223) hX dX12_poleTold_222 rfl ?_
                    refine zt_dup2 (pc' := 224) hX dX12_poleTold_223 rfl rfl rfl ?_
                    refine zt_iald (pc' := 225) hX dX12_poleTold_224 rfl (by decide) zc_195 zs_77 (by decide) ⟨by omega, by omega⟩ ?_
                    rw [show Int.toNat 0 = 0 from rfl]
                    have b209 := zv_77 hI199 zc_195 0
                    refine zt_iconst (pc' := 226) hX dX12_poleTold_225 rfl ?_
                    refine zt_iadd (pc' := 227) hX dX12_poleTold_226 rfl ?_
                    refine zt_iast (pc' := 228) hX dX12_poleTold_227 rfl (by decide) zc_195 zs_77 (by decide) ⟨by omega, by omega⟩ ?_
                    rw [show Int.toNat 0 = 0 from rfl]
                    generalize hs211 : zset s197 195 0 ((s197 195 0) + 1) = s210
                    have hI212 : zInv s210 := hs211 ▸ zp_77 hI199 zc_195 0 ⟨by omega, by omega⟩
                    have hF213 : zOn zQ4 σ s210 := hs211 ▸ zOn_set hF200 (by decide)
                    have e214 : s210 164 2 = s197 164 2 := by rw [← hs211]; exact zset_k (zne_r zc_164 zc_195 (by decide))
                    have e215 : s210 164 3 = s197 164 3 := by rw [← hs211]; exact zset_k (zne_r zc_164 zc_195 (by decide))
                    have e216 : s210 164 5 = s197 164 5 := by rw [← hs211]; exact zset_k (zne_r zc_164 zc_195 (by decide))
                    have e217 : s210 164 4 = s197 164 4 := by rw [← hs211]; exact zset_k (zne_r zc_164 zc_195 (by decide))
                    have e218 : s210 194 0 = s197 194 0 := by rw [← hs211]; exact zset_k (zne_r zc_194 zc_195 (by decide))
                    have e219 : s210 194 1 = s197 194 1 := by rw [← hs211]; exact zset_k (zne_r zc_194 zc_195 (by decide))
                    have e220 : s210 195 0 = ((s197 195 0) + 1) := by rw [← hs211]; exact zset_s
                    exact zt_vret hX hR dX12_poleTold_228 ⟨hI212, hF213, by omega, by omega⟩
                  · exact zt_vret hX hR dX12_poleTold_173 ⟨hI150, hF161, by omega, by omega⟩
                · refine zt_aload_n (pc' := 114) hX dX12_poleTold_113 rfl rfl ?_
                  have b221 := zv_46_5 hI109 zc_164
                  refine zt_get (pc' := 117) (v := .int (zI (s108 164 5))) hX dX12_poleTold_114 rfl zf_X12_246 (by decide) zc_164 zs_46 rfl ?_
                  have J_143_230 : ∀ (s222 : zSto), zInv s222 → zOn zQ4 σ s222 → (σ 164 2 ≤ s222 164 2 ∧ (σ 164 2 ≤ σ 164 3 → s222 164 2 ≤ σ 164 3)) → s222 164 3 = σ 164 3 → (σ 164 5 ≠ 0 → s222 164 5 ≠ 0) → s222 195 0 = σ 195 0 → (s222 194 0 = σ 194 0 ∧ s222 194 1 = σ 194 1) → (s222 164 5 = 0 → σ 195 0 ≤ 9) → zF X s222 143 [some (.ref (X.1.1 + 164)), none, some (.long (zJ r24)), none, some (.int (zI r85)), some (.int (zI x105))] [] := by
                    intro s222 hI223 hF224 g225 g226 g227 g228 g229 g230
                    have b232 := zv_46_2 hI223 zc_164
                    have b233 := zv_46_3 hI223 zc_164
                    have b234 := zv_46_5 hI223 zc_164
                    have b235 := zv_46_4 hI223 zc_164
                    have b236 := zv_77 hI223 zc_195 0
                    refine zt_iinc (pc' := 146) (lv' := [some (.ref (X.1.1 + 164)), none, some (.long (zJ r24)), none, some (.int (zI r85)), some (.int (zI (x105 + 1)))]) hX dX12_poleTold_143 rfl rfl hL (by decide) rfl ?_
                    refine zt_goto (tgt := 102) hX dX12_poleTold_146 (by decide) ?_
                    exact ih119 (x105 + 1) s222 (by omega) (by omega) hI223 hF224 (by omega) (by omega) (by omega) (by omega) (by omega) (by omega) (by omega)
                  refine zt_ifne (pc' := 120) (tgt := 143) hX dX12_poleTold_117 rfl (by decide) ⟨by omega, by omega⟩ (fun c237 => ?_) (fun c237 => ?_)
                  · exact J_143_230 s108 hI109 hF110 (by omega) (by omega) (by omega) (by omega) (by omega) (by omega)
                  · refine zt_aload_n (pc' := 121) hX dX12_poleTold_120 rfl rfl ?_
                    refine zt_get (pc' := 124) (v := .ref (X.1.1 + 198)) hX dX12_poleTold_121 rfl zf_X12_115 (by decide) zc_164 zs_46 (zrf_of (zv_46_43 hI109 zc_164)) ?_
                    refine zt_iconst (pc' := 125) hX dX12_poleTold_124 rfl ?_
                    refine zt_iload (pc' := 127) hX dX12_poleTold_125 rfl rfl ?_
                    refine zt_imul (pc' := 128) hX dX12_poleTold_127 rfl ?_
                    refine zt_iald (pc' := 129) hX dX12_poleTold_128 rfl (by decide) zc_198 zs_80 (by decide) ⟨by omega, by omega⟩ ?_
                    have bv238 := zv_80 hI109 zc_198 ((2 * x105).toNat)
                    generalize hv238 : s108 198 ((2 * x105).toNat) = v238 at bv238 ⊢
                    refine zt_iload (pc' := 131) hX dX12_poleTold_129 rfl rfl ?_
                    refine zt_icne (pc' := 134) (tgt := 143) hX dX12_poleTold_131 rfl (by decide) ⟨by omega, by omega⟩ ⟨by omega, by omega⟩ (fun c239 => ?_) (fun c239 => ?_)
                    · exact J_143_230 s108 hI109 hF110 (by omega) (by omega) (by omega) (by omega) (by omega) (by omega)
                    · refine zt_aload_n (pc' := 135) hX dX12_poleTold_134 rfl rfl ?_
                      refine zt_iconst (pc' := 136) hX dX12_poleTold_135 rfl ?_
                      refine zt_aload_n (pc' := 137) hX dX12_poleTold_136 rfl rfl ?_
                      have b240 := zv_46_10 hI109 zc_164
                      refine zt_get (pc' := 140) (v := .int (zI (s108 164 10))) hX dX12_poleTold_137 rfl zf_X12_286 (by decide) zc_164 zs_46 rfl ?_
                      refine zt_cVv (pc' := 143) hX dX12_poleTold_140 rfl zm_yX12_fail zw_26_19 zc_164 (by decide) zs_46 (q := (RX12, TX12, 108)) rfl rfl (zc_X12_fail _ _ s108 hI109 2 ⟨by omega, by omega⟩ (s108 164 10) ⟨by omega, by omega⟩) rfl rfl (Nat.le_of_ble_eq_true rfl) (by decide) (fun r241 s242 hr243 hp244 => ?_)
                      obtain ⟨hI245, hF246, z247, z248⟩ := hp244
                      have e249 := hF246 164 3 rfl
                      have e250 := hF246 194 0 rfl
                      have e251 := hF246 194 1 rfl
                      have e252 := hF246 195 0 rfl
                      have hF253 := zOn_tr hF110 hF246 zi_14
                      have b254 := zv_46_2 hI245 zc_164
                      have b255 := zv_46_3 hI245 zc_164
                      have b256 := zv_46_5 hI245 zc_164
                      have b257 := zv_46_4 hI245 zc_164
                      have b258 := zv_77 hI245 zc_195 0
                      exact J_143_230 s242 hI245 hF253 (by omega) (by omega) (by omega) (by omega) (by omega) (by omega)
            exact L_102_116 _ 0 s86 (by omega) (by omega) hI89 hF99 (by omega) (by omega) (by omega) (by omega) (by omega) (by omega) (Nat.lt_succ_self _)
          · refine zt_aload_n (pc' := 52) hX dX12_poleTold_51 rfl rfl ?_
            have b259 := zv_46_5 hI48 zc_164
            refine zt_get (pc' := 55) (v := .int (zI (s47 164 5))) hX dX12_poleTold_52 rfl zf_X12_246 (by decide) zc_164 zs_46 rfl ?_
            have J_79_268 : ∀ (s260 : zSto), zInv s260 → zOn zQ4 σ s260 → (σ 164 2 ≤ s260 164 2 ∧ (σ 164 2 ≤ σ 164 3 → s260 164 2 ≤ σ 164 3)) → s260 164 3 = σ 164 3 → (σ 164 5 ≠ 0 → s260 164 5 ≠ 0) → s260 195 0 = σ 195 0 → (s260 194 0 = σ 194 0 ∧ s260 194 1 = σ 194 1) → (s260 164 5 = 0 → σ 195 0 ≤ 9) → zF X s260 79 [some (.ref (X.1.1 + 164)), none, some (.long (zJ r24)), none, some (.int (zI x44)), none] [] := by
              intro s260 hI261 hF262 g263 g264 g265 g266 g267 g268
              have b270 := zv_46_2 hI261 zc_164
              have b271 := zv_46_3 hI261 zc_164
              have b272 := zv_46_5 hI261 zc_164
              have b273 := zv_46_4 hI261 zc_164
              have b274 := zv_77 hI261 zc_195 0
              refine zt_iinc (pc' := 82) (lv' := [some (.ref (X.1.1 + 164)), none, some (.long (zJ r24)), none, some (.int (zI (x44 + 1))), none]) hX dX12_poleTold_79 rfl rfl hL (by decide) rfl ?_
              refine zt_goto (tgt := 40) hX dX12_poleTold_82 (by decide) ?_
              exact ih58 (x44 + 1) s260 (by omega) (by omega) hI261 hF262 (by omega) (by omega) (by omega) (by omega) (by omega) (by omega) (by omega)
            refine zt_ifne (pc' := 58) (tgt := 79) hX dX12_poleTold_55 rfl (by decide) ⟨by omega, by omega⟩ (fun c275 => ?_) (fun c275 => ?_)
            · exact J_79_268 s47 hI48 hF49 (by omega) (by omega) (by omega) (by omega) (by omega) (by omega)
            · refine zt_aload_n (pc' := 59) hX dX12_poleTold_58 rfl rfl ?_
              refine zt_get (pc' := 62) (v := .ref (X.1.1 + 196)) hX dX12_poleTold_59 rfl zf_X12_108 (by decide) zc_164 zs_46 (zrf_of (zv_46_41 hI48 zc_164)) ?_
              refine zt_iload (pc' := 64) hX dX12_poleTold_62 rfl rfl ?_
              refine zt_lald (pc' := 65) hX dX12_poleTold_64 rfl (by decide) zc_196 zs_78 (by decide) ⟨by omega, by omega⟩ ?_
              generalize hv276 : s47 196 (x44.toNat) = v276
              have bv276 : -9223372036854775808 ≤ v276 ∧ v276 ≤ 9223372036854775807 := hv276 ▸ zv_78 hI48 zc_196 _
              refine zt_lload_n (pc' := 66) hX dX12_poleTold_65 rfl rfl ?_
              refine zt_lcmp (pc' := 67) hX dX12_poleTold_66 rfl ⟨by omega, by omega⟩ ⟨by omega, by omega⟩ (fun r277 er277 => ?_)
              refine zt_ifne (pc' := 70) (tgt := 79) hX dX12_poleTold_67 rfl (by decide) ⟨by omega, by omega⟩ (fun c278 => ?_) (fun c278 => ?_)
              · exact J_79_268 s47 hI48 hF49 (by omega) (by omega) (by omega) (by omega) (by omega) (by omega)
              · refine zt_aload_n (pc' := 71) hX dX12_poleTold_70 rfl rfl ?_
                refine zt_iconst (pc' := 72) hX dX12_poleTold_71 rfl ?_
                refine zt_aload_n (pc' := 73) hX dX12_poleTold_72 rfl rfl ?_
                have b279 := zv_46_38 hI48 zc_164
                refine zt_get (pc' := 76) (v := .int (zI (s47 164 38))) hX dX12_poleTold_73 rfl zf_X12_297 (by decide) zc_164 zs_46 rfl ?_
                refine zt_cVv (pc' := 79) hX dX12_poleTold_76 rfl zm_yX12_fail zw_26_19 zc_164 (by decide) zs_46 (q := (RX12, TX12, 108)) rfl rfl (zc_X12_fail _ _ s47 hI48 3 ⟨by omega, by omega⟩ (s47 164 38) ⟨by omega, by omega⟩) rfl rfl (Nat.le_of_ble_eq_true rfl) (by decide) (fun r280 s281 hr282 hp283 => ?_)
                obtain ⟨hI284, hF285, z286, z287⟩ := hp283
                have e288 := hF285 164 3 rfl
                have e289 := hF285 194 0 rfl
                have e290 := hF285 194 1 rfl
                have e291 := hF285 195 0 rfl
                have hF292 := zOn_tr hF49 hF285 zi_14
                have b293 := zv_46_2 hI284 zc_164
                have b294 := zv_46_3 hI284 zc_164
                have b295 := zv_46_5 hI284 zc_164
                have b296 := zv_46_4 hI284 zc_164
                have b297 := zv_77 hI284 zc_195 0
                exact J_79_268 s281 hI284 hF292 (by omega) (by omega) (by omega) (by omega) (by omega) (by omega)
      exact L_40_55 _ 0 s25 (by omega) (by omega) hI28 hF38 (by omega) (by omega) (by omega) (by omega) (by omega) (by omega) (Nat.lt_succ_self _)
    · exact zt_vret hX hR dX12_poleTold_31 ⟨hI8, hF9, by omega, by omega⟩
  refine zt_ifne (pc' := 7) (tgt := 24) hX dX12_poleTold_4 rfl (by decide) ⟨by omega, by omega⟩ (fun c298 => ?_) (fun c298 => ?_)
  · refine zt_mask [true, false, false, false, false, false] rfl ?_
    exact J_24_15 σ hI hF (by omega) (by omega) (by omega) (by omega) (by omega) (by omega)
  · refine zt_aload_n (pc' := 8) hX dX12_poleTold_7 rfl rfl ?_
    refine zt_get (pc' := 11) (v := .ref (X.1.1 + 195)) hX dX12_poleTold_8 rfl zf_X12_105 (by decide) zc_164 zs_46 (zrf_of (zv_46_40 hI zc_164)) ?_
    refine zt_iconst (pc' := 12) hX dX12_poleTold_11 rfl ?_
    refine zt_iald (pc' := 13) hX dX12_poleTold_12 rfl (by decide) zc_195 zs_77 (by decide) ⟨by omega, by omega⟩ ?_
    rw [show Int.toNat 0 = 0 from rfl]
    have b300 := zv_77 hI zc_195 0
    refine zt_bipush (pc' := 15) hX dX12_poleTold_13 rfl (by decide) (by decide) ?_
    refine zt_icne (pc' := 18) (tgt := 24) hX dX12_poleTold_15 rfl (by decide) ⟨by omega, by omega⟩ ⟨by omega, by omega⟩ (fun c301 => ?_) (fun c301 => ?_)
    · refine zt_mask [true, false, false, false, false, false] rfl ?_
      exact J_24_15 σ hI hF (by omega) (by omega) (by omega) (by omega) (by omega) (by omega)
    · refine zt_aload_n (pc' := 19) hX dX12_poleTold_18 rfl rfl ?_
      refine zt_iconst (pc' := 20) hX dX12_poleTold_19 rfl ?_
      refine zt_iload_n (pc' := 21) hX dX12_poleTold_20 rfl rfl ?_
      refine zt_cVv (pc' := 24) hX dX12_poleTold_21 rfl zm_yX12_fail zw_26_19 zc_164 (by decide) zs_46 (q := (RX12, TX12, 108)) rfl rfl (zc_X12_fail _ _ σ hI 5 ⟨by omega, by omega⟩ a1_ ⟨by omega, by omega⟩) rfl rfl (Nat.le_of_ble_eq_true rfl) (by decide) (fun r302 s303 hr304 hp305 => ?_)
      obtain ⟨hI306, hF307, z308, z309⟩ := hp305
      have e310 := hF307 164 3 rfl
      have e311 := hF307 194 0 rfl
      have e312 := hF307 194 1 rfl
      have e313 := hF307 195 0 rfl
      have hF314 := zOn_tr hF hF307 zi_14
      have b315 := zv_46_2 hI306 zc_164
      have b316 := zv_46_3 hI306 zc_164
      have b317 := zv_46_5 hI306 zc_164
      have b318 := zv_46_4 hI306 zc_164
      have b319 := zv_77 hI306 zc_195 0
      refine zt_mask [true, false, false, false, false, false] rfl ?_
      exact J_24_15 s303 hI306 hF314 (by omega) (by omega) (by omega) (by omega) (by omega) (by omega)

set_option maxRecDepth 100000 in
set_option maxHeartbeats 4000000 in
theorem zc_X12_paneTold (l : Launch) (E : zEN) (σ : zSto) (hI : zInv σ)  : zCt l E yX12_paneTold cX12_paneTold 1 none 4 zNC zNC 0 0 σ [.ref (E.1 + 164)] (fun r σ' => zInv σ' ∧ zOn zQ7 σ σ' ∧ (σ 164 2 ≤ σ' 164 2 ∧ (σ 164 2 ≤ σ 164 3 → σ' 164 2 ≤ σ 164 3)) ∧ (σ' 164 5 = 0 → σ 164 5 = 0) ∧ (σ' 164 5 = 0 → 2 ≤ σ' 194 0 ∧ σ' 194 0 ≤ 6 ∧ 2 ≤ σ' 194 1 ∧ σ' 194 1 ≤ 6)) := by
  refine zCt_of2 [some (.ref (E.1 + 164))] (by decide +kernel) (Nat.le_of_ble_eq_true rfl) rfl ?_
  intro X hE hX hR hL hN
  subst hE
  have hX : zok X cX12_paneTold RX12 4 := hX
  have hF := zOn_rf zQ7 σ
  have b1 := zv_46_2 hI zc_164
  have b2 := zv_46_3 hI zc_164
  have b3 := zv_46_5 hI zc_164
  have b4 := zv_46_4 hI zc_164
  refine zt_aload_n (pc' := 1) hX dX12_paneTold_0 rfl rfl ?_
  refine zt_aload_n (pc' := 2) hX dX12_paneTold_1 rfl rfl ?_
  refine zt_get (pc' := 5) (v := .ref (X.1.1 + 167)) hX dX12_paneTold_2 rfl zf_X12_20 (by decide) zc_164 zs_46 (zrf_of (zv_46_11 hI zc_164)) ?_
  refine zt_cVv (pc' := 8) hX dX12_paneTold_5 rfl zm_yX12_asks zw_26_0 zc_164 (by decide) zs_46 (q := (RX12, TX12, 108)) rfl rfl (zc_X12_asks _ _ σ hI 167 49 4 zc_167 (by decide) zs_49 (by decide)) rfl rfl (Nat.le_of_ble_eq_true rfl) (by decide) (fun r5 s6 hr7 hp8 => ?_)
  obtain ⟨hI9, hF10, z11, z12⟩ := hp8
  have e13 := hF10 164 3 rfl
  have e14 := hF10 194 0 rfl
  have e15 := hF10 194 1 rfl
  have hF16 := zOn_tr hF hF10 zi_17
  have b17 := zv_46_2 hI9 zc_164
  have b18 := zv_46_3 hI9 zc_164
  have b19 := zv_46_5 hI9 zc_164
  have b20 := zv_46_4 hI9 zc_164
  refine zt_aload_n (pc' := 9) hX dX12_paneTold_8 rfl rfl ?_
  refine zt_get (pc' := 12) (v := .ref (X.1.1 + 194)) hX dX12_paneTold_9 rfl zf_X12_102 (by decide) zc_164 zs_46 (zrf_of (zv_46_39 hI9 zc_164)) ?_
  refine zt_iconst (pc' := 13) hX dX12_paneTold_12 rfl ?_
  refine zt_aload_n (pc' := 14) hX dX12_paneTold_13 rfl rfl ?_
  refine zt_iconst (pc' := 15) hX dX12_paneTold_14 rfl ?_
  refine zt_bipush (pc' := 17) hX dX12_paneTold_15 rfl (by decide) (by decide) ?_
  refine zt_cVi (pc' := 20) hX dX12_paneTold_17 rfl zm_yX12_number zw_26_23 zc_164 (by decide) zs_46 (q := (RX12, TX12, 108)) rfl rfl (zc_X12_number _ _ s6 hI9 2 ⟨by omega, by omega⟩ 6 ⟨by omega, by omega⟩) rfl rfl (Nat.le_of_ble_eq_true rfl) (by decide) (fun r21 s22 hr23 hp24 => ?_)
  obtain ⟨hI25, hF26, q27, q28, z29, z30, z31⟩ := hp24
  have e32 := hF26 164 3 rfl
  have e33 := hF26 194 0 rfl
  have e34 := hF26 194 1 rfl
  have hF35 := zOn_tr hF16 hF26 zi_17
  have b36 := zv_46_2 hI25 zc_164
  have b37 := zv_46_3 hI25 zc_164
  have b38 := zv_46_5 hI25 zc_164
  have b39 := zv_46_4 hI25 zc_164
  refine zt_iast (pc' := 21) hX dX12_paneTold_20 rfl (by decide) zc_194 zs_76 (by decide) ⟨by omega, by omega⟩ ?_
  rw [show Int.toNat 0 = 0 from rfl]
  generalize hs41 : zset s22 194 0 r21 = s40
  have hI42 : zInv s40 := hs41 ▸ zp_76 hI25 zc_194 0 (by omega)
  have hF43 : zOn zQ7 σ s40 := hs41 ▸ zOn_set hF35 (by decide)
  have e44 : s40 164 2 = s22 164 2 := by rw [← hs41]; exact zset_k (zne_r zc_164 zc_194 (by decide))
  have e45 : s40 164 3 = s22 164 3 := by rw [← hs41]; exact zset_k (zne_r zc_164 zc_194 (by decide))
  have e46 : s40 164 5 = s22 164 5 := by rw [← hs41]; exact zset_k (zne_r zc_164 zc_194 (by decide))
  have e47 : s40 164 4 = s22 164 4 := by rw [← hs41]; exact zset_k (zne_r zc_164 zc_194 (by decide))
  have e48 : s40 194 0 = r21 := by rw [← hs41]; exact zset_s
  have e49 : s40 194 1 = s22 194 1 := by rw [← hs41]; exact zset_j (by decide)
  refine zt_aload_n (pc' := 22) hX dX12_paneTold_21 rfl rfl ?_
  refine zt_aload_n (pc' := 23) hX dX12_paneTold_22 rfl rfl ?_
  refine zt_get (pc' := 26) (v := .ref (X.1.1 + 168)) hX dX12_paneTold_23 rfl zf_X12_24 (by decide) zc_164 zs_46 (zrf_of (zv_46_12 hI42 zc_164)) ?_
  refine zt_cVv (pc' := 29) hX dX12_paneTold_26 rfl zm_yX12_asks zw_26_0 zc_164 (by decide) zs_46 (q := (RX12, TX12, 108)) rfl rfl (zc_X12_asks _ _ s40 hI42 168 50 2 zc_168 (by decide) zs_50 (by decide)) rfl rfl (Nat.le_of_ble_eq_true rfl) (by decide) (fun r50 s51 hr52 hp53 => ?_)
  obtain ⟨hI54, hF55, z56, z57⟩ := hp53
  have e58 := hF55 164 3 rfl
  have e59 := hF55 194 0 rfl
  have e60 := hF55 194 1 rfl
  have hF61 := zOn_tr hF43 hF55 zi_17
  have b62 := zv_46_2 hI54 zc_164
  have b63 := zv_46_3 hI54 zc_164
  have b64 := zv_46_5 hI54 zc_164
  have b65 := zv_46_4 hI54 zc_164
  refine zt_aload_n (pc' := 30) hX dX12_paneTold_29 rfl rfl ?_
  refine zt_get (pc' := 33) (v := .ref (X.1.1 + 194)) hX dX12_paneTold_30 rfl zf_X12_102 (by decide) zc_164 zs_46 (zrf_of (zv_46_39 hI54 zc_164)) ?_
  refine zt_iconst (pc' := 34) hX dX12_paneTold_33 rfl ?_
  refine zt_aload_n (pc' := 35) hX dX12_paneTold_34 rfl rfl ?_
  refine zt_iconst (pc' := 36) hX dX12_paneTold_35 rfl ?_
  refine zt_bipush (pc' := 38) hX dX12_paneTold_36 rfl (by decide) (by decide) ?_
  refine zt_cVi (pc' := 41) hX dX12_paneTold_38 rfl zm_yX12_number zw_26_23 zc_164 (by decide) zs_46 (q := (RX12, TX12, 108)) rfl rfl (zc_X12_number _ _ s51 hI54 2 ⟨by omega, by omega⟩ 6 ⟨by omega, by omega⟩) rfl rfl (Nat.le_of_ble_eq_true rfl) (by decide) (fun r66 s67 hr68 hp69 => ?_)
  obtain ⟨hI70, hF71, q72, q73, z74, z75, z76⟩ := hp69
  have e77 := hF71 164 3 rfl
  have e78 := hF71 194 0 rfl
  have e79 := hF71 194 1 rfl
  have hF80 := zOn_tr hF61 hF71 zi_17
  have b81 := zv_46_2 hI70 zc_164
  have b82 := zv_46_3 hI70 zc_164
  have b83 := zv_46_5 hI70 zc_164
  have b84 := zv_46_4 hI70 zc_164
  refine zt_iast (pc' := 42) hX dX12_paneTold_41 rfl (by decide) zc_194 zs_76 (by decide) ⟨by omega, by omega⟩ ?_
  rw [show Int.toNat 1 = 1 from rfl]
  generalize hs86 : zset s67 194 1 r66 = s85
  have hI87 : zInv s85 := hs86 ▸ zp_76 hI70 zc_194 1 (by omega)
  have hF88 : zOn zQ7 σ s85 := hs86 ▸ zOn_set hF80 (by decide)
  have e89 : s85 164 2 = s67 164 2 := by rw [← hs86]; exact zset_k (zne_r zc_164 zc_194 (by decide))
  have e90 : s85 164 3 = s67 164 3 := by rw [← hs86]; exact zset_k (zne_r zc_164 zc_194 (by decide))
  have e91 : s85 164 5 = s67 164 5 := by rw [← hs86]; exact zset_k (zne_r zc_164 zc_194 (by decide))
  have e92 : s85 164 4 = s67 164 4 := by rw [← hs86]; exact zset_k (zne_r zc_164 zc_194 (by decide))
  have e93 : s85 194 0 = s67 194 0 := by rw [← hs86]; exact zset_j (by decide)
  have e94 : s85 194 1 = r66 := by rw [← hs86]; exact zset_s
  refine zt_aload_n (pc' := 43) hX dX12_paneTold_42 rfl rfl ?_
  refine zt_aload_n (pc' := 44) hX dX12_paneTold_43 rfl rfl ?_
  refine zt_get (pc' := 47) (v := .ref (X.1.1 + 169)) hX dX12_paneTold_44 rfl zf_X12_27 (by decide) zc_164 zs_46 (zrf_of (zv_46_13 hI87 zc_164)) ?_
  refine zt_cVv (pc' := 50) hX dX12_paneTold_47 rfl zm_yX12_asks zw_26_0 zc_164 (by decide) zs_46 (q := (RX12, TX12, 108)) rfl rfl (zc_X12_asks _ _ s85 hI87 169 51 5 zc_169 (by decide) zs_51 (by decide)) rfl rfl (Nat.le_of_ble_eq_true rfl) (by decide) (fun r95 s96 hr97 hp98 => ?_)
  obtain ⟨hI99, hF100, z101, z102⟩ := hp98
  have e103 := hF100 164 3 rfl
  have e104 := hF100 194 0 rfl
  have e105 := hF100 194 1 rfl
  have hF106 := zOn_tr hF88 hF100 zi_17
  have b107 := zv_46_2 hI99 zc_164
  have b108 := zv_46_3 hI99 zc_164
  have b109 := zv_46_5 hI99 zc_164
  have b110 := zv_46_4 hI99 zc_164
  refine zt_aload_n (pc' := 51) hX dX12_paneTold_50 rfl rfl ?_
  refine zt_get (pc' := 54) (v := .ref (X.1.1 + 194)) hX dX12_paneTold_51 rfl zf_X12_102 (by decide) zc_164 zs_46 (zrf_of (zv_46_39 hI99 zc_164)) ?_
  refine zt_iconst (pc' := 55) hX dX12_paneTold_54 rfl ?_
  refine zt_aload_n (pc' := 56) hX dX12_paneTold_55 rfl rfl ?_
  refine zt_iconst (pc' := 57) hX dX12_paneTold_56 rfl ?_
  refine zt_bipush (pc' := 59) hX dX12_paneTold_57 rfl (by decide) (by decide) ?_
  refine zt_cVi (pc' := 62) hX dX12_paneTold_59 rfl zm_yX12_number zw_26_23 zc_164 (by decide) zs_46 (q := (RX12, TX12, 108)) rfl rfl (zc_X12_number _ _ s96 hI99 0 ⟨by omega, by omega⟩ 99 ⟨by omega, by omega⟩) rfl rfl (Nat.le_of_ble_eq_true rfl) (by decide) (fun r111 s112 hr113 hp114 => ?_)
  obtain ⟨hI115, hF116, q117, q118, z119, z120, z121⟩ := hp114
  have e122 := hF116 164 3 rfl
  have e123 := hF116 194 0 rfl
  have e124 := hF116 194 1 rfl
  have hF125 := zOn_tr hF106 hF116 zi_17
  have b126 := zv_46_2 hI115 zc_164
  have b127 := zv_46_3 hI115 zc_164
  have b128 := zv_46_5 hI115 zc_164
  have b129 := zv_46_4 hI115 zc_164
  refine zt_iast (pc' := 63) hX dX12_paneTold_62 rfl (by decide) zc_194 zs_76 (by decide) ⟨by omega, by omega⟩ ?_
  rw [show Int.toNat 2 = 2 from rfl]
  generalize hs131 : zset s112 194 2 r111 = s130
  have hI132 : zInv s130 := hs131 ▸ zp_76 hI115 zc_194 2 (by omega)
  have hF133 : zOn zQ7 σ s130 := hs131 ▸ zOn_set hF125 (by decide)
  have e134 : s130 164 2 = s112 164 2 := by rw [← hs131]; exact zset_k (zne_r zc_164 zc_194 (by decide))
  have e135 : s130 164 3 = s112 164 3 := by rw [← hs131]; exact zset_k (zne_r zc_164 zc_194 (by decide))
  have e136 : s130 164 5 = s112 164 5 := by rw [← hs131]; exact zset_k (zne_r zc_164 zc_194 (by decide))
  have e137 : s130 164 4 = s112 164 4 := by rw [← hs131]; exact zset_k (zne_r zc_164 zc_194 (by decide))
  have e138 : s130 194 0 = s112 194 0 := by rw [← hs131]; exact zset_j (by decide)
  have e139 : s130 194 1 = s112 194 1 := by rw [← hs131]; exact zset_j (by decide)
  refine zt_aload_n (pc' := 64) hX dX12_paneTold_63 rfl rfl ?_
  refine zt_bipush (pc' := 66) hX dX12_paneTold_64 rfl (by decide) (by decide) ?_
  refine zt_cVv (pc' := 69) hX dX12_paneTold_66 rfl zm_yX12_asksSign zw_27_10 zc_164 (by decide) zs_46 (q := (RX12, TX12, 108)) rfl rfl (zc_X12_asksSign _ _ s130 hI132 59 ⟨by omega, by omega⟩) rfl rfl (Nat.le_of_ble_eq_true rfl) (by decide) (fun r140 s141 hr142 hp143 => ?_)
  obtain ⟨hI144, hF145, z146, z147⟩ := hp143
  have e148 := hF145 164 3 rfl
  have e149 := hF145 194 0 rfl
  have e150 := hF145 194 1 rfl
  have hF151 := zOn_tr hF133 hF145 zi_17
  have b152 := zv_46_2 hI144 zc_164
  have b153 := zv_46_3 hI144 zc_164
  have b154 := zv_46_5 hI144 zc_164
  have b155 := zv_46_4 hI144 zc_164
  exact zt_vret hX hR dX12_paneTold_69 ⟨hI144, hF151, by omega, by omega, by omega⟩
