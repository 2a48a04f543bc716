set_option maxRecDepth 100000 in
set_option maxHeartbeats 4000000 in
theorem zc_X10_takeLife (l : Launch) (E : zEN) (σ : zSto) (hI : zInv σ) (k0_ : Nat) (hk0_ : zro k0_ = 22) (k1_ : Nat) (hk1_ : zro k1_ = 22) : zCt l E yX10_takeLife cX10_takeLife 3 none 0 zNC zNC 0 0 σ [.ref (E.1 + k0_), .ref (E.1 + k1_)] (fun r σ' => zInv σ' ∧ zFE σ σ') := by
  refine zCt_of2 [some (.ref (E.1 + k0_)), some (.ref (E.1 + k1_)), none] (by decide +kernel) (Nat.le_of_ble_eq_true rfl) rfl ?_
  intro X hE hX hR hL hN
  subst hE
  have hX : zok X cX10_takeLife RX10 0 := hX
  have hF := zFE_rf σ
  refine zt_aload_n (pc' := 1) hX dX10_takeLife_0 rfl rfl ?_
  refine zt_aload_n (pc' := 2) hX dX10_takeLife_1 rfl rfl ?_
  have b1 := zv_22_5 hI hk1_
  refine zt_get (pc' := 5) (v := .int (zI (σ k1_ 5))) hX dX10_takeLife_2 rfl zf_X10_28 (zro_lt hk1_ (by decide)) hk1_ zs_22 rfl ?_
  refine zt_put (pc' := 8) (x := (σ k1_ 5)) hX dX10_takeLife_5 rfl zf_X10_28 (zro_lt hk0_ (by decide)) hk0_ zs_22 (fun q hq => by cases hq; rfl) rfl rfl rfl ?_
  generalize hs3 : zset σ k0_ 5 (σ k1_ 5) = s2
  have hI4 : zInv s2 := hs3 ▸ zp_22_5 hI hk0_ ⟨by omega, by omega⟩
  have hF5 : zFE σ s2 := hs3 ▸ zFE_set hF hk0_ (by decide) zke_22 (Or.inl (by decide)) (Or.inl (by decide))
  refine zt_aload_n (pc' := 9) hX dX10_takeLife_8 rfl rfl ?_
  refine zt_aload_n (pc' := 10) hX dX10_takeLife_9 rfl rfl ?_
  have b6 := zv_22_6 hI4 hk1_
  refine zt_get (pc' := 13) (v := .long (zJ (s2 k1_ 6))) hX dX10_takeLife_10 rfl zf_X10_31 (zro_lt hk1_ (by decide)) hk1_ zs_22 rfl ?_
  refine zt_put (pc' := 16) (x := (s2 k1_ 6)) hX dX10_takeLife_13 rfl zf_X10_31 (zro_lt hk0_ (by decide)) hk0_ zs_22 (fun q hq => by cases hq; rfl) rfl rfl rfl ?_
  generalize hs8 : zset s2 k0_ 6 (s2 k1_ 6) = s7
  have hI9 : zInv s7 := hs8 ▸ zp_22_6 hI4 hk0_ ⟨by omega, by omega⟩
  have hF10 : zFE σ s7 := hs8 ▸ zFE_set hF5 hk0_ (by decide) zke_22 (Or.inl (by decide)) (Or.inl (by decide))
  refine zt_aload_n (pc' := 17) hX dX10_takeLife_16 rfl rfl ?_
  refine zt_aload_n (pc' := 18) hX dX10_takeLife_17 rfl rfl ?_
  have b11 := zv_22_7 hI9 hk1_
  refine zt_get (pc' := 21) (v := .int (zI (s7 k1_ 7))) hX dX10_takeLife_18 rfl zf_X10_35 (zro_lt hk1_ (by decide)) hk1_ zs_22 rfl ?_
  refine zt_put (pc' := 24) (x := (s7 k1_ 7)) hX dX10_takeLife_21 rfl zf_X10_35 (zro_lt hk0_ (by decide)) hk0_ zs_22 (fun q hq => by cases hq; rfl) rfl rfl rfl ?_
  generalize hs13 : zset s7 k0_ 7 (s7 k1_ 7) = s12
  have hI14 : zInv s12 := hs13 ▸ zp_22_7 hI9 hk0_ ⟨by omega, by omega⟩
  have hF15 : zFE σ s12 := hs13 ▸ zFE_set hF10 hk0_ (by decide) zke_22 (Or.inl (by decide)) (Or.inl (by decide))
  refine zt_iconst (pc' := 25) hX dX10_takeLife_24 rfl ?_
  refine zt_istore_n (pc' := 26) (lv' := [some (.ref (X.1.1 + k0_)), some (.ref (X.1.1 + k1_)), some (.int (zI 0))]) hX dX10_takeLife_25 rfl hL (by decide) rfl ?_
  have L_26_21 : ∀ (N : Nat) (x16 : Int) (s19 : zSto), 0 ≤ x16 → x16 ≤ 10 → zInv s19 → zFE σ s19 → ((11 - x16).toNat) < N → zF X s19 26 [some (.ref (X.1.1 + k0_)), some (.ref (X.1.1 + k1_)), some (.int (zI x16))] [] := by
    intro N
    induction N with
    | zero =>
      intro x16 s19 h17 h18 hI20 hF21 hm23
      exact absurd hm23 (Nat.not_lt_zero _)
    | succ N ih24 =>
      intro x16 s19 h17 h18 hI20 hF21 hm23
      refine zt_iload_n (pc' := 27) hX dX10_takeLife_26 rfl rfl ?_
      refine zt_bipush (pc' := 29) hX dX10_takeLife_27 rfl (by decide) (by decide) ?_
      refine zt_icge (pc' := 32) (tgt := 74) hX dX10_takeLife_29 rfl (by decide) ⟨by omega, by omega⟩ ⟨by omega, by omega⟩ (fun c25 => ?_) (fun c25 => ?_)
      · exact zt_vret hX hR dX10_takeLife_74 ⟨hI20, hF21⟩
      · refine zt_aload_n (pc' := 33) hX dX10_takeLife_32 rfl rfl ?_
        refine zt_get (pc' := 36) (v := .ref (X.1.1 + (k0_ + 1))) hX dX10_takeLife_33 rfl zf_X10_9 (zro_lt hk0_ (by decide)) hk0_ zs_22 (zrf_of (zv_22_0 hI20 hk0_)) ?_
        refine zt_iload_n (pc' := 37) hX dX10_takeLife_36 rfl rfl ?_
        refine zt_aload_n (pc' := 38) hX dX10_takeLife_37 rfl rfl ?_
        refine zt_get (pc' := 41) (v := .ref (X.1.1 + (k1_ + 1))) hX dX10_takeLife_38 rfl zf_X10_9 (zro_lt hk1_ (by decide)) hk1_ zs_22 (zrf_of (zv_22_0 hI20 hk1_)) ?_
        refine zt_iload_n (pc' := 42) hX dX10_takeLife_41 rfl rfl ?_
        refine zt_iald (pc' := 43) hX dX10_takeLife_42 rfl (zro_lt (zo_22_0 hk1_) (by decide)) (zo_22_0 hk1_) zs_23 (by decide) ⟨by omega, by omega⟩ ?_
        generalize hv26 : s19 (k1_ + 1) (x16.toNat) = v26
        have bv26 : -1 ≤ v26 ∧ v26 ≤ 255 := hv26 ▸ zv_23 hI20 (zo_22_0 hk1_) _
        refine zt_iast (pc' := 44) hX dX10_takeLife_43 rfl (zro_lt (zo_22_0 hk0_) (by decide)) (zo_22_0 hk0_) zs_23 (by decide) ⟨by omega, by omega⟩ ?_
        generalize hs28 : zset s19 (k0_ + 1) (x16.toNat) v26 = s27
        have hI29 : zInv s27 := hs28 ▸ zp_23 hI20 (zo_22_0 hk0_) (x16.toNat) ⟨by omega, by omega⟩
        have hF30 : zFE σ s27 := hs28 ▸ zFE_set hF21 (zo_22_0 hk0_) (by decide) zke_23 (Or.inl (by decide)) (Or.inl (by decide))
        refine zt_aload_n (pc' := 45) hX dX10_takeLife_44 rfl rfl ?_
        refine zt_get (pc' := 48) (v := .ref (X.1.1 + (k0_ + 2))) hX dX10_takeLife_45 rfl zf_X10_15 (zro_lt hk0_ (by decide)) hk0_ zs_22 (zrf_of (zv_22_1 hI29 hk0_)) ?_
        refine zt_iload_n (pc' := 49) hX dX10_takeLife_48 rfl rfl ?_
        refine zt_aload_n (pc' := 50) hX dX10_takeLife_49 rfl rfl ?_
        refine zt_get (pc' := 53) (v := .ref (X.1.1 + (k1_ + 2))) hX dX10_takeLife_50 rfl zf_X10_15 (zro_lt hk1_ (by decide)) hk1_ zs_22 (zrf_of (zv_22_1 hI29 hk1_)) ?_
        refine zt_iload_n (pc' := 54) hX dX10_takeLife_53 rfl rfl ?_
        refine zt_iald (pc' := 55) hX dX10_takeLife_54 rfl (zro_lt (zo_22_1 hk1_) (by decide)) (zo_22_1 hk1_) zs_24 (by decide) ⟨by omega, by omega⟩ ?_
        generalize hv31 : s27 (k1_ + 2) (x16.toNat) = v31
        have bv31 : -1 ≤ v31 ∧ v31 ≤ 255 := hv31 ▸ zv_24 hI29 (zo_22_1 hk1_) _
        refine zt_iast (pc' := 56) hX dX10_takeLife_55 rfl (zro_lt (zo_22_1 hk0_) (by decide)) (zo_22_1 hk0_) zs_24 (by decide) ⟨by omega, by omega⟩ ?_
        generalize hs33 : zset s27 (k0_ + 2) (x16.toNat) v31 = s32
        have hI34 : zInv s32 := hs33 ▸ zp_24 hI29 (zo_22_1 hk0_) (x16.toNat) ⟨by omega, by omega⟩
        have hF35 : zFE σ s32 := hs33 ▸ zFE_set hF30 (zo_22_1 hk0_) (by decide) zke_24 (Or.inl (by decide)) (Or.inl (by decide))
        refine zt_aload_n (pc' := 57) hX dX10_takeLife_56 rfl rfl ?_
        refine zt_get (pc' := 60) (v := .ref (X.1.1 + (k0_ + 3))) hX dX10_takeLife_57 rfl zf_X10_18 (zro_lt hk0_ (by decide)) hk0_ zs_22 (zrf_of (zv_22_2 hI34 hk0_)) ?_
        refine zt_iload_n (pc' := 61) hX dX10_takeLife_60 rfl rfl ?_
        refine zt_aload_n (pc' := 62) hX dX10_takeLife_61 rfl rfl ?_
        refine zt_get (pc' := 65) (v := .ref (X.1.1 + (k1_ + 3))) hX dX10_takeLife_62 rfl zf_X10_18 (zro_lt hk1_ (by decide)) hk1_ zs_22 (zrf_of (zv_22_2 hI34 hk1_)) ?_
        refine zt_iload_n (pc' := 66) hX dX10_takeLife_65 rfl rfl ?_
        refine zt_iald (pc' := 67) hX dX10_takeLife_66 rfl (zro_lt (zo_22_2 hk1_) (by decide)) (zo_22_2 hk1_) zs_25 (by decide) ⟨by omega, by omega⟩ ?_
        generalize hv36 : s32 (k1_ + 3) (x16.toNat) = v36
        have bv36 : -1 ≤ v36 ∧ v36 ≤ 255 := hv36 ▸ zv_25 hI34 (zo_22_2 hk1_) _
        refine zt_iast (pc' := 68) hX dX10_takeLife_67 rfl (zro_lt (zo_22_2 hk0_) (by decide)) (zo_22_2 hk0_) zs_25 (by decide) ⟨by omega, by omega⟩ ?_
        generalize hs38 : zset s32 (k0_ + 3) (x16.toNat) v36 = s37
        have hI39 : zInv s37 := hs38 ▸ zp_25 hI34 (zo_22_2 hk0_) (x16.toNat) ⟨by omega, by omega⟩
        have hF40 : zFE σ s37 := hs38 ▸ zFE_set hF35 (zo_22_2 hk0_) (by decide) zke_25 (Or.inl (by decide)) (Or.inl (by decide))
        refine zt_iinc (pc' := 71) (lv' := [some (.ref (X.1.1 + k0_)), some (.ref (X.1.1 + k1_)), some (.int (zI (x16 + 1)))]) hX dX10_takeLife_68 rfl rfl hL (by decide) rfl ?_
        refine zt_goto (tgt := 26) hX dX10_takeLife_71 (by decide) ?_
        exact ih24 (x16 + 1) s37 (by omega) (by omega) hI39 (by omega) (by omega)
  exact L_26_21 _ 0 s12 (by omega) (by omega) hI14 (by omega) (Nat.lt_succ_self _)

set_option maxRecDepth 100000 in
set_option maxHeartbeats 4000000 in
theorem zc_X10_takeAll (l : Launch) (E : zEN) (σ : zSto) (hI : zInv σ) (k0_ : Nat) (hk0_ : zro k0_ = 22) (k1_ : Nat) (hk1_ : zro k1_ = 22) : zCt l E yX10_takeAll cX10_takeAll 2 none 1 zNC zNC 0 0 σ [.ref (E.1 + k0_), .ref (E.1 + k1_)] (fun r σ' => zInv σ' ∧ zFE σ σ') := by
  refine zCt_of2 [some (.ref (E.1 + k0_)), some (.ref (E.1 + k1_))] (by decide +kernel) (Nat.le_of_ble_eq_true rfl) rfl ?_
  intro X hE hX hR hL hN
  subst hE
  have hX : zok X cX10_takeAll RX10 1 := hX
  have hF := zFE_rf σ
  refine zt_aload_n (pc' := 1) hX dX10_takeAll_0 rfl rfl ?_
  refine zt_aload_n (pc' := 2) hX dX10_takeAll_1 rfl rfl ?_
  refine zt_cVv (pc' := 5) hX dX10_takeAll_2 rfl zm_yX10_takeLife zw_60_14 hk0_ (by decide) zs_22 (q := (RX10, TX10, 8)) rfl rfl (zc_X10_takeLife _ _ σ hI k0_ hk0_ k1_ hk1_) rfl rfl (Nat.le_of_ble_eq_true rfl) (by decide) (fun r1 s2 hr3 hp4 => ?_)
  obtain ⟨hI5, hF6⟩ := hp4
  have hF7 := zFE_tr hF hF6
  refine zt_aload_n (pc' := 6) hX dX10_takeAll_5 rfl rfl ?_
  refine zt_aload_n (pc' := 7) hX dX10_takeAll_6 rfl rfl ?_
  have b8 := zv_22_4 hI5 hk1_
  refine zt_get (pc' := 10) (v := .int (zI (s2 k1_ 4))) hX dX10_takeAll_7 rfl zf_X10_24 (zro_lt hk1_ (by decide)) hk1_ zs_22 rfl ?_
  refine zt_put (pc' := 13) (x := (s2 k1_ 4)) hX dX10_takeAll_10 rfl zf_X10_24 (zro_lt hk0_ (by decide)) hk0_ zs_22 (fun q hq => by cases hq; rfl) rfl rfl rfl ?_
  generalize hs10 : zset s2 k0_ 4 (s2 k1_ 4) = s9
  have hI11 : zInv s9 := hs10 ▸ zp_22_4 hI5 hk0_ ⟨by omega, by omega⟩
  have hF12 : zFE σ s9 := hs10 ▸ zFE_set hF7 hk0_ (by decide) zke_22 (Or.inl (by decide)) (Or.inl (by decide))
  refine zt_aload_n (pc' := 14) hX dX10_takeAll_13 rfl rfl ?_
  refine zt_get (pc' := 17) (v := .ref (X.1.1 + (k1_ + 4))) hX dX10_takeAll_14 rfl zf_X10_21 (zro_lt hk1_ (by decide)) hk1_ zs_22 (zrf_of (zv_22_3 hI11 hk1_)) ?_
  refine zt_iconst (pc' := 18) hX dX10_takeAll_17 rfl ?_
  refine zt_aload_n (pc' := 19) hX dX10_takeAll_18 rfl rfl ?_
  refine zt_get (pc' := 22) (v := .ref (X.1.1 + (k0_ + 4))) hX dX10_takeAll_19 rfl zf_X10_21 (zro_lt hk0_ (by decide)) hk0_ zs_22 (zrf_of (zv_22_3 hI11 hk0_)) ?_
  refine zt_iconst (pc' := 23) hX dX10_takeAll_22 rfl ?_
  refine zt_bipush (pc' := 25) hX dX10_takeAll_23 rfl (by decide) (by decide) ?_
  refine zt_copy (pc' := 28) hX (by decide) dX10_takeAll_25 rfl zw_60_10 zw_60_11 zw_60_12 zw_60_13 (Nat.le_of_ble_eq_true rfl) (zro_lt (zo_22_3 hk1_) (by decide)) (zo_22_3 hk1_) (zro_lt (zo_22_3 hk0_) (by decide)) (zo_22_3 hk0_) zs_26 (by decide) ⟨by omega, by omega, by omega⟩ ⟨by omega, by omega⟩ (fun s13 hc14 => ?_)
  have hI15 : zInv s13 := zcp_inv hc14 hI11 (zo_22_3 hk1_) (zo_22_3 hk0_) (fun j v h _ => h)
  have hF16 : zFE σ s13 := zcp_FE hc14 hF12 (zo_22_3 hk0_) (by decide) zke_26 (by decide)
  exact zt_vret hX hR dX10_takeAll_28 ⟨hI15, hF16⟩

set_option maxRecDepth 100000 in
set_option maxHeartbeats 4000000 in
theorem zc_X10_keepOne (l : Launch) (E : zEN) (σ : zSto) (hI : zInv σ) (k0_ : Nat) (hk0_ : zro k0_ = 22) (a1_ : Int) (ha1_ : -2147483648 ≤ a1_ ∧ a1_ ≤ 2147483647) : zCt l E yX10_keepOne cX10_keepOne 2 none 1 zNC zNC 0 0 σ [.ref (E.1 + k0_), .int (zI a1_)] (fun r σ' => zInv σ' ∧ zFE σ σ') := by
  refine zCt_of2 [some (.ref (E.1 + k0_)), some (.int (zI a1_))] (by decide +kernel) (Nat.le_of_ble_eq_true rfl) rfl ?_
  intro X hE hX hR hL hN
  subst hE
  have hX : zok X cX10_keepOne RX10 1 := hX
  have hF := zFE_rf σ
  refine zt_aload_n (pc' := 1) hX dX10_keepOne_0 rfl rfl ?_
  have b1 := zv_22_4 hI hk0_
  refine zt_get (pc' := 4) (v := .int (zI (σ k0_ 4))) hX dX10_keepOne_1 rfl zf_X10_24 (zro_lt hk0_ (by decide)) hk0_ zs_22 rfl ?_
  refine zt_bipush (pc' := 6) hX dX10_keepOne_4 rfl (by decide) (by decide) ?_
  refine zt_icge (pc' := 9) (tgt := 32) hX dX10_keepOne_6 rfl (by decide) ⟨by omega, by omega⟩ ⟨by omega, by omega⟩ (fun c2 => ?_) (fun c2 => ?_)
  · refine zt_aload_n (pc' := 33) hX dX10_keepOne_32 rfl rfl ?_
    refine zt_get (pc' := 36) (v := .ref (X.1.1 + (k0_ + 4))) hX dX10_keepOne_33 rfl zf_X10_21 (zro_lt hk0_ (by decide)) hk0_ zs_22 (zrf_of (zv_22_3 hI hk0_)) ?_
    refine zt_iconst (pc' := 37) hX dX10_keepOne_36 rfl ?_
    refine zt_aload_n (pc' := 38) hX dX10_keepOne_37 rfl rfl ?_
    refine zt_get (pc' := 41) (v := .ref (X.1.1 + (k0_ + 4))) hX dX10_keepOne_38 rfl zf_X10_21 (zro_lt hk0_ (by decide)) hk0_ zs_22 (zrf_of (zv_22_3 hI hk0_)) ?_
    refine zt_iconst (pc' := 42) hX dX10_keepOne_41 rfl ?_
    refine zt_bipush (pc' := 44) hX dX10_keepOne_42 rfl (by decide) (by decide) ?_
    refine zt_copy (pc' := 47) hX (by decide) dX10_keepOne_44 rfl zw_60_10 zw_60_11 zw_60_12 zw_60_13 (Nat.le_of_ble_eq_true rfl) (zro_lt (zo_22_3 hk0_) (by decide)) (zo_22_3 hk0_) (zro_lt (zo_22_3 hk0_) (by decide)) (zo_22_3 hk0_) zs_26 (by decide) ⟨by omega, by omega, by omega⟩ ⟨by omega, by omega⟩ (fun s3 hc4 => ?_)
    have hI5 : zInv s3 := zcp_inv hc4 hI (zo_22_3 hk0_) (zo_22_3 hk0_) (fun j v h _ => h)
    have hF6 : zFE σ s3 := zcp_FE hc4 hF (zo_22_3 hk0_) (by decide) zke_26 (by decide)
    refine zt_aload_n (pc' := 48) hX dX10_keepOne_47 rfl rfl ?_
    refine zt_get (pc' := 51) (v := .ref (X.1.1 + (k0_ + 4))) hX dX10_keepOne_48 rfl zf_X10_21 (zro_lt hk0_ (by decide)) hk0_ zs_22 (zrf_of (zv_22_3 hI5 hk0_)) ?_
    refine zt_bipush (pc' := 53) hX dX10_keepOne_51 rfl (by decide) (by decide) ?_
    refine zt_iload_n (pc' := 54) hX dX10_keepOne_53 rfl rfl ?_
    refine zt_iast (pc' := 55) hX dX10_keepOne_54 rfl (zro_lt (zo_22_3 hk0_) (by decide)) (zo_22_3 hk0_) zs_26 (by decide) ⟨by omega, by omega⟩ ?_
    rw [show Int.toNat 39 = 39 from rfl]
    generalize hs8 : zset s3 (k0_ + 4) 39 a1_ = s7
    have hI9 : zInv s7 := hs8 ▸ zp_26 hI5 (zo_22_3 hk0_) 39 ⟨by omega, by omega⟩
    have hF10 : zFE σ s7 := hs8 ▸ zFE_set hF6 (zo_22_3 hk0_) (by decide) zke_26 (Or.inl (by decide)) (Or.inl (by decide))
    exact zt_vret hX hR dX10_keepOne_55 ⟨hI9, hF10⟩
  · refine zt_aload_n (pc' := 10) hX dX10_keepOne_9 rfl rfl ?_
    refine zt_get (pc' := 13) (v := .ref (X.1.1 + (k0_ + 4))) hX dX10_keepOne_10 rfl zf_X10_21 (zro_lt hk0_ (by decide)) hk0_ zs_22 (zrf_of (zv_22_3 hI hk0_)) ?_
    refine zt_aload_n (pc' := 14) hX dX10_keepOne_13 rfl rfl ?_
    refine zt_get (pc' := 17) (v := .int (zI (σ k0_ 4))) hX dX10_keepOne_14 rfl zf_X10_24 (zro_lt hk0_ (by decide)) hk0_ zs_22 rfl ?_
    refine zt_iload_n (pc' := 18) hX dX10_keepOne_17 rfl rfl ?_
    refine zt_iast (pc' := 19) hX dX10_keepOne_18 rfl (zro_lt (zo_22_3 hk0_) (by decide)) (zo_22_3 hk0_) zs_26 (by decide) ⟨by omega, by omega⟩ ?_
    generalize hs12 : zset σ (k0_ + 4) ((σ k0_ 4).toNat) a1_ = s11
    have hI13 : zInv s11 := hs12 ▸ zp_26 hI (zo_22_3 hk0_) ((σ k0_ 4).toNat) ⟨by omega, by omega⟩
    have hF14 : zFE σ s11 := hs12 ▸ zFE_set hF (zo_22_3 hk0_) (by decide) zke_26 (Or.inl (by decide)) (Or.inl (by decide))
    refine zt_aload_n (pc' := 20) hX dX10_keepOne_19 rfl rfl ?_
    refine zt_dup (pc' := 21) hX dX10_keepOne_20 rfl rfl ?_
    have b15 := zv_22_4 hI13 hk0_
    have e16 : s11 k0_ 4 = σ k0_ 4 := by rw [← hs12]; exact zset_k (zne_r hk0_ (zo_22_3 hk0_) (by decide))
    refine zt_get (pc' := 24) (v := .int (zI (s11 k0_ 4))) hX dX10_keepOne_21 rfl zf_X10_24 (zro_lt hk0_ (by decide)) hk0_ zs_22 rfl ?_
    refine zt_iconst (pc' := 25) hX dX10_keepOne_24 rfl ?_
    refine zt_iadd (pc' := 26) hX dX10_keepOne_25 rfl ?_
    refine zt_put (pc' := 29) (x := ((s11 k0_ 4) + 1)) hX dX10_keepOne_26 rfl zf_X10_24 (zro_lt hk0_ (by decide)) hk0_ zs_22 (fun q hq => by cases hq; rfl) rfl rfl rfl ?_
    generalize hs18 : zset s11 k0_ 4 ((s11 k0_ 4) + 1) = s17
    have hI19 : zInv s17 := hs18 ▸ zp_22_4 hI13 hk0_ ⟨by omega, by omega⟩
    have hF20 : zFE σ s17 := hs18 ▸ zFE_set hF14 hk0_ (by decide) zke_22 (Or.inl (by decide)) (Or.inl (by decide))
    refine zt_goto (tgt := 55) hX dX10_keepOne_29 (by decide) ?_
    exact zt_vret hX hR dX10_keepOne_55 ⟨hI19, hF20⟩

set_option maxRecDepth 100000 in
set_option maxHeartbeats 4000000 in
theorem zc_X10_keep (l : Launch) (E : zEN) (σ : zSto) (hI : zInv σ) (k0_ : Nat) (hk0_ : zro k0_ = 22) (k1_ : Nat) (hk1_ : zro k1_ = 8) (a2_ : Int) (ha2_ : -2147483648 ≤ a2_ ∧ a2_ ≤ 2147483647) (a3_ : Int) (ha3_ : -9223372036854775808 ≤ a3_ ∧ a3_ ≤ 9223372036854775807) : zCt l E yX10_keep cX10_keep 7 none 2 zNC zNC 0 0 σ [.ref (E.1 + k0_), .ref (E.1 + k1_), .int (zI a2_), .long (zJ a3_)] (fun r σ' => zInv σ' ∧ zFE σ σ') := by
  refine zCt_of2 [some (.ref (E.1 + k0_)), some (.ref (E.1 + k1_)), some (.int (zI a2_)), some (.long (zJ a3_)), none, none, none] (by decide +kernel) (Nat.le_of_ble_eq_true rfl) rfl ?_
  intro X hE hX hR hL hN
  subst hE
  have hX : zok X cX10_keep RX10 2 := hX
  have hF := zFE_rf σ
  refine zt_iconst (pc' := 1) hX dX10_keep_0 rfl ?_
  refine zt_istore (pc' := 3) (lv' := [some (.ref (X.1.1 + k0_)), some (.ref (X.1.1 + k1_)), some (.int (zI a2_)), some (.long (zJ a3_)), none, some (.int (zI 0)), none]) hX dX10_keep_1 rfl hL (by decide) rfl ?_
  have L_3_6 : ∀ (N : Nat) (x1 : Int) (s4 : zSto), 0 ≤ x1 → x1 ≤ 6 → zInv s4 → zFE σ s4 → ((7 - x1).toNat) < N → zF X s4 3 [some (.ref (X.1.1 + k0_)), some (.ref (X.1.1 + k1_)), some (.int (zI a2_)), some (.long (zJ a3_)), none, some (.int (zI x1)), none] [] := by
    intro N
    induction N with
    | zero =>
      intro x1 s4 h2 h3 hI5 hF6 hm8
      exact absurd hm8 (Nat.not_lt_zero _)
    | succ N ih9 =>
      intro x1 s4 h2 h3 hI5 hF6 hm8
      refine zt_iload (pc' := 5) hX dX10_keep_3 rfl rfl ?_
      refine zt_aload_n (pc' := 6) hX dX10_keep_5 rfl rfl ?_
      have b10 := zv_8_11 hI5 hk1_
      refine zt_get (pc' := 9) (v := .int (zI (s4 k1_ 11))) hX dX10_keep_6 rfl zf_X10_69 (zro_lt hk1_ (by decide)) hk1_ zs_8 rfl ?_
      refine zt_icge (pc' := 12) (tgt := 69) hX dX10_keep_9 rfl (by decide) ⟨by omega, by omega⟩ ⟨by omega, by omega⟩ (fun c11 => ?_) (fun c11 => ?_)
      · exact zt_vret hX hR dX10_keep_69 ⟨hI5, hF6⟩
      · refine zt_iconst (pc' := 13) hX dX10_keep_12 rfl ?_
        refine zt_istore (pc' := 15) (lv' := [some (.ref (X.1.1 + k0_)), some (.ref (X.1.1 + k1_)), some (.int (zI a2_)), some (.long (zJ a3_)), none, some (.int (zI x1)), some (.int (zI 0))]) hX dX10_keep_13 rfl hL (by decide) rfl ?_
        have L_15_17 : ∀ (N : Nat) (x12 : Int) (s15 : zSto), 0 ≤ x12 → x12 ≤ 6 → zInv s15 → zFE σ s15 → ((7 - x12).toNat) < N → zF X s15 15 [some (.ref (X.1.1 + k0_)), some (.ref (X.1.1 + k1_)), some (.int (zI a2_)), some (.long (zJ a3_)), none, some (.int (zI x1)), some (.int (zI x12))] [] := by
          intro N
          induction N with
          | zero =>
            intro x12 s15 h13 h14 hI16 hF17 hm19
            exact absurd hm19 (Nat.not_lt_zero _)
          | succ N ih20 =>
            intro x12 s15 h13 h14 hI16 hF17 hm19
            refine zt_iload (pc' := 17) hX dX10_keep_15 rfl rfl ?_
            refine zt_aload_n (pc' := 18) hX dX10_keep_17 rfl rfl ?_
            have b21 := zv_8_10 hI16 hk1_
            refine zt_get (pc' := 21) (v := .int (zI (s15 k1_ 10))) hX dX10_keep_18 rfl zf_X10_72 (zro_lt hk1_ (by decide)) hk1_ zs_8 rfl ?_
            refine zt_icge (pc' := 24) (tgt := 63) hX dX10_keep_21 rfl (by decide) ⟨by omega, by omega⟩ ⟨by omega, by omega⟩ (fun c22 => ?_) (fun c22 => ?_)
            · refine zt_iinc (pc' := 66) (lv' := [some (.ref (X.1.1 + k0_)), some (.ref (X.1.1 + k1_)), some (.int (zI a2_)), some (.long (zJ a3_)), none, some (.int (zI (x1 + 1))), some (.int (zI x12))]) hX dX10_keep_63 rfl rfl hL (by decide) rfl ?_
              refine zt_goto (tgt := 3) hX dX10_keep_66 (by decide) ?_
              refine zt_mask [true, true, true, true, false, true, false] rfl ?_
              exact ih9 (x1 + 1) s15 (by omega) (by omega) hI16 (by omega) (by omega)
            · refine zt_lload_n (pc' := 25) hX dX10_keep_24 rfl rfl ?_
              refine zt_aload_n (pc' := 26) hX dX10_keep_25 rfl rfl ?_
              refine zt_iload (pc' := 28) hX dX10_keep_26 rfl rfl ?_
              refine zt_iload (pc' := 30) hX dX10_keep_28 rfl rfl ?_
              refine zt_cVi (pc' := 33) hX dX10_keep_30 rfl zm_yX3_cellAt zw_44_6 hk1_ (by decide) zs_8 (q := (RX3, TX3, 17)) rfl rfl (zc_X3_cellAt _ _ s15 hI16 k1_ hk1_ x12 ⟨by omega, by omega⟩ x1 ⟨by omega, by omega⟩) rfl rfl (Nat.le_of_ble_eq_true rfl) (by decide) (fun r23 s24 hr25 hp26 => ?_)
              obtain ⟨rfl, q27, q28, z29⟩ := hp26
              refine zt_lshr (pc' := 34) hX dX10_keep_33 rfl (fun r30 zr30 lr30 ur30 => ?_)
              clear zr30
              refine zt_lconst (pc' := 35) (y := 1) hX dX10_keep_34 rfl (by decide +kernel) ?_
              refine zt_land (pc' := 36) hX dX10_keep_35 rfl (fun r31 zr31 lr31 ur31 => ?_)
              clear zr31
              refine zt_lconst (pc' := 37) (y := 0) hX dX10_keep_36 rfl (by decide +kernel) ?_
              refine zt_lcmp (pc' := 38) hX dX10_keep_37 rfl ⟨by omega, by omega⟩ ⟨by omega, by omega⟩ (fun r32 er32 => ?_)
              have J_57_35 : ∀ (s33 : zSto), zInv s33 → zFE σ s33 → zF X s33 57 [some (.ref (X.1.1 + k0_)), some (.ref (X.1.1 + k1_)), some (.int (zI a2_)), some (.long (zJ a3_)), none, some (.int (zI x1)), some (.int (zI x12))] [] := by
                intro s33 hI34 hF35
                refine zt_iinc (pc' := 60) (lv' := [some (.ref (X.1.1 + k0_)), some (.ref (X.1.1 + k1_)), some (.int (zI a2_)), some (.long (zJ a3_)), none, some (.int (zI x1)), some (.int (zI (x12 + 1)))]) hX dX10_keep_57 rfl rfl hL (by decide) rfl ?_
                refine zt_goto (tgt := 15) hX dX10_keep_60 (by decide) ?_
                exact ih20 (x12 + 1) s33 (by omega) (by omega) hI34 (by omega) (by omega)
              refine zt_ifeq (pc' := 41) (tgt := 57) hX dX10_keep_38 rfl (by decide) ⟨by omega, by omega⟩ (fun c37 => ?_) (fun c37 => ?_)
              · exact J_57_35 s15 hI16 (by omega)
              · refine zt_aload_n (pc' := 42) hX dX10_keep_41 rfl rfl ?_
                refine zt_iload_n (pc' := 43) hX dX10_keep_42 rfl rfl ?_
                refine zt_bipush (pc' := 45) hX dX10_keep_43 rfl (by decide) (by decide) ?_
                refine zt_ishl (pc' := 46) hX dX10_keep_45 rfl (fun r38 zr38 lr38 ur38 => ?_)
                clear zr38
                refine zt_iload (pc' := 48) hX dX10_keep_46 rfl rfl ?_
                refine zt_iconst (pc' := 49) hX dX10_keep_48 rfl ?_
                refine zt_ishl (pc' := 50) hX dX10_keep_49 rfl (fun r39 zr39 lr39 ur39 => ?_)
                clear zr39
                refine zt_ior (pc' := 51) hX dX10_keep_50 rfl (fun r40 zr40 lr40 ur40 => ?_)
                clear zr40
                refine zt_iload (pc' := 53) hX dX10_keep_51 rfl rfl ?_
                refine zt_ior (pc' := 54) hX dX10_keep_53 rfl (fun r41 zr41 lr41 ur41 => ?_)
                clear zr41
                refine zt_cVv (pc' := 57) hX dX10_keep_54 rfl zm_yX10_keepOne zw_62_6 hk0_ (by decide) zs_22 (q := (RX10, TX10, 8)) rfl rfl (zc_X10_keepOne _ _ s15 hI16 k0_ hk0_ r41 ⟨by omega, by omega⟩) rfl rfl (Nat.le_of_ble_eq_true rfl) (by decide) (fun r42 s43 hr44 hp45 => ?_)
                obtain ⟨hI46, hF47⟩ := hp45
                have hF48 := zFE_tr hF17 hF47
                exact J_57_35 s43 hI46 (by omega)
        exact L_15_17 _ 0 s4 (by omega) (by omega) hI5 (by omega) (Nat.lt_succ_self _)
  exact L_3_6 _ 0 σ (by omega) (by omega) hI (by omega) (Nat.lt_succ_self _)

set_option maxRecDepth 100000 in
set_option maxHeartbeats 4000000 in
theorem zc_X10_readPerson (l : Launch) (E : zEN) (σ : zSto) (hI : zInv σ) (k0_ : Nat) (hk0_ : zro k0_ = 22) (k1_ : Nat) (hk1_ : zro k1_ = 8) (a3_ : Int) (ha3_ : 0 ≤ a3_ ∧ a3_ ≤ 9) (a4_ : Int) (ha4_ : 0 ≤ a4_ ∧ a4_ ≤ 100) : zCt l E yX10_readPerson cX10_readPerson 7 (some .boolean) 2 zNC zNC 0 0 σ [.ref (E.1 + k0_), .ref (E.1 + k1_), .ref (E.1 + 1), .int (zI a3_), .int (zI a4_)] (fun r σ' => zInv σ' ∧ zFE σ σ' ∧ 0 ≤ r ∧ r ≤ 1) := by
  refine zCt_of2 [some (.ref (E.1 + k0_)), some (.ref (E.1 + k1_)), some (.ref (E.1 + 1)), some (.int (zI a3_)), some (.int (zI a4_)), none, none] (by decide +kernel) (Nat.le_of_ble_eq_true rfl) rfl ?_
  intro X hE hX hR hL hN
  subst hE
  have hX : zok X cX10_readPerson RX10 2 := hX
  have hF := zFE_rf σ
  refine zt_aload_n (pc' := 1) hX dX10_readPerson_0 rfl rfl ?_
  refine zt_get (pc' := 4) (v := .ref (X.1.1 + (k0_ + 1))) hX dX10_readPerson_1 rfl zf_X10_9 (zro_lt hk0_ (by decide)) hk0_ zs_22 (zrf_of (zv_22_0 hI hk0_)) ?_
  refine zt_iload_n (pc' := 5) hX dX10_readPerson_4 rfl rfl ?_
  refine zt_aload_n (pc' := 6) hX dX10_readPerson_5 rfl rfl ?_
  refine zt_iload (pc' := 8) hX dX10_readPerson_6 rfl rfl ?_
  refine zt_cVi (pc' := 11) hX dX10_readPerson_8 rfl zm_yX9_byteAt zw_69_2 zc_1 (by decide) zs_2 (q := (RX9, TX9, 2)) rfl rfl (zc_X9_byteAt_1 _ _ σ hI a4_ ⟨by omega, by omega⟩) rfl rfl (Nat.le_of_ble_eq_true rfl) (by decide) (fun r1 s2 hr3 hp4 => ?_)
  obtain ⟨rfl, q5, q6⟩ := hp4
  refine zt_iast (pc' := 12) hX dX10_readPerson_11 rfl (zro_lt (zo_22_0 hk0_) (by decide)) (zo_22_0 hk0_) zs_23 (by decide) ⟨by omega, by omega⟩ ?_
  generalize hs8 : zset σ (k0_ + 1) (a3_.toNat) r1 = s7
  have hI9 : zInv s7 := hs8 ▸ zp_23 hI (zo_22_0 hk0_) (a3_.toNat) ⟨by omega, by omega⟩
  have hF10 : zFE σ s7 := hs8 ▸ zFE_set hF (zo_22_0 hk0_) (by decide) zke_23 (Or.inl (by decide)) (Or.inl (by decide))
  refine zt_aload_n (pc' := 13) hX dX10_readPerson_12 rfl rfl ?_
  refine zt_get (pc' := 16) (v := .ref (X.1.1 + (k0_ + 2))) hX dX10_readPerson_13 rfl zf_X10_15 (zro_lt hk0_ (by decide)) hk0_ zs_22 (zrf_of (zv_22_1 hI9 hk0_)) ?_
  refine zt_iload_n (pc' := 17) hX dX10_readPerson_16 rfl rfl ?_
  refine zt_aload_n (pc' := 18) hX dX10_readPerson_17 rfl rfl ?_
  refine zt_iload (pc' := 20) hX dX10_readPerson_18 rfl rfl ?_
  refine zt_iconst (pc' := 21) hX dX10_readPerson_20 rfl ?_
  refine zt_iadd (pc' := 22) hX dX10_readPerson_21 rfl ?_
  refine zt_cVi (pc' := 25) hX dX10_readPerson_22 rfl zm_yX9_byteAt zw_69_2 zc_1 (by decide) zs_2 (q := (RX9, TX9, 2)) rfl rfl (zc_X9_byteAt_1 _ _ s7 hI9 (a4_ + 1) ⟨by omega, by omega⟩) rfl rfl (Nat.le_of_ble_eq_true rfl) (by decide) (fun r11 s12 hr13 hp14 => ?_)
  obtain ⟨rfl, q15, q16⟩ := hp14
  refine zt_iast (pc' := 26) hX dX10_readPerson_25 rfl (zro_lt (zo_22_1 hk0_) (by decide)) (zo_22_1 hk0_) zs_24 (by decide) ⟨by omega, by omega⟩ ?_
  generalize hs18 : zset s7 (k0_ + 2) (a3_.toNat) r11 = s17
  have hI19 : zInv s17 := hs18 ▸ zp_24 hI9 (zo_22_1 hk0_) (a3_.toNat) ⟨by omega, by omega⟩
  have hF20 : zFE σ s17 := hs18 ▸ zFE_set hF10 (zo_22_1 hk0_) (by decide) zke_24 (Or.inl (by decide)) (Or.inl (by decide))
  refine zt_aload_n (pc' := 27) hX dX10_readPerson_26 rfl rfl ?_
  refine zt_get (pc' := 30) (v := .ref (X.1.1 + (k0_ + 3))) hX dX10_readPerson_27 rfl zf_X10_18 (zro_lt hk0_ (by decide)) hk0_ zs_22 (zrf_of (zv_22_2 hI19 hk0_)) ?_
  refine zt_iload_n (pc' := 31) hX dX10_readPerson_30 rfl rfl ?_
  refine zt_aload_n (pc' := 32) hX dX10_readPerson_31 rfl rfl ?_
  refine zt_iload (pc' := 34) hX dX10_readPerson_32 rfl rfl ?_
  refine zt_iconst (pc' := 35) hX dX10_readPerson_34 rfl ?_
  refine zt_iadd (pc' := 36) hX dX10_readPerson_35 rfl ?_
  refine zt_cVi (pc' := 39) hX dX10_readPerson_36 rfl zm_yX9_byteAt zw_69_2 zc_1 (by decide) zs_2 (q := (RX9, TX9, 2)) rfl rfl (zc_X9_byteAt_1 _ _ s17 hI19 (a4_ + 2) ⟨by omega, by omega⟩) rfl rfl (Nat.le_of_ble_eq_true rfl) (by decide) (fun r21 s22 hr23 hp24 => ?_)
  obtain ⟨rfl, q25, q26⟩ := hp24
  refine zt_iast (pc' := 40) hX dX10_readPerson_39 rfl (zro_lt (zo_22_2 hk0_) (by decide)) (zo_22_2 hk0_) zs_25 (by decide) ⟨by omega, by omega⟩ ?_
  generalize hs28 : zset s17 (k0_ + 3) (a3_.toNat) r21 = s27
  have hI29 : zInv s27 := hs28 ▸ zp_25 hI19 (zo_22_2 hk0_) (a3_.toNat) ⟨by omega, by omega⟩
  have hF30 : zFE σ s27 := hs28 ▸ zFE_set hF20 (zo_22_2 hk0_) (by decide) zke_25 (Or.inl (by decide)) (Or.inl (by decide))
  refine zt_aload_n (pc' := 41) hX dX10_readPerson_40 rfl rfl ?_
  refine zt_iload (pc' := 43) hX dX10_readPerson_41 rfl rfl ?_
  refine zt_iconst (pc' := 44) hX dX10_readPerson_43 rfl ?_
  refine zt_iadd (pc' := 45) hX dX10_readPerson_44 rfl ?_
  refine zt_cVi (pc' := 48) hX dX10_readPerson_45 rfl zm_yX9_byteAt zw_69_2 zc_1 (by decide) zs_2 (q := (RX9, TX9, 2)) rfl rfl (zc_X9_byteAt_1 _ _ s27 hI29 (a4_ + 3) ⟨by omega, by omega⟩) rfl rfl (Nat.le_of_ble_eq_true rfl) (by decide) (fun r31 s32 hr33 hp34 => ?_)
  obtain ⟨rfl, q35, q36⟩ := hp34
  refine zt_istore (pc' := 50) (lv' := [some (.ref (X.1.1 + k0_)), some (.ref (X.1.1 + k1_)), some (.ref (X.1.1 + 1)), some (.int (zI a3_)), some (.int (zI a4_)), some (.int (zI r31)), none]) hX dX10_readPerson_48 rfl hL (by decide) rfl ?_
  refine zt_aload_n (pc' := 51) hX dX10_readPerson_50 rfl rfl ?_
  refine zt_dup (pc' := 52) hX dX10_readPerson_51 rfl rfl ?_
  have b37 := zv_22_7 hI29 hk0_
  have e38 : s27 k0_ 7 = s17 k0_ 7 := by rw [← hs28]; exact zset_k (zne_r hk0_ (zo_22_2 hk0_) (by decide))
  have e39 : s17 k0_ 7 = s7 k0_ 7 := by rw [← hs18]; exact zset_k (zne_r hk0_ (zo_22_1 hk0_) (by decide))
  have e40 : s7 k0_ 7 = σ k0_ 7 := by rw [← hs8]; exact zset_k (zne_r hk0_ (zo_22_0 hk0_) (by decide))
  refine zt_get (pc' := 55) (v := .int (zI (s27 k0_ 7))) hX dX10_readPerson_52 rfl zf_X10_35 (zro_lt hk0_ (by decide)) hk0_ zs_22 rfl ?_
  refine zt_iload (pc' := 57) hX dX10_readPerson_55 rfl rfl ?_
  refine zt_iconst (pc' := 58) hX dX10_readPerson_57 rfl ?_
  refine zt_iandm (pc' := 59) hX dX10_readPerson_58 rfl 1 (by decide +kernel) (by decide) (fun r41 er41 lr41 ur41 => ?_)
  have ur41 : r41 ≤ 1 := by omega
  refine zt_iload_n (pc' := 60) hX dX10_readPerson_59 rfl rfl ?_
  refine zt_ishl (pc' := 61) hX dX10_readPerson_60 rfl (fun r42 zr42 lr42 ur42 => ?_)
  clear zr42
  refine zt_ior (pc' := 62) hX dX10_readPerson_61 rfl (fun r43 zr43 lr43 ur43 => ?_)
  clear zr43
  refine zt_put (pc' := 65) (x := r43) hX dX10_readPerson_62 rfl zf_X10_35 (zro_lt hk0_ (by decide)) hk0_ zs_22 (fun q hq => by cases hq; rfl) rfl rfl rfl ?_
  generalize hs45 : zset s27 k0_ 7 r43 = s44
  have hI46 : zInv s44 := hs45 ▸ zp_22_7 hI29 hk0_ ⟨by omega, by omega⟩
  have hF47 : zFE σ s44 := hs45 ▸ zFE_set hF30 hk0_ (by decide) zke_22 (Or.inl (by decide)) (Or.inl (by decide))
  refine zt_iconst (pc' := 66) hX dX10_readPerson_65 rfl ?_
  refine zt_istore (pc' := 68) (lv' := [some (.ref (X.1.1 + k0_)), some (.ref (X.1.1 + k1_)), some (.ref (X.1.1 + 1)), some (.int (zI a3_)), some (.int (zI a4_)), some (.int (zI r31)), some (.int (zI 0))]) hX dX10_readPerson_66 rfl hL (by decide) rfl ?_
  have L_68_50 : ∀ (N : Nat) (x48 : Int), 0 ≤ x48 → x48 ≤ 9 → ((10 - x48).toNat) < N → zF X s44 68 [some (.ref (X.1.1 + k0_)), some (.ref (X.1.1 + k1_)), none, some (.int (zI a3_)), none, some (.int (zI r31)), some (.int (zI x48))] [] := by
    intro N
    induction N with
    | zero =>
      intro x48 h49 h50 hm52
      exact absurd hm52 (Nat.not_lt_zero _)
    | succ N ih53 =>
      intro x48 h49 h50 hm52
      refine zt_iload (pc' := 70) hX dX10_readPerson_68 rfl rfl ?_
      refine zt_iload_n (pc' := 71) hX dX10_readPerson_70 rfl rfl ?_
      refine zt_icge (pc' := 74) (tgt := 103) hX dX10_readPerson_71 rfl (by decide) ⟨by omega, by omega⟩ ⟨by omega, by omega⟩ (fun c54 => ?_) (fun c54 => ?_)
      · refine zt_aload_n (pc' := 104) hX dX10_readPerson_103 rfl rfl ?_
        refine zt_aload_n (pc' := 105) hX dX10_readPerson_104 rfl rfl ?_
        refine zt_get (pc' := 108) (v := .ref (X.1.1 + (k0_ + 1))) hX dX10_readPerson_105 rfl zf_X10_9 (zro_lt hk0_ (by decide)) hk0_ zs_22 (zrf_of (zv_22_0 hI46 hk0_)) ?_
        refine zt_iload_n (pc' := 109) hX dX10_readPerson_108 rfl rfl ?_
        refine zt_iald (pc' := 110) hX dX10_readPerson_109 rfl (zro_lt (zo_22_0 hk0_) (by decide)) (zo_22_0 hk0_) zs_23 (by decide) ⟨by omega, by omega⟩ ?_
        generalize hv55 : s44 (k0_ + 1) (a3_.toNat) = v55
        have bv55 : -1 ≤ v55 ∧ v55 ≤ 255 := hv55 ▸ zv_23 hI46 (zo_22_0 hk0_) _
        refine zt_aload_n (pc' := 111) hX dX10_readPerson_110 rfl rfl ?_
        refine zt_get (pc' := 114) (v := .ref (X.1.1 + (k0_ + 2))) hX dX10_readPerson_111 rfl zf_X10_15 (zro_lt hk0_ (by decide)) hk0_ zs_22 (zrf_of (zv_22_1 hI46 hk0_)) ?_
        refine zt_iload_n (pc' := 115) hX dX10_readPerson_114 rfl rfl ?_
        refine zt_iald (pc' := 116) hX dX10_readPerson_115 rfl (zro_lt (zo_22_1 hk0_) (by decide)) (zo_22_1 hk0_) zs_24 (by decide) ⟨by omega, by omega⟩ ?_
        generalize hv56 : s44 (k0_ + 2) (a3_.toNat) = v56
        have bv56 : -1 ≤ v56 ∧ v56 ≤ 255 := hv56 ▸ zv_24 hI46 (zo_22_1 hk0_) _
        refine zt_cVz (pc' := 119) hX dX10_readPerson_116 rfl zm_yX3_hasCell zw_69_10 hk1_ (by decide) zs_8 (q := (RX3, TX3, 17)) rfl rfl (zc_X3_hasCell _ _ s44 hI46 k1_ hk1_ v55 ⟨by omega, by omega⟩ v56 ⟨by omega, by omega⟩) rfl rfl (Nat.le_of_ble_eq_true rfl) (by decide) (fun r57 s58 hr59 hp60 => ?_)
        obtain ⟨rfl, q61, q62, z63⟩ := hp60
        refine zt_ifeq (pc' := 122) (tgt := 143) hX dX10_readPerson_119 rfl (by decide) ⟨by omega, by omega⟩ (fun c64 => ?_) (fun c64 => ?_)
        · refine zt_iconst (pc' := 144) hX dX10_readPerson_143 rfl ?_
          exact zt_zret hX hR dX10_readPerson_144 ⟨by omega, by omega⟩ ⟨hI46, hF47, by omega, by omega⟩
        · refine zt_aload_n (pc' := 123) hX dX10_readPerson_122 rfl rfl ?_
          refine zt_get (pc' := 126) (v := .ref (X.1.1 + (k0_ + 3))) hX dX10_readPerson_123 rfl zf_X10_18 (zro_lt hk0_ (by decide)) hk0_ zs_22 (zrf_of (zv_22_2 hI46 hk0_)) ?_
          refine zt_iload_n (pc' := 127) hX dX10_readPerson_126 rfl rfl ?_
          refine zt_iald (pc' := 128) hX dX10_readPerson_127 rfl (zro_lt (zo_22_2 hk0_) (by decide)) (zo_22_2 hk0_) zs_25 (by decide) ⟨by omega, by omega⟩ ?_
          generalize hv65 : s44 (k0_ + 3) (a3_.toNat) = v65
          have bv65 : -1 ≤ v65 ∧ v65 ≤ 255 := hv65 ▸ zv_25 hI46 (zo_22_2 hk0_) _
          refine zt_bipush (pc' := 130) hX dX10_readPerson_128 rfl (by decide) (by decide) ?_
          refine zt_icgt (pc' := 133) (tgt := 143) hX dX10_readPerson_130 rfl (by decide) ⟨by omega, by omega⟩ ⟨by omega, by omega⟩ (fun c66 => ?_) (fun c66 => ?_)
          · refine zt_iconst (pc' := 144) hX dX10_readPerson_143 rfl ?_
            exact zt_zret hX hR dX10_readPerson_144 ⟨by omega, by omega⟩ ⟨hI46, hF47, by omega, by omega⟩
          · refine zt_iload (pc' := 135) hX dX10_readPerson_133 rfl rfl ?_
            refine zt_iconst (pc' := 136) hX dX10_readPerson_135 rfl ?_
            refine zt_icgt (pc' := 139) (tgt := 143) hX dX10_readPerson_136 rfl (by decide) ⟨by omega, by omega⟩ ⟨by omega, by omega⟩ (fun c67 => ?_) (fun c67 => ?_)
            · refine zt_iconst (pc' := 144) hX dX10_readPerson_143 rfl ?_
              exact zt_zret hX hR dX10_readPerson_144 ⟨by omega, by omega⟩ ⟨hI46, hF47, by omega, by omega⟩
            · refine zt_iconst (pc' := 140) hX dX10_readPerson_139 rfl ?_
              refine zt_goto (tgt := 144) hX dX10_readPerson_140 (by decide) ?_
              exact zt_zret hX hR dX10_readPerson_144 ⟨by omega, by omega⟩ ⟨hI46, hF47, by omega, by omega⟩
      · refine zt_aload_n (pc' := 75) hX dX10_readPerson_74 rfl rfl ?_
        refine zt_iload (pc' := 77) hX dX10_readPerson_75 rfl rfl ?_
        refine zt_aload_n (pc' := 78) hX dX10_readPerson_77 rfl rfl ?_
        refine zt_get (pc' := 81) (v := .ref (X.1.1 + (k0_ + 1))) hX dX10_readPerson_78 rfl zf_X10_9 (zro_lt hk0_ (by decide)) hk0_ zs_22 (zrf_of (zv_22_0 hI46 hk0_)) ?_
        refine zt_iload_n (pc' := 82) hX dX10_readPerson_81 rfl rfl ?_
        refine zt_iald (pc' := 83) hX dX10_readPerson_82 rfl (zro_lt (zo_22_0 hk0_) (by decide)) (zo_22_0 hk0_) zs_23 (by decide) ⟨by omega, by omega⟩ ?_
        generalize hv68 : s44 (k0_ + 1) (a3_.toNat) = v68
        have bv68 : -1 ≤ v68 ∧ v68 ≤ 255 := hv68 ▸ zv_23 hI46 (zo_22_0 hk0_) _
        refine zt_aload_n (pc' := 84) hX dX10_readPerson_83 rfl rfl ?_
        refine zt_get (pc' := 87) (v := .ref (X.1.1 + (k0_ + 2))) hX dX10_readPerson_84 rfl zf_X10_15 (zro_lt hk0_ (by decide)) hk0_ zs_22 (zrf_of (zv_22_1 hI46 hk0_)) ?_
        refine zt_iload_n (pc' := 88) hX dX10_readPerson_87 rfl rfl ?_
        refine zt_iald (pc' := 89) hX dX10_readPerson_88 rfl (zro_lt (zo_22_1 hk0_) (by decide)) (zo_22_1 hk0_) zs_24 (by decide) ⟨by omega, by omega⟩ ?_
        generalize hv69 : s44 (k0_ + 2) (a3_.toNat) = v69
        have bv69 : -1 ≤ v69 ∧ v69 ≤ 255 := hv69 ▸ zv_24 hI46 (zo_22_1 hk0_) _
        refine zt_cVi (pc' := 92) hX dX10_readPerson_89 rfl zm_yX10_between zw_69_9 hk0_ (by decide) zs_22 (q := (RX10, TX10, 8)) rfl rfl (zc_X10_between _ _ s44 hI46 k0_ hk0_ x48 ⟨by omega, by omega⟩ v68 ⟨by omega, by omega⟩ v69 ⟨by omega, by omega⟩) rfl rfl (Nat.le_of_ble_eq_true rfl) (by decide) (fun r70 s71 hr72 hp73 => ?_)
        obtain ⟨rfl, q74, q75⟩ := hp73
        refine zt_ifne (pc' := 95) (tgt := 97) hX dX10_readPerson_92 rfl (by decide) ⟨by omega, by omega⟩ (fun c76 => ?_) (fun c76 => ?_)
        · refine zt_iinc (pc' := 100) (lv' := [some (.ref (X.1.1 + k0_)), some (.ref (X.1.1 + k1_)), none, some (.int (zI a3_)), none, some (.int (zI r31)), some (.int (zI (x48 + 1)))]) hX dX10_readPerson_97 rfl rfl hL (by decide) rfl ?_
          refine zt_goto (tgt := 68) hX dX10_readPerson_100 (by decide) ?_
          exact ih53 (x48 + 1) (by omega) (by omega) (by omega)
        · refine zt_iconst (pc' := 96) hX dX10_readPerson_95 rfl ?_
          exact zt_zret hX hR dX10_readPerson_96 ⟨by omega, by omega⟩ ⟨hI46, hF47, by omega, by omega⟩
  refine zt_mask [true, true, false, true, false, true, true] rfl ?_
  exact L_68_50 _ 0 (by omega) (by omega) (Nat.lt_succ_self _)

set_option maxRecDepth 100000 in
set_option maxHeartbeats 4000000 in
theorem zc_X10_readImage (l : Launch) (E : zEN) (σ : zSto) (hI : zInv σ) (k0_ : Nat) (hk0_ : zro k0_ = 22) (k1_ : Nat) (hk1_ : zro k1_ = 8) : zCt l E yX10_readImage cX10_readImage 8 (some .boolean) 3 zNC zNC 0 0 σ [.ref (E.1 + k0_), .ref (E.1 + k1_), .ref (E.1 + 1)] (fun r σ' => zInv σ' ∧ zFE σ σ' ∧ 0 ≤ r ∧ r ≤ 1) := by
  refine zCt_of2 [some (.ref (E.1 + k0_)), some (.ref (E.1 + k1_)), some (.ref (E.1 + 1)), none, none, none, none, none] (by decide +kernel) (Nat.le_of_ble_eq_true rfl) rfl ?_
  intro X hE hX hR hL hN
  subst hE
  have hX : zok X cX10_readImage RX10 3 := hX
  have hF := zFE_rf σ
  refine zt_iconst (pc' := 1) hX dX10_readImage_0 rfl ?_
  refine zt_aload_n (pc' := 2) hX dX10_readImage_1 rfl rfl ?_
  refine zt_cVi (pc' := 5) hX dX10_readImage_2 rfl zm_yX3_cells zw_69_1 hk1_ (by decide) zs_8 (q := (RX3, TX3, 17)) rfl rfl (zc_X3_cells _ _ σ hI k1_ hk1_) rfl rfl (Nat.le_of_ble_eq_true rfl) (by decide) (fun r1 s2 hr3 hp4 => ?_)
  obtain ⟨rfl, q5, q6⟩ := hp4
  refine zt_iadd (pc' := 6) hX dX10_readImage_5 rfl ?_
  refine zt_istore_n (pc' := 7) (lv' := [some (.ref (X.1.1 + k0_)), some (.ref (X.1.1 + k1_)), some (.ref (X.1.1 + 1)), some (.int (zI (2 + r1))), none, none, none, none]) hX dX10_readImage_6 rfl hL (by decide) rfl ?_
  refine zt_iload_n (pc' := 8) hX dX10_readImage_7 rfl rfl ?_
  refine zt_iconst (pc' := 9) hX dX10_readImage_8 rfl ?_
  refine zt_aload_n (pc' := 10) hX dX10_readImage_9 rfl rfl ?_
  have b7 := zv_8_12 hI hk1_
  refine zt_get (pc' := 13) (v := .int (zI (σ k1_ 12))) hX dX10_readImage_10 rfl zf_X10_38 (zro_lt hk1_ (by decide)) hk1_ zs_8 rfl ?_
  refine zt_imul (pc' := 14) hX dX10_readImage_13 rfl ?_
  refine zt_iadd (pc' := 15) hX dX10_readImage_14 rfl ?_
  refine zt_istore (pc' := 17) (lv' := [some (.ref (X.1.1 + k0_)), some (.ref (X.1.1 + k1_)), some (.ref (X.1.1 + 1)), some (.int (zI (2 + r1))), some (.int (zI ((2 + r1) + (4 * (σ k1_ 12))))), none, none, none]) hX dX10_readImage_15 rfl hL (by decide) rfl ?_
  refine zt_aload_n (pc' := 18) hX dX10_readImage_17 rfl rfl ?_
  have b8 := zv_2_1 hI zc_1
  refine zt_get (pc' := 21) (v := .int (zI (σ 1 1))) hX dX10_readImage_18 rfl zf_X10_83 (by decide) zc_1 zs_2 rfl ?_
  refine zt_iload (pc' := 23) hX dX10_readImage_21 rfl rfl ?_
  refine zt_iconst (pc' := 24) hX dX10_readImage_23 rfl ?_
  refine zt_iadd (pc' := 25) hX dX10_readImage_24 rfl ?_
  refine zt_icne (pc' := 28) (tgt := 43) hX dX10_readImage_25 rfl (by decide) ⟨by omega, by omega⟩ ⟨by omega, by omega⟩ (fun c9 => ?_) (fun c9 => ?_)
  · refine zt_iconst (pc' := 44) hX dX10_readImage_43 rfl ?_
    exact zt_zret hX hR dX10_readImage_44 ⟨by omega, by omega⟩ ⟨hI, hF, by omega, by omega⟩
  · refine zt_aload_n (pc' := 29) hX dX10_readImage_28 rfl rfl ?_
    refine zt_iload (pc' := 31) hX dX10_readImage_29 rfl rfl ?_
    refine zt_cVi (pc' := 34) hX dX10_readImage_31 rfl zm_yX9_byteAt zw_69_2 zc_1 (by decide) zs_2 (q := (RX9, TX9, 2)) rfl rfl (zc_X9_byteAt_1 _ _ σ hI ((2 + r1) + (4 * (σ k1_ 12))) ⟨by omega, by omega⟩) rfl rfl (Nat.le_of_ble_eq_true rfl) (by decide) (fun r10 s11 hr12 hp13 => ?_)
    obtain ⟨rfl, q14, q15⟩ := hp13
    refine zt_aload_n (pc' := 35) hX dX10_readImage_34 rfl rfl ?_
    refine zt_iload (pc' := 37) hX dX10_readImage_35 rfl rfl ?_
    refine zt_cVi (pc' := 40) hX dX10_readImage_37 rfl zm_yX9_checkOf zw_69_3 zc_1 (by decide) zs_2 (q := (RX9, TX9, 2)) rfl rfl (zc_X9_checkOf_1 _ _ σ hI ((2 + r1) + (4 * (σ k1_ 12))) ⟨by omega, by omega⟩) rfl rfl (Nat.le_of_ble_eq_true rfl) (by decide) (fun r16 s17 hr18 hp19 => ?_)
    obtain ⟨rfl, q20, q21⟩ := hp19
    refine zt_iceq (pc' := 43) (tgt := 45) hX dX10_readImage_40 rfl (by decide) ⟨by omega, by omega⟩ ⟨by omega, by omega⟩ (fun c22 => ?_) (fun c22 => ?_)
    · refine zt_aload_n (pc' := 46) hX dX10_readImage_45 rfl rfl ?_
      refine zt_aload_n (pc' := 47) hX dX10_readImage_46 rfl rfl ?_
      refine zt_iconst (pc' := 48) hX dX10_readImage_47 rfl ?_
      refine zt_cVi (pc' := 51) hX dX10_readImage_48 rfl zm_yX9_pairAt zw_69_4 zc_1 (by decide) zs_2 (q := (RX9, TX9, 2)) rfl rfl (zc_X9_pairAt_1 _ _ σ hI 0 ⟨by omega, by omega⟩) rfl rfl (Nat.le_of_ble_eq_true rfl) (by decide) (fun r23 s24 hr25 hp26 => ?_)
      obtain ⟨rfl, q27, q28⟩ := hp26
      refine zt_put (pc' := 54) (x := r23) hX dX10_readImage_51 rfl zf_X10_28 (zro_lt hk0_ (by decide)) hk0_ zs_22 (fun q hq => by cases hq; rfl) rfl rfl rfl ?_
      generalize hs30 : zset σ k0_ 5 r23 = s29
      have hI31 : zInv s29 := hs30 ▸ zp_22_5 hI hk0_ ⟨by omega, by omega⟩
      have hF32 : zFE σ s29 := hs30 ▸ zFE_set hF hk0_ (by decide) zke_22 (Or.inl (by decide)) (Or.inl (by decide))
      refine zt_aload_n (pc' := 55) hX dX10_readImage_54 rfl rfl ?_
      refine zt_lconst (pc' := 56) (y := 0) hX dX10_readImage_55 rfl (by decide +kernel) ?_
      refine zt_put (pc' := 59) (x := 0) hX dX10_readImage_56 rfl zf_X10_31 (zro_lt hk0_ (by decide)) hk0_ zs_22 (fun q hq => by cases hq; rfl) rfl rfl rfl ?_
      generalize hs34 : zset s29 k0_ 6 0 = s33
      have hI35 : zInv s33 := hs34 ▸ zp_22_6 hI31 hk0_ ⟨by omega, by omega⟩
      have hF36 : zFE σ s33 := hs34 ▸ zFE_set hF32 hk0_ (by decide) zke_22 (Or.inl (by decide)) (Or.inl (by decide))
      refine zt_aload_n (pc' := 60) hX dX10_readImage_59 rfl rfl ?_
      refine zt_iconst (pc' := 61) hX dX10_readImage_60 rfl ?_
      refine zt_put (pc' := 64) (x := 0) hX dX10_readImage_61 rfl zf_X10_35 (zro_lt hk0_ (by decide)) hk0_ zs_22 (fun q hq => by cases hq; rfl) rfl rfl rfl ?_
      generalize hs38 : zset s33 k0_ 7 0 = s37
      have hI39 : zInv s37 := hs38 ▸ zp_22_7 hI35 hk0_ ⟨by omega, by omega⟩
      have hF40 : zFE σ s37 := hs38 ▸ zFE_set hF36 hk0_ (by decide) zke_22 (Or.inl (by decide)) (Or.inl (by decide))
      refine zt_aload_n (pc' := 65) hX dX10_readImage_64 rfl rfl ?_
      have b41 := zv_22_5 hI39 hk0_
      have e42 : s37 k0_ 5 = s33 k0_ 5 := by rw [← hs38]; exact zset_j (by decide)
      have e43 : s33 k0_ 5 = s29 k0_ 5 := by rw [← hs34]; exact zset_j (by decide)
      have e44 : s29 k0_ 5 = r23 := by rw [← hs30]; exact zset_s
      refine zt_get (pc' := 68) (v := .int (zI (s37 k0_ 5))) hX dX10_readImage_65 rfl zf_X10_28 (zro_lt hk0_ (by decide)) hk0_ zs_22 rfl ?_
      refine zt_sipush (pc' := 71) hX dX10_readImage_68 rfl (by decide) (by decide) ?_
      have J_79_47 : ∀ (y45 : Int), 0 ≤ y45 → y45 ≤ 1 → zF X s37 79 [some (.ref (X.1.1 + k0_)), some (.ref (X.1.1 + k1_)), some (.ref (X.1.1 + 1)), some (.int (zI (2 + r1))), none, none, none, none] [.int (zI y45)] := by
        intro y45 h46 h47
        refine zt_istore (pc' := 81) (lv' := [some (.ref (X.1.1 + k0_)), some (.ref (X.1.1 + k1_)), some (.ref (X.1.1 + 1)), some (.int (zI (2 + r1))), none, some (.int (zI y45)), none, none]) hX dX10_readImage_79 rfl hL (by decide) rfl ?_
        refine zt_iconst (pc' := 82) hX dX10_readImage_81 rfl ?_
        refine zt_istore (pc' := 84) (lv' := [some (.ref (X.1.1 + k0_)), some (.ref (X.1.1 + k1_)), some (.ref (X.1.1 + 1)), some (.int (zI (2 + r1))), none, some (.int (zI y45)), some (.int (zI 0)), none]) hX dX10_readImage_82 rfl hL (by decide) rfl ?_
        have L_84_57 : ∀ (N : Nat) (x49 : Int) (x52 : Int) (s55 : zSto), 0 ≤ x49 → x49 ≤ 1 → 0 ≤ x52 → x52 ≤ 36 → zInv s55 → zFE σ s55 → ((37 - x52).toNat) < N → zF X s55 84 [some (.ref (X.1.1 + k0_)), some (.ref (X.1.1 + k1_)), some (.ref (X.1.1 + 1)), some (.int (zI (2 + r1))), none, some (.int (zI x49)), some (.int (zI x52)), none] [] := by
          intro N
          induction N with
          | zero =>
            intro x49 x52 s55 h50 h51 h53 h54 hI56 hF57 hm59
            exact absurd hm59 (Nat.not_lt_zero _)
          | succ N ih60 =>
            intro x49 x52 s55 h50 h51 h53 h54 hI56 hF57 hm59
            refine zt_iload (pc' := 86) hX dX10_readImage_84 rfl rfl ?_
            refine zt_aload_n (pc' := 87) hX dX10_readImage_86 rfl rfl ?_
            refine zt_cVi (pc' := 90) hX dX10_readImage_87 rfl zm_yX3_cells zw_69_1 hk1_ (by decide) zs_8 (q := (RX3, TX3, 17)) rfl rfl (zc_X3_cells _ _ s55 hI56 k1_ hk1_) rfl rfl (Nat.le_of_ble_eq_true rfl) (by decide) (fun r61 s62 hr63 hp64 => ?_)
            obtain ⟨rfl, q65, q66⟩ := hp64
            refine zt_icge (pc' := 93) (tgt := 144) hX dX10_readImage_90 rfl (by decide) ⟨by omega, by omega⟩ ⟨by omega, by omega⟩ (fun c67 => ?_) (fun c67 => ?_)
            · refine zt_iconst (pc' := 145) hX dX10_readImage_144 rfl ?_
              refine zt_istore (pc' := 147) (lv' := [some (.ref (X.1.1 + k0_)), some (.ref (X.1.1 + k1_)), some (.ref (X.1.1 + 1)), some (.int (zI (2 + r1))), none, some (.int (zI x49)), some (.int (zI 0)), none]) hX dX10_readImage_145 rfl hL (by decide) rfl ?_
              have L_147_76 : ∀ (N : Nat) (x68 : Int) (x71 : Int) (s74 : zSto), 0 ≤ x68 → x68 ≤ 1 → 0 ≤ x71 → x71 ≤ 10 → zInv s74 → zFE σ s74 → ((11 - x71).toNat) < N → zF X s74 147 [some (.ref (X.1.1 + k0_)), some (.ref (X.1.1 + k1_)), some (.ref (X.1.1 + 1)), some (.int (zI (2 + r1))), none, some (.int (zI x68)), some (.int (zI x71)), none] [] := by
                intro N
                induction N with
                | zero =>
                  intro x68 x71 s74 h69 h70 h72 h73 hI75 hF76 hm78
                  exact absurd hm78 (Nat.not_lt_zero _)
                | succ N ih79 =>
                  intro x68 x71 s74 h69 h70 h72 h73 hI75 hF76 hm78
                  refine zt_iload (pc' := 149) hX dX10_readImage_147 rfl rfl ?_
                  refine zt_aload_n (pc' := 150) hX dX10_readImage_149 rfl rfl ?_
                  have b80 := zv_8_12 hI75 hk1_
                  refine zt_get (pc' := 153) (v := .int (zI (s74 k1_ 12))) hX dX10_readImage_150 rfl zf_X10_38 (zro_lt hk1_ (by decide)) hk1_ zs_8 rfl ?_
                  refine zt_icge (pc' := 156) (tgt := 191) hX dX10_readImage_153 rfl (by decide) ⟨by omega, by omega⟩ ⟨by omega, by omega⟩ (fun c81 => ?_) (fun c81 => ?_)
                  · refine zt_iload (pc' := 193) hX dX10_readImage_191 rfl rfl ?_
                    exact zt_zret hX hR dX10_readImage_193 ⟨by omega, by omega⟩ ⟨hI75, hF76, by omega, by omega⟩
                  · refine zt_iload (pc' := 158) hX dX10_readImage_156 rfl rfl ?_
                    have J_183_87 : ∀ (y82 : Int) (s85 : zSto), 0 ≤ y82 → y82 ≤ 1 → zInv s85 → zFE σ s85 → zF X s85 183 [some (.ref (X.1.1 + k0_)), some (.ref (X.1.1 + k1_)), some (.ref (X.1.1 + 1)), some (.int (zI (2 + r1))), none, none, some (.int (zI x71)), none] [.int (zI y82)] := by
                      intro y82 s85 h83 h84 hI86 hF87
                      refine zt_istore (pc' := 185) (lv' := [some (.ref (X.1.1 + k0_)), some (.ref (X.1.1 + k1_)), some (.ref (X.1.1 + 1)), some (.int (zI (2 + r1))), none, some (.int (zI y82)), some (.int (zI x71)), none]) hX dX10_readImage_183 rfl hL (by decide) rfl ?_
                      refine zt_iinc (pc' := 188) (lv' := [some (.ref (X.1.1 + k0_)), some (.ref (X.1.1 + k1_)), some (.ref (X.1.1 + 1)), some (.int (zI (2 + r1))), none, some (.int (zI y82)), some (.int (zI (x71 + 1))), none]) hX dX10_readImage_185 rfl rfl hL (by decide) rfl ?_
                      refine zt_goto (tgt := 147) hX dX10_readImage_188 (by decide) ?_
                      exact ih79 y82 (x71 + 1) s85 (by omega) (by omega) (by omega) (by omega) hI86 (by omega) (by omega)
                    have J_182_91 : ∀ (s89 : zSto), zInv s89 → zFE σ s89 → zF X s89 182 [some (.ref (X.1.1 + k0_)), some (.ref (X.1.1 + k1_)), some (.ref (X.1.1 + 1)), some (.int (zI (2 + r1))), none, none, some (.int (zI x71)), none] [] := by
                      intro s89 hI90 hF91
                      refine zt_iconst (pc' := 183) hX dX10_readImage_182 rfl ?_
                      exact J_183_87 0 s89 (by omega) (by omega) hI90 (by omega)
                    refine zt_ifeq (pc' := 161) (tgt := 182) hX dX10_readImage_158 rfl (by decide) ⟨by omega, by omega⟩ (fun c93 => ?_) (fun c93 => ?_)
                    · refine zt_mask [true, true, true, true, false, false, true, false] rfl ?_
                      exact J_182_91 s74 hI75 (by omega)
                    · refine zt_aload_n (pc' := 162) hX dX10_readImage_161 rfl rfl ?_
                      refine zt_aload_n (pc' := 163) hX dX10_readImage_162 rfl rfl ?_
                      refine zt_aload_n (pc' := 164) hX dX10_readImage_163 rfl rfl ?_
                      refine zt_iload (pc' := 166) hX dX10_readImage_164 rfl rfl ?_
                      refine zt_iload_n (pc' := 167) hX dX10_readImage_166 rfl rfl ?_
                      refine zt_iconst (pc' := 168) hX dX10_readImage_167 rfl ?_
                      refine zt_iload (pc' := 170) hX dX10_readImage_168 rfl rfl ?_
                      refine zt_imul (pc' := 171) hX dX10_readImage_170 rfl ?_
                      refine zt_iadd (pc' := 172) hX dX10_readImage_171 rfl ?_
                      refine zt_cVz (pc' := 175) hX dX10_readImage_172 rfl zm_yX10_readPerson zw_69_5 hk0_ (by decide) zs_22 (q := (RX10, TX10, 8)) rfl rfl (zc_X10_readPerson _ _ s74 hI75 k0_ hk0_ k1_ hk1_ x71 ⟨by omega, by omega⟩ ((2 + r1) + (4 * x71)) ⟨by omega, by omega⟩) rfl rfl (Nat.le_of_ble_eq_true rfl) (by decide) (fun r94 s95 hr96 hp97 => ?_)
                      obtain ⟨hI98, hF99, q100, q101⟩ := hp97
                      have hF102 := zFE_tr hF76 hF99
                      refine zt_ifeq (pc' := 178) (tgt := 182) hX dX10_readImage_175 rfl (by decide) ⟨by omega, by omega⟩ (fun c103 => ?_) (fun c103 => ?_)
                      · refine zt_mask [true, true, true, true, false, false, true, false] rfl ?_
                        exact J_182_91 s95 hI98 (by omega)
                      · refine zt_iconst (pc' := 179) hX dX10_readImage_178 rfl ?_
                        refine zt_goto (tgt := 183) hX dX10_readImage_179 (by decide) ?_
                        refine zt_mask [true, true, true, true, false, false, true, false] rfl ?_
                        exact J_183_87 1 s95 (by omega) (by omega) hI98 (by omega)
              exact L_147_76 _ x49 0 s55 (by omega) (by omega) (by omega) (by omega) hI56 (by omega) (Nat.lt_succ_self _)
            · refine zt_aload_n (pc' := 94) hX dX10_readImage_93 rfl rfl ?_
              refine zt_iconst (pc' := 95) hX dX10_readImage_94 rfl ?_
              refine zt_iload (pc' := 97) hX dX10_readImage_95 rfl rfl ?_
              refine zt_iadd (pc' := 98) hX dX10_readImage_97 rfl ?_
              refine zt_cVi (pc' := 101) hX dX10_readImage_98 rfl zm_yX9_byteAt zw_69_2 zc_1 (by decide) zs_2 (q := (RX9, TX9, 2)) rfl rfl (zc_X9_byteAt_1 _ _ s55 hI56 (2 + x52) ⟨by omega, by omega⟩) rfl rfl (Nat.le_of_ble_eq_true rfl) (by decide) (fun r104 s105 hr106 hp107 => ?_)
              obtain ⟨rfl, q108, q109⟩ := hp107
              refine zt_istore (pc' := 103) (lv' := [some (.ref (X.1.1 + k0_)), some (.ref (X.1.1 + k1_)), some (.ref (X.1.1 + 1)), some (.int (zI (2 + r1))), none, some (.int (zI x49)), some (.int (zI x52)), some (.int (zI r104))]) hX dX10_readImage_101 rfl hL (by decide) rfl ?_
              refine zt_iload (pc' := 105) hX dX10_readImage_103 rfl rfl ?_
              have J_119_112 : ∀ (y110 : Int), 0 ≤ y110 → y110 ≤ 1 → zF X s55 119 [some (.ref (X.1.1 + k0_)), some (.ref (X.1.1 + k1_)), some (.ref (X.1.1 + 1)), some (.int (zI (2 + r1))), none, none, some (.int (zI x52)), some (.int (zI r104))] [.int (zI y110)] := by
                intro y110 h111 h112
                refine zt_istore (pc' := 121) (lv' := [some (.ref (X.1.1 + k0_)), some (.ref (X.1.1 + k1_)), some (.ref (X.1.1 + 1)), some (.int (zI (2 + r1))), none, some (.int (zI y110)), some (.int (zI x52)), some (.int (zI r104))]) hX dX10_readImage_119 rfl hL (by decide) rfl ?_
                refine zt_aload_n (pc' := 122) hX dX10_readImage_121 rfl rfl ?_
                refine zt_dup (pc' := 123) hX dX10_readImage_122 rfl rfl ?_
                have b114 := zv_22_6 hI56 hk0_
                refine zt_get (pc' := 126) (v := .long (zJ (s55 k0_ 6))) hX dX10_readImage_123 rfl zf_X10_31 (zro_lt hk0_ (by decide)) hk0_ zs_22 rfl ?_
                refine zt_iload (pc' := 128) hX dX10_readImage_126 rfl rfl ?_
                refine zt_iconst (pc' := 129) hX dX10_readImage_128 rfl ?_
                refine zt_iandm (pc' := 130) hX dX10_readImage_129 rfl 1 (by decide +kernel) (by decide) (fun r115 er115 lr115 ur115 => ?_)
                have ur115 : r115 ≤ 1 := by omega
                refine zt_i2l (pc' := 131) hX dX10_readImage_130 rfl ⟨by omega, by omega⟩ ?_
                refine zt_iload (pc' := 133) hX dX10_readImage_131 rfl rfl ?_
                refine zt_lshl (pc' := 134) hX dX10_readImage_133 rfl (fun r116 zr116 lr116 ur116 => ?_)
                clear zr116
                refine zt_lor (pc' := 135) hX dX10_readImage_134 rfl (fun r117 zr117 lr117 ur117 => ?_)
                clear zr117
                refine zt_put (pc' := 138) (x := r117) hX dX10_readImage_135 rfl zf_X10_31 (zro_lt hk0_ (by decide)) hk0_ zs_22 (fun q hq => by cases hq; rfl) rfl rfl rfl ?_
                generalize hs119 : zset s55 k0_ 6 r117 = s118
                have hI120 : zInv s118 := hs119 ▸ zp_22_6 hI56 hk0_ ⟨by omega, by omega⟩
                have hF121 : zFE σ s118 := hs119 ▸ zFE_set hF57 hk0_ (by decide) zke_22 (Or.inl (by decide)) (Or.inl (by decide))
                refine zt_iinc (pc' := 141) (lv' := [some (.ref (X.1.1 + k0_)), some (.ref (X.1.1 + k1_)), some (.ref (X.1.1 + 1)), some (.int (zI (2 + r1))), none, some (.int (zI y110)), some (.int (zI (x52 + 1))), some (.int (zI r104))]) hX dX10_readImage_138 rfl rfl hL (by decide) rfl ?_
                refine zt_goto (tgt := 84) hX dX10_readImage_141 (by decide) ?_
                refine zt_mask [true, true, true, true, false, true, true, false] rfl ?_
                exact ih60 y110 (x52 + 1) s118 (by omega) (by omega) (by omega) (by omega) hI120 (by omega) (by omega)
              have J_118_121 : zF X s55 118 [some (.ref (X.1.1 + k0_)), some (.ref (X.1.1 + k1_)), some (.ref (X.1.1 + 1)), some (.int (zI (2 + r1))), none, none, some (.int (zI x52)), some (.int (zI r104))] [] := by
                refine zt_iconst (pc' := 119) hX dX10_readImage_118 rfl ?_
                exact J_119_112 0 (by omega) (by omega)
              refine zt_ifeq (pc' := 108) (tgt := 118) hX dX10_readImage_105 rfl (by decide) ⟨by omega, by omega⟩ (fun c123 => ?_) (fun c123 => ?_)
              · refine zt_mask [true, true, true, true, false, false, true, true] rfl ?_
                exact J_118_121
              · refine zt_iload (pc' := 110) hX dX10_readImage_108 rfl rfl ?_
                refine zt_iconst (pc' := 111) hX dX10_readImage_110 rfl ?_
                refine zt_icgt (pc' := 114) (tgt := 118) hX dX10_readImage_111 rfl (by decide) ⟨by omega, by omega⟩ ⟨by omega, by omega⟩ (fun c124 => ?_) (fun c124 => ?_)
                · refine zt_mask [true, true, true, true, false, false, true, true] rfl ?_
                  exact J_118_121
                · refine zt_iconst (pc' := 115) hX dX10_readImage_114 rfl ?_
                  refine zt_goto (tgt := 119) hX dX10_readImage_115 (by decide) ?_
                  refine zt_mask [true, true, true, true, false, false, true, true] rfl ?_
                  exact J_119_112 1 (by omega) (by omega)
        exact L_84_57 _ y45 0 s37 (by omega) (by omega) (by omega) (by omega) hI39 (by omega) (Nat.lt_succ_self _)
      refine zt_icgt (pc' := 74) (tgt := 78) hX dX10_readImage_71 rfl (by decide) ⟨by omega, by omega⟩ ⟨by omega, by omega⟩ (fun c125 => ?_) (fun c125 => ?_)
      · refine zt_iconst (pc' := 79) hX dX10_readImage_78 rfl ?_
        refine zt_mask [true, true, true, true, false, false, false, false] rfl ?_
        exact J_79_47 0 (by omega) (by omega)
      · refine zt_iconst (pc' := 75) hX dX10_readImage_74 rfl ?_
        refine zt_goto (tgt := 79) hX dX10_readImage_75 (by decide) ?_
        refine zt_mask [true, true, true, true, false, false, false, false] rfl ?_
        exact J_79_47 1 (by omega) (by omega)
    · refine zt_iconst (pc' := 44) hX dX10_readImage_43 rfl ?_
      exact zt_zret hX hR dX10_readImage_44 ⟨by omega, by omega⟩ ⟨hI, hF, by omega, by omega⟩

set_option maxRecDepth 100000 in
set_option maxHeartbeats 4000000 in
theorem zc_X2_push (l : Launch) (E : zEN) (σ : zSto) (hI : zInv σ) (k1_ : Nat) (hk1_ : zro k1_ = 22) : zCt l E yX2_push cX2_push 2 none 2 zNC zNC 0 0 σ [.ref (E.1 + 45), .ref (E.1 + k1_)] (fun r σ' => zInv σ' ∧ zFE σ σ') := by
  refine zCt_of2 [some (.ref (E.1 + 45)), some (.ref (E.1 + k1_))] (by decide +kernel) (Nat.le_of_ble_eq_true rfl) rfl ?_
  intro X hE hX hR hL hN
  subst hE
  have hX : zok X cX2_push RX2 2 := hX
  have hF := zFE_rf σ
  refine zt_aload_n (pc' := 1) hX dX2_push_0 rfl rfl ?_
  refine zt_get (pc' := 4) (v := .ref (X.1.1 + 46)) hX dX2_push_1 rfl zf_X2_11 (by decide) zc_45 zs_27 (zrf_of (zv_27_0 hI zc_45)) ?_
  refine zt_aload_n (pc' := 5) hX dX2_push_4 rfl rfl ?_
  have b1 := zv_27_1 hI zc_45
  refine zt_get (pc' := 8) (v := .int (zI (σ 45 1))) hX dX2_push_5 rfl zf_X2_17 (by decide) zc_45 zs_27 rfl ?_
  have e4 := zv_28 hI zc_46 (σ 45 1).toNat (by omega)
  refine zt_aald (pc' := 9) (a := (47 + 5 * (σ 45 1).toNat)) hX dX2_push_8 rfl (by decide) zc_46 zs_28 (by decide) ⟨by omega, by omega⟩ e4 ?_
  have hk3 : zro (47 + 5 * (σ 45 1).toNat) = 22 := zro_town (by omega)
  generalize hk2 : (47 + 5 * (σ 45 1).toNat) = k2 at hk3 ⊢
  refine zt_aload_n (pc' := 10) hX dX2_push_9 rfl rfl ?_
  refine zt_cVv (pc' := 13) hX dX2_push_10 rfl zm_yX10_takeAll zw_60_6 hk3 (by decide) zs_22 (q := (RX10, TX10, 8)) rfl rfl (zc_X10_takeAll _ _ σ hI k2 hk3 k1_ hk1_) rfl rfl (Nat.le_of_ble_eq_true rfl) (by decide) (fun r5 s6 hr7 hp8 => ?_)
  obtain ⟨hI9, hF10⟩ := hp8
  have hF11 := zFE_tr hF hF10
  refine zt_aload_n (pc' := 14) hX dX2_push_13 rfl rfl ?_
  refine zt_aload_n (pc' := 15) hX dX2_push_14 rfl rfl ?_
  have b12 := zv_27_1 hI9 zc_45
  refine zt_get (pc' := 18) (v := .int (zI (s6 45 1))) hX dX2_push_15 rfl zf_X2_17 (by decide) zc_45 zs_27 rfl ?_
  refine zt_iconst (pc' := 19) hX dX2_push_18 rfl ?_
  refine zt_iadd (pc' := 20) hX dX2_push_19 rfl ?_
  refine zt_bipush (pc' := 22) hX dX2_push_20 rfl (by decide) (by decide) ?_
  refine zt_irem (pc' := 23) hX dX2_push_22 rfl ⟨by omega, by omega⟩ ⟨by omega, by omega⟩ (fun r13 er13 br13 nr13 => ?_)
  rw [ztm_p (by omega)] at er13
  refine zt_put (pc' := 26) (x := r13) hX dX2_push_23 rfl zf_X2_17 (by decide) zc_45 zs_27 (fun q hq => by cases hq; rfl) rfl rfl rfl ?_
  generalize hs15 : zset s6 45 1 r13 = s14
  have hI16 : zInv s14 := hs15 ▸ zp_27_1 hI9 zc_45 ⟨by omega, by omega⟩
  have hF17 : zFE σ s14 := hs15 ▸ zFE_set hF11 zc_45 (by decide) zke_27 (Or.inl (by decide)) (Or.inl (by decide))
  refine zt_aload_n (pc' := 27) hX dX2_push_26 rfl rfl ?_
  refine zt_aload_n (pc' := 28) hX dX2_push_27 rfl rfl ?_
  have b18 := zv_27_2 hI16 zc_45
  have e19 : s14 45 2 = s6 45 2 := by rw [← hs15]; exact zset_j (by decide)
  refine zt_get (pc' := 31) (v := .int (zI (s14 45 2))) hX dX2_push_28 rfl zf_X2_21 (by decide) zc_45 zs_27 rfl ?_
  refine zt_iconst (pc' := 32) hX dX2_push_31 rfl ?_
  refine zt_iadd (pc' := 33) hX dX2_push_32 rfl ?_
  refine zt_bipush (pc' := 35) hX dX2_push_33 rfl (by decide) (by decide) ?_
  refine zt_mmin (pc' := 38) hX (by decide) dX2_push_35 rfl zw_60_5 zw_36_23 zw_34_21 zw_37_0 (Nat.le_of_ble_eq_true rfl) ⟨Nat.zero_le _, Nat.zero_le _⟩ ⟨by omega, by omega⟩ ⟨by omega, by omega⟩ (fun r20 er20 => ?_)
  refine zt_put (pc' := 41) (x := r20) hX dX2_push_38 rfl zf_X2_21 (by decide) zc_45 zs_27 (fun q hq => by cases hq; rfl) rfl rfl rfl ?_
  generalize hs22 : zset s14 45 2 r20 = s21
  have hI23 : zInv s21 := hs22 ▸ zp_27_2 hI16 zc_45 ⟨by omega, by omega⟩
  have hF24 : zFE σ s21 := hs22 ▸ zFE_set hF17 zc_45 (by decide) zke_27 (Or.inl (by decide)) (Or.inl (by decide))
  exact zt_vret hX hR dX2_push_41 ⟨hI23, hF24⟩

set_option maxRecDepth 100000 in
set_option maxHeartbeats 4000000 in
theorem zc_X2_pop (l : Launch) (E : zEN) (σ : zSto) (hI : zInv σ) (k1_ : Nat) (hk1_ : zro k1_ = 22) : zCt l E yX2_pop cX2_pop 2 (some .boolean) 2 zNC zNC 0 0 σ [.ref (E.1 + 45), .ref (E.1 + k1_)] (fun r σ' => zInv σ' ∧ zFE σ σ' ∧ 0 ≤ r ∧ r ≤ 1) := by
  refine zCt_of2 [some (.ref (E.1 + 45)), some (.ref (E.1 + k1_))] (by decide +kernel) (Nat.le_of_ble_eq_true rfl) rfl ?_
  intro X hE hX hR hL hN
  subst hE
  have hX : zok X cX2_pop RX2 2 := hX
  have hF := zFE_rf σ
  refine zt_aload_n (pc' := 1) hX dX2_pop_0 rfl rfl ?_
  have b1 := zv_27_2 hI zc_45
  refine zt_get (pc' := 4) (v := .int (zI (σ 45 2))) hX dX2_pop_1 rfl zf_X2_21 (by decide) zc_45 zs_27 rfl ?_
  refine zt_ifne (pc' := 7) (tgt := 9) hX dX2_pop_4 rfl (by decide) ⟨by omega, by omega⟩ (fun c2 => ?_) (fun c2 => ?_)
  · refine zt_aload_n (pc' := 10) hX dX2_pop_9 rfl rfl ?_
    refine zt_aload_n (pc' := 11) hX dX2_pop_10 rfl rfl ?_
    have b3 := zv_27_1 hI zc_45
    refine zt_get (pc' := 14) (v := .int (zI (σ 45 1))) hX dX2_pop_11 rfl zf_X2_17 (by decide) zc_45 zs_27 rfl ?_
    refine zt_bipush (pc' := 16) hX dX2_pop_14 rfl (by decide) (by decide) ?_
    refine zt_iadd (pc' := 17) hX dX2_pop_16 rfl ?_
    refine zt_iconst (pc' := 18) hX dX2_pop_17 rfl ?_
    refine zt_isub (pc' := 19) hX dX2_pop_18 rfl ?_
    refine zt_bipush (pc' := 21) hX dX2_pop_19 rfl (by decide) (by decide) ?_
    refine zt_irem (pc' := 22) hX dX2_pop_21 rfl ⟨by omega, by omega⟩ ⟨by omega, by omega⟩ (fun r4 er4 br4 nr4 => ?_)
    rw [ztm_p (by omega)] at er4
    refine zt_put (pc' := 25) (x := r4) hX dX2_pop_22 rfl zf_X2_17 (by decide) zc_45 zs_27 (fun q hq => by cases hq; rfl) rfl rfl rfl ?_
    generalize hs6 : zset σ 45 1 r4 = s5
    have hI7 : zInv s5 := hs6 ▸ zp_27_1 hI zc_45 ⟨by omega, by omega⟩
    have hF8 : zFE σ s5 := hs6 ▸ zFE_set hF zc_45 (by decide) zke_27 (Or.inl (by decide)) (Or.inl (by decide))
    refine zt_aload_n (pc' := 26) hX dX2_pop_25 rfl rfl ?_
    refine zt_dup (pc' := 27) hX dX2_pop_26 rfl rfl ?_
    have b9 := zv_27_2 hI7 zc_45
    have e10 : s5 45 2 = σ 45 2 := by rw [← hs6]; exact zset_j (by decide)
    refine zt_get (pc' := 30) (v := .int (zI (s5 45 2))) hX dX2_pop_27 rfl zf_X2_21 (by decide) zc_45 zs_27 rfl ?_
    refine zt_iconst (pc' := 31) hX dX2_pop_30 rfl ?_
    refine zt_isub (pc' := 32) hX dX2_pop_31 rfl ?_
    refine zt_put (pc' := 35) (x := ((s5 45 2) - 1)) hX dX2_pop_32 rfl zf_X2_21 (by decide) zc_45 zs_27 (fun q hq => by cases hq; rfl) rfl rfl rfl ?_
    generalize hs12 : zset s5 45 2 ((s5 45 2) - 1) = s11
    have hI13 : zInv s11 := hs12 ▸ zp_27_2 hI7 zc_45 ⟨by omega, by omega⟩
    have hF14 : zFE σ s11 := hs12 ▸ zFE_set hF8 zc_45 (by decide) zke_27 (Or.inl (by decide)) (Or.inl (by decide))
    refine zt_aload_n (pc' := 36) hX dX2_pop_35 rfl rfl ?_
    refine zt_aload_n (pc' := 37) hX dX2_pop_36 rfl rfl ?_
    refine zt_get (pc' := 40) (v := .ref (X.1.1 + 46)) hX dX2_pop_37 rfl zf_X2_11 (by decide) zc_45 zs_27 (zrf_of (zv_27_0 hI13 zc_45)) ?_
    refine zt_aload_n (pc' := 41) hX dX2_pop_40 rfl rfl ?_
    have b15 := zv_27_1 hI13 zc_45
    have e16 : s11 45 1 = s5 45 1 := by rw [← hs12]; exact zset_j (by decide)
    have e17 : s5 45 1 = r4 := by rw [← hs6]; exact zset_s
    refine zt_get (pc' := 44) (v := .int (zI (s11 45 1))) hX dX2_pop_41 rfl zf_X2_17 (by decide) zc_45 zs_27 rfl ?_
    have e20 := zv_28 hI13 zc_46 (s11 45 1).toNat (by omega)
    refine zt_aald (pc' := 45) (a := (47 + 5 * (s11 45 1).toNat)) hX dX2_pop_44 rfl (by decide) zc_46 zs_28 (by decide) ⟨by omega, by omega⟩ e20 ?_
    have hk19 : zro (47 + 5 * (s11 45 1).toNat) = 22 := zro_town (by omega)
    generalize hk18 : (47 + 5 * (s11 45 1).toNat) = k18 at hk19 ⊢
    refine zt_cVv (pc' := 48) hX dX2_pop_45 rfl zm_yX10_takeAll zw_60_6 hk1_ (by decide) zs_22 (q := (RX10, TX10, 8)) rfl rfl (zc_X10_takeAll _ _ s11 hI13 k1_ hk1_ k18 hk19) rfl rfl (Nat.le_of_ble_eq_true rfl) (by decide) (fun r21 s22 hr23 hp24 => ?_)
    obtain ⟨hI25, hF26⟩ := hp24
    have hF27 := zFE_tr hF14 hF26
    refine zt_iconst (pc' := 49) hX dX2_pop_48 rfl ?_
    exact zt_zret hX hR dX2_pop_49 ⟨by omega, by omega⟩ ⟨hI25, hF27, by omega, by omega⟩
  · refine zt_iconst (pc' := 8) hX dX2_pop_7 rfl ?_
    exact zt_zret hX hR dX2_pop_8 ⟨by omega, by omega⟩ ⟨hI, hF, by omega, by omega⟩

set_option maxRecDepth 100000 in
set_option maxHeartbeats 4000000 in
theorem zc_X0_takesTwo (l : Launch) (E : zEN) (σ : zSto)  (a0_ : Int) (ha0_ : -2147483648 ≤ a0_ ∧ a0_ ≤ 2147483647) : zCt l E yX0_takesTwo cX0_takesTwo 1 (some .boolean) 0 zNC zNC 0 0 σ [.int (zI a0_)] (fun r σ' => σ = σ' ∧ 0 ≤ r ∧ r ≤ 1) := by
  refine zCt_of2 [some (.int (zI a0_))] (by decide +kernel) (Nat.le_of_ble_eq_true rfl) rfl ?_
  intro X hE hX hR hL hN
  subst hE
  have hX : zok X cX0_takesTwo RX0 0 := hX
  refine zt_iload_n (pc' := 1) hX dX0_takesTwo_0 rfl rfl ?_
  refine zt_bipush (pc' := 3) hX dX0_takesTwo_1 rfl (by decide) (by decide) ?_
  refine zt_icge (pc' := 6) (tgt := 30) hX dX0_takesTwo_3 rfl (by decide) ⟨by omega, by omega⟩ ⟨by omega, by omega⟩ (fun c1 => ?_) (fun c1 => ?_)
  · refine zt_iconst (pc' := 31) hX dX0_takesTwo_30 rfl ?_
    refine zt_goto (tgt := 35) hX dX0_takesTwo_31 (by decide) ?_
    exact zt_zret hX hR dX0_takesTwo_35 ⟨by omega, by omega⟩ ⟨rfl, by omega, by omega⟩
  · refine zt_iload_n (pc' := 7) hX dX0_takesTwo_6 rfl rfl ?_
    refine zt_bipush (pc' := 9) hX dX0_takesTwo_7 rfl (by decide) (by decide) ?_
    refine zt_iceq (pc' := 12) (tgt := 30) hX dX0_takesTwo_9 rfl (by decide) ⟨by omega, by omega⟩ ⟨by omega, by omega⟩ (fun c2 => ?_) (fun c2 => ?_)
    · refine zt_iconst (pc' := 31) hX dX0_takesTwo_30 rfl ?_
      refine zt_goto (tgt := 35) hX dX0_takesTwo_31 (by decide) ?_
      exact zt_zret hX hR dX0_takesTwo_35 ⟨by omega, by omega⟩ ⟨rfl, by omega, by omega⟩
    · refine zt_iload_n (pc' := 13) hX dX0_takesTwo_12 rfl rfl ?_
      refine zt_bipush (pc' := 15) hX dX0_takesTwo_13 rfl (by decide) (by decide) ?_
      refine zt_iceq (pc' := 18) (tgt := 30) hX dX0_takesTwo_15 rfl (by decide) ⟨by omega, by omega⟩ ⟨by omega, by omega⟩ (fun c3 => ?_) (fun c3 => ?_)
      · refine zt_iconst (pc' := 31) hX dX0_takesTwo_30 rfl ?_
        refine zt_goto (tgt := 35) hX dX0_takesTwo_31 (by decide) ?_
        exact zt_zret hX hR dX0_takesTwo_35 ⟨by omega, by omega⟩ ⟨rfl, by omega, by omega⟩
      · refine zt_iload_n (pc' := 19) hX dX0_takesTwo_18 rfl rfl ?_
        refine zt_bipush (pc' := 21) hX dX0_takesTwo_19 rfl (by decide) (by decide) ?_
        refine zt_iceq (pc' := 24) (tgt := 30) hX dX0_takesTwo_21 rfl (by decide) ⟨by omega, by omega⟩ ⟨by omega, by omega⟩ (fun c4 => ?_) (fun c4 => ?_)
        · refine zt_iconst (pc' := 31) hX dX0_takesTwo_30 rfl ?_
          refine zt_goto (tgt := 35) hX dX0_takesTwo_31 (by decide) ?_
          exact zt_zret hX hR dX0_takesTwo_35 ⟨by omega, by omega⟩ ⟨rfl, by omega, by omega⟩
        · refine zt_iload_n (pc' := 25) hX dX0_takesTwo_24 rfl rfl ?_
          refine zt_bipush (pc' := 27) hX dX0_takesTwo_25 rfl (by decide) (by decide) ?_
          refine zt_icne (pc' := 30) (tgt := 34) hX dX0_takesTwo_27 rfl (by decide) ⟨by omega, by omega⟩ ⟨by omega, by omega⟩ (fun c5 => ?_) (fun c5 => ?_)
          · refine zt_iconst (pc' := 35) hX dX0_takesTwo_34 rfl ?_
            exact zt_zret hX hR dX0_takesTwo_35 ⟨by omega, by omega⟩ ⟨rfl, by omega, by omega⟩
          · refine zt_iconst (pc' := 31) hX dX0_takesTwo_30 rfl ?_
            refine zt_goto (tgt := 35) hX dX0_takesTwo_31 (by decide) ?_
            exact zt_zret hX hR dX0_takesTwo_35 ⟨by omega, by omega⟩ ⟨rfl, by omega, by omega⟩

set_option maxRecDepth 100000 in
set_option maxHeartbeats 4000000 in
theorem zc_X0_limited (l : Launch) (E : zEN) (σ : zSto)  (a0_ : Int) (ha0_ : -9223372036854775808 ≤ a0_ ∧ a0_ ≤ 9223372036854775807) : zCt l E yX0_limited cX0_limited 2 (some .int) 0 zNC zNC 0 0 σ [.long (zJ a0_)] (fun r σ' => σ = σ' ∧ -1000000 ≤ r ∧ r ≤ 1000000) := by
  refine zCt_of2 [some (.long (zJ a0_)), none] (by decide +kernel) (Nat.le_of_ble_eq_true rfl) rfl ?_
  intro X hE hX hR hL hN
  subst hE
  have hX : zok X cX0_limited RX0 0 := hX
  refine zt_lload_n (pc' := 1) hX dX0_limited_0 rfl rfl ?_
  refine zt_ldc2 (pc' := 4) (x := 1000000) hX dX0_limited_1 rfl zw_37_5 (by decide +kernel) ?_
  refine zt_lcmp (pc' := 5) hX dX0_limited_4 rfl ⟨by omega, by omega⟩ ⟨by omega, by omega⟩ (fun r1 er1 => ?_)
  refine zt_ifle (pc' := 8) (tgt := 11) hX dX0_limited_5 rfl (by decide) ⟨by omega, by omega⟩ (fun c2 => ?_) (fun c2 => ?_)
  · refine zt_lload_n (pc' := 12) hX dX0_limited_11 rfl rfl ?_
    refine zt_ldc2 (pc' := 15) (x := (-1000000)) hX dX0_limited_12 rfl zw_37_7 (by decide +kernel) ?_
    refine zt_lcmp (pc' := 16) hX dX0_limited_15 rfl ⟨by omega, by omega⟩ ⟨by omega, by omega⟩ (fun r3 er3 => ?_)
    refine zt_ifge (pc' := 19) (tgt := 24) hX dX0_limited_16 rfl (by decide) ⟨by omega, by omega⟩ (fun c4 => ?_) (fun c4 => ?_)
    · refine zt_lload_n (pc' := 25) hX dX0_limited_24 rfl rfl ?_
      refine zt_l2i (pc' := 26) hX dX0_limited_25 rfl ?_
      exact zt_iret hX hR dX0_limited_26 ⟨by omega, by omega⟩ ⟨rfl, by omega, by omega⟩
    · refine zt_ldc (pc' := 21) (x := (-1000000)) hX dX0_limited_19 rfl zw_37_8 (by decide +kernel) ?_
      refine zt_goto (tgt := 26) hX dX0_limited_21 (by decide) ?_
      exact zt_iret hX hR dX0_limited_26 ⟨by omega, by omega⟩ ⟨rfl, by omega, by omega⟩
  · refine zt_ldc (pc' := 10) (x := 1000000) hX dX0_limited_8 rfl zw_37_6 (by decide +kernel) ?_
    exact zt_iret hX hR dX0_limited_10 ⟨by omega, by omega⟩ ⟨rfl, by omega, by omega⟩

set_option maxRecDepth 100000 in
set_option maxHeartbeats 4000000 in
theorem zc_J9_floorDiv (l : Launch) (E : zEN) (σ : zSto)  (a0_ : Int) (ha0_ : -2147483648 ≤ a0_ ∧ a0_ ≤ 2147483647) (a1_ : Int) (ha1_ : -2147483648 ≤ a1_ ∧ a1_ ≤ 2147483647) (hpre0 : a1_ ≠ 0) : zCt l E yJ9_floorDiv_7cf53 cJ9_floorDiv_7cf53 3 (some .int) 0 zNC zNC 0 0 σ [.int (zI a0_), .int (zI a1_)] (fun r σ' => σ = σ' ∧ -2147483648 ≤ r ∧ r ≤ 2147483647) := by
  refine zCt_of3 [some (.int (zI a0_)), some (.int (zI a1_)), none] (by decide +kernel) (Nat.le_of_ble_eq_true rfl) rfl ?_
  intro X hE hX hR hL hN
  subst hE
  have hX : zok X cJ9_floorDiv_7cf53 RJ9 0 := hX
  refine zt_iload_n (pc' := 1) hX dJ9_floorDiv_7cf53_0 rfl rfl ?_
  refine zt_iload_n (pc' := 2) hX dJ9_floorDiv_7cf53_1 rfl rfl ?_
  refine zt_idivg (pc' := 3) hX dJ9_floorDiv_7cf53_2 rfl (by omega) ⟨by omega, by omega⟩ (fun r1 er1 lr1 ur1 => ?_)
  refine zt_istore_n (pc' := 4) (lv' := [some (.int (zI a0_)), some (.int (zI a1_)), some (.int (zI r1))]) hX dJ9_floorDiv_7cf53_3 rfl hL (by decide) rfl ?_
  refine zt_iload_n (pc' := 5) hX dJ9_floorDiv_7cf53_4 rfl rfl ?_
  refine zt_iload_n (pc' := 6) hX dJ9_floorDiv_7cf53_5 rfl rfl ?_
  refine zt_ixor (pc' := 7) hX dJ9_floorDiv_7cf53_6 rfl (fun r2 zr2 lr2 ur2 => ?_)
  clear zr2
  refine zt_ifge (pc' := 10) (tgt := 21) hX dJ9_floorDiv_7cf53_7 rfl (by decide) ⟨by omega, by omega⟩ (fun c3 => ?_) (fun c3 => ?_)
  · refine zt_iload_n (pc' := 22) hX dJ9_floorDiv_7cf53_21 rfl rfl ?_
    exact zt_iret hX hR dJ9_floorDiv_7cf53_22 ⟨by omega, by omega⟩ ⟨rfl, by omega, by omega⟩
  · refine zt_iload_n (pc' := 11) hX dJ9_floorDiv_7cf53_10 rfl rfl ?_
    refine zt_iload_n (pc' := 12) hX dJ9_floorDiv_7cf53_11 rfl rfl ?_
    refine zt_imul (pc' := 13) hX dJ9_floorDiv_7cf53_12 rfl ?_
    refine zt_wrap (fun r4 zr4 lr4 ur4 => ?_)
    clear zr4
    refine zt_iload_n (pc' := 14) hX dJ9_floorDiv_7cf53_13 rfl rfl ?_
    refine zt_iceq (pc' := 17) (tgt := 21) hX dJ9_floorDiv_7cf53_14 rfl (by decide) ⟨by omega, by omega⟩ ⟨by omega, by omega⟩ (fun c5 => ?_) (fun c5 => ?_)
    · refine zt_iload_n (pc' := 22) hX dJ9_floorDiv_7cf53_21 rfl rfl ?_
      exact zt_iret hX hR dJ9_floorDiv_7cf53_22 ⟨by omega, by omega⟩ ⟨rfl, by omega, by omega⟩
    · refine zt_iload_n (pc' := 18) hX dJ9_floorDiv_7cf53_17 rfl rfl ?_
      refine zt_iconst (pc' := 19) hX dJ9_floorDiv_7cf53_18 rfl ?_
      refine zt_isub (pc' := 20) hX dJ9_floorDiv_7cf53_19 rfl ?_
      refine zt_wrap (fun r6 zr6 lr6 ur6 => ?_)
      clear zr6
      exact zt_iret hX hR dJ9_floorDiv_7cf53_20 ⟨by omega, by omega⟩ ⟨rfl, by omega, by omega⟩

set_option maxRecDepth 100000 in
set_option maxHeartbeats 4000000 in
theorem zc_X0_joined (l : Launch) (E : zEN) (σ : zSto)  (a0_ : Int) (ha0_ : -2147483648 ≤ a0_ ∧ a0_ ≤ 2147483647) (a1_ : Int) (ha1_ : -2147483648 ≤ a1_ ∧ a1_ ≤ 2147483647) (a2_ : Int) (ha2_ : -2147483648 ≤ a2_ ∧ a2_ ≤ 2147483647) : zCt l E yX0_joined cX0_joined 3 (some .int) 1 zNC zNC 0 0 σ [.int (zI a0_), .int (zI a1_), .int (zI a2_)] (fun r σ' => σ = σ' ∧ -2147483648 ≤ r ∧ r ≤ 2147483647) := by
  refine zCt_of2 [some (.int (zI a0_)), some (.int (zI a1_)), some (.int (zI a2_))] (by decide +kernel) (Nat.le_of_ble_eq_true rfl) rfl ?_
  intro X hE hX hR hL hN
  subst hE
  have hX : zok X cX0_joined RX0 1 := hX
  refine zt_iload_n (pc' := 1) hX dX0_joined_0 rfl rfl ?_
  rcases (show a0_ = 21 ∨ a0_ = 22 ∨ a0_ = 23 ∨ a0_ = 24 ∨ a0_ = 25 ∨ a0_ = 26 ∨ a0_ = 27 ∨ a0_ = 28 ∨ a0_ = 29 ∨ a0_ = 30 ∨ a0_ = 31 ∨ a0_ = 32 ∨ a0_ = 33 ∨ a0_ = 34 ∨ a0_ = 35 ∨ a0_ = 36 ∨ a0_ = 37 ∨ a0_ = 38 ∨ a0_ = 39 ∨ a0_ = 40 ∨ a0_ = 41 ∨ a0_ = 42 ∨ a0_ = 43 ∨ a0_ = 44 ∨ a0_ = 45 ∨ a0_ = 46 ∨ a0_ = 47 ∨ a0_ = 48 ∨ a0_ = 49 ∨ a0_ = 50 ∨ a0_ = 51 ∨ a0_ = 52 ∨ a0_ = 53 ∨ a0_ = 54 ∨ a0_ = 55 ∨ a0_ = 56 ∨ a0_ = 57 ∨ a0_ = 58 ∨ a0_ = 59 ∨ a0_ = 60 ∨ a0_ = 61 ∨ a0_ = 62 ∨ (a0_ < 21 ∨ 62 < a0_) by omega) with c1 | c1 | c1 | c1 | c1 | c1 | c1 | c1 | c1 | c1 | c1 | c1 | c1 | c1 | c1 | c1 | c1 | c1 | c1 | c1 | c1 | c1 | c1 | c1 | c1 | c1 | c1 | c1 | c1 | c1 | c1 | c1 | c1 | c1 | c1 | c1 | c1 | c1 | c1 | c1 | c1 | c1 | c1
  · refine zt_tsIn (v := 21) (tgt := 184) hX dX0_joined_1 c1 (by decide) (by decide) (by decide) rfl (by decide) ?_
    refine zt_iload_n (pc' := 185) hX dX0_joined_184 rfl rfl ?_
    refine zt_iload_n (pc' := 186) hX dX0_joined_185 rfl rfl ?_
    refine zt_ior (pc' := 187) hX dX0_joined_186 rfl (fun r2 zr2 lr2 ur2 => ?_)
    clear zr2
    exact zt_iret hX hR dX0_joined_187 ⟨by omega, by omega⟩ ⟨rfl, by omega, by omega⟩
  · refine zt_tsIn (v := 22) (tgt := 188) hX dX0_joined_1 c1 (by decide) (by decide) (by decide) rfl (by decide) ?_
    refine zt_iload_n (pc' := 189) hX dX0_joined_188 rfl rfl ?_
    refine zt_iload_n (pc' := 190) hX dX0_joined_189 rfl rfl ?_
    refine zt_iand (pc' := 191) hX dX0_joined_190 rfl (fun r3 zr3 lr3 ur3 => ?_)
    clear zr3
    exact zt_iret hX hR dX0_joined_191 ⟨by omega, by omega⟩ ⟨rfl, by omega, by omega⟩
  · refine zt_tsIn (v := 23) (tgt := 278) hX dX0_joined_1 c1 (by decide) (by decide) (by decide) rfl (by decide) ?_
    refine zt_iconst (pc' := 279) hX dX0_joined_278 rfl ?_
    exact zt_iret hX hR dX0_joined_279 ⟨by omega, by omega⟩ ⟨rfl, by omega, by omega⟩
  · refine zt_tsIn (v := 24) (tgt := 278) hX dX0_joined_1 c1 (by decide) (by decide) (by decide) rfl (by decide) ?_
    refine zt_iconst (pc' := 279) hX dX0_joined_278 rfl ?_
    exact zt_iret hX hR dX0_joined_279 ⟨by omega, by omega⟩ ⟨rfl, by omega, by omega⟩
  · refine zt_tsIn (v := 25) (tgt := 192) hX dX0_joined_1 c1 (by decide) (by decide) (by decide) rfl (by decide) ?_
    refine zt_iload_n (pc' := 193) hX dX0_joined_192 rfl rfl ?_
    refine zt_iload_n (pc' := 194) hX dX0_joined_193 rfl rfl ?_
    refine zt_mmin (pc' := 197) hX (by decide) dX0_joined_194 rfl zw_36_22 zw_36_23 zw_34_21 zw_37_0 (Nat.le_of_ble_eq_true rfl) ⟨Nat.zero_le _, Nat.zero_le _⟩ ⟨by omega, by omega⟩ ⟨by omega, by omega⟩ (fun r4 er4 => ?_)
    exact zt_iret hX hR dX0_joined_197 ⟨by omega, by omega⟩ ⟨rfl, by omega, by omega⟩
  · refine zt_tsIn (v := 26) (tgt := 198) hX dX0_joined_1 c1 (by decide) (by decide) (by decide) rfl (by decide) ?_
    refine zt_iload_n (pc' := 199) hX dX0_joined_198 rfl rfl ?_
    refine zt_iload_n (pc' := 200) hX dX0_joined_199 rfl rfl ?_
    refine zt_mmax (pc' := 203) hX (by decide) dX0_joined_200 rfl zw_37_1 zw_35_13 zw_34_21 zw_35_14 (Nat.le_of_ble_eq_true rfl) ⟨Nat.zero_le _, Nat.zero_le _⟩ ⟨by omega, by omega⟩ ⟨by omega, by omega⟩ (fun r5 er5 => ?_)
    exact zt_iret hX hR dX0_joined_203 ⟨by omega, by omega⟩ ⟨rfl, by omega, by omega⟩
  · refine zt_tsIn (v := 27) (tgt := 278) hX dX0_joined_1 c1 (by decide) (by decide) (by decide) rfl (by decide) ?_
    refine zt_iconst (pc' := 279) hX dX0_joined_278 rfl ?_
    exact zt_iret hX hR dX0_joined_279 ⟨by omega, by omega⟩ ⟨rfl, by omega, by omega⟩
  · refine zt_tsIn (v := 28) (tgt := 278) hX dX0_joined_1 c1 (by decide) (by decide) (by decide) rfl (by decide) ?_
    refine zt_iconst (pc' := 279) hX dX0_joined_278 rfl ?_
    exact zt_iret hX hR dX0_joined_279 ⟨by omega, by omega⟩ ⟨rfl, by omega, by omega⟩
  · refine zt_tsIn (v := 29) (tgt := 278) hX dX0_joined_1 c1 (by decide) (by decide) (by decide) rfl (by decide) ?_
    refine zt_iconst (pc' := 279) hX dX0_joined_278 rfl ?_
    exact zt_iret hX hR dX0_joined_279 ⟨by omega, by omega⟩ ⟨rfl, by omega, by omega⟩
  · refine zt_tsIn (v := 30) (tgt := 278) hX dX0_joined_1 c1 (by decide) (by decide) (by decide) rfl (by decide) ?_
    refine zt_iconst (pc' := 279) hX dX0_joined_278 rfl ?_
    exact zt_iret hX hR dX0_joined_279 ⟨by omega, by omega⟩ ⟨rfl, by omega, by omega⟩
  · refine zt_tsIn (v := 31) (tgt := 278) hX dX0_joined_1 c1 (by decide) (by decide) (by decide) rfl (by decide) ?_
    refine zt_iconst (pc' := 279) hX dX0_joined_278 rfl ?_
    exact zt_iret hX hR dX0_joined_279 ⟨by omega, by omega⟩ ⟨rfl, by omega, by omega⟩
  · refine zt_tsIn (v := 32) (tgt := 278) hX dX0_joined_1 c1 (by decide) (by decide) (by decide) rfl (by decide) ?_
    refine zt_iconst (pc' := 279) hX dX0_joined_278 rfl ?_
    exact zt_iret hX hR dX0_joined_279 ⟨by omega, by omega⟩ ⟨rfl, by omega, by omega⟩
  · refine zt_tsIn (v := 33) (tgt := 278) hX dX0_joined_1 c1 (by decide) (by decide) (by decide) rfl (by decide) ?_
    refine zt_iconst (pc' := 279) hX dX0_joined_278 rfl ?_
    exact zt_iret hX hR dX0_joined_279 ⟨by omega, by omega⟩ ⟨rfl, by omega, by omega⟩
  · refine zt_tsIn (v := 34) (tgt := 278) hX dX0_joined_1 c1 (by decide) (by decide) (by decide) rfl (by decide) ?_
    refine zt_iconst (pc' := 279) hX dX0_joined_278 rfl ?_
    exact zt_iret hX hR dX0_joined_279 ⟨by omega, by omega⟩ ⟨rfl, by omega, by omega⟩
  · refine zt_tsIn (v := 35) (tgt := 278) hX dX0_joined_1 c1 (by decide) (by decide) (by decide) rfl (by decide) ?_
    refine zt_iconst (pc' := 279) hX dX0_joined_278 rfl ?_
    exact zt_iret hX hR dX0_joined_279 ⟨by omega, by omega⟩ ⟨rfl, by omega, by omega⟩
  · refine zt_tsIn (v := 36) (tgt := 278) hX dX0_joined_1 c1 (by decide) (by decide) (by decide) rfl (by decide) ?_
    refine zt_iconst (pc' := 279) hX dX0_joined_278 rfl ?_
    exact zt_iret hX hR dX0_joined_279 ⟨by omega, by omega⟩ ⟨rfl, by omega, by omega⟩
  · refine zt_tsIn (v := 37) (tgt := 278) hX dX0_joined_1 c1 (by decide) (by decide) (by decide) rfl (by decide) ?_
    refine zt_iconst (pc' := 279) hX dX0_joined_278 rfl ?_
    exact zt_iret hX hR dX0_joined_279 ⟨by omega, by omega⟩ ⟨rfl, by omega, by omega⟩
  · refine zt_tsIn (v := 38) (tgt := 278) hX dX0_joined_1 c1 (by decide) (by decide) (by decide) rfl (by decide) ?_
    refine zt_iconst (pc' := 279) hX dX0_joined_278 rfl ?_
    exact zt_iret hX hR dX0_joined_279 ⟨by omega, by omega⟩ ⟨rfl, by omega, by omega⟩
  · refine zt_tsIn (v := 39) (tgt := 278) hX dX0_joined_1 c1 (by decide) (by decide) (by decide) rfl (by decide) ?_
    refine zt_iconst (pc' := 279) hX dX0_joined_278 rfl ?_
    exact zt_iret hX hR dX0_joined_279 ⟨by omega, by omega⟩ ⟨rfl, by omega, by omega⟩
  · refine zt_tsIn (v := 40) (tgt := 278) hX dX0_joined_1 c1 (by decide) (by decide) (by decide) rfl (by decide) ?_
    refine zt_iconst (pc' := 279) hX dX0_joined_278 rfl ?_
    exact zt_iret hX hR dX0_joined_279 ⟨by omega, by omega⟩ ⟨rfl, by omega, by omega⟩
  · refine zt_tsIn (v := 41) (tgt := 278) hX dX0_joined_1 c1 (by decide) (by decide) (by decide) rfl (by decide) ?_
    refine zt_iconst (pc' := 279) hX dX0_joined_278 rfl ?_
    exact zt_iret hX hR dX0_joined_279 ⟨by omega, by omega⟩ ⟨rfl, by omega, by omega⟩
  · refine zt_tsIn (v := 42) (tgt := 255) hX dX0_joined_1 c1 (by decide) (by decide) (by decide) rfl (by decide) ?_
    refine zt_iload_n (pc' := 256) hX dX0_joined_255 rfl rfl ?_
    refine zt_i2l (pc' := 257) hX dX0_joined_256 rfl ⟨by omega, by omega⟩ ?_
    refine zt_iload_n (pc' := 258) hX dX0_joined_257 rfl rfl ?_
    refine zt_i2l (pc' := 259) hX dX0_joined_258 rfl ⟨by omega, by omega⟩ ?_
    refine zt_lmul (pc' := 260) hX dX0_joined_259 rfl ?_
    generalize hp6 : a1_ * a2_ = p6
    have bp6 : -4611686018427387904 ≤ p6 ∧ p6 ≤ 4611686018427387904 := hp6 ▸ zmul_g (a := 2147483648) (b := 2147483648) (by omega) (by omega) (by omega) (by omega)
    refine zt_cSi (pc' := 263) hX dX0_joined_260 rfl zm_yX0_limited zw_37_2 (zc_X0_limited _ _ σ  p6 ⟨by omega, by omega⟩) rfl rfl (Nat.le_of_ble_eq_true rfl) (by decide) (fun r7 s8 hr9 hp10 => ?_)
    obtain ⟨rfl, q11, q12⟩ := hp10
    exact zt_iret hX hR dX0_joined_263 ⟨by omega, by omega⟩ ⟨rfl, by omega, by omega⟩
  · refine zt_tsIn (v := 43) (tgt := 237) hX dX0_joined_1 c1 (by decide) (by decide) (by decide) rfl (by decide) ?_
    refine zt_iload_n (pc' := 238) hX dX0_joined_237 rfl rfl ?_
    refine zt_i2l (pc' := 239) hX dX0_joined_238 rfl ⟨by omega, by omega⟩ ?_
    refine zt_iload_n (pc' := 240) hX dX0_joined_239 rfl rfl ?_
    refine zt_i2l (pc' := 241) hX dX0_joined_240 rfl ⟨by omega, by omega⟩ ?_
    refine zt_ladd (pc' := 242) hX dX0_joined_241 rfl ?_
    refine zt_cSi (pc' := 245) hX dX0_joined_242 rfl zm_yX0_limited zw_37_2 (zc_X0_limited _ _ σ  (a1_ + a2_) ⟨by omega, by omega⟩) rfl rfl (Nat.le_of_ble_eq_true rfl) (by decide) (fun r13 s14 hr15 hp16 => ?_)
    obtain ⟨rfl, q17, q18⟩ := hp16
    exact zt_iret hX hR dX0_joined_245 ⟨by omega, by omega⟩ ⟨rfl, by omega, by omega⟩
  · refine zt_tsIn (v := 44) (tgt := 278) hX dX0_joined_1 c1 (by decide) (by decide) (by decide) rfl (by decide) ?_
    refine zt_iconst (pc' := 279) hX dX0_joined_278 rfl ?_
    exact zt_iret hX hR dX0_joined_279 ⟨by omega, by omega⟩ ⟨rfl, by omega, by omega⟩
  · refine zt_tsIn (v := 45) (tgt := 246) hX dX0_joined_1 c1 (by decide) (by decide) (by decide) rfl (by decide) ?_
    refine zt_iload_n (pc' := 247) hX dX0_joined_246 rfl rfl ?_
    refine zt_i2l (pc' := 248) hX dX0_joined_247 rfl ⟨by omega, by omega⟩ ?_
    refine zt_iload_n (pc' := 249) hX dX0_joined_248 rfl rfl ?_
    refine zt_i2l (pc' := 250) hX dX0_joined_249 rfl ⟨by omega, by omega⟩ ?_
    refine zt_lsub (pc' := 251) hX dX0_joined_250 rfl ?_
    refine zt_cSi (pc' := 254) hX dX0_joined_251 rfl zm_yX0_limited zw_37_2 (zc_X0_limited _ _ σ  (a1_ - a2_) ⟨by omega, by omega⟩) rfl rfl (Nat.le_of_ble_eq_true rfl) (by decide) (fun r19 s20 hr21 hp22 => ?_)
    obtain ⟨rfl, q23, q24⟩ := hp22
    exact zt_iret hX hR dX0_joined_254 ⟨by omega, by omega⟩ ⟨rfl, by omega, by omega⟩
  · refine zt_tsIn (v := 46) (tgt := 278) hX dX0_joined_1 c1 (by decide) (by decide) (by decide) rfl (by decide) ?_
    refine zt_iconst (pc' := 279) hX dX0_joined_278 rfl ?_
    exact zt_iret hX hR dX0_joined_279 ⟨by omega, by omega⟩ ⟨rfl, by omega, by omega⟩
  · refine zt_tsIn (v := 47) (tgt := 264) hX dX0_joined_1 c1 (by decide) (by decide) (by decide) rfl (by decide) ?_
    refine zt_iload_n (pc' := 265) hX dX0_joined_264 rfl rfl ?_
    refine zt_ifne (pc' := 268) (tgt := 272) hX dX0_joined_265 rfl (by decide) ⟨by omega, by omega⟩ (fun c25 => ?_) (fun c25 => ?_)
    · refine zt_iload_n (pc' := 273) hX dX0_joined_272 rfl rfl ?_
      refine zt_iload_n (pc' := 274) hX dX0_joined_273 rfl rfl ?_
      refine zt_cSi (pc' := 277) hX dX0_joined_274 rfl zm_yJ9_floorDiv_7cf53 zw_37_9 (zc_J9_floorDiv _ _ σ  a1_ ⟨by omega, by omega⟩ a2_ ⟨by omega, by omega⟩ (by omega)) rfl rfl (Nat.le_of_ble_eq_true rfl) (by decide) (fun r26 s27 hr28 hp29 => ?_)
      obtain ⟨rfl, q30, q31⟩ := hp29
      exact zt_iret hX hR dX0_joined_277 ⟨by omega, by omega⟩ ⟨rfl, by omega, by omega⟩
    · refine zt_iconst (pc' := 269) hX dX0_joined_268 rfl ?_
      refine zt_goto (tgt := 277) hX dX0_joined_269 (by decide) ?_
      exact zt_iret hX hR dX0_joined_277 ⟨by omega, by omega⟩ ⟨rfl, by omega, by omega⟩
  · refine zt_tsIn (v := 48) (tgt := 278) hX dX0_joined_1 c1 (by decide) (by decide) (by decide) rfl (by decide) ?_
    refine zt_iconst (pc' := 279) hX dX0_joined_278 rfl ?_
    exact zt_iret hX hR dX0_joined_279 ⟨by omega, by omega⟩ ⟨rfl, by omega, by omega⟩
  · refine zt_tsIn (v := 49) (tgt := 278) hX dX0_joined_1 c1 (by decide) (by decide) (by decide) rfl (by decide) ?_
    refine zt_iconst (pc' := 279) hX dX0_joined_278 rfl ?_
    exact zt_iret hX hR dX0_joined_279 ⟨by omega, by omega⟩ ⟨rfl, by omega, by omega⟩
  · refine zt_tsIn (v := 50) (tgt := 278) hX dX0_joined_1 c1 (by decide) (by decide) (by decide) rfl (by decide) ?_
    refine zt_iconst (pc' := 279) hX dX0_joined_278 rfl ?_
    exact zt_iret hX hR dX0_joined_279 ⟨by omega, by omega⟩ ⟨rfl, by omega, by omega⟩
  · refine zt_tsIn (v := 51) (tgt := 278) hX dX0_joined_1 c1 (by decide) (by decide) (by decide) rfl (by decide) ?_
    refine zt_iconst (pc' := 279) hX dX0_joined_278 rfl ?_
    exact zt_iret hX hR dX0_joined_279 ⟨by omega, by omega⟩ ⟨rfl, by omega, by omega⟩
  · refine zt_tsIn (v := 52) (tgt := 278) hX dX0_joined_1 c1 (by decide) (by decide) (by decide) rfl (by decide) ?_
    refine zt_iconst (pc' := 279) hX dX0_joined_278 rfl ?_
    exact zt_iret hX hR dX0_joined_279 ⟨by omega, by omega⟩ ⟨rfl, by omega, by omega⟩
  · refine zt_tsIn (v := 53) (tgt := 278) hX dX0_joined_1 c1 (by decide) (by decide) (by decide) rfl (by decide) ?_
    refine zt_iconst (pc' := 279) hX dX0_joined_278 rfl ?_
    exact zt_iret hX hR dX0_joined_279 ⟨by omega, by omega⟩ ⟨rfl, by omega, by omega⟩
  · refine zt_tsIn (v := 54) (tgt := 278) hX dX0_joined_1 c1 (by decide) (by decide) (by decide) rfl (by decide) ?_
    refine zt_iconst (pc' := 279) hX dX0_joined_278 rfl ?_
    exact zt_iret hX hR dX0_joined_279 ⟨by omega, by omega⟩ ⟨rfl, by omega, by omega⟩
  · refine zt_tsIn (v := 55) (tgt := 278) hX dX0_joined_1 c1 (by decide) (by decide) (by decide) rfl (by decide) ?_
    refine zt_iconst (pc' := 279) hX dX0_joined_278 rfl ?_
    exact zt_iret hX hR dX0_joined_279 ⟨by omega, by omega⟩ ⟨rfl, by omega, by omega⟩
  · refine zt_tsIn (v := 56) (tgt := 278) hX dX0_joined_1 c1 (by decide) (by decide) (by decide) rfl (by decide) ?_
    refine zt_iconst (pc' := 279) hX dX0_joined_278 rfl ?_
    exact zt_iret hX hR dX0_joined_279 ⟨by omega, by omega⟩ ⟨rfl, by omega, by omega⟩
  · refine zt_tsIn (v := 57) (tgt := 278) hX dX0_joined_1 c1 (by decide) (by decide) (by decide) rfl (by decide) ?_
    refine zt_iconst (pc' := 279) hX dX0_joined_278 rfl ?_
    exact zt_iret hX hR dX0_joined_279 ⟨by omega, by omega⟩ ⟨rfl, by omega, by omega⟩
  · refine zt_tsIn (v := 58) (tgt := 278) hX dX0_joined_1 c1 (by decide) (by decide) (by decide) rfl (by decide) ?_
    refine zt_iconst (pc' := 279) hX dX0_joined_278 rfl ?_
    exact zt_iret hX hR dX0_joined_279 ⟨by omega, by omega⟩ ⟨rfl, by omega, by omega⟩
  · refine zt_tsIn (v := 59) (tgt := 278) hX dX0_joined_1 c1 (by decide) (by decide) (by decide) rfl (by decide) ?_
    refine zt_iconst (pc' := 279) hX dX0_joined_278 rfl ?_
    exact zt_iret hX hR dX0_joined_279 ⟨by omega, by omega⟩ ⟨rfl, by omega, by omega⟩
  · refine zt_tsIn (v := 60) (tgt := 204) hX dX0_joined_1 c1 (by decide) (by decide) (by decide) rfl (by decide) ?_
    refine zt_iload_n (pc' := 205) hX dX0_joined_204 rfl rfl ?_
    refine zt_iload_n (pc' := 206) hX dX0_joined_205 rfl rfl ?_
    refine zt_icge (pc' := 209) (tgt := 213) hX dX0_joined_206 rfl (by decide) ⟨by omega, by omega⟩ ⟨by omega, by omega⟩ (fun c32 => ?_) (fun c32 => ?_)
    · refine zt_iconst (pc' := 214) hX dX0_joined_213 rfl ?_
      exact zt_iret hX hR dX0_joined_214 ⟨by omega, by omega⟩ ⟨rfl, by omega, by omega⟩
    · refine zt_iconst (pc' := 210) hX dX0_joined_209 rfl ?_
      refine zt_goto (tgt := 214) hX dX0_joined_210 (by decide) ?_
      exact zt_iret hX hR dX0_joined_214 ⟨by omega, by omega⟩ ⟨rfl, by omega, by omega⟩
  · refine zt_tsIn (v := 61) (tgt := 226) hX dX0_joined_1 c1 (by decide) (by decide) (by decide) rfl (by decide) ?_
    refine zt_iload_n (pc' := 227) hX dX0_joined_226 rfl rfl ?_
    refine zt_iload_n (pc' := 228) hX dX0_joined_227 rfl rfl ?_
    refine zt_icne (pc' := 231) (tgt := 235) hX dX0_joined_228 rfl (by decide) ⟨by omega, by omega⟩ ⟨by omega, by omega⟩ (fun c33 => ?_) (fun c33 => ?_)
    · refine zt_iconst (pc' := 236) hX dX0_joined_235 rfl ?_
      exact zt_iret hX hR dX0_joined_236 ⟨by omega, by omega⟩ ⟨rfl, by omega, by omega⟩
    · refine zt_iconst (pc' := 232) hX dX0_joined_231 rfl ?_
      refine zt_goto (tgt := 236) hX dX0_joined_232 (by decide) ?_
      exact zt_iret hX hR dX0_joined_236 ⟨by omega, by omega⟩ ⟨rfl, by omega, by omega⟩
  · refine zt_tsIn (v := 62) (tgt := 215) hX dX0_joined_1 c1 (by decide) (by decide) (by decide) rfl (by decide) ?_
    refine zt_iload_n (pc' := 216) hX dX0_joined_215 rfl rfl ?_
    refine zt_iload_n (pc' := 217) hX dX0_joined_216 rfl rfl ?_
    refine zt_icle (pc' := 220) (tgt := 224) hX dX0_joined_217 rfl (by decide) ⟨by omega, by omega⟩ ⟨by omega, by omega⟩ (fun c34 => ?_) (fun c34 => ?_)
    · refine zt_iconst (pc' := 225) hX dX0_joined_224 rfl ?_
      exact zt_iret hX hR dX0_joined_225 ⟨by omega, by omega⟩ ⟨rfl, by omega, by omega⟩
    · refine zt_iconst (pc' := 221) hX dX0_joined_220 rfl ?_
      refine zt_goto (tgt := 225) hX dX0_joined_221 (by decide) ?_
      exact zt_iret hX hR dX0_joined_225 ⟨by omega, by omega⟩ ⟨rfl, by omega, by omega⟩
  · refine zt_tsOut (tgt := 278) hX dX0_joined_1 ⟨by omega, by omega⟩ c1 (by decide) ?_
    refine zt_iconst (pc' := 279) hX dX0_joined_278 rfl ?_
    exact zt_iret hX hR dX0_joined_279 ⟨by omega, by omega⟩ ⟨rfl, by omega, by omega⟩

set_option maxRecDepth 100000 in
set_option maxHeartbeats 4000000 in
theorem zc_X0_farTo (l : Launch) (E : zEN) (σ : zSto) (hI : zInv σ) (a1_ : Int) (ha1_ : -2147483648 ≤ a1_ ∧ a1_ ≤ 2147483647) : zCt l E yX0_farTo cX0_farTo 2 (some .int) 0 zNC zNC 0 0 σ [.ref (E.1 + 154), .int (zI a1_)] (fun r σ' => σ = σ' ∧ -2147483648 ≤ r ∧ r ≤ 2147483647) := by
  refine zCt_of2 [some (.ref (E.1 + 154)), some (.int (zI a1_))] (by decide +kernel) (Nat.le_of_ble_eq_true rfl) rfl ?_
  intro X hE hX hR hL hN
  subst hE
  have hX : zok X cX0_farTo RX0 0 := hX
  refine zt_iload_n (pc' := 1) hX dX0_farTo_0 rfl rfl ?_
  refine zt_iflt (pc' := 4) (tgt := 21) hX dX0_farTo_1 rfl (by decide) ⟨by omega, by omega⟩ (fun c1 => ?_) (fun c1 => ?_)
  · refine zt_iconst (pc' := 22) hX dX0_farTo_21 rfl ?_
    exact zt_iret hX hR dX0_farTo_22 ⟨by omega, by omega⟩ ⟨rfl, by omega, by omega⟩
  · refine zt_iload_n (pc' := 5) hX dX0_farTo_4 rfl rfl ?_
    refine zt_aload_n (pc' := 6) hX dX0_farTo_5 rfl rfl ?_
    have b2 := zv_36_3 hI zc_154
    refine zt_get (pc' := 9) (v := .int (zI (σ 154 3))) hX dX0_farTo_6 rfl zf_X0_21 (by decide) zc_154 zs_36 rfl ?_
    refine zt_icge (pc' := 12) (tgt := 21) hX dX0_farTo_9 rfl (by decide) ⟨by omega, by omega⟩ ⟨by omega, by omega⟩ (fun c3 => ?_) (fun c3 => ?_)
    · refine zt_iconst (pc' := 22) hX dX0_farTo_21 rfl ?_
      exact zt_iret hX hR dX0_farTo_22 ⟨by omega, by omega⟩ ⟨rfl, by omega, by omega⟩
    · refine zt_aload_n (pc' := 13) hX dX0_farTo_12 rfl rfl ?_
      refine zt_get (pc' := 16) (v := .ref (X.1.1 + 157)) hX dX0_farTo_13 rfl zf_X0_18 (by decide) zc_154 zs_36 (zrf_of (zv_36_2 hI zc_154)) ?_
      refine zt_iload_n (pc' := 17) hX dX0_farTo_16 rfl rfl ?_
      refine zt_iald (pc' := 18) hX dX0_farTo_17 rfl (by decide) zc_157 zs_39 (by decide) ⟨by omega, by omega⟩ ?_
      generalize hv4 : σ 157 (a1_.toNat) = v4
      have bv4 : -2147483648 ≤ v4 ∧ v4 ≤ 2147483647 := hv4 ▸ zv_39 hI zc_157 _
      refine zt_goto (tgt := 22) hX dX0_farTo_18 (by decide) ?_
      exact zt_iret hX hR dX0_farTo_22 ⟨by omega, by omega⟩ ⟨rfl, by omega, by omega⟩

set_option maxRecDepth 100000 in
set_option maxHeartbeats 4000000 in
theorem zc_X0_run (l : Launch) (E : zEN) (σ : zSto) (hI : zInv σ) (k1_ : Nat) (hk1_ : zro k1_ = 6) : zCt l E yX0_run cX0_run 6 (some .int) 2 zNC zNC 0 0 σ [.ref (E.1 + 154), .ref (E.1 + k1_)] (fun r σ' => zInv σ' ∧ zFE σ σ' ∧ -2147483648 ≤ r ∧ r ≤ 2147483647) := by
  refine zCt_of2 [some (.ref (E.1 + 154)), some (.ref (E.1 + k1_)), none, none, none, none] (by decide +kernel) (Nat.le_of_ble_eq_true rfl) rfl ?_
  intro X hE hX hR hL hN
  subst hE
  have hX : zok X cX0_run RX0 2 := hX
  have hF := zFE_rf σ
  refine zt_iconst (pc' := 1) hX dX0_run_0 rfl ?_
  refine zt_istore_n (pc' := 2) (lv' := [some (.ref (X.1.1 + 154)), some (.ref (X.1.1 + k1_)), some (.int (zI 0)), none, none, none]) hX dX0_run_1 rfl hL (by decide) rfl ?_
  refine zt_iconst (pc' := 3) hX dX0_run_2 rfl ?_
  refine zt_istore_n (pc' := 4) (lv' := [some (.ref (X.1.1 + 154)), some (.ref (X.1.1 + k1_)), some (.int (zI 0)), some (.int (zI 0)), none, none]) hX dX0_run_3 rfl hL (by decide) rfl ?_
  have L_4_9 : ∀ (N : Nat) (x1 : Int) (x4 : Int) (s7 : zSto), 0 ≤ x1 → x1 ≤ 40 → 0 ≤ x4 → x4 ≤ 1600 → zInv s7 → zFE σ s7 → ((1601 - x4).toNat) < N → zF X s7 4 [some (.ref (X.1.1 + 154)), some (.ref (X.1.1 + k1_)), some (.int (zI x1)), some (.int (zI x4)), none, none] [] := by
    intro N
    induction N with
    | zero =>
      intro x1 x4 s7 h2 h3 h5 h6 hI8 hF9 hm11
      exact absurd hm11 (Nat.not_lt_zero _)
    | succ N ih12 =>
      intro x1 x4 s7 h2 h3 h5 h6 hI8 hF9 hm11
      refine zt_iload_n (pc' := 5) hX dX0_run_4 rfl rfl ?_
      refine zt_aload_n (pc' := 6) hX dX0_run_5 rfl rfl ?_
      have b13 := zv_6_1 hI8 hk1_
      refine zt_get (pc' := 9) (v := .int (zI (s7 k1_ 1))) hX dX0_run_6 rfl zf_X0_25 (zro_lt hk1_ (by decide)) hk1_ zs_6 rfl ?_
      refine zt_icge (pc' := 12) (tgt := 209) hX dX0_run_9 rfl (by decide) ⟨by omega, by omega⟩ ⟨by omega, by omega⟩ (fun c14 => ?_) (fun c14 => ?_)
      · refine zt_aload_n (pc' := 210) hX dX0_run_209 rfl rfl ?_
        refine zt_get (pc' := 213) (v := .ref (X.1.1 + 156)) hX dX0_run_210 rfl zf_X0_15 (by decide) zc_154 zs_36 (zrf_of (zv_36_1 hI8 zc_154)) ?_
        refine zt_iconst (pc' := 214) hX dX0_run_213 rfl ?_
        refine zt_iald (pc' := 215) hX dX0_run_214 rfl (by decide) zc_156 zs_38 (by decide) ⟨by omega, by omega⟩ ?_
        rw [show Int.toNat 0 = 0 from rfl]
        have b16 := zv_38 hI8 zc_156 0
        exact zt_iret hX hR dX0_run_215 ⟨by omega, by omega⟩ ⟨hI8, hF9, by omega, by omega⟩
      · refine zt_aload_n (pc' := 13) hX dX0_run_12 rfl rfl ?_
        refine zt_get (pc' := 16) (v := .ref (X.1.1 + (k1_ + 1))) hX dX0_run_13 rfl zf_X0_30 (zro_lt hk1_ (by decide)) hk1_ zs_6 (zrf_of (zv_6_0 hI8 hk1_)) ?_
        refine zt_iload_n (pc' := 17) hX dX0_run_16 rfl rfl ?_
        refine zt_iald (pc' := 18) hX dX0_run_17 rfl (zro_lt (zo_6_0 hk1_) (by decide)) (zo_6_0 hk1_) zs_7 (by decide) ⟨by omega, by omega⟩ ?_
        generalize hv17 : s7 (k1_ + 1) (x4.toNat) = v17
        have bv17 : -2147483648 ≤ v17 ∧ v17 ≤ 2147483647 := hv17 ▸ zv_7 hI8 (zo_6_0 hk1_) _
        refine zt_istore (pc' := 20) (lv' := [some (.ref (X.1.1 + 154)), some (.ref (X.1.1 + k1_)), some (.int (zI x1)), some (.int (zI x4)), some (.int (zI v17)), none]) hX dX0_run_18 rfl hL (by decide) rfl ?_
        refine zt_iload (pc' := 22) hX dX0_run_20 rfl rfl ?_
        refine zt_iconst (pc' := 23) hX dX0_run_22 rfl ?_
        refine zt_ixor (pc' := 24) hX dX0_run_23 rfl (fun r18 zr18 lr18 ur18 => ?_)
        clear zr18
        refine zt_istore (pc' := 26) (lv' := [some (.ref (X.1.1 + 154)), some (.ref (X.1.1 + k1_)), some (.int (zI x1)), some (.int (zI x4)), some (.int (zI v17)), some (.int (zI r18))]) hX dX0_run_24 rfl hL (by decide) rfl ?_
        refine zt_iload (pc' := 28) hX dX0_run_26 rfl rfl ?_
        have J_203_24 : ∀ (x19 : Int) (s22 : zSto), 0 ≤ x19 → x19 ≤ 40 → zInv s22 → zFE σ s22 → zF X s22 203 [some (.ref (X.1.1 + 154)), some (.ref (X.1.1 + k1_)), some (.int (zI x19)), some (.int (zI x4)), none, none] [] := by
          intro x19 s22 h20 h21 hI23 hF24
          refine zt_iinc (pc' := 206) (lv' := [some (.ref (X.1.1 + 154)), some (.ref (X.1.1 + k1_)), some (.int (zI x19)), some (.int (zI (x4 + 1))), none, none]) hX dX0_run_203 rfl rfl hL (by decide) rfl ?_
          refine zt_goto (tgt := 4) hX dX0_run_206 (by decide) ?_
          exact ih12 x19 (x4 + 1) s22 (by omega) (by omega) (by omega) (by omega) hI23 (by omega) (by omega)
        have J_54_25 : zF X s7 54 [some (.ref (X.1.1 + 154)), some (.ref (X.1.1 + k1_)), some (.int (zI x1)), some (.int (zI x4)), none, some (.int (zI r18))] [] := by
          refine zt_iload (pc' := 56) hX dX0_run_54 rfl rfl ?_
          refine zt_cSz (pc' := 59) hX dX0_run_56 rfl zm_yX0_takesTwo zw_36_16 (zc_X0_takesTwo _ _ s7  r18 ⟨by omega, by omega⟩) rfl rfl (Nat.le_of_ble_eq_true rfl) (by decide) (fun r27 s28 hr29 hp30 => ?_)
          obtain ⟨rfl, q31, q32⟩ := hp30
          have J_100_32 : zF X s7 100 [some (.ref (X.1.1 + 154)), some (.ref (X.1.1 + k1_)), some (.int (zI x1)), some (.int (zI x4)), none, some (.int (zI r18))] [] := by
            refine zt_iload (pc' := 102) hX dX0_run_100 rfl rfl ?_
            refine zt_bipush (pc' := 104) hX dX0_run_102 rfl (by decide) (by decide) ?_
            have J_132_33 : zF X s7 132 [some (.ref (X.1.1 + 154)), some (.ref (X.1.1 + k1_)), some (.int (zI x1)), some (.int (zI x4)), none, some (.int (zI r18))] [] := by
              refine zt_iload (pc' := 134) hX dX0_run_132 rfl rfl ?_
              refine zt_bipush (pc' := 136) hX dX0_run_134 rfl (by decide) (by decide) ?_
              have J_166_34 : zF X s7 166 [some (.ref (X.1.1 + 154)), some (.ref (X.1.1 + k1_)), some (.int (zI x1)), some (.int (zI x4)), none, some (.int (zI r18))] [] := by
                refine zt_iload (pc' := 168) hX dX0_run_166 rfl rfl ?_
                refine zt_iflt (pc' := 171) (tgt := 203) hX dX0_run_168 rfl (by decide) ⟨by omega, by omega⟩ (fun c36 => ?_) (fun c36 => ?_)
                · refine zt_mask [true, true, true, true, false, false] rfl ?_
                  exact J_203_24 x1 s7 (by omega) (by omega) hI8 (by omega)
                · refine zt_iload (pc' := 173) hX dX0_run_171 rfl rfl ?_
                  refine zt_bipush (pc' := 175) hX dX0_run_173 rfl (by decide) (by decide) ?_
                  refine zt_icge (pc' := 178) (tgt := 203) hX dX0_run_175 rfl (by decide) ⟨by omega, by omega⟩ ⟨by omega, by omega⟩ (fun c37 => ?_) (fun c37 => ?_)
                  · refine zt_mask [true, true, true, true, false, false] rfl ?_
                    exact J_203_24 x1 s7 (by omega) (by omega) hI8 (by omega)
                  · refine zt_iload_n (pc' := 179) hX dX0_run_178 rfl rfl ?_
                    refine zt_aload_n (pc' := 180) hX dX0_run_179 rfl rfl ?_
                    refine zt_get (pc' := 183) (v := .ref (X.1.1 + 156)) hX dX0_run_180 rfl zf_X0_15 (by decide) zc_154 zs_36 (zrf_of (zv_36_1 hI8 zc_154)) ?_
                    refine zt_alen (pc' := 184) hX dX0_run_183 rfl (by decide) zc_156 zs_38 (by decide) ?_
                    rw [show ((40 : Nat) : Int) = 40 from rfl]
                    refine zt_icge (pc' := 187) (tgt := 203) hX dX0_run_184 rfl (by decide) ⟨by omega, by omega⟩ ⟨by omega, by omega⟩ (fun c38 => ?_) (fun c38 => ?_)
                    · refine zt_mask [true, true, true, true, false, false] rfl ?_
                      exact J_203_24 x1 s7 (by omega) (by omega) hI8 (by omega)
                    · refine zt_aload_n (pc' := 188) hX dX0_run_187 rfl rfl ?_
                      refine zt_get (pc' := 191) (v := .ref (X.1.1 + 156)) hX dX0_run_188 rfl zf_X0_15 (by decide) zc_154 zs_36 (zrf_of (zv_36_1 hI8 zc_154)) ?_
                      refine zt_iload_n (pc' := 192) hX dX0_run_191 rfl rfl ?_
                      refine zt_aload_n (pc' := 193) hX dX0_run_192 rfl rfl ?_
                      refine zt_get (pc' := 196) (v := .ref (X.1.1 + 155)) hX dX0_run_193 rfl zf_X0_9 (by decide) zc_154 zs_36 (zrf_of (zv_36_0 hI8 zc_154)) ?_
                      refine zt_iload (pc' := 198) hX dX0_run_196 rfl rfl ?_
                      refine zt_iald (pc' := 199) hX dX0_run_198 rfl (by decide) zc_155 zs_37 (by decide) ⟨by omega, by omega⟩ ?_
                      generalize hv39 : s7 155 (r18.toNat) = v39
                      have bv39 : -2147483648 ≤ v39 ∧ v39 ≤ 2147483647 := hv39 ▸ zv_37 hI8 zc_155 _
                      refine zt_iast (pc' := 200) hX dX0_run_199 rfl (by decide) zc_156 zs_38 (by decide) ⟨by omega, by omega⟩ ?_
                      generalize hs41 : zset s7 156 (x1.toNat) v39 = s40
                      have hI42 : zInv s40 := hs41 ▸ zp_38 hI8 zc_156 (x1.toNat) ⟨by omega, by omega⟩
                      have hF43 : zFE σ s40 := hs41 ▸ zFE_set hF9 zc_156 (by decide) zke_38 (Or.inl (by decide)) (Or.inl (by decide))
                      refine zt_iinc (pc' := 203) (lv' := [some (.ref (X.1.1 + 154)), some (.ref (X.1.1 + k1_)), some (.int (zI (x1 + 1))), some (.int (zI x4)), none, some (.int (zI r18))]) hX dX0_run_200 rfl rfl hL (by decide) rfl ?_
                      refine zt_mask [true, true, true, true, false, false] rfl ?_
                      exact J_203_24 (x1 + 1) s40 (by omega) (by omega) hI42 (by omega)
              refine zt_icne (pc' := 139) (tgt := 166) hX dX0_run_136 rfl (by decide) ⟨by omega, by omega⟩ ⟨by omega, by omega⟩ (fun c44 => ?_) (fun c44 => ?_)
              · exact J_166_34
              · refine zt_iload_n (pc' := 140) hX dX0_run_139 rfl rfl ?_
                refine zt_ifle (pc' := 143) (tgt := 166) hX dX0_run_140 rfl (by decide) ⟨by omega, by omega⟩ (fun c45 => ?_) (fun c45 => ?_)
                · exact J_166_34
                · refine zt_aload_n (pc' := 144) hX dX0_run_143 rfl rfl ?_
                  refine zt_get (pc' := 147) (v := .ref (X.1.1 + 156)) hX dX0_run_144 rfl zf_X0_15 (by decide) zc_154 zs_36 (zrf_of (zv_36_1 hI8 zc_154)) ?_
                  refine zt_iload_n (pc' := 148) hX dX0_run_147 rfl rfl ?_
                  refine zt_iconst (pc' := 149) hX dX0_run_148 rfl ?_
                  refine zt_isub (pc' := 150) hX dX0_run_149 rfl ?_
                  refine zt_aload_n (pc' := 151) hX dX0_run_150 rfl rfl ?_
                  refine zt_aload_n (pc' := 152) hX dX0_run_151 rfl rfl ?_
                  refine zt_get (pc' := 155) (v := .ref (X.1.1 + 156)) hX dX0_run_152 rfl zf_X0_15 (by decide) zc_154 zs_36 (zrf_of (zv_36_1 hI8 zc_154)) ?_
                  refine zt_iload_n (pc' := 156) hX dX0_run_155 rfl rfl ?_
                  refine zt_iconst (pc' := 157) hX dX0_run_156 rfl ?_
                  refine zt_isub (pc' := 158) hX dX0_run_157 rfl ?_
                  refine zt_iald (pc' := 159) hX dX0_run_158 rfl (by decide) zc_156 zs_38 (by decide) ⟨by omega, by omega⟩ ?_
                  generalize hv46 : s7 156 ((x1 - 1).toNat) = v46
                  have bv46 : -2147483648 ≤ v46 ∧ v46 ≤ 2147483647 := hv46 ▸ zv_38 hI8 zc_156 _
                  refine zt_cVi (pc' := 162) hX dX0_run_159 rfl zm_yX0_farTo zw_37_13 zc_154 (by decide) zs_36 (q := (RX0, TX0, 4)) rfl rfl (zc_X0_farTo _ _ s7 hI8 v46 ⟨by omega, by omega⟩) rfl rfl (Nat.le_of_ble_eq_true rfl) (by decide) (fun r47 s48 hr49 hp50 => ?_)
                  obtain ⟨rfl, q51, q52⟩ := hp50
                  refine zt_iast (pc' := 163) hX dX0_run_162 rfl (by decide) zc_156 zs_38 (by decide) ⟨by omega, by omega⟩ ?_
                  generalize hs54 : zset s7 156 ((x1 - 1).toNat) r47 = s53
                  have hI55 : zInv s53 := hs54 ▸ zp_38 hI8 zc_156 ((x1 - 1).toNat) ⟨by omega, by omega⟩
                  have hF56 : zFE σ s53 := hs54 ▸ zFE_set hF9 zc_156 (by decide) zke_38 (Or.inl (by decide)) (Or.inl (by decide))
                  refine zt_goto (tgt := 203) hX dX0_run_163 (by decide) ?_
                  refine zt_mask [true, true, true, true, false, false] rfl ?_
                  exact J_203_24 x1 s53 (by omega) (by omega) hI55 (by omega)
            refine zt_icne (pc' := 107) (tgt := 132) hX dX0_run_104 rfl (by decide) ⟨by omega, by omega⟩ ⟨by omega, by omega⟩ (fun c57 => ?_) (fun c57 => ?_)
            · exact J_132_33
            · refine zt_iload_n (pc' := 108) hX dX0_run_107 rfl rfl ?_
              refine zt_ifle (pc' := 111) (tgt := 132) hX dX0_run_108 rfl (by decide) ⟨by omega, by omega⟩ (fun c58 => ?_) (fun c58 => ?_)
              · exact J_132_33
              · refine zt_aload_n (pc' := 112) hX dX0_run_111 rfl rfl ?_
                refine zt_get (pc' := 115) (v := .ref (X.1.1 + 156)) hX dX0_run_112 rfl zf_X0_15 (by decide) zc_154 zs_36 (zrf_of (zv_36_1 hI8 zc_154)) ?_
                refine zt_iload_n (pc' := 116) hX dX0_run_115 rfl rfl ?_
                refine zt_iconst (pc' := 117) hX dX0_run_116 rfl ?_
                refine zt_isub (pc' := 118) hX dX0_run_117 rfl ?_
                refine zt_iconst (pc' := 119) hX dX0_run_118 rfl ?_
                refine zt_aload_n (pc' := 120) hX dX0_run_119 rfl rfl ?_
                refine zt_get (pc' := 123) (v := .ref (X.1.1 + 156)) hX dX0_run_120 rfl zf_X0_15 (by decide) zc_154 zs_36 (zrf_of (zv_36_1 hI8 zc_154)) ?_
                refine zt_iload_n (pc' := 124) hX dX0_run_123 rfl rfl ?_
                refine zt_iconst (pc' := 125) hX dX0_run_124 rfl ?_
                refine zt_isub (pc' := 126) hX dX0_run_125 rfl ?_
                refine zt_iald (pc' := 127) hX dX0_run_126 rfl (by decide) zc_156 zs_38 (by decide) ⟨by omega, by omega⟩ ?_
                generalize hv59 : s7 156 ((x1 - 1).toNat) = v59
                have bv59 : -2147483648 ≤ v59 ∧ v59 ≤ 2147483647 := hv59 ▸ zv_38 hI8 zc_156 _
                refine zt_isub (pc' := 128) hX dX0_run_127 rfl ?_
                refine zt_wrap (fun r60 zr60 lr60 ur60 => ?_)
                clear zr60
                refine zt_iast (pc' := 129) hX dX0_run_128 rfl (by decide) zc_156 zs_38 (by decide) ⟨by omega, by omega⟩ ?_
                generalize hs62 : zset s7 156 ((x1 - 1).toNat) r60 = s61
                have hI63 : zInv s61 := hs62 ▸ zp_38 hI8 zc_156 ((x1 - 1).toNat) ⟨by omega, by omega⟩
                have hF64 : zFE σ s61 := hs62 ▸ zFE_set hF9 zc_156 (by decide) zke_38 (Or.inl (by decide)) (Or.inl (by decide))
                refine zt_goto (tgt := 203) hX dX0_run_129 (by decide) ?_
                refine zt_mask [true, true, true, true, false, false] rfl ?_
                exact J_203_24 x1 s61 (by omega) (by omega) hI63 (by omega)
          refine zt_ifeq (pc' := 62) (tgt := 100) hX dX0_run_59 rfl (by decide) ⟨by omega, by omega⟩ (fun c65 => ?_) (fun c65 => ?_)
          · exact J_100_32
          · refine zt_iload_n (pc' := 63) hX dX0_run_62 rfl rfl ?_
            refine zt_iconst (pc' := 64) hX dX0_run_63 rfl ?_
            refine zt_icle (pc' := 67) (tgt := 100) hX dX0_run_64 rfl (by decide) ⟨by omega, by omega⟩ ⟨by omega, by omega⟩ (fun c66 => ?_) (fun c66 => ?_)
            · exact J_100_32
            · refine zt_iinc (pc' := 70) (lv' := [some (.ref (X.1.1 + 154)), some (.ref (X.1.1 + k1_)), some (.int (zI (x1 + (-1)))), some (.int (zI x4)), none, some (.int (zI r18))]) hX dX0_run_67 rfl rfl hL (by decide) rfl ?_
              refine zt_aload_n (pc' := 71) hX dX0_run_70 rfl rfl ?_
              refine zt_get (pc' := 74) (v := .ref (X.1.1 + 156)) hX dX0_run_71 rfl zf_X0_15 (by decide) zc_154 zs_36 (zrf_of (zv_36_1 hI8 zc_154)) ?_
              refine zt_iload_n (pc' := 75) hX dX0_run_74 rfl rfl ?_
              refine zt_iconst (pc' := 76) hX dX0_run_75 rfl ?_
              refine zt_isub (pc' := 77) hX dX0_run_76 rfl ?_
              refine zt_iload (pc' := 79) hX dX0_run_77 rfl rfl ?_
              refine zt_aload_n (pc' := 80) hX dX0_run_79 rfl rfl ?_
              refine zt_get (pc' := 83) (v := .ref (X.1.1 + 156)) hX dX0_run_80 rfl zf_X0_15 (by decide) zc_154 zs_36 (zrf_of (zv_36_1 hI8 zc_154)) ?_
              refine zt_iload_n (pc' := 84) hX dX0_run_83 rfl rfl ?_
              refine zt_iconst (pc' := 85) hX dX0_run_84 rfl ?_
              refine zt_isub (pc' := 86) hX dX0_run_85 rfl ?_
              refine zt_iald (pc' := 87) hX dX0_run_86 rfl (by decide) zc_156 zs_38 (by decide) ⟨by omega, by omega⟩ ?_
              generalize hv67 : s7 156 (((x1 + (-1)) - 1).toNat) = v67
              have bv67 : -2147483648 ≤ v67 ∧ v67 ≤ 2147483647 := hv67 ▸ zv_38 hI8 zc_156 _
              refine zt_aload_n (pc' := 88) hX dX0_run_87 rfl rfl ?_
              refine zt_get (pc' := 91) (v := .ref (X.1.1 + 156)) hX dX0_run_88 rfl zf_X0_15 (by decide) zc_154 zs_36 (zrf_of (zv_36_1 hI8 zc_154)) ?_
              refine zt_iload_n (pc' := 92) hX dX0_run_91 rfl rfl ?_
              refine zt_iald (pc' := 93) hX dX0_run_92 rfl (by decide) zc_156 zs_38 (by decide) ⟨by omega, by omega⟩ ?_
              generalize hv68 : s7 156 ((x1 + (-1)).toNat) = v68
              have bv68 : -2147483648 ≤ v68 ∧ v68 ≤ 2147483647 := hv68 ▸ zv_38 hI8 zc_156 _
              refine zt_cSi (pc' := 96) hX dX0_run_93 rfl zm_yX0_joined zw_36_19 (zc_X0_joined _ _ s7  r18 ⟨by omega, by omega⟩ v67 ⟨by omega, by omega⟩ v68 ⟨by omega, by omega⟩) rfl rfl (Nat.le_of_ble_eq_true rfl) (by decide) (fun r69 s70 hr71 hp72 => ?_)
              obtain ⟨rfl, q73, q74⟩ := hp72
              refine zt_iast (pc' := 97) hX dX0_run_96 rfl (by decide) zc_156 zs_38 (by decide) ⟨by omega, by omega⟩ ?_
              generalize hs76 : zset s7 156 (((x1 + (-1)) - 1).toNat) r69 = s75
              have hI77 : zInv s75 := hs76 ▸ zp_38 hI8 zc_156 (((x1 + (-1)) - 1).toNat) ⟨by omega, by omega⟩
              have hF78 : zFE σ s75 := hs76 ▸ zFE_set hF9 zc_156 (by decide) zke_38 (Or.inl (by decide)) (Or.inl (by decide))
              refine zt_goto (tgt := 203) hX dX0_run_97 (by decide) ?_
              refine zt_mask [true, true, true, true, false, false] rfl ?_
              exact J_203_24 (x1 + (-1)) s75 (by omega) (by omega) hI77 (by omega)
        refine zt_iflt (pc' := 31) (tgt := 54) hX dX0_run_28 rfl (by decide) ⟨by omega, by omega⟩ (fun c79 => ?_) (fun c79 => ?_)
        · refine zt_mask [true, true, true, true, false, true] rfl ?_
          exact J_54_25
        · refine zt_iload_n (pc' := 32) hX dX0_run_31 rfl rfl ?_
          refine zt_aload_n (pc' := 33) hX dX0_run_32 rfl rfl ?_
          refine zt_get (pc' := 36) (v := .ref (X.1.1 + 156)) hX dX0_run_33 rfl zf_X0_15 (by decide) zc_154 zs_36 (zrf_of (zv_36_1 hI8 zc_154)) ?_
          refine zt_alen (pc' := 37) hX dX0_run_36 rfl (by decide) zc_156 zs_38 (by decide) ?_
          rw [show ((40 : Nat) : Int) = 40 from rfl]
          refine zt_icge (pc' := 40) (tgt := 54) hX dX0_run_37 rfl (by decide) ⟨by omega, by omega⟩ ⟨by omega, by omega⟩ (fun c80 => ?_) (fun c80 => ?_)
          · refine zt_mask [true, true, true, true, false, true] rfl ?_
            exact J_54_25
          · refine zt_aload_n (pc' := 41) hX dX0_run_40 rfl rfl ?_
            refine zt_get (pc' := 44) (v := .ref (X.1.1 + 156)) hX dX0_run_41 rfl zf_X0_15 (by decide) zc_154 zs_36 (zrf_of (zv_36_1 hI8 zc_154)) ?_
            refine zt_iload_n (pc' := 45) hX dX0_run_44 rfl rfl ?_
            refine zt_iload (pc' := 47) hX dX0_run_45 rfl rfl ?_
            refine zt_iast (pc' := 48) hX dX0_run_47 rfl (by decide) zc_156 zs_38 (by decide) ⟨by omega, by omega⟩ ?_
            generalize hs82 : zset s7 156 (x1.toNat) v17 = s81
            have hI83 : zInv s81 := hs82 ▸ zp_38 hI8 zc_156 (x1.toNat) ⟨by omega, by omega⟩
            have hF84 : zFE σ s81 := hs82 ▸ zFE_set hF9 zc_156 (by decide) zke_38 (Or.inl (by decide)) (Or.inl (by decide))
            refine zt_iinc (pc' := 51) (lv' := [some (.ref (X.1.1 + 154)), some (.ref (X.1.1 + k1_)), some (.int (zI (x1 + 1))), some (.int (zI x4)), some (.int (zI v17)), some (.int (zI r18))]) hX dX0_run_48 rfl rfl hL (by decide) rfl ?_
            refine zt_goto (tgt := 203) hX dX0_run_51 (by decide) ?_
            refine zt_mask [true, true, true, true, false, false] rfl ?_
            exact J_203_24 (x1 + 1) s81 (by omega) (by omega) hI83 (by omega)
  exact L_4_9 _ 0 0 σ (by omega) (by omega) (by omega) (by omega) hI (by omega) (Nat.lt_succ_self _)

set_option maxRecDepth 100000 in
set_option maxHeartbeats 4000000 in
theorem zc_X11_packed (l : Launch) (E : zEN) (σ : zSto)  (a0_ : Int) (ha0_ : -2147483648 ≤ a0_ ∧ a0_ ≤ 2147483647) (a1_ : Int) (ha1_ : -2147483648 ≤ a1_ ∧ a1_ ≤ 2147483647) : zCt l E yX11_packed cX11_packed 2 (some .int) 0 zNC zNC 0 0 σ [.int (zI a0_), .int (zI a1_)] (fun r σ' => σ = σ' ∧ -2147483648 ≤ r ∧ r ≤ 2147483647) := by
  refine zCt_of2 [some (.int (zI a0_)), some (.int (zI a1_))] (by decide +kernel) (Nat.le_of_ble_eq_true rfl) rfl ?_
  intro X hE hX hR hL hN
  subst hE
  have hX : zok X cX11_packed RX11 0 := hX
  refine zt_iload_n (pc' := 1) hX dX11_packed_0 rfl rfl ?_
  refine zt_bipush (pc' := 3) hX dX11_packed_1 rfl (by decide) (by decide) ?_
  refine zt_ishl (pc' := 4) hX dX11_packed_3 rfl (fun r1 zr1 lr1 ur1 => ?_)
  clear zr1
  refine zt_iload_n (pc' := 5) hX dX11_packed_4 rfl rfl ?_
  refine zt_ior (pc' := 6) hX dX11_packed_5 rfl (fun r2 zr2 lr2 ur2 => ?_)
  clear zr2
  exact zt_iret hX hR dX11_packed_6 ⟨by omega, by omega⟩ ⟨rfl, by omega, by omega⟩

set_option maxRecDepth 100000 in
set_option maxHeartbeats 4000000 in
theorem zc_X6_countNear (l : Launch) (E : zEN) (σ : zSto) (hI : zInv σ) (a1_ : Int) (ha1_ : 0 ≤ a1_ ∧ a1_ ≤ 9) : zCt l E yX6_countNear cX6_countNear 4 (some .int) 2 zNC zNC 0 0 σ [.ref (E.1 + 153), .int (zI a1_)] (fun r σ' => σ = σ' ∧ 0 ≤ r ∧ r ≤ 10) := by
  refine zCt_of2 [some (.ref (E.1 + 153)), some (.int (zI a1_)), none, none] (by decide +kernel) (Nat.le_of_ble_eq_true rfl) rfl ?_
  intro X hE hX hR hL hN
  subst hE
  have hX : zok X cX6_countNear RX6 2 := hX
  refine zt_iconst (pc' := 1) hX dX6_countNear_0 rfl ?_
  refine zt_istore_n (pc' := 2) (lv' := [some (.ref (X.1.1 + 153)), some (.int (zI a1_)), some (.int (zI 0)), none]) hX dX6_countNear_1 rfl hL (by decide) rfl ?_
  refine zt_iconst (pc' := 3) hX dX6_countNear_2 rfl ?_
  refine zt_istore_n (pc' := 4) (lv' := [some (.ref (X.1.1 + 153)), some (.int (zI a1_)), some (.int (zI 0)), some (.int (zI 0))]) hX dX6_countNear_3 rfl hL (by decide) rfl ?_
  have L_4_7 : ∀ (N : Nat) (x1 : Int) (x4 : Int), 0 ≤ x1 → x1 ≤ 10 → 0 ≤ x4 → x4 ≤ 10 → x1 ≤ x4 → ((11 - x4).toNat) < N → zF X σ 4 [some (.ref (X.1.1 + 153)), some (.int (zI a1_)), some (.int (zI x1)), some (.int (zI x4))] [] := by
    intro N
    induction N with
    | zero =>
      intro x1 x4 h2 h3 h5 h6 g7 hm9
      exact absurd hm9 (Nat.not_lt_zero _)
    | succ N ih10 =>
      intro x1 x4 h2 h3 h5 h6 g7 hm9
      refine zt_iload_n (pc' := 5) hX dX6_countNear_4 rfl rfl ?_
      refine zt_aload_n (pc' := 6) hX dX6_countNear_5 rfl rfl ?_
      obtain ⟨k11, ek12, hk13⟩ := zv_35_6 hI zc_153
      refine zt_get (pc' := 9) (v := .ref (X.1.1 + k11)) hX dX6_countNear_6 rfl zf_X6_54 (by decide) zc_153 zs_35 (zrf_of ek12) ?_
      have b14 := zv_8_12 hI hk13
      refine zt_get (pc' := 12) (v := .int (zI (σ k11 12))) hX dX6_countNear_9 rfl zf_X6_62 (zro_lt hk13 (by decide)) hk13 zs_8 rfl ?_
      refine zt_icge (pc' := 15) (tgt := 54) hX dX6_countNear_12 rfl (by decide) ⟨by omega, by omega⟩ ⟨by omega, by omega⟩ (fun c15 => ?_) (fun c15 => ?_)
      · refine zt_iload_n (pc' := 55) hX dX6_countNear_54 rfl rfl ?_
        exact zt_iret hX hR dX6_countNear_55 ⟨by omega, by omega⟩ ⟨rfl, by omega, by omega⟩
      · refine zt_aload_n (pc' := 16) hX dX6_countNear_15 rfl rfl ?_
        obtain ⟨k16, ek17, hk18⟩ := zv_35_7 hI zc_153
        refine zt_get (pc' := 19) (v := .ref (X.1.1 + k16)) hX dX6_countNear_16 rfl zf_X6_58 (by decide) zc_153 zs_35 (zrf_of ek17) ?_
        refine zt_iload_n (pc' := 20) hX dX6_countNear_19 rfl rfl ?_
        refine zt_aload_n (pc' := 21) hX dX6_countNear_20 rfl rfl ?_
        refine zt_get (pc' := 24) (v := .ref (X.1.1 + k16)) hX dX6_countNear_21 rfl zf_X6_58 (by decide) zc_153 zs_35 (zrf_of ek17) ?_
        refine zt_get (pc' := 27) (v := .ref (X.1.1 + (k16 + 1))) hX dX6_countNear_24 rfl zf_X6_75 (zro_lt hk18 (by decide)) hk18 zs_22 (zrf_of (zv_22_0 hI hk18)) ?_
        refine zt_iload_n (pc' := 28) hX dX6_countNear_27 rfl rfl ?_
        refine zt_iald (pc' := 29) hX dX6_countNear_28 rfl (zro_lt (zo_22_0 hk18) (by decide)) (zo_22_0 hk18) zs_23 (by decide) ⟨by omega, by omega⟩ ?_
        generalize hv19 : σ (k16 + 1) (x4.toNat) = v19
        have bv19 : -1 ≤ v19 ∧ v19 ≤ 255 := hv19 ▸ zv_23 hI (zo_22_0 hk18) _
        refine zt_aload_n (pc' := 30) hX dX6_countNear_29 rfl rfl ?_
        refine zt_get (pc' := 33) (v := .ref (X.1.1 + k16)) hX dX6_countNear_30 rfl zf_X6_58 (by decide) zc_153 zs_35 (zrf_of ek17) ?_
        refine zt_get (pc' := 36) (v := .ref (X.1.1 + (k16 + 2))) hX dX6_countNear_33 rfl zf_X6_80 (zro_lt hk18 (by decide)) hk18 zs_22 (zrf_of (zv_22_1 hI hk18)) ?_
        refine zt_iload_n (pc' := 37) hX dX6_countNear_36 rfl rfl ?_
        refine zt_iald (pc' := 38) hX dX6_countNear_37 rfl (zro_lt (zo_22_1 hk18) (by decide)) (zo_22_1 hk18) zs_24 (by decide) ⟨by omega, by omega⟩ ?_
        generalize hv20 : σ (k16 + 2) (x4.toNat) = v20
        have bv20 : -1 ≤ v20 ∧ v20 ≤ 255 := hv20 ▸ zv_24 hI (zo_22_1 hk18) _
        refine zt_cVi (pc' := 41) hX dX6_countNear_38 rfl zm_yX10_between zw_34_15 hk18 (by decide) zs_22 (q := (RX10, TX10, 8)) rfl rfl (zc_X10_between _ _ σ hI k16 hk18 a1_ ⟨by omega, by omega⟩ v19 ⟨by omega, by omega⟩ v20 ⟨by omega, by omega⟩) rfl rfl (Nat.le_of_ble_eq_true rfl) (by decide) (fun r21 s22 hr23 hp24 => ?_)
        obtain ⟨rfl, q25, q26⟩ := hp24
        refine zt_iconst (pc' := 42) hX dX6_countNear_41 rfl ?_
        have J_48_30 : ∀ (x27 : Int), 0 ≤ x27 → x27 ≤ 11 → x27 ≤ x4 + 1 → zF X σ 48 [some (.ref (X.1.1 + 153)), some (.int (zI a1_)), some (.int (zI x27)), some (.int (zI x4))] [] := by
          intro x27 h28 h29 g30
          refine zt_iinc (pc' := 51) (lv' := [some (.ref (X.1.1 + 153)), some (.int (zI a1_)), some (.int (zI x27)), some (.int (zI (x4 + 1)))]) hX dX6_countNear_48 rfl rfl hL (by decide) rfl ?_
          refine zt_goto (tgt := 4) hX dX6_countNear_51 (by decide) ?_
          exact ih10 x27 (x4 + 1) (by omega) (by omega) (by omega) (by omega) (by omega) (by omega)
        refine zt_icne (pc' := 45) (tgt := 48) hX dX6_countNear_42 rfl (by decide) ⟨by omega, by omega⟩ ⟨by omega, by omega⟩ (fun c32 => ?_) (fun c32 => ?_)
        · exact J_48_30 x1 (by omega) (by omega) (by omega)
        · refine zt_iinc (pc' := 48) (lv' := [some (.ref (X.1.1 + 153)), some (.int (zI a1_)), some (.int (zI (x1 + 1))), some (.int (zI x4))]) hX dX6_countNear_45 rfl rfl hL (by decide) rfl ?_
          exact J_48_30 (x1 + 1) (by omega) (by omega) (by omega)
  exact L_4_7 _ 0 0 (by omega) (by omega) (by omega) (by omega) (by omega) (Nat.lt_succ_self _)

set_option maxRecDepth 100000 in
set_option maxHeartbeats 4000000 in
theorem zc_X6_liftOver (l : Launch) (E : zEN) (σ : zSto) (hI : zInv σ) (a1_ : Int) (ha1_ : 0 ≤ a1_ ∧ a1_ ≤ 9) (a2_ : Int) (ha2_ : 0 ≤ a2_ ∧ a2_ ≤ 512) : zCt l E yX6_liftOver cX6_liftOver 3 (some .int) 1 zNC zNC 0 0 σ [.ref (E.1 + 153), .int (zI a1_), .int (zI a2_)] (fun r σ' => σ = σ' ∧ 0 ≤ r ∧ r ≤ 198) := by
  refine zCt_of2 [some (.ref (E.1 + 153)), some (.int (zI a1_)), some (.int (zI a2_))] (by decide +kernel) (Nat.le_of_ble_eq_true rfl) rfl ?_
  intro X hE hX hR hL hN
  subst hE
  have hX : zok X cX6_liftOver RX6 1 := hX
  refine zt_iconst (pc' := 1) hX dX6_liftOver_0 rfl ?_
  refine zt_aload_n (pc' := 2) hX dX6_liftOver_1 rfl rfl ?_
  obtain ⟨k1, ek2, hk3⟩ := zv_35_6 hI zc_153
  refine zt_get (pc' := 5) (v := .ref (X.1.1 + k1)) hX dX6_liftOver_2 rfl zf_X6_54 (by decide) zc_153 zs_35 (zrf_of ek2) ?_
  refine zt_get (pc' := 8) (v := .ref (X.1.1 + (k1 + 5))) hX dX6_liftOver_5 rfl zf_X6_100 (zro_lt hk3 (by decide)) hk3 zs_8 (zrf_of (zv_8_4 hI hk3)) ?_
  refine zt_iload_n (pc' := 9) hX dX6_liftOver_8 rfl rfl ?_
  refine zt_iald (pc' := 10) hX dX6_liftOver_9 rfl (zro_lt (zo_8_4 hk3) (by decide)) (zo_8_4 hk3) zs_13 (by decide) ⟨by omega, by omega⟩ ?_
  generalize hv4 : σ (k1 + 5) (a1_.toNat) = v4
  have bv4 : 0 ≤ v4 ∧ v4 ≤ 99 := hv4 ▸ zv_13 hI (zo_8_4 hk3) _
  refine zt_aload_n (pc' := 11) hX dX6_liftOver_10 rfl rfl ?_
  have b5 := zv_35_8 hI zc_153
  refine zt_get (pc' := 14) (v := .int (zI (σ 153 8))) hX dX6_liftOver_11 rfl zf_X6_34 (by decide) zc_153 zs_35 rfl ?_
  refine zt_iadd (pc' := 15) hX dX6_liftOver_14 rfl ?_
  refine zt_aload_n (pc' := 16) hX dX6_liftOver_15 rfl rfl ?_
  refine zt_get (pc' := 19) (v := .ref (X.1.1 + k1)) hX dX6_liftOver_16 rfl zf_X6_54 (by decide) zc_153 zs_35 (zrf_of ek2) ?_
  have b6 := zv_8_14 hI hk3
  refine zt_get (pc' := 22) (v := .int (zI (σ k1 14))) hX dX6_liftOver_19 rfl zf_X6_103 (zro_lt hk3 (by decide)) hk3 zs_8 rfl ?_
  refine zt_iload_n (pc' := 23) hX dX6_liftOver_22 rfl rfl ?_
  refine zt_imul (pc' := 24) hX dX6_liftOver_23 rfl ?_
  generalize hp7 : (σ k1 14) * a2_ = p7
  have bp7 : 0 ≤ p7 ∧ p7 ≤ 50688 := hp7 ▸ zmul_b (a := 99) (b := 512) (by omega) (by omega) (by omega) (by omega)
  refine zt_isub (pc' := 25) hX dX6_liftOver_24 rfl ?_
  refine zt_mmax (pc' := 28) hX (by decide) dX6_liftOver_25 rfl zw_35_12 zw_35_13 zw_34_21 zw_35_14 (Nat.le_of_ble_eq_true rfl) ⟨Nat.zero_le _, Nat.zero_le _⟩ ⟨by omega, by omega⟩ ⟨by omega, by omega⟩ (fun r8 er8 => ?_)
  exact zt_iret hX hR dX6_liftOver_28 ⟨by omega, by omega⟩ ⟨rfl, by omega, by omega⟩
