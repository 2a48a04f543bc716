set_option maxRecDepth 100000 in
set_option maxHeartbeats 4000000 in
theorem yc_X12_qIsBracket (l : Launch) (E : zEN) (σ : zSto)  (a0_ : Int) (ha0_ : -2147483648 ≤ a0_ ∧ a0_ ≤ 2147483647) : zCt l E yX12_qIsBracket cX12_qIsBracket 1 (some .boolean) 0 zNC zNC 0 0 σ [.int (zI a0_)] (fun r σ' => σ = σ' ∧ 0 ≤ r ∧ r ≤ 1 ∧ ((20 ≤ a0_ ∧ a0_ ≤ 24 → r = 1) ∧ (¬ (20 ≤ a0_ ∧ a0_ ≤ 24) → r = 0))) := by
  refine zCt_of2 [some (.int (zI a0_))] (by decide +kernel) (Nat.le_of_ble_eq_true rfl) rfl ?_
  intro X hE_ hX hR hL hN
  subst hE_
  have hX : zok X cX12_qIsBracket RX12 0 := hX
  refine zt_iload_n (pc' := 1) hX dX12_qIsBracket_0 rfl rfl ?_
  refine zt_bipush (pc' := 3) hX dX12_qIsBracket_1 rfl (by decide) (by decide) ?_
  refine zt_iclt (pc' := 6) (tgt := 16) hX dX12_qIsBracket_3 rfl (by decide) ⟨by omega, by omega⟩ ⟨by omega, by omega⟩ (fun c1 => ?_) (fun c1 => ?_)
  · refine zt_iconst (pc' := 17) hX dX12_qIsBracket_16 rfl ?_
    exact zt_zret hX hR dX12_qIsBracket_17 ⟨by omega, by omega⟩ ⟨rfl, by omega, by omega, by omega⟩
  · refine zt_iload_n (pc' := 7) hX dX12_qIsBracket_6 rfl rfl ?_
    refine zt_bipush (pc' := 9) hX dX12_qIsBracket_7 rfl (by decide) (by decide) ?_
    refine zt_icgt (pc' := 12) (tgt := 16) hX dX12_qIsBracket_9 rfl (by decide) ⟨by omega, by omega⟩ ⟨by omega, by omega⟩ (fun c2 => ?_) (fun c2 => ?_)
    · refine zt_iconst (pc' := 17) hX dX12_qIsBracket_16 rfl ?_
      exact zt_zret hX hR dX12_qIsBracket_17 ⟨by omega, by omega⟩ ⟨rfl, by omega, by omega, by omega⟩
    · refine zt_iconst (pc' := 13) hX dX12_qIsBracket_12 rfl ?_
      refine zt_goto (tgt := 17) hX dX12_qIsBracket_13 (by decide) ?_
      exact zt_zret hX hR dX12_qIsBracket_17 ⟨by omega, by omega⟩ ⟨rfl, by omega, by omega, by omega⟩
set_option maxRecDepth 100000 in
set_option maxHeartbeats 4000000 in
theorem yc_X12_qIsOn (l : Launch) (E : zEN) (σ : zSto) (hI : zInv σ) (a1_ : Int) (ha1_ : -2147483648 ≤ a1_ ∧ a1_ ≤ 2147483647) : zCt l E yX12_qIsOn cX12_qIsOn 2 (some .boolean) 0 zNC zNC 0 0 σ [.ref (E.1 + 164), .int (zI a1_)] (fun r σ' => σ = σ' ∧ 0 ≤ r ∧ r ≤ 1 ∧ ((1 ≤ σ 164 99 ∧ σ 235 (σ 164 99 - 1).toNat = a1_ → r = 1) ∧ (¬ (1 ≤ σ 164 99 ∧ σ 235 (σ 164 99 - 1).toNat = a1_) → r = 0))) := by
  refine zCt_of2 [some (.ref (E.1 + 164)), some (.int (zI a1_))] (by decide +kernel) (Nat.le_of_ble_eq_true rfl) rfl ?_
  intro X hE_ hX hR hL hN
  subst hE_
  have hX : zok X cX12_qIsOn RX12 0 := hX
  refine zt_aload_n (pc' := 1) hX dX12_qIsOn_0 rfl rfl ?_
  have b1 := zv_46_99 hI zc_164
  refine zt_get (pc' := 4) (v := .int (zI (σ 164 99))) hX dX12_qIsOn_1 rfl zf_X12_333 (by decide) zc_164 zs_46 rfl ?_
  refine zt_ifle (pc' := 7) (tgt := 26) hX dX12_qIsOn_4 rfl (by decide) ⟨by omega, by omega⟩ (fun c2 => ?_) (fun c2 => ?_)
  · refine zt_iconst (pc' := 27) hX dX12_qIsOn_26 rfl ?_
    exact zt_zret hX hR dX12_qIsOn_27 ⟨by omega, by omega⟩ ⟨rfl, by omega, by omega, by omega⟩
  · refine zt_aload_n (pc' := 8) hX dX12_qIsOn_7 rfl rfl ?_
    refine zt_get (pc' := 11) (v := .ref (X.1.1 + 235)) hX dX12_qIsOn_8 rfl zf_X12_234 (by decide) zc_164 zs_46 (zrf_of (zv_46_98 hI zc_164)) ?_
    refine zt_aload_n (pc' := 12) hX dX12_qIsOn_11 rfl rfl ?_
    refine zt_get (pc' := 15) (v := .int (zI (σ 164 99))) hX dX12_qIsOn_12 rfl zf_X12_333 (by decide) zc_164 zs_46 rfl ?_
    refine zt_iconst (pc' := 16) hX dX12_qIsOn_15 rfl ?_
    refine zt_isub (pc' := 17) hX dX12_qIsOn_16 rfl ?_
    refine zt_iald (pc' := 18) hX dX12_qIsOn_17 rfl (by decide) zc_235 zs_117 (by decide) ⟨by omega, by omega⟩ ?_
    generalize hv3 : σ 235 (((σ 164 99) - 1).toNat) = v3
    have bv3 : -2147483648 ≤ v3 ∧ v3 ≤ 2147483647 := hv3 ▸ zv_117 hI zc_235 _
    refine zt_iload_n (pc' := 19) hX dX12_qIsOn_18 rfl rfl ?_
    refine zt_icne (pc' := 22) (tgt := 26) hX dX12_qIsOn_19 rfl (by decide) ⟨by omega, by omega⟩ ⟨by omega, by omega⟩ (fun c4 => ?_) (fun c4 => ?_)
    · refine zt_iconst (pc' := 27) hX dX12_qIsOn_26 rfl ?_
      exact zt_zret hX hR dX12_qIsOn_27 ⟨by omega, by omega⟩ ⟨rfl, by omega, by omega, by omega⟩
    · refine zt_iconst (pc' := 23) hX dX12_qIsOn_22 rfl ?_
      refine zt_goto (tgt := 27) hX dX12_qIsOn_23 (by decide) ?_
      exact zt_zret hX hR dX12_qIsOn_27 ⟨by omega, by omega⟩ ⟨rfl, by omega, by omega, by omega⟩
set_option maxRecDepth 100000 in
set_option maxHeartbeats 4000000 in
theorem yc_X12_qCode (l : Launch) (E : zEN) (σ : zSto) (hI : zInv σ) (a1_ : Int) (ha1_ : -2147483648 ≤ a1_ ∧ a1_ ≤ 2147483647) (hpre0 : σ 164 97 ≤ 1699) : zCt l E yX12_qCode cX12_qCode 2 none 0 zNC zNC 0 0 σ [.ref (E.1 + 164), .int (zI a1_)] (fun r σ' => zInv σ' ∧ zOn zWc σ σ' ∧ (σ' 164 97 = σ 164 97 + 1)) := by
  refine zCt_of2 [some (.ref (E.1 + 164)), some (.int (zI a1_))] (by decide +kernel) (Nat.le_of_ble_eq_true rfl) rfl ?_
  intro X hE_ hX hR hL hN
  subst hE_
  have hX : zok X cX12_qCode RX12 0 := hX
  have hF := zOn_rf zWc σ
  have b1 := zv_46_97 hI zc_164
  refine zt_aload_n (pc' := 1) hX dX12_qCode_0 rfl rfl ?_
  refine zt_get (pc' := 4) (v := .ref (X.1.1 + 234)) hX dX12_qCode_1 rfl zf_X12_231 (by decide) zc_164 zs_46 (zrf_of (zv_46_96 hI zc_164)) ?_
  refine zt_aload_n (pc' := 5) hX dX12_qCode_4 rfl rfl ?_
  have b2 := zv_46_97 hI zc_164
  refine zt_get (pc' := 8) (v := .int (zI (σ 164 97))) hX dX12_qCode_5 rfl zf_X12_330 (by decide) zc_164 zs_46 rfl ?_
  refine zt_iload_n (pc' := 9) hX dX12_qCode_8 rfl rfl ?_
  refine zt_iast (pc' := 10) hX dX12_qCode_9 rfl (by decide) zc_234 zs_116 (by decide) ⟨by omega, by omega⟩ ?_
  generalize hs4 : zset σ 234 ((σ 164 97).toNat) a1_ = s3
  have hI5 : zInv s3 := hs4 ▸ zp_116 hI zc_234 ((σ 164 97).toNat) ⟨by omega, by omega⟩
  have hF6 : zOn zWc σ s3 := hs4 ▸ zOn_set hF (zwc_234 (by omega))
  have e7 : s3 164 97 = σ 164 97 := by rw [← hs4]; exact zset_k (zne_r zc_164 zc_234 (by decide))
  refine zt_aload_n (pc' := 11) hX dX12_qCode_10 rfl rfl ?_
  refine zt_dup (pc' := 12) hX dX12_qCode_11 rfl rfl ?_
  have b8 := zv_46_97 hI5 zc_164
  refine zt_get (pc' := 15) (v := .int (zI (s3 164 97))) hX dX12_qCode_12 rfl zf_X12_330 (by decide) zc_164 zs_46 rfl ?_
  refine zt_iconst (pc' := 16) hX dX12_qCode_15 rfl ?_
  refine zt_iadd (pc' := 17) hX dX12_qCode_16 rfl ?_
  refine zt_put (pc' := 20) (x := ((s3 164 97) + 1)) hX dX12_qCode_17 rfl zf_X12_330 (by decide) zc_164 zs_46 (fun q hq => by cases hq; rfl) rfl rfl rfl ?_
  generalize hs10 : zset s3 164 97 ((s3 164 97) + 1) = s9
  have hI11 : zInv s9 := hs10 ▸ zp_46_97 hI5 zc_164 ⟨by omega, by omega⟩
  have hF12 : zOn zWc σ s9 := hs10 ▸ zOn_set hF6 (by decide)
  have e13 : s9 164 97 = ((s3 164 97) + 1) := by rw [← hs10]; exact zset_s
  exact zt_vret hX hR dX12_qCode_20 ⟨hI11, hF12, by omega⟩
set_option maxRecDepth 100000 in
set_option maxHeartbeats 4000000 in
theorem yc_X12_qDrops (l : Launch) (E : zEN) (σ : zSto) (hI : zInv σ) (hpre0 : σ 164 97 ≤ 1699) (hpre1 : 1 ≤ σ 164 99) : zCt l E yX12_qDrops cX12_qDrops 1 none 1 zNC zNC 0 0 σ [.ref (E.1 + 164)] (fun r σ' => zInv σ' ∧ zOn zWd σ σ' ∧ (σ' 164 97 = σ 164 97 + 1 ∧ σ' 164 99 = σ 164 99 - 1)) := by
  refine zCt_of2 [some (.ref (E.1 + 164))] (by decide +kernel) (Nat.le_of_ble_eq_true rfl) rfl ?_
  intro X hE_ hX hR hL hN
  subst hE_
  have hX : zok X cX12_qDrops RX12 1 := hX
  have hF := zOn_rf zWd σ
  have b1 := zv_46_97 hI zc_164
  have b2 := zv_46_99 hI zc_164
  refine zt_aload_n (pc' := 1) hX dX12_qDrops_0 rfl rfl ?_
  refine zt_dup (pc' := 2) hX dX12_qDrops_1 rfl rfl ?_
  have b3 := zv_46_99 hI zc_164
  refine zt_get (pc' := 5) (v := .int (zI (σ 164 99))) hX dX12_qDrops_2 rfl zf_X12_333 (by decide) zc_164 zs_46 rfl ?_
  refine zt_iconst (pc' := 6) hX dX12_qDrops_5 rfl ?_
  refine zt_isub (pc' := 7) hX dX12_qDrops_6 rfl ?_
  refine zt_put (pc' := 10) (x := ((σ 164 99) - 1)) hX dX12_qDrops_7 rfl zf_X12_333 (by decide) zc_164 zs_46 (fun q hq => by cases hq; rfl) rfl rfl rfl ?_
  generalize hs5 : zset σ 164 99 ((σ 164 99) - 1) = s4
  have hI6 : zInv s4 := hs5 ▸ zp_46_99 hI zc_164 ⟨by omega, by omega⟩
  have hF7 : zOn zWd σ s4 := hs5 ▸ zOn_set hF (by decide)
  have e8 : s4 164 97 = σ 164 97 := by rw [← hs5]; exact zset_j (by decide)
  have e9 : s4 164 99 = ((σ 164 99) - 1) := by rw [← hs5]; exact zset_s
  refine zt_aload_n (pc' := 11) hX dX12_qDrops_10 rfl rfl ?_
  refine zt_aload_n (pc' := 12) hX dX12_qDrops_11 rfl rfl ?_
  refine zt_get (pc' := 15) (v := .ref (X.1.1 + 235)) hX dX12_qDrops_12 rfl zf_X12_234 (by decide) zc_164 zs_46 (zrf_of (zv_46_98 hI6 zc_164)) ?_
  refine zt_aload_n (pc' := 16) hX dX12_qDrops_15 rfl rfl ?_
  have b10 := zv_46_99 hI6 zc_164
  refine zt_get (pc' := 19) (v := .int (zI (s4 164 99))) hX dX12_qDrops_16 rfl zf_X12_333 (by decide) zc_164 zs_46 rfl ?_
  refine zt_iald (pc' := 20) hX dX12_qDrops_19 rfl (by decide) zc_235 zs_117 (by decide) ⟨by omega, by omega⟩ ?_
  generalize hv11 : s4 235 ((s4 164 99).toNat) = v11
  have bv11 : -2147483648 ≤ v11 ∧ v11 ≤ 2147483647 := hv11 ▸ zv_117 hI6 zc_235 _
  refine zt_cVv (pc' := 23) hX dX12_qDrops_20 rfl zm_yX12_qCode zw_29_18 zc_164 (by decide) zs_46 (q := (RX12, TX12, 108)) rfl rfl (yc_X12_qCode _ _ s4 hI6 v11 ⟨by omega, by omega⟩ (by omega)) rfl rfl (Nat.le_of_ble_eq_true rfl) (by decide) (fun r12 s13 hr14 hp15 => ?_)
  obtain ⟨hI16, hF17, z18⟩ := hp15
  have hF19 := zOn_tr hF7 hF17 zi_cd
  have b20 := zv_46_97 hI16 zc_164
  have b21 := zv_46_99 hI16 zc_164
  have e22 := hF17 164 99 rfl
  exact zt_vret hX hR dX12_qDrops_23 ⟨hI16, hF19, by omega⟩
set_option maxRecDepth 100000 in
set_option maxHeartbeats 4000000 in
theorem yc_X12_qOpens (l : Launch) (E : zEN) (σ : zSto) (hI : zInv σ) (a1_ : Int) (ha1_ : 12 ≤ a1_ ∧ a1_ ≤ 60) (a2_ : Int) (ha2_ : -2147483648 ≤ a2_ ∧ a2_ ≤ 2147483647) (hpre0 : σ 164 5 = 0) (hpre1 : σ 164 99 ≤ 1699) (hpre2 : 0 ≤ σ 164 100 ∧ σ 164 100 ≤ 6) (f : Int → Int) (hT : yTq f σ) : zCt l E yX12_qOpens cX12_qOpens 3 none 1 zNC zNC 0 0 σ [.ref (E.1 + 164), .int (zI a1_), .int (zI a2_)] (fun r σ' => zInv σ' ∧ zOn zQo σ σ' ∧ yTq f σ' ∧ ((σ 164 100 = 6 ∧ (yqs f σ') = yPno 4 a2_ (yqs f σ) ∧ σ' 164 2 = σ 164 2 ∧ σ' 164 99 = σ 164 99 ∧ σ' 164 100 = σ 164 100) ∨ (σ 164 100 ≠ 6 ∧ (yqs f σ') = (yqs f σ) ∧ σ' 164 100 = σ 164 100 + 1 ∧ σ' 164 99 = σ 164 99 + 1 ∧ σ' 235 (σ 164 99).toNat = a1_ ∧ (∀ j, j ≠ (σ 164 99).toNat → σ' 235 j = σ 235 j) ∧ σ' 164 2 = σ 164 2))) := by
  refine zCt_of2 [some (.ref (E.1 + 164)), some (.int (zI a1_)), some (.int (zI a2_))] (by decide +kernel) (Nat.le_of_ble_eq_true rfl) rfl ?_
  intro X hE_ hX hR hL hN
  subst hE_
  have hX : zok X cX12_qOpens RX12 1 := hX
  have hF := zOn_rf zQo σ
  have hE0 : yqs f σ = yqs f σ := rfl
  have b1 := zv_46_2 hI zc_164
  have b2 := zv_46_5 hI zc_164
  have b3 := zv_46_99 hI zc_164
  have b4 := zv_46_100 hI zc_164
  have b5 := zv_46_97 hI zc_164
  have b6 := zv_46_101 hI zc_164
  refine zt_aload_n (pc' := 1) hX dX12_qOpens_0 rfl rfl ?_
  have b7 := zv_46_5 hI zc_164
  refine zt_get (pc' := 4) (v := .int (zI (σ 164 5))) hX dX12_qOpens_1 rfl zf_X12_246 (by decide) zc_164 zs_46 rfl ?_
  refine zt_ifeq (pc' := 7) (tgt := 8) hX dX12_qOpens_4 rfl (by decide) ⟨by omega, by omega⟩ (fun c8 => ?_) (fun c8 => ?_)
  · refine zt_aload_n (pc' := 9) hX dX12_qOpens_8 rfl rfl ?_
    have b9 := zv_46_100 hI zc_164
    refine zt_get (pc' := 12) (v := .int (zI (σ 164 100))) hX dX12_qOpens_9 rfl zf_X12_336 (by decide) zc_164 zs_46 rfl ?_
    refine zt_bipush (pc' := 14) hX dX12_qOpens_12 rfl (by decide) (by decide) ?_
    refine zt_icne (pc' := 17) (tgt := 24) hX dX12_qOpens_14 rfl (by decide) ⟨by omega, by omega⟩ ⟨by omega, by omega⟩ (fun c10 => ?_) (fun c10 => ?_)
    · refine zt_aload_n (pc' := 25) hX dX12_qOpens_24 rfl rfl ?_
      refine zt_dup (pc' := 26) hX dX12_qOpens_25 rfl rfl ?_
      refine zt_get (pc' := 29) (v := .int (zI (σ 164 100))) hX dX12_qOpens_26 rfl zf_X12_336 (by decide) zc_164 zs_46 rfl ?_
      refine zt_iconst (pc' := 30) hX dX12_qOpens_29 rfl ?_
      refine zt_iadd (pc' := 31) hX dX12_qOpens_30 rfl ?_
      refine zt_wrap (fun r11 zr11 lr11 ur11 => ?_)
      replace zr11 := ywr_eq zr11
      refine zt_put (pc' := 34) (x := r11) hX dX12_qOpens_31 rfl zf_X12_336 (by decide) zc_164 zs_46 (fun q hq => by cases hq; rfl) rfl rfl rfl ?_
      generalize hs13 : zset σ 164 100 r11 = s12
      have hI14 : zInv s12 := hs13 ▸ zp_46_100 hI zc_164 ⟨by omega, by omega⟩
      have hF15 : zOn zQo σ s12 := hs13 ▸ zOn_set hF (by decide)
      have e16 : s12 164 2 = σ 164 2 := by rw [← hs13]; exact zset_j (by decide)
      have e17 : s12 164 5 = σ 164 5 := by rw [← hs13]; exact zset_j (by decide)
      have e18 : s12 164 99 = σ 164 99 := by rw [← hs13]; exact zset_j (by decide)
      have e19 : s12 164 100 = r11 := by rw [← hs13]; exact zset_s
      have e20 : s12 164 97 = σ 164 97 := by rw [← hs13]; exact zset_j (by decide)
      have e21 : s12 164 101 = σ 164 101 := by rw [← hs13]; exact zset_j (by decide)
      have hT22 := yTq_rk hT (yRq_j hs13 (by decide))
      have hE23 : yqs f s12 = (yqs f σ) := (yqs_rk (yRq_j hs13 (by decide))).trans hE0
      refine zt_aload_n (pc' := 35) hX dX12_qOpens_34 rfl rfl ?_
      refine zt_get (pc' := 38) (v := .ref (X.1.1 + 235)) hX dX12_qOpens_35 rfl zf_X12_234 (by decide) zc_164 zs_46 (zrf_of (zv_46_98 hI14 zc_164)) ?_
      refine zt_aload_n (pc' := 39) hX dX12_qOpens_38 rfl rfl ?_
      have b24 := zv_46_99 hI14 zc_164
      refine zt_get (pc' := 42) (v := .int (zI (s12 164 99))) hX dX12_qOpens_39 rfl zf_X12_333 (by decide) zc_164 zs_46 rfl ?_
      refine zt_iload_n (pc' := 43) hX dX12_qOpens_42 rfl rfl ?_
      refine zt_iast (pc' := 44) hX dX12_qOpens_43 rfl (by decide) zc_235 zs_117 (by decide) ⟨by omega, by omega⟩ ?_
      generalize hs26 : zset s12 235 ((s12 164 99).toNat) a1_ = s25
      have hI27 : zInv s25 := hs26 ▸ zp_117 hI14 zc_235 ((s12 164 99).toNat) ⟨by omega, by omega⟩
      have hF28 : zOn zQo σ s25 := hs26 ▸ zOn_set hF15 (zqo_235 (by omega))
      have hT29 := yTq_rk hT22 (yRq_set hs26 zc_235 (by decide))
      have hE30 : yqs f s25 = (yqs f σ) := (yqs_rk (yRq_set hs26 zc_235 (by decide))).trans hE23
      have e31 : s25 164 2 = s12 164 2 := by rw [← hs26]; exact zset_k (zne_r zc_164 zc_235 (by decide))
      have e32 : s25 164 5 = s12 164 5 := by rw [← hs26]; exact zset_k (zne_r zc_164 zc_235 (by decide))
      have e33 : s25 164 99 = s12 164 99 := by rw [← hs26]; exact zset_k (zne_r zc_164 zc_235 (by decide))
      have e34 : s25 164 100 = s12 164 100 := by rw [← hs26]; exact zset_k (zne_r zc_164 zc_235 (by decide))
      have e35 : s25 164 97 = s12 164 97 := by rw [← hs26]; exact zset_k (zne_r zc_164 zc_235 (by decide))
      have e36 : s25 164 101 = s12 164 101 := by rw [← hs26]; exact zset_k (zne_r zc_164 zc_235 (by decide))
      refine zt_aload_n (pc' := 45) hX dX12_qOpens_44 rfl rfl ?_
      refine zt_dup (pc' := 46) hX dX12_qOpens_45 rfl rfl ?_
      have b37 := zv_46_99 hI27 zc_164
      refine zt_get (pc' := 49) (v := .int (zI (s25 164 99))) hX dX12_qOpens_46 rfl zf_X12_333 (by decide) zc_164 zs_46 rfl ?_
      refine zt_iconst (pc' := 50) hX dX12_qOpens_49 rfl ?_
      refine zt_iadd (pc' := 51) hX dX12_qOpens_50 rfl ?_
      refine zt_put (pc' := 54) (x := ((s25 164 99) + 1)) hX dX12_qOpens_51 rfl zf_X12_333 (by decide) zc_164 zs_46 (fun q hq => by cases hq; rfl) rfl rfl rfl ?_
      generalize hs39 : zset s25 164 99 ((s25 164 99) + 1) = s38
      have hI40 : zInv s38 := hs39 ▸ zp_46_99 hI27 zc_164 ⟨by omega, by omega⟩
      have hF41 : zOn zQo σ s38 := hs39 ▸ zOn_set hF28 (by decide)
      have e42 : s38 164 2 = s25 164 2 := by rw [← hs39]; exact zset_j (by decide)
      have e43 : s38 164 5 = s25 164 5 := by rw [← hs39]; exact zset_j (by decide)
      have e44 : s38 164 99 = ((s25 164 99) + 1) := by rw [← hs39]; exact zset_s
      have e45 : s38 164 100 = s25 164 100 := by rw [← hs39]; exact zset_j (by decide)
      have e46 : s38 164 97 = s25 164 97 := by rw [← hs39]; exact zset_j (by decide)
      have e47 : s38 164 101 = s25 164 101 := by rw [← hs39]; exact zset_j (by decide)
      have hT48 := yTq_rk hT29 (yRq_j hs39 (by decide))
      have hE49 : yqs f s38 = (yqs f σ) := (yqs_rk (yRq_j hs39 (by decide))).trans hE30
      have hw9 : σ 164 99 = s12 164 99 := by omega
      exact zt_vret hX hR dX12_qOpens_54 ⟨hI40, hF41, hT48, Or.inr ⟨by omega, hE49, by omega, by omega, by rw [hw9, ← hs39, zset_k (by decide), ← hs26]; exact zset_s, fun j hj => by rw [hw9] at hj; rw [← hs39, zset_k (by decide), ← hs26, zset_j hj, ← hs13, zset_k (by decide)], by omega⟩⟩
    · refine zt_aload_n (pc' := 18) hX dX12_qOpens_17 rfl rfl ?_
      refine zt_iconst (pc' := 19) hX dX12_qOpens_18 rfl ?_
      refine zt_iload_n (pc' := 20) hX dX12_qOpens_19 rfl rfl ?_
      refine zt_cVv (pc' := 23) hX dX12_qOpens_20 rfl zm_yX12_fail zw_26_19 zc_164 (by decide) zs_46 (q := (RX12, TX12, 108)) rfl rfl (yc_X12_fail _ _ σ hI 4 ⟨by omega, by omega⟩ a2_ ⟨by omega, by omega⟩ f (yTq_w hT)) rfl rfl (Nat.le_of_ble_eq_true rfl) (by decide) (fun r50 s51 hr52 hp53 => ?_)
      obtain ⟨hI54, hF55, hT56, z57, z58⟩ := hp53
      have hE59 : yqs f s51 = yPno 4 a2_ (yqs f σ) := z57
      have hF60 := zOn_tr hF hF55 zi_1o
      have b61 := zv_46_2 hI54 zc_164
      have b62 := zv_46_5 hI54 zc_164
      have b63 := zv_46_99 hI54 zc_164
      have b64 := zv_46_100 hI54 zc_164
      have b65 := zv_46_97 hI54 zc_164
      have b66 := zv_46_101 hI54 zc_164
      have e67 := hF55 164 99 rfl
      have e68 := hF55 164 100 rfl
      have e69 := hF55 164 97 rfl
      have e70 := hF55 164 101 rfl
      exact zt_vret hX hR dX12_qOpens_23 ⟨hI54, hF60, hT56, Or.inl ⟨by omega, hE59, by omega, by omega, by omega⟩⟩
  · exact zt_vret hX hR dX12_qOpens_7 ⟨hI, hF, hT, (by exfalso; omega)⟩
set_option maxRecDepth 100000 in
set_option maxHeartbeats 4000000 in
theorem yc_X12_qBracket (l : Launch) (E : zEN) (σ : zSto) (hI : zInv σ) (hpre0 : 0 ≤ σ 164 101 ∧ σ 164 101 ≤ σ 164 99) : zCt l E yX12_qBracket cX12_qBracket 2 (some .int) 1 zNC zNC 0 0 σ [.ref (E.1 + 164)] (fun r σ' => σ = σ' ∧ -1 ≤ r ∧ r ≤ 24 ∧ (r = ybr (σ 235) (σ 164 101).toNat (σ 164 99 - σ 164 101).toNat)) := by
  refine zCt_of2 [some (.ref (E.1 + 164)), none] (by decide +kernel) (Nat.le_of_ble_eq_true rfl) rfl ?_
  intro X hE_ hX hR hL hN
  subst hE_
  have hX : zok X cX12_qBracket RX12 1 := hX
  refine zt_aload_n (pc' := 1) hX dX12_qBracket_0 rfl rfl ?_
  have b1 := zv_46_99 hI zc_164
  refine zt_get (pc' := 4) (v := .int (zI (σ 164 99))) hX dX12_qBracket_1 rfl zf_X12_333 (by decide) zc_164 zs_46 rfl ?_
  refine zt_iconst (pc' := 5) hX dX12_qBracket_4 rfl ?_
  refine zt_isub (pc' := 6) hX dX12_qBracket_5 rfl ?_
  refine zt_istore_n (pc' := 7) (lv' := [some (.ref (X.1.1 + 164)), some (.int (zI ((σ 164 99) - 1)))]) hX dX12_qBracket_6 rfl hL (by decide) rfl ?_
  have L_7_7 : ∀ (N : Nat) (x2 : Int), -1 ≤ x2 → x2 ≤ 1699 → σ 164 101 ≤ x2 + 1 → x2 < σ 164 99 → ybr (σ 235) (σ 164 101).toNat (x2 + 1 - σ 164 101).toNat = ybr (σ 235) (σ 164 101).toNat (σ 164 99 - σ 164 101).toNat → ((x2 - (-2)).toNat) < N → zF X σ 7 [some (.ref (X.1.1 + 164)), some (.int (zI x2))] [] := by
    intro N
    induction N with
    | zero =>
      intro x2 h3 h4 g5 g6 g7 hm9
      exact absurd hm9 (Nat.not_lt_zero _)
    | succ N ih10 =>
      intro x2 h3 h4 g5 g6 g7 hm9
      refine zt_iload_n (pc' := 8) hX dX12_qBracket_7 rfl rfl ?_
      refine zt_aload_n (pc' := 9) hX dX12_qBracket_8 rfl rfl ?_
      have b11 := zv_46_101 hI zc_164
      refine zt_get (pc' := 12) (v := .int (zI (σ 164 101))) hX dX12_qBracket_9 rfl zf_X12_339 (by decide) zc_164 zs_46 rfl ?_
      refine zt_iclt (pc' := 15) (tgt := 33) hX dX12_qBracket_12 rfl (by decide) ⟨by omega, by omega⟩ ⟨by omega, by omega⟩ (fun c12 => ?_) (fun c12 => ?_)
      · refine zt_iload_n (pc' := 34) hX dX12_qBracket_33 rfl rfl ?_
        refine zt_aload_n (pc' := 35) hX dX12_qBracket_34 rfl rfl ?_
        refine zt_get (pc' := 38) (v := .int (zI (σ 164 101))) hX dX12_qBracket_35 rfl zf_X12_339 (by decide) zc_164 zs_46 rfl ?_
        refine zt_iclt (pc' := 41) (tgt := 50) hX dX12_qBracket_38 rfl (by decide) ⟨by omega, by omega⟩ ⟨by omega, by omega⟩ (fun c13 => ?_) (fun c13 => ?_)
        · refine zt_iconst (pc' := 51) hX dX12_qBracket_50 rfl ?_
          exact zt_iret hX hR dX12_qBracket_51 ⟨by omega, by omega⟩ ⟨rfl, by omega, by omega, (by first | (exfalso; omega) | exact (ybr_0 (by omega)).symm.trans g7)⟩
        · refine zt_aload_n (pc' := 42) hX dX12_qBracket_41 rfl rfl ?_
          refine zt_get (pc' := 45) (v := .ref (X.1.1 + 235)) hX dX12_qBracket_42 rfl zf_X12_234 (by decide) zc_164 zs_46 (zrf_of (zv_46_98 hI zc_164)) ?_
          refine zt_iload_n (pc' := 46) hX dX12_qBracket_45 rfl rfl ?_
          refine zt_iald (pc' := 47) hX dX12_qBracket_46 rfl (by decide) zc_235 zs_117 (by decide) ⟨by omega, by omega⟩ ?_
          generalize hv14 : σ 235 (x2.toNat) = v14
          have bv14 : -2147483648 ≤ v14 ∧ v14 ≤ 2147483647 := hv14 ▸ zv_117 hI zc_235 _
          refine zt_goto (tgt := 51) hX dX12_qBracket_47 (by decide) ?_
          exact zt_iret hX hR dX12_qBracket_51 ⟨by omega, by omega⟩ ⟨rfl, by omega, by omega, (by first | (exfalso; omega) | exact (ybr_v (by omega) hv14 (by omega)).symm.trans g7)⟩
      · refine zt_aload_n (pc' := 16) hX dX12_qBracket_15 rfl rfl ?_
        refine zt_get (pc' := 19) (v := .ref (X.1.1 + 235)) hX dX12_qBracket_16 rfl zf_X12_234 (by decide) zc_164 zs_46 (zrf_of (zv_46_98 hI zc_164)) ?_
        refine zt_iload_n (pc' := 20) hX dX12_qBracket_19 rfl rfl ?_
        refine zt_iald (pc' := 21) hX dX12_qBracket_20 rfl (by decide) zc_235 zs_117 (by decide) ⟨by omega, by omega⟩ ?_
        generalize hv15 : σ 235 (x2.toNat) = v15
        have bv15 : -2147483648 ≤ v15 ∧ v15 ≤ 2147483647 := hv15 ▸ zv_117 hI zc_235 _
        refine zt_cSz (pc' := 24) hX dX12_qBracket_21 rfl zm_yX12_qIsBracket zw_31_16 (yc_X12_qIsBracket _ _ σ  v15 ⟨by omega, by omega⟩) rfl rfl (Nat.le_of_ble_eq_true rfl) (by decide) (fun r16 s17 hr18 hp19 => ?_)
        obtain ⟨rfl, q20, q21, z22⟩ := hp19
        refine zt_ifne (pc' := 27) (tgt := 33) hX dX12_qBracket_24 rfl (by decide) ⟨by omega, by omega⟩ (fun c23 => ?_) (fun c23 => ?_)
        · refine zt_iload_n (pc' := 34) hX dX12_qBracket_33 rfl rfl ?_
          refine zt_aload_n (pc' := 35) hX dX12_qBracket_34 rfl rfl ?_
          refine zt_get (pc' := 38) (v := .int (zI (σ 164 101))) hX dX12_qBracket_35 rfl zf_X12_339 (by decide) zc_164 zs_46 rfl ?_
          refine zt_iclt (pc' := 41) (tgt := 50) hX dX12_qBracket_38 rfl (by decide) ⟨by omega, by omega⟩ ⟨by omega, by omega⟩ (fun c24 => ?_) (fun c24 => ?_)
          · refine zt_iconst (pc' := 51) hX dX12_qBracket_50 rfl ?_
            exact zt_iret hX hR dX12_qBracket_51 ⟨by omega, by omega⟩ ⟨rfl, by omega, by omega, (by first | (exfalso; omega) | exact (ybr_0 (by omega)).symm.trans g7)⟩
          · refine zt_aload_n (pc' := 42) hX dX12_qBracket_41 rfl rfl ?_
            refine zt_get (pc' := 45) (v := .ref (X.1.1 + 235)) hX dX12_qBracket_42 rfl zf_X12_234 (by decide) zc_164 zs_46 (zrf_of (zv_46_98 hI zc_164)) ?_
            refine zt_iload_n (pc' := 46) hX dX12_qBracket_45 rfl rfl ?_
            refine zt_iald (pc' := 47) hX dX12_qBracket_46 rfl (by decide) zc_235 zs_117 (by decide) ⟨by omega, by omega⟩ ?_
            generalize hv25 : σ 235 (x2.toNat) = v25
            have bv25 : -2147483648 ≤ v25 ∧ v25 ≤ 2147483647 := hv25 ▸ zv_117 hI zc_235 _
            refine zt_goto (tgt := 51) hX dX12_qBracket_47 (by decide) ?_
            exact zt_iret hX hR dX12_qBracket_51 ⟨by omega, by omega⟩ ⟨rfl, by omega, by omega, (by first | (exfalso; omega) | exact (ybr_v (by omega) hv25 (by omega)).symm.trans g7)⟩
        · refine zt_iinc (pc' := 30) (lv' := [some (.ref (X.1.1 + 164)), some (.int (zI (x2 + (-1))))]) hX dX12_qBracket_27 rfl rfl hL (by decide) rfl ?_
          refine zt_goto (tgt := 7) hX dX12_qBracket_30 (by decide) ?_
          exact ih10 (x2 + (-1)) (by omega) (by omega) (by omega) (by omega) (by rw [show x2 + (-1) + 1 - σ 164 101 = x2 - σ 164 101 by omega, ← ybr_s (by omega) hv15 (by omega)]; exact g7) (by omega)
  exact L_7_7 _ ((σ 164 99) - 1) (by omega) (by omega) (by omega) (by omega) (by rw [show σ 164 99 - 1 + 1 - σ 164 101 = σ 164 99 - σ 164 101 by omega]) (Nat.lt_succ_self _)
set_option maxRecDepth 100000 in
set_option maxHeartbeats 4000000 in
theorem yc_X12_qDropsToBracket (l : Launch) (E : zEN) (σ : zSto) (hI : zInv σ) (hpre0 : σ 164 97 + σ 164 99 ≤ 1700) (hpre1 : 0 ≤ σ 164 101 ∧ σ 164 101 ≤ σ 164 99) : zCt l E yX12_qDropsToBracket cX12_qDropsToBracket 1 none 2 zNC zNC 0 0 σ [.ref (E.1 + 164)] (fun r σ' => zInv σ' ∧ zOn zWd σ σ' ∧ (σ' 164 97 + σ' 164 99 = σ 164 97 + σ 164 99 ∧ σ 164 101 ≤ σ' 164 99 ∧ σ' 164 99 ≤ σ 164 99) ∧ (∀ i : Nat, σ' 164 99 ≤ i → (i : Int) < σ 164 99 → ¬ (20 ≤ σ 235 i ∧ σ 235 i ≤ 24)) ∧ (σ' 164 99 = σ 164 101 ∨ (σ 164 101 < σ' 164 99 ∧ (20 ≤ σ 235 (σ' 164 99 - 1).toNat ∧ σ 235 (σ' 164 99 - 1).toNat ≤ 24)))) := by
  refine zCt_of2 [some (.ref (E.1 + 164))] (by decide +kernel) (Nat.le_of_ble_eq_true rfl) rfl ?_
  intro X hE_ hX hR hL hN
  subst hE_
  have hX : zok X cX12_qDropsToBracket RX12 2 := hX
  have hF := zOn_rf zWd σ
  have b1 := zv_46_97 hI zc_164
  have b2 := zv_46_99 hI zc_164
  have b3 := zv_46_101 hI zc_164
  have L_0_10 : ∀ (N : Nat) (s4 : zSto), zInv s4 → zOn zWd σ s4 → s4 164 97 + s4 164 99 = σ 164 97 + σ 164 99 → s4 164 101 = σ 164 101 → (σ 164 101 ≤ s4 164 99 ∧ s4 164 99 ≤ σ 164 99) → (∀ i : Nat, s4 164 99 ≤ i → (i : Int) < σ 164 99 → ¬ (20 ≤ σ 235 i ∧ σ 235 i ≤ 24)) → ((s4 164 99).toNat) < N → zF X s4 0 [some (.ref (X.1.1 + 164))] [] := by
    intro N
    induction N with
    | zero =>
      intro s4 hI5 hF6 g7 g8 g9 g10 hm12
      exact absurd hm12 (Nat.not_lt_zero _)
    | succ N ih13 =>
      intro s4 hI5 hF6 g7 g8 g9 g10 hm12
      have b14 := zv_46_97 hI5 zc_164
      have b15 := zv_46_99 hI5 zc_164
      have b16 := zv_46_101 hI5 zc_164
      refine zt_aload_n (pc' := 1) hX dX12_qDropsToBracket_0 rfl rfl ?_
      have b17 := zv_46_99 hI5 zc_164
      refine zt_get (pc' := 4) (v := .int (zI (s4 164 99))) hX dX12_qDropsToBracket_1 rfl zf_X12_333 (by decide) zc_164 zs_46 rfl ?_
      refine zt_aload_n (pc' := 5) hX dX12_qDropsToBracket_4 rfl rfl ?_
      have b18 := zv_46_101 hI5 zc_164
      refine zt_get (pc' := 8) (v := .int (zI (s4 164 101))) hX dX12_qDropsToBracket_5 rfl zf_X12_339 (by decide) zc_164 zs_46 rfl ?_
      refine zt_icle (pc' := 11) (tgt := 35) hX dX12_qDropsToBracket_8 rfl (by decide) ⟨by omega, by omega⟩ ⟨by omega, by omega⟩ (fun c19 => ?_) (fun c19 => ?_)
      · exact zt_vret hX hR dX12_qDropsToBracket_35 ⟨hI5, hF6, by omega, g10, (by first | exact Or.inl (by omega) | exact Or.inr ⟨by omega, by rw [← hF6 235 _ rfl]; omega⟩)⟩
      · refine zt_aload_n (pc' := 12) hX dX12_qDropsToBracket_11 rfl rfl ?_
        refine zt_get (pc' := 15) (v := .ref (X.1.1 + 235)) hX dX12_qDropsToBracket_12 rfl zf_X12_234 (by decide) zc_164 zs_46 (zrf_of (zv_46_98 hI5 zc_164)) ?_
        refine zt_aload_n (pc' := 16) hX dX12_qDropsToBracket_15 rfl rfl ?_
        refine zt_get (pc' := 19) (v := .int (zI (s4 164 99))) hX dX12_qDropsToBracket_16 rfl zf_X12_333 (by decide) zc_164 zs_46 rfl ?_
        refine zt_iconst (pc' := 20) hX dX12_qDropsToBracket_19 rfl ?_
        refine zt_isub (pc' := 21) hX dX12_qDropsToBracket_20 rfl ?_
        refine zt_iald (pc' := 22) hX dX12_qDropsToBracket_21 rfl (by decide) zc_235 zs_117 (by decide) ⟨by omega, by omega⟩ ?_
        generalize hv20 : s4 235 (((s4 164 99) - 1).toNat) = v20
        have bv20 : -2147483648 ≤ v20 ∧ v20 ≤ 2147483647 := hv20 ▸ zv_117 hI5 zc_235 _
        refine zt_cSz (pc' := 25) hX dX12_qDropsToBracket_22 rfl zm_yX12_qIsBracket zw_31_16 (yc_X12_qIsBracket _ _ s4  v20 ⟨by omega, by omega⟩) rfl rfl (Nat.le_of_ble_eq_true rfl) (by decide) (fun r21 s22 hr23 hp24 => ?_)
        obtain ⟨rfl, q25, q26, z27⟩ := hp24
        refine zt_ifne (pc' := 28) (tgt := 35) hX dX12_qDropsToBracket_25 rfl (by decide) ⟨by omega, by omega⟩ (fun c28 => ?_) (fun c28 => ?_)
        · exact zt_vret hX hR dX12_qDropsToBracket_35 ⟨hI5, hF6, by omega, g10, (by first | exact Or.inl (by omega) | exact Or.inr ⟨by omega, by rw [← hF6 235 _ rfl]; omega⟩)⟩
        · refine zt_aload_n (pc' := 29) hX dX12_qDropsToBracket_28 rfl rfl ?_
          refine zt_cVv (pc' := 32) hX dX12_qDropsToBracket_29 rfl zm_yX12_qDrops zw_31_4 zc_164 (by decide) zs_46 (q := (RX12, TX12, 108)) rfl rfl (yc_X12_qDrops _ _ s4 hI5 (by omega) (by omega)) rfl rfl (Nat.le_of_ble_eq_true rfl) (by decide) (fun r29 s30 hr31 hp32 => ?_)
          obtain ⟨hI33, hF34, z35⟩ := hp32
          have hF36 := zOn_tr hF6 hF34 zi_id
          have b37 := zv_46_97 hI33 zc_164
          have b38 := zv_46_99 hI33 zc_164
          have b39 := zv_46_101 hI33 zc_164
          have e40 := hF34 164 101 rfl
          refine zt_goto (tgt := 0) hX dX12_qDropsToBracket_32 (by decide) ?_
          exact ih13 s30 hI33 hF36 (by omega) (by omega) (by omega) (fun i h1 h2 => ydr_s (Q := fun x => ¬ (20 ≤ x ∧ x ≤ 24)) g10 (by omega) ((hF6 235 _ rfl).symm.trans hv20) (by show ¬ _; omega) i (by omega) h2) (by omega)
  exact L_0_10 _ σ hI hF (by omega) (by omega) (by omega) (fun i h1 h2 => absurd h2 (by omega)) (Nat.lt_succ_self _)
set_option maxRecDepth 100000 in
set_option maxHeartbeats 4000000 in
theorem yc_X12_qEndsPart (l : Launch) (E : zEN) (σ : zSto) (hI : zInv σ) (hpre0 : σ 164 97 + σ 164 99 ≤ 1700) (hpre1 : 0 ≤ σ 164 101 ∧ σ 164 101 ≤ σ 164 99) (hpre2 : σ 164 99 - σ 164 101 ≤ 1700 ∧ -100000 ≤ σ 164 100 ∧ σ 164 100 ≤ 100000) : zCt l E yX12_qEndsPart cX12_qEndsPart 1 none 2 zNC zNC 0 0 σ [.ref (E.1 + 164)] (fun r σ' => zInv σ' ∧ zOn zWe σ σ' ∧ (σ' 164 97 + σ' 164 99 = σ 164 97 + σ 164 99 ∧ σ 164 101 ≤ σ' 164 99 ∧ σ' 164 99 ≤ σ 164 99 ∧ σ' 164 100 = σ 164 100 - (σ 164 99 - σ' 164 99)) ∧ (∀ i : Nat, σ' 164 99 ≤ i → (i : Int) < σ 164 99 → 60 ≤ σ 235 i) ∧ (σ 164 5 ≠ 0 ∨ σ' 164 99 = σ 164 101 ∨ σ 235 (σ' 164 99 - 1).toNat < 60)) := by
  refine zCt_of2 [some (.ref (E.1 + 164))] (by decide +kernel) (Nat.le_of_ble_eq_true rfl) rfl ?_
  intro X hE_ hX hR hL hN
  subst hE_
  have hX : zok X cX12_qEndsPart RX12 2 := hX
  have hF := zOn_rf zWe σ
  have b1 := zv_46_97 hI zc_164
  have b2 := zv_46_99 hI zc_164
  have b3 := zv_46_101 hI zc_164
  have b4 := zv_46_100 hI zc_164
  have b5 := zv_46_5 hI zc_164
  have L_0_14 : ∀ (N : Nat) (s6 : zSto), zInv s6 → zOn zWe σ s6 → s6 164 97 + s6 164 99 = σ 164 97 + σ 164 99 → s6 164 101 = σ 164 101 → (σ 164 101 ≤ s6 164 99 ∧ s6 164 99 ≤ σ 164 99) → s6 164 100 = σ 164 100 - (σ 164 99 - s6 164 99) → s6 164 5 = σ 164 5 → (∀ i : Nat, s6 164 99 ≤ i → (i : Int) < σ 164 99 → 60 ≤ σ 235 i) → ((s6 164 99).toNat) < N → zF X s6 0 [some (.ref (X.1.1 + 164))] [] := by
    intro N
    induction N with
    | zero =>
      intro s6 hI7 hF8 g9 g10 g11 g12 g13 g14 hm16
      exact absurd hm16 (Nat.not_lt_zero _)
    | succ N ih17 =>
      intro s6 hI7 hF8 g9 g10 g11 g12 g13 g14 hm16
      have b18 := zv_46_97 hI7 zc_164
      have b19 := zv_46_99 hI7 zc_164
      have b20 := zv_46_101 hI7 zc_164
      have b21 := zv_46_100 hI7 zc_164
      have b22 := zv_46_5 hI7 zc_164
      refine zt_aload_n (pc' := 1) hX dX12_qEndsPart_0 rfl rfl ?_
      have b23 := zv_46_5 hI7 zc_164
      refine zt_get (pc' := 4) (v := .int (zI (s6 164 5))) hX dX12_qEndsPart_1 rfl zf_X12_246 (by decide) zc_164 zs_46 rfl ?_
      refine zt_ifne (pc' := 7) (tgt := 51) hX dX12_qEndsPart_4 rfl (by decide) ⟨by omega, by omega⟩ (fun c24 => ?_) (fun c24 => ?_)
      · exact zt_vret hX hR dX12_qEndsPart_51 ⟨hI7, hF8, by omega, g14, (by first | exact Or.inl (by omega) | exact Or.inr (Or.inl (by omega)) | exact Or.inr (Or.inr (by rw [← hF8 235 _ rfl]; omega)))⟩
      · refine zt_aload_n (pc' := 8) hX dX12_qEndsPart_7 rfl rfl ?_
        have b25 := zv_46_99 hI7 zc_164
        refine zt_get (pc' := 11) (v := .int (zI (s6 164 99))) hX dX12_qEndsPart_8 rfl zf_X12_333 (by decide) zc_164 zs_46 rfl ?_
        refine zt_aload_n (pc' := 12) hX dX12_qEndsPart_11 rfl rfl ?_
        have b26 := zv_46_101 hI7 zc_164
        refine zt_get (pc' := 15) (v := .int (zI (s6 164 101))) hX dX12_qEndsPart_12 rfl zf_X12_339 (by decide) zc_164 zs_46 rfl ?_
        refine zt_icle (pc' := 18) (tgt := 51) hX dX12_qEndsPart_15 rfl (by decide) ⟨by omega, by omega⟩ ⟨by omega, by omega⟩ (fun c27 => ?_) (fun c27 => ?_)
        · exact zt_vret hX hR dX12_qEndsPart_51 ⟨hI7, hF8, by omega, g14, (by first | exact Or.inl (by omega) | exact Or.inr (Or.inl (by omega)) | exact Or.inr (Or.inr (by rw [← hF8 235 _ rfl]; omega)))⟩
        · refine zt_aload_n (pc' := 19) hX dX12_qEndsPart_18 rfl rfl ?_
          refine zt_get (pc' := 22) (v := .ref (X.1.1 + 235)) hX dX12_qEndsPart_19 rfl zf_X12_234 (by decide) zc_164 zs_46 (zrf_of (zv_46_98 hI7 zc_164)) ?_
          refine zt_aload_n (pc' := 23) hX dX12_qEndsPart_22 rfl rfl ?_
          refine zt_get (pc' := 26) (v := .int (zI (s6 164 99))) hX dX12_qEndsPart_23 rfl zf_X12_333 (by decide) zc_164 zs_46 rfl ?_
          refine zt_iconst (pc' := 27) hX dX12_qEndsPart_26 rfl ?_
          refine zt_isub (pc' := 28) hX dX12_qEndsPart_27 rfl ?_
          refine zt_iald (pc' := 29) hX dX12_qEndsPart_28 rfl (by decide) zc_235 zs_117 (by decide) ⟨by omega, by omega⟩ ?_
          generalize hv28 : s6 235 (((s6 164 99) - 1).toNat) = v28
          have bv28 : -2147483648 ≤ v28 ∧ v28 ≤ 2147483647 := hv28 ▸ zv_117 hI7 zc_235 _
          refine zt_bipush (pc' := 31) hX dX12_qEndsPart_29 rfl (by decide) (by decide) ?_
          refine zt_iclt (pc' := 34) (tgt := 51) hX dX12_qEndsPart_31 rfl (by decide) ⟨by omega, by omega⟩ ⟨by omega, by omega⟩ (fun c29 => ?_) (fun c29 => ?_)
          · exact zt_vret hX hR dX12_qEndsPart_51 ⟨hI7, hF8, by omega, g14, (by first | exact Or.inl (by omega) | exact Or.inr (Or.inl (by omega)) | exact Or.inr (Or.inr (by rw [← hF8 235 _ rfl]; omega)))⟩
          · refine zt_aload_n (pc' := 35) hX dX12_qEndsPart_34 rfl rfl ?_
            refine zt_dup (pc' := 36) hX dX12_qEndsPart_35 rfl rfl ?_
            have b30 := zv_46_100 hI7 zc_164
            refine zt_get (pc' := 39) (v := .int (zI (s6 164 100))) hX dX12_qEndsPart_36 rfl zf_X12_336 (by decide) zc_164 zs_46 rfl ?_
            refine zt_iconst (pc' := 40) hX dX12_qEndsPart_39 rfl ?_
            refine zt_isub (pc' := 41) hX dX12_qEndsPart_40 rfl ?_
            refine zt_wrap (fun r31 zr31 lr31 ur31 => ?_)
            replace zr31 := ywr_eq zr31
            refine zt_put (pc' := 44) (x := r31) hX dX12_qEndsPart_41 rfl zf_X12_336 (by decide) zc_164 zs_46 (fun q hq => by cases hq; rfl) rfl rfl rfl ?_
            generalize hs33 : zset s6 164 100 r31 = s32
            have hI34 : zInv s32 := hs33 ▸ zp_46_100 hI7 zc_164 ⟨by omega, by omega⟩
            have hF35 : zOn zWe σ s32 := hs33 ▸ zOn_set hF8 (by decide)
            have e36 : s32 164 97 = s6 164 97 := by rw [← hs33]; exact zset_j (by decide)
            have e37 : s32 164 99 = s6 164 99 := by rw [← hs33]; exact zset_j (by decide)
            have e38 : s32 164 101 = s6 164 101 := by rw [← hs33]; exact zset_j (by decide)
            have e39 : s32 164 100 = r31 := by rw [← hs33]; exact zset_s
            have e40 : s32 164 5 = s6 164 5 := by rw [← hs33]; exact zset_j (by decide)
            refine zt_aload_n (pc' := 45) hX dX12_qEndsPart_44 rfl rfl ?_
            refine zt_cVv (pc' := 48) hX dX12_qEndsPart_45 rfl zm_yX12_qDrops zw_31_4 zc_164 (by decide) zs_46 (q := (RX12, TX12, 108)) rfl rfl (yc_X12_qDrops _ _ s32 hI34 (by omega) (by omega)) rfl rfl (Nat.le_of_ble_eq_true rfl) (by decide) (fun r41 s42 hr43 hp44 => ?_)
            obtain ⟨hI45, hF46, z47⟩ := hp44
            have hF48 := zOn_tr hF35 hF46 zi_de
            have b49 := zv_46_97 hI45 zc_164
            have b50 := zv_46_99 hI45 zc_164
            have b51 := zv_46_101 hI45 zc_164
            have b52 := zv_46_100 hI45 zc_164
            have b53 := zv_46_5 hI45 zc_164
            have e54 := hF46 164 101 rfl
            have e55 := hF46 164 100 rfl
            have e56 := hF46 164 5 rfl
            refine zt_goto (tgt := 0) hX dX12_qEndsPart_48 (by decide) ?_
            exact ih17 s42 hI45 hF48 (by omega) (by omega) (by omega) (by omega) (by omega) (fun i h1 h2 => ydr_s (Q := fun x => 60 ≤ x) g14 (by omega) ((hF8 235 _ rfl).symm.trans hv28) (by show 60 ≤ _; omega) i (by omega) h2) (by omega)
  exact L_0_14 _ σ hI hF (by omega) (by omega) (by omega) (by omega) (by omega) (fun i h1 h2 => absurd h2 (by omega)) (Nat.lt_succ_self _)
set_option maxRecDepth 100000 in
set_option maxHeartbeats 4000000 in
theorem yc_X12_qWordHere (l : Launch) (E : zEN) (σ : zSto) (hI : zInv σ) (f : Int → Int) (hT : yTq f σ) (hWd : yWd σ) : zCt l E yX12_qWordHere cX12_qWordHere 1 (some .int) 2 zNC zNC 0 0 σ [.ref (E.1 + 164)] (fun r σ' => zInv σ' ∧ zOn zQa σ σ' ∧ -1 ≤ r ∧ r ≤ 10 ∧ yTq f σ' ∧ ((yqs f σ') = (yqs f σ)) ∧ (r = yqw (yPi f (yqs f σ))) ∧ (yPo (yqs f σ) = 1 → σ' 164 2 = yPq (yqs f σ))) := by
  refine zCt_of2 [some (.ref (E.1 + 164))] (by decide +kernel) (Nat.le_of_ble_eq_true rfl) rfl ?_
  intro X hE_ hX hR hL hN
  subst hE_
  have hX : zok X cX12_qWordHere RX12 2 := hX
  have hF := zOn_rf zQa σ
  have hE0 : yqs f σ = yqs f σ := rfl
  refine zt_aload_n (pc' := 1) hX dX12_qWordHere_0 rfl rfl ?_
  refine zt_aload_n (pc' := 2) hX dX12_qWordHere_1 rfl rfl ?_
  refine zt_get (pc' := 5) (v := .ref (X.1.1 + 223)) hX dX12_qWordHere_2 rfl zf_X12_198 (by decide) zc_164 zs_46 (zrf_of (zv_46_85 hI zc_164)) ?_
  refine zt_cVz (pc' := 8) hX dX12_qWordHere_5 rfl zm_yX12_isHere zw_26_8 zc_164 (by decide) zs_46 (q := (RX12, TX12, 108)) rfl rfl (yc_X12_isHere _ _ σ hI 223 105 4 zc_223 (by decide) zs_105 (by decide) f hT 12 (yrow_223 hWd) (by decide)) rfl rfl (Nat.le_of_ble_eq_true rfl) (by decide) (fun r1 s2 hr3 hp4 => ?_)
  obtain ⟨hI5, hF6, q7, q8, hT9, z10, z11, z12, z13⟩ := hp4
  have hE14 : yqs f s2 = (yqs f σ) := z10
  have hF15 := zOn_tr hF hF6 zi_id
  clear z13
  rcases yspl z11 with ⟨rfl, c16⟩ | ⟨rfl, c16⟩
  · clear z11
    refine zt_ifeq (pc' := 11) (tgt := 13) hX dX12_qWordHere_8 rfl (by decide) ⟨by omega, by omega⟩ (fun c17 => ?_) (fun c17 => ?_)
    · exact absurd c17 (by omega)
    · refine zt_iconst (pc' := 12) hX dX12_qWordHere_11 rfl ?_
      exact zt_iret hX hR dX12_qWordHere_12 ⟨by omega, by omega⟩ ⟨hI5, hF15, by omega, by omega, hT9, hE14, (by unfold yqw; rw [if_pos (by omega)]), (fun o => z12 o)⟩
  · clear z11
    refine zt_ifeq (pc' := 11) (tgt := 13) hX dX12_qWordHere_8 rfl (by decide) ⟨by omega, by omega⟩ (fun c18 => ?_) (fun c18 => ?_)
    · refine zt_aload_n (pc' := 14) hX dX12_qWordHere_13 rfl rfl ?_
      refine zt_aload_n (pc' := 15) hX dX12_qWordHere_14 rfl rfl ?_
      refine zt_get (pc' := 18) (v := .ref (X.1.1 + 224)) hX dX12_qWordHere_15 rfl zf_X12_201 (by decide) zc_164 zs_46 (zrf_of (zv_46_86 hI5 zc_164)) ?_
      refine zt_cVz (pc' := 21) hX dX12_qWordHere_18 rfl zm_yX12_isHere zw_26_8 zc_164 (by decide) zs_46 (q := (RX12, TX12, 108)) rfl rfl (yc_X12_isHere _ _ s2 hI5 224 106 6 zc_224 (by decide) zs_106 (by decide) f hT9 13 (yrow_224 (yWd_a hWd hF15)) (by decide)) rfl rfl (Nat.le_of_ble_eq_true rfl) (by decide) (fun r19 s20 hr21 hp22 => ?_)
      obtain ⟨hI23, hF24, q25, q26, hT27, z28, z29, z30, z31⟩ := hp22
      have hE32 : yqs f s20 = (yqs f σ) := by rw [z28, hE14]
      rw [hE14] at z29
      rw [hE14] at z30
      have hF33 := zOn_tr hF15 hF24 zi_id
      clear z12
      clear z31
      rcases yspl z29 with ⟨rfl, c34⟩ | ⟨rfl, c34⟩
      · clear z29
        refine zt_ifeq (pc' := 24) (tgt := 26) hX dX12_qWordHere_21 rfl (by decide) ⟨by omega, by omega⟩ (fun c35 => ?_) (fun c35 => ?_)
        · exact absurd c35 (by omega)
        · refine zt_iconst (pc' := 25) hX dX12_qWordHere_24 rfl ?_
          exact zt_iret hX hR dX12_qWordHere_25 ⟨by omega, by omega⟩ ⟨hI23, hF33, by omega, by omega, hT27, hE32, (by unfold yqw; rw [if_neg (by omega), if_pos (by omega)]), (fun o => z30 o)⟩
      · clear z29
        refine zt_ifeq (pc' := 24) (tgt := 26) hX dX12_qWordHere_21 rfl (by decide) ⟨by omega, by omega⟩ (fun c36 => ?_) (fun c36 => ?_)
        · refine zt_aload_n (pc' := 27) hX dX12_qWordHere_26 rfl rfl ?_
          refine zt_aload_n (pc' := 28) hX dX12_qWordHere_27 rfl rfl ?_
          refine zt_get (pc' := 31) (v := .ref (X.1.1 + 225)) hX dX12_qWordHere_28 rfl zf_X12_204 (by decide) zc_164 zs_46 (zrf_of (zv_46_87 hI23 zc_164)) ?_
          refine zt_cVz (pc' := 34) hX dX12_qWordHere_31 rfl zm_yX12_isHere zw_26_8 zc_164 (by decide) zs_46 (q := (RX12, TX12, 108)) rfl rfl (yc_X12_isHere _ _ s20 hI23 225 107 6 zc_225 (by decide) zs_107 (by decide) f hT27 14 (yrow_225 (yWd_a hWd hF33)) (by decide)) rfl rfl (Nat.le_of_ble_eq_true rfl) (by decide) (fun r37 s38 hr39 hp40 => ?_)
          obtain ⟨hI41, hF42, q43, q44, hT45, z46, z47, z48, z49⟩ := hp40
          have hE50 : yqs f s38 = (yqs f σ) := by rw [z46, hE32]
          rw [hE32] at z47
          rw [hE32] at z48
          have hF51 := zOn_tr hF33 hF42 zi_id
          clear z30
          clear z49
          rcases yspl z47 with ⟨rfl, c52⟩ | ⟨rfl, c52⟩
          · clear z47
            refine zt_ifeq (pc' := 37) (tgt := 39) hX dX12_qWordHere_34 rfl (by decide) ⟨by omega, by omega⟩ (fun c53 => ?_) (fun c53 => ?_)
            · exact absurd c53 (by omega)
            · refine zt_iconst (pc' := 38) hX dX12_qWordHere_37 rfl ?_
              exact zt_iret hX hR dX12_qWordHere_38 ⟨by omega, by omega⟩ ⟨hI41, hF51, by omega, by omega, hT45, hE50, (by unfold yqw; rw [if_neg (by omega), if_neg (by omega), if_pos (by omega)]), (fun o => z48 o)⟩
          · clear z47
            refine zt_ifeq (pc' := 37) (tgt := 39) hX dX12_qWordHere_34 rfl (by decide) ⟨by omega, by omega⟩ (fun c54 => ?_) (fun c54 => ?_)
            · refine zt_aload_n (pc' := 40) hX dX12_qWordHere_39 rfl rfl ?_
              refine zt_aload_n (pc' := 41) hX dX12_qWordHere_40 rfl rfl ?_
              refine zt_get (pc' := 44) (v := .ref (X.1.1 + 226)) hX dX12_qWordHere_41 rfl zf_X12_207 (by decide) zc_164 zs_46 (zrf_of (zv_46_88 hI41 zc_164)) ?_
              refine zt_cVz (pc' := 47) hX dX12_qWordHere_44 rfl zm_yX12_isHere zw_26_8 zc_164 (by decide) zs_46 (q := (RX12, TX12, 108)) rfl rfl (yc_X12_isHere _ _ s38 hI41 226 108 5 zc_226 (by decide) zs_108 (by decide) f hT45 6 (yrow_226 (yWd_a hWd hF51)) (by decide)) rfl rfl (Nat.le_of_ble_eq_true rfl) (by decide) (fun r55 s56 hr57 hp58 => ?_)
              obtain ⟨hI59, hF60, q61, q62, hT63, z64, z65, z66, z67⟩ := hp58
              have hE68 : yqs f s56 = (yqs f σ) := by rw [z64, hE50]
              rw [hE50] at z65
              rw [hE50] at z66
              have hF69 := zOn_tr hF51 hF60 zi_id
              clear z48
              clear z67
              rcases yspl z65 with ⟨rfl, c70⟩ | ⟨rfl, c70⟩
              · clear z65
                refine zt_ifeq (pc' := 50) (tgt := 52) hX dX12_qWordHere_47 rfl (by decide) ⟨by omega, by omega⟩ (fun c71 => ?_) (fun c71 => ?_)
                · exact absurd c71 (by omega)
                · refine zt_iconst (pc' := 51) hX dX12_qWordHere_50 rfl ?_
                  exact zt_iret hX hR dX12_qWordHere_51 ⟨by omega, by omega⟩ ⟨hI59, hF69, by omega, by omega, hT63, hE68, (by unfold yqw; rw [if_neg (by omega), if_neg (by omega), if_neg (by omega), if_pos (by omega)]), (fun o => z66 o)⟩
              · clear z65
                refine zt_ifeq (pc' := 50) (tgt := 52) hX dX12_qWordHere_47 rfl (by decide) ⟨by omega, by omega⟩ (fun c72 => ?_) (fun c72 => ?_)
                · refine zt_aload_n (pc' := 53) hX dX12_qWordHere_52 rfl rfl ?_
                  refine zt_aload_n (pc' := 54) hX dX12_qWordHere_53 rfl rfl ?_
                  refine zt_get (pc' := 57) (v := .ref (X.1.1 + 227)) hX dX12_qWordHere_54 rfl zf_X12_210 (by decide) zc_164 zs_46 (zrf_of (zv_46_89 hI59 zc_164)) ?_
                  refine zt_cVz (pc' := 60) hX dX12_qWordHere_57 rfl zm_yX12_isHere zw_26_8 zc_164 (by decide) zs_46 (q := (RX12, TX12, 108)) rfl rfl (yc_X12_isHere _ _ s56 hI59 227 109 5 zc_227 (by decide) zs_109 (by decide) f hT63 15 (yrow_227 (yWd_a hWd hF69)) (by decide)) rfl rfl (Nat.le_of_ble_eq_true rfl) (by decide) (fun r73 s74 hr75 hp76 => ?_)
                  obtain ⟨hI77, hF78, q79, q80, hT81, z82, z83, z84, z85⟩ := hp76
                  have hE86 : yqs f s74 = (yqs f σ) := by rw [z82, hE68]
                  rw [hE68] at z83
                  rw [hE68] at z84
                  have hF87 := zOn_tr hF69 hF78 zi_id
                  clear z66
                  clear z85
                  rcases yspl z83 with ⟨rfl, c88⟩ | ⟨rfl, c88⟩
                  · clear z83
                    refine zt_ifeq (pc' := 63) (tgt := 65) hX dX12_qWordHere_60 rfl (by decide) ⟨by omega, by omega⟩ (fun c89 => ?_) (fun c89 => ?_)
                    · exact absurd c89 (by omega)
                    · refine zt_iconst (pc' := 64) hX dX12_qWordHere_63 rfl ?_
                      exact zt_iret hX hR dX12_qWordHere_64 ⟨by omega, by omega⟩ ⟨hI77, hF87, by omega, by omega, hT81, hE86, (by unfold yqw; rw [if_neg (by omega), if_neg (by omega), if_neg (by omega), if_neg (by omega), if_pos (by omega)]), (fun o => z84 o)⟩
                  · clear z83
                    refine zt_ifeq (pc' := 63) (tgt := 65) hX dX12_qWordHere_60 rfl (by decide) ⟨by omega, by omega⟩ (fun c90 => ?_) (fun c90 => ?_)
                    · refine zt_aload_n (pc' := 66) hX dX12_qWordHere_65 rfl rfl ?_
                      refine zt_aload_n (pc' := 67) hX dX12_qWordHere_66 rfl rfl ?_
                      refine zt_get (pc' := 70) (v := .ref (X.1.1 + 228)) hX dX12_qWordHere_67 rfl zf_X12_213 (by decide) zc_164 zs_46 (zrf_of (zv_46_90 hI77 zc_164)) ?_
                      refine zt_cVz (pc' := 73) hX dX12_qWordHere_70 rfl zm_yX12_isHere zw_26_8 zc_164 (by decide) zs_46 (q := (RX12, TX12, 108)) rfl rfl (yc_X12_isHere _ _ s74 hI77 228 110 4 zc_228 (by decide) zs_110 (by decide) f hT81 16 (yrow_228 (yWd_a hWd hF87)) (by decide)) rfl rfl (Nat.le_of_ble_eq_true rfl) (by decide) (fun r91 s92 hr93 hp94 => ?_)
                      obtain ⟨hI95, hF96, q97, q98, hT99, z100, z101, z102, z103⟩ := hp94
                      have hE104 : yqs f s92 = (yqs f σ) := by rw [z100, hE86]
                      rw [hE86] at z101
                      rw [hE86] at z102
                      have hF105 := zOn_tr hF87 hF96 zi_id
                      clear z84
                      clear z103
                      rcases yspl z101 with ⟨rfl, c106⟩ | ⟨rfl, c106⟩
                      · clear z101
                        refine zt_ifeq (pc' := 76) (tgt := 78) hX dX12_qWordHere_73 rfl (by decide) ⟨by omega, by omega⟩ (fun c107 => ?_) (fun c107 => ?_)
                        · exact absurd c107 (by omega)
                        · refine zt_iconst (pc' := 77) hX dX12_qWordHere_76 rfl ?_
                          exact zt_iret hX hR dX12_qWordHere_77 ⟨by omega, by omega⟩ ⟨hI95, hF105, by omega, by omega, hT99, hE104, (by unfold yqw; rw [if_neg (by omega), if_neg (by omega), if_neg (by omega), if_neg (by omega), if_neg (by omega), if_pos (by omega)]), (fun o => z102 o)⟩
                      · clear z101
                        refine zt_ifeq (pc' := 76) (tgt := 78) hX dX12_qWordHere_73 rfl (by decide) ⟨by omega, by omega⟩ (fun c108 => ?_) (fun c108 => ?_)
                        · refine zt_aload_n (pc' := 79) hX dX12_qWordHere_78 rfl rfl ?_
                          refine zt_aload_n (pc' := 80) hX dX12_qWordHere_79 rfl rfl ?_
                          refine zt_get (pc' := 83) (v := .ref (X.1.1 + 229)) hX dX12_qWordHere_80 rfl zf_X12_216 (by decide) zc_164 zs_46 (zrf_of (zv_46_91 hI95 zc_164)) ?_
                          refine zt_cVz (pc' := 86) hX dX12_qWordHere_83 rfl zm_yX12_isHere zw_26_8 zc_164 (by decide) zs_46 (q := (RX12, TX12, 108)) rfl rfl (yc_X12_isHere _ _ s92 hI95 229 111 6 zc_229 (by decide) zs_111 (by decide) f hT99 17 (yrow_229 (yWd_a hWd hF105)) (by decide)) rfl rfl (Nat.le_of_ble_eq_true rfl) (by decide) (fun r109 s110 hr111 hp112 => ?_)
                          obtain ⟨hI113, hF114, q115, q116, hT117, z118, z119, z120, z121⟩ := hp112
                          have hE122 : yqs f s110 = (yqs f σ) := by rw [z118, hE104]
                          rw [hE104] at z119
                          rw [hE104] at z120
                          have hF123 := zOn_tr hF105 hF114 zi_id
                          clear z102
                          clear z121
                          rcases yspl z119 with ⟨rfl, c124⟩ | ⟨rfl, c124⟩
                          · clear z119
                            refine zt_ifeq (pc' := 89) (tgt := 92) hX dX12_qWordHere_86 rfl (by decide) ⟨by omega, by omega⟩ (fun c125 => ?_) (fun c125 => ?_)
                            · exact absurd c125 (by omega)
                            · refine zt_bipush (pc' := 91) hX dX12_qWordHere_89 rfl (by decide) (by decide) ?_
                              exact zt_iret hX hR dX12_qWordHere_91 ⟨by omega, by omega⟩ ⟨hI113, hF123, by omega, by omega, hT117, hE122, (by unfold yqw; rw [if_neg (by omega), if_neg (by omega), if_neg (by omega), if_neg (by omega), if_neg (by omega), if_neg (by omega), if_pos (by omega)]), (fun o => z120 o)⟩
                          · clear z119
                            refine zt_ifeq (pc' := 89) (tgt := 92) hX dX12_qWordHere_86 rfl (by decide) ⟨by omega, by omega⟩ (fun c126 => ?_) (fun c126 => ?_)
                            · refine zt_aload_n (pc' := 93) hX dX12_qWordHere_92 rfl rfl ?_
                              refine zt_aload_n (pc' := 94) hX dX12_qWordHere_93 rfl rfl ?_
                              refine zt_get (pc' := 97) (v := .ref (X.1.1 + 230)) hX dX12_qWordHere_94 rfl zf_X12_219 (by decide) zc_164 zs_46 (zrf_of (zv_46_92 hI113 zc_164)) ?_
                              refine zt_cVz (pc' := 100) hX dX12_qWordHere_97 rfl zm_yX12_isHere zw_26_8 zc_164 (by decide) zs_46 (q := (RX12, TX12, 108)) rfl rfl (yc_X12_isHere _ _ s110 hI113 230 112 6 zc_230 (by decide) zs_112 (by decide) f hT117 18 (yrow_230 (yWd_a hWd hF123)) (by decide)) rfl rfl (Nat.le_of_ble_eq_true rfl) (by decide) (fun r127 s128 hr129 hp130 => ?_)
                              obtain ⟨hI131, hF132, q133, q134, hT135, z136, z137, z138, z139⟩ := hp130
                              have hE140 : yqs f s128 = (yqs f σ) := by rw [z136, hE122]
                              rw [hE122] at z137
                              rw [hE122] at z138
                              have hF141 := zOn_tr hF123 hF132 zi_id
                              clear z120
                              clear z139
                              rcases yspl z137 with ⟨rfl, c142⟩ | ⟨rfl, c142⟩
                              · clear z137
                                refine zt_ifeq (pc' := 103) (tgt := 106) hX dX12_qWordHere_100 rfl (by decide) ⟨by omega, by omega⟩ (fun c143 => ?_) (fun c143 => ?_)
                                · exact absurd c143 (by omega)
                                · refine zt_bipush (pc' := 105) hX dX12_qWordHere_103 rfl (by decide) (by decide) ?_
                                  exact zt_iret hX hR dX12_qWordHere_105 ⟨by omega, by omega⟩ ⟨hI131, hF141, by omega, by omega, hT135, hE140, (by unfold yqw; rw [if_neg (by omega), if_neg (by omega), if_neg (by omega), if_neg (by omega), if_neg (by omega), if_neg (by omega), if_neg (by omega), if_pos (by omega)]), (fun o => z138 o)⟩
                              · clear z137
                                refine zt_ifeq (pc' := 103) (tgt := 106) hX dX12_qWordHere_100 rfl (by decide) ⟨by omega, by omega⟩ (fun c144 => ?_) (fun c144 => ?_)
                                · refine zt_aload_n (pc' := 107) hX dX12_qWordHere_106 rfl rfl ?_
                                  refine zt_aload_n (pc' := 108) hX dX12_qWordHere_107 rfl rfl ?_
                                  refine zt_get (pc' := 111) (v := .ref (X.1.1 + 231)) hX dX12_qWordHere_108 rfl zf_X12_222 (by decide) zc_164 zs_46 (zrf_of (zv_46_93 hI131 zc_164)) ?_
                                  refine zt_cVz (pc' := 114) hX dX12_qWordHere_111 rfl zm_yX12_isHere zw_26_8 zc_164 (by decide) zs_46 (q := (RX12, TX12, 108)) rfl rfl (yc_X12_isHere _ _ s128 hI131 231 113 3 zc_231 (by decide) zs_113 (by decide) f hT135 19 (yrow_231 (yWd_a hWd hF141)) (by decide)) rfl rfl (Nat.le_of_ble_eq_true rfl) (by decide) (fun r145 s146 hr147 hp148 => ?_)
                                  obtain ⟨hI149, hF150, q151, q152, hT153, z154, z155, z156, z157⟩ := hp148
                                  have hE158 : yqs f s146 = (yqs f σ) := by rw [z154, hE140]
                                  rw [hE140] at z155
                                  rw [hE140] at z156
                                  have hF159 := zOn_tr hF141 hF150 zi_id
                                  clear z138
                                  clear z157
                                  rcases yspl z155 with ⟨rfl, c160⟩ | ⟨rfl, c160⟩
                                  · clear z155
                                    refine zt_ifeq (pc' := 117) (tgt := 120) hX dX12_qWordHere_114 rfl (by decide) ⟨by omega, by omega⟩ (fun c161 => ?_) (fun c161 => ?_)
                                    · exact absurd c161 (by omega)
                                    · refine zt_bipush (pc' := 119) hX dX12_qWordHere_117 rfl (by decide) (by decide) ?_
                                      exact zt_iret hX hR dX12_qWordHere_119 ⟨by omega, by omega⟩ ⟨hI149, hF159, by omega, by omega, hT153, hE158, (by unfold yqw; rw [if_neg (by omega), if_neg (by omega), if_neg (by omega), if_neg (by omega), if_neg (by omega), if_neg (by omega), if_neg (by omega), if_neg (by omega), if_pos (by omega)]), (fun o => z156 o)⟩
                                  · clear z155
                                    refine zt_ifeq (pc' := 117) (tgt := 120) hX dX12_qWordHere_114 rfl (by decide) ⟨by omega, by omega⟩ (fun c162 => ?_) (fun c162 => ?_)
                                    · refine zt_aload_n (pc' := 121) hX dX12_qWordHere_120 rfl rfl ?_
                                      refine zt_aload_n (pc' := 122) hX dX12_qWordHere_121 rfl rfl ?_
                                      refine zt_get (pc' := 125) (v := .ref (X.1.1 + 232)) hX dX12_qWordHere_122 rfl zf_X12_225 (by decide) zc_164 zs_46 (zrf_of (zv_46_94 hI149 zc_164)) ?_
                                      refine zt_cVz (pc' := 128) hX dX12_qWordHere_125 rfl zm_yX12_isHere zw_26_8 zc_164 (by decide) zs_46 (q := (RX12, TX12, 108)) rfl rfl (yc_X12_isHere _ _ s146 hI149 232 114 5 zc_232 (by decide) zs_114 (by decide) f hT153 8 (yrow_232 (yWd_a hWd hF159)) (by decide)) rfl rfl (Nat.le_of_ble_eq_true rfl) (by decide) (fun r163 s164 hr165 hp166 => ?_)
                                      obtain ⟨hI167, hF168, q169, q170, hT171, z172, z173, z174, z175⟩ := hp166
                                      have hE176 : yqs f s164 = (yqs f σ) := by rw [z172, hE158]
                                      rw [hE158] at z173
                                      rw [hE158] at z174
                                      have hF177 := zOn_tr hF159 hF168 zi_id
                                      clear z156
                                      clear z175
                                      rcases yspl z173 with ⟨rfl, c178⟩ | ⟨rfl, c178⟩
                                      · clear z173
                                        refine zt_ifeq (pc' := 131) (tgt := 134) hX dX12_qWordHere_128 rfl (by decide) ⟨by omega, by omega⟩ (fun c179 => ?_) (fun c179 => ?_)
                                        · exact absurd c179 (by omega)
                                        · refine zt_bipush (pc' := 133) hX dX12_qWordHere_131 rfl (by decide) (by decide) ?_
                                          exact zt_iret hX hR dX12_qWordHere_133 ⟨by omega, by omega⟩ ⟨hI167, hF177, by omega, by omega, hT171, hE176, (by unfold yqw; rw [if_neg (by omega), if_neg (by omega), if_neg (by omega), if_neg (by omega), if_neg (by omega), if_neg (by omega), if_neg (by omega), if_neg (by omega), if_neg (by omega), if_pos (by omega)]), (fun o => z174 o)⟩
                                      · clear z173
                                        refine zt_ifeq (pc' := 131) (tgt := 134) hX dX12_qWordHere_128 rfl (by decide) ⟨by omega, by omega⟩ (fun c180 => ?_) (fun c180 => ?_)
                                        · refine zt_aload_n (pc' := 135) hX dX12_qWordHere_134 rfl rfl ?_
                                          refine zt_aload_n (pc' := 136) hX dX12_qWordHere_135 rfl rfl ?_
                                          refine zt_get (pc' := 139) (v := .ref (X.1.1 + 233)) hX dX12_qWordHere_136 rfl zf_X12_228 (by decide) zc_164 zs_46 (zrf_of (zv_46_95 hI167 zc_164)) ?_
                                          refine zt_cVz (pc' := 142) hX dX12_qWordHere_139 rfl zm_yX12_isHere zw_26_8 zc_164 (by decide) zs_46 (q := (RX12, TX12, 108)) rfl rfl (yc_X12_isHere _ _ s164 hI167 233 115 3 zc_233 (by decide) zs_115 (by decide) f hT171 20 (yrow_233 (yWd_a hWd hF177)) (by decide)) rfl rfl (Nat.le_of_ble_eq_true rfl) (by decide) (fun r181 s182 hr183 hp184 => ?_)
                                          obtain ⟨hI185, hF186, q187, q188, hT189, z190, z191, z192, z193⟩ := hp184
                                          have hE194 : yqs f s182 = (yqs f σ) := by rw [z190, hE176]
                                          rw [hE176] at z191
                                          rw [hE176] at z192
                                          have hF195 := zOn_tr hF177 hF186 zi_id
                                          clear z174
                                          clear z193
                                          rcases yspl z191 with ⟨rfl, c196⟩ | ⟨rfl, c196⟩
                                          · clear z191
                                            refine zt_ifeq (pc' := 145) (tgt := 148) hX dX12_qWordHere_142 rfl (by decide) ⟨by omega, by omega⟩ (fun c197 => ?_) (fun c197 => ?_)
                                            · exact absurd c197 (by omega)
                                            · refine zt_bipush (pc' := 147) hX dX12_qWordHere_145 rfl (by decide) (by decide) ?_
                                              exact zt_iret hX hR dX12_qWordHere_147 ⟨by omega, by omega⟩ ⟨hI185, hF195, by omega, by omega, hT189, hE194, (by unfold yqw; rw [if_neg (by omega), if_neg (by omega), if_neg (by omega), if_neg (by omega), if_neg (by omega), if_neg (by omega), if_neg (by omega), if_neg (by omega), if_neg (by omega), if_neg (by omega), if_pos (by omega)]), (fun o => z192 o)⟩
                                          · clear z191
                                            refine zt_ifeq (pc' := 145) (tgt := 148) hX dX12_qWordHere_142 rfl (by decide) ⟨by omega, by omega⟩ (fun c198 => ?_) (fun c198 => ?_)
                                            · refine zt_iconst (pc' := 149) hX dX12_qWordHere_148 rfl ?_
                                              exact zt_iret hX hR dX12_qWordHere_149 ⟨by omega, by omega⟩ ⟨hI185, hF195, by omega, by omega, hT189, hE194, (by unfold yqw; rw [if_neg (by omega), if_neg (by omega), if_neg (by omega), if_neg (by omega), if_neg (by omega), if_neg (by omega), if_neg (by omega), if_neg (by omega), if_neg (by omega), if_neg (by omega), if_neg (by omega)]), (fun o => z192 o)⟩
                                            · exact absurd c198 (by omega)
                                        · exact absurd c180 (by omega)
                                    · exact absurd c162 (by omega)
                                · exact absurd c144 (by omega)
                            · exact absurd c126 (by omega)
                        · exact absurd c108 (by omega)
                    · exact absurd c90 (by omega)
                · exact absurd c72 (by omega)
            · exact absurd c54 (by omega)
        · exact absurd c36 (by omega)
    · exact absurd c18 (by omega)
set_option maxRecDepth 100000 in
set_option maxHeartbeats 4000000 in
theorem yc_X12_isAllowed (l : Launch) (E : zEN) (σ : zSto) (hI : zInv σ) (a1_ : Int) (ha1_ : -2147483648 ≤ a1_ ∧ a1_ ≤ 2147483647) : zCt l E yX12_isAllowed cX12_isAllowed 2 (some .boolean) 1 zNC zNC 0 0 σ [.ref (E.1 + 164), .int (zI a1_)] (fun r σ' => σ = σ' ∧ 0 ≤ r ∧ r ≤ 1 ∧ ((yalw (σ 164 51) a1_ → r = 1) ∧ (¬ yalw (σ 164 51) a1_ → r = 0))) := by
  refine zCt_of2 [some (.ref (E.1 + 164)), some (.int (zI a1_))] (by decide +kernel) (Nat.le_of_ble_eq_true rfl) rfl ?_
  intro X hE_ hX hR hL hN
  subst hE_
  have hX : zok X cX12_isAllowed RX12 1 := hX
  refine zt_iload_n (pc' := 1) hX dX12_isAllowed_0 rfl rfl ?_
  refine zt_iconst (pc' := 2) hX dX12_isAllowed_1 rfl ?_
  refine zt_iclt (pc' := 5) (tgt := 50) hX dX12_isAllowed_2 rfl (by decide) ⟨by omega, by omega⟩ ⟨by omega, by omega⟩ (fun c1 => ?_) (fun c1 => ?_)
  · refine zt_iconst (pc' := 51) hX dX12_isAllowed_50 rfl ?_
    refine zt_goto (tgt := 55) hX dX12_isAllowed_51 (by decide) ?_
    exact zt_zret hX hR dX12_isAllowed_55 ⟨by omega, by omega⟩ ⟨rfl, by omega, by omega, (by unfold yalw; constructor <;> intro h <;> omega)⟩
  · refine zt_aload_n (pc' := 6) hX dX12_isAllowed_5 rfl rfl ?_
    have b2 := zv_46_51 hI zc_164
    refine zt_get (pc' := 9) (v := .int (zI (σ 164 51))) hX dX12_isAllowed_6 rfl zf_X12_304 (by decide) zc_164 zs_46 rfl ?_
    refine zt_ifne (pc' := 12) (tgt := 20) hX dX12_isAllowed_9 rfl (by decide) ⟨by omega, by omega⟩ (fun c3 => ?_) (fun c3 => ?_)
    · refine zt_aload_n (pc' := 21) hX dX12_isAllowed_20 rfl rfl ?_
      refine zt_get (pc' := 24) (v := .int (zI (σ 164 51))) hX dX12_isAllowed_21 rfl zf_X12_304 (by decide) zc_164 zs_46 rfl ?_
      refine zt_iconst (pc' := 25) hX dX12_isAllowed_24 rfl ?_
      refine zt_icne (pc' := 28) (tgt := 45) hX dX12_isAllowed_25 rfl (by decide) ⟨by omega, by omega⟩ ⟨by omega, by omega⟩ (fun c4 => ?_) (fun c4 => ?_)
      · refine zt_iload_n (pc' := 46) hX dX12_isAllowed_45 rfl rfl ?_
        refine zt_iconst (pc' := 47) hX dX12_isAllowed_46 rfl ?_
        refine zt_icle (pc' := 50) (tgt := 54) hX dX12_isAllowed_47 rfl (by decide) ⟨by omega, by omega⟩ ⟨by omega, by omega⟩ (fun c5 => ?_) (fun c5 => ?_)
        · refine zt_iconst (pc' := 55) hX dX12_isAllowed_54 rfl ?_
          exact zt_zret hX hR dX12_isAllowed_55 ⟨by omega, by omega⟩ ⟨rfl, by omega, by omega, (by unfold yalw; constructor <;> intro h <;> omega)⟩
        · refine zt_iconst (pc' := 51) hX dX12_isAllowed_50 rfl ?_
          refine zt_goto (tgt := 55) hX dX12_isAllowed_51 (by decide) ?_
          exact zt_zret hX hR dX12_isAllowed_55 ⟨by omega, by omega⟩ ⟨rfl, by omega, by omega, (by unfold yalw; constructor <;> intro h <;> omega)⟩
      · refine zt_iload_n (pc' := 29) hX dX12_isAllowed_28 rfl rfl ?_
        refine zt_i2l (pc' := 30) hX dX12_isAllowed_29 rfl ⟨by omega, by omega⟩ ?_
        refine zt_ldc2 (pc' := 33) (x := 3) hX dX12_isAllowed_30 rfl zw_30_18 (by decide +kernel) ?_
        refine zt_ldc2 (pc' := 36) (x := 5) hX dX12_isAllowed_33 rfl zw_30_19 (by decide +kernel) ?_
        refine zt_cSz (pc' := 39) hX dX12_isAllowed_36 rfl zm_yX12_isIn zw_27_7 (yc_X12_isIn _ _ σ  a1_ ⟨by omega, by omega⟩ 3 ⟨by omega, by omega⟩ 5 ⟨by omega, by omega⟩) rfl rfl (Nat.le_of_ble_eq_true rfl) (by decide) (fun r6 s7 hr8 hp9 => ?_)
        obtain ⟨rfl, q10, q11, z12⟩ := hp9
        refine zt_ifeq (pc' := 42) (tgt := 54) hX dX12_isAllowed_39 rfl (by decide) ⟨by omega, by omega⟩ (fun c13 => ?_) (fun c13 => ?_)
        · refine zt_iconst (pc' := 55) hX dX12_isAllowed_54 rfl ?_
          exact zt_zret hX hR dX12_isAllowed_55 ⟨by omega, by omega⟩ ⟨rfl, by omega, by omega, (by unfold yalw; constructor <;> intro h <;> omega)⟩
        · refine zt_goto (tgt := 50) hX dX12_isAllowed_42 (by decide) ?_
          refine zt_iconst (pc' := 51) hX dX12_isAllowed_50 rfl ?_
          refine zt_goto (tgt := 55) hX dX12_isAllowed_51 (by decide) ?_
          exact zt_zret hX hR dX12_isAllowed_55 ⟨by omega, by omega⟩ ⟨rfl, by omega, by omega, (by unfold yalw; constructor <;> intro h <;> omega)⟩
    · refine zt_iload_n (pc' := 13) hX dX12_isAllowed_12 rfl rfl ?_
      refine zt_iconst (pc' := 14) hX dX12_isAllowed_13 rfl ?_
      refine zt_icne (pc' := 17) (tgt := 54) hX dX12_isAllowed_14 rfl (by decide) ⟨by omega, by omega⟩ ⟨by omega, by omega⟩ (fun c14 => ?_) (fun c14 => ?_)
      · refine zt_iconst (pc' := 55) hX dX12_isAllowed_54 rfl ?_
        exact zt_zret hX hR dX12_isAllowed_55 ⟨by omega, by omega⟩ ⟨rfl, by omega, by omega, (by unfold yalw; constructor <;> intro h <;> omega)⟩
      · refine zt_goto (tgt := 50) hX dX12_isAllowed_17 (by decide) ?_
        refine zt_iconst (pc' := 51) hX dX12_isAllowed_50 rfl ?_
        refine zt_goto (tgt := 55) hX dX12_isAllowed_51 (by decide) ?_
        exact zt_zret hX hR dX12_isAllowed_55 ⟨by omega, by omega⟩ ⟨rfl, by omega, by omega, (by unfold yalw; constructor <;> intro h <;> omega)⟩
set_option maxRecDepth 100000 in
set_option maxHeartbeats 4000000 in
theorem yc_X12_qWordOf (l : Launch) (E : zEN) (σ : zSto) (hI : zInv σ) (a1_ : Int) (ha1_ : 0 ≤ a1_ ∧ a1_ ≤ 11) (a2_ : Int) (ha2_ : 0 ≤ a2_ ∧ a2_ ≤ 11) (f : Int → Int) (hT : yTq f σ) (hWd : yWd σ) : zCt l E yX12_qWordOf cX12_qWordOf 4 (some .int) 3 zNC zNC 0 0 σ [.ref (E.1 + 164), .int (zI a1_), .int (zI a2_)] (fun r σ' => zInv σ' ∧ zOn zQa σ σ' ∧ -1 ≤ r ∧ r ≤ 10 ∧ yTq f σ' ∧ ((yqs f σ') = (yqs f σ)) ∧ ((a1_ ≤ yqw (yPi f (yqs f σ)) ∧ yqw (yPi f (yqs f σ)) < a2_ ∧ yalw (σ 164 51) (yqw (yPi f (yqs f σ))) → r = yqw (yPi f (yqs f σ))) ∧ (¬ (a1_ ≤ yqw (yPi f (yqs f σ)) ∧ yqw (yPi f (yqs f σ)) < a2_ ∧ yalw (σ 164 51) (yqw (yPi f (yqs f σ)))) → r = -1)) ∧ (yPo (yqs f σ) = 1 → σ' 164 2 = yPq (yqs f σ))) := by
  refine zCt_of2 [some (.ref (E.1 + 164)), some (.int (zI a1_)), some (.int (zI a2_)), none] (by decide +kernel) (Nat.le_of_ble_eq_true rfl) rfl ?_
  intro X hE_ hX hR hL hN
  subst hE_
  have hX : zok X cX12_qWordOf RX12 3 := hX
  have hF := zOn_rf zQa σ
  have hE0 : yqs f σ = yqs f σ := rfl
  have b1 := zv_46_51 hI zc_164
  refine zt_aload_n (pc' := 1) hX dX12_qWordOf_0 rfl rfl ?_
  refine zt_cVi (pc' := 4) hX dX12_qWordOf_1 rfl zm_yX12_qWordHere zw_30_10 zc_164 (by decide) zs_46 (q := (RX12, TX12, 108)) rfl rfl (yc_X12_qWordHere _ _ σ hI f hT hWd) rfl rfl (Nat.le_of_ble_eq_true rfl) (by decide) (fun r2 s3 hr4 hp5 => ?_)
  obtain ⟨hI6, hF7, q8, q9, hT10, z11, z12, z13⟩ := hp5
  have hE14 : yqs f s3 = (yqs f σ) := z11
  have hF15 := zOn_tr hF hF7 zi_id
  have b16 := zv_46_51 hI6 zc_164
  have e17 := hF7 164 51 rfl
  refine zt_istore_n (pc' := 5) (lv' := [some (.ref (X.1.1 + 164)), some (.int (zI a1_)), some (.int (zI a2_)), some (.int (zI r2))]) hX dX12_qWordOf_4 rfl hL (by decide) rfl ?_
  refine zt_iload_n (pc' := 6) hX dX12_qWordOf_5 rfl rfl ?_
  refine zt_iload_n (pc' := 7) hX dX12_qWordOf_6 rfl rfl ?_
  refine zt_iclt (pc' := 10) (tgt := 27) hX dX12_qWordOf_7 rfl (by decide) ⟨by omega, by omega⟩ ⟨by omega, by omega⟩ (fun c18 => ?_) (fun c18 => ?_)
  · refine zt_iconst (pc' := 28) hX dX12_qWordOf_27 rfl ?_
    exact zt_iret hX hR dX12_qWordOf_28 ⟨by omega, by omega⟩ ⟨hI6, hF15, by omega, by omega, hT10, hE14, (by rw [← z12]; constructor <;> intro h <;> first | rfl | (exfalso; revert h; unfold yalw at *; intro h; omega)), z13⟩
  · refine zt_iload_n (pc' := 11) hX dX12_qWordOf_10 rfl rfl ?_
    refine zt_iload_n (pc' := 12) hX dX12_qWordOf_11 rfl rfl ?_
    refine zt_icge (pc' := 15) (tgt := 27) hX dX12_qWordOf_12 rfl (by decide) ⟨by omega, by omega⟩ ⟨by omega, by omega⟩ (fun c19 => ?_) (fun c19 => ?_)
    · refine zt_iconst (pc' := 28) hX dX12_qWordOf_27 rfl ?_
      exact zt_iret hX hR dX12_qWordOf_28 ⟨by omega, by omega⟩ ⟨hI6, hF15, by omega, by omega, hT10, hE14, (by rw [← z12]; constructor <;> intro h <;> first | rfl | (exfalso; revert h; unfold yalw at *; intro h; omega)), z13⟩
    · refine zt_aload_n (pc' := 16) hX dX12_qWordOf_15 rfl rfl ?_
      refine zt_iload_n (pc' := 17) hX dX12_qWordOf_16 rfl rfl ?_
      refine zt_cVz (pc' := 20) hX dX12_qWordOf_17 rfl zm_yX12_isAllowed zw_30_14 zc_164 (by decide) zs_46 (q := (RX12, TX12, 108)) rfl rfl (yc_X12_isAllowed _ _ s3 hI6 r2 ⟨by omega, by omega⟩) rfl rfl (Nat.le_of_ble_eq_true rfl) (by decide) (fun r20 s21 hr22 hp23 => ?_)
      obtain ⟨rfl, q24, q25, z26⟩ := hp23
      refine zt_ifeq (pc' := 23) (tgt := 27) hX dX12_qWordOf_20 rfl (by decide) ⟨by omega, by omega⟩ (fun c27 => ?_) (fun c27 => ?_)
      · refine zt_iconst (pc' := 28) hX dX12_qWordOf_27 rfl ?_
        exact zt_iret hX hR dX12_qWordOf_28 ⟨by omega, by omega⟩ ⟨hI6, hF15, by omega, by omega, hT10, hE14, (by rw [← z12]; constructor <;> intro h <;> first | rfl | (exfalso; revert h; unfold yalw at *; intro h; omega)), z13⟩
      · refine zt_iload_n (pc' := 24) hX dX12_qWordOf_23 rfl rfl ?_
        refine zt_goto (tgt := 28) hX dX12_qWordOf_24 (by decide) ?_
        exact zt_iret hX hR dX12_qWordOf_28 ⟨by omega, by omega⟩ ⟨hI6, hF15, by omega, by omega, hT10, hE14, (by rw [← z12]; constructor <;> intro h <;> first | rfl | (exfalso; unfold yalw at *; omega)), z13⟩
set_option maxRecDepth 100000 in
set_option maxHeartbeats 4000000 in
theorem yc_X12_qAsksWord (l : Launch) (E : zEN) (σ : zSto) (hI : zInv σ) (a1_ : Int) (ha1_ : 0 ≤ a1_ ∧ a1_ ≤ 10) (f : Int → Int) (hT : yTq f σ) (hWd : yWd σ) (hkw9 : a1_ = yqw (yPi f (yqs f σ)) ∨ yPo (yqs f σ) = 0) : zCt l E yX12_qAsksWord cX12_qAsksWord 2 none 4 zNC zNC 0 0 σ [.ref (E.1 + 164), .int (zI a1_)] (fun r σ' => zInv σ' ∧ zOn zQ1 σ σ' ∧ yTq f σ' ∧ ((yqs f σ') = yPx f (yqs f σ))) := by
  refine zCt_of2 [some (.ref (E.1 + 164)), some (.int (zI a1_))] (by decide +kernel) (Nat.le_of_ble_eq_true rfl) rfl ?_
  intro X hE_ hX hR hL hN
  subst hE_
  have hX : zok X cX12_qAsksWord RX12 4 := hX
  have hF := zOn_rf zQ1 σ
  have hE0 : yqs f σ = yqs f σ := rfl
  refine zt_iload_n (pc' := 1) hX dX12_qAsksWord_0 rfl rfl ?_
  rcases (show a1_ = 0 ∨ a1_ = 1 ∨ a1_ = 2 ∨ a1_ = 3 ∨ a1_ = 4 ∨ a1_ = 5 ∨ a1_ = 6 ∨ a1_ = 7 ∨ a1_ = 8 ∨ a1_ = 9 ∨ (a1_ < 0 ∨ 9 < a1_) by omega) with c1 | c1 | c1 | c1 | c1 | c1 | c1 | c1 | c1 | c1 | c1
  · refine zt_tsIn (v := 0) (tgt := 56) hX dX12_qAsksWord_1 c1 (by decide) (by decide) (by decide) rfl (by decide) ?_
    refine zt_aload_n (pc' := 57) hX dX12_qAsksWord_56 rfl rfl ?_
    refine zt_aload_n (pc' := 58) hX dX12_qAsksWord_57 rfl rfl ?_
    refine zt_get (pc' := 61) (v := .ref (X.1.1 + 223)) hX dX12_qAsksWord_58 rfl zf_X12_198 (by decide) zc_164 zs_46 (zrf_of (zv_46_85 hI zc_164)) ?_
    refine zt_cVv (pc' := 64) hX dX12_qAsksWord_61 rfl zm_yX12_asks zw_26_0 zc_164 (by decide) zs_46 (q := (RX12, TX12, 108)) rfl rfl (yc_X12_asks _ _ σ hI 223 105 4 zc_223 (by decide) zs_105 (by decide) f hT 12 (yrow_223 hWd) (by decide)) rfl rfl (Nat.le_of_ble_eq_true rfl) (by decide) (fun r2 s3 hr4 hp5 => ?_)
    obtain ⟨hI6, hF7, hT8, z9⟩ := hp5
    have hE10 : yqs f s3 = yPw f 12 (yqs f σ) := z9
    have hF11 := zOn_tr hF hF7 zi_id
    refine zt_goto (tgt := 174) hX dX12_qAsksWord_64 (by decide) ?_
    exact zt_vret hX hR dX12_qAsksWord_174 ⟨hI6, hF11, hT8, hE10.trans (ypw_3 (hkw9.elim (fun hk9 => Or.inl (by have hv := yqw_n (yPi f (yqs f σ)); omega)) Or.inr))⟩
  · refine zt_tsIn (v := 1) (tgt := 67) hX dX12_qAsksWord_1 c1 (by decide) (by decide) (by decide) rfl (by decide) ?_
    refine zt_aload_n (pc' := 68) hX dX12_qAsksWord_67 rfl rfl ?_
    refine zt_aload_n (pc' := 69) hX dX12_qAsksWord_68 rfl rfl ?_
    refine zt_get (pc' := 72) (v := .ref (X.1.1 + 224)) hX dX12_qAsksWord_69 rfl zf_X12_201 (by decide) zc_164 zs_46 (zrf_of (zv_46_86 hI zc_164)) ?_
    refine zt_cVv (pc' := 75) hX dX12_qAsksWord_72 rfl zm_yX12_asks zw_26_0 zc_164 (by decide) zs_46 (q := (RX12, TX12, 108)) rfl rfl (yc_X12_asks _ _ σ hI 224 106 6 zc_224 (by decide) zs_106 (by decide) f hT 13 (yrow_224 hWd) (by decide)) rfl rfl (Nat.le_of_ble_eq_true rfl) (by decide) (fun r12 s13 hr14 hp15 => ?_)
    obtain ⟨hI16, hF17, hT18, z19⟩ := hp15
    have hE20 : yqs f s13 = yPw f 13 (yqs f σ) := z19
    have hF21 := zOn_tr hF hF17 zi_id
    refine zt_goto (tgt := 174) hX dX12_qAsksWord_75 (by decide) ?_
    exact zt_vret hX hR dX12_qAsksWord_174 ⟨hI16, hF21, hT18, hE20.trans (ypw_3 (hkw9.elim (fun hk9 => Or.inl (by have hv := yqw_n (yPi f (yqs f σ)); omega)) Or.inr))⟩
  · refine zt_tsIn (v := 2) (tgt := 78) hX dX12_qAsksWord_1 c1 (by decide) (by decide) (by decide) rfl (by decide) ?_
    refine zt_aload_n (pc' := 79) hX dX12_qAsksWord_78 rfl rfl ?_
    refine zt_aload_n (pc' := 80) hX dX12_qAsksWord_79 rfl rfl ?_
    refine zt_get (pc' := 83) (v := .ref (X.1.1 + 225)) hX dX12_qAsksWord_80 rfl zf_X12_204 (by decide) zc_164 zs_46 (zrf_of (zv_46_87 hI zc_164)) ?_
    refine zt_cVv (pc' := 86) hX dX12_qAsksWord_83 rfl zm_yX12_asks zw_26_0 zc_164 (by decide) zs_46 (q := (RX12, TX12, 108)) rfl rfl (yc_X12_asks _ _ σ hI 225 107 6 zc_225 (by decide) zs_107 (by decide) f hT 14 (yrow_225 hWd) (by decide)) rfl rfl (Nat.le_of_ble_eq_true rfl) (by decide) (fun r22 s23 hr24 hp25 => ?_)
    obtain ⟨hI26, hF27, hT28, z29⟩ := hp25
    have hE30 : yqs f s23 = yPw f 14 (yqs f σ) := z29
    have hF31 := zOn_tr hF hF27 zi_id
    refine zt_goto (tgt := 174) hX dX12_qAsksWord_86 (by decide) ?_
    exact zt_vret hX hR dX12_qAsksWord_174 ⟨hI26, hF31, hT28, hE30.trans (ypw_3 (hkw9.elim (fun hk9 => Or.inl (by have hv := yqw_n (yPi f (yqs f σ)); omega)) Or.inr))⟩
  · refine zt_tsIn (v := 3) (tgt := 89) hX dX12_qAsksWord_1 c1 (by decide) (by decide) (by decide) rfl (by decide) ?_
    refine zt_aload_n (pc' := 90) hX dX12_qAsksWord_89 rfl rfl ?_
    refine zt_aload_n (pc' := 91) hX dX12_qAsksWord_90 rfl rfl ?_
    refine zt_get (pc' := 94) (v := .ref (X.1.1 + 226)) hX dX12_qAsksWord_91 rfl zf_X12_207 (by decide) zc_164 zs_46 (zrf_of (zv_46_88 hI zc_164)) ?_
    refine zt_cVv (pc' := 97) hX dX12_qAsksWord_94 rfl zm_yX12_asks zw_26_0 zc_164 (by decide) zs_46 (q := (RX12, TX12, 108)) rfl rfl (yc_X12_asks _ _ σ hI 226 108 5 zc_226 (by decide) zs_108 (by decide) f hT 6 (yrow_226 hWd) (by decide)) rfl rfl (Nat.le_of_ble_eq_true rfl) (by decide) (fun r32 s33 hr34 hp35 => ?_)
    obtain ⟨hI36, hF37, hT38, z39⟩ := hp35
    have hE40 : yqs f s33 = yPw f 6 (yqs f σ) := z39
    have hF41 := zOn_tr hF hF37 zi_id
    refine zt_goto (tgt := 174) hX dX12_qAsksWord_97 (by decide) ?_
    exact zt_vret hX hR dX12_qAsksWord_174 ⟨hI36, hF41, hT38, hE40.trans (ypw_3 (hkw9.elim (fun hk9 => Or.inl (by have hv := yqw_n (yPi f (yqs f σ)); omega)) Or.inr))⟩
  · refine zt_tsIn (v := 4) (tgt := 100) hX dX12_qAsksWord_1 c1 (by decide) (by decide) (by decide) rfl (by decide) ?_
    refine zt_aload_n (pc' := 101) hX dX12_qAsksWord_100 rfl rfl ?_
    refine zt_aload_n (pc' := 102) hX dX12_qAsksWord_101 rfl rfl ?_
    refine zt_get (pc' := 105) (v := .ref (X.1.1 + 227)) hX dX12_qAsksWord_102 rfl zf_X12_210 (by decide) zc_164 zs_46 (zrf_of (zv_46_89 hI zc_164)) ?_
    refine zt_cVv (pc' := 108) hX dX12_qAsksWord_105 rfl zm_yX12_asks zw_26_0 zc_164 (by decide) zs_46 (q := (RX12, TX12, 108)) rfl rfl (yc_X12_asks _ _ σ hI 227 109 5 zc_227 (by decide) zs_109 (by decide) f hT 15 (yrow_227 hWd) (by decide)) rfl rfl (Nat.le_of_ble_eq_true rfl) (by decide) (fun r42 s43 hr44 hp45 => ?_)
    obtain ⟨hI46, hF47, hT48, z49⟩ := hp45
    have hE50 : yqs f s43 = yPw f 15 (yqs f σ) := z49
    have hF51 := zOn_tr hF hF47 zi_id
    refine zt_goto (tgt := 174) hX dX12_qAsksWord_108 (by decide) ?_
    exact zt_vret hX hR dX12_qAsksWord_174 ⟨hI46, hF51, hT48, hE50.trans (ypw_3 (hkw9.elim (fun hk9 => Or.inl (by have hv := yqw_n (yPi f (yqs f σ)); omega)) Or.inr))⟩
  · refine zt_tsIn (v := 5) (tgt := 111) hX dX12_qAsksWord_1 c1 (by decide) (by decide) (by decide) rfl (by decide) ?_
    refine zt_aload_n (pc' := 112) hX dX12_qAsksWord_111 rfl rfl ?_
    refine zt_aload_n (pc' := 113) hX dX12_qAsksWord_112 rfl rfl ?_
    refine zt_get (pc' := 116) (v := .ref (X.1.1 + 228)) hX dX12_qAsksWord_113 rfl zf_X12_213 (by decide) zc_164 zs_46 (zrf_of (zv_46_90 hI zc_164)) ?_
    refine zt_cVv (pc' := 119) hX dX12_qAsksWord_116 rfl zm_yX12_asks zw_26_0 zc_164 (by decide) zs_46 (q := (RX12, TX12, 108)) rfl rfl (yc_X12_asks _ _ σ hI 228 110 4 zc_228 (by decide) zs_110 (by decide) f hT 16 (yrow_228 hWd) (by decide)) rfl rfl (Nat.le_of_ble_eq_true rfl) (by decide) (fun r52 s53 hr54 hp55 => ?_)
    obtain ⟨hI56, hF57, hT58, z59⟩ := hp55
    have hE60 : yqs f s53 = yPw f 16 (yqs f σ) := z59
    have hF61 := zOn_tr hF hF57 zi_id
    refine zt_goto (tgt := 174) hX dX12_qAsksWord_119 (by decide) ?_
    exact zt_vret hX hR dX12_qAsksWord_174 ⟨hI56, hF61, hT58, hE60.trans (ypw_3 (hkw9.elim (fun hk9 => Or.inl (by have hv := yqw_n (yPi f (yqs f σ)); omega)) Or.inr))⟩
  · refine zt_tsIn (v := 6) (tgt := 122) hX dX12_qAsksWord_1 c1 (by decide) (by decide) (by decide) rfl (by decide) ?_
    refine zt_aload_n (pc' := 123) hX dX12_qAsksWord_122 rfl rfl ?_
    refine zt_aload_n (pc' := 124) hX dX12_qAsksWord_123 rfl rfl ?_
    refine zt_get (pc' := 127) (v := .ref (X.1.1 + 229)) hX dX12_qAsksWord_124 rfl zf_X12_216 (by decide) zc_164 zs_46 (zrf_of (zv_46_91 hI zc_164)) ?_
    refine zt_cVv (pc' := 130) hX dX12_qAsksWord_127 rfl zm_yX12_asks zw_26_0 zc_164 (by decide) zs_46 (q := (RX12, TX12, 108)) rfl rfl (yc_X12_asks _ _ σ hI 229 111 6 zc_229 (by decide) zs_111 (by decide) f hT 17 (yrow_229 hWd) (by decide)) rfl rfl (Nat.le_of_ble_eq_true rfl) (by decide) (fun r62 s63 hr64 hp65 => ?_)
    obtain ⟨hI66, hF67, hT68, z69⟩ := hp65
    have hE70 : yqs f s63 = yPw f 17 (yqs f σ) := z69
    have hF71 := zOn_tr hF hF67 zi_id
    refine zt_goto (tgt := 174) hX dX12_qAsksWord_130 (by decide) ?_
    exact zt_vret hX hR dX12_qAsksWord_174 ⟨hI66, hF71, hT68, hE70.trans (ypw_3 (hkw9.elim (fun hk9 => Or.inl (by have hv := yqw_n (yPi f (yqs f σ)); omega)) Or.inr))⟩
  · refine zt_tsIn (v := 7) (tgt := 133) hX dX12_qAsksWord_1 c1 (by decide) (by decide) (by decide) rfl (by decide) ?_
    refine zt_aload_n (pc' := 134) hX dX12_qAsksWord_133 rfl rfl ?_
    refine zt_aload_n (pc' := 135) hX dX12_qAsksWord_134 rfl rfl ?_
    refine zt_get (pc' := 138) (v := .ref (X.1.1 + 230)) hX dX12_qAsksWord_135 rfl zf_X12_219 (by decide) zc_164 zs_46 (zrf_of (zv_46_92 hI zc_164)) ?_
    refine zt_cVv (pc' := 141) hX dX12_qAsksWord_138 rfl zm_yX12_asks zw_26_0 zc_164 (by decide) zs_46 (q := (RX12, TX12, 108)) rfl rfl (yc_X12_asks _ _ σ hI 230 112 6 zc_230 (by decide) zs_112 (by decide) f hT 18 (yrow_230 hWd) (by decide)) rfl rfl (Nat.le_of_ble_eq_true rfl) (by decide) (fun r72 s73 hr74 hp75 => ?_)
    obtain ⟨hI76, hF77, hT78, z79⟩ := hp75
    have hE80 : yqs f s73 = yPw f 18 (yqs f σ) := z79
    have hF81 := zOn_tr hF hF77 zi_id
    refine zt_goto (tgt := 174) hX dX12_qAsksWord_141 (by decide) ?_
    exact zt_vret hX hR dX12_qAsksWord_174 ⟨hI76, hF81, hT78, hE80.trans (ypw_3 (hkw9.elim (fun hk9 => Or.inl (by have hv := yqw_n (yPi f (yqs f σ)); omega)) Or.inr))⟩
  · refine zt_tsIn (v := 8) (tgt := 144) hX dX12_qAsksWord_1 c1 (by decide) (by decide) (by decide) rfl (by decide) ?_
    refine zt_aload_n (pc' := 145) hX dX12_qAsksWord_144 rfl rfl ?_
    refine zt_aload_n (pc' := 146) hX dX12_qAsksWord_145 rfl rfl ?_
    refine zt_get (pc' := 149) (v := .ref (X.1.1 + 231)) hX dX12_qAsksWord_146 rfl zf_X12_222 (by decide) zc_164 zs_46 (zrf_of (zv_46_93 hI zc_164)) ?_
    refine zt_cVv (pc' := 152) hX dX12_qAsksWord_149 rfl zm_yX12_asks zw_26_0 zc_164 (by decide) zs_46 (q := (RX12, TX12, 108)) rfl rfl (yc_X12_asks _ _ σ hI 231 113 3 zc_231 (by decide) zs_113 (by decide) f hT 19 (yrow_231 hWd) (by decide)) rfl rfl (Nat.le_of_ble_eq_true rfl) (by decide) (fun r82 s83 hr84 hp85 => ?_)
    obtain ⟨hI86, hF87, hT88, z89⟩ := hp85
    have hE90 : yqs f s83 = yPw f 19 (yqs f σ) := z89
    have hF91 := zOn_tr hF hF87 zi_id
    refine zt_goto (tgt := 174) hX dX12_qAsksWord_152 (by decide) ?_
    exact zt_vret hX hR dX12_qAsksWord_174 ⟨hI86, hF91, hT88, hE90.trans (ypw_3 (hkw9.elim (fun hk9 => Or.inl (by have hv := yqw_n (yPi f (yqs f σ)); omega)) Or.inr))⟩
  · refine zt_tsIn (v := 9) (tgt := 155) hX dX12_qAsksWord_1 c1 (by decide) (by decide) (by decide) rfl (by decide) ?_
    refine zt_aload_n (pc' := 156) hX dX12_qAsksWord_155 rfl rfl ?_
    refine zt_aload_n (pc' := 157) hX dX12_qAsksWord_156 rfl rfl ?_
    refine zt_get (pc' := 160) (v := .ref (X.1.1 + 232)) hX dX12_qAsksWord_157 rfl zf_X12_225 (by decide) zc_164 zs_46 (zrf_of (zv_46_94 hI zc_164)) ?_
    refine zt_cVv (pc' := 163) hX dX12_qAsksWord_160 rfl zm_yX12_asks zw_26_0 zc_164 (by decide) zs_46 (q := (RX12, TX12, 108)) rfl rfl (yc_X12_asks _ _ σ hI 232 114 5 zc_232 (by decide) zs_114 (by decide) f hT 8 (yrow_232 hWd) (by decide)) rfl rfl (Nat.le_of_ble_eq_true rfl) (by decide) (fun r92 s93 hr94 hp95 => ?_)
    obtain ⟨hI96, hF97, hT98, z99⟩ := hp95
    have hE100 : yqs f s93 = yPw f 8 (yqs f σ) := z99
    have hF101 := zOn_tr hF hF97 zi_id
    refine zt_goto (tgt := 174) hX dX12_qAsksWord_163 (by decide) ?_
    exact zt_vret hX hR dX12_qAsksWord_174 ⟨hI96, hF101, hT98, hE100.trans (ypw_3 (hkw9.elim (fun hk9 => Or.inl (by have hv := yqw_n (yPi f (yqs f σ)); omega)) Or.inr))⟩
  · refine zt_tsOut (tgt := 166) hX dX12_qAsksWord_1 ⟨by omega, by omega⟩ c1 (by decide) ?_
    refine zt_aload_n (pc' := 167) hX dX12_qAsksWord_166 rfl rfl ?_
    refine zt_aload_n (pc' := 168) hX dX12_qAsksWord_167 rfl rfl ?_
    refine zt_get (pc' := 171) (v := .ref (X.1.1 + 233)) hX dX12_qAsksWord_168 rfl zf_X12_228 (by decide) zc_164 zs_46 (zrf_of (zv_46_95 hI zc_164)) ?_
    refine zt_cVv (pc' := 174) hX dX12_qAsksWord_171 rfl zm_yX12_asks zw_26_0 zc_164 (by decide) zs_46 (q := (RX12, TX12, 108)) rfl rfl (yc_X12_asks _ _ σ hI 233 115 3 zc_233 (by decide) zs_115 (by decide) f hT 20 (yrow_233 hWd) (by decide)) rfl rfl (Nat.le_of_ble_eq_true rfl) (by decide) (fun r102 s103 hr104 hp105 => ?_)
    obtain ⟨hI106, hF107, hT108, z109⟩ := hp105
    have hE110 : yqs f s103 = yPw f 20 (yqs f σ) := z109
    have hF111 := zOn_tr hF hF107 zi_id
    exact zt_vret hX hR dX12_qAsksWord_174 ⟨hI106, hF111, hT108, hE110.trans (ypw_3 (hkw9.elim (fun hk9 => Or.inl (by have hv := yqw_n (yPi f (yqs f σ)); omega)) Or.inr))⟩
set_option maxRecDepth 100000 in
set_option maxHeartbeats 4000000 in
theorem yc_X12_qDropsNots (l : Launch) (E : zEN) (σ : zSto) (hI : zInv σ) (hpre0 : σ 164 97 + σ 164 99 ≤ 1700) (hpre1 : -100000 ≤ σ 164 100 ∧ σ 164 100 ≤ 100000) : zCt l E yX12_qDropsNots cX12_qDropsNots 1 none 2 zNC zNC 0 0 σ [.ref (E.1 + 164)] (fun r σ' => zInv σ' ∧ zOn zWe σ σ' ∧ (σ' 164 97 + σ' 164 99 = σ 164 97 + σ 164 99 ∧ 0 ≤ σ' 164 99 ∧ σ' 164 99 ≤ σ 164 99 ∧ σ' 164 100 = σ 164 100 - (σ 164 99 - σ' 164 99)) ∧ (∀ i : Nat, σ' 164 99 ≤ i → (i : Int) < σ 164 99 → σ 235 i = 12) ∧ (σ 164 5 ≠ 0 ∨ σ' 164 99 = 0 ∨ σ 235 (σ' 164 99 - 1).toNat ≠ 12)) := by
  refine zCt_of2 [some (.ref (E.1 + 164))] (by decide +kernel) (Nat.le_of_ble_eq_true rfl) rfl ?_
  intro X hE_ hX hR hL hN
  subst hE_
  have hX : zok X cX12_qDropsNots RX12 2 := hX
  have hF := zOn_rf zWe σ
  have b1 := zv_46_97 hI zc_164
  have b2 := zv_46_99 hI zc_164
  have b3 := zv_46_100 hI zc_164
  have b4 := zv_46_5 hI zc_164
  have L_0_12 : ∀ (N : Nat) (s5 : zSto), zInv s5 → zOn zWe σ s5 → s5 164 97 + s5 164 99 = σ 164 97 + σ 164 99 → (0 ≤ s5 164 99 ∧ s5 164 99 ≤ σ 164 99) → s5 164 100 = σ 164 100 - (σ 164 99 - s5 164 99) → s5 164 5 = σ 164 5 → (∀ i : Nat, s5 164 99 ≤ i → (i : Int) < σ 164 99 → σ 235 i = 12) → ((s5 164 99).toNat) < N → zF X s5 0 [some (.ref (X.1.1 + 164))] [] := by
    intro N
    induction N with
    | zero =>
      intro s5 hI6 hF7 g8 g9 g10 g11 g12 hm14
      exact absurd hm14 (Nat.not_lt_zero _)
    | succ N ih15 =>
      intro s5 hI6 hF7 g8 g9 g10 g11 g12 hm14
      have b16 := zv_46_97 hI6 zc_164
      have b17 := zv_46_99 hI6 zc_164
      have b18 := zv_46_100 hI6 zc_164
      have b19 := zv_46_5 hI6 zc_164
      refine zt_aload_n (pc' := 1) hX dX12_qDropsNots_0 rfl rfl ?_
      have b20 := zv_46_5 hI6 zc_164
      refine zt_get (pc' := 4) (v := .int (zI (s5 164 5))) hX dX12_qDropsNots_1 rfl zf_X12_246 (by decide) zc_164 zs_46 rfl ?_
      refine zt_ifne (pc' := 7) (tgt := 33) hX dX12_qDropsNots_4 rfl (by decide) ⟨by omega, by omega⟩ (fun c21 => ?_) (fun c21 => ?_)
      · exact zt_vret hX hR dX12_qDropsNots_33 ⟨hI6, hF7, by omega, g12, (by first | exact Or.inl (by omega) | (by_cases c9 : s5 164 99 = 0; exact Or.inr (Or.inl c9); exact Or.inr (Or.inr (by rw [← hF7 235 _ rfl]; omega))))⟩
      · refine zt_aload_n (pc' := 8) hX dX12_qDropsNots_7 rfl rfl ?_
        refine zt_bipush (pc' := 10) hX dX12_qDropsNots_8 rfl (by decide) (by decide) ?_
        refine zt_cVz (pc' := 13) hX dX12_qDropsNots_10 rfl zm_yX12_qIsOn zw_31_23 zc_164 (by decide) zs_46 (q := (RX12, TX12, 108)) rfl rfl (yc_X12_qIsOn _ _ s5 hI6 12 ⟨by omega, by omega⟩) rfl rfl (Nat.le_of_ble_eq_true rfl) (by decide) (fun r22 s23 hr24 hp25 => ?_)
        obtain ⟨rfl, q26, q27, z28⟩ := hp25
        refine zt_ifeq (pc' := 16) (tgt := 33) hX dX12_qDropsNots_13 rfl (by decide) ⟨by omega, by omega⟩ (fun c29 => ?_) (fun c29 => ?_)
        · exact zt_vret hX hR dX12_qDropsNots_33 ⟨hI6, hF7, by omega, g12, (by first | exact Or.inl (by omega) | (by_cases c9 : s5 164 99 = 0; exact Or.inr (Or.inl c9); exact Or.inr (Or.inr (by rw [← hF7 235 _ rfl]; omega))))⟩
        · refine zt_aload_n (pc' := 17) hX dX12_qDropsNots_16 rfl rfl ?_
          refine zt_dup (pc' := 18) hX dX12_qDropsNots_17 rfl rfl ?_
          have b30 := zv_46_100 hI6 zc_164
          refine zt_get (pc' := 21) (v := .int (zI (s5 164 100))) hX dX12_qDropsNots_18 rfl zf_X12_336 (by decide) zc_164 zs_46 rfl ?_
          refine zt_iconst (pc' := 22) hX dX12_qDropsNots_21 rfl ?_
          refine zt_isub (pc' := 23) hX dX12_qDropsNots_22 rfl ?_
          refine zt_wrap (fun r31 zr31 lr31 ur31 => ?_)
          replace zr31 := ywr_eq zr31
          refine zt_put (pc' := 26) (x := r31) hX dX12_qDropsNots_23 rfl zf_X12_336 (by decide) zc_164 zs_46 (fun q hq => by cases hq; rfl) rfl rfl rfl ?_
          generalize hs33 : zset s5 164 100 r31 = s32
          have hI34 : zInv s32 := hs33 ▸ zp_46_100 hI6 zc_164 ⟨by omega, by omega⟩
          have hF35 : zOn zWe σ s32 := hs33 ▸ zOn_set hF7 (by decide)
          have e36 : s32 164 97 = s5 164 97 := by rw [← hs33]; exact zset_j (by decide)
          have e37 : s32 164 99 = s5 164 99 := by rw [← hs33]; exact zset_j (by decide)
          have e38 : s32 164 100 = r31 := by rw [← hs33]; exact zset_s
          have e39 : s32 164 5 = s5 164 5 := by rw [← hs33]; exact zset_j (by decide)
          refine zt_aload_n (pc' := 27) hX dX12_qDropsNots_26 rfl rfl ?_
          refine zt_cVv (pc' := 30) hX dX12_qDropsNots_27 rfl zm_yX12_qDrops zw_31_4 zc_164 (by decide) zs_46 (q := (RX12, TX12, 108)) rfl rfl (yc_X12_qDrops _ _ s32 hI34 (by omega) (by omega)) rfl rfl (Nat.le_of_ble_eq_true rfl) (by decide) (fun r40 s41 hr42 hp43 => ?_)
          obtain ⟨hI44, hF45, z46⟩ := hp43
          have hF47 := zOn_tr hF35 hF45 zi_de
          have b48 := zv_46_97 hI44 zc_164
          have b49 := zv_46_99 hI44 zc_164
          have b50 := zv_46_100 hI44 zc_164
          have b51 := zv_46_5 hI44 zc_164
          have e52 := hF45 164 100 rfl
          have e53 := hF45 164 5 rfl
          refine zt_goto (tgt := 0) hX dX12_qDropsNots_30 (by decide) ?_
          exact ih15 s41 hI44 hF47 (by omega) (by omega) (by omega) (by omega) (fun i h1 h2 => ydr_s (Q := fun x => x = 12) g12 (by omega) ((hF7 235 _ rfl).symm.trans rfl) (by show _ = (12 : Int); omega) i (by omega) h2) (by omega)
  exact L_0_12 _ σ hI hF (by omega) (by omega) (by omega) (by omega) (fun i h1 h2 => absurd h2 (by omega)) (Nat.lt_succ_self _)
set_option maxRecDepth 100000 in
set_option maxHeartbeats 4000000 in
theorem yc_X12_qHasSquare (l : Launch) (E : zEN) (σ : zSto) (hI : zInv σ)  : zCt l E yX12_qHasSquare cX12_qHasSquare 2 (some .boolean) 0 zNC zNC 0 0 σ [.ref (E.1 + 164)] (fun r σ' => σ = σ' ∧ 0 ≤ r ∧ r ≤ 1 ∧ ((yqq (σ 235) (σ 164 99) → r = 1) ∧ (¬ yqq (σ 235) (σ 164 99) → r = 0))) := by
  refine zCt_of2 [some (.ref (E.1 + 164)), none] (by decide +kernel) (Nat.le_of_ble_eq_true rfl) rfl ?_
  intro X hE_ hX hR hL hN
  subst hE_
  have hX : zok X cX12_qHasSquare RX12 0 := hX
  refine zt_iconst (pc' := 1) hX dX12_qHasSquare_0 rfl ?_
  refine zt_istore_n (pc' := 2) (lv' := [some (.ref (X.1.1 + 164)), some (.int (zI 0))]) hX dX12_qHasSquare_1 rfl hL (by decide) rfl ?_
  have L_2_4 : ∀ (N : Nat) (x1 : Int), 0 ≤ x1 → x1 ≤ 1700 → (∀ j : Nat, (j : Int) < x1 → σ 235 j ≠ 25) → ((1701 - x1).toNat) < N → zF X σ 2 [some (.ref (X.1.1 + 164)), some (.int (zI x1))] [] := by
    intro N
    induction N with
    | zero =>
      intro x1 h2 h3 g4 hm6
      exact absurd hm6 (Nat.not_lt_zero _)
    | succ N ih7 =>
      intro x1 h2 h3 g4 hm6
      refine zt_iload_n (pc' := 3) hX dX12_qHasSquare_2 rfl rfl ?_
      refine zt_aload_n (pc' := 4) hX dX12_qHasSquare_3 rfl rfl ?_
      have b8 := zv_46_99 hI zc_164
      refine zt_get (pc' := 7) (v := .int (zI (σ 164 99))) hX dX12_qHasSquare_4 rfl zf_X12_333 (by decide) zc_164 zs_46 rfl ?_
      refine zt_icge (pc' := 10) (tgt := 29) hX dX12_qHasSquare_7 rfl (by decide) ⟨by omega, by omega⟩ ⟨by omega, by omega⟩ (fun c9 => ?_) (fun c9 => ?_)
      · refine zt_iconst (pc' := 30) hX dX12_qHasSquare_29 rfl ?_
        exact zt_zret hX hR dX12_qHasSquare_30 ⟨by omega, by omega⟩ ⟨rfl, by omega, by omega, ⟨fun ⟨j, h1, h2⟩ => absurd h2 (g4 j (by omega)), fun _ => rfl⟩⟩
      · refine zt_aload_n (pc' := 11) hX dX12_qHasSquare_10 rfl rfl ?_
        refine zt_get (pc' := 14) (v := .ref (X.1.1 + 235)) hX dX12_qHasSquare_11 rfl zf_X12_234 (by decide) zc_164 zs_46 (zrf_of (zv_46_98 hI zc_164)) ?_
        refine zt_iload_n (pc' := 15) hX dX12_qHasSquare_14 rfl rfl ?_
        refine zt_iald (pc' := 16) hX dX12_qHasSquare_15 rfl (by decide) zc_235 zs_117 (by decide) ⟨by omega, by omega⟩ ?_
        generalize hv10 : σ 235 (x1.toNat) = v10
        have bv10 : -2147483648 ≤ v10 ∧ v10 ≤ 2147483647 := hv10 ▸ zv_117 hI zc_235 _
        refine zt_bipush (pc' := 18) hX dX12_qHasSquare_16 rfl (by decide) (by decide) ?_
        refine zt_icne (pc' := 21) (tgt := 23) hX dX12_qHasSquare_18 rfl (by decide) ⟨by omega, by omega⟩ ⟨by omega, by omega⟩ (fun c11 => ?_) (fun c11 => ?_)
        · refine zt_iinc (pc' := 26) (lv' := [some (.ref (X.1.1 + 164)), some (.int (zI (x1 + 1)))]) hX dX12_qHasSquare_23 rfl rfl hL (by decide) rfl ?_
          refine zt_goto (tgt := 2) hX dX12_qHasSquare_26 (by decide) ?_
          exact ih7 (x1 + 1) (by omega) (by omega) (yne_s (g := σ 235) g4 (by omega) hv10 (by omega)) (by omega)
        · refine zt_iconst (pc' := 22) hX dX12_qHasSquare_21 rfl ?_
          exact zt_zret hX hR dX12_qHasSquare_22 ⟨by omega, by omega⟩ ⟨rfl, by omega, by omega, ⟨fun _ => rfl, fun n => absurd ⟨(x1).toNat, by omega, by omega⟩ n⟩⟩
  exact L_2_4 _ 0 (by omega) (by omega) (fun j h => absurd h (by omega)) (Nat.lt_succ_self _)
