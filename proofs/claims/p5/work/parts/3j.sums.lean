set_option maxRecDepth 100000 in
set_option maxHeartbeats 1000000 in
theorem zc_X12_qSums (l : Launch) (E : zEN) (σ : zSto) (hI : zInv σ) (hpre0 : σ 164 5 = 0) (hpre1 : σ 164 2 ≤ σ 164 3) (hpre2 : σ 164 97 + σ 164 99 ≤ σ 164 2) (hpre3 : zt σ = 1) (hpre4 : zBt σ ≤ zHt σ) : zCt l E yX12_qSums cX12_qSums 3 none 6 zNC zNC 0 0 σ [.ref (E.1 + 164)] (fun r σ' => zInv σ' ∧ zOn zQ2 σ σ' ∧ (σ' 164 2 ≤ σ 164 3) ∧ (σ 164 2 ≤ σ' 164 2) ∧ (σ' 164 101 = σ 164 101) ∧ (σ' 164 97 + σ' 164 99 + σ 164 2 ≤ σ 164 97 + σ 164 99 + σ' 164 2 + 1) ∧ (σ' 164 5 = 0 → σ' 164 97 + σ' 164 99 + σ 164 2 ≤ σ 164 97 + σ 164 99 + σ' 164 2) ∧ (σ' 164 5 = 0 → zt σ' = 1 ∧ σ' 164 99 = σ 164 99 ∧ zHt σ' - zBt σ' = zHt σ - zBt σ + 1 ∧ zBt σ' = zBt σ ∧ zsq σ' = zsq σ ∧ σ 164 2 < σ' 164 2)) := by
  refine zCt_of2 [some (.ref (E.1 + 164)), none, none] (by decide +kernel) (Nat.le_of_ble_eq_true rfl) rfl ?_
  intro X hE hX hR hL hN
  subst hE
  have hX : zok X cX12_qSums RX12 6 := hX
  have hF := zOn_rf zQ2 σ
  have hbn := zBt_nn σ
  have b1 := zv_46_2 hI zc_164
  have b2 := zv_46_3 hI zc_164
  have b3 := zv_46_5 hI zc_164
  have b4 := zv_46_97 hI zc_164
  have b5 := zv_46_99 hI zc_164
  have b6 := zv_46_101 hI zc_164
  refine zt_aload_n (pc' := 1) hX dX12_qSums_0 rfl rfl ?_
  have b7 := zv_46_101 hI zc_164
  refine zt_get (pc' := 4) (v := .int (zI (σ 164 101))) hX dX12_qSums_1 rfl zf_X12_339 (by decide) zc_164 zs_46 rfl ?_
  refine zt_istore_n (pc' := 5) (lv' := [some (.ref (X.1.1 + 164)), some (.int (zI (σ 164 101))), none]) hX dX12_qSums_4 rfl hL (by decide) rfl ?_
  refine zt_aload_n (pc' := 6) hX dX12_qSums_5 rfl rfl ?_
  refine zt_aload_n (pc' := 7) hX dX12_qSums_6 rfl rfl ?_
  have b8 := zv_46_99 hI zc_164
  refine zt_get (pc' := 10) (v := .int (zI (σ 164 99))) hX dX12_qSums_7 rfl zf_X12_333 (by decide) zc_164 zs_46 rfl ?_
  refine zt_put (pc' := 13) (x := (σ 164 99)) hX dX12_qSums_10 rfl zf_X12_339 (by decide) zc_164 zs_46 (fun q hq => by cases hq; rfl) rfl rfl rfl ?_
  generalize hs10 : zset σ 164 101 (σ 164 99) = s9
  have hI11 : zInv s9 := hs10 ▸ zp_46_101 hI zc_164 ⟨by omega, by omega⟩
  have hF12 : zOn zQ2 σ s9 := hs10 ▸ zOn_set hF (by decide)
  have e13 : s9 164 2 = σ 164 2 := by rw [← hs10]; exact zset_j (by decide)
  have e14 : s9 164 3 = σ 164 3 := by rw [← hs10]; exact zset_j (by decide)
  have e15 : s9 164 5 = σ 164 5 := by rw [← hs10]; exact zset_j (by decide)
  have e16 : s9 164 97 = σ 164 97 := by rw [← hs10]; exact zset_j (by decide)
  have e17 : s9 164 99 = σ 164 99 := by rw [← hs10]; exact zset_j (by decide)
  have e18 : s9 164 101 = (σ 164 99) := by rw [← hs10]; exact zset_s
  obtain ⟨h19a, h19b⟩ := zbase1 hs10 rfl
  replace h19a := h19a (by omega)
  refine zt_iconst (pc' := 14) hX dX12_qSums_13 rfl ?_
  refine zt_istore_n (pc' := 15) (lv' := [some (.ref (X.1.1 + 164)), some (.int (zI (σ 164 101))), some (.int (zI 1))]) hX dX12_qSums_14 rfl hL (by decide) rfl ?_
  have L_15_35 : ∀ (N : Nat) (x20 : Int) (s23 : zSto), 0 ≤ x20 → x20 ≤ 1 → zInv s23 → zOn zQ2 σ s23 → (x20 = 1 → s23 164 5 = 0 ∧ zHt s23 - zBt s23 = zHt σ - zBt σ) → (s23 164 5 = 0 → x20 = 0 → zHt s23 - zBt s23 = zHt σ - zBt σ + 1 ∧ ztb s23 = -1 ∧ σ 164 2 < s23 164 2) → (σ 164 2 ≤ s23 164 2 ∧ s23 164 2 ≤ σ 164 3) → s23 164 3 = σ 164 3 → s23 164 101 = σ 164 99 → s23 164 101 ≤ s23 164 99 → s23 164 97 + s23 164 99 + σ 164 2 ≤ σ 164 97 + σ 164 99 + s23 164 2 + 1 → (s23 164 5 = 0 → s23 164 97 + s23 164 99 + σ 164 2 ≤ σ 164 97 + σ 164 99 + s23 164 2) → (s23 164 5 = 0 → zr s23 = 1) → (zBb s23 = zBt σ ∧ zSb s23 = zsq σ) → ((2 * (1601 - s23 164 2) + x20).toNat) < N → zF X s23 15 [some (.ref (X.1.1 + 164)), some (.int (zI (σ 164 101))), some (.int (zI x20))] [] := by
    intro N
    induction N with
    | zero =>
      intro x20 s23 h21 h22 hI24 hF25 g26 g27 g28 g29 g30 g31 g32 g33 g34 g35 hm37
      exact absurd hm37 (Nat.not_lt_zero _)
    | succ N ih38 =>
      intro x20 s23 h21 h22 hI24 hF25 g26 g27 g28 g29 g30 g31 g32 g33 g34 g35 hm37
      have b39 := zv_46_2 hI24 zc_164
      have b40 := zv_46_3 hI24 zc_164
      have b41 := zv_46_5 hI24 zc_164
      have b42 := zv_46_97 hI24 zc_164
      have b43 := zv_46_99 hI24 zc_164
      have b44 := zv_46_101 hI24 zc_164
      refine zt_iload_n (pc' := 16) hX dX12_qSums_15 rfl rfl ?_
      refine zt_ifeq (pc' := 19) (tgt := 53) hX dX12_qSums_16 rfl (by decide) ⟨by omega, by omega⟩ (fun c45 => ?_) (fun c45 => ?_)
      · have L_53_57 : ∀ (N : Nat) (s46 : zSto), zInv s46 → zOn zQ2 σ s46 → (s46 164 5 = 0 → zHt s46 - zBt s46 = zHt σ - zBt σ + 1 ∧ ztb s46 = -1 ∧ σ 164 2 < s46 164 2) → (σ 164 2 ≤ s46 164 2 ∧ s46 164 2 ≤ σ 164 3) → s46 164 3 = σ 164 3 → s46 164 101 = σ 164 99 → s46 164 101 ≤ s46 164 99 → s46 164 97 + s46 164 99 + σ 164 2 ≤ σ 164 97 + σ 164 99 + s46 164 2 + 1 → (s46 164 5 = 0 → s46 164 97 + s46 164 99 + σ 164 2 ≤ σ 164 97 + σ 164 99 + s46 164 2) → (s46 164 5 = 0 → zr s46 = 1) → (zBb s46 = zBt σ ∧ zSb s46 = zsq σ) → ((s46 164 99).toNat) < N → zF X s46 53 [some (.ref (X.1.1 + 164)), some (.int (zI (σ 164 101))), none] [] := by
          clear g27 g33 g34
          intro N
          induction N with
          | zero =>
            intro s46 hI47 hF48 g49 g50 g51 g52 g53 g54 g55 g56 g57 hm59
            exact absurd hm59 (Nat.not_lt_zero _)
          | succ N ih60 =>
            intro s46 hI47 hF48 g49 g50 g51 g52 g53 g54 g55 g56 g57 hm59
            have b61 := zv_46_2 hI47 zc_164
            have b62 := zv_46_3 hI47 zc_164
            have b63 := zv_46_5 hI47 zc_164
            have b64 := zv_46_97 hI47 zc_164
            have b65 := zv_46_99 hI47 zc_164
            have b66 := zv_46_101 hI47 zc_164
            refine zt_aload_n (pc' := 54) hX dX12_qSums_53 rfl rfl ?_
            have b67 := zv_46_5 hI47 zc_164
            refine zt_get (pc' := 57) (v := .int (zI (s46 164 5))) hX dX12_qSums_54 rfl zf_X12_246 (by decide) zc_164 zs_46 rfl ?_
            have J_78_68 : (s46 164 5 = 0 → s46 164 99 = s46 164 101) → zF X s46 78 [some (.ref (X.1.1 + 164)), some (.int (zI (σ 164 101))), none] [] := by
              intro g68
              refine zt_aload_n (pc' := 79) hX dX12_qSums_78 rfl rfl ?_
              refine zt_iload_n (pc' := 80) hX dX12_qSums_79 rfl rfl ?_
              refine zt_put (pc' := 83) (x := (σ 164 101)) hX dX12_qSums_80 rfl zf_X12_339 (by decide) zc_164 zs_46 (fun q hq => by cases hq; rfl) rfl rfl rfl ?_
              generalize hs71 : zset s46 164 101 (σ 164 101) = s70
              have hI72 : zInv s70 := hs71 ▸ zp_46_101 hI47 zc_164 ⟨by omega, by omega⟩
              have hF73 : zOn zQ2 σ s70 := hs71 ▸ zOn_set hF48 (by decide)
              have e74 : s70 164 2 = s46 164 2 := by rw [← hs71]; exact zset_j (by decide)
              have e75 : s70 164 3 = s46 164 3 := by rw [← hs71]; exact zset_j (by decide)
              have e76 : s70 164 5 = s46 164 5 := by rw [← hs71]; exact zset_j (by decide)
              have e77 : s70 164 97 = s46 164 97 := by rw [← hs71]; exact zset_j (by decide)
              have e78 : s70 164 99 = s46 164 99 := by rw [← hs71]; exact zset_j (by decide)
              have e79 : s70 164 101 = (σ 164 101) := by rw [← hs71]; exact zset_s
              have h80 : s46 164 5 = 0 → (zt s70 = 1 ∧ zHt s70 = zHt s46 ∧ zBt s70 = zBt s46 ∧ zBt s46 = zBb s46 ∧ zsq s70 = zSb s46) := fun hb => zbase2r hs71 (by have qg68 := g68 (by omega); have qg56 := g56 (by omega); have qg55 := g55 (by omega); have qg49 := g49 (by omega); clear g68 g56 g55 g49; omega) (by have qg68 := g68 (by omega); have qg56 := g56 (by omega); have qg55 := g55 (by omega); have qg49 := g49 (by omega); clear g68 g56 g55 g49; omega)
              exact zt_vret hX hR dX12_qSums_83 ⟨hI72, hF73, by omega, by omega, by omega, by omega, (fun hb => by have qh80 := h80 (by omega); have qg68 := g68 (by omega); have qg56 := g56 (by omega); have qg55 := g55 (by omega); have qg49 := g49 (by omega); clear h80 g68 g56 g55 g49; omega), (fun hb => by have qh80 := h80 (by omega); have qg68 := g68 (by omega); have qg56 := g56 (by omega); have qg55 := g55 (by omega); have qg49 := g49 (by omega); clear h80 g68 g56 g55 g49; omega)⟩
            refine zt_ifne (pc' := 60) (tgt := 78) hX dX12_qSums_57 rfl (by decide) ⟨by omega, by omega⟩ (fun c81 => ?_) (fun c81 => ?_)
            · clear g56 g55 g49
              exact J_78_68 (fun hb => by omega)
            · have qg56 := g56 (by omega)
              have qg55 := g55 (by omega)
              have qg49 := g49 (by omega)
              clear g56 g55 g49
              refine zt_aload_n (pc' := 61) hX dX12_qSums_60 rfl rfl ?_
              have b82 := zv_46_99 hI47 zc_164
              refine zt_get (pc' := 64) (v := .int (zI (s46 164 99))) hX dX12_qSums_61 rfl zf_X12_333 (by decide) zc_164 zs_46 rfl ?_
              refine zt_aload_n (pc' := 65) hX dX12_qSums_64 rfl rfl ?_
              have b83 := zv_46_101 hI47 zc_164
              refine zt_get (pc' := 68) (v := .int (zI (s46 164 101))) hX dX12_qSums_65 rfl zf_X12_339 (by decide) zc_164 zs_46 rfl ?_
              refine zt_icle (pc' := 71) (tgt := 78) hX dX12_qSums_68 rfl (by decide) ⟨by omega, by omega⟩ ⟨by omega, by omega⟩ (fun c84 => ?_) (fun c84 => ?_)
              · exact J_78_68 (fun hb => by omega)
              · refine zt_aload_n (pc' := 72) hX dX12_qSums_71 rfl rfl ?_
                have h85 := (ztb_top (s := s46) rfl (by omega) (by omega)).2 (by omega)
                have h85n := zBt_nn s46
                refine zt_cVv (pc' := 75) hX dX12_qSums_72 rfl zm_yX12_qDrops zw_31_4 zc_164 (by decide) zs_46 (q := (RX12, TX12, 108)) rfl rfl (zc_X12_qDrops_S _ _ s46 hI47 (by omega) (by omega) (by omega) (by omega) (by omega)) rfl rfl (Nat.le_of_ble_eq_true rfl) (by decide) (fun r86 s87 hr88 hp89 => ?_)
                obtain ⟨hI90, hF91, z92, z93⟩ := hp89
                have e94 := hF91 164 2 rfl
                have e95 := hF91 164 3 rfl
                have e96 := hF91 164 5 rfl
                have e97 := hF91 164 101 rfl
                have hF98 := zOn_tr hF48 hF91 zi_52
                have b99 := zv_46_2 hI90 zc_164
                have b100 := zv_46_3 hI90 zc_164
                have b101 := zv_46_5 hI90 zc_164
                have b102 := zv_46_97 hI90 zc_164
                have b103 := zv_46_99 hI90 zc_164
                have b104 := zv_46_101 hI90 zc_164
                refine zt_goto (tgt := 53) hX dX12_qSums_75 (by decide) ?_
                exact ih60 s87 hI90 hF98 (fun hb => by omega) (by omega) (by omega) (by omega) (by omega) (by omega) (fun hb => by omega) (fun hb => by omega) (by omega) (by omega)
        refine zt_mask [true, true, false] rfl ?_
        exact L_53_57 _ s23 hI24 hF25 (fun hb => by have qg34 := g34 (by omega); have qg33 := g33 (by omega); have qg27 := g27 (by omega); clear g34 g33 g27; omega) (by omega) (by omega) (by omega) (by omega) (by omega) (fun hb => by have qg34 := g34 (by omega); have qg33 := g33 (by omega); have qg27 := g27 (by omega); clear g34 g33 g27; omega) (fun hb => by have qg34 := g34 (by omega); have qg33 := g33 (by omega); have qg27 := g27 (by omega); clear g34 g33 g27; omega) (by omega) (Nat.lt_succ_self _)
      · refine zt_aload_n (pc' := 20) hX dX12_qSums_19 rfl rfl ?_
        have b105 := zv_46_5 hI24 zc_164
        refine zt_get (pc' := 23) (v := .int (zI (s23 164 5))) hX dX12_qSums_20 rfl zf_X12_246 (by decide) zc_164 zs_46 rfl ?_
        refine zt_ifne (pc' := 26) (tgt := 53) hX dX12_qSums_23 rfl (by decide) ⟨by omega, by omega⟩ (fun c106 => ?_) (fun c106 => ?_)
        · clear g34 g33 g27
          have L_53_118 : ∀ (N : Nat) (s107 : zSto), zInv s107 → zOn zQ2 σ s107 → (s107 164 5 = 0 → zHt s107 - zBt s107 = zHt σ - zBt σ + 1 ∧ ztb s107 = -1 ∧ σ 164 2 < s107 164 2) → (σ 164 2 ≤ s107 164 2 ∧ s107 164 2 ≤ σ 164 3) → s107 164 3 = σ 164 3 → s107 164 101 = σ 164 99 → s107 164 101 ≤ s107 164 99 → s107 164 97 + s107 164 99 + σ 164 2 ≤ σ 164 97 + σ 164 99 + s107 164 2 + 1 → (s107 164 5 = 0 → s107 164 97 + s107 164 99 + σ 164 2 ≤ σ 164 97 + σ 164 99 + s107 164 2) → (s107 164 5 = 0 → zr s107 = 1) → (zBb s107 = zBt σ ∧ zSb s107 = zsq σ) → ((s107 164 99).toNat) < N → zF X s107 53 [some (.ref (X.1.1 + 164)), some (.int (zI (σ 164 101))), none] [] := by
            intro N
            induction N with
            | zero =>
              intro s107 hI108 hF109 g110 g111 g112 g113 g114 g115 g116 g117 g118 hm120
              exact absurd hm120 (Nat.not_lt_zero _)
            | succ N ih121 =>
              intro s107 hI108 hF109 g110 g111 g112 g113 g114 g115 g116 g117 g118 hm120
              have b122 := zv_46_2 hI108 zc_164
              have b123 := zv_46_3 hI108 zc_164
              have b124 := zv_46_5 hI108 zc_164
              have b125 := zv_46_97 hI108 zc_164
              have b126 := zv_46_99 hI108 zc_164
              have b127 := zv_46_101 hI108 zc_164
              refine zt_aload_n (pc' := 54) hX dX12_qSums_53 rfl rfl ?_
              have b128 := zv_46_5 hI108 zc_164
              refine zt_get (pc' := 57) (v := .int (zI (s107 164 5))) hX dX12_qSums_54 rfl zf_X12_246 (by decide) zc_164 zs_46 rfl ?_
              have J_78_129 : (s107 164 5 = 0 → s107 164 99 = s107 164 101) → zF X s107 78 [some (.ref (X.1.1 + 164)), some (.int (zI (σ 164 101))), none] [] := by
                intro g129
                refine zt_aload_n (pc' := 79) hX dX12_qSums_78 rfl rfl ?_
                refine zt_iload_n (pc' := 80) hX dX12_qSums_79 rfl rfl ?_
                refine zt_put (pc' := 83) (x := (σ 164 101)) hX dX12_qSums_80 rfl zf_X12_339 (by decide) zc_164 zs_46 (fun q hq => by cases hq; rfl) rfl rfl rfl ?_
                generalize hs132 : zset s107 164 101 (σ 164 101) = s131
                have hI133 : zInv s131 := hs132 ▸ zp_46_101 hI108 zc_164 ⟨by omega, by omega⟩
                have hF134 : zOn zQ2 σ s131 := hs132 ▸ zOn_set hF109 (by decide)
                have e135 : s131 164 2 = s107 164 2 := by rw [← hs132]; exact zset_j (by decide)
                have e136 : s131 164 3 = s107 164 3 := by rw [← hs132]; exact zset_j (by decide)
                have e137 : s131 164 5 = s107 164 5 := by rw [← hs132]; exact zset_j (by decide)
                have e138 : s131 164 97 = s107 164 97 := by rw [← hs132]; exact zset_j (by decide)
                have e139 : s131 164 99 = s107 164 99 := by rw [← hs132]; exact zset_j (by decide)
                have e140 : s131 164 101 = (σ 164 101) := by rw [← hs132]; exact zset_s
                have h141 : s107 164 5 = 0 → (zt s131 = 1 ∧ zHt s131 = zHt s107 ∧ zBt s131 = zBt s107 ∧ zBt s107 = zBb s107 ∧ zsq s131 = zSb s107) := fun hb => zbase2r hs132 (by have qg129 := g129 (by omega); have qg117 := g117 (by omega); have qg116 := g116 (by omega); have qg110 := g110 (by omega); clear g129 g117 g116 g110; omega) (by have qg129 := g129 (by omega); have qg117 := g117 (by omega); have qg116 := g116 (by omega); have qg110 := g110 (by omega); clear g129 g117 g116 g110; omega)
                exact zt_vret hX hR dX12_qSums_83 ⟨hI133, hF134, by omega, by omega, by omega, by omega, (fun hb => by have qh141 := h141 (by omega); have qg129 := g129 (by omega); have qg117 := g117 (by omega); have qg116 := g116 (by omega); have qg110 := g110 (by omega); clear h141 g129 g117 g116 g110; omega), (fun hb => by have qh141 := h141 (by omega); have qg129 := g129 (by omega); have qg117 := g117 (by omega); have qg116 := g116 (by omega); have qg110 := g110 (by omega); clear h141 g129 g117 g116 g110; omega)⟩
              refine zt_ifne (pc' := 60) (tgt := 78) hX dX12_qSums_57 rfl (by decide) ⟨by omega, by omega⟩ (fun c142 => ?_) (fun c142 => ?_)
              · clear g117 g116 g110
                exact J_78_129 (fun hb => by omega)
              · have qg117 := g117 (by omega)
                have qg116 := g116 (by omega)
                have qg110 := g110 (by omega)
                clear g117 g116 g110
                refine zt_aload_n (pc' := 61) hX dX12_qSums_60 rfl rfl ?_
                have b143 := zv_46_99 hI108 zc_164
                refine zt_get (pc' := 64) (v := .int (zI (s107 164 99))) hX dX12_qSums_61 rfl zf_X12_333 (by decide) zc_164 zs_46 rfl ?_
                refine zt_aload_n (pc' := 65) hX dX12_qSums_64 rfl rfl ?_
                have b144 := zv_46_101 hI108 zc_164
                refine zt_get (pc' := 68) (v := .int (zI (s107 164 101))) hX dX12_qSums_65 rfl zf_X12_339 (by decide) zc_164 zs_46 rfl ?_
                refine zt_icle (pc' := 71) (tgt := 78) hX dX12_qSums_68 rfl (by decide) ⟨by omega, by omega⟩ ⟨by omega, by omega⟩ (fun c145 => ?_) (fun c145 => ?_)
                · exact J_78_129 (fun hb => by omega)
                · refine zt_aload_n (pc' := 72) hX dX12_qSums_71 rfl rfl ?_
                  have h146 := (ztb_top (s := s107) rfl (by omega) (by omega)).2 (by omega)
                  have h146n := zBt_nn s107
                  refine zt_cVv (pc' := 75) hX dX12_qSums_72 rfl zm_yX12_qDrops zw_31_4 zc_164 (by decide) zs_46 (q := (RX12, TX12, 108)) rfl rfl (zc_X12_qDrops_S _ _ s107 hI108 (by omega) (by omega) (by omega) (by omega) (by omega)) rfl rfl (Nat.le_of_ble_eq_true rfl) (by decide) (fun r147 s148 hr149 hp150 => ?_)
                  obtain ⟨hI151, hF152, z153, z154⟩ := hp150
                  have e155 := hF152 164 2 rfl
                  have e156 := hF152 164 3 rfl
                  have e157 := hF152 164 5 rfl
                  have e158 := hF152 164 101 rfl
                  have hF159 := zOn_tr hF109 hF152 zi_52
                  have b160 := zv_46_2 hI151 zc_164
                  have b161 := zv_46_3 hI151 zc_164
                  have b162 := zv_46_5 hI151 zc_164
                  have b163 := zv_46_97 hI151 zc_164
                  have b164 := zv_46_99 hI151 zc_164
                  have b165 := zv_46_101 hI151 zc_164
                  refine zt_goto (tgt := 53) hX dX12_qSums_75 (by decide) ?_
                  exact ih121 s148 hI151 hF159 (fun hb => by omega) (by omega) (by omega) (by omega) (by omega) (by omega) (fun hb => by omega) (fun hb => by omega) (by omega) (by omega)
          refine zt_mask [true, true, false] rfl ?_
          exact L_53_118 _ s23 hI24 hF25 (fun hb => by omega) (by omega) (by omega) (by omega) (by omega) (by omega) (fun hb => by omega) (fun hb => by omega) (by omega) (Nat.lt_succ_self _)
        · have qg34 := g34 (by omega)
          have qg33 := g33 (by omega)
          have qg27 := g27 (by omega)
          clear g34 g33 g27
          refine zt_aload_n (pc' := 27) hX dX12_qSums_26 rfl rfl ?_
          refine zt_cVv (pc' := 30) hX dX12_qSums_27 rfl zm_yX12_qPartTold zw_30_2 zc_164 (by decide) zs_46 (q := (RX12, TX12, 108)) rfl rfl (zc_X12_qPartTold _ _ s23 hI24 (by omega) (by omega) (by omega) (by omega) (by omega) (by omega)) rfl rfl (Nat.le_of_ble_eq_true rfl) (by decide) (fun r166 s167 hr168 hp169 => ?_)
          obtain ⟨hI170, hF171, z172, z173, z174, z175, z176, z177, z178, z179⟩ := hp169
          have e180 := hF171 164 3 rfl
          have hF181 := zOn_tr hF25 hF171 zi_id
          have b182 := zv_46_2 hI170 zc_164
          have b183 := zv_46_3 hI170 zc_164
          have b184 := zv_46_5 hI170 zc_164
          have b185 := zv_46_97 hI170 zc_164
          have b186 := zv_46_99 hI170 zc_164
          have b187 := zv_46_101 hI170 zc_164
          refine zt_aload_n (pc' := 31) hX dX12_qSums_30 rfl rfl ?_
          have b188 := zv_46_5 hI170 zc_164
          refine zt_get (pc' := 34) (v := .int (zI (s167 164 5))) hX dX12_qSums_31 rfl zf_X12_246 (by decide) zc_164 zs_46 rfl ?_
          have J_49_206 : ∀ (y189 : Int) (s192 : zSto), 0 ≤ y189 → y189 ≤ 1 → zInv s192 → zOn zQ2 σ s192 → (y189 = 1 → s192 164 5 = 0 ∧ zHt s192 - zBt s192 = zHt σ - zBt σ ∧ s23 164 2 < s192 164 2) → (s192 164 5 = 0 → y189 = 0 → zHt s192 - zBt s192 = zHt σ - zBt σ + 1 ∧ ztb s192 = -1 ∧ σ 164 2 < s192 164 2) → s23 164 2 ≤ s192 164 2 → (0 ≤ y189 ∧ y189 ≤ 1) → (σ 164 2 ≤ s192 164 2 ∧ s192 164 2 ≤ σ 164 3) → s192 164 3 = σ 164 3 → s192 164 101 = σ 164 99 → s192 164 101 ≤ s192 164 99 → s192 164 97 + s192 164 99 + σ 164 2 ≤ σ 164 97 + σ 164 99 + s192 164 2 + 1 → (s192 164 5 = 0 → s192 164 97 + s192 164 99 + σ 164 2 ≤ σ 164 97 + σ 164 99 + s192 164 2) → (s192 164 5 = 0 → zr s192 = 1) → (zBb s192 = zBt σ ∧ zSb s192 = zsq σ) → zF X s192 49 [some (.ref (X.1.1 + 164)), some (.int (zI (σ 164 101))), none] [.int (zI y189)] := by
            clear z177 z178
            intro y189 s192 h190 h191 hI193 hF194 g195 g196 g197 g198 g199 g200 g201 g202 g203 g204 g205 g206
            have b208 := zv_46_2 hI193 zc_164
            have b209 := zv_46_3 hI193 zc_164
            have b210 := zv_46_5 hI193 zc_164
            have b211 := zv_46_97 hI193 zc_164
            have b212 := zv_46_99 hI193 zc_164
            have b213 := zv_46_101 hI193 zc_164
            refine zt_istore_n (pc' := 50) (lv' := [some (.ref (X.1.1 + 164)), some (.int (zI (σ 164 101))), some (.int (zI y189))]) hX dX12_qSums_49 rfl hL (by decide) rfl ?_
            refine zt_goto (tgt := 15) hX dX12_qSums_50 (by decide) ?_
            exact ih38 y189 s192 (by omega) (by omega) hI193 hF194 (by omega) (fun hb => by have qg205 := g205 (by omega); have qg204 := g204 (by omega); have qg196 := g196 (by omega); clear g205 g204 g196; omega) (by omega) (by omega) (by omega) (by omega) (by omega) (fun hb => by have qg205 := g205 (by omega); have qg204 := g204 (by omega); have qg196 := g196 (by omega); clear g205 g204 g196; omega) (fun hb => by have qg205 := g205 (by omega); have qg204 := g204 (by omega); have qg196 := g196 (by omega); clear g205 g204 g196; omega) (by omega) (by omega)
          have J_48_226 : ∀ (s214 : zSto), zInv s214 → zOn zQ2 σ s214 → (s214 164 5 = 0 → zHt s214 - zBt s214 = zHt σ - zBt σ + 1 ∧ ztb s214 = -1 ∧ σ 164 2 < s214 164 2) → s23 164 2 ≤ s214 164 2 → (σ 164 2 ≤ s214 164 2 ∧ s214 164 2 ≤ σ 164 3) → s214 164 3 = σ 164 3 → s214 164 101 = σ 164 99 → s214 164 101 ≤ s214 164 99 → s214 164 97 + s214 164 99 + σ 164 2 ≤ σ 164 97 + σ 164 99 + s214 164 2 + 1 → (s214 164 5 = 0 → s214 164 97 + s214 164 99 + σ 164 2 ≤ σ 164 97 + σ 164 99 + s214 164 2) → (s214 164 5 = 0 → zr s214 = 1) → (zBb s214 = zBt σ ∧ zSb s214 = zsq σ) → zF X s214 48 [some (.ref (X.1.1 + 164)), some (.int (zI (σ 164 101))), none] [] := by
            clear z177 z178
            intro s214 hI215 hF216 g217 g218 g219 g220 g221 g222 g223 g224 g225 g226
            have b228 := zv_46_2 hI215 zc_164
            have b229 := zv_46_3 hI215 zc_164
            have b230 := zv_46_5 hI215 zc_164
            have b231 := zv_46_97 hI215 zc_164
            have b232 := zv_46_99 hI215 zc_164
            have b233 := zv_46_101 hI215 zc_164
            refine zt_iconst (pc' := 49) hX dX12_qSums_48 rfl ?_
            exact J_49_206 0 s214 (by omega) (by omega) hI215 hF216 (by omega) (fun hb => by have qg225 := g225 (by omega); have qg224 := g224 (by omega); have qg217 := g217 (by omega); clear g225 g224 g217; omega) (by omega) (by omega) (by omega) (by omega) (by omega) (by omega) (by omega) (fun hb => by have qg225 := g225 (by omega); have qg224 := g224 (by omega); have qg217 := g217 (by omega); clear g225 g224 g217; omega) (fun hb => by have qg225 := g225 (by omega); have qg224 := g224 (by omega); have qg217 := g217 (by omega); clear g225 g224 g217; omega) (by omega)
          refine zt_ifne (pc' := 37) (tgt := 48) hX dX12_qSums_34 rfl (by decide) ⟨by omega, by omega⟩ (fun c234 => ?_) (fun c234 => ?_)
          · clear z178 z177
            refine zt_mask [true, true, false] rfl ?_
            exact J_48_226 s167 hI170 hF181 (fun hb => by omega) (by omega) (by omega) (by omega) (by omega) (by omega) (by omega) (fun hb => by omega) (fun hb => by omega) (by omega)
          · have qz178 := z178 (by omega)
            have qz177 := z177 (by omega)
            clear z178 z177
            refine zt_aload_n (pc' := 38) hX dX12_qSums_37 rfl rfl ?_
            refine zt_cVz (pc' := 41) hX dX12_qSums_38 rfl zm_yX12_qGoesOn zw_31_8 zc_164 (by decide) zs_46 (q := (RX12, TX12, 108)) rfl rfl (zc_X12_qGoesOn _ _ s167 hI170 (by omega) (by omega) (by omega) (by omega) (by omega) (by omega)) rfl rfl (Nat.le_of_ble_eq_true rfl) (by decide) (fun r235 s236 hr237 hp238 => ?_)
            obtain ⟨hI239, hF240, q241, q242, z243, z244, z245, z246, z247, z248, z249, z250, z251⟩ := hp238
            have e252 := hF240 164 3 rfl
            have hF253 := zOn_tr hF181 hF240 zi_id
            have b254 := zv_46_2 hI239 zc_164
            have b255 := zv_46_3 hI239 zc_164
            have b256 := zv_46_5 hI239 zc_164
            have b257 := zv_46_97 hI239 zc_164
            have b258 := zv_46_99 hI239 zc_164
            have b259 := zv_46_101 hI239 zc_164
            refine zt_ifeq (pc' := 44) (tgt := 48) hX dX12_qSums_41 rfl (by decide) ⟨by omega, by omega⟩ (fun c260 => ?_) (fun c260 => ?_)
            · clear z248
              refine zt_mask [true, true, false] rfl ?_
              exact J_48_226 s236 hI239 hF253 (fun hb => by have qz250 := z250 (by omega); have qz249 := z249 (by omega); clear z250 z249; omega) (by omega) (by omega) (by omega) (by omega) (by omega) (by omega) (fun hb => by have qz250 := z250 (by omega); have qz249 := z249 (by omega); clear z250 z249; omega) (fun hb => by have qz250 := z250 (by omega); have qz249 := z249 (by omega); clear z250 z249; omega) (by omega)
            · have qz248 := z248 (by omega)
              clear z248
              refine zt_iconst (pc' := 45) hX dX12_qSums_44 rfl ?_
              refine zt_goto (tgt := 49) hX dX12_qSums_45 (by decide) ?_
              refine zt_mask [true, true, false] rfl ?_
              exact J_49_206 1 s236 (by omega) (by omega) hI239 hF253 (by omega) (fun hb => by have qz250 := z250 (by omega); have qz249 := z249 (by omega); clear z250 z249; omega) (by omega) (by omega) (by omega) (by omega) (by omega) (by omega) (by omega) (fun hb => by have qz250 := z250 (by omega); have qz249 := z249 (by omega); clear z250 z249; omega) (fun hb => by have qz250 := z250 (by omega); have qz249 := z249 (by omega); clear z250 z249; omega) (by omega)
  exact L_15_35 _ 1 s9 (by omega) (by omega) hI11 hF12 (by omega) (fun hb => by omega) (by omega) (by omega) (by omega) (by omega) (by omega) (fun hb => by omega) (fun hb => by omega) (by omega) (Nat.lt_succ_self _)

set_option maxRecDepth 100000 in
set_option maxHeartbeats 1000000 in
theorem zc_X12_qFact (l : Launch) (E : zEN) (σ : zSto) (hI : zInv σ) (hpre0 : σ 164 5 = 0) (hpre1 : σ 164 2 ≤ σ 164 3) (hpre2 : σ 164 97 + σ 164 99 ≤ σ 164 2) (hpre3 : zt σ = 1) (hpre4 : zBt σ ≤ zHt σ) : zCt l E yX12_qFact cX12_qFact 2 none 7 zNC zNC 0 0 σ [.ref (E.1 + 164)] (fun r σ' => zInv σ' ∧ zOn zQ2 σ σ' ∧ (σ' 164 2 ≤ σ 164 3) ∧ (σ 164 2 ≤ σ' 164 2) ∧ (σ' 164 101 = σ 164 101) ∧ (σ' 164 97 + σ' 164 99 + σ 164 2 ≤ σ 164 97 + σ 164 99 + σ' 164 2 + 1) ∧ (σ' 164 5 = 0 → σ' 164 97 + σ' 164 99 + σ 164 2 ≤ σ 164 97 + σ 164 99 + σ' 164 2) ∧ (σ' 164 5 = 0 → zt σ' = 1 ∧ σ' 164 99 = σ 164 99 ∧ zHt σ' - zBt σ' = zHt σ - zBt σ + 1 ∧ zBt σ' = zBt σ ∧ zsq σ' = zsq σ ∧ σ 164 2 < σ' 164 2)) := by
  refine zCt_of2 [some (.ref (E.1 + 164)), none] (by decide +kernel) (Nat.le_of_ble_eq_true rfl) rfl ?_
  intro X hE hX hR hL hN
  subst hE
  have hX : zok X cX12_qFact RX12 7 := hX
  have hF := zOn_rf zQ2 σ
  have hbn := zBt_nn σ
  have b1 := zv_46_2 hI zc_164
  have b2 := zv_46_3 hI zc_164
  have b3 := zv_46_5 hI zc_164
  have b4 := zv_46_97 hI zc_164
  have b5 := zv_46_99 hI zc_164
  have b6 := zv_46_101 hI zc_164
  refine zt_aload_n (pc' := 1) hX dX12_qFact_0 rfl rfl ?_
  refine zt_aload_n (pc' := 2) hX dX12_qFact_1 rfl rfl ?_
  refine zt_get (pc' := 5) (v := .ref (X.1.1 + 220)) hX dX12_qFact_2 rfl zf_X12_189 (by decide) zc_164 zs_46 (zrf_of (zv_46_82 hI zc_164)) ?_
  refine zt_cVz (pc' := 8) hX dX12_qFact_5 rfl zm_yX12_takes zw_26_4 zc_164 (by decide) zs_46 (q := (RX12, TX12, 108)) rfl rfl (zc_X12_takes _ _ σ hI 220 102 3 zc_220 (by decide) zs_102 (by decide)) rfl rfl (Nat.le_of_ble_eq_true rfl) (by decide) (fun r7 s8 hr9 hp10 => ?_)
  obtain ⟨hI11, hF12, q13, q14, z15, z16, z17⟩ := hp10
  obtain ⟨-, w19, w20, w21, -, -, w24, -⟩ := zE_q1 hF12
  have e26 := hF12 164 3 rfl
  have e27 := hF12 164 97 rfl
  have e28 := hF12 164 99 rfl
  have e29 := hF12 164 101 rfl
  have hF30 := zOn_tr hF hF12 zi_12
  have b31 := zv_46_2 hI11 zc_164
  have b32 := zv_46_3 hI11 zc_164
  have b33 := zv_46_5 hI11 zc_164
  have b34 := zv_46_97 hI11 zc_164
  have b35 := zv_46_99 hI11 zc_164
  have b36 := zv_46_101 hI11 zc_164
  replace z15 : _ ∧ _ := ⟨z15.1, z15.2 (by omega)⟩
  refine zt_ifeq (pc' := 11) (tgt := 18) hX dX12_qFact_8 rfl (by decide) ⟨by omega, by omega⟩ (fun c37 => ?_) (fun c37 => ?_)
  · clear z16
    refine zt_aload_n (pc' := 19) hX dX12_qFact_18 rfl rfl ?_
    refine zt_cVv (pc' := 22) hX dX12_qFact_19 rfl zm_yX12_qSums zw_29_22 zc_164 (by decide) zs_46 (q := (RX12, TX12, 108)) rfl rfl (zc_X12_qSums _ _ s8 hI11 (by omega) (by omega) (by omega) (by omega) (by omega)) rfl rfl (Nat.le_of_ble_eq_true rfl) (by decide) (fun r38 s39 hr40 hp41 => ?_)
    obtain ⟨hI42, hF43, z44, z45, z46, z47, z48, z49⟩ := hp41
    have e50 := hF43 164 3 rfl
    have hF51 := zOn_tr hF30 hF43 zi_id
    have b52 := zv_46_2 hI42 zc_164
    have b53 := zv_46_3 hI42 zc_164
    have b54 := zv_46_5 hI42 zc_164
    have b55 := zv_46_97 hI42 zc_164
    have b56 := zv_46_99 hI42 zc_164
    have b57 := zv_46_101 hI42 zc_164
    refine zt_aload_n (pc' := 23) hX dX12_qFact_22 rfl rfl ?_
    have b58 := zv_46_5 hI42 zc_164
    refine zt_get (pc' := 26) (v := .int (zI (s39 164 5))) hX dX12_qFact_23 rfl zf_X12_246 (by decide) zc_164 zs_46 rfl ?_
    refine zt_ifeq (pc' := 29) (tgt := 30) hX dX12_qFact_26 rfl (by decide) ⟨by omega, by omega⟩ (fun c59 => ?_) (fun c59 => ?_)
    · have qz49 := z49 (by omega)
      have qz48 := z48 (by omega)
      clear z49 z48
      refine zt_aload_n (pc' := 31) hX dX12_qFact_30 rfl rfl ?_
      refine zt_cVi (pc' := 34) hX dX12_qFact_31 rfl zm_yX12_look zw_26_12 zc_164 (by decide) zs_46 (q := (RX12, TX12, 108)) rfl rfl (zc_X12_look _ _ s39 hI42 ) rfl rfl (Nat.le_of_ble_eq_true rfl) (by decide) (fun r60 s61 hr62 hp63 => ?_)
      obtain ⟨hI64, hF65, q66, q67, z68, z69, z70, z71⟩ := hp63
      obtain ⟨-, w73, w74, w75, -, -, w78, -⟩ := zE_q1 hF65
      have e80 := hF65 164 3 rfl
      have e81 := hF65 164 97 rfl
      have e82 := hF65 164 99 rfl
      have e83 := hF65 164 101 rfl
      have hF84 := zOn_tr hF51 hF65 zi_12
      have b85 := zv_46_2 hI64 zc_164
      have b86 := zv_46_3 hI64 zc_164
      have b87 := zv_46_5 hI64 zc_164
      have b88 := zv_46_97 hI64 zc_164
      have b89 := zv_46_99 hI64 zc_164
      have b90 := zv_46_101 hI64 zc_164
      clear z71
      replace z68 : _ ∧ _ := ⟨z68.1, z68.2 (by omega)⟩
      refine zt_istore_n (pc' := 35) (lv' := [some (.ref (X.1.1 + 164)), some (.int (zI r60))]) hX dX12_qFact_34 rfl hL (by decide) rfl ?_
      refine zt_iload_n (pc' := 36) hX dX12_qFact_35 rfl rfl ?_
      refine zt_bipush (pc' := 38) hX dX12_qFact_36 rfl (by decide) (by decide) ?_
      have J_63_91 : s61 164 2 < s61 164 3 → zF X s61 63 [some (.ref (X.1.1 + 164)), some (.int (zI r60))] [] := by
        intro g91
        refine zt_aload_n (pc' := 64) hX dX12_qFact_63 rfl rfl ?_
        refine zt_dup (pc' := 65) hX dX12_qFact_64 rfl rfl ?_
        have b93 := zv_46_2 hI64 zc_164
        refine zt_get (pc' := 68) (v := .int (zI (s61 164 2))) hX dX12_qFact_65 rfl zf_X12_252 (by decide) zc_164 zs_46 rfl ?_
        refine zt_iconst (pc' := 69) hX dX12_qFact_68 rfl ?_
        refine zt_iadd (pc' := 70) hX dX12_qFact_69 rfl ?_
        refine zt_put (pc' := 73) (x := ((s61 164 2) + 1)) hX dX12_qFact_70 rfl zf_X12_252 (by decide) zc_164 zs_46 (fun q hq => by cases hq; rfl) rfl rfl rfl ?_
        generalize hs95 : zset s61 164 2 ((s61 164 2) + 1) = s94
        have hI96 : zInv s94 := hs95 ▸ zp_46_2 hI64 zc_164 ⟨by omega, by omega⟩
        have hF97 : zOn zQ2 σ s94 := hs95 ▸ zOn_set hF84 (by decide)
        obtain ⟨-, w99, w100, w101, -, -, w104, -⟩ := zE_set hs95 (by decide)
        have e106 : s94 164 2 = ((s61 164 2) + 1) := by rw [← hs95]; exact zset_s
        have e107 : s94 164 3 = s61 164 3 := by rw [← hs95]; exact zset_j (by decide)
        have e108 : s94 164 5 = s61 164 5 := by rw [← hs95]; exact zset_j (by decide)
        have e109 : s94 164 97 = s61 164 97 := by rw [← hs95]; exact zset_j (by decide)
        have e110 : s94 164 99 = s61 164 99 := by rw [← hs95]; exact zset_j (by decide)
        have e111 : s94 164 101 = s61 164 101 := by rw [← hs95]; exact zset_j (by decide)
        refine zt_aload_n (pc' := 74) hX dX12_qFact_73 rfl rfl ?_
        refine zt_cVv (pc' := 77) hX dX12_qFact_74 rfl zm_yX12_qSums zw_29_22 zc_164 (by decide) zs_46 (q := (RX12, TX12, 108)) rfl rfl (zc_X12_qSums _ _ s94 hI96 (by omega) (by omega) (by omega) (by omega) (by omega)) rfl rfl (Nat.le_of_ble_eq_true rfl) (by decide) (fun r112 s113 hr114 hp115 => ?_)
        obtain ⟨hI116, hF117, z118, z119, z120, z121, z122, z123⟩ := hp115
        have e124 := hF117 164 3 rfl
        have hF125 := zOn_tr hF97 hF117 zi_id
        have b126 := zv_46_2 hI116 zc_164
        have b127 := zv_46_3 hI116 zc_164
        have b128 := zv_46_5 hI116 zc_164
        have b129 := zv_46_97 hI116 zc_164
        have b130 := zv_46_99 hI116 zc_164
        have b131 := zv_46_101 hI116 zc_164
        refine zt_aload_n (pc' := 78) hX dX12_qFact_77 rfl rfl ?_
        refine zt_iload_n (pc' := 79) hX dX12_qFact_78 rfl rfl ?_
        refine zt_bipush (pc' := 81) hX dX12_qFact_79 rfl (by decide) (by decide) ?_
        have J_102_134 : ∀ (y132 : Int), 7 ≤ y132 → y132 ≤ 9 → zF X s113 102 [none, none] [.int (zI y132), .ref (X.1.1 + 164)] := by
          intro y132 h133 h134
          refine zt_cVv (pc' := 105) hX dX12_qFact_102 rfl zm_yX12_qCode zw_29_18 zc_164 (by decide) zs_46 (q := (RX12, TX12, 108)) rfl rfl (zc_X12_qCode _ _ s113 hI116 y132 ⟨by omega, by omega⟩ (by omega)) rfl rfl (Nat.le_of_ble_eq_true rfl) (by decide) (fun r136 s137 hr138 hp139 => ?_)
          obtain ⟨hI140, hF141, z142⟩ := hp139
          have e143 := hF141 164 2 rfl
          have e144 := hF141 164 3 rfl
          have e145 := hF141 164 5 rfl
          have e146 := hF141 164 101 rfl
          have hF147 := zOn_tr hF125 hF141 zi_52
          have b148 := zv_46_2 hI140 zc_164
          have b149 := zv_46_3 hI140 zc_164
          have b150 := zv_46_5 hI140 zc_164
          have b151 := zv_46_97 hI140 zc_164
          have b152 := zv_46_99 hI140 zc_164
          have b153 := zv_46_101 hI140 zc_164
          have h154e := zcd_e z142 (by omega)
          have h154n := zBt_nn s113
          have h154 : s113 164 5 = 0 → zt s137 = 1 ∧ zHt s137 = zHt s113 - 1 := fun hb => zcd_bnT z142 (by omega) ⟨by omega, by omega⟩ (by have qz123 := z123 (by omega); have qz122 := z122 (by omega); clear z123 z122; omega) (by have qz123 := z123 (by omega); have qz122 := z122 (by omega); clear z123 z122; omega)
          exact zt_vret hX hR dX12_qFact_105 ⟨hI140, hF147, by omega, by omega, by omega, by omega, (fun hb => by have qh154 := h154 (by omega); have qz123 := z123 (by omega); have qz122 := z122 (by omega); clear h154 z123 z122; omega), (fun hb => by have qh154 := h154 (by omega); have qz123 := z123 (by omega); have qz122 := z122 (by omega); clear h154 z123 z122; omega)⟩
        refine zt_icne (pc' := 84) (tgt := 89) hX dX12_qFact_81 rfl (by decide) ⟨by omega, by omega⟩ ⟨by omega, by omega⟩ (fun c155 => ?_) (fun c155 => ?_)
        · refine zt_iload_n (pc' := 90) hX dX12_qFact_89 rfl rfl ?_
          refine zt_bipush (pc' := 92) hX dX12_qFact_90 rfl (by decide) (by decide) ?_
          refine zt_icne (pc' := 95) (tgt := 100) hX dX12_qFact_92 rfl (by decide) ⟨by omega, by omega⟩ ⟨by omega, by omega⟩ (fun c156 => ?_) (fun c156 => ?_)
          · refine zt_bipush (pc' := 102) hX dX12_qFact_100 rfl (by decide) (by decide) ?_
            refine zt_mask [false, false] rfl ?_
            exact J_102_134 9 (by omega) (by omega)
          · have qz69 := z69 (by omega)
            clear z69
            refine zt_bipush (pc' := 97) hX dX12_qFact_95 rfl (by decide) (by decide) ?_
            refine zt_goto (tgt := 102) hX dX12_qFact_97 (by decide) ?_
            refine zt_mask [false, false] rfl ?_
            exact J_102_134 8 (by omega) (by omega)
        · have qz69 := z69 (by omega)
          clear z69
          refine zt_bipush (pc' := 86) hX dX12_qFact_84 rfl (by decide) (by decide) ?_
          refine zt_goto (tgt := 102) hX dX12_qFact_86 (by decide) ?_
          refine zt_mask [false, false] rfl ?_
          exact J_102_134 7 (by omega) (by omega)
      refine zt_iceq (pc' := 41) (tgt := 63) hX dX12_qFact_38 rfl (by decide) ⟨by omega, by omega⟩ ⟨by omega, by omega⟩ (fun c157 => ?_) (fun c157 => ?_)
      · have qz69 := z69 (by omega)
        clear z69
        exact J_63_91 (by omega)
      · refine zt_iload_n (pc' := 42) hX dX12_qFact_41 rfl rfl ?_
        refine zt_bipush (pc' := 44) hX dX12_qFact_42 rfl (by decide) (by decide) ?_
        refine zt_iceq (pc' := 47) (tgt := 63) hX dX12_qFact_44 rfl (by decide) ⟨by omega, by omega⟩ ⟨by omega, by omega⟩ (fun c158 => ?_) (fun c158 => ?_)
        · have qz69 := z69 (by omega)
          clear z69
          exact J_63_91 (by omega)
        · refine zt_iload_n (pc' := 48) hX dX12_qFact_47 rfl rfl ?_
          refine zt_bipush (pc' := 50) hX dX12_qFact_48 rfl (by decide) (by decide) ?_
          refine zt_iceq (pc' := 53) (tgt := 63) hX dX12_qFact_50 rfl (by decide) ⟨by omega, by omega⟩ ⟨by omega, by omega⟩ (fun c159 => ?_) (fun c159 => ?_)
          · have qz69 := z69 (by omega)
            clear z69
            exact J_63_91 (by omega)
          · refine zt_aload_n (pc' := 54) hX dX12_qFact_53 rfl rfl ?_
            refine zt_iconst (pc' := 55) hX dX12_qFact_54 rfl ?_
            refine zt_aload_n (pc' := 56) hX dX12_qFact_55 rfl rfl ?_
            have b160 := zv_46_2 hI64 zc_164
            refine zt_get (pc' := 59) (v := .int (zI (s61 164 2))) hX dX12_qFact_56 rfl zf_X12_252 (by decide) zc_164 zs_46 rfl ?_
            refine zt_cVv (pc' := 62) hX dX12_qFact_59 rfl zm_yX12_fail zw_26_19 zc_164 (by decide) zs_46 (q := (RX12, TX12, 108)) rfl rfl (zc_X12_fail _ _ s61 hI64 1 ⟨by omega, by omega⟩ (s61 164 2) ⟨by omega, by omega⟩) rfl rfl (Nat.le_of_ble_eq_true rfl) (by decide) (fun r161 s162 hr163 hp164 => ?_)
            obtain ⟨hI165, hF166, z167, z168⟩ := hp164
            obtain ⟨-, w170, w171, w172, -, -, w175, -⟩ := zE_q1 hF166
            have e177 := hF166 164 3 rfl
            have e178 := hF166 164 97 rfl
            have e179 := hF166 164 99 rfl
            have e180 := hF166 164 101 rfl
            have hF181 := zOn_tr hF84 hF166 zi_12
            have b182 := zv_46_2 hI165 zc_164
            have b183 := zv_46_3 hI165 zc_164
            have b184 := zv_46_5 hI165 zc_164
            have b185 := zv_46_97 hI165 zc_164
            have b186 := zv_46_99 hI165 zc_164
            have b187 := zv_46_101 hI165 zc_164
            exact zt_vret hX hR dX12_qFact_62 ⟨hI165, hF181, by omega, by omega, by omega, by omega, (fun hb => by omega), (fun hb => by omega)⟩
    · clear z49 z48
      exact zt_vret hX hR dX12_qFact_29 ⟨hI42, hF51, by omega, by omega, by omega, by omega, (fun hb => by omega), (fun hb => by omega)⟩
  · have qz16 := z16 (by omega)
    clear z16
    refine zt_aload_n (pc' := 12) hX dX12_qFact_11 rfl rfl ?_
    refine zt_bipush (pc' := 14) hX dX12_qFact_12 rfl (by decide) (by decide) ?_
    refine zt_cVv (pc' := 17) hX dX12_qFact_14 rfl zm_yX12_qCode zw_29_18 zc_164 (by decide) zs_46 (q := (RX12, TX12, 108)) rfl rfl (zc_X12_qCode _ _ s8 hI11 13 ⟨by omega, by omega⟩ (by omega)) rfl rfl (Nat.le_of_ble_eq_true rfl) (by decide) (fun r188 s189 hr190 hp191 => ?_)
    obtain ⟨hI192, hF193, z194⟩ := hp191
    have e195 := hF193 164 2 rfl
    have e196 := hF193 164 3 rfl
    have e197 := hF193 164 5 rfl
    have e198 := hF193 164 101 rfl
    have hF199 := zOn_tr hF30 hF193 zi_52
    have b200 := zv_46_2 hI192 zc_164
    have b201 := zv_46_3 hI192 zc_164
    have b202 := zv_46_5 hI192 zc_164
    have b203 := zv_46_97 hI192 zc_164
    have b204 := zv_46_99 hI192 zc_164
    have b205 := zv_46_101 hI192 zc_164
    have h206e := zcd_e z194 (by omega)
    have h206 := zcd_opT z194 (by omega) (Or.inr (Or.inr rfl)) (by omega) (by omega)
    exact zt_vret hX hR dX12_qFact_17 ⟨hI192, hF199, by omega, by omega, by omega, by omega, (fun hb => by omega), (fun hb => by omega)⟩
