set_option maxRecDepth 100000 in
set_option maxHeartbeats 4000000 in
theorem zc_X12_qSums (l : Launch) (E : zEN) (σ : zSto) (hI : zInv σ) (hpre0 : σ 164 5 = 0) (hpre1 : σ 164 2 ≤ σ 164 3) (hpre2 : σ 164 97 + σ 164 99 ≤ σ 164 2) (hpre3 : zt σ = 1) (hpre4 : zBt σ ≤ zHt σ) : zCt l E yX12_qSums cX12_qSums 3 none 6 zNC zNC 0 0 σ [.ref (E.1 + 164)] (fun r σ' => zInv σ' ∧ zOn zQ2 σ σ' ∧ (σ' 164 2 ≤ σ 164 3) ∧ (σ 164 2 ≤ σ' 164 2) ∧ (σ' 164 101 = σ 164 101) ∧ (σ' 164 97 + σ' 164 99 + σ 164 2 ≤ σ 164 97 + σ 164 99 + σ' 164 2 + 1) ∧ (σ' 164 5 = 0 → σ' 164 97 + σ' 164 99 + σ 164 2 ≤ σ 164 97 + σ 164 99 + σ' 164 2) ∧ (σ' 164 5 = 0 → zt σ' = 1 ∧ σ' 164 99 = σ 164 99 ∧ zHt σ' - zBt σ' = zHt σ - zBt σ + 1 ∧ zBt σ' = zBt σ ∧ zsq σ' = zsq σ ∧ σ 164 2 < σ' 164 2)) := by
  refine zCt_of2 [some (.ref (E.1 + 164)), none, none] (by decide +kernel) (Nat.le_of_ble_eq_true rfl) rfl ?_
  intro X hE hX hR hL hN
  subst hE
  have hX : zok X cX12_qSums RX12 6 := hX
  have hF := zOn_rf zQ2 σ
  have hbn := zBt_nn σ
  have b1 := zv_46_2 hI zc_164
  have b2 := zv_46_3 hI zc_164
  have b3 := zv_46_5 hI zc_164
  have b4 := zv_46_97 hI zc_164
  have b5 := zv_46_99 hI zc_164
  have b6 := zv_46_101 hI zc_164
  refine zt_aload_n (pc' := 1) hX dX12_qSums_0 rfl rfl ?_
  have b7 := zv_46_101 hI zc_164
  refine zt_get (pc' := 4) (v := .int (zI (σ 164 101))) hX dX12_qSums_1 rfl zf_X12_339 (by decide) zc_164 zs_46 rfl ?_
  refine zt_istore_n (pc' := 5) (lv' := [some (.ref (X.1.1 + 164)), some (.int (zI (σ 164 101))), none]) hX dX12_qSums_4 rfl hL (by decide) rfl ?_
  refine zt_aload_n (pc' := 6) hX dX12_qSums_5 rfl rfl ?_
  refine zt_aload_n (pc' := 7) hX dX12_qSums_6 rfl rfl ?_
  have b8 := zv_46_99 hI zc_164
  refine zt_get (pc' := 10) (v := .int (zI (σ 164 99))) hX dX12_qSums_7 rfl zf_X12_333 (by decide) zc_164 zs_46 rfl ?_
  refine zt_put (pc' := 13) (x := (σ 164 99)) hX dX12_qSums_10 rfl zf_X12_339 (by decide) zc_164 zs_46 (fun q hq => by cases hq; rfl) rfl rfl rfl ?_
  generalize hs10 : zset σ 164 101 (σ 164 99) = s9
  have hI11 : zInv s9 := hs10 ▸ zp_46_101 hI zc_164 ⟨by omega, by omega⟩
  have hF12 : zOn zQ2 σ s9 := hs10 ▸ zOn_set hF (by decide)
  have e13 : s9 164 2 = σ 164 2 := by rw [← hs10]; exact zset_j (by decide)
  have e14 : s9 164 3 = σ 164 3 := by rw [← hs10]; exact zset_j (by decide)
  have e15 : s9 164 5 = σ 164 5 := by rw [← hs10]; exact zset_j (by decide)
  have e16 : s9 164 97 = σ 164 97 := by rw [← hs10]; exact zset_j (by decide)
  have e17 : s9 164 99 = σ 164 99 := by rw [← hs10]; exact zset_j (by decide)
  have e18 : s9 164 101 = (σ 164 99) := by rw [← hs10]; exact zset_s
  have h19 := zbase1 hs10 rfl
  refine zt_iconst (pc' := 14) hX dX12_qSums_13 rfl ?_
  refine zt_istore_n (pc' := 15) (lv' := [some (.ref (X.1.1 + 164)), some (.int (zI (σ 164 101))), some (.int (zI 1))]) hX dX12_qSums_14 rfl hL (by decide) rfl ?_
  have L_15_35 : ∀ (N : Nat) (x20 : Int) (s23 : zSto), 0 ≤ x20 → x20 ≤ 1 → zInv s23 → zOn zQ2 σ s23 → (x20 = 1 → s23 164 5 = 0 ∧ zHt s23 - zBt s23 = zHt σ - zBt σ) → (x20 = 0 ∧ s23 164 5 = 0 → zHt s23 - zBt s23 = zHt σ - zBt σ + 1 ∧ ztb s23 = -1 ∧ σ 164 2 < s23 164 2) → (σ 164 2 ≤ s23 164 2 ∧ s23 164 2 ≤ σ 164 3) → s23 164 3 = σ 164 3 → s23 164 101 = σ 164 99 → s23 164 101 ≤ s23 164 99 → s23 164 97 + s23 164 99 + σ 164 2 ≤ σ 164 97 + σ 164 99 + s23 164 2 + 1 → (s23 164 5 = 0 → s23 164 97 + s23 164 99 + σ 164 2 ≤ σ 164 97 + σ 164 99 + s23 164 2) → (s23 164 5 = 0 → zr s23 = 1) → (zBb s23 = zBt σ ∧ zSb s23 = zsq σ) → ((2 * (1601 - s23 164 2) + x20).toNat) < N → zF X s23 15 [some (.ref (X.1.1 + 164)), some (.int (zI (σ 164 101))), some (.int (zI x20))] [] := by
    intro N
    induction N with
    | zero =>
      intro x20 s23 h21 h22 hI24 hF25 g26 g27 g28 g29 g30 g31 g32 g33 g34 g35 hm37
      exact absurd hm37 (Nat.not_lt_zero _)
    | succ N ih38 =>
      intro x20 s23 h21 h22 hI24 hF25 g26 g27 g28 g29 g30 g31 g32 g33 g34 g35 hm37
      have b39 := zv_46_2 hI24 zc_164
      have b40 := zv_46_3 hI24 zc_164
      have b41 := zv_46_5 hI24 zc_164
      have b42 := zv_46_97 hI24 zc_164
      have b43 := zv_46_99 hI24 zc_164
      have b44 := zv_46_101 hI24 zc_164
      refine zt_iload_n (pc' := 16) hX dX12_qSums_15 rfl rfl ?_
      refine zt_ifeq (pc' := 19) (tgt := 53) hX dX12_qSums_16 rfl (by decide) ⟨by omega, by omega⟩ (fun c45 => ?_) (fun c45 => ?_)
      · have L_53_57 : ∀ (N : Nat) (s46 : zSto), zInv s46 → zOn zQ2 σ s46 → (s46 164 5 = 0 → zHt s46 - zBt s46 = zHt σ - zBt σ + 1 ∧ ztb s46 = -1 ∧ σ 164 2 < s46 164 2) → (σ 164 2 ≤ s46 164 2 ∧ s46 164 2 ≤ σ 164 3) → s46 164 3 = σ 164 3 → s46 164 101 = σ 164 99 → s46 164 101 ≤ s46 164 99 → s46 164 97 + s46 164 99 + σ 164 2 ≤ σ 164 97 + σ 164 99 + s46 164 2 + 1 → (s46 164 5 = 0 → s46 164 97 + s46 164 99 + σ 164 2 ≤ σ 164 97 + σ 164 99 + s46 164 2) → (s46 164 5 = 0 → zr s46 = 1) → (zBb s46 = zBt σ ∧ zSb s46 = zsq σ) → ((s46 164 99).toNat) < N → zF X s46 53 [some (.ref (X.1.1 + 164)), some (.int (zI (σ 164 101))), none] [] := by
          intro N
          induction N with
          | zero =>
            intro s46 hI47 hF48 g49 g50 g51 g52 g53 g54 g55 g56 g57 hm59
            exact absurd hm59 (Nat.not_lt_zero _)
          | succ N ih60 =>
            intro s46 hI47 hF48 g49 g50 g51 g52 g53 g54 g55 g56 g57 hm59
            have b61 := zv_46_2 hI47 zc_164
            have b62 := zv_46_3 hI47 zc_164
            have b63 := zv_46_5 hI47 zc_164
            have b64 := zv_46_97 hI47 zc_164
            have b65 := zv_46_99 hI47 zc_164
            have b66 := zv_46_101 hI47 zc_164
            refine zt_aload_n (pc' := 54) hX dX12_qSums_53 rfl rfl ?_
            have b67 := zv_46_5 hI47 zc_164
            refine zt_get (pc' := 57) (v := .int (zI (s46 164 5))) hX dX12_qSums_54 rfl zf_X12_246 (by decide) zc_164 zs_46 rfl ?_
            have J_78_67 : zF X s46 78 [some (.ref (X.1.1 + 164)), some (.int (zI (σ 164 101))), none] [] := by
              refine zt_aload_n (pc' := 79) hX dX12_qSums_78 rfl rfl ?_
              refine zt_iload_n (pc' := 80) hX dX12_qSums_79 rfl rfl ?_
              refine zt_put (pc' := 83) (x := (σ 164 101)) hX dX12_qSums_80 rfl zf_X12_339 (by decide) zc_164 zs_46 (fun q hq => by cases hq; rfl) rfl rfl rfl ?_
              generalize hs70 : zset s46 164 101 (σ 164 101) = s69
              have hI71 : zInv s69 := hs70 ▸ zp_46_101 hI47 zc_164 ⟨by omega, by omega⟩
              have hF72 : zOn zQ2 σ s69 := hs70 ▸ zOn_set hF48 (by decide)
              have e73 : s69 164 2 = s46 164 2 := by rw [← hs70]; exact zset_j (by decide)
              have e74 : s69 164 3 = s46 164 3 := by rw [← hs70]; exact zset_j (by decide)
              have e75 : s69 164 5 = s46 164 5 := by rw [← hs70]; exact zset_j (by decide)
              have e76 : s69 164 97 = s46 164 97 := by rw [← hs70]; exact zset_j (by decide)
              have e77 : s69 164 99 = s46 164 99 := by rw [← hs70]; exact zset_j (by decide)
              have e78 : s69 164 101 = (σ 164 101) := by rw [← hs70]; exact zset_s
              have h79 := fun (h : s46 164 99 = s46 164 101) => zbase2 hs70 h
              exact zt_vret hX hR dX12_qSums_83 ⟨hI71, hF72, by omega, by omega, by omega, by omega, by omega, by omega⟩
            refine zt_ifne (pc' := 60) (tgt := 78) hX dX12_qSums_57 rfl (by decide) ⟨by omega, by omega⟩ (fun c80 => ?_) (fun c80 => ?_)
            · exact J_78_67
            · refine zt_aload_n (pc' := 61) hX dX12_qSums_60 rfl rfl ?_
              have b81 := zv_46_99 hI47 zc_164
              refine zt_get (pc' := 64) (v := .int (zI (s46 164 99))) hX dX12_qSums_61 rfl zf_X12_333 (by decide) zc_164 zs_46 rfl ?_
              refine zt_aload_n (pc' := 65) hX dX12_qSums_64 rfl rfl ?_
              have b82 := zv_46_101 hI47 zc_164
              refine zt_get (pc' := 68) (v := .int (zI (s46 164 101))) hX dX12_qSums_65 rfl zf_X12_339 (by decide) zc_164 zs_46 rfl ?_
              refine zt_icle (pc' := 71) (tgt := 78) hX dX12_qSums_68 rfl (by decide) ⟨by omega, by omega⟩ ⟨by omega, by omega⟩ (fun c83 => ?_) (fun c83 => ?_)
              · exact J_78_67
              · refine zt_aload_n (pc' := 72) hX dX12_qSums_71 rfl rfl ?_
                have h84 := ztb_top (s := s46) rfl (by omega) (by omega)
                have h85n := zBt_nn s46
                refine zt_cVv (pc' := 75) hX dX12_qSums_72 rfl zm_yX12_qDrops zw_31_4 zc_164 (by decide) zs_46 (q := (RX12, TX12, 108)) rfl rfl (zc_X12_qDrops_S _ _ s46 hI47 (by omega) (by omega) (by omega) (by omega) (by omega)) rfl rfl (Nat.le_of_ble_eq_true rfl) (by decide) (fun r86 s87 hr88 hp89 => ?_)
                obtain ⟨hI90, hF91, z92, z93⟩ := hp89
                have e94 := hF91 164 2 rfl
                have e95 := hF91 164 3 rfl
                have e96 := hF91 164 5 rfl
                have e97 := hF91 164 101 rfl
                have hF98 := zOn_tr hF48 hF91 zi_52
                have b99 := zv_46_2 hI90 zc_164
                have b100 := zv_46_3 hI90 zc_164
                have b101 := zv_46_5 hI90 zc_164
                have b102 := zv_46_97 hI90 zc_164
                have b103 := zv_46_99 hI90 zc_164
                have b104 := zv_46_101 hI90 zc_164
                refine zt_goto (tgt := 53) hX dX12_qSums_75 (by decide) ?_
                exact ih60 s87 hI90 hF98 (by omega) (by omega) (by omega) (by omega) (by omega) (by omega) (by omega) (by omega) (by omega) (by omega)
        refine zt_mask [true, true, false] rfl ?_
        exact L_53_57 _ s23 hI24 hF25 (by omega) (by omega) (by omega) (by omega) (by omega) (by omega) (by omega) (by omega) (by omega) (Nat.lt_succ_self _)
      · refine zt_aload_n (pc' := 20) hX dX12_qSums_19 rfl rfl ?_
        have b105 := zv_46_5 hI24 zc_164
        refine zt_get (pc' := 23) (v := .int (zI (s23 164 5))) hX dX12_qSums_20 rfl zf_X12_246 (by decide) zc_164 zs_46 rfl ?_
        refine zt_ifne (pc' := 26) (tgt := 53) hX dX12_qSums_23 rfl (by decide) ⟨by omega, by omega⟩ (fun c106 => ?_) (fun c106 => ?_)
        · have L_53_118 : ∀ (N : Nat) (s107 : zSto), zInv s107 → zOn zQ2 σ s107 → (s107 164 5 = 0 → zHt s107 - zBt s107 = zHt σ - zBt σ + 1 ∧ ztb s107 = -1 ∧ σ 164 2 < s107 164 2) → (σ 164 2 ≤ s107 164 2 ∧ s107 164 2 ≤ σ 164 3) → s107 164 3 = σ 164 3 → s107 164 101 = σ 164 99 → s107 164 101 ≤ s107 164 99 → s107 164 97 + s107 164 99 + σ 164 2 ≤ σ 164 97 + σ 164 99 + s107 164 2 + 1 → (s107 164 5 = 0 → s107 164 97 + s107 164 99 + σ 164 2 ≤ σ 164 97 + σ 164 99 + s107 164 2) → (s107 164 5 = 0 → zr s107 = 1) → (zBb s107 = zBt σ ∧ zSb s107 = zsq σ) → ((s107 164 99).toNat) < N → zF X s107 53 [some (.ref (X.1.1 + 164)), some (.int (zI (σ 164 101))), none] [] := by
            intro N
            induction N with
            | zero =>
              intro s107 hI108 hF109 g110 g111 g112 g113 g114 g115 g116 g117 g118 hm120
              exact absurd hm120 (Nat.not_lt_zero _)
            | succ N ih121 =>
              intro s107 hI108 hF109 g110 g111 g112 g113 g114 g115 g116 g117 g118 hm120
              have b122 := zv_46_2 hI108 zc_164
              have b123 := zv_46_3 hI108 zc_164
              have b124 := zv_46_5 hI108 zc_164
              have b125 := zv_46_97 hI108 zc_164
              have b126 := zv_46_99 hI108 zc_164
              have b127 := zv_46_101 hI108 zc_164
              refine zt_aload_n (pc' := 54) hX dX12_qSums_53 rfl rfl ?_
              have b128 := zv_46_5 hI108 zc_164
              refine zt_get (pc' := 57) (v := .int (zI (s107 164 5))) hX dX12_qSums_54 rfl zf_X12_246 (by decide) zc_164 zs_46 rfl ?_
              have J_78_128 : zF X s107 78 [some (.ref (X.1.1 + 164)), some (.int (zI (σ 164 101))), none] [] := by
                refine zt_aload_n (pc' := 79) hX dX12_qSums_78 rfl rfl ?_
                refine zt_iload_n (pc' := 80) hX dX12_qSums_79 rfl rfl ?_
                refine zt_put (pc' := 83) (x := (σ 164 101)) hX dX12_qSums_80 rfl zf_X12_339 (by decide) zc_164 zs_46 (fun q hq => by cases hq; rfl) rfl rfl rfl ?_
                generalize hs131 : zset s107 164 101 (σ 164 101) = s130
                have hI132 : zInv s130 := hs131 ▸ zp_46_101 hI108 zc_164 ⟨by omega, by omega⟩
                have hF133 : zOn zQ2 σ s130 := hs131 ▸ zOn_set hF109 (by decide)
                have e134 : s130 164 2 = s107 164 2 := by rw [← hs131]; exact zset_j (by decide)
                have e135 : s130 164 3 = s107 164 3 := by rw [← hs131]; exact zset_j (by decide)
                have e136 : s130 164 5 = s107 164 5 := by rw [← hs131]; exact zset_j (by decide)
                have e137 : s130 164 97 = s107 164 97 := by rw [← hs131]; exact zset_j (by decide)
                have e138 : s130 164 99 = s107 164 99 := by rw [← hs131]; exact zset_j (by decide)
                have e139 : s130 164 101 = (σ 164 101) := by rw [← hs131]; exact zset_s
                have h140 := fun (h : s107 164 99 = s107 164 101) => zbase2 hs131 h
                exact zt_vret hX hR dX12_qSums_83 ⟨hI132, hF133, by omega, by omega, by omega, by omega, by omega, by omega⟩
              refine zt_ifne (pc' := 60) (tgt := 78) hX dX12_qSums_57 rfl (by decide) ⟨by omega, by omega⟩ (fun c141 => ?_) (fun c141 => ?_)
              · exact J_78_128
              · refine zt_aload_n (pc' := 61) hX dX12_qSums_60 rfl rfl ?_
                have b142 := zv_46_99 hI108 zc_164
                refine zt_get (pc' := 64) (v := .int (zI (s107 164 99))) hX dX12_qSums_61 rfl zf_X12_333 (by decide) zc_164 zs_46 rfl ?_
                refine zt_aload_n (pc' := 65) hX dX12_qSums_64 rfl rfl ?_
                have b143 := zv_46_101 hI108 zc_164
                refine zt_get (pc' := 68) (v := .int (zI (s107 164 101))) hX dX12_qSums_65 rfl zf_X12_339 (by decide) zc_164 zs_46 rfl ?_
                refine zt_icle (pc' := 71) (tgt := 78) hX dX12_qSums_68 rfl (by decide) ⟨by omega, by omega⟩ ⟨by omega, by omega⟩ (fun c144 => ?_) (fun c144 => ?_)
                · exact J_78_128
                · refine zt_aload_n (pc' := 72) hX dX12_qSums_71 rfl rfl ?_
                  have h145 := ztb_top (s := s107) rfl (by omega) (by omega)
                  have h146n := zBt_nn s107
                  refine zt_cVv (pc' := 75) hX dX12_qSums_72 rfl zm_yX12_qDrops zw_31_4 zc_164 (by decide) zs_46 (q := (RX12, TX12, 108)) rfl rfl (zc_X12_qDrops_S _ _ s107 hI108 (by omega) (by omega) (by omega) (by omega) (by omega)) rfl rfl (Nat.le_of_ble_eq_true rfl) (by decide) (fun r147 s148 hr149 hp150 => ?_)
                  obtain ⟨hI151, hF152, z153, z154⟩ := hp150
                  have e155 := hF152 164 2 rfl
                  have e156 := hF152 164 3 rfl
                  have e157 := hF152 164 5 rfl
                  have e158 := hF152 164 101 rfl
                  have hF159 := zOn_tr hF109 hF152 zi_52
                  have b160 := zv_46_2 hI151 zc_164
                  have b161 := zv_46_3 hI151 zc_164
                  have b162 := zv_46_5 hI151 zc_164
                  have b163 := zv_46_97 hI151 zc_164
                  have b164 := zv_46_99 hI151 zc_164
                  have b165 := zv_46_101 hI151 zc_164
                  refine zt_goto (tgt := 53) hX dX12_qSums_75 (by decide) ?_
                  exact ih121 s148 hI151 hF159 (by omega) (by omega) (by omega) (by omega) (by omega) (by omega) (by omega) (by omega) (by omega) (by omega)
          refine zt_mask [true, true, false] rfl ?_
          exact L_53_118 _ s23 hI24 hF25 (by omega) (by omega) (by omega) (by omega) (by omega) (by omega) (by omega) (by omega) (by omega) (Nat.lt_succ_self _)
        · refine zt_aload_n (pc' := 27) hX dX12_qSums_26 rfl rfl ?_
          refine zt_cVv (pc' := 30) hX dX12_qSums_27 rfl zm_yX12_qPartTold zw_30_2 zc_164 (by decide) zs_46 (q := (RX12, TX12, 108)) rfl rfl (zc_X12_qPartTold _ _ s23 hI24 (by omega) (by omega) (by omega) (by omega) (by omega) (by omega)) rfl rfl (Nat.le_of_ble_eq_true rfl) (by decide) (fun r166 s167 hr168 hp169 => ?_)
          obtain ⟨hI170, hF171, z172, z173, z174, z175, z176, z177, z178, z179⟩ := hp169
          have e180 := hF171 164 3 rfl
          have hF181 := zOn_tr hF25 hF171 zi_id
          have b182 := zv_46_2 hI170 zc_164
          have b183 := zv_46_3 hI170 zc_164
          have b184 := zv_46_5 hI170 zc_164
          have b185 := zv_46_97 hI170 zc_164
          have b186 := zv_46_99 hI170 zc_164
          have b187 := zv_46_101 hI170 zc_164
          refine zt_aload_n (pc' := 31) hX dX12_qSums_30 rfl rfl ?_
          have b188 := zv_46_5 hI170 zc_164
          refine zt_get (pc' := 34) (v := .int (zI (s167 164 5))) hX dX12_qSums_31 rfl zf_X12_246 (by decide) zc_164 zs_46 rfl ?_
          have J_49_206 : ∀ (y189 : Int) (s192 : zSto), 0 ≤ y189 → y189 ≤ 1 → zInv s192 → zOn zQ2 σ s192 → (y189 = 1 → s192 164 5 = 0 ∧ zHt s192 - zBt s192 = zHt σ - zBt σ ∧ s23 164 2 < s192 164 2) → (y189 = 0 ∧ s192 164 5 = 0 → zHt s192 - zBt s192 = zHt σ - zBt σ + 1 ∧ ztb s192 = -1 ∧ σ 164 2 < s192 164 2) → s23 164 2 ≤ s192 164 2 → (0 ≤ y189 ∧ y189 ≤ 1) → (σ 164 2 ≤ s192 164 2 ∧ s192 164 2 ≤ σ 164 3) → s192 164 3 = σ 164 3 → s192 164 101 = σ 164 99 → s192 164 101 ≤ s192 164 99 → s192 164 97 + s192 164 99 + σ 164 2 ≤ σ 164 97 + σ 164 99 + s192 164 2 + 1 → (s192 164 5 = 0 → s192 164 97 + s192 164 99 + σ 164 2 ≤ σ 164 97 + σ 164 99 + s192 164 2) → (s192 164 5 = 0 → zr s192 = 1) → (zBb s192 = zBt σ ∧ zSb s192 = zsq σ) → zF X s192 49 [some (.ref (X.1.1 + 164)), some (.int (zI (σ 164 101))), none] [.int (zI y189)] := by
            intro y189 s192 h190 h191 hI193 hF194 g195 g196 g197 g198 g199 g200 g201 g202 g203 g204 g205 g206
            have b208 := zv_46_2 hI193 zc_164
            have b209 := zv_46_3 hI193 zc_164
            have b210 := zv_46_5 hI193 zc_164
            have b211 := zv_46_97 hI193 zc_164
            have b212 := zv_46_99 hI193 zc_164
            have b213 := zv_46_101 hI193 zc_164
            refine zt_istore_n (pc' := 50) (lv' := [some (.ref (X.1.1 + 164)), some (.int (zI (σ 164 101))), some (.int (zI y189))]) hX dX12_qSums_49 rfl hL (by decide) rfl ?_
            refine zt_goto (tgt := 15) hX dX12_qSums_50 (by decide) ?_
            exact ih38 y189 s192 (by omega) (by omega) hI193 hF194 (by omega) (by omega) (by omega) (by omega) (by omega) (by omega) (by omega) (by omega) (by omega) (by omega) (by omega)
          have J_48_226 : ∀ (s214 : zSto), zInv s214 → zOn zQ2 σ s214 → (s214 164 5 = 0 → zHt s214 - zBt s214 = zHt σ - zBt σ + 1 ∧ ztb s214 = -1 ∧ σ 164 2 < s214 164 2) → s23 164 2 ≤ s214 164 2 → (σ 164 2 ≤ s214 164 2 ∧ s214 164 2 ≤ σ 164 3) → s214 164 3 = σ 164 3 → s214 164 101 = σ 164 99 → s214 164 101 ≤ s214 164 99 → s214 164 97 + s214 164 99 + σ 164 2 ≤ σ 164 97 + σ 164 99 + s214 164 2 + 1 → (s214 164 5 = 0 → s214 164 97 + s214 164 99 + σ 164 2 ≤ σ 164 97 + σ 164 99 + s214 164 2) → (s214 164 5 = 0 → zr s214 = 1) → (zBb s214 = zBt σ ∧ zSb s214 = zsq σ) → zF X s214 48 [some (.ref (X.1.1 + 164)), some (.int (zI (σ 164 101))), none] [] := by
            intro s214 hI215 hF216 g217 g218 g219 g220 g221 g222 g223 g224 g225 g226
            have b228 := zv_46_2 hI215 zc_164
            have b229 := zv_46_3 hI215 zc_164
            have b230 := zv_46_5 hI215 zc_164
            have b231 := zv_46_97 hI215 zc_164
            have b232 := zv_46_99 hI215 zc_164
            have b233 := zv_46_101 hI215 zc_164
            refine zt_iconst (pc' := 49) hX dX12_qSums_48 rfl ?_
            exact J_49_206 0 s214 (by omega) (by omega) hI215 hF216 (by omega) (by omega) (by omega) (by omega) (by omega) (by omega) (by omega) (by omega) (by omega) (by omega) (by omega) (by omega)
          refine zt_ifne (pc' := 37) (tgt := 48) hX dX12_qSums_34 rfl (by decide) ⟨by omega, by omega⟩ (fun c234 => ?_) (fun c234 => ?_)
          · refine zt_mask [true, true, false] rfl ?_
            exact J_48_226 s167 hI170 hF181 (by omega) (by omega) (by omega) (by omega) (by omega) (by omega) (by omega) (by omega) (by omega) (by omega)
          · refine zt_aload_n (pc' := 38) hX dX12_qSums_37 rfl rfl ?_
            refine zt_cVz (pc' := 41) hX dX12_qSums_38 rfl zm_yX12_qGoesOn zw_31_8 zc_164 (by decide) zs_46 (q := (RX12, TX12, 108)) rfl rfl (zc_X12_qGoesOn _ _ s167 hI170 (by omega) (by omega) (by omega) (by omega) (by omega) (by omega)) rfl rfl (Nat.le_of_ble_eq_true rfl) (by decide) (fun r235 s236 hr237 hp238 => ?_)
            obtain ⟨hI239, hF240, q241, q242, z243, z244, z245, z246, z247, z248, z249, z250, z251⟩ := hp238
            have e252 := hF240 164 3 rfl
            have hF253 := zOn_tr hF181 hF240 zi_id
            have b254 := zv_46_2 hI239 zc_164
            have b255 := zv_46_3 hI239 zc_164
            have b256 := zv_46_5 hI239 zc_164
            have b257 := zv_46_97 hI239 zc_164
            have b258 := zv_46_99 hI239 zc_164
            have b259 := zv_46_101 hI239 zc_164
            refine zt_ifeq (pc' := 44) (tgt := 48) hX dX12_qSums_41 rfl (by decide) ⟨by omega, by omega⟩ (fun c260 => ?_) (fun c260 => ?_)
            · refine zt_mask [true, true, false] rfl ?_
              exact J_48_226 s236 hI239 hF253 (by omega) (by omega) (by omega) (by omega) (by omega) (by omega) (by omega) (by omega) (by omega) (by omega)
            · refine zt_iconst (pc' := 45) hX dX12_qSums_44 rfl ?_
              refine zt_goto (tgt := 49) hX dX12_qSums_45 (by decide) ?_
              refine zt_mask [true, true, false] rfl ?_
              exact J_49_206 1 s236 (by omega) (by omega) hI239 hF253 (by omega) (by omega) (by omega) (by omega) (by omega) (by omega) (by omega) (by omega) (by omega) (by omega) (by omega) (by omega)
  exact L_15_35 _ 1 s9 (by omega) (by omega) hI11 hF12 (by omega) (by omega) (by omega) (by omega) (by omega) (by omega) (by omega) (by omega) (by omega) (by omega) (Nat.lt_succ_self _)

set_option maxRecDepth 100000 in
set_option maxHeartbeats 4000000 in
theorem zc_X12_qFact (l : Launch) (E : zEN) (σ : zSto) (hI : zInv σ) (hpre0 : σ 164 5 = 0) (hpre1 : σ 164 2 ≤ σ 164 3) (hpre2 : σ 164 97 + σ 164 99 ≤ σ 164 2) (hpre3 : zt σ = 1) (hpre4 : zBt σ ≤ zHt σ) : zCt l E yX12_qFact cX12_qFact 2 none 7 zNC zNC 0 0 σ [.ref (E.1 + 164)] (fun r σ' => zInv σ' ∧ zOn zQ2 σ σ' ∧ (σ' 164 2 ≤ σ 164 3) ∧ (σ 164 2 ≤ σ' 164 2) ∧ (σ' 164 101 = σ 164 101) ∧ (σ' 164 97 + σ' 164 99 + σ 164 2 ≤ σ 164 97 + σ 164 99 + σ' 164 2 + 1) ∧ (σ' 164 5 = 0 → σ' 164 97 + σ' 164 99 + σ 164 2 ≤ σ 164 97 + σ 164 99 + σ' 164 2) ∧ (σ' 164 5 = 0 → zt σ' = 1 ∧ σ' 164 99 = σ 164 99 ∧ zHt σ' - zBt σ' = zHt σ - zBt σ + 1 ∧ zBt σ' = zBt σ ∧ zsq σ' = zsq σ ∧ σ 164 2 < σ' 164 2)) := by
  refine zCt_of2 [some (.ref (E.1 + 164)), none] (by decide +kernel) (Nat.le_of_ble_eq_true rfl) rfl ?_
  intro X hE hX hR hL hN
  subst hE
  have hX : zok X cX12_qFact RX12 7 := hX
  have hF := zOn_rf zQ2 σ
  have hbn := zBt_nn σ
  have b1 := zv_46_2 hI zc_164
  have b2 := zv_46_3 hI zc_164
  have b3 := zv_46_5 hI zc_164
  have b4 := zv_46_97 hI zc_164
  have b5 := zv_46_99 hI zc_164
  have b6 := zv_46_101 hI zc_164
  refine zt_aload_n (pc' := 1) hX dX12_qFact_0 rfl rfl ?_
  refine zt_aload_n (pc' := 2) hX dX12_qFact_1 rfl rfl ?_
  refine zt_get (pc' := 5) (v := .ref (X.1.1 + 220)) hX dX12_qFact_2 rfl zf_X12_189 (by decide) zc_164 zs_46 (zrf_of (zv_46_82 hI zc_164)) ?_
  refine zt_cVz (pc' := 8) hX dX12_qFact_5 rfl zm_yX12_takes zw_26_4 zc_164 (by decide) zs_46 (q := (RX12, TX12, 108)) rfl rfl (zc_X12_takes _ _ σ hI 220 102 3 zc_220 (by decide) zs_102 (by decide)) rfl rfl (Nat.le_of_ble_eq_true rfl) (by decide) (fun r7 s8 hr9 hp10 => ?_)
  obtain ⟨hI11, hF12, q13, q14, z15, z16, z17⟩ := hp10
  obtain ⟨-, w19, w20, w21, -, -, w24, -⟩ := zE_q1 hF12
  have e26 := hF12 164 3 rfl
  have e27 := hF12 164 97 rfl
  have e28 := hF12 164 99 rfl
  have e29 := hF12 164 101 rfl
  have hF30 := zOn_tr hF hF12 zi_12
  have b31 := zv_46_2 hI11 zc_164
  have b32 := zv_46_3 hI11 zc_164
  have b33 := zv_46_5 hI11 zc_164
  have b34 := zv_46_97 hI11 zc_164
  have b35 := zv_46_99 hI11 zc_164
  have b36 := zv_46_101 hI11 zc_164
  refine zt_ifeq (pc' := 11) (tgt := 18) hX dX12_qFact_8 rfl (by decide) ⟨by omega, by omega⟩ (fun c37 => ?_) (fun c37 => ?_)
  · refine zt_aload_n (pc' := 19) hX dX12_qFact_18 rfl rfl ?_
    refine zt_cVv (pc' := 22) hX dX12_qFact_19 rfl zm_yX12_qSums zw_29_22 zc_164 (by decide) zs_46 (q := (RX12, TX12, 108)) rfl rfl (zc_X12_qSums _ _ s8 hI11 (by omega) (by omega) (by omega) (by omega) (by omega)) rfl rfl (Nat.le_of_ble_eq_true rfl) (by decide) (fun r38 s39 hr40 hp41 => ?_)
    obtain ⟨hI42, hF43, z44, z45, z46, z47, z48, z49⟩ := hp41
    have e50 := hF43 164 3 rfl
    have hF51 := zOn_tr hF30 hF43 zi_id
    have b52 := zv_46_2 hI42 zc_164
    have b53 := zv_46_3 hI42 zc_164
    have b54 := zv_46_5 hI42 zc_164
    have b55 := zv_46_97 hI42 zc_164
    have b56 := zv_46_99 hI42 zc_164
    have b57 := zv_46_101 hI42 zc_164
    refine zt_aload_n (pc' := 23) hX dX12_qFact_22 rfl rfl ?_
    have b58 := zv_46_5 hI42 zc_164
    refine zt_get (pc' := 26) (v := .int (zI (s39 164 5))) hX dX12_qFact_23 rfl zf_X12_246 (by decide) zc_164 zs_46 rfl ?_
    refine zt_ifeq (pc' := 29) (tgt := 30) hX dX12_qFact_26 rfl (by decide) ⟨by omega, by omega⟩ (fun c59 => ?_) (fun c59 => ?_)
    · refine zt_aload_n (pc' := 31) hX dX12_qFact_30 rfl rfl ?_
      refine zt_cVi (pc' := 34) hX dX12_qFact_31 rfl zm_yX12_look zw_26_12 zc_164 (by decide) zs_46 (q := (RX12, TX12, 108)) rfl rfl (zc_X12_look _ _ s39 hI42 ) rfl rfl (Nat.le_of_ble_eq_true rfl) (by decide) (fun r60 s61 hr62 hp63 => ?_)
      obtain ⟨hI64, hF65, q66, q67, z68, z69, z70⟩ := hp63
      obtain ⟨-, w72, w73, w74, -, -, w77, -⟩ := zE_q1 hF65
      have e79 := hF65 164 3 rfl
      have e80 := hF65 164 97 rfl
      have e81 := hF65 164 99 rfl
      have e82 := hF65 164 101 rfl
      have hF83 := zOn_tr hF51 hF65 zi_12
      have b84 := zv_46_2 hI64 zc_164
      have b85 := zv_46_3 hI64 zc_164
      have b86 := zv_46_5 hI64 zc_164
      have b87 := zv_46_97 hI64 zc_164
      have b88 := zv_46_99 hI64 zc_164
      have b89 := zv_46_101 hI64 zc_164
      refine zt_istore_n (pc' := 35) (lv' := [some (.ref (X.1.1 + 164)), some (.int (zI r60))]) hX dX12_qFact_34 rfl hL (by decide) rfl ?_
      refine zt_iload_n (pc' := 36) hX dX12_qFact_35 rfl rfl ?_
      refine zt_bipush (pc' := 38) hX dX12_qFact_36 rfl (by decide) (by decide) ?_
      have J_63_89 : zF X s61 63 [some (.ref (X.1.1 + 164)), some (.int (zI r60))] [] := by
        refine zt_aload_n (pc' := 64) hX dX12_qFact_63 rfl rfl ?_
        refine zt_dup (pc' := 65) hX dX12_qFact_64 rfl rfl ?_
        have b91 := zv_46_2 hI64 zc_164
        refine zt_get (pc' := 68) (v := .int (zI (s61 164 2))) hX dX12_qFact_65 rfl zf_X12_252 (by decide) zc_164 zs_46 rfl ?_
        refine zt_iconst (pc' := 69) hX dX12_qFact_68 rfl ?_
        refine zt_iadd (pc' := 70) hX dX12_qFact_69 rfl ?_
        refine zt_put (pc' := 73) (x := ((s61 164 2) + 1)) hX dX12_qFact_70 rfl zf_X12_252 (by decide) zc_164 zs_46 (fun q hq => by cases hq; rfl) rfl rfl rfl ?_
        generalize hs93 : zset s61 164 2 ((s61 164 2) + 1) = s92
        have hI94 : zInv s92 := hs93 ▸ zp_46_2 hI64 zc_164 ⟨by omega, by omega⟩
        have hF95 : zOn zQ2 σ s92 := hs93 ▸ zOn_set hF83 (by decide)
        obtain ⟨-, w97, w98, w99, -, -, w102, -⟩ := zE_set hs93 (by decide)
        have e104 : s92 164 2 = ((s61 164 2) + 1) := by rw [← hs93]; exact zset_s
        have e105 : s92 164 3 = s61 164 3 := by rw [← hs93]; exact zset_j (by decide)
        have e106 : s92 164 5 = s61 164 5 := by rw [← hs93]; exact zset_j (by decide)
        have e107 : s92 164 97 = s61 164 97 := by rw [← hs93]; exact zset_j (by decide)
        have e108 : s92 164 99 = s61 164 99 := by rw [← hs93]; exact zset_j (by decide)
        have e109 : s92 164 101 = s61 164 101 := by rw [← hs93]; exact zset_j (by decide)
        refine zt_aload_n (pc' := 74) hX dX12_qFact_73 rfl rfl ?_
        refine zt_cVv (pc' := 77) hX dX12_qFact_74 rfl zm_yX12_qSums zw_29_22 zc_164 (by decide) zs_46 (q := (RX12, TX12, 108)) rfl rfl (zc_X12_qSums _ _ s92 hI94 (by omega) (by omega) (by omega) (by omega) (by omega)) rfl rfl (Nat.le_of_ble_eq_true rfl) (by decide) (fun r110 s111 hr112 hp113 => ?_)
        obtain ⟨hI114, hF115, z116, z117, z118, z119, z120, z121⟩ := hp113
        have e122 := hF115 164 3 rfl
        have hF123 := zOn_tr hF95 hF115 zi_id
        have b124 := zv_46_2 hI114 zc_164
        have b125 := zv_46_3 hI114 zc_164
        have b126 := zv_46_5 hI114 zc_164
        have b127 := zv_46_97 hI114 zc_164
        have b128 := zv_46_99 hI114 zc_164
        have b129 := zv_46_101 hI114 zc_164
        refine zt_aload_n (pc' := 78) hX dX12_qFact_77 rfl rfl ?_
        refine zt_iload_n (pc' := 79) hX dX12_qFact_78 rfl rfl ?_
        refine zt_bipush (pc' := 81) hX dX12_qFact_79 rfl (by decide) (by decide) ?_
        have J_102_132 : ∀ (y130 : Int), 7 ≤ y130 → y130 ≤ 9 → zF X s111 102 [none, none] [.int (zI y130), .ref (X.1.1 + 164)] := by
          intro y130 h131 h132
          refine zt_cVv (pc' := 105) hX dX12_qFact_102 rfl zm_yX12_qCode zw_29_18 zc_164 (by decide) zs_46 (q := (RX12, TX12, 108)) rfl rfl (zc_X12_qCode _ _ s111 hI114 y130 ⟨by omega, by omega⟩ (by omega)) rfl rfl (Nat.le_of_ble_eq_true rfl) (by decide) (fun r134 s135 hr136 hp137 => ?_)
          obtain ⟨hI138, hF139, z140⟩ := hp137
          have e141 := hF139 164 2 rfl
          have e142 := hF139 164 3 rfl
          have e143 := hF139 164 5 rfl
          have e144 := hF139 164 101 rfl
          have hF145 := zOn_tr hF123 hF139 zi_52
          have b146 := zv_46_2 hI138 zc_164
          have b147 := zv_46_3 hI138 zc_164
          have b148 := zv_46_5 hI138 zc_164
          have b149 := zv_46_97 hI138 zc_164
          have b150 := zv_46_99 hI138 zc_164
          have b151 := zv_46_101 hI138 zc_164
          have h152 := zcd_h z140 (by omega)
          have h153r := zcd_ti z140 (by omega)
          have h154f := zcd_f z140
          have h155d := zdb (v := y130) (by omega)
          exact zt_vret hX hR dX12_qFact_105 ⟨hI138, hF145, by omega, by omega, by omega, by omega, by omega, by omega⟩
        refine zt_icne (pc' := 84) (tgt := 89) hX dX12_qFact_81 rfl (by decide) ⟨by omega, by omega⟩ ⟨by omega, by omega⟩ (fun c156 => ?_) (fun c156 => ?_)
        · refine zt_iload_n (pc' := 90) hX dX12_qFact_89 rfl rfl ?_
          refine zt_bipush (pc' := 92) hX dX12_qFact_90 rfl (by decide) (by decide) ?_
          refine zt_icne (pc' := 95) (tgt := 100) hX dX12_qFact_92 rfl (by decide) ⟨by omega, by omega⟩ ⟨by omega, by omega⟩ (fun c157 => ?_) (fun c157 => ?_)
          · refine zt_bipush (pc' := 102) hX dX12_qFact_100 rfl (by decide) (by decide) ?_
            refine zt_mask [false, false] rfl ?_
            exact J_102_132 9 (by omega) (by omega)
          · refine zt_bipush (pc' := 97) hX dX12_qFact_95 rfl (by decide) (by decide) ?_
            refine zt_goto (tgt := 102) hX dX12_qFact_97 (by decide) ?_
            refine zt_mask [false, false] rfl ?_
            exact J_102_132 8 (by omega) (by omega)
        · refine zt_bipush (pc' := 86) hX dX12_qFact_84 rfl (by decide) (by decide) ?_
          refine zt_goto (tgt := 102) hX dX12_qFact_86 (by decide) ?_
          refine zt_mask [false, false] rfl ?_
          exact J_102_132 7 (by omega) (by omega)
      refine zt_iceq (pc' := 41) (tgt := 63) hX dX12_qFact_38 rfl (by decide) ⟨by omega, by omega⟩ ⟨by omega, by omega⟩ (fun c158 => ?_) (fun c158 => ?_)
      · exact J_63_89
      · refine zt_iload_n (pc' := 42) hX dX12_qFact_41 rfl rfl ?_
        refine zt_bipush (pc' := 44) hX dX12_qFact_42 rfl (by decide) (by decide) ?_
        refine zt_iceq (pc' := 47) (tgt := 63) hX dX12_qFact_44 rfl (by decide) ⟨by omega, by omega⟩ ⟨by omega, by omega⟩ (fun c159 => ?_) (fun c159 => ?_)
        · exact J_63_89
        · refine zt_iload_n (pc' := 48) hX dX12_qFact_47 rfl rfl ?_
          refine zt_bipush (pc' := 50) hX dX12_qFact_48 rfl (by decide) (by decide) ?_
          refine zt_iceq (pc' := 53) (tgt := 63) hX dX12_qFact_50 rfl (by decide) ⟨by omega, by omega⟩ ⟨by omega, by omega⟩ (fun c160 => ?_) (fun c160 => ?_)
          · exact J_63_89
          · refine zt_aload_n (pc' := 54) hX dX12_qFact_53 rfl rfl ?_
            refine zt_iconst (pc' := 55) hX dX12_qFact_54 rfl ?_
            refine zt_aload_n (pc' := 56) hX dX12_qFact_55 rfl rfl ?_
            have b161 := zv_46_2 hI64 zc_164
            refine zt_get (pc' := 59) (v := .int (zI (s61 164 2))) hX dX12_qFact_56 rfl zf_X12_252 (by decide) zc_164 zs_46 rfl ?_
            refine zt_cVv (pc' := 62) hX dX12_qFact_59 rfl zm_yX12_fail zw_26_19 zc_164 (by decide) zs_46 (q := (RX12, TX12, 108)) rfl rfl (zc_X12_fail _ _ s61 hI64 1 ⟨by omega, by omega⟩ (s61 164 2) ⟨by omega, by omega⟩) rfl rfl (Nat.le_of_ble_eq_true rfl) (by decide) (fun r162 s163 hr164 hp165 => ?_)
            obtain ⟨hI166, hF167, z168, z169⟩ := hp165
            obtain ⟨-, w171, w172, w173, -, -, w176, -⟩ := zE_q1 hF167
            have e178 := hF167 164 3 rfl
            have e179 := hF167 164 97 rfl
            have e180 := hF167 164 99 rfl
            have e181 := hF167 164 101 rfl
            have hF182 := zOn_tr hF83 hF167 zi_12
            have b183 := zv_46_2 hI166 zc_164
            have b184 := zv_46_3 hI166 zc_164
            have b185 := zv_46_5 hI166 zc_164
            have b186 := zv_46_97 hI166 zc_164
            have b187 := zv_46_99 hI166 zc_164
            have b188 := zv_46_101 hI166 zc_164
            exact zt_vret hX hR dX12_qFact_62 ⟨hI166, hF182, by omega, by omega, by omega, by omega, by omega, by omega⟩
    · exact zt_vret hX hR dX12_qFact_29 ⟨hI42, hF51, by omega, by omega, by omega, by omega, by omega, by omega⟩
  · refine zt_aload_n (pc' := 12) hX dX12_qFact_11 rfl rfl ?_
    refine zt_bipush (pc' := 14) hX dX12_qFact_12 rfl (by decide) (by decide) ?_
    refine zt_cVv (pc' := 17) hX dX12_qFact_14 rfl zm_yX12_qCode zw_29_18 zc_164 (by decide) zs_46 (q := (RX12, TX12, 108)) rfl rfl (zc_X12_qCode _ _ s8 hI11 13 ⟨by omega, by omega⟩ (by omega)) rfl rfl (Nat.le_of_ble_eq_true rfl) (by decide) (fun r189 s190 hr191 hp192 => ?_)
    obtain ⟨hI193, hF194, z195⟩ := hp192
    have e196 := hF194 164 2 rfl
    have e197 := hF194 164 3 rfl
    have e198 := hF194 164 5 rfl
    have e199 := hF194 164 101 rfl
    have hF200 := zOn_tr hF30 hF194 zi_52
    have b201 := zv_46_2 hI193 zc_164
    have b202 := zv_46_3 hI193 zc_164
    have b203 := zv_46_5 hI193 zc_164
    have b204 := zv_46_97 hI193 zc_164
    have b205 := zv_46_99 hI193 zc_164
    have b206 := zv_46_101 hI193 zc_164
    have h207 := zcd_h z195 (by omega)
    have h208r := zcd_ti z195 (by omega)
    have h209f := zcd_f z195
    have h210d := zdo (v := 13) (by omega)
    exact zt_vret hX hR dX12_qFact_17 ⟨hI193, hF200, by omega, by omega, by omega, by omega, by omega, by omega⟩

set_option maxRecDepth 100000 in
set_option maxHeartbeats 4000000 in
theorem zc_X12_qGoesOnTest (l : Launch) (E : zEN) (σ : zSto) (hI : zInv σ) (hpre0 : σ 164 5 = 0) (hpre1 : σ 164 2 ≤ σ 164 3) (hpre2 : σ 164 97 + σ 164 99 ≤ σ 164 2) (hpre3 : zt σ = 1) (hpre4 : zBt σ + 1 ≤ zHt σ) : zCt l E yX12_qGoesOnTest cX12_qGoesOnTest 1 (some .boolean) 3 zNC zNC 0 0 σ [.ref (E.1 + 164)] (fun r σ' => zInv σ' ∧ zOn zQ2 σ σ' ∧ 0 ≤ r ∧ r ≤ 1 ∧ (σ' 164 2 ≤ σ 164 3) ∧ (σ 164 2 ≤ σ' 164 2) ∧ (σ' 164 101 = σ 164 101) ∧ (σ' 164 97 + σ' 164 99 + σ 164 2 ≤ σ 164 97 + σ 164 99 + σ' 164 2) ∧ (r = 1 → σ' 164 5 = 0) ∧ (σ' 164 5 = 0 → zt σ' = 1 ∧ zHt σ' - zBt σ' + r = zHt σ - zBt σ) ∧ (r = 0 ∧ σ' 164 5 = 0 → zsq σ' = 0)) := by
  refine zCt_of2 [some (.ref (E.1 + 164))] (by decide +kernel) (Nat.le_of_ble_eq_true rfl) rfl ?_
  intro X hE hX hR hL hN
  subst hE
  have hX : zok X cX12_qGoesOnTest RX12 3 := hX
  have hF := zOn_rf zQ2 σ
  have b1 := zv_46_2 hI zc_164
  have b2 := zv_46_3 hI zc_164
  have b3 := zv_46_5 hI zc_164
  have b4 := zv_46_97 hI zc_164
  have b5 := zv_46_99 hI zc_164
  have b6 := zv_46_101 hI zc_164
  have L_0_15 : ∀ (N : Nat) (s7 : zSto), zInv s7 → zOn zQ2 σ s7 → (σ 164 2 ≤ s7 164 2 ∧ s7 164 2 ≤ σ 164 3) → s7 164 3 = σ 164 3 → s7 164 101 = σ 164 101 → s7 164 5 = 0 → s7 164 97 + s7 164 99 + σ 164 2 ≤ σ 164 97 + σ 164 99 + s7 164 2 → (zt s7 = 1 ∧ zHt s7 - zBt s7 = zHt σ - zBt σ) → ((1601 - s7 164 2).toNat) < N → zF X s7 0 [some (.ref (X.1.1 + 164))] [] := by
    intro N
    induction N with
    | zero =>
      intro s7 hI8 hF9 g10 g11 g12 g13 g14 g15 hm17
      exact absurd hm17 (Nat.not_lt_zero _)
    | succ N ih18 =>
      intro s7 hI8 hF9 g10 g11 g12 g13 g14 g15 hm17
      have b19 := zv_46_2 hI8 zc_164
      have b20 := zv_46_3 hI8 zc_164
      have b21 := zv_46_5 hI8 zc_164
      have b22 := zv_46_97 hI8 zc_164
      have b23 := zv_46_99 hI8 zc_164
      have b24 := zv_46_101 hI8 zc_164
      refine zt_aload_n (pc' := 1) hX dX12_qGoesOnTest_0 rfl rfl ?_
      have b25 := zv_46_5 hI8 zc_164
      refine zt_get (pc' := 4) (v := .int (zI (s7 164 5))) hX dX12_qGoesOnTest_1 rfl zf_X12_246 (by decide) zc_164 zs_46 rfl ?_
      have J_76_34 : ∀ (s26 : zSto), zInv s26 → zOn zQ2 σ s26 → (σ 164 2 ≤ s26 164 2 ∧ s26 164 2 ≤ σ 164 3) → s26 164 3 = σ 164 3 → s26 164 101 = σ 164 101 → s26 164 5 = 0 → s26 164 97 + s26 164 99 + σ 164 2 ≤ σ 164 97 + σ 164 99 + s26 164 2 → (zt s26 = 1 ∧ zHt s26 - zBt s26 = zHt σ - zBt σ) → zF X s26 76 [some (.ref (X.1.1 + 164))] [] := by
        intro s26 hI27 hF28 g29 g30 g31 g32 g33 g34
        have b36 := zv_46_2 hI27 zc_164
        have b37 := zv_46_3 hI27 zc_164
        have b38 := zv_46_5 hI27 zc_164
        have b39 := zv_46_97 hI27 zc_164
        have b40 := zv_46_99 hI27 zc_164
        have b41 := zv_46_101 hI27 zc_164
        refine zt_aload_n (pc' := 77) hX dX12_qGoesOnTest_76 rfl rfl ?_
        refine zt_aload_n (pc' := 78) hX dX12_qGoesOnTest_77 rfl rfl ?_
        refine zt_get (pc' := 81) (v := .ref (X.1.1 + 218)) hX dX12_qGoesOnTest_78 rfl zf_X12_183 (by decide) zc_164 zs_46 (zrf_of (zv_46_80 hI27 zc_164)) ?_
        refine zt_cVz (pc' := 84) hX dX12_qGoesOnTest_81 rfl zm_yX12_takes zw_26_4 zc_164 (by decide) zs_46 (q := (RX12, TX12, 108)) rfl rfl (zc_X12_takes _ _ s26 hI27 218 100 3 zc_218 (by decide) zs_100 (by decide)) rfl rfl (Nat.le_of_ble_eq_true rfl) (by decide) (fun r42 s43 hr44 hp45 => ?_)
        obtain ⟨hI46, hF47, q48, q49, z50, z51, z52⟩ := hp45
        obtain ⟨-, w54, w55, w56, -, -, w59, -⟩ := zE_q1 hF47
        have e61 := hF47 164 3 rfl
        have e62 := hF47 164 97 rfl
        have e63 := hF47 164 99 rfl
        have e64 := hF47 164 101 rfl
        have hF65 := zOn_tr hF28 hF47 zi_12
        have b66 := zv_46_2 hI46 zc_164
        have b67 := zv_46_3 hI46 zc_164
        have b68 := zv_46_5 hI46 zc_164
        have b69 := zv_46_97 hI46 zc_164
        have b70 := zv_46_99 hI46 zc_164
        have b71 := zv_46_101 hI46 zc_164
        refine zt_ifeq (pc' := 87) (tgt := 126) hX dX12_qGoesOnTest_84 rfl (by decide) ⟨by omega, by omega⟩ (fun c72 => ?_) (fun c72 => ?_)
        · refine zt_aload_n (pc' := 127) hX dX12_qGoesOnTest_126 rfl rfl ?_
          refine zt_aload_n (pc' := 128) hX dX12_qGoesOnTest_127 rfl rfl ?_
          refine zt_get (pc' := 131) (v := .ref (X.1.1 + 219)) hX dX12_qGoesOnTest_128 rfl zf_X12_186 (by decide) zc_164 zs_46 (zrf_of (zv_46_81 hI46 zc_164)) ?_
          refine zt_cVz (pc' := 134) hX dX12_qGoesOnTest_131 rfl zm_yX12_takes zw_26_4 zc_164 (by decide) zs_46 (q := (RX12, TX12, 108)) rfl rfl (zc_X12_takes _ _ s43 hI46 219 101 2 zc_219 (by decide) zs_101 (by decide)) rfl rfl (Nat.le_of_ble_eq_true rfl) (by decide) (fun r73 s74 hr75 hp76 => ?_)
          obtain ⟨hI77, hF78, q79, q80, z81, z82, z83⟩ := hp76
          obtain ⟨-, w85, w86, w87, -, -, w90, -⟩ := zE_q1 hF78
          have e92 := hF78 164 3 rfl
          have e93 := hF78 164 97 rfl
          have e94 := hF78 164 99 rfl
          have e95 := hF78 164 101 rfl
          have hF96 := zOn_tr hF65 hF78 zi_12
          have b97 := zv_46_2 hI77 zc_164
          have b98 := zv_46_3 hI77 zc_164
          have b99 := zv_46_5 hI77 zc_164
          have b100 := zv_46_97 hI77 zc_164
          have b101 := zv_46_99 hI77 zc_164
          have b102 := zv_46_101 hI77 zc_164
          refine zt_ifeq (pc' := 137) (tgt := 185) hX dX12_qGoesOnTest_134 rfl (by decide) ⟨by omega, by omega⟩ (fun c103 => ?_) (fun c103 => ?_)
          · refine zt_aload_n (pc' := 186) hX dX12_qGoesOnTest_185 rfl rfl ?_
            have b104 := zv_46_5 hI77 zc_164
            refine zt_get (pc' := 189) (v := .int (zI (s74 164 5))) hX dX12_qGoesOnTest_186 rfl zf_X12_246 (by decide) zc_164 zs_46 rfl ?_
            refine zt_ifne (pc' := 192) (tgt := 208) hX dX12_qGoesOnTest_189 rfl (by decide) ⟨by omega, by omega⟩ (fun c105 => ?_) (fun c105 => ?_)
            · refine zt_iconst (pc' := 209) hX dX12_qGoesOnTest_208 rfl ?_
              exact zt_zret hX hR dX12_qGoesOnTest_209 ⟨by omega, by omega⟩ ⟨hI77, hF96, by omega, by omega, by omega, by omega, by omega, by omega, by omega, by omega, by omega⟩
            · refine zt_aload_n (pc' := 193) hX dX12_qGoesOnTest_192 rfl rfl ?_
              refine zt_cVz (pc' := 196) hX dX12_qGoesOnTest_193 rfl zm_yX12_qHasSquare zw_32_11 zc_164 (by decide) zs_46 (q := (RX12, TX12, 108)) rfl rfl (zc_X12_qHasSquare _ _ s74 hI77 ) rfl rfl (Nat.le_of_ble_eq_true rfl) (by decide) (fun r106 s107 hr108 hp109 => ?_)
              obtain ⟨rfl, q110, q111, z112⟩ := hp109
              refine zt_ifeq (pc' := 199) (tgt := 208) hX dX12_qGoesOnTest_196 rfl (by decide) ⟨by omega, by omega⟩ (fun c113 => ?_) (fun c113 => ?_)
              · refine zt_iconst (pc' := 209) hX dX12_qGoesOnTest_208 rfl ?_
                exact zt_zret hX hR dX12_qGoesOnTest_209 ⟨by omega, by omega⟩ ⟨hI77, hF96, by omega, by omega, by omega, by omega, by omega, by omega, by omega, by omega, by omega⟩
              · refine zt_aload_n (pc' := 200) hX dX12_qGoesOnTest_199 rfl rfl ?_
                refine zt_iconst (pc' := 201) hX dX12_qGoesOnTest_200 rfl ?_
                refine zt_aload_n (pc' := 202) hX dX12_qGoesOnTest_201 rfl rfl ?_
                have b114 := zv_46_2 hI77 zc_164
                refine zt_get (pc' := 205) (v := .int (zI (s74 164 2))) hX dX12_qGoesOnTest_202 rfl zf_X12_252 (by decide) zc_164 zs_46 rfl ?_
                refine zt_cVv (pc' := 208) hX dX12_qGoesOnTest_205 rfl zm_yX12_fail zw_26_19 zc_164 (by decide) zs_46 (q := (RX12, TX12, 108)) rfl rfl (zc_X12_fail _ _ s74 hI77 1 ⟨by omega, by omega⟩ (s74 164 2) ⟨by omega, by omega⟩) rfl rfl (Nat.le_of_ble_eq_true rfl) (by decide) (fun r115 s116 hr117 hp118 => ?_)
                obtain ⟨hI119, hF120, z121, z122⟩ := hp118
                obtain ⟨-, w124, w125, w126, -, -, w129, -⟩ := zE_q1 hF120
                have e131 := hF120 164 3 rfl
                have e132 := hF120 164 97 rfl
                have e133 := hF120 164 99 rfl
                have e134 := hF120 164 101 rfl
                have hF135 := zOn_tr hF96 hF120 zi_12
                have b136 := zv_46_2 hI119 zc_164
                have b137 := zv_46_3 hI119 zc_164
                have b138 := zv_46_5 hI119 zc_164
                have b139 := zv_46_97 hI119 zc_164
                have b140 := zv_46_99 hI119 zc_164
                have b141 := zv_46_101 hI119 zc_164
                refine zt_iconst (pc' := 209) hX dX12_qGoesOnTest_208 rfl ?_
                exact zt_zret hX hR dX12_qGoesOnTest_209 ⟨by omega, by omega⟩ ⟨hI119, hF135, by omega, by omega, by omega, by omega, by omega, by omega, by omega, by omega, by omega⟩
          · have L_137_151 : ∀ (N : Nat) (s142 : zSto), zInv s142 → zOn zQ2 σ s142 → s142 164 97 + s142 164 99 + σ 164 2 + 1 ≤ σ 164 97 + σ 164 99 + s142 164 2 → (σ 164 2 ≤ s142 164 2 ∧ s142 164 2 ≤ σ 164 3) → s142 164 3 = σ 164 3 → s142 164 101 = σ 164 101 → s142 164 5 = 0 → s142 164 97 + s142 164 99 + σ 164 2 ≤ σ 164 97 + σ 164 99 + s142 164 2 → (zt s142 = 1 ∧ zHt s142 - zBt s142 = zHt σ - zBt σ) → ((s142 164 99).toNat) < N → zF X s142 137 [some (.ref (X.1.1 + 164))] [] := by
              intro N
              induction N with
              | zero =>
                intro s142 hI143 hF144 g145 g146 g147 g148 g149 g150 g151 hm153
                exact absurd hm153 (Nat.not_lt_zero _)
              | succ N ih154 =>
                intro s142 hI143 hF144 g145 g146 g147 g148 g149 g150 g151 hm153
                have b155 := zv_46_2 hI143 zc_164
                have b156 := zv_46_3 hI143 zc_164
                have b157 := zv_46_5 hI143 zc_164
                have b158 := zv_46_97 hI143 zc_164
                have b159 := zv_46_99 hI143 zc_164
                have b160 := zv_46_101 hI143 zc_164
                refine zt_aload_n (pc' := 138) hX dX12_qGoesOnTest_137 rfl rfl ?_
                refine zt_bipush (pc' := 140) hX dX12_qGoesOnTest_138 rfl (by decide) (by decide) ?_
                refine zt_cVz (pc' := 143) hX dX12_qGoesOnTest_140 rfl zm_yX12_qIsOn zw_31_23 zc_164 (by decide) zs_46 (q := (RX12, TX12, 108)) rfl rfl (zc_X12_qIsOn _ _ s142 hI143 10 ⟨by omega, by omega⟩) rfl rfl (Nat.le_of_ble_eq_true rfl) (by decide) (fun r161 s162 hr163 hp164 => ?_)
                obtain ⟨rfl, q165, q166, z167, z168⟩ := hp164
                have J_155_169 : (1 ≤ s142 164 99 ∧ 10 ≤ s142 235 (s142 164 99 - 1).toNat ∧ s142 235 (s142 164 99 - 1).toNat ≤ 11) → zF X s142 155 [some (.ref (X.1.1 + 164))] [] := by
                  intro g169
                  refine zt_aload_n (pc' := 156) hX dX12_qGoesOnTest_155 rfl rfl ?_
                  refine zt_cVv (pc' := 159) hX dX12_qGoesOnTest_156 rfl zm_yX12_qDrops zw_31_4 zc_164 (by decide) zs_46 (q := (RX12, TX12, 108)) rfl rfl (zc_X12_qDrops_T _ _ s142 hI143 (by omega) (by omega) (by omega) (by omega) (by omega)) rfl rfl (Nat.le_of_ble_eq_true rfl) (by decide) (fun r171 s172 hr173 hp174 => ?_)
                  obtain ⟨hI175, hF176, z177, z178⟩ := hp174
                  have e179 := hF176 164 2 rfl
                  have e180 := hF176 164 3 rfl
                  have e181 := hF176 164 5 rfl
                  have e182 := hF176 164 101 rfl
                  have hF183 := zOn_tr hF144 hF176 zi_52
                  have b184 := zv_46_2 hI175 zc_164
                  have b185 := zv_46_3 hI175 zc_164
                  have b186 := zv_46_5 hI175 zc_164
                  have b187 := zv_46_97 hI175 zc_164
                  have b188 := zv_46_99 hI175 zc_164
                  have b189 := zv_46_101 hI175 zc_164
                  refine zt_goto (tgt := 137) hX dX12_qGoesOnTest_159 (by decide) ?_
                  exact ih154 s172 hI175 hF183 (by omega) (by omega) (by omega) (by omega) (by omega) (by omega) (by omega) (by omega)
                refine zt_ifne (pc' := 146) (tgt := 155) hX dX12_qGoesOnTest_143 rfl (by decide) ⟨by omega, by omega⟩ (fun c190 => ?_) (fun c190 => ?_)
                · exact J_155_169 (by omega)
                · refine zt_aload_n (pc' := 147) hX dX12_qGoesOnTest_146 rfl rfl ?_
                  refine zt_bipush (pc' := 149) hX dX12_qGoesOnTest_147 rfl (by decide) (by decide) ?_
                  refine zt_cVz (pc' := 152) hX dX12_qGoesOnTest_149 rfl zm_yX12_qIsOn zw_31_23 zc_164 (by decide) zs_46 (q := (RX12, TX12, 108)) rfl rfl (zc_X12_qIsOn _ _ s142 hI143 11 ⟨by omega, by omega⟩) rfl rfl (Nat.le_of_ble_eq_true rfl) (by decide) (fun r191 s192 hr193 hp194 => ?_)
                  obtain ⟨rfl, q195, q196, z197, z198⟩ := hp194
                  refine zt_ifeq (pc' := 155) (tgt := 162) hX dX12_qGoesOnTest_152 rfl (by decide) ⟨by omega, by omega⟩ (fun c199 => ?_) (fun c199 => ?_)
                  · refine zt_aload_n (pc' := 163) hX dX12_qGoesOnTest_162 rfl rfl ?_
                    refine zt_get (pc' := 166) (v := .ref (X.1.1 + 235)) hX dX12_qGoesOnTest_163 rfl zf_X12_234 (by decide) zc_164 zs_46 (zrf_of (zv_46_98 hI143 zc_164)) ?_
                    refine zt_aload_n (pc' := 167) hX dX12_qGoesOnTest_166 rfl rfl ?_
                    have b200 := zv_46_99 hI143 zc_164
                    refine zt_get (pc' := 170) (v := .int (zI (s142 164 99))) hX dX12_qGoesOnTest_167 rfl zf_X12_333 (by decide) zc_164 zs_46 rfl ?_
                    refine zt_bipush (pc' := 172) hX dX12_qGoesOnTest_170 rfl (by decide) (by decide) ?_
                    refine zt_iast (pc' := 173) hX dX12_qGoesOnTest_172 rfl (by decide) zc_235 zs_117 (by decide) ⟨by omega, by omega⟩ ?_
                    generalize hs202 : zset s142 235 ((s142 164 99).toNat) 11 = s201
                    have hI203 : zInv s201 := hs202 ▸ zp_117 hI143 zc_235 ((s142 164 99).toNat) ⟨by omega, by omega⟩
                    have hF204 : zOn zQ2 σ s201 := hs202 ▸ zOn_set hF144 (zq2_235 (by omega))
                    have e205 : s201 164 2 = s142 164 2 := by rw [← hs202]; exact zset_k (zne_r zc_164 zc_235 (by decide))
                    have e206 : s201 164 3 = s142 164 3 := by rw [← hs202]; exact zset_k (zne_r zc_164 zc_235 (by decide))
                    have e207 : s201 164 5 = s142 164 5 := by rw [← hs202]; exact zset_k (zne_r zc_164 zc_235 (by decide))
                    have e208 : s201 164 97 = s142 164 97 := by rw [← hs202]; exact zset_k (zne_r zc_164 zc_235 (by decide))
                    have e209 : s201 164 99 = s142 164 99 := by rw [← hs202]; exact zset_k (zne_r zc_164 zc_235 (by decide))
                    have e210 : s201 164 101 = s142 164 101 := by rw [← hs202]; exact zset_k (zne_r zc_164 zc_235 (by decide))
                    refine zt_aload_n (pc' := 174) hX dX12_qGoesOnTest_173 rfl rfl ?_
                    refine zt_dup (pc' := 175) hX dX12_qGoesOnTest_174 rfl rfl ?_
                    have b211 := zv_46_99 hI203 zc_164
                    refine zt_get (pc' := 178) (v := .int (zI (s201 164 99))) hX dX12_qGoesOnTest_175 rfl zf_X12_333 (by decide) zc_164 zs_46 rfl ?_
                    refine zt_iconst (pc' := 179) hX dX12_qGoesOnTest_178 rfl ?_
                    refine zt_iadd (pc' := 180) hX dX12_qGoesOnTest_179 rfl ?_
                    refine zt_put (pc' := 183) (x := ((s201 164 99) + 1)) hX dX12_qGoesOnTest_180 rfl zf_X12_333 (by decide) zc_164 zs_46 (fun q hq => by cases hq; rfl) rfl rfl rfl ?_
                    generalize hs213 : zset s201 164 99 ((s201 164 99) + 1) = s212
                    have hI214 : zInv s212 := hs213 ▸ zp_46_99 hI203 zc_164 ⟨by omega, by omega⟩
                    have hF215 : zOn zQ2 σ s212 := hs213 ▸ zOn_set hF204 (by decide)
                    have e216 : s212 164 2 = s201 164 2 := by rw [← hs213]; exact zset_j (by decide)
                    have e217 : s212 164 3 = s201 164 3 := by rw [← hs213]; exact zset_j (by decide)
                    have e218 : s212 164 5 = s201 164 5 := by rw [← hs213]; exact zset_j (by decide)
                    have e219 : s212 164 97 = s201 164 97 := by rw [← hs213]; exact zset_j (by decide)
                    have e220 : s212 164 99 = ((s201 164 99) + 1) := by rw [← hs213]; exact zset_s
                    have e221 : s212 164 101 = s201 164 101 := by rw [← hs213]; exact zset_j (by decide)
                    have h222 := zpush_T hs202 hs213 (by omega) (by omega) (by omega)
                    have h223w := zw_v 11
                    refine zt_iconst (pc' := 184) hX dX12_qGoesOnTest_183 rfl ?_
                    exact zt_zret hX hR dX12_qGoesOnTest_184 ⟨by omega, by omega⟩ ⟨hI214, hF215, by omega, by omega, by omega, by omega, by omega, by omega, by omega, by omega, by omega⟩
                  · exact J_155_169 (by omega)
            exact L_137_151 _ s74 hI77 hF96 (by omega) (by omega) (by omega) (by omega) (by omega) (by omega) (by omega) (Nat.lt_succ_self _)
        · have L_87_233 : ∀ (N : Nat) (s224 : zSto), zInv s224 → zOn zQ2 σ s224 → s224 164 97 + s224 164 99 + σ 164 2 + 1 ≤ σ 164 97 + σ 164 99 + s224 164 2 → (σ 164 2 ≤ s224 164 2 ∧ s224 164 2 ≤ σ 164 3) → s224 164 3 = σ 164 3 → s224 164 101 = σ 164 101 → s224 164 5 = 0 → s224 164 97 + s224 164 99 + σ 164 2 ≤ σ 164 97 + σ 164 99 + s224 164 2 → (zt s224 = 1 ∧ zHt s224 - zBt s224 = zHt σ - zBt σ) → ((s224 164 99).toNat) < N → zF X s224 87 [some (.ref (X.1.1 + 164))] [] := by
            intro N
            induction N with
            | zero =>
              intro s224 hI225 hF226 g227 g228 g229 g230 g231 g232 g233 hm235
              exact absurd hm235 (Nat.not_lt_zero _)
            | succ N ih236 =>
              intro s224 hI225 hF226 g227 g228 g229 g230 g231 g232 g233 hm235
              have b237 := zv_46_2 hI225 zc_164
              have b238 := zv_46_3 hI225 zc_164
              have b239 := zv_46_5 hI225 zc_164
              have b240 := zv_46_97 hI225 zc_164
              have b241 := zv_46_99 hI225 zc_164
              have b242 := zv_46_101 hI225 zc_164
              refine zt_aload_n (pc' := 88) hX dX12_qGoesOnTest_87 rfl rfl ?_
              refine zt_bipush (pc' := 90) hX dX12_qGoesOnTest_88 rfl (by decide) (by decide) ?_
              refine zt_cVz (pc' := 93) hX dX12_qGoesOnTest_90 rfl zm_yX12_qIsOn zw_31_23 zc_164 (by decide) zs_46 (q := (RX12, TX12, 108)) rfl rfl (zc_X12_qIsOn _ _ s224 hI225 10 ⟨by omega, by omega⟩) rfl rfl (Nat.le_of_ble_eq_true rfl) (by decide) (fun r243 s244 hr245 hp246 => ?_)
              obtain ⟨rfl, q247, q248, z249, z250⟩ := hp246
              refine zt_ifeq (pc' := 96) (tgt := 103) hX dX12_qGoesOnTest_93 rfl (by decide) ⟨by omega, by omega⟩ (fun c251 => ?_) (fun c251 => ?_)
              · refine zt_aload_n (pc' := 104) hX dX12_qGoesOnTest_103 rfl rfl ?_
                refine zt_get (pc' := 107) (v := .ref (X.1.1 + 235)) hX dX12_qGoesOnTest_104 rfl zf_X12_234 (by decide) zc_164 zs_46 (zrf_of (zv_46_98 hI225 zc_164)) ?_
                refine zt_aload_n (pc' := 108) hX dX12_qGoesOnTest_107 rfl rfl ?_
                have b252 := zv_46_99 hI225 zc_164
                refine zt_get (pc' := 111) (v := .int (zI (s224 164 99))) hX dX12_qGoesOnTest_108 rfl zf_X12_333 (by decide) zc_164 zs_46 rfl ?_
                refine zt_bipush (pc' := 113) hX dX12_qGoesOnTest_111 rfl (by decide) (by decide) ?_
                refine zt_iast (pc' := 114) hX dX12_qGoesOnTest_113 rfl (by decide) zc_235 zs_117 (by decide) ⟨by omega, by omega⟩ ?_
                generalize hs254 : zset s224 235 ((s224 164 99).toNat) 10 = s253
                have hI255 : zInv s253 := hs254 ▸ zp_117 hI225 zc_235 ((s224 164 99).toNat) ⟨by omega, by omega⟩
                have hF256 : zOn zQ2 σ s253 := hs254 ▸ zOn_set hF226 (zq2_235 (by omega))
                have e257 : s253 164 2 = s224 164 2 := by rw [← hs254]; exact zset_k (zne_r zc_164 zc_235 (by decide))
                have e258 : s253 164 3 = s224 164 3 := by rw [← hs254]; exact zset_k (zne_r zc_164 zc_235 (by decide))
                have e259 : s253 164 5 = s224 164 5 := by rw [← hs254]; exact zset_k (zne_r zc_164 zc_235 (by decide))
                have e260 : s253 164 97 = s224 164 97 := by rw [← hs254]; exact zset_k (zne_r zc_164 zc_235 (by decide))
                have e261 : s253 164 99 = s224 164 99 := by rw [← hs254]; exact zset_k (zne_r zc_164 zc_235 (by decide))
                have e262 : s253 164 101 = s224 164 101 := by rw [← hs254]; exact zset_k (zne_r zc_164 zc_235 (by decide))
                refine zt_aload_n (pc' := 115) hX dX12_qGoesOnTest_114 rfl rfl ?_
                refine zt_dup (pc' := 116) hX dX12_qGoesOnTest_115 rfl rfl ?_
                have b263 := zv_46_99 hI255 zc_164
                refine zt_get (pc' := 119) (v := .int (zI (s253 164 99))) hX dX12_qGoesOnTest_116 rfl zf_X12_333 (by decide) zc_164 zs_46 rfl ?_
                refine zt_iconst (pc' := 120) hX dX12_qGoesOnTest_119 rfl ?_
                refine zt_iadd (pc' := 121) hX dX12_qGoesOnTest_120 rfl ?_
                refine zt_put (pc' := 124) (x := ((s253 164 99) + 1)) hX dX12_qGoesOnTest_121 rfl zf_X12_333 (by decide) zc_164 zs_46 (fun q hq => by cases hq; rfl) rfl rfl rfl ?_
                generalize hs265 : zset s253 164 99 ((s253 164 99) + 1) = s264
                have hI266 : zInv s264 := hs265 ▸ zp_46_99 hI255 zc_164 ⟨by omega, by omega⟩
                have hF267 : zOn zQ2 σ s264 := hs265 ▸ zOn_set hF256 (by decide)
                have e268 : s264 164 2 = s253 164 2 := by rw [← hs265]; exact zset_j (by decide)
                have e269 : s264 164 3 = s253 164 3 := by rw [← hs265]; exact zset_j (by decide)
                have e270 : s264 164 5 = s253 164 5 := by rw [← hs265]; exact zset_j (by decide)
                have e271 : s264 164 97 = s253 164 97 := by rw [← hs265]; exact zset_j (by decide)
                have e272 : s264 164 99 = ((s253 164 99) + 1) := by rw [← hs265]; exact zset_s
                have e273 : s264 164 101 = s253 164 101 := by rw [← hs265]; exact zset_j (by decide)
                have h274 := zpush_T hs254 hs265 (by omega) (by omega) (by omega)
                have h275w := zw_v 10
                refine zt_iconst (pc' := 125) hX dX12_qGoesOnTest_124 rfl ?_
                exact zt_zret hX hR dX12_qGoesOnTest_125 ⟨by omega, by omega⟩ ⟨hI266, hF267, by omega, by omega, by omega, by omega, by omega, by omega, by omega, by omega, by omega⟩
              · refine zt_aload_n (pc' := 97) hX dX12_qGoesOnTest_96 rfl rfl ?_
                refine zt_cVv (pc' := 100) hX dX12_qGoesOnTest_97 rfl zm_yX12_qDrops zw_31_4 zc_164 (by decide) zs_46 (q := (RX12, TX12, 108)) rfl rfl (zc_X12_qDrops_T _ _ s224 hI225 (by omega) (by omega) (by omega) (by omega) (by omega)) rfl rfl (Nat.le_of_ble_eq_true rfl) (by decide) (fun r276 s277 hr278 hp279 => ?_)
                obtain ⟨hI280, hF281, z282, z283⟩ := hp279
                have e284 := hF281 164 2 rfl
                have e285 := hF281 164 3 rfl
                have e286 := hF281 164 5 rfl
                have e287 := hF281 164 101 rfl
                have hF288 := zOn_tr hF226 hF281 zi_52
                have b289 := zv_46_2 hI280 zc_164
                have b290 := zv_46_3 hI280 zc_164
                have b291 := zv_46_5 hI280 zc_164
                have b292 := zv_46_97 hI280 zc_164
                have b293 := zv_46_99 hI280 zc_164
                have b294 := zv_46_101 hI280 zc_164
                refine zt_goto (tgt := 87) hX dX12_qGoesOnTest_100 (by decide) ?_
                exact ih236 s277 hI280 hF288 (by omega) (by omega) (by omega) (by omega) (by omega) (by omega) (by omega) (by omega)
          exact L_87_233 _ s43 hI46 hF65 (by omega) (by omega) (by omega) (by omega) (by omega) (by omega) (by omega) (Nat.lt_succ_self _)
      refine zt_ifne (pc' := 7) (tgt := 76) hX dX12_qGoesOnTest_4 rfl (by decide) ⟨by omega, by omega⟩ (fun c295 => ?_) (fun c295 => ?_)
      · exact J_76_34 s7 hI8 hF9 (by omega) (by omega) (by omega) (by omega) (by omega) (by omega)
      · refine zt_aload_n (pc' := 8) hX dX12_qGoesOnTest_7 rfl rfl ?_
        refine zt_cVi (pc' := 11) hX dX12_qGoesOnTest_8 rfl zm_yX12_look zw_26_12 zc_164 (by decide) zs_46 (q := (RX12, TX12, 108)) rfl rfl (zc_X12_look _ _ s7 hI8 ) rfl rfl (Nat.le_of_ble_eq_true rfl) (by decide) (fun r296 s297 hr298 hp299 => ?_)
        obtain ⟨hI300, hF301, q302, q303, z304, z305, z306⟩ := hp299
        obtain ⟨-, w308, w309, w310, -, -, w313, -⟩ := zE_q1 hF301
        have e315 := hF301 164 3 rfl
        have e316 := hF301 164 97 rfl
        have e317 := hF301 164 99 rfl
        have e318 := hF301 164 101 rfl
        have hF319 := zOn_tr hF9 hF301 zi_12
        have b320 := zv_46_2 hI300 zc_164
        have b321 := zv_46_3 hI300 zc_164
        have b322 := zv_46_5 hI300 zc_164
        have b323 := zv_46_97 hI300 zc_164
        have b324 := zv_46_99 hI300 zc_164
        have b325 := zv_46_101 hI300 zc_164
        refine zt_bipush (pc' := 13) hX dX12_qGoesOnTest_11 rfl (by decide) (by decide) ?_
        refine zt_icne (pc' := 16) (tgt := 76) hX dX12_qGoesOnTest_13 rfl (by decide) ⟨by omega, by omega⟩ ⟨by omega, by omega⟩ (fun c326 => ?_) (fun c326 => ?_)
        · exact J_76_34 s297 hI300 hF319 (by omega) (by omega) (by omega) (by omega) (by omega) (by omega)
        · refine zt_aload_n (pc' := 17) hX dX12_qGoesOnTest_16 rfl rfl ?_
          refine zt_cVz (pc' := 20) hX dX12_qGoesOnTest_17 rfl zm_yX12_qHasSquare zw_32_11 zc_164 (by decide) zs_46 (q := (RX12, TX12, 108)) rfl rfl (zc_X12_qHasSquare _ _ s297 hI300 ) rfl rfl (Nat.le_of_ble_eq_true rfl) (by decide) (fun r327 s328 hr329 hp330 => ?_)
          obtain ⟨rfl, q331, q332, z333⟩ := hp330
          refine zt_ifeq (pc' := 23) (tgt := 76) hX dX12_qGoesOnTest_20 rfl (by decide) ⟨by omega, by omega⟩ (fun c334 => ?_) (fun c334 => ?_)
          · exact J_76_34 s297 hI300 hF319 (by omega) (by omega) (by omega) (by omega) (by omega) (by omega)
          · refine zt_aload_n (pc' := 24) hX dX12_qGoesOnTest_23 rfl rfl ?_
            refine zt_dup (pc' := 25) hX dX12_qGoesOnTest_24 rfl rfl ?_
            have b335 := zv_46_2 hI300 zc_164
            refine zt_get (pc' := 28) (v := .int (zI (s297 164 2))) hX dX12_qGoesOnTest_25 rfl zf_X12_252 (by decide) zc_164 zs_46 rfl ?_
            refine zt_iconst (pc' := 29) hX dX12_qGoesOnTest_28 rfl ?_
            refine zt_iadd (pc' := 30) hX dX12_qGoesOnTest_29 rfl ?_
            refine zt_put (pc' := 33) (x := ((s297 164 2) + 1)) hX dX12_qGoesOnTest_30 rfl zf_X12_252 (by decide) zc_164 zs_46 (fun q hq => by cases hq; rfl) rfl rfl rfl ?_
            generalize hs337 : zset s297 164 2 ((s297 164 2) + 1) = s336
            have hI338 : zInv s336 := hs337 ▸ zp_46_2 hI300 zc_164 ⟨by omega, by omega⟩
            have hF339 : zOn zQ2 σ s336 := hs337 ▸ zOn_set hF319 (by decide)
            obtain ⟨-, w341, w342, w343, -, -, w346, -⟩ := zE_set hs337 (by decide)
            have e348 : s336 164 2 = ((s297 164 2) + 1) := by rw [← hs337]; exact zset_s
            have e349 : s336 164 3 = s297 164 3 := by rw [← hs337]; exact zset_j (by decide)
            have e350 : s336 164 5 = s297 164 5 := by rw [← hs337]; exact zset_j (by decide)
            have e351 : s336 164 97 = s297 164 97 := by rw [← hs337]; exact zset_j (by decide)
            have e352 : s336 164 99 = s297 164 99 := by rw [← hs337]; exact zset_j (by decide)
            have e353 : s336 164 101 = s297 164 101 := by rw [← hs337]; exact zset_j (by decide)
            have L_33_364 : ∀ (N : Nat) (s354 : zSto), zInv s354 → zOn zQ2 σ s354 → zsq s354 = 1 → s7 164 2 < s354 164 2 → (σ 164 2 ≤ s354 164 2 ∧ s354 164 2 ≤ σ 164 3) → s354 164 3 = σ 164 3 → s354 164 101 = σ 164 101 → s354 164 5 = 0 → s354 164 97 + s354 164 99 + σ 164 2 ≤ σ 164 97 + σ 164 99 + s354 164 2 → (zt s354 = 1 ∧ zHt s354 - zBt s354 = zHt σ - zBt σ) → ((s354 164 99).toNat) < N → zF X s354 33 [some (.ref (X.1.1 + 164))] [] := by
              intro N
              induction N with
              | zero =>
                intro s354 hI355 hF356 g357 g358 g359 g360 g361 g362 g363 g364 hm366
                exact absurd hm366 (Nat.not_lt_zero _)
              | succ N ih367 =>
                intro s354 hI355 hF356 g357 g358 g359 g360 g361 g362 g363 g364 hm366
                have b368 := zv_46_2 hI355 zc_164
                have b369 := zv_46_3 hI355 zc_164
                have b370 := zv_46_5 hI355 zc_164
                have b371 := zv_46_97 hI355 zc_164
                have b372 := zv_46_99 hI355 zc_164
                have b373 := zv_46_101 hI355 zc_164
                refine zt_aload_n (pc' := 34) hX dX12_qGoesOnTest_33 rfl rfl ?_
                refine zt_bipush (pc' := 36) hX dX12_qGoesOnTest_34 rfl (by decide) (by decide) ?_
                have h374 : s354 164 99 ≤ 0 → zsq s354 = 0 := fun h => (zsq_0 h).1
                refine zt_cVz (pc' := 39) hX dX12_qGoesOnTest_36 rfl zm_yX12_qIsOn zw_31_23 zc_164 (by decide) zs_46 (q := (RX12, TX12, 108)) rfl rfl (zc_X12_qIsOn _ _ s354 hI355 25 ⟨by omega, by omega⟩) rfl rfl (Nat.le_of_ble_eq_true rfl) (by decide) (fun r375 s376 hr377 hp378 => ?_)
                obtain ⟨rfl, q379, q380, z381, z382⟩ := hp378
                refine zt_ifne (pc' := 42) (tgt := 49) hX dX12_qGoesOnTest_39 rfl (by decide) ⟨by omega, by omega⟩ (fun c383 => ?_) (fun c383 => ?_)
                · refine zt_aload_n (pc' := 50) hX dX12_qGoesOnTest_49 rfl rfl ?_
                  refine zt_dup (pc' := 51) hX dX12_qGoesOnTest_50 rfl rfl ?_
                  have b384 := zv_46_99 hI355 zc_164
                  refine zt_get (pc' := 54) (v := .int (zI (s354 164 99))) hX dX12_qGoesOnTest_51 rfl zf_X12_333 (by decide) zc_164 zs_46 rfl ?_
                  refine zt_iconst (pc' := 55) hX dX12_qGoesOnTest_54 rfl ?_
                  refine zt_isub (pc' := 56) hX dX12_qGoesOnTest_55 rfl ?_
                  refine zt_put (pc' := 59) (x := ((s354 164 99) - 1)) hX dX12_qGoesOnTest_56 rfl zf_X12_333 (by decide) zc_164 zs_46 (fun q hq => by cases hq; rfl) rfl rfl rfl ?_
                  generalize hs386 : zset s354 164 99 ((s354 164 99) - 1) = s385
                  have hI387 : zInv s385 := hs386 ▸ zp_46_99 hI355 zc_164 ⟨by omega, by omega⟩
                  have hF388 : zOn zQ2 σ s385 := hs386 ▸ zOn_set hF356 (by decide)
                  have e389 : s385 164 2 = s354 164 2 := by rw [← hs386]; exact zset_j (by decide)
                  have e390 : s385 164 3 = s354 164 3 := by rw [← hs386]; exact zset_j (by decide)
                  have e391 : s385 164 5 = s354 164 5 := by rw [← hs386]; exact zset_j (by decide)
                  have e392 : s385 164 97 = s354 164 97 := by rw [← hs386]; exact zset_j (by decide)
                  have e393 : s385 164 99 = ((s354 164 99) - 1) := by rw [← hs386]; exact zset_s
                  have e394 : s385 164 101 = s354 164 101 := by rw [← hs386]; exact zset_j (by decide)
                  have h395 := zpop hs386 rfl (by omega) (by omega)
                  have h396w := zw_v (s354 235 (s354 164 99 - 1).toNat)
                  refine zt_aload_n (pc' := 60) hX dX12_qGoesOnTest_59 rfl rfl ?_
                  refine zt_dup (pc' := 61) hX dX12_qGoesOnTest_60 rfl rfl ?_
                  have b397 := zv_46_100 hI387 zc_164
                  have e398 : s385 164 100 = s354 164 100 := by rw [← hs386]; exact zset_j (by decide)
                  refine zt_get (pc' := 64) (v := .int (zI (s385 164 100))) hX dX12_qGoesOnTest_61 rfl zf_X12_336 (by decide) zc_164 zs_46 rfl ?_
                  refine zt_iconst (pc' := 65) hX dX12_qGoesOnTest_64 rfl ?_
                  refine zt_isub (pc' := 66) hX dX12_qGoesOnTest_65 rfl ?_
                  refine zt_wrap (fun r399 zr399 lr399 ur399 => ?_)
                  clear zr399
                  refine zt_put (pc' := 69) (x := r399) hX dX12_qGoesOnTest_66 rfl zf_X12_336 (by decide) zc_164 zs_46 (fun q hq => by cases hq; rfl) rfl rfl rfl ?_
                  generalize hs401 : zset s385 164 100 r399 = s400
                  have hI402 : zInv s400 := hs401 ▸ zp_46_100 hI387 zc_164 ⟨by omega, by omega⟩
                  have hF403 : zOn zQ2 σ s400 := hs401 ▸ zOn_set hF388 (by decide)
                  obtain ⟨-, w405, w406, w407, -, -, w410, -⟩ := zE_set hs401 (by decide)
                  have e412 : s400 164 2 = s385 164 2 := by rw [← hs401]; exact zset_j (by decide)
                  have e413 : s400 164 3 = s385 164 3 := by rw [← hs401]; exact zset_j (by decide)
                  have e414 : s400 164 5 = s385 164 5 := by rw [← hs401]; exact zset_j (by decide)
                  have e415 : s400 164 97 = s385 164 97 := by rw [← hs401]; exact zset_j (by decide)
                  have e416 : s400 164 99 = s385 164 99 := by rw [← hs401]; exact zset_j (by decide)
                  have e417 : s400 164 101 = s385 164 101 := by rw [← hs401]; exact zset_j (by decide)
                  refine zt_aload_n (pc' := 70) hX dX12_qGoesOnTest_69 rfl rfl ?_
                  refine zt_cVv (pc' := 73) hX dX12_qGoesOnTest_70 rfl zm_yX12_qDropsNots zw_32_3 zc_164 (by decide) zs_46 (q := (RX12, TX12, 108)) rfl rfl (zc_X12_qDropsNots _ _ s400 hI402 (by omega) (by omega)) rfl rfl (Nat.le_of_ble_eq_true rfl) (by decide) (fun r418 s419 hr420 hp421 => ?_)
                  obtain ⟨hI422, hF423, z424, z425, z426⟩ := hp421
                  have e427 := hF423 164 2 rfl
                  have e428 := hF423 164 3 rfl
                  have e429 := hF423 164 5 rfl
                  have e430 := hF423 164 101 rfl
                  have hF431 := zOn_tr hF403 hF423 zi_52
                  have b432 := zv_46_2 hI422 zc_164
                  have b433 := zv_46_3 hI422 zc_164
                  have b434 := zv_46_5 hI422 zc_164
                  have b435 := zv_46_97 hI422 zc_164
                  have b436 := zv_46_99 hI422 zc_164
                  have b437 := zv_46_101 hI422 zc_164
                  refine zt_goto (tgt := 0) hX dX12_qGoesOnTest_73 (by decide) ?_
                  exact ih18 s419 hI422 hF431 (by omega) (by omega) (by omega) (by omega) (by omega) (by omega) (by omega)
                · refine zt_aload_n (pc' := 43) hX dX12_qGoesOnTest_42 rfl rfl ?_
                  refine zt_cVv (pc' := 46) hX dX12_qGoesOnTest_43 rfl zm_yX12_qDrops zw_31_4 zc_164 (by decide) zs_46 (q := (RX12, TX12, 108)) rfl rfl (zc_X12_qDrops_T _ _ s354 hI355 (by omega) (by omega) (by omega) (by omega) (by omega)) rfl rfl (Nat.le_of_ble_eq_true rfl) (by decide) (fun r438 s439 hr440 hp441 => ?_)
                  obtain ⟨hI442, hF443, z444, z445⟩ := hp441
                  have e446 := hF443 164 2 rfl
                  have e447 := hF443 164 3 rfl
                  have e448 := hF443 164 5 rfl
                  have e449 := hF443 164 101 rfl
                  have hF450 := zOn_tr hF356 hF443 zi_52
                  have b451 := zv_46_2 hI442 zc_164
                  have b452 := zv_46_3 hI442 zc_164
                  have b453 := zv_46_5 hI442 zc_164
                  have b454 := zv_46_97 hI442 zc_164
                  have b455 := zv_46_99 hI442 zc_164
                  have b456 := zv_46_101 hI442 zc_164
                  refine zt_goto (tgt := 33) hX dX12_qGoesOnTest_46 (by decide) ?_
                  exact ih367 s439 hI442 hF450 (by omega) (by omega) (by omega) (by omega) (by omega) (by omega) (by omega) (by omega) (by omega)
            exact L_33_364 _ s336 hI338 hF339 (by omega) (by omega) (by omega) (by omega) (by omega) (by omega) (by omega) (by omega) (Nat.lt_succ_self _)
  exact L_0_15 _ σ hI hF (by omega) (by omega) (by omega) (by omega) (by omega) (by omega) (Nat.lt_succ_self _)

set_option maxRecDepth 100000 in
set_option maxHeartbeats 4000000 in
theorem zc_X12_qTest (l : Launch) (E : zEN) (σ : zSto) (hI : zInv σ) (hpre0 : σ 164 5 = 0) (hpre1 : σ 164 2 ≤ σ 164 3) (hpre2 : σ 164 97 + σ 164 99 ≤ σ 164 2) (hpre3 : zt σ = 1) (hpre4 : zBt σ ≤ zHt σ) : zCt l E yX12_qTest cX12_qTest 3 none 8 zNC zNC 0 0 σ [.ref (E.1 + 164)] (fun r σ' => zInv σ' ∧ zOn zQ2 σ σ' ∧ (σ' 164 2 ≤ σ 164 3) ∧ (σ 164 2 ≤ σ' 164 2) ∧ (σ' 164 101 = σ 164 101) ∧ (σ' 164 97 + σ' 164 99 + σ 164 2 ≤ σ 164 97 + σ 164 99 + σ' 164 2 + 1) ∧ (σ' 164 5 = 0 → σ' 164 97 + σ' 164 99 + σ 164 2 ≤ σ 164 97 + σ 164 99 + σ' 164 2) ∧ (σ' 164 5 = 0 → zt σ' = 1)) := by
  refine zCt_of2 [some (.ref (E.1 + 164)), none, none] (by decide +kernel) (Nat.le_of_ble_eq_true rfl) rfl ?_
  intro X hE hX hR hL hN
  subst hE
  have hX : zok X cX12_qTest RX12 8 := hX
  have hF := zOn_rf zQ2 σ
  have hbn := zBt_nn σ
  have b1 := zv_46_2 hI zc_164
  have b2 := zv_46_3 hI zc_164
  have b3 := zv_46_5 hI zc_164
  have b4 := zv_46_97 hI zc_164
  have b5 := zv_46_99 hI zc_164
  have b6 := zv_46_101 hI zc_164
  refine zt_iconst (pc' := 1) hX dX12_qTest_0 rfl ?_
  refine zt_istore_n (pc' := 2) (lv' := [some (.ref (X.1.1 + 164)), some (.int (zI 1)), none]) hX dX12_qTest_1 rfl hL (by decide) rfl ?_
  have L_2_20 : ∀ (N : Nat) (x7 : Int) (s10 : zSto), 0 ≤ x7 → x7 ≤ 1 → zInv s10 → zOn zQ2 σ s10 → (x7 = 1 ∧ s10 164 5 = 0 → zHt s10 - zBt s10 = zHt σ - zBt σ) → (x7 = 0 ∧ s10 164 5 = 0 → zHt s10 - zBt s10 = zHt σ - zBt σ + 1 ∧ zsq s10 = 0) → (σ 164 2 ≤ s10 164 2 ∧ s10 164 2 ≤ σ 164 3) → s10 164 3 = σ 164 3 → s10 164 101 = σ 164 101 → s10 164 97 + s10 164 99 + σ 164 2 ≤ σ 164 97 + σ 164 99 + s10 164 2 + 1 → (s10 164 5 = 0 → s10 164 97 + s10 164 99 + σ 164 2 ≤ σ 164 97 + σ 164 99 + s10 164 2) → (s10 164 5 = 0 → zt s10 = 1) → ((4 * (1601 - s10 164 2) + 2 * x7 + 1 - min (max (s10 164 5) (-(s10 164 5))) 1).toNat) < N → zF X s10 2 [some (.ref (X.1.1 + 164)), some (.int (zI x7)), none] [] := by
    intro N
    induction N with
    | zero =>
      intro x7 s10 h8 h9 hI11 hF12 g13 g14 g15 g16 g17 g18 g19 g20 hm22
      exact absurd hm22 (Nat.not_lt_zero _)
    | succ N ih23 =>
      intro x7 s10 h8 h9 hI11 hF12 g13 g14 g15 g16 g17 g18 g19 g20 hm22
      have b24 := zv_46_2 hI11 zc_164
      have b25 := zv_46_3 hI11 zc_164
      have b26 := zv_46_5 hI11 zc_164
      have b27 := zv_46_97 hI11 zc_164
      have b28 := zv_46_99 hI11 zc_164
      have b29 := zv_46_101 hI11 zc_164
      refine zt_iload_n (pc' := 3) hX dX12_qTest_2 rfl rfl ?_
      refine zt_ifeq (pc' := 6) (tgt := 110) hX dX12_qTest_3 rfl (by decide) ⟨by omega, by omega⟩ (fun c30 => ?_) (fun c30 => ?_)
      · have L_110_40 : ∀ (N : Nat) (s31 : zSto), zInv s31 → zOn zQ2 σ s31 → (s31 164 5 = 0 → zHt s31 - zBt s31 = zHt σ - zBt σ + 1 ∧ zsq s31 = 0) → (σ 164 2 ≤ s31 164 2 ∧ s31 164 2 ≤ σ 164 3) → s31 164 3 = σ 164 3 → s31 164 101 = σ 164 101 → s31 164 97 + s31 164 99 + σ 164 2 ≤ σ 164 97 + σ 164 99 + s31 164 2 + 1 → (s31 164 5 = 0 → s31 164 97 + s31 164 99 + σ 164 2 ≤ σ 164 97 + σ 164 99 + s31 164 2) → (s31 164 5 = 0 → zt s31 = 1) → ((s31 164 99).toNat) < N → zF X s31 110 [some (.ref (X.1.1 + 164)), none, none] [] := by
          intro N
          induction N with
          | zero =>
            intro s31 hI32 hF33 g34 g35 g36 g37 g38 g39 g40 hm42
            exact absurd hm42 (Nat.not_lt_zero _)
          | succ N ih43 =>
            intro s31 hI32 hF33 g34 g35 g36 g37 g38 g39 g40 hm42
            have b44 := zv_46_2 hI32 zc_164
            have b45 := zv_46_3 hI32 zc_164
            have b46 := zv_46_5 hI32 zc_164
            have b47 := zv_46_97 hI32 zc_164
            have b48 := zv_46_99 hI32 zc_164
            have b49 := zv_46_101 hI32 zc_164
            refine zt_aload_n (pc' := 111) hX dX12_qTest_110 rfl rfl ?_
            have b50 := zv_46_5 hI32 zc_164
            refine zt_get (pc' := 114) (v := .int (zI (s31 164 5))) hX dX12_qTest_111 rfl zf_X12_246 (by decide) zc_164 zs_46 rfl ?_
            refine zt_ifne (pc' := 117) (tgt := 131) hX dX12_qTest_114 rfl (by decide) ⟨by omega, by omega⟩ (fun c51 => ?_) (fun c51 => ?_)
            · exact zt_vret hX hR dX12_qTest_131 ⟨hI32, hF33, by omega, by omega, by omega, by omega, by omega, by omega⟩
            · refine zt_aload_n (pc' := 118) hX dX12_qTest_117 rfl rfl ?_
              have b52 := zv_46_99 hI32 zc_164
              refine zt_get (pc' := 121) (v := .int (zI (s31 164 99))) hX dX12_qTest_118 rfl zf_X12_333 (by decide) zc_164 zs_46 rfl ?_
              refine zt_ifle (pc' := 124) (tgt := 131) hX dX12_qTest_121 rfl (by decide) ⟨by omega, by omega⟩ (fun c53 => ?_) (fun c53 => ?_)
              · exact zt_vret hX hR dX12_qTest_131 ⟨hI32, hF33, by omega, by omega, by omega, by omega, by omega, by omega⟩
              · refine zt_aload_n (pc' := 125) hX dX12_qTest_124 rfl rfl ?_
                have h54 := zsq_top (s := s31) rfl (by omega)
                have h55n := zBt_nn s31
                refine zt_cVv (pc' := 128) hX dX12_qTest_125 rfl zm_yX12_qDrops zw_31_4 zc_164 (by decide) zs_46 (q := (RX12, TX12, 108)) rfl rfl (zc_X12_qDrops_T _ _ s31 hI32 (by omega) (by omega) (by omega) (by omega) (by omega)) rfl rfl (Nat.le_of_ble_eq_true rfl) (by decide) (fun r56 s57 hr58 hp59 => ?_)
                obtain ⟨hI60, hF61, z62, z63⟩ := hp59
                have e64 := hF61 164 2 rfl
                have e65 := hF61 164 3 rfl
                have e66 := hF61 164 5 rfl
                have e67 := hF61 164 101 rfl
                have hF68 := zOn_tr hF33 hF61 zi_52
                have b69 := zv_46_2 hI60 zc_164
                have b70 := zv_46_3 hI60 zc_164
                have b71 := zv_46_5 hI60 zc_164
                have b72 := zv_46_97 hI60 zc_164
                have b73 := zv_46_99 hI60 zc_164
                have b74 := zv_46_101 hI60 zc_164
                refine zt_goto (tgt := 110) hX dX12_qTest_128 (by decide) ?_
                exact ih43 s57 hI60 hF68 (by omega) (by omega) (by omega) (by omega) (by omega) (by omega) (by omega) (by omega)
        refine zt_mask [true, false, false] rfl ?_
        exact L_110_40 _ s10 hI11 hF12 (by omega) (by omega) (by omega) (by omega) (by omega) (by omega) (by omega) (Nat.lt_succ_self _)
      · refine zt_aload_n (pc' := 7) hX dX12_qTest_6 rfl rfl ?_
        have b75 := zv_46_5 hI11 zc_164
        refine zt_get (pc' := 10) (v := .int (zI (s10 164 5))) hX dX12_qTest_7 rfl zf_X12_246 (by decide) zc_164 zs_46 rfl ?_
        refine zt_ifne (pc' := 13) (tgt := 110) hX dX12_qTest_10 rfl (by decide) ⟨by omega, by omega⟩ (fun c76 => ?_) (fun c76 => ?_)
        · have L_110_86 : ∀ (N : Nat) (s77 : zSto), zInv s77 → zOn zQ2 σ s77 → (s77 164 5 = 0 → zHt s77 - zBt s77 = zHt σ - zBt σ + 1 ∧ zsq s77 = 0) → (σ 164 2 ≤ s77 164 2 ∧ s77 164 2 ≤ σ 164 3) → s77 164 3 = σ 164 3 → s77 164 101 = σ 164 101 → s77 164 97 + s77 164 99 + σ 164 2 ≤ σ 164 97 + σ 164 99 + s77 164 2 + 1 → (s77 164 5 = 0 → s77 164 97 + s77 164 99 + σ 164 2 ≤ σ 164 97 + σ 164 99 + s77 164 2) → (s77 164 5 = 0 → zt s77 = 1) → ((s77 164 99).toNat) < N → zF X s77 110 [some (.ref (X.1.1 + 164)), none, none] [] := by
            intro N
            induction N with
            | zero =>
              intro s77 hI78 hF79 g80 g81 g82 g83 g84 g85 g86 hm88
              exact absurd hm88 (Nat.not_lt_zero _)
            | succ N ih89 =>
              intro s77 hI78 hF79 g80 g81 g82 g83 g84 g85 g86 hm88
              have b90 := zv_46_2 hI78 zc_164
              have b91 := zv_46_3 hI78 zc_164
              have b92 := zv_46_5 hI78 zc_164
              have b93 := zv_46_97 hI78 zc_164
              have b94 := zv_46_99 hI78 zc_164
              have b95 := zv_46_101 hI78 zc_164
              refine zt_aload_n (pc' := 111) hX dX12_qTest_110 rfl rfl ?_
              have b96 := zv_46_5 hI78 zc_164
              refine zt_get (pc' := 114) (v := .int (zI (s77 164 5))) hX dX12_qTest_111 rfl zf_X12_246 (by decide) zc_164 zs_46 rfl ?_
              refine zt_ifne (pc' := 117) (tgt := 131) hX dX12_qTest_114 rfl (by decide) ⟨by omega, by omega⟩ (fun c97 => ?_) (fun c97 => ?_)
              · exact zt_vret hX hR dX12_qTest_131 ⟨hI78, hF79, by omega, by omega, by omega, by omega, by omega, by omega⟩
              · refine zt_aload_n (pc' := 118) hX dX12_qTest_117 rfl rfl ?_
                have b98 := zv_46_99 hI78 zc_164
                refine zt_get (pc' := 121) (v := .int (zI (s77 164 99))) hX dX12_qTest_118 rfl zf_X12_333 (by decide) zc_164 zs_46 rfl ?_
                refine zt_ifle (pc' := 124) (tgt := 131) hX dX12_qTest_121 rfl (by decide) ⟨by omega, by omega⟩ (fun c99 => ?_) (fun c99 => ?_)
                · exact zt_vret hX hR dX12_qTest_131 ⟨hI78, hF79, by omega, by omega, by omega, by omega, by omega, by omega⟩
                · refine zt_aload_n (pc' := 125) hX dX12_qTest_124 rfl rfl ?_
                  have h100 := zsq_top (s := s77) rfl (by omega)
                  have h101n := zBt_nn s77
                  refine zt_cVv (pc' := 128) hX dX12_qTest_125 rfl zm_yX12_qDrops zw_31_4 zc_164 (by decide) zs_46 (q := (RX12, TX12, 108)) rfl rfl (zc_X12_qDrops_T _ _ s77 hI78 (by omega) (by omega) (by omega) (by omega) (by omega)) rfl rfl (Nat.le_of_ble_eq_true rfl) (by decide) (fun r102 s103 hr104 hp105 => ?_)
                  obtain ⟨hI106, hF107, z108, z109⟩ := hp105
                  have e110 := hF107 164 2 rfl
                  have e111 := hF107 164 3 rfl
                  have e112 := hF107 164 5 rfl
                  have e113 := hF107 164 101 rfl
                  have hF114 := zOn_tr hF79 hF107 zi_52
                  have b115 := zv_46_2 hI106 zc_164
                  have b116 := zv_46_3 hI106 zc_164
                  have b117 := zv_46_5 hI106 zc_164
                  have b118 := zv_46_97 hI106 zc_164
                  have b119 := zv_46_99 hI106 zc_164
                  have b120 := zv_46_101 hI106 zc_164
                  refine zt_goto (tgt := 110) hX dX12_qTest_128 (by decide) ?_
                  exact ih89 s103 hI106 hF114 (by omega) (by omega) (by omega) (by omega) (by omega) (by omega) (by omega) (by omega)
          refine zt_mask [true, false, false] rfl ?_
          exact L_110_86 _ s10 hI11 hF12 (by omega) (by omega) (by omega) (by omega) (by omega) (by omega) (by omega) (Nat.lt_succ_self _)
        · refine zt_aload_n (pc' := 14) hX dX12_qTest_13 rfl rfl ?_
          refine zt_cVi (pc' := 17) hX dX12_qTest_14 rfl zm_yX12_look zw_26_12 zc_164 (by decide) zs_46 (q := (RX12, TX12, 108)) rfl rfl (zc_X12_look _ _ s10 hI11 ) rfl rfl (Nat.le_of_ble_eq_true rfl) (by decide) (fun r121 s122 hr123 hp124 => ?_)
          obtain ⟨hI125, hF126, q127, q128, z129, z130, z131⟩ := hp124
          obtain ⟨-, w133, w134, w135, -, -, w138, -⟩ := zE_q1 hF126
          have e140 := hF126 164 3 rfl
          have e141 := hF126 164 97 rfl
          have e142 := hF126 164 99 rfl
          have e143 := hF126 164 101 rfl
          have hF144 := zOn_tr hF12 hF126 zi_12
          have b145 := zv_46_2 hI125 zc_164
          have b146 := zv_46_3 hI125 zc_164
          have b147 := zv_46_5 hI125 zc_164
          have b148 := zv_46_97 hI125 zc_164
          have b149 := zv_46_99 hI125 zc_164
          have b150 := zv_46_101 hI125 zc_164
          refine zt_istore_n (pc' := 18) (lv' := [some (.ref (X.1.1 + 164)), some (.int (zI x7)), some (.int (zI r121))]) hX dX12_qTest_17 rfl hL (by decide) rfl ?_
          refine zt_iload_n (pc' := 19) hX dX12_qTest_18 rfl rfl ?_
          refine zt_bipush (pc' := 21) hX dX12_qTest_19 rfl (by decide) (by decide) ?_
          refine zt_icne (pc' := 24) (tgt := 47) hX dX12_qTest_21 rfl (by decide) ⟨by omega, by omega⟩ ⟨by omega, by omega⟩ (fun c151 => ?_) (fun c151 => ?_)
          · refine zt_aload_n (pc' := 48) hX dX12_qTest_47 rfl rfl ?_
            refine zt_aload_n (pc' := 49) hX dX12_qTest_48 rfl rfl ?_
            refine zt_get (pc' := 52) (v := .ref (X.1.1 + 217)) hX dX12_qTest_49 rfl zf_X12_180 (by decide) zc_164 zs_46 (zrf_of (zv_46_79 hI125 zc_164)) ?_
            refine zt_cVz (pc' := 55) hX dX12_qTest_52 rfl zm_yX12_isHere zw_26_8 zc_164 (by decide) zs_46 (q := (RX12, TX12, 108)) rfl rfl (zc_X12_isHere _ _ s122 hI125 217 99 3 zc_217 (by decide) zs_99 (by decide)) rfl rfl (Nat.le_of_ble_eq_true rfl) (by decide) (fun r152 s153 hr154 hp155 => ?_)
            obtain ⟨hI156, hF157, q158, q159, z160, z161, z162⟩ := hp155
            obtain ⟨-, w164, w165, w166, -, -, w169, -⟩ := zE_q1 hF157
            have e171 := hF157 164 3 rfl
            have e172 := hF157 164 97 rfl
            have e173 := hF157 164 99 rfl
            have e174 := hF157 164 101 rfl
            have hF175 := zOn_tr hF144 hF157 zi_12
            have b176 := zv_46_2 hI156 zc_164
            have b177 := zv_46_3 hI156 zc_164
            have b178 := zv_46_5 hI156 zc_164
            have b179 := zv_46_97 hI156 zc_164
            have b180 := zv_46_99 hI156 zc_164
            have b181 := zv_46_101 hI156 zc_164
            refine zt_ifeq (pc' := 58) (tgt := 79) hX dX12_qTest_55 rfl (by decide) ⟨by omega, by omega⟩ (fun c182 => ?_) (fun c182 => ?_)
            · refine zt_aload_n (pc' := 80) hX dX12_qTest_79 rfl rfl ?_
              refine zt_cVv (pc' := 83) hX dX12_qTest_80 rfl zm_yX12_qFact zw_29_14 zc_164 (by decide) zs_46 (q := (RX12, TX12, 108)) rfl rfl (zc_X12_qFact _ _ s153 hI156 (by omega) (by omega) (by omega) (by omega) (by omega)) rfl rfl (Nat.le_of_ble_eq_true rfl) (by decide) (fun r183 s184 hr185 hp186 => ?_)
              obtain ⟨hI187, hF188, z189, z190, z191, z192, z193, z194⟩ := hp186
              have e195 := hF188 164 3 rfl
              have hF196 := zOn_tr hF175 hF188 zi_id
              have b197 := zv_46_2 hI187 zc_164
              have b198 := zv_46_3 hI187 zc_164
              have b199 := zv_46_5 hI187 zc_164
              have b200 := zv_46_97 hI187 zc_164
              have b201 := zv_46_99 hI187 zc_164
              have b202 := zv_46_101 hI187 zc_164
              have h203n := zBt_nn s184
              refine zt_aload_n (pc' := 84) hX dX12_qTest_83 rfl rfl ?_
              refine zt_cVv (pc' := 87) hX dX12_qTest_84 rfl zm_yX12_qDropsNots zw_32_3 zc_164 (by decide) zs_46 (q := (RX12, TX12, 108)) rfl rfl (zc_X12_qDropsNots _ _ s184 hI187 (by omega) (by omega)) rfl rfl (Nat.le_of_ble_eq_true rfl) (by decide) (fun r204 s205 hr206 hp207 => ?_)
              obtain ⟨hI208, hF209, z210, z211, z212⟩ := hp207
              have e213 := hF209 164 2 rfl
              have e214 := hF209 164 3 rfl
              have e215 := hF209 164 5 rfl
              have e216 := hF209 164 101 rfl
              have hF217 := zOn_tr hF196 hF209 zi_52
              have b218 := zv_46_2 hI208 zc_164
              have b219 := zv_46_3 hI208 zc_164
              have b220 := zv_46_5 hI208 zc_164
              have b221 := zv_46_97 hI208 zc_164
              have b222 := zv_46_99 hI208 zc_164
              have b223 := zv_46_101 hI208 zc_164
              refine zt_aload_n (pc' := 88) hX dX12_qTest_87 rfl rfl ?_
              have b224 := zv_46_5 hI208 zc_164
              refine zt_get (pc' := 91) (v := .int (zI (s205 164 5))) hX dX12_qTest_88 rfl zf_X12_246 (by decide) zc_164 zs_46 rfl ?_
              have J_106_240 : ∀ (y225 : Int) (s228 : zSto), 0 ≤ y225 → y225 ≤ 1 → zInv s228 → zOn zQ2 σ s228 → (y225 = 1 → s228 164 5 = 0 ∧ zHt s228 - zBt s228 = zHt σ - zBt σ ∧ s10 164 2 < s228 164 2) → (y225 = 0 ∧ s228 164 5 = 0 → zHt s228 - zBt s228 = zHt σ - zBt σ + 1 ∧ zsq s228 = 0) → s10 164 2 ≤ s228 164 2 → (0 ≤ y225 ∧ y225 ≤ 1) → (σ 164 2 ≤ s228 164 2 ∧ s228 164 2 ≤ σ 164 3) → s228 164 3 = σ 164 3 → s228 164 101 = σ 164 101 → s228 164 97 + s228 164 99 + σ 164 2 ≤ σ 164 97 + σ 164 99 + s228 164 2 + 1 → (s228 164 5 = 0 → s228 164 97 + s228 164 99 + σ 164 2 ≤ σ 164 97 + σ 164 99 + s228 164 2) → (s228 164 5 = 0 → zt s228 = 1) → zF X s228 106 [some (.ref (X.1.1 + 164)), none, none] [.int (zI y225)] := by
                intro y225 s228 h226 h227 hI229 hF230 g231 g232 g233 g234 g235 g236 g237 g238 g239 g240
                have b242 := zv_46_2 hI229 zc_164
                have b243 := zv_46_3 hI229 zc_164
                have b244 := zv_46_5 hI229 zc_164
                have b245 := zv_46_97 hI229 zc_164
                have b246 := zv_46_99 hI229 zc_164
                have b247 := zv_46_101 hI229 zc_164
                refine zt_istore_n (pc' := 107) (lv' := [some (.ref (X.1.1 + 164)), some (.int (zI y225)), none]) hX dX12_qTest_106 rfl hL (by decide) rfl ?_
                refine zt_goto (tgt := 2) hX dX12_qTest_107 (by decide) ?_
                exact ih23 y225 s228 (by omega) (by omega) hI229 hF230 (by omega) (by omega) (by omega) (by omega) (by omega) (by omega) (by omega) (by omega) (by omega)
              have J_105_258 : ∀ (s248 : zSto), zInv s248 → zOn zQ2 σ s248 → (s248 164 5 = 0 → zHt s248 - zBt s248 = zHt σ - zBt σ + 1 ∧ zsq s248 = 0) → s10 164 2 ≤ s248 164 2 → (σ 164 2 ≤ s248 164 2 ∧ s248 164 2 ≤ σ 164 3) → s248 164 3 = σ 164 3 → s248 164 101 = σ 164 101 → s248 164 97 + s248 164 99 + σ 164 2 ≤ σ 164 97 + σ 164 99 + s248 164 2 + 1 → (s248 164 5 = 0 → s248 164 97 + s248 164 99 + σ 164 2 ≤ σ 164 97 + σ 164 99 + s248 164 2) → (s248 164 5 = 0 → zt s248 = 1) → zF X s248 105 [some (.ref (X.1.1 + 164)), none, none] [] := by
                intro s248 hI249 hF250 g251 g252 g253 g254 g255 g256 g257 g258
                have b260 := zv_46_2 hI249 zc_164
                have b261 := zv_46_3 hI249 zc_164
                have b262 := zv_46_5 hI249 zc_164
                have b263 := zv_46_97 hI249 zc_164
                have b264 := zv_46_99 hI249 zc_164
                have b265 := zv_46_101 hI249 zc_164
                refine zt_iconst (pc' := 106) hX dX12_qTest_105 rfl ?_
                exact J_106_240 0 s248 (by omega) (by omega) hI249 hF250 (by omega) (by omega) (by omega) (by omega) (by omega) (by omega) (by omega) (by omega) (by omega) (by omega)
              refine zt_ifne (pc' := 94) (tgt := 105) hX dX12_qTest_91 rfl (by decide) ⟨by omega, by omega⟩ (fun c266 => ?_) (fun c266 => ?_)
              · refine zt_mask [true, false, false] rfl ?_
                exact J_105_258 s205 hI208 hF217 (by omega) (by omega) (by omega) (by omega) (by omega) (by omega) (by omega) (by omega)
              · refine zt_aload_n (pc' := 95) hX dX12_qTest_94 rfl rfl ?_
                refine zt_cVz (pc' := 98) hX dX12_qTest_95 rfl zm_yX12_qGoesOnTest zw_32_7 zc_164 (by decide) zs_46 (q := (RX12, TX12, 108)) rfl rfl (zc_X12_qGoesOnTest _ _ s205 hI208 (by omega) (by omega) (by omega) (by omega) (by omega)) rfl rfl (Nat.le_of_ble_eq_true rfl) (by decide) (fun r267 s268 hr269 hp270 => ?_)
                obtain ⟨hI271, hF272, q273, q274, z275, z276, z277, z278, z279, z280, z281⟩ := hp270
                have e282 := hF272 164 3 rfl
                have hF283 := zOn_tr hF217 hF272 zi_id
                have b284 := zv_46_2 hI271 zc_164
                have b285 := zv_46_3 hI271 zc_164
                have b286 := zv_46_5 hI271 zc_164
                have b287 := zv_46_97 hI271 zc_164
                have b288 := zv_46_99 hI271 zc_164
                have b289 := zv_46_101 hI271 zc_164
                refine zt_ifeq (pc' := 101) (tgt := 105) hX dX12_qTest_98 rfl (by decide) ⟨by omega, by omega⟩ (fun c290 => ?_) (fun c290 => ?_)
                · refine zt_mask [true, false, false] rfl ?_
                  exact J_105_258 s268 hI271 hF283 (by omega) (by omega) (by omega) (by omega) (by omega) (by omega) (by omega) (by omega)
                · refine zt_iconst (pc' := 102) hX dX12_qTest_101 rfl ?_
                  refine zt_goto (tgt := 106) hX dX12_qTest_102 (by decide) ?_
                  refine zt_mask [true, false, false] rfl ?_
                  exact J_106_240 1 s268 (by omega) (by omega) hI271 hF283 (by omega) (by omega) (by omega) (by omega) (by omega) (by omega) (by omega) (by omega) (by omega) (by omega)
            · refine zt_aload_n (pc' := 59) hX dX12_qTest_58 rfl rfl ?_
              refine zt_bipush (pc' := 61) hX dX12_qTest_59 rfl (by decide) (by decide) ?_
              refine zt_aload_n (pc' := 62) hX dX12_qTest_61 rfl rfl ?_
              have b291 := zv_46_2 hI156 zc_164
              refine zt_get (pc' := 65) (v := .int (zI (s153 164 2))) hX dX12_qTest_62 rfl zf_X12_252 (by decide) zc_164 zs_46 rfl ?_
              refine zt_cVv (pc' := 68) hX dX12_qTest_65 rfl zm_yX12_qOpens zw_29_10 zc_164 (by decide) zs_46 (q := (RX12, TX12, 108)) rfl rfl (zc_X12_qOpens_T _ _ s153 hI156 12 ⟨by omega, by omega⟩ (s153 164 2) ⟨by omega, by omega⟩ (by omega) (by omega)) rfl rfl (Nat.le_of_ble_eq_true rfl) (by decide) (fun r292 s293 hr294 hp295 => ?_)
              obtain ⟨hI296, hF297, z298, z299, z300, z301⟩ := hp295
              have e302 := hF297 164 3 rfl
              have hF303 := zOn_tr hF175 hF297 zi_id
              have b304 := zv_46_2 hI296 zc_164
              have b305 := zv_46_3 hI296 zc_164
              have b306 := zv_46_5 hI296 zc_164
              have b307 := zv_46_97 hI296 zc_164
              have b308 := zv_46_99 hI296 zc_164
              have b309 := zv_46_101 hI296 zc_164
              refine zt_aload_n (pc' := 69) hX dX12_qTest_68 rfl rfl ?_
              refine zt_aload_n (pc' := 70) hX dX12_qTest_69 rfl rfl ?_
              refine zt_get (pc' := 73) (v := .ref (X.1.1 + 217)) hX dX12_qTest_70 rfl zf_X12_180 (by decide) zc_164 zs_46 (zrf_of (zv_46_79 hI296 zc_164)) ?_
              refine zt_cVv (pc' := 76) hX dX12_qTest_73 rfl zm_yX12_asks zw_26_0 zc_164 (by decide) zs_46 (q := (RX12, TX12, 108)) rfl rfl (zc_X12_asks _ _ s293 hI296 217 99 3 zc_217 (by decide) zs_99 (by decide)) rfl rfl (Nat.le_of_ble_eq_true rfl) (by decide) (fun r310 s311 hr312 hp313 => ?_)
              obtain ⟨hI314, hF315, z316, z317⟩ := hp313
              obtain ⟨-, w319, w320, w321, -, -, w324, -⟩ := zE_q1 hF315
              have e326 := hF315 164 3 rfl
              have e327 := hF315 164 97 rfl
              have e328 := hF315 164 99 rfl
              have e329 := hF315 164 101 rfl
              have hF330 := zOn_tr hF303 hF315 zi_12
              have b331 := zv_46_2 hI314 zc_164
              have b332 := zv_46_3 hI314 zc_164
              have b333 := zv_46_5 hI314 zc_164
              have b334 := zv_46_97 hI314 zc_164
              have b335 := zv_46_99 hI314 zc_164
              have b336 := zv_46_101 hI314 zc_164
              refine zt_goto (tgt := 2) hX dX12_qTest_76 (by decide) ?_
              refine zt_mask [true, true, false] rfl ?_
              exact ih23 x7 s311 (by omega) (by omega) hI314 hF330 (by omega) (by omega) (by omega) (by omega) (by omega) (by omega) (by omega) (by omega) (by omega)
          · refine zt_aload_n (pc' := 25) hX dX12_qTest_24 rfl rfl ?_
            refine zt_bipush (pc' := 27) hX dX12_qTest_25 rfl (by decide) (by decide) ?_
            refine zt_aload_n (pc' := 28) hX dX12_qTest_27 rfl rfl ?_
            have b337 := zv_46_2 hI125 zc_164
            refine zt_get (pc' := 31) (v := .int (zI (s122 164 2))) hX dX12_qTest_28 rfl zf_X12_252 (by decide) zc_164 zs_46 rfl ?_
            refine zt_cVv (pc' := 34) hX dX12_qTest_31 rfl zm_yX12_qOpens zw_29_10 zc_164 (by decide) zs_46 (q := (RX12, TX12, 108)) rfl rfl (zc_X12_qOpens_T _ _ s122 hI125 25 ⟨by omega, by omega⟩ (s122 164 2) ⟨by omega, by omega⟩ (by omega) (by omega)) rfl rfl (Nat.le_of_ble_eq_true rfl) (by decide) (fun r338 s339 hr340 hp341 => ?_)
            obtain ⟨hI342, hF343, z344, z345, z346, z347⟩ := hp341
            have e348 := hF343 164 3 rfl
            have hF349 := zOn_tr hF144 hF343 zi_id
            have b350 := zv_46_2 hI342 zc_164
            have b351 := zv_46_3 hI342 zc_164
            have b352 := zv_46_5 hI342 zc_164
            have b353 := zv_46_97 hI342 zc_164
            have b354 := zv_46_99 hI342 zc_164
            have b355 := zv_46_101 hI342 zc_164
            refine zt_aload_n (pc' := 35) hX dX12_qTest_34 rfl rfl ?_
            refine zt_dup (pc' := 36) hX dX12_qTest_35 rfl rfl ?_
            have b356 := zv_46_2 hI342 zc_164
            refine zt_get (pc' := 39) (v := .int (zI (s339 164 2))) hX dX12_qTest_36 rfl zf_X12_252 (by decide) zc_164 zs_46 rfl ?_
            refine zt_iconst (pc' := 40) hX dX12_qTest_39 rfl ?_
            refine zt_iadd (pc' := 41) hX dX12_qTest_40 rfl ?_
            refine zt_put (pc' := 44) (x := ((s339 164 2) + 1)) hX dX12_qTest_41 rfl zf_X12_252 (by decide) zc_164 zs_46 (fun q hq => by cases hq; rfl) rfl rfl rfl ?_
            generalize hs358 : zset s339 164 2 ((s339 164 2) + 1) = s357
            have hI359 : zInv s357 := hs358 ▸ zp_46_2 hI342 zc_164 ⟨by omega, by omega⟩
            have hF360 : zOn zQ2 σ s357 := hs358 ▸ zOn_set hF349 (by decide)
            obtain ⟨-, w362, w363, w364, -, -, w367, -⟩ := zE_set hs358 (by decide)
            have e369 : s357 164 2 = ((s339 164 2) + 1) := by rw [← hs358]; exact zset_s
            have e370 : s357 164 3 = s339 164 3 := by rw [← hs358]; exact zset_j (by decide)
            have e371 : s357 164 5 = s339 164 5 := by rw [← hs358]; exact zset_j (by decide)
            have e372 : s357 164 97 = s339 164 97 := by rw [← hs358]; exact zset_j (by decide)
            have e373 : s357 164 99 = s339 164 99 := by rw [← hs358]; exact zset_j (by decide)
            have e374 : s357 164 101 = s339 164 101 := by rw [← hs358]; exact zset_j (by decide)
            refine zt_goto (tgt := 2) hX dX12_qTest_44 (by decide) ?_
            refine zt_mask [true, true, false] rfl ?_
            exact ih23 x7 s357 (by omega) (by omega) hI359 hF360 (by omega) (by omega) (by omega) (by omega) (by omega) (by omega) (by omega) (by omega) (by omega)
  exact L_2_20 _ 1 σ (by omega) (by omega) hI hF (by omega) (by omega) (by omega) (by omega) (by omega) (by omega) (by omega) (by omega) (Nat.lt_succ_self _)
