set_option maxRecDepth 100000 in
set_option maxHeartbeats 4000000 in
theorem zc_X12_qSums (l : Launch) (E : zEN) (σ : zSto) (hI : zInv σ) (hpre0 : σ 164 5 = 0) (hpre1 : σ 164 2 ≤ σ 164 3) (hpre2 : σ 164 97 + σ 164 99 ≤ σ 164 2) (hpre3 : zt σ = 1) (hpre4 : zBt σ ≤ zHt σ) : zCt l E yX12_qSums cX12_qSums 3 none 6 zNC zNC 0 0 σ [.ref (E.1 + 164)] (fun r σ' => zInv σ' ∧ zOn zQ2 σ σ' ∧ (σ' 164 2 ≤ σ 164 3) ∧ (σ 164 2 ≤ σ' 164 2) ∧ (σ' 164 101 = σ 164 101) ∧ (σ' 164 97 + σ' 164 99 + σ 164 2 ≤ σ 164 97 + σ 164 99 + σ' 164 2 + 1) ∧ (σ' 164 5 = 0 → σ' 164 97 + σ' 164 99 + σ 164 2 ≤ σ 164 97 + σ 164 99 + σ' 164 2) ∧ (σ' 164 5 = 0 → zt σ' = 1 ∧ σ' 164 99 = σ 164 99 ∧ zHt σ' - zBt σ' = zHt σ - zBt σ + 1 ∧ zBt σ' = zBt σ ∧ zsq σ' = zsq σ ∧ σ 164 2 < σ' 164 2)) := by
  refine zCt_of2 [some (.ref (E.1 + 164)), none, none] (by decide +kernel) (Nat.le_of_ble_eq_true rfl) rfl ?_
  intro X hE hX hR hL hN
  subst hE
  have hX : zok X cX12_qSums RX12 6 := hX
  have hF := zOn_rf zQ2 σ
  have hbn := zBt_nn σ
  have b1 := zv_46_2 hI zc_164
  have b2 := zv_46_3 hI zc_164
  have b3 := zv_46_5 hI zc_164
  have b4 := zv_46_97 hI zc_164
  have b5 := zv_46_99 hI zc_164
  have b6 := zv_46_101 hI zc_164
  refine zt_aload_n (pc' := 1) hX dX12_qSums_0 rfl rfl ?_
  have b7 := zv_46_101 hI zc_164
  refine zt_get (pc' := 4) (v := .int (zI (σ 164 101))) hX dX12_qSums_1 rfl zf_X12_339 (by decide) zc_164 zs_46 rfl ?_
  refine zt_istore_n (pc' := 5) (lv' := [some (.ref (X.1.1 + 164)), some (.int (zI (σ 164 101))), none]) hX dX12_qSums_4 rfl hL (by decide) rfl ?_
  refine zt_aload_n (pc' := 6) hX dX12_qSums_5 rfl rfl ?_
  refine zt_aload_n (pc' := 7) hX dX12_qSums_6 rfl rfl ?_
  have b8 := zv_46_99 hI zc_164
  refine zt_get (pc' := 10) (v := .int (zI (σ 164 99))) hX dX12_qSums_7 rfl zf_X12_333 (by decide) zc_164 zs_46 rfl ?_
  refine zt_put (pc' := 13) (x := (σ 164 99)) hX dX12_qSums_10 rfl zf_X12_339 (by decide) zc_164 zs_46 (fun q hq => by cases hq; rfl) rfl rfl rfl ?_
  generalize hs10 : zset σ 164 101 (σ 164 99) = s9
  have hI11 : zInv s9 := hs10 ▸ zp_46_101 hI zc_164 ⟨by omega, by omega⟩
  have hF12 : zOn zQ2 σ s9 := hs10 ▸ zOn_set hF (by decide)
  have e13 : s9 164 2 = σ 164 2 := by rw [← hs10]; exact zset_j (by decide)
  have e14 : s9 164 3 = σ 164 3 := by rw [← hs10]; exact zset_j (by decide)
  have e15 : s9 164 5 = σ 164 5 := by rw [← hs10]; exact zset_j (by decide)
  have e16 : s9 164 97 = σ 164 97 := by rw [← hs10]; exact zset_j (by decide)
  have e17 : s9 164 99 = σ 164 99 := by rw [← hs10]; exact zset_j (by decide)
  have e18 : s9 164 101 = (σ 164 99) := by rw [← hs10]; exact zset_s
  have h19 := zbase1 hs10 rfl
  refine zt_iconst (pc' := 14) hX dX12_qSums_13 rfl ?_
  refine zt_istore_n (pc' := 15) (lv' := [some (.ref (X.1.1 + 164)), some (.int (zI (σ 164 101))), some (.int (zI 1))]) hX dX12_qSums_14 rfl hL (by decide) rfl ?_
  have L_15_35 : ∀ (N : Nat) (x20 : Int) (s23 : zSto), 0 ≤ x20 → x20 ≤ 1 → zInv s23 → zOn zQ2 σ s23 → (x20 = 1 → s23 164 5 = 0 ∧ zHt s23 - zBt s23 = zHt σ - zBt σ) → (x20 = 0 ∧ s23 164 5 = 0 → zHt s23 - zBt s23 = zHt σ - zBt σ + 1 ∧ ztb s23 = -1 ∧ σ 164 2 < s23 164 2) → (σ 164 2 ≤ s23 164 2 ∧ s23 164 2 ≤ σ 164 3) → s23 164 3 = σ 164 3 → s23 164 101 = σ 164 99 → s23 164 101 ≤ s23 164 99 → s23 164 97 + s23 164 99 + σ 164 2 ≤ σ 164 97 + σ 164 99 + s23 164 2 + 1 → (s23 164 5 = 0 → s23 164 97 + s23 164 99 + σ 164 2 ≤ σ 164 97 + σ 164 99 + s23 164 2) → (s23 164 5 = 0 → zr s23 = 1) → (zBb s23 = zBt σ ∧ zSb s23 = zsq σ) → ((2 * (1601 - s23 164 2) + x20).toNat) < N → zF X s23 15 [some (.ref (X.1.1 + 164)), some (.int (zI (σ 164 101))), some (.int (zI x20))] [] := by
    intro N
    induction N with
    | zero =>
      intro x20 s23 h21 h22 hI24 hF25 g26 g27 g28 g29 g30 g31 g32 g33 g34 g35 hm37
      exact absurd hm37 (Nat.not_lt_zero _)
    | succ N ih38 =>
      intro x20 s23 h21 h22 hI24 hF25 g26 g27 g28 g29 g30 g31 g32 g33 g34 g35 hm37
      have b39 := zv_46_2 hI24 zc_164
      have b40 := zv_46_3 hI24 zc_164
      have b41 := zv_46_5 hI24 zc_164
      have b42 := zv_46_97 hI24 zc_164
      have b43 := zv_46_99 hI24 zc_164
      have b44 := zv_46_101 hI24 zc_164
      refine zt_iload_n (pc' := 16) hX dX12_qSums_15 rfl rfl ?_
      refine zt_ifeq (pc' := 19) (tgt := 53) hX dX12_qSums_16 rfl (by decide) ⟨by omega, by omega⟩ (fun c45 => ?_) (fun c45 => ?_)
      · have L_53_57 : ∀ (N : Nat) (s46 : zSto), zInv s46 → zOn zQ2 σ s46 → (s46 164 5 = 0 → zHt s46 - zBt s46 = zHt σ - zBt σ + 1 ∧ ztb s46 = -1 ∧ σ 164 2 < s46 164 2) → (σ 164 2 ≤ s46 164 2 ∧ s46 164 2 ≤ σ 164 3) → s46 164 3 = σ 164 3 → s46 164 101 = σ 164 99 → s46 164 101 ≤ s46 164 99 → s46 164 97 + s46 164 99 + σ 164 2 ≤ σ 164 97 + σ 164 99 + s46 164 2 + 1 → (s46 164 5 = 0 → s46 164 97 + s46 164 99 + σ 164 2 ≤ σ 164 97 + σ 164 99 + s46 164 2) → (s46 164 5 = 0 → zr s46 = 1) → (zBb s46 = zBt σ ∧ zSb s46 = zsq σ) → ((s46 164 99).toNat) < N → zF X s46 53 [some (.ref (X.1.1 + 164)), some (.int (zI (σ 164 101))), none] [] := by
          intro N
          induction N with
          | zero =>
            intro s46 hI47 hF48 g49 g50 g51 g52 g53 g54 g55 g56 g57 hm59
            exact absurd hm59 (Nat.not_lt_zero _)
          | succ N ih60 =>
            intro s46 hI47 hF48 g49 g50 g51 g52 g53 g54 g55 g56 g57 hm59
            have b61 := zv_46_2 hI47 zc_164
            have b62 := zv_46_3 hI47 zc_164
            have b63 := zv_46_5 hI47 zc_164
            have b64 := zv_46_97 hI47 zc_164
            have b65 := zv_46_99 hI47 zc_164
            have b66 := zv_46_101 hI47 zc_164
            refine zt_aload_n (pc' := 54) hX dX12_qSums_53 rfl rfl ?_
            have b67 := zv_46_5 hI47 zc_164
            refine zt_get (pc' := 57) (v := .int (zI (s46 164 5))) hX dX12_qSums_54 rfl zf_X12_246 (by decide) zc_164 zs_46 rfl ?_
            have J_78_67 : zF X s46 78 [some (.ref (X.1.1 + 164)), some (.int (zI (σ 164 101))), none] [] := by
              refine zt_aload_n (pc' := 79) hX dX12_qSums_78 rfl rfl ?_
              refine zt_iload_n (pc' := 80) hX dX12_qSums_79 rfl rfl ?_
              refine zt_put (pc' := 83) (x := (σ 164 101)) hX dX12_qSums_80 rfl zf_X12_339 (by decide) zc_164 zs_46 (fun q hq => by cases hq; rfl) rfl rfl rfl ?_
              generalize hs70 : zset s46 164 101 (σ 164 101) = s69
              have hI71 : zInv s69 := hs70 ▸ zp_46_101 hI47 zc_164 ⟨by omega, by omega⟩
              have hF72 : zOn zQ2 σ s69 := hs70 ▸ zOn_set hF48 (by decide)
              have e73 : s69 164 2 = s46 164 2 := by rw [← hs70]; exact zset_j (by decide)
              have e74 : s69 164 3 = s46 164 3 := by rw [← hs70]; exact zset_j (by decide)
              have e75 : s69 164 5 = s46 164 5 := by rw [← hs70]; exact zset_j (by decide)
              have e76 : s69 164 97 = s46 164 97 := by rw [← hs70]; exact zset_j (by decide)
              have e77 : s69 164 99 = s46 164 99 := by rw [← hs70]; exact zset_j (by decide)
              have e78 : s69 164 101 = (σ 164 101) := by rw [← hs70]; exact zset_s
              have h79 := fun (h : s46 164 99 = s46 164 101) => zbase2 hs70 h
              exact zt_vret hX hR dX12_qSums_83 ⟨hI71, hF72, by omega, by omega, by omega, by omega, by omega, by omega⟩
            refine zt_ifne (pc' := 60) (tgt := 78) hX dX12_qSums_57 rfl (by decide) ⟨by omega, by omega⟩ (fun c80 => ?_) (fun c80 => ?_)
            · exact J_78_67
            · refine zt_aload_n (pc' := 61) hX dX12_qSums_60 rfl rfl ?_
              have b81 := zv_46_99 hI47 zc_164
              refine zt_get (pc' := 64) (v := .int (zI (s46 164 99))) hX dX12_qSums_61 rfl zf_X12_333 (by decide) zc_164 zs_46 rfl ?_
              refine zt_aload_n (pc' := 65) hX dX12_qSums_64 rfl rfl ?_
              have b82 := zv_46_101 hI47 zc_164
              refine zt_get (pc' := 68) (v := .int (zI (s46 164 101))) hX dX12_qSums_65 rfl zf_X12_339 (by decide) zc_164 zs_46 rfl ?_
              refine zt_icle (pc' := 71) (tgt := 78) hX dX12_qSums_68 rfl (by decide) ⟨by omega, by omega⟩ ⟨by omega, by omega⟩ (fun c83 => ?_) (fun c83 => ?_)
              · exact J_78_67
              · refine zt_aload_n (pc' := 72) hX dX12_qSums_71 rfl rfl ?_
                have h84 := ztb_top (s := s46) rfl (by omega) (by omega)
                have h84n := zBt_nn s46
                refine zt_cVv (pc' := 75) hX dX12_qSums_72 rfl zm_yX12_qDrops zw_31_4 zc_164 (by decide) zs_46 (q := (RX12, TX12, 108)) rfl rfl (zc_X12_qDrops_S _ _ s46 hI47 (by omega) (by omega) (by omega) (by omega) (by omega)) rfl rfl (Nat.le_of_ble_eq_true rfl) (by decide) (fun r85 s86 hr87 hp88 => ?_)
                obtain ⟨hI89, hF90, z91, z92⟩ := hp88
                have e93 := hF90 164 2 rfl
                have e94 := hF90 164 3 rfl
                have e95 := hF90 164 5 rfl
                have e96 := hF90 164 101 rfl
                have hF97 := zOn_tr hF48 hF90 zi_52
                have b98 := zv_46_2 hI89 zc_164
                have b99 := zv_46_3 hI89 zc_164
                have b100 := zv_46_5 hI89 zc_164
                have b101 := zv_46_97 hI89 zc_164
                have b102 := zv_46_99 hI89 zc_164
                have b103 := zv_46_101 hI89 zc_164
                refine zt_goto (tgt := 53) hX dX12_qSums_75 (by decide) ?_
                exact ih60 s86 hI89 hF97 (by omega) (by omega) (by omega) (by omega) (by omega) (by omega) (by omega) (by omega) (by omega) (by omega)
        refine zt_mask [true, true, false] rfl ?_
        exact L_53_57 _ s23 hI24 hF25 (by omega) (by omega) (by omega) (by omega) (by omega) (by omega) (by omega) (by omega) (by omega) (Nat.lt_succ_self _)
      · refine zt_aload_n (pc' := 20) hX dX12_qSums_19 rfl rfl ?_
        have b104 := zv_46_5 hI24 zc_164
        refine zt_get (pc' := 23) (v := .int (zI (s23 164 5))) hX dX12_qSums_20 rfl zf_X12_246 (by decide) zc_164 zs_46 rfl ?_
        refine zt_ifne (pc' := 26) (tgt := 53) hX dX12_qSums_23 rfl (by decide) ⟨by omega, by omega⟩ (fun c105 => ?_) (fun c105 => ?_)
        · have L_53_117 : ∀ (N : Nat) (s106 : zSto), zInv s106 → zOn zQ2 σ s106 → (s106 164 5 = 0 → zHt s106 - zBt s106 = zHt σ - zBt σ + 1 ∧ ztb s106 = -1 ∧ σ 164 2 < s106 164 2) → (σ 164 2 ≤ s106 164 2 ∧ s106 164 2 ≤ σ 164 3) → s106 164 3 = σ 164 3 → s106 164 101 = σ 164 99 → s106 164 101 ≤ s106 164 99 → s106 164 97 + s106 164 99 + σ 164 2 ≤ σ 164 97 + σ 164 99 + s106 164 2 + 1 → (s106 164 5 = 0 → s106 164 97 + s106 164 99 + σ 164 2 ≤ σ 164 97 + σ 164 99 + s106 164 2) → (s106 164 5 = 0 → zr s106 = 1) → (zBb s106 = zBt σ ∧ zSb s106 = zsq σ) → ((s106 164 99).toNat) < N → zF X s106 53 [some (.ref (X.1.1 + 164)), some (.int (zI (σ 164 101))), none] [] := by
            intro N
            induction N with
            | zero =>
              intro s106 hI107 hF108 g109 g110 g111 g112 g113 g114 g115 g116 g117 hm119
              exact absurd hm119 (Nat.not_lt_zero _)
            | succ N ih120 =>
              intro s106 hI107 hF108 g109 g110 g111 g112 g113 g114 g115 g116 g117 hm119
              have b121 := zv_46_2 hI107 zc_164
              have b122 := zv_46_3 hI107 zc_164
              have b123 := zv_46_5 hI107 zc_164
              have b124 := zv_46_97 hI107 zc_164
              have b125 := zv_46_99 hI107 zc_164
              have b126 := zv_46_101 hI107 zc_164
              refine zt_aload_n (pc' := 54) hX dX12_qSums_53 rfl rfl ?_
              have b127 := zv_46_5 hI107 zc_164
              refine zt_get (pc' := 57) (v := .int (zI (s106 164 5))) hX dX12_qSums_54 rfl zf_X12_246 (by decide) zc_164 zs_46 rfl ?_
              have J_78_127 : zF X s106 78 [some (.ref (X.1.1 + 164)), some (.int (zI (σ 164 101))), none] [] := by
                refine zt_aload_n (pc' := 79) hX dX12_qSums_78 rfl rfl ?_
                refine zt_iload_n (pc' := 80) hX dX12_qSums_79 rfl rfl ?_
                refine zt_put (pc' := 83) (x := (σ 164 101)) hX dX12_qSums_80 rfl zf_X12_339 (by decide) zc_164 zs_46 (fun q hq => by cases hq; rfl) rfl rfl rfl ?_
                generalize hs130 : zset s106 164 101 (σ 164 101) = s129
                have hI131 : zInv s129 := hs130 ▸ zp_46_101 hI107 zc_164 ⟨by omega, by omega⟩
                have hF132 : zOn zQ2 σ s129 := hs130 ▸ zOn_set hF108 (by decide)
                have e133 : s129 164 2 = s106 164 2 := by rw [← hs130]; exact zset_j (by decide)
                have e134 : s129 164 3 = s106 164 3 := by rw [← hs130]; exact zset_j (by decide)
                have e135 : s129 164 5 = s106 164 5 := by rw [← hs130]; exact zset_j (by decide)
                have e136 : s129 164 97 = s106 164 97 := by rw [← hs130]; exact zset_j (by decide)
                have e137 : s129 164 99 = s106 164 99 := by rw [← hs130]; exact zset_j (by decide)
                have e138 : s129 164 101 = (σ 164 101) := by rw [← hs130]; exact zset_s
                have h139 := fun (h : s106 164 99 = s106 164 101) => zbase2 hs130 h
                exact zt_vret hX hR dX12_qSums_83 ⟨hI131, hF132, by omega, by omega, by omega, by omega, by omega, by omega⟩
              refine zt_ifne (pc' := 60) (tgt := 78) hX dX12_qSums_57 rfl (by decide) ⟨by omega, by omega⟩ (fun c140 => ?_) (fun c140 => ?_)
              · exact J_78_127
              · refine zt_aload_n (pc' := 61) hX dX12_qSums_60 rfl rfl ?_
                have b141 := zv_46_99 hI107 zc_164
                refine zt_get (pc' := 64) (v := .int (zI (s106 164 99))) hX dX12_qSums_61 rfl zf_X12_333 (by decide) zc_164 zs_46 rfl ?_
                refine zt_aload_n (pc' := 65) hX dX12_qSums_64 rfl rfl ?_
                have b142 := zv_46_101 hI107 zc_164
                refine zt_get (pc' := 68) (v := .int (zI (s106 164 101))) hX dX12_qSums_65 rfl zf_X12_339 (by decide) zc_164 zs_46 rfl ?_
                refine zt_icle (pc' := 71) (tgt := 78) hX dX12_qSums_68 rfl (by decide) ⟨by omega, by omega⟩ ⟨by omega, by omega⟩ (fun c143 => ?_) (fun c143 => ?_)
                · exact J_78_127
                · refine zt_aload_n (pc' := 72) hX dX12_qSums_71 rfl rfl ?_
                  have h144 := ztb_top (s := s106) rfl (by omega) (by omega)
                  have h144n := zBt_nn s106
                  refine zt_cVv (pc' := 75) hX dX12_qSums_72 rfl zm_yX12_qDrops zw_31_4 zc_164 (by decide) zs_46 (q := (RX12, TX12, 108)) rfl rfl (zc_X12_qDrops_S _ _ s106 hI107 (by omega) (by omega) (by omega) (by omega) (by omega)) rfl rfl (Nat.le_of_ble_eq_true rfl) (by decide) (fun r145 s146 hr147 hp148 => ?_)
                  obtain ⟨hI149, hF150, z151, z152⟩ := hp148
                  have e153 := hF150 164 2 rfl
                  have e154 := hF150 164 3 rfl
                  have e155 := hF150 164 5 rfl
                  have e156 := hF150 164 101 rfl
                  have hF157 := zOn_tr hF108 hF150 zi_52
                  have b158 := zv_46_2 hI149 zc_164
                  have b159 := zv_46_3 hI149 zc_164
                  have b160 := zv_46_5 hI149 zc_164
                  have b161 := zv_46_97 hI149 zc_164
                  have b162 := zv_46_99 hI149 zc_164
                  have b163 := zv_46_101 hI149 zc_164
                  refine zt_goto (tgt := 53) hX dX12_qSums_75 (by decide) ?_
                  exact ih120 s146 hI149 hF157 (by omega) (by omega) (by omega) (by omega) (by omega) (by omega) (by omega) (by omega) (by omega) (by omega)
          refine zt_mask [true, true, false] rfl ?_
          exact L_53_117 _ s23 hI24 hF25 (by omega) (by omega) (by omega) (by omega) (by omega) (by omega) (by omega) (by omega) (by omega) (Nat.lt_succ_self _)
        · refine zt_aload_n (pc' := 27) hX dX12_qSums_26 rfl rfl ?_
          refine zt_cVv (pc' := 30) hX dX12_qSums_27 rfl zm_yX12_qPartTold zw_30_2 zc_164 (by decide) zs_46 (q := (RX12, TX12, 108)) rfl rfl (zc_X12_qPartTold _ _ s23 hI24 (by omega) (by omega) (by omega) (by omega) (by omega) (by omega)) rfl rfl (Nat.le_of_ble_eq_true rfl) (by decide) (fun r164 s165 hr166 hp167 => ?_)
          obtain ⟨hI168, hF169, z170, z171, z172, z173, z174, z175, z176, z177⟩ := hp167
          have e178 := hF169 164 3 rfl
          have hF179 := zOn_tr hF25 hF169 zi_id
          have b180 := zv_46_2 hI168 zc_164
          have b181 := zv_46_3 hI168 zc_164
          have b182 := zv_46_5 hI168 zc_164
          have b183 := zv_46_97 hI168 zc_164
          have b184 := zv_46_99 hI168 zc_164
          have b185 := zv_46_101 hI168 zc_164
          refine zt_aload_n (pc' := 31) hX dX12_qSums_30 rfl rfl ?_
          have b186 := zv_46_5 hI168 zc_164
          refine zt_get (pc' := 34) (v := .int (zI (s165 164 5))) hX dX12_qSums_31 rfl zf_X12_246 (by decide) zc_164 zs_46 rfl ?_
          have J_49_204 : ∀ (y187 : Int) (s190 : zSto), 0 ≤ y187 → y187 ≤ 1 → zInv s190 → zOn zQ2 σ s190 → (y187 = 1 → s190 164 5 = 0 ∧ zHt s190 - zBt s190 = zHt σ - zBt σ ∧ s23 164 2 < s190 164 2) → (y187 = 0 ∧ s190 164 5 = 0 → zHt s190 - zBt s190 = zHt σ - zBt σ + 1 ∧ ztb s190 = -1 ∧ σ 164 2 < s190 164 2) → s23 164 2 ≤ s190 164 2 → (0 ≤ y187 ∧ y187 ≤ 1) → (σ 164 2 ≤ s190 164 2 ∧ s190 164 2 ≤ σ 164 3) → s190 164 3 = σ 164 3 → s190 164 101 = σ 164 99 → s190 164 101 ≤ s190 164 99 → s190 164 97 + s190 164 99 + σ 164 2 ≤ σ 164 97 + σ 164 99 + s190 164 2 + 1 → (s190 164 5 = 0 → s190 164 97 + s190 164 99 + σ 164 2 ≤ σ 164 97 + σ 164 99 + s190 164 2) → (s190 164 5 = 0 → zr s190 = 1) → (zBb s190 = zBt σ ∧ zSb s190 = zsq σ) → zF X s190 49 [some (.ref (X.1.1 + 164)), some (.int (zI (σ 164 101))), none] [.int (zI y187)] := by
            intro y187 s190 h188 h189 hI191 hF192 g193 g194 g195 g196 g197 g198 g199 g200 g201 g202 g203 g204
            have b206 := zv_46_2 hI191 zc_164
            have b207 := zv_46_3 hI191 zc_164
            have b208 := zv_46_5 hI191 zc_164
            have b209 := zv_46_97 hI191 zc_164
            have b210 := zv_46_99 hI191 zc_164
            have b211 := zv_46_101 hI191 zc_164
            refine zt_istore_n (pc' := 50) (lv' := [some (.ref (X.1.1 + 164)), some (.int (zI (σ 164 101))), some (.int (zI y187))]) hX dX12_qSums_49 rfl hL (by decide) rfl ?_
            refine zt_goto (tgt := 15) hX dX12_qSums_50 (by decide) ?_
            exact ih38 y187 s190 (by omega) (by omega) hI191 hF192 (by omega) (by omega) (by omega) (by omega) (by omega) (by omega) (by omega) (by omega) (by omega) (by omega) (by omega)
          have J_48_224 : ∀ (s212 : zSto), zInv s212 → zOn zQ2 σ s212 → (s212 164 5 = 0 → zHt s212 - zBt s212 = zHt σ - zBt σ + 1 ∧ ztb s212 = -1 ∧ σ 164 2 < s212 164 2) → s23 164 2 ≤ s212 164 2 → (σ 164 2 ≤ s212 164 2 ∧ s212 164 2 ≤ σ 164 3) → s212 164 3 = σ 164 3 → s212 164 101 = σ 164 99 → s212 164 101 ≤ s212 164 99 → s212 164 97 + s212 164 99 + σ 164 2 ≤ σ 164 97 + σ 164 99 + s212 164 2 + 1 → (s212 164 5 = 0 → s212 164 97 + s212 164 99 + σ 164 2 ≤ σ 164 97 + σ 164 99 + s212 164 2) → (s212 164 5 = 0 → zr s212 = 1) → (zBb s212 = zBt σ ∧ zSb s212 = zsq σ) → zF X s212 48 [some (.ref (X.1.1 + 164)), some (.int (zI (σ 164 101))), none] [] := by
            intro s212 hI213 hF214 g215 g216 g217 g218 g219 g220 g221 g222 g223 g224
            have b226 := zv_46_2 hI213 zc_164
            have b227 := zv_46_3 hI213 zc_164
            have b228 := zv_46_5 hI213 zc_164
            have b229 := zv_46_97 hI213 zc_164
            have b230 := zv_46_99 hI213 zc_164
            have b231 := zv_46_101 hI213 zc_164
            refine zt_iconst (pc' := 49) hX dX12_qSums_48 rfl ?_
            exact J_49_204 0 s212 (by omega) (by omega) hI213 hF214 (by omega) (by omega) (by omega) (by omega) (by omega) (by omega) (by omega) (by omega) (by omega) (by omega) (by omega) (by omega)
          refine zt_ifne (pc' := 37) (tgt := 48) hX dX12_qSums_34 rfl (by decide) ⟨by omega, by omega⟩ (fun c232 => ?_) (fun c232 => ?_)
          · refine zt_mask [true, true, false] rfl ?_
            exact J_48_224 s165 hI168 hF179 (by omega) (by omega) (by omega) (by omega) (by omega) (by omega) (by omega) (by omega) (by omega) (by omega)
          · refine zt_aload_n (pc' := 38) hX dX12_qSums_37 rfl rfl ?_
            refine zt_cVz (pc' := 41) hX dX12_qSums_38 rfl zm_yX12_qGoesOn zw_31_8 zc_164 (by decide) zs_46 (q := (RX12, TX12, 108)) rfl rfl (zc_X12_qGoesOn _ _ s165 hI168 (by omega) (by omega) (by omega) (by omega) (by omega) (by omega)) rfl rfl (Nat.le_of_ble_eq_true rfl) (by decide) (fun r233 s234 hr235 hp236 => ?_)
            obtain ⟨hI237, hF238, q239, q240, z241, z242, z243, z244, z245, z246, z247, z248, z249⟩ := hp236
            have e250 := hF238 164 3 rfl
            have hF251 := zOn_tr hF179 hF238 zi_id
            have b252 := zv_46_2 hI237 zc_164
            have b253 := zv_46_3 hI237 zc_164
            have b254 := zv_46_5 hI237 zc_164
            have b255 := zv_46_97 hI237 zc_164
            have b256 := zv_46_99 hI237 zc_164
            have b257 := zv_46_101 hI237 zc_164
            refine zt_ifeq (pc' := 44) (tgt := 48) hX dX12_qSums_41 rfl (by decide) ⟨by omega, by omega⟩ (fun c258 => ?_) (fun c258 => ?_)
            · refine zt_mask [true, true, false] rfl ?_
              exact J_48_224 s234 hI237 hF251 (by omega) (by omega) (by omega) (by omega) (by omega) (by omega) (by omega) (by omega) (by omega) (by omega)
            · refine zt_iconst (pc' := 45) hX dX12_qSums_44 rfl ?_
              refine zt_goto (tgt := 49) hX dX12_qSums_45 (by decide) ?_
              refine zt_mask [true, true, false] rfl ?_
              exact J_49_204 1 s234 (by omega) (by omega) hI237 hF251 (by omega) (by omega) (by omega) (by omega) (by omega) (by omega) (by omega) (by omega) (by omega) (by omega) (by omega) (by omega)
  exact L_15_35 _ 1 s9 (by omega) (by omega) hI11 hF12 (by omega) (by omega) (by omega) (by omega) (by omega) (by omega) (by omega) (by omega) (by omega) (by omega) (Nat.lt_succ_self _)

set_option maxRecDepth 100000 in
set_option maxHeartbeats 4000000 in
theorem zc_X12_qFact (l : Launch) (E : zEN) (σ : zSto) (hI : zInv σ) (hpre0 : σ 164 5 = 0) (hpre1 : σ 164 2 ≤ σ 164 3) (hpre2 : σ 164 97 + σ 164 99 ≤ σ 164 2) (hpre3 : zt σ = 1) (hpre4 : zBt σ ≤ zHt σ) : zCt l E yX12_qFact cX12_qFact 2 none 7 zNC zNC 0 0 σ [.ref (E.1 + 164)] (fun r σ' => zInv σ' ∧ zOn zQ2 σ σ' ∧ (σ' 164 2 ≤ σ 164 3) ∧ (σ 164 2 ≤ σ' 164 2) ∧ (σ' 164 101 = σ 164 101) ∧ (σ' 164 97 + σ' 164 99 + σ 164 2 ≤ σ 164 97 + σ 164 99 + σ' 164 2 + 1) ∧ (σ' 164 5 = 0 → σ' 164 97 + σ' 164 99 + σ 164 2 ≤ σ 164 97 + σ 164 99 + σ' 164 2) ∧ (σ' 164 5 = 0 → zt σ' = 1 ∧ σ' 164 99 = σ 164 99 ∧ zHt σ' - zBt σ' = zHt σ - zBt σ + 1 ∧ zBt σ' = zBt σ ∧ zsq σ' = zsq σ ∧ σ 164 2 < σ' 164 2)) := by
  refine zCt_of2 [some (.ref (E.1 + 164)), none] (by decide +kernel) (Nat.le_of_ble_eq_true rfl) rfl ?_
  intro X hE hX hR hL hN
  subst hE
  have hX : zok X cX12_qFact RX12 7 := hX
  have hF := zOn_rf zQ2 σ
  have hbn := zBt_nn σ
  have b1 := zv_46_2 hI zc_164
  have b2 := zv_46_3 hI zc_164
  have b3 := zv_46_5 hI zc_164
  have b4 := zv_46_97 hI zc_164
  have b5 := zv_46_99 hI zc_164
  have b6 := zv_46_101 hI zc_164
  refine zt_aload_n (pc' := 1) hX dX12_qFact_0 rfl rfl ?_
  refine zt_aload_n (pc' := 2) hX dX12_qFact_1 rfl rfl ?_
  refine zt_get (pc' := 5) (v := .ref (X.1.1 + 220)) hX dX12_qFact_2 rfl zf_X12_189 (by decide) zc_164 zs_46 (zrf_of (zv_46_82 hI zc_164)) ?_
  refine zt_cVz (pc' := 8) hX dX12_qFact_5 rfl zm_yX12_takes zw_26_4 zc_164 (by decide) zs_46 (q := (RX12, TX12, 108)) rfl rfl (zc_X12_takes _ _ σ hI 220 102 3 zc_220 (by decide) zs_102 (by decide)) rfl rfl (Nat.le_of_ble_eq_true rfl) (by decide) (fun r7 s8 hr9 hp10 => ?_)
  obtain ⟨hI11, hF12, q13, q14, z15, z16, z17⟩ := hp10
  obtain ⟨-, w19, w20, w21, -, -, w24, -⟩ := zE_q1 hF12
  have e26 := hF12 164 3 rfl
  have e27 := hF12 164 97 rfl
  have e28 := hF12 164 99 rfl
  have e29 := hF12 164 101 rfl
  have hF30 := zOn_tr hF hF12 zi_12
  have b31 := zv_46_2 hI11 zc_164
  have b32 := zv_46_3 hI11 zc_164
  have b33 := zv_46_5 hI11 zc_164
  have b34 := zv_46_97 hI11 zc_164
  have b35 := zv_46_99 hI11 zc_164
  have b36 := zv_46_101 hI11 zc_164
  refine zt_ifeq (pc' := 11) (tgt := 18) hX dX12_qFact_8 rfl (by decide) ⟨by omega, by omega⟩ (fun c37 => ?_) (fun c37 => ?_)
  · refine zt_aload_n (pc' := 19) hX dX12_qFact_18 rfl rfl ?_
    refine zt_cVv (pc' := 22) hX dX12_qFact_19 rfl zm_yX12_qSums zw_29_22 zc_164 (by decide) zs_46 (q := (RX12, TX12, 108)) rfl rfl (zc_X12_qSums _ _ s8 hI11 (by omega) (by omega) (by omega) (by omega) (by omega)) rfl rfl (Nat.le_of_ble_eq_true rfl) (by decide) (fun r38 s39 hr40 hp41 => ?_)
    obtain ⟨hI42, hF43, z44, z45, z46, z47, z48, z49⟩ := hp41
    have e50 := hF43 164 3 rfl
    have hF51 := zOn_tr hF30 hF43 zi_id
    have b52 := zv_46_2 hI42 zc_164
    have b53 := zv_46_3 hI42 zc_164
    have b54 := zv_46_5 hI42 zc_164
    have b55 := zv_46_97 hI42 zc_164
    have b56 := zv_46_99 hI42 zc_164
    have b57 := zv_46_101 hI42 zc_164
    refine zt_aload_n (pc' := 23) hX dX12_qFact_22 rfl rfl ?_
    have b58 := zv_46_5 hI42 zc_164
    refine zt_get (pc' := 26) (v := .int (zI (s39 164 5))) hX dX12_qFact_23 rfl zf_X12_246 (by decide) zc_164 zs_46 rfl ?_
    refine zt_ifeq (pc' := 29) (tgt := 30) hX dX12_qFact_26 rfl (by decide) ⟨by omega, by omega⟩ (fun c59 => ?_) (fun c59 => ?_)
    · refine zt_aload_n (pc' := 31) hX dX12_qFact_30 rfl rfl ?_
      refine zt_cVi (pc' := 34) hX dX12_qFact_31 rfl zm_yX12_look zw_26_12 zc_164 (by decide) zs_46 (q := (RX12, TX12, 108)) rfl rfl (zc_X12_look _ _ s39 hI42 ) rfl rfl (Nat.le_of_ble_eq_true rfl) (by decide) (fun r60 s61 hr62 hp63 => ?_)
      obtain ⟨hI64, hF65, q66, q67, z68, z69, z70⟩ := hp63
      obtain ⟨-, w72, w73, w74, -, -, w77, -⟩ := zE_q1 hF65
      have e79 := hF65 164 3 rfl
      have e80 := hF65 164 97 rfl
      have e81 := hF65 164 99 rfl
      have e82 := hF65 164 101 rfl
      have hF83 := zOn_tr hF51 hF65 zi_12
      have b84 := zv_46_2 hI64 zc_164
      have b85 := zv_46_3 hI64 zc_164
      have b86 := zv_46_5 hI64 zc_164
      have b87 := zv_46_97 hI64 zc_164
      have b88 := zv_46_99 hI64 zc_164
      have b89 := zv_46_101 hI64 zc_164
      refine zt_istore_n (pc' := 35) (lv' := [some (.ref (X.1.1 + 164)), some (.int (zI r60))]) hX dX12_qFact_34 rfl hL (by decide) rfl ?_
      refine zt_iload_n (pc' := 36) hX dX12_qFact_35 rfl rfl ?_
      refine zt_bipush (pc' := 38) hX dX12_qFact_36 rfl (by decide) (by decide) ?_
      have J_63_89 : zF X s61 63 [some (.ref (X.1.1 + 164)), some (.int (zI r60))] [] := by
        refine zt_aload_n (pc' := 64) hX dX12_qFact_63 rfl rfl ?_
        refine zt_dup (pc' := 65) hX dX12_qFact_64 rfl rfl ?_
        have b91 := zv_46_2 hI64 zc_164
        refine zt_get (pc' := 68) (v := .int (zI (s61 164 2))) hX dX12_qFact_65 rfl zf_X12_252 (by decide) zc_164 zs_46 rfl ?_
        refine zt_iconst (pc' := 69) hX dX12_qFact_68 rfl ?_
        refine zt_iadd (pc' := 70) hX dX12_qFact_69 rfl ?_
        refine zt_put (pc' := 73) (x := ((s61 164 2) + 1)) hX dX12_qFact_70 rfl zf_X12_252 (by decide) zc_164 zs_46 (fun q hq => by cases hq; rfl) rfl rfl rfl ?_
        generalize hs93 : zset s61 164 2 ((s61 164 2) + 1) = s92
        have hI94 : zInv s92 := hs93 ▸ zp_46_2 hI64 zc_164 ⟨by omega, by omega⟩
        have hF95 : zOn zQ2 σ s92 := hs93 ▸ zOn_set hF83 (by decide)
        obtain ⟨-, w97, w98, w99, -, -, w102, -⟩ := zE_set hs93 (by decide)
        have e104 : s92 164 2 = ((s61 164 2) + 1) := by rw [← hs93]; exact zset_s
        have e105 : s92 164 3 = s61 164 3 := by rw [← hs93]; exact zset_j (by decide)
        have e106 : s92 164 5 = s61 164 5 := by rw [← hs93]; exact zset_j (by decide)
        have e107 : s92 164 97 = s61 164 97 := by rw [← hs93]; exact zset_j (by decide)
        have e108 : s92 164 99 = s61 164 99 := by rw [← hs93]; exact zset_j (by decide)
        have e109 : s92 164 101 = s61 164 101 := by rw [← hs93]; exact zset_j (by decide)
        refine zt_aload_n (pc' := 74) hX dX12_qFact_73 rfl rfl ?_
        refine zt_cVv (pc' := 77) hX dX12_qFact_74 rfl zm_yX12_qSums zw_29_22 zc_164 (by decide) zs_46 (q := (RX12, TX12, 108)) rfl rfl (zc_X12_qSums _ _ s92 hI94 (by omega) (by omega) (by omega) (by omega) (by omega)) rfl rfl (Nat.le_of_ble_eq_true rfl) (by decide) (fun r110 s111 hr112 hp113 => ?_)
        obtain ⟨hI114, hF115, z116, z117, z118, z119, z120, z121⟩ := hp113
        have e122 := hF115 164 3 rfl
        have hF123 := zOn_tr hF95 hF115 zi_id
        have b124 := zv_46_2 hI114 zc_164
        have b125 := zv_46_3 hI114 zc_164
        have b126 := zv_46_5 hI114 zc_164
        have b127 := zv_46_97 hI114 zc_164
        have b128 := zv_46_99 hI114 zc_164
        have b129 := zv_46_101 hI114 zc_164
        refine zt_aload_n (pc' := 78) hX dX12_qFact_77 rfl rfl ?_
        refine zt_iload_n (pc' := 79) hX dX12_qFact_78 rfl rfl ?_
        refine zt_bipush (pc' := 81) hX dX12_qFact_79 rfl (by decide) (by decide) ?_
        have J_102_132 : ∀ (y130 : Int), 7 ≤ y130 → y130 ≤ 9 → zF X s111 102 [none, none] [.int (zI y130), .ref (X.1.1 + 164)] := by
          intro y130 h131 h132
          refine zt_cVv (pc' := 105) hX dX12_qFact_102 rfl zm_yX12_qCode zw_29_18 zc_164 (by decide) zs_46 (q := (RX12, TX12, 108)) rfl rfl (zc_X12_qCode _ _ s111 hI114 y130 ⟨by omega, by omega⟩ (by omega)) rfl rfl (Nat.le_of_ble_eq_true rfl) (by decide) (fun r134 s135 hr136 hp137 => ?_)
          obtain ⟨hI138, hF139, z140⟩ := hp137
          have e141 := hF139 164 2 rfl
          have e142 := hF139 164 3 rfl
          have e143 := hF139 164 5 rfl
          have e144 := hF139 164 101 rfl
          have hF145 := zOn_tr hF123 hF139 zi_52
          have b146 := zv_46_2 hI138 zc_164
          have b147 := zv_46_3 hI138 zc_164
          have b148 := zv_46_5 hI138 zc_164
          have b149 := zv_46_97 hI138 zc_164
          have b150 := zv_46_99 hI138 zc_164
          have b151 := zv_46_101 hI138 zc_164
          have h152 := zcd_h z140 (by omega)
          have h152r := zcd_ti z140 (by omega)
          have h152f := zcd_f z140
          have h152d := zdb (v := y130) (by omega)
          exact zt_vret hX hR dX12_qFact_105 ⟨hI138, hF145, by omega, by omega, by omega, by omega, by omega, by omega⟩
        refine zt_icne (pc' := 84) (tgt := 89) hX dX12_qFact_81 rfl (by decide) ⟨by omega, by omega⟩ ⟨by omega, by omega⟩ (fun c153 => ?_) (fun c153 => ?_)
        · refine zt_iload_n (pc' := 90) hX dX12_qFact_89 rfl rfl ?_
          refine zt_bipush (pc' := 92) hX dX12_qFact_90 rfl (by decide) (by decide) ?_
          refine zt_icne (pc' := 95) (tgt := 100) hX dX12_qFact_92 rfl (by decide) ⟨by omega, by omega⟩ ⟨by omega, by omega⟩ (fun c154 => ?_) (fun c154 => ?_)
          · refine zt_bipush (pc' := 102) hX dX12_qFact_100 rfl (by decide) (by decide) ?_
            refine zt_mask [false, false] rfl ?_
            exact J_102_132 9 (by omega) (by omega)
          · refine zt_bipush (pc' := 97) hX dX12_qFact_95 rfl (by decide) (by decide) ?_
            refine zt_goto (tgt := 102) hX dX12_qFact_97 (by decide) ?_
            refine zt_mask [false, false] rfl ?_
            exact J_102_132 8 (by omega) (by omega)
        · refine zt_bipush (pc' := 86) hX dX12_qFact_84 rfl (by decide) (by decide) ?_
          refine zt_goto (tgt := 102) hX dX12_qFact_86 (by decide) ?_
          refine zt_mask [false, false] rfl ?_
          exact J_102_132 7 (by omega) (by omega)
      refine zt_iceq (pc' := 41) (tgt := 63) hX dX12_qFact_38 rfl (by decide) ⟨by omega, by omega⟩ ⟨by omega, by omega⟩ (fun c155 => ?_) (fun c155 => ?_)
      · exact J_63_89
      · refine zt_iload_n (pc' := 42) hX dX12_qFact_41 rfl rfl ?_
        refine zt_bipush (pc' := 44) hX dX12_qFact_42 rfl (by decide) (by decide) ?_
        refine zt_iceq (pc' := 47) (tgt := 63) hX dX12_qFact_44 rfl (by decide) ⟨by omega, by omega⟩ ⟨by omega, by omega⟩ (fun c156 => ?_) (fun c156 => ?_)
        · exact J_63_89
        · refine zt_iload_n (pc' := 48) hX dX12_qFact_47 rfl rfl ?_
          refine zt_bipush (pc' := 50) hX dX12_qFact_48 rfl (by decide) (by decide) ?_
          refine zt_iceq (pc' := 53) (tgt := 63) hX dX12_qFact_50 rfl (by decide) ⟨by omega, by omega⟩ ⟨by omega, by omega⟩ (fun c157 => ?_) (fun c157 => ?_)
          · exact J_63_89
          · refine zt_aload_n (pc' := 54) hX dX12_qFact_53 rfl rfl ?_
            refine zt_iconst (pc' := 55) hX dX12_qFact_54 rfl ?_
            refine zt_aload_n (pc' := 56) hX dX12_qFact_55 rfl rfl ?_
            have b158 := zv_46_2 hI64 zc_164
            refine zt_get (pc' := 59) (v := .int (zI (s61 164 2))) hX dX12_qFact_56 rfl zf_X12_252 (by decide) zc_164 zs_46 rfl ?_
            refine zt_cVv (pc' := 62) hX dX12_qFact_59 rfl zm_yX12_fail zw_26_19 zc_164 (by decide) zs_46 (q := (RX12, TX12, 108)) rfl rfl (zc_X12_fail _ _ s61 hI64 1 ⟨by omega, by omega⟩ (s61 164 2) ⟨by omega, by omega⟩) rfl rfl (Nat.le_of_ble_eq_true rfl) (by decide) (fun r159 s160 hr161 hp162 => ?_)
            obtain ⟨hI163, hF164, z165, z166⟩ := hp162
            obtain ⟨-, w168, w169, w170, -, -, w173, -⟩ := zE_q1 hF164
            have e175 := hF164 164 3 rfl
            have e176 := hF164 164 97 rfl
            have e177 := hF164 164 99 rfl
            have e178 := hF164 164 101 rfl
            have hF179 := zOn_tr hF83 hF164 zi_12
            have b180 := zv_46_2 hI163 zc_164
            have b181 := zv_46_3 hI163 zc_164
            have b182 := zv_46_5 hI163 zc_164
            have b183 := zv_46_97 hI163 zc_164
            have b184 := zv_46_99 hI163 zc_164
            have b185 := zv_46_101 hI163 zc_164
            exact zt_vret hX hR dX12_qFact_62 ⟨hI163, hF179, by omega, by omega, by omega, by omega, by omega, by omega⟩
    · exact zt_vret hX hR dX12_qFact_29 ⟨hI42, hF51, by omega, by omega, by omega, by omega, by omega, by omega⟩
  · refine zt_aload_n (pc' := 12) hX dX12_qFact_11 rfl rfl ?_
    refine zt_bipush (pc' := 14) hX dX12_qFact_12 rfl (by decide) (by decide) ?_
    refine zt_cVv (pc' := 17) hX dX12_qFact_14 rfl zm_yX12_qCode zw_29_18 zc_164 (by decide) zs_46 (q := (RX12, TX12, 108)) rfl rfl (zc_X12_qCode _ _ s8 hI11 13 ⟨by omega, by omega⟩ (by omega)) rfl rfl (Nat.le_of_ble_eq_true rfl) (by decide) (fun r186 s187 hr188 hp189 => ?_)
    obtain ⟨hI190, hF191, z192⟩ := hp189
    have e193 := hF191 164 2 rfl
    have e194 := hF191 164 3 rfl
    have e195 := hF191 164 5 rfl
    have e196 := hF191 164 101 rfl
    have hF197 := zOn_tr hF30 hF191 zi_52
    have b198 := zv_46_2 hI190 zc_164
    have b199 := zv_46_3 hI190 zc_164
    have b200 := zv_46_5 hI190 zc_164
    have b201 := zv_46_97 hI190 zc_164
    have b202 := zv_46_99 hI190 zc_164
    have b203 := zv_46_101 hI190 zc_164
    have h204 := zcd_h z192 (by omega)
    have h204r := zcd_ti z192 (by omega)
    have h204f := zcd_f z192
    have h204d := zdo (v := 13) (by omega)
    exact zt_vret hX hR dX12_qFact_17 ⟨hI190, hF197, by omega, by omega, by omega, by omega, by omega, by omega⟩

set_option maxRecDepth 100000 in
set_option maxHeartbeats 4000000 in
theorem zc_X12_qGoesOnTest (l : Launch) (E : zEN) (σ : zSto) (hI : zInv σ) (hpre0 : σ 164 5 = 0) (hpre1 : σ 164 2 ≤ σ 164 3) (hpre2 : σ 164 97 + σ 164 99 ≤ σ 164 2) (hpre3 : zt σ = 1) (hpre4 : zBt σ + 1 ≤ zHt σ) : zCt l E yX12_qGoesOnTest cX12_qGoesOnTest 1 (some .boolean) 3 zNC zNC 0 0 σ [.ref (E.1 + 164)] (fun r σ' => zInv σ' ∧ zOn zQ2 σ σ' ∧ 0 ≤ r ∧ r ≤ 1 ∧ (σ' 164 2 ≤ σ 164 3) ∧ (σ 164 2 ≤ σ' 164 2) ∧ (σ' 164 101 = σ 164 101) ∧ (σ' 164 97 + σ' 164 99 + σ 164 2 ≤ σ 164 97 + σ 164 99 + σ' 164 2) ∧ (r = 1 → σ' 164 5 = 0) ∧ (σ' 164 5 = 0 → zt σ' = 1 ∧ zHt σ' - zBt σ' + r = zHt σ - zBt σ) ∧ (r = 0 ∧ σ' 164 5 = 0 → zsq σ' = 0)) := by
  refine zCt_of2 [some (.ref (E.1 + 164))] (by decide +kernel) (Nat.le_of_ble_eq_true rfl) rfl ?_
  intro X hE hX hR hL hN
  subst hE
  have hX : zok X cX12_qGoesOnTest RX12 3 := hX
  have hF := zOn_rf zQ2 σ
  have b1 := zv_46_2 hI zc_164
  have b2 := zv_46_3 hI zc_164
  have b3 := zv_46_5 hI zc_164
  have b4 := zv_46_97 hI zc_164
  have b5 := zv_46_99 hI zc_164
  have b6 := zv_46_101 hI zc_164
  have L_0_15 : ∀ (N : Nat) (s7 : zSto), zInv s7 → zOn zQ2 σ s7 → (σ 164 2 ≤ s7 164 2 ∧ s7 164 2 ≤ σ 164 3) → s7 164 3 = σ 164 3 → s7 164 101 = σ 164 101 → s7 164 5 = 0 → s7 164 97 + s7 164 99 + σ 164 2 ≤ σ 164 97 + σ 164 99 + s7 164 2 → (zt s7 = 1 ∧ zHt s7 - zBt s7 = zHt σ - zBt σ) → ((1601 - s7 164 2).toNat) < N → zF X s7 0 [some (.ref (X.1.1 + 164))] [] := by
    intro N
    induction N with
    | zero =>
      intro s7 hI8 hF9 g10 g11 g12 g13 g14 g15 hm17
      exact absurd hm17 (Nat.not_lt_zero _)
    | succ N ih18 =>
      intro s7 hI8 hF9 g10 g11 g12 g13 g14 g15 hm17
      have b19 := zv_46_2 hI8 zc_164
      have b20 := zv_46_3 hI8 zc_164
      have b21 := zv_46_5 hI8 zc_164
      have b22 := zv_46_97 hI8 zc_164
      have b23 := zv_46_99 hI8 zc_164
      have b24 := zv_46_101 hI8 zc_164
      refine zt_aload_n (pc' := 1) hX dX12_qGoesOnTest_0 rfl rfl ?_
      have b25 := zv_46_5 hI8 zc_164
      refine zt_get (pc' := 4) (v := .int (zI (s7 164 5))) hX dX12_qGoesOnTest_1 rfl zf_X12_246 (by decide) zc_164 zs_46 rfl ?_
      have J_76_34 : ∀ (s26 : zSto), zInv s26 → zOn zQ2 σ s26 → (σ 164 2 ≤ s26 164 2 ∧ s26 164 2 ≤ σ 164 3) → s26 164 3 = σ 164 3 → s26 164 101 = σ 164 101 → s26 164 5 = 0 → s26 164 97 + s26 164 99 + σ 164 2 ≤ σ 164 97 + σ 164 99 + s26 164 2 → (zt s26 = 1 ∧ zHt s26 - zBt s26 = zHt σ - zBt σ) → zF X s26 76 [some (.ref (X.1.1 + 164))] [] := by
        intro s26 hI27 hF28 g29 g30 g31 g32 g33 g34
        have b36 := zv_46_2 hI27 zc_164
        have b37 := zv_46_3 hI27 zc_164
        have b38 := zv_46_5 hI27 zc_164
        have b39 := zv_46_97 hI27 zc_164
        have b40 := zv_46_99 hI27 zc_164
        have b41 := zv_46_101 hI27 zc_164
        refine zt_aload_n (pc' := 77) hX dX12_qGoesOnTest_76 rfl rfl ?_
        refine zt_aload_n (pc' := 78) hX dX12_qGoesOnTest_77 rfl rfl ?_
        refine zt_get (pc' := 81) (v := .ref (X.1.1 + 218)) hX dX12_qGoesOnTest_78 rfl zf_X12_183 (by decide) zc_164 zs_46 (zrf_of (zv_46_80 hI27 zc_164)) ?_
        refine zt_cVz (pc' := 84) hX dX12_qGoesOnTest_81 rfl zm_yX12_takes zw_26_4 zc_164 (by decide) zs_46 (q := (RX12, TX12, 108)) rfl rfl (zc_X12_takes _ _ s26 hI27 218 100 3 zc_218 (by decide) zs_100 (by decide)) rfl rfl (Nat.le_of_ble_eq_true rfl) (by decide) (fun r42 s43 hr44 hp45 => ?_)
        obtain ⟨hI46, hF47, q48, q49, z50, z51, z52⟩ := hp45
        obtain ⟨-, w54, w55, w56, -, -, w59, -⟩ := zE_q1 hF47
        have e61 := hF47 164 3 rfl
        have e62 := hF47 164 97 rfl
        have e63 := hF47 164 99 rfl
        have e64 := hF47 164 101 rfl
        have hF65 := zOn_tr hF28 hF47 zi_12
        have b66 := zv_46_2 hI46 zc_164
        have b67 := zv_46_3 hI46 zc_164
        have b68 := zv_46_5 hI46 zc_164
        have b69 := zv_46_97 hI46 zc_164
        have b70 := zv_46_99 hI46 zc_164
        have b71 := zv_46_101 hI46 zc_164
        refine zt_ifeq (pc' := 87) (tgt := 126) hX dX12_qGoesOnTest_84 rfl (by decide) ⟨by omega, by omega⟩ (fun c72 => ?_) (fun c72 => ?_)
        · refine zt_aload_n (pc' := 127) hX dX12_qGoesOnTest_126 rfl rfl ?_
          refine zt_aload_n (pc' := 128) hX dX12_qGoesOnTest_127 rfl rfl ?_
          refine zt_get (pc' := 131) (v := .ref (X.1.1 + 219)) hX dX12_qGoesOnTest_128 rfl zf_X12_186 (by decide) zc_164 zs_46 (zrf_of (zv_46_81 hI46 zc_164)) ?_
          refine zt_cVz (pc' := 134) hX dX12_qGoesOnTest_131 rfl zm_yX12_takes zw_26_4 zc_164 (by decide) zs_46 (q := (RX12, TX12, 108)) rfl rfl (zc_X12_takes _ _ s43 hI46 219 101 2 zc_219 (by decide) zs_101 (by decide)) rfl rfl (Nat.le_of_ble_eq_true rfl) (by decide) (fun r73 s74 hr75 hp76 => ?_)
          obtain ⟨hI77, hF78, q79, q80, z81, z82, z83⟩ := hp76
          obtain ⟨-, w85, w86, w87, -, -, w90, -⟩ := zE_q1 hF78
          have e92 := hF78 164 3 rfl
          have e93 := hF78 164 97 rfl
          have e94 := hF78 164 99 rfl
          have e95 := hF78 164 101 rfl
          have hF96 := zOn_tr hF65 hF78 zi_12
          have b97 := zv_46_2 hI77 zc_164
          have b98 := zv_46_3 hI77 zc_164
          have b99 := zv_46_5 hI77 zc_164
          have b100 := zv_46_97 hI77 zc_164
          have b101 := zv_46_99 hI77 zc_164
          have b102 := zv_46_101 hI77 zc_164
          refine zt_ifeq (pc' := 137) (tgt := 185) hX dX12_qGoesOnTest_134 rfl (by decide) ⟨by omega, by omega⟩ (fun c103 => ?_) (fun c103 => ?_)
          · refine zt_aload_n (pc' := 186) hX dX12_qGoesOnTest_185 rfl rfl ?_
            have b104 := zv_46_5 hI77 zc_164
            refine zt_get (pc' := 189) (v := .int (zI (s74 164 5))) hX dX12_qGoesOnTest_186 rfl zf_X12_246 (by decide) zc_164 zs_46 rfl ?_
            refine zt_ifne (pc' := 192) (tgt := 208) hX dX12_qGoesOnTest_189 rfl (by decide) ⟨by omega, by omega⟩ (fun c105 => ?_) (fun c105 => ?_)
            · refine zt_iconst (pc' := 209) hX dX12_qGoesOnTest_208 rfl ?_
              exact zt_zret hX hR dX12_qGoesOnTest_209 ⟨by omega, by omega⟩ ⟨hI77, hF96, by omega, by omega, by omega, by omega, by omega, by omega, by omega, by omega, by omega⟩
            · refine zt_aload_n (pc' := 193) hX dX12_qGoesOnTest_192 rfl rfl ?_
              refine zt_cVz (pc' := 196) hX dX12_qGoesOnTest_193 rfl zm_yX12_qHasSquare zw_32_11 zc_164 (by decide) zs_46 (q := (RX12, TX12, 108)) rfl rfl (zc_X12_qHasSquare _ _ s74 hI77 ) rfl rfl (Nat.le_of_ble_eq_true rfl) (by decide) (fun r106 s107 hr108 hp109 => ?_)
              obtain ⟨rfl, q110, q111, z112⟩ := hp109
              refine zt_ifeq (pc' := 199) (tgt := 208) hX dX12_qGoesOnTest_196 rfl (by decide) ⟨by omega, by omega⟩ (fun c113 => ?_) (fun c113 => ?_)
              · refine zt_iconst (pc' := 209) hX dX12_qGoesOnTest_208 rfl ?_
                exact zt_zret hX hR dX12_qGoesOnTest_209 ⟨by omega, by omega⟩ ⟨hI77, hF96, by omega, by omega, by omega, by omega, by omega, by omega, by omega, by omega, by omega⟩
              · refine zt_aload_n (pc' := 200) hX dX12_qGoesOnTest_199 rfl rfl ?_
                refine zt_iconst (pc' := 201) hX dX12_qGoesOnTest_200 rfl ?_
                refine zt_aload_n (pc' := 202) hX dX12_qGoesOnTest_201 rfl rfl ?_
                have b114 := zv_46_2 hI77 zc_164
                refine zt_get (pc' := 205) (v := .int (zI (s74 164 2))) hX dX12_qGoesOnTest_202 rfl zf_X12_252 (by decide) zc_164 zs_46 rfl ?_
                refine zt_cVv (pc' := 208) hX dX12_qGoesOnTest_205 rfl zm_yX12_fail zw_26_19 zc_164 (by decide) zs_46 (q := (RX12, TX12, 108)) rfl rfl (zc_X12_fail _ _ s74 hI77 1 ⟨by omega, by omega⟩ (s74 164 2) ⟨by omega, by omega⟩) rfl rfl (Nat.le_of_ble_eq_true rfl) (by decide) (fun r115 s116 hr117 hp118 => ?_)
                obtain ⟨hI119, hF120, z121, z122⟩ := hp118
                obtain ⟨-, w124, w125, w126, -, -, w129, -⟩ := zE_q1 hF120
                have e131 := hF120 164 3 rfl
                have e132 := hF120 164 97 rfl
                have e133 := hF120 164 99 rfl
                have e134 := hF120 164 101 rfl
                have hF135 := zOn_tr hF96 hF120 zi_12
                have b136 := zv_46_2 hI119 zc_164
                have b137 := zv_46_3 hI119 zc_164
                have b138 := zv_46_5 hI119 zc_164
                have b139 := zv_46_97 hI119 zc_164
                have b140 := zv_46_99 hI119 zc_164
                have b141 := zv_46_101 hI119 zc_164
                refine zt_iconst (pc' := 209) hX dX12_qGoesOnTest_208 rfl ?_
                exact zt_zret hX hR dX12_qGoesOnTest_209 ⟨by omega, by omega⟩ ⟨hI119, hF135, by omega, by omega, by omega, by omega, by omega, by omega, by omega, by omega, by omega⟩
          · have L_137_151 : ∀ (N : Nat) (s142 : zSto), zInv s142 → zOn zQ2 σ s142 → s142 164 97 + s142 164 99 + σ 164 2 + 1 ≤ σ 164 97 + σ 164 99 + s142 164 2 → (σ 164 2 ≤ s142 164 2 ∧ s142 164 2 ≤ σ 164 3) → s142 164 3 = σ 164 3 → s142 164 101 = σ 164 101 → s142 164 5 = 0 → s142 164 97 + s142 164 99 + σ 164 2 ≤ σ 164 97 + σ 164 99 + s142 164 2 → (zt s142 = 1 ∧ zHt s142 - zBt s142 = zHt σ - zBt σ) → ((s142 164 99).toNat) < N → zF X s142 137 [some (.ref (X.1.1 + 164))] [] := by
              intro N
              induction N with
              | zero =>
                intro s142 hI143 hF144 g145 g146 g147 g148 g149 g150 g151 hm153
                exact absurd hm153 (Nat.not_lt_zero _)
              | succ N ih154 =>
                intro s142 hI143 hF144 g145 g146 g147 g148 g149 g150 g151 hm153
                have b155 := zv_46_2 hI143 zc_164
                have b156 := zv_46_3 hI143 zc_164
                have b157 := zv_46_5 hI143 zc_164
                have b158 := zv_46_97 hI143 zc_164
                have b159 := zv_46_99 hI143 zc_164
                have b160 := zv_46_101 hI143 zc_164
                refine zt_aload_n (pc' := 138) hX dX12_qGoesOnTest_137 rfl rfl ?_
                refine zt_bipush (pc' := 140) hX dX12_qGoesOnTest_138 rfl (by decide) (by decide) ?_
                refine zt_cVz (pc' := 143) hX dX12_qGoesOnTest_140 rfl zm_yX12_qIsOn zw_31_23 zc_164 (by decide) zs_46 (q := (RX12, TX12, 108)) rfl rfl (zc_X12_qIsOn _ _ s142 hI143 10 ⟨by omega, by omega⟩) rfl rfl (Nat.le_of_ble_eq_true rfl) (by decide) (fun r161 s162 hr163 hp164 => ?_)
                obtain ⟨rfl, q165, q166, z167, z168⟩ := hp164
                have J_155_169 : (1 ≤ s142 164 99 ∧ 10 ≤ s142 235 (s142 164 99 - 1).toNat ∧ s142 235 (s142 164 99 - 1).toNat ≤ 11) → zF X s142 155 [some (.ref (X.1.1 + 164))] [] := by
                  intro g169
                  refine zt_aload_n (pc' := 156) hX dX12_qGoesOnTest_155 rfl rfl ?_
                  refine zt_cVv (pc' := 159) hX dX12_qGoesOnTest_156 rfl zm_yX12_qDrops zw_31_4 zc_164 (by decide) zs_46 (q := (RX12, TX12, 108)) rfl rfl (zc_X12_qDrops_T _ _ s142 hI143 (by omega) (by omega) (by omega) (by omega) (by omega)) rfl rfl (Nat.le_of_ble_eq_true rfl) (by decide) (fun r171 s172 hr173 hp174 => ?_)
                  obtain ⟨hI175, hF176, z177, z178⟩ := hp174
                  have e179 := hF176 164 2 rfl
                  have e180 := hF176 164 3 rfl
                  have e181 := hF176 164 5 rfl
                  have e182 := hF176 164 101 rfl
                  have hF183 := zOn_tr hF144 hF176 zi_52
                  have b184 := zv_46_2 hI175 zc_164
                  have b185 := zv_46_3 hI175 zc_164
                  have b186 := zv_46_5 hI175 zc_164
                  have b187 := zv_46_97 hI175 zc_164
                  have b188 := zv_46_99 hI175 zc_164
                  have b189 := zv_46_101 hI175 zc_164
                  refine zt_goto (tgt := 137) hX dX12_qGoesOnTest_159 (by decide) ?_
                  exact ih154 s172 hI175 hF183 (by omega) (by omega) (by omega) (by omega) (by omega) (by omega) (by omega) (by omega)
                refine zt_ifne (pc' := 146) (tgt := 155) hX dX12_qGoesOnTest_143 rfl (by decide) ⟨by omega, by omega⟩ (fun c190 => ?_) (fun c190 => ?_)
                · exact J_155_169 (by omega)
                · refine zt_aload_n (pc' := 147) hX dX12_qGoesOnTest_146 rfl rfl ?_
                  refine zt_bipush (pc' := 149) hX dX12_qGoesOnTest_147 rfl (by decide) (by decide) ?_
                  refine zt_cVz (pc' := 152) hX dX12_qGoesOnTest_149 rfl zm_yX12_qIsOn zw_31_23 zc_164 (by decide) zs_46 (q := (RX12, TX12, 108)) rfl rfl (zc_X12_qIsOn _ _ s142 hI143 11 ⟨by omega, by omega⟩) rfl rfl (Nat.le_of_ble_eq_true rfl) (by decide) (fun r191 s192 hr193 hp194 => ?_)
                  obtain ⟨rfl, q195, q196, z197, z198⟩ := hp194
                  refine zt_ifeq (pc' := 155) (tgt := 162) hX dX12_qGoesOnTest_152 rfl (by decide) ⟨by omega, by omega⟩ (fun c199 => ?_) (fun c199 => ?_)
                  · refine zt_aload_n (pc' := 163) hX dX12_qGoesOnTest_162 rfl rfl ?_
                    refine zt_get (pc' := 166) (v := .ref (X.1.1 + 235)) hX dX12_qGoesOnTest_163 rfl zf_X12_234 (by decide) zc_164 zs_46 (zrf_of (zv_46_98 hI143 zc_164)) ?_
                    refine zt_aload_n (pc' := 167) hX dX12_qGoesOnTest_166 rfl rfl ?_
                    have b200 := zv_46_99 hI143 zc_164
                    refine zt_get (pc' := 170) (v := .int (zI (s142 164 99))) hX dX12_qGoesOnTest_167 rfl zf_X12_333 (by decide) zc_164 zs_46 rfl ?_
                    refine zt_bipush (pc' := 172) hX dX12_qGoesOnTest_170 rfl (by decide) (by decide) ?_
                    refine zt_iast (pc' := 173) hX dX12_qGoesOnTest_172 rfl (by decide) zc_235 zs_117 (by decide) ⟨by omega, by omega⟩ ?_
                    generalize hs202 : zset s142 235 ((s142 164 99).toNat) 11 = s201
                    have hI203 : zInv s201 := hs202 ▸ zp_117 hI143 zc_235 ((s142 164 99).toNat) ⟨by omega, by omega⟩
                    have hF204 : zOn zQ2 σ s201 := hs202 ▸ zOn_set hF144 (zq2_235 (by omega))
                    have e205 : s201 164 2 = s142 164 2 := by rw [← hs202]; exact zset_k (zne_r zc_164 zc_235 (by decide))
                    have e206 : s201 164 3 = s142 164 3 := by rw [← hs202]; exact zset_k (zne_r zc_164 zc_235 (by decide))
                    have e207 : s201 164 5 = s142 164 5 := by rw [← hs202]; exact zset_k (zne_r zc_164 zc_235 (by decide))
                    have e208 : s201 164 97 = s142 164 97 := by rw [← hs202]; exact zset_k (zne_r zc_164 zc_235 (by decide))
                    have e209 : s201 164 99 = s142 164 99 := by rw [← hs202]; exact zset_k (zne_r zc_164 zc_235 (by decide))
                    have e210 : s201 164 101 = s142 164 101 := by rw [← hs202]; exact zset_k (zne_r zc_164 zc_235 (by decide))
                    refine zt_aload_n (pc' := 174) hX dX12_qGoesOnTest_173 rfl rfl ?_
                    refine zt_dup (pc' := 175) hX dX12_qGoesOnTest_174 rfl rfl ?_
                    have b211 := zv_46_99 hI203 zc_164
                    refine zt_get (pc' := 178) (v := .int (zI (s201 164 99))) hX dX12_qGoesOnTest_175 rfl zf_X12_333 (by decide) zc_164 zs_46 rfl ?_
                    refine zt_iconst (pc' := 179) hX dX12_qGoesOnTest_178 rfl ?_
                    refine zt_iadd (pc' := 180) hX dX12_qGoesOnTest_179 rfl ?_
                    refine zt_put (pc' := 183) (x := ((s201 164 99) + 1)) hX dX12_qGoesOnTest_180 rfl zf_X12_333 (by decide) zc_164 zs_46 (fun q hq => by cases hq; rfl) rfl rfl rfl ?_
                    generalize hs213 : zset s201 164 99 ((s201 164 99) + 1) = s212
                    have hI214 : zInv s212 := hs213 ▸ zp_46_99 hI203 zc_164 ⟨by omega, by omega⟩
                    have hF215 : zOn zQ2 σ s212 := hs213 ▸ zOn_set hF204 (by decide)
                    have e216 : s212 164 2 = s201 164 2 := by rw [← hs213]; exact zset_j (by decide)
                    have e217 : s212 164 3 = s201 164 3 := by rw [← hs213]; exact zset_j (by decide)
                    have e218 : s212 164 5 = s201 164 5 := by rw [← hs213]; exact zset_j (by decide)
                    have e219 : s212 164 97 = s201 164 97 := by rw [← hs213]; exact zset_j (by decide)
                    have e220 : s212 164 99 = ((s201 164 99) + 1) := by rw [← hs213]; exact zset_s
                    have e221 : s212 164 101 = s201 164 101 := by rw [← hs213]; exact zset_j (by decide)
                    have h222 := zpush_T hs202 hs213 (by omega) (by omega) (by omega)
                    have h222w := zw_v 11
                    refine zt_iconst (pc' := 184) hX dX12_qGoesOnTest_183 rfl ?_
                    exact zt_zret hX hR dX12_qGoesOnTest_184 ⟨by omega, by omega⟩ ⟨hI214, hF215, by omega, by omega, by omega, by omega, by omega, by omega, by omega, by omega, by omega⟩
                  · exact J_155_169 (by omega)
            exact L_137_151 _ s74 hI77 hF96 (by omega) (by omega) (by omega) (by omega) (by omega) (by omega) (by omega) (Nat.lt_succ_self _)
        · have L_87_232 : ∀ (N : Nat) (s223 : zSto), zInv s223 → zOn zQ2 σ s223 → s223 164 97 + s223 164 99 + σ 164 2 + 1 ≤ σ 164 97 + σ 164 99 + s223 164 2 → (σ 164 2 ≤ s223 164 2 ∧ s223 164 2 ≤ σ 164 3) → s223 164 3 = σ 164 3 → s223 164 101 = σ 164 101 → s223 164 5 = 0 → s223 164 97 + s223 164 99 + σ 164 2 ≤ σ 164 97 + σ 164 99 + s223 164 2 → (zt s223 = 1 ∧ zHt s223 - zBt s223 = zHt σ - zBt σ) → ((s223 164 99).toNat) < N → zF X s223 87 [some (.ref (X.1.1 + 164))] [] := by
            intro N
            induction N with
            | zero =>
              intro s223 hI224 hF225 g226 g227 g228 g229 g230 g231 g232 hm234
              exact absurd hm234 (Nat.not_lt_zero _)
            | succ N ih235 =>
              intro s223 hI224 hF225 g226 g227 g228 g229 g230 g231 g232 hm234
              have b236 := zv_46_2 hI224 zc_164
              have b237 := zv_46_3 hI224 zc_164
              have b238 := zv_46_5 hI224 zc_164
              have b239 := zv_46_97 hI224 zc_164
              have b240 := zv_46_99 hI224 zc_164
              have b241 := zv_46_101 hI224 zc_164
              refine zt_aload_n (pc' := 88) hX dX12_qGoesOnTest_87 rfl rfl ?_
              refine zt_bipush (pc' := 90) hX dX12_qGoesOnTest_88 rfl (by decide) (by decide) ?_
              refine zt_cVz (pc' := 93) hX dX12_qGoesOnTest_90 rfl zm_yX12_qIsOn zw_31_23 zc_164 (by decide) zs_46 (q := (RX12, TX12, 108)) rfl rfl (zc_X12_qIsOn _ _ s223 hI224 10 ⟨by omega, by omega⟩) rfl rfl (Nat.le_of_ble_eq_true rfl) (by decide) (fun r242 s243 hr244 hp245 => ?_)
              obtain ⟨rfl, q246, q247, z248, z249⟩ := hp245
              refine zt_ifeq (pc' := 96) (tgt := 103) hX dX12_qGoesOnTest_93 rfl (by decide) ⟨by omega, by omega⟩ (fun c250 => ?_) (fun c250 => ?_)
              · refine zt_aload_n (pc' := 104) hX dX12_qGoesOnTest_103 rfl rfl ?_
                refine zt_get (pc' := 107) (v := .ref (X.1.1 + 235)) hX dX12_qGoesOnTest_104 rfl zf_X12_234 (by decide) zc_164 zs_46 (zrf_of (zv_46_98 hI224 zc_164)) ?_
                refine zt_aload_n (pc' := 108) hX dX12_qGoesOnTest_107 rfl rfl ?_
                have b251 := zv_46_99 hI224 zc_164
                refine zt_get (pc' := 111) (v := .int (zI (s223 164 99))) hX dX12_qGoesOnTest_108 rfl zf_X12_333 (by decide) zc_164 zs_46 rfl ?_
                refine zt_bipush (pc' := 113) hX dX12_qGoesOnTest_111 rfl (by decide) (by decide) ?_
                refine zt_iast (pc' := 114) hX dX12_qGoesOnTest_113 rfl (by decide) zc_235 zs_117 (by decide) ⟨by omega, by omega⟩ ?_
                generalize hs253 : zset s223 235 ((s223 164 99).toNat) 10 = s252
                have hI254 : zInv s252 := hs253 ▸ zp_117 hI224 zc_235 ((s223 164 99).toNat) ⟨by omega, by omega⟩
                have hF255 : zOn zQ2 σ s252 := hs253 ▸ zOn_set hF225 (zq2_235 (by omega))
                have e256 : s252 164 2 = s223 164 2 := by rw [← hs253]; exact zset_k (zne_r zc_164 zc_235 (by decide))
                have e257 : s252 164 3 = s223 164 3 := by rw [← hs253]; exact zset_k (zne_r zc_164 zc_235 (by decide))
                have e258 : s252 164 5 = s223 164 5 := by rw [← hs253]; exact zset_k (zne_r zc_164 zc_235 (by decide))
                have e259 : s252 164 97 = s223 164 97 := by rw [← hs253]; exact zset_k (zne_r zc_164 zc_235 (by decide))
                have e260 : s252 164 99 = s223 164 99 := by rw [← hs253]; exact zset_k (zne_r zc_164 zc_235 (by decide))
                have e261 : s252 164 101 = s223 164 101 := by rw [← hs253]; exact zset_k (zne_r zc_164 zc_235 (by decide))
                refine zt_aload_n (pc' := 115) hX dX12_qGoesOnTest_114 rfl rfl ?_
                refine zt_dup (pc' := 116) hX dX12_qGoesOnTest_115 rfl rfl ?_
                have b262 := zv_46_99 hI254 zc_164
                refine zt_get (pc' := 119) (v := .int (zI (s252 164 99))) hX dX12_qGoesOnTest_116 rfl zf_X12_333 (by decide) zc_164 zs_46 rfl ?_
                refine zt_iconst (pc' := 120) hX dX12_qGoesOnTest_119 rfl ?_
                refine zt_iadd (pc' := 121) hX dX12_qGoesOnTest_120 rfl ?_
                refine zt_put (pc' := 124) (x := ((s252 164 99) + 1)) hX dX12_qGoesOnTest_121 rfl zf_X12_333 (by decide) zc_164 zs_46 (fun q hq => by cases hq; rfl) rfl rfl rfl ?_
                generalize hs264 : zset s252 164 99 ((s252 164 99) + 1) = s263
                have hI265 : zInv s263 := hs264 ▸ zp_46_99 hI254 zc_164 ⟨by omega, by omega⟩
                have hF266 : zOn zQ2 σ s263 := hs264 ▸ zOn_set hF255 (by decide)
                have e267 : s263 164 2 = s252 164 2 := by rw [← hs264]; exact zset_j (by decide)
                have e268 : s263 164 3 = s252 164 3 := by rw [← hs264]; exact zset_j (by decide)
                have e269 : s263 164 5 = s252 164 5 := by rw [← hs264]; exact zset_j (by decide)
                have e270 : s263 164 97 = s252 164 97 := by rw [← hs264]; exact zset_j (by decide)
                have e271 : s263 164 99 = ((s252 164 99) + 1) := by rw [← hs264]; exact zset_s
                have e272 : s263 164 101 = s252 164 101 := by rw [← hs264]; exact zset_j (by decide)
                have h273 := zpush_T hs253 hs264 (by omega) (by omega) (by omega)
                have h273w := zw_v 10
                refine zt_iconst (pc' := 125) hX dX12_qGoesOnTest_124 rfl ?_
                exact zt_zret hX hR dX12_qGoesOnTest_125 ⟨by omega, by omega⟩ ⟨hI265, hF266, by omega, by omega, by omega, by omega, by omega, by omega, by omega, by omega, by omega⟩
              · refine zt_aload_n (pc' := 97) hX dX12_qGoesOnTest_96 rfl rfl ?_
                refine zt_cVv (pc' := 100) hX dX12_qGoesOnTest_97 rfl zm_yX12_qDrops zw_31_4 zc_164 (by decide) zs_46 (q := (RX12, TX12, 108)) rfl rfl (zc_X12_qDrops_T _ _ s223 hI224 (by omega) (by omega) (by omega) (by omega) (by omega)) rfl rfl (Nat.le_of_ble_eq_true rfl) (by decide) (fun r274 s275 hr276 hp277 => ?_)
                obtain ⟨hI278, hF279, z280, z281⟩ := hp277
                have e282 := hF279 164 2 rfl
                have e283 := hF279 164 3 rfl
                have e284 := hF279 164 5 rfl
                have e285 := hF279 164 101 rfl
                have hF286 := zOn_tr hF225 hF279 zi_52
                have b287 := zv_46_2 hI278 zc_164
                have b288 := zv_46_3 hI278 zc_164
                have b289 := zv_46_5 hI278 zc_164
                have b290 := zv_46_97 hI278 zc_164
                have b291 := zv_46_99 hI278 zc_164
                have b292 := zv_46_101 hI278 zc_164
                refine zt_goto (tgt := 87) hX dX12_qGoesOnTest_100 (by decide) ?_
                exact ih235 s275 hI278 hF286 (by omega) (by omega) (by omega) (by omega) (by omega) (by omega) (by omega) (by omega)
          exact L_87_232 _ s43 hI46 hF65 (by omega) (by omega) (by omega) (by omega) (by omega) (by omega) (by omega) (Nat.lt_succ_self _)
      refine zt_ifne (pc' := 7) (tgt := 76) hX dX12_qGoesOnTest_4 rfl (by decide) ⟨by omega, by omega⟩ (fun c293 => ?_) (fun c293 => ?_)
      · exact J_76_34 s7 hI8 hF9 (by omega) (by omega) (by omega) (by omega) (by omega) (by omega)
      · refine zt_aload_n (pc' := 8) hX dX12_qGoesOnTest_7 rfl rfl ?_
        refine zt_cVi (pc' := 11) hX dX12_qGoesOnTest_8 rfl zm_yX12_look zw_26_12 zc_164 (by decide) zs_46 (q := (RX12, TX12, 108)) rfl rfl (zc_X12_look _ _ s7 hI8 ) rfl rfl (Nat.le_of_ble_eq_true rfl) (by decide) (fun r294 s295 hr296 hp297 => ?_)
        obtain ⟨hI298, hF299, q300, q301, z302, z303, z304⟩ := hp297
        obtain ⟨-, w306, w307, w308, -, -, w311, -⟩ := zE_q1 hF299
        have e313 := hF299 164 3 rfl
        have e314 := hF299 164 97 rfl
        have e315 := hF299 164 99 rfl
        have e316 := hF299 164 101 rfl
        have hF317 := zOn_tr hF9 hF299 zi_12
        have b318 := zv_46_2 hI298 zc_164
        have b319 := zv_46_3 hI298 zc_164
        have b320 := zv_46_5 hI298 zc_164
        have b321 := zv_46_97 hI298 zc_164
        have b322 := zv_46_99 hI298 zc_164
        have b323 := zv_46_101 hI298 zc_164
        refine zt_bipush (pc' := 13) hX dX12_qGoesOnTest_11 rfl (by decide) (by decide) ?_
        refine zt_icne (pc' := 16) (tgt := 76) hX dX12_qGoesOnTest_13 rfl (by decide) ⟨by omega, by omega⟩ ⟨by omega, by omega⟩ (fun c324 => ?_) (fun c324 => ?_)
        · exact J_76_34 s295 hI298 hF317 (by omega) (by omega) (by omega) (by omega) (by omega) (by omega)
        · refine zt_aload_n (pc' := 17) hX dX12_qGoesOnTest_16 rfl rfl ?_
          refine zt_cVz (pc' := 20) hX dX12_qGoesOnTest_17 rfl zm_yX12_qHasSquare zw_32_11 zc_164 (by decide) zs_46 (q := (RX12, TX12, 108)) rfl rfl (zc_X12_qHasSquare _ _ s295 hI298 ) rfl rfl (Nat.le_of_ble_eq_true rfl) (by decide) (fun r325 s326 hr327 hp328 => ?_)
          obtain ⟨rfl, q329, q330, z331⟩ := hp328
          refine zt_ifeq (pc' := 23) (tgt := 76) hX dX12_qGoesOnTest_20 rfl (by decide) ⟨by omega, by omega⟩ (fun c332 => ?_) (fun c332 => ?_)
          · exact J_76_34 s295 hI298 hF317 (by omega) (by omega) (by omega) (by omega) (by omega) (by omega)
          · refine zt_aload_n (pc' := 24) hX dX12_qGoesOnTest_23 rfl rfl ?_
            refine zt_dup (pc' := 25) hX dX12_qGoesOnTest_24 rfl rfl ?_
            have b333 := zv_46_2 hI298 zc_164
            refine zt_get (pc' := 28) (v := .int (zI (s295 164 2))) hX dX12_qGoesOnTest_25 rfl zf_X12_252 (by decide) zc_164 zs_46 rfl ?_
            refine zt_iconst (pc' := 29) hX dX12_qGoesOnTest_28 rfl ?_
            refine zt_iadd (pc' := 30) hX dX12_qGoesOnTest_29 rfl ?_
            refine zt_put (pc' := 33) (x := ((s295 164 2) + 1)) hX dX12_qGoesOnTest_30 rfl zf_X12_252 (by decide) zc_164 zs_46 (fun q hq => by cases hq; rfl) rfl rfl rfl ?_
            generalize hs335 : zset s295 164 2 ((s295 164 2) + 1) = s334
            have hI336 : zInv s334 := hs335 ▸ zp_46_2 hI298 zc_164 ⟨by omega, by omega⟩
            have hF337 : zOn zQ2 σ s334 := hs335 ▸ zOn_set hF317 (by decide)
            obtain ⟨-, w339, w340, w341, -, -, w344, -⟩ := zE_set hs335 (by decide)
            have e346 : s334 164 2 = ((s295 164 2) + 1) := by rw [← hs335]; exact zset_s
            have e347 : s334 164 3 = s295 164 3 := by rw [← hs335]; exact zset_j (by decide)
            have e348 : s334 164 5 = s295 164 5 := by rw [← hs335]; exact zset_j (by decide)
            have e349 : s334 164 97 = s295 164 97 := by rw [← hs335]; exact zset_j (by decide)
            have e350 : s334 164 99 = s295 164 99 := by rw [← hs335]; exact zset_j (by decide)
            have e351 : s334 164 101 = s295 164 101 := by rw [← hs335]; exact zset_j (by decide)
            have L_33_362 : ∀ (N : Nat) (s352 : zSto), zInv s352 → zOn zQ2 σ s352 → zsq s352 = 1 → s7 164 2 < s352 164 2 → (σ 164 2 ≤ s352 164 2 ∧ s352 164 2 ≤ σ 164 3) → s352 164 3 = σ 164 3 → s352 164 101 = σ 164 101 → s352 164 5 = 0 → s352 164 97 + s352 164 99 + σ 164 2 ≤ σ 164 97 + σ 164 99 + s352 164 2 → (zt s352 = 1 ∧ zHt s352 - zBt s352 = zHt σ - zBt σ) → ((s352 164 99).toNat) < N → zF X s352 33 [some (.ref (X.1.1 + 164))] [] := by
              intro N
              induction N with
              | zero =>
                intro s352 hI353 hF354 g355 g356 g357 g358 g359 g360 g361 g362 hm364
                exact absurd hm364 (Nat.not_lt_zero _)
              | succ N ih365 =>
                intro s352 hI353 hF354 g355 g356 g357 g358 g359 g360 g361 g362 hm364
                have b366 := zv_46_2 hI353 zc_164
                have b367 := zv_46_3 hI353 zc_164
                have b368 := zv_46_5 hI353 zc_164
                have b369 := zv_46_97 hI353 zc_164
                have b370 := zv_46_99 hI353 zc_164
                have b371 := zv_46_101 hI353 zc_164
                refine zt_aload_n (pc' := 34) hX dX12_qGoesOnTest_33 rfl rfl ?_
                refine zt_bipush (pc' := 36) hX dX12_qGoesOnTest_34 rfl (by decide) (by decide) ?_
                have h372 : s352 164 99 ≤ 0 → zsq s352 = 0 := fun h => (zsq_0 h).1
                refine zt_cVz (pc' := 39) hX dX12_qGoesOnTest_36 rfl zm_yX12_qIsOn zw_31_23 zc_164 (by decide) zs_46 (q := (RX12, TX12, 108)) rfl rfl (zc_X12_qIsOn _ _ s352 hI353 25 ⟨by omega, by omega⟩) rfl rfl (Nat.le_of_ble_eq_true rfl) (by decide) (fun r373 s374 hr375 hp376 => ?_)
                obtain ⟨rfl, q377, q378, z379, z380⟩ := hp376
                refine zt_ifne (pc' := 42) (tgt := 49) hX dX12_qGoesOnTest_39 rfl (by decide) ⟨by omega, by omega⟩ (fun c381 => ?_) (fun c381 => ?_)
                · refine zt_aload_n (pc' := 50) hX dX12_qGoesOnTest_49 rfl rfl ?_
                  refine zt_dup (pc' := 51) hX dX12_qGoesOnTest_50 rfl rfl ?_
                  have b382 := zv_46_99 hI353 zc_164
                  refine zt_get (pc' := 54) (v := .int (zI (s352 164 99))) hX dX12_qGoesOnTest_51 rfl zf_X12_333 (by decide) zc_164 zs_46 rfl ?_
                  refine zt_iconst (pc' := 55) hX dX12_qGoesOnTest_54 rfl ?_
                  refine zt_isub (pc' := 56) hX dX12_qGoesOnTest_55 rfl ?_
                  refine zt_put (pc' := 59) (x := ((s352 164 99) - 1)) hX dX12_qGoesOnTest_56 rfl zf_X12_333 (by decide) zc_164 zs_46 (fun q hq => by cases hq; rfl) rfl rfl rfl ?_
                  generalize hs384 : zset s352 164 99 ((s352 164 99) - 1) = s383
                  have hI385 : zInv s383 := hs384 ▸ zp_46_99 hI353 zc_164 ⟨by omega, by omega⟩
                  have hF386 : zOn zQ2 σ s383 := hs384 ▸ zOn_set hF354 (by decide)
                  have e387 : s383 164 2 = s352 164 2 := by rw [← hs384]; exact zset_j (by decide)
                  have e388 : s383 164 3 = s352 164 3 := by rw [← hs384]; exact zset_j (by decide)
                  have e389 : s383 164 5 = s352 164 5 := by rw [← hs384]; exact zset_j (by decide)
                  have e390 : s383 164 97 = s352 164 97 := by rw [← hs384]; exact zset_j (by decide)
                  have e391 : s383 164 99 = ((s352 164 99) - 1) := by rw [← hs384]; exact zset_s
                  have e392 : s383 164 101 = s352 164 101 := by rw [← hs384]; exact zset_j (by decide)
                  have h393 := zpop hs384 rfl (by omega) (by omega)
                  have h393w := zw_v (s352 235 (s352 164 99 - 1).toNat)
                  refine zt_aload_n (pc' := 60) hX dX12_qGoesOnTest_59 rfl rfl ?_
                  refine zt_dup (pc' := 61) hX dX12_qGoesOnTest_60 rfl rfl ?_
                  have b394 := zv_46_100 hI385 zc_164
                  have e395 : s383 164 100 = s352 164 100 := by rw [← hs384]; exact zset_j (by decide)
                  refine zt_get (pc' := 64) (v := .int (zI (s383 164 100))) hX dX12_qGoesOnTest_61 rfl zf_X12_336 (by decide) zc_164 zs_46 rfl ?_
                  refine zt_iconst (pc' := 65) hX dX12_qGoesOnTest_64 rfl ?_
                  refine zt_isub (pc' := 66) hX dX12_qGoesOnTest_65 rfl ?_
                  refine zt_wrap (fun r396 zr396 lr396 ur396 => ?_)
                  clear zr396
                  refine zt_put (pc' := 69) (x := r396) hX dX12_qGoesOnTest_66 rfl zf_X12_336 (by decide) zc_164 zs_46 (fun q hq => by cases hq; rfl) rfl rfl rfl ?_
                  generalize hs398 : zset s383 164 100 r396 = s397
                  have hI399 : zInv s397 := hs398 ▸ zp_46_100 hI385 zc_164 ⟨by omega, by omega⟩
                  have hF400 : zOn zQ2 σ s397 := hs398 ▸ zOn_set hF386 (by decide)
                  obtain ⟨-, w402, w403, w404, -, -, w407, -⟩ := zE_set hs398 (by decide)
                  have e409 : s397 164 2 = s383 164 2 := by rw [← hs398]; exact zset_j (by decide)
                  have e410 : s397 164 3 = s383 164 3 := by rw [← hs398]; exact zset_j (by decide)
                  have e411 : s397 164 5 = s383 164 5 := by rw [← hs398]; exact zset_j (by decide)
                  have e412 : s397 164 97 = s383 164 97 := by rw [← hs398]; exact zset_j (by decide)
                  have e413 : s397 164 99 = s383 164 99 := by rw [← hs398]; exact zset_j (by decide)
                  have e414 : s397 164 101 = s383 164 101 := by rw [← hs398]; exact zset_j (by decide)
                  refine zt_aload_n (pc' := 70) hX dX12_qGoesOnTest_69 rfl rfl ?_
                  refine zt_cVv (pc' := 73) hX dX12_qGoesOnTest_70 rfl zm_yX12_qDropsNots zw_32_3 zc_164 (by decide) zs_46 (q := (RX12, TX12, 108)) rfl rfl (zc_X12_qDropsNots _ _ s397 hI399 (by omega) (by omega)) rfl rfl (Nat.le_of_ble_eq_true rfl) (by decide) (fun r415 s416 hr417 hp418 => ?_)
                  obtain ⟨hI419, hF420, z421, z422, z423⟩ := hp418
                  have e424 := hF420 164 2 rfl
                  have e425 := hF420 164 3 rfl
                  have e426 := hF420 164 5 rfl
                  have e427 := hF420 164 101 rfl
                  have hF428 := zOn_tr hF400 hF420 zi_52
                  have b429 := zv_46_2 hI419 zc_164
                  have b430 := zv_46_3 hI419 zc_164
                  have b431 := zv_46_5 hI419 zc_164
                  have b432 := zv_46_97 hI419 zc_164
                  have b433 := zv_46_99 hI419 zc_164
                  have b434 := zv_46_101 hI419 zc_164
                  refine zt_goto (tgt := 0) hX dX12_qGoesOnTest_73 (by decide) ?_
                  exact ih18 s416 hI419 hF428 (by omega) (by omega) (by omega) (by omega) (by omega) (by omega) (by omega)
                · refine zt_aload_n (pc' := 43) hX dX12_qGoesOnTest_42 rfl rfl ?_
                  refine zt_cVv (pc' := 46) hX dX12_qGoesOnTest_43 rfl zm_yX12_qDrops zw_31_4 zc_164 (by decide) zs_46 (q := (RX12, TX12, 108)) rfl rfl (zc_X12_qDrops_T _ _ s352 hI353 (by omega) (by omega) (by omega) (by omega) (by omega)) rfl rfl (Nat.le_of_ble_eq_true rfl) (by decide) (fun r435 s436 hr437 hp438 => ?_)
                  obtain ⟨hI439, hF440, z441, z442⟩ := hp438
                  have e443 := hF440 164 2 rfl
                  have e444 := hF440 164 3 rfl
                  have e445 := hF440 164 5 rfl
                  have e446 := hF440 164 101 rfl
                  have hF447 := zOn_tr hF354 hF440 zi_52
                  have b448 := zv_46_2 hI439 zc_164
                  have b449 := zv_46_3 hI439 zc_164
                  have b450 := zv_46_5 hI439 zc_164
                  have b451 := zv_46_97 hI439 zc_164
                  have b452 := zv_46_99 hI439 zc_164
                  have b453 := zv_46_101 hI439 zc_164
                  refine zt_goto (tgt := 33) hX dX12_qGoesOnTest_46 (by decide) ?_
                  exact ih365 s436 hI439 hF447 (by omega) (by omega) (by omega) (by omega) (by omega) (by omega) (by omega) (by omega) (by omega)
            exact L_33_362 _ s334 hI336 hF337 (by omega) (by omega) (by omega) (by omega) (by omega) (by omega) (by omega) (by omega) (Nat.lt_succ_self _)
  exact L_0_15 _ σ hI hF (by omega) (by omega) (by omega) (by omega) (by omega) (by omega) (Nat.lt_succ_self _)

set_option maxRecDepth 100000 in
set_option maxHeartbeats 4000000 in
theorem zc_X12_qTest (l : Launch) (E : zEN) (σ : zSto) (hI : zInv σ) (hpre0 : σ 164 5 = 0) (hpre1 : σ 164 2 ≤ σ 164 3) (hpre2 : σ 164 97 + σ 164 99 ≤ σ 164 2) (hpre3 : zt σ = 1) (hpre4 : zBt σ ≤ zHt σ) : zCt l E yX12_qTest cX12_qTest 3 none 8 zNC zNC 0 0 σ [.ref (E.1 + 164)] (fun r σ' => zInv σ' ∧ zOn zQ2 σ σ' ∧ (σ' 164 2 ≤ σ 164 3) ∧ (σ 164 2 ≤ σ' 164 2) ∧ (σ' 164 101 = σ 164 101) ∧ (σ' 164 97 + σ' 164 99 + σ 164 2 ≤ σ 164 97 + σ 164 99 + σ' 164 2 + 1) ∧ (σ' 164 5 = 0 → σ' 164 97 + σ' 164 99 + σ 164 2 ≤ σ 164 97 + σ 164 99 + σ' 164 2) ∧ (σ' 164 5 = 0 → zt σ' = 1)) := by
  refine zCt_of2 [some (.ref (E.1 + 164)), none, none] (by decide +kernel) (Nat.le_of_ble_eq_true rfl) rfl ?_
  intro X hE hX hR hL hN
  subst hE
  have hX : zok X cX12_qTest RX12 8 := hX
  have hF := zOn_rf zQ2 σ
  have hbn := zBt_nn σ
  have b1 := zv_46_2 hI zc_164
  have b2 := zv_46_3 hI zc_164
  have b3 := zv_46_5 hI zc_164
  have b4 := zv_46_97 hI zc_164
  have b5 := zv_46_99 hI zc_164
  have b6 := zv_46_101 hI zc_164
  refine zt_iconst (pc' := 1) hX dX12_qTest_0 rfl ?_
  refine zt_istore_n (pc' := 2) (lv' := [some (.ref (X.1.1 + 164)), some (.int (zI 1)), none]) hX dX12_qTest_1 rfl hL (by decide) rfl ?_
  have L_2_20 : ∀ (N : Nat) (x7 : Int) (s10 : zSto), 0 ≤ x7 → x7 ≤ 1 → zInv s10 → zOn zQ2 σ s10 → (x7 = 1 ∧ s10 164 5 = 0 → zHt s10 - zBt s10 = zHt σ - zBt σ) → (x7 = 0 ∧ s10 164 5 = 0 → zHt s10 - zBt s10 = zHt σ - zBt σ + 1 ∧ zsq s10 = 0) → (σ 164 2 ≤ s10 164 2 ∧ s10 164 2 ≤ σ 164 3) → s10 164 3 = σ 164 3 → s10 164 101 = σ 164 101 → s10 164 97 + s10 164 99 + σ 164 2 ≤ σ 164 97 + σ 164 99 + s10 164 2 + 1 → (s10 164 5 = 0 → s10 164 97 + s10 164 99 + σ 164 2 ≤ σ 164 97 + σ 164 99 + s10 164 2) → (s10 164 5 = 0 → zt s10 = 1) → ((4 * (1601 - s10 164 2) + 2 * x7 + 1 - min (max (s10 164 5) (-(s10 164 5))) 1).toNat) < N → zF X s10 2 [some (.ref (X.1.1 + 164)), some (.int (zI x7)), none] [] := by
    intro N
    induction N with
    | zero =>
      intro x7 s10 h8 h9 hI11 hF12 g13 g14 g15 g16 g17 g18 g19 g20 hm22
      exact absurd hm22 (Nat.not_lt_zero _)
    | succ N ih23 =>
      intro x7 s10 h8 h9 hI11 hF12 g13 g14 g15 g16 g17 g18 g19 g20 hm22
      have b24 := zv_46_2 hI11 zc_164
      have b25 := zv_46_3 hI11 zc_164
      have b26 := zv_46_5 hI11 zc_164
      have b27 := zv_46_97 hI11 zc_164
      have b28 := zv_46_99 hI11 zc_164
      have b29 := zv_46_101 hI11 zc_164
      refine zt_iload_n (pc' := 3) hX dX12_qTest_2 rfl rfl ?_
      refine zt_ifeq (pc' := 6) (tgt := 110) hX dX12_qTest_3 rfl (by decide) ⟨by omega, by omega⟩ (fun c30 => ?_) (fun c30 => ?_)
      · have L_110_40 : ∀ (N : Nat) (s31 : zSto), zInv s31 → zOn zQ2 σ s31 → (s31 164 5 = 0 → zHt s31 - zBt s31 = zHt σ - zBt σ + 1 ∧ zsq s31 = 0) → (σ 164 2 ≤ s31 164 2 ∧ s31 164 2 ≤ σ 164 3) → s31 164 3 = σ 164 3 → s31 164 101 = σ 164 101 → s31 164 97 + s31 164 99 + σ 164 2 ≤ σ 164 97 + σ 164 99 + s31 164 2 + 1 → (s31 164 5 = 0 → s31 164 97 + s31 164 99 + σ 164 2 ≤ σ 164 97 + σ 164 99 + s31 164 2) → (s31 164 5 = 0 → zt s31 = 1) → ((s31 164 99).toNat) < N → zF X s31 110 [some (.ref (X.1.1 + 164)), none, none] [] := by
          intro N
          induction N with
          | zero =>
            intro s31 hI32 hF33 g34 g35 g36 g37 g38 g39 g40 hm42
            exact absurd hm42 (Nat.not_lt_zero _)
          | succ N ih43 =>
            intro s31 hI32 hF33 g34 g35 g36 g37 g38 g39 g40 hm42
            have b44 := zv_46_2 hI32 zc_164
            have b45 := zv_46_3 hI32 zc_164
            have b46 := zv_46_5 hI32 zc_164
            have b47 := zv_46_97 hI32 zc_164
            have b48 := zv_46_99 hI32 zc_164
            have b49 := zv_46_101 hI32 zc_164
            refine zt_aload_n (pc' := 111) hX dX12_qTest_110 rfl rfl ?_
            have b50 := zv_46_5 hI32 zc_164
            refine zt_get (pc' := 114) (v := .int (zI (s31 164 5))) hX dX12_qTest_111 rfl zf_X12_246 (by decide) zc_164 zs_46 rfl ?_
            refine zt_ifne (pc' := 117) (tgt := 131) hX dX12_qTest_114 rfl (by decide) ⟨by omega, by omega⟩ (fun c51 => ?_) (fun c51 => ?_)
            · exact zt_vret hX hR dX12_qTest_131 ⟨hI32, hF33, by omega, by omega, by omega, by omega, by omega, by omega⟩
            · refine zt_aload_n (pc' := 118) hX dX12_qTest_117 rfl rfl ?_
              have b52 := zv_46_99 hI32 zc_164
              refine zt_get (pc' := 121) (v := .int (zI (s31 164 99))) hX dX12_qTest_118 rfl zf_X12_333 (by decide) zc_164 zs_46 rfl ?_
              refine zt_ifle (pc' := 124) (tgt := 131) hX dX12_qTest_121 rfl (by decide) ⟨by omega, by omega⟩ (fun c53 => ?_) (fun c53 => ?_)
              · exact zt_vret hX hR dX12_qTest_131 ⟨hI32, hF33, by omega, by omega, by omega, by omega, by omega, by omega⟩
              · refine zt_aload_n (pc' := 125) hX dX12_qTest_124 rfl rfl ?_
                have h54 := zsq_top (s := s31) rfl (by omega)
                have h54n := zBt_nn s31
                refine zt_cVv (pc' := 128) hX dX12_qTest_125 rfl zm_yX12_qDrops zw_31_4 zc_164 (by decide) zs_46 (q := (RX12, TX12, 108)) rfl rfl (zc_X12_qDrops_T _ _ s31 hI32 (by omega) (by omega) (by omega) (by omega) (by omega)) rfl rfl (Nat.le_of_ble_eq_true rfl) (by decide) (fun r55 s56 hr57 hp58 => ?_)
                obtain ⟨hI59, hF60, z61, z62⟩ := hp58
                have e63 := hF60 164 2 rfl
                have e64 := hF60 164 3 rfl
                have e65 := hF60 164 5 rfl
                have e66 := hF60 164 101 rfl
                have hF67 := zOn_tr hF33 hF60 zi_52
                have b68 := zv_46_2 hI59 zc_164
                have b69 := zv_46_3 hI59 zc_164
                have b70 := zv_46_5 hI59 zc_164
                have b71 := zv_46_97 hI59 zc_164
                have b72 := zv_46_99 hI59 zc_164
                have b73 := zv_46_101 hI59 zc_164
                refine zt_goto (tgt := 110) hX dX12_qTest_128 (by decide) ?_
                exact ih43 s56 hI59 hF67 (by omega) (by omega) (by omega) (by omega) (by omega) (by omega) (by omega) (by omega)
        refine zt_mask [true, false, false] rfl ?_
        exact L_110_40 _ s10 hI11 hF12 (by omega) (by omega) (by omega) (by omega) (by omega) (by omega) (by omega) (Nat.lt_succ_self _)
      · refine zt_aload_n (pc' := 7) hX dX12_qTest_6 rfl rfl ?_
        have b74 := zv_46_5 hI11 zc_164
        refine zt_get (pc' := 10) (v := .int (zI (s10 164 5))) hX dX12_qTest_7 rfl zf_X12_246 (by decide) zc_164 zs_46 rfl ?_
        refine zt_ifne (pc' := 13) (tgt := 110) hX dX12_qTest_10 rfl (by decide) ⟨by omega, by omega⟩ (fun c75 => ?_) (fun c75 => ?_)
        · have L_110_85 : ∀ (N : Nat) (s76 : zSto), zInv s76 → zOn zQ2 σ s76 → (s76 164 5 = 0 → zHt s76 - zBt s76 = zHt σ - zBt σ + 1 ∧ zsq s76 = 0) → (σ 164 2 ≤ s76 164 2 ∧ s76 164 2 ≤ σ 164 3) → s76 164 3 = σ 164 3 → s76 164 101 = σ 164 101 → s76 164 97 + s76 164 99 + σ 164 2 ≤ σ 164 97 + σ 164 99 + s76 164 2 + 1 → (s76 164 5 = 0 → s76 164 97 + s76 164 99 + σ 164 2 ≤ σ 164 97 + σ 164 99 + s76 164 2) → (s76 164 5 = 0 → zt s76 = 1) → ((s76 164 99).toNat) < N → zF X s76 110 [some (.ref (X.1.1 + 164)), none, none] [] := by
            intro N
            induction N with
            | zero =>
              intro s76 hI77 hF78 g79 g80 g81 g82 g83 g84 g85 hm87
              exact absurd hm87 (Nat.not_lt_zero _)
            | succ N ih88 =>
              intro s76 hI77 hF78 g79 g80 g81 g82 g83 g84 g85 hm87
              have b89 := zv_46_2 hI77 zc_164
              have b90 := zv_46_3 hI77 zc_164
              have b91 := zv_46_5 hI77 zc_164
              have b92 := zv_46_97 hI77 zc_164
              have b93 := zv_46_99 hI77 zc_164
              have b94 := zv_46_101 hI77 zc_164
              refine zt_aload_n (pc' := 111) hX dX12_qTest_110 rfl rfl ?_
              have b95 := zv_46_5 hI77 zc_164
              refine zt_get (pc' := 114) (v := .int (zI (s76 164 5))) hX dX12_qTest_111 rfl zf_X12_246 (by decide) zc_164 zs_46 rfl ?_
              refine zt_ifne (pc' := 117) (tgt := 131) hX dX12_qTest_114 rfl (by decide) ⟨by omega, by omega⟩ (fun c96 => ?_) (fun c96 => ?_)
              · exact zt_vret hX hR dX12_qTest_131 ⟨hI77, hF78, by omega, by omega, by omega, by omega, by omega, by omega⟩
              · refine zt_aload_n (pc' := 118) hX dX12_qTest_117 rfl rfl ?_
                have b97 := zv_46_99 hI77 zc_164
                refine zt_get (pc' := 121) (v := .int (zI (s76 164 99))) hX dX12_qTest_118 rfl zf_X12_333 (by decide) zc_164 zs_46 rfl ?_
                refine zt_ifle (pc' := 124) (tgt := 131) hX dX12_qTest_121 rfl (by decide) ⟨by omega, by omega⟩ (fun c98 => ?_) (fun c98 => ?_)
                · exact zt_vret hX hR dX12_qTest_131 ⟨hI77, hF78, by omega, by omega, by omega, by omega, by omega, by omega⟩
                · refine zt_aload_n (pc' := 125) hX dX12_qTest_124 rfl rfl ?_
                  have h99 := zsq_top (s := s76) rfl (by omega)
                  have h99n := zBt_nn s76
                  refine zt_cVv (pc' := 128) hX dX12_qTest_125 rfl zm_yX12_qDrops zw_31_4 zc_164 (by decide) zs_46 (q := (RX12, TX12, 108)) rfl rfl (zc_X12_qDrops_T _ _ s76 hI77 (by omega) (by omega) (by omega) (by omega) (by omega)) rfl rfl (Nat.le_of_ble_eq_true rfl) (by decide) (fun r100 s101 hr102 hp103 => ?_)
                  obtain ⟨hI104, hF105, z106, z107⟩ := hp103
                  have e108 := hF105 164 2 rfl
                  have e109 := hF105 164 3 rfl
                  have e110 := hF105 164 5 rfl
                  have e111 := hF105 164 101 rfl
                  have hF112 := zOn_tr hF78 hF105 zi_52
                  have b113 := zv_46_2 hI104 zc_164
                  have b114 := zv_46_3 hI104 zc_164
                  have b115 := zv_46_5 hI104 zc_164
                  have b116 := zv_46_97 hI104 zc_164
                  have b117 := zv_46_99 hI104 zc_164
                  have b118 := zv_46_101 hI104 zc_164
                  refine zt_goto (tgt := 110) hX dX12_qTest_128 (by decide) ?_
                  exact ih88 s101 hI104 hF112 (by omega) (by omega) (by omega) (by omega) (by omega) (by omega) (by omega) (by omega)
          refine zt_mask [true, false, false] rfl ?_
          exact L_110_85 _ s10 hI11 hF12 (by omega) (by omega) (by omega) (by omega) (by omega) (by omega) (by omega) (Nat.lt_succ_self _)
        · refine zt_aload_n (pc' := 14) hX dX12_qTest_13 rfl rfl ?_
          refine zt_cVi (pc' := 17) hX dX12_qTest_14 rfl zm_yX12_look zw_26_12 zc_164 (by decide) zs_46 (q := (RX12, TX12, 108)) rfl rfl (zc_X12_look _ _ s10 hI11 ) rfl rfl (Nat.le_of_ble_eq_true rfl) (by decide) (fun r119 s120 hr121 hp122 => ?_)
          obtain ⟨hI123, hF124, q125, q126, z127, z128, z129⟩ := hp122
          obtain ⟨-, w131, w132, w133, -, -, w136, -⟩ := zE_q1 hF124
          have e138 := hF124 164 3 rfl
          have e139 := hF124 164 97 rfl
          have e140 := hF124 164 99 rfl
          have e141 := hF124 164 101 rfl
          have hF142 := zOn_tr hF12 hF124 zi_12
          have b143 := zv_46_2 hI123 zc_164
          have b144 := zv_46_3 hI123 zc_164
          have b145 := zv_46_5 hI123 zc_164
          have b146 := zv_46_97 hI123 zc_164
          have b147 := zv_46_99 hI123 zc_164
          have b148 := zv_46_101 hI123 zc_164
          refine zt_istore_n (pc' := 18) (lv' := [some (.ref (X.1.1 + 164)), some (.int (zI x7)), some (.int (zI r119))]) hX dX12_qTest_17 rfl hL (by decide) rfl ?_
          refine zt_iload_n (pc' := 19) hX dX12_qTest_18 rfl rfl ?_
          refine zt_bipush (pc' := 21) hX dX12_qTest_19 rfl (by decide) (by decide) ?_
          refine zt_icne (pc' := 24) (tgt := 47) hX dX12_qTest_21 rfl (by decide) ⟨by omega, by omega⟩ ⟨by omega, by omega⟩ (fun c149 => ?_) (fun c149 => ?_)
          · refine zt_aload_n (pc' := 48) hX dX12_qTest_47 rfl rfl ?_
            refine zt_aload_n (pc' := 49) hX dX12_qTest_48 rfl rfl ?_
            refine zt_get (pc' := 52) (v := .ref (X.1.1 + 217)) hX dX12_qTest_49 rfl zf_X12_180 (by decide) zc_164 zs_46 (zrf_of (zv_46_79 hI123 zc_164)) ?_
            refine zt_cVz (pc' := 55) hX dX12_qTest_52 rfl zm_yX12_isHere zw_26_8 zc_164 (by decide) zs_46 (q := (RX12, TX12, 108)) rfl rfl (zc_X12_isHere _ _ s120 hI123 217 99 3 zc_217 (by decide) zs_99 (by decide)) rfl rfl (Nat.le_of_ble_eq_true rfl) (by decide) (fun r150 s151 hr152 hp153 => ?_)
            obtain ⟨hI154, hF155, q156, q157, z158, z159, z160⟩ := hp153
            obtain ⟨-, w162, w163, w164, -, -, w167, -⟩ := zE_q1 hF155
            have e169 := hF155 164 3 rfl
            have e170 := hF155 164 97 rfl
            have e171 := hF155 164 99 rfl
            have e172 := hF155 164 101 rfl
            have hF173 := zOn_tr hF142 hF155 zi_12
            have b174 := zv_46_2 hI154 zc_164
            have b175 := zv_46_3 hI154 zc_164
            have b176 := zv_46_5 hI154 zc_164
            have b177 := zv_46_97 hI154 zc_164
            have b178 := zv_46_99 hI154 zc_164
            have b179 := zv_46_101 hI154 zc_164
            refine zt_ifeq (pc' := 58) (tgt := 79) hX dX12_qTest_55 rfl (by decide) ⟨by omega, by omega⟩ (fun c180 => ?_) (fun c180 => ?_)
            · refine zt_aload_n (pc' := 80) hX dX12_qTest_79 rfl rfl ?_
              refine zt_cVv (pc' := 83) hX dX12_qTest_80 rfl zm_yX12_qFact zw_29_14 zc_164 (by decide) zs_46 (q := (RX12, TX12, 108)) rfl rfl (zc_X12_qFact _ _ s151 hI154 (by omega) (by omega) (by omega) (by omega) (by omega)) rfl rfl (Nat.le_of_ble_eq_true rfl) (by decide) (fun r181 s182 hr183 hp184 => ?_)
              obtain ⟨hI185, hF186, z187, z188, z189, z190, z191, z192⟩ := hp184
              have e193 := hF186 164 3 rfl
              have hF194 := zOn_tr hF173 hF186 zi_id
              have b195 := zv_46_2 hI185 zc_164
              have b196 := zv_46_3 hI185 zc_164
              have b197 := zv_46_5 hI185 zc_164
              have b198 := zv_46_97 hI185 zc_164
              have b199 := zv_46_99 hI185 zc_164
              have b200 := zv_46_101 hI185 zc_164
              have h201n := zBt_nn s182
              refine zt_aload_n (pc' := 84) hX dX12_qTest_83 rfl rfl ?_
              refine zt_cVv (pc' := 87) hX dX12_qTest_84 rfl zm_yX12_qDropsNots zw_32_3 zc_164 (by decide) zs_46 (q := (RX12, TX12, 108)) rfl rfl (zc_X12_qDropsNots _ _ s182 hI185 (by omega) (by omega)) rfl rfl (Nat.le_of_ble_eq_true rfl) (by decide) (fun r202 s203 hr204 hp205 => ?_)
              obtain ⟨hI206, hF207, z208, z209, z210⟩ := hp205
              have e211 := hF207 164 2 rfl
              have e212 := hF207 164 3 rfl
              have e213 := hF207 164 5 rfl
              have e214 := hF207 164 101 rfl
              have hF215 := zOn_tr hF194 hF207 zi_52
              have b216 := zv_46_2 hI206 zc_164
              have b217 := zv_46_3 hI206 zc_164
              have b218 := zv_46_5 hI206 zc_164
              have b219 := zv_46_97 hI206 zc_164
              have b220 := zv_46_99 hI206 zc_164
              have b221 := zv_46_101 hI206 zc_164
              refine zt_aload_n (pc' := 88) hX dX12_qTest_87 rfl rfl ?_
              have b222 := zv_46_5 hI206 zc_164
              refine zt_get (pc' := 91) (v := .int (zI (s203 164 5))) hX dX12_qTest_88 rfl zf_X12_246 (by decide) zc_164 zs_46 rfl ?_
              have J_106_238 : ∀ (y223 : Int) (s226 : zSto), 0 ≤ y223 → y223 ≤ 1 → zInv s226 → zOn zQ2 σ s226 → (y223 = 1 → s226 164 5 = 0 ∧ zHt s226 - zBt s226 = zHt σ - zBt σ ∧ s10 164 2 < s226 164 2) → (y223 = 0 ∧ s226 164 5 = 0 → zHt s226 - zBt s226 = zHt σ - zBt σ + 1 ∧ zsq s226 = 0) → s10 164 2 ≤ s226 164 2 → (0 ≤ y223 ∧ y223 ≤ 1) → (σ 164 2 ≤ s226 164 2 ∧ s226 164 2 ≤ σ 164 3) → s226 164 3 = σ 164 3 → s226 164 101 = σ 164 101 → s226 164 97 + s226 164 99 + σ 164 2 ≤ σ 164 97 + σ 164 99 + s226 164 2 + 1 → (s226 164 5 = 0 → s226 164 97 + s226 164 99 + σ 164 2 ≤ σ 164 97 + σ 164 99 + s226 164 2) → (s226 164 5 = 0 → zt s226 = 1) → zF X s226 106 [some (.ref (X.1.1 + 164)), none, none] [.int (zI y223)] := by
                intro y223 s226 h224 h225 hI227 hF228 g229 g230 g231 g232 g233 g234 g235 g236 g237 g238
                have b240 := zv_46_2 hI227 zc_164
                have b241 := zv_46_3 hI227 zc_164
                have b242 := zv_46_5 hI227 zc_164
                have b243 := zv_46_97 hI227 zc_164
                have b244 := zv_46_99 hI227 zc_164
                have b245 := zv_46_101 hI227 zc_164
                refine zt_istore_n (pc' := 107) (lv' := [some (.ref (X.1.1 + 164)), some (.int (zI y223)), none]) hX dX12_qTest_106 rfl hL (by decide) rfl ?_
                refine zt_goto (tgt := 2) hX dX12_qTest_107 (by decide) ?_
                exact ih23 y223 s226 (by omega) (by omega) hI227 hF228 (by omega) (by omega) (by omega) (by omega) (by omega) (by omega) (by omega) (by omega) (by omega)
              have J_105_256 : ∀ (s246 : zSto), zInv s246 → zOn zQ2 σ s246 → (s246 164 5 = 0 → zHt s246 - zBt s246 = zHt σ - zBt σ + 1 ∧ zsq s246 = 0) → s10 164 2 ≤ s246 164 2 → (σ 164 2 ≤ s246 164 2 ∧ s246 164 2 ≤ σ 164 3) → s246 164 3 = σ 164 3 → s246 164 101 = σ 164 101 → s246 164 97 + s246 164 99 + σ 164 2 ≤ σ 164 97 + σ 164 99 + s246 164 2 + 1 → (s246 164 5 = 0 → s246 164 97 + s246 164 99 + σ 164 2 ≤ σ 164 97 + σ 164 99 + s246 164 2) → (s246 164 5 = 0 → zt s246 = 1) → zF X s246 105 [some (.ref (X.1.1 + 164)), none, none] [] := by
                intro s246 hI247 hF248 g249 g250 g251 g252 g253 g254 g255 g256
                have b258 := zv_46_2 hI247 zc_164
                have b259 := zv_46_3 hI247 zc_164
                have b260 := zv_46_5 hI247 zc_164
                have b261 := zv_46_97 hI247 zc_164
                have b262 := zv_46_99 hI247 zc_164
                have b263 := zv_46_101 hI247 zc_164
                refine zt_iconst (pc' := 106) hX dX12_qTest_105 rfl ?_
                exact J_106_238 0 s246 (by omega) (by omega) hI247 hF248 (by omega) (by omega) (by omega) (by omega) (by omega) (by omega) (by omega) (by omega) (by omega) (by omega)
              refine zt_ifne (pc' := 94) (tgt := 105) hX dX12_qTest_91 rfl (by decide) ⟨by omega, by omega⟩ (fun c264 => ?_) (fun c264 => ?_)
              · refine zt_mask [true, false, false] rfl ?_
                exact J_105_256 s203 hI206 hF215 (by omega) (by omega) (by omega) (by omega) (by omega) (by omega) (by omega) (by omega)
              · refine zt_aload_n (pc' := 95) hX dX12_qTest_94 rfl rfl ?_
                refine zt_cVz (pc' := 98) hX dX12_qTest_95 rfl zm_yX12_qGoesOnTest zw_32_7 zc_164 (by decide) zs_46 (q := (RX12, TX12, 108)) rfl rfl (zc_X12_qGoesOnTest _ _ s203 hI206 (by omega) (by omega) (by omega) (by omega) (by omega)) rfl rfl (Nat.le_of_ble_eq_true rfl) (by decide) (fun r265 s266 hr267 hp268 => ?_)
                obtain ⟨hI269, hF270, q271, q272, z273, z274, z275, z276, z277, z278, z279⟩ := hp268
                have e280 := hF270 164 3 rfl
                have hF281 := zOn_tr hF215 hF270 zi_id
                have b282 := zv_46_2 hI269 zc_164
                have b283 := zv_46_3 hI269 zc_164
                have b284 := zv_46_5 hI269 zc_164
                have b285 := zv_46_97 hI269 zc_164
                have b286 := zv_46_99 hI269 zc_164
                have b287 := zv_46_101 hI269 zc_164
                refine zt_ifeq (pc' := 101) (tgt := 105) hX dX12_qTest_98 rfl (by decide) ⟨by omega, by omega⟩ (fun c288 => ?_) (fun c288 => ?_)
                · refine zt_mask [true, false, false] rfl ?_
                  exact J_105_256 s266 hI269 hF281 (by omega) (by omega) (by omega) (by omega) (by omega) (by omega) (by omega) (by omega)
                · refine zt_iconst (pc' := 102) hX dX12_qTest_101 rfl ?_
                  refine zt_goto (tgt := 106) hX dX12_qTest_102 (by decide) ?_
                  refine zt_mask [true, false, false] rfl ?_
                  exact J_106_238 1 s266 (by omega) (by omega) hI269 hF281 (by omega) (by omega) (by omega) (by omega) (by omega) (by omega) (by omega) (by omega) (by omega) (by omega)
            · refine zt_aload_n (pc' := 59) hX dX12_qTest_58 rfl rfl ?_
              refine zt_bipush (pc' := 61) hX dX12_qTest_59 rfl (by decide) (by decide) ?_
              refine zt_aload_n (pc' := 62) hX dX12_qTest_61 rfl rfl ?_
              have b289 := zv_46_2 hI154 zc_164
              refine zt_get (pc' := 65) (v := .int (zI (s151 164 2))) hX dX12_qTest_62 rfl zf_X12_252 (by decide) zc_164 zs_46 rfl ?_
              refine zt_cVv (pc' := 68) hX dX12_qTest_65 rfl zm_yX12_qOpens zw_29_10 zc_164 (by decide) zs_46 (q := (RX12, TX12, 108)) rfl rfl (zc_X12_qOpens_T _ _ s151 hI154 12 ⟨by omega, by omega⟩ (s151 164 2) ⟨by omega, by omega⟩ (by omega) (by omega)) rfl rfl (Nat.le_of_ble_eq_true rfl) (by decide) (fun r290 s291 hr292 hp293 => ?_)
              obtain ⟨hI294, hF295, z296, z297, z298, z299⟩ := hp293
              have e300 := hF295 164 3 rfl
              have hF301 := zOn_tr hF173 hF295 zi_id
              have b302 := zv_46_2 hI294 zc_164
              have b303 := zv_46_3 hI294 zc_164
              have b304 := zv_46_5 hI294 zc_164
              have b305 := zv_46_97 hI294 zc_164
              have b306 := zv_46_99 hI294 zc_164
              have b307 := zv_46_101 hI294 zc_164
              refine zt_aload_n (pc' := 69) hX dX12_qTest_68 rfl rfl ?_
              refine zt_aload_n (pc' := 70) hX dX12_qTest_69 rfl rfl ?_
              refine zt_get (pc' := 73) (v := .ref (X.1.1 + 217)) hX dX12_qTest_70 rfl zf_X12_180 (by decide) zc_164 zs_46 (zrf_of (zv_46_79 hI294 zc_164)) ?_
              refine zt_cVv (pc' := 76) hX dX12_qTest_73 rfl zm_yX12_asks zw_26_0 zc_164 (by decide) zs_46 (q := (RX12, TX12, 108)) rfl rfl (zc_X12_asks _ _ s291 hI294 217 99 3 zc_217 (by decide) zs_99 (by decide)) rfl rfl (Nat.le_of_ble_eq_true rfl) (by decide) (fun r308 s309 hr310 hp311 => ?_)
              obtain ⟨hI312, hF313, z314, z315⟩ := hp311
              obtain ⟨-, w317, w318, w319, -, -, w322, -⟩ := zE_q1 hF313
              have e324 := hF313 164 3 rfl
              have e325 := hF313 164 97 rfl
              have e326 := hF313 164 99 rfl
              have e327 := hF313 164 101 rfl
              have hF328 := zOn_tr hF301 hF313 zi_12
              have b329 := zv_46_2 hI312 zc_164
              have b330 := zv_46_3 hI312 zc_164
              have b331 := zv_46_5 hI312 zc_164
              have b332 := zv_46_97 hI312 zc_164
              have b333 := zv_46_99 hI312 zc_164
              have b334 := zv_46_101 hI312 zc_164
              refine zt_goto (tgt := 2) hX dX12_qTest_76 (by decide) ?_
              refine zt_mask [true, true, false] rfl ?_
              exact ih23 x7 s309 (by omega) (by omega) hI312 hF328 (by omega) (by omega) (by omega) (by omega) (by omega) (by omega) (by omega) (by omega) (by omega)
          · refine zt_aload_n (pc' := 25) hX dX12_qTest_24 rfl rfl ?_
            refine zt_bipush (pc' := 27) hX dX12_qTest_25 rfl (by decide) (by decide) ?_
            refine zt_aload_n (pc' := 28) hX dX12_qTest_27 rfl rfl ?_
            have b335 := zv_46_2 hI123 zc_164
            refine zt_get (pc' := 31) (v := .int (zI (s120 164 2))) hX dX12_qTest_28 rfl zf_X12_252 (by decide) zc_164 zs_46 rfl ?_
            refine zt_cVv (pc' := 34) hX dX12_qTest_31 rfl zm_yX12_qOpens zw_29_10 zc_164 (by decide) zs_46 (q := (RX12, TX12, 108)) rfl rfl (zc_X12_qOpens_T _ _ s120 hI123 25 ⟨by omega, by omega⟩ (s120 164 2) ⟨by omega, by omega⟩ (by omega) (by omega)) rfl rfl (Nat.le_of_ble_eq_true rfl) (by decide) (fun r336 s337 hr338 hp339 => ?_)
            obtain ⟨hI340, hF341, z342, z343, z344, z345⟩ := hp339
            have e346 := hF341 164 3 rfl
            have hF347 := zOn_tr hF142 hF341 zi_id
            have b348 := zv_46_2 hI340 zc_164
            have b349 := zv_46_3 hI340 zc_164
            have b350 := zv_46_5 hI340 zc_164
            have b351 := zv_46_97 hI340 zc_164
            have b352 := zv_46_99 hI340 zc_164
            have b353 := zv_46_101 hI340 zc_164
            refine zt_aload_n (pc' := 35) hX dX12_qTest_34 rfl rfl ?_
            refine zt_dup (pc' := 36) hX dX12_qTest_35 rfl rfl ?_
            have b354 := zv_46_2 hI340 zc_164
            refine zt_get (pc' := 39) (v := .int (zI (s337 164 2))) hX dX12_qTest_36 rfl zf_X12_252 (by decide) zc_164 zs_46 rfl ?_
            refine zt_iconst (pc' := 40) hX dX12_qTest_39 rfl ?_
            refine zt_iadd (pc' := 41) hX dX12_qTest_40 rfl ?_
            refine zt_put (pc' := 44) (x := ((s337 164 2) + 1)) hX dX12_qTest_41 rfl zf_X12_252 (by decide) zc_164 zs_46 (fun q hq => by cases hq; rfl) rfl rfl rfl ?_
            generalize hs356 : zset s337 164 2 ((s337 164 2) + 1) = s355
            have hI357 : zInv s355 := hs356 ▸ zp_46_2 hI340 zc_164 ⟨by omega, by omega⟩
            have hF358 : zOn zQ2 σ s355 := hs356 ▸ zOn_set hF347 (by decide)
            obtain ⟨-, w360, w361, w362, -, -, w365, -⟩ := zE_set hs356 (by decide)
            have e367 : s355 164 2 = ((s337 164 2) + 1) := by rw [← hs356]; exact zset_s
            have e368 : s355 164 3 = s337 164 3 := by rw [← hs356]; exact zset_j (by decide)
            have e369 : s355 164 5 = s337 164 5 := by rw [← hs356]; exact zset_j (by decide)
            have e370 : s355 164 97 = s337 164 97 := by rw [← hs356]; exact zset_j (by decide)
            have e371 : s355 164 99 = s337 164 99 := by rw [← hs356]; exact zset_j (by decide)
            have e372 : s355 164 101 = s337 164 101 := by rw [← hs356]; exact zset_j (by decide)
            refine zt_goto (tgt := 2) hX dX12_qTest_44 (by decide) ?_
            refine zt_mask [true, true, false] rfl ?_
            exact ih23 x7 s355 (by omega) (by omega) hI357 hF358 (by omega) (by omega) (by omega) (by omega) (by omega) (by omega) (by omega) (by omega) (by omega)
  exact L_2_20 _ 1 σ (by omega) (by omega) hI hF (by omega) (by omega) (by omega) (by omega) (by omega) (by omega) (by omega) (by omega) (Nat.lt_succ_self _)
