set_option maxRecDepth 100000 in
set_option maxHeartbeats 4000000 in
theorem yc_X12_qSums (l : Launch) (E : zEN) (σ : zSto) (hI : zInv σ) (hpre0 : σ 164 5 = 0) (f : Int → Int) (hT : yTq f σ) (cb rl : Int) (k : List Nat) (hrl : 0 ≤ rl ∧ rl ≤ 2) (hWd : yWd σ) (h4 : ytop k ≠ 4) (hk : (ydep k : Int) = σ 164 100 ∧ σ 164 100 ≤ 6 ∧ σ 164 51 = rl) (hbd : ybd cb σ (yqs f σ)) (hbl : σ 164 99 ≤ 0 ∨ ¬ (1 ≤ σ 235 (σ 164 99 - 1).toNat ∧ σ 235 (σ 164 99 - 1).toNat ≤ 4)) : zCt l E yX12_qSums cX12_qSums 3 none 6 zNC zNC 0 0 σ [.ref (E.1 + 164)] (fun r σ' => zInv σ' ∧ zOn zQ2 σ σ' ∧ yTq f σ' ∧ (yJ rl f (1, k, (yqs f σ)) (2, k, (yqs f σ'))) ∧ (yns f (yqs f σ')) ∧ (σ' 164 101 = σ 164 101) ∧ (ySe cb σ σ' (yqs f σ) (yqs f σ')) ∧ (σ' 164 97 + σ' 164 99 ≤ 1650 ∧ -1800 ≤ σ' 164 100 ∧ σ' 164 100 ≤ 10)) := by
  refine zCt_of2 [some (.ref (E.1 + 164)), none, none] (by decide +kernel) (Nat.le_of_ble_eq_true rfl) rfl ?_
  intro X hE_ hX hR hL hN
  subst hE_
  have hX : zok X cX12_qSums RX12 6 := hX
  have hF := zOn_rf zQ2 σ
  have hE0 : yqs f σ = yqs f σ := rfl
  have ho0 : yPo (yqs f σ) = 1 := (yHb hT rfl).1 (by omega)
  have hn0 := ybd_b hbd hT rfl ho0
  have b1 := zv_46_2 hI zc_164
  have b2 := zv_46_5 hI zc_164
  have b3 := zv_46_97 hI zc_164
  have b4 := zv_46_99 hI zc_164
  have b5 := zv_46_100 hI zc_164
  have b6 := zv_46_101 hI zc_164
  have b7 := zv_46_51 hI zc_164
  refine zt_aload_n (pc' := 1) hX dX12_qSums_0 rfl rfl ?_
  have b8 := zv_46_101 hI zc_164
  refine zt_get (pc' := 4) (v := .int (zI (σ 164 101))) hX dX12_qSums_1 rfl zf_X12_339 (by decide) zc_164 zs_46 rfl ?_
  refine zt_istore_n (pc' := 5) (lv' := [some (.ref (X.1.1 + 164)), some (.int (zI (σ 164 101))), none]) hX dX12_qSums_4 rfl hL (by decide) rfl ?_
  refine zt_aload_n (pc' := 6) hX dX12_qSums_5 rfl rfl ?_
  refine zt_aload_n (pc' := 7) hX dX12_qSums_6 rfl rfl ?_
  have b9 := zv_46_99 hI zc_164
  refine zt_get (pc' := 10) (v := .int (zI (σ 164 99))) hX dX12_qSums_7 rfl zf_X12_333 (by decide) zc_164 zs_46 rfl ?_
  refine zt_put (pc' := 13) (x := (σ 164 99)) hX dX12_qSums_10 rfl zf_X12_339 (by decide) zc_164 zs_46 (fun q hq => by cases hq; rfl) rfl rfl rfl ?_
  generalize hs11 : zset σ 164 101 (σ 164 99) = s10
  have hI12 : zInv s10 := hs11 ▸ zp_46_101 hI zc_164 ⟨by omega, by omega⟩
  have hF13 : zOn zQ2 σ s10 := hs11 ▸ zOn_set hF (by decide)
  have e14 : s10 164 2 = σ 164 2 := by rw [← hs11]; exact zset_j (by decide)
  have e15 : s10 164 5 = σ 164 5 := by rw [← hs11]; exact zset_j (by decide)
  have e16 : s10 164 97 = σ 164 97 := by rw [← hs11]; exact zset_j (by decide)
  have e17 : s10 164 99 = σ 164 99 := by rw [← hs11]; exact zset_j (by decide)
  have e18 : s10 164 100 = σ 164 100 := by rw [← hs11]; exact zset_j (by decide)
  have e19 : s10 164 101 = (σ 164 99) := by rw [← hs11]; exact zset_s
  have e20 : s10 164 51 = σ 164 51 := by rw [← hs11]; exact zset_j (by decide)
  have hT21 := yTq_rk hT (yRq_j hs11 (by decide))
  have hE22 : yqs f s10 = (yqs f σ) := (yqs_rk (yRq_j hs11 (by decide))).trans hE0
  have hbl1 := ybl_0 hs11 rfl hbl
  have hb101 : s10 164 101 = σ 164 99 := by omega
  refine zt_iconst (pc' := 14) hX dX12_qSums_13 rfl ?_
  refine zt_istore_n (pc' := 15) (lv' := [some (.ref (X.1.1 + 164)), some (.int (zI (σ 164 101))), some (.int (zI 1))]) hX dX12_qSums_14 rfl hL (by decide) rfl ?_
  have L_15_33 : ∀ (N : Nat) (x23 : Int) (s26 : zSto) (p29 : yP), 0 ≤ x23 → x23 ≤ 1 → zInv s26 → zOn zQ2 σ s26 → yTq f s26 → yqs f s26 = p29 → (s26 164 97 + s26 164 99 ≤ 1650 ∧ -1800 ≤ s26 164 100 ∧ s26 164 100 ≤ 10) → yLs cb rl f k (1, k, yqs f σ) s10 s26 p29 x23 → (ymt p29 x23) < N → zF X s26 15 [some (.ref (X.1.1 + 164)), some (.int (zI (σ 164 101))), some (.int (zI x23))] [] := by
    intro N
    induction N with
    | zero =>
      intro x23 s26 p29 h24 h25 hI27 hF28 hT30 hE31 g32 g33 hm35
      exact absurd hm35 (Nat.not_lt_zero _)
    | succ N ih36 =>
      intro x23 s26 p29 h24 h25 hI27 hF28 hT30 hE31 g32 g33 hm35
      have b37 := zv_46_2 hI27 zc_164
      have b38 := zv_46_5 hI27 zc_164
      have b39 := zv_46_97 hI27 zc_164
      have b40 := zv_46_99 hI27 zc_164
      have b41 := zv_46_100 hI27 zc_164
      have b42 := zv_46_101 hI27 zc_164
      have b43 := zv_46_51 hI27 zc_164
      rcases yLs_c g33 with ⟨rfl, a44⟩ | ⟨rfl, d45⟩
      · obtain ⟨u46, u47, u48, u49, u50, u51, u52, u53, u54⟩ := yLm_n a44 hT30 hE31
        have u55 := a44.2.2.2.1
        refine zt_iload_n (pc' := 16) hX dX12_qSums_15 rfl rfl ?_
        refine zt_ifeq (pc' := 19) (tgt := 53) hX dX12_qSums_16 rfl (by decide) ⟨by omega, by omega⟩ (fun c56 => ?_) (fun c56 => ?_)
        · exact absurd c56 (by omega)
        · refine zt_aload_n (pc' := 20) hX dX12_qSums_19 rfl rfl ?_
          have b57 := zv_46_5 hI27 zc_164
          refine zt_get (pc' := 23) (v := .int (zI (s26 164 5))) hX dX12_qSums_20 rfl zf_X12_246 (by decide) zc_164 zs_46 rfl ?_
          refine zt_ifne (pc' := 26) (tgt := 53) hX dX12_qSums_23 rfl (by decide) ⟨by omega, by omega⟩ (fun c58 => ?_) (fun c58 => ?_)
          · exact absurd c58 (by omega)
          · refine zt_aload_n (pc' := 27) hX dX12_qSums_26 rfl rfl ?_
            refine zt_cVv (pc' := 30) hX dX12_qSums_27 rfl zm_yX12_qPartTold zw_30_2 zc_164 (by decide) zs_46 (q := (RX12, TX12, 108)) rfl rfl (yc_X12_qPartTold _ _ s26 hI27 (by omega) f hT30 cb rl k hrl (yWd_2 hWd hF28) (by rw [hE31]; exact a44.2.2.1)) rfl rfl (Nat.le_of_ble_eq_true rfl) (by decide) (fun r59 s60 hr61 hp62 => ?_)
            obtain ⟨hI63, hF64, hT65, z66, z67, z68⟩ := hp62
            rw [hE31] at z66
            rw [hE31] at z67
            have hF69 := zOn_tr hF28 hF64 zi_id
            obtain ⟨p70, hE71⟩ : ∃ p, yqs f s60 = p := ⟨_, rfl⟩
            rw [hE71] at z66
            rw [hE71] at z67
            have b72 := zv_46_2 hI63 zc_164
            have b73 := zv_46_5 hI63 zc_164
            have b74 := zv_46_97 hI63 zc_164
            have b75 := zv_46_99 hI63 zc_164
            have b76 := zv_46_100 hI63 zc_164
            have b77 := zv_46_101 hI63 zc_164
            have b78 := zv_46_51 hI63 zc_164
            replace z67 : yIm _ _ := z67
            refine zt_aload_n (pc' := 31) hX dX12_qSums_30 rfl rfl ?_
            have b79 := zv_46_5 hI63 zc_164
            refine zt_get (pc' := 34) (v := .int (zI (s60 164 5))) hX dX12_qSums_31 rfl zf_X12_246 (by decide) zc_164 zs_46 rfl ?_
            refine zt_ifne (pc' := 37) (tgt := 48) hX dX12_qSums_34 rfl (by decide) ⟨by omega, by omega⟩ (fun c80 => ?_) (fun c80 => ?_)
            · have h81 := yLs_f a44 z66 ((yHb hT65 hE71).2 (by omega))
              refine zt_iconst (pc' := 49) hX dX12_qSums_48 rfl ?_
              refine zt_istore_n (pc' := 50) (lv' := [some (.ref (X.1.1 + 164)), some (.int (zI (σ 164 101))), some (.int (zI 0))]) hX dX12_qSums_49 rfl hL (by decide) rfl ?_
              refine zt_goto (tgt := 15) hX dX12_qSums_50 (by decide) ?_
              exact ih36 0 s60 p70 (by omega) (by omega) hI63 hF69 hT65 hE71 (by omega) (Or.inr ⟨rfl, h81⟩) (ymt_d hm35)
            · have z82 : yPd1 cb rl k _ _ _ _ := z67 ((yHb hT65 hE71).1 (by omega))
              have u83 := z82.2.2.1
              refine zt_aload_n (pc' := 38) hX dX12_qSums_37 rfl rfl ?_
              refine zt_cVz (pc' := 41) hX dX12_qSums_38 rfl zm_yX12_qGoesOn zw_31_8 zc_164 (by decide) zs_46 (q := (RX12, TX12, 108)) rfl rfl (yc_X12_qGoesOn _ _ s60 hI63 (by omega) f hT65 cb rl k (by rw [hE71]; exact z82.1) z82.2.1 h4 (ybl_k hbl1 (by omega) (yKp_tr a44.2.2.2.2.1 z82.2.2.2.1 (by omega)) (by omega))) rfl rfl (Nat.le_of_ble_eq_true rfl) (by decide) (fun r85 s86 hr87 hp88 => ?_)
              obtain ⟨hI89, hF90, q91, q92, hT93, z94, z95⟩ := hp88
              rw [hE71] at z94
              have hF96 := zOn_tr hF69 hF90 zi_id
              obtain ⟨p97, hE98⟩ : ∃ p, yqs f s86 = p := ⟨_, rfl⟩
              rw [hE98] at z94
              have b99 := zv_46_2 hI89 zc_164
              have b100 := zv_46_5 hI89 zc_164
              have b101 := zv_46_97 hI89 zc_164
              have b102 := zv_46_99 hI89 zc_164
              have b103 := zv_46_100 hI89 zc_164
              have b104 := zv_46_101 hI89 zc_164
              have b105 := zv_46_51 hI89 zc_164
              rcases yGon_c z94 with ⟨rfl, g106⟩ | ⟨rfl, g107⟩
              · have h108 := yLs_m a44 z66 z82 g106
                refine zt_ifeq (pc' := 44) (tgt := 48) hX dX12_qSums_41 rfl (by decide) ⟨by omega, by omega⟩ (fun c109 => ?_) (fun c109 => ?_)
                · exact absurd c109 (by omega)
                · refine zt_iconst (pc' := 45) hX dX12_qSums_44 rfl ?_
                  refine zt_goto (tgt := 49) hX dX12_qSums_45 (by decide) ?_
                  refine zt_istore_n (pc' := 50) (lv' := [some (.ref (X.1.1 + 164)), some (.int (zI (σ 164 101))), some (.int (zI 1))]) hX dX12_qSums_49 rfl hL (by decide) rfl ?_
                  refine zt_goto (tgt := 15) hX dX12_qSums_50 (by decide) ?_
                  exact ih36 1 s86 p97 (by omega) (by omega) hI89 hF96 hT93 hE98 (by omega) (Or.inl ⟨rfl, h108.1⟩) (ymt_a a44.1 (by omega) (fun _ => h108.2) hm35)
              · have h110 := yLs_h a44 z66 z82 g107
                refine zt_ifeq (pc' := 44) (tgt := 48) hX dX12_qSums_41 rfl (by decide) ⟨by omega, by omega⟩ (fun c111 => ?_) (fun c111 => ?_)
                · refine zt_iconst (pc' := 49) hX dX12_qSums_48 rfl ?_
                  refine zt_istore_n (pc' := 50) (lv' := [some (.ref (X.1.1 + 164)), some (.int (zI (σ 164 101))), some (.int (zI 0))]) hX dX12_qSums_49 rfl hL (by decide) rfl ?_
                  refine zt_goto (tgt := 15) hX dX12_qSums_50 (by decide) ?_
                  exact ih36 0 s86 p97 (by omega) (by omega) hI89 hF96 hT93 hE98 (by omega) (Or.inr ⟨rfl, h110⟩) (ymt_d hm35)
                · exact absurd c111 (by omega)
      · refine zt_iload_n (pc' := 16) hX dX12_qSums_15 rfl rfl ?_
        refine zt_ifeq (pc' := 19) (tgt := 53) hX dX12_qSums_16 rfl (by decide) ⟨by omega, by omega⟩ (fun c112 => ?_) (fun c112 => ?_)
        · have L_53_120 : ∀ (N : Nat) (s113 : zSto) (p116 : yP), zInv s113 → zOn zQ2 σ s113 → yTq f s113 → yqs f s113 = p116 → (s113 164 97 + s113 164 99 ≤ 1650 ∧ -1800 ≤ s113 164 100 ∧ s113 164 100 ≤ 10) → ySq cb rl f k (1, k, yqs f σ) s10 s113 p116 → ((s113 164 99).toNat) < N → zF X s113 53 [some (.ref (X.1.1 + 164)), some (.int (zI (σ 164 101))), none] [] := by
            intro N
            induction N with
            | zero =>
              intro s113 p116 hI114 hF115 hT117 hE118 g119 g120 hm122
              exact absurd hm122 (Nat.not_lt_zero _)
            | succ N ih123 =>
              intro s113 p116 hI114 hF115 hT117 hE118 g119 g120 hm122
              have b124 := zv_46_2 hI114 zc_164
              have b125 := zv_46_5 hI114 zc_164
              have b126 := zv_46_97 hI114 zc_164
              have b127 := zv_46_99 hI114 zc_164
              have b128 := zv_46_100 hI114 zc_164
              have b129 := zv_46_101 hI114 zc_164
              have b130 := zv_46_51 hI114 zc_164
              have q131 := 0
              · refine zt_aload_n (pc' := 54) hX dX12_qSums_53 rfl rfl ?_
                have b132 := zv_46_5 hI114 zc_164
                refine zt_get (pc' := 57) (v := .int (zI (s113 164 5))) hX dX12_qSums_54 rfl zf_X12_246 (by decide) zc_164 zs_46 rfl ?_
                refine zt_ifne (pc' := 60) (tgt := 78) hX dX12_qSums_57 rfl (by decide) ⟨by omega, by omega⟩ (fun c133 => ?_) (fun c133 => ?_)
                · refine zt_aload_n (pc' := 79) hX dX12_qSums_78 rfl rfl ?_
                  refine zt_iload_n (pc' := 80) hX dX12_qSums_79 rfl rfl ?_
                  refine zt_put (pc' := 83) (x := (σ 164 101)) hX dX12_qSums_80 rfl zf_X12_339 (by decide) zc_164 zs_46 (fun q hq => by cases hq; rfl) rfl rfl rfl ?_
                  generalize hs135 : zset s113 164 101 (σ 164 101) = s134
                  have hI136 : zInv s134 := hs135 ▸ zp_46_101 hI114 zc_164 ⟨by omega, by omega⟩
                  have hF137 : zOn zQ2 σ s134 := hs135 ▸ zOn_set hF115 (by decide)
                  have e138 : s134 164 2 = s113 164 2 := by rw [← hs135]; exact zset_j (by decide)
                  have e139 : s134 164 5 = s113 164 5 := by rw [← hs135]; exact zset_j (by decide)
                  have e140 : s134 164 97 = s113 164 97 := by rw [← hs135]; exact zset_j (by decide)
                  have e141 : s134 164 99 = s113 164 99 := by rw [← hs135]; exact zset_j (by decide)
                  have e142 : s134 164 100 = s113 164 100 := by rw [← hs135]; exact zset_j (by decide)
                  have e143 : s134 164 101 = (σ 164 101) := by rw [← hs135]; exact zset_s
                  have e144 : s134 164 51 = s113 164 51 := by rw [← hs135]; exact zset_j (by decide)
                  have hT145 := yTq_rk hT117 (yRq_j hs135 (by decide))
                  have hE146 : yqs f s134 = p116 := (yqs_rk (yRq_j hs135 (by decide))).trans hE118
                  have h147 := ySq_e g120 hs11 rfl hk hs135 (fun o => by have t := yHb1 hE146 o; omega)
                  exact zt_vret hX hR dX12_qSums_83 ⟨hI136, hF137, hT145, (by rw [hE146]; exact g120.1), (by rw [hE146]; exact g120.2.1), by omega, (by rw [hE146]; exact h147), ⟨by omega, by omega, by omega⟩⟩
                · obtain ⟨u148, u149, u150⟩ := ySq_n g120 hT117 hE118 (by omega)
                  refine zt_aload_n (pc' := 61) hX dX12_qSums_60 rfl rfl ?_
                  have b151 := zv_46_99 hI114 zc_164
                  refine zt_get (pc' := 64) (v := .int (zI (s113 164 99))) hX dX12_qSums_61 rfl zf_X12_333 (by decide) zc_164 zs_46 rfl ?_
                  refine zt_aload_n (pc' := 65) hX dX12_qSums_64 rfl rfl ?_
                  have b152 := zv_46_101 hI114 zc_164
                  refine zt_get (pc' := 68) (v := .int (zI (s113 164 101))) hX dX12_qSums_65 rfl zf_X12_339 (by decide) zc_164 zs_46 rfl ?_
                  refine zt_icle (pc' := 71) (tgt := 78) hX dX12_qSums_68 rfl (by decide) ⟨by omega, by omega⟩ ⟨by omega, by omega⟩ (fun c153 => ?_) (fun c153 => ?_)
                  · refine zt_aload_n (pc' := 79) hX dX12_qSums_78 rfl rfl ?_
                    refine zt_iload_n (pc' := 80) hX dX12_qSums_79 rfl rfl ?_
                    refine zt_put (pc' := 83) (x := (σ 164 101)) hX dX12_qSums_80 rfl zf_X12_339 (by decide) zc_164 zs_46 (fun q hq => by cases hq; rfl) rfl rfl rfl ?_
                    generalize hs155 : zset s113 164 101 (σ 164 101) = s154
                    have hI156 : zInv s154 := hs155 ▸ zp_46_101 hI114 zc_164 ⟨by omega, by omega⟩
                    have hF157 : zOn zQ2 σ s154 := hs155 ▸ zOn_set hF115 (by decide)
                    have e158 : s154 164 2 = s113 164 2 := by rw [← hs155]; exact zset_j (by decide)
                    have e159 : s154 164 5 = s113 164 5 := by rw [← hs155]; exact zset_j (by decide)
                    have e160 : s154 164 97 = s113 164 97 := by rw [← hs155]; exact zset_j (by decide)
                    have e161 : s154 164 99 = s113 164 99 := by rw [← hs155]; exact zset_j (by decide)
                    have e162 : s154 164 100 = s113 164 100 := by rw [← hs155]; exact zset_j (by decide)
                    have e163 : s154 164 101 = (σ 164 101) := by rw [← hs155]; exact zset_s
                    have e164 : s154 164 51 = s113 164 51 := by rw [← hs155]; exact zset_j (by decide)
                    have hT165 := yTq_rk hT117 (yRq_j hs155 (by decide))
                    have hE166 : yqs f s154 = p116 := (yqs_rk (yRq_j hs155 (by decide))).trans hE118
                    have h167 := ySq_e g120 hs11 rfl hk hs155 (fun _ => by omega)
                    exact zt_vret hX hR dX12_qSums_83 ⟨hI156, hF157, hT165, (by rw [hE166]; exact g120.1), (by rw [hE166]; exact g120.2.1), by omega, (by rw [hE166]; exact h167), ⟨by omega, by omega, by omega⟩⟩
                  · refine zt_aload_n (pc' := 72) hX dX12_qSums_71 rfl rfl ?_
                    refine zt_cVv (pc' := 75) hX dX12_qSums_72 rfl zm_yX12_qDrops zw_31_4 zc_164 (by decide) zs_46 (q := (RX12, TX12, 108)) rfl rfl (yc_X12_qDrops _ _ s113 hI114 (by omega) (by omega)) rfl rfl (Nat.le_of_ble_eq_true rfl) (by decide) (fun r168 s169 hr170 hp171 => ?_)
                    obtain ⟨hI172, hF173, z174⟩ := hp171
                    have hF175 := zOn_tr hF115 hF173 zi_d2
                    have hT176 := yTq_rk hT117 (yRq_d hF173)
                    have hE177 : yqs f s169 = p116 := (yqs_rk (yRq_d hF173)).trans hE118
                    have b178 := zv_46_2 hI172 zc_164
                    have b179 := zv_46_5 hI172 zc_164
                    have b180 := zv_46_97 hI172 zc_164
                    have b181 := zv_46_99 hI172 zc_164
                    have b182 := zv_46_100 hI172 zc_164
                    have b183 := zv_46_101 hI172 zc_164
                    have b184 := zv_46_51 hI172 zc_164
                    have e185 := hF173 164 2 rfl
                    have e186 := hF173 164 5 rfl
                    have e187 := hF173 164 100 rfl
                    have e188 := hF173 164 101 rfl
                    have e189 := hF173 164 51 rfl
                    have g190 := ySq_d g120 (by omega) hF173 z174
                    refine zt_goto (tgt := 53) hX dX12_qSums_75 (by decide) ?_
                    exact ih123 s169 p116 hI172 hF175 hT176 hE177 (by omega) g190 (by omega)
          refine zt_mask [true, true, false] rfl ?_
          exact L_53_120 _ s26 p29 hI27 hF28 hT30 hE31 (by omega) (ySq_0 d45) (Nat.lt_succ_self _)
        · exact absurd c112 (by omega)
  exact L_15_33 _ 1 s10 (yqs f σ) (by omega) (by omega) hI12 hF13 hT21 hE22 (by omega) (Or.inl ⟨rfl, yLs_0 hs11 rfl ⟨by omega, by omega⟩ hk hbd ho0⟩) (Nat.lt_succ_self _)
