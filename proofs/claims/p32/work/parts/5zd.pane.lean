set_option maxRecDepth 100000 in
set_option maxHeartbeats 4000000 in
theorem yc_X12_pane (l : Launch) (E : zEN) (σ : zSto) (hI : zInv σ) (hWd : yWd σ) : zCt l E yX12_pane cX12_pane 2 (some .int) 11 zNC zNC 0 0 σ [.ref (E.1 + 164)] (fun r σ' => zInv σ' ∧ zOn zQr σ σ' ∧ -2147483648 ≤ r ∧ r ≤ 2147483647 ∧ ((yPo (yAll (yW σ)).1 = 1 → r = (yAll (yW σ)).2.2) ∧ (yPo (yAll (yW σ)).1 = 0 → r = -1)) ∧ (yPo (yAll (yW σ)).1 = 1 → yNr σ' (yAll (yW σ)).2.1) ∧ (yPo (yAll (yW σ)).1 = 0 → σ' 194 3 = σ 194 3 ∧ σ' 194 4 = σ 194 4 ∧ σ' 195 1 = σ 195 1 ∧ σ' 164 50 = σ 164 50) ∧ (yFl (yAll (yW σ)).1 (σ' 164 7) (σ' 164 8))) := by
  refine zCt_of2 [some (.ref (E.1 + 164)), none] (by decide +kernel) (Nat.le_of_ble_eq_true rfl) rfl ?_
  intro X hE_ hX hR hL hN
  subst hE_
  have hX : zok X cX12_pane RX12 11 := hX
  have hF := zOn_rf zQr σ
  obtain ⟨f, hf⟩ : ∃ f, f = yW σ := ⟨_, rfl⟩
  have b1 := zv_46_2 hI zc_164
  have b2 := zv_46_3 hI zc_164
  have b3 := zv_46_4 hI zc_164
  have b4 := zv_46_5 hI zc_164
  have b5 := zv_46_6 hI zc_164
  have b6 := zv_46_48 hI zc_164
  have b7 := zv_46_49 hI zc_164
  have b8 := zv_77 hI zc_195 0
  have b9 := zv_82 hI zc_200 0
  have b10 := zv_82 hI zc_200 1
  have b11 := zv_77 hI zc_195 1
  have b12 := zv_46_50 hI zc_164
  have b13 := zv_46_7 hI zc_164
  have b14 := zv_46_8 hI zc_164
  refine zt_aload_n (pc' := 1) hX dX12_pane_0 rfl rfl ?_
  refine zt_aload_n (pc' := 2) hX dX12_pane_1 rfl rfl ?_
  have b15 := zv_46_1 hI zc_164
  refine zt_get (pc' := 5) (v := .int (zI (σ 164 1))) hX dX12_pane_2 rfl zf_X12_243 (by decide) zc_164 zs_46 rfl ?_
  refine zt_put (pc' := 8) (x := (σ 164 1)) hX dX12_pane_5 rfl zf_X12_255 (by decide) zc_164 zs_46 (fun q hq => by cases hq; rfl) rfl rfl rfl ?_
  generalize hs17 : zset σ 164 3 (σ 164 1) = s16
  have hI18 : zInv s16 := hs17 ▸ zp_46_3 hI zc_164 ⟨by omega, by omega⟩
  have hF19 : zOn zQr σ s16 := hs17 ▸ zOn_set hF rfl
  have e20 : s16 164 2 = σ 164 2 := by rw [← hs17]; exact zset_j (by decide)
  have e21 : s16 164 3 = (σ 164 1) := by rw [← hs17]; exact zset_s
  have e22 : s16 164 4 = σ 164 4 := by rw [← hs17]; exact zset_j (by decide)
  have e23 : s16 164 5 = σ 164 5 := by rw [← hs17]; exact zset_j (by decide)
  have e24 : s16 164 6 = σ 164 6 := by rw [← hs17]; exact zset_j (by decide)
  have e25 : s16 164 48 = σ 164 48 := by rw [← hs17]; exact zset_j (by decide)
  have e26 : s16 164 49 = σ 164 49 := by rw [← hs17]; exact zset_j (by decide)
  have e27 : s16 194 0 = σ 194 0 := by rw [← hs17]; exact zset_k (zne_r zc_194 zc_164 (by decide))
  have e28 : s16 194 1 = σ 194 1 := by rw [← hs17]; exact zset_k (zne_r zc_194 zc_164 (by decide))
  have e29 : s16 195 0 = σ 195 0 := by rw [← hs17]; exact zset_k (zne_r zc_195 zc_164 (by decide))
  have e30 : s16 200 0 = σ 200 0 := by rw [← hs17]; exact zset_k (zne_r zc_200 zc_164 (by decide))
  have e31 : s16 200 1 = σ 200 1 := by rw [← hs17]; exact zset_k (zne_r zc_200 zc_164 (by decide))
  have e32 : s16 199 0 = σ 199 0 := by rw [← hs17]; exact zset_k (zne_r zc_199 zc_164 (by decide))
  have e33 : s16 199 1 = σ 199 1 := by rw [← hs17]; exact zset_k (zne_r zc_199 zc_164 (by decide))
  have e34 : s16 199 2 = σ 199 2 := by rw [← hs17]; exact zset_k (zne_r zc_199 zc_164 (by decide))
  have e35 : s16 194 3 = σ 194 3 := by rw [← hs17]; exact zset_k (zne_r zc_194 zc_164 (by decide))
  have e36 : s16 194 4 = σ 194 4 := by rw [← hs17]; exact zset_k (zne_r zc_194 zc_164 (by decide))
  have e37 : s16 195 1 = σ 195 1 := by rw [← hs17]; exact zset_k (zne_r zc_195 zc_164 (by decide))
  have e38 : s16 164 50 = σ 164 50 := by rw [← hs17]; exact zset_j (by decide)
  have e39 : s16 164 7 = σ 164 7 := by rw [← hs17]; exact zset_j (by decide)
  have e40 : s16 164 8 = σ 164 8 := by rw [← hs17]; exact zset_j (by decide)
  refine zt_aload_n (pc' := 9) hX dX12_pane_8 rfl rfl ?_
  refine zt_iconst (pc' := 10) hX dX12_pane_9 rfl ?_
  refine zt_put (pc' := 13) (x := 0) hX dX12_pane_10 rfl zf_X12_243 (by decide) zc_164 zs_46 (fun q hq => by cases hq; rfl) rfl rfl rfl ?_
  generalize hs42 : zset s16 164 1 0 = s41
  have hI43 : zInv s41 := hs42 ▸ zp_46_1 hI18 zc_164 ⟨by omega, by omega⟩
  have hF44 : zOn zQr σ s41 := hs42 ▸ zOn_set hF19 rfl
  have e45 : s41 164 2 = s16 164 2 := by rw [← hs42]; exact zset_j (by decide)
  have e46 : s41 164 3 = s16 164 3 := by rw [← hs42]; exact zset_j (by decide)
  have e47 : s41 164 4 = s16 164 4 := by rw [← hs42]; exact zset_j (by decide)
  have e48 : s41 164 5 = s16 164 5 := by rw [← hs42]; exact zset_j (by decide)
  have e49 : s41 164 6 = s16 164 6 := by rw [← hs42]; exact zset_j (by decide)
  have e50 : s41 164 48 = s16 164 48 := by rw [← hs42]; exact zset_j (by decide)
  have e51 : s41 164 49 = s16 164 49 := by rw [← hs42]; exact zset_j (by decide)
  have e52 : s41 194 0 = s16 194 0 := by rw [← hs42]; exact zset_k (zne_r zc_194 zc_164 (by decide))
  have e53 : s41 194 1 = s16 194 1 := by rw [← hs42]; exact zset_k (zne_r zc_194 zc_164 (by decide))
  have e54 : s41 195 0 = s16 195 0 := by rw [← hs42]; exact zset_k (zne_r zc_195 zc_164 (by decide))
  have e55 : s41 200 0 = s16 200 0 := by rw [← hs42]; exact zset_k (zne_r zc_200 zc_164 (by decide))
  have e56 : s41 200 1 = s16 200 1 := by rw [← hs42]; exact zset_k (zne_r zc_200 zc_164 (by decide))
  have e57 : s41 199 0 = s16 199 0 := by rw [← hs42]; exact zset_k (zne_r zc_199 zc_164 (by decide))
  have e58 : s41 199 1 = s16 199 1 := by rw [← hs42]; exact zset_k (zne_r zc_199 zc_164 (by decide))
  have e59 : s41 199 2 = s16 199 2 := by rw [← hs42]; exact zset_k (zne_r zc_199 zc_164 (by decide))
  have e60 : s41 194 3 = s16 194 3 := by rw [← hs42]; exact zset_k (zne_r zc_194 zc_164 (by decide))
  have e61 : s41 194 4 = s16 194 4 := by rw [← hs42]; exact zset_k (zne_r zc_194 zc_164 (by decide))
  have e62 : s41 195 1 = s16 195 1 := by rw [← hs42]; exact zset_k (zne_r zc_195 zc_164 (by decide))
  have e63 : s41 164 50 = s16 164 50 := by rw [← hs42]; exact zset_j (by decide)
  have e64 : s41 164 7 = s16 164 7 := by rw [← hs42]; exact zset_j (by decide)
  have e65 : s41 164 8 = s16 164 8 := by rw [← hs42]; exact zset_j (by decide)
  refine zt_aload_n (pc' := 14) hX dX12_pane_13 rfl rfl ?_
  refine zt_iconst (pc' := 15) hX dX12_pane_14 rfl ?_
  refine zt_put (pc' := 18) (x := 0) hX dX12_pane_15 rfl zf_X12_252 (by decide) zc_164 zs_46 (fun q hq => by cases hq; rfl) rfl rfl rfl ?_
  generalize hs67 : zset s41 164 2 0 = s66
  have hI68 : zInv s66 := hs67 ▸ zp_46_2 hI43 zc_164 ⟨by omega, by omega⟩
  have hF69 : zOn zQr σ s66 := hs67 ▸ zOn_set hF44 rfl
  have e70 : s66 164 2 = 0 := by rw [← hs67]; exact zset_s
  have e71 : s66 164 3 = s41 164 3 := by rw [← hs67]; exact zset_j (by decide)
  have e72 : s66 164 4 = s41 164 4 := by rw [← hs67]; exact zset_j (by decide)
  have e73 : s66 164 5 = s41 164 5 := by rw [← hs67]; exact zset_j (by decide)
  have e74 : s66 164 6 = s41 164 6 := by rw [← hs67]; exact zset_j (by decide)
  have e75 : s66 164 48 = s41 164 48 := by rw [← hs67]; exact zset_j (by decide)
  have e76 : s66 164 49 = s41 164 49 := by rw [← hs67]; exact zset_j (by decide)
  have e77 : s66 194 0 = s41 194 0 := by rw [← hs67]; exact zset_k (zne_r zc_194 zc_164 (by decide))
  have e78 : s66 194 1 = s41 194 1 := by rw [← hs67]; exact zset_k (zne_r zc_194 zc_164 (by decide))
  have e79 : s66 195 0 = s41 195 0 := by rw [← hs67]; exact zset_k (zne_r zc_195 zc_164 (by decide))
  have e80 : s66 200 0 = s41 200 0 := by rw [← hs67]; exact zset_k (zne_r zc_200 zc_164 (by decide))
  have e81 : s66 200 1 = s41 200 1 := by rw [← hs67]; exact zset_k (zne_r zc_200 zc_164 (by decide))
  have e82 : s66 199 0 = s41 199 0 := by rw [← hs67]; exact zset_k (zne_r zc_199 zc_164 (by decide))
  have e83 : s66 199 1 = s41 199 1 := by rw [← hs67]; exact zset_k (zne_r zc_199 zc_164 (by decide))
  have e84 : s66 199 2 = s41 199 2 := by rw [← hs67]; exact zset_k (zne_r zc_199 zc_164 (by decide))
  have e85 : s66 194 3 = s41 194 3 := by rw [← hs67]; exact zset_k (zne_r zc_194 zc_164 (by decide))
  have e86 : s66 194 4 = s41 194 4 := by rw [← hs67]; exact zset_k (zne_r zc_194 zc_164 (by decide))
  have e87 : s66 195 1 = s41 195 1 := by rw [← hs67]; exact zset_k (zne_r zc_195 zc_164 (by decide))
  have e88 : s66 164 50 = s41 164 50 := by rw [← hs67]; exact zset_j (by decide)
  have e89 : s66 164 7 = s41 164 7 := by rw [← hs67]; exact zset_j (by decide)
  have e90 : s66 164 8 = s41 164 8 := by rw [← hs67]; exact zset_j (by decide)
  refine zt_aload_n (pc' := 19) hX dX12_pane_18 rfl rfl ?_
  refine zt_iconst (pc' := 20) hX dX12_pane_19 rfl ?_
  refine zt_put (pc' := 23) (x := (-1)) hX dX12_pane_20 rfl zf_X12_266 (by decide) zc_164 zs_46 (fun q hq => by cases hq; rfl) rfl rfl rfl ?_
  generalize hs92 : zset s66 164 4 (-1) = s91
  have hI93 : zInv s91 := hs92 ▸ zp_46_4 hI68 zc_164 ⟨by omega, by omega⟩
  have hF94 : zOn zQr σ s91 := hs92 ▸ zOn_set hF69 rfl
  have e95 : s91 164 2 = s66 164 2 := by rw [← hs92]; exact zset_j (by decide)
  have e96 : s91 164 3 = s66 164 3 := by rw [← hs92]; exact zset_j (by decide)
  have e97 : s91 164 4 = (-1) := by rw [← hs92]; exact zset_s
  have e98 : s91 164 5 = s66 164 5 := by rw [← hs92]; exact zset_j (by decide)
  have e99 : s91 164 6 = s66 164 6 := by rw [← hs92]; exact zset_j (by decide)
  have e100 : s91 164 48 = s66 164 48 := by rw [← hs92]; exact zset_j (by decide)
  have e101 : s91 164 49 = s66 164 49 := by rw [← hs92]; exact zset_j (by decide)
  have e102 : s91 194 0 = s66 194 0 := by rw [← hs92]; exact zset_k (zne_r zc_194 zc_164 (by decide))
  have e103 : s91 194 1 = s66 194 1 := by rw [← hs92]; exact zset_k (zne_r zc_194 zc_164 (by decide))
  have e104 : s91 195 0 = s66 195 0 := by rw [← hs92]; exact zset_k (zne_r zc_195 zc_164 (by decide))
  have e105 : s91 200 0 = s66 200 0 := by rw [← hs92]; exact zset_k (zne_r zc_200 zc_164 (by decide))
  have e106 : s91 200 1 = s66 200 1 := by rw [← hs92]; exact zset_k (zne_r zc_200 zc_164 (by decide))
  have e107 : s91 199 0 = s66 199 0 := by rw [← hs92]; exact zset_k (zne_r zc_199 zc_164 (by decide))
  have e108 : s91 199 1 = s66 199 1 := by rw [← hs92]; exact zset_k (zne_r zc_199 zc_164 (by decide))
  have e109 : s91 199 2 = s66 199 2 := by rw [← hs92]; exact zset_k (zne_r zc_199 zc_164 (by decide))
  have e110 : s91 194 3 = s66 194 3 := by rw [← hs92]; exact zset_k (zne_r zc_194 zc_164 (by decide))
  have e111 : s91 194 4 = s66 194 4 := by rw [← hs92]; exact zset_k (zne_r zc_194 zc_164 (by decide))
  have e112 : s91 195 1 = s66 195 1 := by rw [← hs92]; exact zset_k (zne_r zc_195 zc_164 (by decide))
  have e113 : s91 164 50 = s66 164 50 := by rw [← hs92]; exact zset_j (by decide)
  have e114 : s91 164 7 = s66 164 7 := by rw [← hs92]; exact zset_j (by decide)
  have e115 : s91 164 8 = s66 164 8 := by rw [← hs92]; exact zset_j (by decide)
  refine zt_aload_n (pc' := 24) hX dX12_pane_23 rfl rfl ?_
  refine zt_iconst (pc' := 25) hX dX12_pane_24 rfl ?_
  refine zt_put (pc' := 28) (x := 0) hX dX12_pane_25 rfl zf_X12_246 (by decide) zc_164 zs_46 (fun q hq => by cases hq; rfl) rfl rfl rfl ?_
  generalize hs117 : zset s91 164 5 0 = s116
  have hI118 : zInv s116 := hs117 ▸ zp_46_5 hI93 zc_164 ⟨by omega, by omega⟩
  have hF119 : zOn zQr σ s116 := hs117 ▸ zOn_set hF94 rfl
  have e120 : s116 164 2 = s91 164 2 := by rw [← hs117]; exact zset_j (by decide)
  have e121 : s116 164 3 = s91 164 3 := by rw [← hs117]; exact zset_j (by decide)
  have e122 : s116 164 4 = s91 164 4 := by rw [← hs117]; exact zset_j (by decide)
  have e123 : s116 164 5 = 0 := by rw [← hs117]; exact zset_s
  have e124 : s116 164 6 = s91 164 6 := by rw [← hs117]; exact zset_j (by decide)
  have e125 : s116 164 48 = s91 164 48 := by rw [← hs117]; exact zset_j (by decide)
  have e126 : s116 164 49 = s91 164 49 := by rw [← hs117]; exact zset_j (by decide)
  have e127 : s116 194 0 = s91 194 0 := by rw [← hs117]; exact zset_k (zne_r zc_194 zc_164 (by decide))
  have e128 : s116 194 1 = s91 194 1 := by rw [← hs117]; exact zset_k (zne_r zc_194 zc_164 (by decide))
  have e129 : s116 195 0 = s91 195 0 := by rw [← hs117]; exact zset_k (zne_r zc_195 zc_164 (by decide))
  have e130 : s116 200 0 = s91 200 0 := by rw [← hs117]; exact zset_k (zne_r zc_200 zc_164 (by decide))
  have e131 : s116 200 1 = s91 200 1 := by rw [← hs117]; exact zset_k (zne_r zc_200 zc_164 (by decide))
  have e132 : s116 199 0 = s91 199 0 := by rw [← hs117]; exact zset_k (zne_r zc_199 zc_164 (by decide))
  have e133 : s116 199 1 = s91 199 1 := by rw [← hs117]; exact zset_k (zne_r zc_199 zc_164 (by decide))
  have e134 : s116 199 2 = s91 199 2 := by rw [← hs117]; exact zset_k (zne_r zc_199 zc_164 (by decide))
  have e135 : s116 194 3 = s91 194 3 := by rw [← hs117]; exact zset_k (zne_r zc_194 zc_164 (by decide))
  have e136 : s116 194 4 = s91 194 4 := by rw [← hs117]; exact zset_k (zne_r zc_194 zc_164 (by decide))
  have e137 : s116 195 1 = s91 195 1 := by rw [← hs117]; exact zset_k (zne_r zc_195 zc_164 (by decide))
  have e138 : s116 164 50 = s91 164 50 := by rw [← hs117]; exact zset_j (by decide)
  have e139 : s116 164 7 = s91 164 7 := by rw [← hs117]; exact zset_j (by decide)
  have e140 : s116 164 8 = s91 164 8 := by rw [← hs117]; exact zset_j (by decide)
  refine zt_aload_n (pc' := 29) hX dX12_pane_28 rfl rfl ?_
  refine zt_iconst (pc' := 30) hX dX12_pane_29 rfl ?_
  refine zt_put (pc' := 33) (x := (-1)) hX dX12_pane_30 rfl zf_X12_249 (by decide) zc_164 zs_46 (fun q hq => by cases hq; rfl) rfl rfl rfl ?_
  generalize hs142 : zset s116 164 6 (-1) = s141
  have hI143 : zInv s141 := hs142 ▸ zp_46_6 hI118 zc_164 ⟨by omega, by omega⟩
  have hF144 : zOn zQr σ s141 := hs142 ▸ zOn_set hF119 rfl
  have e145 : s141 164 2 = s116 164 2 := by rw [← hs142]; exact zset_j (by decide)
  have e146 : s141 164 3 = s116 164 3 := by rw [← hs142]; exact zset_j (by decide)
  have e147 : s141 164 4 = s116 164 4 := by rw [← hs142]; exact zset_j (by decide)
  have e148 : s141 164 5 = s116 164 5 := by rw [← hs142]; exact zset_j (by decide)
  have e149 : s141 164 6 = (-1) := by rw [← hs142]; exact zset_s
  have e150 : s141 164 48 = s116 164 48 := by rw [← hs142]; exact zset_j (by decide)
  have e151 : s141 164 49 = s116 164 49 := by rw [← hs142]; exact zset_j (by decide)
  have e152 : s141 194 0 = s116 194 0 := by rw [← hs142]; exact zset_k (zne_r zc_194 zc_164 (by decide))
  have e153 : s141 194 1 = s116 194 1 := by rw [← hs142]; exact zset_k (zne_r zc_194 zc_164 (by decide))
  have e154 : s141 195 0 = s116 195 0 := by rw [← hs142]; exact zset_k (zne_r zc_195 zc_164 (by decide))
  have e155 : s141 200 0 = s116 200 0 := by rw [← hs142]; exact zset_k (zne_r zc_200 zc_164 (by decide))
  have e156 : s141 200 1 = s116 200 1 := by rw [← hs142]; exact zset_k (zne_r zc_200 zc_164 (by decide))
  have e157 : s141 199 0 = s116 199 0 := by rw [← hs142]; exact zset_k (zne_r zc_199 zc_164 (by decide))
  have e158 : s141 199 1 = s116 199 1 := by rw [← hs142]; exact zset_k (zne_r zc_199 zc_164 (by decide))
  have e159 : s141 199 2 = s116 199 2 := by rw [← hs142]; exact zset_k (zne_r zc_199 zc_164 (by decide))
  have e160 : s141 194 3 = s116 194 3 := by rw [← hs142]; exact zset_k (zne_r zc_194 zc_164 (by decide))
  have e161 : s141 194 4 = s116 194 4 := by rw [← hs142]; exact zset_k (zne_r zc_194 zc_164 (by decide))
  have e162 : s141 195 1 = s116 195 1 := by rw [← hs142]; exact zset_k (zne_r zc_195 zc_164 (by decide))
  have e163 : s141 164 50 = s116 164 50 := by rw [← hs142]; exact zset_j (by decide)
  have e164 : s141 164 7 = s116 164 7 := by rw [← hs142]; exact zset_j (by decide)
  have e165 : s141 164 8 = s116 164 8 := by rw [← hs142]; exact zset_j (by decide)
  have hQ := yQ0 (σ := σ) (s := s141) hI (by omega) (by omega) (by omega) (by omega) (by omega) (fun j => hF144 165 j rfl)
  rw [← hf] at hQ
  refine zt_aload_n (pc' := 34) hX dX12_pane_33 rfl rfl ?_
  refine zt_iconst (pc' := 35) hX dX12_pane_34 rfl ?_
  refine zt_put (pc' := 38) (x := 0) hX dX12_pane_35 rfl zf_X12_348 (by decide) zc_164 zs_46 (fun q hq => by cases hq; rfl) rfl rfl rfl ?_
  generalize hs167 : zset s141 164 48 0 = s166
  have hI168 : zInv s166 := hs167 ▸ zp_46_48 hI143 zc_164 ⟨by omega, by omega⟩
  have hF169 : zOn zQr σ s166 := hs167 ▸ zOn_set hF144 rfl
  have e170 : s166 164 2 = s141 164 2 := by rw [← hs167]; exact zset_j (by decide)
  have e171 : s166 164 3 = s141 164 3 := by rw [← hs167]; exact zset_j (by decide)
  have e172 : s166 164 4 = s141 164 4 := by rw [← hs167]; exact zset_j (by decide)
  have e173 : s166 164 5 = s141 164 5 := by rw [← hs167]; exact zset_j (by decide)
  have e174 : s166 164 6 = s141 164 6 := by rw [← hs167]; exact zset_j (by decide)
  have e175 : s166 164 48 = 0 := by rw [← hs167]; exact zset_s
  have e176 : s166 164 49 = s141 164 49 := by rw [← hs167]; exact zset_j (by decide)
  have e177 : s166 194 0 = s141 194 0 := by rw [← hs167]; exact zset_k (zne_r zc_194 zc_164 (by decide))
  have e178 : s166 194 1 = s141 194 1 := by rw [← hs167]; exact zset_k (zne_r zc_194 zc_164 (by decide))
  have e179 : s166 195 0 = s141 195 0 := by rw [← hs167]; exact zset_k (zne_r zc_195 zc_164 (by decide))
  have e180 : s166 200 0 = s141 200 0 := by rw [← hs167]; exact zset_k (zne_r zc_200 zc_164 (by decide))
  have e181 : s166 200 1 = s141 200 1 := by rw [← hs167]; exact zset_k (zne_r zc_200 zc_164 (by decide))
  have e182 : s166 199 0 = s141 199 0 := by rw [← hs167]; exact zset_k (zne_r zc_199 zc_164 (by decide))
  have e183 : s166 199 1 = s141 199 1 := by rw [← hs167]; exact zset_k (zne_r zc_199 zc_164 (by decide))
  have e184 : s166 199 2 = s141 199 2 := by rw [← hs167]; exact zset_k (zne_r zc_199 zc_164 (by decide))
  have e185 : s166 194 3 = s141 194 3 := by rw [← hs167]; exact zset_k (zne_r zc_194 zc_164 (by decide))
  have e186 : s166 194 4 = s141 194 4 := by rw [← hs167]; exact zset_k (zne_r zc_194 zc_164 (by decide))
  have e187 : s166 195 1 = s141 195 1 := by rw [← hs167]; exact zset_k (zne_r zc_195 zc_164 (by decide))
  have e188 : s166 164 50 = s141 164 50 := by rw [← hs167]; exact zset_j (by decide)
  have e189 : s166 164 7 = s141 164 7 := by rw [← hs167]; exact zset_j (by decide)
  have e190 : s166 164 8 = s141 164 8 := by rw [← hs167]; exact zset_j (by decide)
  have hT191 := yTq_rk hQ.1 (yRq_j hs167 (by decide))
  have hE192 : yqs f s166 = (yP.ok (yS f 0)) := (yqs_rk (yRq_j hs167 (by decide))).trans hQ.2
  refine zt_aload_n (pc' := 39) hX dX12_pane_38 rfl rfl ?_
  refine zt_get (pc' := 42) (v := .ref (X.1.1 + 195)) hX dX12_pane_39 rfl zf_X12_105 (by decide) zc_164 zs_46 (zrf_of (zv_46_40 hI168 zc_164)) ?_
  refine zt_iconst (pc' := 43) hX dX12_pane_42 rfl ?_
  refine zt_iconst (pc' := 44) hX dX12_pane_43 rfl ?_
  refine zt_iast (pc' := 45) hX dX12_pane_44 rfl (by decide) zc_195 zs_77 (by decide) ⟨by omega, by omega⟩ ?_
  rw [show Int.toNat 0 = 0 from rfl]
  generalize hs194 : zset s166 195 0 0 = s193
  have hI195 : zInv s193 := hs194 ▸ zp_77 hI168 zc_195 0 ⟨by omega, by omega⟩
  have hF196 : zOn zQr σ s193 := hs194 ▸ zOn_set hF169 rfl
  have hT197 := yTq_rk hT191 (yRq_set hs194 zc_195 (by decide))
  have hE198 : yqs f s193 = (yP.ok (yS f 0)) := (yqs_rk (yRq_set hs194 zc_195 (by decide))).trans hE192
  have e199 : s193 164 2 = s166 164 2 := by rw [← hs194]; exact zset_k (zne_r zc_164 zc_195 (by decide))
  have e200 : s193 164 3 = s166 164 3 := by rw [← hs194]; exact zset_k (zne_r zc_164 zc_195 (by decide))
  have e201 : s193 164 4 = s166 164 4 := by rw [← hs194]; exact zset_k (zne_r zc_164 zc_195 (by decide))
  have e202 : s193 164 5 = s166 164 5 := by rw [← hs194]; exact zset_k (zne_r zc_164 zc_195 (by decide))
  have e203 : s193 164 6 = s166 164 6 := by rw [← hs194]; exact zset_k (zne_r zc_164 zc_195 (by decide))
  have e204 : s193 164 48 = s166 164 48 := by rw [← hs194]; exact zset_k (zne_r zc_164 zc_195 (by decide))
  have e205 : s193 164 49 = s166 164 49 := by rw [← hs194]; exact zset_k (zne_r zc_164 zc_195 (by decide))
  have e206 : s193 194 0 = s166 194 0 := by rw [← hs194]; exact zset_k (zne_r zc_194 zc_195 (by decide))
  have e207 : s193 194 1 = s166 194 1 := by rw [← hs194]; exact zset_k (zne_r zc_194 zc_195 (by decide))
  have e208 : s193 195 0 = 0 := by rw [← hs194]; exact zset_s
  have e209 : s193 200 0 = s166 200 0 := by rw [← hs194]; exact zset_k (zne_r zc_200 zc_195 (by decide))
  have e210 : s193 200 1 = s166 200 1 := by rw [← hs194]; exact zset_k (zne_r zc_200 zc_195 (by decide))
  have e211 : s193 199 0 = s166 199 0 := by rw [← hs194]; exact zset_k (zne_r zc_199 zc_195 (by decide))
  have e212 : s193 199 1 = s166 199 1 := by rw [← hs194]; exact zset_k (zne_r zc_199 zc_195 (by decide))
  have e213 : s193 199 2 = s166 199 2 := by rw [← hs194]; exact zset_k (zne_r zc_199 zc_195 (by decide))
  have e214 : s193 194 3 = s166 194 3 := by rw [← hs194]; exact zset_k (zne_r zc_194 zc_195 (by decide))
  have e215 : s193 194 4 = s166 194 4 := by rw [← hs194]; exact zset_k (zne_r zc_194 zc_195 (by decide))
  have e216 : s193 195 1 = s166 195 1 := by rw [← hs194]; exact zset_j (by decide)
  have e217 : s193 164 50 = s166 164 50 := by rw [← hs194]; exact zset_k (zne_r zc_164 zc_195 (by decide))
  have e218 : s193 164 7 = s166 164 7 := by rw [← hs194]; exact zset_k (zne_r zc_164 zc_195 (by decide))
  have e219 : s193 164 8 = s166 164 8 := by rw [← hs194]; exact zset_k (zne_r zc_164 zc_195 (by decide))
  refine zt_iconst (pc' := 46) hX dX12_pane_45 rfl ?_
  refine zt_istore_n (pc' := 47) (lv' := [some (.ref (X.1.1 + 164)), some (.int (zI 0))]) hX dX12_pane_46 rfl hL (by decide) rfl ?_
  have L_47_232 : ∀ (N : Nat) (x220 : Int) (s223 : zSto) (p226 : yP), 0 ≤ x220 → x220 ≤ 36 → zInv s223 → zOn zQr σ s223 → yTq f s223 → yqs f s223 = p226 → s223 195 0 = 0 → s223 164 48 = 0 → (s223 194 3 = σ 194 3 ∧ s223 194 4 = σ 194 4 ∧ s223 195 1 = σ 195 1 ∧ s223 164 50 = σ 164 50) → p226 = yP.ok (yS f 0) → ((37 - x220).toNat) < N → zF X s223 47 [some (.ref (X.1.1 + 164)), some (.int (zI x220))] [] := by
    intro N
    induction N with
    | zero =>
      intro x220 s223 p226 h221 h222 hI224 hF225 hT227 hE228 g229 g230 g231 g232 hm234
      exact absurd hm234 (Nat.not_lt_zero _)
    | succ N ih235 =>
      intro x220 s223 p226 h221 h222 hI224 hF225 hT227 hE228 g229 g230 g231 g232 hm234
      have b236 := zv_46_2 hI224 zc_164
      have b237 := zv_46_3 hI224 zc_164
      have b238 := zv_46_4 hI224 zc_164
      have b239 := zv_46_5 hI224 zc_164
      have b240 := zv_46_6 hI224 zc_164
      have b241 := zv_46_48 hI224 zc_164
      have b242 := zv_46_49 hI224 zc_164
      have b243 := zv_77 hI224 zc_195 0
      have b244 := zv_82 hI224 zc_200 0
      have b245 := zv_82 hI224 zc_200 1
      have b246 := zv_77 hI224 zc_195 1
      have b247 := zv_46_50 hI224 zc_164
      have b248 := zv_46_7 hI224 zc_164
      have b249 := zv_46_8 hI224 zc_164
      subst g232
      · refine zt_iload_n (pc' := 48) hX dX12_pane_47 rfl rfl ?_
        refine zt_bipush (pc' := 50) hX dX12_pane_48 rfl (by decide) (by decide) ?_
        refine zt_icge (pc' := 53) (tgt := 66) hX dX12_pane_50 rfl (by decide) ⟨by omega, by omega⟩ ⟨by omega, by omega⟩ (fun c250 => ?_) (fun c250 => ?_)
        · refine zt_aload_n (pc' := 67) hX dX12_pane_66 rfl rfl ?_
          refine zt_get (pc' := 70) (v := .ref (X.1.1 + 200)) hX dX12_pane_67 rfl zf_X12_121 (by decide) zc_164 zs_46 (zrf_of (zv_46_45 hI224 zc_164)) ?_
          refine zt_iconst (pc' := 71) hX dX12_pane_70 rfl ?_
          refine zt_iconst (pc' := 72) hX dX12_pane_71 rfl ?_
          refine zt_iast (pc' := 73) hX dX12_pane_72 rfl (by decide) zc_200 zs_82 (by decide) ⟨by omega, by omega⟩ ?_
          rw [show Int.toNat 0 = 0 from rfl]
          generalize hs252 : zset s223 200 0 (-1) = s251
          have hI253 : zInv s251 := hs252 ▸ zp_82 hI224 zc_200 0 ⟨by omega, by omega⟩
          have hF254 : zOn zQr σ s251 := hs252 ▸ zOn_set hF225 rfl
          have hT255 := yTq_rk hT227 (yRq_set hs252 zc_200 (by decide))
          have hE256 : yqs f s251 = (yP.ok (yS f 0)) := (yqs_rk (yRq_set hs252 zc_200 (by decide))).trans hE228
          have e257 : s251 164 2 = s223 164 2 := by rw [← hs252]; exact zset_k (zne_r zc_164 zc_200 (by decide))
          have e258 : s251 164 3 = s223 164 3 := by rw [← hs252]; exact zset_k (zne_r zc_164 zc_200 (by decide))
          have e259 : s251 164 4 = s223 164 4 := by rw [← hs252]; exact zset_k (zne_r zc_164 zc_200 (by decide))
          have e260 : s251 164 5 = s223 164 5 := by rw [← hs252]; exact zset_k (zne_r zc_164 zc_200 (by decide))
          have e261 : s251 164 6 = s223 164 6 := by rw [← hs252]; exact zset_k (zne_r zc_164 zc_200 (by decide))
          have e262 : s251 164 48 = s223 164 48 := by rw [← hs252]; exact zset_k (zne_r zc_164 zc_200 (by decide))
          have e263 : s251 164 49 = s223 164 49 := by rw [← hs252]; exact zset_k (zne_r zc_164 zc_200 (by decide))
          have e264 : s251 194 0 = s223 194 0 := by rw [← hs252]; exact zset_k (zne_r zc_194 zc_200 (by decide))
          have e265 : s251 194 1 = s223 194 1 := by rw [← hs252]; exact zset_k (zne_r zc_194 zc_200 (by decide))
          have e266 : s251 195 0 = s223 195 0 := by rw [← hs252]; exact zset_k (zne_r zc_195 zc_200 (by decide))
          have e267 : s251 200 0 = (-1) := by rw [← hs252]; exact zset_s
          have e268 : s251 200 1 = s223 200 1 := by rw [← hs252]; exact zset_j (by decide)
          have e269 : s251 199 0 = s223 199 0 := by rw [← hs252]; exact zset_k (zne_r zc_199 zc_200 (by decide))
          have e270 : s251 199 1 = s223 199 1 := by rw [← hs252]; exact zset_k (zne_r zc_199 zc_200 (by decide))
          have e271 : s251 199 2 = s223 199 2 := by rw [← hs252]; exact zset_k (zne_r zc_199 zc_200 (by decide))
          have e272 : s251 194 3 = s223 194 3 := by rw [← hs252]; exact zset_k (zne_r zc_194 zc_200 (by decide))
          have e273 : s251 194 4 = s223 194 4 := by rw [← hs252]; exact zset_k (zne_r zc_194 zc_200 (by decide))
          have e274 : s251 195 1 = s223 195 1 := by rw [← hs252]; exact zset_k (zne_r zc_195 zc_200 (by decide))
          have e275 : s251 164 50 = s223 164 50 := by rw [← hs252]; exact zset_k (zne_r zc_164 zc_200 (by decide))
          have e276 : s251 164 7 = s223 164 7 := by rw [← hs252]; exact zset_k (zne_r zc_164 zc_200 (by decide))
          have e277 : s251 164 8 = s223 164 8 := by rw [← hs252]; exact zset_k (zne_r zc_164 zc_200 (by decide))
          refine zt_aload_n (pc' := 74) hX dX12_pane_73 rfl rfl ?_
          refine zt_get (pc' := 77) (v := .ref (X.1.1 + 200)) hX dX12_pane_74 rfl zf_X12_121 (by decide) zc_164 zs_46 (zrf_of (zv_46_45 hI253 zc_164)) ?_
          refine zt_iconst (pc' := 78) hX dX12_pane_77 rfl ?_
          refine zt_iconst (pc' := 79) hX dX12_pane_78 rfl ?_
          refine zt_iast (pc' := 80) hX dX12_pane_79 rfl (by decide) zc_200 zs_82 (by decide) ⟨by omega, by omega⟩ ?_
          rw [show Int.toNat 1 = 1 from rfl]
          generalize hs279 : zset s251 200 1 (-1) = s278
          have hI280 : zInv s278 := hs279 ▸ zp_82 hI253 zc_200 1 ⟨by omega, by omega⟩
          have hF281 : zOn zQr σ s278 := hs279 ▸ zOn_set hF254 rfl
          have hT282 := yTq_rk hT255 (yRq_set hs279 zc_200 (by decide))
          have hE283 : yqs f s278 = (yP.ok (yS f 0)) := (yqs_rk (yRq_set hs279 zc_200 (by decide))).trans hE256
          have e284 : s278 164 2 = s251 164 2 := by rw [← hs279]; exact zset_k (zne_r zc_164 zc_200 (by decide))
          have e285 : s278 164 3 = s251 164 3 := by rw [← hs279]; exact zset_k (zne_r zc_164 zc_200 (by decide))
          have e286 : s278 164 4 = s251 164 4 := by rw [← hs279]; exact zset_k (zne_r zc_164 zc_200 (by decide))
          have e287 : s278 164 5 = s251 164 5 := by rw [← hs279]; exact zset_k (zne_r zc_164 zc_200 (by decide))
          have e288 : s278 164 6 = s251 164 6 := by rw [← hs279]; exact zset_k (zne_r zc_164 zc_200 (by decide))
          have e289 : s278 164 48 = s251 164 48 := by rw [← hs279]; exact zset_k (zne_r zc_164 zc_200 (by decide))
          have e290 : s278 164 49 = s251 164 49 := by rw [← hs279]; exact zset_k (zne_r zc_164 zc_200 (by decide))
          have e291 : s278 194 0 = s251 194 0 := by rw [← hs279]; exact zset_k (zne_r zc_194 zc_200 (by decide))
          have e292 : s278 194 1 = s251 194 1 := by rw [← hs279]; exact zset_k (zne_r zc_194 zc_200 (by decide))
          have e293 : s278 195 0 = s251 195 0 := by rw [← hs279]; exact zset_k (zne_r zc_195 zc_200 (by decide))
          have e294 : s278 200 0 = s251 200 0 := by rw [← hs279]; exact zset_j (by decide)
          have e295 : s278 200 1 = (-1) := by rw [← hs279]; exact zset_s
          have e296 : s278 199 0 = s251 199 0 := by rw [← hs279]; exact zset_k (zne_r zc_199 zc_200 (by decide))
          have e297 : s278 199 1 = s251 199 1 := by rw [← hs279]; exact zset_k (zne_r zc_199 zc_200 (by decide))
          have e298 : s278 199 2 = s251 199 2 := by rw [← hs279]; exact zset_k (zne_r zc_199 zc_200 (by decide))
          have e299 : s278 194 3 = s251 194 3 := by rw [← hs279]; exact zset_k (zne_r zc_194 zc_200 (by decide))
          have e300 : s278 194 4 = s251 194 4 := by rw [← hs279]; exact zset_k (zne_r zc_194 zc_200 (by decide))
          have e301 : s278 195 1 = s251 195 1 := by rw [← hs279]; exact zset_k (zne_r zc_195 zc_200 (by decide))
          have e302 : s278 164 50 = s251 164 50 := by rw [← hs279]; exact zset_k (zne_r zc_164 zc_200 (by decide))
          have e303 : s278 164 7 = s251 164 7 := by rw [← hs279]; exact zset_k (zne_r zc_164 zc_200 (by decide))
          have e304 : s278 164 8 = s251 164 8 := by rw [← hs279]; exact zset_k (zne_r zc_164 zc_200 (by decide))
          refine zt_aload_n (pc' := 81) hX dX12_pane_80 rfl rfl ?_
          refine zt_get (pc' := 84) (v := .ref (X.1.1 + 199)) hX dX12_pane_81 rfl zf_X12_118 (by decide) zc_164 zs_46 (zrf_of (zv_46_44 hI280 zc_164)) ?_
          refine zt_iconst (pc' := 85) hX dX12_pane_84 rfl ?_
          refine zt_iconst (pc' := 86) hX dX12_pane_85 rfl ?_
          refine zt_iast (pc' := 87) hX dX12_pane_86 rfl (by decide) zc_199 zs_81 (by decide) ⟨by omega, by omega⟩ ?_
          rw [show Int.toNat 0 = 0 from rfl]
          generalize hs306 : zset s278 199 0 3 = s305
          have hI307 : zInv s305 := hs306 ▸ zp_81 hI280 zc_199 0 (by omega)
          have hF308 : zOn zQr σ s305 := hs306 ▸ zOn_set hF281 rfl
          have hT309 := yTq_rk hT282 (yRq_set hs306 zc_199 (by decide))
          have hE310 : yqs f s305 = (yP.ok (yS f 0)) := (yqs_rk (yRq_set hs306 zc_199 (by decide))).trans hE283
          have e311 : s305 164 2 = s278 164 2 := by rw [← hs306]; exact zset_k (zne_r zc_164 zc_199 (by decide))
          have e312 : s305 164 3 = s278 164 3 := by rw [← hs306]; exact zset_k (zne_r zc_164 zc_199 (by decide))
          have e313 : s305 164 4 = s278 164 4 := by rw [← hs306]; exact zset_k (zne_r zc_164 zc_199 (by decide))
          have e314 : s305 164 5 = s278 164 5 := by rw [← hs306]; exact zset_k (zne_r zc_164 zc_199 (by decide))
          have e315 : s305 164 6 = s278 164 6 := by rw [← hs306]; exact zset_k (zne_r zc_164 zc_199 (by decide))
          have e316 : s305 164 48 = s278 164 48 := by rw [← hs306]; exact zset_k (zne_r zc_164 zc_199 (by decide))
          have e317 : s305 164 49 = s278 164 49 := by rw [← hs306]; exact zset_k (zne_r zc_164 zc_199 (by decide))
          have e318 : s305 194 0 = s278 194 0 := by rw [← hs306]; exact zset_k (zne_r zc_194 zc_199 (by decide))
          have e319 : s305 194 1 = s278 194 1 := by rw [← hs306]; exact zset_k (zne_r zc_194 zc_199 (by decide))
          have e320 : s305 195 0 = s278 195 0 := by rw [← hs306]; exact zset_k (zne_r zc_195 zc_199 (by decide))
          have e321 : s305 200 0 = s278 200 0 := by rw [← hs306]; exact zset_k (zne_r zc_200 zc_199 (by decide))
          have e322 : s305 200 1 = s278 200 1 := by rw [← hs306]; exact zset_k (zne_r zc_200 zc_199 (by decide))
          have e323 : s305 199 0 = 3 := by rw [← hs306]; exact zset_s
          have e324 : s305 199 1 = s278 199 1 := by rw [← hs306]; exact zset_j (by decide)
          have e325 : s305 199 2 = s278 199 2 := by rw [← hs306]; exact zset_j (by decide)
          have e326 : s305 194 3 = s278 194 3 := by rw [← hs306]; exact zset_k (zne_r zc_194 zc_199 (by decide))
          have e327 : s305 194 4 = s278 194 4 := by rw [← hs306]; exact zset_k (zne_r zc_194 zc_199 (by decide))
          have e328 : s305 195 1 = s278 195 1 := by rw [← hs306]; exact zset_k (zne_r zc_195 zc_199 (by decide))
          have e329 : s305 164 50 = s278 164 50 := by rw [← hs306]; exact zset_k (zne_r zc_164 zc_199 (by decide))
          have e330 : s305 164 7 = s278 164 7 := by rw [← hs306]; exact zset_k (zne_r zc_164 zc_199 (by decide))
          have e331 : s305 164 8 = s278 164 8 := by rw [← hs306]; exact zset_k (zne_r zc_164 zc_199 (by decide))
          refine zt_aload_n (pc' := 88) hX dX12_pane_87 rfl rfl ?_
          refine zt_get (pc' := 91) (v := .ref (X.1.1 + 199)) hX dX12_pane_88 rfl zf_X12_118 (by decide) zc_164 zs_46 (zrf_of (zv_46_44 hI307 zc_164)) ?_
          refine zt_iconst (pc' := 92) hX dX12_pane_91 rfl ?_
          refine zt_bipush (pc' := 94) hX dX12_pane_92 rfl (by decide) (by decide) ?_
          refine zt_iast (pc' := 95) hX dX12_pane_94 rfl (by decide) zc_199 zs_81 (by decide) ⟨by omega, by omega⟩ ?_
          rw [show Int.toNat 1 = 1 from rfl]
          generalize hs333 : zset s305 199 1 20 = s332
          have hI334 : zInv s332 := hs333 ▸ zp_81 hI307 zc_199 1 (by omega)
          have hF335 : zOn zQr σ s332 := hs333 ▸ zOn_set hF308 rfl
          have hT336 := yTq_rk hT309 (yRq_set hs333 zc_199 (by decide))
          have hE337 : yqs f s332 = (yP.ok (yS f 0)) := (yqs_rk (yRq_set hs333 zc_199 (by decide))).trans hE310
          have e338 : s332 164 2 = s305 164 2 := by rw [← hs333]; exact zset_k (zne_r zc_164 zc_199 (by decide))
          have e339 : s332 164 3 = s305 164 3 := by rw [← hs333]; exact zset_k (zne_r zc_164 zc_199 (by decide))
          have e340 : s332 164 4 = s305 164 4 := by rw [← hs333]; exact zset_k (zne_r zc_164 zc_199 (by decide))
          have e341 : s332 164 5 = s305 164 5 := by rw [← hs333]; exact zset_k (zne_r zc_164 zc_199 (by decide))
          have e342 : s332 164 6 = s305 164 6 := by rw [← hs333]; exact zset_k (zne_r zc_164 zc_199 (by decide))
          have e343 : s332 164 48 = s305 164 48 := by rw [← hs333]; exact zset_k (zne_r zc_164 zc_199 (by decide))
          have e344 : s332 164 49 = s305 164 49 := by rw [← hs333]; exact zset_k (zne_r zc_164 zc_199 (by decide))
          have e345 : s332 194 0 = s305 194 0 := by rw [← hs333]; exact zset_k (zne_r zc_194 zc_199 (by decide))
          have e346 : s332 194 1 = s305 194 1 := by rw [← hs333]; exact zset_k (zne_r zc_194 zc_199 (by decide))
          have e347 : s332 195 0 = s305 195 0 := by rw [← hs333]; exact zset_k (zne_r zc_195 zc_199 (by decide))
          have e348 : s332 200 0 = s305 200 0 := by rw [← hs333]; exact zset_k (zne_r zc_200 zc_199 (by decide))
          have e349 : s332 200 1 = s305 200 1 := by rw [← hs333]; exact zset_k (zne_r zc_200 zc_199 (by decide))
          have e350 : s332 199 0 = s305 199 0 := by rw [← hs333]; exact zset_j (by decide)
          have e351 : s332 199 1 = 20 := by rw [← hs333]; exact zset_s
          have e352 : s332 199 2 = s305 199 2 := by rw [← hs333]; exact zset_j (by decide)
          have e353 : s332 194 3 = s305 194 3 := by rw [← hs333]; exact zset_k (zne_r zc_194 zc_199 (by decide))
          have e354 : s332 194 4 = s305 194 4 := by rw [← hs333]; exact zset_k (zne_r zc_194 zc_199 (by decide))
          have e355 : s332 195 1 = s305 195 1 := by rw [← hs333]; exact zset_k (zne_r zc_195 zc_199 (by decide))
          have e356 : s332 164 50 = s305 164 50 := by rw [← hs333]; exact zset_k (zne_r zc_164 zc_199 (by decide))
          have e357 : s332 164 7 = s305 164 7 := by rw [← hs333]; exact zset_k (zne_r zc_164 zc_199 (by decide))
          have e358 : s332 164 8 = s305 164 8 := by rw [← hs333]; exact zset_k (zne_r zc_164 zc_199 (by decide))
          refine zt_aload_n (pc' := 96) hX dX12_pane_95 rfl rfl ?_
          refine zt_get (pc' := 99) (v := .ref (X.1.1 + 199)) hX dX12_pane_96 rfl zf_X12_118 (by decide) zc_164 zs_46 (zrf_of (zv_46_44 hI334 zc_164)) ?_
          refine zt_iconst (pc' := 100) hX dX12_pane_99 rfl ?_
          refine zt_iconst (pc' := 101) hX dX12_pane_100 rfl ?_
          refine zt_iast (pc' := 102) hX dX12_pane_101 rfl (by decide) zc_199 zs_81 (by decide) ⟨by omega, by omega⟩ ?_
          rw [show Int.toNat 2 = 2 from rfl]
          generalize hs360 : zset s332 199 2 0 = s359
          have hI361 : zInv s359 := hs360 ▸ zp_81 hI334 zc_199 2 (by omega)
          have hF362 : zOn zQr σ s359 := hs360 ▸ zOn_set hF335 rfl
          have hT363 := yTq_rk hT336 (yRq_set hs360 zc_199 (by decide))
          have hE364 : yqs f s359 = (yP.ok (yS f 0)) := (yqs_rk (yRq_set hs360 zc_199 (by decide))).trans hE337
          have e365 : s359 164 2 = s332 164 2 := by rw [← hs360]; exact zset_k (zne_r zc_164 zc_199 (by decide))
          have e366 : s359 164 3 = s332 164 3 := by rw [← hs360]; exact zset_k (zne_r zc_164 zc_199 (by decide))
          have e367 : s359 164 4 = s332 164 4 := by rw [← hs360]; exact zset_k (zne_r zc_164 zc_199 (by decide))
          have e368 : s359 164 5 = s332 164 5 := by rw [← hs360]; exact zset_k (zne_r zc_164 zc_199 (by decide))
          have e369 : s359 164 6 = s332 164 6 := by rw [← hs360]; exact zset_k (zne_r zc_164 zc_199 (by decide))
          have e370 : s359 164 48 = s332 164 48 := by rw [← hs360]; exact zset_k (zne_r zc_164 zc_199 (by decide))
          have e371 : s359 164 49 = s332 164 49 := by rw [← hs360]; exact zset_k (zne_r zc_164 zc_199 (by decide))
          have e372 : s359 194 0 = s332 194 0 := by rw [← hs360]; exact zset_k (zne_r zc_194 zc_199 (by decide))
          have e373 : s359 194 1 = s332 194 1 := by rw [← hs360]; exact zset_k (zne_r zc_194 zc_199 (by decide))
          have e374 : s359 195 0 = s332 195 0 := by rw [← hs360]; exact zset_k (zne_r zc_195 zc_199 (by decide))
          have e375 : s359 200 0 = s332 200 0 := by rw [← hs360]; exact zset_k (zne_r zc_200 zc_199 (by decide))
          have e376 : s359 200 1 = s332 200 1 := by rw [← hs360]; exact zset_k (zne_r zc_200 zc_199 (by decide))
          have e377 : s359 199 0 = s332 199 0 := by rw [← hs360]; exact zset_j (by decide)
          have e378 : s359 199 1 = s332 199 1 := by rw [← hs360]; exact zset_j (by decide)
          have e379 : s359 199 2 = 0 := by rw [← hs360]; exact zset_s
          have e380 : s359 194 3 = s332 194 3 := by rw [← hs360]; exact zset_k (zne_r zc_194 zc_199 (by decide))
          have e381 : s359 194 4 = s332 194 4 := by rw [← hs360]; exact zset_k (zne_r zc_194 zc_199 (by decide))
          have e382 : s359 195 1 = s332 195 1 := by rw [← hs360]; exact zset_k (zne_r zc_195 zc_199 (by decide))
          have e383 : s359 164 50 = s332 164 50 := by rw [← hs360]; exact zset_k (zne_r zc_164 zc_199 (by decide))
          have e384 : s359 164 7 = s332 164 7 := by rw [← hs360]; exact zset_k (zne_r zc_164 zc_199 (by decide))
          have e385 : s359 164 8 = s332 164 8 := by rw [← hs360]; exact zset_k (zne_r zc_164 zc_199 (by decide))
          refine zt_aload_n (pc' := 103) hX dX12_pane_102 rfl rfl ?_
          refine zt_cVv (pc' := 106) hX dX12_pane_103 rfl zm_yX12_paneTold zw_25_20 zc_164 (by decide) zs_46 (q := (RX12, TX12, 108)) rfl rfl (yc_X12_paneTold _ _ s359 hI361 f hT363 (yWd_r hWd hF362)) rfl rfl (Nat.le_of_ble_eq_true rfl) (by decide) (fun r386 s387 hr388 hp389 => ?_)
          obtain ⟨hI390, hF391, hT392, z393, z394⟩ := hp389
          have hE395 : yqs f s387 = yPs f 59 (yPan f (yP.ok (yS f 0))) := by rw [z393, hE364]
          rw [hE364] at z394
          have hF396 := zOn_tr hF362 hF391 (zi_r3 zi_73)
          rw [hE395] at z394
          have b397 := zv_46_2 hI390 zc_164
          have b398 := zv_46_3 hI390 zc_164
          have b399 := zv_46_4 hI390 zc_164
          have b400 := zv_46_5 hI390 zc_164
          have b401 := zv_46_6 hI390 zc_164
          have b402 := zv_46_48 hI390 zc_164
          have b403 := zv_46_49 hI390 zc_164
          have b404 := zv_77 hI390 zc_195 0
          have b405 := zv_82 hI390 zc_200 0
          have b406 := zv_82 hI390 zc_200 1
          have b407 := zv_77 hI390 zc_195 1
          have b408 := zv_46_50 hI390 zc_164
          have b409 := zv_46_7 hI390 zc_164
          have b410 := zv_46_8 hI390 zc_164
          have e411 := hF391 164 3 rfl
          have e412 := hF391 164 48 rfl
          have e413 := hF391 164 49 rfl
          have e414 := hF391 195 0 rfl
          have e415 := hF391 200 0 rfl
          have e416 := hF391 200 1 rfl
          have e417 := hF391 199 0 rfl
          have e418 := hF391 199 1 rfl
          have e419 := hF391 199 2 rfl
          have e420 := hF391 194 3 rfl
          have e421 := hF391 194 4 rfl
          have e422 := hF391 195 1 rfl
          have e423 := hF391 164 50 rfl
          have e424 := hF391 164 7 rfl
          have e425 := hF391 164 8 rfl
          replace z394 : yIm _ _ := z394
          refine zt_aload_n (pc' := 107) hX dX12_pane_106 rfl rfl ?_
          refine zt_iconst (pc' := 108) hX dX12_pane_107 rfl ?_
          refine zt_put (pc' := 111) (x := 1) hX dX12_pane_108 rfl zf_X12_351 (by decide) zc_164 zs_46 (fun q hq => by cases hq; rfl) rfl rfl rfl ?_
          generalize hs427 : zset s387 164 49 1 = s426
          have hI428 : zInv s426 := hs427 ▸ zp_46_49 hI390 zc_164 ⟨by omega, by omega⟩
          have hF429 : zOn zQr σ s426 := hs427 ▸ zOn_set hF396 rfl
          have e430 : s426 164 2 = s387 164 2 := by rw [← hs427]; exact zset_j (by decide)
          have e431 : s426 164 3 = s387 164 3 := by rw [← hs427]; exact zset_j (by decide)
          have e432 : s426 164 4 = s387 164 4 := by rw [← hs427]; exact zset_j (by decide)
          have e433 : s426 164 5 = s387 164 5 := by rw [← hs427]; exact zset_j (by decide)
          have e434 : s426 164 6 = s387 164 6 := by rw [← hs427]; exact zset_j (by decide)
          have e435 : s426 164 48 = s387 164 48 := by rw [← hs427]; exact zset_j (by decide)
          have e436 : s426 164 49 = 1 := by rw [← hs427]; exact zset_s
          have e437 : s426 194 0 = s387 194 0 := by rw [← hs427]; exact zset_k (zne_r zc_194 zc_164 (by decide))
          have e438 : s426 194 1 = s387 194 1 := by rw [← hs427]; exact zset_k (zne_r zc_194 zc_164 (by decide))
          have e439 : s426 195 0 = s387 195 0 := by rw [← hs427]; exact zset_k (zne_r zc_195 zc_164 (by decide))
          have e440 : s426 200 0 = s387 200 0 := by rw [← hs427]; exact zset_k (zne_r zc_200 zc_164 (by decide))
          have e441 : s426 200 1 = s387 200 1 := by rw [← hs427]; exact zset_k (zne_r zc_200 zc_164 (by decide))
          have e442 : s426 199 0 = s387 199 0 := by rw [← hs427]; exact zset_k (zne_r zc_199 zc_164 (by decide))
          have e443 : s426 199 1 = s387 199 1 := by rw [← hs427]; exact zset_k (zne_r zc_199 zc_164 (by decide))
          have e444 : s426 199 2 = s387 199 2 := by rw [← hs427]; exact zset_k (zne_r zc_199 zc_164 (by decide))
          have e445 : s426 194 3 = s387 194 3 := by rw [← hs427]; exact zset_k (zne_r zc_194 zc_164 (by decide))
          have e446 : s426 194 4 = s387 194 4 := by rw [← hs427]; exact zset_k (zne_r zc_194 zc_164 (by decide))
          have e447 : s426 195 1 = s387 195 1 := by rw [← hs427]; exact zset_k (zne_r zc_195 zc_164 (by decide))
          have e448 : s426 164 50 = s387 164 50 := by rw [← hs427]; exact zset_j (by decide)
          have e449 : s426 164 7 = s387 164 7 := by rw [← hs427]; exact zset_j (by decide)
          have e450 : s426 164 8 = s387 164 8 := by rw [← hs427]; exact zset_j (by decide)
          have hT451 := yTq_rk hT392 (yRq_j hs427 (by decide))
          have hE452 : yqs f s426 = yPs f 59 (yPan f (yP.ok (yS f 0))) := (yqs_rk (yRq_j hs427 (by decide))).trans hE395
          have L_111_460 : ∀ (N : Nat) (s453 : zSto) (p456 : yP), zInv s453 → zOn zQr σ s453 → yTq f s453 → yqs f s453 = p456 → (s453 194 3 = σ 194 3 ∧ s453 194 4 = σ 194 4 ∧ s453 195 1 = σ 195 1 ∧ s453 164 50 = σ 164 50) → yLq f s453 p456 (s453 164 49) → ((2 * (81 - s453 164 49) + yPo p456).toNat) < N → zF X s453 111 [some (.ref (X.1.1 + 164)), none] [] := by
            intro N
            induction N with
            | zero =>
              intro s453 p456 hI454 hF455 hT457 hE458 g459 g460 hm462
              exact absurd hm462 (Nat.not_lt_zero _)
            | succ N ih463 =>
              intro s453 p456 hI454 hF455 hT457 hE458 g459 g460 hm462
              have b464 := zv_46_2 hI454 zc_164
              have b465 := zv_46_3 hI454 zc_164
              have b466 := zv_46_4 hI454 zc_164
              have b467 := zv_46_5 hI454 zc_164
              have b468 := zv_46_6 hI454 zc_164
              have b469 := zv_46_48 hI454 zc_164
              have b470 := zv_46_49 hI454 zc_164
              have b471 := zv_77 hI454 zc_195 0
              have b472 := zv_82 hI454 zc_200 0
              have b473 := zv_82 hI454 zc_200 1
              have b474 := zv_77 hI454 zc_195 1
              have b475 := zv_46_50 hI454 zc_164
              have b476 := zv_46_7 hI454 zc_164
              have b477 := zv_46_8 hI454 zc_164
              rcases yLq_c g460 with a478 | b479
              · have u480 := a478.1
                have u481 := a478.2.1
                have u482 := a478.2.2.2.1
                have u483 := a478.2.2.2.2
                have u484 := yHb1 hE458 a478.1
                have u485 := ((yMq hT457 hE458).1 a478.1).2.1
                refine zt_aload_n (pc' := 112) hX dX12_pane_111 rfl rfl ?_
                have b486 := zv_46_5 hI454 zc_164
                refine zt_get (pc' := 115) (v := .int (zI (s453 164 5))) hX dX12_pane_112 rfl zf_X12_246 (by decide) zc_164 zs_46 rfl ?_
                refine zt_ifne (pc' := 118) (tgt := 133) hX dX12_pane_115 rfl (by decide) ⟨by omega, by omega⟩ (fun c487 => ?_) (fun c487 => ?_)
                · exact absurd c487 (by omega)
                · refine zt_aload_n (pc' := 119) hX dX12_pane_118 rfl rfl ?_
                  refine zt_cVi (pc' := 122) hX dX12_pane_119 rfl zm_yX12_look zw_26_12 zc_164 (by decide) zs_46 (q := (RX12, TX12, 108)) rfl rfl (yc_X12_look _ _ s453 hI454 f hT457) rfl rfl (Nat.le_of_ble_eq_true rfl) (by decide) (fun r488 s489 hr490 hp491 => ?_)
                  obtain ⟨hI492, hF493, q494, q495, hT496, z497, z498, z499⟩ := hp491
                  have hE500 : yqs f s489 = p456 := by rw [z497, hE458]
                  have hF501 := zOn_tr hF455 hF493 (zi_r3 (fun k j h => zi_13 k j (zi_a1 k j h)))
                  have b502 := zv_46_2 hI492 zc_164
                  have b503 := zv_46_3 hI492 zc_164
                  have b504 := zv_46_4 hI492 zc_164
                  have b505 := zv_46_5 hI492 zc_164
                  have b506 := zv_46_6 hI492 zc_164
                  have b507 := zv_46_48 hI492 zc_164
                  have b508 := zv_46_49 hI492 zc_164
                  have b509 := zv_77 hI492 zc_195 0
                  have b510 := zv_82 hI492 zc_200 0
                  have b511 := zv_82 hI492 zc_200 1
                  have b512 := zv_77 hI492 zc_195 1
                  have b513 := zv_46_50 hI492 zc_164
                  have b514 := zv_46_7 hI492 zc_164
                  have b515 := zv_46_8 hI492 zc_164
                  have e516 := hF493 164 3 rfl
                  have e517 := hF493 164 4 rfl
                  have e518 := hF493 164 5 rfl
                  have e519 := hF493 164 6 rfl
                  have e520 := hF493 164 48 rfl
                  have e521 := hF493 164 49 rfl
                  have e522 := hF493 194 0 rfl
                  have e523 := hF493 194 1 rfl
                  have e524 := hF493 195 0 rfl
                  have e525 := hF493 200 0 rfl
                  have e526 := hF493 200 1 rfl
                  have e527 := hF493 199 0 rfl
                  have e528 := hF493 199 1 rfl
                  have e529 := hF493 199 2 rfl
                  have e530 := hF493 194 3 rfl
                  have e531 := hF493 194 4 rfl
                  have e532 := hF493 195 1 rfl
                  have e533 := hF493 164 50 rfl
                  have e534 := hF493 164 7 rfl
                  have e535 := hF493 164 8 rfl
                  have hq536 : s489 164 2 = yPq p456 := yat_q hE458 (by omega) z498
                  have hc537 : f (yPq p456) = r488 := by rw [← hq536]; exact z499.symm
                  clear z498 z499
                  have a538 := yLqA_fr a478 (zOn_tr (zOn_rf zQ1 _) hF493 zi_a1)
                  refine zt_iconst (pc' := 123) hX dX12_pane_122 rfl ?_
                  refine zt_iceq (pc' := 126) (tgt := 133) hX dX12_pane_123 rfl (by decide) ⟨by omega, by omega⟩ ⟨by omega, by omega⟩ (fun c539 => ?_) (fun c539 => ?_)
                  · have x540 := yLq_e a538 (yMor_0 hc537 (by omega))
                    obtain ⟨u541, u542, u543, u544, u545, u546⟩ := x540.2.1.2.2
                    have u547 := x540.2.2
                    refine zt_aload_n (pc' := 134) hX dX12_pane_133 rfl rfl ?_
                    refine zt_aload_n (pc' := 135) hX dX12_pane_134 rfl rfl ?_
                    have b548 := zv_46_5 hI492 zc_164
                    refine zt_get (pc' := 138) (v := .int (zI (s489 164 5))) hX dX12_pane_135 rfl zf_X12_246 (by decide) zc_164 zs_46 rfl ?_
                    refine zt_put (pc' := 141) (x := (s489 164 5)) hX dX12_pane_138 rfl zf_X12_369 (by decide) zc_164 zs_46 (fun q hq => by cases hq; rfl) rfl rfl rfl ?_
                    generalize hs550 : zset s489 164 7 (s489 164 5) = s549
                    have hI551 : zInv s549 := hs550 ▸ zp_46_7 hI492 zc_164 ⟨by omega, by omega⟩
                    have hF552 : zOn zQr σ s549 := hs550 ▸ zOn_set hF501 rfl
                    have e553 : s549 164 2 = s489 164 2 := by rw [← hs550]; exact zset_j (by decide)
                    have e554 : s549 164 3 = s489 164 3 := by rw [← hs550]; exact zset_j (by decide)
                    have e555 : s549 164 4 = s489 164 4 := by rw [← hs550]; exact zset_j (by decide)
                    have e556 : s549 164 5 = s489 164 5 := by rw [← hs550]; exact zset_j (by decide)
                    have e557 : s549 164 6 = s489 164 6 := by rw [← hs550]; exact zset_j (by decide)
                    have e558 : s549 164 48 = s489 164 48 := by rw [← hs550]; exact zset_j (by decide)
                    have e559 : s549 164 49 = s489 164 49 := by rw [← hs550]; exact zset_j (by decide)
                    have e560 : s549 194 0 = s489 194 0 := by rw [← hs550]; exact zset_k (zne_r zc_194 zc_164 (by decide))
                    have e561 : s549 194 1 = s489 194 1 := by rw [← hs550]; exact zset_k (zne_r zc_194 zc_164 (by decide))
                    have e562 : s549 195 0 = s489 195 0 := by rw [← hs550]; exact zset_k (zne_r zc_195 zc_164 (by decide))
                    have e563 : s549 200 0 = s489 200 0 := by rw [← hs550]; exact zset_k (zne_r zc_200 zc_164 (by decide))
                    have e564 : s549 200 1 = s489 200 1 := by rw [← hs550]; exact zset_k (zne_r zc_200 zc_164 (by decide))
                    have e565 : s549 199 0 = s489 199 0 := by rw [← hs550]; exact zset_k (zne_r zc_199 zc_164 (by decide))
                    have e566 : s549 199 1 = s489 199 1 := by rw [← hs550]; exact zset_k (zne_r zc_199 zc_164 (by decide))
                    have e567 : s549 199 2 = s489 199 2 := by rw [← hs550]; exact zset_k (zne_r zc_199 zc_164 (by decide))
                    have e568 : s549 194 3 = s489 194 3 := by rw [← hs550]; exact zset_k (zne_r zc_194 zc_164 (by decide))
                    have e569 : s549 194 4 = s489 194 4 := by rw [← hs550]; exact zset_k (zne_r zc_194 zc_164 (by decide))
                    have e570 : s549 195 1 = s489 195 1 := by rw [← hs550]; exact zset_k (zne_r zc_195 zc_164 (by decide))
                    have e571 : s549 164 50 = s489 164 50 := by rw [← hs550]; exact zset_j (by decide)
                    have e572 : s549 164 7 = (s489 164 5) := by rw [← hs550]; exact zset_s
                    have e573 : s549 164 8 = s489 164 8 := by rw [← hs550]; exact zset_j (by decide)
                    have hT574 := yTq_rk hT496 (yRq_j hs550 (by decide))
                    have hE575 : yqs f s549 = p456 := (yqs_rk (yRq_j hs550 (by decide))).trans hE500
                    refine zt_aload_n (pc' := 142) hX dX12_pane_141 rfl rfl ?_
                    refine zt_aload_n (pc' := 143) hX dX12_pane_142 rfl rfl ?_
                    have b576 := zv_46_6 hI551 zc_164
                    refine zt_get (pc' := 146) (v := .int (zI (s549 164 6))) hX dX12_pane_143 rfl zf_X12_249 (by decide) zc_164 zs_46 rfl ?_
                    refine zt_put (pc' := 149) (x := (s549 164 6)) hX dX12_pane_146 rfl zf_X12_13 (by decide) zc_164 zs_46 (fun q hq => by cases hq; rfl) rfl rfl rfl ?_
                    generalize hs578 : zset s549 164 8 (s549 164 6) = s577
                    have hI579 : zInv s577 := hs578 ▸ zp_46_8 hI551 zc_164 ⟨by omega, by omega⟩
                    have hF580 : zOn zQr σ s577 := hs578 ▸ zOn_set hF552 rfl
                    have e581 : s577 164 2 = s549 164 2 := by rw [← hs578]; exact zset_j (by decide)
                    have e582 : s577 164 3 = s549 164 3 := by rw [← hs578]; exact zset_j (by decide)
                    have e583 : s577 164 4 = s549 164 4 := by rw [← hs578]; exact zset_j (by decide)
                    have e584 : s577 164 5 = s549 164 5 := by rw [← hs578]; exact zset_j (by decide)
                    have e585 : s577 164 6 = s549 164 6 := by rw [← hs578]; exact zset_j (by decide)
                    have e586 : s577 164 48 = s549 164 48 := by rw [← hs578]; exact zset_j (by decide)
                    have e587 : s577 164 49 = s549 164 49 := by rw [← hs578]; exact zset_j (by decide)
                    have e588 : s577 194 0 = s549 194 0 := by rw [← hs578]; exact zset_k (zne_r zc_194 zc_164 (by decide))
                    have e589 : s577 194 1 = s549 194 1 := by rw [← hs578]; exact zset_k (zne_r zc_194 zc_164 (by decide))
                    have e590 : s577 195 0 = s549 195 0 := by rw [← hs578]; exact zset_k (zne_r zc_195 zc_164 (by decide))
                    have e591 : s577 200 0 = s549 200 0 := by rw [← hs578]; exact zset_k (zne_r zc_200 zc_164 (by decide))
                    have e592 : s577 200 1 = s549 200 1 := by rw [← hs578]; exact zset_k (zne_r zc_200 zc_164 (by decide))
                    have e593 : s577 199 0 = s549 199 0 := by rw [← hs578]; exact zset_k (zne_r zc_199 zc_164 (by decide))
                    have e594 : s577 199 1 = s549 199 1 := by rw [← hs578]; exact zset_k (zne_r zc_199 zc_164 (by decide))
                    have e595 : s577 199 2 = s549 199 2 := by rw [← hs578]; exact zset_k (zne_r zc_199 zc_164 (by decide))
                    have e596 : s577 194 3 = s549 194 3 := by rw [← hs578]; exact zset_k (zne_r zc_194 zc_164 (by decide))
                    have e597 : s577 194 4 = s549 194 4 := by rw [← hs578]; exact zset_k (zne_r zc_194 zc_164 (by decide))
                    have e598 : s577 195 1 = s549 195 1 := by rw [← hs578]; exact zset_k (zne_r zc_195 zc_164 (by decide))
                    have e599 : s577 164 50 = s549 164 50 := by rw [← hs578]; exact zset_j (by decide)
                    have e600 : s577 164 7 = s549 164 7 := by rw [← hs578]; exact zset_j (by decide)
                    have e601 : s577 164 8 = (s549 164 6) := by rw [← hs578]; exact zset_s
                    have hT602 := yTq_rk hT574 (yRq_j hs578 (by decide))
                    have hE603 : yqs f s577 = p456 := (yqs_rk (yRq_j hs578 (by decide))).trans hE575
                    refine zt_aload_n (pc' := 150) hX dX12_pane_149 rfl rfl ?_
                    have b604 := zv_46_5 hI579 zc_164
                    refine zt_get (pc' := 153) (v := .int (zI (s577 164 5))) hX dX12_pane_150 rfl zf_X12_246 (by decide) zc_164 zs_46 rfl ?_
                    refine zt_ifeq (pc' := 156) (tgt := 168) hX dX12_pane_153 rfl (by decide) ⟨by omega, by omega⟩ (fun c605 => ?_) (fun c605 => ?_)
                    · refine zt_aload_n (pc' := 169) hX dX12_pane_168 rfl rfl ?_
                      refine zt_cVv (pc' := 172) hX dX12_pane_169 rfl zm_yX12_stands zw_32_15 zc_164 (by decide) zs_46 (q := (RX12, TX12, 108)) rfl rfl (yc_X12_stands _ _ s577 hI579 (by omega) (by omega) (by omega)) rfl rfl (Nat.le_of_ble_eq_true rfl) (by decide) (fun r606 s607 hr608 hp609 => ?_)
                      obtain ⟨hI610, hF611, z612, z613, z614⟩ := hp609
                      have hF615 := zOn_tr hF580 (zOn_r hF611) zi_id
                      have b616 := zv_46_2 hI610 zc_164
                      have b617 := zv_46_3 hI610 zc_164
                      have b618 := zv_46_4 hI610 zc_164
                      have b619 := zv_46_5 hI610 zc_164
                      have b620 := zv_46_6 hI610 zc_164
                      have b621 := zv_46_48 hI610 zc_164
                      have b622 := zv_46_49 hI610 zc_164
                      have b623 := zv_77 hI610 zc_195 0
                      have b624 := zv_82 hI610 zc_200 0
                      have b625 := zv_82 hI610 zc_200 1
                      have b626 := zv_77 hI610 zc_195 1
                      have b627 := zv_46_50 hI610 zc_164
                      have b628 := zv_46_7 hI610 zc_164
                      have b629 := zv_46_8 hI610 zc_164
                      refine zt_aload_n (pc' := 173) hX dX12_pane_172 rfl rfl ?_
                      have b630 := zv_46_49 hI610 zc_164
                      refine zt_get (pc' := 176) (v := .int (zI (s607 164 49))) hX dX12_pane_173 rfl zf_X12_351 (by decide) zc_164 zs_46 rfl ?_
                      exact zt_iret hX hR dX12_pane_176 ⟨by omega, by omega⟩ ⟨hI610, hF615, by omega, by omega, (by rw [← hf, x540.1]; exact ⟨fun _ => by omega, fun o => absurd o (by omega)⟩), (fun _ => by rw [← hf]; exact yTe_num x540.2.1 ⟨by omega, by omega⟩ (by omega) (by omega) ⟨by omega, by omega, by omega, by omega⟩ (by omega)), (fun o => by rw [← hf, x540.1] at o; omega), (by rw [← hf, x540.1, ← hE603]; exact yflt hT602 (by omega) (by omega))⟩
                    · exact absurd c605 (by omega)
                  · refine zt_aload_n (pc' := 127) hX dX12_pane_126 rfl rfl ?_
                    refine zt_cVv (pc' := 130) hX dX12_pane_127 rfl zm_yX12_statementTold zw_27_18 zc_164 (by decide) zs_46 (q := (RX12, TX12, 108)) rfl rfl (yc_X12_statementTold _ _ s489 hI492 (by omega) (by omega) (by omega) f hT496 p456 hE500 (by omega) (yWd_r hWd hF501) (yLqA_t a538) (by omega)) rfl rfl (Nat.le_of_ble_eq_true rfl) (by decide) (fun r631 s632 hr633 hp634 => ?_)
                    obtain ⟨hI635, hF636, hT637, z638, z639, z640⟩ := hp634
                    have hF641 := zOn_tr hF501 hF636 zi_3r
                    obtain ⟨p642, hE643⟩ : ∃ p, yqs f s632 = p := ⟨_, rfl⟩
                    rw [hE643] at z638
                    rw [hE643] at z639
                    have b644 := zv_46_2 hI635 zc_164
                    have b645 := zv_46_3 hI635 zc_164
                    have b646 := zv_46_4 hI635 zc_164
                    have b647 := zv_46_5 hI635 zc_164
                    have b648 := zv_46_6 hI635 zc_164
                    have b649 := zv_46_48 hI635 zc_164
                    have b650 := zv_46_49 hI635 zc_164
                    have b651 := zv_77 hI635 zc_195 0
                    have b652 := zv_82 hI635 zc_200 0
                    have b653 := zv_82 hI635 zc_200 1
                    have b654 := zv_77 hI635 zc_195 1
                    have b655 := zv_46_50 hI635 zc_164
                    have b656 := zv_46_7 hI635 zc_164
                    have b657 := zv_46_8 hI635 zc_164
                    have e658 := hF636 194 3 rfl
                    have e659 := hF636 194 4 rfl
                    have e660 := hF636 195 1 rfl
                    have e661 := hF636 164 50 rfl
                    have e662 := hF636 164 7 rfl
                    have e663 := hF636 164 8 rfl
                    replace z639 : yIm _ _ := z639
                    refine zt_goto (tgt := 111) hX dX12_pane_130 (by decide) ?_
                    exact ih463 s632 p642 hI635 hF641 hT637 hE643 (by omega) (yLq_s a538 (yMor_1 a538.1 hc537 (by omega)) (by omega) (by rw [show s453 164 49 = s489 164 49 by omega]; exact z638) z639 rfl) (by have b := z640; rcases yPo_b p642 with x | x; (have t := (z639 x).2.2; omega); omega)
              · have u665 := yHb0 hE458 b479.1
                have u666 := b479.1
                refine zt_aload_n (pc' := 112) hX dX12_pane_111 rfl rfl ?_
                have b667 := zv_46_5 hI454 zc_164
                refine zt_get (pc' := 115) (v := .int (zI (s453 164 5))) hX dX12_pane_112 rfl zf_X12_246 (by decide) zc_164 zs_46 rfl ?_
                refine zt_ifne (pc' := 118) (tgt := 133) hX dX12_pane_115 rfl (by decide) ⟨by omega, by omega⟩ (fun c668 => ?_) (fun c668 => ?_)
                · refine zt_aload_n (pc' := 134) hX dX12_pane_133 rfl rfl ?_
                  refine zt_aload_n (pc' := 135) hX dX12_pane_134 rfl rfl ?_
                  refine zt_get (pc' := 138) (v := .int (zI (s453 164 5))) hX dX12_pane_135 rfl zf_X12_246 (by decide) zc_164 zs_46 rfl ?_
                  refine zt_put (pc' := 141) (x := (s453 164 5)) hX dX12_pane_138 rfl zf_X12_369 (by decide) zc_164 zs_46 (fun q hq => by cases hq; rfl) rfl rfl rfl ?_
                  generalize hs670 : zset s453 164 7 (s453 164 5) = s669
                  have hI671 : zInv s669 := hs670 ▸ zp_46_7 hI454 zc_164 ⟨by omega, by omega⟩
                  have hF672 : zOn zQr σ s669 := hs670 ▸ zOn_set hF455 rfl
                  have e673 : s669 164 2 = s453 164 2 := by rw [← hs670]; exact zset_j (by decide)
                  have e674 : s669 164 3 = s453 164 3 := by rw [← hs670]; exact zset_j (by decide)
                  have e675 : s669 164 4 = s453 164 4 := by rw [← hs670]; exact zset_j (by decide)
                  have e676 : s669 164 5 = s453 164 5 := by rw [← hs670]; exact zset_j (by decide)
                  have e677 : s669 164 6 = s453 164 6 := by rw [← hs670]; exact zset_j (by decide)
                  have e678 : s669 164 48 = s453 164 48 := by rw [← hs670]; exact zset_j (by decide)
                  have e679 : s669 164 49 = s453 164 49 := by rw [← hs670]; exact zset_j (by decide)
                  have e680 : s669 194 0 = s453 194 0 := by rw [← hs670]; exact zset_k (zne_r zc_194 zc_164 (by decide))
                  have e681 : s669 194 1 = s453 194 1 := by rw [← hs670]; exact zset_k (zne_r zc_194 zc_164 (by decide))
                  have e682 : s669 195 0 = s453 195 0 := by rw [← hs670]; exact zset_k (zne_r zc_195 zc_164 (by decide))
                  have e683 : s669 200 0 = s453 200 0 := by rw [← hs670]; exact zset_k (zne_r zc_200 zc_164 (by decide))
                  have e684 : s669 200 1 = s453 200 1 := by rw [← hs670]; exact zset_k (zne_r zc_200 zc_164 (by decide))
                  have e685 : s669 199 0 = s453 199 0 := by rw [← hs670]; exact zset_k (zne_r zc_199 zc_164 (by decide))
                  have e686 : s669 199 1 = s453 199 1 := by rw [← hs670]; exact zset_k (zne_r zc_199 zc_164 (by decide))
                  have e687 : s669 199 2 = s453 199 2 := by rw [← hs670]; exact zset_k (zne_r zc_199 zc_164 (by decide))
                  have e688 : s669 194 3 = s453 194 3 := by rw [← hs670]; exact zset_k (zne_r zc_194 zc_164 (by decide))
                  have e689 : s669 194 4 = s453 194 4 := by rw [← hs670]; exact zset_k (zne_r zc_194 zc_164 (by decide))
                  have e690 : s669 195 1 = s453 195 1 := by rw [← hs670]; exact zset_k (zne_r zc_195 zc_164 (by decide))
                  have e691 : s669 164 50 = s453 164 50 := by rw [← hs670]; exact zset_j (by decide)
                  have e692 : s669 164 7 = (s453 164 5) := by rw [← hs670]; exact zset_s
                  have e693 : s669 164 8 = s453 164 8 := by rw [← hs670]; exact zset_j (by decide)
                  have hT694 := yTq_rk hT457 (yRq_j hs670 (by decide))
                  have hE695 : yqs f s669 = p456 := (yqs_rk (yRq_j hs670 (by decide))).trans hE458
                  refine zt_aload_n (pc' := 142) hX dX12_pane_141 rfl rfl ?_
                  refine zt_aload_n (pc' := 143) hX dX12_pane_142 rfl rfl ?_
                  have b696 := zv_46_6 hI671 zc_164
                  refine zt_get (pc' := 146) (v := .int (zI (s669 164 6))) hX dX12_pane_143 rfl zf_X12_249 (by decide) zc_164 zs_46 rfl ?_
                  refine zt_put (pc' := 149) (x := (s669 164 6)) hX dX12_pane_146 rfl zf_X12_13 (by decide) zc_164 zs_46 (fun q hq => by cases hq; rfl) rfl rfl rfl ?_
                  generalize hs698 : zset s669 164 8 (s669 164 6) = s697
                  have hI699 : zInv s697 := hs698 ▸ zp_46_8 hI671 zc_164 ⟨by omega, by omega⟩
                  have hF700 : zOn zQr σ s697 := hs698 ▸ zOn_set hF672 rfl
                  have e701 : s697 164 2 = s669 164 2 := by rw [← hs698]; exact zset_j (by decide)
                  have e702 : s697 164 3 = s669 164 3 := by rw [← hs698]; exact zset_j (by decide)
                  have e703 : s697 164 4 = s669 164 4 := by rw [← hs698]; exact zset_j (by decide)
                  have e704 : s697 164 5 = s669 164 5 := by rw [← hs698]; exact zset_j (by decide)
                  have e705 : s697 164 6 = s669 164 6 := by rw [← hs698]; exact zset_j (by decide)
                  have e706 : s697 164 48 = s669 164 48 := by rw [← hs698]; exact zset_j (by decide)
                  have e707 : s697 164 49 = s669 164 49 := by rw [← hs698]; exact zset_j (by decide)
                  have e708 : s697 194 0 = s669 194 0 := by rw [← hs698]; exact zset_k (zne_r zc_194 zc_164 (by decide))
                  have e709 : s697 194 1 = s669 194 1 := by rw [← hs698]; exact zset_k (zne_r zc_194 zc_164 (by decide))
                  have e710 : s697 195 0 = s669 195 0 := by rw [← hs698]; exact zset_k (zne_r zc_195 zc_164 (by decide))
                  have e711 : s697 200 0 = s669 200 0 := by rw [← hs698]; exact zset_k (zne_r zc_200 zc_164 (by decide))
                  have e712 : s697 200 1 = s669 200 1 := by rw [← hs698]; exact zset_k (zne_r zc_200 zc_164 (by decide))
                  have e713 : s697 199 0 = s669 199 0 := by rw [← hs698]; exact zset_k (zne_r zc_199 zc_164 (by decide))
                  have e714 : s697 199 1 = s669 199 1 := by rw [← hs698]; exact zset_k (zne_r zc_199 zc_164 (by decide))
                  have e715 : s697 199 2 = s669 199 2 := by rw [← hs698]; exact zset_k (zne_r zc_199 zc_164 (by decide))
                  have e716 : s697 194 3 = s669 194 3 := by rw [← hs698]; exact zset_k (zne_r zc_194 zc_164 (by decide))
                  have e717 : s697 194 4 = s669 194 4 := by rw [← hs698]; exact zset_k (zne_r zc_194 zc_164 (by decide))
                  have e718 : s697 195 1 = s669 195 1 := by rw [← hs698]; exact zset_k (zne_r zc_195 zc_164 (by decide))
                  have e719 : s697 164 50 = s669 164 50 := by rw [← hs698]; exact zset_j (by decide)
                  have e720 : s697 164 7 = s669 164 7 := by rw [← hs698]; exact zset_j (by decide)
                  have e721 : s697 164 8 = (s669 164 6) := by rw [← hs698]; exact zset_s
                  have hT722 := yTq_rk hT694 (yRq_j hs698 (by decide))
                  have hE723 : yqs f s697 = p456 := (yqs_rk (yRq_j hs698 (by decide))).trans hE695
                  refine zt_aload_n (pc' := 150) hX dX12_pane_149 rfl rfl ?_
                  have b724 := zv_46_5 hI699 zc_164
                  refine zt_get (pc' := 153) (v := .int (zI (s697 164 5))) hX dX12_pane_150 rfl zf_X12_246 (by decide) zc_164 zs_46 rfl ?_
                  refine zt_ifeq (pc' := 156) (tgt := 168) hX dX12_pane_153 rfl (by decide) ⟨by omega, by omega⟩ (fun c725 => ?_) (fun c725 => ?_)
                  · exact absurd c725 (by omega)
                  · refine zt_aload_n (pc' := 157) hX dX12_pane_156 rfl rfl ?_
                    refine zt_get (pc' := 160) (v := .ref (X.1.1 + 166)) hX dX12_pane_157 rfl zf_X12_17 (by decide) zc_164 zs_46 (zrf_of (zv_46_9 hI699 zc_164)) ?_
                    refine zt_iconst (pc' := 161) hX dX12_pane_160 rfl ?_
                    refine zt_dup2 (pc' := 162) hX dX12_pane_161 rfl rfl rfl ?_
                    refine zt_iald (pc' := 163) hX dX12_pane_162 rfl (by decide) zc_166 zs_48 (by decide) ⟨by omega, by omega⟩ ?_
                    rw [show Int.toNat 1 = 1 from rfl]
                    have b727 := zv_48 hI699 zc_166 1
                    have e728 : s697 166 1 = s669 166 1 := by rw [← hs698]; exact zset_k (zne_r zc_166 zc_164 (by decide))
                    have e729 : s669 166 1 = s453 166 1 := by rw [← hs670]; exact zset_k (zne_r zc_166 zc_164 (by decide))
                    refine zt_iconst (pc' := 164) hX dX12_pane_163 rfl ?_
                    refine zt_iadd (pc' := 165) hX dX12_pane_164 rfl ?_
                    refine zt_wrap (fun r730 zr730 lr730 ur730 => ?_)
                    clear zr730
                    refine zt_iast (pc' := 166) hX dX12_pane_165 rfl (by decide) zc_166 zs_48 (by decide) ⟨by omega, by omega⟩ ?_
                    rw [show Int.toNat 1 = 1 from rfl]
                    generalize hs732 : zset s697 166 1 r730 = s731
                    have hI733 : zInv s731 := hs732 ▸ zp_48 hI699 zc_166 1 ⟨by omega, by omega⟩
                    have hF734 : zOn zQr σ s731 := hs732 ▸ zOn_set hF700 rfl
                    have hT735 := yTq_rk hT722 (yRq_set hs732 zc_166 (by decide))
                    have hE736 : yqs f s731 = p456 := (yqs_rk (yRq_set hs732 zc_166 (by decide))).trans hE723
                    have e737 : s731 164 2 = s697 164 2 := by rw [← hs732]; exact zset_k (zne_r zc_164 zc_166 (by decide))
                    have e738 : s731 164 3 = s697 164 3 := by rw [← hs732]; exact zset_k (zne_r zc_164 zc_166 (by decide))
                    have e739 : s731 164 4 = s697 164 4 := by rw [← hs732]; exact zset_k (zne_r zc_164 zc_166 (by decide))
                    have e740 : s731 164 5 = s697 164 5 := by rw [← hs732]; exact zset_k (zne_r zc_164 zc_166 (by decide))
                    have e741 : s731 164 6 = s697 164 6 := by rw [← hs732]; exact zset_k (zne_r zc_164 zc_166 (by decide))
                    have e742 : s731 164 48 = s697 164 48 := by rw [← hs732]; exact zset_k (zne_r zc_164 zc_166 (by decide))
                    have e743 : s731 164 49 = s697 164 49 := by rw [← hs732]; exact zset_k (zne_r zc_164 zc_166 (by decide))
                    have e744 : s731 194 0 = s697 194 0 := by rw [← hs732]; exact zset_k (zne_r zc_194 zc_166 (by decide))
                    have e745 : s731 194 1 = s697 194 1 := by rw [← hs732]; exact zset_k (zne_r zc_194 zc_166 (by decide))
                    have e746 : s731 195 0 = s697 195 0 := by rw [← hs732]; exact zset_k (zne_r zc_195 zc_166 (by decide))
                    have e747 : s731 200 0 = s697 200 0 := by rw [← hs732]; exact zset_k (zne_r zc_200 zc_166 (by decide))
                    have e748 : s731 200 1 = s697 200 1 := by rw [← hs732]; exact zset_k (zne_r zc_200 zc_166 (by decide))
                    have e749 : s731 199 0 = s697 199 0 := by rw [← hs732]; exact zset_k (zne_r zc_199 zc_166 (by decide))
                    have e750 : s731 199 1 = s697 199 1 := by rw [← hs732]; exact zset_k (zne_r zc_199 zc_166 (by decide))
                    have e751 : s731 199 2 = s697 199 2 := by rw [← hs732]; exact zset_k (zne_r zc_199 zc_166 (by decide))
                    have e752 : s731 194 3 = s697 194 3 := by rw [← hs732]; exact zset_k (zne_r zc_194 zc_166 (by decide))
                    have e753 : s731 194 4 = s697 194 4 := by rw [← hs732]; exact zset_k (zne_r zc_194 zc_166 (by decide))
                    have e754 : s731 195 1 = s697 195 1 := by rw [← hs732]; exact zset_k (zne_r zc_195 zc_166 (by decide))
                    have e755 : s731 164 50 = s697 164 50 := by rw [← hs732]; exact zset_k (zne_r zc_164 zc_166 (by decide))
                    have e756 : s731 164 7 = s697 164 7 := by rw [← hs732]; exact zset_k (zne_r zc_164 zc_166 (by decide))
                    have e757 : s731 164 8 = s697 164 8 := by rw [← hs732]; exact zset_k (zne_r zc_164 zc_166 (by decide))
                    refine zt_iconst (pc' := 167) hX dX12_pane_166 rfl ?_
                    exact zt_iret hX hR dX12_pane_167 ⟨by omega, by omega⟩ ⟨hI733, hF734, by omega, by omega, (by rw [← hf, b479.2]; exact ⟨fun o => absurd o (by omega), fun _ => rfl⟩), (fun o => by rw [← hf, b479.2] at o; omega), (fun _ => ⟨by omega, by omega, by omega, by omega⟩), (by rw [← hf, b479.2, ← hE736]; exact yflt hT735 (by omega) (by omega))⟩
                · exact absurd c668 (by omega)
          refine zt_mask [true, false] rfl ?_
          exact L_111_460 _ s426 (yPs f 59 (yPan f (yP.ok (yS f 0)))) hI428 hF429 hT451 hE452 (by omega) (yLq_0 (by omega) rfl (fun o => by have t := z394 o; exact ⟨yTe_p (by omega) (by omega) (by omega) ((show s426 194 0 = s387 194 0 by omega).trans t.1) ((show s426 194 1 = s387 194 1 by omega).trans t.2.1) ⟨by omega, by omega, by omega, by omega, by omega, by omega⟩, by have := (yQb_q hT451 hE452) o; omega, by omega⟩)) (Nat.lt_succ_self _)
        · refine zt_aload_n (pc' := 54) hX dX12_pane_53 rfl rfl ?_
          refine zt_get (pc' := 57) (v := .ref (X.1.1 + 197)) hX dX12_pane_54 rfl zf_X12_112 (by decide) zc_164 zs_46 (zrf_of (zv_46_42 hI224 zc_164)) ?_
          refine zt_iload_n (pc' := 58) hX dX12_pane_57 rfl rfl ?_
          refine zt_iconst (pc' := 59) hX dX12_pane_58 rfl ?_
          refine zt_iast (pc' := 60) hX dX12_pane_59 rfl (by decide) zc_197 zs_79 (by decide) ⟨by omega, by omega⟩ ?_
          generalize hs759 : zset s223 197 (x220.toNat) 1 = s758
          have hI760 : zInv s758 := hs759 ▸ zp_79 hI224 zc_197 (x220.toNat) ⟨by omega, by omega⟩
          have hF761 : zOn zQr σ s758 := hs759 ▸ zOn_set hF225 rfl
          have hT762 := yTq_rk hT227 (yRq_set hs759 zc_197 (by decide))
          have hE763 : yqs f s758 = (yP.ok (yS f 0)) := (yqs_rk (yRq_set hs759 zc_197 (by decide))).trans hE228
          have e764 : s758 164 2 = s223 164 2 := by rw [← hs759]; exact zset_k (zne_r zc_164 zc_197 (by decide))
          have e765 : s758 164 3 = s223 164 3 := by rw [← hs759]; exact zset_k (zne_r zc_164 zc_197 (by decide))
          have e766 : s758 164 4 = s223 164 4 := by rw [← hs759]; exact zset_k (zne_r zc_164 zc_197 (by decide))
          have e767 : s758 164 5 = s223 164 5 := by rw [← hs759]; exact zset_k (zne_r zc_164 zc_197 (by decide))
          have e768 : s758 164 6 = s223 164 6 := by rw [← hs759]; exact zset_k (zne_r zc_164 zc_197 (by decide))
          have e769 : s758 164 48 = s223 164 48 := by rw [← hs759]; exact zset_k (zne_r zc_164 zc_197 (by decide))
          have e770 : s758 164 49 = s223 164 49 := by rw [← hs759]; exact zset_k (zne_r zc_164 zc_197 (by decide))
          have e771 : s758 194 0 = s223 194 0 := by rw [← hs759]; exact zset_k (zne_r zc_194 zc_197 (by decide))
          have e772 : s758 194 1 = s223 194 1 := by rw [← hs759]; exact zset_k (zne_r zc_194 zc_197 (by decide))
          have e773 : s758 195 0 = s223 195 0 := by rw [← hs759]; exact zset_k (zne_r zc_195 zc_197 (by decide))
          have e774 : s758 200 0 = s223 200 0 := by rw [← hs759]; exact zset_k (zne_r zc_200 zc_197 (by decide))
          have e775 : s758 200 1 = s223 200 1 := by rw [← hs759]; exact zset_k (zne_r zc_200 zc_197 (by decide))
          have e776 : s758 199 0 = s223 199 0 := by rw [← hs759]; exact zset_k (zne_r zc_199 zc_197 (by decide))
          have e777 : s758 199 1 = s223 199 1 := by rw [← hs759]; exact zset_k (zne_r zc_199 zc_197 (by decide))
          have e778 : s758 199 2 = s223 199 2 := by rw [← hs759]; exact zset_k (zne_r zc_199 zc_197 (by decide))
          have e779 : s758 194 3 = s223 194 3 := by rw [← hs759]; exact zset_k (zne_r zc_194 zc_197 (by decide))
          have e780 : s758 194 4 = s223 194 4 := by rw [← hs759]; exact zset_k (zne_r zc_194 zc_197 (by decide))
          have e781 : s758 195 1 = s223 195 1 := by rw [← hs759]; exact zset_k (zne_r zc_195 zc_197 (by decide))
          have e782 : s758 164 50 = s223 164 50 := by rw [← hs759]; exact zset_k (zne_r zc_164 zc_197 (by decide))
          have e783 : s758 164 7 = s223 164 7 := by rw [← hs759]; exact zset_k (zne_r zc_164 zc_197 (by decide))
          have e784 : s758 164 8 = s223 164 8 := by rw [← hs759]; exact zset_k (zne_r zc_164 zc_197 (by decide))
          refine zt_iinc (pc' := 63) (lv' := [some (.ref (X.1.1 + 164)), some (.int (zI (x220 + 1)))]) hX dX12_pane_60 rfl rfl hL (by decide) rfl ?_
          refine zt_goto (tgt := 47) hX dX12_pane_63 (by decide) ?_
          exact ih235 (x220 + 1) s758 (yP.ok (yS f 0)) (by omega) (by omega) hI760 hF761 hT762 hE763 (by omega) (by omega) (by omega) rfl (by omega)
  exact L_47_232 _ 0 s193 (yP.ok (yS f 0)) (by omega) (by omega) hI195 hF196 hT197 hE198 (by omega) (by omega) (by omega) rfl (Nat.lt_succ_self _)
