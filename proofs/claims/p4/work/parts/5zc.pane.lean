set_option maxRecDepth 100000 in
set_option maxHeartbeats 4000000 in
theorem yc_X12_pane (l : Launch) (E : zEN) (σ : zSto) (hI : zInv σ) (hWd : yWd σ) : zCt l E yX12_pane cX12_pane 2 (some .int) 11 zNC zNC 0 0 σ [.ref (E.1 + 164)] (fun r σ' => zInv σ' ∧ zOn zQr σ σ' ∧ -2147483648 ≤ r ∧ r ≤ 2147483647 ∧ ((yPo (yAll (yW σ)).1 = 1 → r = (yAll (yW σ)).2.2) ∧ (yPo (yAll (yW σ)).1 = 0 → r = -1))) := by
  refine zCt_of2 [some (.ref (E.1 + 164)), none] (by decide +kernel) (Nat.le_of_ble_eq_true rfl) rfl ?_
  intro X hE_ hX hR hL hN
  subst hE_
  have hX : zok X cX12_pane RX12 11 := hX
  have hF := zOn_rf zQr σ
  obtain ⟨f, hf⟩ : ∃ f, f = yW σ := ⟨_, rfl⟩
  have b1 := zv_46_2 hI zc_164
  have b2 := zv_46_3 hI zc_164
  have b3 := zv_46_4 hI zc_164
  have b4 := zv_46_5 hI zc_164
  have b5 := zv_46_6 hI zc_164
  have b6 := zv_46_48 hI zc_164
  have b7 := zv_46_49 hI zc_164
  have b8 := zv_77 hI zc_195 0
  have b9 := zv_82 hI zc_200 0
  have b10 := zv_82 hI zc_200 1
  refine zt_aload_n (pc' := 1) hX dX12_pane_0 rfl rfl ?_
  refine zt_aload_n (pc' := 2) hX dX12_pane_1 rfl rfl ?_
  have b11 := zv_46_1 hI zc_164
  refine zt_get (pc' := 5) (v := .int (zI (σ 164 1))) hX dX12_pane_2 rfl zf_X12_243 (by decide) zc_164 zs_46 rfl ?_
  refine zt_put (pc' := 8) (x := (σ 164 1)) hX dX12_pane_5 rfl zf_X12_255 (by decide) zc_164 zs_46 (fun q hq => by cases hq; rfl) rfl rfl rfl ?_
  generalize hs13 : zset σ 164 3 (σ 164 1) = s12
  have hI14 : zInv s12 := hs13 ▸ zp_46_3 hI zc_164 ⟨by omega, by omega⟩
  have hF15 : zOn zQr σ s12 := hs13 ▸ zOn_set hF rfl
  have e16 : s12 164 2 = σ 164 2 := by rw [← hs13]; exact zset_j (by decide)
  have e17 : s12 164 3 = (σ 164 1) := by rw [← hs13]; exact zset_s
  have e18 : s12 164 4 = σ 164 4 := by rw [← hs13]; exact zset_j (by decide)
  have e19 : s12 164 5 = σ 164 5 := by rw [← hs13]; exact zset_j (by decide)
  have e20 : s12 164 6 = σ 164 6 := by rw [← hs13]; exact zset_j (by decide)
  have e21 : s12 164 48 = σ 164 48 := by rw [← hs13]; exact zset_j (by decide)
  have e22 : s12 164 49 = σ 164 49 := by rw [← hs13]; exact zset_j (by decide)
  have e23 : s12 194 0 = σ 194 0 := by rw [← hs13]; exact zset_k (zne_r zc_194 zc_164 (by decide))
  have e24 : s12 194 1 = σ 194 1 := by rw [← hs13]; exact zset_k (zne_r zc_194 zc_164 (by decide))
  have e25 : s12 195 0 = σ 195 0 := by rw [← hs13]; exact zset_k (zne_r zc_195 zc_164 (by decide))
  have e26 : s12 200 0 = σ 200 0 := by rw [← hs13]; exact zset_k (zne_r zc_200 zc_164 (by decide))
  have e27 : s12 200 1 = σ 200 1 := by rw [← hs13]; exact zset_k (zne_r zc_200 zc_164 (by decide))
  have e28 : s12 199 0 = σ 199 0 := by rw [← hs13]; exact zset_k (zne_r zc_199 zc_164 (by decide))
  have e29 : s12 199 1 = σ 199 1 := by rw [← hs13]; exact zset_k (zne_r zc_199 zc_164 (by decide))
  have e30 : s12 199 2 = σ 199 2 := by rw [← hs13]; exact zset_k (zne_r zc_199 zc_164 (by decide))
  refine zt_aload_n (pc' := 9) hX dX12_pane_8 rfl rfl ?_
  refine zt_iconst (pc' := 10) hX dX12_pane_9 rfl ?_
  refine zt_put (pc' := 13) (x := 0) hX dX12_pane_10 rfl zf_X12_243 (by decide) zc_164 zs_46 (fun q hq => by cases hq; rfl) rfl rfl rfl ?_
  generalize hs32 : zset s12 164 1 0 = s31
  have hI33 : zInv s31 := hs32 ▸ zp_46_1 hI14 zc_164 ⟨by omega, by omega⟩
  have hF34 : zOn zQr σ s31 := hs32 ▸ zOn_set hF15 rfl
  have e35 : s31 164 2 = s12 164 2 := by rw [← hs32]; exact zset_j (by decide)
  have e36 : s31 164 3 = s12 164 3 := by rw [← hs32]; exact zset_j (by decide)
  have e37 : s31 164 4 = s12 164 4 := by rw [← hs32]; exact zset_j (by decide)
  have e38 : s31 164 5 = s12 164 5 := by rw [← hs32]; exact zset_j (by decide)
  have e39 : s31 164 6 = s12 164 6 := by rw [← hs32]; exact zset_j (by decide)
  have e40 : s31 164 48 = s12 164 48 := by rw [← hs32]; exact zset_j (by decide)
  have e41 : s31 164 49 = s12 164 49 := by rw [← hs32]; exact zset_j (by decide)
  have e42 : s31 194 0 = s12 194 0 := by rw [← hs32]; exact zset_k (zne_r zc_194 zc_164 (by decide))
  have e43 : s31 194 1 = s12 194 1 := by rw [← hs32]; exact zset_k (zne_r zc_194 zc_164 (by decide))
  have e44 : s31 195 0 = s12 195 0 := by rw [← hs32]; exact zset_k (zne_r zc_195 zc_164 (by decide))
  have e45 : s31 200 0 = s12 200 0 := by rw [← hs32]; exact zset_k (zne_r zc_200 zc_164 (by decide))
  have e46 : s31 200 1 = s12 200 1 := by rw [← hs32]; exact zset_k (zne_r zc_200 zc_164 (by decide))
  have e47 : s31 199 0 = s12 199 0 := by rw [← hs32]; exact zset_k (zne_r zc_199 zc_164 (by decide))
  have e48 : s31 199 1 = s12 199 1 := by rw [← hs32]; exact zset_k (zne_r zc_199 zc_164 (by decide))
  have e49 : s31 199 2 = s12 199 2 := by rw [← hs32]; exact zset_k (zne_r zc_199 zc_164 (by decide))
  refine zt_aload_n (pc' := 14) hX dX12_pane_13 rfl rfl ?_
  refine zt_iconst (pc' := 15) hX dX12_pane_14 rfl ?_
  refine zt_put (pc' := 18) (x := 0) hX dX12_pane_15 rfl zf_X12_252 (by decide) zc_164 zs_46 (fun q hq => by cases hq; rfl) rfl rfl rfl ?_
  generalize hs51 : zset s31 164 2 0 = s50
  have hI52 : zInv s50 := hs51 ▸ zp_46_2 hI33 zc_164 ⟨by omega, by omega⟩
  have hF53 : zOn zQr σ s50 := hs51 ▸ zOn_set hF34 rfl
  have e54 : s50 164 2 = 0 := by rw [← hs51]; exact zset_s
  have e55 : s50 164 3 = s31 164 3 := by rw [← hs51]; exact zset_j (by decide)
  have e56 : s50 164 4 = s31 164 4 := by rw [← hs51]; exact zset_j (by decide)
  have e57 : s50 164 5 = s31 164 5 := by rw [← hs51]; exact zset_j (by decide)
  have e58 : s50 164 6 = s31 164 6 := by rw [← hs51]; exact zset_j (by decide)
  have e59 : s50 164 48 = s31 164 48 := by rw [← hs51]; exact zset_j (by decide)
  have e60 : s50 164 49 = s31 164 49 := by rw [← hs51]; exact zset_j (by decide)
  have e61 : s50 194 0 = s31 194 0 := by rw [← hs51]; exact zset_k (zne_r zc_194 zc_164 (by decide))
  have e62 : s50 194 1 = s31 194 1 := by rw [← hs51]; exact zset_k (zne_r zc_194 zc_164 (by decide))
  have e63 : s50 195 0 = s31 195 0 := by rw [← hs51]; exact zset_k (zne_r zc_195 zc_164 (by decide))
  have e64 : s50 200 0 = s31 200 0 := by rw [← hs51]; exact zset_k (zne_r zc_200 zc_164 (by decide))
  have e65 : s50 200 1 = s31 200 1 := by rw [← hs51]; exact zset_k (zne_r zc_200 zc_164 (by decide))
  have e66 : s50 199 0 = s31 199 0 := by rw [← hs51]; exact zset_k (zne_r zc_199 zc_164 (by decide))
  have e67 : s50 199 1 = s31 199 1 := by rw [← hs51]; exact zset_k (zne_r zc_199 zc_164 (by decide))
  have e68 : s50 199 2 = s31 199 2 := by rw [← hs51]; exact zset_k (zne_r zc_199 zc_164 (by decide))
  refine zt_aload_n (pc' := 19) hX dX12_pane_18 rfl rfl ?_
  refine zt_iconst (pc' := 20) hX dX12_pane_19 rfl ?_
  refine zt_put (pc' := 23) (x := (-1)) hX dX12_pane_20 rfl zf_X12_266 (by decide) zc_164 zs_46 (fun q hq => by cases hq; rfl) rfl rfl rfl ?_
  generalize hs70 : zset s50 164 4 (-1) = s69
  have hI71 : zInv s69 := hs70 ▸ zp_46_4 hI52 zc_164 ⟨by omega, by omega⟩
  have hF72 : zOn zQr σ s69 := hs70 ▸ zOn_set hF53 rfl
  have e73 : s69 164 2 = s50 164 2 := by rw [← hs70]; exact zset_j (by decide)
  have e74 : s69 164 3 = s50 164 3 := by rw [← hs70]; exact zset_j (by decide)
  have e75 : s69 164 4 = (-1) := by rw [← hs70]; exact zset_s
  have e76 : s69 164 5 = s50 164 5 := by rw [← hs70]; exact zset_j (by decide)
  have e77 : s69 164 6 = s50 164 6 := by rw [← hs70]; exact zset_j (by decide)
  have e78 : s69 164 48 = s50 164 48 := by rw [← hs70]; exact zset_j (by decide)
  have e79 : s69 164 49 = s50 164 49 := by rw [← hs70]; exact zset_j (by decide)
  have e80 : s69 194 0 = s50 194 0 := by rw [← hs70]; exact zset_k (zne_r zc_194 zc_164 (by decide))
  have e81 : s69 194 1 = s50 194 1 := by rw [← hs70]; exact zset_k (zne_r zc_194 zc_164 (by decide))
  have e82 : s69 195 0 = s50 195 0 := by rw [← hs70]; exact zset_k (zne_r zc_195 zc_164 (by decide))
  have e83 : s69 200 0 = s50 200 0 := by rw [← hs70]; exact zset_k (zne_r zc_200 zc_164 (by decide))
  have e84 : s69 200 1 = s50 200 1 := by rw [← hs70]; exact zset_k (zne_r zc_200 zc_164 (by decide))
  have e85 : s69 199 0 = s50 199 0 := by rw [← hs70]; exact zset_k (zne_r zc_199 zc_164 (by decide))
  have e86 : s69 199 1 = s50 199 1 := by rw [← hs70]; exact zset_k (zne_r zc_199 zc_164 (by decide))
  have e87 : s69 199 2 = s50 199 2 := by rw [← hs70]; exact zset_k (zne_r zc_199 zc_164 (by decide))
  refine zt_aload_n (pc' := 24) hX dX12_pane_23 rfl rfl ?_
  refine zt_iconst (pc' := 25) hX dX12_pane_24 rfl ?_
  refine zt_put (pc' := 28) (x := 0) hX dX12_pane_25 rfl zf_X12_246 (by decide) zc_164 zs_46 (fun q hq => by cases hq; rfl) rfl rfl rfl ?_
  generalize hs89 : zset s69 164 5 0 = s88
  have hI90 : zInv s88 := hs89 ▸ zp_46_5 hI71 zc_164 ⟨by omega, by omega⟩
  have hF91 : zOn zQr σ s88 := hs89 ▸ zOn_set hF72 rfl
  have e92 : s88 164 2 = s69 164 2 := by rw [← hs89]; exact zset_j (by decide)
  have e93 : s88 164 3 = s69 164 3 := by rw [← hs89]; exact zset_j (by decide)
  have e94 : s88 164 4 = s69 164 4 := by rw [← hs89]; exact zset_j (by decide)
  have e95 : s88 164 5 = 0 := by rw [← hs89]; exact zset_s
  have e96 : s88 164 6 = s69 164 6 := by rw [← hs89]; exact zset_j (by decide)
  have e97 : s88 164 48 = s69 164 48 := by rw [← hs89]; exact zset_j (by decide)
  have e98 : s88 164 49 = s69 164 49 := by rw [← hs89]; exact zset_j (by decide)
  have e99 : s88 194 0 = s69 194 0 := by rw [← hs89]; exact zset_k (zne_r zc_194 zc_164 (by decide))
  have e100 : s88 194 1 = s69 194 1 := by rw [← hs89]; exact zset_k (zne_r zc_194 zc_164 (by decide))
  have e101 : s88 195 0 = s69 195 0 := by rw [← hs89]; exact zset_k (zne_r zc_195 zc_164 (by decide))
  have e102 : s88 200 0 = s69 200 0 := by rw [← hs89]; exact zset_k (zne_r zc_200 zc_164 (by decide))
  have e103 : s88 200 1 = s69 200 1 := by rw [← hs89]; exact zset_k (zne_r zc_200 zc_164 (by decide))
  have e104 : s88 199 0 = s69 199 0 := by rw [← hs89]; exact zset_k (zne_r zc_199 zc_164 (by decide))
  have e105 : s88 199 1 = s69 199 1 := by rw [← hs89]; exact zset_k (zne_r zc_199 zc_164 (by decide))
  have e106 : s88 199 2 = s69 199 2 := by rw [← hs89]; exact zset_k (zne_r zc_199 zc_164 (by decide))
  refine zt_aload_n (pc' := 29) hX dX12_pane_28 rfl rfl ?_
  refine zt_iconst (pc' := 30) hX dX12_pane_29 rfl ?_
  refine zt_put (pc' := 33) (x := (-1)) hX dX12_pane_30 rfl zf_X12_249 (by decide) zc_164 zs_46 (fun q hq => by cases hq; rfl) rfl rfl rfl ?_
  generalize hs108 : zset s88 164 6 (-1) = s107
  have hI109 : zInv s107 := hs108 ▸ zp_46_6 hI90 zc_164 ⟨by omega, by omega⟩
  have hF110 : zOn zQr σ s107 := hs108 ▸ zOn_set hF91 rfl
  have e111 : s107 164 2 = s88 164 2 := by rw [← hs108]; exact zset_j (by decide)
  have e112 : s107 164 3 = s88 164 3 := by rw [← hs108]; exact zset_j (by decide)
  have e113 : s107 164 4 = s88 164 4 := by rw [← hs108]; exact zset_j (by decide)
  have e114 : s107 164 5 = s88 164 5 := by rw [← hs108]; exact zset_j (by decide)
  have e115 : s107 164 6 = (-1) := by rw [← hs108]; exact zset_s
  have e116 : s107 164 48 = s88 164 48 := by rw [← hs108]; exact zset_j (by decide)
  have e117 : s107 164 49 = s88 164 49 := by rw [← hs108]; exact zset_j (by decide)
  have e118 : s107 194 0 = s88 194 0 := by rw [← hs108]; exact zset_k (zne_r zc_194 zc_164 (by decide))
  have e119 : s107 194 1 = s88 194 1 := by rw [← hs108]; exact zset_k (zne_r zc_194 zc_164 (by decide))
  have e120 : s107 195 0 = s88 195 0 := by rw [← hs108]; exact zset_k (zne_r zc_195 zc_164 (by decide))
  have e121 : s107 200 0 = s88 200 0 := by rw [← hs108]; exact zset_k (zne_r zc_200 zc_164 (by decide))
  have e122 : s107 200 1 = s88 200 1 := by rw [← hs108]; exact zset_k (zne_r zc_200 zc_164 (by decide))
  have e123 : s107 199 0 = s88 199 0 := by rw [← hs108]; exact zset_k (zne_r zc_199 zc_164 (by decide))
  have e124 : s107 199 1 = s88 199 1 := by rw [← hs108]; exact zset_k (zne_r zc_199 zc_164 (by decide))
  have e125 : s107 199 2 = s88 199 2 := by rw [← hs108]; exact zset_k (zne_r zc_199 zc_164 (by decide))
  have hQ := yQ0 (σ := σ) (s := s107) hI (by omega) (by omega) (by omega) (by omega) (by omega) (fun j => hF110 165 j rfl)
  rw [← hf] at hQ
  refine zt_aload_n (pc' := 34) hX dX12_pane_33 rfl rfl ?_
  refine zt_iconst (pc' := 35) hX dX12_pane_34 rfl ?_
  refine zt_put (pc' := 38) (x := 0) hX dX12_pane_35 rfl zf_X12_348 (by decide) zc_164 zs_46 (fun q hq => by cases hq; rfl) rfl rfl rfl ?_
  generalize hs127 : zset s107 164 48 0 = s126
  have hI128 : zInv s126 := hs127 ▸ zp_46_48 hI109 zc_164 ⟨by omega, by omega⟩
  have hF129 : zOn zQr σ s126 := hs127 ▸ zOn_set hF110 rfl
  have e130 : s126 164 2 = s107 164 2 := by rw [← hs127]; exact zset_j (by decide)
  have e131 : s126 164 3 = s107 164 3 := by rw [← hs127]; exact zset_j (by decide)
  have e132 : s126 164 4 = s107 164 4 := by rw [← hs127]; exact zset_j (by decide)
  have e133 : s126 164 5 = s107 164 5 := by rw [← hs127]; exact zset_j (by decide)
  have e134 : s126 164 6 = s107 164 6 := by rw [← hs127]; exact zset_j (by decide)
  have e135 : s126 164 48 = 0 := by rw [← hs127]; exact zset_s
  have e136 : s126 164 49 = s107 164 49 := by rw [← hs127]; exact zset_j (by decide)
  have e137 : s126 194 0 = s107 194 0 := by rw [← hs127]; exact zset_k (zne_r zc_194 zc_164 (by decide))
  have e138 : s126 194 1 = s107 194 1 := by rw [← hs127]; exact zset_k (zne_r zc_194 zc_164 (by decide))
  have e139 : s126 195 0 = s107 195 0 := by rw [← hs127]; exact zset_k (zne_r zc_195 zc_164 (by decide))
  have e140 : s126 200 0 = s107 200 0 := by rw [← hs127]; exact zset_k (zne_r zc_200 zc_164 (by decide))
  have e141 : s126 200 1 = s107 200 1 := by rw [← hs127]; exact zset_k (zne_r zc_200 zc_164 (by decide))
  have e142 : s126 199 0 = s107 199 0 := by rw [← hs127]; exact zset_k (zne_r zc_199 zc_164 (by decide))
  have e143 : s126 199 1 = s107 199 1 := by rw [← hs127]; exact zset_k (zne_r zc_199 zc_164 (by decide))
  have e144 : s126 199 2 = s107 199 2 := by rw [← hs127]; exact zset_k (zne_r zc_199 zc_164 (by decide))
  have hT145 := yTq_rk hQ.1 (yRq_j hs127 (by decide))
  have hE146 : yqs f s126 = (yP.ok (yS f 0)) := (yqs_rk (yRq_j hs127 (by decide))).trans hQ.2
  refine zt_aload_n (pc' := 39) hX dX12_pane_38 rfl rfl ?_
  refine zt_get (pc' := 42) (v := .ref (X.1.1 + 195)) hX dX12_pane_39 rfl zf_X12_105 (by decide) zc_164 zs_46 (zrf_of (zv_46_40 hI128 zc_164)) ?_
  refine zt_iconst (pc' := 43) hX dX12_pane_42 rfl ?_
  refine zt_iconst (pc' := 44) hX dX12_pane_43 rfl ?_
  refine zt_iast (pc' := 45) hX dX12_pane_44 rfl (by decide) zc_195 zs_77 (by decide) ⟨by omega, by omega⟩ ?_
  rw [show Int.toNat 0 = 0 from rfl]
  generalize hs148 : zset s126 195 0 0 = s147
  have hI149 : zInv s147 := hs148 ▸ zp_77 hI128 zc_195 0 ⟨by omega, by omega⟩
  have hF150 : zOn zQr σ s147 := hs148 ▸ zOn_set hF129 rfl
  have hT151 := yTq_rk hT145 (yRq_set hs148 zc_195 (by decide))
  have hE152 : yqs f s147 = (yP.ok (yS f 0)) := (yqs_rk (yRq_set hs148 zc_195 (by decide))).trans hE146
  have e153 : s147 164 2 = s126 164 2 := by rw [← hs148]; exact zset_k (zne_r zc_164 zc_195 (by decide))
  have e154 : s147 164 3 = s126 164 3 := by rw [← hs148]; exact zset_k (zne_r zc_164 zc_195 (by decide))
  have e155 : s147 164 4 = s126 164 4 := by rw [← hs148]; exact zset_k (zne_r zc_164 zc_195 (by decide))
  have e156 : s147 164 5 = s126 164 5 := by rw [← hs148]; exact zset_k (zne_r zc_164 zc_195 (by decide))
  have e157 : s147 164 6 = s126 164 6 := by rw [← hs148]; exact zset_k (zne_r zc_164 zc_195 (by decide))
  have e158 : s147 164 48 = s126 164 48 := by rw [← hs148]; exact zset_k (zne_r zc_164 zc_195 (by decide))
  have e159 : s147 164 49 = s126 164 49 := by rw [← hs148]; exact zset_k (zne_r zc_164 zc_195 (by decide))
  have e160 : s147 194 0 = s126 194 0 := by rw [← hs148]; exact zset_k (zne_r zc_194 zc_195 (by decide))
  have e161 : s147 194 1 = s126 194 1 := by rw [← hs148]; exact zset_k (zne_r zc_194 zc_195 (by decide))
  have e162 : s147 195 0 = 0 := by rw [← hs148]; exact zset_s
  have e163 : s147 200 0 = s126 200 0 := by rw [← hs148]; exact zset_k (zne_r zc_200 zc_195 (by decide))
  have e164 : s147 200 1 = s126 200 1 := by rw [← hs148]; exact zset_k (zne_r zc_200 zc_195 (by decide))
  have e165 : s147 199 0 = s126 199 0 := by rw [← hs148]; exact zset_k (zne_r zc_199 zc_195 (by decide))
  have e166 : s147 199 1 = s126 199 1 := by rw [← hs148]; exact zset_k (zne_r zc_199 zc_195 (by decide))
  have e167 : s147 199 2 = s126 199 2 := by rw [← hs148]; exact zset_k (zne_r zc_199 zc_195 (by decide))
  refine zt_iconst (pc' := 46) hX dX12_pane_45 rfl ?_
  refine zt_istore_n (pc' := 47) (lv' := [some (.ref (X.1.1 + 164)), some (.int (zI 0))]) hX dX12_pane_46 rfl hL (by decide) rfl ?_
  have L_47_179 : ∀ (N : Nat) (x168 : Int) (s171 : zSto) (p174 : yP), 0 ≤ x168 → x168 ≤ 36 → zInv s171 → zOn zQr σ s171 → yTq f s171 → yqs f s171 = p174 → s171 195 0 = 0 → s171 164 48 = 0 → p174 = yP.ok (yS f 0) → ((37 - x168).toNat) < N → zF X s171 47 [some (.ref (X.1.1 + 164)), some (.int (zI x168))] [] := by
    intro N
    induction N with
    | zero =>
      intro x168 s171 p174 h169 h170 hI172 hF173 hT175 hE176 g177 g178 g179 hm181
      exact absurd hm181 (Nat.not_lt_zero _)
    | succ N ih182 =>
      intro x168 s171 p174 h169 h170 hI172 hF173 hT175 hE176 g177 g178 g179 hm181
      have b183 := zv_46_2 hI172 zc_164
      have b184 := zv_46_3 hI172 zc_164
      have b185 := zv_46_4 hI172 zc_164
      have b186 := zv_46_5 hI172 zc_164
      have b187 := zv_46_6 hI172 zc_164
      have b188 := zv_46_48 hI172 zc_164
      have b189 := zv_46_49 hI172 zc_164
      have b190 := zv_77 hI172 zc_195 0
      have b191 := zv_82 hI172 zc_200 0
      have b192 := zv_82 hI172 zc_200 1
      subst g179
      · refine zt_iload_n (pc' := 48) hX dX12_pane_47 rfl rfl ?_
        refine zt_bipush (pc' := 50) hX dX12_pane_48 rfl (by decide) (by decide) ?_
        refine zt_icge (pc' := 53) (tgt := 66) hX dX12_pane_50 rfl (by decide) ⟨by omega, by omega⟩ ⟨by omega, by omega⟩ (fun c193 => ?_) (fun c193 => ?_)
        · refine zt_aload_n (pc' := 67) hX dX12_pane_66 rfl rfl ?_
          refine zt_get (pc' := 70) (v := .ref (X.1.1 + 200)) hX dX12_pane_67 rfl zf_X12_121 (by decide) zc_164 zs_46 (zrf_of (zv_46_45 hI172 zc_164)) ?_
          refine zt_iconst (pc' := 71) hX dX12_pane_70 rfl ?_
          refine zt_iconst (pc' := 72) hX dX12_pane_71 rfl ?_
          refine zt_iast (pc' := 73) hX dX12_pane_72 rfl (by decide) zc_200 zs_82 (by decide) ⟨by omega, by omega⟩ ?_
          rw [show Int.toNat 0 = 0 from rfl]
          generalize hs195 : zset s171 200 0 (-1) = s194
          have hI196 : zInv s194 := hs195 ▸ zp_82 hI172 zc_200 0 ⟨by omega, by omega⟩
          have hF197 : zOn zQr σ s194 := hs195 ▸ zOn_set hF173 rfl
          have hT198 := yTq_rk hT175 (yRq_set hs195 zc_200 (by decide))
          have hE199 : yqs f s194 = (yP.ok (yS f 0)) := (yqs_rk (yRq_set hs195 zc_200 (by decide))).trans hE176
          have e200 : s194 164 2 = s171 164 2 := by rw [← hs195]; exact zset_k (zne_r zc_164 zc_200 (by decide))
          have e201 : s194 164 3 = s171 164 3 := by rw [← hs195]; exact zset_k (zne_r zc_164 zc_200 (by decide))
          have e202 : s194 164 4 = s171 164 4 := by rw [← hs195]; exact zset_k (zne_r zc_164 zc_200 (by decide))
          have e203 : s194 164 5 = s171 164 5 := by rw [← hs195]; exact zset_k (zne_r zc_164 zc_200 (by decide))
          have e204 : s194 164 6 = s171 164 6 := by rw [← hs195]; exact zset_k (zne_r zc_164 zc_200 (by decide))
          have e205 : s194 164 48 = s171 164 48 := by rw [← hs195]; exact zset_k (zne_r zc_164 zc_200 (by decide))
          have e206 : s194 164 49 = s171 164 49 := by rw [← hs195]; exact zset_k (zne_r zc_164 zc_200 (by decide))
          have e207 : s194 194 0 = s171 194 0 := by rw [← hs195]; exact zset_k (zne_r zc_194 zc_200 (by decide))
          have e208 : s194 194 1 = s171 194 1 := by rw [← hs195]; exact zset_k (zne_r zc_194 zc_200 (by decide))
          have e209 : s194 195 0 = s171 195 0 := by rw [← hs195]; exact zset_k (zne_r zc_195 zc_200 (by decide))
          have e210 : s194 200 0 = (-1) := by rw [← hs195]; exact zset_s
          have e211 : s194 200 1 = s171 200 1 := by rw [← hs195]; exact zset_j (by decide)
          have e212 : s194 199 0 = s171 199 0 := by rw [← hs195]; exact zset_k (zne_r zc_199 zc_200 (by decide))
          have e213 : s194 199 1 = s171 199 1 := by rw [← hs195]; exact zset_k (zne_r zc_199 zc_200 (by decide))
          have e214 : s194 199 2 = s171 199 2 := by rw [← hs195]; exact zset_k (zne_r zc_199 zc_200 (by decide))
          refine zt_aload_n (pc' := 74) hX dX12_pane_73 rfl rfl ?_
          refine zt_get (pc' := 77) (v := .ref (X.1.1 + 200)) hX dX12_pane_74 rfl zf_X12_121 (by decide) zc_164 zs_46 (zrf_of (zv_46_45 hI196 zc_164)) ?_
          refine zt_iconst (pc' := 78) hX dX12_pane_77 rfl ?_
          refine zt_iconst (pc' := 79) hX dX12_pane_78 rfl ?_
          refine zt_iast (pc' := 80) hX dX12_pane_79 rfl (by decide) zc_200 zs_82 (by decide) ⟨by omega, by omega⟩ ?_
          rw [show Int.toNat 1 = 1 from rfl]
          generalize hs216 : zset s194 200 1 (-1) = s215
          have hI217 : zInv s215 := hs216 ▸ zp_82 hI196 zc_200 1 ⟨by omega, by omega⟩
          have hF218 : zOn zQr σ s215 := hs216 ▸ zOn_set hF197 rfl
          have hT219 := yTq_rk hT198 (yRq_set hs216 zc_200 (by decide))
          have hE220 : yqs f s215 = (yP.ok (yS f 0)) := (yqs_rk (yRq_set hs216 zc_200 (by decide))).trans hE199
          have e221 : s215 164 2 = s194 164 2 := by rw [← hs216]; exact zset_k (zne_r zc_164 zc_200 (by decide))
          have e222 : s215 164 3 = s194 164 3 := by rw [← hs216]; exact zset_k (zne_r zc_164 zc_200 (by decide))
          have e223 : s215 164 4 = s194 164 4 := by rw [← hs216]; exact zset_k (zne_r zc_164 zc_200 (by decide))
          have e224 : s215 164 5 = s194 164 5 := by rw [← hs216]; exact zset_k (zne_r zc_164 zc_200 (by decide))
          have e225 : s215 164 6 = s194 164 6 := by rw [← hs216]; exact zset_k (zne_r zc_164 zc_200 (by decide))
          have e226 : s215 164 48 = s194 164 48 := by rw [← hs216]; exact zset_k (zne_r zc_164 zc_200 (by decide))
          have e227 : s215 164 49 = s194 164 49 := by rw [← hs216]; exact zset_k (zne_r zc_164 zc_200 (by decide))
          have e228 : s215 194 0 = s194 194 0 := by rw [← hs216]; exact zset_k (zne_r zc_194 zc_200 (by decide))
          have e229 : s215 194 1 = s194 194 1 := by rw [← hs216]; exact zset_k (zne_r zc_194 zc_200 (by decide))
          have e230 : s215 195 0 = s194 195 0 := by rw [← hs216]; exact zset_k (zne_r zc_195 zc_200 (by decide))
          have e231 : s215 200 0 = s194 200 0 := by rw [← hs216]; exact zset_j (by decide)
          have e232 : s215 200 1 = (-1) := by rw [← hs216]; exact zset_s
          have e233 : s215 199 0 = s194 199 0 := by rw [← hs216]; exact zset_k (zne_r zc_199 zc_200 (by decide))
          have e234 : s215 199 1 = s194 199 1 := by rw [← hs216]; exact zset_k (zne_r zc_199 zc_200 (by decide))
          have e235 : s215 199 2 = s194 199 2 := by rw [← hs216]; exact zset_k (zne_r zc_199 zc_200 (by decide))
          refine zt_aload_n (pc' := 81) hX dX12_pane_80 rfl rfl ?_
          refine zt_get (pc' := 84) (v := .ref (X.1.1 + 199)) hX dX12_pane_81 rfl zf_X12_118 (by decide) zc_164 zs_46 (zrf_of (zv_46_44 hI217 zc_164)) ?_
          refine zt_iconst (pc' := 85) hX dX12_pane_84 rfl ?_
          refine zt_iconst (pc' := 86) hX dX12_pane_85 rfl ?_
          refine zt_iast (pc' := 87) hX dX12_pane_86 rfl (by decide) zc_199 zs_81 (by decide) ⟨by omega, by omega⟩ ?_
          rw [show Int.toNat 0 = 0 from rfl]
          generalize hs237 : zset s215 199 0 3 = s236
          have hI238 : zInv s236 := hs237 ▸ zp_81 hI217 zc_199 0 (by omega)
          have hF239 : zOn zQr σ s236 := hs237 ▸ zOn_set hF218 rfl
          have hT240 := yTq_rk hT219 (yRq_set hs237 zc_199 (by decide))
          have hE241 : yqs f s236 = (yP.ok (yS f 0)) := (yqs_rk (yRq_set hs237 zc_199 (by decide))).trans hE220
          have e242 : s236 164 2 = s215 164 2 := by rw [← hs237]; exact zset_k (zne_r zc_164 zc_199 (by decide))
          have e243 : s236 164 3 = s215 164 3 := by rw [← hs237]; exact zset_k (zne_r zc_164 zc_199 (by decide))
          have e244 : s236 164 4 = s215 164 4 := by rw [← hs237]; exact zset_k (zne_r zc_164 zc_199 (by decide))
          have e245 : s236 164 5 = s215 164 5 := by rw [← hs237]; exact zset_k (zne_r zc_164 zc_199 (by decide))
          have e246 : s236 164 6 = s215 164 6 := by rw [← hs237]; exact zset_k (zne_r zc_164 zc_199 (by decide))
          have e247 : s236 164 48 = s215 164 48 := by rw [← hs237]; exact zset_k (zne_r zc_164 zc_199 (by decide))
          have e248 : s236 164 49 = s215 164 49 := by rw [← hs237]; exact zset_k (zne_r zc_164 zc_199 (by decide))
          have e249 : s236 194 0 = s215 194 0 := by rw [← hs237]; exact zset_k (zne_r zc_194 zc_199 (by decide))
          have e250 : s236 194 1 = s215 194 1 := by rw [← hs237]; exact zset_k (zne_r zc_194 zc_199 (by decide))
          have e251 : s236 195 0 = s215 195 0 := by rw [← hs237]; exact zset_k (zne_r zc_195 zc_199 (by decide))
          have e252 : s236 200 0 = s215 200 0 := by rw [← hs237]; exact zset_k (zne_r zc_200 zc_199 (by decide))
          have e253 : s236 200 1 = s215 200 1 := by rw [← hs237]; exact zset_k (zne_r zc_200 zc_199 (by decide))
          have e254 : s236 199 0 = 3 := by rw [← hs237]; exact zset_s
          have e255 : s236 199 1 = s215 199 1 := by rw [← hs237]; exact zset_j (by decide)
          have e256 : s236 199 2 = s215 199 2 := by rw [← hs237]; exact zset_j (by decide)
          refine zt_aload_n (pc' := 88) hX dX12_pane_87 rfl rfl ?_
          refine zt_get (pc' := 91) (v := .ref (X.1.1 + 199)) hX dX12_pane_88 rfl zf_X12_118 (by decide) zc_164 zs_46 (zrf_of (zv_46_44 hI238 zc_164)) ?_
          refine zt_iconst (pc' := 92) hX dX12_pane_91 rfl ?_
          refine zt_bipush (pc' := 94) hX dX12_pane_92 rfl (by decide) (by decide) ?_
          refine zt_iast (pc' := 95) hX dX12_pane_94 rfl (by decide) zc_199 zs_81 (by decide) ⟨by omega, by omega⟩ ?_
          rw [show Int.toNat 1 = 1 from rfl]
          generalize hs258 : zset s236 199 1 20 = s257
          have hI259 : zInv s257 := hs258 ▸ zp_81 hI238 zc_199 1 (by omega)
          have hF260 : zOn zQr σ s257 := hs258 ▸ zOn_set hF239 rfl
          have hT261 := yTq_rk hT240 (yRq_set hs258 zc_199 (by decide))
          have hE262 : yqs f s257 = (yP.ok (yS f 0)) := (yqs_rk (yRq_set hs258 zc_199 (by decide))).trans hE241
          have e263 : s257 164 2 = s236 164 2 := by rw [← hs258]; exact zset_k (zne_r zc_164 zc_199 (by decide))
          have e264 : s257 164 3 = s236 164 3 := by rw [← hs258]; exact zset_k (zne_r zc_164 zc_199 (by decide))
          have e265 : s257 164 4 = s236 164 4 := by rw [← hs258]; exact zset_k (zne_r zc_164 zc_199 (by decide))
          have e266 : s257 164 5 = s236 164 5 := by rw [← hs258]; exact zset_k (zne_r zc_164 zc_199 (by decide))
          have e267 : s257 164 6 = s236 164 6 := by rw [← hs258]; exact zset_k (zne_r zc_164 zc_199 (by decide))
          have e268 : s257 164 48 = s236 164 48 := by rw [← hs258]; exact zset_k (zne_r zc_164 zc_199 (by decide))
          have e269 : s257 164 49 = s236 164 49 := by rw [← hs258]; exact zset_k (zne_r zc_164 zc_199 (by decide))
          have e270 : s257 194 0 = s236 194 0 := by rw [← hs258]; exact zset_k (zne_r zc_194 zc_199 (by decide))
          have e271 : s257 194 1 = s236 194 1 := by rw [← hs258]; exact zset_k (zne_r zc_194 zc_199 (by decide))
          have e272 : s257 195 0 = s236 195 0 := by rw [← hs258]; exact zset_k (zne_r zc_195 zc_199 (by decide))
          have e273 : s257 200 0 = s236 200 0 := by rw [← hs258]; exact zset_k (zne_r zc_200 zc_199 (by decide))
          have e274 : s257 200 1 = s236 200 1 := by rw [← hs258]; exact zset_k (zne_r zc_200 zc_199 (by decide))
          have e275 : s257 199 0 = s236 199 0 := by rw [← hs258]; exact zset_j (by decide)
          have e276 : s257 199 1 = 20 := by rw [← hs258]; exact zset_s
          have e277 : s257 199 2 = s236 199 2 := by rw [← hs258]; exact zset_j (by decide)
          refine zt_aload_n (pc' := 96) hX dX12_pane_95 rfl rfl ?_
          refine zt_get (pc' := 99) (v := .ref (X.1.1 + 199)) hX dX12_pane_96 rfl zf_X12_118 (by decide) zc_164 zs_46 (zrf_of (zv_46_44 hI259 zc_164)) ?_
          refine zt_iconst (pc' := 100) hX dX12_pane_99 rfl ?_
          refine zt_iconst (pc' := 101) hX dX12_pane_100 rfl ?_
          refine zt_iast (pc' := 102) hX dX12_pane_101 rfl (by decide) zc_199 zs_81 (by decide) ⟨by omega, by omega⟩ ?_
          rw [show Int.toNat 2 = 2 from rfl]
          generalize hs279 : zset s257 199 2 0 = s278
          have hI280 : zInv s278 := hs279 ▸ zp_81 hI259 zc_199 2 (by omega)
          have hF281 : zOn zQr σ s278 := hs279 ▸ zOn_set hF260 rfl
          have hT282 := yTq_rk hT261 (yRq_set hs279 zc_199 (by decide))
          have hE283 : yqs f s278 = (yP.ok (yS f 0)) := (yqs_rk (yRq_set hs279 zc_199 (by decide))).trans hE262
          have e284 : s278 164 2 = s257 164 2 := by rw [← hs279]; exact zset_k (zne_r zc_164 zc_199 (by decide))
          have e285 : s278 164 3 = s257 164 3 := by rw [← hs279]; exact zset_k (zne_r zc_164 zc_199 (by decide))
          have e286 : s278 164 4 = s257 164 4 := by rw [← hs279]; exact zset_k (zne_r zc_164 zc_199 (by decide))
          have e287 : s278 164 5 = s257 164 5 := by rw [← hs279]; exact zset_k (zne_r zc_164 zc_199 (by decide))
          have e288 : s278 164 6 = s257 164 6 := by rw [← hs279]; exact zset_k (zne_r zc_164 zc_199 (by decide))
          have e289 : s278 164 48 = s257 164 48 := by rw [← hs279]; exact zset_k (zne_r zc_164 zc_199 (by decide))
          have e290 : s278 164 49 = s257 164 49 := by rw [← hs279]; exact zset_k (zne_r zc_164 zc_199 (by decide))
          have e291 : s278 194 0 = s257 194 0 := by rw [← hs279]; exact zset_k (zne_r zc_194 zc_199 (by decide))
          have e292 : s278 194 1 = s257 194 1 := by rw [← hs279]; exact zset_k (zne_r zc_194 zc_199 (by decide))
          have e293 : s278 195 0 = s257 195 0 := by rw [← hs279]; exact zset_k (zne_r zc_195 zc_199 (by decide))
          have e294 : s278 200 0 = s257 200 0 := by rw [← hs279]; exact zset_k (zne_r zc_200 zc_199 (by decide))
          have e295 : s278 200 1 = s257 200 1 := by rw [← hs279]; exact zset_k (zne_r zc_200 zc_199 (by decide))
          have e296 : s278 199 0 = s257 199 0 := by rw [← hs279]; exact zset_j (by decide)
          have e297 : s278 199 1 = s257 199 1 := by rw [← hs279]; exact zset_j (by decide)
          have e298 : s278 199 2 = 0 := by rw [← hs279]; exact zset_s
          refine zt_aload_n (pc' := 103) hX dX12_pane_102 rfl rfl ?_
          refine zt_cVv (pc' := 106) hX dX12_pane_103 rfl zm_yX12_paneTold zw_25_20 zc_164 (by decide) zs_46 (q := (RX12, TX12, 108)) rfl rfl (yc_X12_paneTold _ _ s278 hI280 f hT282 (yWd_r hWd hF281)) rfl rfl (Nat.le_of_ble_eq_true rfl) (by decide) (fun r299 s300 hr301 hp302 => ?_)
          obtain ⟨hI303, hF304, hT305, z306, z307⟩ := hp302
          have hE308 : yqs f s300 = yPs f 59 (yPan f (yP.ok (yS f 0))) := by rw [z306, hE283]
          rw [hE283] at z307
          have hF309 := zOn_tr hF281 hF304 (zi_r3 zi_73)
          rw [hE308] at z307
          have b310 := zv_46_2 hI303 zc_164
          have b311 := zv_46_3 hI303 zc_164
          have b312 := zv_46_4 hI303 zc_164
          have b313 := zv_46_5 hI303 zc_164
          have b314 := zv_46_6 hI303 zc_164
          have b315 := zv_46_48 hI303 zc_164
          have b316 := zv_46_49 hI303 zc_164
          have b317 := zv_77 hI303 zc_195 0
          have b318 := zv_82 hI303 zc_200 0
          have b319 := zv_82 hI303 zc_200 1
          have e320 := hF304 164 3 rfl
          have e321 := hF304 164 48 rfl
          have e322 := hF304 164 49 rfl
          have e323 := hF304 195 0 rfl
          have e324 := hF304 200 0 rfl
          have e325 := hF304 200 1 rfl
          have e326 := hF304 199 0 rfl
          have e327 := hF304 199 1 rfl
          have e328 := hF304 199 2 rfl
          replace z307 : yIm _ _ := z307
          refine zt_aload_n (pc' := 107) hX dX12_pane_106 rfl rfl ?_
          refine zt_iconst (pc' := 108) hX dX12_pane_107 rfl ?_
          refine zt_put (pc' := 111) (x := 1) hX dX12_pane_108 rfl zf_X12_351 (by decide) zc_164 zs_46 (fun q hq => by cases hq; rfl) rfl rfl rfl ?_
          generalize hs330 : zset s300 164 49 1 = s329
          have hI331 : zInv s329 := hs330 ▸ zp_46_49 hI303 zc_164 ⟨by omega, by omega⟩
          have hF332 : zOn zQr σ s329 := hs330 ▸ zOn_set hF309 rfl
          have e333 : s329 164 2 = s300 164 2 := by rw [← hs330]; exact zset_j (by decide)
          have e334 : s329 164 3 = s300 164 3 := by rw [← hs330]; exact zset_j (by decide)
          have e335 : s329 164 4 = s300 164 4 := by rw [← hs330]; exact zset_j (by decide)
          have e336 : s329 164 5 = s300 164 5 := by rw [← hs330]; exact zset_j (by decide)
          have e337 : s329 164 6 = s300 164 6 := by rw [← hs330]; exact zset_j (by decide)
          have e338 : s329 164 48 = s300 164 48 := by rw [← hs330]; exact zset_j (by decide)
          have e339 : s329 164 49 = 1 := by rw [← hs330]; exact zset_s
          have e340 : s329 194 0 = s300 194 0 := by rw [← hs330]; exact zset_k (zne_r zc_194 zc_164 (by decide))
          have e341 : s329 194 1 = s300 194 1 := by rw [← hs330]; exact zset_k (zne_r zc_194 zc_164 (by decide))
          have e342 : s329 195 0 = s300 195 0 := by rw [← hs330]; exact zset_k (zne_r zc_195 zc_164 (by decide))
          have e343 : s329 200 0 = s300 200 0 := by rw [← hs330]; exact zset_k (zne_r zc_200 zc_164 (by decide))
          have e344 : s329 200 1 = s300 200 1 := by rw [← hs330]; exact zset_k (zne_r zc_200 zc_164 (by decide))
          have e345 : s329 199 0 = s300 199 0 := by rw [← hs330]; exact zset_k (zne_r zc_199 zc_164 (by decide))
          have e346 : s329 199 1 = s300 199 1 := by rw [← hs330]; exact zset_k (zne_r zc_199 zc_164 (by decide))
          have e347 : s329 199 2 = s300 199 2 := by rw [← hs330]; exact zset_k (zne_r zc_199 zc_164 (by decide))
          have hT348 := yTq_rk hT305 (yRq_j hs330 (by decide))
          have hE349 : yqs f s329 = yPs f 59 (yPan f (yP.ok (yS f 0))) := (yqs_rk (yRq_j hs330 (by decide))).trans hE308
          have L_111_356 : ∀ (N : Nat) (s350 : zSto) (p353 : yP), zInv s350 → zOn zQr σ s350 → yTq f s350 → yqs f s350 = p353 → yLq f s350 p353 (s350 164 49) → ((2 * (81 - s350 164 49) + yPo p353).toNat) < N → zF X s350 111 [some (.ref (X.1.1 + 164)), none] [] := by
            intro N
            induction N with
            | zero =>
              intro s350 p353 hI351 hF352 hT354 hE355 g356 hm358
              exact absurd hm358 (Nat.not_lt_zero _)
            | succ N ih359 =>
              intro s350 p353 hI351 hF352 hT354 hE355 g356 hm358
              have b360 := zv_46_2 hI351 zc_164
              have b361 := zv_46_3 hI351 zc_164
              have b362 := zv_46_4 hI351 zc_164
              have b363 := zv_46_5 hI351 zc_164
              have b364 := zv_46_6 hI351 zc_164
              have b365 := zv_46_48 hI351 zc_164
              have b366 := zv_46_49 hI351 zc_164
              have b367 := zv_77 hI351 zc_195 0
              have b368 := zv_82 hI351 zc_200 0
              have b369 := zv_82 hI351 zc_200 1
              rcases yLq_c g356 with a370 | b371
              · have u372 := a370.1
                have u373 := a370.2.1
                have u374 := a370.2.2.2.1
                have u375 := a370.2.2.2.2
                have u376 := yHb1 hE355 a370.1
                have u377 := ((yMq hT354 hE355).1 a370.1).2.1
                refine zt_aload_n (pc' := 112) hX dX12_pane_111 rfl rfl ?_
                have b378 := zv_46_5 hI351 zc_164
                refine zt_get (pc' := 115) (v := .int (zI (s350 164 5))) hX dX12_pane_112 rfl zf_X12_246 (by decide) zc_164 zs_46 rfl ?_
                refine zt_ifne (pc' := 118) (tgt := 133) hX dX12_pane_115 rfl (by decide) ⟨by omega, by omega⟩ (fun c379 => ?_) (fun c379 => ?_)
                · exact absurd c379 (by omega)
                · refine zt_aload_n (pc' := 119) hX dX12_pane_118 rfl rfl ?_
                  refine zt_cVi (pc' := 122) hX dX12_pane_119 rfl zm_yX12_look zw_26_12 zc_164 (by decide) zs_46 (q := (RX12, TX12, 108)) rfl rfl (yc_X12_look _ _ s350 hI351 f hT354) rfl rfl (Nat.le_of_ble_eq_true rfl) (by decide) (fun r380 s381 hr382 hp383 => ?_)
                  obtain ⟨hI384, hF385, q386, q387, hT388, z389, z390, z391⟩ := hp383
                  have hE392 : yqs f s381 = p353 := by rw [z389, hE355]
                  have hF393 := zOn_tr hF352 hF385 (zi_r3 (fun k j h => zi_13 k j (zi_a1 k j h)))
                  have b394 := zv_46_2 hI384 zc_164
                  have b395 := zv_46_3 hI384 zc_164
                  have b396 := zv_46_4 hI384 zc_164
                  have b397 := zv_46_5 hI384 zc_164
                  have b398 := zv_46_6 hI384 zc_164
                  have b399 := zv_46_48 hI384 zc_164
                  have b400 := zv_46_49 hI384 zc_164
                  have b401 := zv_77 hI384 zc_195 0
                  have b402 := zv_82 hI384 zc_200 0
                  have b403 := zv_82 hI384 zc_200 1
                  have e404 := hF385 164 3 rfl
                  have e405 := hF385 164 4 rfl
                  have e406 := hF385 164 5 rfl
                  have e407 := hF385 164 6 rfl
                  have e408 := hF385 164 48 rfl
                  have e409 := hF385 164 49 rfl
                  have e410 := hF385 194 0 rfl
                  have e411 := hF385 194 1 rfl
                  have e412 := hF385 195 0 rfl
                  have e413 := hF385 200 0 rfl
                  have e414 := hF385 200 1 rfl
                  have e415 := hF385 199 0 rfl
                  have e416 := hF385 199 1 rfl
                  have e417 := hF385 199 2 rfl
                  have hq418 : s381 164 2 = yPq p353 := yat_q hE355 (by omega) z390
                  have hc419 : f (yPq p353) = r380 := by rw [← hq418]; exact z391.symm
                  clear z390 z391
                  have a420 := yLqA_fr a370 (zOn_tr (zOn_rf zQ1 _) hF385 zi_a1)
                  refine zt_iconst (pc' := 123) hX dX12_pane_122 rfl ?_
                  refine zt_iceq (pc' := 126) (tgt := 133) hX dX12_pane_123 rfl (by decide) ⟨by omega, by omega⟩ ⟨by omega, by omega⟩ (fun c421 => ?_) (fun c421 => ?_)
                  · have x422 := yLq_e a420 (yMor_0 hc419 (by omega))
                    obtain ⟨u423, u424, u425, u426, u427, u428⟩ := x422.2.1.2.2
                    have u429 := x422.2.2
                    refine zt_aload_n (pc' := 134) hX dX12_pane_133 rfl rfl ?_
                    refine zt_aload_n (pc' := 135) hX dX12_pane_134 rfl rfl ?_
                    have b430 := zv_46_5 hI384 zc_164
                    refine zt_get (pc' := 138) (v := .int (zI (s381 164 5))) hX dX12_pane_135 rfl zf_X12_246 (by decide) zc_164 zs_46 rfl ?_
                    refine zt_put (pc' := 141) (x := (s381 164 5)) hX dX12_pane_138 rfl zf_X12_369 (by decide) zc_164 zs_46 (fun q hq => by cases hq; rfl) rfl rfl rfl ?_
                    generalize hs432 : zset s381 164 7 (s381 164 5) = s431
                    have hI433 : zInv s431 := hs432 ▸ zp_46_7 hI384 zc_164 ⟨by omega, by omega⟩
                    have hF434 : zOn zQr σ s431 := hs432 ▸ zOn_set hF393 rfl
                    have e435 : s431 164 2 = s381 164 2 := by rw [← hs432]; exact zset_j (by decide)
                    have e436 : s431 164 3 = s381 164 3 := by rw [← hs432]; exact zset_j (by decide)
                    have e437 : s431 164 4 = s381 164 4 := by rw [← hs432]; exact zset_j (by decide)
                    have e438 : s431 164 5 = s381 164 5 := by rw [← hs432]; exact zset_j (by decide)
                    have e439 : s431 164 6 = s381 164 6 := by rw [← hs432]; exact zset_j (by decide)
                    have e440 : s431 164 48 = s381 164 48 := by rw [← hs432]; exact zset_j (by decide)
                    have e441 : s431 164 49 = s381 164 49 := by rw [← hs432]; exact zset_j (by decide)
                    have e442 : s431 194 0 = s381 194 0 := by rw [← hs432]; exact zset_k (zne_r zc_194 zc_164 (by decide))
                    have e443 : s431 194 1 = s381 194 1 := by rw [← hs432]; exact zset_k (zne_r zc_194 zc_164 (by decide))
                    have e444 : s431 195 0 = s381 195 0 := by rw [← hs432]; exact zset_k (zne_r zc_195 zc_164 (by decide))
                    have e445 : s431 200 0 = s381 200 0 := by rw [← hs432]; exact zset_k (zne_r zc_200 zc_164 (by decide))
                    have e446 : s431 200 1 = s381 200 1 := by rw [← hs432]; exact zset_k (zne_r zc_200 zc_164 (by decide))
                    have e447 : s431 199 0 = s381 199 0 := by rw [← hs432]; exact zset_k (zne_r zc_199 zc_164 (by decide))
                    have e448 : s431 199 1 = s381 199 1 := by rw [← hs432]; exact zset_k (zne_r zc_199 zc_164 (by decide))
                    have e449 : s431 199 2 = s381 199 2 := by rw [← hs432]; exact zset_k (zne_r zc_199 zc_164 (by decide))
                    have hT450 := yTq_rk hT388 (yRq_j hs432 (by decide))
                    have hE451 : yqs f s431 = p353 := (yqs_rk (yRq_j hs432 (by decide))).trans hE392
                    refine zt_aload_n (pc' := 142) hX dX12_pane_141 rfl rfl ?_
                    refine zt_aload_n (pc' := 143) hX dX12_pane_142 rfl rfl ?_
                    have b452 := zv_46_6 hI433 zc_164
                    refine zt_get (pc' := 146) (v := .int (zI (s431 164 6))) hX dX12_pane_143 rfl zf_X12_249 (by decide) zc_164 zs_46 rfl ?_
                    refine zt_put (pc' := 149) (x := (s431 164 6)) hX dX12_pane_146 rfl zf_X12_13 (by decide) zc_164 zs_46 (fun q hq => by cases hq; rfl) rfl rfl rfl ?_
                    generalize hs454 : zset s431 164 8 (s431 164 6) = s453
                    have hI455 : zInv s453 := hs454 ▸ zp_46_8 hI433 zc_164 ⟨by omega, by omega⟩
                    have hF456 : zOn zQr σ s453 := hs454 ▸ zOn_set hF434 rfl
                    have e457 : s453 164 2 = s431 164 2 := by rw [← hs454]; exact zset_j (by decide)
                    have e458 : s453 164 3 = s431 164 3 := by rw [← hs454]; exact zset_j (by decide)
                    have e459 : s453 164 4 = s431 164 4 := by rw [← hs454]; exact zset_j (by decide)
                    have e460 : s453 164 5 = s431 164 5 := by rw [← hs454]; exact zset_j (by decide)
                    have e461 : s453 164 6 = s431 164 6 := by rw [← hs454]; exact zset_j (by decide)
                    have e462 : s453 164 48 = s431 164 48 := by rw [← hs454]; exact zset_j (by decide)
                    have e463 : s453 164 49 = s431 164 49 := by rw [← hs454]; exact zset_j (by decide)
                    have e464 : s453 194 0 = s431 194 0 := by rw [← hs454]; exact zset_k (zne_r zc_194 zc_164 (by decide))
                    have e465 : s453 194 1 = s431 194 1 := by rw [← hs454]; exact zset_k (zne_r zc_194 zc_164 (by decide))
                    have e466 : s453 195 0 = s431 195 0 := by rw [← hs454]; exact zset_k (zne_r zc_195 zc_164 (by decide))
                    have e467 : s453 200 0 = s431 200 0 := by rw [← hs454]; exact zset_k (zne_r zc_200 zc_164 (by decide))
                    have e468 : s453 200 1 = s431 200 1 := by rw [← hs454]; exact zset_k (zne_r zc_200 zc_164 (by decide))
                    have e469 : s453 199 0 = s431 199 0 := by rw [← hs454]; exact zset_k (zne_r zc_199 zc_164 (by decide))
                    have e470 : s453 199 1 = s431 199 1 := by rw [← hs454]; exact zset_k (zne_r zc_199 zc_164 (by decide))
                    have e471 : s453 199 2 = s431 199 2 := by rw [← hs454]; exact zset_k (zne_r zc_199 zc_164 (by decide))
                    have hT472 := yTq_rk hT450 (yRq_j hs454 (by decide))
                    have hE473 : yqs f s453 = p353 := (yqs_rk (yRq_j hs454 (by decide))).trans hE451
                    refine zt_aload_n (pc' := 150) hX dX12_pane_149 rfl rfl ?_
                    have b474 := zv_46_5 hI455 zc_164
                    refine zt_get (pc' := 153) (v := .int (zI (s453 164 5))) hX dX12_pane_150 rfl zf_X12_246 (by decide) zc_164 zs_46 rfl ?_
                    refine zt_ifeq (pc' := 156) (tgt := 168) hX dX12_pane_153 rfl (by decide) ⟨by omega, by omega⟩ (fun c475 => ?_) (fun c475 => ?_)
                    · refine zt_aload_n (pc' := 169) hX dX12_pane_168 rfl rfl ?_
                      refine zt_cVv (pc' := 172) hX dX12_pane_169 rfl zm_yX12_stands zw_32_15 zc_164 (by decide) zs_46 (q := (RX12, TX12, 108)) rfl rfl (yc_X12_stands _ _ s453 hI455 (by omega) (by omega) (by omega)) rfl rfl (Nat.le_of_ble_eq_true rfl) (by decide) (fun r476 s477 hr478 hp479 => ?_)
                      obtain ⟨hI480, hF481, z482⟩ := hp479
                      have hF483 := zOn_tr hF456 (zOn_r hF481) zi_id
                      have b484 := zv_46_2 hI480 zc_164
                      have b485 := zv_46_3 hI480 zc_164
                      have b486 := zv_46_4 hI480 zc_164
                      have b487 := zv_46_5 hI480 zc_164
                      have b488 := zv_46_6 hI480 zc_164
                      have b489 := zv_46_48 hI480 zc_164
                      have b490 := zv_46_49 hI480 zc_164
                      have b491 := zv_77 hI480 zc_195 0
                      have b492 := zv_82 hI480 zc_200 0
                      have b493 := zv_82 hI480 zc_200 1
                      refine zt_aload_n (pc' := 173) hX dX12_pane_172 rfl rfl ?_
                      have b494 := zv_46_49 hI480 zc_164
                      refine zt_get (pc' := 176) (v := .int (zI (s477 164 49))) hX dX12_pane_173 rfl zf_X12_351 (by decide) zc_164 zs_46 rfl ?_
                      exact zt_iret hX hR dX12_pane_176 ⟨by omega, by omega⟩ ⟨hI480, hF483, by omega, by omega, (by rw [← hf, x422.1]; exact ⟨fun _ => by omega, fun o => absurd o (by omega)⟩)⟩
                    · exact absurd c475 (by omega)
                  · refine zt_aload_n (pc' := 127) hX dX12_pane_126 rfl rfl ?_
                    refine zt_cVv (pc' := 130) hX dX12_pane_127 rfl zm_yX12_statementTold zw_27_18 zc_164 (by decide) zs_46 (q := (RX12, TX12, 108)) rfl rfl (yc_X12_statementTold _ _ s381 hI384 (by omega) (by omega) (by omega) f hT388 p353 hE392 (by omega) (yWd_r hWd hF393) (yLqA_t a420) (by omega)) rfl rfl (Nat.le_of_ble_eq_true rfl) (by decide) (fun r495 s496 hr497 hp498 => ?_)
                    obtain ⟨hI499, hF500, hT501, z502, z503, z504⟩ := hp498
                    have hF505 := zOn_tr hF393 hF500 zi_3r
                    obtain ⟨p506, hE507⟩ : ∃ p, yqs f s496 = p := ⟨_, rfl⟩
                    rw [hE507] at z502
                    rw [hE507] at z503
                    have b508 := zv_46_2 hI499 zc_164
                    have b509 := zv_46_3 hI499 zc_164
                    have b510 := zv_46_4 hI499 zc_164
                    have b511 := zv_46_5 hI499 zc_164
                    have b512 := zv_46_6 hI499 zc_164
                    have b513 := zv_46_48 hI499 zc_164
                    have b514 := zv_46_49 hI499 zc_164
                    have b515 := zv_77 hI499 zc_195 0
                    have b516 := zv_82 hI499 zc_200 0
                    have b517 := zv_82 hI499 zc_200 1
                    replace z503 : yIm _ _ := z503
                    refine zt_goto (tgt := 111) hX dX12_pane_130 (by decide) ?_
                    exact ih359 s496 p506 hI499 hF505 hT501 hE507 (yLq_s a420 (yMor_1 a420.1 hc419 (by omega)) (by omega) (by rw [show s350 164 49 = s381 164 49 by omega]; exact z502) z503 rfl) (by have b := z504; rcases yPo_b p506 with x | x; (have t := (z503 x).2.2; omega); omega)
              · have u519 := yHb0 hE355 b371.1
                have u520 := b371.1
                refine zt_aload_n (pc' := 112) hX dX12_pane_111 rfl rfl ?_
                have b521 := zv_46_5 hI351 zc_164
                refine zt_get (pc' := 115) (v := .int (zI (s350 164 5))) hX dX12_pane_112 rfl zf_X12_246 (by decide) zc_164 zs_46 rfl ?_
                refine zt_ifne (pc' := 118) (tgt := 133) hX dX12_pane_115 rfl (by decide) ⟨by omega, by omega⟩ (fun c522 => ?_) (fun c522 => ?_)
                · refine zt_aload_n (pc' := 134) hX dX12_pane_133 rfl rfl ?_
                  refine zt_aload_n (pc' := 135) hX dX12_pane_134 rfl rfl ?_
                  refine zt_get (pc' := 138) (v := .int (zI (s350 164 5))) hX dX12_pane_135 rfl zf_X12_246 (by decide) zc_164 zs_46 rfl ?_
                  refine zt_put (pc' := 141) (x := (s350 164 5)) hX dX12_pane_138 rfl zf_X12_369 (by decide) zc_164 zs_46 (fun q hq => by cases hq; rfl) rfl rfl rfl ?_
                  generalize hs524 : zset s350 164 7 (s350 164 5) = s523
                  have hI525 : zInv s523 := hs524 ▸ zp_46_7 hI351 zc_164 ⟨by omega, by omega⟩
                  have hF526 : zOn zQr σ s523 := hs524 ▸ zOn_set hF352 rfl
                  have e527 : s523 164 2 = s350 164 2 := by rw [← hs524]; exact zset_j (by decide)
                  have e528 : s523 164 3 = s350 164 3 := by rw [← hs524]; exact zset_j (by decide)
                  have e529 : s523 164 4 = s350 164 4 := by rw [← hs524]; exact zset_j (by decide)
                  have e530 : s523 164 5 = s350 164 5 := by rw [← hs524]; exact zset_j (by decide)
                  have e531 : s523 164 6 = s350 164 6 := by rw [← hs524]; exact zset_j (by decide)
                  have e532 : s523 164 48 = s350 164 48 := by rw [← hs524]; exact zset_j (by decide)
                  have e533 : s523 164 49 = s350 164 49 := by rw [← hs524]; exact zset_j (by decide)
                  have e534 : s523 194 0 = s350 194 0 := by rw [← hs524]; exact zset_k (zne_r zc_194 zc_164 (by decide))
                  have e535 : s523 194 1 = s350 194 1 := by rw [← hs524]; exact zset_k (zne_r zc_194 zc_164 (by decide))
                  have e536 : s523 195 0 = s350 195 0 := by rw [← hs524]; exact zset_k (zne_r zc_195 zc_164 (by decide))
                  have e537 : s523 200 0 = s350 200 0 := by rw [← hs524]; exact zset_k (zne_r zc_200 zc_164 (by decide))
                  have e538 : s523 200 1 = s350 200 1 := by rw [← hs524]; exact zset_k (zne_r zc_200 zc_164 (by decide))
                  have e539 : s523 199 0 = s350 199 0 := by rw [← hs524]; exact zset_k (zne_r zc_199 zc_164 (by decide))
                  have e540 : s523 199 1 = s350 199 1 := by rw [← hs524]; exact zset_k (zne_r zc_199 zc_164 (by decide))
                  have e541 : s523 199 2 = s350 199 2 := by rw [← hs524]; exact zset_k (zne_r zc_199 zc_164 (by decide))
                  have hT542 := yTq_rk hT354 (yRq_j hs524 (by decide))
                  have hE543 : yqs f s523 = p353 := (yqs_rk (yRq_j hs524 (by decide))).trans hE355
                  refine zt_aload_n (pc' := 142) hX dX12_pane_141 rfl rfl ?_
                  refine zt_aload_n (pc' := 143) hX dX12_pane_142 rfl rfl ?_
                  have b544 := zv_46_6 hI525 zc_164
                  refine zt_get (pc' := 146) (v := .int (zI (s523 164 6))) hX dX12_pane_143 rfl zf_X12_249 (by decide) zc_164 zs_46 rfl ?_
                  refine zt_put (pc' := 149) (x := (s523 164 6)) hX dX12_pane_146 rfl zf_X12_13 (by decide) zc_164 zs_46 (fun q hq => by cases hq; rfl) rfl rfl rfl ?_
                  generalize hs546 : zset s523 164 8 (s523 164 6) = s545
                  have hI547 : zInv s545 := hs546 ▸ zp_46_8 hI525 zc_164 ⟨by omega, by omega⟩
                  have hF548 : zOn zQr σ s545 := hs546 ▸ zOn_set hF526 rfl
                  have e549 : s545 164 2 = s523 164 2 := by rw [← hs546]; exact zset_j (by decide)
                  have e550 : s545 164 3 = s523 164 3 := by rw [← hs546]; exact zset_j (by decide)
                  have e551 : s545 164 4 = s523 164 4 := by rw [← hs546]; exact zset_j (by decide)
                  have e552 : s545 164 5 = s523 164 5 := by rw [← hs546]; exact zset_j (by decide)
                  have e553 : s545 164 6 = s523 164 6 := by rw [← hs546]; exact zset_j (by decide)
                  have e554 : s545 164 48 = s523 164 48 := by rw [← hs546]; exact zset_j (by decide)
                  have e555 : s545 164 49 = s523 164 49 := by rw [← hs546]; exact zset_j (by decide)
                  have e556 : s545 194 0 = s523 194 0 := by rw [← hs546]; exact zset_k (zne_r zc_194 zc_164 (by decide))
                  have e557 : s545 194 1 = s523 194 1 := by rw [← hs546]; exact zset_k (zne_r zc_194 zc_164 (by decide))
                  have e558 : s545 195 0 = s523 195 0 := by rw [← hs546]; exact zset_k (zne_r zc_195 zc_164 (by decide))
                  have e559 : s545 200 0 = s523 200 0 := by rw [← hs546]; exact zset_k (zne_r zc_200 zc_164 (by decide))
                  have e560 : s545 200 1 = s523 200 1 := by rw [← hs546]; exact zset_k (zne_r zc_200 zc_164 (by decide))
                  have e561 : s545 199 0 = s523 199 0 := by rw [← hs546]; exact zset_k (zne_r zc_199 zc_164 (by decide))
                  have e562 : s545 199 1 = s523 199 1 := by rw [← hs546]; exact zset_k (zne_r zc_199 zc_164 (by decide))
                  have e563 : s545 199 2 = s523 199 2 := by rw [← hs546]; exact zset_k (zne_r zc_199 zc_164 (by decide))
                  have hT564 := yTq_rk hT542 (yRq_j hs546 (by decide))
                  have hE565 : yqs f s545 = p353 := (yqs_rk (yRq_j hs546 (by decide))).trans hE543
                  refine zt_aload_n (pc' := 150) hX dX12_pane_149 rfl rfl ?_
                  have b566 := zv_46_5 hI547 zc_164
                  refine zt_get (pc' := 153) (v := .int (zI (s545 164 5))) hX dX12_pane_150 rfl zf_X12_246 (by decide) zc_164 zs_46 rfl ?_
                  refine zt_ifeq (pc' := 156) (tgt := 168) hX dX12_pane_153 rfl (by decide) ⟨by omega, by omega⟩ (fun c567 => ?_) (fun c567 => ?_)
                  · exact absurd c567 (by omega)
                  · refine zt_aload_n (pc' := 157) hX dX12_pane_156 rfl rfl ?_
                    refine zt_get (pc' := 160) (v := .ref (X.1.1 + 166)) hX dX12_pane_157 rfl zf_X12_17 (by decide) zc_164 zs_46 (zrf_of (zv_46_9 hI547 zc_164)) ?_
                    refine zt_iconst (pc' := 161) hX dX12_pane_160 rfl ?_
                    refine zt_dup2 (pc' := 162) hX dX12_pane_161 rfl rfl rfl ?_
                    refine zt_iald (pc' := 163) hX dX12_pane_162 rfl (by decide) zc_166 zs_48 (by decide) ⟨by omega, by omega⟩ ?_
                    rw [show Int.toNat 1 = 1 from rfl]
                    have b569 := zv_48 hI547 zc_166 1
                    have e570 : s545 166 1 = s523 166 1 := by rw [← hs546]; exact zset_k (zne_r zc_166 zc_164 (by decide))
                    have e571 : s523 166 1 = s350 166 1 := by rw [← hs524]; exact zset_k (zne_r zc_166 zc_164 (by decide))
                    refine zt_iconst (pc' := 164) hX dX12_pane_163 rfl ?_
                    refine zt_iadd (pc' := 165) hX dX12_pane_164 rfl ?_
                    refine zt_wrap (fun r572 zr572 lr572 ur572 => ?_)
                    clear zr572
                    refine zt_iast (pc' := 166) hX dX12_pane_165 rfl (by decide) zc_166 zs_48 (by decide) ⟨by omega, by omega⟩ ?_
                    rw [show Int.toNat 1 = 1 from rfl]
                    generalize hs574 : zset s545 166 1 r572 = s573
                    have hI575 : zInv s573 := hs574 ▸ zp_48 hI547 zc_166 1 ⟨by omega, by omega⟩
                    have hF576 : zOn zQr σ s573 := hs574 ▸ zOn_set hF548 rfl
                    have hT577 := yTq_rk hT564 (yRq_set hs574 zc_166 (by decide))
                    have hE578 : yqs f s573 = p353 := (yqs_rk (yRq_set hs574 zc_166 (by decide))).trans hE565
                    have e579 : s573 164 2 = s545 164 2 := by rw [← hs574]; exact zset_k (zne_r zc_164 zc_166 (by decide))
                    have e580 : s573 164 3 = s545 164 3 := by rw [← hs574]; exact zset_k (zne_r zc_164 zc_166 (by decide))
                    have e581 : s573 164 4 = s545 164 4 := by rw [← hs574]; exact zset_k (zne_r zc_164 zc_166 (by decide))
                    have e582 : s573 164 5 = s545 164 5 := by rw [← hs574]; exact zset_k (zne_r zc_164 zc_166 (by decide))
                    have e583 : s573 164 6 = s545 164 6 := by rw [← hs574]; exact zset_k (zne_r zc_164 zc_166 (by decide))
                    have e584 : s573 164 48 = s545 164 48 := by rw [← hs574]; exact zset_k (zne_r zc_164 zc_166 (by decide))
                    have e585 : s573 164 49 = s545 164 49 := by rw [← hs574]; exact zset_k (zne_r zc_164 zc_166 (by decide))
                    have e586 : s573 194 0 = s545 194 0 := by rw [← hs574]; exact zset_k (zne_r zc_194 zc_166 (by decide))
                    have e587 : s573 194 1 = s545 194 1 := by rw [← hs574]; exact zset_k (zne_r zc_194 zc_166 (by decide))
                    have e588 : s573 195 0 = s545 195 0 := by rw [← hs574]; exact zset_k (zne_r zc_195 zc_166 (by decide))
                    have e589 : s573 200 0 = s545 200 0 := by rw [← hs574]; exact zset_k (zne_r zc_200 zc_166 (by decide))
                    have e590 : s573 200 1 = s545 200 1 := by rw [← hs574]; exact zset_k (zne_r zc_200 zc_166 (by decide))
                    have e591 : s573 199 0 = s545 199 0 := by rw [← hs574]; exact zset_k (zne_r zc_199 zc_166 (by decide))
                    have e592 : s573 199 1 = s545 199 1 := by rw [← hs574]; exact zset_k (zne_r zc_199 zc_166 (by decide))
                    have e593 : s573 199 2 = s545 199 2 := by rw [← hs574]; exact zset_k (zne_r zc_199 zc_166 (by decide))
                    refine zt_iconst (pc' := 167) hX dX12_pane_166 rfl ?_
                    exact zt_iret hX hR dX12_pane_167 ⟨by omega, by omega⟩ ⟨hI575, hF576, by omega, by omega, (by rw [← hf, b371.2]; exact ⟨fun o => absurd o (by omega), fun _ => rfl⟩)⟩
                · exact absurd c522 (by omega)
          refine zt_mask [true, false] rfl ?_
          exact L_111_356 _ s329 (yPs f 59 (yPan f (yP.ok (yS f 0)))) hI331 hF332 hT348 hE349 (yLq_0 (by omega) rfl (fun o => by have t := z307 o; exact ⟨yTe_p (by omega) (by omega) (by omega) ((show s329 194 0 = s300 194 0 by omega).trans t.1) ((show s329 194 1 = s300 194 1 by omega).trans t.2.1) ⟨by omega, by omega, by omega, by omega, by omega, by omega⟩, by have := (yQb_q hT348 hE349) o; omega, by omega⟩)) (Nat.lt_succ_self _)
        · refine zt_aload_n (pc' := 54) hX dX12_pane_53 rfl rfl ?_
          refine zt_get (pc' := 57) (v := .ref (X.1.1 + 197)) hX dX12_pane_54 rfl zf_X12_112 (by decide) zc_164 zs_46 (zrf_of (zv_46_42 hI172 zc_164)) ?_
          refine zt_iload_n (pc' := 58) hX dX12_pane_57 rfl rfl ?_
          refine zt_iconst (pc' := 59) hX dX12_pane_58 rfl ?_
          refine zt_iast (pc' := 60) hX dX12_pane_59 rfl (by decide) zc_197 zs_79 (by decide) ⟨by omega, by omega⟩ ?_
          generalize hs595 : zset s171 197 (x168.toNat) 1 = s594
          have hI596 : zInv s594 := hs595 ▸ zp_79 hI172 zc_197 (x168.toNat) ⟨by omega, by omega⟩
          have hF597 : zOn zQr σ s594 := hs595 ▸ zOn_set hF173 rfl
          have hT598 := yTq_rk hT175 (yRq_set hs595 zc_197 (by decide))
          have hE599 : yqs f s594 = (yP.ok (yS f 0)) := (yqs_rk (yRq_set hs595 zc_197 (by decide))).trans hE176
          have e600 : s594 164 2 = s171 164 2 := by rw [← hs595]; exact zset_k (zne_r zc_164 zc_197 (by decide))
          have e601 : s594 164 3 = s171 164 3 := by rw [← hs595]; exact zset_k (zne_r zc_164 zc_197 (by decide))
          have e602 : s594 164 4 = s171 164 4 := by rw [← hs595]; exact zset_k (zne_r zc_164 zc_197 (by decide))
          have e603 : s594 164 5 = s171 164 5 := by rw [← hs595]; exact zset_k (zne_r zc_164 zc_197 (by decide))
          have e604 : s594 164 6 = s171 164 6 := by rw [← hs595]; exact zset_k (zne_r zc_164 zc_197 (by decide))
          have e605 : s594 164 48 = s171 164 48 := by rw [← hs595]; exact zset_k (zne_r zc_164 zc_197 (by decide))
          have e606 : s594 164 49 = s171 164 49 := by rw [← hs595]; exact zset_k (zne_r zc_164 zc_197 (by decide))
          have e607 : s594 194 0 = s171 194 0 := by rw [← hs595]; exact zset_k (zne_r zc_194 zc_197 (by decide))
          have e608 : s594 194 1 = s171 194 1 := by rw [← hs595]; exact zset_k (zne_r zc_194 zc_197 (by decide))
          have e609 : s594 195 0 = s171 195 0 := by rw [← hs595]; exact zset_k (zne_r zc_195 zc_197 (by decide))
          have e610 : s594 200 0 = s171 200 0 := by rw [← hs595]; exact zset_k (zne_r zc_200 zc_197 (by decide))
          have e611 : s594 200 1 = s171 200 1 := by rw [← hs595]; exact zset_k (zne_r zc_200 zc_197 (by decide))
          have e612 : s594 199 0 = s171 199 0 := by rw [← hs595]; exact zset_k (zne_r zc_199 zc_197 (by decide))
          have e613 : s594 199 1 = s171 199 1 := by rw [← hs595]; exact zset_k (zne_r zc_199 zc_197 (by decide))
          have e614 : s594 199 2 = s171 199 2 := by rw [← hs595]; exact zset_k (zne_r zc_199 zc_197 (by decide))
          refine zt_iinc (pc' := 63) (lv' := [some (.ref (X.1.1 + 164)), some (.int (zI (x168 + 1)))]) hX dX12_pane_60 rfl rfl hL (by decide) rfl ?_
          refine zt_goto (tgt := 47) hX dX12_pane_63 (by decide) ?_
          exact ih182 (x168 + 1) s594 (yP.ok (yS f 0)) (by omega) (by omega) hI596 hF597 hT598 hE599 (by omega) (by omega) rfl (by omega)
  exact L_47_179 _ 0 s147 (yP.ok (yS f 0)) (by omega) (by omega) hI149 hF150 hT151 hE152 (by omega) (by omega) rfl (Nat.lt_succ_self _)
