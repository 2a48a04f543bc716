set_option maxRecDepth 100000 in
set_option maxHeartbeats 4000000 in
theorem yc_X12_pane (l : Launch) (E : zEN) (σ : zSto) (hI : zInv σ) (hWd : yWd σ) : zCt l E yX12_pane cX12_pane 2 (some .int) 11 zNC zNC 0 0 σ [.ref (E.1 + 164)] (fun r σ' => zInv σ' ∧ zOn zQr σ σ' ∧ -2147483648 ≤ r ∧ r ≤ 2147483647 ∧ ((yPo (yAll (yW σ)).1 = 1 → r = (yAll (yW σ)).2.2) ∧ (yPo (yAll (yW σ)).1 = 0 → r = -1)) ∧ (yPo (yAll (yW σ)).1 = 1 → yNr σ' (yAll (yW σ)).2.1) ∧ (yPo (yAll (yW σ)).1 = 0 → σ' 194 3 = σ 194 3 ∧ σ' 194 4 = σ 194 4 ∧ σ' 195 1 = σ 195 1 ∧ σ' 164 50 = σ 164 50) ∧ (yFl (yAll (yW σ)).1 (σ' 164 7) (σ' 164 8)) ∧ (yPo (yAll (yW σ)).1 = 1 → yNo σ' (yAll (yW σ)).2.1) ∧ (yPo (yAll (yW σ)).1 = 0 → ∀ i : Nat, 10 ≤ i → σ' 196 i = σ 196 i)) := by
  refine zCt_of2 [some (.ref (E.1 + 164)), none] (by decide +kernel) (Nat.le_of_ble_eq_true rfl) rfl ?_
  intro X hE_ hX hR hL hN
  subst hE_
  have hX : zok X cX12_pane RX12 11 := hX
  have hF := zOn_rf zQr σ
  obtain ⟨f, hf⟩ : ∃ f, f = yW σ := ⟨_, rfl⟩
  have b1 := zv_46_2 hI zc_164
  have b2 := zv_46_3 hI zc_164
  have b3 := zv_46_4 hI zc_164
  have b4 := zv_46_5 hI zc_164
  have b5 := zv_46_6 hI zc_164
  have b6 := zv_46_48 hI zc_164
  have b7 := zv_46_49 hI zc_164
  have b8 := zv_77 hI zc_195 0
  have b9 := zv_82 hI zc_200 0
  have b10 := zv_82 hI zc_200 1
  have b11 := zv_77 hI zc_195 1
  have b12 := zv_46_50 hI zc_164
  have b13 := zv_46_7 hI zc_164
  have b14 := zv_46_8 hI zc_164
  refine zt_aload_n (pc' := 1) hX dX12_pane_0 rfl rfl ?_
  refine zt_aload_n (pc' := 2) hX dX12_pane_1 rfl rfl ?_
  have b15 := zv_46_1 hI zc_164
  refine zt_get (pc' := 5) (v := .int (zI (σ 164 1))) hX dX12_pane_2 rfl zf_X12_243 (by decide) zc_164 zs_46 rfl ?_
  refine zt_put (pc' := 8) (x := (σ 164 1)) hX dX12_pane_5 rfl zf_X12_255 (by decide) zc_164 zs_46 (fun q hq => by cases hq; rfl) rfl rfl rfl ?_
  generalize hs17 : zset σ 164 3 (σ 164 1) = s16
  have hI18 : zInv s16 := hs17 ▸ zp_46_3 hI zc_164 ⟨by omega, by omega⟩
  have hF19 : zOn zQr σ s16 := hs17 ▸ zOn_set hF rfl
  have e20 : s16 164 2 = σ 164 2 := by rw [← hs17]; exact zset_j (by decide)
  have e21 : s16 164 3 = (σ 164 1) := by rw [← hs17]; exact zset_s
  have e22 : s16 164 4 = σ 164 4 := by rw [← hs17]; exact zset_j (by decide)
  have e23 : s16 164 5 = σ 164 5 := by rw [← hs17]; exact zset_j (by decide)
  have e24 : s16 164 6 = σ 164 6 := by rw [← hs17]; exact zset_j (by decide)
  have e25 : s16 164 48 = σ 164 48 := by rw [← hs17]; exact zset_j (by decide)
  have e26 : s16 164 49 = σ 164 49 := by rw [← hs17]; exact zset_j (by decide)
  have e27 : s16 194 0 = σ 194 0 := by rw [← hs17]; exact zset_k (zne_r zc_194 zc_164 (by decide))
  have e28 : s16 194 1 = σ 194 1 := by rw [← hs17]; exact zset_k (zne_r zc_194 zc_164 (by decide))
  have e29 : s16 195 0 = σ 195 0 := by rw [← hs17]; exact zset_k (zne_r zc_195 zc_164 (by decide))
  have e30 : s16 200 0 = σ 200 0 := by rw [← hs17]; exact zset_k (zne_r zc_200 zc_164 (by decide))
  have e31 : s16 200 1 = σ 200 1 := by rw [← hs17]; exact zset_k (zne_r zc_200 zc_164 (by decide))
  have e32 : s16 199 0 = σ 199 0 := by rw [← hs17]; exact zset_k (zne_r zc_199 zc_164 (by decide))
  have e33 : s16 199 1 = σ 199 1 := by rw [← hs17]; exact zset_k (zne_r zc_199 zc_164 (by decide))
  have e34 : s16 199 2 = σ 199 2 := by rw [← hs17]; exact zset_k (zne_r zc_199 zc_164 (by decide))
  have e35 : s16 194 3 = σ 194 3 := by rw [← hs17]; exact zset_k (zne_r zc_194 zc_164 (by decide))
  have e36 : s16 194 4 = σ 194 4 := by rw [← hs17]; exact zset_k (zne_r zc_194 zc_164 (by decide))
  have e37 : s16 195 1 = σ 195 1 := by rw [← hs17]; exact zset_k (zne_r zc_195 zc_164 (by decide))
  have e38 : s16 164 50 = σ 164 50 := by rw [← hs17]; exact zset_j (by decide)
  have e39 : s16 164 7 = σ 164 7 := by rw [← hs17]; exact zset_j (by decide)
  have e40 : s16 164 8 = σ 164 8 := by rw [← hs17]; exact zset_j (by decide)
  have nf41 : ∀ i : Nat, 10 ≤ i → s16 196 i = σ 196 i := fun i hi => (show s16 196 i = σ 196 i by rw [← hs17]; exact zset_k (by decide)).trans ((fun _ _ => rfl) i hi)
  refine zt_aload_n (pc' := 9) hX dX12_pane_8 rfl rfl ?_
  refine zt_iconst (pc' := 10) hX dX12_pane_9 rfl ?_
  refine zt_put (pc' := 13) (x := 0) hX dX12_pane_10 rfl zf_X12_243 (by decide) zc_164 zs_46 (fun q hq => by cases hq; rfl) rfl rfl rfl ?_
  generalize hs43 : zset s16 164 1 0 = s42
  have hI44 : zInv s42 := hs43 ▸ zp_46_1 hI18 zc_164 ⟨by omega, by omega⟩
  have hF45 : zOn zQr σ s42 := hs43 ▸ zOn_set hF19 rfl
  have e46 : s42 164 2 = s16 164 2 := by rw [← hs43]; exact zset_j (by decide)
  have e47 : s42 164 3 = s16 164 3 := by rw [← hs43]; exact zset_j (by decide)
  have e48 : s42 164 4 = s16 164 4 := by rw [← hs43]; exact zset_j (by decide)
  have e49 : s42 164 5 = s16 164 5 := by rw [← hs43]; exact zset_j (by decide)
  have e50 : s42 164 6 = s16 164 6 := by rw [← hs43]; exact zset_j (by decide)
  have e51 : s42 164 48 = s16 164 48 := by rw [← hs43]; exact zset_j (by decide)
  have e52 : s42 164 49 = s16 164 49 := by rw [← hs43]; exact zset_j (by decide)
  have e53 : s42 194 0 = s16 194 0 := by rw [← hs43]; exact zset_k (zne_r zc_194 zc_164 (by decide))
  have e54 : s42 194 1 = s16 194 1 := by rw [← hs43]; exact zset_k (zne_r zc_194 zc_164 (by decide))
  have e55 : s42 195 0 = s16 195 0 := by rw [← hs43]; exact zset_k (zne_r zc_195 zc_164 (by decide))
  have e56 : s42 200 0 = s16 200 0 := by rw [← hs43]; exact zset_k (zne_r zc_200 zc_164 (by decide))
  have e57 : s42 200 1 = s16 200 1 := by rw [← hs43]; exact zset_k (zne_r zc_200 zc_164 (by decide))
  have e58 : s42 199 0 = s16 199 0 := by rw [← hs43]; exact zset_k (zne_r zc_199 zc_164 (by decide))
  have e59 : s42 199 1 = s16 199 1 := by rw [← hs43]; exact zset_k (zne_r zc_199 zc_164 (by decide))
  have e60 : s42 199 2 = s16 199 2 := by rw [← hs43]; exact zset_k (zne_r zc_199 zc_164 (by decide))
  have e61 : s42 194 3 = s16 194 3 := by rw [← hs43]; exact zset_k (zne_r zc_194 zc_164 (by decide))
  have e62 : s42 194 4 = s16 194 4 := by rw [← hs43]; exact zset_k (zne_r zc_194 zc_164 (by decide))
  have e63 : s42 195 1 = s16 195 1 := by rw [← hs43]; exact zset_k (zne_r zc_195 zc_164 (by decide))
  have e64 : s42 164 50 = s16 164 50 := by rw [← hs43]; exact zset_j (by decide)
  have e65 : s42 164 7 = s16 164 7 := by rw [← hs43]; exact zset_j (by decide)
  have e66 : s42 164 8 = s16 164 8 := by rw [← hs43]; exact zset_j (by decide)
  have nf67 : ∀ i : Nat, 10 ≤ i → s42 196 i = σ 196 i := fun i hi => (show s42 196 i = s16 196 i by rw [← hs43]; exact zset_k (by decide)).trans (nf41 i hi)
  refine zt_aload_n (pc' := 14) hX dX12_pane_13 rfl rfl ?_
  refine zt_iconst (pc' := 15) hX dX12_pane_14 rfl ?_
  refine zt_put (pc' := 18) (x := 0) hX dX12_pane_15 rfl zf_X12_252 (by decide) zc_164 zs_46 (fun q hq => by cases hq; rfl) rfl rfl rfl ?_
  generalize hs69 : zset s42 164 2 0 = s68
  have hI70 : zInv s68 := hs69 ▸ zp_46_2 hI44 zc_164 ⟨by omega, by omega⟩
  have hF71 : zOn zQr σ s68 := hs69 ▸ zOn_set hF45 rfl
  have e72 : s68 164 2 = 0 := by rw [← hs69]; exact zset_s
  have e73 : s68 164 3 = s42 164 3 := by rw [← hs69]; exact zset_j (by decide)
  have e74 : s68 164 4 = s42 164 4 := by rw [← hs69]; exact zset_j (by decide)
  have e75 : s68 164 5 = s42 164 5 := by rw [← hs69]; exact zset_j (by decide)
  have e76 : s68 164 6 = s42 164 6 := by rw [← hs69]; exact zset_j (by decide)
  have e77 : s68 164 48 = s42 164 48 := by rw [← hs69]; exact zset_j (by decide)
  have e78 : s68 164 49 = s42 164 49 := by rw [← hs69]; exact zset_j (by decide)
  have e79 : s68 194 0 = s42 194 0 := by rw [← hs69]; exact zset_k (zne_r zc_194 zc_164 (by decide))
  have e80 : s68 194 1 = s42 194 1 := by rw [← hs69]; exact zset_k (zne_r zc_194 zc_164 (by decide))
  have e81 : s68 195 0 = s42 195 0 := by rw [← hs69]; exact zset_k (zne_r zc_195 zc_164 (by decide))
  have e82 : s68 200 0 = s42 200 0 := by rw [← hs69]; exact zset_k (zne_r zc_200 zc_164 (by decide))
  have e83 : s68 200 1 = s42 200 1 := by rw [← hs69]; exact zset_k (zne_r zc_200 zc_164 (by decide))
  have e84 : s68 199 0 = s42 199 0 := by rw [← hs69]; exact zset_k (zne_r zc_199 zc_164 (by decide))
  have e85 : s68 199 1 = s42 199 1 := by rw [← hs69]; exact zset_k (zne_r zc_199 zc_164 (by decide))
  have e86 : s68 199 2 = s42 199 2 := by rw [← hs69]; exact zset_k (zne_r zc_199 zc_164 (by decide))
  have e87 : s68 194 3 = s42 194 3 := by rw [← hs69]; exact zset_k (zne_r zc_194 zc_164 (by decide))
  have e88 : s68 194 4 = s42 194 4 := by rw [← hs69]; exact zset_k (zne_r zc_194 zc_164 (by decide))
  have e89 : s68 195 1 = s42 195 1 := by rw [← hs69]; exact zset_k (zne_r zc_195 zc_164 (by decide))
  have e90 : s68 164 50 = s42 164 50 := by rw [← hs69]; exact zset_j (by decide)
  have e91 : s68 164 7 = s42 164 7 := by rw [← hs69]; exact zset_j (by decide)
  have e92 : s68 164 8 = s42 164 8 := by rw [← hs69]; exact zset_j (by decide)
  have nf93 : ∀ i : Nat, 10 ≤ i → s68 196 i = σ 196 i := fun i hi => (show s68 196 i = s42 196 i by rw [← hs69]; exact zset_k (by decide)).trans (nf67 i hi)
  refine zt_aload_n (pc' := 19) hX dX12_pane_18 rfl rfl ?_
  refine zt_iconst (pc' := 20) hX dX12_pane_19 rfl ?_
  refine zt_put (pc' := 23) (x := (-1)) hX dX12_pane_20 rfl zf_X12_266 (by decide) zc_164 zs_46 (fun q hq => by cases hq; rfl) rfl rfl rfl ?_
  generalize hs95 : zset s68 164 4 (-1) = s94
  have hI96 : zInv s94 := hs95 ▸ zp_46_4 hI70 zc_164 ⟨by omega, by omega⟩
  have hF97 : zOn zQr σ s94 := hs95 ▸ zOn_set hF71 rfl
  have e98 : s94 164 2 = s68 164 2 := by rw [← hs95]; exact zset_j (by decide)
  have e99 : s94 164 3 = s68 164 3 := by rw [← hs95]; exact zset_j (by decide)
  have e100 : s94 164 4 = (-1) := by rw [← hs95]; exact zset_s
  have e101 : s94 164 5 = s68 164 5 := by rw [← hs95]; exact zset_j (by decide)
  have e102 : s94 164 6 = s68 164 6 := by rw [← hs95]; exact zset_j (by decide)
  have e103 : s94 164 48 = s68 164 48 := by rw [← hs95]; exact zset_j (by decide)
  have e104 : s94 164 49 = s68 164 49 := by rw [← hs95]; exact zset_j (by decide)
  have e105 : s94 194 0 = s68 194 0 := by rw [← hs95]; exact zset_k (zne_r zc_194 zc_164 (by decide))
  have e106 : s94 194 1 = s68 194 1 := by rw [← hs95]; exact zset_k (zne_r zc_194 zc_164 (by decide))
  have e107 : s94 195 0 = s68 195 0 := by rw [← hs95]; exact zset_k (zne_r zc_195 zc_164 (by decide))
  have e108 : s94 200 0 = s68 200 0 := by rw [← hs95]; exact zset_k (zne_r zc_200 zc_164 (by decide))
  have e109 : s94 200 1 = s68 200 1 := by rw [← hs95]; exact zset_k (zne_r zc_200 zc_164 (by decide))
  have e110 : s94 199 0 = s68 199 0 := by rw [← hs95]; exact zset_k (zne_r zc_199 zc_164 (by decide))
  have e111 : s94 199 1 = s68 199 1 := by rw [← hs95]; exact zset_k (zne_r zc_199 zc_164 (by decide))
  have e112 : s94 199 2 = s68 199 2 := by rw [← hs95]; exact zset_k (zne_r zc_199 zc_164 (by decide))
  have e113 : s94 194 3 = s68 194 3 := by rw [← hs95]; exact zset_k (zne_r zc_194 zc_164 (by decide))
  have e114 : s94 194 4 = s68 194 4 := by rw [← hs95]; exact zset_k (zne_r zc_194 zc_164 (by decide))
  have e115 : s94 195 1 = s68 195 1 := by rw [← hs95]; exact zset_k (zne_r zc_195 zc_164 (by decide))
  have e116 : s94 164 50 = s68 164 50 := by rw [← hs95]; exact zset_j (by decide)
  have e117 : s94 164 7 = s68 164 7 := by rw [← hs95]; exact zset_j (by decide)
  have e118 : s94 164 8 = s68 164 8 := by rw [← hs95]; exact zset_j (by decide)
  have nf119 : ∀ i : Nat, 10 ≤ i → s94 196 i = σ 196 i := fun i hi => (show s94 196 i = s68 196 i by rw [← hs95]; exact zset_k (by decide)).trans (nf93 i hi)
  refine zt_aload_n (pc' := 24) hX dX12_pane_23 rfl rfl ?_
  refine zt_iconst (pc' := 25) hX dX12_pane_24 rfl ?_
  refine zt_put (pc' := 28) (x := 0) hX dX12_pane_25 rfl zf_X12_246 (by decide) zc_164 zs_46 (fun q hq => by cases hq; rfl) rfl rfl rfl ?_
  generalize hs121 : zset s94 164 5 0 = s120
  have hI122 : zInv s120 := hs121 ▸ zp_46_5 hI96 zc_164 ⟨by omega, by omega⟩
  have hF123 : zOn zQr σ s120 := hs121 ▸ zOn_set hF97 rfl
  have e124 : s120 164 2 = s94 164 2 := by rw [← hs121]; exact zset_j (by decide)
  have e125 : s120 164 3 = s94 164 3 := by rw [← hs121]; exact zset_j (by decide)
  have e126 : s120 164 4 = s94 164 4 := by rw [← hs121]; exact zset_j (by decide)
  have e127 : s120 164 5 = 0 := by rw [← hs121]; exact zset_s
  have e128 : s120 164 6 = s94 164 6 := by rw [← hs121]; exact zset_j (by decide)
  have e129 : s120 164 48 = s94 164 48 := by rw [← hs121]; exact zset_j (by decide)
  have e130 : s120 164 49 = s94 164 49 := by rw [← hs121]; exact zset_j (by decide)
  have e131 : s120 194 0 = s94 194 0 := by rw [← hs121]; exact zset_k (zne_r zc_194 zc_164 (by decide))
  have e132 : s120 194 1 = s94 194 1 := by rw [← hs121]; exact zset_k (zne_r zc_194 zc_164 (by decide))
  have e133 : s120 195 0 = s94 195 0 := by rw [← hs121]; exact zset_k (zne_r zc_195 zc_164 (by decide))
  have e134 : s120 200 0 = s94 200 0 := by rw [← hs121]; exact zset_k (zne_r zc_200 zc_164 (by decide))
  have e135 : s120 200 1 = s94 200 1 := by rw [← hs121]; exact zset_k (zne_r zc_200 zc_164 (by decide))
  have e136 : s120 199 0 = s94 199 0 := by rw [← hs121]; exact zset_k (zne_r zc_199 zc_164 (by decide))
  have e137 : s120 199 1 = s94 199 1 := by rw [← hs121]; exact zset_k (zne_r zc_199 zc_164 (by decide))
  have e138 : s120 199 2 = s94 199 2 := by rw [← hs121]; exact zset_k (zne_r zc_199 zc_164 (by decide))
  have e139 : s120 194 3 = s94 194 3 := by rw [← hs121]; exact zset_k (zne_r zc_194 zc_164 (by decide))
  have e140 : s120 194 4 = s94 194 4 := by rw [← hs121]; exact zset_k (zne_r zc_194 zc_164 (by decide))
  have e141 : s120 195 1 = s94 195 1 := by rw [← hs121]; exact zset_k (zne_r zc_195 zc_164 (by decide))
  have e142 : s120 164 50 = s94 164 50 := by rw [← hs121]; exact zset_j (by decide)
  have e143 : s120 164 7 = s94 164 7 := by rw [← hs121]; exact zset_j (by decide)
  have e144 : s120 164 8 = s94 164 8 := by rw [← hs121]; exact zset_j (by decide)
  have nf145 : ∀ i : Nat, 10 ≤ i → s120 196 i = σ 196 i := fun i hi => (show s120 196 i = s94 196 i by rw [← hs121]; exact zset_k (by decide)).trans (nf119 i hi)
  refine zt_aload_n (pc' := 29) hX dX12_pane_28 rfl rfl ?_
  refine zt_iconst (pc' := 30) hX dX12_pane_29 rfl ?_
  refine zt_put (pc' := 33) (x := (-1)) hX dX12_pane_30 rfl zf_X12_249 (by decide) zc_164 zs_46 (fun q hq => by cases hq; rfl) rfl rfl rfl ?_
  generalize hs147 : zset s120 164 6 (-1) = s146
  have hI148 : zInv s146 := hs147 ▸ zp_46_6 hI122 zc_164 ⟨by omega, by omega⟩
  have hF149 : zOn zQr σ s146 := hs147 ▸ zOn_set hF123 rfl
  have e150 : s146 164 2 = s120 164 2 := by rw [← hs147]; exact zset_j (by decide)
  have e151 : s146 164 3 = s120 164 3 := by rw [← hs147]; exact zset_j (by decide)
  have e152 : s146 164 4 = s120 164 4 := by rw [← hs147]; exact zset_j (by decide)
  have e153 : s146 164 5 = s120 164 5 := by rw [← hs147]; exact zset_j (by decide)
  have e154 : s146 164 6 = (-1) := by rw [← hs147]; exact zset_s
  have e155 : s146 164 48 = s120 164 48 := by rw [← hs147]; exact zset_j (by decide)
  have e156 : s146 164 49 = s120 164 49 := by rw [← hs147]; exact zset_j (by decide)
  have e157 : s146 194 0 = s120 194 0 := by rw [← hs147]; exact zset_k (zne_r zc_194 zc_164 (by decide))
  have e158 : s146 194 1 = s120 194 1 := by rw [← hs147]; exact zset_k (zne_r zc_194 zc_164 (by decide))
  have e159 : s146 195 0 = s120 195 0 := by rw [← hs147]; exact zset_k (zne_r zc_195 zc_164 (by decide))
  have e160 : s146 200 0 = s120 200 0 := by rw [← hs147]; exact zset_k (zne_r zc_200 zc_164 (by decide))
  have e161 : s146 200 1 = s120 200 1 := by rw [← hs147]; exact zset_k (zne_r zc_200 zc_164 (by decide))
  have e162 : s146 199 0 = s120 199 0 := by rw [← hs147]; exact zset_k (zne_r zc_199 zc_164 (by decide))
  have e163 : s146 199 1 = s120 199 1 := by rw [← hs147]; exact zset_k (zne_r zc_199 zc_164 (by decide))
  have e164 : s146 199 2 = s120 199 2 := by rw [← hs147]; exact zset_k (zne_r zc_199 zc_164 (by decide))
  have e165 : s146 194 3 = s120 194 3 := by rw [← hs147]; exact zset_k (zne_r zc_194 zc_164 (by decide))
  have e166 : s146 194 4 = s120 194 4 := by rw [← hs147]; exact zset_k (zne_r zc_194 zc_164 (by decide))
  have e167 : s146 195 1 = s120 195 1 := by rw [← hs147]; exact zset_k (zne_r zc_195 zc_164 (by decide))
  have e168 : s146 164 50 = s120 164 50 := by rw [← hs147]; exact zset_j (by decide)
  have e169 : s146 164 7 = s120 164 7 := by rw [← hs147]; exact zset_j (by decide)
  have e170 : s146 164 8 = s120 164 8 := by rw [← hs147]; exact zset_j (by decide)
  have nf171 : ∀ i : Nat, 10 ≤ i → s146 196 i = σ 196 i := fun i hi => (show s146 196 i = s120 196 i by rw [← hs147]; exact zset_k (by decide)).trans (nf145 i hi)
  have hQ := yQ0 (σ := σ) (s := s146) hI (by omega) (by omega) (by omega) (by omega) (by omega) (fun j => hF149 165 j rfl)
  rw [← hf] at hQ
  refine zt_aload_n (pc' := 34) hX dX12_pane_33 rfl rfl ?_
  refine zt_iconst (pc' := 35) hX dX12_pane_34 rfl ?_
  refine zt_put (pc' := 38) (x := 0) hX dX12_pane_35 rfl zf_X12_348 (by decide) zc_164 zs_46 (fun q hq => by cases hq; rfl) rfl rfl rfl ?_
  generalize hs173 : zset s146 164 48 0 = s172
  have hI174 : zInv s172 := hs173 ▸ zp_46_48 hI148 zc_164 ⟨by omega, by omega⟩
  have hF175 : zOn zQr σ s172 := hs173 ▸ zOn_set hF149 rfl
  have e176 : s172 164 2 = s146 164 2 := by rw [← hs173]; exact zset_j (by decide)
  have e177 : s172 164 3 = s146 164 3 := by rw [← hs173]; exact zset_j (by decide)
  have e178 : s172 164 4 = s146 164 4 := by rw [← hs173]; exact zset_j (by decide)
  have e179 : s172 164 5 = s146 164 5 := by rw [← hs173]; exact zset_j (by decide)
  have e180 : s172 164 6 = s146 164 6 := by rw [← hs173]; exact zset_j (by decide)
  have e181 : s172 164 48 = 0 := by rw [← hs173]; exact zset_s
  have e182 : s172 164 49 = s146 164 49 := by rw [← hs173]; exact zset_j (by decide)
  have e183 : s172 194 0 = s146 194 0 := by rw [← hs173]; exact zset_k (zne_r zc_194 zc_164 (by decide))
  have e184 : s172 194 1 = s146 194 1 := by rw [← hs173]; exact zset_k (zne_r zc_194 zc_164 (by decide))
  have e185 : s172 195 0 = s146 195 0 := by rw [← hs173]; exact zset_k (zne_r zc_195 zc_164 (by decide))
  have e186 : s172 200 0 = s146 200 0 := by rw [← hs173]; exact zset_k (zne_r zc_200 zc_164 (by decide))
  have e187 : s172 200 1 = s146 200 1 := by rw [← hs173]; exact zset_k (zne_r zc_200 zc_164 (by decide))
  have e188 : s172 199 0 = s146 199 0 := by rw [← hs173]; exact zset_k (zne_r zc_199 zc_164 (by decide))
  have e189 : s172 199 1 = s146 199 1 := by rw [← hs173]; exact zset_k (zne_r zc_199 zc_164 (by decide))
  have e190 : s172 199 2 = s146 199 2 := by rw [← hs173]; exact zset_k (zne_r zc_199 zc_164 (by decide))
  have e191 : s172 194 3 = s146 194 3 := by rw [← hs173]; exact zset_k (zne_r zc_194 zc_164 (by decide))
  have e192 : s172 194 4 = s146 194 4 := by rw [← hs173]; exact zset_k (zne_r zc_194 zc_164 (by decide))
  have e193 : s172 195 1 = s146 195 1 := by rw [← hs173]; exact zset_k (zne_r zc_195 zc_164 (by decide))
  have e194 : s172 164 50 = s146 164 50 := by rw [← hs173]; exact zset_j (by decide)
  have e195 : s172 164 7 = s146 164 7 := by rw [← hs173]; exact zset_j (by decide)
  have e196 : s172 164 8 = s146 164 8 := by rw [← hs173]; exact zset_j (by decide)
  have hT197 := yTq_rk hQ.1 (yRq_j hs173 (by decide))
  have hE198 : yqs f s172 = (yP.ok (yS f 0)) := (yqs_rk (yRq_j hs173 (by decide))).trans hQ.2
  have nf199 : ∀ i : Nat, 10 ≤ i → s172 196 i = σ 196 i := fun i hi => (show s172 196 i = s146 196 i by rw [← hs173]; exact zset_k (by decide)).trans (nf171 i hi)
  refine zt_aload_n (pc' := 39) hX dX12_pane_38 rfl rfl ?_
  refine zt_get (pc' := 42) (v := .ref (X.1.1 + 195)) hX dX12_pane_39 rfl zf_X12_105 (by decide) zc_164 zs_46 (zrf_of (zv_46_40 hI174 zc_164)) ?_
  refine zt_iconst (pc' := 43) hX dX12_pane_42 rfl ?_
  refine zt_iconst (pc' := 44) hX dX12_pane_43 rfl ?_
  refine zt_iast (pc' := 45) hX dX12_pane_44 rfl (by decide) zc_195 zs_77 (by decide) ⟨by omega, by omega⟩ ?_
  rw [show Int.toNat 0 = 0 from rfl]
  generalize hs201 : zset s172 195 0 0 = s200
  have hI202 : zInv s200 := hs201 ▸ zp_77 hI174 zc_195 0 ⟨by omega, by omega⟩
  have hF203 : zOn zQr σ s200 := hs201 ▸ zOn_set hF175 rfl
  have hT204 := yTq_rk hT197 (yRq_set hs201 zc_195 (by decide))
  have hE205 : yqs f s200 = (yP.ok (yS f 0)) := (yqs_rk (yRq_set hs201 zc_195 (by decide))).trans hE198
  have e206 : s200 164 2 = s172 164 2 := by rw [← hs201]; exact zset_k (zne_r zc_164 zc_195 (by decide))
  have e207 : s200 164 3 = s172 164 3 := by rw [← hs201]; exact zset_k (zne_r zc_164 zc_195 (by decide))
  have e208 : s200 164 4 = s172 164 4 := by rw [← hs201]; exact zset_k (zne_r zc_164 zc_195 (by decide))
  have e209 : s200 164 5 = s172 164 5 := by rw [← hs201]; exact zset_k (zne_r zc_164 zc_195 (by decide))
  have e210 : s200 164 6 = s172 164 6 := by rw [← hs201]; exact zset_k (zne_r zc_164 zc_195 (by decide))
  have e211 : s200 164 48 = s172 164 48 := by rw [← hs201]; exact zset_k (zne_r zc_164 zc_195 (by decide))
  have e212 : s200 164 49 = s172 164 49 := by rw [← hs201]; exact zset_k (zne_r zc_164 zc_195 (by decide))
  have e213 : s200 194 0 = s172 194 0 := by rw [← hs201]; exact zset_k (zne_r zc_194 zc_195 (by decide))
  have e214 : s200 194 1 = s172 194 1 := by rw [← hs201]; exact zset_k (zne_r zc_194 zc_195 (by decide))
  have e215 : s200 195 0 = 0 := by rw [← hs201]; exact zset_s
  have e216 : s200 200 0 = s172 200 0 := by rw [← hs201]; exact zset_k (zne_r zc_200 zc_195 (by decide))
  have e217 : s200 200 1 = s172 200 1 := by rw [← hs201]; exact zset_k (zne_r zc_200 zc_195 (by decide))
  have e218 : s200 199 0 = s172 199 0 := by rw [← hs201]; exact zset_k (zne_r zc_199 zc_195 (by decide))
  have e219 : s200 199 1 = s172 199 1 := by rw [← hs201]; exact zset_k (zne_r zc_199 zc_195 (by decide))
  have e220 : s200 199 2 = s172 199 2 := by rw [← hs201]; exact zset_k (zne_r zc_199 zc_195 (by decide))
  have e221 : s200 194 3 = s172 194 3 := by rw [← hs201]; exact zset_k (zne_r zc_194 zc_195 (by decide))
  have e222 : s200 194 4 = s172 194 4 := by rw [← hs201]; exact zset_k (zne_r zc_194 zc_195 (by decide))
  have e223 : s200 195 1 = s172 195 1 := by rw [← hs201]; exact zset_j (by decide)
  have e224 : s200 164 50 = s172 164 50 := by rw [← hs201]; exact zset_k (zne_r zc_164 zc_195 (by decide))
  have e225 : s200 164 7 = s172 164 7 := by rw [← hs201]; exact zset_k (zne_r zc_164 zc_195 (by decide))
  have e226 : s200 164 8 = s172 164 8 := by rw [← hs201]; exact zset_k (zne_r zc_164 zc_195 (by decide))
  have nf227 : ∀ i : Nat, 10 ≤ i → s200 196 i = σ 196 i := fun i hi => (show s200 196 i = s172 196 i by rw [← hs201]; exact zset_k (by decide)).trans (nf199 i hi)
  refine zt_iconst (pc' := 46) hX dX12_pane_45 rfl ?_
  refine zt_istore_n (pc' := 47) (lv' := [some (.ref (X.1.1 + 164)), some (.int (zI 0))]) hX dX12_pane_46 rfl hL (by decide) rfl ?_
  have L_47_241 : ∀ (N : Nat) (x228 : Int) (s231 : zSto) (p234 : yP), 0 ≤ x228 → x228 ≤ 36 → zInv s231 → zOn zQr σ s231 → yTq f s231 → yqs f s231 = p234 → s231 195 0 = 0 → s231 164 48 = 0 → (s231 194 3 = σ 194 3 ∧ s231 194 4 = σ 194 4 ∧ s231 195 1 = σ 195 1 ∧ s231 164 50 = σ 164 50) → p234 = yP.ok (yS f 0) → (∀ i : Nat, 10 ≤ i → s231 196 i = σ 196 i) → ((37 - x228).toNat) < N → zF X s231 47 [some (.ref (X.1.1 + 164)), some (.int (zI x228))] [] := by
    intro N
    induction N with
    | zero =>
      intro x228 s231 p234 h229 h230 hI232 hF233 hT235 hE236 g237 g238 g239 g240 g241 hm243
      exact absurd hm243 (Nat.not_lt_zero _)
    | succ N ih244 =>
      intro x228 s231 p234 h229 h230 hI232 hF233 hT235 hE236 g237 g238 g239 g240 g241 hm243
      have b245 := zv_46_2 hI232 zc_164
      have b246 := zv_46_3 hI232 zc_164
      have b247 := zv_46_4 hI232 zc_164
      have b248 := zv_46_5 hI232 zc_164
      have b249 := zv_46_6 hI232 zc_164
      have b250 := zv_46_48 hI232 zc_164
      have b251 := zv_46_49 hI232 zc_164
      have b252 := zv_77 hI232 zc_195 0
      have b253 := zv_82 hI232 zc_200 0
      have b254 := zv_82 hI232 zc_200 1
      have b255 := zv_77 hI232 zc_195 1
      have b256 := zv_46_50 hI232 zc_164
      have b257 := zv_46_7 hI232 zc_164
      have b258 := zv_46_8 hI232 zc_164
      subst g240
      · refine zt_iload_n (pc' := 48) hX dX12_pane_47 rfl rfl ?_
        refine zt_bipush (pc' := 50) hX dX12_pane_48 rfl (by decide) (by decide) ?_
        refine zt_icge (pc' := 53) (tgt := 66) hX dX12_pane_50 rfl (by decide) ⟨by omega, by omega⟩ ⟨by omega, by omega⟩ (fun c259 => ?_) (fun c259 => ?_)
        · refine zt_aload_n (pc' := 67) hX dX12_pane_66 rfl rfl ?_
          refine zt_get (pc' := 70) (v := .ref (X.1.1 + 200)) hX dX12_pane_67 rfl zf_X12_121 (by decide) zc_164 zs_46 (zrf_of (zv_46_45 hI232 zc_164)) ?_
          refine zt_iconst (pc' := 71) hX dX12_pane_70 rfl ?_
          refine zt_iconst (pc' := 72) hX dX12_pane_71 rfl ?_
          refine zt_iast (pc' := 73) hX dX12_pane_72 rfl (by decide) zc_200 zs_82 (by decide) ⟨by omega, by omega⟩ ?_
          rw [show Int.toNat 0 = 0 from rfl]
          generalize hs261 : zset s231 200 0 (-1) = s260
          have hI262 : zInv s260 := hs261 ▸ zp_82 hI232 zc_200 0 ⟨by omega, by omega⟩
          have hF263 : zOn zQr σ s260 := hs261 ▸ zOn_set hF233 rfl
          have hT264 := yTq_rk hT235 (yRq_set hs261 zc_200 (by decide))
          have hE265 : yqs f s260 = (yP.ok (yS f 0)) := (yqs_rk (yRq_set hs261 zc_200 (by decide))).trans hE236
          have e266 : s260 164 2 = s231 164 2 := by rw [← hs261]; exact zset_k (zne_r zc_164 zc_200 (by decide))
          have e267 : s260 164 3 = s231 164 3 := by rw [← hs261]; exact zset_k (zne_r zc_164 zc_200 (by decide))
          have e268 : s260 164 4 = s231 164 4 := by rw [← hs261]; exact zset_k (zne_r zc_164 zc_200 (by decide))
          have e269 : s260 164 5 = s231 164 5 := by rw [← hs261]; exact zset_k (zne_r zc_164 zc_200 (by decide))
          have e270 : s260 164 6 = s231 164 6 := by rw [← hs261]; exact zset_k (zne_r zc_164 zc_200 (by decide))
          have e271 : s260 164 48 = s231 164 48 := by rw [← hs261]; exact zset_k (zne_r zc_164 zc_200 (by decide))
          have e272 : s260 164 49 = s231 164 49 := by rw [← hs261]; exact zset_k (zne_r zc_164 zc_200 (by decide))
          have e273 : s260 194 0 = s231 194 0 := by rw [← hs261]; exact zset_k (zne_r zc_194 zc_200 (by decide))
          have e274 : s260 194 1 = s231 194 1 := by rw [← hs261]; exact zset_k (zne_r zc_194 zc_200 (by decide))
          have e275 : s260 195 0 = s231 195 0 := by rw [← hs261]; exact zset_k (zne_r zc_195 zc_200 (by decide))
          have e276 : s260 200 0 = (-1) := by rw [← hs261]; exact zset_s
          have e277 : s260 200 1 = s231 200 1 := by rw [← hs261]; exact zset_j (by decide)
          have e278 : s260 199 0 = s231 199 0 := by rw [← hs261]; exact zset_k (zne_r zc_199 zc_200 (by decide))
          have e279 : s260 199 1 = s231 199 1 := by rw [← hs261]; exact zset_k (zne_r zc_199 zc_200 (by decide))
          have e280 : s260 199 2 = s231 199 2 := by rw [← hs261]; exact zset_k (zne_r zc_199 zc_200 (by decide))
          have e281 : s260 194 3 = s231 194 3 := by rw [← hs261]; exact zset_k (zne_r zc_194 zc_200 (by decide))
          have e282 : s260 194 4 = s231 194 4 := by rw [← hs261]; exact zset_k (zne_r zc_194 zc_200 (by decide))
          have e283 : s260 195 1 = s231 195 1 := by rw [← hs261]; exact zset_k (zne_r zc_195 zc_200 (by decide))
          have e284 : s260 164 50 = s231 164 50 := by rw [← hs261]; exact zset_k (zne_r zc_164 zc_200 (by decide))
          have e285 : s260 164 7 = s231 164 7 := by rw [← hs261]; exact zset_k (zne_r zc_164 zc_200 (by decide))
          have e286 : s260 164 8 = s231 164 8 := by rw [← hs261]; exact zset_k (zne_r zc_164 zc_200 (by decide))
          have nf287 : ∀ i : Nat, 10 ≤ i → s260 196 i = σ 196 i := fun i hi => (show s260 196 i = s231 196 i by rw [← hs261]; exact zset_k (by decide)).trans (g241 i hi)
          refine zt_aload_n (pc' := 74) hX dX12_pane_73 rfl rfl ?_
          refine zt_get (pc' := 77) (v := .ref (X.1.1 + 200)) hX dX12_pane_74 rfl zf_X12_121 (by decide) zc_164 zs_46 (zrf_of (zv_46_45 hI262 zc_164)) ?_
          refine zt_iconst (pc' := 78) hX dX12_pane_77 rfl ?_
          refine zt_iconst (pc' := 79) hX dX12_pane_78 rfl ?_
          refine zt_iast (pc' := 80) hX dX12_pane_79 rfl (by decide) zc_200 zs_82 (by decide) ⟨by omega, by omega⟩ ?_
          rw [show Int.toNat 1 = 1 from rfl]
          generalize hs289 : zset s260 200 1 (-1) = s288
          have hI290 : zInv s288 := hs289 ▸ zp_82 hI262 zc_200 1 ⟨by omega, by omega⟩
          have hF291 : zOn zQr σ s288 := hs289 ▸ zOn_set hF263 rfl
          have hT292 := yTq_rk hT264 (yRq_set hs289 zc_200 (by decide))
          have hE293 : yqs f s288 = (yP.ok (yS f 0)) := (yqs_rk (yRq_set hs289 zc_200 (by decide))).trans hE265
          have e294 : s288 164 2 = s260 164 2 := by rw [← hs289]; exact zset_k (zne_r zc_164 zc_200 (by decide))
          have e295 : s288 164 3 = s260 164 3 := by rw [← hs289]; exact zset_k (zne_r zc_164 zc_200 (by decide))
          have e296 : s288 164 4 = s260 164 4 := by rw [← hs289]; exact zset_k (zne_r zc_164 zc_200 (by decide))
          have e297 : s288 164 5 = s260 164 5 := by rw [← hs289]; exact zset_k (zne_r zc_164 zc_200 (by decide))
          have e298 : s288 164 6 = s260 164 6 := by rw [← hs289]; exact zset_k (zne_r zc_164 zc_200 (by decide))
          have e299 : s288 164 48 = s260 164 48 := by rw [← hs289]; exact zset_k (zne_r zc_164 zc_200 (by decide))
          have e300 : s288 164 49 = s260 164 49 := by rw [← hs289]; exact zset_k (zne_r zc_164 zc_200 (by decide))
          have e301 : s288 194 0 = s260 194 0 := by rw [← hs289]; exact zset_k (zne_r zc_194 zc_200 (by decide))
          have e302 : s288 194 1 = s260 194 1 := by rw [← hs289]; exact zset_k (zne_r zc_194 zc_200 (by decide))
          have e303 : s288 195 0 = s260 195 0 := by rw [← hs289]; exact zset_k (zne_r zc_195 zc_200 (by decide))
          have e304 : s288 200 0 = s260 200 0 := by rw [← hs289]; exact zset_j (by decide)
          have e305 : s288 200 1 = (-1) := by rw [← hs289]; exact zset_s
          have e306 : s288 199 0 = s260 199 0 := by rw [← hs289]; exact zset_k (zne_r zc_199 zc_200 (by decide))
          have e307 : s288 199 1 = s260 199 1 := by rw [← hs289]; exact zset_k (zne_r zc_199 zc_200 (by decide))
          have e308 : s288 199 2 = s260 199 2 := by rw [← hs289]; exact zset_k (zne_r zc_199 zc_200 (by decide))
          have e309 : s288 194 3 = s260 194 3 := by rw [← hs289]; exact zset_k (zne_r zc_194 zc_200 (by decide))
          have e310 : s288 194 4 = s260 194 4 := by rw [← hs289]; exact zset_k (zne_r zc_194 zc_200 (by decide))
          have e311 : s288 195 1 = s260 195 1 := by rw [← hs289]; exact zset_k (zne_r zc_195 zc_200 (by decide))
          have e312 : s288 164 50 = s260 164 50 := by rw [← hs289]; exact zset_k (zne_r zc_164 zc_200 (by decide))
          have e313 : s288 164 7 = s260 164 7 := by rw [← hs289]; exact zset_k (zne_r zc_164 zc_200 (by decide))
          have e314 : s288 164 8 = s260 164 8 := by rw [← hs289]; exact zset_k (zne_r zc_164 zc_200 (by decide))
          have nf315 : ∀ i : Nat, 10 ≤ i → s288 196 i = σ 196 i := fun i hi => (show s288 196 i = s260 196 i by rw [← hs289]; exact zset_k (by decide)).trans (nf287 i hi)
          refine zt_aload_n (pc' := 81) hX dX12_pane_80 rfl rfl ?_
          refine zt_get (pc' := 84) (v := .ref (X.1.1 + 199)) hX dX12_pane_81 rfl zf_X12_118 (by decide) zc_164 zs_46 (zrf_of (zv_46_44 hI290 zc_164)) ?_
          refine zt_iconst (pc' := 85) hX dX12_pane_84 rfl ?_
          refine zt_iconst (pc' := 86) hX dX12_pane_85 rfl ?_
          refine zt_iast (pc' := 87) hX dX12_pane_86 rfl (by decide) zc_199 zs_81 (by decide) ⟨by omega, by omega⟩ ?_
          rw [show Int.toNat 0 = 0 from rfl]
          generalize hs317 : zset s288 199 0 3 = s316
          have hI318 : zInv s316 := hs317 ▸ zp_81 hI290 zc_199 0 (by omega)
          have hF319 : zOn zQr σ s316 := hs317 ▸ zOn_set hF291 rfl
          have hT320 := yTq_rk hT292 (yRq_set hs317 zc_199 (by decide))
          have hE321 : yqs f s316 = (yP.ok (yS f 0)) := (yqs_rk (yRq_set hs317 zc_199 (by decide))).trans hE293
          have e322 : s316 164 2 = s288 164 2 := by rw [← hs317]; exact zset_k (zne_r zc_164 zc_199 (by decide))
          have e323 : s316 164 3 = s288 164 3 := by rw [← hs317]; exact zset_k (zne_r zc_164 zc_199 (by decide))
          have e324 : s316 164 4 = s288 164 4 := by rw [← hs317]; exact zset_k (zne_r zc_164 zc_199 (by decide))
          have e325 : s316 164 5 = s288 164 5 := by rw [← hs317]; exact zset_k (zne_r zc_164 zc_199 (by decide))
          have e326 : s316 164 6 = s288 164 6 := by rw [← hs317]; exact zset_k (zne_r zc_164 zc_199 (by decide))
          have e327 : s316 164 48 = s288 164 48 := by rw [← hs317]; exact zset_k (zne_r zc_164 zc_199 (by decide))
          have e328 : s316 164 49 = s288 164 49 := by rw [← hs317]; exact zset_k (zne_r zc_164 zc_199 (by decide))
          have e329 : s316 194 0 = s288 194 0 := by rw [← hs317]; exact zset_k (zne_r zc_194 zc_199 (by decide))
          have e330 : s316 194 1 = s288 194 1 := by rw [← hs317]; exact zset_k (zne_r zc_194 zc_199 (by decide))
          have e331 : s316 195 0 = s288 195 0 := by rw [← hs317]; exact zset_k (zne_r zc_195 zc_199 (by decide))
          have e332 : s316 200 0 = s288 200 0 := by rw [← hs317]; exact zset_k (zne_r zc_200 zc_199 (by decide))
          have e333 : s316 200 1 = s288 200 1 := by rw [← hs317]; exact zset_k (zne_r zc_200 zc_199 (by decide))
          have e334 : s316 199 0 = 3 := by rw [← hs317]; exact zset_s
          have e335 : s316 199 1 = s288 199 1 := by rw [← hs317]; exact zset_j (by decide)
          have e336 : s316 199 2 = s288 199 2 := by rw [← hs317]; exact zset_j (by decide)
          have e337 : s316 194 3 = s288 194 3 := by rw [← hs317]; exact zset_k (zne_r zc_194 zc_199 (by decide))
          have e338 : s316 194 4 = s288 194 4 := by rw [← hs317]; exact zset_k (zne_r zc_194 zc_199 (by decide))
          have e339 : s316 195 1 = s288 195 1 := by rw [← hs317]; exact zset_k (zne_r zc_195 zc_199 (by decide))
          have e340 : s316 164 50 = s288 164 50 := by rw [← hs317]; exact zset_k (zne_r zc_164 zc_199 (by decide))
          have e341 : s316 164 7 = s288 164 7 := by rw [← hs317]; exact zset_k (zne_r zc_164 zc_199 (by decide))
          have e342 : s316 164 8 = s288 164 8 := by rw [← hs317]; exact zset_k (zne_r zc_164 zc_199 (by decide))
          have nf343 : ∀ i : Nat, 10 ≤ i → s316 196 i = σ 196 i := fun i hi => (show s316 196 i = s288 196 i by rw [← hs317]; exact zset_k (by decide)).trans (nf315 i hi)
          refine zt_aload_n (pc' := 88) hX dX12_pane_87 rfl rfl ?_
          refine zt_get (pc' := 91) (v := .ref (X.1.1 + 199)) hX dX12_pane_88 rfl zf_X12_118 (by decide) zc_164 zs_46 (zrf_of (zv_46_44 hI318 zc_164)) ?_
          refine zt_iconst (pc' := 92) hX dX12_pane_91 rfl ?_
          refine zt_bipush (pc' := 94) hX dX12_pane_92 rfl (by decide) (by decide) ?_
          refine zt_iast (pc' := 95) hX dX12_pane_94 rfl (by decide) zc_199 zs_81 (by decide) ⟨by omega, by omega⟩ ?_
          rw [show Int.toNat 1 = 1 from rfl]
          generalize hs345 : zset s316 199 1 20 = s344
          have hI346 : zInv s344 := hs345 ▸ zp_81 hI318 zc_199 1 (by omega)
          have hF347 : zOn zQr σ s344 := hs345 ▸ zOn_set hF319 rfl
          have hT348 := yTq_rk hT320 (yRq_set hs345 zc_199 (by decide))
          have hE349 : yqs f s344 = (yP.ok (yS f 0)) := (yqs_rk (yRq_set hs345 zc_199 (by decide))).trans hE321
          have e350 : s344 164 2 = s316 164 2 := by rw [← hs345]; exact zset_k (zne_r zc_164 zc_199 (by decide))
          have e351 : s344 164 3 = s316 164 3 := by rw [← hs345]; exact zset_k (zne_r zc_164 zc_199 (by decide))
          have e352 : s344 164 4 = s316 164 4 := by rw [← hs345]; exact zset_k (zne_r zc_164 zc_199 (by decide))
          have e353 : s344 164 5 = s316 164 5 := by rw [← hs345]; exact zset_k (zne_r zc_164 zc_199 (by decide))
          have e354 : s344 164 6 = s316 164 6 := by rw [← hs345]; exact zset_k (zne_r zc_164 zc_199 (by decide))
          have e355 : s344 164 48 = s316 164 48 := by rw [← hs345]; exact zset_k (zne_r zc_164 zc_199 (by decide))
          have e356 : s344 164 49 = s316 164 49 := by rw [← hs345]; exact zset_k (zne_r zc_164 zc_199 (by decide))
          have e357 : s344 194 0 = s316 194 0 := by rw [← hs345]; exact zset_k (zne_r zc_194 zc_199 (by decide))
          have e358 : s344 194 1 = s316 194 1 := by rw [← hs345]; exact zset_k (zne_r zc_194 zc_199 (by decide))
          have e359 : s344 195 0 = s316 195 0 := by rw [← hs345]; exact zset_k (zne_r zc_195 zc_199 (by decide))
          have e360 : s344 200 0 = s316 200 0 := by rw [← hs345]; exact zset_k (zne_r zc_200 zc_199 (by decide))
          have e361 : s344 200 1 = s316 200 1 := by rw [← hs345]; exact zset_k (zne_r zc_200 zc_199 (by decide))
          have e362 : s344 199 0 = s316 199 0 := by rw [← hs345]; exact zset_j (by decide)
          have e363 : s344 199 1 = 20 := by rw [← hs345]; exact zset_s
          have e364 : s344 199 2 = s316 199 2 := by rw [← hs345]; exact zset_j (by decide)
          have e365 : s344 194 3 = s316 194 3 := by rw [← hs345]; exact zset_k (zne_r zc_194 zc_199 (by decide))
          have e366 : s344 194 4 = s316 194 4 := by rw [← hs345]; exact zset_k (zne_r zc_194 zc_199 (by decide))
          have e367 : s344 195 1 = s316 195 1 := by rw [← hs345]; exact zset_k (zne_r zc_195 zc_199 (by decide))
          have e368 : s344 164 50 = s316 164 50 := by rw [← hs345]; exact zset_k (zne_r zc_164 zc_199 (by decide))
          have e369 : s344 164 7 = s316 164 7 := by rw [← hs345]; exact zset_k (zne_r zc_164 zc_199 (by decide))
          have e370 : s344 164 8 = s316 164 8 := by rw [← hs345]; exact zset_k (zne_r zc_164 zc_199 (by decide))
          have nf371 : ∀ i : Nat, 10 ≤ i → s344 196 i = σ 196 i := fun i hi => (show s344 196 i = s316 196 i by rw [← hs345]; exact zset_k (by decide)).trans (nf343 i hi)
          refine zt_aload_n (pc' := 96) hX dX12_pane_95 rfl rfl ?_
          refine zt_get (pc' := 99) (v := .ref (X.1.1 + 199)) hX dX12_pane_96 rfl zf_X12_118 (by decide) zc_164 zs_46 (zrf_of (zv_46_44 hI346 zc_164)) ?_
          refine zt_iconst (pc' := 100) hX dX12_pane_99 rfl ?_
          refine zt_iconst (pc' := 101) hX dX12_pane_100 rfl ?_
          refine zt_iast (pc' := 102) hX dX12_pane_101 rfl (by decide) zc_199 zs_81 (by decide) ⟨by omega, by omega⟩ ?_
          rw [show Int.toNat 2 = 2 from rfl]
          generalize hs373 : zset s344 199 2 0 = s372
          have hI374 : zInv s372 := hs373 ▸ zp_81 hI346 zc_199 2 (by omega)
          have hF375 : zOn zQr σ s372 := hs373 ▸ zOn_set hF347 rfl
          have hT376 := yTq_rk hT348 (yRq_set hs373 zc_199 (by decide))
          have hE377 : yqs f s372 = (yP.ok (yS f 0)) := (yqs_rk (yRq_set hs373 zc_199 (by decide))).trans hE349
          have e378 : s372 164 2 = s344 164 2 := by rw [← hs373]; exact zset_k (zne_r zc_164 zc_199 (by decide))
          have e379 : s372 164 3 = s344 164 3 := by rw [← hs373]; exact zset_k (zne_r zc_164 zc_199 (by decide))
          have e380 : s372 164 4 = s344 164 4 := by rw [← hs373]; exact zset_k (zne_r zc_164 zc_199 (by decide))
          have e381 : s372 164 5 = s344 164 5 := by rw [← hs373]; exact zset_k (zne_r zc_164 zc_199 (by decide))
          have e382 : s372 164 6 = s344 164 6 := by rw [← hs373]; exact zset_k (zne_r zc_164 zc_199 (by decide))
          have e383 : s372 164 48 = s344 164 48 := by rw [← hs373]; exact zset_k (zne_r zc_164 zc_199 (by decide))
          have e384 : s372 164 49 = s344 164 49 := by rw [← hs373]; exact zset_k (zne_r zc_164 zc_199 (by decide))
          have e385 : s372 194 0 = s344 194 0 := by rw [← hs373]; exact zset_k (zne_r zc_194 zc_199 (by decide))
          have e386 : s372 194 1 = s344 194 1 := by rw [← hs373]; exact zset_k (zne_r zc_194 zc_199 (by decide))
          have e387 : s372 195 0 = s344 195 0 := by rw [← hs373]; exact zset_k (zne_r zc_195 zc_199 (by decide))
          have e388 : s372 200 0 = s344 200 0 := by rw [← hs373]; exact zset_k (zne_r zc_200 zc_199 (by decide))
          have e389 : s372 200 1 = s344 200 1 := by rw [← hs373]; exact zset_k (zne_r zc_200 zc_199 (by decide))
          have e390 : s372 199 0 = s344 199 0 := by rw [← hs373]; exact zset_j (by decide)
          have e391 : s372 199 1 = s344 199 1 := by rw [← hs373]; exact zset_j (by decide)
          have e392 : s372 199 2 = 0 := by rw [← hs373]; exact zset_s
          have e393 : s372 194 3 = s344 194 3 := by rw [← hs373]; exact zset_k (zne_r zc_194 zc_199 (by decide))
          have e394 : s372 194 4 = s344 194 4 := by rw [← hs373]; exact zset_k (zne_r zc_194 zc_199 (by decide))
          have e395 : s372 195 1 = s344 195 1 := by rw [← hs373]; exact zset_k (zne_r zc_195 zc_199 (by decide))
          have e396 : s372 164 50 = s344 164 50 := by rw [← hs373]; exact zset_k (zne_r zc_164 zc_199 (by decide))
          have e397 : s372 164 7 = s344 164 7 := by rw [← hs373]; exact zset_k (zne_r zc_164 zc_199 (by decide))
          have e398 : s372 164 8 = s344 164 8 := by rw [← hs373]; exact zset_k (zne_r zc_164 zc_199 (by decide))
          have nf399 : ∀ i : Nat, 10 ≤ i → s372 196 i = σ 196 i := fun i hi => (show s372 196 i = s344 196 i by rw [← hs373]; exact zset_k (by decide)).trans (nf371 i hi)
          refine zt_aload_n (pc' := 103) hX dX12_pane_102 rfl rfl ?_
          refine zt_cVv (pc' := 106) hX dX12_pane_103 rfl zm_yX12_paneTold zw_25_20 zc_164 (by decide) zs_46 (q := (RX12, TX12, 108)) rfl rfl (yc_X12_paneTold _ _ s372 hI374 f hT376 (yWd_r hWd hF375)) rfl rfl (Nat.le_of_ble_eq_true rfl) (by decide) (fun r400 s401 hr402 hp403 => ?_)
          obtain ⟨hI404, hF405, hT406, z407, z408⟩ := hp403
          have hE409 : yqs f s401 = yPs f 59 (yPan f (yP.ok (yS f 0))) := by rw [z407, hE377]
          rw [hE377] at z408
          have hF410 := zOn_tr hF375 hF405 (zi_r3 zi_73)
          rw [hE409] at z408
          have b411 := zv_46_2 hI404 zc_164
          have b412 := zv_46_3 hI404 zc_164
          have b413 := zv_46_4 hI404 zc_164
          have b414 := zv_46_5 hI404 zc_164
          have b415 := zv_46_6 hI404 zc_164
          have b416 := zv_46_48 hI404 zc_164
          have b417 := zv_46_49 hI404 zc_164
          have b418 := zv_77 hI404 zc_195 0
          have b419 := zv_82 hI404 zc_200 0
          have b420 := zv_82 hI404 zc_200 1
          have b421 := zv_77 hI404 zc_195 1
          have b422 := zv_46_50 hI404 zc_164
          have b423 := zv_46_7 hI404 zc_164
          have b424 := zv_46_8 hI404 zc_164
          have e425 := hF405 164 3 rfl
          have e426 := hF405 164 48 rfl
          have e427 := hF405 164 49 rfl
          have e428 := hF405 195 0 rfl
          have e429 := hF405 200 0 rfl
          have e430 := hF405 200 1 rfl
          have e431 := hF405 199 0 rfl
          have e432 := hF405 199 1 rfl
          have e433 := hF405 199 2 rfl
          have e434 := hF405 194 3 rfl
          have e435 := hF405 194 4 rfl
          have e436 := hF405 195 1 rfl
          have e437 := hF405 164 50 rfl
          have e438 := hF405 164 7 rfl
          have e439 := hF405 164 8 rfl
          replace z408 : yIm _ _ := z408
          have nf440 : ∀ i : Nat, 10 ≤ i → s401 196 i = σ 196 i := fun i hi => (hF405 196 i rfl).trans (nf399 i hi)
          refine zt_aload_n (pc' := 107) hX dX12_pane_106 rfl rfl ?_
          refine zt_iconst (pc' := 108) hX dX12_pane_107 rfl ?_
          refine zt_put (pc' := 111) (x := 1) hX dX12_pane_108 rfl zf_X12_351 (by decide) zc_164 zs_46 (fun q hq => by cases hq; rfl) rfl rfl rfl ?_
          generalize hs442 : zset s401 164 49 1 = s441
          have hI443 : zInv s441 := hs442 ▸ zp_46_49 hI404 zc_164 ⟨by omega, by omega⟩
          have hF444 : zOn zQr σ s441 := hs442 ▸ zOn_set hF410 rfl
          have e445 : s441 164 2 = s401 164 2 := by rw [← hs442]; exact zset_j (by decide)
          have e446 : s441 164 3 = s401 164 3 := by rw [← hs442]; exact zset_j (by decide)
          have e447 : s441 164 4 = s401 164 4 := by rw [← hs442]; exact zset_j (by decide)
          have e448 : s441 164 5 = s401 164 5 := by rw [← hs442]; exact zset_j (by decide)
          have e449 : s441 164 6 = s401 164 6 := by rw [← hs442]; exact zset_j (by decide)
          have e450 : s441 164 48 = s401 164 48 := by rw [← hs442]; exact zset_j (by decide)
          have e451 : s441 164 49 = 1 := by rw [← hs442]; exact zset_s
          have e452 : s441 194 0 = s401 194 0 := by rw [← hs442]; exact zset_k (zne_r zc_194 zc_164 (by decide))
          have e453 : s441 194 1 = s401 194 1 := by rw [← hs442]; exact zset_k (zne_r zc_194 zc_164 (by decide))
          have e454 : s441 195 0 = s401 195 0 := by rw [← hs442]; exact zset_k (zne_r zc_195 zc_164 (by decide))
          have e455 : s441 200 0 = s401 200 0 := by rw [← hs442]; exact zset_k (zne_r zc_200 zc_164 (by decide))
          have e456 : s441 200 1 = s401 200 1 := by rw [← hs442]; exact zset_k (zne_r zc_200 zc_164 (by decide))
          have e457 : s441 199 0 = s401 199 0 := by rw [← hs442]; exact zset_k (zne_r zc_199 zc_164 (by decide))
          have e458 : s441 199 1 = s401 199 1 := by rw [← hs442]; exact zset_k (zne_r zc_199 zc_164 (by decide))
          have e459 : s441 199 2 = s401 199 2 := by rw [← hs442]; exact zset_k (zne_r zc_199 zc_164 (by decide))
          have e460 : s441 194 3 = s401 194 3 := by rw [← hs442]; exact zset_k (zne_r zc_194 zc_164 (by decide))
          have e461 : s441 194 4 = s401 194 4 := by rw [← hs442]; exact zset_k (zne_r zc_194 zc_164 (by decide))
          have e462 : s441 195 1 = s401 195 1 := by rw [← hs442]; exact zset_k (zne_r zc_195 zc_164 (by decide))
          have e463 : s441 164 50 = s401 164 50 := by rw [← hs442]; exact zset_j (by decide)
          have e464 : s441 164 7 = s401 164 7 := by rw [← hs442]; exact zset_j (by decide)
          have e465 : s441 164 8 = s401 164 8 := by rw [← hs442]; exact zset_j (by decide)
          have hT466 := yTq_rk hT406 (yRq_j hs442 (by decide))
          have hE467 : yqs f s441 = yPs f 59 (yPan f (yP.ok (yS f 0))) := (yqs_rk (yRq_j hs442 (by decide))).trans hE409
          have nf468 : ∀ i : Nat, 10 ≤ i → s441 196 i = σ 196 i := fun i hi => (show s441 196 i = s401 196 i by rw [← hs442]; exact zset_k (by decide)).trans (nf440 i hi)
          have L_111_477 : ∀ (N : Nat) (s469 : zSto) (p472 : yP), zInv s469 → zOn zQr σ s469 → yTq f s469 → yqs f s469 = p472 → (s469 194 3 = σ 194 3 ∧ s469 194 4 = σ 194 4 ∧ s469 195 1 = σ 195 1 ∧ s469 164 50 = σ 164 50) → yLq f s469 p472 (s469 164 49) → (∀ i : Nat, 10 ≤ i → s469 196 i = σ 196 i) → ((2 * (81 - s469 164 49) + yPo p472).toNat) < N → zF X s469 111 [some (.ref (X.1.1 + 164)), none] [] := by
            intro N
            induction N with
            | zero =>
              intro s469 p472 hI470 hF471 hT473 hE474 g475 g476 g477 hm479
              exact absurd hm479 (Nat.not_lt_zero _)
            | succ N ih480 =>
              intro s469 p472 hI470 hF471 hT473 hE474 g475 g476 g477 hm479
              have b481 := zv_46_2 hI470 zc_164
              have b482 := zv_46_3 hI470 zc_164
              have b483 := zv_46_4 hI470 zc_164
              have b484 := zv_46_5 hI470 zc_164
              have b485 := zv_46_6 hI470 zc_164
              have b486 := zv_46_48 hI470 zc_164
              have b487 := zv_46_49 hI470 zc_164
              have b488 := zv_77 hI470 zc_195 0
              have b489 := zv_82 hI470 zc_200 0
              have b490 := zv_82 hI470 zc_200 1
              have b491 := zv_77 hI470 zc_195 1
              have b492 := zv_46_50 hI470 zc_164
              have b493 := zv_46_7 hI470 zc_164
              have b494 := zv_46_8 hI470 zc_164
              rcases yLq_c g476 with a495 | b496
              · have u497 := a495.1
                have u498 := a495.2.1
                have u499 := a495.2.2.2.1
                have u500 := a495.2.2.2.2
                have u501 := yHb1 hE474 a495.1
                have u502 := ((yMq hT473 hE474).1 a495.1).2.1
                refine zt_aload_n (pc' := 112) hX dX12_pane_111 rfl rfl ?_
                have b503 := zv_46_5 hI470 zc_164
                refine zt_get (pc' := 115) (v := .int (zI (s469 164 5))) hX dX12_pane_112 rfl zf_X12_246 (by decide) zc_164 zs_46 rfl ?_
                refine zt_ifne (pc' := 118) (tgt := 133) hX dX12_pane_115 rfl (by decide) ⟨by omega, by omega⟩ (fun c504 => ?_) (fun c504 => ?_)
                · exact absurd c504 (by omega)
                · refine zt_aload_n (pc' := 119) hX dX12_pane_118 rfl rfl ?_
                  refine zt_cVi (pc' := 122) hX dX12_pane_119 rfl zm_yX12_look zw_26_12 zc_164 (by decide) zs_46 (q := (RX12, TX12, 108)) rfl rfl (yc_X12_look _ _ s469 hI470 f hT473) rfl rfl (Nat.le_of_ble_eq_true rfl) (by decide) (fun r505 s506 hr507 hp508 => ?_)
                  obtain ⟨hI509, hF510, q511, q512, hT513, z514, z515, z516⟩ := hp508
                  have hE517 : yqs f s506 = p472 := by rw [z514, hE474]
                  have hF518 := zOn_tr hF471 hF510 (zi_r3 (fun k j h => zi_13 k j (zi_a1 k j h)))
                  have b519 := zv_46_2 hI509 zc_164
                  have b520 := zv_46_3 hI509 zc_164
                  have b521 := zv_46_4 hI509 zc_164
                  have b522 := zv_46_5 hI509 zc_164
                  have b523 := zv_46_6 hI509 zc_164
                  have b524 := zv_46_48 hI509 zc_164
                  have b525 := zv_46_49 hI509 zc_164
                  have b526 := zv_77 hI509 zc_195 0
                  have b527 := zv_82 hI509 zc_200 0
                  have b528 := zv_82 hI509 zc_200 1
                  have b529 := zv_77 hI509 zc_195 1
                  have b530 := zv_46_50 hI509 zc_164
                  have b531 := zv_46_7 hI509 zc_164
                  have b532 := zv_46_8 hI509 zc_164
                  have e533 := hF510 164 3 rfl
                  have e534 := hF510 164 4 rfl
                  have e535 := hF510 164 5 rfl
                  have e536 := hF510 164 6 rfl
                  have e537 := hF510 164 48 rfl
                  have e538 := hF510 164 49 rfl
                  have e539 := hF510 194 0 rfl
                  have e540 := hF510 194 1 rfl
                  have e541 := hF510 195 0 rfl
                  have e542 := hF510 200 0 rfl
                  have e543 := hF510 200 1 rfl
                  have e544 := hF510 199 0 rfl
                  have e545 := hF510 199 1 rfl
                  have e546 := hF510 199 2 rfl
                  have e547 := hF510 194 3 rfl
                  have e548 := hF510 194 4 rfl
                  have e549 := hF510 195 1 rfl
                  have e550 := hF510 164 50 rfl
                  have e551 := hF510 164 7 rfl
                  have e552 := hF510 164 8 rfl
                  have hq553 : s506 164 2 = yPq p472 := yat_q hE474 (by omega) z515
                  have hc554 : f (yPq p472) = r505 := by rw [← hq553]; exact z516.symm
                  clear z515 z516
                  have a555 := yLqA_fr a495 (zOn_tr (zOn_rf zQ1 _) hF510 zi_a1)
                  have nf556 : ∀ i : Nat, 10 ≤ i → s506 196 i = σ 196 i := fun i hi => (hF510 196 i rfl).trans (g477 i hi)
                  refine zt_iconst (pc' := 123) hX dX12_pane_122 rfl ?_
                  refine zt_iceq (pc' := 126) (tgt := 133) hX dX12_pane_123 rfl (by decide) ⟨by omega, by omega⟩ ⟨by omega, by omega⟩ (fun c557 => ?_) (fun c557 => ?_)
                  · have x558 := yLq_e a555 (yMor_0 hc554 (by omega))
                    obtain ⟨u559, u560, u561, u562, u563, u564⟩ := x558.2.1.2.2
                    have u565 := x558.2.2
                    refine zt_aload_n (pc' := 134) hX dX12_pane_133 rfl rfl ?_
                    refine zt_aload_n (pc' := 135) hX dX12_pane_134 rfl rfl ?_
                    have b566 := zv_46_5 hI509 zc_164
                    refine zt_get (pc' := 138) (v := .int (zI (s506 164 5))) hX dX12_pane_135 rfl zf_X12_246 (by decide) zc_164 zs_46 rfl ?_
                    refine zt_put (pc' := 141) (x := (s506 164 5)) hX dX12_pane_138 rfl zf_X12_369 (by decide) zc_164 zs_46 (fun q hq => by cases hq; rfl) rfl rfl rfl ?_
                    generalize hs568 : zset s506 164 7 (s506 164 5) = s567
                    have hI569 : zInv s567 := hs568 ▸ zp_46_7 hI509 zc_164 ⟨by omega, by omega⟩
                    have hF570 : zOn zQr σ s567 := hs568 ▸ zOn_set hF518 rfl
                    have e571 : s567 164 2 = s506 164 2 := by rw [← hs568]; exact zset_j (by decide)
                    have e572 : s567 164 3 = s506 164 3 := by rw [← hs568]; exact zset_j (by decide)
                    have e573 : s567 164 4 = s506 164 4 := by rw [← hs568]; exact zset_j (by decide)
                    have e574 : s567 164 5 = s506 164 5 := by rw [← hs568]; exact zset_j (by decide)
                    have e575 : s567 164 6 = s506 164 6 := by rw [← hs568]; exact zset_j (by decide)
                    have e576 : s567 164 48 = s506 164 48 := by rw [← hs568]; exact zset_j (by decide)
                    have e577 : s567 164 49 = s506 164 49 := by rw [← hs568]; exact zset_j (by decide)
                    have e578 : s567 194 0 = s506 194 0 := by rw [← hs568]; exact zset_k (zne_r zc_194 zc_164 (by decide))
                    have e579 : s567 194 1 = s506 194 1 := by rw [← hs568]; exact zset_k (zne_r zc_194 zc_164 (by decide))
                    have e580 : s567 195 0 = s506 195 0 := by rw [← hs568]; exact zset_k (zne_r zc_195 zc_164 (by decide))
                    have e581 : s567 200 0 = s506 200 0 := by rw [← hs568]; exact zset_k (zne_r zc_200 zc_164 (by decide))
                    have e582 : s567 200 1 = s506 200 1 := by rw [← hs568]; exact zset_k (zne_r zc_200 zc_164 (by decide))
                    have e583 : s567 199 0 = s506 199 0 := by rw [← hs568]; exact zset_k (zne_r zc_199 zc_164 (by decide))
                    have e584 : s567 199 1 = s506 199 1 := by rw [← hs568]; exact zset_k (zne_r zc_199 zc_164 (by decide))
                    have e585 : s567 199 2 = s506 199 2 := by rw [← hs568]; exact zset_k (zne_r zc_199 zc_164 (by decide))
                    have e586 : s567 194 3 = s506 194 3 := by rw [← hs568]; exact zset_k (zne_r zc_194 zc_164 (by decide))
                    have e587 : s567 194 4 = s506 194 4 := by rw [← hs568]; exact zset_k (zne_r zc_194 zc_164 (by decide))
                    have e588 : s567 195 1 = s506 195 1 := by rw [← hs568]; exact zset_k (zne_r zc_195 zc_164 (by decide))
                    have e589 : s567 164 50 = s506 164 50 := by rw [← hs568]; exact zset_j (by decide)
                    have e590 : s567 164 7 = (s506 164 5) := by rw [← hs568]; exact zset_s
                    have e591 : s567 164 8 = s506 164 8 := by rw [← hs568]; exact zset_j (by decide)
                    have hT592 := yTq_rk hT513 (yRq_j hs568 (by decide))
                    have hE593 : yqs f s567 = p472 := (yqs_rk (yRq_j hs568 (by decide))).trans hE517
                    have nf594 : ∀ i : Nat, 10 ≤ i → s567 196 i = σ 196 i := fun i hi => (show s567 196 i = s506 196 i by rw [← hs568]; exact zset_k (by decide)).trans (nf556 i hi)
                    have nz595 : ∀ i : Nat, s567 196 i = _ := fun i => (show s567 196 i = s506 196 i by rw [← hs568]; exact zset_k (by decide)).trans ((fun _ => rfl) i)
                    refine zt_aload_n (pc' := 142) hX dX12_pane_141 rfl rfl ?_
                    refine zt_aload_n (pc' := 143) hX dX12_pane_142 rfl rfl ?_
                    have b596 := zv_46_6 hI569 zc_164
                    refine zt_get (pc' := 146) (v := .int (zI (s567 164 6))) hX dX12_pane_143 rfl zf_X12_249 (by decide) zc_164 zs_46 rfl ?_
                    refine zt_put (pc' := 149) (x := (s567 164 6)) hX dX12_pane_146 rfl zf_X12_13 (by decide) zc_164 zs_46 (fun q hq => by cases hq; rfl) rfl rfl rfl ?_
                    generalize hs598 : zset s567 164 8 (s567 164 6) = s597
                    have hI599 : zInv s597 := hs598 ▸ zp_46_8 hI569 zc_164 ⟨by omega, by omega⟩
                    have hF600 : zOn zQr σ s597 := hs598 ▸ zOn_set hF570 rfl
                    have e601 : s597 164 2 = s567 164 2 := by rw [← hs598]; exact zset_j (by decide)
                    have e602 : s597 164 3 = s567 164 3 := by rw [← hs598]; exact zset_j (by decide)
                    have e603 : s597 164 4 = s567 164 4 := by rw [← hs598]; exact zset_j (by decide)
                    have e604 : s597 164 5 = s567 164 5 := by rw [← hs598]; exact zset_j (by decide)
                    have e605 : s597 164 6 = s567 164 6 := by rw [← hs598]; exact zset_j (by decide)
                    have e606 : s597 164 48 = s567 164 48 := by rw [← hs598]; exact zset_j (by decide)
                    have e607 : s597 164 49 = s567 164 49 := by rw [← hs598]; exact zset_j (by decide)
                    have e608 : s597 194 0 = s567 194 0 := by rw [← hs598]; exact zset_k (zne_r zc_194 zc_164 (by decide))
                    have e609 : s597 194 1 = s567 194 1 := by rw [← hs598]; exact zset_k (zne_r zc_194 zc_164 (by decide))
                    have e610 : s597 195 0 = s567 195 0 := by rw [← hs598]; exact zset_k (zne_r zc_195 zc_164 (by decide))
                    have e611 : s597 200 0 = s567 200 0 := by rw [← hs598]; exact zset_k (zne_r zc_200 zc_164 (by decide))
                    have e612 : s597 200 1 = s567 200 1 := by rw [← hs598]; exact zset_k (zne_r zc_200 zc_164 (by decide))
                    have e613 : s597 199 0 = s567 199 0 := by rw [← hs598]; exact zset_k (zne_r zc_199 zc_164 (by decide))
                    have e614 : s597 199 1 = s567 199 1 := by rw [← hs598]; exact zset_k (zne_r zc_199 zc_164 (by decide))
                    have e615 : s597 199 2 = s567 199 2 := by rw [← hs598]; exact zset_k (zne_r zc_199 zc_164 (by decide))
                    have e616 : s597 194 3 = s567 194 3 := by rw [← hs598]; exact zset_k (zne_r zc_194 zc_164 (by decide))
                    have e617 : s597 194 4 = s567 194 4 := by rw [← hs598]; exact zset_k (zne_r zc_194 zc_164 (by decide))
                    have e618 : s597 195 1 = s567 195 1 := by rw [← hs598]; exact zset_k (zne_r zc_195 zc_164 (by decide))
                    have e619 : s597 164 50 = s567 164 50 := by rw [← hs598]; exact zset_j (by decide)
                    have e620 : s597 164 7 = s567 164 7 := by rw [← hs598]; exact zset_j (by decide)
                    have e621 : s597 164 8 = (s567 164 6) := by rw [← hs598]; exact zset_s
                    have hT622 := yTq_rk hT592 (yRq_j hs598 (by decide))
                    have hE623 : yqs f s597 = p472 := (yqs_rk (yRq_j hs598 (by decide))).trans hE593
                    have nf624 : ∀ i : Nat, 10 ≤ i → s597 196 i = σ 196 i := fun i hi => (show s597 196 i = s567 196 i by rw [← hs598]; exact zset_k (by decide)).trans (nf594 i hi)
                    have nz625 : ∀ i : Nat, s597 196 i = _ := fun i => (show s597 196 i = s567 196 i by rw [← hs598]; exact zset_k (by decide)).trans (nz595 i)
                    refine zt_aload_n (pc' := 150) hX dX12_pane_149 rfl rfl ?_
                    have b626 := zv_46_5 hI599 zc_164
                    refine zt_get (pc' := 153) (v := .int (zI (s597 164 5))) hX dX12_pane_150 rfl zf_X12_246 (by decide) zc_164 zs_46 rfl ?_
                    refine zt_ifeq (pc' := 156) (tgt := 168) hX dX12_pane_153 rfl (by decide) ⟨by omega, by omega⟩ (fun c627 => ?_) (fun c627 => ?_)
                    · refine zt_aload_n (pc' := 169) hX dX12_pane_168 rfl rfl ?_
                      refine zt_cVv (pc' := 172) hX dX12_pane_169 rfl zm_yX12_stands zw_32_15 zc_164 (by decide) zs_46 (q := (RX12, TX12, 108)) rfl rfl (yc_X12_stands _ _ s597 hI599 (by omega) (by omega) (by omega)) rfl rfl (Nat.le_of_ble_eq_true rfl) (by decide) (fun r628 s629 hr630 hp631 => ?_)
                      obtain ⟨hI632, hF633, z634, z635, z636, z637⟩ := hp631
                      have hF638 := zOn_tr hF600 (zOn_r hF633) zi_id
                      have b639 := zv_46_2 hI632 zc_164
                      have b640 := zv_46_3 hI632 zc_164
                      have b641 := zv_46_4 hI632 zc_164
                      have b642 := zv_46_5 hI632 zc_164
                      have b643 := zv_46_6 hI632 zc_164
                      have b644 := zv_46_48 hI632 zc_164
                      have b645 := zv_46_49 hI632 zc_164
                      have b646 := zv_77 hI632 zc_195 0
                      have b647 := zv_82 hI632 zc_200 0
                      have b648 := zv_82 hI632 zc_200 1
                      have b649 := zv_77 hI632 zc_195 1
                      have b650 := zv_46_50 hI632 zc_164
                      have b651 := zv_46_7 hI632 zc_164
                      have b652 := zv_46_8 hI632 zc_164
                      refine zt_aload_n (pc' := 173) hX dX12_pane_172 rfl rfl ?_
                      have b653 := zv_46_49 hI632 zc_164
                      refine zt_get (pc' := 176) (v := .int (zI (s629 164 49))) hX dX12_pane_173 rfl zf_X12_351 (by decide) zc_164 zs_46 rfl ?_
                      exact zt_iret hX hR dX12_pane_176 ⟨by omega, by omega⟩ ⟨hI632, hF638, by omega, by omega, (by rw [← hf, x558.1]; exact ⟨fun _ => by omega, fun o => absurd o (by omega)⟩), (fun _ => by rw [← hf]; exact yTe_num x558.2.1 ⟨by omega, by omega⟩ (by omega) (by omega) ⟨by omega, by omega, by omega, by omega⟩ (by omega)), (fun o => by rw [← hf, x558.1] at o; omega), (by rw [← hf, x558.1, ← hE623]; exact yflt hT622 (by omega) (by omega)), (fun _ => by rw [← hf]; exact yTe_nam x558.2.1 (yNz_i z637) nz625 (by omega) ⟨by omega, by omega⟩), (fun o => by rw [← hf, x558.1] at o; exact absurd o (by omega))⟩
                    · exact absurd c627 (by omega)
                  · refine zt_aload_n (pc' := 127) hX dX12_pane_126 rfl rfl ?_
                    refine zt_cVv (pc' := 130) hX dX12_pane_127 rfl zm_yX12_statementTold zw_27_18 zc_164 (by decide) zs_46 (q := (RX12, TX12, 108)) rfl rfl (yc_X12_statementTold _ _ s506 hI509 (by omega) (by omega) (by omega) f hT513 p472 hE517 (by omega) (yWd_r hWd hF518) (yLqA_t a555) (by omega)) rfl rfl (Nat.le_of_ble_eq_true rfl) (by decide) (fun r654 s655 hr656 hp657 => ?_)
                    obtain ⟨hI658, hF659, hT660, z661, z662, z663⟩ := hp657
                    have hF664 := zOn_tr hF518 hF659 zi_3r
                    obtain ⟨p665, hE666⟩ : ∃ p, yqs f s655 = p := ⟨_, rfl⟩
                    rw [hE666] at z661
                    rw [hE666] at z662
                    have b667 := zv_46_2 hI658 zc_164
                    have b668 := zv_46_3 hI658 zc_164
                    have b669 := zv_46_4 hI658 zc_164
                    have b670 := zv_46_5 hI658 zc_164
                    have b671 := zv_46_6 hI658 zc_164
                    have b672 := zv_46_48 hI658 zc_164
                    have b673 := zv_46_49 hI658 zc_164
                    have b674 := zv_77 hI658 zc_195 0
                    have b675 := zv_82 hI658 zc_200 0
                    have b676 := zv_82 hI658 zc_200 1
                    have b677 := zv_77 hI658 zc_195 1
                    have b678 := zv_46_50 hI658 zc_164
                    have b679 := zv_46_7 hI658 zc_164
                    have b680 := zv_46_8 hI658 zc_164
                    have e681 := hF659 194 3 rfl
                    have e682 := hF659 194 4 rfl
                    have e683 := hF659 195 1 rfl
                    have e684 := hF659 164 50 rfl
                    have e685 := hF659 164 7 rfl
                    have e686 := hF659 164 8 rfl
                    replace z662 : yIm _ _ := z662
                    have nf688 : ∀ i : Nat, 10 ≤ i → s655 196 i = σ 196 i := fun i hi => (hF659 196 i (zQ3_n hi)).trans (nf556 i hi)
                    refine zt_goto (tgt := 111) hX dX12_pane_130 (by decide) ?_
                    exact ih480 s655 p665 hI658 hF664 hT660 hE666 (by omega) (yLq_s a555 (yMor_1 a555.1 hc554 (by omega)) (by omega) (by rw [show s469 164 49 = s506 164 49 by omega]; exact z661) z662 rfl) nf688 (by have b := z663; rcases yPo_b p665 with x | x; (have t := (z662 x).2.2; omega); omega)
              · have u689 := yHb0 hE474 b496.1
                have u690 := b496.1
                refine zt_aload_n (pc' := 112) hX dX12_pane_111 rfl rfl ?_
                have b691 := zv_46_5 hI470 zc_164
                refine zt_get (pc' := 115) (v := .int (zI (s469 164 5))) hX dX12_pane_112 rfl zf_X12_246 (by decide) zc_164 zs_46 rfl ?_
                refine zt_ifne (pc' := 118) (tgt := 133) hX dX12_pane_115 rfl (by decide) ⟨by omega, by omega⟩ (fun c692 => ?_) (fun c692 => ?_)
                · refine zt_aload_n (pc' := 134) hX dX12_pane_133 rfl rfl ?_
                  refine zt_aload_n (pc' := 135) hX dX12_pane_134 rfl rfl ?_
                  refine zt_get (pc' := 138) (v := .int (zI (s469 164 5))) hX dX12_pane_135 rfl zf_X12_246 (by decide) zc_164 zs_46 rfl ?_
                  refine zt_put (pc' := 141) (x := (s469 164 5)) hX dX12_pane_138 rfl zf_X12_369 (by decide) zc_164 zs_46 (fun q hq => by cases hq; rfl) rfl rfl rfl ?_
                  generalize hs694 : zset s469 164 7 (s469 164 5) = s693
                  have hI695 : zInv s693 := hs694 ▸ zp_46_7 hI470 zc_164 ⟨by omega, by omega⟩
                  have hF696 : zOn zQr σ s693 := hs694 ▸ zOn_set hF471 rfl
                  have e697 : s693 164 2 = s469 164 2 := by rw [← hs694]; exact zset_j (by decide)
                  have e698 : s693 164 3 = s469 164 3 := by rw [← hs694]; exact zset_j (by decide)
                  have e699 : s693 164 4 = s469 164 4 := by rw [← hs694]; exact zset_j (by decide)
                  have e700 : s693 164 5 = s469 164 5 := by rw [← hs694]; exact zset_j (by decide)
                  have e701 : s693 164 6 = s469 164 6 := by rw [← hs694]; exact zset_j (by decide)
                  have e702 : s693 164 48 = s469 164 48 := by rw [← hs694]; exact zset_j (by decide)
                  have e703 : s693 164 49 = s469 164 49 := by rw [← hs694]; exact zset_j (by decide)
                  have e704 : s693 194 0 = s469 194 0 := by rw [← hs694]; exact zset_k (zne_r zc_194 zc_164 (by decide))
                  have e705 : s693 194 1 = s469 194 1 := by rw [← hs694]; exact zset_k (zne_r zc_194 zc_164 (by decide))
                  have e706 : s693 195 0 = s469 195 0 := by rw [← hs694]; exact zset_k (zne_r zc_195 zc_164 (by decide))
                  have e707 : s693 200 0 = s469 200 0 := by rw [← hs694]; exact zset_k (zne_r zc_200 zc_164 (by decide))
                  have e708 : s693 200 1 = s469 200 1 := by rw [← hs694]; exact zset_k (zne_r zc_200 zc_164 (by decide))
                  have e709 : s693 199 0 = s469 199 0 := by rw [← hs694]; exact zset_k (zne_r zc_199 zc_164 (by decide))
                  have e710 : s693 199 1 = s469 199 1 := by rw [← hs694]; exact zset_k (zne_r zc_199 zc_164 (by decide))
                  have e711 : s693 199 2 = s469 199 2 := by rw [← hs694]; exact zset_k (zne_r zc_199 zc_164 (by decide))
                  have e712 : s693 194 3 = s469 194 3 := by rw [← hs694]; exact zset_k (zne_r zc_194 zc_164 (by decide))
                  have e713 : s693 194 4 = s469 194 4 := by rw [← hs694]; exact zset_k (zne_r zc_194 zc_164 (by decide))
                  have e714 : s693 195 1 = s469 195 1 := by rw [← hs694]; exact zset_k (zne_r zc_195 zc_164 (by decide))
                  have e715 : s693 164 50 = s469 164 50 := by rw [← hs694]; exact zset_j (by decide)
                  have e716 : s693 164 7 = (s469 164 5) := by rw [← hs694]; exact zset_s
                  have e717 : s693 164 8 = s469 164 8 := by rw [← hs694]; exact zset_j (by decide)
                  have hT718 := yTq_rk hT473 (yRq_j hs694 (by decide))
                  have hE719 : yqs f s693 = p472 := (yqs_rk (yRq_j hs694 (by decide))).trans hE474
                  have nf720 : ∀ i : Nat, 10 ≤ i → s693 196 i = σ 196 i := fun i hi => (show s693 196 i = s469 196 i by rw [← hs694]; exact zset_k (by decide)).trans (g477 i hi)
                  refine zt_aload_n (pc' := 142) hX dX12_pane_141 rfl rfl ?_
                  refine zt_aload_n (pc' := 143) hX dX12_pane_142 rfl rfl ?_
                  have b721 := zv_46_6 hI695 zc_164
                  refine zt_get (pc' := 146) (v := .int (zI (s693 164 6))) hX dX12_pane_143 rfl zf_X12_249 (by decide) zc_164 zs_46 rfl ?_
                  refine zt_put (pc' := 149) (x := (s693 164 6)) hX dX12_pane_146 rfl zf_X12_13 (by decide) zc_164 zs_46 (fun q hq => by cases hq; rfl) rfl rfl rfl ?_
                  generalize hs723 : zset s693 164 8 (s693 164 6) = s722
                  have hI724 : zInv s722 := hs723 ▸ zp_46_8 hI695 zc_164 ⟨by omega, by omega⟩
                  have hF725 : zOn zQr σ s722 := hs723 ▸ zOn_set hF696 rfl
                  have e726 : s722 164 2 = s693 164 2 := by rw [← hs723]; exact zset_j (by decide)
                  have e727 : s722 164 3 = s693 164 3 := by rw [← hs723]; exact zset_j (by decide)
                  have e728 : s722 164 4 = s693 164 4 := by rw [← hs723]; exact zset_j (by decide)
                  have e729 : s722 164 5 = s693 164 5 := by rw [← hs723]; exact zset_j (by decide)
                  have e730 : s722 164 6 = s693 164 6 := by rw [← hs723]; exact zset_j (by decide)
                  have e731 : s722 164 48 = s693 164 48 := by rw [← hs723]; exact zset_j (by decide)
                  have e732 : s722 164 49 = s693 164 49 := by rw [← hs723]; exact zset_j (by decide)
                  have e733 : s722 194 0 = s693 194 0 := by rw [← hs723]; exact zset_k (zne_r zc_194 zc_164 (by decide))
                  have e734 : s722 194 1 = s693 194 1 := by rw [← hs723]; exact zset_k (zne_r zc_194 zc_164 (by decide))
                  have e735 : s722 195 0 = s693 195 0 := by rw [← hs723]; exact zset_k (zne_r zc_195 zc_164 (by decide))
                  have e736 : s722 200 0 = s693 200 0 := by rw [← hs723]; exact zset_k (zne_r zc_200 zc_164 (by decide))
                  have e737 : s722 200 1 = s693 200 1 := by rw [← hs723]; exact zset_k (zne_r zc_200 zc_164 (by decide))
                  have e738 : s722 199 0 = s693 199 0 := by rw [← hs723]; exact zset_k (zne_r zc_199 zc_164 (by decide))
                  have e739 : s722 199 1 = s693 199 1 := by rw [← hs723]; exact zset_k (zne_r zc_199 zc_164 (by decide))
                  have e740 : s722 199 2 = s693 199 2 := by rw [← hs723]; exact zset_k (zne_r zc_199 zc_164 (by decide))
                  have e741 : s722 194 3 = s693 194 3 := by rw [← hs723]; exact zset_k (zne_r zc_194 zc_164 (by decide))
                  have e742 : s722 194 4 = s693 194 4 := by rw [← hs723]; exact zset_k (zne_r zc_194 zc_164 (by decide))
                  have e743 : s722 195 1 = s693 195 1 := by rw [← hs723]; exact zset_k (zne_r zc_195 zc_164 (by decide))
                  have e744 : s722 164 50 = s693 164 50 := by rw [← hs723]; exact zset_j (by decide)
                  have e745 : s722 164 7 = s693 164 7 := by rw [← hs723]; exact zset_j (by decide)
                  have e746 : s722 164 8 = (s693 164 6) := by rw [← hs723]; exact zset_s
                  have hT747 := yTq_rk hT718 (yRq_j hs723 (by decide))
                  have hE748 : yqs f s722 = p472 := (yqs_rk (yRq_j hs723 (by decide))).trans hE719
                  have nf749 : ∀ i : Nat, 10 ≤ i → s722 196 i = σ 196 i := fun i hi => (show s722 196 i = s693 196 i by rw [← hs723]; exact zset_k (by decide)).trans (nf720 i hi)
                  refine zt_aload_n (pc' := 150) hX dX12_pane_149 rfl rfl ?_
                  have b750 := zv_46_5 hI724 zc_164
                  refine zt_get (pc' := 153) (v := .int (zI (s722 164 5))) hX dX12_pane_150 rfl zf_X12_246 (by decide) zc_164 zs_46 rfl ?_
                  refine zt_ifeq (pc' := 156) (tgt := 168) hX dX12_pane_153 rfl (by decide) ⟨by omega, by omega⟩ (fun c751 => ?_) (fun c751 => ?_)
                  · exact absurd c751 (by omega)
                  · refine zt_aload_n (pc' := 157) hX dX12_pane_156 rfl rfl ?_
                    refine zt_get (pc' := 160) (v := .ref (X.1.1 + 166)) hX dX12_pane_157 rfl zf_X12_17 (by decide) zc_164 zs_46 (zrf_of (zv_46_9 hI724 zc_164)) ?_
                    refine zt_iconst (pc' := 161) hX dX12_pane_160 rfl ?_
                    refine zt_dup2 (pc' := 162) hX dX12_pane_161 rfl rfl rfl ?_
                    refine zt_iald (pc' := 163) hX dX12_pane_162 rfl (by decide) zc_166 zs_48 (by decide) ⟨by omega, by omega⟩ ?_
                    rw [show Int.toNat 1 = 1 from rfl]
                    have b753 := zv_48 hI724 zc_166 1
                    have e754 : s722 166 1 = s693 166 1 := by rw [← hs723]; exact zset_k (zne_r zc_166 zc_164 (by decide))
                    have e755 : s693 166 1 = s469 166 1 := by rw [← hs694]; exact zset_k (zne_r zc_166 zc_164 (by decide))
                    refine zt_iconst (pc' := 164) hX dX12_pane_163 rfl ?_
                    refine zt_iadd (pc' := 165) hX dX12_pane_164 rfl ?_
                    refine zt_wrap (fun r756 zr756 lr756 ur756 => ?_)
                    clear zr756
                    refine zt_iast (pc' := 166) hX dX12_pane_165 rfl (by decide) zc_166 zs_48 (by decide) ⟨by omega, by omega⟩ ?_
                    rw [show Int.toNat 1 = 1 from rfl]
                    generalize hs758 : zset s722 166 1 r756 = s757
                    have hI759 : zInv s757 := hs758 ▸ zp_48 hI724 zc_166 1 ⟨by omega, by omega⟩
                    have hF760 : zOn zQr σ s757 := hs758 ▸ zOn_set hF725 rfl
                    have hT761 := yTq_rk hT747 (yRq_set hs758 zc_166 (by decide))
                    have hE762 : yqs f s757 = p472 := (yqs_rk (yRq_set hs758 zc_166 (by decide))).trans hE748
                    have e763 : s757 164 2 = s722 164 2 := by rw [← hs758]; exact zset_k (zne_r zc_164 zc_166 (by decide))
                    have e764 : s757 164 3 = s722 164 3 := by rw [← hs758]; exact zset_k (zne_r zc_164 zc_166 (by decide))
                    have e765 : s757 164 4 = s722 164 4 := by rw [← hs758]; exact zset_k (zne_r zc_164 zc_166 (by decide))
                    have e766 : s757 164 5 = s722 164 5 := by rw [← hs758]; exact zset_k (zne_r zc_164 zc_166 (by decide))
                    have e767 : s757 164 6 = s722 164 6 := by rw [← hs758]; exact zset_k (zne_r zc_164 zc_166 (by decide))
                    have e768 : s757 164 48 = s722 164 48 := by rw [← hs758]; exact zset_k (zne_r zc_164 zc_166 (by decide))
                    have e769 : s757 164 49 = s722 164 49 := by rw [← hs758]; exact zset_k (zne_r zc_164 zc_166 (by decide))
                    have e770 : s757 194 0 = s722 194 0 := by rw [← hs758]; exact zset_k (zne_r zc_194 zc_166 (by decide))
                    have e771 : s757 194 1 = s722 194 1 := by rw [← hs758]; exact zset_k (zne_r zc_194 zc_166 (by decide))
                    have e772 : s757 195 0 = s722 195 0 := by rw [← hs758]; exact zset_k (zne_r zc_195 zc_166 (by decide))
                    have e773 : s757 200 0 = s722 200 0 := by rw [← hs758]; exact zset_k (zne_r zc_200 zc_166 (by decide))
                    have e774 : s757 200 1 = s722 200 1 := by rw [← hs758]; exact zset_k (zne_r zc_200 zc_166 (by decide))
                    have e775 : s757 199 0 = s722 199 0 := by rw [← hs758]; exact zset_k (zne_r zc_199 zc_166 (by decide))
                    have e776 : s757 199 1 = s722 199 1 := by rw [← hs758]; exact zset_k (zne_r zc_199 zc_166 (by decide))
                    have e777 : s757 199 2 = s722 199 2 := by rw [← hs758]; exact zset_k (zne_r zc_199 zc_166 (by decide))
                    have e778 : s757 194 3 = s722 194 3 := by rw [← hs758]; exact zset_k (zne_r zc_194 zc_166 (by decide))
                    have e779 : s757 194 4 = s722 194 4 := by rw [← hs758]; exact zset_k (zne_r zc_194 zc_166 (by decide))
                    have e780 : s757 195 1 = s722 195 1 := by rw [← hs758]; exact zset_k (zne_r zc_195 zc_166 (by decide))
                    have e781 : s757 164 50 = s722 164 50 := by rw [← hs758]; exact zset_k (zne_r zc_164 zc_166 (by decide))
                    have e782 : s757 164 7 = s722 164 7 := by rw [← hs758]; exact zset_k (zne_r zc_164 zc_166 (by decide))
                    have e783 : s757 164 8 = s722 164 8 := by rw [← hs758]; exact zset_k (zne_r zc_164 zc_166 (by decide))
                    have nf784 : ∀ i : Nat, 10 ≤ i → s757 196 i = σ 196 i := fun i hi => (show s757 196 i = s722 196 i by rw [← hs758]; exact zset_k (by decide)).trans (nf749 i hi)
                    refine zt_iconst (pc' := 167) hX dX12_pane_166 rfl ?_
                    exact zt_iret hX hR dX12_pane_167 ⟨by omega, by omega⟩ ⟨hI759, hF760, by omega, by omega, (by rw [← hf, b496.2]; exact ⟨fun o => absurd o (by omega), fun _ => rfl⟩), (fun o => by rw [← hf, b496.2] at o; omega), (fun _ => ⟨by omega, by omega, by omega, by omega⟩), (by rw [← hf, b496.2, ← hE762]; exact yflt hT761 (by omega) (by omega)), (fun o => by rw [← hf, b496.2] at o; exact absurd o (by omega)), (fun _ => nf784)⟩
                · exact absurd c692 (by omega)
          refine zt_mask [true, false] rfl ?_
          exact L_111_477 _ s441 (yPs f 59 (yPan f (yP.ok (yS f 0)))) hI443 hF444 hT466 hE467 (by omega) (yLq_0 (by omega) rfl (fun o => by have t := z408 o; exact ⟨yTe_p (by omega) (by omega) (by omega) ((show s441 194 0 = s401 194 0 by omega).trans t.1) ((show s441 194 1 = s401 194 1 by omega).trans t.2.1) ⟨by omega, by omega, by omega, by omega, by omega, by omega⟩, by have := (yQb_q hT466 hE467) o; omega, by omega⟩)) nf468 (Nat.lt_succ_self _)
        · refine zt_aload_n (pc' := 54) hX dX12_pane_53 rfl rfl ?_
          refine zt_get (pc' := 57) (v := .ref (X.1.1 + 197)) hX dX12_pane_54 rfl zf_X12_112 (by decide) zc_164 zs_46 (zrf_of (zv_46_42 hI232 zc_164)) ?_
          refine zt_iload_n (pc' := 58) hX dX12_pane_57 rfl rfl ?_
          refine zt_iconst (pc' := 59) hX dX12_pane_58 rfl ?_
          refine zt_iast (pc' := 60) hX dX12_pane_59 rfl (by decide) zc_197 zs_79 (by decide) ⟨by omega, by omega⟩ ?_
          generalize hs786 : zset s231 197 (x228.toNat) 1 = s785
          have hI787 : zInv s785 := hs786 ▸ zp_79 hI232 zc_197 (x228.toNat) ⟨by omega, by omega⟩
          have hF788 : zOn zQr σ s785 := hs786 ▸ zOn_set hF233 rfl
          have hT789 := yTq_rk hT235 (yRq_set hs786 zc_197 (by decide))
          have hE790 : yqs f s785 = (yP.ok (yS f 0)) := (yqs_rk (yRq_set hs786 zc_197 (by decide))).trans hE236
          have e791 : s785 164 2 = s231 164 2 := by rw [← hs786]; exact zset_k (zne_r zc_164 zc_197 (by decide))
          have e792 : s785 164 3 = s231 164 3 := by rw [← hs786]; exact zset_k (zne_r zc_164 zc_197 (by decide))
          have e793 : s785 164 4 = s231 164 4 := by rw [← hs786]; exact zset_k (zne_r zc_164 zc_197 (by decide))
          have e794 : s785 164 5 = s231 164 5 := by rw [← hs786]; exact zset_k (zne_r zc_164 zc_197 (by decide))
          have e795 : s785 164 6 = s231 164 6 := by rw [← hs786]; exact zset_k (zne_r zc_164 zc_197 (by decide))
          have e796 : s785 164 48 = s231 164 48 := by rw [← hs786]; exact zset_k (zne_r zc_164 zc_197 (by decide))
          have e797 : s785 164 49 = s231 164 49 := by rw [← hs786]; exact zset_k (zne_r zc_164 zc_197 (by decide))
          have e798 : s785 194 0 = s231 194 0 := by rw [← hs786]; exact zset_k (zne_r zc_194 zc_197 (by decide))
          have e799 : s785 194 1 = s231 194 1 := by rw [← hs786]; exact zset_k (zne_r zc_194 zc_197 (by decide))
          have e800 : s785 195 0 = s231 195 0 := by rw [← hs786]; exact zset_k (zne_r zc_195 zc_197 (by decide))
          have e801 : s785 200 0 = s231 200 0 := by rw [← hs786]; exact zset_k (zne_r zc_200 zc_197 (by decide))
          have e802 : s785 200 1 = s231 200 1 := by rw [← hs786]; exact zset_k (zne_r zc_200 zc_197 (by decide))
          have e803 : s785 199 0 = s231 199 0 := by rw [← hs786]; exact zset_k (zne_r zc_199 zc_197 (by decide))
          have e804 : s785 199 1 = s231 199 1 := by rw [← hs786]; exact zset_k (zne_r zc_199 zc_197 (by decide))
          have e805 : s785 199 2 = s231 199 2 := by rw [← hs786]; exact zset_k (zne_r zc_199 zc_197 (by decide))
          have e806 : s785 194 3 = s231 194 3 := by rw [← hs786]; exact zset_k (zne_r zc_194 zc_197 (by decide))
          have e807 : s785 194 4 = s231 194 4 := by rw [← hs786]; exact zset_k (zne_r zc_194 zc_197 (by decide))
          have e808 : s785 195 1 = s231 195 1 := by rw [← hs786]; exact zset_k (zne_r zc_195 zc_197 (by decide))
          have e809 : s785 164 50 = s231 164 50 := by rw [← hs786]; exact zset_k (zne_r zc_164 zc_197 (by decide))
          have e810 : s785 164 7 = s231 164 7 := by rw [← hs786]; exact zset_k (zne_r zc_164 zc_197 (by decide))
          have e811 : s785 164 8 = s231 164 8 := by rw [← hs786]; exact zset_k (zne_r zc_164 zc_197 (by decide))
          have nf812 : ∀ i : Nat, 10 ≤ i → s785 196 i = σ 196 i := fun i hi => (show s785 196 i = s231 196 i by rw [← hs786]; exact zset_k (by decide)).trans (g241 i hi)
          refine zt_iinc (pc' := 63) (lv' := [some (.ref (X.1.1 + 164)), some (.int (zI (x228 + 1)))]) hX dX12_pane_60 rfl rfl hL (by decide) rfl ?_
          refine zt_goto (tgt := 47) hX dX12_pane_63 (by decide) ?_
          exact ih244 (x228 + 1) s785 (yP.ok (yS f 0)) (by omega) (by omega) hI787 hF788 hT789 hE790 (by omega) (by omega) (by omega) rfl nf812 (by omega)
  exact L_47_241 _ 0 s200 (yP.ok (yS f 0)) (by omega) (by omega) hI202 hF203 hT204 hE205 (by omega) (by omega) (by omega) rfl nf227 (Nat.lt_succ_self _)
