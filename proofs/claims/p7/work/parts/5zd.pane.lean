set_option maxRecDepth 100000 in
set_option maxHeartbeats 4000000 in
theorem yc_X12_pane (l : Launch) (E : zEN) (σ : zSto) (hI : zInv σ) (hWd : yWd σ) : zCt l E yX12_pane cX12_pane 2 (some .int) 11 zNC zNC 0 0 σ [.ref (E.1 + 164)] (fun r σ' => zInv σ' ∧ zOn zQr σ σ' ∧ -2147483648 ≤ r ∧ r ≤ 2147483647 ∧ ((yPo (yAll (yW σ)).1 = 1 → r = (yAll (yW σ)).2.2) ∧ (yPo (yAll (yW σ)).1 = 0 → r = -1)) ∧ (yPo (yAll (yW σ)).1 = 1 → yNr σ' (yAll (yW σ)).2.1) ∧ (yPo (yAll (yW σ)).1 = 0 → σ' 194 3 = σ 194 3 ∧ σ' 194 4 = σ 194 4 ∧ σ' 195 1 = σ 195 1 ∧ σ' 164 50 = σ 164 50) ∧ (yFl (yAll (yW σ)).1 (σ' 164 7) (σ' 164 8)) ∧ (yPo (yAll (yW σ)).1 = 1 → yNo σ' (yAll (yW σ)).2.1) ∧ (yPo (yAll (yW σ)).1 = 0 → ∀ i : Nat, 10 ≤ i → σ' 196 i = σ 196 i)) := by
  refine zCt_of2 [some (.ref (E.1 + 164)), none] (by decide +kernel) (Nat.le_of_ble_eq_true rfl) rfl ?_
  intro X hE_ hX hR hL hN
  subst hE_
  have hX : zok X cX12_pane RX12 11 := hX
  have hF := zOn_rf zQr σ
  obtain ⟨f, hf⟩ : ∃ f, f = yW σ := ⟨_, rfl⟩
  have b1 := zv_46_2 hI zc_164
  have b2 := zv_46_3 hI zc_164
  have b3 := zv_46_4 hI zc_164
  have b4 := zv_46_5 hI zc_164
  have b5 := zv_46_6 hI zc_164
  have b6 := zv_46_48 hI zc_164
  have b7 := zv_46_49 hI zc_164
  have b8 := zv_77 hI zc_195 0
  have b9 := zv_82 hI zc_200 0
  have b10 := zv_82 hI zc_200 1
  have b11 := zv_77 hI zc_195 1
  have b12 := zv_46_50 hI zc_164
  have b13 := zv_46_7 hI zc_164
  have b14 := zv_46_8 hI zc_164
  refine zt_aload_n (pc' := 1) hX dX12_pane_0 rfl rfl ?_
  refine zt_aload_n (pc' := 2) hX dX12_pane_1 rfl rfl ?_
  have b15 := zv_46_1 hI zc_164
  refine zt_get (pc' := 5) (v := .int (zI (σ 164 1))) hX dX12_pane_2 rfl zf_X12_243 (by decide) zc_164 zs_46 rfl ?_
  refine zt_put (pc' := 8) (x := (σ 164 1)) hX dX12_pane_5 rfl zf_X12_255 (by decide) zc_164 zs_46 (fun q hq => by cases hq; rfl) rfl rfl rfl ?_
  generalize hs17 : zset σ 164 3 (σ 164 1) = s16
  have hI18 : zInv s16 := hs17 ▸ zp_46_3 hI zc_164 ⟨by omega, by omega⟩
  have hF19 : zOn zQr σ s16 := hs17 ▸ zOn_set hF rfl
  have e20 : s16 164 2 = σ 164 2 := by rw [← hs17]; exact zset_j (by decide)
  have e21 : s16 164 3 = (σ 164 1) := by rw [← hs17]; exact zset_s
  have e22 : s16 164 4 = σ 164 4 := by rw [← hs17]; exact zset_j (by decide)
  have e23 : s16 164 5 = σ 164 5 := by rw [← hs17]; exact zset_j (by decide)
  have e24 : s16 164 6 = σ 164 6 := by rw [← hs17]; exact zset_j (by decide)
  have e25 : s16 164 48 = σ 164 48 := by rw [← hs17]; exact zset_j (by decide)
  have e26 : s16 164 49 = σ 164 49 := by rw [← hs17]; exact zset_j (by decide)
  have e27 : s16 194 0 = σ 194 0 := by rw [← hs17]; exact zset_k (zne_r zc_194 zc_164 (by decide))
  have e28 : s16 194 1 = σ 194 1 := by rw [← hs17]; exact zset_k (zne_r zc_194 zc_164 (by decide))
  have e29 : s16 195 0 = σ 195 0 := by rw [← hs17]; exact zset_k (zne_r zc_195 zc_164 (by decide))
  have e30 : s16 200 0 = σ 200 0 := by rw [← hs17]; exact zset_k (zne_r zc_200 zc_164 (by decide))
  have e31 : s16 200 1 = σ 200 1 := by rw [← hs17]; exact zset_k (zne_r zc_200 zc_164 (by decide))
  have e32 : s16 199 0 = σ 199 0 := by rw [← hs17]; exact zset_k (zne_r zc_199 zc_164 (by decide))
  have e33 : s16 199 1 = σ 199 1 := by rw [← hs17]; exact zset_k (zne_r zc_199 zc_164 (by decide))
  have e34 : s16 199 2 = σ 199 2 := by rw [← hs17]; exact zset_k (zne_r zc_199 zc_164 (by decide))
  have e35 : s16 194 3 = σ 194 3 := by rw [← hs17]; exact zset_k (zne_r zc_194 zc_164 (by decide))
  have e36 : s16 194 4 = σ 194 4 := by rw [← hs17]; exact zset_k (zne_r zc_194 zc_164 (by decide))
  have e37 : s16 195 1 = σ 195 1 := by rw [← hs17]; exact zset_k (zne_r zc_195 zc_164 (by decide))
  have e38 : s16 164 50 = σ 164 50 := by rw [← hs17]; exact zset_j (by decide)
  have e39 : s16 164 7 = σ 164 7 := by rw [← hs17]; exact zset_j (by decide)
  have e40 : s16 164 8 = σ 164 8 := by rw [← hs17]; exact zset_j (by decide)
  have nf41 : ∀ i : Nat, 10 ≤ i → s16 196 i = σ 196 i := fun i hi => (show s16 196 i = σ 196 i by rw [← hs17]; exact zset_k (by decide)).trans ((fun _ _ => rfl) i hi)
  refine zt_aload_n (pc' := 9) hX dX12_pane_8 rfl rfl ?_
  refine zt_iconst (pc' := 10) hX dX12_pane_9 rfl ?_
  refine zt_put (pc' := 13) (x := 0) hX dX12_pane_10 rfl zf_X12_243 (by decide) zc_164 zs_46 (fun q hq => by cases hq; rfl) rfl rfl rfl ?_
  generalize hs43 : zset s16 164 1 0 = s42
  have hI44 : zInv s42 := hs43 ▸ zp_46_1 hI18 zc_164 ⟨by omega, by omega⟩
  have hF45 : zOn zQr σ s42 := hs43 ▸ zOn_set hF19 rfl
  have e46 : s42 164 2 = s16 164 2 := by rw [← hs43]; exact zset_j (by decide)
  have e47 : s42 164 3 = s16 164 3 := by rw [← hs43]; exact zset_j (by decide)
  have e48 : s42 164 4 = s16 164 4 := by rw [← hs43]; exact zset_j (by decide)
  have e49 : s42 164 5 = s16 164 5 := by rw [← hs43]; exact zset_j (by decide)
  have e50 : s42 164 6 = s16 164 6 := by rw [← hs43]; exact zset_j (by decide)
  have e51 : s42 164 48 = s16 164 48 := by rw [← hs43]; exact zset_j (by decide)
  have e52 : s42 164 49 = s16 164 49 := by rw [← hs43]; exact zset_j (by decide)
  have e53 : s42 194 0 = s16 194 0 := by rw [← hs43]; exact zset_k (zne_r zc_194 zc_164 (by decide))
  have e54 : s42 194 1 = s16 194 1 := by rw [← hs43]; exact zset_k (zne_r zc_194 zc_164 (by decide))
  have e55 : s42 195 0 = s16 195 0 := by rw [← hs43]; exact zset_k (zne_r zc_195 zc_164 (by decide))
  have e56 : s42 200 0 = s16 200 0 := by rw [← hs43]; exact zset_k (zne_r zc_200 zc_164 (by decide))
  have e57 : s42 200 1 = s16 200 1 := by rw [← hs43]; exact zset_k (zne_r zc_200 zc_164 (by decide))
  have e58 : s42 199 0 = s16 199 0 := by rw [← hs43]; exact zset_k (zne_r zc_199 zc_164 (by decide))
  have e59 : s42 199 1 = s16 199 1 := by rw [← hs43]; exact zset_k (zne_r zc_199 zc_164 (by decide))
  have e60 : s42 199 2 = s16 199 2 := by rw [← hs43]; exact zset_k (zne_r zc_199 zc_164 (by decide))
  have e61 : s42 194 3 = s16 194 3 := by rw [← hs43]; exact zset_k (zne_r zc_194 zc_164 (by decide))
  have e62 : s42 194 4 = s16 194 4 := by rw [← hs43]; exact zset_k (zne_r zc_194 zc_164 (by decide))
  have e63 : s42 195 1 = s16 195 1 := by rw [← hs43]; exact zset_k (zne_r zc_195 zc_164 (by decide))
  have e64 : s42 164 50 = s16 164 50 := by rw [← hs43]; exact zset_j (by decide)
  have e65 : s42 164 7 = s16 164 7 := by rw [← hs43]; exact zset_j (by decide)
  have e66 : s42 164 8 = s16 164 8 := by rw [← hs43]; exact zset_j (by decide)
  have nf67 : ∀ i : Nat, 10 ≤ i → s42 196 i = σ 196 i := fun i hi => (show s42 196 i = s16 196 i by rw [← hs43]; exact zset_k (by decide)).trans (nf41 i hi)
  refine zt_aload_n (pc' := 14) hX dX12_pane_13 rfl rfl ?_
  refine zt_iconst (pc' := 15) hX dX12_pane_14 rfl ?_
  refine zt_put (pc' := 18) (x := 0) hX dX12_pane_15 rfl zf_X12_252 (by decide) zc_164 zs_46 (fun q hq => by cases hq; rfl) rfl rfl rfl ?_
  generalize hs69 : zset s42 164 2 0 = s68
  have hI70 : zInv s68 := hs69 ▸ zp_46_2 hI44 zc_164 ⟨by omega, by omega⟩
  have hF71 : zOn zQr σ s68 := hs69 ▸ zOn_set hF45 rfl
  have e72 : s68 164 2 = 0 := by rw [← hs69]; exact zset_s
  have e73 : s68 164 3 = s42 164 3 := by rw [← hs69]; exact zset_j (by decide)
  have e74 : s68 164 4 = s42 164 4 := by rw [← hs69]; exact zset_j (by decide)
  have e75 : s68 164 5 = s42 164 5 := by rw [← hs69]; exact zset_j (by decide)
  have e76 : s68 164 6 = s42 164 6 := by rw [← hs69]; exact zset_j (by decide)
  have e77 : s68 164 48 = s42 164 48 := by rw [← hs69]; exact zset_j (by decide)
  have e78 : s68 164 49 = s42 164 49 := by rw [← hs69]; exact zset_j (by decide)
  have e79 : s68 194 0 = s42 194 0 := by rw [← hs69]; exact zset_k (zne_r zc_194 zc_164 (by decide))
  have e80 : s68 194 1 = s42 194 1 := by rw [← hs69]; exact zset_k (zne_r zc_194 zc_164 (by decide))
  have e81 : s68 195 0 = s42 195 0 := by rw [← hs69]; exact zset_k (zne_r zc_195 zc_164 (by decide))
  have e82 : s68 200 0 = s42 200 0 := by rw [← hs69]; exact zset_k (zne_r zc_200 zc_164 (by decide))
  have e83 : s68 200 1 = s42 200 1 := by rw [← hs69]; exact zset_k (zne_r zc_200 zc_164 (by decide))
  have e84 : s68 199 0 = s42 199 0 := by rw [← hs69]; exact zset_k (zne_r zc_199 zc_164 (by decide))
  have e85 : s68 199 1 = s42 199 1 := by rw [← hs69]; exact zset_k (zne_r zc_199 zc_164 (by decide))
  have e86 : s68 199 2 = s42 199 2 := by rw [← hs69]; exact zset_k (zne_r zc_199 zc_164 (by decide))
  have e87 : s68 194 3 = s42 194 3 := by rw [← hs69]; exact zset_k (zne_r zc_194 zc_164 (by decide))
  have e88 : s68 194 4 = s42 194 4 := by rw [← hs69]; exact zset_k (zne_r zc_194 zc_164 (by decide))
  have e89 : s68 195 1 = s42 195 1 := by rw [← hs69]; exact zset_k (zne_r zc_195 zc_164 (by decide))
  have e90 : s68 164 50 = s42 164 50 := by rw [← hs69]; exact zset_j (by decide)
  have e91 : s68 164 7 = s42 164 7 := by rw [← hs69]; exact zset_j (by decide)
  have e92 : s68 164 8 = s42 164 8 := by rw [← hs69]; exact zset_j (by decide)
  have nf93 : ∀ i : Nat, 10 ≤ i → s68 196 i = σ 196 i := fun i hi => (show s68 196 i = s42 196 i by rw [← hs69]; exact zset_k (by decide)).trans (nf67 i hi)
  refine zt_aload_n (pc' := 19) hX dX12_pane_18 rfl rfl ?_
  refine zt_iconst (pc' := 20) hX dX12_pane_19 rfl ?_
  refine zt_put (pc' := 23) (x := (-1)) hX dX12_pane_20 rfl zf_X12_266 (by decide) zc_164 zs_46 (fun q hq => by cases hq; rfl) rfl rfl rfl ?_
  generalize hs95 : zset s68 164 4 (-1) = s94
  have hI96 : zInv s94 := hs95 ▸ zp_46_4 hI70 zc_164 ⟨by omega, by omega⟩
  have hF97 : zOn zQr σ s94 := hs95 ▸ zOn_set hF71 rfl
  have e98 : s94 164 2 = s68 164 2 := by rw [← hs95]; exact zset_j (by decide)
  have e99 : s94 164 3 = s68 164 3 := by rw [← hs95]; exact zset_j (by decide)
  have e100 : s94 164 4 = (-1) := by rw [← hs95]; exact zset_s
  have e101 : s94 164 5 = s68 164 5 := by rw [← hs95]; exact zset_j (by decide)
  have e102 : s94 164 6 = s68 164 6 := by rw [← hs95]; exact zset_j (by decide)
  have e103 : s94 164 48 = s68 164 48 := by rw [← hs95]; exact zset_j (by decide)
  have e104 : s94 164 49 = s68 164 49 := by rw [← hs95]; exact zset_j (by decide)
  have e105 : s94 194 0 = s68 194 0 := by rw [← hs95]; exact zset_k (zne_r zc_194 zc_164 (by decide))
  have e106 : s94 194 1 = s68 194 1 := by rw [← hs95]; exact zset_k (zne_r zc_194 zc_164 (by decide))
  have e107 : s94 195 0 = s68 195 0 := by rw [← hs95]; exact zset_k (zne_r zc_195 zc_164 (by decide))
  have e108 : s94 200 0 = s68 200 0 := by rw [← hs95]; exact zset_k (zne_r zc_200 zc_164 (by decide))
  have e109 : s94 200 1 = s68 200 1 := by rw [← hs95]; exact zset_k (zne_r zc_200 zc_164 (by decide))
  have e110 : s94 199 0 = s68 199 0 := by rw [← hs95]; exact zset_k (zne_r zc_199 zc_164 (by decide))
  have e111 : s94 199 1 = s68 199 1 := by rw [← hs95]; exact zset_k (zne_r zc_199 zc_164 (by decide))
  have e112 : s94 199 2 = s68 199 2 := by rw [← hs95]; exact zset_k (zne_r zc_199 zc_164 (by decide))
  have e113 : s94 194 3 = s68 194 3 := by rw [← hs95]; exact zset_k (zne_r zc_194 zc_164 (by decide))
  have e114 : s94 194 4 = s68 194 4 := by rw [← hs95]; exact zset_k (zne_r zc_194 zc_164 (by decide))
  have e115 : s94 195 1 = s68 195 1 := by rw [← hs95]; exact zset_k (zne_r zc_195 zc_164 (by decide))
  have e116 : s94 164 50 = s68 164 50 := by rw [← hs95]; exact zset_j (by decide)
  have e117 : s94 164 7 = s68 164 7 := by rw [← hs95]; exact zset_j (by decide)
  have e118 : s94 164 8 = s68 164 8 := by rw [← hs95]; exact zset_j (by decide)
  have nf119 : ∀ i : Nat, 10 ≤ i → s94 196 i = σ 196 i := fun i hi => (show s94 196 i = s68 196 i by rw [← hs95]; exact zset_k (by decide)).trans (nf93 i hi)
  refine zt_aload_n (pc' := 24) hX dX12_pane_23 rfl rfl ?_
  refine zt_iconst (pc' := 25) hX dX12_pane_24 rfl ?_
  refine zt_put (pc' := 28) (x := 0) hX dX12_pane_25 rfl zf_X12_246 (by decide) zc_164 zs_46 (fun q hq => by cases hq; rfl) rfl rfl rfl ?_
  generalize hs121 : zset s94 164 5 0 = s120
  have hI122 : zInv s120 := hs121 ▸ zp_46_5 hI96 zc_164 ⟨by omega, by omega⟩
  have hF123 : zOn zQr σ s120 := hs121 ▸ zOn_set hF97 rfl
  have e124 : s120 164 2 = s94 164 2 := by rw [← hs121]; exact zset_j (by decide)
  have e125 : s120 164 3 = s94 164 3 := by rw [← hs121]; exact zset_j (by decide)
  have e126 : s120 164 4 = s94 164 4 := by rw [← hs121]; exact zset_j (by decide)
  have e127 : s120 164 5 = 0 := by rw [← hs121]; exact zset_s
  have e128 : s120 164 6 = s94 164 6 := by rw [← hs121]; exact zset_j (by decide)
  have e129 : s120 164 48 = s94 164 48 := by rw [← hs121]; exact zset_j (by decide)
  have e130 : s120 164 49 = s94 164 49 := by rw [← hs121]; exact zset_j (by decide)
  have e131 : s120 194 0 = s94 194 0 := by rw [← hs121]; exact zset_k (zne_r zc_194 zc_164 (by decide))
  have e132 : s120 194 1 = s94 194 1 := by rw [← hs121]; exact zset_k (zne_r zc_194 zc_164 (by decide))
  have e133 : s120 195 0 = s94 195 0 := by rw [← hs121]; exact zset_k (zne_r zc_195 zc_164 (by decide))
  have e134 : s120 200 0 = s94 200 0 := by rw [← hs121]; exact zset_k (zne_r zc_200 zc_164 (by decide))
  have e135 : s120 200 1 = s94 200 1 := by rw [← hs121]; exact zset_k (zne_r zc_200 zc_164 (by decide))
  have e136 : s120 199 0 = s94 199 0 := by rw [← hs121]; exact zset_k (zne_r zc_199 zc_164 (by decide))
  have e137 : s120 199 1 = s94 199 1 := by rw [← hs121]; exact zset_k (zne_r zc_199 zc_164 (by decide))
  have e138 : s120 199 2 = s94 199 2 := by rw [← hs121]; exact zset_k (zne_r zc_199 zc_164 (by decide))
  have e139 : s120 194 3 = s94 194 3 := by rw [← hs121]; exact zset_k (zne_r zc_194 zc_164 (by decide))
  have e140 : s120 194 4 = s94 194 4 := by rw [← hs121]; exact zset_k (zne_r zc_194 zc_164 (by decide))
  have e141 : s120 195 1 = s94 195 1 := by rw [← hs121]; exact zset_k (zne_r zc_195 zc_164 (by decide))
  have e142 : s120 164 50 = s94 164 50 := by rw [← hs121]; exact zset_j (by decide)
  have e143 : s120 164 7 = s94 164 7 := by rw [← hs121]; exact zset_j (by decide)
  have e144 : s120 164 8 = s94 164 8 := by rw [← hs121]; exact zset_j (by decide)
  have nf145 : ∀ i : Nat, 10 ≤ i → s120 196 i = σ 196 i := fun i hi => (show s120 196 i = s94 196 i by rw [← hs121]; exact zset_k (by decide)).trans (nf119 i hi)
  refine zt_aload_n (pc' := 29) hX dX12_pane_28 rfl rfl ?_
  refine zt_iconst (pc' := 30) hX dX12_pane_29 rfl ?_
  refine zt_put (pc' := 33) (x := (-1)) hX dX12_pane_30 rfl zf_X12_249 (by decide) zc_164 zs_46 (fun q hq => by cases hq; rfl) rfl rfl rfl ?_
  generalize hs147 : zset s120 164 6 (-1) = s146
  have hI148 : zInv s146 := hs147 ▸ zp_46_6 hI122 zc_164 ⟨by omega, by omega⟩
  have hF149 : zOn zQr σ s146 := hs147 ▸ zOn_set hF123 rfl
  have e150 : s146 164 2 = s120 164 2 := by rw [← hs147]; exact zset_j (by decide)
  have e151 : s146 164 3 = s120 164 3 := by rw [← hs147]; exact zset_j (by decide)
  have e152 : s146 164 4 = s120 164 4 := by rw [← hs147]; exact zset_j (by decide)
  have e153 : s146 164 5 = s120 164 5 := by rw [← hs147]; exact zset_j (by decide)
  have e154 : s146 164 6 = (-1) := by rw [← hs147]; exact zset_s
  have e155 : s146 164 48 = s120 164 48 := by rw [← hs147]; exact zset_j (by decide)
  have e156 : s146 164 49 = s120 164 49 := by rw [← hs147]; exact zset_j (by decide)
  have e157 : s146 194 0 = s120 194 0 := by rw [← hs147]; exact zset_k (zne_r zc_194 zc_164 (by decide))
  have e158 : s146 194 1 = s120 194 1 := by rw [← hs147]; exact zset_k (zne_r zc_194 zc_164 (by decide))
  have e159 : s146 195 0 = s120 195 0 := by rw [← hs147]; exact zset_k (zne_r zc_195 zc_164 (by decide))
  have e160 : s146 200 0 = s120 200 0 := by rw [← hs147]; exact zset_k (zne_r zc_200 zc_164 (by decide))
  have e161 : s146 200 1 = s120 200 1 := by rw [← hs147]; exact zset_k (zne_r zc_200 zc_164 (by decide))
  have e162 : s146 199 0 = s120 199 0 := by rw [← hs147]; exact zset_k (zne_r zc_199 zc_164 (by decide))
  have e163 : s146 199 1 = s120 199 1 := by rw [← hs147]; exact zset_k (zne_r zc_199 zc_164 (by decide))
  have e164 : s146 199 2 = s120 199 2 := by rw [← hs147]; exact zset_k (zne_r zc_199 zc_164 (by decide))
  have e165 : s146 194 3 = s120 194 3 := by rw [← hs147]; exact zset_k (zne_r zc_194 zc_164 (by decide))
  have e166 : s146 194 4 = s120 194 4 := by rw [← hs147]; exact zset_k (zne_r zc_194 zc_164 (by decide))
  have e167 : s146 195 1 = s120 195 1 := by rw [← hs147]; exact zset_k (zne_r zc_195 zc_164 (by decide))
  have e168 : s146 164 50 = s120 164 50 := by rw [← hs147]; exact zset_j (by decide)
  have e169 : s146 164 7 = s120 164 7 := by rw [← hs147]; exact zset_j (by decide)
  have e170 : s146 164 8 = s120 164 8 := by rw [← hs147]; exact zset_j (by decide)
  have nf171 : ∀ i : Nat, 10 ≤ i → s146 196 i = σ 196 i := fun i hi => (show s146 196 i = s120 196 i by rw [← hs147]; exact zset_k (by decide)).trans (nf145 i hi)
  have hQ := yQ0 (σ := σ) (s := s146) hI (by omega) (by omega) (by omega) (by omega) (by omega) (fun j => hF149 165 j rfl)
  rw [← hf] at hQ
  have t172 : s146 164 2 = 0 := by omega
  have t173 : s146 164 3 = (σ 164 1) := by omega
  have t174 : s146 164 4 = (-1) := by omega
  have t175 : s146 164 5 = 0 := by omega
  have t176 : s146 164 6 = (-1) := by omega
  have t177 : s146 164 48 = σ 164 48 := by omega
  have t178 : s146 164 49 = σ 164 49 := by omega
  have t179 : s146 194 0 = σ 194 0 := by omega
  have t180 : s146 194 1 = σ 194 1 := by omega
  have t181 : s146 195 0 = σ 195 0 := by omega
  have t182 : s146 200 0 = σ 200 0 := by omega
  have t183 : s146 200 1 = σ 200 1 := by omega
  have t184 : s146 199 0 = σ 199 0 := by omega
  have t185 : s146 199 1 = σ 199 1 := by omega
  have t186 : s146 199 2 = σ 199 2 := by omega
  have t187 : s146 194 3 = σ 194 3 := by omega
  have t188 : s146 194 4 = σ 194 4 := by omega
  have t189 : s146 195 1 = σ 195 1 := by omega
  have t190 : s146 164 50 = σ 164 50 := by omega
  have t191 : s146 164 7 = σ 164 7 := by omega
  have t192 : s146 164 8 = σ 164 8 := by omega
  clear e20 e21 e22 e23 e24 e25 e26 e27 e28 e29 e30 e31 e32 e33 e34 e35 e36 e37 e38 e39 e40 e46 e47 e48 e49 e50 e51 e52 e53 e54 e55 e56 e57 e58 e59 e60 e61 e62 e63 e64 e65 e66 e72 e73 e74 e75 e76 e77 e78 e79 e80 e81 e82 e83 e84 e85 e86 e87 e88 e89 e90 e91 e92 e98 e99 e100 e101 e102 e103 e104 e105 e106 e107 e108 e109 e110 e111 e112 e113 e114 e115 e116 e117 e118 e124 e125 e126 e127 e128 e129 e130 e131 e132 e133 e134 e135 e136 e137 e138 e139 e140 e141 e142 e143 e144 e150 e151 e152 e153 e154 e155 e156 e157 e158 e159 e160 e161 e162 e163 e164 e165 e166 e167 e168 e169 e170
  refine zt_aload_n (pc' := 34) hX dX12_pane_33 rfl rfl ?_
  refine zt_iconst (pc' := 35) hX dX12_pane_34 rfl ?_
  refine zt_put (pc' := 38) (x := 0) hX dX12_pane_35 rfl zf_X12_348 (by decide) zc_164 zs_46 (fun q hq => by cases hq; rfl) rfl rfl rfl ?_
  generalize hs194 : zset s146 164 48 0 = s193
  have hI195 : zInv s193 := hs194 ▸ zp_46_48 hI148 zc_164 ⟨by omega, by omega⟩
  have hF196 : zOn zQr σ s193 := hs194 ▸ zOn_set hF149 rfl
  have e197 : s193 164 2 = s146 164 2 := by rw [← hs194]; exact zset_j (by decide)
  have e198 : s193 164 3 = s146 164 3 := by rw [← hs194]; exact zset_j (by decide)
  have e199 : s193 164 4 = s146 164 4 := by rw [← hs194]; exact zset_j (by decide)
  have e200 : s193 164 5 = s146 164 5 := by rw [← hs194]; exact zset_j (by decide)
  have e201 : s193 164 6 = s146 164 6 := by rw [← hs194]; exact zset_j (by decide)
  have e202 : s193 164 48 = 0 := by rw [← hs194]; exact zset_s
  have e203 : s193 164 49 = s146 164 49 := by rw [← hs194]; exact zset_j (by decide)
  have e204 : s193 194 0 = s146 194 0 := by rw [← hs194]; exact zset_k (zne_r zc_194 zc_164 (by decide))
  have e205 : s193 194 1 = s146 194 1 := by rw [← hs194]; exact zset_k (zne_r zc_194 zc_164 (by decide))
  have e206 : s193 195 0 = s146 195 0 := by rw [← hs194]; exact zset_k (zne_r zc_195 zc_164 (by decide))
  have e207 : s193 200 0 = s146 200 0 := by rw [← hs194]; exact zset_k (zne_r zc_200 zc_164 (by decide))
  have e208 : s193 200 1 = s146 200 1 := by rw [← hs194]; exact zset_k (zne_r zc_200 zc_164 (by decide))
  have e209 : s193 199 0 = s146 199 0 := by rw [← hs194]; exact zset_k (zne_r zc_199 zc_164 (by decide))
  have e210 : s193 199 1 = s146 199 1 := by rw [← hs194]; exact zset_k (zne_r zc_199 zc_164 (by decide))
  have e211 : s193 199 2 = s146 199 2 := by rw [← hs194]; exact zset_k (zne_r zc_199 zc_164 (by decide))
  have e212 : s193 194 3 = s146 194 3 := by rw [← hs194]; exact zset_k (zne_r zc_194 zc_164 (by decide))
  have e213 : s193 194 4 = s146 194 4 := by rw [← hs194]; exact zset_k (zne_r zc_194 zc_164 (by decide))
  have e214 : s193 195 1 = s146 195 1 := by rw [← hs194]; exact zset_k (zne_r zc_195 zc_164 (by decide))
  have e215 : s193 164 50 = s146 164 50 := by rw [← hs194]; exact zset_j (by decide)
  have e216 : s193 164 7 = s146 164 7 := by rw [← hs194]; exact zset_j (by decide)
  have e217 : s193 164 8 = s146 164 8 := by rw [← hs194]; exact zset_j (by decide)
  have hT218 := yTq_rk hQ.1 (yRq_j hs194 (by decide))
  have hE219 : yqs f s193 = (yP.ok (yS f 0)) := (yqs_rk (yRq_j hs194 (by decide))).trans hQ.2
  have nf220 : ∀ i : Nat, 10 ≤ i → s193 196 i = σ 196 i := fun i hi => (show s193 196 i = s146 196 i by rw [← hs194]; exact zset_k (by decide)).trans (nf171 i hi)
  refine zt_aload_n (pc' := 39) hX dX12_pane_38 rfl rfl ?_
  refine zt_get (pc' := 42) (v := .ref (X.1.1 + 195)) hX dX12_pane_39 rfl zf_X12_105 (by decide) zc_164 zs_46 (zrf_of (zv_46_40 hI195 zc_164)) ?_
  refine zt_iconst (pc' := 43) hX dX12_pane_42 rfl ?_
  refine zt_iconst (pc' := 44) hX dX12_pane_43 rfl ?_
  refine zt_iast (pc' := 45) hX dX12_pane_44 rfl (by decide) zc_195 zs_77 (by decide) ⟨by omega, by omega⟩ ?_
  rw [show Int.toNat 0 = 0 from rfl]
  generalize hs222 : zset s193 195 0 0 = s221
  have hI223 : zInv s221 := hs222 ▸ zp_77 hI195 zc_195 0 ⟨by omega, by omega⟩
  have hF224 : zOn zQr σ s221 := hs222 ▸ zOn_set hF196 rfl
  have hT225 := yTq_rk hT218 (yRq_set hs222 zc_195 (by decide))
  have hE226 : yqs f s221 = (yP.ok (yS f 0)) := (yqs_rk (yRq_set hs222 zc_195 (by decide))).trans hE219
  have e227 : s221 164 2 = s193 164 2 := by rw [← hs222]; exact zset_k (zne_r zc_164 zc_195 (by decide))
  have e228 : s221 164 3 = s193 164 3 := by rw [← hs222]; exact zset_k (zne_r zc_164 zc_195 (by decide))
  have e229 : s221 164 4 = s193 164 4 := by rw [← hs222]; exact zset_k (zne_r zc_164 zc_195 (by decide))
  have e230 : s221 164 5 = s193 164 5 := by rw [← hs222]; exact zset_k (zne_r zc_164 zc_195 (by decide))
  have e231 : s221 164 6 = s193 164 6 := by rw [← hs222]; exact zset_k (zne_r zc_164 zc_195 (by decide))
  have e232 : s221 164 48 = s193 164 48 := by rw [← hs222]; exact zset_k (zne_r zc_164 zc_195 (by decide))
  have e233 : s221 164 49 = s193 164 49 := by rw [← hs222]; exact zset_k (zne_r zc_164 zc_195 (by decide))
  have e234 : s221 194 0 = s193 194 0 := by rw [← hs222]; exact zset_k (zne_r zc_194 zc_195 (by decide))
  have e235 : s221 194 1 = s193 194 1 := by rw [← hs222]; exact zset_k (zne_r zc_194 zc_195 (by decide))
  have e236 : s221 195 0 = 0 := by rw [← hs222]; exact zset_s
  have e237 : s221 200 0 = s193 200 0 := by rw [← hs222]; exact zset_k (zne_r zc_200 zc_195 (by decide))
  have e238 : s221 200 1 = s193 200 1 := by rw [← hs222]; exact zset_k (zne_r zc_200 zc_195 (by decide))
  have e239 : s221 199 0 = s193 199 0 := by rw [← hs222]; exact zset_k (zne_r zc_199 zc_195 (by decide))
  have e240 : s221 199 1 = s193 199 1 := by rw [← hs222]; exact zset_k (zne_r zc_199 zc_195 (by decide))
  have e241 : s221 199 2 = s193 199 2 := by rw [← hs222]; exact zset_k (zne_r zc_199 zc_195 (by decide))
  have e242 : s221 194 3 = s193 194 3 := by rw [← hs222]; exact zset_k (zne_r zc_194 zc_195 (by decide))
  have e243 : s221 194 4 = s193 194 4 := by rw [← hs222]; exact zset_k (zne_r zc_194 zc_195 (by decide))
  have e244 : s221 195 1 = s193 195 1 := by rw [← hs222]; exact zset_j (by decide)
  have e245 : s221 164 50 = s193 164 50 := by rw [← hs222]; exact zset_k (zne_r zc_164 zc_195 (by decide))
  have e246 : s221 164 7 = s193 164 7 := by rw [← hs222]; exact zset_k (zne_r zc_164 zc_195 (by decide))
  have e247 : s221 164 8 = s193 164 8 := by rw [← hs222]; exact zset_k (zne_r zc_164 zc_195 (by decide))
  have nf248 : ∀ i : Nat, 10 ≤ i → s221 196 i = σ 196 i := fun i hi => (show s221 196 i = s193 196 i by rw [← hs222]; exact zset_k (by decide)).trans (nf220 i hi)
  refine zt_iconst (pc' := 46) hX dX12_pane_45 rfl ?_
  refine zt_istore_n (pc' := 47) (lv' := [some (.ref (X.1.1 + 164)), some (.int (zI 0))]) hX dX12_pane_46 rfl hL (by decide) rfl ?_
  have L_47_262 : ∀ (N : Nat) (x249 : Int) (s252 : zSto) (p255 : yP), 0 ≤ x249 → x249 ≤ 36 → zInv s252 → zOn zQr σ s252 → yTq f s252 → yqs f s252 = p255 → s252 195 0 = 0 → s252 164 48 = 0 → (s252 194 3 = σ 194 3 ∧ s252 194 4 = σ 194 4 ∧ s252 195 1 = σ 195 1 ∧ s252 164 50 = σ 164 50) → p255 = yP.ok (yS f 0) → (∀ i : Nat, 10 ≤ i → s252 196 i = σ 196 i) → ((37 - x249).toNat) < N → zF X s252 47 [some (.ref (X.1.1 + 164)), some (.int (zI x249))] [] := by
    intro N
    induction N with
    | zero =>
      intro x249 s252 p255 h250 h251 hI253 hF254 hT256 hE257 g258 g259 g260 g261 g262 hm264
      exact absurd hm264 (Nat.not_lt_zero _)
    | succ N ih265 =>
      intro x249 s252 p255 h250 h251 hI253 hF254 hT256 hE257 g258 g259 g260 g261 g262 hm264
      have b266 := zv_46_2 hI253 zc_164
      have b267 := zv_46_3 hI253 zc_164
      have b268 := zv_46_4 hI253 zc_164
      have b269 := zv_46_5 hI253 zc_164
      have b270 := zv_46_6 hI253 zc_164
      have b271 := zv_46_48 hI253 zc_164
      have b272 := zv_46_49 hI253 zc_164
      have b273 := zv_77 hI253 zc_195 0
      have b274 := zv_82 hI253 zc_200 0
      have b275 := zv_82 hI253 zc_200 1
      have b276 := zv_77 hI253 zc_195 1
      have b277 := zv_46_50 hI253 zc_164
      have b278 := zv_46_7 hI253 zc_164
      have b279 := zv_46_8 hI253 zc_164
      subst g261
      · refine zt_iload_n (pc' := 48) hX dX12_pane_47 rfl rfl ?_
        refine zt_bipush (pc' := 50) hX dX12_pane_48 rfl (by decide) (by decide) ?_
        refine zt_icge (pc' := 53) (tgt := 66) hX dX12_pane_50 rfl (by decide) ⟨by omega, by omega⟩ ⟨by omega, by omega⟩ (fun c280 => ?_) (fun c280 => ?_)
        · refine zt_aload_n (pc' := 67) hX dX12_pane_66 rfl rfl ?_
          refine zt_get (pc' := 70) (v := .ref (X.1.1 + 200)) hX dX12_pane_67 rfl zf_X12_121 (by decide) zc_164 zs_46 (zrf_of (zv_46_45 hI253 zc_164)) ?_
          refine zt_iconst (pc' := 71) hX dX12_pane_70 rfl ?_
          refine zt_iconst (pc' := 72) hX dX12_pane_71 rfl ?_
          refine zt_iast (pc' := 73) hX dX12_pane_72 rfl (by decide) zc_200 zs_82 (by decide) ⟨by omega, by omega⟩ ?_
          rw [show Int.toNat 0 = 0 from rfl]
          generalize hs282 : zset s252 200 0 (-1) = s281
          have hI283 : zInv s281 := hs282 ▸ zp_82 hI253 zc_200 0 ⟨by omega, by omega⟩
          have hF284 : zOn zQr σ s281 := hs282 ▸ zOn_set hF254 rfl
          have hT285 := yTq_rk hT256 (yRq_set hs282 zc_200 (by decide))
          have hE286 : yqs f s281 = (yP.ok (yS f 0)) := (yqs_rk (yRq_set hs282 zc_200 (by decide))).trans hE257
          have e287 : s281 164 2 = s252 164 2 := by rw [← hs282]; exact zset_k (zne_r zc_164 zc_200 (by decide))
          have e288 : s281 164 3 = s252 164 3 := by rw [← hs282]; exact zset_k (zne_r zc_164 zc_200 (by decide))
          have e289 : s281 164 4 = s252 164 4 := by rw [← hs282]; exact zset_k (zne_r zc_164 zc_200 (by decide))
          have e290 : s281 164 5 = s252 164 5 := by rw [← hs282]; exact zset_k (zne_r zc_164 zc_200 (by decide))
          have e291 : s281 164 6 = s252 164 6 := by rw [← hs282]; exact zset_k (zne_r zc_164 zc_200 (by decide))
          have e292 : s281 164 48 = s252 164 48 := by rw [← hs282]; exact zset_k (zne_r zc_164 zc_200 (by decide))
          have e293 : s281 164 49 = s252 164 49 := by rw [← hs282]; exact zset_k (zne_r zc_164 zc_200 (by decide))
          have e294 : s281 194 0 = s252 194 0 := by rw [← hs282]; exact zset_k (zne_r zc_194 zc_200 (by decide))
          have e295 : s281 194 1 = s252 194 1 := by rw [← hs282]; exact zset_k (zne_r zc_194 zc_200 (by decide))
          have e296 : s281 195 0 = s252 195 0 := by rw [← hs282]; exact zset_k (zne_r zc_195 zc_200 (by decide))
          have e297 : s281 200 0 = (-1) := by rw [← hs282]; exact zset_s
          have e298 : s281 200 1 = s252 200 1 := by rw [← hs282]; exact zset_j (by decide)
          have e299 : s281 199 0 = s252 199 0 := by rw [← hs282]; exact zset_k (zne_r zc_199 zc_200 (by decide))
          have e300 : s281 199 1 = s252 199 1 := by rw [← hs282]; exact zset_k (zne_r zc_199 zc_200 (by decide))
          have e301 : s281 199 2 = s252 199 2 := by rw [← hs282]; exact zset_k (zne_r zc_199 zc_200 (by decide))
          have e302 : s281 194 3 = s252 194 3 := by rw [← hs282]; exact zset_k (zne_r zc_194 zc_200 (by decide))
          have e303 : s281 194 4 = s252 194 4 := by rw [← hs282]; exact zset_k (zne_r zc_194 zc_200 (by decide))
          have e304 : s281 195 1 = s252 195 1 := by rw [← hs282]; exact zset_k (zne_r zc_195 zc_200 (by decide))
          have e305 : s281 164 50 = s252 164 50 := by rw [← hs282]; exact zset_k (zne_r zc_164 zc_200 (by decide))
          have e306 : s281 164 7 = s252 164 7 := by rw [← hs282]; exact zset_k (zne_r zc_164 zc_200 (by decide))
          have e307 : s281 164 8 = s252 164 8 := by rw [← hs282]; exact zset_k (zne_r zc_164 zc_200 (by decide))
          have nf308 : ∀ i : Nat, 10 ≤ i → s281 196 i = σ 196 i := fun i hi => (show s281 196 i = s252 196 i by rw [← hs282]; exact zset_k (by decide)).trans (g262 i hi)
          refine zt_aload_n (pc' := 74) hX dX12_pane_73 rfl rfl ?_
          refine zt_get (pc' := 77) (v := .ref (X.1.1 + 200)) hX dX12_pane_74 rfl zf_X12_121 (by decide) zc_164 zs_46 (zrf_of (zv_46_45 hI283 zc_164)) ?_
          refine zt_iconst (pc' := 78) hX dX12_pane_77 rfl ?_
          refine zt_iconst (pc' := 79) hX dX12_pane_78 rfl ?_
          refine zt_iast (pc' := 80) hX dX12_pane_79 rfl (by decide) zc_200 zs_82 (by decide) ⟨by omega, by omega⟩ ?_
          rw [show Int.toNat 1 = 1 from rfl]
          generalize hs310 : zset s281 200 1 (-1) = s309
          have hI311 : zInv s309 := hs310 ▸ zp_82 hI283 zc_200 1 ⟨by omega, by omega⟩
          have hF312 : zOn zQr σ s309 := hs310 ▸ zOn_set hF284 rfl
          have hT313 := yTq_rk hT285 (yRq_set hs310 zc_200 (by decide))
          have hE314 : yqs f s309 = (yP.ok (yS f 0)) := (yqs_rk (yRq_set hs310 zc_200 (by decide))).trans hE286
          have e315 : s309 164 2 = s281 164 2 := by rw [← hs310]; exact zset_k (zne_r zc_164 zc_200 (by decide))
          have e316 : s309 164 3 = s281 164 3 := by rw [← hs310]; exact zset_k (zne_r zc_164 zc_200 (by decide))
          have e317 : s309 164 4 = s281 164 4 := by rw [← hs310]; exact zset_k (zne_r zc_164 zc_200 (by decide))
          have e318 : s309 164 5 = s281 164 5 := by rw [← hs310]; exact zset_k (zne_r zc_164 zc_200 (by decide))
          have e319 : s309 164 6 = s281 164 6 := by rw [← hs310]; exact zset_k (zne_r zc_164 zc_200 (by decide))
          have e320 : s309 164 48 = s281 164 48 := by rw [← hs310]; exact zset_k (zne_r zc_164 zc_200 (by decide))
          have e321 : s309 164 49 = s281 164 49 := by rw [← hs310]; exact zset_k (zne_r zc_164 zc_200 (by decide))
          have e322 : s309 194 0 = s281 194 0 := by rw [← hs310]; exact zset_k (zne_r zc_194 zc_200 (by decide))
          have e323 : s309 194 1 = s281 194 1 := by rw [← hs310]; exact zset_k (zne_r zc_194 zc_200 (by decide))
          have e324 : s309 195 0 = s281 195 0 := by rw [← hs310]; exact zset_k (zne_r zc_195 zc_200 (by decide))
          have e325 : s309 200 0 = s281 200 0 := by rw [← hs310]; exact zset_j (by decide)
          have e326 : s309 200 1 = (-1) := by rw [← hs310]; exact zset_s
          have e327 : s309 199 0 = s281 199 0 := by rw [← hs310]; exact zset_k (zne_r zc_199 zc_200 (by decide))
          have e328 : s309 199 1 = s281 199 1 := by rw [← hs310]; exact zset_k (zne_r zc_199 zc_200 (by decide))
          have e329 : s309 199 2 = s281 199 2 := by rw [← hs310]; exact zset_k (zne_r zc_199 zc_200 (by decide))
          have e330 : s309 194 3 = s281 194 3 := by rw [← hs310]; exact zset_k (zne_r zc_194 zc_200 (by decide))
          have e331 : s309 194 4 = s281 194 4 := by rw [← hs310]; exact zset_k (zne_r zc_194 zc_200 (by decide))
          have e332 : s309 195 1 = s281 195 1 := by rw [← hs310]; exact zset_k (zne_r zc_195 zc_200 (by decide))
          have e333 : s309 164 50 = s281 164 50 := by rw [← hs310]; exact zset_k (zne_r zc_164 zc_200 (by decide))
          have e334 : s309 164 7 = s281 164 7 := by rw [← hs310]; exact zset_k (zne_r zc_164 zc_200 (by decide))
          have e335 : s309 164 8 = s281 164 8 := by rw [← hs310]; exact zset_k (zne_r zc_164 zc_200 (by decide))
          have nf336 : ∀ i : Nat, 10 ≤ i → s309 196 i = σ 196 i := fun i hi => (show s309 196 i = s281 196 i by rw [← hs310]; exact zset_k (by decide)).trans (nf308 i hi)
          refine zt_aload_n (pc' := 81) hX dX12_pane_80 rfl rfl ?_
          refine zt_get (pc' := 84) (v := .ref (X.1.1 + 199)) hX dX12_pane_81 rfl zf_X12_118 (by decide) zc_164 zs_46 (zrf_of (zv_46_44 hI311 zc_164)) ?_
          refine zt_iconst (pc' := 85) hX dX12_pane_84 rfl ?_
          refine zt_iconst (pc' := 86) hX dX12_pane_85 rfl ?_
          refine zt_iast (pc' := 87) hX dX12_pane_86 rfl (by decide) zc_199 zs_81 (by decide) ⟨by omega, by omega⟩ ?_
          rw [show Int.toNat 0 = 0 from rfl]
          generalize hs338 : zset s309 199 0 3 = s337
          have hI339 : zInv s337 := hs338 ▸ zp_81 hI311 zc_199 0 (by omega)
          have hF340 : zOn zQr σ s337 := hs338 ▸ zOn_set hF312 rfl
          have hT341 := yTq_rk hT313 (yRq_set hs338 zc_199 (by decide))
          have hE342 : yqs f s337 = (yP.ok (yS f 0)) := (yqs_rk (yRq_set hs338 zc_199 (by decide))).trans hE314
          have e343 : s337 164 2 = s309 164 2 := by rw [← hs338]; exact zset_k (zne_r zc_164 zc_199 (by decide))
          have e344 : s337 164 3 = s309 164 3 := by rw [← hs338]; exact zset_k (zne_r zc_164 zc_199 (by decide))
          have e345 : s337 164 4 = s309 164 4 := by rw [← hs338]; exact zset_k (zne_r zc_164 zc_199 (by decide))
          have e346 : s337 164 5 = s309 164 5 := by rw [← hs338]; exact zset_k (zne_r zc_164 zc_199 (by decide))
          have e347 : s337 164 6 = s309 164 6 := by rw [← hs338]; exact zset_k (zne_r zc_164 zc_199 (by decide))
          have e348 : s337 164 48 = s309 164 48 := by rw [← hs338]; exact zset_k (zne_r zc_164 zc_199 (by decide))
          have e349 : s337 164 49 = s309 164 49 := by rw [← hs338]; exact zset_k (zne_r zc_164 zc_199 (by decide))
          have e350 : s337 194 0 = s309 194 0 := by rw [← hs338]; exact zset_k (zne_r zc_194 zc_199 (by decide))
          have e351 : s337 194 1 = s309 194 1 := by rw [← hs338]; exact zset_k (zne_r zc_194 zc_199 (by decide))
          have e352 : s337 195 0 = s309 195 0 := by rw [← hs338]; exact zset_k (zne_r zc_195 zc_199 (by decide))
          have e353 : s337 200 0 = s309 200 0 := by rw [← hs338]; exact zset_k (zne_r zc_200 zc_199 (by decide))
          have e354 : s337 200 1 = s309 200 1 := by rw [← hs338]; exact zset_k (zne_r zc_200 zc_199 (by decide))
          have e355 : s337 199 0 = 3 := by rw [← hs338]; exact zset_s
          have e356 : s337 199 1 = s309 199 1 := by rw [← hs338]; exact zset_j (by decide)
          have e357 : s337 199 2 = s309 199 2 := by rw [← hs338]; exact zset_j (by decide)
          have e358 : s337 194 3 = s309 194 3 := by rw [← hs338]; exact zset_k (zne_r zc_194 zc_199 (by decide))
          have e359 : s337 194 4 = s309 194 4 := by rw [← hs338]; exact zset_k (zne_r zc_194 zc_199 (by decide))
          have e360 : s337 195 1 = s309 195 1 := by rw [← hs338]; exact zset_k (zne_r zc_195 zc_199 (by decide))
          have e361 : s337 164 50 = s309 164 50 := by rw [← hs338]; exact zset_k (zne_r zc_164 zc_199 (by decide))
          have e362 : s337 164 7 = s309 164 7 := by rw [← hs338]; exact zset_k (zne_r zc_164 zc_199 (by decide))
          have e363 : s337 164 8 = s309 164 8 := by rw [← hs338]; exact zset_k (zne_r zc_164 zc_199 (by decide))
          have nf364 : ∀ i : Nat, 10 ≤ i → s337 196 i = σ 196 i := fun i hi => (show s337 196 i = s309 196 i by rw [← hs338]; exact zset_k (by decide)).trans (nf336 i hi)
          refine zt_aload_n (pc' := 88) hX dX12_pane_87 rfl rfl ?_
          refine zt_get (pc' := 91) (v := .ref (X.1.1 + 199)) hX dX12_pane_88 rfl zf_X12_118 (by decide) zc_164 zs_46 (zrf_of (zv_46_44 hI339 zc_164)) ?_
          refine zt_iconst (pc' := 92) hX dX12_pane_91 rfl ?_
          refine zt_bipush (pc' := 94) hX dX12_pane_92 rfl (by decide) (by decide) ?_
          refine zt_iast (pc' := 95) hX dX12_pane_94 rfl (by decide) zc_199 zs_81 (by decide) ⟨by omega, by omega⟩ ?_
          rw [show Int.toNat 1 = 1 from rfl]
          generalize hs366 : zset s337 199 1 20 = s365
          have hI367 : zInv s365 := hs366 ▸ zp_81 hI339 zc_199 1 (by omega)
          have hF368 : zOn zQr σ s365 := hs366 ▸ zOn_set hF340 rfl
          have hT369 := yTq_rk hT341 (yRq_set hs366 zc_199 (by decide))
          have hE370 : yqs f s365 = (yP.ok (yS f 0)) := (yqs_rk (yRq_set hs366 zc_199 (by decide))).trans hE342
          have e371 : s365 164 2 = s337 164 2 := by rw [← hs366]; exact zset_k (zne_r zc_164 zc_199 (by decide))
          have e372 : s365 164 3 = s337 164 3 := by rw [← hs366]; exact zset_k (zne_r zc_164 zc_199 (by decide))
          have e373 : s365 164 4 = s337 164 4 := by rw [← hs366]; exact zset_k (zne_r zc_164 zc_199 (by decide))
          have e374 : s365 164 5 = s337 164 5 := by rw [← hs366]; exact zset_k (zne_r zc_164 zc_199 (by decide))
          have e375 : s365 164 6 = s337 164 6 := by rw [← hs366]; exact zset_k (zne_r zc_164 zc_199 (by decide))
          have e376 : s365 164 48 = s337 164 48 := by rw [← hs366]; exact zset_k (zne_r zc_164 zc_199 (by decide))
          have e377 : s365 164 49 = s337 164 49 := by rw [← hs366]; exact zset_k (zne_r zc_164 zc_199 (by decide))
          have e378 : s365 194 0 = s337 194 0 := by rw [← hs366]; exact zset_k (zne_r zc_194 zc_199 (by decide))
          have e379 : s365 194 1 = s337 194 1 := by rw [← hs366]; exact zset_k (zne_r zc_194 zc_199 (by decide))
          have e380 : s365 195 0 = s337 195 0 := by rw [← hs366]; exact zset_k (zne_r zc_195 zc_199 (by decide))
          have e381 : s365 200 0 = s337 200 0 := by rw [← hs366]; exact zset_k (zne_r zc_200 zc_199 (by decide))
          have e382 : s365 200 1 = s337 200 1 := by rw [← hs366]; exact zset_k (zne_r zc_200 zc_199 (by decide))
          have e383 : s365 199 0 = s337 199 0 := by rw [← hs366]; exact zset_j (by decide)
          have e384 : s365 199 1 = 20 := by rw [← hs366]; exact zset_s
          have e385 : s365 199 2 = s337 199 2 := by rw [← hs366]; exact zset_j (by decide)
          have e386 : s365 194 3 = s337 194 3 := by rw [← hs366]; exact zset_k (zne_r zc_194 zc_199 (by decide))
          have e387 : s365 194 4 = s337 194 4 := by rw [← hs366]; exact zset_k (zne_r zc_194 zc_199 (by decide))
          have e388 : s365 195 1 = s337 195 1 := by rw [← hs366]; exact zset_k (zne_r zc_195 zc_199 (by decide))
          have e389 : s365 164 50 = s337 164 50 := by rw [← hs366]; exact zset_k (zne_r zc_164 zc_199 (by decide))
          have e390 : s365 164 7 = s337 164 7 := by rw [← hs366]; exact zset_k (zne_r zc_164 zc_199 (by decide))
          have e391 : s365 164 8 = s337 164 8 := by rw [← hs366]; exact zset_k (zne_r zc_164 zc_199 (by decide))
          have nf392 : ∀ i : Nat, 10 ≤ i → s365 196 i = σ 196 i := fun i hi => (show s365 196 i = s337 196 i by rw [← hs366]; exact zset_k (by decide)).trans (nf364 i hi)
          refine zt_aload_n (pc' := 96) hX dX12_pane_95 rfl rfl ?_
          refine zt_get (pc' := 99) (v := .ref (X.1.1 + 199)) hX dX12_pane_96 rfl zf_X12_118 (by decide) zc_164 zs_46 (zrf_of (zv_46_44 hI367 zc_164)) ?_
          refine zt_iconst (pc' := 100) hX dX12_pane_99 rfl ?_
          refine zt_iconst (pc' := 101) hX dX12_pane_100 rfl ?_
          refine zt_iast (pc' := 102) hX dX12_pane_101 rfl (by decide) zc_199 zs_81 (by decide) ⟨by omega, by omega⟩ ?_
          rw [show Int.toNat 2 = 2 from rfl]
          generalize hs394 : zset s365 199 2 0 = s393
          have hI395 : zInv s393 := hs394 ▸ zp_81 hI367 zc_199 2 (by omega)
          have hF396 : zOn zQr σ s393 := hs394 ▸ zOn_set hF368 rfl
          have hT397 := yTq_rk hT369 (yRq_set hs394 zc_199 (by decide))
          have hE398 : yqs f s393 = (yP.ok (yS f 0)) := (yqs_rk (yRq_set hs394 zc_199 (by decide))).trans hE370
          have e399 : s393 164 2 = s365 164 2 := by rw [← hs394]; exact zset_k (zne_r zc_164 zc_199 (by decide))
          have e400 : s393 164 3 = s365 164 3 := by rw [← hs394]; exact zset_k (zne_r zc_164 zc_199 (by decide))
          have e401 : s393 164 4 = s365 164 4 := by rw [← hs394]; exact zset_k (zne_r zc_164 zc_199 (by decide))
          have e402 : s393 164 5 = s365 164 5 := by rw [← hs394]; exact zset_k (zne_r zc_164 zc_199 (by decide))
          have e403 : s393 164 6 = s365 164 6 := by rw [← hs394]; exact zset_k (zne_r zc_164 zc_199 (by decide))
          have e404 : s393 164 48 = s365 164 48 := by rw [← hs394]; exact zset_k (zne_r zc_164 zc_199 (by decide))
          have e405 : s393 164 49 = s365 164 49 := by rw [← hs394]; exact zset_k (zne_r zc_164 zc_199 (by decide))
          have e406 : s393 194 0 = s365 194 0 := by rw [← hs394]; exact zset_k (zne_r zc_194 zc_199 (by decide))
          have e407 : s393 194 1 = s365 194 1 := by rw [← hs394]; exact zset_k (zne_r zc_194 zc_199 (by decide))
          have e408 : s393 195 0 = s365 195 0 := by rw [← hs394]; exact zset_k (zne_r zc_195 zc_199 (by decide))
          have e409 : s393 200 0 = s365 200 0 := by rw [← hs394]; exact zset_k (zne_r zc_200 zc_199 (by decide))
          have e410 : s393 200 1 = s365 200 1 := by rw [← hs394]; exact zset_k (zne_r zc_200 zc_199 (by decide))
          have e411 : s393 199 0 = s365 199 0 := by rw [← hs394]; exact zset_j (by decide)
          have e412 : s393 199 1 = s365 199 1 := by rw [← hs394]; exact zset_j (by decide)
          have e413 : s393 199 2 = 0 := by rw [← hs394]; exact zset_s
          have e414 : s393 194 3 = s365 194 3 := by rw [← hs394]; exact zset_k (zne_r zc_194 zc_199 (by decide))
          have e415 : s393 194 4 = s365 194 4 := by rw [← hs394]; exact zset_k (zne_r zc_194 zc_199 (by decide))
          have e416 : s393 195 1 = s365 195 1 := by rw [← hs394]; exact zset_k (zne_r zc_195 zc_199 (by decide))
          have e417 : s393 164 50 = s365 164 50 := by rw [← hs394]; exact zset_k (zne_r zc_164 zc_199 (by decide))
          have e418 : s393 164 7 = s365 164 7 := by rw [← hs394]; exact zset_k (zne_r zc_164 zc_199 (by decide))
          have e419 : s393 164 8 = s365 164 8 := by rw [← hs394]; exact zset_k (zne_r zc_164 zc_199 (by decide))
          have nf420 : ∀ i : Nat, 10 ≤ i → s393 196 i = σ 196 i := fun i hi => (show s393 196 i = s365 196 i by rw [← hs394]; exact zset_k (by decide)).trans (nf392 i hi)
          refine zt_aload_n (pc' := 103) hX dX12_pane_102 rfl rfl ?_
          refine zt_cVv (pc' := 106) hX dX12_pane_103 rfl zm_yX12_paneTold zw_25_20 zc_164 (by decide) zs_46 (q := (RX12, TX12, 108)) rfl rfl (yc_X12_paneTold _ _ s393 hI395 f hT397 (yWd_r hWd hF396)) rfl rfl (Nat.le_of_ble_eq_true rfl) (by decide) (fun r421 s422 hr423 hp424 => ?_)
          obtain ⟨hI425, hF426, hT427, z428, z429⟩ := hp424
          have hE430 : yqs f s422 = yPs f 59 (yPan f (yP.ok (yS f 0))) := by rw [z428, hE398]
          rw [hE398] at z429
          have hF431 := zOn_tr hF396 hF426 (zi_r3 zi_73)
          rw [hE430] at z429
          have b432 := zv_46_2 hI425 zc_164
          have b433 := zv_46_3 hI425 zc_164
          have b434 := zv_46_4 hI425 zc_164
          have b435 := zv_46_5 hI425 zc_164
          have b436 := zv_46_6 hI425 zc_164
          have b437 := zv_46_48 hI425 zc_164
          have b438 := zv_46_49 hI425 zc_164
          have b439 := zv_77 hI425 zc_195 0
          have b440 := zv_82 hI425 zc_200 0
          have b441 := zv_82 hI425 zc_200 1
          have b442 := zv_77 hI425 zc_195 1
          have b443 := zv_46_50 hI425 zc_164
          have b444 := zv_46_7 hI425 zc_164
          have b445 := zv_46_8 hI425 zc_164
          have e446 := hF426 164 3 rfl
          have e447 := hF426 164 48 rfl
          have e448 := hF426 164 49 rfl
          have e449 := hF426 195 0 rfl
          have e450 := hF426 200 0 rfl
          have e451 := hF426 200 1 rfl
          have e452 := hF426 199 0 rfl
          have e453 := hF426 199 1 rfl
          have e454 := hF426 199 2 rfl
          have e455 := hF426 194 3 rfl
          have e456 := hF426 194 4 rfl
          have e457 := hF426 195 1 rfl
          have e458 := hF426 164 50 rfl
          have e459 := hF426 164 7 rfl
          have e460 := hF426 164 8 rfl
          replace z429 : yIm _ _ := z429
          have nf461 : ∀ i : Nat, 10 ≤ i → s422 196 i = σ 196 i := fun i hi => (hF426 196 i rfl).trans (nf420 i hi)
          refine zt_aload_n (pc' := 107) hX dX12_pane_106 rfl rfl ?_
          refine zt_iconst (pc' := 108) hX dX12_pane_107 rfl ?_
          refine zt_put (pc' := 111) (x := 1) hX dX12_pane_108 rfl zf_X12_351 (by decide) zc_164 zs_46 (fun q hq => by cases hq; rfl) rfl rfl rfl ?_
          generalize hs463 : zset s422 164 49 1 = s462
          have hI464 : zInv s462 := hs463 ▸ zp_46_49 hI425 zc_164 ⟨by omega, by omega⟩
          have hF465 : zOn zQr σ s462 := hs463 ▸ zOn_set hF431 rfl
          have e466 : s462 164 2 = s422 164 2 := by rw [← hs463]; exact zset_j (by decide)
          have e467 : s462 164 3 = s422 164 3 := by rw [← hs463]; exact zset_j (by decide)
          have e468 : s462 164 4 = s422 164 4 := by rw [← hs463]; exact zset_j (by decide)
          have e469 : s462 164 5 = s422 164 5 := by rw [← hs463]; exact zset_j (by decide)
          have e470 : s462 164 6 = s422 164 6 := by rw [← hs463]; exact zset_j (by decide)
          have e471 : s462 164 48 = s422 164 48 := by rw [← hs463]; exact zset_j (by decide)
          have e472 : s462 164 49 = 1 := by rw [← hs463]; exact zset_s
          have e473 : s462 194 0 = s422 194 0 := by rw [← hs463]; exact zset_k (zne_r zc_194 zc_164 (by decide))
          have e474 : s462 194 1 = s422 194 1 := by rw [← hs463]; exact zset_k (zne_r zc_194 zc_164 (by decide))
          have e475 : s462 195 0 = s422 195 0 := by rw [← hs463]; exact zset_k (zne_r zc_195 zc_164 (by decide))
          have e476 : s462 200 0 = s422 200 0 := by rw [← hs463]; exact zset_k (zne_r zc_200 zc_164 (by decide))
          have e477 : s462 200 1 = s422 200 1 := by rw [← hs463]; exact zset_k (zne_r zc_200 zc_164 (by decide))
          have e478 : s462 199 0 = s422 199 0 := by rw [← hs463]; exact zset_k (zne_r zc_199 zc_164 (by decide))
          have e479 : s462 199 1 = s422 199 1 := by rw [← hs463]; exact zset_k (zne_r zc_199 zc_164 (by decide))
          have e480 : s462 199 2 = s422 199 2 := by rw [← hs463]; exact zset_k (zne_r zc_199 zc_164 (by decide))
          have e481 : s462 194 3 = s422 194 3 := by rw [← hs463]; exact zset_k (zne_r zc_194 zc_164 (by decide))
          have e482 : s462 194 4 = s422 194 4 := by rw [← hs463]; exact zset_k (zne_r zc_194 zc_164 (by decide))
          have e483 : s462 195 1 = s422 195 1 := by rw [← hs463]; exact zset_k (zne_r zc_195 zc_164 (by decide))
          have e484 : s462 164 50 = s422 164 50 := by rw [← hs463]; exact zset_j (by decide)
          have e485 : s462 164 7 = s422 164 7 := by rw [← hs463]; exact zset_j (by decide)
          have e486 : s462 164 8 = s422 164 8 := by rw [← hs463]; exact zset_j (by decide)
          have hT487 := yTq_rk hT427 (yRq_j hs463 (by decide))
          have hE488 : yqs f s462 = yPs f 59 (yPan f (yP.ok (yS f 0))) := (yqs_rk (yRq_j hs463 (by decide))).trans hE430
          have nf489 : ∀ i : Nat, 10 ≤ i → s462 196 i = σ 196 i := fun i hi => (show s462 196 i = s422 196 i by rw [← hs463]; exact zset_k (by decide)).trans (nf461 i hi)
          have L_111_498 : ∀ (N : Nat) (s490 : zSto) (p493 : yP), zInv s490 → zOn zQr σ s490 → yTq f s490 → yqs f s490 = p493 → (s490 194 3 = σ 194 3 ∧ s490 194 4 = σ 194 4 ∧ s490 195 1 = σ 195 1 ∧ s490 164 50 = σ 164 50) → yLq f s490 p493 (s490 164 49) → (∀ i : Nat, 10 ≤ i → s490 196 i = σ 196 i) → ((2 * (81 - s490 164 49) + yPo p493).toNat) < N → zF X s490 111 [some (.ref (X.1.1 + 164)), none] [] := by
            intro N
            induction N with
            | zero =>
              intro s490 p493 hI491 hF492 hT494 hE495 g496 g497 g498 hm500
              exact absurd hm500 (Nat.not_lt_zero _)
            | succ N ih501 =>
              intro s490 p493 hI491 hF492 hT494 hE495 g496 g497 g498 hm500
              have b502 := zv_46_2 hI491 zc_164
              have b503 := zv_46_3 hI491 zc_164
              have b504 := zv_46_4 hI491 zc_164
              have b505 := zv_46_5 hI491 zc_164
              have b506 := zv_46_6 hI491 zc_164
              have b507 := zv_46_48 hI491 zc_164
              have b508 := zv_46_49 hI491 zc_164
              have b509 := zv_77 hI491 zc_195 0
              have b510 := zv_82 hI491 zc_200 0
              have b511 := zv_82 hI491 zc_200 1
              have b512 := zv_77 hI491 zc_195 1
              have b513 := zv_46_50 hI491 zc_164
              have b514 := zv_46_7 hI491 zc_164
              have b515 := zv_46_8 hI491 zc_164
              rcases yLq_c g497 with a516 | b517
              · have u518 := a516.1
                have u519 := a516.2.1
                have u520 := a516.2.2.2.1
                have u521 := a516.2.2.2.2
                have u522 := yHb1 hE495 a516.1
                have u523 := ((yMq hT494 hE495).1 a516.1).2.1
                refine zt_aload_n (pc' := 112) hX dX12_pane_111 rfl rfl ?_
                have b524 := zv_46_5 hI491 zc_164
                refine zt_get (pc' := 115) (v := .int (zI (s490 164 5))) hX dX12_pane_112 rfl zf_X12_246 (by decide) zc_164 zs_46 rfl ?_
                refine zt_ifne (pc' := 118) (tgt := 133) hX dX12_pane_115 rfl (by decide) ⟨by omega, by omega⟩ (fun c525 => ?_) (fun c525 => ?_)
                · exact absurd c525 (by omega)
                · refine zt_aload_n (pc' := 119) hX dX12_pane_118 rfl rfl ?_
                  refine zt_cVi (pc' := 122) hX dX12_pane_119 rfl zm_yX12_look zw_26_12 zc_164 (by decide) zs_46 (q := (RX12, TX12, 108)) rfl rfl (yc_X12_look _ _ s490 hI491 f hT494) rfl rfl (Nat.le_of_ble_eq_true rfl) (by decide) (fun r526 s527 hr528 hp529 => ?_)
                  obtain ⟨hI530, hF531, q532, q533, hT534, z535, z536, z537⟩ := hp529
                  have hE538 : yqs f s527 = p493 := by rw [z535, hE495]
                  have hF539 := zOn_tr hF492 hF531 (zi_r3 (fun k j h => zi_13 k j (zi_a1 k j h)))
                  have b540 := zv_46_2 hI530 zc_164
                  have b541 := zv_46_3 hI530 zc_164
                  have b542 := zv_46_4 hI530 zc_164
                  have b543 := zv_46_5 hI530 zc_164
                  have b544 := zv_46_6 hI530 zc_164
                  have b545 := zv_46_48 hI530 zc_164
                  have b546 := zv_46_49 hI530 zc_164
                  have b547 := zv_77 hI530 zc_195 0
                  have b548 := zv_82 hI530 zc_200 0
                  have b549 := zv_82 hI530 zc_200 1
                  have b550 := zv_77 hI530 zc_195 1
                  have b551 := zv_46_50 hI530 zc_164
                  have b552 := zv_46_7 hI530 zc_164
                  have b553 := zv_46_8 hI530 zc_164
                  have e554 := hF531 164 3 rfl
                  have e555 := hF531 164 4 rfl
                  have e556 := hF531 164 5 rfl
                  have e557 := hF531 164 6 rfl
                  have e558 := hF531 164 48 rfl
                  have e559 := hF531 164 49 rfl
                  have e560 := hF531 194 0 rfl
                  have e561 := hF531 194 1 rfl
                  have e562 := hF531 195 0 rfl
                  have e563 := hF531 200 0 rfl
                  have e564 := hF531 200 1 rfl
                  have e565 := hF531 199 0 rfl
                  have e566 := hF531 199 1 rfl
                  have e567 := hF531 199 2 rfl
                  have e568 := hF531 194 3 rfl
                  have e569 := hF531 194 4 rfl
                  have e570 := hF531 195 1 rfl
                  have e571 := hF531 164 50 rfl
                  have e572 := hF531 164 7 rfl
                  have e573 := hF531 164 8 rfl
                  have hq574 : s527 164 2 = yPq p493 := yat_q hE495 (by omega) z536
                  have hc575 : f (yPq p493) = r526 := by rw [← hq574]; exact z537.symm
                  clear z536 z537
                  have a576 := yLqA_fr a516 (zOn_tr (zOn_rf zQ1 _) hF531 zi_a1)
                  have nf577 : ∀ i : Nat, 10 ≤ i → s527 196 i = σ 196 i := fun i hi => (hF531 196 i rfl).trans (g498 i hi)
                  refine zt_iconst (pc' := 123) hX dX12_pane_122 rfl ?_
                  refine zt_iceq (pc' := 126) (tgt := 133) hX dX12_pane_123 rfl (by decide) ⟨by omega, by omega⟩ ⟨by omega, by omega⟩ (fun c578 => ?_) (fun c578 => ?_)
                  · have x579 := yLq_e a576 (yMor_0 hc575 (by omega))
                    obtain ⟨u580, u581, u582, u583, u584, u585⟩ := x579.2.1.2.2
                    have u586 := x579.2.2
                    refine zt_aload_n (pc' := 134) hX dX12_pane_133 rfl rfl ?_
                    refine zt_aload_n (pc' := 135) hX dX12_pane_134 rfl rfl ?_
                    have b587 := zv_46_5 hI530 zc_164
                    refine zt_get (pc' := 138) (v := .int (zI (s527 164 5))) hX dX12_pane_135 rfl zf_X12_246 (by decide) zc_164 zs_46 rfl ?_
                    refine zt_put (pc' := 141) (x := (s527 164 5)) hX dX12_pane_138 rfl zf_X12_369 (by decide) zc_164 zs_46 (fun q hq => by cases hq; rfl) rfl rfl rfl ?_
                    generalize hs589 : zset s527 164 7 (s527 164 5) = s588
                    have hI590 : zInv s588 := hs589 ▸ zp_46_7 hI530 zc_164 ⟨by omega, by omega⟩
                    have hF591 : zOn zQr σ s588 := hs589 ▸ zOn_set hF539 rfl
                    have e592 : s588 164 2 = s527 164 2 := by rw [← hs589]; exact zset_j (by decide)
                    have e593 : s588 164 3 = s527 164 3 := by rw [← hs589]; exact zset_j (by decide)
                    have e594 : s588 164 4 = s527 164 4 := by rw [← hs589]; exact zset_j (by decide)
                    have e595 : s588 164 5 = s527 164 5 := by rw [← hs589]; exact zset_j (by decide)
                    have e596 : s588 164 6 = s527 164 6 := by rw [← hs589]; exact zset_j (by decide)
                    have e597 : s588 164 48 = s527 164 48 := by rw [← hs589]; exact zset_j (by decide)
                    have e598 : s588 164 49 = s527 164 49 := by rw [← hs589]; exact zset_j (by decide)
                    have e599 : s588 194 0 = s527 194 0 := by rw [← hs589]; exact zset_k (zne_r zc_194 zc_164 (by decide))
                    have e600 : s588 194 1 = s527 194 1 := by rw [← hs589]; exact zset_k (zne_r zc_194 zc_164 (by decide))
                    have e601 : s588 195 0 = s527 195 0 := by rw [← hs589]; exact zset_k (zne_r zc_195 zc_164 (by decide))
                    have e602 : s588 200 0 = s527 200 0 := by rw [← hs589]; exact zset_k (zne_r zc_200 zc_164 (by decide))
                    have e603 : s588 200 1 = s527 200 1 := by rw [← hs589]; exact zset_k (zne_r zc_200 zc_164 (by decide))
                    have e604 : s588 199 0 = s527 199 0 := by rw [← hs589]; exact zset_k (zne_r zc_199 zc_164 (by decide))
                    have e605 : s588 199 1 = s527 199 1 := by rw [← hs589]; exact zset_k (zne_r zc_199 zc_164 (by decide))
                    have e606 : s588 199 2 = s527 199 2 := by rw [← hs589]; exact zset_k (zne_r zc_199 zc_164 (by decide))
                    have e607 : s588 194 3 = s527 194 3 := by rw [← hs589]; exact zset_k (zne_r zc_194 zc_164 (by decide))
                    have e608 : s588 194 4 = s527 194 4 := by rw [← hs589]; exact zset_k (zne_r zc_194 zc_164 (by decide))
                    have e609 : s588 195 1 = s527 195 1 := by rw [← hs589]; exact zset_k (zne_r zc_195 zc_164 (by decide))
                    have e610 : s588 164 50 = s527 164 50 := by rw [← hs589]; exact zset_j (by decide)
                    have e611 : s588 164 7 = (s527 164 5) := by rw [← hs589]; exact zset_s
                    have e612 : s588 164 8 = s527 164 8 := by rw [← hs589]; exact zset_j (by decide)
                    have hT613 := yTq_rk hT534 (yRq_j hs589 (by decide))
                    have hE614 : yqs f s588 = p493 := (yqs_rk (yRq_j hs589 (by decide))).trans hE538
                    have nf615 : ∀ i : Nat, 10 ≤ i → s588 196 i = σ 196 i := fun i hi => (show s588 196 i = s527 196 i by rw [← hs589]; exact zset_k (by decide)).trans (nf577 i hi)
                    have nz616 : ∀ i : Nat, s588 196 i = _ := fun i => (show s588 196 i = s527 196 i by rw [← hs589]; exact zset_k (by decide)).trans ((fun _ => rfl) i)
                    refine zt_aload_n (pc' := 142) hX dX12_pane_141 rfl rfl ?_
                    refine zt_aload_n (pc' := 143) hX dX12_pane_142 rfl rfl ?_
                    have b617 := zv_46_6 hI590 zc_164
                    refine zt_get (pc' := 146) (v := .int (zI (s588 164 6))) hX dX12_pane_143 rfl zf_X12_249 (by decide) zc_164 zs_46 rfl ?_
                    refine zt_put (pc' := 149) (x := (s588 164 6)) hX dX12_pane_146 rfl zf_X12_13 (by decide) zc_164 zs_46 (fun q hq => by cases hq; rfl) rfl rfl rfl ?_
                    generalize hs619 : zset s588 164 8 (s588 164 6) = s618
                    have hI620 : zInv s618 := hs619 ▸ zp_46_8 hI590 zc_164 ⟨by omega, by omega⟩
                    have hF621 : zOn zQr σ s618 := hs619 ▸ zOn_set hF591 rfl
                    have e622 : s618 164 2 = s588 164 2 := by rw [← hs619]; exact zset_j (by decide)
                    have e623 : s618 164 3 = s588 164 3 := by rw [← hs619]; exact zset_j (by decide)
                    have e624 : s618 164 4 = s588 164 4 := by rw [← hs619]; exact zset_j (by decide)
                    have e625 : s618 164 5 = s588 164 5 := by rw [← hs619]; exact zset_j (by decide)
                    have e626 : s618 164 6 = s588 164 6 := by rw [← hs619]; exact zset_j (by decide)
                    have e627 : s618 164 48 = s588 164 48 := by rw [← hs619]; exact zset_j (by decide)
                    have e628 : s618 164 49 = s588 164 49 := by rw [← hs619]; exact zset_j (by decide)
                    have e629 : s618 194 0 = s588 194 0 := by rw [← hs619]; exact zset_k (zne_r zc_194 zc_164 (by decide))
                    have e630 : s618 194 1 = s588 194 1 := by rw [← hs619]; exact zset_k (zne_r zc_194 zc_164 (by decide))
                    have e631 : s618 195 0 = s588 195 0 := by rw [← hs619]; exact zset_k (zne_r zc_195 zc_164 (by decide))
                    have e632 : s618 200 0 = s588 200 0 := by rw [← hs619]; exact zset_k (zne_r zc_200 zc_164 (by decide))
                    have e633 : s618 200 1 = s588 200 1 := by rw [← hs619]; exact zset_k (zne_r zc_200 zc_164 (by decide))
                    have e634 : s618 199 0 = s588 199 0 := by rw [← hs619]; exact zset_k (zne_r zc_199 zc_164 (by decide))
                    have e635 : s618 199 1 = s588 199 1 := by rw [← hs619]; exact zset_k (zne_r zc_199 zc_164 (by decide))
                    have e636 : s618 199 2 = s588 199 2 := by rw [← hs619]; exact zset_k (zne_r zc_199 zc_164 (by decide))
                    have e637 : s618 194 3 = s588 194 3 := by rw [← hs619]; exact zset_k (zne_r zc_194 zc_164 (by decide))
                    have e638 : s618 194 4 = s588 194 4 := by rw [← hs619]; exact zset_k (zne_r zc_194 zc_164 (by decide))
                    have e639 : s618 195 1 = s588 195 1 := by rw [← hs619]; exact zset_k (zne_r zc_195 zc_164 (by decide))
                    have e640 : s618 164 50 = s588 164 50 := by rw [← hs619]; exact zset_j (by decide)
                    have e641 : s618 164 7 = s588 164 7 := by rw [← hs619]; exact zset_j (by decide)
                    have e642 : s618 164 8 = (s588 164 6) := by rw [← hs619]; exact zset_s
                    have hT643 := yTq_rk hT613 (yRq_j hs619 (by decide))
                    have hE644 : yqs f s618 = p493 := (yqs_rk (yRq_j hs619 (by decide))).trans hE614
                    have nf645 : ∀ i : Nat, 10 ≤ i → s618 196 i = σ 196 i := fun i hi => (show s618 196 i = s588 196 i by rw [← hs619]; exact zset_k (by decide)).trans (nf615 i hi)
                    have nz646 : ∀ i : Nat, s618 196 i = _ := fun i => (show s618 196 i = s588 196 i by rw [← hs619]; exact zset_k (by decide)).trans (nz616 i)
                    refine zt_aload_n (pc' := 150) hX dX12_pane_149 rfl rfl ?_
                    have b647 := zv_46_5 hI620 zc_164
                    refine zt_get (pc' := 153) (v := .int (zI (s618 164 5))) hX dX12_pane_150 rfl zf_X12_246 (by decide) zc_164 zs_46 rfl ?_
                    refine zt_ifeq (pc' := 156) (tgt := 168) hX dX12_pane_153 rfl (by decide) ⟨by omega, by omega⟩ (fun c648 => ?_) (fun c648 => ?_)
                    · refine zt_aload_n (pc' := 169) hX dX12_pane_168 rfl rfl ?_
                      refine zt_cVv (pc' := 172) hX dX12_pane_169 rfl zm_yX12_stands zw_32_15 zc_164 (by decide) zs_46 (q := (RX12, TX12, 108)) rfl rfl (yc_X12_stands _ _ s618 hI620 (by omega) (by omega) (by omega)) rfl rfl (Nat.le_of_ble_eq_true rfl) (by decide) (fun r649 s650 hr651 hp652 => ?_)
                      obtain ⟨hI653, hF654, z655, z656, z657, z658⟩ := hp652
                      have hF659 := zOn_tr hF621 (zOn_r hF654) zi_id
                      have b660 := zv_46_2 hI653 zc_164
                      have b661 := zv_46_3 hI653 zc_164
                      have b662 := zv_46_4 hI653 zc_164
                      have b663 := zv_46_5 hI653 zc_164
                      have b664 := zv_46_6 hI653 zc_164
                      have b665 := zv_46_48 hI653 zc_164
                      have b666 := zv_46_49 hI653 zc_164
                      have b667 := zv_77 hI653 zc_195 0
                      have b668 := zv_82 hI653 zc_200 0
                      have b669 := zv_82 hI653 zc_200 1
                      have b670 := zv_77 hI653 zc_195 1
                      have b671 := zv_46_50 hI653 zc_164
                      have b672 := zv_46_7 hI653 zc_164
                      have b673 := zv_46_8 hI653 zc_164
                      refine zt_aload_n (pc' := 173) hX dX12_pane_172 rfl rfl ?_
                      have b674 := zv_46_49 hI653 zc_164
                      refine zt_get (pc' := 176) (v := .int (zI (s650 164 49))) hX dX12_pane_173 rfl zf_X12_351 (by decide) zc_164 zs_46 rfl ?_
                      exact zt_iret hX hR dX12_pane_176 ⟨by omega, by omega⟩ ⟨hI653, hF659, by omega, by omega, (by rw [← hf, x579.1]; exact ⟨fun _ => by omega, fun o => absurd o (by omega)⟩), (fun _ => by rw [← hf]; exact yTe_num x579.2.1 ⟨by omega, by omega⟩ (by omega) (by omega) ⟨by omega, by omega, by omega, by omega⟩ (by omega)), (fun o => by rw [← hf, x579.1] at o; omega), (by rw [← hf, x579.1, ← hE644]; exact yflt hT643 (by omega) (by omega)), (fun _ => by rw [← hf]; exact yTe_nam x579.2.1 (yNz_i z658) nz646 (by omega) ⟨by omega, by omega⟩), (fun o => by rw [← hf, x579.1] at o; exact absurd o (by omega))⟩
                    · exact absurd c648 (by omega)
                  · refine zt_aload_n (pc' := 127) hX dX12_pane_126 rfl rfl ?_
                    refine zt_cVv (pc' := 130) hX dX12_pane_127 rfl zm_yX12_statementTold zw_27_18 zc_164 (by decide) zs_46 (q := (RX12, TX12, 108)) rfl rfl (yc_X12_statementTold _ _ s527 hI530 (by omega) (by omega) (by omega) f hT534 p493 hE538 (by omega) (yWd_r hWd hF539) (yLqA_t a576) (by omega)) rfl rfl (Nat.le_of_ble_eq_true rfl) (by decide) (fun r675 s676 hr677 hp678 => ?_)
                    obtain ⟨hI679, hF680, hT681, z682, z683, z684⟩ := hp678
                    have hF685 := zOn_tr hF539 hF680 zi_3r
                    obtain ⟨p686, hE687⟩ : ∃ p, yqs f s676 = p := ⟨_, rfl⟩
                    rw [hE687] at z682
                    rw [hE687] at z683
                    have b688 := zv_46_2 hI679 zc_164
                    have b689 := zv_46_3 hI679 zc_164
                    have b690 := zv_46_4 hI679 zc_164
                    have b691 := zv_46_5 hI679 zc_164
                    have b692 := zv_46_6 hI679 zc_164
                    have b693 := zv_46_48 hI679 zc_164
                    have b694 := zv_46_49 hI679 zc_164
                    have b695 := zv_77 hI679 zc_195 0
                    have b696 := zv_82 hI679 zc_200 0
                    have b697 := zv_82 hI679 zc_200 1
                    have b698 := zv_77 hI679 zc_195 1
                    have b699 := zv_46_50 hI679 zc_164
                    have b700 := zv_46_7 hI679 zc_164
                    have b701 := zv_46_8 hI679 zc_164
                    have e702 := hF680 194 3 rfl
                    have e703 := hF680 194 4 rfl
                    have e704 := hF680 195 1 rfl
                    have e705 := hF680 164 50 rfl
                    have e706 := hF680 164 7 rfl
                    have e707 := hF680 164 8 rfl
                    replace z683 : yIm _ _ := z683
                    have nf709 : ∀ i : Nat, 10 ≤ i → s676 196 i = σ 196 i := fun i hi => (hF680 196 i (zQ3_n hi)).trans (nf577 i hi)
                    refine zt_goto (tgt := 111) hX dX12_pane_130 (by decide) ?_
                    exact ih501 s676 p686 hI679 hF685 hT681 hE687 (by omega) (yLq_s a576 (yMor_1 a576.1 hc575 (by omega)) (by omega) (by rw [show s490 164 49 = s527 164 49 by omega]; exact z682) z683 rfl) nf709 (by have b := z684; rcases yPo_b p686 with x | x; (have t := (z683 x).2.2; omega); omega)
              · have u710 := yHb0 hE495 b517.1
                have u711 := b517.1
                refine zt_aload_n (pc' := 112) hX dX12_pane_111 rfl rfl ?_
                have b712 := zv_46_5 hI491 zc_164
                refine zt_get (pc' := 115) (v := .int (zI (s490 164 5))) hX dX12_pane_112 rfl zf_X12_246 (by decide) zc_164 zs_46 rfl ?_
                refine zt_ifne (pc' := 118) (tgt := 133) hX dX12_pane_115 rfl (by decide) ⟨by omega, by omega⟩ (fun c713 => ?_) (fun c713 => ?_)
                · refine zt_aload_n (pc' := 134) hX dX12_pane_133 rfl rfl ?_
                  refine zt_aload_n (pc' := 135) hX dX12_pane_134 rfl rfl ?_
                  refine zt_get (pc' := 138) (v := .int (zI (s490 164 5))) hX dX12_pane_135 rfl zf_X12_246 (by decide) zc_164 zs_46 rfl ?_
                  refine zt_put (pc' := 141) (x := (s490 164 5)) hX dX12_pane_138 rfl zf_X12_369 (by decide) zc_164 zs_46 (fun q hq => by cases hq; rfl) rfl rfl rfl ?_
                  generalize hs715 : zset s490 164 7 (s490 164 5) = s714
                  have hI716 : zInv s714 := hs715 ▸ zp_46_7 hI491 zc_164 ⟨by omega, by omega⟩
                  have hF717 : zOn zQr σ s714 := hs715 ▸ zOn_set hF492 rfl
                  have e718 : s714 164 2 = s490 164 2 := by rw [← hs715]; exact zset_j (by decide)
                  have e719 : s714 164 3 = s490 164 3 := by rw [← hs715]; exact zset_j (by decide)
                  have e720 : s714 164 4 = s490 164 4 := by rw [← hs715]; exact zset_j (by decide)
                  have e721 : s714 164 5 = s490 164 5 := by rw [← hs715]; exact zset_j (by decide)
                  have e722 : s714 164 6 = s490 164 6 := by rw [← hs715]; exact zset_j (by decide)
                  have e723 : s714 164 48 = s490 164 48 := by rw [← hs715]; exact zset_j (by decide)
                  have e724 : s714 164 49 = s490 164 49 := by rw [← hs715]; exact zset_j (by decide)
                  have e725 : s714 194 0 = s490 194 0 := by rw [← hs715]; exact zset_k (zne_r zc_194 zc_164 (by decide))
                  have e726 : s714 194 1 = s490 194 1 := by rw [← hs715]; exact zset_k (zne_r zc_194 zc_164 (by decide))
                  have e727 : s714 195 0 = s490 195 0 := by rw [← hs715]; exact zset_k (zne_r zc_195 zc_164 (by decide))
                  have e728 : s714 200 0 = s490 200 0 := by rw [← hs715]; exact zset_k (zne_r zc_200 zc_164 (by decide))
                  have e729 : s714 200 1 = s490 200 1 := by rw [← hs715]; exact zset_k (zne_r zc_200 zc_164 (by decide))
                  have e730 : s714 199 0 = s490 199 0 := by rw [← hs715]; exact zset_k (zne_r zc_199 zc_164 (by decide))
                  have e731 : s714 199 1 = s490 199 1 := by rw [← hs715]; exact zset_k (zne_r zc_199 zc_164 (by decide))
                  have e732 : s714 199 2 = s490 199 2 := by rw [← hs715]; exact zset_k (zne_r zc_199 zc_164 (by decide))
                  have e733 : s714 194 3 = s490 194 3 := by rw [← hs715]; exact zset_k (zne_r zc_194 zc_164 (by decide))
                  have e734 : s714 194 4 = s490 194 4 := by rw [← hs715]; exact zset_k (zne_r zc_194 zc_164 (by decide))
                  have e735 : s714 195 1 = s490 195 1 := by rw [← hs715]; exact zset_k (zne_r zc_195 zc_164 (by decide))
                  have e736 : s714 164 50 = s490 164 50 := by rw [← hs715]; exact zset_j (by decide)
                  have e737 : s714 164 7 = (s490 164 5) := by rw [← hs715]; exact zset_s
                  have e738 : s714 164 8 = s490 164 8 := by rw [← hs715]; exact zset_j (by decide)
                  have hT739 := yTq_rk hT494 (yRq_j hs715 (by decide))
                  have hE740 : yqs f s714 = p493 := (yqs_rk (yRq_j hs715 (by decide))).trans hE495
                  have nf741 : ∀ i : Nat, 10 ≤ i → s714 196 i = σ 196 i := fun i hi => (show s714 196 i = s490 196 i by rw [← hs715]; exact zset_k (by decide)).trans (g498 i hi)
                  refine zt_aload_n (pc' := 142) hX dX12_pane_141 rfl rfl ?_
                  refine zt_aload_n (pc' := 143) hX dX12_pane_142 rfl rfl ?_
                  have b742 := zv_46_6 hI716 zc_164
                  refine zt_get (pc' := 146) (v := .int (zI (s714 164 6))) hX dX12_pane_143 rfl zf_X12_249 (by decide) zc_164 zs_46 rfl ?_
                  refine zt_put (pc' := 149) (x := (s714 164 6)) hX dX12_pane_146 rfl zf_X12_13 (by decide) zc_164 zs_46 (fun q hq => by cases hq; rfl) rfl rfl rfl ?_
                  generalize hs744 : zset s714 164 8 (s714 164 6) = s743
                  have hI745 : zInv s743 := hs744 ▸ zp_46_8 hI716 zc_164 ⟨by omega, by omega⟩
                  have hF746 : zOn zQr σ s743 := hs744 ▸ zOn_set hF717 rfl
                  have e747 : s743 164 2 = s714 164 2 := by rw [← hs744]; exact zset_j (by decide)
                  have e748 : s743 164 3 = s714 164 3 := by rw [← hs744]; exact zset_j (by decide)
                  have e749 : s743 164 4 = s714 164 4 := by rw [← hs744]; exact zset_j (by decide)
                  have e750 : s743 164 5 = s714 164 5 := by rw [← hs744]; exact zset_j (by decide)
                  have e751 : s743 164 6 = s714 164 6 := by rw [← hs744]; exact zset_j (by decide)
                  have e752 : s743 164 48 = s714 164 48 := by rw [← hs744]; exact zset_j (by decide)
                  have e753 : s743 164 49 = s714 164 49 := by rw [← hs744]; exact zset_j (by decide)
                  have e754 : s743 194 0 = s714 194 0 := by rw [← hs744]; exact zset_k (zne_r zc_194 zc_164 (by decide))
                  have e755 : s743 194 1 = s714 194 1 := by rw [← hs744]; exact zset_k (zne_r zc_194 zc_164 (by decide))
                  have e756 : s743 195 0 = s714 195 0 := by rw [← hs744]; exact zset_k (zne_r zc_195 zc_164 (by decide))
                  have e757 : s743 200 0 = s714 200 0 := by rw [← hs744]; exact zset_k (zne_r zc_200 zc_164 (by decide))
                  have e758 : s743 200 1 = s714 200 1 := by rw [← hs744]; exact zset_k (zne_r zc_200 zc_164 (by decide))
                  have e759 : s743 199 0 = s714 199 0 := by rw [← hs744]; exact zset_k (zne_r zc_199 zc_164 (by decide))
                  have e760 : s743 199 1 = s714 199 1 := by rw [← hs744]; exact zset_k (zne_r zc_199 zc_164 (by decide))
                  have e761 : s743 199 2 = s714 199 2 := by rw [← hs744]; exact zset_k (zne_r zc_199 zc_164 (by decide))
                  have e762 : s743 194 3 = s714 194 3 := by rw [← hs744]; exact zset_k (zne_r zc_194 zc_164 (by decide))
                  have e763 : s743 194 4 = s714 194 4 := by rw [← hs744]; exact zset_k (zne_r zc_194 zc_164 (by decide))
                  have e764 : s743 195 1 = s714 195 1 := by rw [← hs744]; exact zset_k (zne_r zc_195 zc_164 (by decide))
                  have e765 : s743 164 50 = s714 164 50 := by rw [← hs744]; exact zset_j (by decide)
                  have e766 : s743 164 7 = s714 164 7 := by rw [← hs744]; exact zset_j (by decide)
                  have e767 : s743 164 8 = (s714 164 6) := by rw [← hs744]; exact zset_s
                  have hT768 := yTq_rk hT739 (yRq_j hs744 (by decide))
                  have hE769 : yqs f s743 = p493 := (yqs_rk (yRq_j hs744 (by decide))).trans hE740
                  have nf770 : ∀ i : Nat, 10 ≤ i → s743 196 i = σ 196 i := fun i hi => (show s743 196 i = s714 196 i by rw [← hs744]; exact zset_k (by decide)).trans (nf741 i hi)
                  refine zt_aload_n (pc' := 150) hX dX12_pane_149 rfl rfl ?_
                  have b771 := zv_46_5 hI745 zc_164
                  refine zt_get (pc' := 153) (v := .int (zI (s743 164 5))) hX dX12_pane_150 rfl zf_X12_246 (by decide) zc_164 zs_46 rfl ?_
                  refine zt_ifeq (pc' := 156) (tgt := 168) hX dX12_pane_153 rfl (by decide) ⟨by omega, by omega⟩ (fun c772 => ?_) (fun c772 => ?_)
                  · exact absurd c772 (by omega)
                  · refine zt_aload_n (pc' := 157) hX dX12_pane_156 rfl rfl ?_
                    refine zt_get (pc' := 160) (v := .ref (X.1.1 + 166)) hX dX12_pane_157 rfl zf_X12_17 (by decide) zc_164 zs_46 (zrf_of (zv_46_9 hI745 zc_164)) ?_
                    refine zt_iconst (pc' := 161) hX dX12_pane_160 rfl ?_
                    refine zt_dup2 (pc' := 162) hX dX12_pane_161 rfl rfl rfl ?_
                    refine zt_iald (pc' := 163) hX dX12_pane_162 rfl (by decide) zc_166 zs_48 (by decide) ⟨by omega, by omega⟩ ?_
                    rw [show Int.toNat 1 = 1 from rfl]
                    have b774 := zv_48 hI745 zc_166 1
                    have e775 : s743 166 1 = s714 166 1 := by rw [← hs744]; exact zset_k (zne_r zc_166 zc_164 (by decide))
                    have e776 : s714 166 1 = s490 166 1 := by rw [← hs715]; exact zset_k (zne_r zc_166 zc_164 (by decide))
                    refine zt_iconst (pc' := 164) hX dX12_pane_163 rfl ?_
                    refine zt_iadd (pc' := 165) hX dX12_pane_164 rfl ?_
                    refine zt_wrap (fun r777 zr777 lr777 ur777 => ?_)
                    clear zr777
                    refine zt_iast (pc' := 166) hX dX12_pane_165 rfl (by decide) zc_166 zs_48 (by decide) ⟨by omega, by omega⟩ ?_
                    rw [show Int.toNat 1 = 1 from rfl]
                    generalize hs779 : zset s743 166 1 r777 = s778
                    have hI780 : zInv s778 := hs779 ▸ zp_48 hI745 zc_166 1 ⟨by omega, by omega⟩
                    have hF781 : zOn zQr σ s778 := hs779 ▸ zOn_set hF746 rfl
                    have hT782 := yTq_rk hT768 (yRq_set hs779 zc_166 (by decide))
                    have hE783 : yqs f s778 = p493 := (yqs_rk (yRq_set hs779 zc_166 (by decide))).trans hE769
                    have e784 : s778 164 2 = s743 164 2 := by rw [← hs779]; exact zset_k (zne_r zc_164 zc_166 (by decide))
                    have e785 : s778 164 3 = s743 164 3 := by rw [← hs779]; exact zset_k (zne_r zc_164 zc_166 (by decide))
                    have e786 : s778 164 4 = s743 164 4 := by rw [← hs779]; exact zset_k (zne_r zc_164 zc_166 (by decide))
                    have e787 : s778 164 5 = s743 164 5 := by rw [← hs779]; exact zset_k (zne_r zc_164 zc_166 (by decide))
                    have e788 : s778 164 6 = s743 164 6 := by rw [← hs779]; exact zset_k (zne_r zc_164 zc_166 (by decide))
                    have e789 : s778 164 48 = s743 164 48 := by rw [← hs779]; exact zset_k (zne_r zc_164 zc_166 (by decide))
                    have e790 : s778 164 49 = s743 164 49 := by rw [← hs779]; exact zset_k (zne_r zc_164 zc_166 (by decide))
                    have e791 : s778 194 0 = s743 194 0 := by rw [← hs779]; exact zset_k (zne_r zc_194 zc_166 (by decide))
                    have e792 : s778 194 1 = s743 194 1 := by rw [← hs779]; exact zset_k (zne_r zc_194 zc_166 (by decide))
                    have e793 : s778 195 0 = s743 195 0 := by rw [← hs779]; exact zset_k (zne_r zc_195 zc_166 (by decide))
                    have e794 : s778 200 0 = s743 200 0 := by rw [← hs779]; exact zset_k (zne_r zc_200 zc_166 (by decide))
                    have e795 : s778 200 1 = s743 200 1 := by rw [← hs779]; exact zset_k (zne_r zc_200 zc_166 (by decide))
                    have e796 : s778 199 0 = s743 199 0 := by rw [← hs779]; exact zset_k (zne_r zc_199 zc_166 (by decide))
                    have e797 : s778 199 1 = s743 199 1 := by rw [← hs779]; exact zset_k (zne_r zc_199 zc_166 (by decide))
                    have e798 : s778 199 2 = s743 199 2 := by rw [← hs779]; exact zset_k (zne_r zc_199 zc_166 (by decide))
                    have e799 : s778 194 3 = s743 194 3 := by rw [← hs779]; exact zset_k (zne_r zc_194 zc_166 (by decide))
                    have e800 : s778 194 4 = s743 194 4 := by rw [← hs779]; exact zset_k (zne_r zc_194 zc_166 (by decide))
                    have e801 : s778 195 1 = s743 195 1 := by rw [← hs779]; exact zset_k (zne_r zc_195 zc_166 (by decide))
                    have e802 : s778 164 50 = s743 164 50 := by rw [← hs779]; exact zset_k (zne_r zc_164 zc_166 (by decide))
                    have e803 : s778 164 7 = s743 164 7 := by rw [← hs779]; exact zset_k (zne_r zc_164 zc_166 (by decide))
                    have e804 : s778 164 8 = s743 164 8 := by rw [← hs779]; exact zset_k (zne_r zc_164 zc_166 (by decide))
                    have nf805 : ∀ i : Nat, 10 ≤ i → s778 196 i = σ 196 i := fun i hi => (show s778 196 i = s743 196 i by rw [← hs779]; exact zset_k (by decide)).trans (nf770 i hi)
                    refine zt_iconst (pc' := 167) hX dX12_pane_166 rfl ?_
                    exact zt_iret hX hR dX12_pane_167 ⟨by omega, by omega⟩ ⟨hI780, hF781, by omega, by omega, (by rw [← hf, b517.2]; exact ⟨fun o => absurd o (by omega), fun _ => rfl⟩), (fun o => by rw [← hf, b517.2] at o; omega), (fun _ => ⟨by omega, by omega, by omega, by omega⟩), (by rw [← hf, b517.2, ← hE783]; exact yflt hT782 (by omega) (by omega)), (fun o => by rw [← hf, b517.2] at o; exact absurd o (by omega)), (fun _ => nf805)⟩
                · exact absurd c713 (by omega)
          refine zt_mask [true, false] rfl ?_
          exact L_111_498 _ s462 (yPs f 59 (yPan f (yP.ok (yS f 0)))) hI464 hF465 hT487 hE488 (by omega) (yLq_0 (by omega) rfl (fun o => by have t := z429 o; exact ⟨yTe_p (by omega) (by omega) (by omega) ((show s462 194 0 = s422 194 0 by omega).trans t.1) ((show s462 194 1 = s422 194 1 by omega).trans t.2.1) ⟨by omega, by omega, by omega, by omega, by omega, by omega⟩, by have := (yQb_q hT487 hE488) o; omega, by omega⟩)) nf489 (Nat.lt_succ_self _)
        · refine zt_aload_n (pc' := 54) hX dX12_pane_53 rfl rfl ?_
          refine zt_get (pc' := 57) (v := .ref (X.1.1 + 197)) hX dX12_pane_54 rfl zf_X12_112 (by decide) zc_164 zs_46 (zrf_of (zv_46_42 hI253 zc_164)) ?_
          refine zt_iload_n (pc' := 58) hX dX12_pane_57 rfl rfl ?_
          refine zt_iconst (pc' := 59) hX dX12_pane_58 rfl ?_
          refine zt_iast (pc' := 60) hX dX12_pane_59 rfl (by decide) zc_197 zs_79 (by decide) ⟨by omega, by omega⟩ ?_
          generalize hs807 : zset s252 197 (x249.toNat) 1 = s806
          have hI808 : zInv s806 := hs807 ▸ zp_79 hI253 zc_197 (x249.toNat) ⟨by omega, by omega⟩
          have hF809 : zOn zQr σ s806 := hs807 ▸ zOn_set hF254 rfl
          have hT810 := yTq_rk hT256 (yRq_set hs807 zc_197 (by decide))
          have hE811 : yqs f s806 = (yP.ok (yS f 0)) := (yqs_rk (yRq_set hs807 zc_197 (by decide))).trans hE257
          have e812 : s806 164 2 = s252 164 2 := by rw [← hs807]; exact zset_k (zne_r zc_164 zc_197 (by decide))
          have e813 : s806 164 3 = s252 164 3 := by rw [← hs807]; exact zset_k (zne_r zc_164 zc_197 (by decide))
          have e814 : s806 164 4 = s252 164 4 := by rw [← hs807]; exact zset_k (zne_r zc_164 zc_197 (by decide))
          have e815 : s806 164 5 = s252 164 5 := by rw [← hs807]; exact zset_k (zne_r zc_164 zc_197 (by decide))
          have e816 : s806 164 6 = s252 164 6 := by rw [← hs807]; exact zset_k (zne_r zc_164 zc_197 (by decide))
          have e817 : s806 164 48 = s252 164 48 := by rw [← hs807]; exact zset_k (zne_r zc_164 zc_197 (by decide))
          have e818 : s806 164 49 = s252 164 49 := by rw [← hs807]; exact zset_k (zne_r zc_164 zc_197 (by decide))
          have e819 : s806 194 0 = s252 194 0 := by rw [← hs807]; exact zset_k (zne_r zc_194 zc_197 (by decide))
          have e820 : s806 194 1 = s252 194 1 := by rw [← hs807]; exact zset_k (zne_r zc_194 zc_197 (by decide))
          have e821 : s806 195 0 = s252 195 0 := by rw [← hs807]; exact zset_k (zne_r zc_195 zc_197 (by decide))
          have e822 : s806 200 0 = s252 200 0 := by rw [← hs807]; exact zset_k (zne_r zc_200 zc_197 (by decide))
          have e823 : s806 200 1 = s252 200 1 := by rw [← hs807]; exact zset_k (zne_r zc_200 zc_197 (by decide))
          have e824 : s806 199 0 = s252 199 0 := by rw [← hs807]; exact zset_k (zne_r zc_199 zc_197 (by decide))
          have e825 : s806 199 1 = s252 199 1 := by rw [← hs807]; exact zset_k (zne_r zc_199 zc_197 (by decide))
          have e826 : s806 199 2 = s252 199 2 := by rw [← hs807]; exact zset_k (zne_r zc_199 zc_197 (by decide))
          have e827 : s806 194 3 = s252 194 3 := by rw [← hs807]; exact zset_k (zne_r zc_194 zc_197 (by decide))
          have e828 : s806 194 4 = s252 194 4 := by rw [← hs807]; exact zset_k (zne_r zc_194 zc_197 (by decide))
          have e829 : s806 195 1 = s252 195 1 := by rw [← hs807]; exact zset_k (zne_r zc_195 zc_197 (by decide))
          have e830 : s806 164 50 = s252 164 50 := by rw [← hs807]; exact zset_k (zne_r zc_164 zc_197 (by decide))
          have e831 : s806 164 7 = s252 164 7 := by rw [← hs807]; exact zset_k (zne_r zc_164 zc_197 (by decide))
          have e832 : s806 164 8 = s252 164 8 := by rw [← hs807]; exact zset_k (zne_r zc_164 zc_197 (by decide))
          have nf833 : ∀ i : Nat, 10 ≤ i → s806 196 i = σ 196 i := fun i hi => (show s806 196 i = s252 196 i by rw [← hs807]; exact zset_k (by decide)).trans (g262 i hi)
          refine zt_iinc (pc' := 63) (lv' := [some (.ref (X.1.1 + 164)), some (.int (zI (x249 + 1)))]) hX dX12_pane_60 rfl rfl hL (by decide) rfl ?_
          refine zt_goto (tgt := 47) hX dX12_pane_63 (by decide) ?_
          exact ih265 (x249 + 1) s806 (yP.ok (yS f 0)) (by omega) (by omega) hI808 hF809 hT810 hE811 (by omega) (by omega) (by omega) rfl nf833 (by omega)
  exact L_47_262 _ 0 s221 (yP.ok (yS f 0)) (by omega) (by omega) hI223 hF224 hT225 hE226 (by omega) (by omega) (by omega) rfl nf248 (Nat.lt_succ_self _)
