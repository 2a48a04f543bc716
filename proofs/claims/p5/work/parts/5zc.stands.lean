set_option maxRecDepth 100000 in
set_option maxHeartbeats 16000000 in
theorem yc_X12_stands (l : Launch) (E : zEN) (σ : zSto) (hI : zInv σ) (hpre0 : 2 ≤ σ 194 0 ∧ σ 194 0 ≤ 6 ∧ 2 ≤ σ 194 1 ∧ σ 194 1 ≤ 6) (hpre1 : 0 ≤ σ 199 0 ∧ σ 199 0 ≤ 100 ∧ 0 ≤ σ 199 1 ∧ σ 199 1 ≤ 100 ∧ 0 ≤ σ 199 2 ∧ σ 199 2 ≤ 100) (hpre2 : σ 164 48 ≤ 1600) : zCt l E yX12_stands cX12_stands 2 none 0 zNC zNC 0 0 σ [.ref (E.1 + 164)] (fun r σ' => zInv σ' ∧ zFN σ σ' ∧ (σ' 164 49 = σ 164 49) ∧ (σ' 195 1 = σ 195 0 ∧ σ' 164 50 = 1 ∧ σ' 194 3 = σ 194 0 ∧ σ' 194 4 = σ 194 1) ∧ (σ' 164 7 = σ 164 7 ∧ σ' 164 8 = σ 164 8) ∧ (yNz σ σ' 10 = 1)) := by
  refine zCt_of2 [some (.ref (E.1 + 164)), none] (by decide +kernel) (Nat.le_of_ble_eq_true rfl) rfl ?_
  intro X hE hX hR hL hN
  subst hE
  have hX : zok X cX12_stands RX12 0 := hX
  have hF := zFN_rf σ
  have hws := zwz_rf σ
  have hz0 := yNz_0 σ
  have b1 := zv_77 hI zc_195 0
  have b2 := zv_77 hI zc_195 1
  have b3 := zv_46_48 hI zc_164
  have b4 := zv_46_49 hI zc_164
  have b5 := zv_46_50 hI zc_164
  have b6 := zv_46_7 hI zc_164
  have b7 := zv_46_8 hI zc_164
  refine zt_aload_n (pc' := 1) hX dX12_stands_0 rfl rfl ?_
  refine zt_iconst (pc' := 2) hX dX12_stands_1 rfl ?_
  refine zt_put (pc' := 5) (x := 1) hX dX12_stands_2 rfl zf_X12_375 (by decide) zc_164 zs_46 (fun q hq => by cases hq; rfl) rfl (zfit_z (by omega) (by omega)).1 (zfit_z (by omega) (by omega)).2 ?_
  generalize hs9 : zset σ 164 50 1 = s8
  have hI10 : zInv s8 := hs9 ▸ zp_46_50 hI zc_164 ⟨by omega, by omega⟩
  have hF11 : zFN σ s8 := hs9 ▸ zFN_set hF zc_164 (by decide) zk_46
  have w12 := zwz_set (σ := σ) hs9 (by omega) (by omega)
  have e13 : s8 194 0 = σ 194 0 := by rw [← hs9]; exact zset_k (zne_r zc_194 zc_164 (by decide))
  have e14 : s8 194 1 = σ 194 1 := by rw [← hs9]; exact zset_k (zne_r zc_194 zc_164 (by decide))
  have e15 : s8 194 3 = σ 194 3 := by rw [← hs9]; exact zset_k (zne_r zc_194 zc_164 (by decide))
  have e16 : s8 194 4 = σ 194 4 := by rw [← hs9]; exact zset_k (zne_r zc_194 zc_164 (by decide))
  have e17 : s8 195 0 = σ 195 0 := by rw [← hs9]; exact zset_k (zne_r zc_195 zc_164 (by decide))
  have e18 : s8 195 1 = σ 195 1 := by rw [← hs9]; exact zset_k (zne_r zc_195 zc_164 (by decide))
  have e19 : s8 164 48 = σ 164 48 := by rw [← hs9]; exact zset_j (by decide)
  have e20 : s8 164 49 = σ 164 49 := by rw [← hs9]; exact zset_j (by decide)
  have e21 : s8 164 50 = 1 := by rw [← hs9]; exact zset_s
  have e22 : s8 164 7 = σ 164 7 := by rw [← hs9]; exact zset_j (by decide)
  have e23 : s8 164 8 = σ 164 8 := by rw [← hs9]; exact zset_j (by decide)
  have h24n := yNz_k (σ := σ) hs9 (by decide) 0
  refine zt_aload_n (pc' := 6) hX dX12_stands_5 rfl rfl ?_
  refine zt_get (pc' := 9) (v := .ref (X.1.1 + 195)) hX dX12_stands_6 rfl zf_X12_105 (by decide) zc_164 zs_46 (zrf_of (zv_46_40 hI10 zc_164)) ?_
  refine zt_iconst (pc' := 10) hX dX12_stands_9 rfl ?_
  refine zt_aload_n (pc' := 11) hX dX12_stands_10 rfl rfl ?_
  refine zt_get (pc' := 14) (v := .ref (X.1.1 + 195)) hX dX12_stands_11 rfl zf_X12_105 (by decide) zc_164 zs_46 (zrf_of (zv_46_40 hI10 zc_164)) ?_
  refine zt_iconst (pc' := 15) hX dX12_stands_14 rfl ?_
  refine zt_iald (pc' := 16) hX dX12_stands_15 rfl (by decide) zc_195 zs_77 (by decide) ⟨by omega, by omega⟩ ?_
  rw [show Int.toNat 0 = 0 from rfl]
  have b26 := zv_77 hI10 zc_195 0
  refine zt_iast (pc' := 17) hX dX12_stands_16 rfl (by decide) zc_195 zs_77 (by decide) ⟨by omega, by omega⟩ ?_
  rw [show Int.toNat 1 = 1 from rfl]
  generalize hs28 : zset s8 195 1 (s8 195 0) = s27
  have hI29 : zInv s27 := hs28 ▸ zp_77 hI10 zc_195 1 ⟨by omega, by omega⟩
  have hF30 : zFN σ s27 := hs28 ▸ zFN_set hF11 zc_195 (by decide) zk_77
  have w31 := zwz_set (σ := σ) hs28 (by omega) (by omega)
  have e32 : s27 194 0 = s8 194 0 := by rw [← hs28]; exact zset_k (zne_r zc_194 zc_195 (by decide))
  have e33 : s27 194 1 = s8 194 1 := by rw [← hs28]; exact zset_k (zne_r zc_194 zc_195 (by decide))
  have e34 : s27 194 3 = s8 194 3 := by rw [← hs28]; exact zset_k (zne_r zc_194 zc_195 (by decide))
  have e35 : s27 194 4 = s8 194 4 := by rw [← hs28]; exact zset_k (zne_r zc_194 zc_195 (by decide))
  have e36 : s27 195 0 = s8 195 0 := by rw [← hs28]; exact zset_j (by decide)
  have e37 : s27 195 1 = (s8 195 0) := by rw [← hs28]; exact zset_s
  have e38 : s27 164 48 = s8 164 48 := by rw [← hs28]; exact zset_k (zne_r zc_164 zc_195 (by decide))
  have e39 : s27 164 49 = s8 164 49 := by rw [← hs28]; exact zset_k (zne_r zc_164 zc_195 (by decide))
  have e40 : s27 164 50 = s8 164 50 := by rw [← hs28]; exact zset_k (zne_r zc_164 zc_195 (by decide))
  have e41 : s27 164 7 = s8 164 7 := by rw [← hs28]; exact zset_k (zne_r zc_164 zc_195 (by decide))
  have e42 : s27 164 8 = s8 164 8 := by rw [← hs28]; exact zset_k (zne_r zc_164 zc_195 (by decide))
  have h43n := yNz_k (σ := σ) hs28 (by decide) 0
  refine zt_iconst (pc' := 18) hX dX12_stands_17 rfl ?_
  refine zt_istore_n (pc' := 19) (lv' := [some (.ref (X.1.1 + 164)), some (.int (zI 0))]) hX dX12_stands_18 rfl hL (by decide) rfl ?_
  have L_19_58 : ∀ (N : Nat) (x44 : Int) (s47 : zSto), 0 ≤ x44 → x44 ≤ 3 → zInv s47 → zFN σ s47 → (1 ≤ x44 → s47 194 3 = s47 194 0) → (2 ≤ x44 → s47 194 4 = s47 194 1) → yNz σ s47 0 = 1 → zwz σ s47 = 1 → s47 164 49 = σ 164 49 → s47 195 1 = σ 195 0 → s47 164 50 = 1 → s47 195 0 = σ 195 0 → (s47 164 7 = σ 164 7 ∧ s47 164 8 = σ 164 8) → ((4 - x44).toNat) < N → zF X s47 19 [some (.ref (X.1.1 + 164)), some (.int (zI x44))] [] := by
    intro N
    induction N with
    | zero =>
      intro x44 s47 h45 h46 hI48 hF49 g50 g51 g52 g53 g54 g55 g56 g57 g58 hm60
      exact absurd hm60 (Nat.not_lt_zero _)
    | succ N ih61 =>
      intro x44 s47 h45 h46 hI48 hF49 g50 g51 g52 g53 g54 g55 g56 g57 g58 hm60
      have b62 := zv_77 hI48 zc_195 0
      have b63 := zv_77 hI48 zc_195 1
      have b64 := zv_46_48 hI48 zc_164
      have b65 := zv_46_49 hI48 zc_164
      have b66 := zv_46_50 hI48 zc_164
      have b67 := zv_46_7 hI48 zc_164
      have b68 := zv_46_8 hI48 zc_164
      refine zt_iload_n (pc' := 20) hX dX12_stands_19 rfl rfl ?_
      refine zt_iconst (pc' := 21) hX dX12_stands_20 rfl ?_
      refine zt_icge (pc' := 24) (tgt := 58) hX dX12_stands_21 rfl (by decide) ⟨by omega, by omega⟩ ⟨by omega, by omega⟩ (fun c69 => ?_) (fun c69 => ?_)
      · refine zt_iconst (pc' := 59) hX dX12_stands_58 rfl ?_
        refine zt_istore_n (pc' := 60) (lv' := [some (.ref (X.1.1 + 164)), some (.int (zI 0))]) hX dX12_stands_59 rfl hL (by decide) rfl ?_
        have L_60_83 : ∀ (N : Nat) (x70 : Int) (s73 : zSto), 0 ≤ x70 → x70 ≤ 2 → zInv s73 → zFN σ s73 → (s73 194 3 = s73 194 0 ∧ s73 194 4 = s73 194 1) → yNz σ s73 0 = 1 → zwz σ s73 = 1 → s73 164 49 = σ 164 49 → s73 195 1 = σ 195 0 → s73 164 50 = 1 → s73 195 0 = σ 195 0 → (s73 164 7 = σ 164 7 ∧ s73 164 8 = σ 164 8) → ((3 - x70).toNat) < N → zF X s73 60 [some (.ref (X.1.1 + 164)), some (.int (zI x70))] [] := by
          intro N
          induction N with
          | zero =>
            intro x70 s73 h71 h72 hI74 hF75 g76 g77 g78 g79 g80 g81 g82 g83 hm85
            exact absurd hm85 (Nat.not_lt_zero _)
          | succ N ih86 =>
            intro x70 s73 h71 h72 hI74 hF75 g76 g77 g78 g79 g80 g81 g82 g83 hm85
            clear c69 b68 b67 b66 b65 b64 b63 b62 hm60 g58 g57 g56 g55 g54 g53 g52 g51 g50 hF49 hI48 h46 h45 ih61
            have b87 := zv_77 hI74 zc_195 0
            have b88 := zv_77 hI74 zc_195 1
            have b89 := zv_46_48 hI74 zc_164
            have b90 := zv_46_49 hI74 zc_164
            have b91 := zv_46_50 hI74 zc_164
            have b92 := zv_46_7 hI74 zc_164
            have b93 := zv_46_8 hI74 zc_164
            refine zt_iload_n (pc' := 61) hX dX12_stands_60 rfl rfl ?_
            refine zt_iconst (pc' := 62) hX dX12_stands_61 rfl ?_
            refine zt_icge (pc' := 65) (tgt := 99) hX dX12_stands_62 rfl (by decide) ⟨by omega, by omega⟩ ⟨by omega, by omega⟩ (fun c94 => ?_) (fun c94 => ?_)
            · refine zt_iconst (pc' := 100) hX dX12_stands_99 rfl ?_
              refine zt_istore_n (pc' := 101) (lv' := [some (.ref (X.1.1 + 164)), some (.int (zI 0))]) hX dX12_stands_100 rfl hL (by decide) rfl ?_
              have L_101_108 : ∀ (N : Nat) (x95 : Int) (s98 : zSto), 0 ≤ x95 → x95 ≤ 10 → zInv s98 → zFN σ s98 → (s98 194 3 = s98 194 0 ∧ s98 194 4 = s98 194 1) → yNz σ s98 x95 = 1 → zwz σ s98 = 1 → s98 164 49 = σ 164 49 → s98 195 1 = σ 195 0 → s98 164 50 = 1 → s98 195 0 = σ 195 0 → (s98 164 7 = σ 164 7 ∧ s98 164 8 = σ 164 8) → ((11 - x95).toNat) < N → zF X s98 101 [some (.ref (X.1.1 + 164)), some (.int (zI x95))] [] := by
                intro N
                induction N with
                | zero =>
                  intro x95 s98 h96 h97 hI99 hF100 g101 g102 g103 g104 g105 g106 g107 g108 hm110
                  exact absurd hm110 (Nat.not_lt_zero _)
                | succ N ih111 =>
                  intro x95 s98 h96 h97 hI99 hF100 g101 g102 g103 g104 g105 g106 g107 g108 hm110
                  clear c94 b93 b92 b91 b90 b89 b88 b87 hm85 g83 g82 g81 g80 g79 g78 g77 g76 hF75 hI74 h72 h71 ih86
                  have b112 := zv_77 hI99 zc_195 0
                  have b113 := zv_77 hI99 zc_195 1
                  have b114 := zv_46_48 hI99 zc_164
                  have b115 := zv_46_49 hI99 zc_164
                  have b116 := zv_46_50 hI99 zc_164
                  have b117 := zv_46_7 hI99 zc_164
                  have b118 := zv_46_8 hI99 zc_164
                  refine zt_iload_n (pc' := 102) hX dX12_stands_101 rfl rfl ?_
                  refine zt_bipush (pc' := 104) hX dX12_stands_102 rfl (by decide) (by decide) ?_
                  refine zt_icge (pc' := 107) (tgt := 128) hX dX12_stands_104 rfl (by decide) ⟨by omega, by omega⟩ ⟨by omega, by omega⟩ (fun c119 => ?_) (fun c119 => ?_)
                  · refine zt_iconst (pc' := 129) hX dX12_stands_128 rfl ?_
                    have h120n := yNz_e (σ := σ) (s := s98) (k := x95) (by omega) (by omega)
                    refine zt_istore_n (pc' := 130) (lv' := [some (.ref (X.1.1 + 164)), some (.int (zI 0))]) hX dX12_stands_129 rfl hL (by decide) rfl ?_
                    have L_130_134 : ∀ (N : Nat) (x121 : Int) (s124 : zSto), 0 ≤ x121 → x121 ≤ 36 → zInv s124 → zFN σ s124 → (s124 194 3 = s124 194 0 ∧ s124 194 4 = s124 194 1) → yNz σ s124 10 = 1 → zwz σ s124 = 1 → s124 164 49 = σ 164 49 → s124 195 1 = σ 195 0 → s124 164 50 = 1 → s124 195 0 = σ 195 0 → (s124 164 7 = σ 164 7 ∧ s124 164 8 = σ 164 8) → ((37 - x121).toNat) < N → zF X s124 130 [some (.ref (X.1.1 + 164)), some (.int (zI x121))] [] := by
                      intro N
                      induction N with
                      | zero =>
                        intro x121 s124 h122 h123 hI125 hF126 g127 g128 g129 g130 g131 g132 g133 g134 hm136
                        exact absurd hm136 (Nat.not_lt_zero _)
                      | succ N ih137 =>
                        intro x121 s124 h122 h123 hI125 hF126 g127 g128 g129 g130 g131 g132 g133 g134 hm136
                        clear h120n c119 b118 b117 b116 b115 b114 b113 b112 hm110 g108 g107 g106 g105 g104 g103 g102 g101 hF100 hI99 h97 h96 ih111
                        have b138 := zv_77 hI125 zc_195 0
                        have b139 := zv_77 hI125 zc_195 1
                        have b140 := zv_46_48 hI125 zc_164
                        have b141 := zv_46_49 hI125 zc_164
                        have b142 := zv_46_50 hI125 zc_164
                        have b143 := zv_46_7 hI125 zc_164
                        have b144 := zv_46_8 hI125 zc_164
                        refine zt_iload_n (pc' := 131) hX dX12_stands_130 rfl rfl ?_
                        refine zt_bipush (pc' := 133) hX dX12_stands_131 rfl (by decide) (by decide) ?_
                        refine zt_icge (pc' := 136) (tgt := 157) hX dX12_stands_133 rfl (by decide) ⟨by omega, by omega⟩ ⟨by omega, by omega⟩ (fun c145 => ?_) (fun c145 => ?_)
                        · refine zt_iconst (pc' := 158) hX dX12_stands_157 rfl ?_
                          refine zt_istore_n (pc' := 159) (lv' := [some (.ref (X.1.1 + 164)), some (.int (zI 0))]) hX dX12_stands_158 rfl hL (by decide) rfl ?_
                          have L_159_159 : ∀ (N : Nat) (x146 : Int) (s149 : zSto), 0 ≤ x146 → x146 ≤ 20 → zInv s149 → zFN σ s149 → (s149 194 3 = s149 194 0 ∧ s149 194 4 = s149 194 1) → yNz σ s149 10 = 1 → zwz σ s149 = 1 → s149 164 49 = σ 164 49 → s149 195 1 = σ 195 0 → s149 164 50 = 1 → s149 195 0 = σ 195 0 → (s149 164 7 = σ 164 7 ∧ s149 164 8 = σ 164 8) → ((21 - x146).toNat) < N → zF X s149 159 [some (.ref (X.1.1 + 164)), some (.int (zI x146))] [] := by
                            intro N
                            induction N with
                            | zero =>
                              intro x146 s149 h147 h148 hI150 hF151 g152 g153 g154 g155 g156 g157 g158 g159 hm161
                              exact absurd hm161 (Nat.not_lt_zero _)
                            | succ N ih162 =>
                              intro x146 s149 h147 h148 hI150 hF151 g152 g153 g154 g155 g156 g157 g158 g159 hm161
                              clear c145 b144 b143 b142 b141 b140 b139 b138 hm136 g134 g133 g132 g131 g130 g129 g128 g127 hF126 hI125 h123 h122 ih137
                              have b163 := zv_77 hI150 zc_195 0
                              have b164 := zv_77 hI150 zc_195 1
                              have b165 := zv_46_48 hI150 zc_164
                              have b166 := zv_46_49 hI150 zc_164
                              have b167 := zv_46_50 hI150 zc_164
                              have b168 := zv_46_7 hI150 zc_164
                              have b169 := zv_46_8 hI150 zc_164
                              refine zt_iload_n (pc' := 160) hX dX12_stands_159 rfl rfl ?_
                              refine zt_bipush (pc' := 162) hX dX12_stands_160 rfl (by decide) (by decide) ?_
                              refine zt_icge (pc' := 165) (tgt := 186) hX dX12_stands_162 rfl (by decide) ⟨by omega, by omega⟩ ⟨by omega, by omega⟩ (fun c170 => ?_) (fun c170 => ?_)
                              · refine zt_iconst (pc' := 187) hX dX12_stands_186 rfl ?_
                                refine zt_istore_n (pc' := 188) (lv' := [some (.ref (X.1.1 + 164)), some (.int (zI 0))]) hX dX12_stands_187 rfl hL (by decide) rfl ?_
                                have h171f := zwz_f (σ := σ) (s := s149) (by omega)
                                have L_188_186 : ∀ (N : Nat) (x172 : Int) (s175 : zSto), 0 ≤ x172 → x172 ≤ 3200 → zInv s175 → zFN σ s175 → (s175 194 3 = s175 194 0 ∧ s175 194 4 = s175 194 1) → s175 164 48 ≤ 1600 → yNz σ s175 10 = 1 → zwz σ s175 = 1 → s175 164 49 = σ 164 49 → s175 195 1 = σ 195 0 → s175 164 50 = 1 → s175 195 0 = σ 195 0 → (s175 164 7 = σ 164 7 ∧ s175 164 8 = σ 164 8) → ((3201 - x172).toNat) < N → zF X s175 188 [some (.ref (X.1.1 + 164)), some (.int (zI x172))] [] := by
                                  intro N
                                  induction N with
                                  | zero =>
                                    intro x172 s175 h173 h174 hI176 hF177 g178 g179 g180 g181 g182 g183 g184 g185 g186 hm188
                                    exact absurd hm188 (Nat.not_lt_zero _)
                                  | succ N ih189 =>
                                    intro x172 s175 h173 h174 hI176 hF177 g178 g179 g180 g181 g182 g183 g184 g185 g186 hm188
                                    clear h171f c170 b169 b168 b167 b166 b165 b164 b163 hm161 g159 g158 g157 g156 g155 g154 g153 g152 hF151 hI150 h148 h147 ih162
                                    have b190 := zv_77 hI176 zc_195 0
                                    have b191 := zv_77 hI176 zc_195 1
                                    have b192 := zv_46_48 hI176 zc_164
                                    have b193 := zv_46_49 hI176 zc_164
                                    have b194 := zv_46_50 hI176 zc_164
                                    have b195 := zv_46_7 hI176 zc_164
                                    have b196 := zv_46_8 hI176 zc_164
                                    refine zt_iload_n (pc' := 189) hX dX12_stands_188 rfl rfl ?_
                                    refine zt_aload_n (pc' := 190) hX dX12_stands_189 rfl rfl ?_
                                    have b197 := zv_46_48 hI176 zc_164
                                    refine zt_get (pc' := 193) (v := .int (zI (s175 164 48))) hX dX12_stands_190 rfl zf_X12_348 (by decide) zc_164 zs_46 rfl ?_
                                    refine zt_icge (pc' := 196) (tgt := 218) hX dX12_stands_193 rfl (by decide) ⟨by omega, by omega⟩ ⟨by omega, by omega⟩ (fun c198 => ?_) (fun c198 => ?_)
                                    · refine zt_iconst (pc' := 219) hX dX12_stands_218 rfl ?_
                                      refine zt_istore_n (pc' := 220) (lv' := [some (.ref (X.1.1 + 164)), some (.int (zI 0))]) hX dX12_stands_219 rfl hL (by decide) rfl ?_
                                      have L_220_212 : ∀ (N : Nat) (x199 : Int) (s202 : zSto), 0 ≤ x199 → x199 ≤ 188 → zInv s202 → zFN σ s202 → (s202 194 3 = s202 194 0 ∧ s202 194 4 = s202 194 1) → yNz σ s202 10 = 1 → zwz σ s202 = 1 → s202 164 49 = σ 164 49 → s202 195 1 = σ 195 0 → s202 164 50 = 1 → s202 195 0 = σ 195 0 → (s202 164 7 = σ 164 7 ∧ s202 164 8 = σ 164 8) → ((189 - x199).toNat) < N → zF X s202 220 [some (.ref (X.1.1 + 164)), some (.int (zI x199))] [] := by
                                        intro N
                                        induction N with
                                        | zero =>
                                          intro x199 s202 h200 h201 hI203 hF204 g205 g206 g207 g208 g209 g210 g211 g212 hm214
                                          exact absurd hm214 (Nat.not_lt_zero _)
                                        | succ N ih215 =>
                                          intro x199 s202 h200 h201 hI203 hF204 g205 g206 g207 g208 g209 g210 g211 g212 hm214
                                          clear c198 b197 b196 b195 b194 b193 b192 b191 b190 hm188 g186 g185 g184 g183 g182 g181 g180 g179 g178 hF177 hI176 h174 h173 ih189
                                          have b216 := zv_77 hI203 zc_195 0
                                          have b217 := zv_77 hI203 zc_195 1
                                          have b218 := zv_46_48 hI203 zc_164
                                          have b219 := zv_46_49 hI203 zc_164
                                          have b220 := zv_46_50 hI203 zc_164
                                          have b221 := zv_46_7 hI203 zc_164
                                          have b222 := zv_46_8 hI203 zc_164
                                          refine zt_iload_n (pc' := 221) hX dX12_stands_220 rfl rfl ?_
                                          refine zt_sipush (pc' := 224) hX dX12_stands_221 rfl (by decide) (by decide) ?_
                                          refine zt_icge (pc' := 227) (tgt := 240) hX dX12_stands_224 rfl (by decide) ⟨by omega, by omega⟩ ⟨by omega, by omega⟩ (fun c223 => ?_) (fun c223 => ?_)
                                          · refine zt_iconst (pc' := 241) hX dX12_stands_240 rfl ?_
                                            refine zt_istore_n (pc' := 242) (lv' := [some (.ref (X.1.1 + 164)), some (.int (zI 0))]) hX dX12_stands_241 rfl hL (by decide) rfl ?_
                                            have L_242_237 : ∀ (N : Nat) (x224 : Int) (s227 : zSto), 0 ≤ x224 → x224 ≤ 10 → zInv s227 → zFN σ s227 → (s227 194 3 = s227 194 0 ∧ s227 194 4 = s227 194 1) → yNz σ s227 10 = 1 → zwz σ s227 = 1 → s227 164 49 = σ 164 49 → s227 195 1 = σ 195 0 → s227 164 50 = 1 → s227 195 0 = σ 195 0 → (s227 164 7 = σ 164 7 ∧ s227 164 8 = σ 164 8) → ((11 - x224).toNat) < N → zF X s227 242 [some (.ref (X.1.1 + 164)), some (.int (zI x224))] [] := by
                                              intro N
                                              induction N with
                                              | zero =>
                                                intro x224 s227 h225 h226 hI228 hF229 g230 g231 g232 g233 g234 g235 g236 g237 hm239
                                                exact absurd hm239 (Nat.not_lt_zero _)
                                              | succ N ih240 =>
                                                intro x224 s227 h225 h226 hI228 hF229 g230 g231 g232 g233 g234 g235 g236 g237 hm239
                                                clear c223 b222 b221 b220 b219 b218 b217 b216 hm214 g212 g211 g210 g209 g208 g207 g206 g205 hF204 hI203 h201 h200 ih215
                                                have b241 := zv_77 hI228 zc_195 0
                                                have b242 := zv_77 hI228 zc_195 1
                                                have b243 := zv_46_48 hI228 zc_164
                                                have b244 := zv_46_49 hI228 zc_164
                                                have b245 := zv_46_50 hI228 zc_164
                                                have b246 := zv_46_7 hI228 zc_164
                                                have b247 := zv_46_8 hI228 zc_164
                                                refine zt_iload_n (pc' := 243) hX dX12_stands_242 rfl rfl ?_
                                                refine zt_aload_n (pc' := 244) hX dX12_stands_243 rfl rfl ?_
                                                refine zt_get (pc' := 247) (v := .ref (X.1.1 + 195)) hX dX12_stands_244 rfl zf_X12_105 (by decide) zc_164 zs_46 (zrf_of (zv_46_40 hI228 zc_164)) ?_
                                                refine zt_iconst (pc' := 248) hX dX12_stands_247 rfl ?_
                                                refine zt_iald (pc' := 249) hX dX12_stands_248 rfl (by decide) zc_195 zs_77 (by decide) ⟨by omega, by omega⟩ ?_
                                                rw [show Int.toNat 0 = 0 from rfl]
                                                have b249 := zv_77 hI228 zc_195 0
                                                refine zt_icge (pc' := 252) (tgt := 277) hX dX12_stands_249 rfl (by decide) ⟨by omega, by omega⟩ ⟨by omega, by omega⟩ (fun c250 => ?_) (fun c250 => ?_)
                                                · refine zt_aload_n (pc' := 278) hX dX12_stands_277 rfl rfl ?_
                                                  refine zt_iconst (pc' := 279) hX dX12_stands_278 rfl ?_
                                                  refine zt_put (pc' := 282) (x := 0) hX dX12_stands_279 rfl zf_X12_379 (by decide) zc_164 zs_46 (fun q hq => by cases hq; rfl) rfl rfl rfl ?_
                                                  generalize hs252 : zset s227 164 70 0 = s251
                                                  have hI253 : zInv s251 := hs252 ▸ zp_46_70 hI228 zc_164 ⟨by omega, by omega⟩
                                                  have hF254 : zFN σ s251 := hs252 ▸ zFN_set hF229 zc_164 (by decide) zk_46
                                                  have w255 := zwz_set (σ := σ) hs252 (by omega) (by omega)
                                                  have e256 : s251 194 0 = s227 194 0 := by rw [← hs252]; exact zset_k (zne_r zc_194 zc_164 (by decide))
                                                  have e257 : s251 194 1 = s227 194 1 := by rw [← hs252]; exact zset_k (zne_r zc_194 zc_164 (by decide))
                                                  have e258 : s251 194 3 = s227 194 3 := by rw [← hs252]; exact zset_k (zne_r zc_194 zc_164 (by decide))
                                                  have e259 : s251 194 4 = s227 194 4 := by rw [← hs252]; exact zset_k (zne_r zc_194 zc_164 (by decide))
                                                  have e260 : s251 195 0 = s227 195 0 := by rw [← hs252]; exact zset_k (zne_r zc_195 zc_164 (by decide))
                                                  have e261 : s251 195 1 = s227 195 1 := by rw [← hs252]; exact zset_k (zne_r zc_195 zc_164 (by decide))
                                                  have e262 : s251 164 48 = s227 164 48 := by rw [← hs252]; exact zset_j (by decide)
                                                  have e263 : s251 164 49 = s227 164 49 := by rw [← hs252]; exact zset_j (by decide)
                                                  have e264 : s251 164 50 = s227 164 50 := by rw [← hs252]; exact zset_j (by decide)
                                                  have e265 : s251 164 7 = s227 164 7 := by rw [← hs252]; exact zset_j (by decide)
                                                  have e266 : s251 164 8 = s227 164 8 := by rw [← hs252]; exact zset_j (by decide)
                                                  have h267n := yNz_k (σ := σ) hs252 (by decide) 10
                                                  refine zt_aload_n (pc' := 283) hX dX12_stands_282 rfl rfl ?_
                                                  refine zt_iconst (pc' := 284) hX dX12_stands_283 rfl ?_
                                                  refine zt_put (pc' := 287) (x := 0) hX dX12_stands_284 rfl zf_X12_382 (by decide) zc_164 zs_46 (fun q hq => by cases hq; rfl) rfl rfl rfl ?_
                                                  generalize hs269 : zset s251 164 64 0 = s268
                                                  have hI270 : zInv s268 := hs269 ▸ zp_46_64 hI253 zc_164 ⟨by omega, by omega⟩
                                                  have hF271 : zFN σ s268 := hs269 ▸ zFN_set hF254 zc_164 (by decide) zk_46
                                                  have w272 := zwz_set (σ := σ) hs269 (by omega) (by omega)
                                                  have e273 : s268 194 0 = s251 194 0 := by rw [← hs269]; exact zset_k (zne_r zc_194 zc_164 (by decide))
                                                  have e274 : s268 194 1 = s251 194 1 := by rw [← hs269]; exact zset_k (zne_r zc_194 zc_164 (by decide))
                                                  have e275 : s268 194 3 = s251 194 3 := by rw [← hs269]; exact zset_k (zne_r zc_194 zc_164 (by decide))
                                                  have e276 : s268 194 4 = s251 194 4 := by rw [← hs269]; exact zset_k (zne_r zc_194 zc_164 (by decide))
                                                  have e277 : s268 195 0 = s251 195 0 := by rw [← hs269]; exact zset_k (zne_r zc_195 zc_164 (by decide))
                                                  have e278 : s268 195 1 = s251 195 1 := by rw [← hs269]; exact zset_k (zne_r zc_195 zc_164 (by decide))
                                                  have e279 : s268 164 48 = s251 164 48 := by rw [← hs269]; exact zset_j (by decide)
                                                  have e280 : s268 164 49 = s251 164 49 := by rw [← hs269]; exact zset_j (by decide)
                                                  have e281 : s268 164 50 = s251 164 50 := by rw [← hs269]; exact zset_j (by decide)
                                                  have e282 : s268 164 7 = s251 164 7 := by rw [← hs269]; exact zset_j (by decide)
                                                  have e283 : s268 164 8 = s251 164 8 := by rw [← hs269]; exact zset_j (by decide)
                                                  have h284f := zwz_f (σ := σ) (s := s268) (by omega)
                                                  have h284n := yNz_k (σ := σ) hs269 (by decide) 10
                                                  exact zt_vret hX hR dX12_stands_287 ⟨hI270, hF271, by omega, by omega, by omega, by omega⟩
                                                · refine zt_aload_n (pc' := 253) hX dX12_stands_252 rfl rfl ?_
                                                  refine zt_get (pc' := 256) (v := .ref (X.1.1 + 203)) hX dX12_stands_253 rfl zf_X12_130 (by decide) zc_164 zs_46 (zrf_of (zv_46_52 hI228 zc_164)) ?_
                                                  refine zt_bipush (pc' := 258) hX dX12_stands_256 rfl (by decide) (by decide) ?_
                                                  refine zt_iconst (pc' := 259) hX dX12_stands_258 rfl ?_
                                                  refine zt_iload_n (pc' := 260) hX dX12_stands_259 rfl rfl ?_
                                                  refine zt_imul (pc' := 261) hX dX12_stands_260 rfl ?_
                                                  refine zt_iadd (pc' := 262) hX dX12_stands_261 rfl ?_
                                                  refine zt_aload_n (pc' := 263) hX dX12_stands_262 rfl rfl ?_
                                                  refine zt_get (pc' := 266) (v := .ref (X.1.1 + 198)) hX dX12_stands_263 rfl zf_X12_115 (by decide) zc_164 zs_46 (zrf_of (zv_46_43 hI228 zc_164)) ?_
                                                  refine zt_iconst (pc' := 267) hX dX12_stands_266 rfl ?_
                                                  refine zt_iload_n (pc' := 268) hX dX12_stands_267 rfl rfl ?_
                                                  refine zt_imul (pc' := 269) hX dX12_stands_268 rfl ?_
                                                  refine zt_iald (pc' := 270) hX dX12_stands_269 rfl (by decide) zc_198 zs_80 (by decide) ⟨by omega, by omega⟩ ?_
                                                  have bv285 := zv_80 hI228 zc_198 ((2 * x224).toNat)
                                                  generalize hv285 : s227 198 ((2 * x224).toNat) = v285 at bv285 ⊢
                                                  refine zt_iast (pc' := 271) hX dX12_stands_270 rfl (by decide) zc_203 zs_85 (by decide) ⟨by omega, by omega⟩ ?_
                                                  generalize hs287 : zset s227 203 ((37 + (3 * x224)).toNat) v285 = s286
                                                  have hI288 : zInv s286 := hs287 ▸ zp_85 hI228 zc_203 ((37 + (3 * x224)).toNat) (by omega)
                                                  have hF289 : zFN σ s286 := hs287 ▸ zFN_set hF229 zc_203 (by decide) zk_85
                                                  have w290 := zwz_set (σ := σ) hs287 (by omega) (by omega)
                                                  have e291 : s286 194 0 = s227 194 0 := by rw [← hs287]; exact zset_k (zne_r zc_194 zc_203 (by decide))
                                                  have e292 : s286 194 1 = s227 194 1 := by rw [← hs287]; exact zset_k (zne_r zc_194 zc_203 (by decide))
                                                  have e293 : s286 194 3 = s227 194 3 := by rw [← hs287]; exact zset_k (zne_r zc_194 zc_203 (by decide))
                                                  have e294 : s286 194 4 = s227 194 4 := by rw [← hs287]; exact zset_k (zne_r zc_194 zc_203 (by decide))
                                                  have e295 : s286 195 0 = s227 195 0 := by rw [← hs287]; exact zset_k (zne_r zc_195 zc_203 (by decide))
                                                  have e296 : s286 195 1 = s227 195 1 := by rw [← hs287]; exact zset_k (zne_r zc_195 zc_203 (by decide))
                                                  have e297 : s286 164 48 = s227 164 48 := by rw [← hs287]; exact zset_k (zne_r zc_164 zc_203 (by decide))
                                                  have e298 : s286 164 49 = s227 164 49 := by rw [← hs287]; exact zset_k (zne_r zc_164 zc_203 (by decide))
                                                  have e299 : s286 164 50 = s227 164 50 := by rw [← hs287]; exact zset_k (zne_r zc_164 zc_203 (by decide))
                                                  have e300 : s286 164 7 = s227 164 7 := by rw [← hs287]; exact zset_k (zne_r zc_164 zc_203 (by decide))
                                                  have e301 : s286 164 8 = s227 164 8 := by rw [← hs287]; exact zset_k (zne_r zc_164 zc_203 (by decide))
                                                  have h302n := yNz_k (σ := σ) hs287 (by decide) 10
                                                  refine zt_iinc (pc' := 274) (lv' := [some (.ref (X.1.1 + 164)), some (.int (zI (x224 + 1)))]) hX dX12_stands_271 rfl rfl hL (by decide) rfl ?_
                                                  refine zt_goto (tgt := 242) hX dX12_stands_274 (by decide) ?_
                                                  exact ih240 (x224 + 1) s286 (by omega) (by omega) hI288 hF289 (by omega) (by omega) (by omega) (by omega) (by omega) (by omega) (by omega) (by omega) (by omega)
                                            exact L_242_237 _ 0 s202 (by omega) (by omega) hI203 hF204 (by omega) (by omega) (by omega) (by omega) (by omega) (by omega) (by omega) (by omega) (Nat.lt_succ_self _)
                                          · refine zt_aload_n (pc' := 228) hX dX12_stands_227 rfl rfl ?_
                                            refine zt_get (pc' := 231) (v := .ref (X.1.1 + 203)) hX dX12_stands_228 rfl zf_X12_130 (by decide) zc_164 zs_46 (zrf_of (zv_46_52 hI203 zc_164)) ?_
                                            refine zt_iload_n (pc' := 232) hX dX12_stands_231 rfl rfl ?_
                                            refine zt_iconst (pc' := 233) hX dX12_stands_232 rfl ?_
                                            refine zt_iast (pc' := 234) hX dX12_stands_233 rfl (by decide) zc_203 zs_85 (by decide) ⟨by omega, by omega⟩ ?_
                                            generalize hs304 : zset s202 203 (x199.toNat) 0 = s303
                                            have hI305 : zInv s303 := hs304 ▸ zp_85 hI203 zc_203 (x199.toNat) (by omega)
                                            have hF306 : zFN σ s303 := hs304 ▸ zFN_set hF204 zc_203 (by decide) zk_85
                                            have w307 := zwz_set (σ := σ) hs304 (by omega) (by omega)
                                            have e308 : s303 194 0 = s202 194 0 := by rw [← hs304]; exact zset_k (zne_r zc_194 zc_203 (by decide))
                                            have e309 : s303 194 1 = s202 194 1 := by rw [← hs304]; exact zset_k (zne_r zc_194 zc_203 (by decide))
                                            have e310 : s303 194 3 = s202 194 3 := by rw [← hs304]; exact zset_k (zne_r zc_194 zc_203 (by decide))
                                            have e311 : s303 194 4 = s202 194 4 := by rw [← hs304]; exact zset_k (zne_r zc_194 zc_203 (by decide))
                                            have e312 : s303 195 0 = s202 195 0 := by rw [← hs304]; exact zset_k (zne_r zc_195 zc_203 (by decide))
                                            have e313 : s303 195 1 = s202 195 1 := by rw [← hs304]; exact zset_k (zne_r zc_195 zc_203 (by decide))
                                            have e314 : s303 164 48 = s202 164 48 := by rw [← hs304]; exact zset_k (zne_r zc_164 zc_203 (by decide))
                                            have e315 : s303 164 49 = s202 164 49 := by rw [← hs304]; exact zset_k (zne_r zc_164 zc_203 (by decide))
                                            have e316 : s303 164 50 = s202 164 50 := by rw [← hs304]; exact zset_k (zne_r zc_164 zc_203 (by decide))
                                            have e317 : s303 164 7 = s202 164 7 := by rw [← hs304]; exact zset_k (zne_r zc_164 zc_203 (by decide))
                                            have e318 : s303 164 8 = s202 164 8 := by rw [← hs304]; exact zset_k (zne_r zc_164 zc_203 (by decide))
                                            have h319n := yNz_k (σ := σ) hs304 (by decide) 10
                                            refine zt_iinc (pc' := 237) (lv' := [some (.ref (X.1.1 + 164)), some (.int (zI (x199 + 1)))]) hX dX12_stands_234 rfl rfl hL (by decide) rfl ?_
                                            refine zt_goto (tgt := 220) hX dX12_stands_237 (by decide) ?_
                                            exact ih215 (x199 + 1) s303 (by omega) (by omega) hI305 hF306 (by omega) (by omega) (by omega) (by omega) (by omega) (by omega) (by omega) (by omega) (by omega)
                                      exact L_220_212 _ 0 s175 (by omega) (by omega) hI176 hF177 (by omega) (by omega) (by omega) (by omega) (by omega) (by omega) (by omega) (by omega) (Nat.lt_succ_self _)
                                    · refine zt_aload_n (pc' := 197) hX dX12_stands_196 rfl rfl ?_
                                      refine zt_get (pc' := 200) (v := .ref (X.1.1 + 202)) hX dX12_stands_197 rfl zf_X12_127 (by decide) zc_164 zs_46 (zrf_of (zv_46_47 hI176 zc_164)) ?_
                                      refine zt_sipush (pc' := 203) hX dX12_stands_200 rfl (by decide) (by decide) ?_
                                      refine zt_iload_n (pc' := 204) hX dX12_stands_203 rfl rfl ?_
                                      refine zt_iadd (pc' := 205) hX dX12_stands_204 rfl ?_
                                      refine zt_aload_n (pc' := 206) hX dX12_stands_205 rfl rfl ?_
                                      refine zt_get (pc' := 209) (v := .ref (X.1.1 + 202)) hX dX12_stands_206 rfl zf_X12_127 (by decide) zc_164 zs_46 (zrf_of (zv_46_47 hI176 zc_164)) ?_
                                      refine zt_iload_n (pc' := 210) hX dX12_stands_209 rfl rfl ?_
                                      refine zt_iald (pc' := 211) hX dX12_stands_210 rfl (by decide) zc_202 zs_84 (by decide) ⟨by omega, by omega⟩ ?_
                                      generalize hv320 : s175 202 (x172.toNat) = v320
                                      have bv320 : -2147483648 ≤ v320 ∧ v320 ≤ 2147483647 := hv320 ▸ zv_84 hI176 zc_202 _
                                      refine zt_iast (pc' := 212) hX dX12_stands_211 rfl (by decide) zc_202 zs_84 (by decide) ⟨by omega, by omega⟩ ?_
                                      generalize hs322 : zset s175 202 ((1600 + x172).toNat) v320 = s321
                                      have hI323 : zInv s321 := hs322 ▸ zp_84 hI176 zc_202 ((1600 + x172).toNat) ⟨by omega, by omega⟩
                                      have hF324 : zFN σ s321 := hs322 ▸ zFN_set hF177 zc_202 (by decide) zk_84
                                      have w325 := zwz_set (σ := σ) hs322 (by omega) (by omega)
                                      have e326 : s321 194 0 = s175 194 0 := by rw [← hs322]; exact zset_k (zne_r zc_194 zc_202 (by decide))
                                      have e327 : s321 194 1 = s175 194 1 := by rw [← hs322]; exact zset_k (zne_r zc_194 zc_202 (by decide))
                                      have e328 : s321 194 3 = s175 194 3 := by rw [← hs322]; exact zset_k (zne_r zc_194 zc_202 (by decide))
                                      have e329 : s321 194 4 = s175 194 4 := by rw [← hs322]; exact zset_k (zne_r zc_194 zc_202 (by decide))
                                      have e330 : s321 195 0 = s175 195 0 := by rw [← hs322]; exact zset_k (zne_r zc_195 zc_202 (by decide))
                                      have e331 : s321 195 1 = s175 195 1 := by rw [← hs322]; exact zset_k (zne_r zc_195 zc_202 (by decide))
                                      have e332 : s321 164 48 = s175 164 48 := by rw [← hs322]; exact zset_k (zne_r zc_164 zc_202 (by decide))
                                      have e333 : s321 164 49 = s175 164 49 := by rw [← hs322]; exact zset_k (zne_r zc_164 zc_202 (by decide))
                                      have e334 : s321 164 50 = s175 164 50 := by rw [← hs322]; exact zset_k (zne_r zc_164 zc_202 (by decide))
                                      have e335 : s321 164 7 = s175 164 7 := by rw [← hs322]; exact zset_k (zne_r zc_164 zc_202 (by decide))
                                      have e336 : s321 164 8 = s175 164 8 := by rw [← hs322]; exact zset_k (zne_r zc_164 zc_202 (by decide))
                                      have h337n := yNz_k (σ := σ) hs322 (by decide) 10
                                      refine zt_iinc (pc' := 215) (lv' := [some (.ref (X.1.1 + 164)), some (.int (zI (x172 + 1)))]) hX dX12_stands_212 rfl rfl hL (by decide) rfl ?_
                                      refine zt_goto (tgt := 188) hX dX12_stands_215 (by decide) ?_
                                      exact ih189 (x172 + 1) s321 (by omega) (by omega) hI323 hF324 (by omega) (by omega) (by omega) (by omega) (by omega) (by omega) (by omega) (by omega) (by omega) (by omega)
                                exact L_188_186 _ 0 s149 (by omega) (by omega) hI150 hF151 (by omega) (by omega) (by omega) (by omega) (by omega) (by omega) (by omega) (by omega) (by omega) (Nat.lt_succ_self _)
                              · refine zt_aload_n (pc' := 166) hX dX12_stands_165 rfl rfl ?_
                                refine zt_get (pc' := 169) (v := .ref (X.1.1 + 198)) hX dX12_stands_166 rfl zf_X12_115 (by decide) zc_164 zs_46 (zrf_of (zv_46_43 hI150 zc_164)) ?_
                                refine zt_bipush (pc' := 171) hX dX12_stands_169 rfl (by decide) (by decide) ?_
                                refine zt_iload_n (pc' := 172) hX dX12_stands_171 rfl rfl ?_
                                refine zt_iadd (pc' := 173) hX dX12_stands_172 rfl ?_
                                refine zt_aload_n (pc' := 174) hX dX12_stands_173 rfl rfl ?_
                                refine zt_get (pc' := 177) (v := .ref (X.1.1 + 198)) hX dX12_stands_174 rfl zf_X12_115 (by decide) zc_164 zs_46 (zrf_of (zv_46_43 hI150 zc_164)) ?_
                                refine zt_iload_n (pc' := 178) hX dX12_stands_177 rfl rfl ?_
                                refine zt_iald (pc' := 179) hX dX12_stands_178 rfl (by decide) zc_198 zs_80 (by decide) ⟨by omega, by omega⟩ ?_
                                have bv338 := zv_80 hI150 zc_198 (x146.toNat)
                                generalize hv338 : s149 198 (x146.toNat) = v338 at bv338 ⊢
                                refine zt_iast (pc' := 180) hX dX12_stands_179 rfl (by decide) zc_198 zs_80 (by decide) ⟨by omega, by omega⟩ ?_
                                generalize hs340 : zset s149 198 ((20 + x146).toNat) v338 = s339
                                have hI341 : zInv s339 := hs340 ▸ zp_80 hI150 zc_198 ((20 + x146).toNat) (by omega)
                                have hF342 : zFN σ s339 := hs340 ▸ zFN_set hF151 zc_198 (by decide) zk_80
                                have w343 := zwz_set (σ := σ) hs340 (by omega) (by omega)
                                have e344 : s339 194 0 = s149 194 0 := by rw [← hs340]; exact zset_k (zne_r zc_194 zc_198 (by decide))
                                have e345 : s339 194 1 = s149 194 1 := by rw [← hs340]; exact zset_k (zne_r zc_194 zc_198 (by decide))
                                have e346 : s339 194 3 = s149 194 3 := by rw [← hs340]; exact zset_k (zne_r zc_194 zc_198 (by decide))
                                have e347 : s339 194 4 = s149 194 4 := by rw [← hs340]; exact zset_k (zne_r zc_194 zc_198 (by decide))
                                have e348 : s339 195 0 = s149 195 0 := by rw [← hs340]; exact zset_k (zne_r zc_195 zc_198 (by decide))
                                have e349 : s339 195 1 = s149 195 1 := by rw [← hs340]; exact zset_k (zne_r zc_195 zc_198 (by decide))
                                have e350 : s339 164 48 = s149 164 48 := by rw [← hs340]; exact zset_k (zne_r zc_164 zc_198 (by decide))
                                have e351 : s339 164 49 = s149 164 49 := by rw [← hs340]; exact zset_k (zne_r zc_164 zc_198 (by decide))
                                have e352 : s339 164 50 = s149 164 50 := by rw [← hs340]; exact zset_k (zne_r zc_164 zc_198 (by decide))
                                have e353 : s339 164 7 = s149 164 7 := by rw [← hs340]; exact zset_k (zne_r zc_164 zc_198 (by decide))
                                have e354 : s339 164 8 = s149 164 8 := by rw [← hs340]; exact zset_k (zne_r zc_164 zc_198 (by decide))
                                have h355n := yNz_k (σ := σ) hs340 (by decide) 10
                                refine zt_iinc (pc' := 183) (lv' := [some (.ref (X.1.1 + 164)), some (.int (zI (x146 + 1)))]) hX dX12_stands_180 rfl rfl hL (by decide) rfl ?_
                                refine zt_goto (tgt := 159) hX dX12_stands_183 (by decide) ?_
                                exact ih162 (x146 + 1) s339 (by omega) (by omega) hI341 hF342 (by omega) (by omega) (by omega) (by omega) (by omega) (by omega) (by omega) (by omega) (by omega)
                          exact L_159_159 _ 0 s124 (by omega) (by omega) hI125 hF126 (by omega) (by omega) (by omega) (by omega) (by omega) (by omega) (by omega) (by omega) (Nat.lt_succ_self _)
                        · refine zt_aload_n (pc' := 137) hX dX12_stands_136 rfl rfl ?_
                          refine zt_get (pc' := 140) (v := .ref (X.1.1 + 197)) hX dX12_stands_137 rfl zf_X12_112 (by decide) zc_164 zs_46 (zrf_of (zv_46_42 hI125 zc_164)) ?_
                          refine zt_bipush (pc' := 142) hX dX12_stands_140 rfl (by decide) (by decide) ?_
                          refine zt_iload_n (pc' := 143) hX dX12_stands_142 rfl rfl ?_
                          refine zt_iadd (pc' := 144) hX dX12_stands_143 rfl ?_
                          refine zt_aload_n (pc' := 145) hX dX12_stands_144 rfl rfl ?_
                          refine zt_get (pc' := 148) (v := .ref (X.1.1 + 197)) hX dX12_stands_145 rfl zf_X12_112 (by decide) zc_164 zs_46 (zrf_of (zv_46_42 hI125 zc_164)) ?_
                          refine zt_iload_n (pc' := 149) hX dX12_stands_148 rfl rfl ?_
                          refine zt_iald (pc' := 150) hX dX12_stands_149 rfl (by decide) zc_197 zs_79 (by decide) ⟨by omega, by omega⟩ ?_
                          generalize hv356 : s124 197 (x121.toNat) = v356
                          have bv356 : -2147483648 ≤ v356 ∧ v356 ≤ 2147483647 := hv356 ▸ zv_79 hI125 zc_197 _
                          refine zt_iast (pc' := 151) hX dX12_stands_150 rfl (by decide) zc_197 zs_79 (by decide) ⟨by omega, by omega⟩ ?_
                          generalize hs358 : zset s124 197 ((36 + x121).toNat) v356 = s357
                          have hI359 : zInv s357 := hs358 ▸ zp_79 hI125 zc_197 ((36 + x121).toNat) ⟨by omega, by omega⟩
                          have hF360 : zFN σ s357 := hs358 ▸ zFN_set hF126 zc_197 (by decide) zk_79
                          have w361 := zwz_set (σ := σ) hs358 (by omega) (by omega)
                          have e362 : s357 194 0 = s124 194 0 := by rw [← hs358]; exact zset_k (zne_r zc_194 zc_197 (by decide))
                          have e363 : s357 194 1 = s124 194 1 := by rw [← hs358]; exact zset_k (zne_r zc_194 zc_197 (by decide))
                          have e364 : s357 194 3 = s124 194 3 := by rw [← hs358]; exact zset_k (zne_r zc_194 zc_197 (by decide))
                          have e365 : s357 194 4 = s124 194 4 := by rw [← hs358]; exact zset_k (zne_r zc_194 zc_197 (by decide))
                          have e366 : s357 195 0 = s124 195 0 := by rw [← hs358]; exact zset_k (zne_r zc_195 zc_197 (by decide))
                          have e367 : s357 195 1 = s124 195 1 := by rw [← hs358]; exact zset_k (zne_r zc_195 zc_197 (by decide))
                          have e368 : s357 164 48 = s124 164 48 := by rw [← hs358]; exact zset_k (zne_r zc_164 zc_197 (by decide))
                          have e369 : s357 164 49 = s124 164 49 := by rw [← hs358]; exact zset_k (zne_r zc_164 zc_197 (by decide))
                          have e370 : s357 164 50 = s124 164 50 := by rw [← hs358]; exact zset_k (zne_r zc_164 zc_197 (by decide))
                          have e371 : s357 164 7 = s124 164 7 := by rw [← hs358]; exact zset_k (zne_r zc_164 zc_197 (by decide))
                          have e372 : s357 164 8 = s124 164 8 := by rw [← hs358]; exact zset_k (zne_r zc_164 zc_197 (by decide))
                          have h373n := yNz_k (σ := σ) hs358 (by decide) 10
                          refine zt_iinc (pc' := 154) (lv' := [some (.ref (X.1.1 + 164)), some (.int (zI (x121 + 1)))]) hX dX12_stands_151 rfl rfl hL (by decide) rfl ?_
                          refine zt_goto (tgt := 130) hX dX12_stands_154 (by decide) ?_
                          exact ih137 (x121 + 1) s357 (by omega) (by omega) hI359 hF360 (by omega) (by omega) (by omega) (by omega) (by omega) (by omega) (by omega) (by omega) (by omega)
                    exact L_130_134 _ 0 s98 (by omega) (by omega) hI99 hF100 (by omega) (by omega) (by omega) (by omega) (by omega) (by omega) (by omega) (by omega) (Nat.lt_succ_self _)
                  · refine zt_aload_n (pc' := 108) hX dX12_stands_107 rfl rfl ?_
                    refine zt_get (pc' := 111) (v := .ref (X.1.1 + 196)) hX dX12_stands_108 rfl zf_X12_108 (by decide) zc_164 zs_46 (zrf_of (zv_46_41 hI99 zc_164)) ?_
                    refine zt_bipush (pc' := 113) hX dX12_stands_111 rfl (by decide) (by decide) ?_
                    refine zt_iload_n (pc' := 114) hX dX12_stands_113 rfl rfl ?_
                    refine zt_iadd (pc' := 115) hX dX12_stands_114 rfl ?_
                    refine zt_aload_n (pc' := 116) hX dX12_stands_115 rfl rfl ?_
                    refine zt_get (pc' := 119) (v := .ref (X.1.1 + 196)) hX dX12_stands_116 rfl zf_X12_108 (by decide) zc_164 zs_46 (zrf_of (zv_46_41 hI99 zc_164)) ?_
                    refine zt_iload_n (pc' := 120) hX dX12_stands_119 rfl rfl ?_
                    refine zt_lald (pc' := 121) hX dX12_stands_120 rfl (by decide) zc_196 zs_78 (by decide) ⟨by omega, by omega⟩ ?_
                    generalize hv374 : s98 196 (x95.toNat) = v374
                    have bv374 : -9223372036854775808 ≤ v374 ∧ v374 ≤ 9223372036854775807 := hv374 ▸ zv_78 hI99 zc_196 _
                    refine zt_last (pc' := 122) hX dX12_stands_121 rfl (by decide) zc_196 zs_78 (by decide) ⟨by omega, by omega⟩ ?_
                    generalize hs376 : zset s98 196 ((10 + x95).toNat) v374 = s375
                    have hI377 : zInv s375 := hs376 ▸ zp_78 hI99 zc_196 ((10 + x95).toNat) ⟨by omega, by omega⟩
                    have hF378 : zFN σ s375 := hs376 ▸ zFN_set hF100 zc_196 (by decide) zk_78
                    have w379 := zwz_set (σ := σ) hs376 (by omega) (by omega)
                    have e380 : s375 194 0 = s98 194 0 := by rw [← hs376]; exact zset_k (zne_r zc_194 zc_196 (by decide))
                    have e381 : s375 194 1 = s98 194 1 := by rw [← hs376]; exact zset_k (zne_r zc_194 zc_196 (by decide))
                    have e382 : s375 194 3 = s98 194 3 := by rw [← hs376]; exact zset_k (zne_r zc_194 zc_196 (by decide))
                    have e383 : s375 194 4 = s98 194 4 := by rw [← hs376]; exact zset_k (zne_r zc_194 zc_196 (by decide))
                    have e384 : s375 195 0 = s98 195 0 := by rw [← hs376]; exact zset_k (zne_r zc_195 zc_196 (by decide))
                    have e385 : s375 195 1 = s98 195 1 := by rw [← hs376]; exact zset_k (zne_r zc_195 zc_196 (by decide))
                    have e386 : s375 164 48 = s98 164 48 := by rw [← hs376]; exact zset_k (zne_r zc_164 zc_196 (by decide))
                    have e387 : s375 164 49 = s98 164 49 := by rw [← hs376]; exact zset_k (zne_r zc_164 zc_196 (by decide))
                    have e388 : s375 164 50 = s98 164 50 := by rw [← hs376]; exact zset_k (zne_r zc_164 zc_196 (by decide))
                    have e389 : s375 164 7 = s98 164 7 := by rw [← hs376]; exact zset_k (zne_r zc_164 zc_196 (by decide))
                    have e390 : s375 164 8 = s98 164 8 := by rw [← hs376]; exact zset_k (zne_r zc_164 zc_196 (by decide))
                    have h391n := yNz_s (σ := σ) hs376 rfl (by omega) (by omega) hv374 (by omega)
                    refine zt_iinc (pc' := 125) (lv' := [some (.ref (X.1.1 + 164)), some (.int (zI (x95 + 1)))]) hX dX12_stands_122 rfl rfl hL (by decide) rfl ?_
                    refine zt_goto (tgt := 101) hX dX12_stands_125 (by decide) ?_
                    exact ih111 (x95 + 1) s375 (by omega) (by omega) hI377 hF378 (by omega) (by omega) (by omega) (by omega) (by omega) (by omega) (by omega) (by omega) (by omega)
              exact L_101_108 _ 0 s73 (by omega) (by omega) hI74 hF75 (by omega) (by omega) (by omega) (by omega) (by omega) (by omega) (by omega) (by omega) (Nat.lt_succ_self _)
            · refine zt_aload_n (pc' := 66) hX dX12_stands_65 rfl rfl ?_
              refine zt_get (pc' := 69) (v := .ref (X.1.1 + 200)) hX dX12_stands_66 rfl zf_X12_121 (by decide) zc_164 zs_46 (zrf_of (zv_46_45 hI74 zc_164)) ?_
              refine zt_iconst (pc' := 70) hX dX12_stands_69 rfl ?_
              refine zt_iload_n (pc' := 71) hX dX12_stands_70 rfl rfl ?_
              refine zt_iadd (pc' := 72) hX dX12_stands_71 rfl ?_
              refine zt_aload_n (pc' := 73) hX dX12_stands_72 rfl rfl ?_
              refine zt_get (pc' := 76) (v := .ref (X.1.1 + 200)) hX dX12_stands_73 rfl zf_X12_121 (by decide) zc_164 zs_46 (zrf_of (zv_46_45 hI74 zc_164)) ?_
              refine zt_iload_n (pc' := 77) hX dX12_stands_76 rfl rfl ?_
              refine zt_iald (pc' := 78) hX dX12_stands_77 rfl (by decide) zc_200 zs_82 (by decide) ⟨by omega, by omega⟩ ?_
              generalize hv392 : s73 200 (x70.toNat) = v392
              have bv392 : -1 ≤ v392 ∧ v392 ≤ 1600 := hv392 ▸ zv_82 hI74 zc_200 _
              refine zt_iast (pc' := 79) hX dX12_stands_78 rfl (by decide) zc_200 zs_82 (by decide) ⟨by omega, by omega⟩ ?_
              generalize hs394 : zset s73 200 ((2 + x70).toNat) v392 = s393
              have hI395 : zInv s393 := hs394 ▸ zp_82 hI74 zc_200 ((2 + x70).toNat) ⟨by omega, by omega⟩
              have hF396 : zFN σ s393 := hs394 ▸ zFN_set hF75 zc_200 (by decide) zk_82
              have w397 := zwz_set (σ := σ) hs394 (by omega) (by omega)
              have e398 : s393 194 0 = s73 194 0 := by rw [← hs394]; exact zset_k (zne_r zc_194 zc_200 (by decide))
              have e399 : s393 194 1 = s73 194 1 := by rw [← hs394]; exact zset_k (zne_r zc_194 zc_200 (by decide))
              have e400 : s393 194 3 = s73 194 3 := by rw [← hs394]; exact zset_k (zne_r zc_194 zc_200 (by decide))
              have e401 : s393 194 4 = s73 194 4 := by rw [← hs394]; exact zset_k (zne_r zc_194 zc_200 (by decide))
              have e402 : s393 195 0 = s73 195 0 := by rw [← hs394]; exact zset_k (zne_r zc_195 zc_200 (by decide))
              have e403 : s393 195 1 = s73 195 1 := by rw [← hs394]; exact zset_k (zne_r zc_195 zc_200 (by decide))
              have e404 : s393 164 48 = s73 164 48 := by rw [← hs394]; exact zset_k (zne_r zc_164 zc_200 (by decide))
              have e405 : s393 164 49 = s73 164 49 := by rw [← hs394]; exact zset_k (zne_r zc_164 zc_200 (by decide))
              have e406 : s393 164 50 = s73 164 50 := by rw [← hs394]; exact zset_k (zne_r zc_164 zc_200 (by decide))
              have e407 : s393 164 7 = s73 164 7 := by rw [← hs394]; exact zset_k (zne_r zc_164 zc_200 (by decide))
              have e408 : s393 164 8 = s73 164 8 := by rw [← hs394]; exact zset_k (zne_r zc_164 zc_200 (by decide))
              have h409n := yNz_k (σ := σ) hs394 (by decide) 0
              refine zt_aload_n (pc' := 80) hX dX12_stands_79 rfl rfl ?_
              refine zt_get (pc' := 83) (v := .ref (X.1.1 + 201)) hX dX12_stands_80 rfl zf_X12_124 (by decide) zc_164 zs_46 (zrf_of (zv_46_46 hI395 zc_164)) ?_
              refine zt_iconst (pc' := 84) hX dX12_stands_83 rfl ?_
              refine zt_iload_n (pc' := 85) hX dX12_stands_84 rfl rfl ?_
              refine zt_iadd (pc' := 86) hX dX12_stands_85 rfl ?_
              refine zt_aload_n (pc' := 87) hX dX12_stands_86 rfl rfl ?_
              refine zt_get (pc' := 90) (v := .ref (X.1.1 + 201)) hX dX12_stands_87 rfl zf_X12_124 (by decide) zc_164 zs_46 (zrf_of (zv_46_46 hI395 zc_164)) ?_
              refine zt_iload_n (pc' := 91) hX dX12_stands_90 rfl rfl ?_
              refine zt_iald (pc' := 92) hX dX12_stands_91 rfl (by decide) zc_201 zs_83 (by decide) ⟨by omega, by omega⟩ ?_
              generalize hv410 : s393 201 (x70.toNat) = v410
              have bv410 : 0 ≤ v410 ∧ v410 ≤ 1600 := hv410 ▸ zv_83 hI395 zc_201 _
              refine zt_iast (pc' := 93) hX dX12_stands_92 rfl (by decide) zc_201 zs_83 (by decide) ⟨by omega, by omega⟩ ?_
              generalize hs412 : zset s393 201 ((2 + x70).toNat) v410 = s411
              have hI413 : zInv s411 := hs412 ▸ zp_83 hI395 zc_201 ((2 + x70).toNat) ⟨by omega, by omega⟩
              have hF414 : zFN σ s411 := hs412 ▸ zFN_set hF396 zc_201 (by decide) zk_83
              have w415 := zwz_set (σ := σ) hs412 (by omega) (by omega)
              have e416 : s411 194 0 = s393 194 0 := by rw [← hs412]; exact zset_k (zne_r zc_194 zc_201 (by decide))
              have e417 : s411 194 1 = s393 194 1 := by rw [← hs412]; exact zset_k (zne_r zc_194 zc_201 (by decide))
              have e418 : s411 194 3 = s393 194 3 := by rw [← hs412]; exact zset_k (zne_r zc_194 zc_201 (by decide))
              have e419 : s411 194 4 = s393 194 4 := by rw [← hs412]; exact zset_k (zne_r zc_194 zc_201 (by decide))
              have e420 : s411 195 0 = s393 195 0 := by rw [← hs412]; exact zset_k (zne_r zc_195 zc_201 (by decide))
              have e421 : s411 195 1 = s393 195 1 := by rw [← hs412]; exact zset_k (zne_r zc_195 zc_201 (by decide))
              have e422 : s411 164 48 = s393 164 48 := by rw [← hs412]; exact zset_k (zne_r zc_164 zc_201 (by decide))
              have e423 : s411 164 49 = s393 164 49 := by rw [← hs412]; exact zset_k (zne_r zc_164 zc_201 (by decide))
              have e424 : s411 164 50 = s393 164 50 := by rw [← hs412]; exact zset_k (zne_r zc_164 zc_201 (by decide))
              have e425 : s411 164 7 = s393 164 7 := by rw [← hs412]; exact zset_k (zne_r zc_164 zc_201 (by decide))
              have e426 : s411 164 8 = s393 164 8 := by rw [← hs412]; exact zset_k (zne_r zc_164 zc_201 (by decide))
              have h427n := yNz_k (σ := σ) hs412 (by decide) 0
              refine zt_iinc (pc' := 96) (lv' := [some (.ref (X.1.1 + 164)), some (.int (zI (x70 + 1)))]) hX dX12_stands_93 rfl rfl hL (by decide) rfl ?_
              refine zt_goto (tgt := 60) hX dX12_stands_96 (by decide) ?_
              exact ih86 (x70 + 1) s411 (by omega) (by omega) hI413 hF414 (by omega) (by omega) (by omega) (by omega) (by omega) (by omega) (by omega) (by omega) (by omega)
        exact L_60_83 _ 0 s47 (by omega) (by omega) hI48 hF49 (by omega) (by omega) (by omega) (by omega) (by omega) (by omega) (by omega) (by omega) (Nat.lt_succ_self _)
      · refine zt_aload_n (pc' := 25) hX dX12_stands_24 rfl rfl ?_
        refine zt_get (pc' := 28) (v := .ref (X.1.1 + 194)) hX dX12_stands_25 rfl zf_X12_102 (by decide) zc_164 zs_46 (zrf_of (zv_46_39 hI48 zc_164)) ?_
        refine zt_iconst (pc' := 29) hX dX12_stands_28 rfl ?_
        refine zt_iload_n (pc' := 30) hX dX12_stands_29 rfl rfl ?_
        refine zt_iadd (pc' := 31) hX dX12_stands_30 rfl ?_
        refine zt_aload_n (pc' := 32) hX dX12_stands_31 rfl rfl ?_
        refine zt_get (pc' := 35) (v := .ref (X.1.1 + 194)) hX dX12_stands_32 rfl zf_X12_102 (by decide) zc_164 zs_46 (zrf_of (zv_46_39 hI48 zc_164)) ?_
        refine zt_iload_n (pc' := 36) hX dX12_stands_35 rfl rfl ?_
        refine zt_iald (pc' := 37) hX dX12_stands_36 rfl (by decide) zc_194 zs_76 (by decide) ⟨by omega, by omega⟩ ?_
        have bv428 := zv_76 hI48 zc_194 (x44.toNat)
        generalize hv428 : s47 194 (x44.toNat) = v428 at bv428 ⊢
        have h429 := zwz_sd (σ := σ) (s := s47) (by omega) hpre0 hv428 (by omega) (by omega)
        refine zt_iast (pc' := 38) hX dX12_stands_37 rfl (by decide) zc_194 zs_76 (by decide) ⟨by omega, by omega⟩ ?_
        generalize hs431 : zset s47 194 ((3 + x44).toNat) v428 = s430
        have hI432 : zInv s430 := hs431 ▸ zp_76 hI48 zc_194 ((3 + x44).toNat) (by omega)
        have hF433 : zFN σ s430 := hs431 ▸ zFN_set hF49 zc_194 (by decide) zk_76
        have w434 := zwz_set (σ := σ) hs431 (by omega) (by omega)
        have e435 : s430 195 0 = s47 195 0 := by rw [← hs431]; exact zset_k (zne_r zc_195 zc_194 (by decide))
        have e436 : s430 195 1 = s47 195 1 := by rw [← hs431]; exact zset_k (zne_r zc_195 zc_194 (by decide))
        have e437 : s430 164 48 = s47 164 48 := by rw [← hs431]; exact zset_k (zne_r zc_164 zc_194 (by decide))
        have e438 : s430 164 49 = s47 164 49 := by rw [← hs431]; exact zset_k (zne_r zc_164 zc_194 (by decide))
        have e439 : s430 164 50 = s47 164 50 := by rw [← hs431]; exact zset_k (zne_r zc_164 zc_194 (by decide))
        have e440 : s430 164 7 = s47 164 7 := by rw [← hs431]; exact zset_k (zne_r zc_164 zc_194 (by decide))
        have e441 : s430 164 8 = s47 164 8 := by rw [← hs431]; exact zset_k (zne_r zc_164 zc_194 (by decide))
        have h442 := zc2 (d := 3) (e := 4) hs431 (by omega) rfl hv428 (by omega) (by decide)
        have h442n := yNz_k (σ := σ) hs431 (by decide) 0
        refine zt_aload_n (pc' := 39) hX dX12_stands_38 rfl rfl ?_
        refine zt_get (pc' := 42) (v := .ref (X.1.1 + 199)) hX dX12_stands_39 rfl zf_X12_118 (by decide) zc_164 zs_46 (zrf_of (zv_46_44 hI432 zc_164)) ?_
        refine zt_iconst (pc' := 43) hX dX12_stands_42 rfl ?_
        refine zt_iload_n (pc' := 44) hX dX12_stands_43 rfl rfl ?_
        refine zt_iadd (pc' := 45) hX dX12_stands_44 rfl ?_
        refine zt_aload_n (pc' := 46) hX dX12_stands_45 rfl rfl ?_
        refine zt_get (pc' := 49) (v := .ref (X.1.1 + 199)) hX dX12_stands_46 rfl zf_X12_118 (by decide) zc_164 zs_46 (zrf_of (zv_46_44 hI432 zc_164)) ?_
        refine zt_iload_n (pc' := 50) hX dX12_stands_49 rfl rfl ?_
        refine zt_iald (pc' := 51) hX dX12_stands_50 rfl (by decide) zc_199 zs_81 (by decide) ⟨by omega, by omega⟩ ?_
        have bv443 := zv_81 hI432 zc_199 (x44.toNat)
        generalize hv443 : s430 199 (x44.toNat) = v443 at bv443 ⊢
        have h444 := zwz_st (σ := σ) (s := s430) (by omega) hpre1 hv443 (by omega) (by omega)
        refine zt_iast (pc' := 52) hX dX12_stands_51 rfl (by decide) zc_199 zs_81 (by decide) ⟨by omega, by omega⟩ ?_
        generalize hs446 : zset s430 199 ((3 + x44).toNat) v443 = s445
        have hI447 : zInv s445 := hs446 ▸ zp_81 hI432 zc_199 ((3 + x44).toNat) (by omega)
        have hF448 : zFN σ s445 := hs446 ▸ zFN_set hF433 zc_199 (by decide) zk_81
        have w449 := zwz_set (σ := σ) hs446 (by omega) (by omega)
        have e450 : s445 194 0 = s430 194 0 := by rw [← hs446]; exact zset_k (zne_r zc_194 zc_199 (by decide))
        have e451 : s445 194 1 = s430 194 1 := by rw [← hs446]; exact zset_k (zne_r zc_194 zc_199 (by decide))
        have e452 : s445 194 3 = s430 194 3 := by rw [← hs446]; exact zset_k (zne_r zc_194 zc_199 (by decide))
        have e453 : s445 194 4 = s430 194 4 := by rw [← hs446]; exact zset_k (zne_r zc_194 zc_199 (by decide))
        have e454 : s445 195 0 = s430 195 0 := by rw [← hs446]; exact zset_k (zne_r zc_195 zc_199 (by decide))
        have e455 : s445 195 1 = s430 195 1 := by rw [← hs446]; exact zset_k (zne_r zc_195 zc_199 (by decide))
        have e456 : s445 164 48 = s430 164 48 := by rw [← hs446]; exact zset_k (zne_r zc_164 zc_199 (by decide))
        have e457 : s445 164 49 = s430 164 49 := by rw [← hs446]; exact zset_k (zne_r zc_164 zc_199 (by decide))
        have e458 : s445 164 50 = s430 164 50 := by rw [← hs446]; exact zset_k (zne_r zc_164 zc_199 (by decide))
        have e459 : s445 164 7 = s430 164 7 := by rw [← hs446]; exact zset_k (zne_r zc_164 zc_199 (by decide))
        have e460 : s445 164 8 = s430 164 8 := by rw [← hs446]; exact zset_k (zne_r zc_164 zc_199 (by decide))
        have h461n := yNz_k (σ := σ) hs446 (by decide) 0
        refine zt_iinc (pc' := 55) (lv' := [some (.ref (X.1.1 + 164)), some (.int (zI (x44 + 1)))]) hX dX12_stands_52 rfl rfl hL (by decide) rfl ?_
        refine zt_goto (tgt := 19) hX dX12_stands_55 (by decide) ?_
        exact ih61 (x44 + 1) s445 (by omega) (by omega) hI447 hF448 (by omega) (by omega) (by omega) (by omega) (by omega) (by omega) (by omega) (by omega) (by omega) (by omega)
  exact L_19_58 _ 0 s27 (by omega) (by omega) hI29 hF30 (by omega) (by omega) (by omega) (by omega) (by omega) (by omega) (by omega) (by omega) (by omega) (Nat.lt_succ_self _)
