set_option maxRecDepth 100000 in
set_option maxHeartbeats 16000000 in
theorem yc_X12_stands (l : Launch) (E : zEN) (σ : zSto) (hI : zInv σ) (hpre0 : 2 ≤ σ 194 0 ∧ σ 194 0 ≤ 6 ∧ 2 ≤ σ 194 1 ∧ σ 194 1 ≤ 6) (hpre1 : 0 ≤ σ 199 0 ∧ σ 199 0 ≤ 100 ∧ 0 ≤ σ 199 1 ∧ σ 199 1 ≤ 100 ∧ 0 ≤ σ 199 2 ∧ σ 199 2 ≤ 100) (hpre2 : σ 164 48 ≤ 1600) : zCt l E yX12_stands cX12_stands 2 none 0 zNC zNC 0 0 σ [.ref (E.1 + 164)] (fun r σ' => zInv σ' ∧ zFN σ σ' ∧ (σ' 164 49 = σ 164 49) ∧ (σ' 195 1 = σ 195 0 ∧ σ' 164 50 = 1 ∧ σ' 194 3 = σ 194 0 ∧ σ' 194 4 = σ 194 1) ∧ (σ' 164 7 = σ 164 7 ∧ σ' 164 8 = σ 164 8)) := by
  refine zCt_of2 [some (.ref (E.1 + 164)), none] (by decide +kernel) (Nat.le_of_ble_eq_true rfl) rfl ?_
  intro X hE hX hR hL hN
  subst hE
  have hX : zok X cX12_stands RX12 0 := hX
  have hF := zFN_rf σ
  have hws := zwz_rf σ
  have b1 := zv_77 hI zc_195 0
  have b2 := zv_77 hI zc_195 1
  have b3 := zv_46_48 hI zc_164
  have b4 := zv_46_49 hI zc_164
  have b5 := zv_46_50 hI zc_164
  have b6 := zv_46_7 hI zc_164
  have b7 := zv_46_8 hI zc_164
  refine zt_aload_n (pc' := 1) hX dX12_stands_0 rfl rfl ?_
  refine zt_iconst (pc' := 2) hX dX12_stands_1 rfl ?_
  refine zt_put (pc' := 5) (x := 1) hX dX12_stands_2 rfl zf_X12_375 (by decide) zc_164 zs_46 (fun q hq => by cases hq; rfl) rfl (zfit_z (by omega) (by omega)).1 (zfit_z (by omega) (by omega)).2 ?_
  generalize hs9 : zset σ 164 50 1 = s8
  have hI10 : zInv s8 := hs9 ▸ zp_46_50 hI zc_164 ⟨by omega, by omega⟩
  have hF11 : zFN σ s8 := hs9 ▸ zFN_set hF zc_164 (by decide) zk_46
  have w12 := zwz_set (σ := σ) hs9 (by omega) (by omega)
  have e13 : s8 194 0 = σ 194 0 := by rw [← hs9]; exact zset_k (zne_r zc_194 zc_164 (by decide))
  have e14 : s8 194 1 = σ 194 1 := by rw [← hs9]; exact zset_k (zne_r zc_194 zc_164 (by decide))
  have e15 : s8 194 3 = σ 194 3 := by rw [← hs9]; exact zset_k (zne_r zc_194 zc_164 (by decide))
  have e16 : s8 194 4 = σ 194 4 := by rw [← hs9]; exact zset_k (zne_r zc_194 zc_164 (by decide))
  have e17 : s8 195 0 = σ 195 0 := by rw [← hs9]; exact zset_k (zne_r zc_195 zc_164 (by decide))
  have e18 : s8 195 1 = σ 195 1 := by rw [← hs9]; exact zset_k (zne_r zc_195 zc_164 (by decide))
  have e19 : s8 164 48 = σ 164 48 := by rw [← hs9]; exact zset_j (by decide)
  have e20 : s8 164 49 = σ 164 49 := by rw [← hs9]; exact zset_j (by decide)
  have e21 : s8 164 50 = 1 := by rw [← hs9]; exact zset_s
  have e22 : s8 164 7 = σ 164 7 := by rw [← hs9]; exact zset_j (by decide)
  have e23 : s8 164 8 = σ 164 8 := by rw [← hs9]; exact zset_j (by decide)
  refine zt_aload_n (pc' := 6) hX dX12_stands_5 rfl rfl ?_
  refine zt_get (pc' := 9) (v := .ref (X.1.1 + 195)) hX dX12_stands_6 rfl zf_X12_105 (by decide) zc_164 zs_46 (zrf_of (zv_46_40 hI10 zc_164)) ?_
  refine zt_iconst (pc' := 10) hX dX12_stands_9 rfl ?_
  refine zt_aload_n (pc' := 11) hX dX12_stands_10 rfl rfl ?_
  refine zt_get (pc' := 14) (v := .ref (X.1.1 + 195)) hX dX12_stands_11 rfl zf_X12_105 (by decide) zc_164 zs_46 (zrf_of (zv_46_40 hI10 zc_164)) ?_
  refine zt_iconst (pc' := 15) hX dX12_stands_14 rfl ?_
  refine zt_iald (pc' := 16) hX dX12_stands_15 rfl (by decide) zc_195 zs_77 (by decide) ⟨by omega, by omega⟩ ?_
  rw [show Int.toNat 0 = 0 from rfl]
  have b25 := zv_77 hI10 zc_195 0
  refine zt_iast (pc' := 17) hX dX12_stands_16 rfl (by decide) zc_195 zs_77 (by decide) ⟨by omega, by omega⟩ ?_
  rw [show Int.toNat 1 = 1 from rfl]
  generalize hs27 : zset s8 195 1 (s8 195 0) = s26
  have hI28 : zInv s26 := hs27 ▸ zp_77 hI10 zc_195 1 ⟨by omega, by omega⟩
  have hF29 : zFN σ s26 := hs27 ▸ zFN_set hF11 zc_195 (by decide) zk_77
  have w30 := zwz_set (σ := σ) hs27 (by omega) (by omega)
  have e31 : s26 194 0 = s8 194 0 := by rw [← hs27]; exact zset_k (zne_r zc_194 zc_195 (by decide))
  have e32 : s26 194 1 = s8 194 1 := by rw [← hs27]; exact zset_k (zne_r zc_194 zc_195 (by decide))
  have e33 : s26 194 3 = s8 194 3 := by rw [← hs27]; exact zset_k (zne_r zc_194 zc_195 (by decide))
  have e34 : s26 194 4 = s8 194 4 := by rw [← hs27]; exact zset_k (zne_r zc_194 zc_195 (by decide))
  have e35 : s26 195 0 = s8 195 0 := by rw [← hs27]; exact zset_j (by decide)
  have e36 : s26 195 1 = (s8 195 0) := by rw [← hs27]; exact zset_s
  have e37 : s26 164 48 = s8 164 48 := by rw [← hs27]; exact zset_k (zne_r zc_164 zc_195 (by decide))
  have e38 : s26 164 49 = s8 164 49 := by rw [← hs27]; exact zset_k (zne_r zc_164 zc_195 (by decide))
  have e39 : s26 164 50 = s8 164 50 := by rw [← hs27]; exact zset_k (zne_r zc_164 zc_195 (by decide))
  have e40 : s26 164 7 = s8 164 7 := by rw [← hs27]; exact zset_k (zne_r zc_164 zc_195 (by decide))
  have e41 : s26 164 8 = s8 164 8 := by rw [← hs27]; exact zset_k (zne_r zc_164 zc_195 (by decide))
  refine zt_iconst (pc' := 18) hX dX12_stands_17 rfl ?_
  refine zt_istore_n (pc' := 19) (lv' := [some (.ref (X.1.1 + 164)), some (.int (zI 0))]) hX dX12_stands_18 rfl hL (by decide) rfl ?_
  have L_19_55 : ∀ (N : Nat) (x42 : Int) (s45 : zSto), 0 ≤ x42 → x42 ≤ 3 → zInv s45 → zFN σ s45 → (1 ≤ x42 → s45 194 3 = s45 194 0) → (2 ≤ x42 → s45 194 4 = s45 194 1) → zwz σ s45 = 1 → s45 164 49 = σ 164 49 → s45 195 1 = σ 195 0 → s45 164 50 = 1 → s45 195 0 = σ 195 0 → (s45 164 7 = σ 164 7 ∧ s45 164 8 = σ 164 8) → ((4 - x42).toNat) < N → zF X s45 19 [some (.ref (X.1.1 + 164)), some (.int (zI x42))] [] := by
    intro N
    induction N with
    | zero =>
      intro x42 s45 h43 h44 hI46 hF47 g48 g49 g50 g51 g52 g53 g54 g55 hm57
      exact absurd hm57 (Nat.not_lt_zero _)
    | succ N ih58 =>
      intro x42 s45 h43 h44 hI46 hF47 g48 g49 g50 g51 g52 g53 g54 g55 hm57
      have b59 := zv_77 hI46 zc_195 0
      have b60 := zv_77 hI46 zc_195 1
      have b61 := zv_46_48 hI46 zc_164
      have b62 := zv_46_49 hI46 zc_164
      have b63 := zv_46_50 hI46 zc_164
      have b64 := zv_46_7 hI46 zc_164
      have b65 := zv_46_8 hI46 zc_164
      refine zt_iload_n (pc' := 20) hX dX12_stands_19 rfl rfl ?_
      refine zt_iconst (pc' := 21) hX dX12_stands_20 rfl ?_
      refine zt_icge (pc' := 24) (tgt := 58) hX dX12_stands_21 rfl (by decide) ⟨by omega, by omega⟩ ⟨by omega, by omega⟩ (fun c66 => ?_) (fun c66 => ?_)
      · refine zt_iconst (pc' := 59) hX dX12_stands_58 rfl ?_
        refine zt_istore_n (pc' := 60) (lv' := [some (.ref (X.1.1 + 164)), some (.int (zI 0))]) hX dX12_stands_59 rfl hL (by decide) rfl ?_
        have L_60_79 : ∀ (N : Nat) (x67 : Int) (s70 : zSto), 0 ≤ x67 → x67 ≤ 2 → zInv s70 → zFN σ s70 → (s70 194 3 = s70 194 0 ∧ s70 194 4 = s70 194 1) → zwz σ s70 = 1 → s70 164 49 = σ 164 49 → s70 195 1 = σ 195 0 → s70 164 50 = 1 → s70 195 0 = σ 195 0 → (s70 164 7 = σ 164 7 ∧ s70 164 8 = σ 164 8) → ((3 - x67).toNat) < N → zF X s70 60 [some (.ref (X.1.1 + 164)), some (.int (zI x67))] [] := by
          intro N
          induction N with
          | zero =>
            intro x67 s70 h68 h69 hI71 hF72 g73 g74 g75 g76 g77 g78 g79 hm81
            exact absurd hm81 (Nat.not_lt_zero _)
          | succ N ih82 =>
            intro x67 s70 h68 h69 hI71 hF72 g73 g74 g75 g76 g77 g78 g79 hm81
            clear c66 b65 b64 b63 b62 b61 b60 b59 hm57 g55 g54 g53 g52 g51 g50 g49 g48 hF47 hI46 h44 h43 ih58
            have b83 := zv_77 hI71 zc_195 0
            have b84 := zv_77 hI71 zc_195 1
            have b85 := zv_46_48 hI71 zc_164
            have b86 := zv_46_49 hI71 zc_164
            have b87 := zv_46_50 hI71 zc_164
            have b88 := zv_46_7 hI71 zc_164
            have b89 := zv_46_8 hI71 zc_164
            refine zt_iload_n (pc' := 61) hX dX12_stands_60 rfl rfl ?_
            refine zt_iconst (pc' := 62) hX dX12_stands_61 rfl ?_
            refine zt_icge (pc' := 65) (tgt := 99) hX dX12_stands_62 rfl (by decide) ⟨by omega, by omega⟩ ⟨by omega, by omega⟩ (fun c90 => ?_) (fun c90 => ?_)
            · refine zt_iconst (pc' := 100) hX dX12_stands_99 rfl ?_
              refine zt_istore_n (pc' := 101) (lv' := [some (.ref (X.1.1 + 164)), some (.int (zI 0))]) hX dX12_stands_100 rfl hL (by decide) rfl ?_
              have L_101_103 : ∀ (N : Nat) (x91 : Int) (s94 : zSto), 0 ≤ x91 → x91 ≤ 10 → zInv s94 → zFN σ s94 → (s94 194 3 = s94 194 0 ∧ s94 194 4 = s94 194 1) → zwz σ s94 = 1 → s94 164 49 = σ 164 49 → s94 195 1 = σ 195 0 → s94 164 50 = 1 → s94 195 0 = σ 195 0 → (s94 164 7 = σ 164 7 ∧ s94 164 8 = σ 164 8) → ((11 - x91).toNat) < N → zF X s94 101 [some (.ref (X.1.1 + 164)), some (.int (zI x91))] [] := by
                intro N
                induction N with
                | zero =>
                  intro x91 s94 h92 h93 hI95 hF96 g97 g98 g99 g100 g101 g102 g103 hm105
                  exact absurd hm105 (Nat.not_lt_zero _)
                | succ N ih106 =>
                  intro x91 s94 h92 h93 hI95 hF96 g97 g98 g99 g100 g101 g102 g103 hm105
                  clear c90 b89 b88 b87 b86 b85 b84 b83 hm81 g79 g78 g77 g76 g75 g74 g73 hF72 hI71 h69 h68 ih82
                  have b107 := zv_77 hI95 zc_195 0
                  have b108 := zv_77 hI95 zc_195 1
                  have b109 := zv_46_48 hI95 zc_164
                  have b110 := zv_46_49 hI95 zc_164
                  have b111 := zv_46_50 hI95 zc_164
                  have b112 := zv_46_7 hI95 zc_164
                  have b113 := zv_46_8 hI95 zc_164
                  refine zt_iload_n (pc' := 102) hX dX12_stands_101 rfl rfl ?_
                  refine zt_bipush (pc' := 104) hX dX12_stands_102 rfl (by decide) (by decide) ?_
                  refine zt_icge (pc' := 107) (tgt := 128) hX dX12_stands_104 rfl (by decide) ⟨by omega, by omega⟩ ⟨by omega, by omega⟩ (fun c114 => ?_) (fun c114 => ?_)
                  · refine zt_iconst (pc' := 129) hX dX12_stands_128 rfl ?_
                    refine zt_istore_n (pc' := 130) (lv' := [some (.ref (X.1.1 + 164)), some (.int (zI 0))]) hX dX12_stands_129 rfl hL (by decide) rfl ?_
                    have L_130_127 : ∀ (N : Nat) (x115 : Int) (s118 : zSto), 0 ≤ x115 → x115 ≤ 36 → zInv s118 → zFN σ s118 → (s118 194 3 = s118 194 0 ∧ s118 194 4 = s118 194 1) → zwz σ s118 = 1 → s118 164 49 = σ 164 49 → s118 195 1 = σ 195 0 → s118 164 50 = 1 → s118 195 0 = σ 195 0 → (s118 164 7 = σ 164 7 ∧ s118 164 8 = σ 164 8) → ((37 - x115).toNat) < N → zF X s118 130 [some (.ref (X.1.1 + 164)), some (.int (zI x115))] [] := by
                      intro N
                      induction N with
                      | zero =>
                        intro x115 s118 h116 h117 hI119 hF120 g121 g122 g123 g124 g125 g126 g127 hm129
                        exact absurd hm129 (Nat.not_lt_zero _)
                      | succ N ih130 =>
                        intro x115 s118 h116 h117 hI119 hF120 g121 g122 g123 g124 g125 g126 g127 hm129
                        clear c114 b113 b112 b111 b110 b109 b108 b107 hm105 g103 g102 g101 g100 g99 g98 g97 hF96 hI95 h93 h92 ih106
                        have b131 := zv_77 hI119 zc_195 0
                        have b132 := zv_77 hI119 zc_195 1
                        have b133 := zv_46_48 hI119 zc_164
                        have b134 := zv_46_49 hI119 zc_164
                        have b135 := zv_46_50 hI119 zc_164
                        have b136 := zv_46_7 hI119 zc_164
                        have b137 := zv_46_8 hI119 zc_164
                        refine zt_iload_n (pc' := 131) hX dX12_stands_130 rfl rfl ?_
                        refine zt_bipush (pc' := 133) hX dX12_stands_131 rfl (by decide) (by decide) ?_
                        refine zt_icge (pc' := 136) (tgt := 157) hX dX12_stands_133 rfl (by decide) ⟨by omega, by omega⟩ ⟨by omega, by omega⟩ (fun c138 => ?_) (fun c138 => ?_)
                        · refine zt_iconst (pc' := 158) hX dX12_stands_157 rfl ?_
                          refine zt_istore_n (pc' := 159) (lv' := [some (.ref (X.1.1 + 164)), some (.int (zI 0))]) hX dX12_stands_158 rfl hL (by decide) rfl ?_
                          have L_159_151 : ∀ (N : Nat) (x139 : Int) (s142 : zSto), 0 ≤ x139 → x139 ≤ 20 → zInv s142 → zFN σ s142 → (s142 194 3 = s142 194 0 ∧ s142 194 4 = s142 194 1) → zwz σ s142 = 1 → s142 164 49 = σ 164 49 → s142 195 1 = σ 195 0 → s142 164 50 = 1 → s142 195 0 = σ 195 0 → (s142 164 7 = σ 164 7 ∧ s142 164 8 = σ 164 8) → ((21 - x139).toNat) < N → zF X s142 159 [some (.ref (X.1.1 + 164)), some (.int (zI x139))] [] := by
                            intro N
                            induction N with
                            | zero =>
                              intro x139 s142 h140 h141 hI143 hF144 g145 g146 g147 g148 g149 g150 g151 hm153
                              exact absurd hm153 (Nat.not_lt_zero _)
                            | succ N ih154 =>
                              intro x139 s142 h140 h141 hI143 hF144 g145 g146 g147 g148 g149 g150 g151 hm153
                              clear c138 b137 b136 b135 b134 b133 b132 b131 hm129 g127 g126 g125 g124 g123 g122 g121 hF120 hI119 h117 h116 ih130
                              have b155 := zv_77 hI143 zc_195 0
                              have b156 := zv_77 hI143 zc_195 1
                              have b157 := zv_46_48 hI143 zc_164
                              have b158 := zv_46_49 hI143 zc_164
                              have b159 := zv_46_50 hI143 zc_164
                              have b160 := zv_46_7 hI143 zc_164
                              have b161 := zv_46_8 hI143 zc_164
                              refine zt_iload_n (pc' := 160) hX dX12_stands_159 rfl rfl ?_
                              refine zt_bipush (pc' := 162) hX dX12_stands_160 rfl (by decide) (by decide) ?_
                              refine zt_icge (pc' := 165) (tgt := 186) hX dX12_stands_162 rfl (by decide) ⟨by omega, by omega⟩ ⟨by omega, by omega⟩ (fun c162 => ?_) (fun c162 => ?_)
                              · refine zt_iconst (pc' := 187) hX dX12_stands_186 rfl ?_
                                refine zt_istore_n (pc' := 188) (lv' := [some (.ref (X.1.1 + 164)), some (.int (zI 0))]) hX dX12_stands_187 rfl hL (by decide) rfl ?_
                                have h163f := zwz_f (σ := σ) (s := s142) (by omega)
                                have L_188_177 : ∀ (N : Nat) (x164 : Int) (s167 : zSto), 0 ≤ x164 → x164 ≤ 3200 → zInv s167 → zFN σ s167 → (s167 194 3 = s167 194 0 ∧ s167 194 4 = s167 194 1) → s167 164 48 ≤ 1600 → zwz σ s167 = 1 → s167 164 49 = σ 164 49 → s167 195 1 = σ 195 0 → s167 164 50 = 1 → s167 195 0 = σ 195 0 → (s167 164 7 = σ 164 7 ∧ s167 164 8 = σ 164 8) → ((3201 - x164).toNat) < N → zF X s167 188 [some (.ref (X.1.1 + 164)), some (.int (zI x164))] [] := by
                                  intro N
                                  induction N with
                                  | zero =>
                                    intro x164 s167 h165 h166 hI168 hF169 g170 g171 g172 g173 g174 g175 g176 g177 hm179
                                    exact absurd hm179 (Nat.not_lt_zero _)
                                  | succ N ih180 =>
                                    intro x164 s167 h165 h166 hI168 hF169 g170 g171 g172 g173 g174 g175 g176 g177 hm179
                                    clear h163f c162 b161 b160 b159 b158 b157 b156 b155 hm153 g151 g150 g149 g148 g147 g146 g145 hF144 hI143 h141 h140 ih154
                                    have b181 := zv_77 hI168 zc_195 0
                                    have b182 := zv_77 hI168 zc_195 1
                                    have b183 := zv_46_48 hI168 zc_164
                                    have b184 := zv_46_49 hI168 zc_164
                                    have b185 := zv_46_50 hI168 zc_164
                                    have b186 := zv_46_7 hI168 zc_164
                                    have b187 := zv_46_8 hI168 zc_164
                                    refine zt_iload_n (pc' := 189) hX dX12_stands_188 rfl rfl ?_
                                    refine zt_aload_n (pc' := 190) hX dX12_stands_189 rfl rfl ?_
                                    have b188 := zv_46_48 hI168 zc_164
                                    refine zt_get (pc' := 193) (v := .int (zI (s167 164 48))) hX dX12_stands_190 rfl zf_X12_348 (by decide) zc_164 zs_46 rfl ?_
                                    refine zt_icge (pc' := 196) (tgt := 218) hX dX12_stands_193 rfl (by decide) ⟨by omega, by omega⟩ ⟨by omega, by omega⟩ (fun c189 => ?_) (fun c189 => ?_)
                                    · refine zt_iconst (pc' := 219) hX dX12_stands_218 rfl ?_
                                      refine zt_istore_n (pc' := 220) (lv' := [some (.ref (X.1.1 + 164)), some (.int (zI 0))]) hX dX12_stands_219 rfl hL (by decide) rfl ?_
                                      have L_220_202 : ∀ (N : Nat) (x190 : Int) (s193 : zSto), 0 ≤ x190 → x190 ≤ 188 → zInv s193 → zFN σ s193 → (s193 194 3 = s193 194 0 ∧ s193 194 4 = s193 194 1) → zwz σ s193 = 1 → s193 164 49 = σ 164 49 → s193 195 1 = σ 195 0 → s193 164 50 = 1 → s193 195 0 = σ 195 0 → (s193 164 7 = σ 164 7 ∧ s193 164 8 = σ 164 8) → ((189 - x190).toNat) < N → zF X s193 220 [some (.ref (X.1.1 + 164)), some (.int (zI x190))] [] := by
                                        intro N
                                        induction N with
                                        | zero =>
                                          intro x190 s193 h191 h192 hI194 hF195 g196 g197 g198 g199 g200 g201 g202 hm204
                                          exact absurd hm204 (Nat.not_lt_zero _)
                                        | succ N ih205 =>
                                          intro x190 s193 h191 h192 hI194 hF195 g196 g197 g198 g199 g200 g201 g202 hm204
                                          clear c189 b188 b187 b186 b185 b184 b183 b182 b181 hm179 g177 g176 g175 g174 g173 g172 g171 g170 hF169 hI168 h166 h165 ih180
                                          have b206 := zv_77 hI194 zc_195 0
                                          have b207 := zv_77 hI194 zc_195 1
                                          have b208 := zv_46_48 hI194 zc_164
                                          have b209 := zv_46_49 hI194 zc_164
                                          have b210 := zv_46_50 hI194 zc_164
                                          have b211 := zv_46_7 hI194 zc_164
                                          have b212 := zv_46_8 hI194 zc_164
                                          refine zt_iload_n (pc' := 221) hX dX12_stands_220 rfl rfl ?_
                                          refine zt_sipush (pc' := 224) hX dX12_stands_221 rfl (by decide) (by decide) ?_
                                          refine zt_icge (pc' := 227) (tgt := 240) hX dX12_stands_224 rfl (by decide) ⟨by omega, by omega⟩ ⟨by omega, by omega⟩ (fun c213 => ?_) (fun c213 => ?_)
                                          · refine zt_iconst (pc' := 241) hX dX12_stands_240 rfl ?_
                                            refine zt_istore_n (pc' := 242) (lv' := [some (.ref (X.1.1 + 164)), some (.int (zI 0))]) hX dX12_stands_241 rfl hL (by decide) rfl ?_
                                            have L_242_226 : ∀ (N : Nat) (x214 : Int) (s217 : zSto), 0 ≤ x214 → x214 ≤ 10 → zInv s217 → zFN σ s217 → (s217 194 3 = s217 194 0 ∧ s217 194 4 = s217 194 1) → zwz σ s217 = 1 → s217 164 49 = σ 164 49 → s217 195 1 = σ 195 0 → s217 164 50 = 1 → s217 195 0 = σ 195 0 → (s217 164 7 = σ 164 7 ∧ s217 164 8 = σ 164 8) → ((11 - x214).toNat) < N → zF X s217 242 [some (.ref (X.1.1 + 164)), some (.int (zI x214))] [] := by
                                              intro N
                                              induction N with
                                              | zero =>
                                                intro x214 s217 h215 h216 hI218 hF219 g220 g221 g222 g223 g224 g225 g226 hm228
                                                exact absurd hm228 (Nat.not_lt_zero _)
                                              | succ N ih229 =>
                                                intro x214 s217 h215 h216 hI218 hF219 g220 g221 g222 g223 g224 g225 g226 hm228
                                                clear c213 b212 b211 b210 b209 b208 b207 b206 hm204 g202 g201 g200 g199 g198 g197 g196 hF195 hI194 h192 h191 ih205
                                                have b230 := zv_77 hI218 zc_195 0
                                                have b231 := zv_77 hI218 zc_195 1
                                                have b232 := zv_46_48 hI218 zc_164
                                                have b233 := zv_46_49 hI218 zc_164
                                                have b234 := zv_46_50 hI218 zc_164
                                                have b235 := zv_46_7 hI218 zc_164
                                                have b236 := zv_46_8 hI218 zc_164
                                                refine zt_iload_n (pc' := 243) hX dX12_stands_242 rfl rfl ?_
                                                refine zt_aload_n (pc' := 244) hX dX12_stands_243 rfl rfl ?_
                                                refine zt_get (pc' := 247) (v := .ref (X.1.1 + 195)) hX dX12_stands_244 rfl zf_X12_105 (by decide) zc_164 zs_46 (zrf_of (zv_46_40 hI218 zc_164)) ?_
                                                refine zt_iconst (pc' := 248) hX dX12_stands_247 rfl ?_
                                                refine zt_iald (pc' := 249) hX dX12_stands_248 rfl (by decide) zc_195 zs_77 (by decide) ⟨by omega, by omega⟩ ?_
                                                rw [show Int.toNat 0 = 0 from rfl]
                                                have b238 := zv_77 hI218 zc_195 0
                                                refine zt_icge (pc' := 252) (tgt := 277) hX dX12_stands_249 rfl (by decide) ⟨by omega, by omega⟩ ⟨by omega, by omega⟩ (fun c239 => ?_) (fun c239 => ?_)
                                                · refine zt_aload_n (pc' := 278) hX dX12_stands_277 rfl rfl ?_
                                                  refine zt_iconst (pc' := 279) hX dX12_stands_278 rfl ?_
                                                  refine zt_put (pc' := 282) (x := 0) hX dX12_stands_279 rfl zf_X12_379 (by decide) zc_164 zs_46 (fun q hq => by cases hq; rfl) rfl rfl rfl ?_
                                                  generalize hs241 : zset s217 164 70 0 = s240
                                                  have hI242 : zInv s240 := hs241 ▸ zp_46_70 hI218 zc_164 ⟨by omega, by omega⟩
                                                  have hF243 : zFN σ s240 := hs241 ▸ zFN_set hF219 zc_164 (by decide) zk_46
                                                  have w244 := zwz_set (σ := σ) hs241 (by omega) (by omega)
                                                  have e245 : s240 194 0 = s217 194 0 := by rw [← hs241]; exact zset_k (zne_r zc_194 zc_164 (by decide))
                                                  have e246 : s240 194 1 = s217 194 1 := by rw [← hs241]; exact zset_k (zne_r zc_194 zc_164 (by decide))
                                                  have e247 : s240 194 3 = s217 194 3 := by rw [← hs241]; exact zset_k (zne_r zc_194 zc_164 (by decide))
                                                  have e248 : s240 194 4 = s217 194 4 := by rw [← hs241]; exact zset_k (zne_r zc_194 zc_164 (by decide))
                                                  have e249 : s240 195 0 = s217 195 0 := by rw [← hs241]; exact zset_k (zne_r zc_195 zc_164 (by decide))
                                                  have e250 : s240 195 1 = s217 195 1 := by rw [← hs241]; exact zset_k (zne_r zc_195 zc_164 (by decide))
                                                  have e251 : s240 164 48 = s217 164 48 := by rw [← hs241]; exact zset_j (by decide)
                                                  have e252 : s240 164 49 = s217 164 49 := by rw [← hs241]; exact zset_j (by decide)
                                                  have e253 : s240 164 50 = s217 164 50 := by rw [← hs241]; exact zset_j (by decide)
                                                  have e254 : s240 164 7 = s217 164 7 := by rw [← hs241]; exact zset_j (by decide)
                                                  have e255 : s240 164 8 = s217 164 8 := by rw [← hs241]; exact zset_j (by decide)
                                                  refine zt_aload_n (pc' := 283) hX dX12_stands_282 rfl rfl ?_
                                                  refine zt_iconst (pc' := 284) hX dX12_stands_283 rfl ?_
                                                  refine zt_put (pc' := 287) (x := 0) hX dX12_stands_284 rfl zf_X12_382 (by decide) zc_164 zs_46 (fun q hq => by cases hq; rfl) rfl rfl rfl ?_
                                                  generalize hs257 : zset s240 164 64 0 = s256
                                                  have hI258 : zInv s256 := hs257 ▸ zp_46_64 hI242 zc_164 ⟨by omega, by omega⟩
                                                  have hF259 : zFN σ s256 := hs257 ▸ zFN_set hF243 zc_164 (by decide) zk_46
                                                  have w260 := zwz_set (σ := σ) hs257 (by omega) (by omega)
                                                  have e261 : s256 194 0 = s240 194 0 := by rw [← hs257]; exact zset_k (zne_r zc_194 zc_164 (by decide))
                                                  have e262 : s256 194 1 = s240 194 1 := by rw [← hs257]; exact zset_k (zne_r zc_194 zc_164 (by decide))
                                                  have e263 : s256 194 3 = s240 194 3 := by rw [← hs257]; exact zset_k (zne_r zc_194 zc_164 (by decide))
                                                  have e264 : s256 194 4 = s240 194 4 := by rw [← hs257]; exact zset_k (zne_r zc_194 zc_164 (by decide))
                                                  have e265 : s256 195 0 = s240 195 0 := by rw [← hs257]; exact zset_k (zne_r zc_195 zc_164 (by decide))
                                                  have e266 : s256 195 1 = s240 195 1 := by rw [← hs257]; exact zset_k (zne_r zc_195 zc_164 (by decide))
                                                  have e267 : s256 164 48 = s240 164 48 := by rw [← hs257]; exact zset_j (by decide)
                                                  have e268 : s256 164 49 = s240 164 49 := by rw [← hs257]; exact zset_j (by decide)
                                                  have e269 : s256 164 50 = s240 164 50 := by rw [← hs257]; exact zset_j (by decide)
                                                  have e270 : s256 164 7 = s240 164 7 := by rw [← hs257]; exact zset_j (by decide)
                                                  have e271 : s256 164 8 = s240 164 8 := by rw [← hs257]; exact zset_j (by decide)
                                                  have h272f := zwz_f (σ := σ) (s := s256) (by omega)
                                                  exact zt_vret hX hR dX12_stands_287 ⟨hI258, hF259, by omega, by omega, by omega⟩
                                                · refine zt_aload_n (pc' := 253) hX dX12_stands_252 rfl rfl ?_
                                                  refine zt_get (pc' := 256) (v := .ref (X.1.1 + 203)) hX dX12_stands_253 rfl zf_X12_130 (by decide) zc_164 zs_46 (zrf_of (zv_46_52 hI218 zc_164)) ?_
                                                  refine zt_bipush (pc' := 258) hX dX12_stands_256 rfl (by decide) (by decide) ?_
                                                  refine zt_iconst (pc' := 259) hX dX12_stands_258 rfl ?_
                                                  refine zt_iload_n (pc' := 260) hX dX12_stands_259 rfl rfl ?_
                                                  refine zt_imul (pc' := 261) hX dX12_stands_260 rfl ?_
                                                  refine zt_iadd (pc' := 262) hX dX12_stands_261 rfl ?_
                                                  refine zt_aload_n (pc' := 263) hX dX12_stands_262 rfl rfl ?_
                                                  refine zt_get (pc' := 266) (v := .ref (X.1.1 + 198)) hX dX12_stands_263 rfl zf_X12_115 (by decide) zc_164 zs_46 (zrf_of (zv_46_43 hI218 zc_164)) ?_
                                                  refine zt_iconst (pc' := 267) hX dX12_stands_266 rfl ?_
                                                  refine zt_iload_n (pc' := 268) hX dX12_stands_267 rfl rfl ?_
                                                  refine zt_imul (pc' := 269) hX dX12_stands_268 rfl ?_
                                                  refine zt_iald (pc' := 270) hX dX12_stands_269 rfl (by decide) zc_198 zs_80 (by decide) ⟨by omega, by omega⟩ ?_
                                                  have bv273 := zv_80 hI218 zc_198 ((2 * x214).toNat)
                                                  generalize hv273 : s217 198 ((2 * x214).toNat) = v273 at bv273 ⊢
                                                  refine zt_iast (pc' := 271) hX dX12_stands_270 rfl (by decide) zc_203 zs_85 (by decide) ⟨by omega, by omega⟩ ?_
                                                  generalize hs275 : zset s217 203 ((37 + (3 * x214)).toNat) v273 = s274
                                                  have hI276 : zInv s274 := hs275 ▸ zp_85 hI218 zc_203 ((37 + (3 * x214)).toNat) (by omega)
                                                  have hF277 : zFN σ s274 := hs275 ▸ zFN_set hF219 zc_203 (by decide) zk_85
                                                  have w278 := zwz_set (σ := σ) hs275 (by omega) (by omega)
                                                  have e279 : s274 194 0 = s217 194 0 := by rw [← hs275]; exact zset_k (zne_r zc_194 zc_203 (by decide))
                                                  have e280 : s274 194 1 = s217 194 1 := by rw [← hs275]; exact zset_k (zne_r zc_194 zc_203 (by decide))
                                                  have e281 : s274 194 3 = s217 194 3 := by rw [← hs275]; exact zset_k (zne_r zc_194 zc_203 (by decide))
                                                  have e282 : s274 194 4 = s217 194 4 := by rw [← hs275]; exact zset_k (zne_r zc_194 zc_203 (by decide))
                                                  have e283 : s274 195 0 = s217 195 0 := by rw [← hs275]; exact zset_k (zne_r zc_195 zc_203 (by decide))
                                                  have e284 : s274 195 1 = s217 195 1 := by rw [← hs275]; exact zset_k (zne_r zc_195 zc_203 (by decide))
                                                  have e285 : s274 164 48 = s217 164 48 := by rw [← hs275]; exact zset_k (zne_r zc_164 zc_203 (by decide))
                                                  have e286 : s274 164 49 = s217 164 49 := by rw [← hs275]; exact zset_k (zne_r zc_164 zc_203 (by decide))
                                                  have e287 : s274 164 50 = s217 164 50 := by rw [← hs275]; exact zset_k (zne_r zc_164 zc_203 (by decide))
                                                  have e288 : s274 164 7 = s217 164 7 := by rw [← hs275]; exact zset_k (zne_r zc_164 zc_203 (by decide))
                                                  have e289 : s274 164 8 = s217 164 8 := by rw [← hs275]; exact zset_k (zne_r zc_164 zc_203 (by decide))
                                                  refine zt_iinc (pc' := 274) (lv' := [some (.ref (X.1.1 + 164)), some (.int (zI (x214 + 1)))]) hX dX12_stands_271 rfl rfl hL (by decide) rfl ?_
                                                  refine zt_goto (tgt := 242) hX dX12_stands_274 (by decide) ?_
                                                  exact ih229 (x214 + 1) s274 (by omega) (by omega) hI276 hF277 (by omega) (by omega) (by omega) (by omega) (by omega) (by omega) (by omega) (by omega)
                                            exact L_242_226 _ 0 s193 (by omega) (by omega) hI194 hF195 (by omega) (by omega) (by omega) (by omega) (by omega) (by omega) (by omega) (Nat.lt_succ_self _)
                                          · refine zt_aload_n (pc' := 228) hX dX12_stands_227 rfl rfl ?_
                                            refine zt_get (pc' := 231) (v := .ref (X.1.1 + 203)) hX dX12_stands_228 rfl zf_X12_130 (by decide) zc_164 zs_46 (zrf_of (zv_46_52 hI194 zc_164)) ?_
                                            refine zt_iload_n (pc' := 232) hX dX12_stands_231 rfl rfl ?_
                                            refine zt_iconst (pc' := 233) hX dX12_stands_232 rfl ?_
                                            refine zt_iast (pc' := 234) hX dX12_stands_233 rfl (by decide) zc_203 zs_85 (by decide) ⟨by omega, by omega⟩ ?_
                                            generalize hs291 : zset s193 203 (x190.toNat) 0 = s290
                                            have hI292 : zInv s290 := hs291 ▸ zp_85 hI194 zc_203 (x190.toNat) (by omega)
                                            have hF293 : zFN σ s290 := hs291 ▸ zFN_set hF195 zc_203 (by decide) zk_85
                                            have w294 := zwz_set (σ := σ) hs291 (by omega) (by omega)
                                            have e295 : s290 194 0 = s193 194 0 := by rw [← hs291]; exact zset_k (zne_r zc_194 zc_203 (by decide))
                                            have e296 : s290 194 1 = s193 194 1 := by rw [← hs291]; exact zset_k (zne_r zc_194 zc_203 (by decide))
                                            have e297 : s290 194 3 = s193 194 3 := by rw [← hs291]; exact zset_k (zne_r zc_194 zc_203 (by decide))
                                            have e298 : s290 194 4 = s193 194 4 := by rw [← hs291]; exact zset_k (zne_r zc_194 zc_203 (by decide))
                                            have e299 : s290 195 0 = s193 195 0 := by rw [← hs291]; exact zset_k (zne_r zc_195 zc_203 (by decide))
                                            have e300 : s290 195 1 = s193 195 1 := by rw [← hs291]; exact zset_k (zne_r zc_195 zc_203 (by decide))
                                            have e301 : s290 164 48 = s193 164 48 := by rw [← hs291]; exact zset_k (zne_r zc_164 zc_203 (by decide))
                                            have e302 : s290 164 49 = s193 164 49 := by rw [← hs291]; exact zset_k (zne_r zc_164 zc_203 (by decide))
                                            have e303 : s290 164 50 = s193 164 50 := by rw [← hs291]; exact zset_k (zne_r zc_164 zc_203 (by decide))
                                            have e304 : s290 164 7 = s193 164 7 := by rw [← hs291]; exact zset_k (zne_r zc_164 zc_203 (by decide))
                                            have e305 : s290 164 8 = s193 164 8 := by rw [← hs291]; exact zset_k (zne_r zc_164 zc_203 (by decide))
                                            refine zt_iinc (pc' := 237) (lv' := [some (.ref (X.1.1 + 164)), some (.int (zI (x190 + 1)))]) hX dX12_stands_234 rfl rfl hL (by decide) rfl ?_
                                            refine zt_goto (tgt := 220) hX dX12_stands_237 (by decide) ?_
                                            exact ih205 (x190 + 1) s290 (by omega) (by omega) hI292 hF293 (by omega) (by omega) (by omega) (by omega) (by omega) (by omega) (by omega) (by omega)
                                      exact L_220_202 _ 0 s167 (by omega) (by omega) hI168 hF169 (by omega) (by omega) (by omega) (by omega) (by omega) (by omega) (by omega) (Nat.lt_succ_self _)
                                    · refine zt_aload_n (pc' := 197) hX dX12_stands_196 rfl rfl ?_
                                      refine zt_get (pc' := 200) (v := .ref (X.1.1 + 202)) hX dX12_stands_197 rfl zf_X12_127 (by decide) zc_164 zs_46 (zrf_of (zv_46_47 hI168 zc_164)) ?_
                                      refine zt_sipush (pc' := 203) hX dX12_stands_200 rfl (by decide) (by decide) ?_
                                      refine zt_iload_n (pc' := 204) hX dX12_stands_203 rfl rfl ?_
                                      refine zt_iadd (pc' := 205) hX dX12_stands_204 rfl ?_
                                      refine zt_aload_n (pc' := 206) hX dX12_stands_205 rfl rfl ?_
                                      refine zt_get (pc' := 209) (v := .ref (X.1.1 + 202)) hX dX12_stands_206 rfl zf_X12_127 (by decide) zc_164 zs_46 (zrf_of (zv_46_47 hI168 zc_164)) ?_
                                      refine zt_iload_n (pc' := 210) hX dX12_stands_209 rfl rfl ?_
                                      refine zt_iald (pc' := 211) hX dX12_stands_210 rfl (by decide) zc_202 zs_84 (by decide) ⟨by omega, by omega⟩ ?_
                                      generalize hv306 : s167 202 (x164.toNat) = v306
                                      have bv306 : -2147483648 ≤ v306 ∧ v306 ≤ 2147483647 := hv306 ▸ zv_84 hI168 zc_202 _
                                      refine zt_iast (pc' := 212) hX dX12_stands_211 rfl (by decide) zc_202 zs_84 (by decide) ⟨by omega, by omega⟩ ?_
                                      generalize hs308 : zset s167 202 ((1600 + x164).toNat) v306 = s307
                                      have hI309 : zInv s307 := hs308 ▸ zp_84 hI168 zc_202 ((1600 + x164).toNat) ⟨by omega, by omega⟩
                                      have hF310 : zFN σ s307 := hs308 ▸ zFN_set hF169 zc_202 (by decide) zk_84
                                      have w311 := zwz_set (σ := σ) hs308 (by omega) (by omega)
                                      have e312 : s307 194 0 = s167 194 0 := by rw [← hs308]; exact zset_k (zne_r zc_194 zc_202 (by decide))
                                      have e313 : s307 194 1 = s167 194 1 := by rw [← hs308]; exact zset_k (zne_r zc_194 zc_202 (by decide))
                                      have e314 : s307 194 3 = s167 194 3 := by rw [← hs308]; exact zset_k (zne_r zc_194 zc_202 (by decide))
                                      have e315 : s307 194 4 = s167 194 4 := by rw [← hs308]; exact zset_k (zne_r zc_194 zc_202 (by decide))
                                      have e316 : s307 195 0 = s167 195 0 := by rw [← hs308]; exact zset_k (zne_r zc_195 zc_202 (by decide))
                                      have e317 : s307 195 1 = s167 195 1 := by rw [← hs308]; exact zset_k (zne_r zc_195 zc_202 (by decide))
                                      have e318 : s307 164 48 = s167 164 48 := by rw [← hs308]; exact zset_k (zne_r zc_164 zc_202 (by decide))
                                      have e319 : s307 164 49 = s167 164 49 := by rw [← hs308]; exact zset_k (zne_r zc_164 zc_202 (by decide))
                                      have e320 : s307 164 50 = s167 164 50 := by rw [← hs308]; exact zset_k (zne_r zc_164 zc_202 (by decide))
                                      have e321 : s307 164 7 = s167 164 7 := by rw [← hs308]; exact zset_k (zne_r zc_164 zc_202 (by decide))
                                      have e322 : s307 164 8 = s167 164 8 := by rw [← hs308]; exact zset_k (zne_r zc_164 zc_202 (by decide))
                                      refine zt_iinc (pc' := 215) (lv' := [some (.ref (X.1.1 + 164)), some (.int (zI (x164 + 1)))]) hX dX12_stands_212 rfl rfl hL (by decide) rfl ?_
                                      refine zt_goto (tgt := 188) hX dX12_stands_215 (by decide) ?_
                                      exact ih180 (x164 + 1) s307 (by omega) (by omega) hI309 hF310 (by omega) (by omega) (by omega) (by omega) (by omega) (by omega) (by omega) (by omega) (by omega)
                                exact L_188_177 _ 0 s142 (by omega) (by omega) hI143 hF144 (by omega) (by omega) (by omega) (by omega) (by omega) (by omega) (by omega) (by omega) (Nat.lt_succ_self _)
                              · refine zt_aload_n (pc' := 166) hX dX12_stands_165 rfl rfl ?_
                                refine zt_get (pc' := 169) (v := .ref (X.1.1 + 198)) hX dX12_stands_166 rfl zf_X12_115 (by decide) zc_164 zs_46 (zrf_of (zv_46_43 hI143 zc_164)) ?_
                                refine zt_bipush (pc' := 171) hX dX12_stands_169 rfl (by decide) (by decide) ?_
                                refine zt_iload_n (pc' := 172) hX dX12_stands_171 rfl rfl ?_
                                refine zt_iadd (pc' := 173) hX dX12_stands_172 rfl ?_
                                refine zt_aload_n (pc' := 174) hX dX12_stands_173 rfl rfl ?_
                                refine zt_get (pc' := 177) (v := .ref (X.1.1 + 198)) hX dX12_stands_174 rfl zf_X12_115 (by decide) zc_164 zs_46 (zrf_of (zv_46_43 hI143 zc_164)) ?_
                                refine zt_iload_n (pc' := 178) hX dX12_stands_177 rfl rfl ?_
                                refine zt_iald (pc' := 179) hX dX12_stands_178 rfl (by decide) zc_198 zs_80 (by decide) ⟨by omega, by omega⟩ ?_
                                have bv323 := zv_80 hI143 zc_198 (x139.toNat)
                                generalize hv323 : s142 198 (x139.toNat) = v323 at bv323 ⊢
                                refine zt_iast (pc' := 180) hX dX12_stands_179 rfl (by decide) zc_198 zs_80 (by decide) ⟨by omega, by omega⟩ ?_
                                generalize hs325 : zset s142 198 ((20 + x139).toNat) v323 = s324
                                have hI326 : zInv s324 := hs325 ▸ zp_80 hI143 zc_198 ((20 + x139).toNat) (by omega)
                                have hF327 : zFN σ s324 := hs325 ▸ zFN_set hF144 zc_198 (by decide) zk_80
                                have w328 := zwz_set (σ := σ) hs325 (by omega) (by omega)
                                have e329 : s324 194 0 = s142 194 0 := by rw [← hs325]; exact zset_k (zne_r zc_194 zc_198 (by decide))
                                have e330 : s324 194 1 = s142 194 1 := by rw [← hs325]; exact zset_k (zne_r zc_194 zc_198 (by decide))
                                have e331 : s324 194 3 = s142 194 3 := by rw [← hs325]; exact zset_k (zne_r zc_194 zc_198 (by decide))
                                have e332 : s324 194 4 = s142 194 4 := by rw [← hs325]; exact zset_k (zne_r zc_194 zc_198 (by decide))
                                have e333 : s324 195 0 = s142 195 0 := by rw [← hs325]; exact zset_k (zne_r zc_195 zc_198 (by decide))
                                have e334 : s324 195 1 = s142 195 1 := by rw [← hs325]; exact zset_k (zne_r zc_195 zc_198 (by decide))
                                have e335 : s324 164 48 = s142 164 48 := by rw [← hs325]; exact zset_k (zne_r zc_164 zc_198 (by decide))
                                have e336 : s324 164 49 = s142 164 49 := by rw [← hs325]; exact zset_k (zne_r zc_164 zc_198 (by decide))
                                have e337 : s324 164 50 = s142 164 50 := by rw [← hs325]; exact zset_k (zne_r zc_164 zc_198 (by decide))
                                have e338 : s324 164 7 = s142 164 7 := by rw [← hs325]; exact zset_k (zne_r zc_164 zc_198 (by decide))
                                have e339 : s324 164 8 = s142 164 8 := by rw [← hs325]; exact zset_k (zne_r zc_164 zc_198 (by decide))
                                refine zt_iinc (pc' := 183) (lv' := [some (.ref (X.1.1 + 164)), some (.int (zI (x139 + 1)))]) hX dX12_stands_180 rfl rfl hL (by decide) rfl ?_
                                refine zt_goto (tgt := 159) hX dX12_stands_183 (by decide) ?_
                                exact ih154 (x139 + 1) s324 (by omega) (by omega) hI326 hF327 (by omega) (by omega) (by omega) (by omega) (by omega) (by omega) (by omega) (by omega)
                          exact L_159_151 _ 0 s118 (by omega) (by omega) hI119 hF120 (by omega) (by omega) (by omega) (by omega) (by omega) (by omega) (by omega) (Nat.lt_succ_self _)
                        · refine zt_aload_n (pc' := 137) hX dX12_stands_136 rfl rfl ?_
                          refine zt_get (pc' := 140) (v := .ref (X.1.1 + 197)) hX dX12_stands_137 rfl zf_X12_112 (by decide) zc_164 zs_46 (zrf_of (zv_46_42 hI119 zc_164)) ?_
                          refine zt_bipush (pc' := 142) hX dX12_stands_140 rfl (by decide) (by decide) ?_
                          refine zt_iload_n (pc' := 143) hX dX12_stands_142 rfl rfl ?_
                          refine zt_iadd (pc' := 144) hX dX12_stands_143 rfl ?_
                          refine zt_aload_n (pc' := 145) hX dX12_stands_144 rfl rfl ?_
                          refine zt_get (pc' := 148) (v := .ref (X.1.1 + 197)) hX dX12_stands_145 rfl zf_X12_112 (by decide) zc_164 zs_46 (zrf_of (zv_46_42 hI119 zc_164)) ?_
                          refine zt_iload_n (pc' := 149) hX dX12_stands_148 rfl rfl ?_
                          refine zt_iald (pc' := 150) hX dX12_stands_149 rfl (by decide) zc_197 zs_79 (by decide) ⟨by omega, by omega⟩ ?_
                          generalize hv340 : s118 197 (x115.toNat) = v340
                          have bv340 : -2147483648 ≤ v340 ∧ v340 ≤ 2147483647 := hv340 ▸ zv_79 hI119 zc_197 _
                          refine zt_iast (pc' := 151) hX dX12_stands_150 rfl (by decide) zc_197 zs_79 (by decide) ⟨by omega, by omega⟩ ?_
                          generalize hs342 : zset s118 197 ((36 + x115).toNat) v340 = s341
                          have hI343 : zInv s341 := hs342 ▸ zp_79 hI119 zc_197 ((36 + x115).toNat) ⟨by omega, by omega⟩
                          have hF344 : zFN σ s341 := hs342 ▸ zFN_set hF120 zc_197 (by decide) zk_79
                          have w345 := zwz_set (σ := σ) hs342 (by omega) (by omega)
                          have e346 : s341 194 0 = s118 194 0 := by rw [← hs342]; exact zset_k (zne_r zc_194 zc_197 (by decide))
                          have e347 : s341 194 1 = s118 194 1 := by rw [← hs342]; exact zset_k (zne_r zc_194 zc_197 (by decide))
                          have e348 : s341 194 3 = s118 194 3 := by rw [← hs342]; exact zset_k (zne_r zc_194 zc_197 (by decide))
                          have e349 : s341 194 4 = s118 194 4 := by rw [← hs342]; exact zset_k (zne_r zc_194 zc_197 (by decide))
                          have e350 : s341 195 0 = s118 195 0 := by rw [← hs342]; exact zset_k (zne_r zc_195 zc_197 (by decide))
                          have e351 : s341 195 1 = s118 195 1 := by rw [← hs342]; exact zset_k (zne_r zc_195 zc_197 (by decide))
                          have e352 : s341 164 48 = s118 164 48 := by rw [← hs342]; exact zset_k (zne_r zc_164 zc_197 (by decide))
                          have e353 : s341 164 49 = s118 164 49 := by rw [← hs342]; exact zset_k (zne_r zc_164 zc_197 (by decide))
                          have e354 : s341 164 50 = s118 164 50 := by rw [← hs342]; exact zset_k (zne_r zc_164 zc_197 (by decide))
                          have e355 : s341 164 7 = s118 164 7 := by rw [← hs342]; exact zset_k (zne_r zc_164 zc_197 (by decide))
                          have e356 : s341 164 8 = s118 164 8 := by rw [← hs342]; exact zset_k (zne_r zc_164 zc_197 (by decide))
                          refine zt_iinc (pc' := 154) (lv' := [some (.ref (X.1.1 + 164)), some (.int (zI (x115 + 1)))]) hX dX12_stands_151 rfl rfl hL (by decide) rfl ?_
                          refine zt_goto (tgt := 130) hX dX12_stands_154 (by decide) ?_
                          exact ih130 (x115 + 1) s341 (by omega) (by omega) hI343 hF344 (by omega) (by omega) (by omega) (by omega) (by omega) (by omega) (by omega) (by omega)
                    exact L_130_127 _ 0 s94 (by omega) (by omega) hI95 hF96 (by omega) (by omega) (by omega) (by omega) (by omega) (by omega) (by omega) (Nat.lt_succ_self _)
                  · refine zt_aload_n (pc' := 108) hX dX12_stands_107 rfl rfl ?_
                    refine zt_get (pc' := 111) (v := .ref (X.1.1 + 196)) hX dX12_stands_108 rfl zf_X12_108 (by decide) zc_164 zs_46 (zrf_of (zv_46_41 hI95 zc_164)) ?_
                    refine zt_bipush (pc' := 113) hX dX12_stands_111 rfl (by decide) (by decide) ?_
                    refine zt_iload_n (pc' := 114) hX dX12_stands_113 rfl rfl ?_
                    refine zt_iadd (pc' := 115) hX dX12_stands_114 rfl ?_
                    refine zt_aload_n (pc' := 116) hX dX12_stands_115 rfl rfl ?_
                    refine zt_get (pc' := 119) (v := .ref (X.1.1 + 196)) hX dX12_stands_116 rfl zf_X12_108 (by decide) zc_164 zs_46 (zrf_of (zv_46_41 hI95 zc_164)) ?_
                    refine zt_iload_n (pc' := 120) hX dX12_stands_119 rfl rfl ?_
                    refine zt_lald (pc' := 121) hX dX12_stands_120 rfl (by decide) zc_196 zs_78 (by decide) ⟨by omega, by omega⟩ ?_
                    generalize hv357 : s94 196 (x91.toNat) = v357
                    have bv357 : -9223372036854775808 ≤ v357 ∧ v357 ≤ 9223372036854775807 := hv357 ▸ zv_78 hI95 zc_196 _
                    refine zt_last (pc' := 122) hX dX12_stands_121 rfl (by decide) zc_196 zs_78 (by decide) ⟨by omega, by omega⟩ ?_
                    generalize hs359 : zset s94 196 ((10 + x91).toNat) v357 = s358
                    have hI360 : zInv s358 := hs359 ▸ zp_78 hI95 zc_196 ((10 + x91).toNat) ⟨by omega, by omega⟩
                    have hF361 : zFN σ s358 := hs359 ▸ zFN_set hF96 zc_196 (by decide) zk_78
                    have w362 := zwz_set (σ := σ) hs359 (by omega) (by omega)
                    have e363 : s358 194 0 = s94 194 0 := by rw [← hs359]; exact zset_k (zne_r zc_194 zc_196 (by decide))
                    have e364 : s358 194 1 = s94 194 1 := by rw [← hs359]; exact zset_k (zne_r zc_194 zc_196 (by decide))
                    have e365 : s358 194 3 = s94 194 3 := by rw [← hs359]; exact zset_k (zne_r zc_194 zc_196 (by decide))
                    have e366 : s358 194 4 = s94 194 4 := by rw [← hs359]; exact zset_k (zne_r zc_194 zc_196 (by decide))
                    have e367 : s358 195 0 = s94 195 0 := by rw [← hs359]; exact zset_k (zne_r zc_195 zc_196 (by decide))
                    have e368 : s358 195 1 = s94 195 1 := by rw [← hs359]; exact zset_k (zne_r zc_195 zc_196 (by decide))
                    have e369 : s358 164 48 = s94 164 48 := by rw [← hs359]; exact zset_k (zne_r zc_164 zc_196 (by decide))
                    have e370 : s358 164 49 = s94 164 49 := by rw [← hs359]; exact zset_k (zne_r zc_164 zc_196 (by decide))
                    have e371 : s358 164 50 = s94 164 50 := by rw [← hs359]; exact zset_k (zne_r zc_164 zc_196 (by decide))
                    have e372 : s358 164 7 = s94 164 7 := by rw [← hs359]; exact zset_k (zne_r zc_164 zc_196 (by decide))
                    have e373 : s358 164 8 = s94 164 8 := by rw [← hs359]; exact zset_k (zne_r zc_164 zc_196 (by decide))
                    refine zt_iinc (pc' := 125) (lv' := [some (.ref (X.1.1 + 164)), some (.int (zI (x91 + 1)))]) hX dX12_stands_122 rfl rfl hL (by decide) rfl ?_
                    refine zt_goto (tgt := 101) hX dX12_stands_125 (by decide) ?_
                    exact ih106 (x91 + 1) s358 (by omega) (by omega) hI360 hF361 (by omega) (by omega) (by omega) (by omega) (by omega) (by omega) (by omega) (by omega)
              exact L_101_103 _ 0 s70 (by omega) (by omega) hI71 hF72 (by omega) (by omega) (by omega) (by omega) (by omega) (by omega) (by omega) (Nat.lt_succ_self _)
            · refine zt_aload_n (pc' := 66) hX dX12_stands_65 rfl rfl ?_
              refine zt_get (pc' := 69) (v := .ref (X.1.1 + 200)) hX dX12_stands_66 rfl zf_X12_121 (by decide) zc_164 zs_46 (zrf_of (zv_46_45 hI71 zc_164)) ?_
              refine zt_iconst (pc' := 70) hX dX12_stands_69 rfl ?_
              refine zt_iload_n (pc' := 71) hX dX12_stands_70 rfl rfl ?_
              refine zt_iadd (pc' := 72) hX dX12_stands_71 rfl ?_
              refine zt_aload_n (pc' := 73) hX dX12_stands_72 rfl rfl ?_
              refine zt_get (pc' := 76) (v := .ref (X.1.1 + 200)) hX dX12_stands_73 rfl zf_X12_121 (by decide) zc_164 zs_46 (zrf_of (zv_46_45 hI71 zc_164)) ?_
              refine zt_iload_n (pc' := 77) hX dX12_stands_76 rfl rfl ?_
              refine zt_iald (pc' := 78) hX dX12_stands_77 rfl (by decide) zc_200 zs_82 (by decide) ⟨by omega, by omega⟩ ?_
              generalize hv374 : s70 200 (x67.toNat) = v374
              have bv374 : -1 ≤ v374 ∧ v374 ≤ 1600 := hv374 ▸ zv_82 hI71 zc_200 _
              refine zt_iast (pc' := 79) hX dX12_stands_78 rfl (by decide) zc_200 zs_82 (by decide) ⟨by omega, by omega⟩ ?_
              generalize hs376 : zset s70 200 ((2 + x67).toNat) v374 = s375
              have hI377 : zInv s375 := hs376 ▸ zp_82 hI71 zc_200 ((2 + x67).toNat) ⟨by omega, by omega⟩
              have hF378 : zFN σ s375 := hs376 ▸ zFN_set hF72 zc_200 (by decide) zk_82
              have w379 := zwz_set (σ := σ) hs376 (by omega) (by omega)
              have e380 : s375 194 0 = s70 194 0 := by rw [← hs376]; exact zset_k (zne_r zc_194 zc_200 (by decide))
              have e381 : s375 194 1 = s70 194 1 := by rw [← hs376]; exact zset_k (zne_r zc_194 zc_200 (by decide))
              have e382 : s375 194 3 = s70 194 3 := by rw [← hs376]; exact zset_k (zne_r zc_194 zc_200 (by decide))
              have e383 : s375 194 4 = s70 194 4 := by rw [← hs376]; exact zset_k (zne_r zc_194 zc_200 (by decide))
              have e384 : s375 195 0 = s70 195 0 := by rw [← hs376]; exact zset_k (zne_r zc_195 zc_200 (by decide))
              have e385 : s375 195 1 = s70 195 1 := by rw [← hs376]; exact zset_k (zne_r zc_195 zc_200 (by decide))
              have e386 : s375 164 48 = s70 164 48 := by rw [← hs376]; exact zset_k (zne_r zc_164 zc_200 (by decide))
              have e387 : s375 164 49 = s70 164 49 := by rw [← hs376]; exact zset_k (zne_r zc_164 zc_200 (by decide))
              have e388 : s375 164 50 = s70 164 50 := by rw [← hs376]; exact zset_k (zne_r zc_164 zc_200 (by decide))
              have e389 : s375 164 7 = s70 164 7 := by rw [← hs376]; exact zset_k (zne_r zc_164 zc_200 (by decide))
              have e390 : s375 164 8 = s70 164 8 := by rw [← hs376]; exact zset_k (zne_r zc_164 zc_200 (by decide))
              refine zt_aload_n (pc' := 80) hX dX12_stands_79 rfl rfl ?_
              refine zt_get (pc' := 83) (v := .ref (X.1.1 + 201)) hX dX12_stands_80 rfl zf_X12_124 (by decide) zc_164 zs_46 (zrf_of (zv_46_46 hI377 zc_164)) ?_
              refine zt_iconst (pc' := 84) hX dX12_stands_83 rfl ?_
              refine zt_iload_n (pc' := 85) hX dX12_stands_84 rfl rfl ?_
              refine zt_iadd (pc' := 86) hX dX12_stands_85 rfl ?_
              refine zt_aload_n (pc' := 87) hX dX12_stands_86 rfl rfl ?_
              refine zt_get (pc' := 90) (v := .ref (X.1.1 + 201)) hX dX12_stands_87 rfl zf_X12_124 (by decide) zc_164 zs_46 (zrf_of (zv_46_46 hI377 zc_164)) ?_
              refine zt_iload_n (pc' := 91) hX dX12_stands_90 rfl rfl ?_
              refine zt_iald (pc' := 92) hX dX12_stands_91 rfl (by decide) zc_201 zs_83 (by decide) ⟨by omega, by omega⟩ ?_
              generalize hv391 : s375 201 (x67.toNat) = v391
              have bv391 : 0 ≤ v391 ∧ v391 ≤ 1600 := hv391 ▸ zv_83 hI377 zc_201 _
              refine zt_iast (pc' := 93) hX dX12_stands_92 rfl (by decide) zc_201 zs_83 (by decide) ⟨by omega, by omega⟩ ?_
              generalize hs393 : zset s375 201 ((2 + x67).toNat) v391 = s392
              have hI394 : zInv s392 := hs393 ▸ zp_83 hI377 zc_201 ((2 + x67).toNat) ⟨by omega, by omega⟩
              have hF395 : zFN σ s392 := hs393 ▸ zFN_set hF378 zc_201 (by decide) zk_83
              have w396 := zwz_set (σ := σ) hs393 (by omega) (by omega)
              have e397 : s392 194 0 = s375 194 0 := by rw [← hs393]; exact zset_k (zne_r zc_194 zc_201 (by decide))
              have e398 : s392 194 1 = s375 194 1 := by rw [← hs393]; exact zset_k (zne_r zc_194 zc_201 (by decide))
              have e399 : s392 194 3 = s375 194 3 := by rw [← hs393]; exact zset_k (zne_r zc_194 zc_201 (by decide))
              have e400 : s392 194 4 = s375 194 4 := by rw [← hs393]; exact zset_k (zne_r zc_194 zc_201 (by decide))
              have e401 : s392 195 0 = s375 195 0 := by rw [← hs393]; exact zset_k (zne_r zc_195 zc_201 (by decide))
              have e402 : s392 195 1 = s375 195 1 := by rw [← hs393]; exact zset_k (zne_r zc_195 zc_201 (by decide))
              have e403 : s392 164 48 = s375 164 48 := by rw [← hs393]; exact zset_k (zne_r zc_164 zc_201 (by decide))
              have e404 : s392 164 49 = s375 164 49 := by rw [← hs393]; exact zset_k (zne_r zc_164 zc_201 (by decide))
              have e405 : s392 164 50 = s375 164 50 := by rw [← hs393]; exact zset_k (zne_r zc_164 zc_201 (by decide))
              have e406 : s392 164 7 = s375 164 7 := by rw [← hs393]; exact zset_k (zne_r zc_164 zc_201 (by decide))
              have e407 : s392 164 8 = s375 164 8 := by rw [← hs393]; exact zset_k (zne_r zc_164 zc_201 (by decide))
              refine zt_iinc (pc' := 96) (lv' := [some (.ref (X.1.1 + 164)), some (.int (zI (x67 + 1)))]) hX dX12_stands_93 rfl rfl hL (by decide) rfl ?_
              refine zt_goto (tgt := 60) hX dX12_stands_96 (by decide) ?_
              exact ih82 (x67 + 1) s392 (by omega) (by omega) hI394 hF395 (by omega) (by omega) (by omega) (by omega) (by omega) (by omega) (by omega) (by omega)
        exact L_60_79 _ 0 s45 (by omega) (by omega) hI46 hF47 (by omega) (by omega) (by omega) (by omega) (by omega) (by omega) (by omega) (Nat.lt_succ_self _)
      · refine zt_aload_n (pc' := 25) hX dX12_stands_24 rfl rfl ?_
        refine zt_get (pc' := 28) (v := .ref (X.1.1 + 194)) hX dX12_stands_25 rfl zf_X12_102 (by decide) zc_164 zs_46 (zrf_of (zv_46_39 hI46 zc_164)) ?_
        refine zt_iconst (pc' := 29) hX dX12_stands_28 rfl ?_
        refine zt_iload_n (pc' := 30) hX dX12_stands_29 rfl rfl ?_
        refine zt_iadd (pc' := 31) hX dX12_stands_30 rfl ?_
        refine zt_aload_n (pc' := 32) hX dX12_stands_31 rfl rfl ?_
        refine zt_get (pc' := 35) (v := .ref (X.1.1 + 194)) hX dX12_stands_32 rfl zf_X12_102 (by decide) zc_164 zs_46 (zrf_of (zv_46_39 hI46 zc_164)) ?_
        refine zt_iload_n (pc' := 36) hX dX12_stands_35 rfl rfl ?_
        refine zt_iald (pc' := 37) hX dX12_stands_36 rfl (by decide) zc_194 zs_76 (by decide) ⟨by omega, by omega⟩ ?_
        have bv408 := zv_76 hI46 zc_194 (x42.toNat)
        generalize hv408 : s45 194 (x42.toNat) = v408 at bv408 ⊢
        have h409 := zwz_sd (σ := σ) (s := s45) (by omega) hpre0 hv408 (by omega) (by omega)
        refine zt_iast (pc' := 38) hX dX12_stands_37 rfl (by decide) zc_194 zs_76 (by decide) ⟨by omega, by omega⟩ ?_
        generalize hs411 : zset s45 194 ((3 + x42).toNat) v408 = s410
        have hI412 : zInv s410 := hs411 ▸ zp_76 hI46 zc_194 ((3 + x42).toNat) (by omega)
        have hF413 : zFN σ s410 := hs411 ▸ zFN_set hF47 zc_194 (by decide) zk_76
        have w414 := zwz_set (σ := σ) hs411 (by omega) (by omega)
        have e415 : s410 195 0 = s45 195 0 := by rw [← hs411]; exact zset_k (zne_r zc_195 zc_194 (by decide))
        have e416 : s410 195 1 = s45 195 1 := by rw [← hs411]; exact zset_k (zne_r zc_195 zc_194 (by decide))
        have e417 : s410 164 48 = s45 164 48 := by rw [← hs411]; exact zset_k (zne_r zc_164 zc_194 (by decide))
        have e418 : s410 164 49 = s45 164 49 := by rw [← hs411]; exact zset_k (zne_r zc_164 zc_194 (by decide))
        have e419 : s410 164 50 = s45 164 50 := by rw [← hs411]; exact zset_k (zne_r zc_164 zc_194 (by decide))
        have e420 : s410 164 7 = s45 164 7 := by rw [← hs411]; exact zset_k (zne_r zc_164 zc_194 (by decide))
        have e421 : s410 164 8 = s45 164 8 := by rw [← hs411]; exact zset_k (zne_r zc_164 zc_194 (by decide))
        have h422 := zc2 (d := 3) (e := 4) hs411 (by omega) rfl hv408 (by omega) (by decide)
        refine zt_aload_n (pc' := 39) hX dX12_stands_38 rfl rfl ?_
        refine zt_get (pc' := 42) (v := .ref (X.1.1 + 199)) hX dX12_stands_39 rfl zf_X12_118 (by decide) zc_164 zs_46 (zrf_of (zv_46_44 hI412 zc_164)) ?_
        refine zt_iconst (pc' := 43) hX dX12_stands_42 rfl ?_
        refine zt_iload_n (pc' := 44) hX dX12_stands_43 rfl rfl ?_
        refine zt_iadd (pc' := 45) hX dX12_stands_44 rfl ?_
        refine zt_aload_n (pc' := 46) hX dX12_stands_45 rfl rfl ?_
        refine zt_get (pc' := 49) (v := .ref (X.1.1 + 199)) hX dX12_stands_46 rfl zf_X12_118 (by decide) zc_164 zs_46 (zrf_of (zv_46_44 hI412 zc_164)) ?_
        refine zt_iload_n (pc' := 50) hX dX12_stands_49 rfl rfl ?_
        refine zt_iald (pc' := 51) hX dX12_stands_50 rfl (by decide) zc_199 zs_81 (by decide) ⟨by omega, by omega⟩ ?_
        have bv423 := zv_81 hI412 zc_199 (x42.toNat)
        generalize hv423 : s410 199 (x42.toNat) = v423 at bv423 ⊢
        have h424 := zwz_st (σ := σ) (s := s410) (by omega) hpre1 hv423 (by omega) (by omega)
        refine zt_iast (pc' := 52) hX dX12_stands_51 rfl (by decide) zc_199 zs_81 (by decide) ⟨by omega, by omega⟩ ?_
        generalize hs426 : zset s410 199 ((3 + x42).toNat) v423 = s425
        have hI427 : zInv s425 := hs426 ▸ zp_81 hI412 zc_199 ((3 + x42).toNat) (by omega)
        have hF428 : zFN σ s425 := hs426 ▸ zFN_set hF413 zc_199 (by decide) zk_81
        have w429 := zwz_set (σ := σ) hs426 (by omega) (by omega)
        have e430 : s425 194 0 = s410 194 0 := by rw [← hs426]; exact zset_k (zne_r zc_194 zc_199 (by decide))
        have e431 : s425 194 1 = s410 194 1 := by rw [← hs426]; exact zset_k (zne_r zc_194 zc_199 (by decide))
        have e432 : s425 194 3 = s410 194 3 := by rw [← hs426]; exact zset_k (zne_r zc_194 zc_199 (by decide))
        have e433 : s425 194 4 = s410 194 4 := by rw [← hs426]; exact zset_k (zne_r zc_194 zc_199 (by decide))
        have e434 : s425 195 0 = s410 195 0 := by rw [← hs426]; exact zset_k (zne_r zc_195 zc_199 (by decide))
        have e435 : s425 195 1 = s410 195 1 := by rw [← hs426]; exact zset_k (zne_r zc_195 zc_199 (by decide))
        have e436 : s425 164 48 = s410 164 48 := by rw [← hs426]; exact zset_k (zne_r zc_164 zc_199 (by decide))
        have e437 : s425 164 49 = s410 164 49 := by rw [← hs426]; exact zset_k (zne_r zc_164 zc_199 (by decide))
        have e438 : s425 164 50 = s410 164 50 := by rw [← hs426]; exact zset_k (zne_r zc_164 zc_199 (by decide))
        have e439 : s425 164 7 = s410 164 7 := by rw [← hs426]; exact zset_k (zne_r zc_164 zc_199 (by decide))
        have e440 : s425 164 8 = s410 164 8 := by rw [← hs426]; exact zset_k (zne_r zc_164 zc_199 (by decide))
        refine zt_iinc (pc' := 55) (lv' := [some (.ref (X.1.1 + 164)), some (.int (zI (x42 + 1)))]) hX dX12_stands_52 rfl rfl hL (by decide) rfl ?_
        refine zt_goto (tgt := 19) hX dX12_stands_55 (by decide) ?_
        exact ih58 (x42 + 1) s425 (by omega) (by omega) hI427 hF428 (by omega) (by omega) (by omega) (by omega) (by omega) (by omega) (by omega) (by omega) (by omega)
  exact L_19_55 _ 0 s26 (by omega) (by omega) hI28 hF29 (by omega) (by omega) (by omega) (by omega) (by omega) (by omega) (by omega) (by omega) (Nat.lt_succ_self _)
