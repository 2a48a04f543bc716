set_option maxRecDepth 100000 in
set_option maxHeartbeats 2000000 in
theorem yc_X12_stands (l : Launch) (E : zEN) (σ : zSto) (hI : zInv σ) (hpre0 : 2 ≤ σ 194 0 ∧ σ 194 0 ≤ 6 ∧ 2 ≤ σ 194 1 ∧ σ 194 1 ≤ 6) (hpre1 : 0 ≤ σ 199 0 ∧ σ 199 0 ≤ 100 ∧ 0 ≤ σ 199 1 ∧ σ 199 1 ≤ 100 ∧ 0 ≤ σ 199 2 ∧ σ 199 2 ≤ 100) (hpre2 : σ 164 48 ≤ 1600) : zCt l E yX12_stands cX12_stands 2 none 0 zNC zNC 0 0 σ [.ref (E.1 + 164)] (fun r σ' => zInv σ' ∧ zFN σ σ' ∧ (σ' 164 49 = σ 164 49)) := by
  refine zCt_of2 [some (.ref (E.1 + 164)), none] (by decide +kernel) (Nat.le_of_ble_eq_true rfl) rfl ?_
  intro X hE hX hR hL hN
  subst hE
  have hX : zok X cX12_stands RX12 0 := hX
  have hF := zFN_rf σ
  have hws := zwz_rf σ
  have b1 := zv_46_48 hI zc_164
  have b2 := zv_46_49 hI zc_164
  refine zt_aload_n (pc' := 1) hX dX12_stands_0 rfl rfl ?_
  refine zt_iconst (pc' := 2) hX dX12_stands_1 rfl ?_
  refine zt_put (pc' := 5) (x := 1) hX dX12_stands_2 rfl zf_X12_375 (by decide) zc_164 zs_46 (fun q hq => by cases hq; rfl) rfl (zfit_z (by omega) (by omega)).1 (zfit_z (by omega) (by omega)).2 ?_
  generalize hs4 : zset σ 164 50 1 = s3
  have hI5 : zInv s3 := hs4 ▸ zp_46_50 hI zc_164 ⟨by omega, by omega⟩
  have hF6 : zFN σ s3 := hs4 ▸ zFN_set hF zc_164 (by decide) zk_46
  have w7 := zwz_set (σ := σ) hs4 (by omega) (by omega)
  have e8 : s3 194 0 = σ 194 0 := by rw [← hs4]; exact zset_k (zne_r zc_194 zc_164 (by decide))
  have e9 : s3 194 1 = σ 194 1 := by rw [← hs4]; exact zset_k (zne_r zc_194 zc_164 (by decide))
  have e10 : s3 164 48 = σ 164 48 := by rw [← hs4]; exact zset_j (by decide)
  have e11 : s3 164 49 = σ 164 49 := by rw [← hs4]; exact zset_j (by decide)
  refine zt_aload_n (pc' := 6) hX dX12_stands_5 rfl rfl ?_
  refine zt_get (pc' := 9) (v := .ref (X.1.1 + 195)) hX dX12_stands_6 rfl zf_X12_105 (by decide) zc_164 zs_46 (zrf_of (zv_46_40 hI5 zc_164)) ?_
  refine zt_iconst (pc' := 10) hX dX12_stands_9 rfl ?_
  refine zt_aload_n (pc' := 11) hX dX12_stands_10 rfl rfl ?_
  refine zt_get (pc' := 14) (v := .ref (X.1.1 + 195)) hX dX12_stands_11 rfl zf_X12_105 (by decide) zc_164 zs_46 (zrf_of (zv_46_40 hI5 zc_164)) ?_
  refine zt_iconst (pc' := 15) hX dX12_stands_14 rfl ?_
  refine zt_iald (pc' := 16) hX dX12_stands_15 rfl (by decide) zc_195 zs_77 (by decide) ⟨by omega, by omega⟩ ?_
  rw [show Int.toNat 0 = 0 from rfl]
  have b13 := zv_77 hI5 zc_195 0
  have e14 : s3 195 0 = σ 195 0 := by rw [← hs4]; exact zset_k (zne_r zc_195 zc_164 (by decide))
  refine zt_iast (pc' := 17) hX dX12_stands_16 rfl (by decide) zc_195 zs_77 (by decide) ⟨by omega, by omega⟩ ?_
  rw [show Int.toNat 1 = 1 from rfl]
  generalize hs16 : zset s3 195 1 (s3 195 0) = s15
  have hI17 : zInv s15 := hs16 ▸ zp_77 hI5 zc_195 1 ⟨by omega, by omega⟩
  have hF18 : zFN σ s15 := hs16 ▸ zFN_set hF6 zc_195 (by decide) zk_77
  have w19 := zwz_set (σ := σ) hs16 (by omega) (by omega)
  have e20 : s15 194 0 = s3 194 0 := by rw [← hs16]; exact zset_k (zne_r zc_194 zc_195 (by decide))
  have e21 : s15 194 1 = s3 194 1 := by rw [← hs16]; exact zset_k (zne_r zc_194 zc_195 (by decide))
  have e22 : s15 164 48 = s3 164 48 := by rw [← hs16]; exact zset_k (zne_r zc_164 zc_195 (by decide))
  have e23 : s15 164 49 = s3 164 49 := by rw [← hs16]; exact zset_k (zne_r zc_164 zc_195 (by decide))
  refine zt_iconst (pc' := 18) hX dX12_stands_17 rfl ?_
  refine zt_istore_n (pc' := 19) (lv' := [some (.ref (X.1.1 + 164)), some (.int (zI 0))]) hX dX12_stands_18 rfl hL (by decide) rfl ?_
  have L_19_31 : ∀ (N : Nat) (x24 : Int) (s27 : zSto), 0 ≤ x24 → x24 ≤ 3 → zInv s27 → zFN σ s27 → zwz σ s27 = 1 → s27 164 49 = σ 164 49 → ((4 - x24).toNat) < N → zF X s27 19 [some (.ref (X.1.1 + 164)), some (.int (zI x24))] [] := by
    intro N
    induction N with
    | zero =>
      intro x24 s27 h25 h26 hI28 hF29 g30 g31 hm33
      exact absurd hm33 (Nat.not_lt_zero _)
    | succ N ih34 =>
      intro x24 s27 h25 h26 hI28 hF29 g30 g31 hm33
      have b35 := zv_46_48 hI28 zc_164
      have b36 := zv_46_49 hI28 zc_164
      refine zt_iload_n (pc' := 20) hX dX12_stands_19 rfl rfl ?_
      refine zt_iconst (pc' := 21) hX dX12_stands_20 rfl ?_
      refine zt_icge (pc' := 24) (tgt := 58) hX dX12_stands_21 rfl (by decide) ⟨by omega, by omega⟩ ⟨by omega, by omega⟩ (fun c37 => ?_) (fun c37 => ?_)
      · refine zt_iconst (pc' := 59) hX dX12_stands_58 rfl ?_
        refine zt_istore_n (pc' := 60) (lv' := [some (.ref (X.1.1 + 164)), some (.int (zI 0))]) hX dX12_stands_59 rfl hL (by decide) rfl ?_
        have L_60_45 : ∀ (N : Nat) (x38 : Int) (s41 : zSto), 0 ≤ x38 → x38 ≤ 2 → zInv s41 → zFN σ s41 → zwz σ s41 = 1 → s41 164 49 = σ 164 49 → ((3 - x38).toNat) < N → zF X s41 60 [some (.ref (X.1.1 + 164)), some (.int (zI x38))] [] := by
          intro N
          induction N with
          | zero =>
            intro x38 s41 h39 h40 hI42 hF43 g44 g45 hm47
            exact absurd hm47 (Nat.not_lt_zero _)
          | succ N ih48 =>
            intro x38 s41 h39 h40 hI42 hF43 g44 g45 hm47
            have b49 := zv_46_48 hI42 zc_164
            have b50 := zv_46_49 hI42 zc_164
            refine zt_iload_n (pc' := 61) hX dX12_stands_60 rfl rfl ?_
            refine zt_iconst (pc' := 62) hX dX12_stands_61 rfl ?_
            refine zt_icge (pc' := 65) (tgt := 99) hX dX12_stands_62 rfl (by decide) ⟨by omega, by omega⟩ ⟨by omega, by omega⟩ (fun c51 => ?_) (fun c51 => ?_)
            · refine zt_iconst (pc' := 100) hX dX12_stands_99 rfl ?_
              refine zt_istore_n (pc' := 101) (lv' := [some (.ref (X.1.1 + 164)), some (.int (zI 0))]) hX dX12_stands_100 rfl hL (by decide) rfl ?_
              have L_101_59 : ∀ (N : Nat) (x52 : Int) (s55 : zSto), 0 ≤ x52 → x52 ≤ 10 → zInv s55 → zFN σ s55 → zwz σ s55 = 1 → s55 164 49 = σ 164 49 → ((11 - x52).toNat) < N → zF X s55 101 [some (.ref (X.1.1 + 164)), some (.int (zI x52))] [] := by
                intro N
                induction N with
                | zero =>
                  intro x52 s55 h53 h54 hI56 hF57 g58 g59 hm61
                  exact absurd hm61 (Nat.not_lt_zero _)
                | succ N ih62 =>
                  intro x52 s55 h53 h54 hI56 hF57 g58 g59 hm61
                  have b63 := zv_46_48 hI56 zc_164
                  have b64 := zv_46_49 hI56 zc_164
                  refine zt_iload_n (pc' := 102) hX dX12_stands_101 rfl rfl ?_
                  refine zt_bipush (pc' := 104) hX dX12_stands_102 rfl (by decide) (by decide) ?_
                  refine zt_icge (pc' := 107) (tgt := 128) hX dX12_stands_104 rfl (by decide) ⟨by omega, by omega⟩ ⟨by omega, by omega⟩ (fun c65 => ?_) (fun c65 => ?_)
                  · refine zt_iconst (pc' := 129) hX dX12_stands_128 rfl ?_
                    refine zt_istore_n (pc' := 130) (lv' := [some (.ref (X.1.1 + 164)), some (.int (zI 0))]) hX dX12_stands_129 rfl hL (by decide) rfl ?_
                    have L_130_73 : ∀ (N : Nat) (x66 : Int) (s69 : zSto), 0 ≤ x66 → x66 ≤ 36 → zInv s69 → zFN σ s69 → zwz σ s69 = 1 → s69 164 49 = σ 164 49 → ((37 - x66).toNat) < N → zF X s69 130 [some (.ref (X.1.1 + 164)), some (.int (zI x66))] [] := by
                      intro N
                      induction N with
                      | zero =>
                        intro x66 s69 h67 h68 hI70 hF71 g72 g73 hm75
                        exact absurd hm75 (Nat.not_lt_zero _)
                      | succ N ih76 =>
                        intro x66 s69 h67 h68 hI70 hF71 g72 g73 hm75
                        have b77 := zv_46_48 hI70 zc_164
                        have b78 := zv_46_49 hI70 zc_164
                        refine zt_iload_n (pc' := 131) hX dX12_stands_130 rfl rfl ?_
                        refine zt_bipush (pc' := 133) hX dX12_stands_131 rfl (by decide) (by decide) ?_
                        refine zt_icge (pc' := 136) (tgt := 157) hX dX12_stands_133 rfl (by decide) ⟨by omega, by omega⟩ ⟨by omega, by omega⟩ (fun c79 => ?_) (fun c79 => ?_)
                        · refine zt_iconst (pc' := 158) hX dX12_stands_157 rfl ?_
                          refine zt_istore_n (pc' := 159) (lv' := [some (.ref (X.1.1 + 164)), some (.int (zI 0))]) hX dX12_stands_158 rfl hL (by decide) rfl ?_
                          have L_159_87 : ∀ (N : Nat) (x80 : Int) (s83 : zSto), 0 ≤ x80 → x80 ≤ 20 → zInv s83 → zFN σ s83 → zwz σ s83 = 1 → s83 164 49 = σ 164 49 → ((21 - x80).toNat) < N → zF X s83 159 [some (.ref (X.1.1 + 164)), some (.int (zI x80))] [] := by
                            intro N
                            induction N with
                            | zero =>
                              intro x80 s83 h81 h82 hI84 hF85 g86 g87 hm89
                              exact absurd hm89 (Nat.not_lt_zero _)
                            | succ N ih90 =>
                              intro x80 s83 h81 h82 hI84 hF85 g86 g87 hm89
                              have b91 := zv_46_48 hI84 zc_164
                              have b92 := zv_46_49 hI84 zc_164
                              refine zt_iload_n (pc' := 160) hX dX12_stands_159 rfl rfl ?_
                              refine zt_bipush (pc' := 162) hX dX12_stands_160 rfl (by decide) (by decide) ?_
                              refine zt_icge (pc' := 165) (tgt := 186) hX dX12_stands_162 rfl (by decide) ⟨by omega, by omega⟩ ⟨by omega, by omega⟩ (fun c93 => ?_) (fun c93 => ?_)
                              · refine zt_iconst (pc' := 187) hX dX12_stands_186 rfl ?_
                                refine zt_istore_n (pc' := 188) (lv' := [some (.ref (X.1.1 + 164)), some (.int (zI 0))]) hX dX12_stands_187 rfl hL (by decide) rfl ?_
                                have h94f := zwz_f (σ := σ) (s := s83) (by omega)
                                have L_188_103 : ∀ (N : Nat) (x95 : Int) (s98 : zSto), 0 ≤ x95 → x95 ≤ 3200 → zInv s98 → zFN σ s98 → s98 164 48 ≤ 1600 → zwz σ s98 = 1 → s98 164 49 = σ 164 49 → ((3201 - x95).toNat) < N → zF X s98 188 [some (.ref (X.1.1 + 164)), some (.int (zI x95))] [] := by
                                  intro N
                                  induction N with
                                  | zero =>
                                    intro x95 s98 h96 h97 hI99 hF100 g101 g102 g103 hm105
                                    exact absurd hm105 (Nat.not_lt_zero _)
                                  | succ N ih106 =>
                                    intro x95 s98 h96 h97 hI99 hF100 g101 g102 g103 hm105
                                    have b107 := zv_46_48 hI99 zc_164
                                    have b108 := zv_46_49 hI99 zc_164
                                    refine zt_iload_n (pc' := 189) hX dX12_stands_188 rfl rfl ?_
                                    refine zt_aload_n (pc' := 190) hX dX12_stands_189 rfl rfl ?_
                                    have b109 := zv_46_48 hI99 zc_164
                                    refine zt_get (pc' := 193) (v := .int (zI (s98 164 48))) hX dX12_stands_190 rfl zf_X12_348 (by decide) zc_164 zs_46 rfl ?_
                                    refine zt_icge (pc' := 196) (tgt := 218) hX dX12_stands_193 rfl (by decide) ⟨by omega, by omega⟩ ⟨by omega, by omega⟩ (fun c110 => ?_) (fun c110 => ?_)
                                    · refine zt_iconst (pc' := 219) hX dX12_stands_218 rfl ?_
                                      refine zt_istore_n (pc' := 220) (lv' := [some (.ref (X.1.1 + 164)), some (.int (zI 0))]) hX dX12_stands_219 rfl hL (by decide) rfl ?_
                                      have L_220_118 : ∀ (N : Nat) (x111 : Int) (s114 : zSto), 0 ≤ x111 → x111 ≤ 188 → zInv s114 → zFN σ s114 → zwz σ s114 = 1 → s114 164 49 = σ 164 49 → ((189 - x111).toNat) < N → zF X s114 220 [some (.ref (X.1.1 + 164)), some (.int (zI x111))] [] := by
                                        intro N
                                        induction N with
                                        | zero =>
                                          intro x111 s114 h112 h113 hI115 hF116 g117 g118 hm120
                                          exact absurd hm120 (Nat.not_lt_zero _)
                                        | succ N ih121 =>
                                          intro x111 s114 h112 h113 hI115 hF116 g117 g118 hm120
                                          have b122 := zv_46_48 hI115 zc_164
                                          have b123 := zv_46_49 hI115 zc_164
                                          refine zt_iload_n (pc' := 221) hX dX12_stands_220 rfl rfl ?_
                                          refine zt_sipush (pc' := 224) hX dX12_stands_221 rfl (by decide) (by decide) ?_
                                          refine zt_icge (pc' := 227) (tgt := 240) hX dX12_stands_224 rfl (by decide) ⟨by omega, by omega⟩ ⟨by omega, by omega⟩ (fun c124 => ?_) (fun c124 => ?_)
                                          · refine zt_iconst (pc' := 241) hX dX12_stands_240 rfl ?_
                                            refine zt_istore_n (pc' := 242) (lv' := [some (.ref (X.1.1 + 164)), some (.int (zI 0))]) hX dX12_stands_241 rfl hL (by decide) rfl ?_
                                            have L_242_132 : ∀ (N : Nat) (x125 : Int) (s128 : zSto), 0 ≤ x125 → x125 ≤ 10 → zInv s128 → zFN σ s128 → zwz σ s128 = 1 → s128 164 49 = σ 164 49 → ((11 - x125).toNat) < N → zF X s128 242 [some (.ref (X.1.1 + 164)), some (.int (zI x125))] [] := by
                                              intro N
                                              induction N with
                                              | zero =>
                                                intro x125 s128 h126 h127 hI129 hF130 g131 g132 hm134
                                                exact absurd hm134 (Nat.not_lt_zero _)
                                              | succ N ih135 =>
                                                intro x125 s128 h126 h127 hI129 hF130 g131 g132 hm134
                                                have b136 := zv_46_48 hI129 zc_164
                                                have b137 := zv_46_49 hI129 zc_164
                                                refine zt_iload_n (pc' := 243) hX dX12_stands_242 rfl rfl ?_
                                                refine zt_aload_n (pc' := 244) hX dX12_stands_243 rfl rfl ?_
                                                refine zt_get (pc' := 247) (v := .ref (X.1.1 + 195)) hX dX12_stands_244 rfl zf_X12_105 (by decide) zc_164 zs_46 (zrf_of (zv_46_40 hI129 zc_164)) ?_
                                                refine zt_iconst (pc' := 248) hX dX12_stands_247 rfl ?_
                                                refine zt_iald (pc' := 249) hX dX12_stands_248 rfl (by decide) zc_195 zs_77 (by decide) ⟨by omega, by omega⟩ ?_
                                                rw [show Int.toNat 0 = 0 from rfl]
                                                have b139 := zv_77 hI129 zc_195 0
                                                refine zt_icge (pc' := 252) (tgt := 277) hX dX12_stands_249 rfl (by decide) ⟨by omega, by omega⟩ ⟨by omega, by omega⟩ (fun c140 => ?_) (fun c140 => ?_)
                                                · refine zt_aload_n (pc' := 278) hX dX12_stands_277 rfl rfl ?_
                                                  refine zt_iconst (pc' := 279) hX dX12_stands_278 rfl ?_
                                                  refine zt_put (pc' := 282) (x := 0) hX dX12_stands_279 rfl zf_X12_379 (by decide) zc_164 zs_46 (fun q hq => by cases hq; rfl) rfl rfl rfl ?_
                                                  generalize hs142 : zset s128 164 70 0 = s141
                                                  have hI143 : zInv s141 := hs142 ▸ zp_46_70 hI129 zc_164 ⟨by omega, by omega⟩
                                                  have hF144 : zFN σ s141 := hs142 ▸ zFN_set hF130 zc_164 (by decide) zk_46
                                                  have w145 := zwz_set (σ := σ) hs142 (by omega) (by omega)
                                                  have e146 : s141 194 0 = s128 194 0 := by rw [← hs142]; exact zset_k (zne_r zc_194 zc_164 (by decide))
                                                  have e147 : s141 194 1 = s128 194 1 := by rw [← hs142]; exact zset_k (zne_r zc_194 zc_164 (by decide))
                                                  have e148 : s141 164 48 = s128 164 48 := by rw [← hs142]; exact zset_j (by decide)
                                                  have e149 : s141 164 49 = s128 164 49 := by rw [← hs142]; exact zset_j (by decide)
                                                  refine zt_aload_n (pc' := 283) hX dX12_stands_282 rfl rfl ?_
                                                  refine zt_iconst (pc' := 284) hX dX12_stands_283 rfl ?_
                                                  refine zt_put (pc' := 287) (x := 0) hX dX12_stands_284 rfl zf_X12_382 (by decide) zc_164 zs_46 (fun q hq => by cases hq; rfl) rfl rfl rfl ?_
                                                  generalize hs151 : zset s141 164 64 0 = s150
                                                  have hI152 : zInv s150 := hs151 ▸ zp_46_64 hI143 zc_164 ⟨by omega, by omega⟩
                                                  have hF153 : zFN σ s150 := hs151 ▸ zFN_set hF144 zc_164 (by decide) zk_46
                                                  have w154 := zwz_set (σ := σ) hs151 (by omega) (by omega)
                                                  have e155 : s150 194 0 = s141 194 0 := by rw [← hs151]; exact zset_k (zne_r zc_194 zc_164 (by decide))
                                                  have e156 : s150 194 1 = s141 194 1 := by rw [← hs151]; exact zset_k (zne_r zc_194 zc_164 (by decide))
                                                  have e157 : s150 164 48 = s141 164 48 := by rw [← hs151]; exact zset_j (by decide)
                                                  have e158 : s150 164 49 = s141 164 49 := by rw [← hs151]; exact zset_j (by decide)
                                                  exact zt_vret hX hR dX12_stands_287 ⟨hI152, hF153, by omega⟩
                                                · refine zt_aload_n (pc' := 253) hX dX12_stands_252 rfl rfl ?_
                                                  refine zt_get (pc' := 256) (v := .ref (X.1.1 + 203)) hX dX12_stands_253 rfl zf_X12_130 (by decide) zc_164 zs_46 (zrf_of (zv_46_52 hI129 zc_164)) ?_
                                                  refine zt_bipush (pc' := 258) hX dX12_stands_256 rfl (by decide) (by decide) ?_
                                                  refine zt_iconst (pc' := 259) hX dX12_stands_258 rfl ?_
                                                  refine zt_iload_n (pc' := 260) hX dX12_stands_259 rfl rfl ?_
                                                  refine zt_imul (pc' := 261) hX dX12_stands_260 rfl ?_
                                                  refine zt_iadd (pc' := 262) hX dX12_stands_261 rfl ?_
                                                  refine zt_aload_n (pc' := 263) hX dX12_stands_262 rfl rfl ?_
                                                  refine zt_get (pc' := 266) (v := .ref (X.1.1 + 198)) hX dX12_stands_263 rfl zf_X12_115 (by decide) zc_164 zs_46 (zrf_of (zv_46_43 hI129 zc_164)) ?_
                                                  refine zt_iconst (pc' := 267) hX dX12_stands_266 rfl ?_
                                                  refine zt_iload_n (pc' := 268) hX dX12_stands_267 rfl rfl ?_
                                                  refine zt_imul (pc' := 269) hX dX12_stands_268 rfl ?_
                                                  refine zt_iald (pc' := 270) hX dX12_stands_269 rfl (by decide) zc_198 zs_80 (by decide) ⟨by omega, by omega⟩ ?_
                                                  have bv159 := zv_80 hI129 zc_198 ((2 * x125).toNat)
                                                  generalize hv159 : s128 198 ((2 * x125).toNat) = v159 at bv159 ⊢
                                                  refine zt_iast (pc' := 271) hX dX12_stands_270 rfl (by decide) zc_203 zs_85 (by decide) ⟨by omega, by omega⟩ ?_
                                                  generalize hs161 : zset s128 203 ((37 + (3 * x125)).toNat) v159 = s160
                                                  have hI162 : zInv s160 := hs161 ▸ zp_85 hI129 zc_203 ((37 + (3 * x125)).toNat) (by omega)
                                                  have hF163 : zFN σ s160 := hs161 ▸ zFN_set hF130 zc_203 (by decide) zk_85
                                                  have w164 := zwz_set (σ := σ) hs161 (by omega) (by omega)
                                                  have e165 : s160 194 0 = s128 194 0 := by rw [← hs161]; exact zset_k (zne_r zc_194 zc_203 (by decide))
                                                  have e166 : s160 194 1 = s128 194 1 := by rw [← hs161]; exact zset_k (zne_r zc_194 zc_203 (by decide))
                                                  have e167 : s160 164 48 = s128 164 48 := by rw [← hs161]; exact zset_k (zne_r zc_164 zc_203 (by decide))
                                                  have e168 : s160 164 49 = s128 164 49 := by rw [← hs161]; exact zset_k (zne_r zc_164 zc_203 (by decide))
                                                  refine zt_iinc (pc' := 274) (lv' := [some (.ref (X.1.1 + 164)), some (.int (zI (x125 + 1)))]) hX dX12_stands_271 rfl rfl hL (by decide) rfl ?_
                                                  refine zt_goto (tgt := 242) hX dX12_stands_274 (by decide) ?_
                                                  exact ih135 (x125 + 1) s160 (by omega) (by omega) hI162 hF163 (by omega) (by omega) (by omega)
                                            exact L_242_132 _ 0 s114 (by omega) (by omega) hI115 hF116 (by omega) (by omega) (Nat.lt_succ_self _)
                                          · refine zt_aload_n (pc' := 228) hX dX12_stands_227 rfl rfl ?_
                                            refine zt_get (pc' := 231) (v := .ref (X.1.1 + 203)) hX dX12_stands_228 rfl zf_X12_130 (by decide) zc_164 zs_46 (zrf_of (zv_46_52 hI115 zc_164)) ?_
                                            refine zt_iload_n (pc' := 232) hX dX12_stands_231 rfl rfl ?_
                                            refine zt_iconst (pc' := 233) hX dX12_stands_232 rfl ?_
                                            refine zt_iast (pc' := 234) hX dX12_stands_233 rfl (by decide) zc_203 zs_85 (by decide) ⟨by omega, by omega⟩ ?_
                                            generalize hs170 : zset s114 203 (x111.toNat) 0 = s169
                                            have hI171 : zInv s169 := hs170 ▸ zp_85 hI115 zc_203 (x111.toNat) (by omega)
                                            have hF172 : zFN σ s169 := hs170 ▸ zFN_set hF116 zc_203 (by decide) zk_85
                                            have w173 := zwz_set (σ := σ) hs170 (by omega) (by omega)
                                            have e174 : s169 194 0 = s114 194 0 := by rw [← hs170]; exact zset_k (zne_r zc_194 zc_203 (by decide))
                                            have e175 : s169 194 1 = s114 194 1 := by rw [← hs170]; exact zset_k (zne_r zc_194 zc_203 (by decide))
                                            have e176 : s169 164 48 = s114 164 48 := by rw [← hs170]; exact zset_k (zne_r zc_164 zc_203 (by decide))
                                            have e177 : s169 164 49 = s114 164 49 := by rw [← hs170]; exact zset_k (zne_r zc_164 zc_203 (by decide))
                                            refine zt_iinc (pc' := 237) (lv' := [some (.ref (X.1.1 + 164)), some (.int (zI (x111 + 1)))]) hX dX12_stands_234 rfl rfl hL (by decide) rfl ?_
                                            refine zt_goto (tgt := 220) hX dX12_stands_237 (by decide) ?_
                                            exact ih121 (x111 + 1) s169 (by omega) (by omega) hI171 hF172 (by omega) (by omega) (by omega)
                                      exact L_220_118 _ 0 s98 (by omega) (by omega) hI99 hF100 (by omega) (by omega) (Nat.lt_succ_self _)
                                    · refine zt_aload_n (pc' := 197) hX dX12_stands_196 rfl rfl ?_
                                      refine zt_get (pc' := 200) (v := .ref (X.1.1 + 202)) hX dX12_stands_197 rfl zf_X12_127 (by decide) zc_164 zs_46 (zrf_of (zv_46_47 hI99 zc_164)) ?_
                                      refine zt_sipush (pc' := 203) hX dX12_stands_200 rfl (by decide) (by decide) ?_
                                      refine zt_iload_n (pc' := 204) hX dX12_stands_203 rfl rfl ?_
                                      refine zt_iadd (pc' := 205) hX dX12_stands_204 rfl ?_
                                      refine zt_aload_n (pc' := 206) hX dX12_stands_205 rfl rfl ?_
                                      refine zt_get (pc' := 209) (v := .ref (X.1.1 + 202)) hX dX12_stands_206 rfl zf_X12_127 (by decide) zc_164 zs_46 (zrf_of (zv_46_47 hI99 zc_164)) ?_
                                      refine zt_iload_n (pc' := 210) hX dX12_stands_209 rfl rfl ?_
                                      refine zt_iald (pc' := 211) hX dX12_stands_210 rfl (by decide) zc_202 zs_84 (by decide) ⟨by omega, by omega⟩ ?_
                                      generalize hv178 : s98 202 (x95.toNat) = v178
                                      have bv178 : -2147483648 ≤ v178 ∧ v178 ≤ 2147483647 := hv178 ▸ zv_84 hI99 zc_202 _
                                      refine zt_iast (pc' := 212) hX dX12_stands_211 rfl (by decide) zc_202 zs_84 (by decide) ⟨by omega, by omega⟩ ?_
                                      generalize hs180 : zset s98 202 ((1600 + x95).toNat) v178 = s179
                                      have hI181 : zInv s179 := hs180 ▸ zp_84 hI99 zc_202 ((1600 + x95).toNat) ⟨by omega, by omega⟩
                                      have hF182 : zFN σ s179 := hs180 ▸ zFN_set hF100 zc_202 (by decide) zk_84
                                      have w183 := zwz_set (σ := σ) hs180 (by omega) (by omega)
                                      have e184 : s179 194 0 = s98 194 0 := by rw [← hs180]; exact zset_k (zne_r zc_194 zc_202 (by decide))
                                      have e185 : s179 194 1 = s98 194 1 := by rw [← hs180]; exact zset_k (zne_r zc_194 zc_202 (by decide))
                                      have e186 : s179 164 48 = s98 164 48 := by rw [← hs180]; exact zset_k (zne_r zc_164 zc_202 (by decide))
                                      have e187 : s179 164 49 = s98 164 49 := by rw [← hs180]; exact zset_k (zne_r zc_164 zc_202 (by decide))
                                      refine zt_iinc (pc' := 215) (lv' := [some (.ref (X.1.1 + 164)), some (.int (zI (x95 + 1)))]) hX dX12_stands_212 rfl rfl hL (by decide) rfl ?_
                                      refine zt_goto (tgt := 188) hX dX12_stands_215 (by decide) ?_
                                      exact ih106 (x95 + 1) s179 (by omega) (by omega) hI181 hF182 (by omega) (by omega) (by omega) (by omega)
                                exact L_188_103 _ 0 s83 (by omega) (by omega) hI84 hF85 (by omega) (by omega) (by omega) (Nat.lt_succ_self _)
                              · refine zt_aload_n (pc' := 166) hX dX12_stands_165 rfl rfl ?_
                                refine zt_get (pc' := 169) (v := .ref (X.1.1 + 198)) hX dX12_stands_166 rfl zf_X12_115 (by decide) zc_164 zs_46 (zrf_of (zv_46_43 hI84 zc_164)) ?_
                                refine zt_bipush (pc' := 171) hX dX12_stands_169 rfl (by decide) (by decide) ?_
                                refine zt_iload_n (pc' := 172) hX dX12_stands_171 rfl rfl ?_
                                refine zt_iadd (pc' := 173) hX dX12_stands_172 rfl ?_
                                refine zt_aload_n (pc' := 174) hX dX12_stands_173 rfl rfl ?_
                                refine zt_get (pc' := 177) (v := .ref (X.1.1 + 198)) hX dX12_stands_174 rfl zf_X12_115 (by decide) zc_164 zs_46 (zrf_of (zv_46_43 hI84 zc_164)) ?_
                                refine zt_iload_n (pc' := 178) hX dX12_stands_177 rfl rfl ?_
                                refine zt_iald (pc' := 179) hX dX12_stands_178 rfl (by decide) zc_198 zs_80 (by decide) ⟨by omega, by omega⟩ ?_
                                have bv188 := zv_80 hI84 zc_198 (x80.toNat)
                                generalize hv188 : s83 198 (x80.toNat) = v188 at bv188 ⊢
                                refine zt_iast (pc' := 180) hX dX12_stands_179 rfl (by decide) zc_198 zs_80 (by decide) ⟨by omega, by omega⟩ ?_
                                generalize hs190 : zset s83 198 ((20 + x80).toNat) v188 = s189
                                have hI191 : zInv s189 := hs190 ▸ zp_80 hI84 zc_198 ((20 + x80).toNat) (by omega)
                                have hF192 : zFN σ s189 := hs190 ▸ zFN_set hF85 zc_198 (by decide) zk_80
                                have w193 := zwz_set (σ := σ) hs190 (by omega) (by omega)
                                have e194 : s189 194 0 = s83 194 0 := by rw [← hs190]; exact zset_k (zne_r zc_194 zc_198 (by decide))
                                have e195 : s189 194 1 = s83 194 1 := by rw [← hs190]; exact zset_k (zne_r zc_194 zc_198 (by decide))
                                have e196 : s189 164 48 = s83 164 48 := by rw [← hs190]; exact zset_k (zne_r zc_164 zc_198 (by decide))
                                have e197 : s189 164 49 = s83 164 49 := by rw [← hs190]; exact zset_k (zne_r zc_164 zc_198 (by decide))
                                refine zt_iinc (pc' := 183) (lv' := [some (.ref (X.1.1 + 164)), some (.int (zI (x80 + 1)))]) hX dX12_stands_180 rfl rfl hL (by decide) rfl ?_
                                refine zt_goto (tgt := 159) hX dX12_stands_183 (by decide) ?_
                                exact ih90 (x80 + 1) s189 (by omega) (by omega) hI191 hF192 (by omega) (by omega) (by omega)
                          exact L_159_87 _ 0 s69 (by omega) (by omega) hI70 hF71 (by omega) (by omega) (Nat.lt_succ_self _)
                        · refine zt_aload_n (pc' := 137) hX dX12_stands_136 rfl rfl ?_
                          refine zt_get (pc' := 140) (v := .ref (X.1.1 + 197)) hX dX12_stands_137 rfl zf_X12_112 (by decide) zc_164 zs_46 (zrf_of (zv_46_42 hI70 zc_164)) ?_
                          refine zt_bipush (pc' := 142) hX dX12_stands_140 rfl (by decide) (by decide) ?_
                          refine zt_iload_n (pc' := 143) hX dX12_stands_142 rfl rfl ?_
                          refine zt_iadd (pc' := 144) hX dX12_stands_143 rfl ?_
                          refine zt_aload_n (pc' := 145) hX dX12_stands_144 rfl rfl ?_
                          refine zt_get (pc' := 148) (v := .ref (X.1.1 + 197)) hX dX12_stands_145 rfl zf_X12_112 (by decide) zc_164 zs_46 (zrf_of (zv_46_42 hI70 zc_164)) ?_
                          refine zt_iload_n (pc' := 149) hX dX12_stands_148 rfl rfl ?_
                          refine zt_iald (pc' := 150) hX dX12_stands_149 rfl (by decide) zc_197 zs_79 (by decide) ⟨by omega, by omega⟩ ?_
                          generalize hv198 : s69 197 (x66.toNat) = v198
                          have bv198 : -2147483648 ≤ v198 ∧ v198 ≤ 2147483647 := hv198 ▸ zv_79 hI70 zc_197 _
                          refine zt_iast (pc' := 151) hX dX12_stands_150 rfl (by decide) zc_197 zs_79 (by decide) ⟨by omega, by omega⟩ ?_
                          generalize hs200 : zset s69 197 ((36 + x66).toNat) v198 = s199
                          have hI201 : zInv s199 := hs200 ▸ zp_79 hI70 zc_197 ((36 + x66).toNat) ⟨by omega, by omega⟩
                          have hF202 : zFN σ s199 := hs200 ▸ zFN_set hF71 zc_197 (by decide) zk_79
                          have w203 := zwz_set (σ := σ) hs200 (by omega) (by omega)
                          have e204 : s199 194 0 = s69 194 0 := by rw [← hs200]; exact zset_k (zne_r zc_194 zc_197 (by decide))
                          have e205 : s199 194 1 = s69 194 1 := by rw [← hs200]; exact zset_k (zne_r zc_194 zc_197 (by decide))
                          have e206 : s199 164 48 = s69 164 48 := by rw [← hs200]; exact zset_k (zne_r zc_164 zc_197 (by decide))
                          have e207 : s199 164 49 = s69 164 49 := by rw [← hs200]; exact zset_k (zne_r zc_164 zc_197 (by decide))
                          refine zt_iinc (pc' := 154) (lv' := [some (.ref (X.1.1 + 164)), some (.int (zI (x66 + 1)))]) hX dX12_stands_151 rfl rfl hL (by decide) rfl ?_
                          refine zt_goto (tgt := 130) hX dX12_stands_154 (by decide) ?_
                          exact ih76 (x66 + 1) s199 (by omega) (by omega) hI201 hF202 (by omega) (by omega) (by omega)
                    exact L_130_73 _ 0 s55 (by omega) (by omega) hI56 hF57 (by omega) (by omega) (Nat.lt_succ_self _)
                  · refine zt_aload_n (pc' := 108) hX dX12_stands_107 rfl rfl ?_
                    refine zt_get (pc' := 111) (v := .ref (X.1.1 + 196)) hX dX12_stands_108 rfl zf_X12_108 (by decide) zc_164 zs_46 (zrf_of (zv_46_41 hI56 zc_164)) ?_
                    refine zt_bipush (pc' := 113) hX dX12_stands_111 rfl (by decide) (by decide) ?_
                    refine zt_iload_n (pc' := 114) hX dX12_stands_113 rfl rfl ?_
                    refine zt_iadd (pc' := 115) hX dX12_stands_114 rfl ?_
                    refine zt_aload_n (pc' := 116) hX dX12_stands_115 rfl rfl ?_
                    refine zt_get (pc' := 119) (v := .ref (X.1.1 + 196)) hX dX12_stands_116 rfl zf_X12_108 (by decide) zc_164 zs_46 (zrf_of (zv_46_41 hI56 zc_164)) ?_
                    refine zt_iload_n (pc' := 120) hX dX12_stands_119 rfl rfl ?_
                    refine zt_lald (pc' := 121) hX dX12_stands_120 rfl (by decide) zc_196 zs_78 (by decide) ⟨by omega, by omega⟩ ?_
                    generalize hv208 : s55 196 (x52.toNat) = v208
                    have bv208 : -9223372036854775808 ≤ v208 ∧ v208 ≤ 9223372036854775807 := hv208 ▸ zv_78 hI56 zc_196 _
                    refine zt_last (pc' := 122) hX dX12_stands_121 rfl (by decide) zc_196 zs_78 (by decide) ⟨by omega, by omega⟩ ?_
                    generalize hs210 : zset s55 196 ((10 + x52).toNat) v208 = s209
                    have hI211 : zInv s209 := hs210 ▸ zp_78 hI56 zc_196 ((10 + x52).toNat) ⟨by omega, by omega⟩
                    have hF212 : zFN σ s209 := hs210 ▸ zFN_set hF57 zc_196 (by decide) zk_78
                    have w213 := zwz_set (σ := σ) hs210 (by omega) (by omega)
                    have e214 : s209 194 0 = s55 194 0 := by rw [← hs210]; exact zset_k (zne_r zc_194 zc_196 (by decide))
                    have e215 : s209 194 1 = s55 194 1 := by rw [← hs210]; exact zset_k (zne_r zc_194 zc_196 (by decide))
                    have e216 : s209 164 48 = s55 164 48 := by rw [← hs210]; exact zset_k (zne_r zc_164 zc_196 (by decide))
                    have e217 : s209 164 49 = s55 164 49 := by rw [← hs210]; exact zset_k (zne_r zc_164 zc_196 (by decide))
                    refine zt_iinc (pc' := 125) (lv' := [some (.ref (X.1.1 + 164)), some (.int (zI (x52 + 1)))]) hX dX12_stands_122 rfl rfl hL (by decide) rfl ?_
                    refine zt_goto (tgt := 101) hX dX12_stands_125 (by decide) ?_
                    exact ih62 (x52 + 1) s209 (by omega) (by omega) hI211 hF212 (by omega) (by omega) (by omega)
              exact L_101_59 _ 0 s41 (by omega) (by omega) hI42 hF43 (by omega) (by omega) (Nat.lt_succ_self _)
            · refine zt_aload_n (pc' := 66) hX dX12_stands_65 rfl rfl ?_
              refine zt_get (pc' := 69) (v := .ref (X.1.1 + 200)) hX dX12_stands_66 rfl zf_X12_121 (by decide) zc_164 zs_46 (zrf_of (zv_46_45 hI42 zc_164)) ?_
              refine zt_iconst (pc' := 70) hX dX12_stands_69 rfl ?_
              refine zt_iload_n (pc' := 71) hX dX12_stands_70 rfl rfl ?_
              refine zt_iadd (pc' := 72) hX dX12_stands_71 rfl ?_
              refine zt_aload_n (pc' := 73) hX dX12_stands_72 rfl rfl ?_
              refine zt_get (pc' := 76) (v := .ref (X.1.1 + 200)) hX dX12_stands_73 rfl zf_X12_121 (by decide) zc_164 zs_46 (zrf_of (zv_46_45 hI42 zc_164)) ?_
              refine zt_iload_n (pc' := 77) hX dX12_stands_76 rfl rfl ?_
              refine zt_iald (pc' := 78) hX dX12_stands_77 rfl (by decide) zc_200 zs_82 (by decide) ⟨by omega, by omega⟩ ?_
              generalize hv218 : s41 200 (x38.toNat) = v218
              have bv218 : -1 ≤ v218 ∧ v218 ≤ 1600 := hv218 ▸ zv_82 hI42 zc_200 _
              refine zt_iast (pc' := 79) hX dX12_stands_78 rfl (by decide) zc_200 zs_82 (by decide) ⟨by omega, by omega⟩ ?_
              generalize hs220 : zset s41 200 ((2 + x38).toNat) v218 = s219
              have hI221 : zInv s219 := hs220 ▸ zp_82 hI42 zc_200 ((2 + x38).toNat) ⟨by omega, by omega⟩
              have hF222 : zFN σ s219 := hs220 ▸ zFN_set hF43 zc_200 (by decide) zk_82
              have w223 := zwz_set (σ := σ) hs220 (by omega) (by omega)
              have e224 : s219 194 0 = s41 194 0 := by rw [← hs220]; exact zset_k (zne_r zc_194 zc_200 (by decide))
              have e225 : s219 194 1 = s41 194 1 := by rw [← hs220]; exact zset_k (zne_r zc_194 zc_200 (by decide))
              have e226 : s219 164 48 = s41 164 48 := by rw [← hs220]; exact zset_k (zne_r zc_164 zc_200 (by decide))
              have e227 : s219 164 49 = s41 164 49 := by rw [← hs220]; exact zset_k (zne_r zc_164 zc_200 (by decide))
              refine zt_aload_n (pc' := 80) hX dX12_stands_79 rfl rfl ?_
              refine zt_get (pc' := 83) (v := .ref (X.1.1 + 201)) hX dX12_stands_80 rfl zf_X12_124 (by decide) zc_164 zs_46 (zrf_of (zv_46_46 hI221 zc_164)) ?_
              refine zt_iconst (pc' := 84) hX dX12_stands_83 rfl ?_
              refine zt_iload_n (pc' := 85) hX dX12_stands_84 rfl rfl ?_
              refine zt_iadd (pc' := 86) hX dX12_stands_85 rfl ?_
              refine zt_aload_n (pc' := 87) hX dX12_stands_86 rfl rfl ?_
              refine zt_get (pc' := 90) (v := .ref (X.1.1 + 201)) hX dX12_stands_87 rfl zf_X12_124 (by decide) zc_164 zs_46 (zrf_of (zv_46_46 hI221 zc_164)) ?_
              refine zt_iload_n (pc' := 91) hX dX12_stands_90 rfl rfl ?_
              refine zt_iald (pc' := 92) hX dX12_stands_91 rfl (by decide) zc_201 zs_83 (by decide) ⟨by omega, by omega⟩ ?_
              generalize hv228 : s219 201 (x38.toNat) = v228
              have bv228 : 0 ≤ v228 ∧ v228 ≤ 1600 := hv228 ▸ zv_83 hI221 zc_201 _
              refine zt_iast (pc' := 93) hX dX12_stands_92 rfl (by decide) zc_201 zs_83 (by decide) ⟨by omega, by omega⟩ ?_
              generalize hs230 : zset s219 201 ((2 + x38).toNat) v228 = s229
              have hI231 : zInv s229 := hs230 ▸ zp_83 hI221 zc_201 ((2 + x38).toNat) ⟨by omega, by omega⟩
              have hF232 : zFN σ s229 := hs230 ▸ zFN_set hF222 zc_201 (by decide) zk_83
              have w233 := zwz_set (σ := σ) hs230 (by omega) (by omega)
              have e234 : s229 194 0 = s219 194 0 := by rw [← hs230]; exact zset_k (zne_r zc_194 zc_201 (by decide))
              have e235 : s229 194 1 = s219 194 1 := by rw [← hs230]; exact zset_k (zne_r zc_194 zc_201 (by decide))
              have e236 : s229 164 48 = s219 164 48 := by rw [← hs230]; exact zset_k (zne_r zc_164 zc_201 (by decide))
              have e237 : s229 164 49 = s219 164 49 := by rw [← hs230]; exact zset_k (zne_r zc_164 zc_201 (by decide))
              refine zt_iinc (pc' := 96) (lv' := [some (.ref (X.1.1 + 164)), some (.int (zI (x38 + 1)))]) hX dX12_stands_93 rfl rfl hL (by decide) rfl ?_
              refine zt_goto (tgt := 60) hX dX12_stands_96 (by decide) ?_
              exact ih48 (x38 + 1) s229 (by omega) (by omega) hI231 hF232 (by omega) (by omega) (by omega)
        exact L_60_45 _ 0 s27 (by omega) (by omega) hI28 hF29 (by omega) (by omega) (Nat.lt_succ_self _)
      · refine zt_aload_n (pc' := 25) hX dX12_stands_24 rfl rfl ?_
        refine zt_get (pc' := 28) (v := .ref (X.1.1 + 194)) hX dX12_stands_25 rfl zf_X12_102 (by decide) zc_164 zs_46 (zrf_of (zv_46_39 hI28 zc_164)) ?_
        refine zt_iconst (pc' := 29) hX dX12_stands_28 rfl ?_
        refine zt_iload_n (pc' := 30) hX dX12_stands_29 rfl rfl ?_
        refine zt_iadd (pc' := 31) hX dX12_stands_30 rfl ?_
        refine zt_aload_n (pc' := 32) hX dX12_stands_31 rfl rfl ?_
        refine zt_get (pc' := 35) (v := .ref (X.1.1 + 194)) hX dX12_stands_32 rfl zf_X12_102 (by decide) zc_164 zs_46 (zrf_of (zv_46_39 hI28 zc_164)) ?_
        refine zt_iload_n (pc' := 36) hX dX12_stands_35 rfl rfl ?_
        refine zt_iald (pc' := 37) hX dX12_stands_36 rfl (by decide) zc_194 zs_76 (by decide) ⟨by omega, by omega⟩ ?_
        have bv238 := zv_76 hI28 zc_194 (x24.toNat)
        generalize hv238 : s27 194 (x24.toNat) = v238 at bv238 ⊢
        have h239 := zwz_sd (σ := σ) (s := s27) (by omega) hpre0 hv238 (by omega) (by omega)
        refine zt_iast (pc' := 38) hX dX12_stands_37 rfl (by decide) zc_194 zs_76 (by decide) ⟨by omega, by omega⟩ ?_
        generalize hs241 : zset s27 194 ((3 + x24).toNat) v238 = s240
        have hI242 : zInv s240 := hs241 ▸ zp_76 hI28 zc_194 ((3 + x24).toNat) (by omega)
        have hF243 : zFN σ s240 := hs241 ▸ zFN_set hF29 zc_194 (by decide) zk_76
        have w244 := zwz_set (σ := σ) hs241 (by omega) (by omega)
        have e245 : s240 164 48 = s27 164 48 := by rw [← hs241]; exact zset_k (zne_r zc_164 zc_194 (by decide))
        have e246 : s240 164 49 = s27 164 49 := by rw [← hs241]; exact zset_k (zne_r zc_164 zc_194 (by decide))
        refine zt_aload_n (pc' := 39) hX dX12_stands_38 rfl rfl ?_
        refine zt_get (pc' := 42) (v := .ref (X.1.1 + 199)) hX dX12_stands_39 rfl zf_X12_118 (by decide) zc_164 zs_46 (zrf_of (zv_46_44 hI242 zc_164)) ?_
        refine zt_iconst (pc' := 43) hX dX12_stands_42 rfl ?_
        refine zt_iload_n (pc' := 44) hX dX12_stands_43 rfl rfl ?_
        refine zt_iadd (pc' := 45) hX dX12_stands_44 rfl ?_
        refine zt_aload_n (pc' := 46) hX dX12_stands_45 rfl rfl ?_
        refine zt_get (pc' := 49) (v := .ref (X.1.1 + 199)) hX dX12_stands_46 rfl zf_X12_118 (by decide) zc_164 zs_46 (zrf_of (zv_46_44 hI242 zc_164)) ?_
        refine zt_iload_n (pc' := 50) hX dX12_stands_49 rfl rfl ?_
        refine zt_iald (pc' := 51) hX dX12_stands_50 rfl (by decide) zc_199 zs_81 (by decide) ⟨by omega, by omega⟩ ?_
        have bv247 := zv_81 hI242 zc_199 (x24.toNat)
        generalize hv247 : s240 199 (x24.toNat) = v247 at bv247 ⊢
        have h248 := zwz_st (σ := σ) (s := s240) (by omega) hpre1 hv247 (by omega) (by omega)
        refine zt_iast (pc' := 52) hX dX12_stands_51 rfl (by decide) zc_199 zs_81 (by decide) ⟨by omega, by omega⟩ ?_
        generalize hs250 : zset s240 199 ((3 + x24).toNat) v247 = s249
        have hI251 : zInv s249 := hs250 ▸ zp_81 hI242 zc_199 ((3 + x24).toNat) (by omega)
        have hF252 : zFN σ s249 := hs250 ▸ zFN_set hF243 zc_199 (by decide) zk_81
        have w253 := zwz_set (σ := σ) hs250 (by omega) (by omega)
        have e254 : s249 194 0 = s240 194 0 := by rw [← hs250]; exact zset_k (zne_r zc_194 zc_199 (by decide))
        have e255 : s249 194 1 = s240 194 1 := by rw [← hs250]; exact zset_k (zne_r zc_194 zc_199 (by decide))
        have e256 : s249 164 48 = s240 164 48 := by rw [← hs250]; exact zset_k (zne_r zc_164 zc_199 (by decide))
        have e257 : s249 164 49 = s240 164 49 := by rw [← hs250]; exact zset_k (zne_r zc_164 zc_199 (by decide))
        refine zt_iinc (pc' := 55) (lv' := [some (.ref (X.1.1 + 164)), some (.int (zI (x24 + 1)))]) hX dX12_stands_52 rfl rfl hL (by decide) rfl ?_
        refine zt_goto (tgt := 19) hX dX12_stands_55 (by decide) ?_
        exact ih34 (x24 + 1) s249 (by omega) (by omega) hI251 hF252 (by omega) (by omega) (by omega)
  exact L_19_31 _ 0 s15 (by omega) (by omega) hI17 hF18 (by omega) (by omega) (Nat.lt_succ_self _)
