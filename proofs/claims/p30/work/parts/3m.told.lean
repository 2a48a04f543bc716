set_option maxRecDepth 100000 in
set_option maxHeartbeats 2000000 in
theorem zc_X12_codesTold_0 (l : Launch) (E : zEN) (σ : zSto) (hI : zInv σ) (a2_ : Int) (ha2_ : -2147483648 ≤ a2_ ∧ a2_ ≤ 2147483647) (hpre0 : σ 164 5 = 0) (hpre1 : σ 164 2 ≤ σ 164 3) (hpre2 : σ 164 48 ≤ σ 164 2) (hpre3 : zwk σ = 1) : zCt l E yX12_codesTold cX12_codesTold 4 none 7 zNC zNC 0 0 σ [.ref (E.1 + 164), .int (zI 0), .int (zI a2_)] (fun r σ' => zInv σ' ∧ zOn zQ6 σ σ' ∧ (σ' 164 2 ≤ σ 164 3) ∧ (σ 164 2 ≤ σ' 164 2) ∧ (σ' 164 5 = 0 → zwk σ' = 1 ∧ σ' 164 48 ≤ σ' 164 2)) := by
  refine zCt_of2 [some (.ref (E.1 + 164)), some (.int (zI 0)), some (.int (zI a2_)), none] (by decide +kernel) (Nat.le_of_ble_eq_true rfl) rfl ?_
  intro X hE hX hR hL hN
  subst hE
  have hX : zok X cX12_codesTold RX12 7 := hX
  have hF := zOn_rf zQ6 σ
  have hzo := (zo_wk hpre3).2
  have b1 := zv_46_2 hI zc_164
  have b2 := zv_46_3 hI zc_164
  have b3 := zv_46_5 hI zc_164
  have b4 := zv_46_97 hI zc_164
  have b5 := zv_46_99 hI zc_164
  have b6 := zv_46_101 hI zc_164
  have b7 := zv_46_48 hI zc_164
  have b8 := zv_82 hI zc_200 0
  refine zt_aload_n (pc' := 1) hX dX12_codesTold_0 rfl rfl ?_
  have b9 := zv_46_5 hI zc_164
  refine zt_get (pc' := 4) (v := .int (zI (σ 164 5))) hX dX12_codesTold_1 rfl zf_X12_246 (by decide) zc_164 zs_46 rfl ?_
  have J_23_17 : ∀ (s10 : zSto), zInv s10 → zOn zQ6 σ s10 → s10 164 48 = σ 164 48 → s10 164 2 = σ 164 2 → (σ 164 2 ≤ s10 164 2 ∧ s10 164 2 ≤ σ 164 3) → s10 164 3 = σ 164 3 → zo s10 1 (σ 164 48) = 1 → zF X s10 23 [some (.ref (X.1.1 + 164)), some (.int (zI 0)), none, none] [] := by
    intro s10 hI11 hF12 g13 g14 g15 g16 g17
    have b19 := zv_46_2 hI11 zc_164
    have b20 := zv_46_3 hI11 zc_164
    have b21 := zv_46_5 hI11 zc_164
    have b22 := zv_46_97 hI11 zc_164
    have b23 := zv_46_99 hI11 zc_164
    have b24 := zv_46_101 hI11 zc_164
    have b25 := zv_46_48 hI11 zc_164
    have b26 := zv_82 hI11 zc_200 0
    refine zt_aload_n (pc' := 24) hX dX12_codesTold_23 rfl rfl ?_
    have b27 := zv_46_5 hI11 zc_164
    refine zt_get (pc' := 27) (v := .int (zI (s10 164 5))) hX dX12_codesTold_24 rfl zf_X12_246 (by decide) zc_164 zs_46 rfl ?_
    refine zt_ifeq (pc' := 30) (tgt := 31) hX dX12_codesTold_27 rfl (by decide) ⟨by omega, by omega⟩ (fun c28 => ?_) (fun c28 => ?_)
    · refine zt_aload_n (pc' := 32) hX dX12_codesTold_31 rfl rfl ?_
      refine zt_iload_n (pc' := 33) hX dX12_codesTold_32 rfl rfl ?_
      refine zt_put (pc' := 36) (x := 0) hX dX12_codesTold_33 rfl zf_X12_304 (by decide) zc_164 zs_46 (fun q hq => by cases hq; rfl) rfl rfl rfl ?_
      generalize hs30 : zset s10 164 51 0 = s29
      have hI31 : zInv s29 := hs30 ▸ zp_46_51 hI11 zc_164 ⟨by omega, by omega⟩
      have hF32 : zOn zQ6 σ s29 := hs30 ▸ zOn_set hF12 (by decide)
      obtain ⟨-, w34, w35, w36, -, -, w39, -⟩ := zE_set hs30 (by decide)
      have w41 := zo_m hs30 1 (σ 164 48) (by omega)
      have e42 : s29 164 2 = s10 164 2 := by rw [← hs30]; exact zset_j (by decide)
      have e43 : s29 164 3 = s10 164 3 := by rw [← hs30]; exact zset_j (by decide)
      have e44 : s29 164 5 = s10 164 5 := by rw [← hs30]; exact zset_j (by decide)
      have e45 : s29 164 97 = s10 164 97 := by rw [← hs30]; exact zset_j (by decide)
      have e46 : s29 164 99 = s10 164 99 := by rw [← hs30]; exact zset_j (by decide)
      have e47 : s29 164 101 = s10 164 101 := by rw [← hs30]; exact zset_j (by decide)
      have e48 : s29 164 48 = s10 164 48 := by rw [← hs30]; exact zset_j (by decide)
      have e49 : s29 200 0 = s10 200 0 := by rw [← hs30]; exact zset_k (zne_r zc_200 zc_164 (by decide))
      refine zt_aload_n (pc' := 37) hX dX12_codesTold_36 rfl rfl ?_
      refine zt_iconst (pc' := 38) hX dX12_codesTold_37 rfl ?_
      refine zt_put (pc' := 41) (x := 0) hX dX12_codesTold_38 rfl zf_X12_330 (by decide) zc_164 zs_46 (fun q hq => by cases hq; rfl) rfl rfl rfl ?_
      generalize hs51 : zset s29 164 97 0 = s50
      have hI52 : zInv s50 := hs51 ▸ zp_46_97 hI31 zc_164 ⟨by omega, by omega⟩
      have hF53 : zOn zQ6 σ s50 := hs51 ▸ zOn_set hF32 (by decide)
      have w54 := zo_m hs51 1 (σ 164 48) (by omega)
      have e55 : s50 164 2 = s29 164 2 := by rw [← hs51]; exact zset_j (by decide)
      have e56 : s50 164 3 = s29 164 3 := by rw [← hs51]; exact zset_j (by decide)
      have e57 : s50 164 5 = s29 164 5 := by rw [← hs51]; exact zset_j (by decide)
      have e58 : s50 164 97 = 0 := by rw [← hs51]; exact zset_s
      have e59 : s50 164 99 = s29 164 99 := by rw [← hs51]; exact zset_j (by decide)
      have e60 : s50 164 101 = s29 164 101 := by rw [← hs51]; exact zset_j (by decide)
      have e61 : s50 164 48 = s29 164 48 := by rw [← hs51]; exact zset_j (by decide)
      have e62 : s50 200 0 = s29 200 0 := by rw [← hs51]; exact zset_k (zne_r zc_200 zc_164 (by decide))
      refine zt_aload_n (pc' := 42) hX dX12_codesTold_41 rfl rfl ?_
      refine zt_iconst (pc' := 43) hX dX12_codesTold_42 rfl ?_
      refine zt_put (pc' := 46) (x := 0) hX dX12_codesTold_43 rfl zf_X12_333 (by decide) zc_164 zs_46 (fun q hq => by cases hq; rfl) rfl rfl rfl ?_
      generalize hs64 : zset s50 164 99 0 = s63
      have hI65 : zInv s63 := hs64 ▸ zp_46_99 hI52 zc_164 ⟨by omega, by omega⟩
      have hF66 : zOn zQ6 σ s63 := hs64 ▸ zOn_set hF53 (by decide)
      have w67 := zo_m hs64 1 (σ 164 48) (by omega)
      have e68 : s63 164 2 = s50 164 2 := by rw [← hs64]; exact zset_j (by decide)
      have e69 : s63 164 3 = s50 164 3 := by rw [← hs64]; exact zset_j (by decide)
      have e70 : s63 164 5 = s50 164 5 := by rw [← hs64]; exact zset_j (by decide)
      have e71 : s63 164 97 = s50 164 97 := by rw [← hs64]; exact zset_j (by decide)
      have e72 : s63 164 99 = 0 := by rw [← hs64]; exact zset_s
      have e73 : s63 164 101 = s50 164 101 := by rw [← hs64]; exact zset_j (by decide)
      have e74 : s63 164 48 = s50 164 48 := by rw [← hs64]; exact zset_j (by decide)
      have e75 : s63 200 0 = s50 200 0 := by rw [← hs64]; exact zset_k (zne_r zc_200 zc_164 (by decide))
      refine zt_aload_n (pc' := 47) hX dX12_codesTold_46 rfl rfl ?_
      refine zt_iconst (pc' := 48) hX dX12_codesTold_47 rfl ?_
      refine zt_put (pc' := 51) (x := 0) hX dX12_codesTold_48 rfl zf_X12_336 (by decide) zc_164 zs_46 (fun q hq => by cases hq; rfl) rfl rfl rfl ?_
      generalize hs77 : zset s63 164 100 0 = s76
      have hI78 : zInv s76 := hs77 ▸ zp_46_100 hI65 zc_164 ⟨by omega, by omega⟩
      have hF79 : zOn zQ6 σ s76 := hs77 ▸ zOn_set hF66 (by decide)
      obtain ⟨-, w81, w82, w83, -, -, w86, -⟩ := zE_set hs77 (by decide)
      have w88 := zo_m hs77 1 (σ 164 48) (by omega)
      have e89 : s76 164 2 = s63 164 2 := by rw [← hs77]; exact zset_j (by decide)
      have e90 : s76 164 3 = s63 164 3 := by rw [← hs77]; exact zset_j (by decide)
      have e91 : s76 164 5 = s63 164 5 := by rw [← hs77]; exact zset_j (by decide)
      have e92 : s76 164 97 = s63 164 97 := by rw [← hs77]; exact zset_j (by decide)
      have e93 : s76 164 99 = s63 164 99 := by rw [← hs77]; exact zset_j (by decide)
      have e94 : s76 164 101 = s63 164 101 := by rw [← hs77]; exact zset_j (by decide)
      have e95 : s76 164 48 = s63 164 48 := by rw [← hs77]; exact zset_j (by decide)
      have e96 : s76 200 0 = s63 200 0 := by rw [← hs77]; exact zset_k (zne_r zc_200 zc_164 (by decide))
      refine zt_aload_n (pc' := 52) hX dX12_codesTold_51 rfl rfl ?_
      refine zt_iconst (pc' := 53) hX dX12_codesTold_52 rfl ?_
      refine zt_put (pc' := 56) (x := 0) hX dX12_codesTold_53 rfl zf_X12_339 (by decide) zc_164 zs_46 (fun q hq => by cases hq; rfl) rfl rfl rfl ?_
      generalize hs98 : zset s76 164 101 0 = s97
      have hI99 : zInv s97 := hs98 ▸ zp_46_101 hI78 zc_164 ⟨by omega, by omega⟩
      have hF100 : zOn zQ6 σ s97 := hs98 ▸ zOn_set hF79 (by decide)
      have w101 := zo_m hs98 1 (σ 164 48) (by omega)
      have e102 : s97 164 2 = s76 164 2 := by rw [← hs98]; exact zset_j (by decide)
      have e103 : s97 164 3 = s76 164 3 := by rw [← hs98]; exact zset_j (by decide)
      have e104 : s97 164 5 = s76 164 5 := by rw [← hs98]; exact zset_j (by decide)
      have e105 : s97 164 97 = s76 164 97 := by rw [← hs98]; exact zset_j (by decide)
      have e106 : s97 164 99 = s76 164 99 := by rw [← hs98]; exact zset_j (by decide)
      have e107 : s97 164 101 = 0 := by rw [← hs98]; exact zset_s
      have e108 : s97 164 48 = s76 164 48 := by rw [← hs98]; exact zset_j (by decide)
      have e109 : s97 200 0 = s76 200 0 := by rw [← hs98]; exact zset_k (zne_r zc_200 zc_164 (by decide))
      have h110 := zt_0 (s := s97) (by omega) (by omega)
      refine zt_iload_n (pc' := 57) hX dX12_codesTold_56 rfl rfl ?_
      refine zt_iconst (pc' := 58) hX dX12_codesTold_57 rfl ?_
      have J_72_118 : ∀ (s111 : zSto), zInv s111 → zOn zQ6 σ s111 → s111 164 48 = σ 164 48 → (s111 164 5 = 0 → zt s111 = 1 ∧ s111 164 97 + s111 164 99 + σ 164 2 ≤ s111 164 2) → (σ 164 2 ≤ s111 164 2 ∧ s111 164 2 ≤ σ 164 3) → s111 164 3 = σ 164 3 → zo s111 1 (σ 164 48) = 1 → zF X s111 72 [some (.ref (X.1.1 + 164)), some (.int (zI 0)), none, none] [] := by
        intro s111 hI112 hF113 g114 g115 g116 g117 g118
        have b120 := zv_46_2 hI112 zc_164
        have b121 := zv_46_3 hI112 zc_164
        have b122 := zv_46_5 hI112 zc_164
        have b123 := zv_46_97 hI112 zc_164
        have b124 := zv_46_99 hI112 zc_164
        have b125 := zv_46_101 hI112 zc_164
        have b126 := zv_46_48 hI112 zc_164
        have b127 := zv_82 hI112 zc_200 0
        refine zt_aload_n (pc' := 73) hX dX12_codesTold_72 rfl rfl ?_
        have b128 := zv_46_5 hI112 zc_164
        refine zt_get (pc' := 76) (v := .int (zI (s111 164 5))) hX dX12_codesTold_73 rfl zf_X12_246 (by decide) zc_164 zs_46 rfl ?_
        refine zt_ifeq (pc' := 79) (tgt := 80) hX dX12_codesTold_76 rfl (by decide) ⟨by omega, by omega⟩ (fun c129 => ?_) (fun c129 => ?_)
        · have qg115 := g115 (by omega)
          clear g115
          refine zt_aload_n (pc' := 81) hX dX12_codesTold_80 rfl rfl ?_
          refine zt_get (pc' := 84) (v := .ref (X.1.1 + 200)) hX dX12_codesTold_81 rfl zf_X12_121 (by decide) zc_164 zs_46 (zrf_of (zv_46_45 hI112 zc_164)) ?_
          refine zt_iload_n (pc' := 85) hX dX12_codesTold_84 rfl rfl ?_
          refine zt_aload_n (pc' := 86) hX dX12_codesTold_85 rfl rfl ?_
          have b130 := zv_46_48 hI112 zc_164
          refine zt_get (pc' := 89) (v := .int (zI (s111 164 48))) hX dX12_codesTold_86 rfl zf_X12_348 (by decide) zc_164 zs_46 rfl ?_
          refine zt_iast (pc' := 90) hX dX12_codesTold_89 rfl (by decide) zc_200 zs_82 (by decide) ⟨by omega, by omega⟩ ?_
          rw [show Int.toNat 0 = 0 from rfl]
          generalize hs132 : zset s111 200 0 (s111 164 48) = s131
          have hI133 : zInv s131 := hs132 ▸ zp_82 hI112 zc_200 0 ⟨by omega, by omega⟩
          have hF134 : zOn zQ6 σ s131 := hs132 ▸ zOn_set hF113 (by decide)
          obtain ⟨-, w136, w137, w138, -, -, w141, -⟩ := zE_setk hs132 (by decide)
          have w143 := zo_0 hs132 1 (σ 164 48) (by decide) (by omega)
          have e144 : s131 164 2 = s111 164 2 := by rw [← hs132]; exact zset_k (zne_r zc_164 zc_200 (by decide))
          have e145 : s131 164 3 = s111 164 3 := by rw [← hs132]; exact zset_k (zne_r zc_164 zc_200 (by decide))
          have e146 : s131 164 5 = s111 164 5 := by rw [← hs132]; exact zset_k (zne_r zc_164 zc_200 (by decide))
          have e147 : s131 164 97 = s111 164 97 := by rw [← hs132]; exact zset_k (zne_r zc_164 zc_200 (by decide))
          have e148 : s131 164 99 = s111 164 99 := by rw [← hs132]; exact zset_k (zne_r zc_164 zc_200 (by decide))
          have e149 : s131 164 101 = s111 164 101 := by rw [← hs132]; exact zset_k (zne_r zc_164 zc_200 (by decide))
          have e150 : s131 164 48 = s111 164 48 := by rw [← hs132]; exact zset_k (zne_r zc_164 zc_200 (by decide))
          have e151 : s131 200 0 = (s111 164 48) := by rw [← hs132]; exact zset_s
          refine zt_iconst (pc' := 91) hX dX12_codesTold_90 rfl ?_
          refine zt_istore_n (pc' := 92) (lv' := [some (.ref (X.1.1 + 164)), some (.int (zI 0)), none, some (.int (zI 0))]) hX dX12_codesTold_91 rfl hL (by decide) rfl ?_
          have h152 := zcy_0 s131 (σ 164 48)
          have L_92_168 : ∀ (N : Nat) (x153 : Int) (s156 : zSto), 0 ≤ x153 → x153 ≤ 1700 → zInv s156 → zOn zQ6 σ s156 → s156 164 48 = σ 164 48 + x153 → x153 ≤ s156 164 97 → σ 164 48 + s156 164 97 ≤ s156 164 2 → zt s156 = 1 → s156 200 0 = σ 164 48 → zcy s156 (σ 164 48) x153 = 1 → s156 164 5 = 0 → (σ 164 2 ≤ s156 164 2 ∧ s156 164 2 ≤ σ 164 3) → s156 164 3 = σ 164 3 → zo s156 1 (σ 164 48) = 1 → ((1701 - x153).toNat) < N → zF X s156 92 [some (.ref (X.1.1 + 164)), some (.int (zI 0)), none, some (.int (zI x153))] [] := by
            intro N
            induction N with
            | zero =>
              intro x153 s156 h154 h155 hI157 hF158 g159 g160 g161 g162 g163 g164 g165 g166 g167 g168 hm170
              exact absurd hm170 (Nat.not_lt_zero _)
            | succ N ih171 =>
              intro x153 s156 h154 h155 hI157 hF158 g159 g160 g161 g162 g163 g164 g165 g166 g167 g168 hm170
              have b172 := zv_46_2 hI157 zc_164
              have b173 := zv_46_3 hI157 zc_164
              have b174 := zv_46_5 hI157 zc_164
              have b175 := zv_46_97 hI157 zc_164
              have b176 := zv_46_99 hI157 zc_164
              have b177 := zv_46_101 hI157 zc_164
              have b178 := zv_46_48 hI157 zc_164
              have b179 := zv_82 hI157 zc_200 0
              refine zt_iload_n (pc' := 93) hX dX12_codesTold_92 rfl rfl ?_
              refine zt_aload_n (pc' := 94) hX dX12_codesTold_93 rfl rfl ?_
              have b180 := zv_46_97 hI157 zc_164
              refine zt_get (pc' := 97) (v := .int (zI (s156 164 97))) hX dX12_codesTold_94 rfl zf_X12_330 (by decide) zc_164 zs_46 rfl ?_
              refine zt_icge (pc' := 100) (tgt := 131) hX dX12_codesTold_97 rfl (by decide) ⟨by omega, by omega⟩ ⟨by omega, by omega⟩ (fun c181 => ?_) (fun c181 => ?_)
              · refine zt_aload_n (pc' := 132) hX dX12_codesTold_131 rfl rfl ?_
                refine zt_get (pc' := 135) (v := .ref (X.1.1 + 201)) hX dX12_codesTold_132 rfl zf_X12_124 (by decide) zc_164 zs_46 (zrf_of (zv_46_46 hI157 zc_164)) ?_
                refine zt_iload_n (pc' := 136) hX dX12_codesTold_135 rfl rfl ?_
                refine zt_aload_n (pc' := 137) hX dX12_codesTold_136 rfl rfl ?_
                have b182 := zv_46_48 hI157 zc_164
                refine zt_get (pc' := 140) (v := .int (zI (s156 164 48))) hX dX12_codesTold_137 rfl zf_X12_348 (by decide) zc_164 zs_46 rfl ?_
                refine zt_iast (pc' := 141) hX dX12_codesTold_140 rfl (by decide) zc_201 zs_83 (by decide) ⟨by omega, by omega⟩ ?_
                rw [show Int.toNat 0 = 0 from rfl]
                generalize hs184 : zset s156 201 0 (s156 164 48) = s183
                have hI185 : zInv s183 := hs184 ▸ zp_83 hI157 zc_201 0 ⟨by omega, by omega⟩
                have hF186 : zOn zQ6 σ s183 := hs184 ▸ zOn_set hF158 (by decide)
                obtain ⟨-, w188, w189, w190, -, -, w193, -⟩ := zE_setk hs184 (by decide)
                have e195 : s183 164 2 = s156 164 2 := by rw [← hs184]; exact zset_k (zne_r zc_164 zc_201 (by decide))
                have e196 : s183 164 3 = s156 164 3 := by rw [← hs184]; exact zset_k (zne_r zc_164 zc_201 (by decide))
                have e197 : s183 164 5 = s156 164 5 := by rw [← hs184]; exact zset_k (zne_r zc_164 zc_201 (by decide))
                have e198 : s183 164 97 = s156 164 97 := by rw [← hs184]; exact zset_k (zne_r zc_164 zc_201 (by decide))
                have e199 : s183 164 99 = s156 164 99 := by rw [← hs184]; exact zset_k (zne_r zc_164 zc_201 (by decide))
                have e200 : s183 164 101 = s156 164 101 := by rw [← hs184]; exact zset_k (zne_r zc_164 zc_201 (by decide))
                have e201 : s183 164 48 = s156 164 48 := by rw [← hs184]; exact zset_k (zne_r zc_164 zc_201 (by decide))
                have e202 : s183 200 0 = s156 200 0 := by rw [← hs184]; exact zset_k (zne_r zc_200 zc_201 (by decide))
                have h203 := zwk_fin (k := x153) (c := σ 164 48) (Or.inl ⟨rfl, rfl⟩) hs184 (by omega) (by omega) (by omega) (by omega) (by omega) (by omega) (by omega) (by omega) (by omega)
                exact zt_vret hX hR dX12_codesTold_141 ⟨hI185, hF186, by omega, by omega, (fun hb => by omega)⟩
              · refine zt_aload_n (pc' := 101) hX dX12_codesTold_100 rfl rfl ?_
                refine zt_get (pc' := 104) (v := .ref (X.1.1 + 202)) hX dX12_codesTold_101 rfl zf_X12_127 (by decide) zc_164 zs_46 (zrf_of (zv_46_47 hI157 zc_164)) ?_
                refine zt_aload_n (pc' := 105) hX dX12_codesTold_104 rfl rfl ?_
                have b204 := zv_46_48 hI157 zc_164
                refine zt_get (pc' := 108) (v := .int (zI (s156 164 48))) hX dX12_codesTold_105 rfl zf_X12_348 (by decide) zc_164 zs_46 rfl ?_
                refine zt_aload_n (pc' := 109) hX dX12_codesTold_108 rfl rfl ?_
                refine zt_get (pc' := 112) (v := .ref (X.1.1 + 234)) hX dX12_codesTold_109 rfl zf_X12_231 (by decide) zc_164 zs_46 (zrf_of (zv_46_96 hI157 zc_164)) ?_
                refine zt_iload_n (pc' := 113) hX dX12_codesTold_112 rfl rfl ?_
                refine zt_iald (pc' := 114) hX dX12_codesTold_113 rfl (by decide) zc_234 zs_116 (by decide) ⟨by omega, by omega⟩ ?_
                generalize hv205 : s156 234 (x153.toNat) = v205
                have bv205 : -2147483648 ≤ v205 ∧ v205 ≤ 2147483647 := hv205 ▸ zv_116 hI157 zc_234 _
                refine zt_iast (pc' := 115) hX dX12_codesTold_114 rfl (by decide) zc_202 zs_84 (by decide) ⟨by omega, by omega⟩ ?_
                generalize hs207 : zset s156 202 ((s156 164 48).toNat) v205 = s206
                have hI208 : zInv s206 := hs207 ▸ zp_84 hI157 zc_202 ((s156 164 48).toNat) ⟨by omega, by omega⟩
                have hF209 : zOn zQ6 σ s206 := hs207 ▸ zOn_set hF158 (zq6_202 (by omega))
                obtain ⟨-, w211, w212, w213, -, -, w216, -⟩ := zE_setk hs207 (by decide)
                have w218 := zo_2 hs207 1 (σ 164 48) (by omega) (by omega)
                have e219 : s206 164 2 = s156 164 2 := by rw [← hs207]; exact zset_k (zne_r zc_164 zc_202 (by decide))
                have e220 : s206 164 3 = s156 164 3 := by rw [← hs207]; exact zset_k (zne_r zc_164 zc_202 (by decide))
                have e221 : s206 164 5 = s156 164 5 := by rw [← hs207]; exact zset_k (zne_r zc_164 zc_202 (by decide))
                have e222 : s206 164 97 = s156 164 97 := by rw [← hs207]; exact zset_k (zne_r zc_164 zc_202 (by decide))
                have e223 : s206 164 99 = s156 164 99 := by rw [← hs207]; exact zset_k (zne_r zc_164 zc_202 (by decide))
                have e224 : s206 164 101 = s156 164 101 := by rw [← hs207]; exact zset_k (zne_r zc_164 zc_202 (by decide))
                have e225 : s206 164 48 = s156 164 48 := by rw [← hs207]; exact zset_k (zne_r zc_164 zc_202 (by decide))
                have e226 : s206 200 0 = s156 200 0 := by rw [← hs207]; exact zset_k (zne_r zc_200 zc_202 (by decide))
                refine zt_aload_n (pc' := 116) hX dX12_codesTold_115 rfl rfl ?_
                refine zt_dup (pc' := 117) hX dX12_codesTold_116 rfl rfl ?_
                have b227 := zv_46_48 hI208 zc_164
                refine zt_get (pc' := 120) (v := .int (zI (s206 164 48))) hX dX12_codesTold_117 rfl zf_X12_348 (by decide) zc_164 zs_46 rfl ?_
                refine zt_iconst (pc' := 121) hX dX12_codesTold_120 rfl ?_
                refine zt_iadd (pc' := 122) hX dX12_codesTold_121 rfl ?_
                refine zt_put (pc' := 125) (x := ((s206 164 48) + 1)) hX dX12_codesTold_122 rfl zf_X12_348 (by decide) zc_164 zs_46 (fun q hq => by cases hq; rfl) rfl rfl rfl ?_
                generalize hs229 : zset s206 164 48 ((s206 164 48) + 1) = s228
                have hI230 : zInv s228 := hs229 ▸ zp_46_48 hI208 zc_164 ⟨by omega, by omega⟩
                have hF231 : zOn zQ6 σ s228 := hs229 ▸ zOn_set hF209 (by decide)
                obtain ⟨-, w233, w234, w235, -, -, w238, -⟩ := zE_set hs229 (by decide)
                have w240 := zo_m hs229 1 (σ 164 48) (by omega)
                have e241 : s228 164 2 = s206 164 2 := by rw [← hs229]; exact zset_j (by decide)
                have e242 : s228 164 3 = s206 164 3 := by rw [← hs229]; exact zset_j (by decide)
                have e243 : s228 164 5 = s206 164 5 := by rw [← hs229]; exact zset_j (by decide)
                have e244 : s228 164 97 = s206 164 97 := by rw [← hs229]; exact zset_j (by decide)
                have e245 : s228 164 99 = s206 164 99 := by rw [← hs229]; exact zset_j (by decide)
                have e246 : s228 164 101 = s206 164 101 := by rw [← hs229]; exact zset_j (by decide)
                have e247 : s228 164 48 = ((s206 164 48) + 1) := by rw [← hs229]; exact zset_s
                have e248 : s228 200 0 = s206 200 0 := by rw [← hs229]; exact zset_k (zne_r zc_200 zc_164 (by decide))
                have h249 := zcy_s (c := σ 164 48) (k := x153) hs207 hs229 (by omega) hv205 (by omega) (by omega) (by omega)
                refine zt_iinc (pc' := 128) (lv' := [some (.ref (X.1.1 + 164)), some (.int (zI 0)), none, some (.int (zI (x153 + 1)))]) hX dX12_codesTold_125 rfl rfl hL (by decide) rfl ?_
                refine zt_goto (tgt := 92) hX dX12_codesTold_128 (by decide) ?_
                exact ih171 (x153 + 1) s228 (by omega) (by omega) hI230 hF231 (by omega) (by omega) (by omega) (by omega) (by omega) (by omega) (by omega) (by omega) (by omega) (by omega) (by omega)
          exact L_92_168 _ 0 s131 (by omega) (by omega) hI133 hF134 (by omega) (by omega) (by omega) (by omega) (by omega) (by omega) (by omega) (by omega) (by omega) (by omega) (Nat.lt_succ_self _)
        · clear g115
          exact zt_vret hX hR dX12_codesTold_79 ⟨hI112, hF113, by omega, by omega, (fun hb => by omega)⟩
      refine zt_icne (pc' := 61) (tgt := 68) hX dX12_codesTold_58 rfl (by decide) ⟨by omega, by omega⟩ ⟨by omega, by omega⟩ (fun c250 => ?_) (fun c250 => ?_)
      · refine zt_aload_n (pc' := 69) hX dX12_codesTold_68 rfl rfl ?_
        refine zt_cVv (pc' := 72) hX dX12_codesTold_69 rfl zm_yX12_qSums zw_29_22 zc_164 (by decide) zs_46 (q := (RX12, TX12, 108)) rfl rfl (zc_X12_qSums _ _ s97 hI99 (by omega) (by omega) (by omega) (by omega) (by omega)) rfl rfl (Nat.le_of_ble_eq_true rfl) (by decide) (fun r251 s252 hr253 hp254 => ?_)
        obtain ⟨hI255, hF256, z257, z258, z259, z260, z261, z262⟩ := hp254
        have w263 := zo_on (zOn_tr (zOn_rf zQ2 s97) hF256 zi_id) 1 (σ 164 48) (by omega)
        have e264 := hF256 164 3 rfl
        have e265 := hF256 164 48 rfl
        have e266 := hF256 200 0 rfl
        have hF267 := zOn_tr hF100 hF256 zi_26
        have b268 := zv_46_2 hI255 zc_164
        have b269 := zv_46_3 hI255 zc_164
        have b270 := zv_46_5 hI255 zc_164
        have b271 := zv_46_97 hI255 zc_164
        have b272 := zv_46_99 hI255 zc_164
        have b273 := zv_46_101 hI255 zc_164
        have b274 := zv_46_48 hI255 zc_164
        have b275 := zv_82 hI255 zc_200 0
        exact J_72_118 s252 hI255 hF267 (by omega) (fun hb => by have qz262 := z262 (by omega); have qz261 := z261 (by omega); clear z262 z261; omega) (by omega) (by omega) (by omega)
      · exact absurd c250 (by omega)
    · exact zt_vret hX hR dX12_codesTold_30 ⟨hI11, hF12, by omega, by omega, (fun hb => by omega)⟩
  refine zt_ifne (pc' := 7) (tgt := 23) hX dX12_codesTold_4 rfl (by decide) ⟨by omega, by omega⟩ (fun c276 => ?_) (fun c276 => ?_)
  · refine zt_mask [true, true, false, false] rfl ?_
    exact J_23_17 σ hI hF (by omega) (by omega) (by omega) (by omega) (by omega)
  · refine zt_aload_n (pc' := 8) hX dX12_codesTold_7 rfl rfl ?_
    refine zt_get (pc' := 11) (v := .ref (X.1.1 + 200)) hX dX12_codesTold_8 rfl zf_X12_121 (by decide) zc_164 zs_46 (zrf_of (zv_46_45 hI zc_164)) ?_
    refine zt_iload_n (pc' := 12) hX dX12_codesTold_11 rfl rfl ?_
    refine zt_iald (pc' := 13) hX dX12_codesTold_12 rfl (by decide) zc_200 zs_82 (by decide) ⟨by omega, by omega⟩ ?_
    rw [show Int.toNat 0 = 0 from rfl]
    have b278 := zv_82 hI zc_200 0
    refine zt_iconst (pc' := 14) hX dX12_codesTold_13 rfl ?_
    refine zt_iceq (pc' := 17) (tgt := 23) hX dX12_codesTold_14 rfl (by decide) ⟨by omega, by omega⟩ ⟨by omega, by omega⟩ (fun c279 => ?_) (fun c279 => ?_)
    · refine zt_mask [true, true, false, false] rfl ?_
      exact J_23_17 σ hI hF (by omega) (by omega) (by omega) (by omega) (by omega)
    · refine zt_aload_n (pc' := 18) hX dX12_codesTold_17 rfl rfl ?_
      refine zt_iconst (pc' := 19) hX dX12_codesTold_18 rfl ?_
      refine zt_iload_n (pc' := 20) hX dX12_codesTold_19 rfl rfl ?_
      refine zt_cVv (pc' := 23) hX dX12_codesTold_20 rfl zm_yX12_fail zw_26_19 zc_164 (by decide) zs_46 (q := (RX12, TX12, 108)) rfl rfl (zc_X12_fail _ _ σ hI 5 ⟨by omega, by omega⟩ a2_ ⟨by omega, by omega⟩) rfl rfl (Nat.le_of_ble_eq_true rfl) (by decide) (fun r280 s281 hr282 hp283 => ?_)
      obtain ⟨hI284, hF285, z286, z287⟩ := hp283
      obtain ⟨-, w289, w290, w291, -, -, w294, -⟩ := zE_q1 hF285
      have w296 := zo_on (zOn_tr (zOn_rf zQ2 σ) hF285 zi_12) 1 (σ 164 48) (by omega)
      have e297 := hF285 164 3 rfl
      have e298 := hF285 164 97 rfl
      have e299 := hF285 164 99 rfl
      have e300 := hF285 164 101 rfl
      have e301 := hF285 164 48 rfl
      have e302 := hF285 200 0 rfl
      have hF303 := zOn_tr hF hF285 zi_16
      have b304 := zv_46_2 hI284 zc_164
      have b305 := zv_46_3 hI284 zc_164
      have b306 := zv_46_5 hI284 zc_164
      have b307 := zv_46_97 hI284 zc_164
      have b308 := zv_46_99 hI284 zc_164
      have b309 := zv_46_101 hI284 zc_164
      have b310 := zv_46_48 hI284 zc_164
      have b311 := zv_82 hI284 zc_200 0
      refine zt_mask [true, true, false, false] rfl ?_
      exact J_23_17 s281 hI284 hF303 (by omega) (by omega) (by omega) (by omega) (by omega)

set_option maxRecDepth 100000 in
set_option maxHeartbeats 2000000 in
theorem zc_X12_codesTold_1 (l : Launch) (E : zEN) (σ : zSto) (hI : zInv σ) (a2_ : Int) (ha2_ : -2147483648 ≤ a2_ ∧ a2_ ≤ 2147483647) (hpre0 : σ 164 5 = 0) (hpre1 : σ 164 2 ≤ σ 164 3) (hpre2 : σ 164 48 ≤ σ 164 2) (hpre3 : zwk σ = 1) : zCt l E yX12_codesTold cX12_codesTold 4 none 9 zNC zNC 0 0 σ [.ref (E.1 + 164), .int (zI 1), .int (zI a2_)] (fun r σ' => zInv σ' ∧ zOn zQ6 σ σ' ∧ (σ' 164 2 ≤ σ 164 3) ∧ (σ 164 2 ≤ σ' 164 2) ∧ (σ' 164 5 = 0 → zwk σ' = 1 ∧ σ' 164 48 ≤ σ' 164 2)) := by
  refine zCt_of2 [some (.ref (E.1 + 164)), some (.int (zI 1)), some (.int (zI a2_)), none] (by decide +kernel) (Nat.le_of_ble_eq_true rfl) rfl ?_
  intro X hE hX hR hL hN
  subst hE
  have hX : zok X cX12_codesTold RX12 9 := hX
  have hF := zOn_rf zQ6 σ
  have hzo := (zo_wk hpre3).1
  have b1 := zv_46_2 hI zc_164
  have b2 := zv_46_3 hI zc_164
  have b3 := zv_46_5 hI zc_164
  have b4 := zv_46_97 hI zc_164
  have b5 := zv_46_99 hI zc_164
  have b6 := zv_46_101 hI zc_164
  have b7 := zv_46_48 hI zc_164
  have b8 := zv_82 hI zc_200 1
  refine zt_aload_n (pc' := 1) hX dX12_codesTold_0 rfl rfl ?_
  have b9 := zv_46_5 hI zc_164
  refine zt_get (pc' := 4) (v := .int (zI (σ 164 5))) hX dX12_codesTold_1 rfl zf_X12_246 (by decide) zc_164 zs_46 rfl ?_
  have J_23_17 : ∀ (s10 : zSto), zInv s10 → zOn zQ6 σ s10 → s10 164 48 = σ 164 48 → s10 164 2 = σ 164 2 → (σ 164 2 ≤ s10 164 2 ∧ s10 164 2 ≤ σ 164 3) → s10 164 3 = σ 164 3 → zo s10 0 (σ 164 48) = 1 → zF X s10 23 [some (.ref (X.1.1 + 164)), some (.int (zI 1)), none, none] [] := by
    intro s10 hI11 hF12 g13 g14 g15 g16 g17
    have b19 := zv_46_2 hI11 zc_164
    have b20 := zv_46_3 hI11 zc_164
    have b21 := zv_46_5 hI11 zc_164
    have b22 := zv_46_97 hI11 zc_164
    have b23 := zv_46_99 hI11 zc_164
    have b24 := zv_46_101 hI11 zc_164
    have b25 := zv_46_48 hI11 zc_164
    have b26 := zv_82 hI11 zc_200 1
    refine zt_aload_n (pc' := 24) hX dX12_codesTold_23 rfl rfl ?_
    have b27 := zv_46_5 hI11 zc_164
    refine zt_get (pc' := 27) (v := .int (zI (s10 164 5))) hX dX12_codesTold_24 rfl zf_X12_246 (by decide) zc_164 zs_46 rfl ?_
    refine zt_ifeq (pc' := 30) (tgt := 31) hX dX12_codesTold_27 rfl (by decide) ⟨by omega, by omega⟩ (fun c28 => ?_) (fun c28 => ?_)
    · refine zt_aload_n (pc' := 32) hX dX12_codesTold_31 rfl rfl ?_
      refine zt_iload_n (pc' := 33) hX dX12_codesTold_32 rfl rfl ?_
      refine zt_put (pc' := 36) (x := 1) hX dX12_codesTold_33 rfl zf_X12_304 (by decide) zc_164 zs_46 (fun q hq => by cases hq; rfl) rfl rfl rfl ?_
      generalize hs30 : zset s10 164 51 1 = s29
      have hI31 : zInv s29 := hs30 ▸ zp_46_51 hI11 zc_164 ⟨by omega, by omega⟩
      have hF32 : zOn zQ6 σ s29 := hs30 ▸ zOn_set hF12 (by decide)
      obtain ⟨-, w34, w35, w36, -, -, w39, -⟩ := zE_set hs30 (by decide)
      have w41 := zo_m hs30 0 (σ 164 48) (by omega)
      have e42 : s29 164 2 = s10 164 2 := by rw [← hs30]; exact zset_j (by decide)
      have e43 : s29 164 3 = s10 164 3 := by rw [← hs30]; exact zset_j (by decide)
      have e44 : s29 164 5 = s10 164 5 := by rw [← hs30]; exact zset_j (by decide)
      have e45 : s29 164 97 = s10 164 97 := by rw [← hs30]; exact zset_j (by decide)
      have e46 : s29 164 99 = s10 164 99 := by rw [← hs30]; exact zset_j (by decide)
      have e47 : s29 164 101 = s10 164 101 := by rw [← hs30]; exact zset_j (by decide)
      have e48 : s29 164 48 = s10 164 48 := by rw [← hs30]; exact zset_j (by decide)
      have e49 : s29 200 1 = s10 200 1 := by rw [← hs30]; exact zset_k (zne_r zc_200 zc_164 (by decide))
      refine zt_aload_n (pc' := 37) hX dX12_codesTold_36 rfl rfl ?_
      refine zt_iconst (pc' := 38) hX dX12_codesTold_37 rfl ?_
      refine zt_put (pc' := 41) (x := 0) hX dX12_codesTold_38 rfl zf_X12_330 (by decide) zc_164 zs_46 (fun q hq => by cases hq; rfl) rfl rfl rfl ?_
      generalize hs51 : zset s29 164 97 0 = s50
      have hI52 : zInv s50 := hs51 ▸ zp_46_97 hI31 zc_164 ⟨by omega, by omega⟩
      have hF53 : zOn zQ6 σ s50 := hs51 ▸ zOn_set hF32 (by decide)
      have w54 := zo_m hs51 0 (σ 164 48) (by omega)
      have e55 : s50 164 2 = s29 164 2 := by rw [← hs51]; exact zset_j (by decide)
      have e56 : s50 164 3 = s29 164 3 := by rw [← hs51]; exact zset_j (by decide)
      have e57 : s50 164 5 = s29 164 5 := by rw [← hs51]; exact zset_j (by decide)
      have e58 : s50 164 97 = 0 := by rw [← hs51]; exact zset_s
      have e59 : s50 164 99 = s29 164 99 := by rw [← hs51]; exact zset_j (by decide)
      have e60 : s50 164 101 = s29 164 101 := by rw [← hs51]; exact zset_j (by decide)
      have e61 : s50 164 48 = s29 164 48 := by rw [← hs51]; exact zset_j (by decide)
      have e62 : s50 200 1 = s29 200 1 := by rw [← hs51]; exact zset_k (zne_r zc_200 zc_164 (by decide))
      refine zt_aload_n (pc' := 42) hX dX12_codesTold_41 rfl rfl ?_
      refine zt_iconst (pc' := 43) hX dX12_codesTold_42 rfl ?_
      refine zt_put (pc' := 46) (x := 0) hX dX12_codesTold_43 rfl zf_X12_333 (by decide) zc_164 zs_46 (fun q hq => by cases hq; rfl) rfl rfl rfl ?_
      generalize hs64 : zset s50 164 99 0 = s63
      have hI65 : zInv s63 := hs64 ▸ zp_46_99 hI52 zc_164 ⟨by omega, by omega⟩
      have hF66 : zOn zQ6 σ s63 := hs64 ▸ zOn_set hF53 (by decide)
      have w67 := zo_m hs64 0 (σ 164 48) (by omega)
      have e68 : s63 164 2 = s50 164 2 := by rw [← hs64]; exact zset_j (by decide)
      have e69 : s63 164 3 = s50 164 3 := by rw [← hs64]; exact zset_j (by decide)
      have e70 : s63 164 5 = s50 164 5 := by rw [← hs64]; exact zset_j (by decide)
      have e71 : s63 164 97 = s50 164 97 := by rw [← hs64]; exact zset_j (by decide)
      have e72 : s63 164 99 = 0 := by rw [← hs64]; exact zset_s
      have e73 : s63 164 101 = s50 164 101 := by rw [← hs64]; exact zset_j (by decide)
      have e74 : s63 164 48 = s50 164 48 := by rw [← hs64]; exact zset_j (by decide)
      have e75 : s63 200 1 = s50 200 1 := by rw [← hs64]; exact zset_k (zne_r zc_200 zc_164 (by decide))
      refine zt_aload_n (pc' := 47) hX dX12_codesTold_46 rfl rfl ?_
      refine zt_iconst (pc' := 48) hX dX12_codesTold_47 rfl ?_
      refine zt_put (pc' := 51) (x := 0) hX dX12_codesTold_48 rfl zf_X12_336 (by decide) zc_164 zs_46 (fun q hq => by cases hq; rfl) rfl rfl rfl ?_
      generalize hs77 : zset s63 164 100 0 = s76
      have hI78 : zInv s76 := hs77 ▸ zp_46_100 hI65 zc_164 ⟨by omega, by omega⟩
      have hF79 : zOn zQ6 σ s76 := hs77 ▸ zOn_set hF66 (by decide)
      obtain ⟨-, w81, w82, w83, -, -, w86, -⟩ := zE_set hs77 (by decide)
      have w88 := zo_m hs77 0 (σ 164 48) (by omega)
      have e89 : s76 164 2 = s63 164 2 := by rw [← hs77]; exact zset_j (by decide)
      have e90 : s76 164 3 = s63 164 3 := by rw [← hs77]; exact zset_j (by decide)
      have e91 : s76 164 5 = s63 164 5 := by rw [← hs77]; exact zset_j (by decide)
      have e92 : s76 164 97 = s63 164 97 := by rw [← hs77]; exact zset_j (by decide)
      have e93 : s76 164 99 = s63 164 99 := by rw [← hs77]; exact zset_j (by decide)
      have e94 : s76 164 101 = s63 164 101 := by rw [← hs77]; exact zset_j (by decide)
      have e95 : s76 164 48 = s63 164 48 := by rw [← hs77]; exact zset_j (by decide)
      have e96 : s76 200 1 = s63 200 1 := by rw [← hs77]; exact zset_k (zne_r zc_200 zc_164 (by decide))
      refine zt_aload_n (pc' := 52) hX dX12_codesTold_51 rfl rfl ?_
      refine zt_iconst (pc' := 53) hX dX12_codesTold_52 rfl ?_
      refine zt_put (pc' := 56) (x := 0) hX dX12_codesTold_53 rfl zf_X12_339 (by decide) zc_164 zs_46 (fun q hq => by cases hq; rfl) rfl rfl rfl ?_
      generalize hs98 : zset s76 164 101 0 = s97
      have hI99 : zInv s97 := hs98 ▸ zp_46_101 hI78 zc_164 ⟨by omega, by omega⟩
      have hF100 : zOn zQ6 σ s97 := hs98 ▸ zOn_set hF79 (by decide)
      have w101 := zo_m hs98 0 (σ 164 48) (by omega)
      have e102 : s97 164 2 = s76 164 2 := by rw [← hs98]; exact zset_j (by decide)
      have e103 : s97 164 3 = s76 164 3 := by rw [← hs98]; exact zset_j (by decide)
      have e104 : s97 164 5 = s76 164 5 := by rw [← hs98]; exact zset_j (by decide)
      have e105 : s97 164 97 = s76 164 97 := by rw [← hs98]; exact zset_j (by decide)
      have e106 : s97 164 99 = s76 164 99 := by rw [← hs98]; exact zset_j (by decide)
      have e107 : s97 164 101 = 0 := by rw [← hs98]; exact zset_s
      have e108 : s97 164 48 = s76 164 48 := by rw [← hs98]; exact zset_j (by decide)
      have e109 : s97 200 1 = s76 200 1 := by rw [← hs98]; exact zset_k (zne_r zc_200 zc_164 (by decide))
      have h110 := zt_0 (s := s97) (by omega) (by omega)
      refine zt_iload_n (pc' := 57) hX dX12_codesTold_56 rfl rfl ?_
      refine zt_iconst (pc' := 58) hX dX12_codesTold_57 rfl ?_
      have J_72_118 : ∀ (s111 : zSto), zInv s111 → zOn zQ6 σ s111 → s111 164 48 = σ 164 48 → (s111 164 5 = 0 → zt s111 = 1 ∧ s111 164 97 + s111 164 99 + σ 164 2 ≤ s111 164 2) → (σ 164 2 ≤ s111 164 2 ∧ s111 164 2 ≤ σ 164 3) → s111 164 3 = σ 164 3 → zo s111 0 (σ 164 48) = 1 → zF X s111 72 [some (.ref (X.1.1 + 164)), some (.int (zI 1)), none, none] [] := by
        intro s111 hI112 hF113 g114 g115 g116 g117 g118
        have b120 := zv_46_2 hI112 zc_164
        have b121 := zv_46_3 hI112 zc_164
        have b122 := zv_46_5 hI112 zc_164
        have b123 := zv_46_97 hI112 zc_164
        have b124 := zv_46_99 hI112 zc_164
        have b125 := zv_46_101 hI112 zc_164
        have b126 := zv_46_48 hI112 zc_164
        have b127 := zv_82 hI112 zc_200 1
        refine zt_aload_n (pc' := 73) hX dX12_codesTold_72 rfl rfl ?_
        have b128 := zv_46_5 hI112 zc_164
        refine zt_get (pc' := 76) (v := .int (zI (s111 164 5))) hX dX12_codesTold_73 rfl zf_X12_246 (by decide) zc_164 zs_46 rfl ?_
        refine zt_ifeq (pc' := 79) (tgt := 80) hX dX12_codesTold_76 rfl (by decide) ⟨by omega, by omega⟩ (fun c129 => ?_) (fun c129 => ?_)
        · have qg115 := g115 (by omega)
          clear g115
          refine zt_aload_n (pc' := 81) hX dX12_codesTold_80 rfl rfl ?_
          refine zt_get (pc' := 84) (v := .ref (X.1.1 + 200)) hX dX12_codesTold_81 rfl zf_X12_121 (by decide) zc_164 zs_46 (zrf_of (zv_46_45 hI112 zc_164)) ?_
          refine zt_iload_n (pc' := 85) hX dX12_codesTold_84 rfl rfl ?_
          refine zt_aload_n (pc' := 86) hX dX12_codesTold_85 rfl rfl ?_
          have b130 := zv_46_48 hI112 zc_164
          refine zt_get (pc' := 89) (v := .int (zI (s111 164 48))) hX dX12_codesTold_86 rfl zf_X12_348 (by decide) zc_164 zs_46 rfl ?_
          refine zt_iast (pc' := 90) hX dX12_codesTold_89 rfl (by decide) zc_200 zs_82 (by decide) ⟨by omega, by omega⟩ ?_
          rw [show Int.toNat 1 = 1 from rfl]
          generalize hs132 : zset s111 200 1 (s111 164 48) = s131
          have hI133 : zInv s131 := hs132 ▸ zp_82 hI112 zc_200 1 ⟨by omega, by omega⟩
          have hF134 : zOn zQ6 σ s131 := hs132 ▸ zOn_set hF113 (by decide)
          obtain ⟨-, w136, w137, w138, -, -, w141, -⟩ := zE_setk hs132 (by decide)
          have w143 := zo_0 hs132 0 (σ 164 48) (by decide) (by omega)
          have e144 : s131 164 2 = s111 164 2 := by rw [← hs132]; exact zset_k (zne_r zc_164 zc_200 (by decide))
          have e145 : s131 164 3 = s111 164 3 := by rw [← hs132]; exact zset_k (zne_r zc_164 zc_200 (by decide))
          have e146 : s131 164 5 = s111 164 5 := by rw [← hs132]; exact zset_k (zne_r zc_164 zc_200 (by decide))
          have e147 : s131 164 97 = s111 164 97 := by rw [← hs132]; exact zset_k (zne_r zc_164 zc_200 (by decide))
          have e148 : s131 164 99 = s111 164 99 := by rw [← hs132]; exact zset_k (zne_r zc_164 zc_200 (by decide))
          have e149 : s131 164 101 = s111 164 101 := by rw [← hs132]; exact zset_k (zne_r zc_164 zc_200 (by decide))
          have e150 : s131 164 48 = s111 164 48 := by rw [← hs132]; exact zset_k (zne_r zc_164 zc_200 (by decide))
          have e151 : s131 200 1 = (s111 164 48) := by rw [← hs132]; exact zset_s
          refine zt_iconst (pc' := 91) hX dX12_codesTold_90 rfl ?_
          refine zt_istore_n (pc' := 92) (lv' := [some (.ref (X.1.1 + 164)), some (.int (zI 1)), none, some (.int (zI 0))]) hX dX12_codesTold_91 rfl hL (by decide) rfl ?_
          have h152 := zcy_0 s131 (σ 164 48)
          have L_92_168 : ∀ (N : Nat) (x153 : Int) (s156 : zSto), 0 ≤ x153 → x153 ≤ 1700 → zInv s156 → zOn zQ6 σ s156 → s156 164 48 = σ 164 48 + x153 → x153 ≤ s156 164 97 → σ 164 48 + s156 164 97 ≤ s156 164 2 → zt s156 = 1 → s156 200 1 = σ 164 48 → zcy s156 (σ 164 48) x153 = 1 → s156 164 5 = 0 → (σ 164 2 ≤ s156 164 2 ∧ s156 164 2 ≤ σ 164 3) → s156 164 3 = σ 164 3 → zo s156 0 (σ 164 48) = 1 → ((1701 - x153).toNat) < N → zF X s156 92 [some (.ref (X.1.1 + 164)), some (.int (zI 1)), none, some (.int (zI x153))] [] := by
            intro N
            induction N with
            | zero =>
              intro x153 s156 h154 h155 hI157 hF158 g159 g160 g161 g162 g163 g164 g165 g166 g167 g168 hm170
              exact absurd hm170 (Nat.not_lt_zero _)
            | succ N ih171 =>
              intro x153 s156 h154 h155 hI157 hF158 g159 g160 g161 g162 g163 g164 g165 g166 g167 g168 hm170
              have b172 := zv_46_2 hI157 zc_164
              have b173 := zv_46_3 hI157 zc_164
              have b174 := zv_46_5 hI157 zc_164
              have b175 := zv_46_97 hI157 zc_164
              have b176 := zv_46_99 hI157 zc_164
              have b177 := zv_46_101 hI157 zc_164
              have b178 := zv_46_48 hI157 zc_164
              have b179 := zv_82 hI157 zc_200 1
              refine zt_iload_n (pc' := 93) hX dX12_codesTold_92 rfl rfl ?_
              refine zt_aload_n (pc' := 94) hX dX12_codesTold_93 rfl rfl ?_
              have b180 := zv_46_97 hI157 zc_164
              refine zt_get (pc' := 97) (v := .int (zI (s156 164 97))) hX dX12_codesTold_94 rfl zf_X12_330 (by decide) zc_164 zs_46 rfl ?_
              refine zt_icge (pc' := 100) (tgt := 131) hX dX12_codesTold_97 rfl (by decide) ⟨by omega, by omega⟩ ⟨by omega, by omega⟩ (fun c181 => ?_) (fun c181 => ?_)
              · refine zt_aload_n (pc' := 132) hX dX12_codesTold_131 rfl rfl ?_
                refine zt_get (pc' := 135) (v := .ref (X.1.1 + 201)) hX dX12_codesTold_132 rfl zf_X12_124 (by decide) zc_164 zs_46 (zrf_of (zv_46_46 hI157 zc_164)) ?_
                refine zt_iload_n (pc' := 136) hX dX12_codesTold_135 rfl rfl ?_
                refine zt_aload_n (pc' := 137) hX dX12_codesTold_136 rfl rfl ?_
                have b182 := zv_46_48 hI157 zc_164
                refine zt_get (pc' := 140) (v := .int (zI (s156 164 48))) hX dX12_codesTold_137 rfl zf_X12_348 (by decide) zc_164 zs_46 rfl ?_
                refine zt_iast (pc' := 141) hX dX12_codesTold_140 rfl (by decide) zc_201 zs_83 (by decide) ⟨by omega, by omega⟩ ?_
                rw [show Int.toNat 1 = 1 from rfl]
                generalize hs184 : zset s156 201 1 (s156 164 48) = s183
                have hI185 : zInv s183 := hs184 ▸ zp_83 hI157 zc_201 1 ⟨by omega, by omega⟩
                have hF186 : zOn zQ6 σ s183 := hs184 ▸ zOn_set hF158 (by decide)
                obtain ⟨-, w188, w189, w190, -, -, w193, -⟩ := zE_setk hs184 (by decide)
                have e195 : s183 164 2 = s156 164 2 := by rw [← hs184]; exact zset_k (zne_r zc_164 zc_201 (by decide))
                have e196 : s183 164 3 = s156 164 3 := by rw [← hs184]; exact zset_k (zne_r zc_164 zc_201 (by decide))
                have e197 : s183 164 5 = s156 164 5 := by rw [← hs184]; exact zset_k (zne_r zc_164 zc_201 (by decide))
                have e198 : s183 164 97 = s156 164 97 := by rw [← hs184]; exact zset_k (zne_r zc_164 zc_201 (by decide))
                have e199 : s183 164 99 = s156 164 99 := by rw [← hs184]; exact zset_k (zne_r zc_164 zc_201 (by decide))
                have e200 : s183 164 101 = s156 164 101 := by rw [← hs184]; exact zset_k (zne_r zc_164 zc_201 (by decide))
                have e201 : s183 164 48 = s156 164 48 := by rw [← hs184]; exact zset_k (zne_r zc_164 zc_201 (by decide))
                have e202 : s183 200 1 = s156 200 1 := by rw [← hs184]; exact zset_k (zne_r zc_200 zc_201 (by decide))
                have h203 := zwk_fin (k := x153) (c := σ 164 48) (Or.inr ⟨rfl, rfl⟩) hs184 (by omega) (by omega) (by omega) (by omega) (by omega) (by omega) (by omega) (by omega) (by omega)
                exact zt_vret hX hR dX12_codesTold_141 ⟨hI185, hF186, by omega, by omega, (fun hb => by omega)⟩
              · refine zt_aload_n (pc' := 101) hX dX12_codesTold_100 rfl rfl ?_
                refine zt_get (pc' := 104) (v := .ref (X.1.1 + 202)) hX dX12_codesTold_101 rfl zf_X12_127 (by decide) zc_164 zs_46 (zrf_of (zv_46_47 hI157 zc_164)) ?_
                refine zt_aload_n (pc' := 105) hX dX12_codesTold_104 rfl rfl ?_
                have b204 := zv_46_48 hI157 zc_164
                refine zt_get (pc' := 108) (v := .int (zI (s156 164 48))) hX dX12_codesTold_105 rfl zf_X12_348 (by decide) zc_164 zs_46 rfl ?_
                refine zt_aload_n (pc' := 109) hX dX12_codesTold_108 rfl rfl ?_
                refine zt_get (pc' := 112) (v := .ref (X.1.1 + 234)) hX dX12_codesTold_109 rfl zf_X12_231 (by decide) zc_164 zs_46 (zrf_of (zv_46_96 hI157 zc_164)) ?_
                refine zt_iload_n (pc' := 113) hX dX12_codesTold_112 rfl rfl ?_
                refine zt_iald (pc' := 114) hX dX12_codesTold_113 rfl (by decide) zc_234 zs_116 (by decide) ⟨by omega, by omega⟩ ?_
                generalize hv205 : s156 234 (x153.toNat) = v205
                have bv205 : -2147483648 ≤ v205 ∧ v205 ≤ 2147483647 := hv205 ▸ zv_116 hI157 zc_234 _
                refine zt_iast (pc' := 115) hX dX12_codesTold_114 rfl (by decide) zc_202 zs_84 (by decide) ⟨by omega, by omega⟩ ?_
                generalize hs207 : zset s156 202 ((s156 164 48).toNat) v205 = s206
                have hI208 : zInv s206 := hs207 ▸ zp_84 hI157 zc_202 ((s156 164 48).toNat) ⟨by omega, by omega⟩
                have hF209 : zOn zQ6 σ s206 := hs207 ▸ zOn_set hF158 (zq6_202 (by omega))
                obtain ⟨-, w211, w212, w213, -, -, w216, -⟩ := zE_setk hs207 (by decide)
                have w218 := zo_2 hs207 0 (σ 164 48) (by omega) (by omega)
                have e219 : s206 164 2 = s156 164 2 := by rw [← hs207]; exact zset_k (zne_r zc_164 zc_202 (by decide))
                have e220 : s206 164 3 = s156 164 3 := by rw [← hs207]; exact zset_k (zne_r zc_164 zc_202 (by decide))
                have e221 : s206 164 5 = s156 164 5 := by rw [← hs207]; exact zset_k (zne_r zc_164 zc_202 (by decide))
                have e222 : s206 164 97 = s156 164 97 := by rw [← hs207]; exact zset_k (zne_r zc_164 zc_202 (by decide))
                have e223 : s206 164 99 = s156 164 99 := by rw [← hs207]; exact zset_k (zne_r zc_164 zc_202 (by decide))
                have e224 : s206 164 101 = s156 164 101 := by rw [← hs207]; exact zset_k (zne_r zc_164 zc_202 (by decide))
                have e225 : s206 164 48 = s156 164 48 := by rw [← hs207]; exact zset_k (zne_r zc_164 zc_202 (by decide))
                have e226 : s206 200 1 = s156 200 1 := by rw [← hs207]; exact zset_k (zne_r zc_200 zc_202 (by decide))
                refine zt_aload_n (pc' := 116) hX dX12_codesTold_115 rfl rfl ?_
                refine zt_dup (pc' := 117) hX dX12_codesTold_116 rfl rfl ?_
                have b227 := zv_46_48 hI208 zc_164
                refine zt_get (pc' := 120) (v := .int (zI (s206 164 48))) hX dX12_codesTold_117 rfl zf_X12_348 (by decide) zc_164 zs_46 rfl ?_
                refine zt_iconst (pc' := 121) hX dX12_codesTold_120 rfl ?_
                refine zt_iadd (pc' := 122) hX dX12_codesTold_121 rfl ?_
                refine zt_put (pc' := 125) (x := ((s206 164 48) + 1)) hX dX12_codesTold_122 rfl zf_X12_348 (by decide) zc_164 zs_46 (fun q hq => by cases hq; rfl) rfl rfl rfl ?_
                generalize hs229 : zset s206 164 48 ((s206 164 48) + 1) = s228
                have hI230 : zInv s228 := hs229 ▸ zp_46_48 hI208 zc_164 ⟨by omega, by omega⟩
                have hF231 : zOn zQ6 σ s228 := hs229 ▸ zOn_set hF209 (by decide)
                obtain ⟨-, w233, w234, w235, -, -, w238, -⟩ := zE_set hs229 (by decide)
                have w240 := zo_m hs229 0 (σ 164 48) (by omega)
                have e241 : s228 164 2 = s206 164 2 := by rw [← hs229]; exact zset_j (by decide)
                have e242 : s228 164 3 = s206 164 3 := by rw [← hs229]; exact zset_j (by decide)
                have e243 : s228 164 5 = s206 164 5 := by rw [← hs229]; exact zset_j (by decide)
                have e244 : s228 164 97 = s206 164 97 := by rw [← hs229]; exact zset_j (by decide)
                have e245 : s228 164 99 = s206 164 99 := by rw [← hs229]; exact zset_j (by decide)
                have e246 : s228 164 101 = s206 164 101 := by rw [← hs229]; exact zset_j (by decide)
                have e247 : s228 164 48 = ((s206 164 48) + 1) := by rw [← hs229]; exact zset_s
                have e248 : s228 200 1 = s206 200 1 := by rw [← hs229]; exact zset_k (zne_r zc_200 zc_164 (by decide))
                have h249 := zcy_s (c := σ 164 48) (k := x153) hs207 hs229 (by omega) hv205 (by omega) (by omega) (by omega)
                refine zt_iinc (pc' := 128) (lv' := [some (.ref (X.1.1 + 164)), some (.int (zI 1)), none, some (.int (zI (x153 + 1)))]) hX dX12_codesTold_125 rfl rfl hL (by decide) rfl ?_
                refine zt_goto (tgt := 92) hX dX12_codesTold_128 (by decide) ?_
                exact ih171 (x153 + 1) s228 (by omega) (by omega) hI230 hF231 (by omega) (by omega) (by omega) (by omega) (by omega) (by omega) (by omega) (by omega) (by omega) (by omega) (by omega)
          exact L_92_168 _ 0 s131 (by omega) (by omega) hI133 hF134 (by omega) (by omega) (by omega) (by omega) (by omega) (by omega) (by omega) (by omega) (by omega) (by omega) (Nat.lt_succ_self _)
        · clear g115
          exact zt_vret hX hR dX12_codesTold_79 ⟨hI112, hF113, by omega, by omega, (fun hb => by omega)⟩
      refine zt_icne (pc' := 61) (tgt := 68) hX dX12_codesTold_58 rfl (by decide) ⟨by omega, by omega⟩ ⟨by omega, by omega⟩ (fun c250 => ?_) (fun c250 => ?_)
      · exact absurd c250 (by omega)
      · refine zt_aload_n (pc' := 62) hX dX12_codesTold_61 rfl rfl ?_
        refine zt_cVv (pc' := 65) hX dX12_codesTold_62 rfl zm_yX12_qTest zw_29_6 zc_164 (by decide) zs_46 (q := (RX12, TX12, 108)) rfl rfl (zc_X12_qTest _ _ s97 hI99 (by omega) (by omega) (by omega) (by omega) (by omega)) rfl rfl (Nat.le_of_ble_eq_true rfl) (by decide) (fun r251 s252 hr253 hp254 => ?_)
        obtain ⟨hI255, hF256, z257, z258, z259, z260, z261, z262⟩ := hp254
        have w263 := zo_on (zOn_tr (zOn_rf zQ2 s97) hF256 zi_id) 0 (σ 164 48) (by omega)
        have e264 := hF256 164 3 rfl
        have e265 := hF256 164 48 rfl
        have e266 := hF256 200 1 rfl
        have hF267 := zOn_tr hF100 hF256 zi_26
        have b268 := zv_46_2 hI255 zc_164
        have b269 := zv_46_3 hI255 zc_164
        have b270 := zv_46_5 hI255 zc_164
        have b271 := zv_46_97 hI255 zc_164
        have b272 := zv_46_99 hI255 zc_164
        have b273 := zv_46_101 hI255 zc_164
        have b274 := zv_46_48 hI255 zc_164
        have b275 := zv_82 hI255 zc_200 1
        refine zt_goto (tgt := 72) hX dX12_codesTold_65 (by decide) ?_
        exact J_72_118 s252 hI255 hF267 (by omega) (fun hb => by have qz262 := z262 (by omega); have qz261 := z261 (by omega); clear z262 z261; omega) (by omega) (by omega) (by omega)
    · exact zt_vret hX hR dX12_codesTold_30 ⟨hI11, hF12, by omega, by omega, (fun hb => by omega)⟩
  refine zt_ifne (pc' := 7) (tgt := 23) hX dX12_codesTold_4 rfl (by decide) ⟨by omega, by omega⟩ (fun c276 => ?_) (fun c276 => ?_)
  · refine zt_mask [true, true, false, false] rfl ?_
    exact J_23_17 σ hI hF (by omega) (by omega) (by omega) (by omega) (by omega)
  · refine zt_aload_n (pc' := 8) hX dX12_codesTold_7 rfl rfl ?_
    refine zt_get (pc' := 11) (v := .ref (X.1.1 + 200)) hX dX12_codesTold_8 rfl zf_X12_121 (by decide) zc_164 zs_46 (zrf_of (zv_46_45 hI zc_164)) ?_
    refine zt_iload_n (pc' := 12) hX dX12_codesTold_11 rfl rfl ?_
    refine zt_iald (pc' := 13) hX dX12_codesTold_12 rfl (by decide) zc_200 zs_82 (by decide) ⟨by omega, by omega⟩ ?_
    rw [show Int.toNat 1 = 1 from rfl]
    have b278 := zv_82 hI zc_200 1
    refine zt_iconst (pc' := 14) hX dX12_codesTold_13 rfl ?_
    refine zt_iceq (pc' := 17) (tgt := 23) hX dX12_codesTold_14 rfl (by decide) ⟨by omega, by omega⟩ ⟨by omega, by omega⟩ (fun c279 => ?_) (fun c279 => ?_)
    · refine zt_mask [true, true, false, false] rfl ?_
      exact J_23_17 σ hI hF (by omega) (by omega) (by omega) (by omega) (by omega)
    · refine zt_aload_n (pc' := 18) hX dX12_codesTold_17 rfl rfl ?_
      refine zt_iconst (pc' := 19) hX dX12_codesTold_18 rfl ?_
      refine zt_iload_n (pc' := 20) hX dX12_codesTold_19 rfl rfl ?_
      refine zt_cVv (pc' := 23) hX dX12_codesTold_20 rfl zm_yX12_fail zw_26_19 zc_164 (by decide) zs_46 (q := (RX12, TX12, 108)) rfl rfl (zc_X12_fail _ _ σ hI 5 ⟨by omega, by omega⟩ a2_ ⟨by omega, by omega⟩) rfl rfl (Nat.le_of_ble_eq_true rfl) (by decide) (fun r280 s281 hr282 hp283 => ?_)
      obtain ⟨hI284, hF285, z286, z287⟩ := hp283
      obtain ⟨-, w289, w290, w291, -, -, w294, -⟩ := zE_q1 hF285
      have w296 := zo_on (zOn_tr (zOn_rf zQ2 σ) hF285 zi_12) 0 (σ 164 48) (by omega)
      have e297 := hF285 164 3 rfl
      have e298 := hF285 164 97 rfl
      have e299 := hF285 164 99 rfl
      have e300 := hF285 164 101 rfl
      have e301 := hF285 164 48 rfl
      have e302 := hF285 200 1 rfl
      have hF303 := zOn_tr hF hF285 zi_16
      have b304 := zv_46_2 hI284 zc_164
      have b305 := zv_46_3 hI284 zc_164
      have b306 := zv_46_5 hI284 zc_164
      have b307 := zv_46_97 hI284 zc_164
      have b308 := zv_46_99 hI284 zc_164
      have b309 := zv_46_101 hI284 zc_164
      have b310 := zv_46_48 hI284 zc_164
      have b311 := zv_82 hI284 zc_200 1
      refine zt_mask [true, true, false, false] rfl ?_
      exact J_23_17 s281 hI284 hF303 (by omega) (by omega) (by omega) (by omega) (by omega)

set_option maxRecDepth 100000 in
set_option maxHeartbeats 2000000 in
theorem zc_X12_statementTold (l : Launch) (E : zEN) (σ : zSto) (hI : zInv σ) (hpre0 : σ 164 5 = 0) (hpre1 : σ 164 2 ≤ σ 164 3) (hpre2 : σ 164 48 ≤ σ 164 2) (hpre3 : zwk σ = 1) (hpre4 : (2 ≤ σ 194 0 ∧ σ 194 0 ≤ 6 ∧ 2 ≤ σ 194 1 ∧ σ 194 1 ≤ 6)) (hpre5 : (0 ≤ σ 199 0 ∧ σ 199 0 ≤ 100 ∧ 0 ≤ σ 199 1 ∧ σ 199 1 ≤ 100 ∧ 0 ≤ σ 199 2 ∧ σ 199 2 ≤ 100)) : zCt l E yX12_statementTold cX12_statementTold 2 none 10 zNC zNC 0 0 σ [.ref (E.1 + 164)] (fun r σ' => zInv σ' ∧ zOn zQ3 σ σ' ∧ (σ' 164 2 ≤ σ 164 3) ∧ (σ 164 2 ≤ σ' 164 2) ∧ (σ' 164 5 = 0 → σ 164 2 < σ' 164 2 ∧ σ' 164 48 ≤ σ' 164 2 ∧ zwk σ' = 1 ∧ (2 ≤ σ' 194 0 ∧ σ' 194 0 ≤ 6 ∧ 2 ≤ σ' 194 1 ∧ σ' 194 1 ≤ 6) ∧ (0 ≤ σ' 199 0 ∧ σ' 199 0 ≤ 100 ∧ 0 ≤ σ' 199 1 ∧ σ' 199 1 ≤ 100 ∧ 0 ≤ σ' 199 2 ∧ σ' 199 2 ≤ 100))) := by
  refine zCt_of2 [some (.ref (E.1 + 164)), none] (by decide +kernel) (Nat.le_of_ble_eq_true rfl) rfl ?_
  intro X hE hX hR hL hN
  subst hE
  have hX : zok X cX12_statementTold RX12 10 := hX
  have hF := zOn_rf zQ3 σ
  have b1 := zv_46_2 hI zc_164
  have b2 := zv_46_3 hI zc_164
  have b3 := zv_46_5 hI zc_164
  have b4 := zv_46_4 hI zc_164
  have b5 := zv_46_48 hI zc_164
  refine zt_aload_n (pc' := 1) hX dX12_statementTold_0 rfl rfl ?_
  have b6 := zv_46_2 hI zc_164
  refine zt_get (pc' := 4) (v := .int (zI (σ 164 2))) hX dX12_statementTold_1 rfl zf_X12_252 (by decide) zc_164 zs_46 rfl ?_
  refine zt_istore_n (pc' := 5) (lv' := [some (.ref (X.1.1 + 164)), some (.int (zI (σ 164 2)))]) hX dX12_statementTold_4 rfl hL (by decide) rfl ?_
  refine zt_aload_n (pc' := 6) hX dX12_statementTold_5 rfl rfl ?_
  have b7 := zv_46_49 hI zc_164
  refine zt_get (pc' := 9) (v := .int (zI (σ 164 49))) hX dX12_statementTold_6 rfl zf_X12_351 (by decide) zc_164 zs_46 rfl ?_
  refine zt_bipush (pc' := 11) hX dX12_statementTold_9 rfl (by decide) (by decide) ?_
  refine zt_icne (pc' := 14) (tgt := 21) hX dX12_statementTold_11 rfl (by decide) ⟨by omega, by omega⟩ ⟨by omega, by omega⟩ (fun c8 => ?_) (fun c8 => ?_)
  · refine zt_aload_n (pc' := 22) hX dX12_statementTold_21 rfl rfl ?_
    refine zt_aload_n (pc' := 23) hX dX12_statementTold_22 rfl rfl ?_
    refine zt_get (pc' := 26) (v := .ref (X.1.1 + 170)) hX dX12_statementTold_23 rfl zf_X12_30 (by decide) zc_164 zs_46 (zrf_of (zv_46_14 hI zc_164)) ?_
    refine zt_cVz (pc' := 29) hX dX12_statementTold_26 rfl zm_yX12_takes zw_26_4 zc_164 (by decide) zs_46 (q := (RX12, TX12, 108)) rfl rfl (zc_X12_takes _ _ σ hI 170 52 5 zc_170 (by decide) zs_52 (by decide)) rfl rfl (Nat.le_of_ble_eq_true rfl) (by decide) (fun r9 s10 hr11 hp12 => ?_)
    obtain ⟨hI13, hF14, q15, q16, z17, z18, z19⟩ := hp12
    have w20 := zwk_q1 hF14
    have e21 := hF14 164 3 rfl
    have e22 := hF14 164 48 rfl
    have e23 := hF14 194 0 rfl
    have e24 := hF14 194 1 rfl
    have e25 := hF14 199 0 rfl
    have e26 := hF14 199 1 rfl
    have e27 := hF14 199 2 rfl
    have hF28 := zOn_tr hF hF14 zi_13
    have b29 := zv_46_2 hI13 zc_164
    have b30 := zv_46_3 hI13 zc_164
    have b31 := zv_46_5 hI13 zc_164
    have b32 := zv_46_4 hI13 zc_164
    have b33 := zv_46_48 hI13 zc_164
    replace z17 : _ ∧ _ := ⟨z17.1, z17.2 (by omega)⟩
    have J_173_39 : ∀ (s34 : zSto), zInv s34 → zOn zQ3 σ s34 → (σ 164 2 ≤ s34 164 2 ∧ s34 164 2 ≤ σ 164 3) → s34 164 3 = σ 164 3 → (s34 164 5 = 0 → zwk s34 = 1 ∧ s34 164 48 ≤ s34 164 2 ∧ σ 164 2 < s34 164 2 ∧ (2 ≤ s34 194 0 ∧ s34 194 0 ≤ 6 ∧ 2 ≤ s34 194 1 ∧ s34 194 1 ≤ 6) ∧ (0 ≤ s34 199 0 ∧ s34 199 0 ≤ 100 ∧ 0 ≤ s34 199 1 ∧ s34 199 1 ≤ 100 ∧ 0 ≤ s34 199 2 ∧ s34 199 2 ≤ 100)) → zF X s34 173 [some (.ref (X.1.1 + 164)), none] [] := by
      clear z18
      intro s34 hI35 hF36 g37 g38 g39
      have b41 := zv_46_2 hI35 zc_164
      have b42 := zv_46_3 hI35 zc_164
      have b43 := zv_46_5 hI35 zc_164
      have b44 := zv_46_4 hI35 zc_164
      have b45 := zv_46_48 hI35 zc_164
      refine zt_aload_n (pc' := 174) hX dX12_statementTold_173 rfl rfl ?_
      refine zt_bipush (pc' := 176) hX dX12_statementTold_174 rfl (by decide) (by decide) ?_
      refine zt_cVv (pc' := 179) hX dX12_statementTold_176 rfl zm_yX12_asksSign zw_27_10 zc_164 (by decide) zs_46 (q := (RX12, TX12, 108)) rfl rfl (zc_X12_asksSign _ _ s34 hI35 59 ⟨by omega, by omega⟩) rfl rfl (Nat.le_of_ble_eq_true rfl) (by decide) (fun r46 s47 hr48 hp49 => ?_)
      obtain ⟨hI50, hF51, z52, z53⟩ := hp49
      have w54 := zwk_q1 hF51
      have e55 := hF51 164 3 rfl
      have e56 := hF51 164 48 rfl
      have e57 := hF51 194 0 rfl
      have e58 := hF51 194 1 rfl
      have e59 := hF51 199 0 rfl
      have e60 := hF51 199 1 rfl
      have e61 := hF51 199 2 rfl
      have hF62 := zOn_tr hF36 hF51 zi_13
      have b63 := zv_46_2 hI50 zc_164
      have b64 := zv_46_3 hI50 zc_164
      have b65 := zv_46_5 hI50 zc_164
      have b66 := zv_46_4 hI50 zc_164
      have b67 := zv_46_48 hI50 zc_164
      replace z52 : _ ∧ _ := ⟨z52.1, z52.2 (by omega)⟩
      refine zt_aload_n (pc' := 180) hX dX12_statementTold_179 rfl rfl ?_
      refine zt_dup (pc' := 181) hX dX12_statementTold_180 rfl rfl ?_
      have b68 := zv_46_49 hI50 zc_164
      refine zt_get (pc' := 184) (v := .int (zI (s47 164 49))) hX dX12_statementTold_181 rfl zf_X12_351 (by decide) zc_164 zs_46 rfl ?_
      refine zt_iconst (pc' := 185) hX dX12_statementTold_184 rfl ?_
      refine zt_iadd (pc' := 186) hX dX12_statementTold_185 rfl ?_
      refine zt_wrap (fun r69 zr69 lr69 ur69 => ?_)
      clear zr69
      refine zt_put (pc' := 189) (x := r69) hX dX12_statementTold_186 rfl zf_X12_351 (by decide) zc_164 zs_46 (fun q hq => by cases hq; rfl) rfl rfl rfl ?_
      generalize hs71 : zset s47 164 49 r69 = s70
      have hI72 : zInv s70 := hs71 ▸ zp_46_49 hI50 zc_164 ⟨by omega, by omega⟩
      have hF73 : zOn zQ3 σ s70 := hs71 ▸ zOn_set hF62 (by decide)
      have w74 := zwk_m hs71 (by decide)
      have e75 : s70 164 2 = s47 164 2 := by rw [← hs71]; exact zset_j (by decide)
      have e76 : s70 164 3 = s47 164 3 := by rw [← hs71]; exact zset_j (by decide)
      have e77 : s70 164 5 = s47 164 5 := by rw [← hs71]; exact zset_j (by decide)
      have e78 : s70 164 4 = s47 164 4 := by rw [← hs71]; exact zset_j (by decide)
      have e79 : s70 164 48 = s47 164 48 := by rw [← hs71]; exact zset_j (by decide)
      have e80 : s70 194 0 = s47 194 0 := by rw [← hs71]; exact zset_k (zne_r zc_194 zc_164 (by decide))
      have e81 : s70 194 1 = s47 194 1 := by rw [← hs71]; exact zset_k (zne_r zc_194 zc_164 (by decide))
      have e82 : s70 199 0 = s47 199 0 := by rw [← hs71]; exact zset_k (zne_r zc_199 zc_164 (by decide))
      have e83 : s70 199 1 = s47 199 1 := by rw [← hs71]; exact zset_k (zne_r zc_199 zc_164 (by decide))
      have e84 : s70 199 2 = s47 199 2 := by rw [← hs71]; exact zset_k (zne_r zc_199 zc_164 (by decide))
      exact zt_vret hX hR dX12_statementTold_189 ⟨hI72, hF73, by omega, by omega, (fun hb => by have qz53 := z53 (by omega); have qg39 := g39 (by omega); clear z53 g39; omega)⟩
    refine zt_ifeq (pc' := 32) (tgt := 39) hX dX12_statementTold_29 rfl (by decide) ⟨by omega, by omega⟩ (fun c85 => ?_) (fun c85 => ?_)
    · clear z18
      refine zt_aload_n (pc' := 40) hX dX12_statementTold_39 rfl rfl ?_
      refine zt_aload_n (pc' := 41) hX dX12_statementTold_40 rfl rfl ?_
      refine zt_get (pc' := 44) (v := .ref (X.1.1 + 171)) hX dX12_statementTold_41 rfl zf_X12_33 (by decide) zc_164 zs_46 (zrf_of (zv_46_15 hI13 zc_164)) ?_
      refine zt_cVz (pc' := 47) hX dX12_statementTold_44 rfl zm_yX12_takes zw_26_4 zc_164 (by decide) zs_46 (q := (RX12, TX12, 108)) rfl rfl (zc_X12_takes _ _ s10 hI13 171 53 4 zc_171 (by decide) zs_53 (by decide)) rfl rfl (Nat.le_of_ble_eq_true rfl) (by decide) (fun r86 s87 hr88 hp89 => ?_)
      obtain ⟨hI90, hF91, q92, q93, z94, z95, z96⟩ := hp89
      have w97 := zwk_q1 hF91
      have e98 := hF91 164 3 rfl
      have e99 := hF91 164 48 rfl
      have e100 := hF91 194 0 rfl
      have e101 := hF91 194 1 rfl
      have e102 := hF91 199 0 rfl
      have e103 := hF91 199 1 rfl
      have e104 := hF91 199 2 rfl
      have hF105 := zOn_tr hF28 hF91 zi_13
      have b106 := zv_46_2 hI90 zc_164
      have b107 := zv_46_3 hI90 zc_164
      have b108 := zv_46_5 hI90 zc_164
      have b109 := zv_46_4 hI90 zc_164
      have b110 := zv_46_48 hI90 zc_164
      replace z94 : _ ∧ _ := ⟨z94.1, z94.2 (by omega)⟩
      refine zt_ifeq (pc' := 50) (tgt := 58) hX dX12_statementTold_47 rfl (by decide) ⟨by omega, by omega⟩ (fun c111 => ?_) (fun c111 => ?_)
      · clear z95
        refine zt_aload_n (pc' := 59) hX dX12_statementTold_58 rfl rfl ?_
        refine zt_aload_n (pc' := 60) hX dX12_statementTold_59 rfl rfl ?_
        refine zt_get (pc' := 63) (v := .ref (X.1.1 + 174)) hX dX12_statementTold_60 rfl zf_X12_42 (by decide) zc_164 zs_46 (zrf_of (zv_46_18 hI90 zc_164)) ?_
        refine zt_cVz (pc' := 66) hX dX12_statementTold_63 rfl zm_yX12_takes zw_26_4 zc_164 (by decide) zs_46 (q := (RX12, TX12, 108)) rfl rfl (zc_X12_takes _ _ s87 hI90 174 56 4 zc_174 (by decide) zs_56 (by decide)) rfl rfl (Nat.le_of_ble_eq_true rfl) (by decide) (fun r112 s113 hr114 hp115 => ?_)
        obtain ⟨hI116, hF117, q118, q119, z120, z121, z122⟩ := hp115
        have w123 := zwk_q1 hF117
        have e124 := hF117 164 3 rfl
        have e125 := hF117 164 48 rfl
        have e126 := hF117 194 0 rfl
        have e127 := hF117 194 1 rfl
        have e128 := hF117 199 0 rfl
        have e129 := hF117 199 1 rfl
        have e130 := hF117 199 2 rfl
        have hF131 := zOn_tr hF105 hF117 zi_13
        have b132 := zv_46_2 hI116 zc_164
        have b133 := zv_46_3 hI116 zc_164
        have b134 := zv_46_5 hI116 zc_164
        have b135 := zv_46_4 hI116 zc_164
        have b136 := zv_46_48 hI116 zc_164
        replace z120 : _ ∧ _ := ⟨z120.1, z120.2 (by omega)⟩
        refine zt_ifeq (pc' := 69) (tgt := 78) hX dX12_statementTold_66 rfl (by decide) ⟨by omega, by omega⟩ (fun c137 => ?_) (fun c137 => ?_)
        · clear z121
          refine zt_aload_n (pc' := 79) hX dX12_statementTold_78 rfl rfl ?_
          refine zt_aload_n (pc' := 80) hX dX12_statementTold_79 rfl rfl ?_
          refine zt_get (pc' := 83) (v := .ref (X.1.1 + 175)) hX dX12_statementTold_80 rfl zf_X12_45 (by decide) zc_164 zs_46 (zrf_of (zv_46_19 hI116 zc_164)) ?_
          refine zt_cVz (pc' := 86) hX dX12_statementTold_83 rfl zm_yX12_takes zw_26_4 zc_164 (by decide) zs_46 (q := (RX12, TX12, 108)) rfl rfl (zc_X12_takes _ _ s113 hI116 175 57 5 zc_175 (by decide) zs_57 (by decide)) rfl rfl (Nat.le_of_ble_eq_true rfl) (by decide) (fun r138 s139 hr140 hp141 => ?_)
          obtain ⟨hI142, hF143, q144, q145, z146, z147, z148⟩ := hp141
          have w149 := zwk_q1 hF143
          have e150 := hF143 164 3 rfl
          have e151 := hF143 164 48 rfl
          have e152 := hF143 194 0 rfl
          have e153 := hF143 194 1 rfl
          have e154 := hF143 199 0 rfl
          have e155 := hF143 199 1 rfl
          have e156 := hF143 199 2 rfl
          have hF157 := zOn_tr hF131 hF143 zi_13
          have b158 := zv_46_2 hI142 zc_164
          have b159 := zv_46_3 hI142 zc_164
          have b160 := zv_46_5 hI142 zc_164
          have b161 := zv_46_4 hI142 zc_164
          have b162 := zv_46_48 hI142 zc_164
          replace z146 : _ ∧ _ := ⟨z146.1, z146.2 (by omega)⟩
          refine zt_ifeq (pc' := 89) (tgt := 98) hX dX12_statementTold_86 rfl (by decide) ⟨by omega, by omega⟩ (fun c163 => ?_) (fun c163 => ?_)
          · clear z147
            refine zt_aload_n (pc' := 99) hX dX12_statementTold_98 rfl rfl ?_
            refine zt_aload_n (pc' := 100) hX dX12_statementTold_99 rfl rfl ?_
            refine zt_get (pc' := 103) (v := .ref (X.1.1 + 176)) hX dX12_statementTold_100 rfl zf_X12_48 (by decide) zc_164 zs_46 (zrf_of (zv_46_20 hI142 zc_164)) ?_
            refine zt_cVz (pc' := 106) hX dX12_statementTold_103 rfl zm_yX12_takes zw_26_4 zc_164 (by decide) zs_46 (q := (RX12, TX12, 108)) rfl rfl (zc_X12_takes _ _ s139 hI142 176 58 5 zc_176 (by decide) zs_58 (by decide)) rfl rfl (Nat.le_of_ble_eq_true rfl) (by decide) (fun r164 s165 hr166 hp167 => ?_)
            obtain ⟨hI168, hF169, q170, q171, z172, z173, z174⟩ := hp167
            have w175 := zwk_q1 hF169
            have e176 := hF169 164 3 rfl
            have e177 := hF169 164 48 rfl
            have e178 := hF169 194 0 rfl
            have e179 := hF169 194 1 rfl
            have e180 := hF169 199 0 rfl
            have e181 := hF169 199 1 rfl
            have e182 := hF169 199 2 rfl
            have hF183 := zOn_tr hF157 hF169 zi_13
            have b184 := zv_46_2 hI168 zc_164
            have b185 := zv_46_3 hI168 zc_164
            have b186 := zv_46_5 hI168 zc_164
            have b187 := zv_46_4 hI168 zc_164
            have b188 := zv_46_48 hI168 zc_164
            replace z172 : _ ∧ _ := ⟨z172.1, z172.2 (by omega)⟩
            refine zt_ifeq (pc' := 109) (tgt := 125) hX dX12_statementTold_106 rfl (by decide) ⟨by omega, by omega⟩ (fun c189 => ?_) (fun c189 => ?_)
            · clear z173
              refine zt_aload_n (pc' := 126) hX dX12_statementTold_125 rfl rfl ?_
              refine zt_aload_n (pc' := 127) hX dX12_statementTold_126 rfl rfl ?_
              refine zt_get (pc' := 130) (v := .ref (X.1.1 + 177)) hX dX12_statementTold_127 rfl zf_X12_51 (by decide) zc_164 zs_46 (zrf_of (zv_46_21 hI168 zc_164)) ?_
              refine zt_cVz (pc' := 133) hX dX12_statementTold_130 rfl zm_yX12_takes zw_26_4 zc_164 (by decide) zs_46 (q := (RX12, TX12, 108)) rfl rfl (zc_X12_takes _ _ s165 hI168 177 59 5 zc_177 (by decide) zs_59 (by decide)) rfl rfl (Nat.le_of_ble_eq_true rfl) (by decide) (fun r190 s191 hr192 hp193 => ?_)
              obtain ⟨hI194, hF195, q196, q197, z198, z199, z200⟩ := hp193
              have w201 := zwk_q1 hF195
              have e202 := hF195 164 3 rfl
              have e203 := hF195 164 48 rfl
              have e204 := hF195 194 0 rfl
              have e205 := hF195 194 1 rfl
              have e206 := hF195 199 0 rfl
              have e207 := hF195 199 1 rfl
              have e208 := hF195 199 2 rfl
              have hF209 := zOn_tr hF183 hF195 zi_13
              have b210 := zv_46_2 hI194 zc_164
              have b211 := zv_46_3 hI194 zc_164
              have b212 := zv_46_5 hI194 zc_164
              have b213 := zv_46_4 hI194 zc_164
              have b214 := zv_46_48 hI194 zc_164
              replace z198 : _ ∧ _ := ⟨z198.1, z198.2 (by omega)⟩
              refine zt_ifeq (pc' := 136) (tgt := 152) hX dX12_statementTold_133 rfl (by decide) ⟨by omega, by omega⟩ (fun c215 => ?_) (fun c215 => ?_)
              · clear z199
                refine zt_aload_n (pc' := 153) hX dX12_statementTold_152 rfl rfl ?_
                refine zt_aload_n (pc' := 154) hX dX12_statementTold_153 rfl rfl ?_
                refine zt_get (pc' := 157) (v := .ref (X.1.1 + 178)) hX dX12_statementTold_154 rfl zf_X12_54 (by decide) zc_164 zs_46 (zrf_of (zv_46_22 hI194 zc_164)) ?_
                refine zt_cVv (pc' := 160) hX dX12_statementTold_157 rfl zm_yX12_asks zw_26_0 zc_164 (by decide) zs_46 (q := (RX12, TX12, 108)) rfl rfl (zc_X12_asks _ _ s191 hI194 178 60 4 zc_178 (by decide) zs_60 (by decide)) rfl rfl (Nat.le_of_ble_eq_true rfl) (by decide) (fun r216 s217 hr218 hp219 => ?_)
                obtain ⟨hI220, hF221, z222, z223⟩ := hp219
                have w224 := zwk_q1 hF221
                have e225 := hF221 164 3 rfl
                have e226 := hF221 164 48 rfl
                have e227 := hF221 194 0 rfl
                have e228 := hF221 194 1 rfl
                have e229 := hF221 199 0 rfl
                have e230 := hF221 199 1 rfl
                have e231 := hF221 199 2 rfl
                have hF232 := zOn_tr hF209 hF221 zi_13
                have b233 := zv_46_2 hI220 zc_164
                have b234 := zv_46_3 hI220 zc_164
                have b235 := zv_46_5 hI220 zc_164
                have b236 := zv_46_4 hI220 zc_164
                have b237 := zv_46_48 hI220 zc_164
                replace z222 : _ ∧ _ := ⟨z222.1, z222.2 (by omega)⟩
                refine zt_aload_n (pc' := 161) hX dX12_statementTold_160 rfl rfl ?_
                refine zt_get (pc' := 164) (v := .ref (X.1.1 + 199)) hX dX12_statementTold_161 rfl zf_X12_118 (by decide) zc_164 zs_46 (zrf_of (zv_46_44 hI220 zc_164)) ?_
                refine zt_iconst (pc' := 165) hX dX12_statementTold_164 rfl ?_
                refine zt_aload_n (pc' := 166) hX dX12_statementTold_165 rfl rfl ?_
                refine zt_iconst (pc' := 167) hX dX12_statementTold_166 rfl ?_
                refine zt_bipush (pc' := 169) hX dX12_statementTold_167 rfl (by decide) (by decide) ?_
                refine zt_cVi (pc' := 172) hX dX12_statementTold_169 rfl zm_yX12_number zw_26_23 zc_164 (by decide) zs_46 (q := (RX12, TX12, 108)) rfl rfl (zc_X12_number _ _ s217 hI220 0 ⟨by omega, by omega⟩ 100 ⟨by omega, by omega⟩) rfl rfl (Nat.le_of_ble_eq_true rfl) (by decide) (fun r238 s239 hr240 hp241 => ?_)
                obtain ⟨hI242, hF243, q244, q245, z246, z247, z248⟩ := hp241
                have w249 := zwk_q1 hF243
                have e250 := hF243 164 3 rfl
                have e251 := hF243 164 48 rfl
                have e252 := hF243 194 0 rfl
                have e253 := hF243 194 1 rfl
                have e254 := hF243 199 0 rfl
                have e255 := hF243 199 1 rfl
                have e256 := hF243 199 2 rfl
                have hF257 := zOn_tr hF232 hF243 zi_13
                have b258 := zv_46_2 hI242 zc_164
                have b259 := zv_46_3 hI242 zc_164
                have b260 := zv_46_5 hI242 zc_164
                have b261 := zv_46_4 hI242 zc_164
                have b262 := zv_46_48 hI242 zc_164
                replace z246 : _ ∧ _ := ⟨z246.1, z246.2 (by omega)⟩
                clear z248
                refine zt_iast (pc' := 173) hX dX12_statementTold_172 rfl (by decide) zc_199 zs_81 (by decide) ⟨by omega, by omega⟩ ?_
                rw [show Int.toNat 2 = 2 from rfl]
                generalize hs264 : zset s239 199 2 r238 = s263
                have hI265 : zInv s263 := hs264 ▸ zp_81 hI242 zc_199 2 (by omega)
                have hF266 : zOn zQ3 σ s263 := hs264 ▸ zOn_set hF257 (by decide)
                have w267 := zwk_k hs264 (by decide)
                have e268 : s263 164 2 = s239 164 2 := by rw [← hs264]; exact zset_k (zne_r zc_164 zc_199 (by decide))
                have e269 : s263 164 3 = s239 164 3 := by rw [← hs264]; exact zset_k (zne_r zc_164 zc_199 (by decide))
                have e270 : s263 164 5 = s239 164 5 := by rw [← hs264]; exact zset_k (zne_r zc_164 zc_199 (by decide))
                have e271 : s263 164 4 = s239 164 4 := by rw [← hs264]; exact zset_k (zne_r zc_164 zc_199 (by decide))
                have e272 : s263 164 48 = s239 164 48 := by rw [← hs264]; exact zset_k (zne_r zc_164 zc_199 (by decide))
                have e273 : s263 194 0 = s239 194 0 := by rw [← hs264]; exact zset_k (zne_r zc_194 zc_199 (by decide))
                have e274 : s263 194 1 = s239 194 1 := by rw [← hs264]; exact zset_k (zne_r zc_194 zc_199 (by decide))
                have e275 : s263 199 0 = s239 199 0 := by rw [← hs264]; exact zset_j (by decide)
                have e276 : s263 199 1 = s239 199 1 := by rw [← hs264]; exact zset_j (by decide)
                have e277 : s263 199 2 = r238 := by rw [← hs264]; exact zset_s
                refine zt_mask [true, false] rfl ?_
                exact J_173_39 s263 hI265 hF266 (by omega) (by omega) (fun hb => by have qz247 := z247 (by omega); have qz223 := z223 (by omega); clear z247 z223; omega)
              · have qz199 := z199 (by omega)
                clear z199
                refine zt_aload_n (pc' := 137) hX dX12_statementTold_136 rfl rfl ?_
                refine zt_get (pc' := 140) (v := .ref (X.1.1 + 199)) hX dX12_statementTold_137 rfl zf_X12_118 (by decide) zc_164 zs_46 (zrf_of (zv_46_44 hI194 zc_164)) ?_
                refine zt_iconst (pc' := 141) hX dX12_statementTold_140 rfl ?_
                refine zt_aload_n (pc' := 142) hX dX12_statementTold_141 rfl rfl ?_
                refine zt_iconst (pc' := 143) hX dX12_statementTold_142 rfl ?_
                refine zt_bipush (pc' := 145) hX dX12_statementTold_143 rfl (by decide) (by decide) ?_
                refine zt_cVi (pc' := 148) hX dX12_statementTold_145 rfl zm_yX12_number zw_26_23 zc_164 (by decide) zs_46 (q := (RX12, TX12, 108)) rfl rfl (zc_X12_number _ _ s191 hI194 0 ⟨by omega, by omega⟩ 99 ⟨by omega, by omega⟩) rfl rfl (Nat.le_of_ble_eq_true rfl) (by decide) (fun r278 s279 hr280 hp281 => ?_)
                obtain ⟨hI282, hF283, q284, q285, z286, z287, z288⟩ := hp281
                have w289 := zwk_q1 hF283
                have e290 := hF283 164 3 rfl
                have e291 := hF283 164 48 rfl
                have e292 := hF283 194 0 rfl
                have e293 := hF283 194 1 rfl
                have e294 := hF283 199 0 rfl
                have e295 := hF283 199 1 rfl
                have e296 := hF283 199 2 rfl
                have hF297 := zOn_tr hF209 hF283 zi_13
                have b298 := zv_46_2 hI282 zc_164
                have b299 := zv_46_3 hI282 zc_164
                have b300 := zv_46_5 hI282 zc_164
                have b301 := zv_46_4 hI282 zc_164
                have b302 := zv_46_48 hI282 zc_164
                replace z286 : _ ∧ _ := ⟨z286.1, z286.2 (by omega)⟩
                clear z288
                refine zt_iast (pc' := 149) hX dX12_statementTold_148 rfl (by decide) zc_199 zs_81 (by decide) ⟨by omega, by omega⟩ ?_
                rw [show Int.toNat 1 = 1 from rfl]
                generalize hs304 : zset s279 199 1 r278 = s303
                have hI305 : zInv s303 := hs304 ▸ zp_81 hI282 zc_199 1 (by omega)
                have hF306 : zOn zQ3 σ s303 := hs304 ▸ zOn_set hF297 (by decide)
                have w307 := zwk_k hs304 (by decide)
                have e308 : s303 164 2 = s279 164 2 := by rw [← hs304]; exact zset_k (zne_r zc_164 zc_199 (by decide))
                have e309 : s303 164 3 = s279 164 3 := by rw [← hs304]; exact zset_k (zne_r zc_164 zc_199 (by decide))
                have e310 : s303 164 5 = s279 164 5 := by rw [← hs304]; exact zset_k (zne_r zc_164 zc_199 (by decide))
                have e311 : s303 164 4 = s279 164 4 := by rw [← hs304]; exact zset_k (zne_r zc_164 zc_199 (by decide))
                have e312 : s303 164 48 = s279 164 48 := by rw [← hs304]; exact zset_k (zne_r zc_164 zc_199 (by decide))
                have e313 : s303 194 0 = s279 194 0 := by rw [← hs304]; exact zset_k (zne_r zc_194 zc_199 (by decide))
                have e314 : s303 194 1 = s279 194 1 := by rw [← hs304]; exact zset_k (zne_r zc_194 zc_199 (by decide))
                have e315 : s303 199 0 = s279 199 0 := by rw [← hs304]; exact zset_j (by decide)
                have e316 : s303 199 1 = r278 := by rw [← hs304]; exact zset_s
                have e317 : s303 199 2 = s279 199 2 := by rw [← hs304]; exact zset_j (by decide)
                refine zt_goto (tgt := 173) hX dX12_statementTold_149 (by decide) ?_
                refine zt_mask [true, false] rfl ?_
                exact J_173_39 s303 hI305 hF306 (by omega) (by omega) (fun hb => by have qz287 := z287 (by omega); clear z287; omega)
            · have qz173 := z173 (by omega)
              clear z173
              refine zt_aload_n (pc' := 110) hX dX12_statementTold_109 rfl rfl ?_
              refine zt_get (pc' := 113) (v := .ref (X.1.1 + 199)) hX dX12_statementTold_110 rfl zf_X12_118 (by decide) zc_164 zs_46 (zrf_of (zv_46_44 hI168 zc_164)) ?_
              refine zt_iconst (pc' := 114) hX dX12_statementTold_113 rfl ?_
              refine zt_aload_n (pc' := 115) hX dX12_statementTold_114 rfl rfl ?_
              refine zt_iconst (pc' := 116) hX dX12_statementTold_115 rfl ?_
              refine zt_bipush (pc' := 118) hX dX12_statementTold_116 rfl (by decide) (by decide) ?_
              refine zt_cVi (pc' := 121) hX dX12_statementTold_118 rfl zm_yX12_number zw_26_23 zc_164 (by decide) zs_46 (q := (RX12, TX12, 108)) rfl rfl (zc_X12_number _ _ s165 hI168 0 ⟨by omega, by omega⟩ 99 ⟨by omega, by omega⟩) rfl rfl (Nat.le_of_ble_eq_true rfl) (by decide) (fun r318 s319 hr320 hp321 => ?_)
              obtain ⟨hI322, hF323, q324, q325, z326, z327, z328⟩ := hp321
              have w329 := zwk_q1 hF323
              have e330 := hF323 164 3 rfl
              have e331 := hF323 164 48 rfl
              have e332 := hF323 194 0 rfl
              have e333 := hF323 194 1 rfl
              have e334 := hF323 199 0 rfl
              have e335 := hF323 199 1 rfl
              have e336 := hF323 199 2 rfl
              have hF337 := zOn_tr hF183 hF323 zi_13
              have b338 := zv_46_2 hI322 zc_164
              have b339 := zv_46_3 hI322 zc_164
              have b340 := zv_46_5 hI322 zc_164
              have b341 := zv_46_4 hI322 zc_164
              have b342 := zv_46_48 hI322 zc_164
              replace z326 : _ ∧ _ := ⟨z326.1, z326.2 (by omega)⟩
              clear z328
              refine zt_iast (pc' := 122) hX dX12_statementTold_121 rfl (by decide) zc_199 zs_81 (by decide) ⟨by omega, by omega⟩ ?_
              rw [show Int.toNat 0 = 0 from rfl]
              generalize hs344 : zset s319 199 0 r318 = s343
              have hI345 : zInv s343 := hs344 ▸ zp_81 hI322 zc_199 0 (by omega)
              have hF346 : zOn zQ3 σ s343 := hs344 ▸ zOn_set hF337 (by decide)
              have w347 := zwk_k hs344 (by decide)
              have e348 : s343 164 2 = s319 164 2 := by rw [← hs344]; exact zset_k (zne_r zc_164 zc_199 (by decide))
              have e349 : s343 164 3 = s319 164 3 := by rw [← hs344]; exact zset_k (zne_r zc_164 zc_199 (by decide))
              have e350 : s343 164 5 = s319 164 5 := by rw [← hs344]; exact zset_k (zne_r zc_164 zc_199 (by decide))
              have e351 : s343 164 4 = s319 164 4 := by rw [← hs344]; exact zset_k (zne_r zc_164 zc_199 (by decide))
              have e352 : s343 164 48 = s319 164 48 := by rw [← hs344]; exact zset_k (zne_r zc_164 zc_199 (by decide))
              have e353 : s343 194 0 = s319 194 0 := by rw [← hs344]; exact zset_k (zne_r zc_194 zc_199 (by decide))
              have e354 : s343 194 1 = s319 194 1 := by rw [← hs344]; exact zset_k (zne_r zc_194 zc_199 (by decide))
              have e355 : s343 199 0 = r318 := by rw [← hs344]; exact zset_s
              have e356 : s343 199 1 = s319 199 1 := by rw [← hs344]; exact zset_j (by decide)
              have e357 : s343 199 2 = s319 199 2 := by rw [← hs344]; exact zset_j (by decide)
              refine zt_goto (tgt := 173) hX dX12_statementTold_122 (by decide) ?_
              refine zt_mask [true, false] rfl ?_
              exact J_173_39 s343 hI345 hF346 (by omega) (by omega) (fun hb => by have qz327 := z327 (by omega); clear z327; omega)
          · have qz147 := z147 (by omega)
            clear z147
            refine zt_aload_n (pc' := 90) hX dX12_statementTold_89 rfl rfl ?_
            refine zt_iconst (pc' := 91) hX dX12_statementTold_90 rfl ?_
            refine zt_iload_n (pc' := 92) hX dX12_statementTold_91 rfl rfl ?_
            refine zt_cVv (pc' := 95) hX dX12_statementTold_92 rfl zm_yX12_codesTold zw_28_21 zc_164 (by decide) zs_46 (q := (RX12, TX12, 108)) rfl rfl (zc_X12_codesTold_1 _ _ s139 hI142 (σ 164 2) ⟨by omega, by omega⟩ (by omega) (by omega) (by omega) (by omega)) rfl rfl (Nat.le_of_ble_eq_true rfl) (by decide) (fun r358 s359 hr360 hp361 => ?_)
            obtain ⟨hI362, hF363, z364, z365, z366⟩ := hp361
            have e367 := hF363 164 3 rfl
            have e368 := hF363 194 0 rfl
            have e369 := hF363 194 1 rfl
            have e370 := hF363 199 0 rfl
            have e371 := hF363 199 1 rfl
            have e372 := hF363 199 2 rfl
            have hF373 := zOn_tr hF157 hF363 zi_63
            have b374 := zv_46_2 hI362 zc_164
            have b375 := zv_46_3 hI362 zc_164
            have b376 := zv_46_5 hI362 zc_164
            have b377 := zv_46_4 hI362 zc_164
            have b378 := zv_46_48 hI362 zc_164
            refine zt_goto (tgt := 173) hX dX12_statementTold_95 (by decide) ?_
            refine zt_mask [true, false] rfl ?_
            exact J_173_39 s359 hI362 hF373 (by omega) (by omega) (fun hb => by have qz366 := z366 (by omega); clear z366; omega)
        · have qz121 := z121 (by omega)
          clear z121
          refine zt_aload_n (pc' := 70) hX dX12_statementTold_69 rfl rfl ?_
          refine zt_iconst (pc' := 71) hX dX12_statementTold_70 rfl ?_
          refine zt_iload_n (pc' := 72) hX dX12_statementTold_71 rfl rfl ?_
          refine zt_cVv (pc' := 75) hX dX12_statementTold_72 rfl zm_yX12_codesTold zw_28_21 zc_164 (by decide) zs_46 (q := (RX12, TX12, 108)) rfl rfl (zc_X12_codesTold_0 _ _ s113 hI116 (σ 164 2) ⟨by omega, by omega⟩ (by omega) (by omega) (by omega) (by omega)) rfl rfl (Nat.le_of_ble_eq_true rfl) (by decide) (fun r379 s380 hr381 hp382 => ?_)
          obtain ⟨hI383, hF384, z385, z386, z387⟩ := hp382
          have e388 := hF384 164 3 rfl
          have e389 := hF384 194 0 rfl
          have e390 := hF384 194 1 rfl
          have e391 := hF384 199 0 rfl
          have e392 := hF384 199 1 rfl
          have e393 := hF384 199 2 rfl
          have hF394 := zOn_tr hF131 hF384 zi_63
          have b395 := zv_46_2 hI383 zc_164
          have b396 := zv_46_3 hI383 zc_164
          have b397 := zv_46_5 hI383 zc_164
          have b398 := zv_46_4 hI383 zc_164
          have b399 := zv_46_48 hI383 zc_164
          refine zt_goto (tgt := 173) hX dX12_statementTold_75 (by decide) ?_
          refine zt_mask [true, false] rfl ?_
          exact J_173_39 s380 hI383 hF394 (by omega) (by omega) (fun hb => by have qz387 := z387 (by omega); clear z387; omega)
      · have qz95 := z95 (by omega)
        clear z95
        refine zt_aload_n (pc' := 51) hX dX12_statementTold_50 rfl rfl ?_
        refine zt_iload_n (pc' := 52) hX dX12_statementTold_51 rfl rfl ?_
        refine zt_cVv (pc' := 55) hX dX12_statementTold_52 rfl zm_yX12_poleTold zw_28_6 zc_164 (by decide) zs_46 (q := (RX12, TX12, 108)) rfl rfl (zc_X12_poleTold _ _ s87 hI90 (σ 164 2) ⟨by omega, by omega⟩ (by omega)) rfl rfl (Nat.le_of_ble_eq_true rfl) (by decide) (fun r400 s401 hr402 hp403 => ?_)
        obtain ⟨hI404, hF405, z406, z407⟩ := hp403
        have w408 := zwk_q4 hF405
        have e409 := hF405 164 3 rfl
        have e410 := hF405 164 48 rfl
        have e411 := hF405 194 0 rfl
        have e412 := hF405 194 1 rfl
        have e413 := hF405 199 0 rfl
        have e414 := hF405 199 1 rfl
        have e415 := hF405 199 2 rfl
        have hF416 := zOn_tr hF105 hF405 zi_43
        have b417 := zv_46_2 hI404 zc_164
        have b418 := zv_46_3 hI404 zc_164
        have b419 := zv_46_5 hI404 zc_164
        have b420 := zv_46_4 hI404 zc_164
        have b421 := zv_46_48 hI404 zc_164
        replace z406 : _ ∧ _ := ⟨z406.1, z406.2 (by omega)⟩
        refine zt_goto (tgt := 173) hX dX12_statementTold_55 (by decide) ?_
        refine zt_mask [true, false] rfl ?_
        exact J_173_39 s401 hI404 hF416 (by omega) (by omega) (fun hb => by have qz407 := z407 (by omega); clear z407; omega)
    · have qz18 := z18 (by omega)
      clear z18
      refine zt_aload_n (pc' := 33) hX dX12_statementTold_32 rfl rfl ?_
      refine zt_cVv (pc' := 36) hX dX12_statementTold_33 rfl zm_yX12_heavyTold zw_27_22 zc_164 (by decide) zs_46 (q := (RX12, TX12, 108)) rfl rfl (zc_X12_heavyTold _ _ s10 hI13 (by omega)) rfl rfl (Nat.le_of_ble_eq_true rfl) (by decide) (fun r422 s423 hr424 hp425 => ?_)
      obtain ⟨hI426, hF427, z428, z429⟩ := hp425
      have w430 := zwk_q4 hF427
      have e431 := hF427 164 3 rfl
      have e432 := hF427 164 48 rfl
      have e433 := hF427 194 0 rfl
      have e434 := hF427 194 1 rfl
      have e435 := hF427 199 0 rfl
      have e436 := hF427 199 1 rfl
      have e437 := hF427 199 2 rfl
      have hF438 := zOn_tr hF28 hF427 zi_43
      have b439 := zv_46_2 hI426 zc_164
      have b440 := zv_46_3 hI426 zc_164
      have b441 := zv_46_5 hI426 zc_164
      have b442 := zv_46_4 hI426 zc_164
      have b443 := zv_46_48 hI426 zc_164
      replace z428 : _ ∧ _ := ⟨z428.1, z428.2 (by omega)⟩
      refine zt_goto (tgt := 173) hX dX12_statementTold_36 (by decide) ?_
      refine zt_mask [true, false] rfl ?_
      exact J_173_39 s423 hI426 hF438 (by omega) (by omega) (fun hb => by have qz429 := z429 (by omega); clear z429; omega)
  · refine zt_aload_n (pc' := 15) hX dX12_statementTold_14 rfl rfl ?_
    refine zt_iconst (pc' := 16) hX dX12_statementTold_15 rfl ?_
    refine zt_iload_n (pc' := 17) hX dX12_statementTold_16 rfl rfl ?_
    refine zt_cVv (pc' := 20) hX dX12_statementTold_17 rfl zm_yX12_fail zw_26_19 zc_164 (by decide) zs_46 (q := (RX12, TX12, 108)) rfl rfl (zc_X12_fail _ _ σ hI 5 ⟨by omega, by omega⟩ (σ 164 2) ⟨by omega, by omega⟩) rfl rfl (Nat.le_of_ble_eq_true rfl) (by decide) (fun r444 s445 hr446 hp447 => ?_)
    obtain ⟨hI448, hF449, z450, z451⟩ := hp447
    have w452 := zwk_q1 hF449
    have e453 := hF449 164 3 rfl
    have e454 := hF449 164 48 rfl
    have e455 := hF449 194 0 rfl
    have e456 := hF449 194 1 rfl
    have e457 := hF449 199 0 rfl
    have e458 := hF449 199 1 rfl
    have e459 := hF449 199 2 rfl
    have hF460 := zOn_tr hF hF449 zi_13
    have b461 := zv_46_2 hI448 zc_164
    have b462 := zv_46_3 hI448 zc_164
    have b463 := zv_46_5 hI448 zc_164
    have b464 := zv_46_4 hI448 zc_164
    have b465 := zv_46_48 hI448 zc_164
    exact zt_vret hX hR dX12_statementTold_20 ⟨hI448, hF460, by omega, by omega, (fun hb => by omega)⟩

set_option maxRecDepth 100000 in
set_option maxHeartbeats 2000000 in
theorem zc_X12_stands (l : Launch) (E : zEN) (σ : zSto) (hI : zInv σ) (hpre0 : (2 ≤ σ 194 0 ∧ σ 194 0 ≤ 6 ∧ 2 ≤ σ 194 1 ∧ σ 194 1 ≤ 6)) (hpre1 : (0 ≤ σ 199 0 ∧ σ 199 0 ≤ 100 ∧ 0 ≤ σ 199 1 ∧ σ 199 1 ≤ 100 ∧ 0 ≤ σ 199 2 ∧ σ 199 2 ≤ 100)) (hpre2 : σ 164 48 ≤ 1600) (hpre3 : zwk σ = 1) : zCt l E yX12_stands cX12_stands 2 none 0 zNC zNC 0 0 σ [.ref (E.1 + 164)] (fun r σ' => zInv σ' ∧ zFN σ σ' ∧ (zwf σ' = 1) ∧ (σ' 164 54 = σ 164 54)) := by
  refine zCt_of2 [some (.ref (E.1 + 164)), none] (by decide +kernel) (Nat.le_of_ble_eq_true rfl) rfl ?_
  intro X hE hX hR hL hN
  subst hE
  have hX : zok X cX12_stands RX12 0 := hX
  have hF := zFN_rf σ
  have hws := zwz_rf σ
  have b1 := zv_82 hI zc_200 0
  have b2 := zv_82 hI zc_200 1
  have b3 := zv_82 hI zc_200 2
  have b4 := zv_82 hI zc_200 3
  have b5 := zv_83 hI zc_201 0
  have b6 := zv_83 hI zc_201 1
  have b7 := zv_83 hI zc_201 2
  have b8 := zv_83 hI zc_201 3
  have b9 := zv_46_48 hI zc_164
  have b10 := zv_46_54 hI zc_164
  refine zt_aload_n (pc' := 1) hX dX12_stands_0 rfl rfl ?_
  refine zt_iconst (pc' := 2) hX dX12_stands_1 rfl ?_
  refine zt_put (pc' := 5) (x := 1) hX dX12_stands_2 rfl zf_X12_375 (by decide) zc_164 zs_46 (fun q hq => by cases hq; rfl) rfl (zfit_z (by omega) (by omega)).1 (zfit_z (by omega) (by omega)).2 ?_
  generalize hs12 : zset σ 164 50 1 = s11
  have hI13 : zInv s11 := hs12 ▸ zp_46_50 hI zc_164 ⟨by omega, by omega⟩
  have hF14 : zFN σ s11 := hs12 ▸ zFN_set hF zc_164 (by decide) zk_46
  have w15 := zwz_set (σ := σ) hs12 (by omega) (by omega)
  have e16 : s11 200 0 = σ 200 0 := by rw [← hs12]; exact zset_k (zne_r zc_200 zc_164 (by decide))
  have e17 : s11 200 1 = σ 200 1 := by rw [← hs12]; exact zset_k (zne_r zc_200 zc_164 (by decide))
  have e18 : s11 200 2 = σ 200 2 := by rw [← hs12]; exact zset_k (zne_r zc_200 zc_164 (by decide))
  have e19 : s11 200 3 = σ 200 3 := by rw [← hs12]; exact zset_k (zne_r zc_200 zc_164 (by decide))
  have e20 : s11 201 0 = σ 201 0 := by rw [← hs12]; exact zset_k (zne_r zc_201 zc_164 (by decide))
  have e21 : s11 201 1 = σ 201 1 := by rw [← hs12]; exact zset_k (zne_r zc_201 zc_164 (by decide))
  have e22 : s11 201 2 = σ 201 2 := by rw [← hs12]; exact zset_k (zne_r zc_201 zc_164 (by decide))
  have e23 : s11 201 3 = σ 201 3 := by rw [← hs12]; exact zset_k (zne_r zc_201 zc_164 (by decide))
  have e24 : s11 194 0 = σ 194 0 := by rw [← hs12]; exact zset_k (zne_r zc_194 zc_164 (by decide))
  have e25 : s11 194 1 = σ 194 1 := by rw [← hs12]; exact zset_k (zne_r zc_194 zc_164 (by decide))
  have e26 : s11 194 3 = σ 194 3 := by rw [← hs12]; exact zset_k (zne_r zc_194 zc_164 (by decide))
  have e27 : s11 194 4 = σ 194 4 := by rw [← hs12]; exact zset_k (zne_r zc_194 zc_164 (by decide))
  have e28 : s11 164 48 = σ 164 48 := by rw [← hs12]; exact zset_j (by decide)
  have e29 : s11 164 54 = σ 164 54 := by rw [← hs12]; exact zset_j (by decide)
  refine zt_aload_n (pc' := 6) hX dX12_stands_5 rfl rfl ?_
  refine zt_get (pc' := 9) (v := .ref (X.1.1 + 195)) hX dX12_stands_6 rfl zf_X12_105 (by decide) zc_164 zs_46 (zrf_of (zv_46_40 hI13 zc_164)) ?_
  refine zt_iconst (pc' := 10) hX dX12_stands_9 rfl ?_
  refine zt_aload_n (pc' := 11) hX dX12_stands_10 rfl rfl ?_
  refine zt_get (pc' := 14) (v := .ref (X.1.1 + 195)) hX dX12_stands_11 rfl zf_X12_105 (by decide) zc_164 zs_46 (zrf_of (zv_46_40 hI13 zc_164)) ?_
  refine zt_iconst (pc' := 15) hX dX12_stands_14 rfl ?_
  refine zt_iald (pc' := 16) hX dX12_stands_15 rfl (by decide) zc_195 zs_77 (by decide) ⟨by omega, by omega⟩ ?_
  rw [show Int.toNat 0 = 0 from rfl]
  have b31 := zv_77 hI13 zc_195 0
  have e32 : s11 195 0 = σ 195 0 := by rw [← hs12]; exact zset_k (zne_r zc_195 zc_164 (by decide))
  refine zt_iast (pc' := 17) hX dX12_stands_16 rfl (by decide) zc_195 zs_77 (by decide) ⟨by omega, by omega⟩ ?_
  rw [show Int.toNat 1 = 1 from rfl]
  generalize hs34 : zset s11 195 1 (s11 195 0) = s33
  have hI35 : zInv s33 := hs34 ▸ zp_77 hI13 zc_195 1 ⟨by omega, by omega⟩
  have hF36 : zFN σ s33 := hs34 ▸ zFN_set hF14 zc_195 (by decide) zk_77
  have w37 := zwz_set (σ := σ) hs34 (by omega) (by omega)
  have e38 : s33 200 0 = s11 200 0 := by rw [← hs34]; exact zset_k (zne_r zc_200 zc_195 (by decide))
  have e39 : s33 200 1 = s11 200 1 := by rw [← hs34]; exact zset_k (zne_r zc_200 zc_195 (by decide))
  have e40 : s33 200 2 = s11 200 2 := by rw [← hs34]; exact zset_k (zne_r zc_200 zc_195 (by decide))
  have e41 : s33 200 3 = s11 200 3 := by rw [← hs34]; exact zset_k (zne_r zc_200 zc_195 (by decide))
  have e42 : s33 201 0 = s11 201 0 := by rw [← hs34]; exact zset_k (zne_r zc_201 zc_195 (by decide))
  have e43 : s33 201 1 = s11 201 1 := by rw [← hs34]; exact zset_k (zne_r zc_201 zc_195 (by decide))
  have e44 : s33 201 2 = s11 201 2 := by rw [← hs34]; exact zset_k (zne_r zc_201 zc_195 (by decide))
  have e45 : s33 201 3 = s11 201 3 := by rw [← hs34]; exact zset_k (zne_r zc_201 zc_195 (by decide))
  have e46 : s33 194 0 = s11 194 0 := by rw [← hs34]; exact zset_k (zne_r zc_194 zc_195 (by decide))
  have e47 : s33 194 1 = s11 194 1 := by rw [← hs34]; exact zset_k (zne_r zc_194 zc_195 (by decide))
  have e48 : s33 194 3 = s11 194 3 := by rw [← hs34]; exact zset_k (zne_r zc_194 zc_195 (by decide))
  have e49 : s33 194 4 = s11 194 4 := by rw [← hs34]; exact zset_k (zne_r zc_194 zc_195 (by decide))
  have e50 : s33 164 48 = s11 164 48 := by rw [← hs34]; exact zset_k (zne_r zc_164 zc_195 (by decide))
  have e51 : s33 164 54 = s11 164 54 := by rw [← hs34]; exact zset_k (zne_r zc_164 zc_195 (by decide))
  refine zt_iconst (pc' := 18) hX dX12_stands_17 rfl ?_
  refine zt_istore_n (pc' := 19) (lv' := [some (.ref (X.1.1 + 164)), some (.int (zI 0))]) hX dX12_stands_18 rfl hL (by decide) rfl ?_
  have L_19_60 : ∀ (N : Nat) (x52 : Int) (s55 : zSto), 0 ≤ x52 → x52 ≤ 3 → zInv s55 → zFN σ s55 → (1 ≤ x52 → s55 194 3 = s55 194 0) → (2 ≤ x52 → s55 194 4 = s55 194 1) → zwz σ s55 = 1 → ((4 - x52).toNat) < N → zF X s55 19 [some (.ref (X.1.1 + 164)), some (.int (zI x52))] [] := by
    intro N
    induction N with
    | zero =>
      intro x52 s55 h53 h54 hI56 hF57 g58 g59 g60 hm62
      exact absurd hm62 (Nat.not_lt_zero _)
    | succ N ih63 =>
      intro x52 s55 h53 h54 hI56 hF57 g58 g59 g60 hm62
      have b64 := zv_82 hI56 zc_200 0
      have b65 := zv_82 hI56 zc_200 1
      have b66 := zv_82 hI56 zc_200 2
      have b67 := zv_82 hI56 zc_200 3
      have b68 := zv_83 hI56 zc_201 0
      have b69 := zv_83 hI56 zc_201 1
      have b70 := zv_83 hI56 zc_201 2
      have b71 := zv_83 hI56 zc_201 3
      have b72 := zv_46_48 hI56 zc_164
      have b73 := zv_46_54 hI56 zc_164
      refine zt_iload_n (pc' := 20) hX dX12_stands_19 rfl rfl ?_
      refine zt_iconst (pc' := 21) hX dX12_stands_20 rfl ?_
      refine zt_icge (pc' := 24) (tgt := 58) hX dX12_stands_21 rfl (by decide) ⟨by omega, by omega⟩ ⟨by omega, by omega⟩ (fun c74 => ?_) (fun c74 => ?_)
      · refine zt_iconst (pc' := 59) hX dX12_stands_58 rfl ?_
        refine zt_istore_n (pc' := 60) (lv' := [some (.ref (X.1.1 + 164)), some (.int (zI 0))]) hX dX12_stands_59 rfl hL (by decide) rfl ?_
        have L_60_84 : ∀ (N : Nat) (x75 : Int) (s78 : zSto), 0 ≤ x75 → x75 ≤ 2 → zInv s78 → zFN σ s78 → (s78 194 3 = s78 194 0 ∧ s78 194 4 = s78 194 1) → (1 ≤ x75 → s78 200 2 = s78 200 0 ∧ s78 201 2 = s78 201 0) → (2 ≤ x75 → s78 200 3 = s78 200 1 ∧ s78 201 3 = s78 201 1) → zwz σ s78 = 1 → ((3 - x75).toNat) < N → zF X s78 60 [some (.ref (X.1.1 + 164)), some (.int (zI x75))] [] := by
          intro N
          induction N with
          | zero =>
            intro x75 s78 h76 h77 hI79 hF80 g81 g82 g83 g84 hm86
            exact absurd hm86 (Nat.not_lt_zero _)
          | succ N ih87 =>
            intro x75 s78 h76 h77 hI79 hF80 g81 g82 g83 g84 hm86
            have b88 := zv_82 hI79 zc_200 0
            have b89 := zv_82 hI79 zc_200 1
            have b90 := zv_82 hI79 zc_200 2
            have b91 := zv_82 hI79 zc_200 3
            have b92 := zv_83 hI79 zc_201 0
            have b93 := zv_83 hI79 zc_201 1
            have b94 := zv_83 hI79 zc_201 2
            have b95 := zv_83 hI79 zc_201 3
            have b96 := zv_46_48 hI79 zc_164
            have b97 := zv_46_54 hI79 zc_164
            refine zt_iload_n (pc' := 61) hX dX12_stands_60 rfl rfl ?_
            refine zt_iconst (pc' := 62) hX dX12_stands_61 rfl ?_
            refine zt_icge (pc' := 65) (tgt := 99) hX dX12_stands_62 rfl (by decide) ⟨by omega, by omega⟩ ⟨by omega, by omega⟩ (fun c98 => ?_) (fun c98 => ?_)
            · refine zt_iconst (pc' := 100) hX dX12_stands_99 rfl ?_
              refine zt_istore_n (pc' := 101) (lv' := [some (.ref (X.1.1 + 164)), some (.int (zI 0))]) hX dX12_stands_100 rfl hL (by decide) rfl ?_
              have L_101_108 : ∀ (N : Nat) (x99 : Int) (s102 : zSto), 0 ≤ x99 → x99 ≤ 10 → zInv s102 → zFN σ s102 → (s102 194 3 = s102 194 0 ∧ s102 194 4 = s102 194 1) → (s102 200 2 = s102 200 0 ∧ s102 201 2 = s102 201 0) → (s102 200 3 = s102 200 1 ∧ s102 201 3 = s102 201 1) → zwz σ s102 = 1 → ((11 - x99).toNat) < N → zF X s102 101 [some (.ref (X.1.1 + 164)), some (.int (zI x99))] [] := by
                intro N
                induction N with
                | zero =>
                  intro x99 s102 h100 h101 hI103 hF104 g105 g106 g107 g108 hm110
                  exact absurd hm110 (Nat.not_lt_zero _)
                | succ N ih111 =>
                  intro x99 s102 h100 h101 hI103 hF104 g105 g106 g107 g108 hm110
                  have b112 := zv_82 hI103 zc_200 0
                  have b113 := zv_82 hI103 zc_200 1
                  have b114 := zv_82 hI103 zc_200 2
                  have b115 := zv_82 hI103 zc_200 3
                  have b116 := zv_83 hI103 zc_201 0
                  have b117 := zv_83 hI103 zc_201 1
                  have b118 := zv_83 hI103 zc_201 2
                  have b119 := zv_83 hI103 zc_201 3
                  have b120 := zv_46_48 hI103 zc_164
                  have b121 := zv_46_54 hI103 zc_164
                  refine zt_iload_n (pc' := 102) hX dX12_stands_101 rfl rfl ?_
                  refine zt_bipush (pc' := 104) hX dX12_stands_102 rfl (by decide) (by decide) ?_
                  refine zt_icge (pc' := 107) (tgt := 128) hX dX12_stands_104 rfl (by decide) ⟨by omega, by omega⟩ ⟨by omega, by omega⟩ (fun c122 => ?_) (fun c122 => ?_)
                  · refine zt_iconst (pc' := 129) hX dX12_stands_128 rfl ?_
                    refine zt_istore_n (pc' := 130) (lv' := [some (.ref (X.1.1 + 164)), some (.int (zI 0))]) hX dX12_stands_129 rfl hL (by decide) rfl ?_
                    have L_130_132 : ∀ (N : Nat) (x123 : Int) (s126 : zSto), 0 ≤ x123 → x123 ≤ 36 → zInv s126 → zFN σ s126 → (s126 194 3 = s126 194 0 ∧ s126 194 4 = s126 194 1) → (s126 200 2 = s126 200 0 ∧ s126 201 2 = s126 201 0) → (s126 200 3 = s126 200 1 ∧ s126 201 3 = s126 201 1) → zwz σ s126 = 1 → ((37 - x123).toNat) < N → zF X s126 130 [some (.ref (X.1.1 + 164)), some (.int (zI x123))] [] := by
                      intro N
                      induction N with
                      | zero =>
                        intro x123 s126 h124 h125 hI127 hF128 g129 g130 g131 g132 hm134
                        exact absurd hm134 (Nat.not_lt_zero _)
                      | succ N ih135 =>
                        intro x123 s126 h124 h125 hI127 hF128 g129 g130 g131 g132 hm134
                        have b136 := zv_82 hI127 zc_200 0
                        have b137 := zv_82 hI127 zc_200 1
                        have b138 := zv_82 hI127 zc_200 2
                        have b139 := zv_82 hI127 zc_200 3
                        have b140 := zv_83 hI127 zc_201 0
                        have b141 := zv_83 hI127 zc_201 1
                        have b142 := zv_83 hI127 zc_201 2
                        have b143 := zv_83 hI127 zc_201 3
                        have b144 := zv_46_48 hI127 zc_164
                        have b145 := zv_46_54 hI127 zc_164
                        refine zt_iload_n (pc' := 131) hX dX12_stands_130 rfl rfl ?_
                        refine zt_bipush (pc' := 133) hX dX12_stands_131 rfl (by decide) (by decide) ?_
                        refine zt_icge (pc' := 136) (tgt := 157) hX dX12_stands_133 rfl (by decide) ⟨by omega, by omega⟩ ⟨by omega, by omega⟩ (fun c146 => ?_) (fun c146 => ?_)
                        · refine zt_iconst (pc' := 158) hX dX12_stands_157 rfl ?_
                          refine zt_istore_n (pc' := 159) (lv' := [some (.ref (X.1.1 + 164)), some (.int (zI 0))]) hX dX12_stands_158 rfl hL (by decide) rfl ?_
                          have L_159_156 : ∀ (N : Nat) (x147 : Int) (s150 : zSto), 0 ≤ x147 → x147 ≤ 20 → zInv s150 → zFN σ s150 → (s150 194 3 = s150 194 0 ∧ s150 194 4 = s150 194 1) → (s150 200 2 = s150 200 0 ∧ s150 201 2 = s150 201 0) → (s150 200 3 = s150 200 1 ∧ s150 201 3 = s150 201 1) → zwz σ s150 = 1 → ((21 - x147).toNat) < N → zF X s150 159 [some (.ref (X.1.1 + 164)), some (.int (zI x147))] [] := by
                            intro N
                            induction N with
                            | zero =>
                              intro x147 s150 h148 h149 hI151 hF152 g153 g154 g155 g156 hm158
                              exact absurd hm158 (Nat.not_lt_zero _)
                            | succ N ih159 =>
                              intro x147 s150 h148 h149 hI151 hF152 g153 g154 g155 g156 hm158
                              have b160 := zv_82 hI151 zc_200 0
                              have b161 := zv_82 hI151 zc_200 1
                              have b162 := zv_82 hI151 zc_200 2
                              have b163 := zv_82 hI151 zc_200 3
                              have b164 := zv_83 hI151 zc_201 0
                              have b165 := zv_83 hI151 zc_201 1
                              have b166 := zv_83 hI151 zc_201 2
                              have b167 := zv_83 hI151 zc_201 3
                              have b168 := zv_46_48 hI151 zc_164
                              have b169 := zv_46_54 hI151 zc_164
                              refine zt_iload_n (pc' := 160) hX dX12_stands_159 rfl rfl ?_
                              refine zt_bipush (pc' := 162) hX dX12_stands_160 rfl (by decide) (by decide) ?_
                              refine zt_icge (pc' := 165) (tgt := 186) hX dX12_stands_162 rfl (by decide) ⟨by omega, by omega⟩ ⟨by omega, by omega⟩ (fun c170 => ?_) (fun c170 => ?_)
                              · refine zt_iconst (pc' := 187) hX dX12_stands_186 rfl ?_
                                refine zt_istore_n (pc' := 188) (lv' := [some (.ref (X.1.1 + 164)), some (.int (zI 0))]) hX dX12_stands_187 rfl hL (by decide) rfl ?_
                                have h171 := zcz_0 s150
                                have h171f := zwz_f (σ := σ) (s := s150) (by omega)
                                have L_188_184 : ∀ (N : Nat) (x172 : Int) (s175 : zSto), 0 ≤ x172 → x172 ≤ 3200 → zInv s175 → zFN σ s175 → (s175 194 3 = s175 194 0 ∧ s175 194 4 = s175 194 1) → (s175 200 2 = s175 200 0 ∧ s175 201 2 = s175 201 0) → (s175 200 3 = s175 200 1 ∧ s175 201 3 = s175 201 1) → zcz s175 x172 = 1 → x172 ≤ s175 164 48 → s175 164 48 ≤ 1600 → zwz σ s175 = 1 → ((3201 - x172).toNat) < N → zF X s175 188 [some (.ref (X.1.1 + 164)), some (.int (zI x172))] [] := by
                                  intro N
                                  induction N with
                                  | zero =>
                                    intro x172 s175 h173 h174 hI176 hF177 g178 g179 g180 g181 g182 g183 g184 hm186
                                    exact absurd hm186 (Nat.not_lt_zero _)
                                  | succ N ih187 =>
                                    intro x172 s175 h173 h174 hI176 hF177 g178 g179 g180 g181 g182 g183 g184 hm186
                                    have b188 := zv_82 hI176 zc_200 0
                                    have b189 := zv_82 hI176 zc_200 1
                                    have b190 := zv_82 hI176 zc_200 2
                                    have b191 := zv_82 hI176 zc_200 3
                                    have b192 := zv_83 hI176 zc_201 0
                                    have b193 := zv_83 hI176 zc_201 1
                                    have b194 := zv_83 hI176 zc_201 2
                                    have b195 := zv_83 hI176 zc_201 3
                                    have b196 := zv_46_48 hI176 zc_164
                                    have b197 := zv_46_54 hI176 zc_164
                                    refine zt_iload_n (pc' := 189) hX dX12_stands_188 rfl rfl ?_
                                    refine zt_aload_n (pc' := 190) hX dX12_stands_189 rfl rfl ?_
                                    have b198 := zv_46_48 hI176 zc_164
                                    refine zt_get (pc' := 193) (v := .int (zI (s175 164 48))) hX dX12_stands_190 rfl zf_X12_348 (by decide) zc_164 zs_46 rfl ?_
                                    refine zt_icge (pc' := 196) (tgt := 218) hX dX12_stands_193 rfl (by decide) ⟨by omega, by omega⟩ ⟨by omega, by omega⟩ (fun c199 => ?_) (fun c199 => ?_)
                                    · refine zt_iconst (pc' := 219) hX dX12_stands_218 rfl ?_
                                      have h200f := zwz_f (σ := σ) (s := s175) (by omega)
                                      have h200 := zwf_st (σ := σ) (s := s175) (k := x172) hpre3 (by omega) (by omega) (by omega) (by omega) (by omega) (by omega) (by omega) ⟨by omega, by omega⟩ (by omega)
                                      refine zt_istore_n (pc' := 220) (lv' := [some (.ref (X.1.1 + 164)), some (.int (zI 0))]) hX dX12_stands_219 rfl hL (by decide) rfl ?_
                                      have L_220_208 : ∀ (N : Nat) (x201 : Int) (s204 : zSto), 0 ≤ x201 → x201 ≤ 188 → zInv s204 → zFN σ s204 → zwf s204 = 1 → zwz σ s204 = 1 → ((189 - x201).toNat) < N → zF X s204 220 [some (.ref (X.1.1 + 164)), some (.int (zI x201))] [] := by
                                        intro N
                                        induction N with
                                        | zero =>
                                          intro x201 s204 h202 h203 hI205 hF206 g207 g208 hm210
                                          exact absurd hm210 (Nat.not_lt_zero _)
                                        | succ N ih211 =>
                                          intro x201 s204 h202 h203 hI205 hF206 g207 g208 hm210
                                          have b212 := zv_82 hI205 zc_200 0
                                          have b213 := zv_82 hI205 zc_200 1
                                          have b214 := zv_82 hI205 zc_200 2
                                          have b215 := zv_82 hI205 zc_200 3
                                          have b216 := zv_83 hI205 zc_201 0
                                          have b217 := zv_83 hI205 zc_201 1
                                          have b218 := zv_83 hI205 zc_201 2
                                          have b219 := zv_83 hI205 zc_201 3
                                          have b220 := zv_46_48 hI205 zc_164
                                          have b221 := zv_46_54 hI205 zc_164
                                          refine zt_iload_n (pc' := 221) hX dX12_stands_220 rfl rfl ?_
                                          refine zt_sipush (pc' := 224) hX dX12_stands_221 rfl (by decide) (by decide) ?_
                                          refine zt_icge (pc' := 227) (tgt := 240) hX dX12_stands_224 rfl (by decide) ⟨by omega, by omega⟩ ⟨by omega, by omega⟩ (fun c222 => ?_) (fun c222 => ?_)
                                          · refine zt_iconst (pc' := 241) hX dX12_stands_240 rfl ?_
                                            refine zt_istore_n (pc' := 242) (lv' := [some (.ref (X.1.1 + 164)), some (.int (zI 0))]) hX dX12_stands_241 rfl hL (by decide) rfl ?_
                                            have L_242_230 : ∀ (N : Nat) (x223 : Int) (s226 : zSto), 0 ≤ x223 → x223 ≤ 10 → zInv s226 → zFN σ s226 → zwf s226 = 1 → zwz σ s226 = 1 → ((11 - x223).toNat) < N → zF X s226 242 [some (.ref (X.1.1 + 164)), some (.int (zI x223))] [] := by
                                              intro N
                                              induction N with
                                              | zero =>
                                                intro x223 s226 h224 h225 hI227 hF228 g229 g230 hm232
                                                exact absurd hm232 (Nat.not_lt_zero _)
                                              | succ N ih233 =>
                                                intro x223 s226 h224 h225 hI227 hF228 g229 g230 hm232
                                                have b234 := zv_82 hI227 zc_200 0
                                                have b235 := zv_82 hI227 zc_200 1
                                                have b236 := zv_82 hI227 zc_200 2
                                                have b237 := zv_82 hI227 zc_200 3
                                                have b238 := zv_83 hI227 zc_201 0
                                                have b239 := zv_83 hI227 zc_201 1
                                                have b240 := zv_83 hI227 zc_201 2
                                                have b241 := zv_83 hI227 zc_201 3
                                                have b242 := zv_46_48 hI227 zc_164
                                                have b243 := zv_46_54 hI227 zc_164
                                                refine zt_iload_n (pc' := 243) hX dX12_stands_242 rfl rfl ?_
                                                refine zt_aload_n (pc' := 244) hX dX12_stands_243 rfl rfl ?_
                                                refine zt_get (pc' := 247) (v := .ref (X.1.1 + 195)) hX dX12_stands_244 rfl zf_X12_105 (by decide) zc_164 zs_46 (zrf_of (zv_46_40 hI227 zc_164)) ?_
                                                refine zt_iconst (pc' := 248) hX dX12_stands_247 rfl ?_
                                                refine zt_iald (pc' := 249) hX dX12_stands_248 rfl (by decide) zc_195 zs_77 (by decide) ⟨by omega, by omega⟩ ?_
                                                rw [show Int.toNat 0 = 0 from rfl]
                                                have b245 := zv_77 hI227 zc_195 0
                                                refine zt_icge (pc' := 252) (tgt := 277) hX dX12_stands_249 rfl (by decide) ⟨by omega, by omega⟩ ⟨by omega, by omega⟩ (fun c246 => ?_) (fun c246 => ?_)
                                                · refine zt_aload_n (pc' := 278) hX dX12_stands_277 rfl rfl ?_
                                                  refine zt_iconst (pc' := 279) hX dX12_stands_278 rfl ?_
                                                  refine zt_put (pc' := 282) (x := 0) hX dX12_stands_279 rfl zf_X12_379 (by decide) zc_164 zs_46 (fun q hq => by cases hq; rfl) rfl rfl rfl ?_
                                                  generalize hs248 : zset s226 164 70 0 = s247
                                                  have hI249 : zInv s247 := hs248 ▸ zp_46_70 hI227 zc_164 ⟨by omega, by omega⟩
                                                  have hF250 : zFN σ s247 := hs248 ▸ zFN_set hF228 zc_164 (by decide) zk_46
                                                  have w251 := zwz_set (σ := σ) hs248 (by omega) (by omega)
                                                  have w252 := zwf_k hs248 ⟨Or.inr (by decide), by decide, by decide, by decide, by decide⟩ (by omega)
                                                  have e253 : s247 200 0 = s226 200 0 := by rw [← hs248]; exact zset_k (zne_r zc_200 zc_164 (by decide))
                                                  have e254 : s247 200 1 = s226 200 1 := by rw [← hs248]; exact zset_k (zne_r zc_200 zc_164 (by decide))
                                                  have e255 : s247 200 2 = s226 200 2 := by rw [← hs248]; exact zset_k (zne_r zc_200 zc_164 (by decide))
                                                  have e256 : s247 200 3 = s226 200 3 := by rw [← hs248]; exact zset_k (zne_r zc_200 zc_164 (by decide))
                                                  have e257 : s247 201 0 = s226 201 0 := by rw [← hs248]; exact zset_k (zne_r zc_201 zc_164 (by decide))
                                                  have e258 : s247 201 1 = s226 201 1 := by rw [← hs248]; exact zset_k (zne_r zc_201 zc_164 (by decide))
                                                  have e259 : s247 201 2 = s226 201 2 := by rw [← hs248]; exact zset_k (zne_r zc_201 zc_164 (by decide))
                                                  have e260 : s247 201 3 = s226 201 3 := by rw [← hs248]; exact zset_k (zne_r zc_201 zc_164 (by decide))
                                                  have e261 : s247 194 0 = s226 194 0 := by rw [← hs248]; exact zset_k (zne_r zc_194 zc_164 (by decide))
                                                  have e262 : s247 194 1 = s226 194 1 := by rw [← hs248]; exact zset_k (zne_r zc_194 zc_164 (by decide))
                                                  have e263 : s247 194 3 = s226 194 3 := by rw [← hs248]; exact zset_k (zne_r zc_194 zc_164 (by decide))
                                                  have e264 : s247 194 4 = s226 194 4 := by rw [← hs248]; exact zset_k (zne_r zc_194 zc_164 (by decide))
                                                  have e265 : s247 164 48 = s226 164 48 := by rw [← hs248]; exact zset_j (by decide)
                                                  have e266 : s247 164 54 = s226 164 54 := by rw [← hs248]; exact zset_j (by decide)
                                                  refine zt_aload_n (pc' := 283) hX dX12_stands_282 rfl rfl ?_
                                                  refine zt_iconst (pc' := 284) hX dX12_stands_283 rfl ?_
                                                  refine zt_put (pc' := 287) (x := 0) hX dX12_stands_284 rfl zf_X12_382 (by decide) zc_164 zs_46 (fun q hq => by cases hq; rfl) rfl rfl rfl ?_
                                                  generalize hs268 : zset s247 164 64 0 = s267
                                                  have hI269 : zInv s267 := hs268 ▸ zp_46_64 hI249 zc_164 ⟨by omega, by omega⟩
                                                  have hF270 : zFN σ s267 := hs268 ▸ zFN_set hF250 zc_164 (by decide) zk_46
                                                  have w271 := zwz_set (σ := σ) hs268 (by omega) (by omega)
                                                  have w272 := zwf_k hs268 ⟨Or.inr (by decide), by decide, by decide, by decide, by decide⟩ (by omega)
                                                  have e273 : s267 200 0 = s247 200 0 := by rw [← hs268]; exact zset_k (zne_r zc_200 zc_164 (by decide))
                                                  have e274 : s267 200 1 = s247 200 1 := by rw [← hs268]; exact zset_k (zne_r zc_200 zc_164 (by decide))
                                                  have e275 : s267 200 2 = s247 200 2 := by rw [← hs268]; exact zset_k (zne_r zc_200 zc_164 (by decide))
                                                  have e276 : s267 200 3 = s247 200 3 := by rw [← hs268]; exact zset_k (zne_r zc_200 zc_164 (by decide))
                                                  have e277 : s267 201 0 = s247 201 0 := by rw [← hs268]; exact zset_k (zne_r zc_201 zc_164 (by decide))
                                                  have e278 : s267 201 1 = s247 201 1 := by rw [← hs268]; exact zset_k (zne_r zc_201 zc_164 (by decide))
                                                  have e279 : s267 201 2 = s247 201 2 := by rw [← hs268]; exact zset_k (zne_r zc_201 zc_164 (by decide))
                                                  have e280 : s267 201 3 = s247 201 3 := by rw [← hs268]; exact zset_k (zne_r zc_201 zc_164 (by decide))
                                                  have e281 : s267 194 0 = s247 194 0 := by rw [← hs268]; exact zset_k (zne_r zc_194 zc_164 (by decide))
                                                  have e282 : s267 194 1 = s247 194 1 := by rw [← hs268]; exact zset_k (zne_r zc_194 zc_164 (by decide))
                                                  have e283 : s267 194 3 = s247 194 3 := by rw [← hs268]; exact zset_k (zne_r zc_194 zc_164 (by decide))
                                                  have e284 : s267 194 4 = s247 194 4 := by rw [← hs268]; exact zset_k (zne_r zc_194 zc_164 (by decide))
                                                  have e285 : s267 164 48 = s247 164 48 := by rw [← hs268]; exact zset_j (by decide)
                                                  have e286 : s267 164 54 = s247 164 54 := by rw [← hs268]; exact zset_j (by decide)
                                                  have h287f := zwz_f (σ := σ) (s := s267) (by omega)
                                                  exact zt_vret hX hR dX12_stands_287 ⟨hI269, hF270, by omega, by omega⟩
                                                · refine zt_aload_n (pc' := 253) hX dX12_stands_252 rfl rfl ?_
                                                  refine zt_get (pc' := 256) (v := .ref (X.1.1 + 203)) hX dX12_stands_253 rfl zf_X12_130 (by decide) zc_164 zs_46 (zrf_of (zv_46_52 hI227 zc_164)) ?_
                                                  refine zt_bipush (pc' := 258) hX dX12_stands_256 rfl (by decide) (by decide) ?_
                                                  refine zt_iconst (pc' := 259) hX dX12_stands_258 rfl ?_
                                                  refine zt_iload_n (pc' := 260) hX dX12_stands_259 rfl rfl ?_
                                                  refine zt_imul (pc' := 261) hX dX12_stands_260 rfl ?_
                                                  refine zt_iadd (pc' := 262) hX dX12_stands_261 rfl ?_
                                                  refine zt_aload_n (pc' := 263) hX dX12_stands_262 rfl rfl ?_
                                                  refine zt_get (pc' := 266) (v := .ref (X.1.1 + 198)) hX dX12_stands_263 rfl zf_X12_115 (by decide) zc_164 zs_46 (zrf_of (zv_46_43 hI227 zc_164)) ?_
                                                  refine zt_iconst (pc' := 267) hX dX12_stands_266 rfl ?_
                                                  refine zt_iload_n (pc' := 268) hX dX12_stands_267 rfl rfl ?_
                                                  refine zt_imul (pc' := 269) hX dX12_stands_268 rfl ?_
                                                  refine zt_iald (pc' := 270) hX dX12_stands_269 rfl (by decide) zc_198 zs_80 (by decide) ⟨by omega, by omega⟩ ?_
                                                  have bv288 := zv_80 hI227 zc_198 ((2 * x223).toNat)
                                                  generalize hv288 : s226 198 ((2 * x223).toNat) = v288 at bv288 ⊢
                                                  refine zt_iast (pc' := 271) hX dX12_stands_270 rfl (by decide) zc_203 zs_85 (by decide) ⟨by omega, by omega⟩ ?_
                                                  generalize hs290 : zset s226 203 ((37 + (3 * x223)).toNat) v288 = s289
                                                  have hI291 : zInv s289 := hs290 ▸ zp_85 hI227 zc_203 ((37 + (3 * x223)).toNat) (by omega)
                                                  have hF292 : zFN σ s289 := hs290 ▸ zFN_set hF228 zc_203 (by decide) zk_85
                                                  have w293 := zwz_set (σ := σ) hs290 (by omega) (by omega)
                                                  have w294 := zwf_k hs290 ⟨Or.inl (by decide), by decide, by decide, by decide, by decide⟩ (by omega)
                                                  have e295 : s289 200 0 = s226 200 0 := by rw [← hs290]; exact zset_k (zne_r zc_200 zc_203 (by decide))
                                                  have e296 : s289 200 1 = s226 200 1 := by rw [← hs290]; exact zset_k (zne_r zc_200 zc_203 (by decide))
                                                  have e297 : s289 200 2 = s226 200 2 := by rw [← hs290]; exact zset_k (zne_r zc_200 zc_203 (by decide))
                                                  have e298 : s289 200 3 = s226 200 3 := by rw [← hs290]; exact zset_k (zne_r zc_200 zc_203 (by decide))
                                                  have e299 : s289 201 0 = s226 201 0 := by rw [← hs290]; exact zset_k (zne_r zc_201 zc_203 (by decide))
                                                  have e300 : s289 201 1 = s226 201 1 := by rw [← hs290]; exact zset_k (zne_r zc_201 zc_203 (by decide))
                                                  have e301 : s289 201 2 = s226 201 2 := by rw [← hs290]; exact zset_k (zne_r zc_201 zc_203 (by decide))
                                                  have e302 : s289 201 3 = s226 201 3 := by rw [← hs290]; exact zset_k (zne_r zc_201 zc_203 (by decide))
                                                  have e303 : s289 194 0 = s226 194 0 := by rw [← hs290]; exact zset_k (zne_r zc_194 zc_203 (by decide))
                                                  have e304 : s289 194 1 = s226 194 1 := by rw [← hs290]; exact zset_k (zne_r zc_194 zc_203 (by decide))
                                                  have e305 : s289 194 3 = s226 194 3 := by rw [← hs290]; exact zset_k (zne_r zc_194 zc_203 (by decide))
                                                  have e306 : s289 194 4 = s226 194 4 := by rw [← hs290]; exact zset_k (zne_r zc_194 zc_203 (by decide))
                                                  have e307 : s289 164 48 = s226 164 48 := by rw [← hs290]; exact zset_k (zne_r zc_164 zc_203 (by decide))
                                                  have e308 : s289 164 54 = s226 164 54 := by rw [← hs290]; exact zset_k (zne_r zc_164 zc_203 (by decide))
                                                  refine zt_iinc (pc' := 274) (lv' := [some (.ref (X.1.1 + 164)), some (.int (zI (x223 + 1)))]) hX dX12_stands_271 rfl rfl hL (by decide) rfl ?_
                                                  refine zt_goto (tgt := 242) hX dX12_stands_274 (by decide) ?_
                                                  exact ih233 (x223 + 1) s289 (by omega) (by omega) hI291 hF292 (by omega) (by omega) (by omega)
                                            exact L_242_230 _ 0 s204 (by omega) (by omega) hI205 hF206 (by omega) (by omega) (Nat.lt_succ_self _)
                                          · refine zt_aload_n (pc' := 228) hX dX12_stands_227 rfl rfl ?_
                                            refine zt_get (pc' := 231) (v := .ref (X.1.1 + 203)) hX dX12_stands_228 rfl zf_X12_130 (by decide) zc_164 zs_46 (zrf_of (zv_46_52 hI205 zc_164)) ?_
                                            refine zt_iload_n (pc' := 232) hX dX12_stands_231 rfl rfl ?_
                                            refine zt_iconst (pc' := 233) hX dX12_stands_232 rfl ?_
                                            refine zt_iast (pc' := 234) hX dX12_stands_233 rfl (by decide) zc_203 zs_85 (by decide) ⟨by omega, by omega⟩ ?_
                                            generalize hs310 : zset s204 203 (x201.toNat) 0 = s309
                                            have hI311 : zInv s309 := hs310 ▸ zp_85 hI205 zc_203 (x201.toNat) (by omega)
                                            have hF312 : zFN σ s309 := hs310 ▸ zFN_set hF206 zc_203 (by decide) zk_85
                                            have w313 := zwz_set (σ := σ) hs310 (by omega) (by omega)
                                            have w314 := zwf_k hs310 ⟨Or.inl (by decide), by decide, by decide, by decide, by decide⟩ (by omega)
                                            have e315 : s309 200 0 = s204 200 0 := by rw [← hs310]; exact zset_k (zne_r zc_200 zc_203 (by decide))
                                            have e316 : s309 200 1 = s204 200 1 := by rw [← hs310]; exact zset_k (zne_r zc_200 zc_203 (by decide))
                                            have e317 : s309 200 2 = s204 200 2 := by rw [← hs310]; exact zset_k (zne_r zc_200 zc_203 (by decide))
                                            have e318 : s309 200 3 = s204 200 3 := by rw [← hs310]; exact zset_k (zne_r zc_200 zc_203 (by decide))
                                            have e319 : s309 201 0 = s204 201 0 := by rw [← hs310]; exact zset_k (zne_r zc_201 zc_203 (by decide))
                                            have e320 : s309 201 1 = s204 201 1 := by rw [← hs310]; exact zset_k (zne_r zc_201 zc_203 (by decide))
                                            have e321 : s309 201 2 = s204 201 2 := by rw [← hs310]; exact zset_k (zne_r zc_201 zc_203 (by decide))
                                            have e322 : s309 201 3 = s204 201 3 := by rw [← hs310]; exact zset_k (zne_r zc_201 zc_203 (by decide))
                                            have e323 : s309 194 0 = s204 194 0 := by rw [← hs310]; exact zset_k (zne_r zc_194 zc_203 (by decide))
                                            have e324 : s309 194 1 = s204 194 1 := by rw [← hs310]; exact zset_k (zne_r zc_194 zc_203 (by decide))
                                            have e325 : s309 194 3 = s204 194 3 := by rw [← hs310]; exact zset_k (zne_r zc_194 zc_203 (by decide))
                                            have e326 : s309 194 4 = s204 194 4 := by rw [← hs310]; exact zset_k (zne_r zc_194 zc_203 (by decide))
                                            have e327 : s309 164 48 = s204 164 48 := by rw [← hs310]; exact zset_k (zne_r zc_164 zc_203 (by decide))
                                            have e328 : s309 164 54 = s204 164 54 := by rw [← hs310]; exact zset_k (zne_r zc_164 zc_203 (by decide))
                                            refine zt_iinc (pc' := 237) (lv' := [some (.ref (X.1.1 + 164)), some (.int (zI (x201 + 1)))]) hX dX12_stands_234 rfl rfl hL (by decide) rfl ?_
                                            refine zt_goto (tgt := 220) hX dX12_stands_237 (by decide) ?_
                                            exact ih211 (x201 + 1) s309 (by omega) (by omega) hI311 hF312 (by omega) (by omega) (by omega)
                                      exact L_220_208 _ 0 s175 (by omega) (by omega) hI176 hF177 (by omega) (by omega) (Nat.lt_succ_self _)
                                    · refine zt_aload_n (pc' := 197) hX dX12_stands_196 rfl rfl ?_
                                      refine zt_get (pc' := 200) (v := .ref (X.1.1 + 202)) hX dX12_stands_197 rfl zf_X12_127 (by decide) zc_164 zs_46 (zrf_of (zv_46_47 hI176 zc_164)) ?_
                                      refine zt_sipush (pc' := 203) hX dX12_stands_200 rfl (by decide) (by decide) ?_
                                      refine zt_iload_n (pc' := 204) hX dX12_stands_203 rfl rfl ?_
                                      refine zt_iadd (pc' := 205) hX dX12_stands_204 rfl ?_
                                      refine zt_aload_n (pc' := 206) hX dX12_stands_205 rfl rfl ?_
                                      refine zt_get (pc' := 209) (v := .ref (X.1.1 + 202)) hX dX12_stands_206 rfl zf_X12_127 (by decide) zc_164 zs_46 (zrf_of (zv_46_47 hI176 zc_164)) ?_
                                      refine zt_iload_n (pc' := 210) hX dX12_stands_209 rfl rfl ?_
                                      refine zt_iald (pc' := 211) hX dX12_stands_210 rfl (by decide) zc_202 zs_84 (by decide) ⟨by omega, by omega⟩ ?_
                                      generalize hv329 : s175 202 (x172.toNat) = v329
                                      have bv329 : -2147483648 ≤ v329 ∧ v329 ≤ 2147483647 := hv329 ▸ zv_84 hI176 zc_202 _
                                      refine zt_iast (pc' := 212) hX dX12_stands_211 rfl (by decide) zc_202 zs_84 (by decide) ⟨by omega, by omega⟩ ?_
                                      generalize hs331 : zset s175 202 ((1600 + x172).toNat) v329 = s330
                                      have hI332 : zInv s330 := hs331 ▸ zp_84 hI176 zc_202 ((1600 + x172).toNat) ⟨by omega, by omega⟩
                                      have hF333 : zFN σ s330 := hs331 ▸ zFN_set hF177 zc_202 (by decide) zk_84
                                      have w334 := zwz_set (σ := σ) hs331 (by omega) (by omega)
                                      have e335 : s330 200 0 = s175 200 0 := by rw [← hs331]; exact zset_k (zne_r zc_200 zc_202 (by decide))
                                      have e336 : s330 200 1 = s175 200 1 := by rw [← hs331]; exact zset_k (zne_r zc_200 zc_202 (by decide))
                                      have e337 : s330 200 2 = s175 200 2 := by rw [← hs331]; exact zset_k (zne_r zc_200 zc_202 (by decide))
                                      have e338 : s330 200 3 = s175 200 3 := by rw [← hs331]; exact zset_k (zne_r zc_200 zc_202 (by decide))
                                      have e339 : s330 201 0 = s175 201 0 := by rw [← hs331]; exact zset_k (zne_r zc_201 zc_202 (by decide))
                                      have e340 : s330 201 1 = s175 201 1 := by rw [← hs331]; exact zset_k (zne_r zc_201 zc_202 (by decide))
                                      have e341 : s330 201 2 = s175 201 2 := by rw [← hs331]; exact zset_k (zne_r zc_201 zc_202 (by decide))
                                      have e342 : s330 201 3 = s175 201 3 := by rw [← hs331]; exact zset_k (zne_r zc_201 zc_202 (by decide))
                                      have e343 : s330 194 0 = s175 194 0 := by rw [← hs331]; exact zset_k (zne_r zc_194 zc_202 (by decide))
                                      have e344 : s330 194 1 = s175 194 1 := by rw [← hs331]; exact zset_k (zne_r zc_194 zc_202 (by decide))
                                      have e345 : s330 194 3 = s175 194 3 := by rw [← hs331]; exact zset_k (zne_r zc_194 zc_202 (by decide))
                                      have e346 : s330 194 4 = s175 194 4 := by rw [← hs331]; exact zset_k (zne_r zc_194 zc_202 (by decide))
                                      have e347 : s330 164 48 = s175 164 48 := by rw [← hs331]; exact zset_k (zne_r zc_164 zc_202 (by decide))
                                      have e348 : s330 164 54 = s175 164 54 := by rw [← hs331]; exact zset_k (zne_r zc_164 zc_202 (by decide))
                                      have h349 := zcz_s hs331 (by omega) hv329 (by omega) (by omega) (by omega)
                                      refine zt_iinc (pc' := 215) (lv' := [some (.ref (X.1.1 + 164)), some (.int (zI (x172 + 1)))]) hX dX12_stands_212 rfl rfl hL (by decide) rfl ?_
                                      refine zt_goto (tgt := 188) hX dX12_stands_215 (by decide) ?_
                                      exact ih187 (x172 + 1) s330 (by omega) (by omega) hI332 hF333 (by omega) (by omega) (by omega) (by omega) (by omega) (by omega) (by omega) (by omega)
                                exact L_188_184 _ 0 s150 (by omega) (by omega) hI151 hF152 (by omega) (by omega) (by omega) (by omega) (by omega) (by omega) (by omega) (Nat.lt_succ_self _)
                              · refine zt_aload_n (pc' := 166) hX dX12_stands_165 rfl rfl ?_
                                refine zt_get (pc' := 169) (v := .ref (X.1.1 + 198)) hX dX12_stands_166 rfl zf_X12_115 (by decide) zc_164 zs_46 (zrf_of (zv_46_43 hI151 zc_164)) ?_
                                refine zt_bipush (pc' := 171) hX dX12_stands_169 rfl (by decide) (by decide) ?_
                                refine zt_iload_n (pc' := 172) hX dX12_stands_171 rfl rfl ?_
                                refine zt_iadd (pc' := 173) hX dX12_stands_172 rfl ?_
                                refine zt_aload_n (pc' := 174) hX dX12_stands_173 rfl rfl ?_
                                refine zt_get (pc' := 177) (v := .ref (X.1.1 + 198)) hX dX12_stands_174 rfl zf_X12_115 (by decide) zc_164 zs_46 (zrf_of (zv_46_43 hI151 zc_164)) ?_
                                refine zt_iload_n (pc' := 178) hX dX12_stands_177 rfl rfl ?_
                                refine zt_iald (pc' := 179) hX dX12_stands_178 rfl (by decide) zc_198 zs_80 (by decide) ⟨by omega, by omega⟩ ?_
                                have bv350 := zv_80 hI151 zc_198 (x147.toNat)
                                generalize hv350 : s150 198 (x147.toNat) = v350 at bv350 ⊢
                                refine zt_iast (pc' := 180) hX dX12_stands_179 rfl (by decide) zc_198 zs_80 (by decide) ⟨by omega, by omega⟩ ?_
                                generalize hs352 : zset s150 198 ((20 + x147).toNat) v350 = s351
                                have hI353 : zInv s351 := hs352 ▸ zp_80 hI151 zc_198 ((20 + x147).toNat) (by omega)
                                have hF354 : zFN σ s351 := hs352 ▸ zFN_set hF152 zc_198 (by decide) zk_80
                                have w355 := zwz_set (σ := σ) hs352 (by omega) (by omega)
                                have e356 : s351 200 0 = s150 200 0 := by rw [← hs352]; exact zset_k (zne_r zc_200 zc_198 (by decide))
                                have e357 : s351 200 1 = s150 200 1 := by rw [← hs352]; exact zset_k (zne_r zc_200 zc_198 (by decide))
                                have e358 : s351 200 2 = s150 200 2 := by rw [← hs352]; exact zset_k (zne_r zc_200 zc_198 (by decide))
                                have e359 : s351 200 3 = s150 200 3 := by rw [← hs352]; exact zset_k (zne_r zc_200 zc_198 (by decide))
                                have e360 : s351 201 0 = s150 201 0 := by rw [← hs352]; exact zset_k (zne_r zc_201 zc_198 (by decide))
                                have e361 : s351 201 1 = s150 201 1 := by rw [← hs352]; exact zset_k (zne_r zc_201 zc_198 (by decide))
                                have e362 : s351 201 2 = s150 201 2 := by rw [← hs352]; exact zset_k (zne_r zc_201 zc_198 (by decide))
                                have e363 : s351 201 3 = s150 201 3 := by rw [← hs352]; exact zset_k (zne_r zc_201 zc_198 (by decide))
                                have e364 : s351 194 0 = s150 194 0 := by rw [← hs352]; exact zset_k (zne_r zc_194 zc_198 (by decide))
                                have e365 : s351 194 1 = s150 194 1 := by rw [← hs352]; exact zset_k (zne_r zc_194 zc_198 (by decide))
                                have e366 : s351 194 3 = s150 194 3 := by rw [← hs352]; exact zset_k (zne_r zc_194 zc_198 (by decide))
                                have e367 : s351 194 4 = s150 194 4 := by rw [← hs352]; exact zset_k (zne_r zc_194 zc_198 (by decide))
                                have e368 : s351 164 48 = s150 164 48 := by rw [← hs352]; exact zset_k (zne_r zc_164 zc_198 (by decide))
                                have e369 : s351 164 54 = s150 164 54 := by rw [← hs352]; exact zset_k (zne_r zc_164 zc_198 (by decide))
                                refine zt_iinc (pc' := 183) (lv' := [some (.ref (X.1.1 + 164)), some (.int (zI (x147 + 1)))]) hX dX12_stands_180 rfl rfl hL (by decide) rfl ?_
                                refine zt_goto (tgt := 159) hX dX12_stands_183 (by decide) ?_
                                exact ih159 (x147 + 1) s351 (by omega) (by omega) hI353 hF354 (by omega) (by omega) (by omega) (by omega) (by omega)
                          exact L_159_156 _ 0 s126 (by omega) (by omega) hI127 hF128 (by omega) (by omega) (by omega) (by omega) (Nat.lt_succ_self _)
                        · refine zt_aload_n (pc' := 137) hX dX12_stands_136 rfl rfl ?_
                          refine zt_get (pc' := 140) (v := .ref (X.1.1 + 197)) hX dX12_stands_137 rfl zf_X12_112 (by decide) zc_164 zs_46 (zrf_of (zv_46_42 hI127 zc_164)) ?_
                          refine zt_bipush (pc' := 142) hX dX12_stands_140 rfl (by decide) (by decide) ?_
                          refine zt_iload_n (pc' := 143) hX dX12_stands_142 rfl rfl ?_
                          refine zt_iadd (pc' := 144) hX dX12_stands_143 rfl ?_
                          refine zt_aload_n (pc' := 145) hX dX12_stands_144 rfl rfl ?_
                          refine zt_get (pc' := 148) (v := .ref (X.1.1 + 197)) hX dX12_stands_145 rfl zf_X12_112 (by decide) zc_164 zs_46 (zrf_of (zv_46_42 hI127 zc_164)) ?_
                          refine zt_iload_n (pc' := 149) hX dX12_stands_148 rfl rfl ?_
                          refine zt_iald (pc' := 150) hX dX12_stands_149 rfl (by decide) zc_197 zs_79 (by decide) ⟨by omega, by omega⟩ ?_
                          generalize hv370 : s126 197 (x123.toNat) = v370
                          have bv370 : -2147483648 ≤ v370 ∧ v370 ≤ 2147483647 := hv370 ▸ zv_79 hI127 zc_197 _
                          refine zt_iast (pc' := 151) hX dX12_stands_150 rfl (by decide) zc_197 zs_79 (by decide) ⟨by omega, by omega⟩ ?_
                          generalize hs372 : zset s126 197 ((36 + x123).toNat) v370 = s371
                          have hI373 : zInv s371 := hs372 ▸ zp_79 hI127 zc_197 ((36 + x123).toNat) ⟨by omega, by omega⟩
                          have hF374 : zFN σ s371 := hs372 ▸ zFN_set hF128 zc_197 (by decide) zk_79
                          have w375 := zwz_set (σ := σ) hs372 (by omega) (by omega)
                          have e376 : s371 200 0 = s126 200 0 := by rw [← hs372]; exact zset_k (zne_r zc_200 zc_197 (by decide))
                          have e377 : s371 200 1 = s126 200 1 := by rw [← hs372]; exact zset_k (zne_r zc_200 zc_197 (by decide))
                          have e378 : s371 200 2 = s126 200 2 := by rw [← hs372]; exact zset_k (zne_r zc_200 zc_197 (by decide))
                          have e379 : s371 200 3 = s126 200 3 := by rw [← hs372]; exact zset_k (zne_r zc_200 zc_197 (by decide))
                          have e380 : s371 201 0 = s126 201 0 := by rw [← hs372]; exact zset_k (zne_r zc_201 zc_197 (by decide))
                          have e381 : s371 201 1 = s126 201 1 := by rw [← hs372]; exact zset_k (zne_r zc_201 zc_197 (by decide))
                          have e382 : s371 201 2 = s126 201 2 := by rw [← hs372]; exact zset_k (zne_r zc_201 zc_197 (by decide))
                          have e383 : s371 201 3 = s126 201 3 := by rw [← hs372]; exact zset_k (zne_r zc_201 zc_197 (by decide))
                          have e384 : s371 194 0 = s126 194 0 := by rw [← hs372]; exact zset_k (zne_r zc_194 zc_197 (by decide))
                          have e385 : s371 194 1 = s126 194 1 := by rw [← hs372]; exact zset_k (zne_r zc_194 zc_197 (by decide))
                          have e386 : s371 194 3 = s126 194 3 := by rw [← hs372]; exact zset_k (zne_r zc_194 zc_197 (by decide))
                          have e387 : s371 194 4 = s126 194 4 := by rw [← hs372]; exact zset_k (zne_r zc_194 zc_197 (by decide))
                          have e388 : s371 164 48 = s126 164 48 := by rw [← hs372]; exact zset_k (zne_r zc_164 zc_197 (by decide))
                          have e389 : s371 164 54 = s126 164 54 := by rw [← hs372]; exact zset_k (zne_r zc_164 zc_197 (by decide))
                          refine zt_iinc (pc' := 154) (lv' := [some (.ref (X.1.1 + 164)), some (.int (zI (x123 + 1)))]) hX dX12_stands_151 rfl rfl hL (by decide) rfl ?_
                          refine zt_goto (tgt := 130) hX dX12_stands_154 (by decide) ?_
                          exact ih135 (x123 + 1) s371 (by omega) (by omega) hI373 hF374 (by omega) (by omega) (by omega) (by omega) (by omega)
                    exact L_130_132 _ 0 s102 (by omega) (by omega) hI103 hF104 (by omega) (by omega) (by omega) (by omega) (Nat.lt_succ_self _)
                  · refine zt_aload_n (pc' := 108) hX dX12_stands_107 rfl rfl ?_
                    refine zt_get (pc' := 111) (v := .ref (X.1.1 + 196)) hX dX12_stands_108 rfl zf_X12_108 (by decide) zc_164 zs_46 (zrf_of (zv_46_41 hI103 zc_164)) ?_
                    refine zt_bipush (pc' := 113) hX dX12_stands_111 rfl (by decide) (by decide) ?_
                    refine zt_iload_n (pc' := 114) hX dX12_stands_113 rfl rfl ?_
                    refine zt_iadd (pc' := 115) hX dX12_stands_114 rfl ?_
                    refine zt_aload_n (pc' := 116) hX dX12_stands_115 rfl rfl ?_
                    refine zt_get (pc' := 119) (v := .ref (X.1.1 + 196)) hX dX12_stands_116 rfl zf_X12_108 (by decide) zc_164 zs_46 (zrf_of (zv_46_41 hI103 zc_164)) ?_
                    refine zt_iload_n (pc' := 120) hX dX12_stands_119 rfl rfl ?_
                    refine zt_lald (pc' := 121) hX dX12_stands_120 rfl (by decide) zc_196 zs_78 (by decide) ⟨by omega, by omega⟩ ?_
                    generalize hv390 : s102 196 (x99.toNat) = v390
                    have bv390 : -9223372036854775808 ≤ v390 ∧ v390 ≤ 9223372036854775807 := hv390 ▸ zv_78 hI103 zc_196 _
                    refine zt_last (pc' := 122) hX dX12_stands_121 rfl (by decide) zc_196 zs_78 (by decide) ⟨by omega, by omega⟩ ?_
                    generalize hs392 : zset s102 196 ((10 + x99).toNat) v390 = s391
                    have hI393 : zInv s391 := hs392 ▸ zp_78 hI103 zc_196 ((10 + x99).toNat) ⟨by omega, by omega⟩
                    have hF394 : zFN σ s391 := hs392 ▸ zFN_set hF104 zc_196 (by decide) zk_78
                    have w395 := zwz_set (σ := σ) hs392 (by omega) (by omega)
                    have e396 : s391 200 0 = s102 200 0 := by rw [← hs392]; exact zset_k (zne_r zc_200 zc_196 (by decide))
                    have e397 : s391 200 1 = s102 200 1 := by rw [← hs392]; exact zset_k (zne_r zc_200 zc_196 (by decide))
                    have e398 : s391 200 2 = s102 200 2 := by rw [← hs392]; exact zset_k (zne_r zc_200 zc_196 (by decide))
                    have e399 : s391 200 3 = s102 200 3 := by rw [← hs392]; exact zset_k (zne_r zc_200 zc_196 (by decide))
                    have e400 : s391 201 0 = s102 201 0 := by rw [← hs392]; exact zset_k (zne_r zc_201 zc_196 (by decide))
                    have e401 : s391 201 1 = s102 201 1 := by rw [← hs392]; exact zset_k (zne_r zc_201 zc_196 (by decide))
                    have e402 : s391 201 2 = s102 201 2 := by rw [← hs392]; exact zset_k (zne_r zc_201 zc_196 (by decide))
                    have e403 : s391 201 3 = s102 201 3 := by rw [← hs392]; exact zset_k (zne_r zc_201 zc_196 (by decide))
                    have e404 : s391 194 0 = s102 194 0 := by rw [← hs392]; exact zset_k (zne_r zc_194 zc_196 (by decide))
                    have e405 : s391 194 1 = s102 194 1 := by rw [← hs392]; exact zset_k (zne_r zc_194 zc_196 (by decide))
                    have e406 : s391 194 3 = s102 194 3 := by rw [← hs392]; exact zset_k (zne_r zc_194 zc_196 (by decide))
                    have e407 : s391 194 4 = s102 194 4 := by rw [← hs392]; exact zset_k (zne_r zc_194 zc_196 (by decide))
                    have e408 : s391 164 48 = s102 164 48 := by rw [← hs392]; exact zset_k (zne_r zc_164 zc_196 (by decide))
                    have e409 : s391 164 54 = s102 164 54 := by rw [← hs392]; exact zset_k (zne_r zc_164 zc_196 (by decide))
                    refine zt_iinc (pc' := 125) (lv' := [some (.ref (X.1.1 + 164)), some (.int (zI (x99 + 1)))]) hX dX12_stands_122 rfl rfl hL (by decide) rfl ?_
                    refine zt_goto (tgt := 101) hX dX12_stands_125 (by decide) ?_
                    exact ih111 (x99 + 1) s391 (by omega) (by omega) hI393 hF394 (by omega) (by omega) (by omega) (by omega) (by omega)
              exact L_101_108 _ 0 s78 (by omega) (by omega) hI79 hF80 (by omega) (by omega) (by omega) (by omega) (Nat.lt_succ_self _)
            · refine zt_aload_n (pc' := 66) hX dX12_stands_65 rfl rfl ?_
              refine zt_get (pc' := 69) (v := .ref (X.1.1 + 200)) hX dX12_stands_66 rfl zf_X12_121 (by decide) zc_164 zs_46 (zrf_of (zv_46_45 hI79 zc_164)) ?_
              refine zt_iconst (pc' := 70) hX dX12_stands_69 rfl ?_
              refine zt_iload_n (pc' := 71) hX dX12_stands_70 rfl rfl ?_
              refine zt_iadd (pc' := 72) hX dX12_stands_71 rfl ?_
              refine zt_aload_n (pc' := 73) hX dX12_stands_72 rfl rfl ?_
              refine zt_get (pc' := 76) (v := .ref (X.1.1 + 200)) hX dX12_stands_73 rfl zf_X12_121 (by decide) zc_164 zs_46 (zrf_of (zv_46_45 hI79 zc_164)) ?_
              refine zt_iload_n (pc' := 77) hX dX12_stands_76 rfl rfl ?_
              refine zt_iald (pc' := 78) hX dX12_stands_77 rfl (by decide) zc_200 zs_82 (by decide) ⟨by omega, by omega⟩ ?_
              generalize hv410 : s78 200 (x75.toNat) = v410
              have bv410 : -1 ≤ v410 ∧ v410 ≤ 1600 := hv410 ▸ zv_82 hI79 zc_200 _
              refine zt_iast (pc' := 79) hX dX12_stands_78 rfl (by decide) zc_200 zs_82 (by decide) ⟨by omega, by omega⟩ ?_
              generalize hs412 : zset s78 200 ((2 + x75).toNat) v410 = s411
              have hI413 : zInv s411 := hs412 ▸ zp_82 hI79 zc_200 ((2 + x75).toNat) ⟨by omega, by omega⟩
              have hF414 : zFN σ s411 := hs412 ▸ zFN_set hF80 zc_200 (by decide) zk_82
              have w415 := zwz_set (σ := σ) hs412 (by omega) (by omega)
              have e416 : s411 201 0 = s78 201 0 := by rw [← hs412]; exact zset_k (zne_r zc_201 zc_200 (by decide))
              have e417 : s411 201 1 = s78 201 1 := by rw [← hs412]; exact zset_k (zne_r zc_201 zc_200 (by decide))
              have e418 : s411 201 2 = s78 201 2 := by rw [← hs412]; exact zset_k (zne_r zc_201 zc_200 (by decide))
              have e419 : s411 201 3 = s78 201 3 := by rw [← hs412]; exact zset_k (zne_r zc_201 zc_200 (by decide))
              have e420 : s411 194 0 = s78 194 0 := by rw [← hs412]; exact zset_k (zne_r zc_194 zc_200 (by decide))
              have e421 : s411 194 1 = s78 194 1 := by rw [← hs412]; exact zset_k (zne_r zc_194 zc_200 (by decide))
              have e422 : s411 194 3 = s78 194 3 := by rw [← hs412]; exact zset_k (zne_r zc_194 zc_200 (by decide))
              have e423 : s411 194 4 = s78 194 4 := by rw [← hs412]; exact zset_k (zne_r zc_194 zc_200 (by decide))
              have e424 : s411 164 48 = s78 164 48 := by rw [← hs412]; exact zset_k (zne_r zc_164 zc_200 (by decide))
              have e425 : s411 164 54 = s78 164 54 := by rw [← hs412]; exact zset_k (zne_r zc_164 zc_200 (by decide))
              have h426 := zc2 (d := 2) (e := 3) hs412 (by omega) rfl hv410 (by omega) (by decide)
              refine zt_aload_n (pc' := 80) hX dX12_stands_79 rfl rfl ?_
              refine zt_get (pc' := 83) (v := .ref (X.1.1 + 201)) hX dX12_stands_80 rfl zf_X12_124 (by decide) zc_164 zs_46 (zrf_of (zv_46_46 hI413 zc_164)) ?_
              refine zt_iconst (pc' := 84) hX dX12_stands_83 rfl ?_
              refine zt_iload_n (pc' := 85) hX dX12_stands_84 rfl rfl ?_
              refine zt_iadd (pc' := 86) hX dX12_stands_85 rfl ?_
              refine zt_aload_n (pc' := 87) hX dX12_stands_86 rfl rfl ?_
              refine zt_get (pc' := 90) (v := .ref (X.1.1 + 201)) hX dX12_stands_87 rfl zf_X12_124 (by decide) zc_164 zs_46 (zrf_of (zv_46_46 hI413 zc_164)) ?_
              refine zt_iload_n (pc' := 91) hX dX12_stands_90 rfl rfl ?_
              refine zt_iald (pc' := 92) hX dX12_stands_91 rfl (by decide) zc_201 zs_83 (by decide) ⟨by omega, by omega⟩ ?_
              generalize hv427 : s411 201 (x75.toNat) = v427
              have bv427 : 0 ≤ v427 ∧ v427 ≤ 1600 := hv427 ▸ zv_83 hI413 zc_201 _
              refine zt_iast (pc' := 93) hX dX12_stands_92 rfl (by decide) zc_201 zs_83 (by decide) ⟨by omega, by omega⟩ ?_
              generalize hs429 : zset s411 201 ((2 + x75).toNat) v427 = s428
              have hI430 : zInv s428 := hs429 ▸ zp_83 hI413 zc_201 ((2 + x75).toNat) ⟨by omega, by omega⟩
              have hF431 : zFN σ s428 := hs429 ▸ zFN_set hF414 zc_201 (by decide) zk_83
              have w432 := zwz_set (σ := σ) hs429 (by omega) (by omega)
              have e433 : s428 200 0 = s411 200 0 := by rw [← hs429]; exact zset_k (zne_r zc_200 zc_201 (by decide))
              have e434 : s428 200 1 = s411 200 1 := by rw [← hs429]; exact zset_k (zne_r zc_200 zc_201 (by decide))
              have e435 : s428 200 2 = s411 200 2 := by rw [← hs429]; exact zset_k (zne_r zc_200 zc_201 (by decide))
              have e436 : s428 200 3 = s411 200 3 := by rw [← hs429]; exact zset_k (zne_r zc_200 zc_201 (by decide))
              have e437 : s428 194 0 = s411 194 0 := by rw [← hs429]; exact zset_k (zne_r zc_194 zc_201 (by decide))
              have e438 : s428 194 1 = s411 194 1 := by rw [← hs429]; exact zset_k (zne_r zc_194 zc_201 (by decide))
              have e439 : s428 194 3 = s411 194 3 := by rw [← hs429]; exact zset_k (zne_r zc_194 zc_201 (by decide))
              have e440 : s428 194 4 = s411 194 4 := by rw [← hs429]; exact zset_k (zne_r zc_194 zc_201 (by decide))
              have e441 : s428 164 48 = s411 164 48 := by rw [← hs429]; exact zset_k (zne_r zc_164 zc_201 (by decide))
              have e442 : s428 164 54 = s411 164 54 := by rw [← hs429]; exact zset_k (zne_r zc_164 zc_201 (by decide))
              have h443 := zc2 (d := 2) (e := 3) hs429 (by omega) rfl hv427 (by omega) (by decide)
              refine zt_iinc (pc' := 96) (lv' := [some (.ref (X.1.1 + 164)), some (.int (zI (x75 + 1)))]) hX dX12_stands_93 rfl rfl hL (by decide) rfl ?_
              refine zt_goto (tgt := 60) hX dX12_stands_96 (by decide) ?_
              exact ih87 (x75 + 1) s428 (by omega) (by omega) hI430 hF431 (by omega) (by omega) (by omega) (by omega) (by omega)
        exact L_60_84 _ 0 s55 (by omega) (by omega) hI56 hF57 (by omega) (by omega) (by omega) (by omega) (Nat.lt_succ_self _)
      · refine zt_aload_n (pc' := 25) hX dX12_stands_24 rfl rfl ?_
        refine zt_get (pc' := 28) (v := .ref (X.1.1 + 194)) hX dX12_stands_25 rfl zf_X12_102 (by decide) zc_164 zs_46 (zrf_of (zv_46_39 hI56 zc_164)) ?_
        refine zt_iconst (pc' := 29) hX dX12_stands_28 rfl ?_
        refine zt_iload_n (pc' := 30) hX dX12_stands_29 rfl rfl ?_
        refine zt_iadd (pc' := 31) hX dX12_stands_30 rfl ?_
        refine zt_aload_n (pc' := 32) hX dX12_stands_31 rfl rfl ?_
        refine zt_get (pc' := 35) (v := .ref (X.1.1 + 194)) hX dX12_stands_32 rfl zf_X12_102 (by decide) zc_164 zs_46 (zrf_of (zv_46_39 hI56 zc_164)) ?_
        refine zt_iload_n (pc' := 36) hX dX12_stands_35 rfl rfl ?_
        refine zt_iald (pc' := 37) hX dX12_stands_36 rfl (by decide) zc_194 zs_76 (by decide) ⟨by omega, by omega⟩ ?_
        have bv444 := zv_76 hI56 zc_194 (x52.toNat)
        generalize hv444 : s55 194 (x52.toNat) = v444 at bv444 ⊢
        have h445 := zwz_sd (σ := σ) (s := s55) (by omega) hpre0 hv444 (by omega) (by omega)
        refine zt_iast (pc' := 38) hX dX12_stands_37 rfl (by decide) zc_194 zs_76 (by decide) ⟨by omega, by omega⟩ ?_
        generalize hs447 : zset s55 194 ((3 + x52).toNat) v444 = s446
        have hI448 : zInv s446 := hs447 ▸ zp_76 hI56 zc_194 ((3 + x52).toNat) (by omega)
        have hF449 : zFN σ s446 := hs447 ▸ zFN_set hF57 zc_194 (by decide) zk_76
        have w450 := zwz_set (σ := σ) hs447 (by omega) (by omega)
        have e451 : s446 200 0 = s55 200 0 := by rw [← hs447]; exact zset_k (zne_r zc_200 zc_194 (by decide))
        have e452 : s446 200 1 = s55 200 1 := by rw [← hs447]; exact zset_k (zne_r zc_200 zc_194 (by decide))
        have e453 : s446 200 2 = s55 200 2 := by rw [← hs447]; exact zset_k (zne_r zc_200 zc_194 (by decide))
        have e454 : s446 200 3 = s55 200 3 := by rw [← hs447]; exact zset_k (zne_r zc_200 zc_194 (by decide))
        have e455 : s446 201 0 = s55 201 0 := by rw [← hs447]; exact zset_k (zne_r zc_201 zc_194 (by decide))
        have e456 : s446 201 1 = s55 201 1 := by rw [← hs447]; exact zset_k (zne_r zc_201 zc_194 (by decide))
        have e457 : s446 201 2 = s55 201 2 := by rw [← hs447]; exact zset_k (zne_r zc_201 zc_194 (by decide))
        have e458 : s446 201 3 = s55 201 3 := by rw [← hs447]; exact zset_k (zne_r zc_201 zc_194 (by decide))
        have e459 : s446 164 48 = s55 164 48 := by rw [← hs447]; exact zset_k (zne_r zc_164 zc_194 (by decide))
        have e460 : s446 164 54 = s55 164 54 := by rw [← hs447]; exact zset_k (zne_r zc_164 zc_194 (by decide))
        have h461 := zc2 (d := 3) (e := 4) hs447 (by omega) rfl hv444 (by omega) (by decide)
        refine zt_aload_n (pc' := 39) hX dX12_stands_38 rfl rfl ?_
        refine zt_get (pc' := 42) (v := .ref (X.1.1 + 199)) hX dX12_stands_39 rfl zf_X12_118 (by decide) zc_164 zs_46 (zrf_of (zv_46_44 hI448 zc_164)) ?_
        refine zt_iconst (pc' := 43) hX dX12_stands_42 rfl ?_
        refine zt_iload_n (pc' := 44) hX dX12_stands_43 rfl rfl ?_
        refine zt_iadd (pc' := 45) hX dX12_stands_44 rfl ?_
        refine zt_aload_n (pc' := 46) hX dX12_stands_45 rfl rfl ?_
        refine zt_get (pc' := 49) (v := .ref (X.1.1 + 199)) hX dX12_stands_46 rfl zf_X12_118 (by decide) zc_164 zs_46 (zrf_of (zv_46_44 hI448 zc_164)) ?_
        refine zt_iload_n (pc' := 50) hX dX12_stands_49 rfl rfl ?_
        refine zt_iald (pc' := 51) hX dX12_stands_50 rfl (by decide) zc_199 zs_81 (by decide) ⟨by omega, by omega⟩ ?_
        have bv462 := zv_81 hI448 zc_199 (x52.toNat)
        generalize hv462 : s446 199 (x52.toNat) = v462 at bv462 ⊢
        have h463 := zwz_st (σ := σ) (s := s446) (by omega) hpre1 hv462 (by omega) (by omega)
        refine zt_iast (pc' := 52) hX dX12_stands_51 rfl (by decide) zc_199 zs_81 (by decide) ⟨by omega, by omega⟩ ?_
        generalize hs465 : zset s446 199 ((3 + x52).toNat) v462 = s464
        have hI466 : zInv s464 := hs465 ▸ zp_81 hI448 zc_199 ((3 + x52).toNat) (by omega)
        have hF467 : zFN σ s464 := hs465 ▸ zFN_set hF449 zc_199 (by decide) zk_81
        have w468 := zwz_set (σ := σ) hs465 (by omega) (by omega)
        have e469 : s464 200 0 = s446 200 0 := by rw [← hs465]; exact zset_k (zne_r zc_200 zc_199 (by decide))
        have e470 : s464 200 1 = s446 200 1 := by rw [← hs465]; exact zset_k (zne_r zc_200 zc_199 (by decide))
        have e471 : s464 200 2 = s446 200 2 := by rw [← hs465]; exact zset_k (zne_r zc_200 zc_199 (by decide))
        have e472 : s464 200 3 = s446 200 3 := by rw [← hs465]; exact zset_k (zne_r zc_200 zc_199 (by decide))
        have e473 : s464 201 0 = s446 201 0 := by rw [← hs465]; exact zset_k (zne_r zc_201 zc_199 (by decide))
        have e474 : s464 201 1 = s446 201 1 := by rw [← hs465]; exact zset_k (zne_r zc_201 zc_199 (by decide))
        have e475 : s464 201 2 = s446 201 2 := by rw [← hs465]; exact zset_k (zne_r zc_201 zc_199 (by decide))
        have e476 : s464 201 3 = s446 201 3 := by rw [← hs465]; exact zset_k (zne_r zc_201 zc_199 (by decide))
        have e477 : s464 194 0 = s446 194 0 := by rw [← hs465]; exact zset_k (zne_r zc_194 zc_199 (by decide))
        have e478 : s464 194 1 = s446 194 1 := by rw [← hs465]; exact zset_k (zne_r zc_194 zc_199 (by decide))
        have e479 : s464 194 3 = s446 194 3 := by rw [← hs465]; exact zset_k (zne_r zc_194 zc_199 (by decide))
        have e480 : s464 194 4 = s446 194 4 := by rw [← hs465]; exact zset_k (zne_r zc_194 zc_199 (by decide))
        have e481 : s464 164 48 = s446 164 48 := by rw [← hs465]; exact zset_k (zne_r zc_164 zc_199 (by decide))
        have e482 : s464 164 54 = s446 164 54 := by rw [← hs465]; exact zset_k (zne_r zc_164 zc_199 (by decide))
        refine zt_iinc (pc' := 55) (lv' := [some (.ref (X.1.1 + 164)), some (.int (zI (x52 + 1)))]) hX dX12_stands_52 rfl rfl hL (by decide) rfl ?_
        refine zt_goto (tgt := 19) hX dX12_stands_55 (by decide) ?_
        exact ih63 (x52 + 1) s464 (by omega) (by omega) hI466 hF467 (by omega) (by omega) (by omega) (by omega)
  exact L_19_60 _ 0 s33 (by omega) (by omega) hI35 hF36 (by omega) (by omega) (by omega) (Nat.lt_succ_self _)

set_option maxRecDepth 100000 in
set_option maxHeartbeats 2000000 in
theorem zc_X12_pane (l : Launch) (E : zEN) (σ : zSto) (hI : zInv σ) (hW : zWF σ) : zCt l E yX12_pane cX12_pane 2 (some .int) 11 zNC zNC 0 0 σ [.ref (E.1 + 164)] (fun r σ' => zInv σ' ∧ zFN σ σ' ∧ -2147483648 ≤ r ∧ r ≤ 2147483647 ∧ (zwf σ' = 1) ∧ (σ' 164 54 = σ 164 54)) := by
  refine zCt_of2 [some (.ref (E.1 + 164)), none] (by decide +kernel) (Nat.le_of_ble_eq_true rfl) rfl ?_
  intro X hE hX hR hL hN
  subst hE
  have hX : zok X cX12_pane RX12 11 := hX
  have hF := zGN_rf σ
  have b1 := zv_46_2 hI zc_164
  have b2 := zv_46_3 hI zc_164
  have b3 := zv_46_5 hI zc_164
  have b4 := zv_46_4 hI zc_164
  have b5 := zv_46_48 hI zc_164
  have b6 := zv_82 hI zc_200 0
  have b7 := zv_82 hI zc_200 1
  refine zt_aload_n (pc' := 1) hX dX12_pane_0 rfl rfl ?_
  refine zt_aload_n (pc' := 2) hX dX12_pane_1 rfl rfl ?_
  have b8 := zv_46_1 hI zc_164
  refine zt_get (pc' := 5) (v := .int (zI (σ 164 1))) hX dX12_pane_2 rfl zf_X12_243 (by decide) zc_164 zs_46 rfl ?_
  refine zt_put (pc' := 8) (x := (σ 164 1)) hX dX12_pane_5 rfl zf_X12_255 (by decide) zc_164 zs_46 (fun q hq => by cases hq; rfl) rfl rfl rfl ?_
  generalize hs10 : zset σ 164 3 (σ 164 1) = s9
  have hI11 : zInv s9 := hs10 ▸ zp_46_3 hI zc_164 ⟨by omega, by omega⟩
  have hF12 : zGN σ s9 := hs10 ▸ zGN_set hF zc_164 (by decide) zk_46 (Or.inr (by decide)) (by decide)
  have w13 := zwk_m hs10 (by decide)
  have e14 : s9 164 2 = σ 164 2 := by rw [← hs10]; exact zset_j (by decide)
  have e15 : s9 164 3 = (σ 164 1) := by rw [← hs10]; exact zset_s
  have e16 : s9 164 5 = σ 164 5 := by rw [← hs10]; exact zset_j (by decide)
  have e17 : s9 164 4 = σ 164 4 := by rw [← hs10]; exact zset_j (by decide)
  have e18 : s9 164 48 = σ 164 48 := by rw [← hs10]; exact zset_j (by decide)
  have e19 : s9 194 0 = σ 194 0 := by rw [← hs10]; exact zset_k (zne_r zc_194 zc_164 (by decide))
  have e20 : s9 194 1 = σ 194 1 := by rw [← hs10]; exact zset_k (zne_r zc_194 zc_164 (by decide))
  have e21 : s9 199 0 = σ 199 0 := by rw [← hs10]; exact zset_k (zne_r zc_199 zc_164 (by decide))
  have e22 : s9 199 1 = σ 199 1 := by rw [← hs10]; exact zset_k (zne_r zc_199 zc_164 (by decide))
  have e23 : s9 199 2 = σ 199 2 := by rw [← hs10]; exact zset_k (zne_r zc_199 zc_164 (by decide))
  have e24 : s9 200 0 = σ 200 0 := by rw [← hs10]; exact zset_k (zne_r zc_200 zc_164 (by decide))
  have e25 : s9 200 1 = σ 200 1 := by rw [← hs10]; exact zset_k (zne_r zc_200 zc_164 (by decide))
  refine zt_aload_n (pc' := 9) hX dX12_pane_8 rfl rfl ?_
  refine zt_iconst (pc' := 10) hX dX12_pane_9 rfl ?_
  refine zt_put (pc' := 13) (x := 0) hX dX12_pane_10 rfl zf_X12_243 (by decide) zc_164 zs_46 (fun q hq => by cases hq; rfl) rfl rfl rfl ?_
  generalize hs27 : zset s9 164 1 0 = s26
  have hI28 : zInv s26 := hs27 ▸ zp_46_1 hI11 zc_164 ⟨by omega, by omega⟩
  have hF29 : zGN σ s26 := hs27 ▸ zGN_set hF12 zc_164 (by decide) zk_46 (Or.inr (by decide)) (by decide)
  have w30 := zwk_m hs27 (by decide)
  have e31 : s26 164 2 = s9 164 2 := by rw [← hs27]; exact zset_j (by decide)
  have e32 : s26 164 3 = s9 164 3 := by rw [← hs27]; exact zset_j (by decide)
  have e33 : s26 164 5 = s9 164 5 := by rw [← hs27]; exact zset_j (by decide)
  have e34 : s26 164 4 = s9 164 4 := by rw [← hs27]; exact zset_j (by decide)
  have e35 : s26 164 48 = s9 164 48 := by rw [← hs27]; exact zset_j (by decide)
  have e36 : s26 194 0 = s9 194 0 := by rw [← hs27]; exact zset_k (zne_r zc_194 zc_164 (by decide))
  have e37 : s26 194 1 = s9 194 1 := by rw [← hs27]; exact zset_k (zne_r zc_194 zc_164 (by decide))
  have e38 : s26 199 0 = s9 199 0 := by rw [← hs27]; exact zset_k (zne_r zc_199 zc_164 (by decide))
  have e39 : s26 199 1 = s9 199 1 := by rw [← hs27]; exact zset_k (zne_r zc_199 zc_164 (by decide))
  have e40 : s26 199 2 = s9 199 2 := by rw [← hs27]; exact zset_k (zne_r zc_199 zc_164 (by decide))
  have e41 : s26 200 0 = s9 200 0 := by rw [← hs27]; exact zset_k (zne_r zc_200 zc_164 (by decide))
  have e42 : s26 200 1 = s9 200 1 := by rw [← hs27]; exact zset_k (zne_r zc_200 zc_164 (by decide))
  refine zt_aload_n (pc' := 14) hX dX12_pane_13 rfl rfl ?_
  refine zt_iconst (pc' := 15) hX dX12_pane_14 rfl ?_
  refine zt_put (pc' := 18) (x := 0) hX dX12_pane_15 rfl zf_X12_252 (by decide) zc_164 zs_46 (fun q hq => by cases hq; rfl) rfl rfl rfl ?_
  generalize hs44 : zset s26 164 2 0 = s43
  have hI45 : zInv s43 := hs44 ▸ zp_46_2 hI28 zc_164 ⟨by omega, by omega⟩
  have hF46 : zGN σ s43 := hs44 ▸ zGN_set hF29 zc_164 (by decide) zk_46 (Or.inr (by decide)) (by decide)
  have w47 := zwk_m hs44 (by decide)
  have e48 : s43 164 2 = 0 := by rw [← hs44]; exact zset_s
  have e49 : s43 164 3 = s26 164 3 := by rw [← hs44]; exact zset_j (by decide)
  have e50 : s43 164 5 = s26 164 5 := by rw [← hs44]; exact zset_j (by decide)
  have e51 : s43 164 4 = s26 164 4 := by rw [← hs44]; exact zset_j (by decide)
  have e52 : s43 164 48 = s26 164 48 := by rw [← hs44]; exact zset_j (by decide)
  have e53 : s43 194 0 = s26 194 0 := by rw [← hs44]; exact zset_k (zne_r zc_194 zc_164 (by decide))
  have e54 : s43 194 1 = s26 194 1 := by rw [← hs44]; exact zset_k (zne_r zc_194 zc_164 (by decide))
  have e55 : s43 199 0 = s26 199 0 := by rw [← hs44]; exact zset_k (zne_r zc_199 zc_164 (by decide))
  have e56 : s43 199 1 = s26 199 1 := by rw [← hs44]; exact zset_k (zne_r zc_199 zc_164 (by decide))
  have e57 : s43 199 2 = s26 199 2 := by rw [← hs44]; exact zset_k (zne_r zc_199 zc_164 (by decide))
  have e58 : s43 200 0 = s26 200 0 := by rw [← hs44]; exact zset_k (zne_r zc_200 zc_164 (by decide))
  have e59 : s43 200 1 = s26 200 1 := by rw [← hs44]; exact zset_k (zne_r zc_200 zc_164 (by decide))
  refine zt_aload_n (pc' := 19) hX dX12_pane_18 rfl rfl ?_
  refine zt_iconst (pc' := 20) hX dX12_pane_19 rfl ?_
  refine zt_put (pc' := 23) (x := (-1)) hX dX12_pane_20 rfl zf_X12_266 (by decide) zc_164 zs_46 (fun q hq => by cases hq; rfl) rfl rfl rfl ?_
  generalize hs61 : zset s43 164 4 (-1) = s60
  have hI62 : zInv s60 := hs61 ▸ zp_46_4 hI45 zc_164 ⟨by omega, by omega⟩
  have hF63 : zGN σ s60 := hs61 ▸ zGN_set hF46 zc_164 (by decide) zk_46 (Or.inr (by decide)) (by decide)
  have w64 := zwk_m hs61 (by decide)
  have e65 : s60 164 2 = s43 164 2 := by rw [← hs61]; exact zset_j (by decide)
  have e66 : s60 164 3 = s43 164 3 := by rw [← hs61]; exact zset_j (by decide)
  have e67 : s60 164 5 = s43 164 5 := by rw [← hs61]; exact zset_j (by decide)
  have e68 : s60 164 4 = (-1) := by rw [← hs61]; exact zset_s
  have e69 : s60 164 48 = s43 164 48 := by rw [← hs61]; exact zset_j (by decide)
  have e70 : s60 194 0 = s43 194 0 := by rw [← hs61]; exact zset_k (zne_r zc_194 zc_164 (by decide))
  have e71 : s60 194 1 = s43 194 1 := by rw [← hs61]; exact zset_k (zne_r zc_194 zc_164 (by decide))
  have e72 : s60 199 0 = s43 199 0 := by rw [← hs61]; exact zset_k (zne_r zc_199 zc_164 (by decide))
  have e73 : s60 199 1 = s43 199 1 := by rw [← hs61]; exact zset_k (zne_r zc_199 zc_164 (by decide))
  have e74 : s60 199 2 = s43 199 2 := by rw [← hs61]; exact zset_k (zne_r zc_199 zc_164 (by decide))
  have e75 : s60 200 0 = s43 200 0 := by rw [← hs61]; exact zset_k (zne_r zc_200 zc_164 (by decide))
  have e76 : s60 200 1 = s43 200 1 := by rw [← hs61]; exact zset_k (zne_r zc_200 zc_164 (by decide))
  refine zt_aload_n (pc' := 24) hX dX12_pane_23 rfl rfl ?_
  refine zt_iconst (pc' := 25) hX dX12_pane_24 rfl ?_
  refine zt_put (pc' := 28) (x := 0) hX dX12_pane_25 rfl zf_X12_246 (by decide) zc_164 zs_46 (fun q hq => by cases hq; rfl) rfl rfl rfl ?_
  generalize hs78 : zset s60 164 5 0 = s77
  have hI79 : zInv s77 := hs78 ▸ zp_46_5 hI62 zc_164 ⟨by omega, by omega⟩
  have hF80 : zGN σ s77 := hs78 ▸ zGN_set hF63 zc_164 (by decide) zk_46 (Or.inr (by decide)) (by decide)
  have w81 := zwk_m hs78 (by decide)
  have e82 : s77 164 2 = s60 164 2 := by rw [← hs78]; exact zset_j (by decide)
  have e83 : s77 164 3 = s60 164 3 := by rw [← hs78]; exact zset_j (by decide)
  have e84 : s77 164 5 = 0 := by rw [← hs78]; exact zset_s
  have e85 : s77 164 4 = s60 164 4 := by rw [← hs78]; exact zset_j (by decide)
  have e86 : s77 164 48 = s60 164 48 := by rw [← hs78]; exact zset_j (by decide)
  have e87 : s77 194 0 = s60 194 0 := by rw [← hs78]; exact zset_k (zne_r zc_194 zc_164 (by decide))
  have e88 : s77 194 1 = s60 194 1 := by rw [← hs78]; exact zset_k (zne_r zc_194 zc_164 (by decide))
  have e89 : s77 199 0 = s60 199 0 := by rw [← hs78]; exact zset_k (zne_r zc_199 zc_164 (by decide))
  have e90 : s77 199 1 = s60 199 1 := by rw [← hs78]; exact zset_k (zne_r zc_199 zc_164 (by decide))
  have e91 : s77 199 2 = s60 199 2 := by rw [← hs78]; exact zset_k (zne_r zc_199 zc_164 (by decide))
  have e92 : s77 200 0 = s60 200 0 := by rw [← hs78]; exact zset_k (zne_r zc_200 zc_164 (by decide))
  have e93 : s77 200 1 = s60 200 1 := by rw [← hs78]; exact zset_k (zne_r zc_200 zc_164 (by decide))
  refine zt_aload_n (pc' := 29) hX dX12_pane_28 rfl rfl ?_
  refine zt_iconst (pc' := 30) hX dX12_pane_29 rfl ?_
  refine zt_put (pc' := 33) (x := (-1)) hX dX12_pane_30 rfl zf_X12_249 (by decide) zc_164 zs_46 (fun q hq => by cases hq; rfl) rfl rfl rfl ?_
  generalize hs95 : zset s77 164 6 (-1) = s94
  have hI96 : zInv s94 := hs95 ▸ zp_46_6 hI79 zc_164 ⟨by omega, by omega⟩
  have hF97 : zGN σ s94 := hs95 ▸ zGN_set hF80 zc_164 (by decide) zk_46 (Or.inr (by decide)) (by decide)
  have w98 := zwk_m hs95 (by decide)
  have e99 : s94 164 2 = s77 164 2 := by rw [← hs95]; exact zset_j (by decide)
  have e100 : s94 164 3 = s77 164 3 := by rw [← hs95]; exact zset_j (by decide)
  have e101 : s94 164 5 = s77 164 5 := by rw [← hs95]; exact zset_j (by decide)
  have e102 : s94 164 4 = s77 164 4 := by rw [← hs95]; exact zset_j (by decide)
  have e103 : s94 164 48 = s77 164 48 := by rw [← hs95]; exact zset_j (by decide)
  have e104 : s94 194 0 = s77 194 0 := by rw [← hs95]; exact zset_k (zne_r zc_194 zc_164 (by decide))
  have e105 : s94 194 1 = s77 194 1 := by rw [← hs95]; exact zset_k (zne_r zc_194 zc_164 (by decide))
  have e106 : s94 199 0 = s77 199 0 := by rw [← hs95]; exact zset_k (zne_r zc_199 zc_164 (by decide))
  have e107 : s94 199 1 = s77 199 1 := by rw [← hs95]; exact zset_k (zne_r zc_199 zc_164 (by decide))
  have e108 : s94 199 2 = s77 199 2 := by rw [← hs95]; exact zset_k (zne_r zc_199 zc_164 (by decide))
  have e109 : s94 200 0 = s77 200 0 := by rw [← hs95]; exact zset_k (zne_r zc_200 zc_164 (by decide))
  have e110 : s94 200 1 = s77 200 1 := by rw [← hs95]; exact zset_k (zne_r zc_200 zc_164 (by decide))
  refine zt_aload_n (pc' := 34) hX dX12_pane_33 rfl rfl ?_
  refine zt_iconst (pc' := 35) hX dX12_pane_34 rfl ?_
  refine zt_put (pc' := 38) (x := 0) hX dX12_pane_35 rfl zf_X12_348 (by decide) zc_164 zs_46 (fun q hq => by cases hq; rfl) rfl rfl rfl ?_
  generalize hs112 : zset s94 164 48 0 = s111
  have hI113 : zInv s111 := hs112 ▸ zp_46_48 hI96 zc_164 ⟨by omega, by omega⟩
  have hF114 : zGN σ s111 := hs112 ▸ zGN_set hF97 zc_164 (by decide) zk_46 (Or.inr (by decide)) (by decide)
  have e115 : s111 164 2 = s94 164 2 := by rw [← hs112]; exact zset_j (by decide)
  have e116 : s111 164 3 = s94 164 3 := by rw [← hs112]; exact zset_j (by decide)
  have e117 : s111 164 5 = s94 164 5 := by rw [← hs112]; exact zset_j (by decide)
  have e118 : s111 164 4 = s94 164 4 := by rw [← hs112]; exact zset_j (by decide)
  have e119 : s111 164 48 = 0 := by rw [← hs112]; exact zset_s
  have e120 : s111 194 0 = s94 194 0 := by rw [← hs112]; exact zset_k (zne_r zc_194 zc_164 (by decide))
  have e121 : s111 194 1 = s94 194 1 := by rw [← hs112]; exact zset_k (zne_r zc_194 zc_164 (by decide))
  have e122 : s111 199 0 = s94 199 0 := by rw [← hs112]; exact zset_k (zne_r zc_199 zc_164 (by decide))
  have e123 : s111 199 1 = s94 199 1 := by rw [← hs112]; exact zset_k (zne_r zc_199 zc_164 (by decide))
  have e124 : s111 199 2 = s94 199 2 := by rw [← hs112]; exact zset_k (zne_r zc_199 zc_164 (by decide))
  have e125 : s111 200 0 = s94 200 0 := by rw [← hs112]; exact zset_k (zne_r zc_200 zc_164 (by decide))
  have e126 : s111 200 1 = s94 200 1 := by rw [← hs112]; exact zset_k (zne_r zc_200 zc_164 (by decide))
  refine zt_aload_n (pc' := 39) hX dX12_pane_38 rfl rfl ?_
  refine zt_get (pc' := 42) (v := .ref (X.1.1 + 195)) hX dX12_pane_39 rfl zf_X12_105 (by decide) zc_164 zs_46 (zrf_of (zv_46_40 hI113 zc_164)) ?_
  refine zt_iconst (pc' := 43) hX dX12_pane_42 rfl ?_
  refine zt_iconst (pc' := 44) hX dX12_pane_43 rfl ?_
  refine zt_iast (pc' := 45) hX dX12_pane_44 rfl (by decide) zc_195 zs_77 (by decide) ⟨by omega, by omega⟩ ?_
  rw [show Int.toNat 0 = 0 from rfl]
  generalize hs128 : zset s111 195 0 0 = s127
  have hI129 : zInv s127 := hs128 ▸ zp_77 hI113 zc_195 0 ⟨by omega, by omega⟩
  have hF130 : zGN σ s127 := hs128 ▸ zGN_set hF114 zc_195 (by decide) zk_77 (Or.inl (by decide)) (by decide)
  have w131 := zwk_k hs128 (by decide)
  have e132 : s127 164 2 = s111 164 2 := by rw [← hs128]; exact zset_k (zne_r zc_164 zc_195 (by decide))
  have e133 : s127 164 3 = s111 164 3 := by rw [← hs128]; exact zset_k (zne_r zc_164 zc_195 (by decide))
  have e134 : s127 164 5 = s111 164 5 := by rw [← hs128]; exact zset_k (zne_r zc_164 zc_195 (by decide))
  have e135 : s127 164 4 = s111 164 4 := by rw [← hs128]; exact zset_k (zne_r zc_164 zc_195 (by decide))
  have e136 : s127 164 48 = s111 164 48 := by rw [← hs128]; exact zset_k (zne_r zc_164 zc_195 (by decide))
  have e137 : s127 194 0 = s111 194 0 := by rw [← hs128]; exact zset_k (zne_r zc_194 zc_195 (by decide))
  have e138 : s127 194 1 = s111 194 1 := by rw [← hs128]; exact zset_k (zne_r zc_194 zc_195 (by decide))
  have e139 : s127 199 0 = s111 199 0 := by rw [← hs128]; exact zset_k (zne_r zc_199 zc_195 (by decide))
  have e140 : s127 199 1 = s111 199 1 := by rw [← hs128]; exact zset_k (zne_r zc_199 zc_195 (by decide))
  have e141 : s127 199 2 = s111 199 2 := by rw [← hs128]; exact zset_k (zne_r zc_199 zc_195 (by decide))
  have e142 : s127 200 0 = s111 200 0 := by rw [← hs128]; exact zset_k (zne_r zc_200 zc_195 (by decide))
  have e143 : s127 200 1 = s111 200 1 := by rw [← hs128]; exact zset_k (zne_r zc_200 zc_195 (by decide))
  refine zt_iconst (pc' := 46) hX dX12_pane_45 rfl ?_
  refine zt_istore_n (pc' := 47) (lv' := [some (.ref (X.1.1 + 164)), some (.int (zI 0))]) hX dX12_pane_46 rfl hL (by decide) rfl ?_
  have L_47_152 : ∀ (N : Nat) (x144 : Int) (s147 : zSto), 0 ≤ x144 → x144 ≤ 36 → zInv s147 → zGN σ s147 → s147 164 2 = 0 → s147 164 5 = 0 → s147 164 48 = 0 → ((37 - x144).toNat) < N → zF X s147 47 [some (.ref (X.1.1 + 164)), some (.int (zI x144))] [] := by
    intro N
    induction N with
    | zero =>
      intro x144 s147 h145 h146 hI148 hF149 g150 g151 g152 hm154
      exact absurd hm154 (Nat.not_lt_zero _)
    | succ N ih155 =>
      intro x144 s147 h145 h146 hI148 hF149 g150 g151 g152 hm154
      have b156 := zv_46_2 hI148 zc_164
      have b157 := zv_46_3 hI148 zc_164
      have b158 := zv_46_5 hI148 zc_164
      have b159 := zv_46_4 hI148 zc_164
      have b160 := zv_46_48 hI148 zc_164
      have b161 := zv_82 hI148 zc_200 0
      have b162 := zv_82 hI148 zc_200 1
      refine zt_iload_n (pc' := 48) hX dX12_pane_47 rfl rfl ?_
      refine zt_bipush (pc' := 50) hX dX12_pane_48 rfl (by decide) (by decide) ?_
      refine zt_icge (pc' := 53) (tgt := 66) hX dX12_pane_50 rfl (by decide) ⟨by omega, by omega⟩ ⟨by omega, by omega⟩ (fun c163 => ?_) (fun c163 => ?_)
      · refine zt_aload_n (pc' := 67) hX dX12_pane_66 rfl rfl ?_
        refine zt_get (pc' := 70) (v := .ref (X.1.1 + 200)) hX dX12_pane_67 rfl zf_X12_121 (by decide) zc_164 zs_46 (zrf_of (zv_46_45 hI148 zc_164)) ?_
        refine zt_iconst (pc' := 71) hX dX12_pane_70 rfl ?_
        refine zt_iconst (pc' := 72) hX dX12_pane_71 rfl ?_
        refine zt_iast (pc' := 73) hX dX12_pane_72 rfl (by decide) zc_200 zs_82 (by decide) ⟨by omega, by omega⟩ ?_
        rw [show Int.toNat 0 = 0 from rfl]
        generalize hs165 : zset s147 200 0 (-1) = s164
        have hI166 : zInv s164 := hs165 ▸ zp_82 hI148 zc_200 0 ⟨by omega, by omega⟩
        have hF167 : zGN σ s164 := hs165 ▸ zGN_cf hF149 (by decide)
        have e168 : s164 164 2 = s147 164 2 := by rw [← hs165]; exact zset_k (zne_r zc_164 zc_200 (by decide))
        have e169 : s164 164 3 = s147 164 3 := by rw [← hs165]; exact zset_k (zne_r zc_164 zc_200 (by decide))
        have e170 : s164 164 5 = s147 164 5 := by rw [← hs165]; exact zset_k (zne_r zc_164 zc_200 (by decide))
        have e171 : s164 164 4 = s147 164 4 := by rw [← hs165]; exact zset_k (zne_r zc_164 zc_200 (by decide))
        have e172 : s164 164 48 = s147 164 48 := by rw [← hs165]; exact zset_k (zne_r zc_164 zc_200 (by decide))
        have e173 : s164 194 0 = s147 194 0 := by rw [← hs165]; exact zset_k (zne_r zc_194 zc_200 (by decide))
        have e174 : s164 194 1 = s147 194 1 := by rw [← hs165]; exact zset_k (zne_r zc_194 zc_200 (by decide))
        have e175 : s164 199 0 = s147 199 0 := by rw [← hs165]; exact zset_k (zne_r zc_199 zc_200 (by decide))
        have e176 : s164 199 1 = s147 199 1 := by rw [← hs165]; exact zset_k (zne_r zc_199 zc_200 (by decide))
        have e177 : s164 199 2 = s147 199 2 := by rw [← hs165]; exact zset_k (zne_r zc_199 zc_200 (by decide))
        have e178 : s164 200 0 = (-1) := by rw [← hs165]; exact zset_s
        have e179 : s164 200 1 = s147 200 1 := by rw [← hs165]; exact zset_j (by decide)
        refine zt_aload_n (pc' := 74) hX dX12_pane_73 rfl rfl ?_
        refine zt_get (pc' := 77) (v := .ref (X.1.1 + 200)) hX dX12_pane_74 rfl zf_X12_121 (by decide) zc_164 zs_46 (zrf_of (zv_46_45 hI166 zc_164)) ?_
        refine zt_iconst (pc' := 78) hX dX12_pane_77 rfl ?_
        refine zt_iconst (pc' := 79) hX dX12_pane_78 rfl ?_
        refine zt_iast (pc' := 80) hX dX12_pane_79 rfl (by decide) zc_200 zs_82 (by decide) ⟨by omega, by omega⟩ ?_
        rw [show Int.toNat 1 = 1 from rfl]
        generalize hs181 : zset s164 200 1 (-1) = s180
        have hI182 : zInv s180 := hs181 ▸ zp_82 hI166 zc_200 1 ⟨by omega, by omega⟩
        have hF183 : zGN σ s180 := hs181 ▸ zGN_cf hF167 (by decide)
        have e184 : s180 164 2 = s164 164 2 := by rw [← hs181]; exact zset_k (zne_r zc_164 zc_200 (by decide))
        have e185 : s180 164 3 = s164 164 3 := by rw [← hs181]; exact zset_k (zne_r zc_164 zc_200 (by decide))
        have e186 : s180 164 5 = s164 164 5 := by rw [← hs181]; exact zset_k (zne_r zc_164 zc_200 (by decide))
        have e187 : s180 164 4 = s164 164 4 := by rw [← hs181]; exact zset_k (zne_r zc_164 zc_200 (by decide))
        have e188 : s180 164 48 = s164 164 48 := by rw [← hs181]; exact zset_k (zne_r zc_164 zc_200 (by decide))
        have e189 : s180 194 0 = s164 194 0 := by rw [← hs181]; exact zset_k (zne_r zc_194 zc_200 (by decide))
        have e190 : s180 194 1 = s164 194 1 := by rw [← hs181]; exact zset_k (zne_r zc_194 zc_200 (by decide))
        have e191 : s180 199 0 = s164 199 0 := by rw [← hs181]; exact zset_k (zne_r zc_199 zc_200 (by decide))
        have e192 : s180 199 1 = s164 199 1 := by rw [← hs181]; exact zset_k (zne_r zc_199 zc_200 (by decide))
        have e193 : s180 199 2 = s164 199 2 := by rw [← hs181]; exact zset_k (zne_r zc_199 zc_200 (by decide))
        have e194 : s180 200 0 = s164 200 0 := by rw [← hs181]; exact zset_j (by decide)
        have e195 : s180 200 1 = (-1) := by rw [← hs181]; exact zset_s
        have h196 := zwk_0 (s := s180) (by omega) (by omega)
        refine zt_aload_n (pc' := 81) hX dX12_pane_80 rfl rfl ?_
        refine zt_get (pc' := 84) (v := .ref (X.1.1 + 199)) hX dX12_pane_81 rfl zf_X12_118 (by decide) zc_164 zs_46 (zrf_of (zv_46_44 hI182 zc_164)) ?_
        refine zt_iconst (pc' := 85) hX dX12_pane_84 rfl ?_
        refine zt_iconst (pc' := 86) hX dX12_pane_85 rfl ?_
        refine zt_iast (pc' := 87) hX dX12_pane_86 rfl (by decide) zc_199 zs_81 (by decide) ⟨by omega, by omega⟩ ?_
        rw [show Int.toNat 0 = 0 from rfl]
        generalize hs198 : zset s180 199 0 3 = s197
        have hI199 : zInv s197 := hs198 ▸ zp_81 hI182 zc_199 0 (by omega)
        have hF200 : zGN σ s197 := hs198 ▸ zGN_set hF183 zc_199 (by decide) zk_81 (Or.inl (by decide)) (by decide)
        have w201 := zwk_k hs198 (by decide)
        have e202 : s197 164 2 = s180 164 2 := by rw [← hs198]; exact zset_k (zne_r zc_164 zc_199 (by decide))
        have e203 : s197 164 3 = s180 164 3 := by rw [← hs198]; exact zset_k (zne_r zc_164 zc_199 (by decide))
        have e204 : s197 164 5 = s180 164 5 := by rw [← hs198]; exact zset_k (zne_r zc_164 zc_199 (by decide))
        have e205 : s197 164 4 = s180 164 4 := by rw [← hs198]; exact zset_k (zne_r zc_164 zc_199 (by decide))
        have e206 : s197 164 48 = s180 164 48 := by rw [← hs198]; exact zset_k (zne_r zc_164 zc_199 (by decide))
        have e207 : s197 194 0 = s180 194 0 := by rw [← hs198]; exact zset_k (zne_r zc_194 zc_199 (by decide))
        have e208 : s197 194 1 = s180 194 1 := by rw [← hs198]; exact zset_k (zne_r zc_194 zc_199 (by decide))
        have e209 : s197 199 0 = 3 := by rw [← hs198]; exact zset_s
        have e210 : s197 199 1 = s180 199 1 := by rw [← hs198]; exact zset_j (by decide)
        have e211 : s197 199 2 = s180 199 2 := by rw [← hs198]; exact zset_j (by decide)
        have e212 : s197 200 0 = s180 200 0 := by rw [← hs198]; exact zset_k (zne_r zc_200 zc_199 (by decide))
        have e213 : s197 200 1 = s180 200 1 := by rw [← hs198]; exact zset_k (zne_r zc_200 zc_199 (by decide))
        refine zt_aload_n (pc' := 88) hX dX12_pane_87 rfl rfl ?_
        refine zt_get (pc' := 91) (v := .ref (X.1.1 + 199)) hX dX12_pane_88 rfl zf_X12_118 (by decide) zc_164 zs_46 (zrf_of (zv_46_44 hI199 zc_164)) ?_
        refine zt_iconst (pc' := 92) hX dX12_pane_91 rfl ?_
        refine zt_bipush (pc' := 94) hX dX12_pane_92 rfl (by decide) (by decide) ?_
        refine zt_iast (pc' := 95) hX dX12_pane_94 rfl (by decide) zc_199 zs_81 (by decide) ⟨by omega, by omega⟩ ?_
        rw [show Int.toNat 1 = 1 from rfl]
        generalize hs215 : zset s197 199 1 20 = s214
        have hI216 : zInv s214 := hs215 ▸ zp_81 hI199 zc_199 1 (by omega)
        have hF217 : zGN σ s214 := hs215 ▸ zGN_set hF200 zc_199 (by decide) zk_81 (Or.inl (by decide)) (by decide)
        have w218 := zwk_k hs215 (by decide)
        have e219 : s214 164 2 = s197 164 2 := by rw [← hs215]; exact zset_k (zne_r zc_164 zc_199 (by decide))
        have e220 : s214 164 3 = s197 164 3 := by rw [← hs215]; exact zset_k (zne_r zc_164 zc_199 (by decide))
        have e221 : s214 164 5 = s197 164 5 := by rw [← hs215]; exact zset_k (zne_r zc_164 zc_199 (by decide))
        have e222 : s214 164 4 = s197 164 4 := by rw [← hs215]; exact zset_k (zne_r zc_164 zc_199 (by decide))
        have e223 : s214 164 48 = s197 164 48 := by rw [← hs215]; exact zset_k (zne_r zc_164 zc_199 (by decide))
        have e224 : s214 194 0 = s197 194 0 := by rw [← hs215]; exact zset_k (zne_r zc_194 zc_199 (by decide))
        have e225 : s214 194 1 = s197 194 1 := by rw [← hs215]; exact zset_k (zne_r zc_194 zc_199 (by decide))
        have e226 : s214 199 0 = s197 199 0 := by rw [← hs215]; exact zset_j (by decide)
        have e227 : s214 199 1 = 20 := by rw [← hs215]; exact zset_s
        have e228 : s214 199 2 = s197 199 2 := by rw [← hs215]; exact zset_j (by decide)
        have e229 : s214 200 0 = s197 200 0 := by rw [← hs215]; exact zset_k (zne_r zc_200 zc_199 (by decide))
        have e230 : s214 200 1 = s197 200 1 := by rw [← hs215]; exact zset_k (zne_r zc_200 zc_199 (by decide))
        refine zt_aload_n (pc' := 96) hX dX12_pane_95 rfl rfl ?_
        refine zt_get (pc' := 99) (v := .ref (X.1.1 + 199)) hX dX12_pane_96 rfl zf_X12_118 (by decide) zc_164 zs_46 (zrf_of (zv_46_44 hI216 zc_164)) ?_
        refine zt_iconst (pc' := 100) hX dX12_pane_99 rfl ?_
        refine zt_iconst (pc' := 101) hX dX12_pane_100 rfl ?_
        refine zt_iast (pc' := 102) hX dX12_pane_101 rfl (by decide) zc_199 zs_81 (by decide) ⟨by omega, by omega⟩ ?_
        rw [show Int.toNat 2 = 2 from rfl]
        generalize hs232 : zset s214 199 2 0 = s231
        have hI233 : zInv s231 := hs232 ▸ zp_81 hI216 zc_199 2 (by omega)
        have hF234 : zGN σ s231 := hs232 ▸ zGN_set hF217 zc_199 (by decide) zk_81 (Or.inl (by decide)) (by decide)
        have w235 := zwk_k hs232 (by decide)
        have e236 : s231 164 2 = s214 164 2 := by rw [← hs232]; exact zset_k (zne_r zc_164 zc_199 (by decide))
        have e237 : s231 164 3 = s214 164 3 := by rw [← hs232]; exact zset_k (zne_r zc_164 zc_199 (by decide))
        have e238 : s231 164 5 = s214 164 5 := by rw [← hs232]; exact zset_k (zne_r zc_164 zc_199 (by decide))
        have e239 : s231 164 4 = s214 164 4 := by rw [← hs232]; exact zset_k (zne_r zc_164 zc_199 (by decide))
        have e240 : s231 164 48 = s214 164 48 := by rw [← hs232]; exact zset_k (zne_r zc_164 zc_199 (by decide))
        have e241 : s231 194 0 = s214 194 0 := by rw [← hs232]; exact zset_k (zne_r zc_194 zc_199 (by decide))
        have e242 : s231 194 1 = s214 194 1 := by rw [← hs232]; exact zset_k (zne_r zc_194 zc_199 (by decide))
        have e243 : s231 199 0 = s214 199 0 := by rw [← hs232]; exact zset_j (by decide)
        have e244 : s231 199 1 = s214 199 1 := by rw [← hs232]; exact zset_j (by decide)
        have e245 : s231 199 2 = 0 := by rw [← hs232]; exact zset_s
        have e246 : s231 200 0 = s214 200 0 := by rw [← hs232]; exact zset_k (zne_r zc_200 zc_199 (by decide))
        have e247 : s231 200 1 = s214 200 1 := by rw [← hs232]; exact zset_k (zne_r zc_200 zc_199 (by decide))
        refine zt_aload_n (pc' := 103) hX dX12_pane_102 rfl rfl ?_
        refine zt_cVv (pc' := 106) hX dX12_pane_103 rfl zm_yX12_paneTold zw_25_20 zc_164 (by decide) zs_46 (q := (RX12, TX12, 108)) rfl rfl (zc_X12_paneTold _ _ s231 hI233 ) rfl rfl (Nat.le_of_ble_eq_true rfl) (by decide) (fun r248 s249 hr250 hp251 => ?_)
        obtain ⟨hI252, hF253, z254, z255, z256⟩ := hp251
        have w257 := zwk_q7 hF253
        have e258 := hF253 164 3 rfl
        have e259 := hF253 164 48 rfl
        have e260 := hF253 199 0 rfl
        have e261 := hF253 199 1 rfl
        have e262 := hF253 199 2 rfl
        have e263 := hF253 200 0 rfl
        have e264 := hF253 200 1 rfl
        have hF265 := zGN_tr hF234 (zOn_GN (zOn_up hF253 zi_73))
        have b266 := zv_46_2 hI252 zc_164
        have b267 := zv_46_3 hI252 zc_164
        have b268 := zv_46_5 hI252 zc_164
        have b269 := zv_46_4 hI252 zc_164
        have b270 := zv_46_48 hI252 zc_164
        have b271 := zv_82 hI252 zc_200 0
        have b272 := zv_82 hI252 zc_200 1
        replace z254 : _ ∧ _ := ⟨z254.1, z254.2 (by omega)⟩
        refine zt_aload_n (pc' := 107) hX dX12_pane_106 rfl rfl ?_
        refine zt_iconst (pc' := 108) hX dX12_pane_107 rfl ?_
        refine zt_put (pc' := 111) (x := 1) hX dX12_pane_108 rfl zf_X12_351 (by decide) zc_164 zs_46 (fun q hq => by cases hq; rfl) rfl rfl rfl ?_
        generalize hs274 : zset s249 164 49 1 = s273
        have hI275 : zInv s273 := hs274 ▸ zp_46_49 hI252 zc_164 ⟨by omega, by omega⟩
        have hF276 : zGN σ s273 := hs274 ▸ zGN_set hF265 zc_164 (by decide) zk_46 (Or.inr (by decide)) (by decide)
        have w277 := zwk_m hs274 (by decide)
        have e278 : s273 164 2 = s249 164 2 := by rw [← hs274]; exact zset_j (by decide)
        have e279 : s273 164 3 = s249 164 3 := by rw [← hs274]; exact zset_j (by decide)
        have e280 : s273 164 5 = s249 164 5 := by rw [← hs274]; exact zset_j (by decide)
        have e281 : s273 164 4 = s249 164 4 := by rw [← hs274]; exact zset_j (by decide)
        have e282 : s273 164 48 = s249 164 48 := by rw [← hs274]; exact zset_j (by decide)
        have e283 : s273 194 0 = s249 194 0 := by rw [← hs274]; exact zset_k (zne_r zc_194 zc_164 (by decide))
        have e284 : s273 194 1 = s249 194 1 := by rw [← hs274]; exact zset_k (zne_r zc_194 zc_164 (by decide))
        have e285 : s273 199 0 = s249 199 0 := by rw [← hs274]; exact zset_k (zne_r zc_199 zc_164 (by decide))
        have e286 : s273 199 1 = s249 199 1 := by rw [← hs274]; exact zset_k (zne_r zc_199 zc_164 (by decide))
        have e287 : s273 199 2 = s249 199 2 := by rw [← hs274]; exact zset_k (zne_r zc_199 zc_164 (by decide))
        have e288 : s273 200 0 = s249 200 0 := by rw [← hs274]; exact zset_k (zne_r zc_200 zc_164 (by decide))
        have e289 : s273 200 1 = s249 200 1 := by rw [← hs274]; exact zset_k (zne_r zc_200 zc_164 (by decide))
        have L_111_294 : ∀ (N : Nat) (s290 : zSto), zInv s290 → zGN σ s290 → s290 164 2 ≤ s290 164 3 → (s290 164 5 = 0 → zwk s290 = 1 ∧ s290 164 48 ≤ s290 164 2 ∧ (2 ≤ s290 194 0 ∧ s290 194 0 ≤ 6 ∧ 2 ≤ s290 194 1 ∧ s290 194 1 ≤ 6) ∧ (0 ≤ s290 199 0 ∧ s290 199 0 ≤ 100 ∧ 0 ≤ s290 199 1 ∧ s290 199 1 ≤ 100 ∧ 0 ≤ s290 199 2 ∧ s290 199 2 ≤ 100)) → ((2 * (1601 - s290 164 2) + 1 - min (max (s290 164 5) (-(s290 164 5))) 1).toNat) < N → zF X s290 111 [some (.ref (X.1.1 + 164)), none] [] := by
          clear z255 z256
          intro N
          induction N with
          | zero =>
            intro s290 hI291 hF292 g293 g294 hm296
            exact absurd hm296 (Nat.not_lt_zero _)
          | succ N ih297 =>
            intro s290 hI291 hF292 g293 g294 hm296
            have b298 := zv_46_2 hI291 zc_164
            have b299 := zv_46_3 hI291 zc_164
            have b300 := zv_46_5 hI291 zc_164
            have b301 := zv_46_4 hI291 zc_164
            have b302 := zv_46_48 hI291 zc_164
            have b303 := zv_82 hI291 zc_200 0
            have b304 := zv_82 hI291 zc_200 1
            refine zt_aload_n (pc' := 112) hX dX12_pane_111 rfl rfl ?_
            have b305 := zv_46_5 hI291 zc_164
            refine zt_get (pc' := 115) (v := .int (zI (s290 164 5))) hX dX12_pane_112 rfl zf_X12_246 (by decide) zc_164 zs_46 rfl ?_
            have J_133_310 : ∀ (s306 : zSto), zInv s306 → zGN σ s306 → s306 164 2 ≤ s306 164 3 → (s306 164 5 = 0 → zwk s306 = 1 ∧ s306 164 48 ≤ s306 164 2 ∧ (2 ≤ s306 194 0 ∧ s306 194 0 ≤ 6 ∧ 2 ≤ s306 194 1 ∧ s306 194 1 ≤ 6) ∧ (0 ≤ s306 199 0 ∧ s306 199 0 ≤ 100 ∧ 0 ≤ s306 199 1 ∧ s306 199 1 ≤ 100 ∧ 0 ≤ s306 199 2 ∧ s306 199 2 ≤ 100)) → zF X s306 133 [some (.ref (X.1.1 + 164)), none] [] := by
              clear g294
              intro s306 hI307 hF308 g309 g310
              have b312 := zv_46_2 hI307 zc_164
              have b313 := zv_46_3 hI307 zc_164
              have b314 := zv_46_5 hI307 zc_164
              have b315 := zv_46_4 hI307 zc_164
              have b316 := zv_46_48 hI307 zc_164
              have b317 := zv_82 hI307 zc_200 0
              have b318 := zv_82 hI307 zc_200 1
              refine zt_aload_n (pc' := 134) hX dX12_pane_133 rfl rfl ?_
              refine zt_aload_n (pc' := 135) hX dX12_pane_134 rfl rfl ?_
              have b319 := zv_46_5 hI307 zc_164
              refine zt_get (pc' := 138) (v := .int (zI (s306 164 5))) hX dX12_pane_135 rfl zf_X12_246 (by decide) zc_164 zs_46 rfl ?_
              refine zt_put (pc' := 141) (x := (s306 164 5)) hX dX12_pane_138 rfl zf_X12_369 (by decide) zc_164 zs_46 (fun q hq => by cases hq; rfl) rfl rfl rfl ?_
              generalize hs321 : zset s306 164 7 (s306 164 5) = s320
              have hI322 : zInv s320 := hs321 ▸ zp_46_7 hI307 zc_164 ⟨by omega, by omega⟩
              have hF323 : zGN σ s320 := hs321 ▸ zGN_set hF308 zc_164 (by decide) zk_46 (Or.inr (by decide)) (by decide)
              have w324 := zwk_m hs321 (by decide)
              have e325 : s320 164 2 = s306 164 2 := by rw [← hs321]; exact zset_j (by decide)
              have e326 : s320 164 3 = s306 164 3 := by rw [← hs321]; exact zset_j (by decide)
              have e327 : s320 164 5 = s306 164 5 := by rw [← hs321]; exact zset_j (by decide)
              have e328 : s320 164 4 = s306 164 4 := by rw [← hs321]; exact zset_j (by decide)
              have e329 : s320 164 48 = s306 164 48 := by rw [← hs321]; exact zset_j (by decide)
              have e330 : s320 194 0 = s306 194 0 := by rw [← hs321]; exact zset_k (zne_r zc_194 zc_164 (by decide))
              have e331 : s320 194 1 = s306 194 1 := by rw [← hs321]; exact zset_k (zne_r zc_194 zc_164 (by decide))
              have e332 : s320 199 0 = s306 199 0 := by rw [← hs321]; exact zset_k (zne_r zc_199 zc_164 (by decide))
              have e333 : s320 199 1 = s306 199 1 := by rw [← hs321]; exact zset_k (zne_r zc_199 zc_164 (by decide))
              have e334 : s320 199 2 = s306 199 2 := by rw [← hs321]; exact zset_k (zne_r zc_199 zc_164 (by decide))
              have e335 : s320 200 0 = s306 200 0 := by rw [← hs321]; exact zset_k (zne_r zc_200 zc_164 (by decide))
              have e336 : s320 200 1 = s306 200 1 := by rw [← hs321]; exact zset_k (zne_r zc_200 zc_164 (by decide))
              refine zt_aload_n (pc' := 142) hX dX12_pane_141 rfl rfl ?_
              refine zt_aload_n (pc' := 143) hX dX12_pane_142 rfl rfl ?_
              have b337 := zv_46_6 hI322 zc_164
              have e338 : s320 164 6 = s306 164 6 := by rw [← hs321]; exact zset_j (by decide)
              refine zt_get (pc' := 146) (v := .int (zI (s320 164 6))) hX dX12_pane_143 rfl zf_X12_249 (by decide) zc_164 zs_46 rfl ?_
              refine zt_put (pc' := 149) (x := (s320 164 6)) hX dX12_pane_146 rfl zf_X12_13 (by decide) zc_164 zs_46 (fun q hq => by cases hq; rfl) rfl rfl rfl ?_
              generalize hs340 : zset s320 164 8 (s320 164 6) = s339
              have hI341 : zInv s339 := hs340 ▸ zp_46_8 hI322 zc_164 ⟨by omega, by omega⟩
              have hF342 : zGN σ s339 := hs340 ▸ zGN_set hF323 zc_164 (by decide) zk_46 (Or.inr (by decide)) (by decide)
              have w343 := zwk_m hs340 (by decide)
              have e344 : s339 164 2 = s320 164 2 := by rw [← hs340]; exact zset_j (by decide)
              have e345 : s339 164 3 = s320 164 3 := by rw [← hs340]; exact zset_j (by decide)
              have e346 : s339 164 5 = s320 164 5 := by rw [← hs340]; exact zset_j (by decide)
              have e347 : s339 164 4 = s320 164 4 := by rw [← hs340]; exact zset_j (by decide)
              have e348 : s339 164 48 = s320 164 48 := by rw [← hs340]; exact zset_j (by decide)
              have e349 : s339 194 0 = s320 194 0 := by rw [← hs340]; exact zset_k (zne_r zc_194 zc_164 (by decide))
              have e350 : s339 194 1 = s320 194 1 := by rw [← hs340]; exact zset_k (zne_r zc_194 zc_164 (by decide))
              have e351 : s339 199 0 = s320 199 0 := by rw [← hs340]; exact zset_k (zne_r zc_199 zc_164 (by decide))
              have e352 : s339 199 1 = s320 199 1 := by rw [← hs340]; exact zset_k (zne_r zc_199 zc_164 (by decide))
              have e353 : s339 199 2 = s320 199 2 := by rw [← hs340]; exact zset_k (zne_r zc_199 zc_164 (by decide))
              have e354 : s339 200 0 = s320 200 0 := by rw [← hs340]; exact zset_k (zne_r zc_200 zc_164 (by decide))
              have e355 : s339 200 1 = s320 200 1 := by rw [← hs340]; exact zset_k (zne_r zc_200 zc_164 (by decide))
              refine zt_aload_n (pc' := 150) hX dX12_pane_149 rfl rfl ?_
              have b356 := zv_46_5 hI341 zc_164
              refine zt_get (pc' := 153) (v := .int (zI (s339 164 5))) hX dX12_pane_150 rfl zf_X12_246 (by decide) zc_164 zs_46 rfl ?_
              refine zt_ifeq (pc' := 156) (tgt := 168) hX dX12_pane_153 rfl (by decide) ⟨by omega, by omega⟩ (fun c357 => ?_) (fun c357 => ?_)
              · have qg310 := g310 (by omega)
                clear g310
                refine zt_aload_n (pc' := 169) hX dX12_pane_168 rfl rfl ?_
                have h358 := zwf_N hW hF342
                refine zt_cVv (pc' := 172) hX dX12_pane_169 rfl zm_yX12_stands zw_32_15 zc_164 (by decide) zs_46 (q := (RX12, TX12, 108)) rfl rfl (zc_X12_stands _ _ s339 hI341 (by omega) (by omega) (by omega) (by omega)) rfl rfl (Nat.le_of_ble_eq_true rfl) (by decide) (fun r359 s360 hr361 hp362 => ?_)
                obtain ⟨hI363, hF364, z365, z366⟩ := hp362
                have hF367 := zFN_tr hF342.1 hF364
                have b368 := zv_46_2 hI363 zc_164
                have b369 := zv_46_3 hI363 zc_164
                have b370 := zv_46_5 hI363 zc_164
                have b371 := zv_46_4 hI363 zc_164
                have b372 := zv_46_48 hI363 zc_164
                have b373 := zv_82 hI363 zc_200 0
                have b374 := zv_82 hI363 zc_200 1
                refine zt_aload_n (pc' := 173) hX dX12_pane_172 rfl rfl ?_
                have b375 := zv_46_49 hI363 zc_164
                refine zt_get (pc' := 176) (v := .int (zI (s360 164 49))) hX dX12_pane_173 rfl zf_X12_351 (by decide) zc_164 zs_46 rfl ?_
                exact zt_iret hX hR dX12_pane_176 ⟨by omega, by omega⟩ ⟨hI363, hF367, by omega, by omega, by omega, by omega⟩
              · clear g310
                refine zt_aload_n (pc' := 157) hX dX12_pane_156 rfl rfl ?_
                refine zt_get (pc' := 160) (v := .ref (X.1.1 + 166)) hX dX12_pane_157 rfl zf_X12_17 (by decide) zc_164 zs_46 (zrf_of (zv_46_9 hI341 zc_164)) ?_
                refine zt_iconst (pc' := 161) hX dX12_pane_160 rfl ?_
                refine zt_dup2 (pc' := 162) hX dX12_pane_161 rfl rfl rfl ?_
                refine zt_iald (pc' := 163) hX dX12_pane_162 rfl (by decide) zc_166 zs_48 (by decide) ⟨by omega, by omega⟩ ?_
                rw [show Int.toNat 1 = 1 from rfl]
                have b377 := zv_48 hI341 zc_166 1
                have e378 : s339 166 1 = s320 166 1 := by rw [← hs340]; exact zset_k (zne_r zc_166 zc_164 (by decide))
                have e379 : s320 166 1 = s306 166 1 := by rw [← hs321]; exact zset_k (zne_r zc_166 zc_164 (by decide))
                refine zt_iconst (pc' := 164) hX dX12_pane_163 rfl ?_
                refine zt_iadd (pc' := 165) hX dX12_pane_164 rfl ?_
                refine zt_wrap (fun r380 zr380 lr380 ur380 => ?_)
                clear zr380
                refine zt_iast (pc' := 166) hX dX12_pane_165 rfl (by decide) zc_166 zs_48 (by decide) ⟨by omega, by omega⟩ ?_
                rw [show Int.toNat 1 = 1 from rfl]
                generalize hs382 : zset s339 166 1 r380 = s381
                have hI383 : zInv s381 := hs382 ▸ zp_48 hI341 zc_166 1 ⟨by omega, by omega⟩
                have hF384 : zGN σ s381 := hs382 ▸ zGN_set hF342 zc_166 (by decide) zk_48 (Or.inl (by decide)) (by decide)
                have w385 := zwk_k hs382 (by decide)
                have e386 : s381 164 2 = s339 164 2 := by rw [← hs382]; exact zset_k (zne_r zc_164 zc_166 (by decide))
                have e387 : s381 164 3 = s339 164 3 := by rw [← hs382]; exact zset_k (zne_r zc_164 zc_166 (by decide))
                have e388 : s381 164 5 = s339 164 5 := by rw [← hs382]; exact zset_k (zne_r zc_164 zc_166 (by decide))
                have e389 : s381 164 4 = s339 164 4 := by rw [← hs382]; exact zset_k (zne_r zc_164 zc_166 (by decide))
                have e390 : s381 164 48 = s339 164 48 := by rw [← hs382]; exact zset_k (zne_r zc_164 zc_166 (by decide))
                have e391 : s381 194 0 = s339 194 0 := by rw [← hs382]; exact zset_k (zne_r zc_194 zc_166 (by decide))
                have e392 : s381 194 1 = s339 194 1 := by rw [← hs382]; exact zset_k (zne_r zc_194 zc_166 (by decide))
                have e393 : s381 199 0 = s339 199 0 := by rw [← hs382]; exact zset_k (zne_r zc_199 zc_166 (by decide))
                have e394 : s381 199 1 = s339 199 1 := by rw [← hs382]; exact zset_k (zne_r zc_199 zc_166 (by decide))
                have e395 : s381 199 2 = s339 199 2 := by rw [← hs382]; exact zset_k (zne_r zc_199 zc_166 (by decide))
                have e396 : s381 200 0 = s339 200 0 := by rw [← hs382]; exact zset_k (zne_r zc_200 zc_166 (by decide))
                have e397 : s381 200 1 = s339 200 1 := by rw [← hs382]; exact zset_k (zne_r zc_200 zc_166 (by decide))
                refine zt_iconst (pc' := 167) hX dX12_pane_166 rfl ?_
                have h398 := zwf_N hW hF384
                exact zt_iret hX hR dX12_pane_167 ⟨by omega, by omega⟩ ⟨hI383, hF384.1, by omega, by omega, by omega, by omega⟩
            refine zt_ifne (pc' := 118) (tgt := 133) hX dX12_pane_115 rfl (by decide) ⟨by omega, by omega⟩ (fun c399 => ?_) (fun c399 => ?_)
            · clear g294
              exact J_133_310 s290 hI291 hF292 (by omega) (fun hb => by omega)
            · have qg294 := g294 (by omega)
              clear g294
              refine zt_aload_n (pc' := 119) hX dX12_pane_118 rfl rfl ?_
              refine zt_cVi (pc' := 122) hX dX12_pane_119 rfl zm_yX12_look zw_26_12 zc_164 (by decide) zs_46 (q := (RX12, TX12, 108)) rfl rfl (zc_X12_look _ _ s290 hI291 ) rfl rfl (Nat.le_of_ble_eq_true rfl) (by decide) (fun r400 s401 hr402 hp403 => ?_)
              obtain ⟨hI404, hF405, q406, q407, z408, z409, z410, z411⟩ := hp403
              have w412 := zwk_q1 hF405
              have e413 := hF405 164 3 rfl
              have e414 := hF405 164 48 rfl
              have e415 := hF405 194 0 rfl
              have e416 := hF405 194 1 rfl
              have e417 := hF405 199 0 rfl
              have e418 := hF405 199 1 rfl
              have e419 := hF405 199 2 rfl
              have e420 := hF405 200 0 rfl
              have e421 := hF405 200 1 rfl
              have hF422 := zGN_tr hF292 (zOn_GN (zOn_up hF405 zi_13))
              have b423 := zv_46_2 hI404 zc_164
              have b424 := zv_46_3 hI404 zc_164
              have b425 := zv_46_5 hI404 zc_164
              have b426 := zv_46_4 hI404 zc_164
              have b427 := zv_46_48 hI404 zc_164
              have b428 := zv_82 hI404 zc_200 0
              have b429 := zv_82 hI404 zc_200 1
              clear z411
              replace z408 : _ ∧ _ := ⟨z408.1, z408.2 (by omega)⟩
              refine zt_iconst (pc' := 123) hX dX12_pane_122 rfl ?_
              refine zt_iceq (pc' := 126) (tgt := 133) hX dX12_pane_123 rfl (by decide) ⟨by omega, by omega⟩ ⟨by omega, by omega⟩ (fun c430 => ?_) (fun c430 => ?_)
              · clear z409
                exact J_133_310 s401 hI404 hF422 (by omega) (fun hb => by omega)
              · have qz409 := z409 (by omega)
                clear z409
                refine zt_aload_n (pc' := 127) hX dX12_pane_126 rfl rfl ?_
                refine zt_cVv (pc' := 130) hX dX12_pane_127 rfl zm_yX12_statementTold zw_27_18 zc_164 (by decide) zs_46 (q := (RX12, TX12, 108)) rfl rfl (zc_X12_statementTold _ _ s401 hI404 (by omega) (by omega) (by omega) (by omega) (by omega) (by omega)) rfl rfl (Nat.le_of_ble_eq_true rfl) (by decide) (fun r431 s432 hr433 hp434 => ?_)
                obtain ⟨hI435, hF436, z437, z438, z439⟩ := hp434
                have e440 := hF436 164 3 rfl
                have hF441 := zGN_tr hF422 (zOn_GN (zOn_up hF436 zi_id))
                have b442 := zv_46_2 hI435 zc_164
                have b443 := zv_46_3 hI435 zc_164
                have b444 := zv_46_5 hI435 zc_164
                have b445 := zv_46_4 hI435 zc_164
                have b446 := zv_46_48 hI435 zc_164
                have b447 := zv_82 hI435 zc_200 0
                have b448 := zv_82 hI435 zc_200 1
                refine zt_goto (tgt := 111) hX dX12_pane_130 (by decide) ?_
                exact ih297 s432 hI435 hF441 (by omega) (fun hb => by have qz439 := z439 (by omega); clear z439; omega) (Decidable.byCases (p := s432 164 5 = 0) (fun hb => by have qz439 := z439 (by omega); clear z439; omega) (fun hb => by clear z439; omega))
        refine zt_mask [true, false] rfl ?_
        exact L_111_294 _ s273 hI275 hF276 (by omega) (fun hb => by have qz256 := z256 (by omega); have qz255 := z255 (by omega); clear z256 z255; omega) (Nat.lt_succ_self _)
      · refine zt_aload_n (pc' := 54) hX dX12_pane_53 rfl rfl ?_
        refine zt_get (pc' := 57) (v := .ref (X.1.1 + 197)) hX dX12_pane_54 rfl zf_X12_112 (by decide) zc_164 zs_46 (zrf_of (zv_46_42 hI148 zc_164)) ?_
        refine zt_iload_n (pc' := 58) hX dX12_pane_57 rfl rfl ?_
        refine zt_iconst (pc' := 59) hX dX12_pane_58 rfl ?_
        refine zt_iast (pc' := 60) hX dX12_pane_59 rfl (by decide) zc_197 zs_79 (by decide) ⟨by omega, by omega⟩ ?_
        generalize hs450 : zset s147 197 (x144.toNat) 1 = s449
        have hI451 : zInv s449 := hs450 ▸ zp_79 hI148 zc_197 (x144.toNat) ⟨by omega, by omega⟩
        have hF452 : zGN σ s449 := hs450 ▸ zGN_set hF149 zc_197 (by decide) zk_79 (Or.inl (by decide)) (by decide)
        have w453 := zwk_k hs450 (by decide)
        have e454 : s449 164 2 = s147 164 2 := by rw [← hs450]; exact zset_k (zne_r zc_164 zc_197 (by decide))
        have e455 : s449 164 3 = s147 164 3 := by rw [← hs450]; exact zset_k (zne_r zc_164 zc_197 (by decide))
        have e456 : s449 164 5 = s147 164 5 := by rw [← hs450]; exact zset_k (zne_r zc_164 zc_197 (by decide))
        have e457 : s449 164 4 = s147 164 4 := by rw [← hs450]; exact zset_k (zne_r zc_164 zc_197 (by decide))
        have e458 : s449 164 48 = s147 164 48 := by rw [← hs450]; exact zset_k (zne_r zc_164 zc_197 (by decide))
        have e459 : s449 194 0 = s147 194 0 := by rw [← hs450]; exact zset_k (zne_r zc_194 zc_197 (by decide))
        have e460 : s449 194 1 = s147 194 1 := by rw [← hs450]; exact zset_k (zne_r zc_194 zc_197 (by decide))
        have e461 : s449 199 0 = s147 199 0 := by rw [← hs450]; exact zset_k (zne_r zc_199 zc_197 (by decide))
        have e462 : s449 199 1 = s147 199 1 := by rw [← hs450]; exact zset_k (zne_r zc_199 zc_197 (by decide))
        have e463 : s449 199 2 = s147 199 2 := by rw [← hs450]; exact zset_k (zne_r zc_199 zc_197 (by decide))
        have e464 : s449 200 0 = s147 200 0 := by rw [← hs450]; exact zset_k (zne_r zc_200 zc_197 (by decide))
        have e465 : s449 200 1 = s147 200 1 := by rw [← hs450]; exact zset_k (zne_r zc_200 zc_197 (by decide))
        refine zt_iinc (pc' := 63) (lv' := [some (.ref (X.1.1 + 164)), some (.int (zI (x144 + 1)))]) hX dX12_pane_60 rfl rfl hL (by decide) rfl ?_
        refine zt_goto (tgt := 47) hX dX12_pane_63 (by decide) ?_
        exact ih155 (x144 + 1) s449 (by omega) (by omega) hI451 hF452 (by omega) (by omega) (by omega) (by omega)
  exact L_47_152 _ 0 s127 (by omega) (by omega) hI129 hF130 (by omega) (by omega) (by omega) (Nat.lt_succ_self _)
