set_option maxRecDepth 100000 in
set_option maxHeartbeats 2000000 in
theorem zc_X12_codesTold_0 (l : Launch) (E : zEN) (σ : zSto) (hI : zInv σ) (a2_ : Int) (ha2_ : -2147483648 ≤ a2_ ∧ a2_ ≤ 2147483647) (hpre0 : σ 164 5 = 0) (hpre1 : σ 164 2 ≤ σ 164 3) (hpre2 : σ 164 48 ≤ σ 164 2) (hpre3 : zwk σ = 1) : zCt l E yX12_codesTold cX12_codesTold 4 none 7 zNC zNC 0 0 σ [.ref (E.1 + 164), .int (zI 0), .int (zI a2_)] (fun r σ' => zInv σ' ∧ zOn zQ6 σ σ' ∧ (σ' 164 2 ≤ σ 164 3) ∧ (σ 164 2 ≤ σ' 164 2) ∧ (σ' 164 5 = 0 → zwk σ' = 1 ∧ σ' 164 48 ≤ σ' 164 2)) := by
  refine zCt_of2 [some (.ref (E.1 + 164)), some (.int (zI 0)), some (.int (zI a2_)), none] (by decide +kernel) (Nat.le_of_ble_eq_true rfl) rfl ?_
  intro X hE hX hR hL hN
  subst hE
  have hX : zok X cX12_codesTold RX12 7 := hX
  have hF := zOn_rf zQ6 σ
  have hzo := (zo_wk hpre3).2
  have b1 := zv_46_2 hI zc_164
  have b2 := zv_46_3 hI zc_164
  have b3 := zv_46_5 hI zc_164
  have b4 := zv_46_97 hI zc_164
  have b5 := zv_46_99 hI zc_164
  have b6 := zv_46_101 hI zc_164
  have b7 := zv_46_48 hI zc_164
  have b8 := zv_82 hI zc_200 0
  refine zt_aload_n (pc' := 1) hX dX12_codesTold_0 rfl rfl ?_
  have b9 := zv_46_5 hI zc_164
  refine zt_get (pc' := 4) (v := .int (zI (σ 164 5))) hX dX12_codesTold_1 rfl zf_X12_246 (by decide) zc_164 zs_46 rfl ?_
  have J_23_17 : ∀ (s10 : zSto), zInv s10 → zOn zQ6 σ s10 → s10 164 48 = σ 164 48 → s10 164 2 = σ 164 2 → (σ 164 2 ≤ s10 164 2 ∧ s10 164 2 ≤ σ 164 3) → s10 164 3 = σ 164 3 → zo s10 1 (σ 164 48) = 1 → zF X s10 23 [some (.ref (X.1.1 + 164)), some (.int (zI 0)), none, none] [] := by
    intro s10 hI11 hF12 g13 g14 g15 g16 g17
    have b19 := zv_46_2 hI11 zc_164
    have b20 := zv_46_3 hI11 zc_164
    have b21 := zv_46_5 hI11 zc_164
    have b22 := zv_46_97 hI11 zc_164
    have b23 := zv_46_99 hI11 zc_164
    have b24 := zv_46_101 hI11 zc_164
    have b25 := zv_46_48 hI11 zc_164
    have b26 := zv_82 hI11 zc_200 0
    refine zt_aload_n (pc' := 24) hX dX12_codesTold_23 rfl rfl ?_
    have b27 := zv_46_5 hI11 zc_164
    refine zt_get (pc' := 27) (v := .int (zI (s10 164 5))) hX dX12_codesTold_24 rfl zf_X12_246 (by decide) zc_164 zs_46 rfl ?_
    refine zt_ifeq (pc' := 30) (tgt := 31) hX dX12_codesTold_27 rfl (by decide) ⟨by omega, by omega⟩ (fun c28 => ?_) (fun c28 => ?_)
    · refine zt_aload_n (pc' := 32) hX dX12_codesTold_31 rfl rfl ?_
      refine zt_iload_n (pc' := 33) hX dX12_codesTold_32 rfl rfl ?_
      refine zt_put (pc' := 36) (x := 0) hX dX12_codesTold_33 rfl zf_X12_304 (by decide) zc_164 zs_46 (fun q hq => by cases hq; rfl) rfl rfl rfl ?_
      generalize hs30 : zset s10 164 51 0 = s29
      have hI31 : zInv s29 := hs30 ▸ zp_46_51 hI11 zc_164 ⟨by omega, by omega⟩
      have hF32 : zOn zQ6 σ s29 := hs30 ▸ zOn_set hF12 (by decide)
      obtain ⟨-, w34, w35, w36, -, -, w39, -⟩ := zE_set hs30 (by decide)
      have w41 := zo_m hs30 1 (σ 164 48) (by omega)
      have e42 : s29 164 2 = s10 164 2 := by rw [← hs30]; exact zset_j (by decide)
      have e43 : s29 164 3 = s10 164 3 := by rw [← hs30]; exact zset_j (by decide)
      have e44 : s29 164 5 = s10 164 5 := by rw [← hs30]; exact zset_j (by decide)
      have e45 : s29 164 97 = s10 164 97 := by rw [← hs30]; exact zset_j (by decide)
      have e46 : s29 164 99 = s10 164 99 := by rw [← hs30]; exact zset_j (by decide)
      have e47 : s29 164 101 = s10 164 101 := by rw [← hs30]; exact zset_j (by decide)
      have e48 : s29 164 48 = s10 164 48 := by rw [← hs30]; exact zset_j (by decide)
      have e49 : s29 200 0 = s10 200 0 := by rw [← hs30]; exact zset_k (zne_r zc_200 zc_164 (by decide))
      refine zt_aload_n (pc' := 37) hX dX12_codesTold_36 rfl rfl ?_
      refine zt_iconst (pc' := 38) hX dX12_codesTold_37 rfl ?_
      refine zt_put (pc' := 41) (x := 0) hX dX12_codesTold_38 rfl zf_X12_330 (by decide) zc_164 zs_46 (fun q hq => by cases hq; rfl) rfl rfl rfl ?_
      generalize hs51 : zset s29 164 97 0 = s50
      have hI52 : zInv s50 := hs51 ▸ zp_46_97 hI31 zc_164 ⟨by omega, by omega⟩
      have hF53 : zOn zQ6 σ s50 := hs51 ▸ zOn_set hF32 (by decide)
      have w54 := zo_m hs51 1 (σ 164 48) (by omega)
      have e55 : s50 164 2 = s29 164 2 := by rw [← hs51]; exact zset_j (by decide)
      have e56 : s50 164 3 = s29 164 3 := by rw [← hs51]; exact zset_j (by decide)
      have e57 : s50 164 5 = s29 164 5 := by rw [← hs51]; exact zset_j (by decide)
      have e58 : s50 164 97 = 0 := by rw [← hs51]; exact zset_s
      have e59 : s50 164 99 = s29 164 99 := by rw [← hs51]; exact zset_j (by decide)
      have e60 : s50 164 101 = s29 164 101 := by rw [← hs51]; exact zset_j (by decide)
      have e61 : s50 164 48 = s29 164 48 := by rw [← hs51]; exact zset_j (by decide)
      have e62 : s50 200 0 = s29 200 0 := by rw [← hs51]; exact zset_k (zne_r zc_200 zc_164 (by decide))
      refine zt_aload_n (pc' := 42) hX dX12_codesTold_41 rfl rfl ?_
      refine zt_iconst (pc' := 43) hX dX12_codesTold_42 rfl ?_
      refine zt_put (pc' := 46) (x := 0) hX dX12_codesTold_43 rfl zf_X12_333 (by decide) zc_164 zs_46 (fun q hq => by cases hq; rfl) rfl rfl rfl ?_
      generalize hs64 : zset s50 164 99 0 = s63
      have hI65 : zInv s63 := hs64 ▸ zp_46_99 hI52 zc_164 ⟨by omega, by omega⟩
      have hF66 : zOn zQ6 σ s63 := hs64 ▸ zOn_set hF53 (by decide)
      have w67 := zo_m hs64 1 (σ 164 48) (by omega)
      have e68 : s63 164 2 = s50 164 2 := by rw [← hs64]; exact zset_j (by decide)
      have e69 : s63 164 3 = s50 164 3 := by rw [← hs64]; exact zset_j (by decide)
      have e70 : s63 164 5 = s50 164 5 := by rw [← hs64]; exact zset_j (by decide)
      have e71 : s63 164 97 = s50 164 97 := by rw [← hs64]; exact zset_j (by decide)
      have e72 : s63 164 99 = 0 := by rw [← hs64]; exact zset_s
      have e73 : s63 164 101 = s50 164 101 := by rw [← hs64]; exact zset_j (by decide)
      have e74 : s63 164 48 = s50 164 48 := by rw [← hs64]; exact zset_j (by decide)
      have e75 : s63 200 0 = s50 200 0 := by rw [← hs64]; exact zset_k (zne_r zc_200 zc_164 (by decide))
      refine zt_aload_n (pc' := 47) hX dX12_codesTold_46 rfl rfl ?_
      refine zt_iconst (pc' := 48) hX dX12_codesTold_47 rfl ?_
      refine zt_put (pc' := 51) (x := 0) hX dX12_codesTold_48 rfl zf_X12_336 (by decide) zc_164 zs_46 (fun q hq => by cases hq; rfl) rfl rfl rfl ?_
      generalize hs77 : zset s63 164 100 0 = s76
      have hI78 : zInv s76 := hs77 ▸ zp_46_100 hI65 zc_164 ⟨by omega, by omega⟩
      have hF79 : zOn zQ6 σ s76 := hs77 ▸ zOn_set hF66 (by decide)
      obtain ⟨-, w81, w82, w83, -, -, w86, -⟩ := zE_set hs77 (by decide)
      have w88 := zo_m hs77 1 (σ 164 48) (by omega)
      have e89 : s76 164 2 = s63 164 2 := by rw [← hs77]; exact zset_j (by decide)
      have e90 : s76 164 3 = s63 164 3 := by rw [← hs77]; exact zset_j (by decide)
      have e91 : s76 164 5 = s63 164 5 := by rw [← hs77]; exact zset_j (by decide)
      have e92 : s76 164 97 = s63 164 97 := by rw [← hs77]; exact zset_j (by decide)
      have e93 : s76 164 99 = s63 164 99 := by rw [← hs77]; exact zset_j (by decide)
      have e94 : s76 164 101 = s63 164 101 := by rw [← hs77]; exact zset_j (by decide)
      have e95 : s76 164 48 = s63 164 48 := by rw [← hs77]; exact zset_j (by decide)
      have e96 : s76 200 0 = s63 200 0 := by rw [← hs77]; exact zset_k (zne_r zc_200 zc_164 (by decide))
      refine zt_aload_n (pc' := 52) hX dX12_codesTold_51 rfl rfl ?_
      refine zt_iconst (pc' := 53) hX dX12_codesTold_52 rfl ?_
      refine zt_put (pc' := 56) (x := 0) hX dX12_codesTold_53 rfl zf_X12_339 (by decide) zc_164 zs_46 (fun q hq => by cases hq; rfl) rfl rfl rfl ?_
      generalize hs98 : zset s76 164 101 0 = s97
      have hI99 : zInv s97 := hs98 ▸ zp_46_101 hI78 zc_164 ⟨by omega, by omega⟩
      have hF100 : zOn zQ6 σ s97 := hs98 ▸ zOn_set hF79 (by decide)
      have w101 := zo_m hs98 1 (σ 164 48) (by omega)
      have e102 : s97 164 2 = s76 164 2 := by rw [← hs98]; exact zset_j (by decide)
      have e103 : s97 164 3 = s76 164 3 := by rw [← hs98]; exact zset_j (by decide)
      have e104 : s97 164 5 = s76 164 5 := by rw [← hs98]; exact zset_j (by decide)
      have e105 : s97 164 97 = s76 164 97 := by rw [← hs98]; exact zset_j (by decide)
      have e106 : s97 164 99 = s76 164 99 := by rw [← hs98]; exact zset_j (by decide)
      have e107 : s97 164 101 = 0 := by rw [← hs98]; exact zset_s
      have e108 : s97 164 48 = s76 164 48 := by rw [← hs98]; exact zset_j (by decide)
      have e109 : s97 200 0 = s76 200 0 := by rw [← hs98]; exact zset_k (zne_r zc_200 zc_164 (by decide))
      have h110 := zt_0 (s := s97) (by omega) (by omega)
      refine zt_iload_n (pc' := 57) hX dX12_codesTold_56 rfl rfl ?_
      refine zt_iconst (pc' := 58) hX dX12_codesTold_57 rfl ?_
      have J_72_118 : ∀ (s111 : zSto), zInv s111 → zOn zQ6 σ s111 → s111 164 48 = σ 164 48 → (s111 164 5 = 0 → zt s111 = 1 ∧ s111 164 97 + s111 164 99 + σ 164 2 ≤ s111 164 2) → (σ 164 2 ≤ s111 164 2 ∧ s111 164 2 ≤ σ 164 3) → s111 164 3 = σ 164 3 → zo s111 1 (σ 164 48) = 1 → zF X s111 72 [some (.ref (X.1.1 + 164)), some (.int (zI 0)), none, none] [] := by
        intro s111 hI112 hF113 g114 g115 g116 g117 g118
        have b120 := zv_46_2 hI112 zc_164
        have b121 := zv_46_3 hI112 zc_164
        have b122 := zv_46_5 hI112 zc_164
        have b123 := zv_46_97 hI112 zc_164
        have b124 := zv_46_99 hI112 zc_164
        have b125 := zv_46_101 hI112 zc_164
        have b126 := zv_46_48 hI112 zc_164
        have b127 := zv_82 hI112 zc_200 0
        refine zt_aload_n (pc' := 73) hX dX12_codesTold_72 rfl rfl ?_
        have b128 := zv_46_5 hI112 zc_164
        refine zt_get (pc' := 76) (v := .int (zI (s111 164 5))) hX dX12_codesTold_73 rfl zf_X12_246 (by decide) zc_164 zs_46 rfl ?_
        refine zt_ifeq (pc' := 79) (tgt := 80) hX dX12_codesTold_76 rfl (by decide) ⟨by omega, by omega⟩ (fun c129 => ?_) (fun c129 => ?_)
        · have qg115 := g115 (by omega)
          clear g115
          refine zt_aload_n (pc' := 81) hX dX12_codesTold_80 rfl rfl ?_
          refine zt_get (pc' := 84) (v := .ref (X.1.1 + 200)) hX dX12_codesTold_81 rfl zf_X12_121 (by decide) zc_164 zs_46 (zrf_of (zv_46_45 hI112 zc_164)) ?_
          refine zt_iload_n (pc' := 85) hX dX12_codesTold_84 rfl rfl ?_
          refine zt_aload_n (pc' := 86) hX dX12_codesTold_85 rfl rfl ?_
          have b130 := zv_46_48 hI112 zc_164
          refine zt_get (pc' := 89) (v := .int (zI (s111 164 48))) hX dX12_codesTold_86 rfl zf_X12_348 (by decide) zc_164 zs_46 rfl ?_
          refine zt_iast (pc' := 90) hX dX12_codesTold_89 rfl (by decide) zc_200 zs_82 (by decide) ⟨by omega, by omega⟩ ?_
          rw [show Int.toNat 0 = 0 from rfl]
          generalize hs132 : zset s111 200 0 (s111 164 48) = s131
          have hI133 : zInv s131 := hs132 ▸ zp_82 hI112 zc_200 0 ⟨by omega, by omega⟩
          have hF134 : zOn zQ6 σ s131 := hs132 ▸ zOn_set hF113 (by decide)
          obtain ⟨-, w136, w137, w138, -, -, w141, -⟩ := zE_setk hs132 (by decide)
          have w143 := zo_0 hs132 1 (σ 164 48) (by decide) (by omega)
          have e144 : s131 164 2 = s111 164 2 := by rw [← hs132]; exact zset_k (zne_r zc_164 zc_200 (by decide))
          have e145 : s131 164 3 = s111 164 3 := by rw [← hs132]; exact zset_k (zne_r zc_164 zc_200 (by decide))
          have e146 : s131 164 5 = s111 164 5 := by rw [← hs132]; exact zset_k (zne_r zc_164 zc_200 (by decide))
          have e147 : s131 164 97 = s111 164 97 := by rw [← hs132]; exact zset_k (zne_r zc_164 zc_200 (by decide))
          have e148 : s131 164 99 = s111 164 99 := by rw [← hs132]; exact zset_k (zne_r zc_164 zc_200 (by decide))
          have e149 : s131 164 101 = s111 164 101 := by rw [← hs132]; exact zset_k (zne_r zc_164 zc_200 (by decide))
          have e150 : s131 164 48 = s111 164 48 := by rw [← hs132]; exact zset_k (zne_r zc_164 zc_200 (by decide))
          have e151 : s131 200 0 = (s111 164 48) := by rw [← hs132]; exact zset_s
          refine zt_iconst (pc' := 91) hX dX12_codesTold_90 rfl ?_
          refine zt_istore_n (pc' := 92) (lv' := [some (.ref (X.1.1 + 164)), some (.int (zI 0)), none, some (.int (zI 0))]) hX dX12_codesTold_91 rfl hL (by decide) rfl ?_
          have h152 := zcy_0 s131 (σ 164 48)
          have L_92_168 : ∀ (N : Nat) (x153 : Int) (s156 : zSto), 0 ≤ x153 → x153 ≤ 1700 → zInv s156 → zOn zQ6 σ s156 → s156 164 48 = σ 164 48 + x153 → x153 ≤ s156 164 97 → σ 164 48 + s156 164 97 ≤ s156 164 2 → zt s156 = 1 → s156 200 0 = σ 164 48 → zcy s156 (σ 164 48) x153 = 1 → s156 164 5 = 0 → (σ 164 2 ≤ s156 164 2 ∧ s156 164 2 ≤ σ 164 3) → s156 164 3 = σ 164 3 → zo s156 1 (σ 164 48) = 1 → ((1701 - x153).toNat) < N → zF X s156 92 [some (.ref (X.1.1 + 164)), some (.int (zI 0)), none, some (.int (zI x153))] [] := by
            intro N
            induction N with
            | zero =>
              intro x153 s156 h154 h155 hI157 hF158 g159 g160 g161 g162 g163 g164 g165 g166 g167 g168 hm170
              exact absurd hm170 (Nat.not_lt_zero _)
            | succ N ih171 =>
              intro x153 s156 h154 h155 hI157 hF158 g159 g160 g161 g162 g163 g164 g165 g166 g167 g168 hm170
              have b172 := zv_46_2 hI157 zc_164
              have b173 := zv_46_3 hI157 zc_164
              have b174 := zv_46_5 hI157 zc_164
              have b175 := zv_46_97 hI157 zc_164
              have b176 := zv_46_99 hI157 zc_164
              have b177 := zv_46_101 hI157 zc_164
              have b178 := zv_46_48 hI157 zc_164
              have b179 := zv_82 hI157 zc_200 0
              refine zt_iload_n (pc' := 93) hX dX12_codesTold_92 rfl rfl ?_
              refine zt_aload_n (pc' := 94) hX dX12_codesTold_93 rfl rfl ?_
              have b180 := zv_46_97 hI157 zc_164
              refine zt_get (pc' := 97) (v := .int (zI (s156 164 97))) hX dX12_codesTold_94 rfl zf_X12_330 (by decide) zc_164 zs_46 rfl ?_
              refine zt_icge (pc' := 100) (tgt := 131) hX dX12_codesTold_97 rfl (by decide) ⟨by omega, by omega⟩ ⟨by omega, by omega⟩ (fun c181 => ?_) (fun c181 => ?_)
              · refine zt_aload_n (pc' := 132) hX dX12_codesTold_131 rfl rfl ?_
                refine zt_get (pc' := 135) (v := .ref (X.1.1 + 201)) hX dX12_codesTold_132 rfl zf_X12_124 (by decide) zc_164 zs_46 (zrf_of (zv_46_46 hI157 zc_164)) ?_
                refine zt_iload_n (pc' := 136) hX dX12_codesTold_135 rfl rfl ?_
                refine zt_aload_n (pc' := 137) hX dX12_codesTold_136 rfl rfl ?_
                have b182 := zv_46_48 hI157 zc_164
                refine zt_get (pc' := 140) (v := .int (zI (s156 164 48))) hX dX12_codesTold_137 rfl zf_X12_348 (by decide) zc_164 zs_46 rfl ?_
                refine zt_iast (pc' := 141) hX dX12_codesTold_140 rfl (by decide) zc_201 zs_83 (by decide) ⟨by omega, by omega⟩ ?_
                rw [show Int.toNat 0 = 0 from rfl]
                generalize hs184 : zset s156 201 0 (s156 164 48) = s183
                have hI185 : zInv s183 := hs184 ▸ zp_83 hI157 zc_201 0 ⟨by omega, by omega⟩
                have hF186 : zOn zQ6 σ s183 := hs184 ▸ zOn_set hF158 (by decide)
                obtain ⟨-, w188, w189, w190, -, -, w193, -⟩ := zE_setk hs184 (by decide)
                have e195 : s183 164 2 = s156 164 2 := by rw [← hs184]; exact zset_k (zne_r zc_164 zc_201 (by decide))
                have e196 : s183 164 3 = s156 164 3 := by rw [← hs184]; exact zset_k (zne_r zc_164 zc_201 (by decide))
                have e197 : s183 164 5 = s156 164 5 := by rw [← hs184]; exact zset_k (zne_r zc_164 zc_201 (by decide))
                have e198 : s183 164 97 = s156 164 97 := by rw [← hs184]; exact zset_k (zne_r zc_164 zc_201 (by decide))
                have e199 : s183 164 99 = s156 164 99 := by rw [← hs184]; exact zset_k (zne_r zc_164 zc_201 (by decide))
                have e200 : s183 164 101 = s156 164 101 := by rw [← hs184]; exact zset_k (zne_r zc_164 zc_201 (by decide))
                have e201 : s183 164 48 = s156 164 48 := by rw [← hs184]; exact zset_k (zne_r zc_164 zc_201 (by decide))
                have e202 : s183 200 0 = s156 200 0 := by rw [← hs184]; exact zset_k (zne_r zc_200 zc_201 (by decide))
                have h203 := zwk_fin (k := x153) (c := σ 164 48) (Or.inl ⟨rfl, rfl⟩) hs184 (by omega) (by omega) (by omega) (by omega) (by omega) (by omega) (by omega) (by omega) (by omega)
                exact zt_vret hX hR dX12_codesTold_141 ⟨hI185, hF186, by omega, by omega, (fun hb => by omega)⟩
              · refine zt_aload_n (pc' := 101) hX dX12_codesTold_100 rfl rfl ?_
                refine zt_get (pc' := 104) (v := .ref (X.1.1 + 202)) hX dX12_codesTold_101 rfl zf_X12_127 (by decide) zc_164 zs_46 (zrf_of (zv_46_47 hI157 zc_164)) ?_
                refine zt_aload_n (pc' := 105) hX dX12_codesTold_104 rfl rfl ?_
                have b204 := zv_46_48 hI157 zc_164
                refine zt_get (pc' := 108) (v := .int (zI (s156 164 48))) hX dX12_codesTold_105 rfl zf_X12_348 (by decide) zc_164 zs_46 rfl ?_
                refine zt_aload_n (pc' := 109) hX dX12_codesTold_108 rfl rfl ?_
                refine zt_get (pc' := 112) (v := .ref (X.1.1 + 234)) hX dX12_codesTold_109 rfl zf_X12_231 (by decide) zc_164 zs_46 (zrf_of (zv_46_96 hI157 zc_164)) ?_
                refine zt_iload_n (pc' := 113) hX dX12_codesTold_112 rfl rfl ?_
                refine zt_iald (pc' := 114) hX dX12_codesTold_113 rfl (by decide) zc_234 zs_116 (by decide) ⟨by omega, by omega⟩ ?_
                generalize hv205 : s156 234 (x153.toNat) = v205
                have bv205 : -2147483648 ≤ v205 ∧ v205 ≤ 2147483647 := hv205 ▸ zv_116 hI157 zc_234 _
                refine zt_iast (pc' := 115) hX dX12_codesTold_114 rfl (by decide) zc_202 zs_84 (by decide) ⟨by omega, by omega⟩ ?_
                generalize hs207 : zset s156 202 ((s156 164 48).toNat) v205 = s206
                have hI208 : zInv s206 := hs207 ▸ zp_84 hI157 zc_202 ((s156 164 48).toNat) ⟨by omega, by omega⟩
                have hF209 : zOn zQ6 σ s206 := hs207 ▸ zOn_set hF158 (zq6_202 (by omega))
                obtain ⟨-, w211, w212, w213, -, -, w216, -⟩ := zE_setk hs207 (by decide)
                have w218 := zo_2 hs207 1 (σ 164 48) (by omega) (by omega)
                have e219 : s206 164 2 = s156 164 2 := by rw [← hs207]; exact zset_k (zne_r zc_164 zc_202 (by decide))
                have e220 : s206 164 3 = s156 164 3 := by rw [← hs207]; exact zset_k (zne_r zc_164 zc_202 (by decide))
                have e221 : s206 164 5 = s156 164 5 := by rw [← hs207]; exact zset_k (zne_r zc_164 zc_202 (by decide))
                have e222 : s206 164 97 = s156 164 97 := by rw [← hs207]; exact zset_k (zne_r zc_164 zc_202 (by decide))
                have e223 : s206 164 99 = s156 164 99 := by rw [← hs207]; exact zset_k (zne_r zc_164 zc_202 (by decide))
                have e224 : s206 164 101 = s156 164 101 := by rw [← hs207]; exact zset_k (zne_r zc_164 zc_202 (by decide))
                have e225 : s206 164 48 = s156 164 48 := by rw [← hs207]; exact zset_k (zne_r zc_164 zc_202 (by decide))
                have e226 : s206 200 0 = s156 200 0 := by rw [← hs207]; exact zset_k (zne_r zc_200 zc_202 (by decide))
                refine zt_aload_n (pc' := 116) hX dX12_codesTold_115 rfl rfl ?_
                refine zt_dup (pc' := 117) hX dX12_codesTold_116 rfl rfl ?_
                have b227 := zv_46_48 hI208 zc_164
                refine zt_get (pc' := 120) (v := .int (zI (s206 164 48))) hX dX12_codesTold_117 rfl zf_X12_348 (by decide) zc_164 zs_46 rfl ?_
                refine zt_iconst (pc' := 121) hX dX12_codesTold_120 rfl ?_
                refine zt_iadd (pc' := 122) hX dX12_codesTold_121 rfl ?_
                refine zt_put (pc' := 125) (x := ((s206 164 48) + 1)) hX dX12_codesTold_122 rfl zf_X12_348 (by decide) zc_164 zs_46 (fun q hq => by cases hq; rfl) rfl rfl rfl ?_
                generalize hs229 : zset s206 164 48 ((s206 164 48) + 1) = s228
                have hI230 : zInv s228 := hs229 ▸ zp_46_48 hI208 zc_164 ⟨by omega, by omega⟩
                have hF231 : zOn zQ6 σ s228 := hs229 ▸ zOn_set hF209 (by decide)
                obtain ⟨-, w233, w234, w235, -, -, w238, -⟩ := zE_set hs229 (by decide)
                have w240 := zo_m hs229 1 (σ 164 48) (by omega)
                have e241 : s228 164 2 = s206 164 2 := by rw [← hs229]; exact zset_j (by decide)
                have e242 : s228 164 3 = s206 164 3 := by rw [← hs229]; exact zset_j (by decide)
                have e243 : s228 164 5 = s206 164 5 := by rw [← hs229]; exact zset_j (by decide)
                have e244 : s228 164 97 = s206 164 97 := by rw [← hs229]; exact zset_j (by decide)
                have e245 : s228 164 99 = s206 164 99 := by rw [← hs229]; exact zset_j (by decide)
                have e246 : s228 164 101 = s206 164 101 := by rw [← hs229]; exact zset_j (by decide)
                have e247 : s228 164 48 = ((s206 164 48) + 1) := by rw [← hs229]; exact zset_s
                have e248 : s228 200 0 = s206 200 0 := by rw [← hs229]; exact zset_k (zne_r zc_200 zc_164 (by decide))
                have h249 := zcy_s (c := σ 164 48) (k := x153) hs207 hs229 (by omega) hv205 (by omega) (by omega) (by omega)
                refine zt_iinc (pc' := 128) (lv' := [some (.ref (X.1.1 + 164)), some (.int (zI 0)), none, some (.int (zI (x153 + 1)))]) hX dX12_codesTold_125 rfl rfl hL (by decide) rfl ?_
                refine zt_goto (tgt := 92) hX dX12_codesTold_128 (by decide) ?_
                exact ih171 (x153 + 1) s228 (by omega) (by omega) hI230 hF231 (by omega) (by omega) (by omega) (by omega) (by omega) (by omega) (by omega) (by omega) (by omega) (by omega) (by omega)
          exact L_92_168 _ 0 s131 (by omega) (by omega) hI133 hF134 (by omega) (by omega) (by omega) (by omega) (by omega) (by omega) (by omega) (by omega) (by omega) (by omega) (Nat.lt_succ_self _)
        · clear g115
          exact zt_vret hX hR dX12_codesTold_79 ⟨hI112, hF113, by omega, by omega, (fun hb => by omega)⟩
      refine zt_icne (pc' := 61) (tgt := 68) hX dX12_codesTold_58 rfl (by decide) ⟨by omega, by omega⟩ ⟨by omega, by omega⟩ (fun c250 => ?_) (fun c250 => ?_)
      · refine zt_aload_n (pc' := 69) hX dX12_codesTold_68 rfl rfl ?_
        refine zt_cVv (pc' := 72) hX dX12_codesTold_69 rfl zm_yX12_qSums zw_29_22 zc_164 (by decide) zs_46 (q := (RX12, TX12, 108)) rfl rfl (zc_X12_qSums _ _ s97 hI99 (by omega) (by omega) (by omega) (by omega) (by omega)) rfl rfl (Nat.le_of_ble_eq_true rfl) (by decide) (fun r251 s252 hr253 hp254 => ?_)
        obtain ⟨hI255, hF256, z257, z258, z259, z260, z261, z262⟩ := hp254
        have w263 := zo_on (zOn_tr (zOn_rf zQ2 s97) hF256 zi_id) 1 (σ 164 48) (by omega)
        have e264 := hF256 164 3 rfl
        have e265 := hF256 164 48 rfl
        have e266 := hF256 200 0 rfl
        have hF267 := zOn_tr hF100 hF256 zi_26
        have b268 := zv_46_2 hI255 zc_164
        have b269 := zv_46_3 hI255 zc_164
        have b270 := zv_46_5 hI255 zc_164
        have b271 := zv_46_97 hI255 zc_164
        have b272 := zv_46_99 hI255 zc_164
        have b273 := zv_46_101 hI255 zc_164
        have b274 := zv_46_48 hI255 zc_164
        have b275 := zv_82 hI255 zc_200 0
        exact J_72_118 s252 hI255 hF267 (by omega) (fun hb => by have qz262 := z262 (by omega); have qz261 := z261 (by omega); clear z262 z261; omega) (by omega) (by omega) (by omega)
      · exact absurd c250 (by omega)
    · exact zt_vret hX hR dX12_codesTold_30 ⟨hI11, hF12, by omega, by omega, (fun hb => by omega)⟩
  refine zt_ifne (pc' := 7) (tgt := 23) hX dX12_codesTold_4 rfl (by decide) ⟨by omega, by omega⟩ (fun c276 => ?_) (fun c276 => ?_)
  · refine zt_mask [true, true, false, false] rfl ?_
    exact J_23_17 σ hI hF (by omega) (by omega) (by omega) (by omega) (by omega)
  · refine zt_aload_n (pc' := 8) hX dX12_codesTold_7 rfl rfl ?_
    refine zt_get (pc' := 11) (v := .ref (X.1.1 + 200)) hX dX12_codesTold_8 rfl zf_X12_121 (by decide) zc_164 zs_46 (zrf_of (zv_46_45 hI zc_164)) ?_
    refine zt_iload_n (pc' := 12) hX dX12_codesTold_11 rfl rfl ?_
    refine zt_iald (pc' := 13) hX dX12_codesTold_12 rfl (by decide) zc_200 zs_82 (by decide) ⟨by omega, by omega⟩ ?_
    rw [show Int.toNat 0 = 0 from rfl]
    have b278 := zv_82 hI zc_200 0
    refine zt_iconst (pc' := 14) hX dX12_codesTold_13 rfl ?_
    refine zt_iceq (pc' := 17) (tgt := 23) hX dX12_codesTold_14 rfl (by decide) ⟨by omega, by omega⟩ ⟨by omega, by omega⟩ (fun c279 => ?_) (fun c279 => ?_)
    · refine zt_mask [true, true, false, false] rfl ?_
      exact J_23_17 σ hI hF (by omega) (by omega) (by omega) (by omega) (by omega)
    · refine zt_aload_n (pc' := 18) hX dX12_codesTold_17 rfl rfl ?_
      refine zt_iconst (pc' := 19) hX dX12_codesTold_18 rfl ?_
      refine zt_iload_n (pc' := 20) hX dX12_codesTold_19 rfl rfl ?_
      refine zt_cVv (pc' := 23) hX dX12_codesTold_20 rfl zm_yX12_fail zw_26_19 zc_164 (by decide) zs_46 (q := (RX12, TX12, 108)) rfl rfl (zc_X12_fail _ _ σ hI 5 ⟨by omega, by omega⟩ a2_ ⟨by omega, by omega⟩) rfl rfl (Nat.le_of_ble_eq_true rfl) (by decide) (fun r280 s281 hr282 hp283 => ?_)
      obtain ⟨hI284, hF285, z286, z287⟩ := hp283
      obtain ⟨-, w289, w290, w291, -, -, w294, -⟩ := zE_q1 hF285
      have w296 := zo_on (zOn_tr (zOn_rf zQ2 σ) hF285 zi_12) 1 (σ 164 48) (by omega)
      have e297 := hF285 164 3 rfl
      have e298 := hF285 164 97 rfl
      have e299 := hF285 164 99 rfl
      have e300 := hF285 164 101 rfl
      have e301 := hF285 164 48 rfl
      have e302 := hF285 200 0 rfl
      have hF303 := zOn_tr hF hF285 zi_16
      have b304 := zv_46_2 hI284 zc_164
      have b305 := zv_46_3 hI284 zc_164
      have b306 := zv_46_5 hI284 zc_164
      have b307 := zv_46_97 hI284 zc_164
      have b308 := zv_46_99 hI284 zc_164
      have b309 := zv_46_101 hI284 zc_164
      have b310 := zv_46_48 hI284 zc_164
      have b311 := zv_82 hI284 zc_200 0
      refine zt_mask [true, true, false, false] rfl ?_
      exact J_23_17 s281 hI284 hF303 (by omega) (by omega) (by omega) (by omega) (by omega)

set_option maxRecDepth 100000 in
set_option maxHeartbeats 2000000 in
theorem zc_X12_codesTold_1 (l : Launch) (E : zEN) (σ : zSto) (hI : zInv σ) (a2_ : Int) (ha2_ : -2147483648 ≤ a2_ ∧ a2_ ≤ 2147483647) (hpre0 : σ 164 5 = 0) (hpre1 : σ 164 2 ≤ σ 164 3) (hpre2 : σ 164 48 ≤ σ 164 2) (hpre3 : zwk σ = 1) : zCt l E yX12_codesTold cX12_codesTold 4 none 9 zNC zNC 0 0 σ [.ref (E.1 + 164), .int (zI 1), .int (zI a2_)] (fun r σ' => zInv σ' ∧ zOn zQ6 σ σ' ∧ (σ' 164 2 ≤ σ 164 3) ∧ (σ 164 2 ≤ σ' 164 2) ∧ (σ' 164 5 = 0 → zwk σ' = 1 ∧ σ' 164 48 ≤ σ' 164 2)) := by
  refine zCt_of2 [some (.ref (E.1 + 164)), some (.int (zI 1)), some (.int (zI a2_)), none] (by decide +kernel) (Nat.le_of_ble_eq_true rfl) rfl ?_
  intro X hE hX hR hL hN
  subst hE
  have hX : zok X cX12_codesTold RX12 9 := hX
  have hF := zOn_rf zQ6 σ
  have hzo := (zo_wk hpre3).1
  have b1 := zv_46_2 hI zc_164
  have b2 := zv_46_3 hI zc_164
  have b3 := zv_46_5 hI zc_164
  have b4 := zv_46_97 hI zc_164
  have b5 := zv_46_99 hI zc_164
  have b6 := zv_46_101 hI zc_164
  have b7 := zv_46_48 hI zc_164
  have b8 := zv_82 hI zc_200 1
  refine zt_aload_n (pc' := 1) hX dX12_codesTold_0 rfl rfl ?_
  have b9 := zv_46_5 hI zc_164
  refine zt_get (pc' := 4) (v := .int (zI (σ 164 5))) hX dX12_codesTold_1 rfl zf_X12_246 (by decide) zc_164 zs_46 rfl ?_
  have J_23_17 : ∀ (s10 : zSto), zInv s10 → zOn zQ6 σ s10 → s10 164 48 = σ 164 48 → s10 164 2 = σ 164 2 → (σ 164 2 ≤ s10 164 2 ∧ s10 164 2 ≤ σ 164 3) → s10 164 3 = σ 164 3 → zo s10 0 (σ 164 48) = 1 → zF X s10 23 [some (.ref (X.1.1 + 164)), some (.int (zI 1)), none, none] [] := by
    intro s10 hI11 hF12 g13 g14 g15 g16 g17
    have b19 := zv_46_2 hI11 zc_164
    have b20 := zv_46_3 hI11 zc_164
    have b21 := zv_46_5 hI11 zc_164
    have b22 := zv_46_97 hI11 zc_164
    have b23 := zv_46_99 hI11 zc_164
    have b24 := zv_46_101 hI11 zc_164
    have b25 := zv_46_48 hI11 zc_164
    have b26 := zv_82 hI11 zc_200 1
    refine zt_aload_n (pc' := 24) hX dX12_codesTold_23 rfl rfl ?_
    have b27 := zv_46_5 hI11 zc_164
    refine zt_get (pc' := 27) (v := .int (zI (s10 164 5))) hX dX12_codesTold_24 rfl zf_X12_246 (by decide) zc_164 zs_46 rfl ?_
    refine zt_ifeq (pc' := 30) (tgt := 31) hX dX12_codesTold_27 rfl (by decide) ⟨by omega, by omega⟩ (fun c28 => ?_) (fun c28 => ?_)
    · refine zt_aload_n (pc' := 32) hX dX12_codesTold_31 rfl rfl ?_
      refine zt_iload_n (pc' := 33) hX dX12_codesTold_32 rfl rfl ?_
      refine zt_put (pc' := 36) (x := 1) hX dX12_codesTold_33 rfl zf_X12_304 (by decide) zc_164 zs_46 (fun q hq => by cases hq; rfl) rfl rfl rfl ?_
      generalize hs30 : zset s10 164 51 1 = s29
      have hI31 : zInv s29 := hs30 ▸ zp_46_51 hI11 zc_164 ⟨by omega, by omega⟩
      have hF32 : zOn zQ6 σ s29 := hs30 ▸ zOn_set hF12 (by decide)
      obtain ⟨-, w34, w35, w36, -, -, w39, -⟩ := zE_set hs30 (by decide)
      have w41 := zo_m hs30 0 (σ 164 48) (by omega)
      have e42 : s29 164 2 = s10 164 2 := by rw [← hs30]; exact zset_j (by decide)
      have e43 : s29 164 3 = s10 164 3 := by rw [← hs30]; exact zset_j (by decide)
      have e44 : s29 164 5 = s10 164 5 := by rw [← hs30]; exact zset_j (by decide)
      have e45 : s29 164 97 = s10 164 97 := by rw [← hs30]; exact zset_j (by decide)
      have e46 : s29 164 99 = s10 164 99 := by rw [← hs30]; exact zset_j (by decide)
      have e47 : s29 164 101 = s10 164 101 := by rw [← hs30]; exact zset_j (by decide)
      have e48 : s29 164 48 = s10 164 48 := by rw [← hs30]; exact zset_j (by decide)
      have e49 : s29 200 1 = s10 200 1 := by rw [← hs30]; exact zset_k (zne_r zc_200 zc_164 (by decide))
      refine zt_aload_n (pc' := 37) hX dX12_codesTold_36 rfl rfl ?_
      refine zt_iconst (pc' := 38) hX dX12_codesTold_37 rfl ?_
      refine zt_put (pc' := 41) (x := 0) hX dX12_codesTold_38 rfl zf_X12_330 (by decide) zc_164 zs_46 (fun q hq => by cases hq; rfl) rfl rfl rfl ?_
      generalize hs51 : zset s29 164 97 0 = s50
      have hI52 : zInv s50 := hs51 ▸ zp_46_97 hI31 zc_164 ⟨by omega, by omega⟩
      have hF53 : zOn zQ6 σ s50 := hs51 ▸ zOn_set hF32 (by decide)
      have w54 := zo_m hs51 0 (σ 164 48) (by omega)
      have e55 : s50 164 2 = s29 164 2 := by rw [← hs51]; exact zset_j (by decide)
      have e56 : s50 164 3 = s29 164 3 := by rw [← hs51]; exact zset_j (by decide)
      have e57 : s50 164 5 = s29 164 5 := by rw [← hs51]; exact zset_j (by decide)
      have e58 : s50 164 97 = 0 := by rw [← hs51]; exact zset_s
      have e59 : s50 164 99 = s29 164 99 := by rw [← hs51]; exact zset_j (by decide)
      have e60 : s50 164 101 = s29 164 101 := by rw [← hs51]; exact zset_j (by decide)
      have e61 : s50 164 48 = s29 164 48 := by rw [← hs51]; exact zset_j (by decide)
      have e62 : s50 200 1 = s29 200 1 := by rw [← hs51]; exact zset_k (zne_r zc_200 zc_164 (by decide))
      refine zt_aload_n (pc' := 42) hX dX12_codesTold_41 rfl rfl ?_
      refine zt_iconst (pc' := 43) hX dX12_codesTold_42 rfl ?_
      refine zt_put (pc' := 46) (x := 0) hX dX12_codesTold_43 rfl zf_X12_333 (by decide) zc_164 zs_46 (fun q hq => by cases hq; rfl) rfl rfl rfl ?_
      generalize hs64 : zset s50 164 99 0 = s63
      have hI65 : zInv s63 := hs64 ▸ zp_46_99 hI52 zc_164 ⟨by omega, by omega⟩
      have hF66 : zOn zQ6 σ s63 := hs64 ▸ zOn_set hF53 (by decide)
      have w67 := zo_m hs64 0 (σ 164 48) (by omega)
      have e68 : s63 164 2 = s50 164 2 := by rw [← hs64]; exact zset_j (by decide)
      have e69 : s63 164 3 = s50 164 3 := by rw [← hs64]; exact zset_j (by decide)
      have e70 : s63 164 5 = s50 164 5 := by rw [← hs64]; exact zset_j (by decide)
      have e71 : s63 164 97 = s50 164 97 := by rw [← hs64]; exact zset_j (by decide)
      have e72 : s63 164 99 = 0 := by rw [← hs64]; exact zset_s
      have e73 : s63 164 101 = s50 164 101 := by rw [← hs64]; exact zset_j (by decide)
      have e74 : s63 164 48 = s50 164 48 := by rw [← hs64]; exact zset_j (by decide)
      have e75 : s63 200 1 = s50 200 1 := by rw [← hs64]; exact zset_k (zne_r zc_200 zc_164 (by decide))
      refine zt_aload_n (pc' := 47) hX dX12_codesTold_46 rfl rfl ?_
      refine zt_iconst (pc' := 48) hX dX12_codesTold_47 rfl ?_
      refine zt_put (pc' := 51) (x := 0) hX dX12_codesTold_48 rfl zf_X12_336 (by decide) zc_164 zs_46 (fun q hq => by cases hq; rfl) rfl rfl rfl ?_
      generalize hs77 : zset s63 164 100 0 = s76
      have hI78 : zInv s76 := hs77 ▸ zp_46_100 hI65 zc_164 ⟨by omega, by omega⟩
      have hF79 : zOn zQ6 σ s76 := hs77 ▸ zOn_set hF66 (by decide)
      obtain ⟨-, w81, w82, w83, -, -, w86, -⟩ := zE_set hs77 (by decide)
      have w88 := zo_m hs77 0 (σ 164 48) (by omega)
      have e89 : s76 164 2 = s63 164 2 := by rw [← hs77]; exact zset_j (by decide)
      have e90 : s76 164 3 = s63 164 3 := by rw [← hs77]; exact zset_j (by decide)
      have e91 : s76 164 5 = s63 164 5 := by rw [← hs77]; exact zset_j (by decide)
      have e92 : s76 164 97 = s63 164 97 := by rw [← hs77]; exact zset_j (by decide)
      have e93 : s76 164 99 = s63 164 99 := by rw [← hs77]; exact zset_j (by decide)
      have e94 : s76 164 101 = s63 164 101 := by rw [← hs77]; exact zset_j (by decide)
      have e95 : s76 164 48 = s63 164 48 := by rw [← hs77]; exact zset_j (by decide)
      have e96 : s76 200 1 = s63 200 1 := by rw [← hs77]; exact zset_k (zne_r zc_200 zc_164 (by decide))
      refine zt_aload_n (pc' := 52) hX dX12_codesTold_51 rfl rfl ?_
      refine zt_iconst (pc' := 53) hX dX12_codesTold_52 rfl ?_
      refine zt_put (pc' := 56) (x := 0) hX dX12_codesTold_53 rfl zf_X12_339 (by decide) zc_164 zs_46 (fun q hq => by cases hq; rfl) rfl rfl rfl ?_
      generalize hs98 : zset s76 164 101 0 = s97
      have hI99 : zInv s97 := hs98 ▸ zp_46_101 hI78 zc_164 ⟨by omega, by omega⟩
      have hF100 : zOn zQ6 σ s97 := hs98 ▸ zOn_set hF79 (by decide)
      have w101 := zo_m hs98 0 (σ 164 48) (by omega)
      have e102 : s97 164 2 = s76 164 2 := by rw [← hs98]; exact zset_j (by decide)
      have e103 : s97 164 3 = s76 164 3 := by rw [← hs98]; exact zset_j (by decide)
      have e104 : s97 164 5 = s76 164 5 := by rw [← hs98]; exact zset_j (by decide)
      have e105 : s97 164 97 = s76 164 97 := by rw [← hs98]; exact zset_j (by decide)
      have e106 : s97 164 99 = s76 164 99 := by rw [← hs98]; exact zset_j (by decide)
      have e107 : s97 164 101 = 0 := by rw [← hs98]; exact zset_s
      have e108 : s97 164 48 = s76 164 48 := by rw [← hs98]; exact zset_j (by decide)
      have e109 : s97 200 1 = s76 200 1 := by rw [← hs98]; exact zset_k (zne_r zc_200 zc_164 (by decide))
      have h110 := zt_0 (s := s97) (by omega) (by omega)
      refine zt_iload_n (pc' := 57) hX dX12_codesTold_56 rfl rfl ?_
      refine zt_iconst (pc' := 58) hX dX12_codesTold_57 rfl ?_
      have J_72_118 : ∀ (s111 : zSto), zInv s111 → zOn zQ6 σ s111 → s111 164 48 = σ 164 48 → (s111 164 5 = 0 → zt s111 = 1 ∧ s111 164 97 + s111 164 99 + σ 164 2 ≤ s111 164 2) → (σ 164 2 ≤ s111 164 2 ∧ s111 164 2 ≤ σ 164 3) → s111 164 3 = σ 164 3 → zo s111 0 (σ 164 48) = 1 → zF X s111 72 [some (.ref (X.1.1 + 164)), some (.int (zI 1)), none, none] [] := by
        intro s111 hI112 hF113 g114 g115 g116 g117 g118
        have b120 := zv_46_2 hI112 zc_164
        have b121 := zv_46_3 hI112 zc_164
        have b122 := zv_46_5 hI112 zc_164
        have b123 := zv_46_97 hI112 zc_164
        have b124 := zv_46_99 hI112 zc_164
        have b125 := zv_46_101 hI112 zc_164
        have b126 := zv_46_48 hI112 zc_164
        have b127 := zv_82 hI112 zc_200 1
        refine zt_aload_n (pc' := 73) hX dX12_codesTold_72 rfl rfl ?_
        have b128 := zv_46_5 hI112 zc_164
        refine zt_get (pc' := 76) (v := .int (zI (s111 164 5))) hX dX12_codesTold_73 rfl zf_X12_246 (by decide) zc_164 zs_46 rfl ?_
        refine zt_ifeq (pc' := 79) (tgt := 80) hX dX12_codesTold_76 rfl (by decide) ⟨by omega, by omega⟩ (fun c129 => ?_) (fun c129 => ?_)
        · have qg115 := g115 (by omega)
          clear g115
          refine zt_aload_n (pc' := 81) hX dX12_codesTold_80 rfl rfl ?_
          refine zt_get (pc' := 84) (v := .ref (X.1.1 + 200)) hX dX12_codesTold_81 rfl zf_X12_121 (by decide) zc_164 zs_46 (zrf_of (zv_46_45 hI112 zc_164)) ?_
          refine zt_iload_n (pc' := 85) hX dX12_codesTold_84 rfl rfl ?_
          refine zt_aload_n (pc' := 86) hX dX12_codesTold_85 rfl rfl ?_
          have b130 := zv_46_48 hI112 zc_164
          refine zt_get (pc' := 89) (v := .int (zI (s111 164 48))) hX dX12_codesTold_86 rfl zf_X12_348 (by decide) zc_164 zs_46 rfl ?_
          refine zt_iast (pc' := 90) hX dX12_codesTold_89 rfl (by decide) zc_200 zs_82 (by decide) ⟨by omega, by omega⟩ ?_
          rw [show Int.toNat 1 = 1 from rfl]
          generalize hs132 : zset s111 200 1 (s111 164 48) = s131
          have hI133 : zInv s131 := hs132 ▸ zp_82 hI112 zc_200 1 ⟨by omega, by omega⟩
          have hF134 : zOn zQ6 σ s131 := hs132 ▸ zOn_set hF113 (by decide)
          obtain ⟨-, w136, w137, w138, -, -, w141, -⟩ := zE_setk hs132 (by decide)
          have w143 := zo_0 hs132 0 (σ 164 48) (by decide) (by omega)
          have e144 : s131 164 2 = s111 164 2 := by rw [← hs132]; exact zset_k (zne_r zc_164 zc_200 (by decide))
          have e145 : s131 164 3 = s111 164 3 := by rw [← hs132]; exact zset_k (zne_r zc_164 zc_200 (by decide))
          have e146 : s131 164 5 = s111 164 5 := by rw [← hs132]; exact zset_k (zne_r zc_164 zc_200 (by decide))
          have e147 : s131 164 97 = s111 164 97 := by rw [← hs132]; exact zset_k (zne_r zc_164 zc_200 (by decide))
          have e148 : s131 164 99 = s111 164 99 := by rw [← hs132]; exact zset_k (zne_r zc_164 zc_200 (by decide))
          have e149 : s131 164 101 = s111 164 101 := by rw [← hs132]; exact zset_k (zne_r zc_164 zc_200 (by decide))
          have e150 : s131 164 48 = s111 164 48 := by rw [← hs132]; exact zset_k (zne_r zc_164 zc_200 (by decide))
          have e151 : s131 200 1 = (s111 164 48) := by rw [← hs132]; exact zset_s
          refine zt_iconst (pc' := 91) hX dX12_codesTold_90 rfl ?_
          refine zt_istore_n (pc' := 92) (lv' := [some (.ref (X.1.1 + 164)), some (.int (zI 1)), none, some (.int (zI 0))]) hX dX12_codesTold_91 rfl hL (by decide) rfl ?_
          have h152 := zcy_0 s131 (σ 164 48)
          have L_92_168 : ∀ (N : Nat) (x153 : Int) (s156 : zSto), 0 ≤ x153 → x153 ≤ 1700 → zInv s156 → zOn zQ6 σ s156 → s156 164 48 = σ 164 48 + x153 → x153 ≤ s156 164 97 → σ 164 48 + s156 164 97 ≤ s156 164 2 → zt s156 = 1 → s156 200 1 = σ 164 48 → zcy s156 (σ 164 48) x153 = 1 → s156 164 5 = 0 → (σ 164 2 ≤ s156 164 2 ∧ s156 164 2 ≤ σ 164 3) → s156 164 3 = σ 164 3 → zo s156 0 (σ 164 48) = 1 → ((1701 - x153).toNat) < N → zF X s156 92 [some (.ref (X.1.1 + 164)), some (.int (zI 1)), none, some (.int (zI x153))] [] := by
            intro N
            induction N with
            | zero =>
              intro x153 s156 h154 h155 hI157 hF158 g159 g160 g161 g162 g163 g164 g165 g166 g167 g168 hm170
              exact absurd hm170 (Nat.not_lt_zero _)
            | succ N ih171 =>
              intro x153 s156 h154 h155 hI157 hF158 g159 g160 g161 g162 g163 g164 g165 g166 g167 g168 hm170
              have b172 := zv_46_2 hI157 zc_164
              have b173 := zv_46_3 hI157 zc_164
              have b174 := zv_46_5 hI157 zc_164
              have b175 := zv_46_97 hI157 zc_164
              have b176 := zv_46_99 hI157 zc_164
              have b177 := zv_46_101 hI157 zc_164
              have b178 := zv_46_48 hI157 zc_164
              have b179 := zv_82 hI157 zc_200 1
              refine zt_iload_n (pc' := 93) hX dX12_codesTold_92 rfl rfl ?_
              refine zt_aload_n (pc' := 94) hX dX12_codesTold_93 rfl rfl ?_
              have b180 := zv_46_97 hI157 zc_164
              refine zt_get (pc' := 97) (v := .int (zI (s156 164 97))) hX dX12_codesTold_94 rfl zf_X12_330 (by decide) zc_164 zs_46 rfl ?_
              refine zt_icge (pc' := 100) (tgt := 131) hX dX12_codesTold_97 rfl (by decide) ⟨by omega, by omega⟩ ⟨by omega, by omega⟩ (fun c181 => ?_) (fun c181 => ?_)
              · refine zt_aload_n (pc' := 132) hX dX12_codesTold_131 rfl rfl ?_
                refine zt_get (pc' := 135) (v := .ref (X.1.1 + 201)) hX dX12_codesTold_132 rfl zf_X12_124 (by decide) zc_164 zs_46 (zrf_of (zv_46_46 hI157 zc_164)) ?_
                refine zt_iload_n (pc' := 136) hX dX12_codesTold_135 rfl rfl ?_
                refine zt_aload_n (pc' := 137) hX dX12_codesTold_136 rfl rfl ?_
                have b182 := zv_46_48 hI157 zc_164
                refine zt_get (pc' := 140) (v := .int (zI (s156 164 48))) hX dX12_codesTold_137 rfl zf_X12_348 (by decide) zc_164 zs_46 rfl ?_
                refine zt_iast (pc' := 141) hX dX12_codesTold_140 rfl (by decide) zc_201 zs_83 (by decide) ⟨by omega, by omega⟩ ?_
                rw [show Int.toNat 1 = 1 from rfl]
                generalize hs184 : zset s156 201 1 (s156 164 48) = s183
                have hI185 : zInv s183 := hs184 ▸ zp_83 hI157 zc_201 1 ⟨by omega, by omega⟩
                have hF186 : zOn zQ6 σ s183 := hs184 ▸ zOn_set hF158 (by decide)
                obtain ⟨-, w188, w189, w190, -, -, w193, -⟩ := zE_setk hs184 (by decide)
                have e195 : s183 164 2 = s156 164 2 := by rw [← hs184]; exact zset_k (zne_r zc_164 zc_201 (by decide))
                have e196 : s183 164 3 = s156 164 3 := by rw [← hs184]; exact zset_k (zne_r zc_164 zc_201 (by decide))
                have e197 : s183 164 5 = s156 164 5 := by rw [← hs184]; exact zset_k (zne_r zc_164 zc_201 (by decide))
                have e198 : s183 164 97 = s156 164 97 := by rw [← hs184]; exact zset_k (zne_r zc_164 zc_201 (by decide))
                have e199 : s183 164 99 = s156 164 99 := by rw [← hs184]; exact zset_k (zne_r zc_164 zc_201 (by decide))
                have e200 : s183 164 101 = s156 164 101 := by rw [← hs184]; exact zset_k (zne_r zc_164 zc_201 (by decide))
                have e201 : s183 164 48 = s156 164 48 := by rw [← hs184]; exact zset_k (zne_r zc_164 zc_201 (by decide))
                have e202 : s183 200 1 = s156 200 1 := by rw [← hs184]; exact zset_k (zne_r zc_200 zc_201 (by decide))
                have h203 := zwk_fin (k := x153) (c := σ 164 48) (Or.inr ⟨rfl, rfl⟩) hs184 (by omega) (by omega) (by omega) (by omega) (by omega) (by omega) (by omega) (by omega) (by omega)
                exact zt_vret hX hR dX12_codesTold_141 ⟨hI185, hF186, by omega, by omega, (fun hb => by omega)⟩
              · refine zt_aload_n (pc' := 101) hX dX12_codesTold_100 rfl rfl ?_
                refine zt_get (pc' := 104) (v := .ref (X.1.1 + 202)) hX dX12_codesTold_101 rfl zf_X12_127 (by decide) zc_164 zs_46 (zrf_of (zv_46_47 hI157 zc_164)) ?_
                refine zt_aload_n (pc' := 105) hX dX12_codesTold_104 rfl rfl ?_
                have b204 := zv_46_48 hI157 zc_164
                refine zt_get (pc' := 108) (v := .int (zI (s156 164 48))) hX dX12_codesTold_105 rfl zf_X12_348 (by decide) zc_164 zs_46 rfl ?_
                refine zt_aload_n (pc' := 109) hX dX12_codesTold_108 rfl rfl ?_
                refine zt_get (pc' := 112) (v := .ref (X.1.1 + 234)) hX dX12_codesTold_109 rfl zf_X12_231 (by decide) zc_164 zs_46 (zrf_of (zv_46_96 hI157 zc_164)) ?_
                refine zt_iload_n (pc' := 113) hX dX12_codesTold_112 rfl rfl ?_
                refine zt_iald (pc' := 114) hX dX12_codesTold_113 rfl (by decide) zc_234 zs_116 (by decide) ⟨by omega, by omega⟩ ?_
                generalize hv205 : s156 234 (x153.toNat) = v205
                have bv205 : -2147483648 ≤ v205 ∧ v205 ≤ 2147483647 := hv205 ▸ zv_116 hI157 zc_234 _
                refine zt_iast (pc' := 115) hX dX12_codesTold_114 rfl (by decide) zc_202 zs_84 (by decide) ⟨by omega, by omega⟩ ?_
                generalize hs207 : zset s156 202 ((s156 164 48).toNat) v205 = s206
                have hI208 : zInv s206 := hs207 ▸ zp_84 hI157 zc_202 ((s156 164 48).toNat) ⟨by omega, by omega⟩
                have hF209 : zOn zQ6 σ s206 := hs207 ▸ zOn_set hF158 (zq6_202 (by omega))
                obtain ⟨-, w211, w212, w213, -, -, w216, -⟩ := zE_setk hs207 (by decide)
                have w218 := zo_2 hs207 0 (σ 164 48) (by omega) (by omega)
                have e219 : s206 164 2 = s156 164 2 := by rw [← hs207]; exact zset_k (zne_r zc_164 zc_202 (by decide))
                have e220 : s206 164 3 = s156 164 3 := by rw [← hs207]; exact zset_k (zne_r zc_164 zc_202 (by decide))
                have e221 : s206 164 5 = s156 164 5 := by rw [← hs207]; exact zset_k (zne_r zc_164 zc_202 (by decide))
                have e222 : s206 164 97 = s156 164 97 := by rw [← hs207]; exact zset_k (zne_r zc_164 zc_202 (by decide))
                have e223 : s206 164 99 = s156 164 99 := by rw [← hs207]; exact zset_k (zne_r zc_164 zc_202 (by decide))
                have e224 : s206 164 101 = s156 164 101 := by rw [← hs207]; exact zset_k (zne_r zc_164 zc_202 (by decide))
                have e225 : s206 164 48 = s156 164 48 := by rw [← hs207]; exact zset_k (zne_r zc_164 zc_202 (by decide))
                have e226 : s206 200 1 = s156 200 1 := by rw [← hs207]; exact zset_k (zne_r zc_200 zc_202 (by decide))
                refine zt_aload_n (pc' := 116) hX dX12_codesTold_115 rfl rfl ?_
                refine zt_dup (pc' := 117) hX dX12_codesTold_116 rfl rfl ?_
                have b227 := zv_46_48 hI208 zc_164
                refine zt_get (pc' := 120) (v := .int (zI (s206 164 48))) hX dX12_codesTold_117 rfl zf_X12_348 (by decide) zc_164 zs_46 rfl ?_
                refine zt_iconst (pc' := 121) hX dX12_codesTold_120 rfl ?_
                refine zt_iadd (pc' := 122) hX dX12_codesTold_121 rfl ?_
                refine zt_put (pc' := 125) (x := ((s206 164 48) + 1)) hX dX12_codesTold_122 rfl zf_X12_348 (by decide) zc_164 zs_46 (fun q hq => by cases hq; rfl) rfl rfl rfl ?_
                generalize hs229 : zset s206 164 48 ((s206 164 48) + 1) = s228
                have hI230 : zInv s228 := hs229 ▸ zp_46_48 hI208 zc_164 ⟨by omega, by omega⟩
                have hF231 : zOn zQ6 σ s228 := hs229 ▸ zOn_set hF209 (by decide)
                obtain ⟨-, w233, w234, w235, -, -, w238, -⟩ := zE_set hs229 (by decide)
                have w240 := zo_m hs229 0 (σ 164 48) (by omega)
                have e241 : s228 164 2 = s206 164 2 := by rw [← hs229]; exact zset_j (by decide)
                have e242 : s228 164 3 = s206 164 3 := by rw [← hs229]; exact zset_j (by decide)
                have e243 : s228 164 5 = s206 164 5 := by rw [← hs229]; exact zset_j (by decide)
                have e244 : s228 164 97 = s206 164 97 := by rw [← hs229]; exact zset_j (by decide)
                have e245 : s228 164 99 = s206 164 99 := by rw [← hs229]; exact zset_j (by decide)
                have e246 : s228 164 101 = s206 164 101 := by rw [← hs229]; exact zset_j (by decide)
                have e247 : s228 164 48 = ((s206 164 48) + 1) := by rw [← hs229]; exact zset_s
                have e248 : s228 200 1 = s206 200 1 := by rw [← hs229]; exact zset_k (zne_r zc_200 zc_164 (by decide))
                have h249 := zcy_s (c := σ 164 48) (k := x153) hs207 hs229 (by omega) hv205 (by omega) (by omega) (by omega)
                refine zt_iinc (pc' := 128) (lv' := [some (.ref (X.1.1 + 164)), some (.int (zI 1)), none, some (.int (zI (x153 + 1)))]) hX dX12_codesTold_125 rfl rfl hL (by decide) rfl ?_
                refine zt_goto (tgt := 92) hX dX12_codesTold_128 (by decide) ?_
                exact ih171 (x153 + 1) s228 (by omega) (by omega) hI230 hF231 (by omega) (by omega) (by omega) (by omega) (by omega) (by omega) (by omega) (by omega) (by omega) (by omega) (by omega)
          exact L_92_168 _ 0 s131 (by omega) (by omega) hI133 hF134 (by omega) (by omega) (by omega) (by omega) (by omega) (by omega) (by omega) (by omega) (by omega) (by omega) (Nat.lt_succ_self _)
        · clear g115
          exact zt_vret hX hR dX12_codesTold_79 ⟨hI112, hF113, by omega, by omega, (fun hb => by omega)⟩
      refine zt_icne (pc' := 61) (tgt := 68) hX dX12_codesTold_58 rfl (by decide) ⟨by omega, by omega⟩ ⟨by omega, by omega⟩ (fun c250 => ?_) (fun c250 => ?_)
      · exact absurd c250 (by omega)
      · refine zt_aload_n (pc' := 62) hX dX12_codesTold_61 rfl rfl ?_
        refine zt_cVv (pc' := 65) hX dX12_codesTold_62 rfl zm_yX12_qTest zw_29_6 zc_164 (by decide) zs_46 (q := (RX12, TX12, 108)) rfl rfl (zc_X12_qTest _ _ s97 hI99 (by omega) (by omega) (by omega) (by omega) (by omega)) rfl rfl (Nat.le_of_ble_eq_true rfl) (by decide) (fun r251 s252 hr253 hp254 => ?_)
        obtain ⟨hI255, hF256, z257, z258, z259, z260, z261, z262⟩ := hp254
        have w263 := zo_on (zOn_tr (zOn_rf zQ2 s97) hF256 zi_id) 0 (σ 164 48) (by omega)
        have e264 := hF256 164 3 rfl
        have e265 := hF256 164 48 rfl
        have e266 := hF256 200 1 rfl
        have hF267 := zOn_tr hF100 hF256 zi_26
        have b268 := zv_46_2 hI255 zc_164
        have b269 := zv_46_3 hI255 zc_164
        have b270 := zv_46_5 hI255 zc_164
        have b271 := zv_46_97 hI255 zc_164
        have b272 := zv_46_99 hI255 zc_164
        have b273 := zv_46_101 hI255 zc_164
        have b274 := zv_46_48 hI255 zc_164
        have b275 := zv_82 hI255 zc_200 1
        refine zt_goto (tgt := 72) hX dX12_codesTold_65 (by decide) ?_
        exact J_72_118 s252 hI255 hF267 (by omega) (fun hb => by have qz262 := z262 (by omega); have qz261 := z261 (by omega); clear z262 z261; omega) (by omega) (by omega) (by omega)
    · exact zt_vret hX hR dX12_codesTold_30 ⟨hI11, hF12, by omega, by omega, (fun hb => by omega)⟩
  refine zt_ifne (pc' := 7) (tgt := 23) hX dX12_codesTold_4 rfl (by decide) ⟨by omega, by omega⟩ (fun c276 => ?_) (fun c276 => ?_)
  · refine zt_mask [true, true, false, false] rfl ?_
    exact J_23_17 σ hI hF (by omega) (by omega) (by omega) (by omega) (by omega)
  · refine zt_aload_n (pc' := 8) hX dX12_codesTold_7 rfl rfl ?_
    refine zt_get (pc' := 11) (v := .ref (X.1.1 + 200)) hX dX12_codesTold_8 rfl zf_X12_121 (by decide) zc_164 zs_46 (zrf_of (zv_46_45 hI zc_164)) ?_
    refine zt_iload_n (pc' := 12) hX dX12_codesTold_11 rfl rfl ?_
    refine zt_iald (pc' := 13) hX dX12_codesTold_12 rfl (by decide) zc_200 zs_82 (by decide) ⟨by omega, by omega⟩ ?_
    rw [show Int.toNat 1 = 1 from rfl]
    have b278 := zv_82 hI zc_200 1
    refine zt_iconst (pc' := 14) hX dX12_codesTold_13 rfl ?_
    refine zt_iceq (pc' := 17) (tgt := 23) hX dX12_codesTold_14 rfl (by decide) ⟨by omega, by omega⟩ ⟨by omega, by omega⟩ (fun c279 => ?_) (fun c279 => ?_)
    · refine zt_mask [true, true, false, false] rfl ?_
      exact J_23_17 σ hI hF (by omega) (by omega) (by omega) (by omega) (by omega)
    · refine zt_aload_n (pc' := 18) hX dX12_codesTold_17 rfl rfl ?_
      refine zt_iconst (pc' := 19) hX dX12_codesTold_18 rfl ?_
      refine zt_iload_n (pc' := 20) hX dX12_codesTold_19 rfl rfl ?_
      refine zt_cVv (pc' := 23) hX dX12_codesTold_20 rfl zm_yX12_fail zw_26_19 zc_164 (by decide) zs_46 (q := (RX12, TX12, 108)) rfl rfl (zc_X12_fail _ _ σ hI 5 ⟨by omega, by omega⟩ a2_ ⟨by omega, by omega⟩) rfl rfl (Nat.le_of_ble_eq_true rfl) (by decide) (fun r280 s281 hr282 hp283 => ?_)
      obtain ⟨hI284, hF285, z286, z287⟩ := hp283
      obtain ⟨-, w289, w290, w291, -, -, w294, -⟩ := zE_q1 hF285
      have w296 := zo_on (zOn_tr (zOn_rf zQ2 σ) hF285 zi_12) 0 (σ 164 48) (by omega)
      have e297 := hF285 164 3 rfl
      have e298 := hF285 164 97 rfl
      have e299 := hF285 164 99 rfl
      have e300 := hF285 164 101 rfl
      have e301 := hF285 164 48 rfl
      have e302 := hF285 200 1 rfl
      have hF303 := zOn_tr hF hF285 zi_16
      have b304 := zv_46_2 hI284 zc_164
      have b305 := zv_46_3 hI284 zc_164
      have b306 := zv_46_5 hI284 zc_164
      have b307 := zv_46_97 hI284 zc_164
      have b308 := zv_46_99 hI284 zc_164
      have b309 := zv_46_101 hI284 zc_164
      have b310 := zv_46_48 hI284 zc_164
      have b311 := zv_82 hI284 zc_200 1
      refine zt_mask [true, true, false, false] rfl ?_
      exact J_23_17 s281 hI284 hF303 (by omega) (by omega) (by omega) (by omega) (by omega)

set_option maxRecDepth 100000 in
set_option maxHeartbeats 2000000 in
theorem zc_X12_statementTold (l : Launch) (E : zEN) (σ : zSto) (hI : zInv σ) (hpre0 : σ 164 5 = 0) (hpre1 : σ 164 2 ≤ σ 164 3) (hpre2 : σ 164 48 ≤ σ 164 2) (hpre3 : zwk σ = 1) (hpre4 : (2 ≤ σ 194 0 ∧ σ 194 0 ≤ 6 ∧ 2 ≤ σ 194 1 ∧ σ 194 1 ≤ 6)) (hpre5 : (0 ≤ σ 199 0 ∧ σ 199 0 ≤ 100 ∧ 0 ≤ σ 199 1 ∧ σ 199 1 ≤ 100 ∧ 0 ≤ σ 199 2 ∧ σ 199 2 ≤ 100)) : zCt l E yX12_statementTold cX12_statementTold 2 none 10 zNC zNC 0 0 σ [.ref (E.1 + 164)] (fun r σ' => zInv σ' ∧ zOn zQ3 σ σ' ∧ (σ' 164 2 ≤ σ 164 3) ∧ (σ 164 2 ≤ σ' 164 2) ∧ (σ' 164 5 = 0 → σ 164 2 < σ' 164 2 ∧ σ' 164 48 ≤ σ' 164 2 ∧ zwk σ' = 1 ∧ (2 ≤ σ' 194 0 ∧ σ' 194 0 ≤ 6 ∧ 2 ≤ σ' 194 1 ∧ σ' 194 1 ≤ 6) ∧ (0 ≤ σ' 199 0 ∧ σ' 199 0 ≤ 100 ∧ 0 ≤ σ' 199 1 ∧ σ' 199 1 ≤ 100 ∧ 0 ≤ σ' 199 2 ∧ σ' 199 2 ≤ 100))) := by
  refine zCt_of2 [some (.ref (E.1 + 164)), none] (by decide +kernel) (Nat.le_of_ble_eq_true rfl) rfl ?_
  intro X hE hX hR hL hN
  subst hE
  have hX : zok X cX12_statementTold RX12 10 := hX
  have hF := zOn_rf zQ3 σ
  have b1 := zv_46_2 hI zc_164
  have b2 := zv_46_3 hI zc_164
  have b3 := zv_46_5 hI zc_164
  have b4 := zv_46_4 hI zc_164
  have b5 := zv_46_48 hI zc_164
  refine zt_aload_n (pc' := 1) hX dX12_statementTold_0 rfl rfl ?_
  have b6 := zv_46_2 hI zc_164
  refine zt_get (pc' := 4) (v := .int (zI (σ 164 2))) hX dX12_statementTold_1 rfl zf_X12_252 (by decide) zc_164 zs_46 rfl ?_
  refine zt_istore_n (pc' := 5) (lv' := [some (.ref (X.1.1 + 164)), some (.int (zI (σ 164 2)))]) hX dX12_statementTold_4 rfl hL (by decide) rfl ?_
  refine zt_aload_n (pc' := 6) hX dX12_statementTold_5 rfl rfl ?_
  have b7 := zv_46_49 hI zc_164
  refine zt_get (pc' := 9) (v := .int (zI (σ 164 49))) hX dX12_statementTold_6 rfl zf_X12_351 (by decide) zc_164 zs_46 rfl ?_
  refine zt_bipush (pc' := 11) hX dX12_statementTold_9 rfl (by decide) (by decide) ?_
  refine zt_icne (pc' := 14) (tgt := 21) hX dX12_statementTold_11 rfl (by decide) ⟨by omega, by omega⟩ ⟨by omega, by omega⟩ (fun c8 => ?_) (fun c8 => ?_)
  · refine zt_aload_n (pc' := 22) hX dX12_statementTold_21 rfl rfl ?_
    refine zt_aload_n (pc' := 23) hX dX12_statementTold_22 rfl rfl ?_
    refine zt_get (pc' := 26) (v := .ref (X.1.1 + 170)) hX dX12_statementTold_23 rfl zf_X12_30 (by decide) zc_164 zs_46 (zrf_of (zv_46_14 hI zc_164)) ?_
    refine zt_cVz (pc' := 29) hX dX12_statementTold_26 rfl zm_yX12_takes zw_26_4 zc_164 (by decide) zs_46 (q := (RX12, TX12, 108)) rfl rfl (zc_X12_takes _ _ σ hI 170 52 5 zc_170 (by decide) zs_52 (by decide)) rfl rfl (Nat.le_of_ble_eq_true rfl) (by decide) (fun r9 s10 hr11 hp12 => ?_)
    obtain ⟨hI13, hF14, q15, q16, z17, z18, z19⟩ := hp12
    have w20 := zwk_q1 hF14
    have e21 := hF14 164 3 rfl
    have e22 := hF14 164 48 rfl
    have e23 := hF14 194 0 rfl
    have e24 := hF14 194 1 rfl
    have e25 := hF14 199 0 rfl
    have e26 := hF14 199 1 rfl
    have e27 := hF14 199 2 rfl
    have hF28 := zOn_tr hF hF14 zi_13
    have b29 := zv_46_2 hI13 zc_164
    have b30 := zv_46_3 hI13 zc_164
    have b31 := zv_46_5 hI13 zc_164
    have b32 := zv_46_4 hI13 zc_164
    have b33 := zv_46_48 hI13 zc_164
    replace z17 : _ ∧ _ := ⟨z17.1, z17.2 (by omega)⟩
    have J_173_39 : ∀ (s34 : zSto), zInv s34 → zOn zQ3 σ s34 → (σ 164 2 ≤ s34 164 2 ∧ s34 164 2 ≤ σ 164 3) → s34 164 3 = σ 164 3 → (s34 164 5 = 0 → zwk s34 = 1 ∧ s34 164 48 ≤ s34 164 2 ∧ σ 164 2 < s34 164 2 ∧ (2 ≤ s34 194 0 ∧ s34 194 0 ≤ 6 ∧ 2 ≤ s34 194 1 ∧ s34 194 1 ≤ 6) ∧ (0 ≤ s34 199 0 ∧ s34 199 0 ≤ 100 ∧ 0 ≤ s34 199 1 ∧ s34 199 1 ≤ 100 ∧ 0 ≤ s34 199 2 ∧ s34 199 2 ≤ 100)) → zF X s34 173 [some (.ref (X.1.1 + 164)), none] [] := by
      clear z18
      intro s34 hI35 hF36 g37 g38 g39
      have b41 := zv_46_2 hI35 zc_164
      have b42 := zv_46_3 hI35 zc_164
      have b43 := zv_46_5 hI35 zc_164
      have b44 := zv_46_4 hI35 zc_164
      have b45 := zv_46_48 hI35 zc_164
      refine zt_aload_n (pc' := 174) hX dX12_statementTold_173 rfl rfl ?_
      refine zt_bipush (pc' := 176) hX dX12_statementTold_174 rfl (by decide) (by decide) ?_
      refine zt_cVv (pc' := 179) hX dX12_statementTold_176 rfl zm_yX12_asksSign zw_27_10 zc_164 (by decide) zs_46 (q := (RX12, TX12, 108)) rfl rfl (zc_X12_asksSign _ _ s34 hI35 59 ⟨by omega, by omega⟩) rfl rfl (Nat.le_of_ble_eq_true rfl) (by decide) (fun r46 s47 hr48 hp49 => ?_)
      obtain ⟨hI50, hF51, z52, z53⟩ := hp49
      have w54 := zwk_q1 hF51
      have e55 := hF51 164 3 rfl
      have e56 := hF51 164 48 rfl
      have e57 := hF51 194 0 rfl
      have e58 := hF51 194 1 rfl
      have e59 := hF51 199 0 rfl
      have e60 := hF51 199 1 rfl
      have e61 := hF51 199 2 rfl
      have hF62 := zOn_tr hF36 hF51 zi_13
      have b63 := zv_46_2 hI50 zc_164
      have b64 := zv_46_3 hI50 zc_164
      have b65 := zv_46_5 hI50 zc_164
      have b66 := zv_46_4 hI50 zc_164
      have b67 := zv_46_48 hI50 zc_164
      replace z52 : _ ∧ _ := ⟨z52.1, z52.2 (by omega)⟩
      refine zt_aload_n (pc' := 180) hX dX12_statementTold_179 rfl rfl ?_
      refine zt_dup (pc' := 181) hX dX12_statementTold_180 rfl rfl ?_
      have b68 := zv_46_49 hI50 zc_164
      refine zt_get (pc' := 184) (v := .int (zI (s47 164 49))) hX dX12_statementTold_181 rfl zf_X12_351 (by decide) zc_164 zs_46 rfl ?_
      refine zt_iconst (pc' := 185) hX dX12_statementTold_184 rfl ?_
      refine zt_iadd (pc' := 186) hX dX12_statementTold_185 rfl ?_
      refine zt_wrap (fun r69 zr69 lr69 ur69 => ?_)
      clear zr69
      refine zt_put (pc' := 189) (x := r69) hX dX12_statementTold_186 rfl zf_X12_351 (by decide) zc_164 zs_46 (fun q hq => by cases hq; rfl) rfl rfl rfl ?_
      generalize hs71 : zset s47 164 49 r69 = s70
      have hI72 : zInv s70 := hs71 ▸ zp_46_49 hI50 zc_164 ⟨by omega, by omega⟩
      have hF73 : zOn zQ3 σ s70 := hs71 ▸ zOn_set hF62 (by decide)
      have w74 := zwk_m hs71 (by decide)
      have e75 : s70 164 2 = s47 164 2 := by rw [← hs71]; exact zset_j (by decide)
      have e76 : s70 164 3 = s47 164 3 := by rw [← hs71]; exact zset_j (by decide)
      have e77 : s70 164 5 = s47 164 5 := by rw [← hs71]; exact zset_j (by decide)
      have e78 : s70 164 4 = s47 164 4 := by rw [← hs71]; exact zset_j (by decide)
      have e79 : s70 164 48 = s47 164 48 := by rw [← hs71]; exact zset_j (by decide)
      have e80 : s70 194 0 = s47 194 0 := by rw [← hs71]; exact zset_k (zne_r zc_194 zc_164 (by decide))
      have e81 : s70 194 1 = s47 194 1 := by rw [← hs71]; exact zset_k (zne_r zc_194 zc_164 (by decide))
      have e82 : s70 199 0 = s47 199 0 := by rw [← hs71]; exact zset_k (zne_r zc_199 zc_164 (by decide))
      have e83 : s70 199 1 = s47 199 1 := by rw [← hs71]; exact zset_k (zne_r zc_199 zc_164 (by decide))
      have e84 : s70 199 2 = s47 199 2 := by rw [← hs71]; exact zset_k (zne_r zc_199 zc_164 (by decide))
      exact zt_vret hX hR dX12_statementTold_189 ⟨hI72, hF73, by omega, by omega, (fun hb => by have qz53 := z53 (by omega); have qg39 := g39 (by omega); clear z53 g39; omega)⟩
    refine zt_ifeq (pc' := 32) (tgt := 39) hX dX12_statementTold_29 rfl (by decide) ⟨by omega, by omega⟩ (fun c85 => ?_) (fun c85 => ?_)
    · clear z18
      refine zt_aload_n (pc' := 40) hX dX12_statementTold_39 rfl rfl ?_
      refine zt_aload_n (pc' := 41) hX dX12_statementTold_40 rfl rfl ?_
      refine zt_get (pc' := 44) (v := .ref (X.1.1 + 171)) hX dX12_statementTold_41 rfl zf_X12_33 (by decide) zc_164 zs_46 (zrf_of (zv_46_15 hI13 zc_164)) ?_
      refine zt_cVz (pc' := 47) hX dX12_statementTold_44 rfl zm_yX12_takes zw_26_4 zc_164 (by decide) zs_46 (q := (RX12, TX12, 108)) rfl rfl (zc_X12_takes _ _ s10 hI13 171 53 4 zc_171 (by decide) zs_53 (by decide)) rfl rfl (Nat.le_of_ble_eq_true rfl) (by decide) (fun r86 s87 hr88 hp89 => ?_)
      obtain ⟨hI90, hF91, q92, q93, z94, z95, z96⟩ := hp89
      have w97 := zwk_q1 hF91
      have e98 := hF91 164 3 rfl
      have e99 := hF91 164 48 rfl
      have e100 := hF91 194 0 rfl
      have e101 := hF91 194 1 rfl
      have e102 := hF91 199 0 rfl
      have e103 := hF91 199 1 rfl
      have e104 := hF91 199 2 rfl
      have hF105 := zOn_tr hF28 hF91 zi_13
      have b106 := zv_46_2 hI90 zc_164
      have b107 := zv_46_3 hI90 zc_164
      have b108 := zv_46_5 hI90 zc_164
      have b109 := zv_46_4 hI90 zc_164
      have b110 := zv_46_48 hI90 zc_164
      replace z94 : _ ∧ _ := ⟨z94.1, z94.2 (by omega)⟩
      refine zt_ifeq (pc' := 50) (tgt := 58) hX dX12_statementTold_47 rfl (by decide) ⟨by omega, by omega⟩ (fun c111 => ?_) (fun c111 => ?_)
      · clear z95
        refine zt_aload_n (pc' := 59) hX dX12_statementTold_58 rfl rfl ?_
        refine zt_aload_n (pc' := 60) hX dX12_statementTold_59 rfl rfl ?_
        refine zt_get (pc' := 63) (v := .ref (X.1.1 + 174)) hX dX12_statementTold_60 rfl zf_X12_42 (by decide) zc_164 zs_46 (zrf_of (zv_46_18 hI90 zc_164)) ?_
        refine zt_cVz (pc' := 66) hX dX12_statementTold_63 rfl zm_yX12_takes zw_26_4 zc_164 (by decide) zs_46 (q := (RX12, TX12, 108)) rfl rfl (zc_X12_takes _ _ s87 hI90 174 56 4 zc_174 (by decide) zs_56 (by decide)) rfl rfl (Nat.le_of_ble_eq_true rfl) (by decide) (fun r112 s113 hr114 hp115 => ?_)
        obtain ⟨hI116, hF117, q118, q119, z120, z121, z122⟩ := hp115
        have w123 := zwk_q1 hF117
        have e124 := hF117 164 3 rfl
        have e125 := hF117 164 48 rfl
        have e126 := hF117 194 0 rfl
        have e127 := hF117 194 1 rfl
        have e128 := hF117 199 0 rfl
        have e129 := hF117 199 1 rfl
        have e130 := hF117 199 2 rfl
        have hF131 := zOn_tr hF105 hF117 zi_13
        have b132 := zv_46_2 hI116 zc_164
        have b133 := zv_46_3 hI116 zc_164
        have b134 := zv_46_5 hI116 zc_164
        have b135 := zv_46_4 hI116 zc_164
        have b136 := zv_46_48 hI116 zc_164
        replace z120 : _ ∧ _ := ⟨z120.1, z120.2 (by omega)⟩
        refine zt_ifeq (pc' := 69) (tgt := 78) hX dX12_statementTold_66 rfl (by decide) ⟨by omega, by omega⟩ (fun c137 => ?_) (fun c137 => ?_)
        · clear z121
          refine zt_aload_n (pc' := 79) hX dX12_statementTold_78 rfl rfl ?_
          refine zt_aload_n (pc' := 80) hX dX12_statementTold_79 rfl rfl ?_
          refine zt_get (pc' := 83) (v := .ref (X.1.1 + 175)) hX dX12_statementTold_80 rfl zf_X12_45 (by decide) zc_164 zs_46 (zrf_of (zv_46_19 hI116 zc_164)) ?_
          refine zt_cVz (pc' := 86) hX dX12_statementTold_83 rfl zm_yX12_takes zw_26_4 zc_164 (by decide) zs_46 (q := (RX12, TX12, 108)) rfl rfl (zc_X12_takes _ _ s113 hI116 175 57 5 zc_175 (by decide) zs_57 (by decide)) rfl rfl (Nat.le_of_ble_eq_true rfl) (by decide) (fun r138 s139 hr140 hp141 => ?_)
          obtain ⟨hI142, hF143, q144, q145, z146, z147, z148⟩ := hp141
          have w149 := zwk_q1 hF143
          have e150 := hF143 164 3 rfl
          have e151 := hF143 164 48 rfl
          have e152 := hF143 194 0 rfl
          have e153 := hF143 194 1 rfl
          have e154 := hF143 199 0 rfl
          have e155 := hF143 199 1 rfl
          have e156 := hF143 199 2 rfl
          have hF157 := zOn_tr hF131 hF143 zi_13
          have b158 := zv_46_2 hI142 zc_164
          have b159 := zv_46_3 hI142 zc_164
          have b160 := zv_46_5 hI142 zc_164
          have b161 := zv_46_4 hI142 zc_164
          have b162 := zv_46_48 hI142 zc_164
          replace z146 : _ ∧ _ := ⟨z146.1, z146.2 (by omega)⟩
          refine zt_ifeq (pc' := 89) (tgt := 98) hX dX12_statementTold_86 rfl (by decide) ⟨by omega, by omega⟩ (fun c163 => ?_) (fun c163 => ?_)
          · clear z147
            refine zt_aload_n (pc' := 99) hX dX12_statementTold_98 rfl rfl ?_
            refine zt_aload_n (pc' := 100) hX dX12_statementTold_99 rfl rfl ?_
            refine zt_get (pc' := 103) (v := .ref (X.1.1 + 176)) hX dX12_statementTold_100 rfl zf_X12_48 (by decide) zc_164 zs_46 (zrf_of (zv_46_20 hI142 zc_164)) ?_
            refine zt_cVz (pc' := 106) hX dX12_statementTold_103 rfl zm_yX12_takes zw_26_4 zc_164 (by decide) zs_46 (q := (RX12, TX12, 108)) rfl rfl (zc_X12_takes _ _ s139 hI142 176 58 5 zc_176 (by decide) zs_58 (by decide)) rfl rfl (Nat.le_of_ble_eq_true rfl) (by decide) (fun r164 s165 hr166 hp167 => ?_)
            obtain ⟨hI168, hF169, q170, q171, z172, z173, z174⟩ := hp167
            have w175 := zwk_q1 hF169
            have e176 := hF169 164 3 rfl
            have e177 := hF169 164 48 rfl
            have e178 := hF169 194 0 rfl
            have e179 := hF169 194 1 rfl
            have e180 := hF169 199 0 rfl
            have e181 := hF169 199 1 rfl
            have e182 := hF169 199 2 rfl
            have hF183 := zOn_tr hF157 hF169 zi_13
            have b184 := zv_46_2 hI168 zc_164
            have b185 := zv_46_3 hI168 zc_164
            have b186 := zv_46_5 hI168 zc_164
            have b187 := zv_46_4 hI168 zc_164
            have b188 := zv_46_48 hI168 zc_164
            replace z172 : _ ∧ _ := ⟨z172.1, z172.2 (by omega)⟩
            refine zt_ifeq (pc' := 109) (tgt := 125) hX dX12_statementTold_106 rfl (by decide) ⟨by omega, by omega⟩ (fun c189 => ?_) (fun c189 => ?_)
            · clear z173
              refine zt_aload_n (pc' := 126) hX dX12_statementTold_125 rfl rfl ?_
              refine zt_aload_n (pc' := 127) hX dX12_statementTold_126 rfl rfl ?_
              refine zt_get (pc' := 130) (v := .ref (X.1.1 + 177)) hX dX12_statementTold_127 rfl zf_X12_51 (by decide) zc_164 zs_46 (zrf_of (zv_46_21 hI168 zc_164)) ?_
              refine zt_cVz (pc' := 133) hX dX12_statementTold_130 rfl zm_yX12_takes zw_26_4 zc_164 (by decide) zs_46 (q := (RX12, TX12, 108)) rfl rfl (zc_X12_takes _ _ s165 hI168 177 59 5 zc_177 (by decide) zs_59 (by decide)) rfl rfl (Nat.le_of_ble_eq_true rfl) (by decide) (fun r190 s191 hr192 hp193 => ?_)
              obtain ⟨hI194, hF195, q196, q197, z198, z199, z200⟩ := hp193
              have w201 := zwk_q1 hF195
              have e202 := hF195 164 3 rfl
              have e203 := hF195 164 48 rfl
              have e204 := hF195 194 0 rfl
              have e205 := hF195 194 1 rfl
              have e206 := hF195 199 0 rfl
              have e207 := hF195 199 1 rfl
              have e208 := hF195 199 2 rfl
              have hF209 := zOn_tr hF183 hF195 zi_13
              have b210 := zv_46_2 hI194 zc_164
              have b211 := zv_46_3 hI194 zc_164
              have b212 := zv_46_5 hI194 zc_164
              have b213 := zv_46_4 hI194 zc_164
              have b214 := zv_46_48 hI194 zc_164
              replace z198 : _ ∧ _ := ⟨z198.1, z198.2 (by omega)⟩
              refine zt_ifeq (pc' := 136) (tgt := 152) hX dX12_statementTold_133 rfl (by decide) ⟨by omega, by omega⟩ (fun c215 => ?_) (fun c215 => ?_)
              · clear z199
                refine zt_aload_n (pc' := 153) hX dX12_statementTold_152 rfl rfl ?_
                refine zt_aload_n (pc' := 154) hX dX12_statementTold_153 rfl rfl ?_
                refine zt_get (pc' := 157) (v := .ref (X.1.1 + 178)) hX dX12_statementTold_154 rfl zf_X12_54 (by decide) zc_164 zs_46 (zrf_of (zv_46_22 hI194 zc_164)) ?_
                refine zt_cVv (pc' := 160) hX dX12_statementTold_157 rfl zm_yX12_asks zw_26_0 zc_164 (by decide) zs_46 (q := (RX12, TX12, 108)) rfl rfl (zc_X12_asks _ _ s191 hI194 178 60 4 zc_178 (by decide) zs_60 (by decide)) rfl rfl (Nat.le_of_ble_eq_true rfl) (by decide) (fun r216 s217 hr218 hp219 => ?_)
                obtain ⟨hI220, hF221, z222, z223⟩ := hp219
                have w224 := zwk_q1 hF221
                have e225 := hF221 164 3 rfl
                have e226 := hF221 164 48 rfl
                have e227 := hF221 194 0 rfl
                have e228 := hF221 194 1 rfl
                have e229 := hF221 199 0 rfl
                have e230 := hF221 199 1 rfl
                have e231 := hF221 199 2 rfl
                have hF232 := zOn_tr hF209 hF221 zi_13
                have b233 := zv_46_2 hI220 zc_164
                have b234 := zv_46_3 hI220 zc_164
                have b235 := zv_46_5 hI220 zc_164
                have b236 := zv_46_4 hI220 zc_164
                have b237 := zv_46_48 hI220 zc_164
                replace z222 : _ ∧ _ := ⟨z222.1, z222.2 (by omega)⟩
                refine zt_aload_n (pc' := 161) hX dX12_statementTold_160 rfl rfl ?_
                refine zt_get (pc' := 164) (v := .ref (X.1.1 + 199)) hX dX12_statementTold_161 rfl zf_X12_118 (by decide) zc_164 zs_46 (zrf_of (zv_46_44 hI220 zc_164)) ?_
                refine zt_iconst (pc' := 165) hX dX12_statementTold_164 rfl ?_
                refine zt_aload_n (pc' := 166) hX dX12_statementTold_165 rfl rfl ?_
                refine zt_iconst (pc' := 167) hX dX12_statementTold_166 rfl ?_
                refine zt_bipush (pc' := 169) hX dX12_statementTold_167 rfl (by decide) (by decide) ?_
                refine zt_cVi (pc' := 172) hX dX12_statementTold_169 rfl zm_yX12_number zw_26_23 zc_164 (by decide) zs_46 (q := (RX12, TX12, 108)) rfl rfl (zc_X12_number _ _ s217 hI220 0 ⟨by omega, by omega⟩ 100 ⟨by omega, by omega⟩) rfl rfl (Nat.le_of_ble_eq_true rfl) (by decide) (fun r238 s239 hr240 hp241 => ?_)
                obtain ⟨hI242, hF243, q244, q245, z246, z247, z248⟩ := hp241
                have w249 := zwk_q1 hF243
                have e250 := hF243 164 3 rfl
                have e251 := hF243 164 48 rfl
                have e252 := hF243 194 0 rfl
                have e253 := hF243 194 1 rfl
                have e254 := hF243 199 0 rfl
                have e255 := hF243 199 1 rfl
                have e256 := hF243 199 2 rfl
                have hF257 := zOn_tr hF232 hF243 zi_13
                have b258 := zv_46_2 hI242 zc_164
                have b259 := zv_46_3 hI242 zc_164
                have b260 := zv_46_5 hI242 zc_164
                have b261 := zv_46_4 hI242 zc_164
                have b262 := zv_46_48 hI242 zc_164
                replace z246 : _ ∧ _ := ⟨z246.1, z246.2 (by omega)⟩
                clear z248
                refine zt_iast (pc' := 173) hX dX12_statementTold_172 rfl (by decide) zc_199 zs_81 (by decide) ⟨by omega, by omega⟩ ?_
                rw [show Int.toNat 2 = 2 from rfl]
                generalize hs264 : zset s239 199 2 r238 = s263
                have hI265 : zInv s263 := hs264 ▸ zp_81 hI242 zc_199 2 (by omega)
                have hF266 : zOn zQ3 σ s263 := hs264 ▸ zOn_set hF257 (by decide)
                have w267 := zwk_k hs264 (by decide)
                have e268 : s263 164 2 = s239 164 2 := by rw [← hs264]; exact zset_k (zne_r zc_164 zc_199 (by decide))
                have e269 : s263 164 3 = s239 164 3 := by rw [← hs264]; exact zset_k (zne_r zc_164 zc_199 (by decide))
                have e270 : s263 164 5 = s239 164 5 := by rw [← hs264]; exact zset_k (zne_r zc_164 zc_199 (by decide))
                have e271 : s263 164 4 = s239 164 4 := by rw [← hs264]; exact zset_k (zne_r zc_164 zc_199 (by decide))
                have e272 : s263 164 48 = s239 164 48 := by rw [← hs264]; exact zset_k (zne_r zc_164 zc_199 (by decide))
                have e273 : s263 194 0 = s239 194 0 := by rw [← hs264]; exact zset_k (zne_r zc_194 zc_199 (by decide))
                have e274 : s263 194 1 = s239 194 1 := by rw [← hs264]; exact zset_k (zne_r zc_194 zc_199 (by decide))
                have e275 : s263 199 0 = s239 199 0 := by rw [← hs264]; exact zset_j (by decide)
                have e276 : s263 199 1 = s239 199 1 := by rw [← hs264]; exact zset_j (by decide)
                have e277 : s263 199 2 = r238 := by rw [← hs264]; exact zset_s
                refine zt_mask [true, false] rfl ?_
                exact J_173_39 s263 hI265 hF266 (by omega) (by omega) (fun hb => by have qz247 := z247 (by omega); have qz223 := z223 (by omega); clear z247 z223; omega)
              · have qz199 := z199 (by omega)
                clear z199
                refine zt_aload_n (pc' := 137) hX dX12_statementTold_136 rfl rfl ?_
                refine zt_get (pc' := 140) (v := .ref (X.1.1 + 199)) hX dX12_statementTold_137 rfl zf_X12_118 (by decide) zc_164 zs_46 (zrf_of (zv_46_44 hI194 zc_164)) ?_
                refine zt_iconst (pc' := 141) hX dX12_statementTold_140 rfl ?_
                refine zt_aload_n (pc' := 142) hX dX12_statementTold_141 rfl rfl ?_
                refine zt_iconst (pc' := 143) hX dX12_statementTold_142 rfl ?_
                refine zt_bipush (pc' := 145) hX dX12_statementTold_143 rfl (by decide) (by decide) ?_
                refine zt_cVi (pc' := 148) hX dX12_statementTold_145 rfl zm_yX12_number zw_26_23 zc_164 (by decide) zs_46 (q := (RX12, TX12, 108)) rfl rfl (zc_X12_number _ _ s191 hI194 0 ⟨by omega, by omega⟩ 99 ⟨by omega, by omega⟩) rfl rfl (Nat.le_of_ble_eq_true rfl) (by decide) (fun r278 s279 hr280 hp281 => ?_)
                obtain ⟨hI282, hF283, q284, q285, z286, z287, z288⟩ := hp281
                have w289 := zwk_q1 hF283
                have e290 := hF283 164 3 rfl
                have e291 := hF283 164 48 rfl
                have e292 := hF283 194 0 rfl
                have e293 := hF283 194 1 rfl
                have e294 := hF283 199 0 rfl
                have e295 := hF283 199 1 rfl
                have e296 := hF283 199 2 rfl
                have hF297 := zOn_tr hF209 hF283 zi_13
                have b298 := zv_46_2 hI282 zc_164
                have b299 := zv_46_3 hI282 zc_164
                have b300 := zv_46_5 hI282 zc_164
                have b301 := zv_46_4 hI282 zc_164
                have b302 := zv_46_48 hI282 zc_164
                replace z286 : _ ∧ _ := ⟨z286.1, z286.2 (by omega)⟩
                clear z288
                refine zt_iast (pc' := 149) hX dX12_statementTold_148 rfl (by decide) zc_199 zs_81 (by decide) ⟨by omega, by omega⟩ ?_
                rw [show Int.toNat 1 = 1 from rfl]
                generalize hs304 : zset s279 199 1 r278 = s303
                have hI305 : zInv s303 := hs304 ▸ zp_81 hI282 zc_199 1 (by omega)
                have hF306 : zOn zQ3 σ s303 := hs304 ▸ zOn_set hF297 (by decide)
                have w307 := zwk_k hs304 (by decide)
                have e308 : s303 164 2 = s279 164 2 := by rw [← hs304]; exact zset_k (zne_r zc_164 zc_199 (by decide))
                have e309 : s303 164 3 = s279 164 3 := by rw [← hs304]; exact zset_k (zne_r zc_164 zc_199 (by decide))
                have e310 : s303 164 5 = s279 164 5 := by rw [← hs304]; exact zset_k (zne_r zc_164 zc_199 (by decide))
                have e311 : s303 164 4 = s279 164 4 := by rw [← hs304]; exact zset_k (zne_r zc_164 zc_199 (by decide))
                have e312 : s303 164 48 = s279 164 48 := by rw [← hs304]; exact zset_k (zne_r zc_164 zc_199 (by decide))
                have e313 : s303 194 0 = s279 194 0 := by rw [← hs304]; exact zset_k (zne_r zc_194 zc_199 (by decide))
                have e314 : s303 194 1 = s279 194 1 := by rw [← hs304]; exact zset_k (zne_r zc_194 zc_199 (by decide))
                have e315 : s303 199 0 = s279 199 0 := by rw [← hs304]; exact zset_j (by decide)
                have e316 : s303 199 1 = r278 := by rw [← hs304]; exact zset_s
                have e317 : s303 199 2 = s279 199 2 := by rw [← hs304]; exact zset_j (by decide)
                refine zt_goto (tgt := 173) hX dX12_statementTold_149 (by decide) ?_
                refine zt_mask [true, false] rfl ?_
                exact J_173_39 s303 hI305 hF306 (by omega) (by omega) (fun hb => by have qz287 := z287 (by omega); clear z287; omega)
            · have qz173 := z173 (by omega)
              clear z173
              refine zt_aload_n (pc' := 110) hX dX12_statementTold_109 rfl rfl ?_
              refine zt_get (pc' := 113) (v := .ref (X.1.1 + 199)) hX dX12_statementTold_110 rfl zf_X12_118 (by decide) zc_164 zs_46 (zrf_of (zv_46_44 hI168 zc_164)) ?_
              refine zt_iconst (pc' := 114) hX dX12_statementTold_113 rfl ?_
              refine zt_aload_n (pc' := 115) hX dX12_statementTold_114 rfl rfl ?_
              refine zt_iconst (pc' := 116) hX dX12_statementTold_115 rfl ?_
              refine zt_bipush (pc' := 118) hX dX12_statementTold_116 rfl (by decide) (by decide) ?_
              refine zt_cVi (pc' := 121) hX dX12_statementTold_118 rfl zm_yX12_number zw_26_23 zc_164 (by decide) zs_46 (q := (RX12, TX12, 108)) rfl rfl (zc_X12_number _ _ s165 hI168 0 ⟨by omega, by omega⟩ 99 ⟨by omega, by omega⟩) rfl rfl (Nat.le_of_ble_eq_true rfl) (by decide) (fun r318 s319 hr320 hp321 => ?_)
              obtain ⟨hI322, hF323, q324, q325, z326, z327, z328⟩ := hp321
              have w329 := zwk_q1 hF323
              have e330 := hF323 164 3 rfl
              have e331 := hF323 164 48 rfl
              have e332 := hF323 194 0 rfl
              have e333 := hF323 194 1 rfl
              have e334 := hF323 199 0 rfl
              have e335 := hF323 199 1 rfl
              have e336 := hF323 199 2 rfl
              have hF337 := zOn_tr hF183 hF323 zi_13
              have b338 := zv_46_2 hI322 zc_164
              have b339 := zv_46_3 hI322 zc_164
              have b340 := zv_46_5 hI322 zc_164
              have b341 := zv_46_4 hI322 zc_164
              have b342 := zv_46_48 hI322 zc_164
              replace z326 : _ ∧ _ := ⟨z326.1, z326.2 (by omega)⟩
              clear z328
              refine zt_iast (pc' := 122) hX dX12_statementTold_121 rfl (by decide) zc_199 zs_81 (by decide) ⟨by omega, by omega⟩ ?_
              rw [show Int.toNat 0 = 0 from rfl]
              generalize hs344 : zset s319 199 0 r318 = s343
              have hI345 : zInv s343 := hs344 ▸ zp_81 hI322 zc_199 0 (by omega)
              have hF346 : zOn zQ3 σ s343 := hs344 ▸ zOn_set hF337 (by decide)
              have w347 := zwk_k hs344 (by decide)
              have e348 : s343 164 2 = s319 164 2 := by rw [← hs344]; exact zset_k (zne_r zc_164 zc_199 (by decide))
              have e349 : s343 164 3 = s319 164 3 := by rw [← hs344]; exact zset_k (zne_r zc_164 zc_199 (by decide))
              have e350 : s343 164 5 = s319 164 5 := by rw [← hs344]; exact zset_k (zne_r zc_164 zc_199 (by decide))
              have e351 : s343 164 4 = s319 164 4 := by rw [← hs344]; exact zset_k (zne_r zc_164 zc_199 (by decide))
              have e352 : s343 164 48 = s319 164 48 := by rw [← hs344]; exact zset_k (zne_r zc_164 zc_199 (by decide))
              have e353 : s343 194 0 = s319 194 0 := by rw [← hs344]; exact zset_k (zne_r zc_194 zc_199 (by decide))
              have e354 : s343 194 1 = s319 194 1 := by rw [← hs344]; exact zset_k (zne_r zc_194 zc_199 (by decide))
              have e355 : s343 199 0 = r318 := by rw [← hs344]; exact zset_s
              have e356 : s343 199 1 = s319 199 1 := by rw [← hs344]; exact zset_j (by decide)
              have e357 : s343 199 2 = s319 199 2 := by rw [← hs344]; exact zset_j (by decide)
              refine zt_goto (tgt := 173) hX dX12_statementTold_122 (by decide) ?_
              refine zt_mask [true, false] rfl ?_
              exact J_173_39 s343 hI345 hF346 (by omega) (by omega) (fun hb => by have qz327 := z327 (by omega); clear z327; omega)
          · have qz147 := z147 (by omega)
            clear z147
            refine zt_aload_n (pc' := 90) hX dX12_statementTold_89 rfl rfl ?_
            refine zt_iconst (pc' := 91) hX dX12_statementTold_90 rfl ?_
            refine zt_iload_n (pc' := 92) hX dX12_statementTold_91 rfl rfl ?_
            refine zt_cVv (pc' := 95) hX dX12_statementTold_92 rfl zm_yX12_codesTold zw_28_21 zc_164 (by decide) zs_46 (q := (RX12, TX12, 108)) rfl rfl (zc_X12_codesTold_1 _ _ s139 hI142 (σ 164 2) ⟨by omega, by omega⟩ (by omega) (by omega) (by omega) (by omega)) rfl rfl (Nat.le_of_ble_eq_true rfl) (by decide) (fun r358 s359 hr360 hp361 => ?_)
            obtain ⟨hI362, hF363, z364, z365, z366⟩ := hp361
            have e367 := hF363 164 3 rfl
            have e368 := hF363 194 0 rfl
            have e369 := hF363 194 1 rfl
            have e370 := hF363 199 0 rfl
            have e371 := hF363 199 1 rfl
            have e372 := hF363 199 2 rfl
            have hF373 := zOn_tr hF157 hF363 zi_63
            have b374 := zv_46_2 hI362 zc_164
            have b375 := zv_46_3 hI362 zc_164
            have b376 := zv_46_5 hI362 zc_164
            have b377 := zv_46_4 hI362 zc_164
            have b378 := zv_46_48 hI362 zc_164
            refine zt_goto (tgt := 173) hX dX12_statementTold_95 (by decide) ?_
            refine zt_mask [true, false] rfl ?_
            exact J_173_39 s359 hI362 hF373 (by omega) (by omega) (fun hb => by have qz366 := z366 (by omega); clear z366; omega)
        · have qz121 := z121 (by omega)
          clear z121
          refine zt_aload_n (pc' := 70) hX dX12_statementTold_69 rfl rfl ?_
          refine zt_iconst (pc' := 71) hX dX12_statementTold_70 rfl ?_
          refine zt_iload_n (pc' := 72) hX dX12_statementTold_71 rfl rfl ?_
          refine zt_cVv (pc' := 75) hX dX12_statementTold_72 rfl zm_yX12_codesTold zw_28_21 zc_164 (by decide) zs_46 (q := (RX12, TX12, 108)) rfl rfl (zc_X12_codesTold_0 _ _ s113 hI116 (σ 164 2) ⟨by omega, by omega⟩ (by omega) (by omega) (by omega) (by omega)) rfl rfl (Nat.le_of_ble_eq_true rfl) (by decide) (fun r379 s380 hr381 hp382 => ?_)
          obtain ⟨hI383, hF384, z385, z386, z387⟩ := hp382
          have e388 := hF384 164 3 rfl
          have e389 := hF384 194 0 rfl
          have e390 := hF384 194 1 rfl
          have e391 := hF384 199 0 rfl
          have e392 := hF384 199 1 rfl
          have e393 := hF384 199 2 rfl
          have hF394 := zOn_tr hF131 hF384 zi_63
          have b395 := zv_46_2 hI383 zc_164
          have b396 := zv_46_3 hI383 zc_164
          have b397 := zv_46_5 hI383 zc_164
          have b398 := zv_46_4 hI383 zc_164
          have b399 := zv_46_48 hI383 zc_164
          refine zt_goto (tgt := 173) hX dX12_statementTold_75 (by decide) ?_
          refine zt_mask [true, false] rfl ?_
          exact J_173_39 s380 hI383 hF394 (by omega) (by omega) (fun hb => by have qz387 := z387 (by omega); clear z387; omega)
      · have qz95 := z95 (by omega)
        clear z95
        refine zt_aload_n (pc' := 51) hX dX12_statementTold_50 rfl rfl ?_
        refine zt_iload_n (pc' := 52) hX dX12_statementTold_51 rfl rfl ?_
        refine zt_cVv (pc' := 55) hX dX12_statementTold_52 rfl zm_yX12_poleTold zw_28_6 zc_164 (by decide) zs_46 (q := (RX12, TX12, 108)) rfl rfl (zc_X12_poleTold _ _ s87 hI90 (σ 164 2) ⟨by omega, by omega⟩ (by omega)) rfl rfl (Nat.le_of_ble_eq_true rfl) (by decide) (fun r400 s401 hr402 hp403 => ?_)
        obtain ⟨hI404, hF405, z406, z407⟩ := hp403
        have w408 := zwk_q4 hF405
        have e409 := hF405 164 3 rfl
        have e410 := hF405 164 48 rfl
        have e411 := hF405 194 0 rfl
        have e412 := hF405 194 1 rfl
        have e413 := hF405 199 0 rfl
        have e414 := hF405 199 1 rfl
        have e415 := hF405 199 2 rfl
        have hF416 := zOn_tr hF105 hF405 zi_43
        have b417 := zv_46_2 hI404 zc_164
        have b418 := zv_46_3 hI404 zc_164
        have b419 := zv_46_5 hI404 zc_164
        have b420 := zv_46_4 hI404 zc_164
        have b421 := zv_46_48 hI404 zc_164
        replace z406 : _ ∧ _ := ⟨z406.1, z406.2 (by omega)⟩
        refine zt_goto (tgt := 173) hX dX12_statementTold_55 (by decide) ?_
        refine zt_mask [true, false] rfl ?_
        exact J_173_39 s401 hI404 hF416 (by omega) (by omega) (fun hb => by have qz407 := z407 (by omega); clear z407; omega)
    · have qz18 := z18 (by omega)
      clear z18
      refine zt_aload_n (pc' := 33) hX dX12_statementTold_32 rfl rfl ?_
      refine zt_cVv (pc' := 36) hX dX12_statementTold_33 rfl zm_yX12_heavyTold zw_27_22 zc_164 (by decide) zs_46 (q := (RX12, TX12, 108)) rfl rfl (zc_X12_heavyTold _ _ s10 hI13 (by omega)) rfl rfl (Nat.le_of_ble_eq_true rfl) (by decide) (fun r422 s423 hr424 hp425 => ?_)
      obtain ⟨hI426, hF427, z428, z429⟩ := hp425
      have w430 := zwk_q4 hF427
      have e431 := hF427 164 3 rfl
      have e432 := hF427 164 48 rfl
      have e433 := hF427 194 0 rfl
      have e434 := hF427 194 1 rfl
      have e435 := hF427 199 0 rfl
      have e436 := hF427 199 1 rfl
      have e437 := hF427 199 2 rfl
      have hF438 := zOn_tr hF28 hF427 zi_43
      have b439 := zv_46_2 hI426 zc_164
      have b440 := zv_46_3 hI426 zc_164
      have b441 := zv_46_5 hI426 zc_164
      have b442 := zv_46_4 hI426 zc_164
      have b443 := zv_46_48 hI426 zc_164
      replace z428 : _ ∧ _ := ⟨z428.1, z428.2 (by omega)⟩
      refine zt_goto (tgt := 173) hX dX12_statementTold_36 (by decide) ?_
      refine zt_mask [true, false] rfl ?_
      exact J_173_39 s423 hI426 hF438 (by omega) (by omega) (fun hb => by have qz429 := z429 (by omega); clear z429; omega)
  · refine zt_aload_n (pc' := 15) hX dX12_statementTold_14 rfl rfl ?_
    refine zt_iconst (pc' := 16) hX dX12_statementTold_15 rfl ?_
    refine zt_iload_n (pc' := 17) hX dX12_statementTold_16 rfl rfl ?_
    refine zt_cVv (pc' := 20) hX dX12_statementTold_17 rfl zm_yX12_fail zw_26_19 zc_164 (by decide) zs_46 (q := (RX12, TX12, 108)) rfl rfl (zc_X12_fail _ _ σ hI 5 ⟨by omega, by omega⟩ (σ 164 2) ⟨by omega, by omega⟩) rfl rfl (Nat.le_of_ble_eq_true rfl) (by decide) (fun r444 s445 hr446 hp447 => ?_)
    obtain ⟨hI448, hF449, z450, z451⟩ := hp447
    have w452 := zwk_q1 hF449
    have e453 := hF449 164 3 rfl
    have e454 := hF449 164 48 rfl
    have e455 := hF449 194 0 rfl
    have e456 := hF449 194 1 rfl
    have e457 := hF449 199 0 rfl
    have e458 := hF449 199 1 rfl
    have e459 := hF449 199 2 rfl
    have hF460 := zOn_tr hF hF449 zi_13
    have b461 := zv_46_2 hI448 zc_164
    have b462 := zv_46_3 hI448 zc_164
    have b463 := zv_46_5 hI448 zc_164
    have b464 := zv_46_4 hI448 zc_164
    have b465 := zv_46_48 hI448 zc_164
    exact zt_vret hX hR dX12_statementTold_20 ⟨hI448, hF460, by omega, by omega, (fun hb => by omega)⟩

set_option maxRecDepth 100000 in
set_option maxHeartbeats 2000000 in
theorem zc_X12_stands (l : Launch) (E : zEN) (σ : zSto) (hI : zInv σ) (hpre0 : (2 ≤ σ 194 0 ∧ σ 194 0 ≤ 6 ∧ 2 ≤ σ 194 1 ∧ σ 194 1 ≤ 6)) (hpre1 : (0 ≤ σ 199 0 ∧ σ 199 0 ≤ 100 ∧ 0 ≤ σ 199 1 ∧ σ 199 1 ≤ 100 ∧ 0 ≤ σ 199 2 ∧ σ 199 2 ≤ 100)) (hpre2 : σ 164 48 ≤ 1600) (hpre3 : zwk σ = 1) : zCt l E yX12_stands cX12_stands 2 none 0 zNC zNC 0 0 σ [.ref (E.1 + 164)] (fun r σ' => zInv σ' ∧ zFN σ σ' ∧ (zwf σ' = 1) ∧ (σ' 164 54 = σ 164 54) ∧ (σ' 164 1 = σ 164 1)) := by
  refine zCt_of2 [some (.ref (E.1 + 164)), none] (by decide +kernel) (Nat.le_of_ble_eq_true rfl) rfl ?_
  intro X hE hX hR hL hN
  subst hE
  have hX : zok X cX12_stands RX12 0 := hX
  have hF := zFN_rf σ
  have hws := zwz_rf σ
  have b1 := zv_82 hI zc_200 0
  have b2 := zv_82 hI zc_200 1
  have b3 := zv_82 hI zc_200 2
  have b4 := zv_82 hI zc_200 3
  have b5 := zv_83 hI zc_201 0
  have b6 := zv_83 hI zc_201 1
  have b7 := zv_83 hI zc_201 2
  have b8 := zv_83 hI zc_201 3
  have b9 := zv_46_48 hI zc_164
  have b10 := zv_46_54 hI zc_164
  have b11 := zv_46_1 hI zc_164
  refine zt_aload_n (pc' := 1) hX dX12_stands_0 rfl rfl ?_
  refine zt_iconst (pc' := 2) hX dX12_stands_1 rfl ?_
  refine zt_put (pc' := 5) (x := 1) hX dX12_stands_2 rfl zf_X12_375 (by decide) zc_164 zs_46 (fun q hq => by cases hq; rfl) rfl (zfit_z (by omega) (by omega)).1 (zfit_z (by omega) (by omega)).2 ?_
  generalize hs13 : zset σ 164 50 1 = s12
  have hI14 : zInv s12 := hs13 ▸ zp_46_50 hI zc_164 ⟨by omega, by omega⟩
  have hF15 : zFN σ s12 := hs13 ▸ zFN_set hF zc_164 (by decide) zk_46
  have w16 := zwz_set (σ := σ) hs13 (by omega) (by omega)
  have e17 : s12 200 0 = σ 200 0 := by rw [← hs13]; exact zset_k (zne_r zc_200 zc_164 (by decide))
  have e18 : s12 200 1 = σ 200 1 := by rw [← hs13]; exact zset_k (zne_r zc_200 zc_164 (by decide))
  have e19 : s12 200 2 = σ 200 2 := by rw [← hs13]; exact zset_k (zne_r zc_200 zc_164 (by decide))
  have e20 : s12 200 3 = σ 200 3 := by rw [← hs13]; exact zset_k (zne_r zc_200 zc_164 (by decide))
  have e21 : s12 201 0 = σ 201 0 := by rw [← hs13]; exact zset_k (zne_r zc_201 zc_164 (by decide))
  have e22 : s12 201 1 = σ 201 1 := by rw [← hs13]; exact zset_k (zne_r zc_201 zc_164 (by decide))
  have e23 : s12 201 2 = σ 201 2 := by rw [← hs13]; exact zset_k (zne_r zc_201 zc_164 (by decide))
  have e24 : s12 201 3 = σ 201 3 := by rw [← hs13]; exact zset_k (zne_r zc_201 zc_164 (by decide))
  have e25 : s12 194 0 = σ 194 0 := by rw [← hs13]; exact zset_k (zne_r zc_194 zc_164 (by decide))
  have e26 : s12 194 1 = σ 194 1 := by rw [← hs13]; exact zset_k (zne_r zc_194 zc_164 (by decide))
  have e27 : s12 194 3 = σ 194 3 := by rw [← hs13]; exact zset_k (zne_r zc_194 zc_164 (by decide))
  have e28 : s12 194 4 = σ 194 4 := by rw [← hs13]; exact zset_k (zne_r zc_194 zc_164 (by decide))
  have e29 : s12 164 48 = σ 164 48 := by rw [← hs13]; exact zset_j (by decide)
  have e30 : s12 164 54 = σ 164 54 := by rw [← hs13]; exact zset_j (by decide)
  have e31 : s12 164 1 = σ 164 1 := by rw [← hs13]; exact zset_j (by decide)
  refine zt_aload_n (pc' := 6) hX dX12_stands_5 rfl rfl ?_
  refine zt_get (pc' := 9) (v := .ref (X.1.1 + 195)) hX dX12_stands_6 rfl zf_X12_105 (by decide) zc_164 zs_46 (zrf_of (zv_46_40 hI14 zc_164)) ?_
  refine zt_iconst (pc' := 10) hX dX12_stands_9 rfl ?_
  refine zt_aload_n (pc' := 11) hX dX12_stands_10 rfl rfl ?_
  refine zt_get (pc' := 14) (v := .ref (X.1.1 + 195)) hX dX12_stands_11 rfl zf_X12_105 (by decide) zc_164 zs_46 (zrf_of (zv_46_40 hI14 zc_164)) ?_
  refine zt_iconst (pc' := 15) hX dX12_stands_14 rfl ?_
  refine zt_iald (pc' := 16) hX dX12_stands_15 rfl (by decide) zc_195 zs_77 (by decide) ⟨by omega, by omega⟩ ?_
  rw [show Int.toNat 0 = 0 from rfl]
  have b33 := zv_77 hI14 zc_195 0
  have e34 : s12 195 0 = σ 195 0 := by rw [← hs13]; exact zset_k (zne_r zc_195 zc_164 (by decide))
  refine zt_iast (pc' := 17) hX dX12_stands_16 rfl (by decide) zc_195 zs_77 (by decide) ⟨by omega, by omega⟩ ?_
  rw [show Int.toNat 1 = 1 from rfl]
  generalize hs36 : zset s12 195 1 (s12 195 0) = s35
  have hI37 : zInv s35 := hs36 ▸ zp_77 hI14 zc_195 1 ⟨by omega, by omega⟩
  have hF38 : zFN σ s35 := hs36 ▸ zFN_set hF15 zc_195 (by decide) zk_77
  have w39 := zwz_set (σ := σ) hs36 (by omega) (by omega)
  have e40 : s35 200 0 = s12 200 0 := by rw [← hs36]; exact zset_k (zne_r zc_200 zc_195 (by decide))
  have e41 : s35 200 1 = s12 200 1 := by rw [← hs36]; exact zset_k (zne_r zc_200 zc_195 (by decide))
  have e42 : s35 200 2 = s12 200 2 := by rw [← hs36]; exact zset_k (zne_r zc_200 zc_195 (by decide))
  have e43 : s35 200 3 = s12 200 3 := by rw [← hs36]; exact zset_k (zne_r zc_200 zc_195 (by decide))
  have e44 : s35 201 0 = s12 201 0 := by rw [← hs36]; exact zset_k (zne_r zc_201 zc_195 (by decide))
  have e45 : s35 201 1 = s12 201 1 := by rw [← hs36]; exact zset_k (zne_r zc_201 zc_195 (by decide))
  have e46 : s35 201 2 = s12 201 2 := by rw [← hs36]; exact zset_k (zne_r zc_201 zc_195 (by decide))
  have e47 : s35 201 3 = s12 201 3 := by rw [← hs36]; exact zset_k (zne_r zc_201 zc_195 (by decide))
  have e48 : s35 194 0 = s12 194 0 := by rw [← hs36]; exact zset_k (zne_r zc_194 zc_195 (by decide))
  have e49 : s35 194 1 = s12 194 1 := by rw [← hs36]; exact zset_k (zne_r zc_194 zc_195 (by decide))
  have e50 : s35 194 3 = s12 194 3 := by rw [← hs36]; exact zset_k (zne_r zc_194 zc_195 (by decide))
  have e51 : s35 194 4 = s12 194 4 := by rw [← hs36]; exact zset_k (zne_r zc_194 zc_195 (by decide))
  have e52 : s35 164 48 = s12 164 48 := by rw [← hs36]; exact zset_k (zne_r zc_164 zc_195 (by decide))
  have e53 : s35 164 54 = s12 164 54 := by rw [← hs36]; exact zset_k (zne_r zc_164 zc_195 (by decide))
  have e54 : s35 164 1 = s12 164 1 := by rw [← hs36]; exact zset_k (zne_r zc_164 zc_195 (by decide))
  refine zt_iconst (pc' := 18) hX dX12_stands_17 rfl ?_
  refine zt_istore_n (pc' := 19) (lv' := [some (.ref (X.1.1 + 164)), some (.int (zI 0))]) hX dX12_stands_18 rfl hL (by decide) rfl ?_
  have L_19_64 : ∀ (N : Nat) (x55 : Int) (s58 : zSto), 0 ≤ x55 → x55 ≤ 3 → zInv s58 → zFN σ s58 → (1 ≤ x55 → s58 194 3 = s58 194 0) → (2 ≤ x55 → s58 194 4 = s58 194 1) → zwz σ s58 = 1 → s58 164 1 = σ 164 1 → ((4 - x55).toNat) < N → zF X s58 19 [some (.ref (X.1.1 + 164)), some (.int (zI x55))] [] := by
    intro N
    induction N with
    | zero =>
      intro x55 s58 h56 h57 hI59 hF60 g61 g62 g63 g64 hm66
      exact absurd hm66 (Nat.not_lt_zero _)
    | succ N ih67 =>
      intro x55 s58 h56 h57 hI59 hF60 g61 g62 g63 g64 hm66
      have b68 := zv_82 hI59 zc_200 0
      have b69 := zv_82 hI59 zc_200 1
      have b70 := zv_82 hI59 zc_200 2
      have b71 := zv_82 hI59 zc_200 3
      have b72 := zv_83 hI59 zc_201 0
      have b73 := zv_83 hI59 zc_201 1
      have b74 := zv_83 hI59 zc_201 2
      have b75 := zv_83 hI59 zc_201 3
      have b76 := zv_46_48 hI59 zc_164
      have b77 := zv_46_54 hI59 zc_164
      have b78 := zv_46_1 hI59 zc_164
      refine zt_iload_n (pc' := 20) hX dX12_stands_19 rfl rfl ?_
      refine zt_iconst (pc' := 21) hX dX12_stands_20 rfl ?_
      refine zt_icge (pc' := 24) (tgt := 58) hX dX12_stands_21 rfl (by decide) ⟨by omega, by omega⟩ ⟨by omega, by omega⟩ (fun c79 => ?_) (fun c79 => ?_)
      · refine zt_iconst (pc' := 59) hX dX12_stands_58 rfl ?_
        refine zt_istore_n (pc' := 60) (lv' := [some (.ref (X.1.1 + 164)), some (.int (zI 0))]) hX dX12_stands_59 rfl hL (by decide) rfl ?_
        have L_60_90 : ∀ (N : Nat) (x80 : Int) (s83 : zSto), 0 ≤ x80 → x80 ≤ 2 → zInv s83 → zFN σ s83 → (s83 194 3 = s83 194 0 ∧ s83 194 4 = s83 194 1) → (1 ≤ x80 → s83 200 2 = s83 200 0 ∧ s83 201 2 = s83 201 0) → (2 ≤ x80 → s83 200 3 = s83 200 1 ∧ s83 201 3 = s83 201 1) → zwz σ s83 = 1 → s83 164 1 = σ 164 1 → ((3 - x80).toNat) < N → zF X s83 60 [some (.ref (X.1.1 + 164)), some (.int (zI x80))] [] := by
          intro N
          induction N with
          | zero =>
            intro x80 s83 h81 h82 hI84 hF85 g86 g87 g88 g89 g90 hm92
            exact absurd hm92 (Nat.not_lt_zero _)
          | succ N ih93 =>
            intro x80 s83 h81 h82 hI84 hF85 g86 g87 g88 g89 g90 hm92
            have b94 := zv_82 hI84 zc_200 0
            have b95 := zv_82 hI84 zc_200 1
            have b96 := zv_82 hI84 zc_200 2
            have b97 := zv_82 hI84 zc_200 3
            have b98 := zv_83 hI84 zc_201 0
            have b99 := zv_83 hI84 zc_201 1
            have b100 := zv_83 hI84 zc_201 2
            have b101 := zv_83 hI84 zc_201 3
            have b102 := zv_46_48 hI84 zc_164
            have b103 := zv_46_54 hI84 zc_164
            have b104 := zv_46_1 hI84 zc_164
            refine zt_iload_n (pc' := 61) hX dX12_stands_60 rfl rfl ?_
            refine zt_iconst (pc' := 62) hX dX12_stands_61 rfl ?_
            refine zt_icge (pc' := 65) (tgt := 99) hX dX12_stands_62 rfl (by decide) ⟨by omega, by omega⟩ ⟨by omega, by omega⟩ (fun c105 => ?_) (fun c105 => ?_)
            · refine zt_iconst (pc' := 100) hX dX12_stands_99 rfl ?_
              refine zt_istore_n (pc' := 101) (lv' := [some (.ref (X.1.1 + 164)), some (.int (zI 0))]) hX dX12_stands_100 rfl hL (by decide) rfl ?_
              have L_101_116 : ∀ (N : Nat) (x106 : Int) (s109 : zSto), 0 ≤ x106 → x106 ≤ 10 → zInv s109 → zFN σ s109 → (s109 194 3 = s109 194 0 ∧ s109 194 4 = s109 194 1) → (s109 200 2 = s109 200 0 ∧ s109 201 2 = s109 201 0) → (s109 200 3 = s109 200 1 ∧ s109 201 3 = s109 201 1) → zwz σ s109 = 1 → s109 164 1 = σ 164 1 → ((11 - x106).toNat) < N → zF X s109 101 [some (.ref (X.1.1 + 164)), some (.int (zI x106))] [] := by
                intro N
                induction N with
                | zero =>
                  intro x106 s109 h107 h108 hI110 hF111 g112 g113 g114 g115 g116 hm118
                  exact absurd hm118 (Nat.not_lt_zero _)
                | succ N ih119 =>
                  intro x106 s109 h107 h108 hI110 hF111 g112 g113 g114 g115 g116 hm118
                  have b120 := zv_82 hI110 zc_200 0
                  have b121 := zv_82 hI110 zc_200 1
                  have b122 := zv_82 hI110 zc_200 2
                  have b123 := zv_82 hI110 zc_200 3
                  have b124 := zv_83 hI110 zc_201 0
                  have b125 := zv_83 hI110 zc_201 1
                  have b126 := zv_83 hI110 zc_201 2
                  have b127 := zv_83 hI110 zc_201 3
                  have b128 := zv_46_48 hI110 zc_164
                  have b129 := zv_46_54 hI110 zc_164
                  have b130 := zv_46_1 hI110 zc_164
                  refine zt_iload_n (pc' := 102) hX dX12_stands_101 rfl rfl ?_
                  refine zt_bipush (pc' := 104) hX dX12_stands_102 rfl (by decide) (by decide) ?_
                  refine zt_icge (pc' := 107) (tgt := 128) hX dX12_stands_104 rfl (by decide) ⟨by omega, by omega⟩ ⟨by omega, by omega⟩ (fun c131 => ?_) (fun c131 => ?_)
                  · refine zt_iconst (pc' := 129) hX dX12_stands_128 rfl ?_
                    refine zt_istore_n (pc' := 130) (lv' := [some (.ref (X.1.1 + 164)), some (.int (zI 0))]) hX dX12_stands_129 rfl hL (by decide) rfl ?_
                    have L_130_142 : ∀ (N : Nat) (x132 : Int) (s135 : zSto), 0 ≤ x132 → x132 ≤ 36 → zInv s135 → zFN σ s135 → (s135 194 3 = s135 194 0 ∧ s135 194 4 = s135 194 1) → (s135 200 2 = s135 200 0 ∧ s135 201 2 = s135 201 0) → (s135 200 3 = s135 200 1 ∧ s135 201 3 = s135 201 1) → zwz σ s135 = 1 → s135 164 1 = σ 164 1 → ((37 - x132).toNat) < N → zF X s135 130 [some (.ref (X.1.1 + 164)), some (.int (zI x132))] [] := by
                      intro N
                      induction N with
                      | zero =>
                        intro x132 s135 h133 h134 hI136 hF137 g138 g139 g140 g141 g142 hm144
                        exact absurd hm144 (Nat.not_lt_zero _)
                      | succ N ih145 =>
                        intro x132 s135 h133 h134 hI136 hF137 g138 g139 g140 g141 g142 hm144
                        have b146 := zv_82 hI136 zc_200 0
                        have b147 := zv_82 hI136 zc_200 1
                        have b148 := zv_82 hI136 zc_200 2
                        have b149 := zv_82 hI136 zc_200 3
                        have b150 := zv_83 hI136 zc_201 0
                        have b151 := zv_83 hI136 zc_201 1
                        have b152 := zv_83 hI136 zc_201 2
                        have b153 := zv_83 hI136 zc_201 3
                        have b154 := zv_46_48 hI136 zc_164
                        have b155 := zv_46_54 hI136 zc_164
                        have b156 := zv_46_1 hI136 zc_164
                        refine zt_iload_n (pc' := 131) hX dX12_stands_130 rfl rfl ?_
                        refine zt_bipush (pc' := 133) hX dX12_stands_131 rfl (by decide) (by decide) ?_
                        refine zt_icge (pc' := 136) (tgt := 157) hX dX12_stands_133 rfl (by decide) ⟨by omega, by omega⟩ ⟨by omega, by omega⟩ (fun c157 => ?_) (fun c157 => ?_)
                        · refine zt_iconst (pc' := 158) hX dX12_stands_157 rfl ?_
                          refine zt_istore_n (pc' := 159) (lv' := [some (.ref (X.1.1 + 164)), some (.int (zI 0))]) hX dX12_stands_158 rfl hL (by decide) rfl ?_
                          have L_159_168 : ∀ (N : Nat) (x158 : Int) (s161 : zSto), 0 ≤ x158 → x158 ≤ 20 → zInv s161 → zFN σ s161 → (s161 194 3 = s161 194 0 ∧ s161 194 4 = s161 194 1) → (s161 200 2 = s161 200 0 ∧ s161 201 2 = s161 201 0) → (s161 200 3 = s161 200 1 ∧ s161 201 3 = s161 201 1) → zwz σ s161 = 1 → s161 164 1 = σ 164 1 → ((21 - x158).toNat) < N → zF X s161 159 [some (.ref (X.1.1 + 164)), some (.int (zI x158))] [] := by
                            intro N
                            induction N with
                            | zero =>
                              intro x158 s161 h159 h160 hI162 hF163 g164 g165 g166 g167 g168 hm170
                              exact absurd hm170 (Nat.not_lt_zero _)
                            | succ N ih171 =>
                              intro x158 s161 h159 h160 hI162 hF163 g164 g165 g166 g167 g168 hm170
                              have b172 := zv_82 hI162 zc_200 0
                              have b173 := zv_82 hI162 zc_200 1
                              have b174 := zv_82 hI162 zc_200 2
                              have b175 := zv_82 hI162 zc_200 3
                              have b176 := zv_83 hI162 zc_201 0
                              have b177 := zv_83 hI162 zc_201 1
                              have b178 := zv_83 hI162 zc_201 2
                              have b179 := zv_83 hI162 zc_201 3
                              have b180 := zv_46_48 hI162 zc_164
                              have b181 := zv_46_54 hI162 zc_164
                              have b182 := zv_46_1 hI162 zc_164
                              refine zt_iload_n (pc' := 160) hX dX12_stands_159 rfl rfl ?_
                              refine zt_bipush (pc' := 162) hX dX12_stands_160 rfl (by decide) (by decide) ?_
                              refine zt_icge (pc' := 165) (tgt := 186) hX dX12_stands_162 rfl (by decide) ⟨by omega, by omega⟩ ⟨by omega, by omega⟩ (fun c183 => ?_) (fun c183 => ?_)
                              · refine zt_iconst (pc' := 187) hX dX12_stands_186 rfl ?_
                                refine zt_istore_n (pc' := 188) (lv' := [some (.ref (X.1.1 + 164)), some (.int (zI 0))]) hX dX12_stands_187 rfl hL (by decide) rfl ?_
                                have h184 := zcz_0 s161
                                have h184f := zwz_f (σ := σ) (s := s161) (by omega)
                                have L_188_198 : ∀ (N : Nat) (x185 : Int) (s188 : zSto), 0 ≤ x185 → x185 ≤ 3200 → zInv s188 → zFN σ s188 → (s188 194 3 = s188 194 0 ∧ s188 194 4 = s188 194 1) → (s188 200 2 = s188 200 0 ∧ s188 201 2 = s188 201 0) → (s188 200 3 = s188 200 1 ∧ s188 201 3 = s188 201 1) → zcz s188 x185 = 1 → x185 ≤ s188 164 48 → s188 164 48 ≤ 1600 → zwz σ s188 = 1 → s188 164 1 = σ 164 1 → ((3201 - x185).toNat) < N → zF X s188 188 [some (.ref (X.1.1 + 164)), some (.int (zI x185))] [] := by
                                  intro N
                                  induction N with
                                  | zero =>
                                    intro x185 s188 h186 h187 hI189 hF190 g191 g192 g193 g194 g195 g196 g197 g198 hm200
                                    exact absurd hm200 (Nat.not_lt_zero _)
                                  | succ N ih201 =>
                                    intro x185 s188 h186 h187 hI189 hF190 g191 g192 g193 g194 g195 g196 g197 g198 hm200
                                    have b202 := zv_82 hI189 zc_200 0
                                    have b203 := zv_82 hI189 zc_200 1
                                    have b204 := zv_82 hI189 zc_200 2
                                    have b205 := zv_82 hI189 zc_200 3
                                    have b206 := zv_83 hI189 zc_201 0
                                    have b207 := zv_83 hI189 zc_201 1
                                    have b208 := zv_83 hI189 zc_201 2
                                    have b209 := zv_83 hI189 zc_201 3
                                    have b210 := zv_46_48 hI189 zc_164
                                    have b211 := zv_46_54 hI189 zc_164
                                    have b212 := zv_46_1 hI189 zc_164
                                    refine zt_iload_n (pc' := 189) hX dX12_stands_188 rfl rfl ?_
                                    refine zt_aload_n (pc' := 190) hX dX12_stands_189 rfl rfl ?_
                                    have b213 := zv_46_48 hI189 zc_164
                                    refine zt_get (pc' := 193) (v := .int (zI (s188 164 48))) hX dX12_stands_190 rfl zf_X12_348 (by decide) zc_164 zs_46 rfl ?_
                                    refine zt_icge (pc' := 196) (tgt := 218) hX dX12_stands_193 rfl (by decide) ⟨by omega, by omega⟩ ⟨by omega, by omega⟩ (fun c214 => ?_) (fun c214 => ?_)
                                    · refine zt_iconst (pc' := 219) hX dX12_stands_218 rfl ?_
                                      have h215f := zwz_f (σ := σ) (s := s188) (by omega)
                                      have h215 := zwf_st (σ := σ) (s := s188) (k := x185) hpre3 (by omega) (by omega) (by omega) (by omega) (by omega) (by omega) (by omega) ⟨by omega, by omega⟩ (by omega)
                                      refine zt_istore_n (pc' := 220) (lv' := [some (.ref (X.1.1 + 164)), some (.int (zI 0))]) hX dX12_stands_219 rfl hL (by decide) rfl ?_
                                      have L_220_224 : ∀ (N : Nat) (x216 : Int) (s219 : zSto), 0 ≤ x216 → x216 ≤ 188 → zInv s219 → zFN σ s219 → zwf s219 = 1 → zwz σ s219 = 1 → s219 164 1 = σ 164 1 → ((189 - x216).toNat) < N → zF X s219 220 [some (.ref (X.1.1 + 164)), some (.int (zI x216))] [] := by
                                        intro N
                                        induction N with
                                        | zero =>
                                          intro x216 s219 h217 h218 hI220 hF221 g222 g223 g224 hm226
                                          exact absurd hm226 (Nat.not_lt_zero _)
                                        | succ N ih227 =>
                                          intro x216 s219 h217 h218 hI220 hF221 g222 g223 g224 hm226
                                          have b228 := zv_82 hI220 zc_200 0
                                          have b229 := zv_82 hI220 zc_200 1
                                          have b230 := zv_82 hI220 zc_200 2
                                          have b231 := zv_82 hI220 zc_200 3
                                          have b232 := zv_83 hI220 zc_201 0
                                          have b233 := zv_83 hI220 zc_201 1
                                          have b234 := zv_83 hI220 zc_201 2
                                          have b235 := zv_83 hI220 zc_201 3
                                          have b236 := zv_46_48 hI220 zc_164
                                          have b237 := zv_46_54 hI220 zc_164
                                          have b238 := zv_46_1 hI220 zc_164
                                          refine zt_iload_n (pc' := 221) hX dX12_stands_220 rfl rfl ?_
                                          refine zt_sipush (pc' := 224) hX dX12_stands_221 rfl (by decide) (by decide) ?_
                                          refine zt_icge (pc' := 227) (tgt := 240) hX dX12_stands_224 rfl (by decide) ⟨by omega, by omega⟩ ⟨by omega, by omega⟩ (fun c239 => ?_) (fun c239 => ?_)
                                          · refine zt_iconst (pc' := 241) hX dX12_stands_240 rfl ?_
                                            refine zt_istore_n (pc' := 242) (lv' := [some (.ref (X.1.1 + 164)), some (.int (zI 0))]) hX dX12_stands_241 rfl hL (by decide) rfl ?_
                                            have L_242_248 : ∀ (N : Nat) (x240 : Int) (s243 : zSto), 0 ≤ x240 → x240 ≤ 10 → zInv s243 → zFN σ s243 → zwf s243 = 1 → zwz σ s243 = 1 → s243 164 1 = σ 164 1 → ((11 - x240).toNat) < N → zF X s243 242 [some (.ref (X.1.1 + 164)), some (.int (zI x240))] [] := by
                                              intro N
                                              induction N with
                                              | zero =>
                                                intro x240 s243 h241 h242 hI244 hF245 g246 g247 g248 hm250
                                                exact absurd hm250 (Nat.not_lt_zero _)
                                              | succ N ih251 =>
                                                intro x240 s243 h241 h242 hI244 hF245 g246 g247 g248 hm250
                                                have b252 := zv_82 hI244 zc_200 0
                                                have b253 := zv_82 hI244 zc_200 1
                                                have b254 := zv_82 hI244 zc_200 2
                                                have b255 := zv_82 hI244 zc_200 3
                                                have b256 := zv_83 hI244 zc_201 0
                                                have b257 := zv_83 hI244 zc_201 1
                                                have b258 := zv_83 hI244 zc_201 2
                                                have b259 := zv_83 hI244 zc_201 3
                                                have b260 := zv_46_48 hI244 zc_164
                                                have b261 := zv_46_54 hI244 zc_164
                                                have b262 := zv_46_1 hI244 zc_164
                                                refine zt_iload_n (pc' := 243) hX dX12_stands_242 rfl rfl ?_
                                                refine zt_aload_n (pc' := 244) hX dX12_stands_243 rfl rfl ?_
                                                refine zt_get (pc' := 247) (v := .ref (X.1.1 + 195)) hX dX12_stands_244 rfl zf_X12_105 (by decide) zc_164 zs_46 (zrf_of (zv_46_40 hI244 zc_164)) ?_
                                                refine zt_iconst (pc' := 248) hX dX12_stands_247 rfl ?_
                                                refine zt_iald (pc' := 249) hX dX12_stands_248 rfl (by decide) zc_195 zs_77 (by decide) ⟨by omega, by omega⟩ ?_
                                                rw [show Int.toNat 0 = 0 from rfl]
                                                have b264 := zv_77 hI244 zc_195 0
                                                refine zt_icge (pc' := 252) (tgt := 277) hX dX12_stands_249 rfl (by decide) ⟨by omega, by omega⟩ ⟨by omega, by omega⟩ (fun c265 => ?_) (fun c265 => ?_)
                                                · refine zt_aload_n (pc' := 278) hX dX12_stands_277 rfl rfl ?_
                                                  refine zt_iconst (pc' := 279) hX dX12_stands_278 rfl ?_
                                                  refine zt_put (pc' := 282) (x := 0) hX dX12_stands_279 rfl zf_X12_379 (by decide) zc_164 zs_46 (fun q hq => by cases hq; rfl) rfl rfl rfl ?_
                                                  generalize hs267 : zset s243 164 70 0 = s266
                                                  have hI268 : zInv s266 := hs267 ▸ zp_46_70 hI244 zc_164 ⟨by omega, by omega⟩
                                                  have hF269 : zFN σ s266 := hs267 ▸ zFN_set hF245 zc_164 (by decide) zk_46
                                                  have w270 := zwz_set (σ := σ) hs267 (by omega) (by omega)
                                                  have w271 := zwf_k hs267 ⟨Or.inr (by decide), by decide, by decide, by decide, by decide⟩ (by omega)
                                                  have e272 : s266 200 0 = s243 200 0 := by rw [← hs267]; exact zset_k (zne_r zc_200 zc_164 (by decide))
                                                  have e273 : s266 200 1 = s243 200 1 := by rw [← hs267]; exact zset_k (zne_r zc_200 zc_164 (by decide))
                                                  have e274 : s266 200 2 = s243 200 2 := by rw [← hs267]; exact zset_k (zne_r zc_200 zc_164 (by decide))
                                                  have e275 : s266 200 3 = s243 200 3 := by rw [← hs267]; exact zset_k (zne_r zc_200 zc_164 (by decide))
                                                  have e276 : s266 201 0 = s243 201 0 := by rw [← hs267]; exact zset_k (zne_r zc_201 zc_164 (by decide))
                                                  have e277 : s266 201 1 = s243 201 1 := by rw [← hs267]; exact zset_k (zne_r zc_201 zc_164 (by decide))
                                                  have e278 : s266 201 2 = s243 201 2 := by rw [← hs267]; exact zset_k (zne_r zc_201 zc_164 (by decide))
                                                  have e279 : s266 201 3 = s243 201 3 := by rw [← hs267]; exact zset_k (zne_r zc_201 zc_164 (by decide))
                                                  have e280 : s266 194 0 = s243 194 0 := by rw [← hs267]; exact zset_k (zne_r zc_194 zc_164 (by decide))
                                                  have e281 : s266 194 1 = s243 194 1 := by rw [← hs267]; exact zset_k (zne_r zc_194 zc_164 (by decide))
                                                  have e282 : s266 194 3 = s243 194 3 := by rw [← hs267]; exact zset_k (zne_r zc_194 zc_164 (by decide))
                                                  have e283 : s266 194 4 = s243 194 4 := by rw [← hs267]; exact zset_k (zne_r zc_194 zc_164 (by decide))
                                                  have e284 : s266 164 48 = s243 164 48 := by rw [← hs267]; exact zset_j (by decide)
                                                  have e285 : s266 164 54 = s243 164 54 := by rw [← hs267]; exact zset_j (by decide)
                                                  have e286 : s266 164 1 = s243 164 1 := by rw [← hs267]; exact zset_j (by decide)
                                                  refine zt_aload_n (pc' := 283) hX dX12_stands_282 rfl rfl ?_
                                                  refine zt_iconst (pc' := 284) hX dX12_stands_283 rfl ?_
                                                  refine zt_put (pc' := 287) (x := 0) hX dX12_stands_284 rfl zf_X12_382 (by decide) zc_164 zs_46 (fun q hq => by cases hq; rfl) rfl rfl rfl ?_
                                                  generalize hs288 : zset s266 164 64 0 = s287
                                                  have hI289 : zInv s287 := hs288 ▸ zp_46_64 hI268 zc_164 ⟨by omega, by omega⟩
                                                  have hF290 : zFN σ s287 := hs288 ▸ zFN_set hF269 zc_164 (by decide) zk_46
                                                  have w291 := zwz_set (σ := σ) hs288 (by omega) (by omega)
                                                  have w292 := zwf_k hs288 ⟨Or.inr (by decide), by decide, by decide, by decide, by decide⟩ (by omega)
                                                  have e293 : s287 200 0 = s266 200 0 := by rw [← hs288]; exact zset_k (zne_r zc_200 zc_164 (by decide))
                                                  have e294 : s287 200 1 = s266 200 1 := by rw [← hs288]; exact zset_k (zne_r zc_200 zc_164 (by decide))
                                                  have e295 : s287 200 2 = s266 200 2 := by rw [← hs288]; exact zset_k (zne_r zc_200 zc_164 (by decide))
                                                  have e296 : s287 200 3 = s266 200 3 := by rw [← hs288]; exact zset_k (zne_r zc_200 zc_164 (by decide))
                                                  have e297 : s287 201 0 = s266 201 0 := by rw [← hs288]; exact zset_k (zne_r zc_201 zc_164 (by decide))
                                                  have e298 : s287 201 1 = s266 201 1 := by rw [← hs288]; exact zset_k (zne_r zc_201 zc_164 (by decide))
                                                  have e299 : s287 201 2 = s266 201 2 := by rw [← hs288]; exact zset_k (zne_r zc_201 zc_164 (by decide))
                                                  have e300 : s287 201 3 = s266 201 3 := by rw [← hs288]; exact zset_k (zne_r zc_201 zc_164 (by decide))
                                                  have e301 : s287 194 0 = s266 194 0 := by rw [← hs288]; exact zset_k (zne_r zc_194 zc_164 (by decide))
                                                  have e302 : s287 194 1 = s266 194 1 := by rw [← hs288]; exact zset_k (zne_r zc_194 zc_164 (by decide))
                                                  have e303 : s287 194 3 = s266 194 3 := by rw [← hs288]; exact zset_k (zne_r zc_194 zc_164 (by decide))
                                                  have e304 : s287 194 4 = s266 194 4 := by rw [← hs288]; exact zset_k (zne_r zc_194 zc_164 (by decide))
                                                  have e305 : s287 164 48 = s266 164 48 := by rw [← hs288]; exact zset_j (by decide)
                                                  have e306 : s287 164 54 = s266 164 54 := by rw [← hs288]; exact zset_j (by decide)
                                                  have e307 : s287 164 1 = s266 164 1 := by rw [← hs288]; exact zset_j (by decide)
                                                  have h308f := zwz_f (σ := σ) (s := s287) (by omega)
                                                  exact zt_vret hX hR dX12_stands_287 ⟨hI289, hF290, by omega, by omega, by omega⟩
                                                · refine zt_aload_n (pc' := 253) hX dX12_stands_252 rfl rfl ?_
                                                  refine zt_get (pc' := 256) (v := .ref (X.1.1 + 203)) hX dX12_stands_253 rfl zf_X12_130 (by decide) zc_164 zs_46 (zrf_of (zv_46_52 hI244 zc_164)) ?_
                                                  refine zt_bipush (pc' := 258) hX dX12_stands_256 rfl (by decide) (by decide) ?_
                                                  refine zt_iconst (pc' := 259) hX dX12_stands_258 rfl ?_
                                                  refine zt_iload_n (pc' := 260) hX dX12_stands_259 rfl rfl ?_
                                                  refine zt_imul (pc' := 261) hX dX12_stands_260 rfl ?_
                                                  refine zt_iadd (pc' := 262) hX dX12_stands_261 rfl ?_
                                                  refine zt_aload_n (pc' := 263) hX dX12_stands_262 rfl rfl ?_
                                                  refine zt_get (pc' := 266) (v := .ref (X.1.1 + 198)) hX dX12_stands_263 rfl zf_X12_115 (by decide) zc_164 zs_46 (zrf_of (zv_46_43 hI244 zc_164)) ?_
                                                  refine zt_iconst (pc' := 267) hX dX12_stands_266 rfl ?_
                                                  refine zt_iload_n (pc' := 268) hX dX12_stands_267 rfl rfl ?_
                                                  refine zt_imul (pc' := 269) hX dX12_stands_268 rfl ?_
                                                  refine zt_iald (pc' := 270) hX dX12_stands_269 rfl (by decide) zc_198 zs_80 (by decide) ⟨by omega, by omega⟩ ?_
                                                  have bv309 := zv_80 hI244 zc_198 ((2 * x240).toNat)
                                                  generalize hv309 : s243 198 ((2 * x240).toNat) = v309 at bv309 ⊢
                                                  refine zt_iast (pc' := 271) hX dX12_stands_270 rfl (by decide) zc_203 zs_85 (by decide) ⟨by omega, by omega⟩ ?_
                                                  generalize hs311 : zset s243 203 ((37 + (3 * x240)).toNat) v309 = s310
                                                  have hI312 : zInv s310 := hs311 ▸ zp_85 hI244 zc_203 ((37 + (3 * x240)).toNat) (by omega)
                                                  have hF313 : zFN σ s310 := hs311 ▸ zFN_set hF245 zc_203 (by decide) zk_85
                                                  have w314 := zwz_set (σ := σ) hs311 (by omega) (by omega)
                                                  have w315 := zwf_k hs311 ⟨Or.inl (by decide), by decide, by decide, by decide, by decide⟩ (by omega)
                                                  have e316 : s310 200 0 = s243 200 0 := by rw [← hs311]; exact zset_k (zne_r zc_200 zc_203 (by decide))
                                                  have e317 : s310 200 1 = s243 200 1 := by rw [← hs311]; exact zset_k (zne_r zc_200 zc_203 (by decide))
                                                  have e318 : s310 200 2 = s243 200 2 := by rw [← hs311]; exact zset_k (zne_r zc_200 zc_203 (by decide))
                                                  have e319 : s310 200 3 = s243 200 3 := by rw [← hs311]; exact zset_k (zne_r zc_200 zc_203 (by decide))
                                                  have e320 : s310 201 0 = s243 201 0 := by rw [← hs311]; exact zset_k (zne_r zc_201 zc_203 (by decide))
                                                  have e321 : s310 201 1 = s243 201 1 := by rw [← hs311]; exact zset_k (zne_r zc_201 zc_203 (by decide))
                                                  have e322 : s310 201 2 = s243 201 2 := by rw [← hs311]; exact zset_k (zne_r zc_201 zc_203 (by decide))
                                                  have e323 : s310 201 3 = s243 201 3 := by rw [← hs311]; exact zset_k (zne_r zc_201 zc_203 (by decide))
                                                  have e324 : s310 194 0 = s243 194 0 := by rw [← hs311]; exact zset_k (zne_r zc_194 zc_203 (by decide))
                                                  have e325 : s310 194 1 = s243 194 1 := by rw [← hs311]; exact zset_k (zne_r zc_194 zc_203 (by decide))
                                                  have e326 : s310 194 3 = s243 194 3 := by rw [← hs311]; exact zset_k (zne_r zc_194 zc_203 (by decide))
                                                  have e327 : s310 194 4 = s243 194 4 := by rw [← hs311]; exact zset_k (zne_r zc_194 zc_203 (by decide))
                                                  have e328 : s310 164 48 = s243 164 48 := by rw [← hs311]; exact zset_k (zne_r zc_164 zc_203 (by decide))
                                                  have e329 : s310 164 54 = s243 164 54 := by rw [← hs311]; exact zset_k (zne_r zc_164 zc_203 (by decide))
                                                  have e330 : s310 164 1 = s243 164 1 := by rw [← hs311]; exact zset_k (zne_r zc_164 zc_203 (by decide))
                                                  refine zt_iinc (pc' := 274) (lv' := [some (.ref (X.1.1 + 164)), some (.int (zI (x240 + 1)))]) hX dX12_stands_271 rfl rfl hL (by decide) rfl ?_
                                                  refine zt_goto (tgt := 242) hX dX12_stands_274 (by decide) ?_
                                                  exact ih251 (x240 + 1) s310 (by omega) (by omega) hI312 hF313 (by omega) (by omega) (by omega) (by omega)
                                            exact L_242_248 _ 0 s219 (by omega) (by omega) hI220 hF221 (by omega) (by omega) (by omega) (Nat.lt_succ_self _)
                                          · refine zt_aload_n (pc' := 228) hX dX12_stands_227 rfl rfl ?_
                                            refine zt_get (pc' := 231) (v := .ref (X.1.1 + 203)) hX dX12_stands_228 rfl zf_X12_130 (by decide) zc_164 zs_46 (zrf_of (zv_46_52 hI220 zc_164)) ?_
                                            refine zt_iload_n (pc' := 232) hX dX12_stands_231 rfl rfl ?_
                                            refine zt_iconst (pc' := 233) hX dX12_stands_232 rfl ?_
                                            refine zt_iast (pc' := 234) hX dX12_stands_233 rfl (by decide) zc_203 zs_85 (by decide) ⟨by omega, by omega⟩ ?_
                                            generalize hs332 : zset s219 203 (x216.toNat) 0 = s331
                                            have hI333 : zInv s331 := hs332 ▸ zp_85 hI220 zc_203 (x216.toNat) (by omega)
                                            have hF334 : zFN σ s331 := hs332 ▸ zFN_set hF221 zc_203 (by decide) zk_85
                                            have w335 := zwz_set (σ := σ) hs332 (by omega) (by omega)
                                            have w336 := zwf_k hs332 ⟨Or.inl (by decide), by decide, by decide, by decide, by decide⟩ (by omega)
                                            have e337 : s331 200 0 = s219 200 0 := by rw [← hs332]; exact zset_k (zne_r zc_200 zc_203 (by decide))
                                            have e338 : s331 200 1 = s219 200 1 := by rw [← hs332]; exact zset_k (zne_r zc_200 zc_203 (by decide))
                                            have e339 : s331 200 2 = s219 200 2 := by rw [← hs332]; exact zset_k (zne_r zc_200 zc_203 (by decide))
                                            have e340 : s331 200 3 = s219 200 3 := by rw [← hs332]; exact zset_k (zne_r zc_200 zc_203 (by decide))
                                            have e341 : s331 201 0 = s219 201 0 := by rw [← hs332]; exact zset_k (zne_r zc_201 zc_203 (by decide))
                                            have e342 : s331 201 1 = s219 201 1 := by rw [← hs332]; exact zset_k (zne_r zc_201 zc_203 (by decide))
                                            have e343 : s331 201 2 = s219 201 2 := by rw [← hs332]; exact zset_k (zne_r zc_201 zc_203 (by decide))
                                            have e344 : s331 201 3 = s219 201 3 := by rw [← hs332]; exact zset_k (zne_r zc_201 zc_203 (by decide))
                                            have e345 : s331 194 0 = s219 194 0 := by rw [← hs332]; exact zset_k (zne_r zc_194 zc_203 (by decide))
                                            have e346 : s331 194 1 = s219 194 1 := by rw [← hs332]; exact zset_k (zne_r zc_194 zc_203 (by decide))
                                            have e347 : s331 194 3 = s219 194 3 := by rw [← hs332]; exact zset_k (zne_r zc_194 zc_203 (by decide))
                                            have e348 : s331 194 4 = s219 194 4 := by rw [← hs332]; exact zset_k (zne_r zc_194 zc_203 (by decide))
                                            have e349 : s331 164 48 = s219 164 48 := by rw [← hs332]; exact zset_k (zne_r zc_164 zc_203 (by decide))
                                            have e350 : s331 164 54 = s219 164 54 := by rw [← hs332]; exact zset_k (zne_r zc_164 zc_203 (by decide))
                                            have e351 : s331 164 1 = s219 164 1 := by rw [← hs332]; exact zset_k (zne_r zc_164 zc_203 (by decide))
                                            refine zt_iinc (pc' := 237) (lv' := [some (.ref (X.1.1 + 164)), some (.int (zI (x216 + 1)))]) hX dX12_stands_234 rfl rfl hL (by decide) rfl ?_
                                            refine zt_goto (tgt := 220) hX dX12_stands_237 (by decide) ?_
                                            exact ih227 (x216 + 1) s331 (by omega) (by omega) hI333 hF334 (by omega) (by omega) (by omega) (by omega)
                                      exact L_220_224 _ 0 s188 (by omega) (by omega) hI189 hF190 (by omega) (by omega) (by omega) (Nat.lt_succ_self _)
                                    · refine zt_aload_n (pc' := 197) hX dX12_stands_196 rfl rfl ?_
                                      refine zt_get (pc' := 200) (v := .ref (X.1.1 + 202)) hX dX12_stands_197 rfl zf_X12_127 (by decide) zc_164 zs_46 (zrf_of (zv_46_47 hI189 zc_164)) ?_
                                      refine zt_sipush (pc' := 203) hX dX12_stands_200 rfl (by decide) (by decide) ?_
                                      refine zt_iload_n (pc' := 204) hX dX12_stands_203 rfl rfl ?_
                                      refine zt_iadd (pc' := 205) hX dX12_stands_204 rfl ?_
                                      refine zt_aload_n (pc' := 206) hX dX12_stands_205 rfl rfl ?_
                                      refine zt_get (pc' := 209) (v := .ref (X.1.1 + 202)) hX dX12_stands_206 rfl zf_X12_127 (by decide) zc_164 zs_46 (zrf_of (zv_46_47 hI189 zc_164)) ?_
                                      refine zt_iload_n (pc' := 210) hX dX12_stands_209 rfl rfl ?_
                                      refine zt_iald (pc' := 211) hX dX12_stands_210 rfl (by decide) zc_202 zs_84 (by decide) ⟨by omega, by omega⟩ ?_
                                      generalize hv352 : s188 202 (x185.toNat) = v352
                                      have bv352 : -2147483648 ≤ v352 ∧ v352 ≤ 2147483647 := hv352 ▸ zv_84 hI189 zc_202 _
                                      refine zt_iast (pc' := 212) hX dX12_stands_211 rfl (by decide) zc_202 zs_84 (by decide) ⟨by omega, by omega⟩ ?_
                                      generalize hs354 : zset s188 202 ((1600 + x185).toNat) v352 = s353
                                      have hI355 : zInv s353 := hs354 ▸ zp_84 hI189 zc_202 ((1600 + x185).toNat) ⟨by omega, by omega⟩
                                      have hF356 : zFN σ s353 := hs354 ▸ zFN_set hF190 zc_202 (by decide) zk_84
                                      have w357 := zwz_set (σ := σ) hs354 (by omega) (by omega)
                                      have e358 : s353 200 0 = s188 200 0 := by rw [← hs354]; exact zset_k (zne_r zc_200 zc_202 (by decide))
                                      have e359 : s353 200 1 = s188 200 1 := by rw [← hs354]; exact zset_k (zne_r zc_200 zc_202 (by decide))
                                      have e360 : s353 200 2 = s188 200 2 := by rw [← hs354]; exact zset_k (zne_r zc_200 zc_202 (by decide))
                                      have e361 : s353 200 3 = s188 200 3 := by rw [← hs354]; exact zset_k (zne_r zc_200 zc_202 (by decide))
                                      have e362 : s353 201 0 = s188 201 0 := by rw [← hs354]; exact zset_k (zne_r zc_201 zc_202 (by decide))
                                      have e363 : s353 201 1 = s188 201 1 := by rw [← hs354]; exact zset_k (zne_r zc_201 zc_202 (by decide))
                                      have e364 : s353 201 2 = s188 201 2 := by rw [← hs354]; exact zset_k (zne_r zc_201 zc_202 (by decide))
                                      have e365 : s353 201 3 = s188 201 3 := by rw [← hs354]; exact zset_k (zne_r zc_201 zc_202 (by decide))
                                      have e366 : s353 194 0 = s188 194 0 := by rw [← hs354]; exact zset_k (zne_r zc_194 zc_202 (by decide))
                                      have e367 : s353 194 1 = s188 194 1 := by rw [← hs354]; exact zset_k (zne_r zc_194 zc_202 (by decide))
                                      have e368 : s353 194 3 = s188 194 3 := by rw [← hs354]; exact zset_k (zne_r zc_194 zc_202 (by decide))
                                      have e369 : s353 194 4 = s188 194 4 := by rw [← hs354]; exact zset_k (zne_r zc_194 zc_202 (by decide))
                                      have e370 : s353 164 48 = s188 164 48 := by rw [← hs354]; exact zset_k (zne_r zc_164 zc_202 (by decide))
                                      have e371 : s353 164 54 = s188 164 54 := by rw [← hs354]; exact zset_k (zne_r zc_164 zc_202 (by decide))
                                      have e372 : s353 164 1 = s188 164 1 := by rw [← hs354]; exact zset_k (zne_r zc_164 zc_202 (by decide))
                                      have h373 := zcz_s hs354 (by omega) hv352 (by omega) (by omega) (by omega)
                                      refine zt_iinc (pc' := 215) (lv' := [some (.ref (X.1.1 + 164)), some (.int (zI (x185 + 1)))]) hX dX12_stands_212 rfl rfl hL (by decide) rfl ?_
                                      refine zt_goto (tgt := 188) hX dX12_stands_215 (by decide) ?_
                                      exact ih201 (x185 + 1) s353 (by omega) (by omega) hI355 hF356 (by omega) (by omega) (by omega) (by omega) (by omega) (by omega) (by omega) (by omega) (by omega)
                                exact L_188_198 _ 0 s161 (by omega) (by omega) hI162 hF163 (by omega) (by omega) (by omega) (by omega) (by omega) (by omega) (by omega) (by omega) (Nat.lt_succ_self _)
                              · refine zt_aload_n (pc' := 166) hX dX12_stands_165 rfl rfl ?_
                                refine zt_get (pc' := 169) (v := .ref (X.1.1 + 198)) hX dX12_stands_166 rfl zf_X12_115 (by decide) zc_164 zs_46 (zrf_of (zv_46_43 hI162 zc_164)) ?_
                                refine zt_bipush (pc' := 171) hX dX12_stands_169 rfl (by decide) (by decide) ?_
                                refine zt_iload_n (pc' := 172) hX dX12_stands_171 rfl rfl ?_
                                refine zt_iadd (pc' := 173) hX dX12_stands_172 rfl ?_
                                refine zt_aload_n (pc' := 174) hX dX12_stands_173 rfl rfl ?_
                                refine zt_get (pc' := 177) (v := .ref (X.1.1 + 198)) hX dX12_stands_174 rfl zf_X12_115 (by decide) zc_164 zs_46 (zrf_of (zv_46_43 hI162 zc_164)) ?_
                                refine zt_iload_n (pc' := 178) hX dX12_stands_177 rfl rfl ?_
                                refine zt_iald (pc' := 179) hX dX12_stands_178 rfl (by decide) zc_198 zs_80 (by decide) ⟨by omega, by omega⟩ ?_
                                have bv374 := zv_80 hI162 zc_198 (x158.toNat)
                                generalize hv374 : s161 198 (x158.toNat) = v374 at bv374 ⊢
                                refine zt_iast (pc' := 180) hX dX12_stands_179 rfl (by decide) zc_198 zs_80 (by decide) ⟨by omega, by omega⟩ ?_
                                generalize hs376 : zset s161 198 ((20 + x158).toNat) v374 = s375
                                have hI377 : zInv s375 := hs376 ▸ zp_80 hI162 zc_198 ((20 + x158).toNat) (by omega)
                                have hF378 : zFN σ s375 := hs376 ▸ zFN_set hF163 zc_198 (by decide) zk_80
                                have w379 := zwz_set (σ := σ) hs376 (by omega) (by omega)
                                have e380 : s375 200 0 = s161 200 0 := by rw [← hs376]; exact zset_k (zne_r zc_200 zc_198 (by decide))
                                have e381 : s375 200 1 = s161 200 1 := by rw [← hs376]; exact zset_k (zne_r zc_200 zc_198 (by decide))
                                have e382 : s375 200 2 = s161 200 2 := by rw [← hs376]; exact zset_k (zne_r zc_200 zc_198 (by decide))
                                have e383 : s375 200 3 = s161 200 3 := by rw [← hs376]; exact zset_k (zne_r zc_200 zc_198 (by decide))
                                have e384 : s375 201 0 = s161 201 0 := by rw [← hs376]; exact zset_k (zne_r zc_201 zc_198 (by decide))
                                have e385 : s375 201 1 = s161 201 1 := by rw [← hs376]; exact zset_k (zne_r zc_201 zc_198 (by decide))
                                have e386 : s375 201 2 = s161 201 2 := by rw [← hs376]; exact zset_k (zne_r zc_201 zc_198 (by decide))
                                have e387 : s375 201 3 = s161 201 3 := by rw [← hs376]; exact zset_k (zne_r zc_201 zc_198 (by decide))
                                have e388 : s375 194 0 = s161 194 0 := by rw [← hs376]; exact zset_k (zne_r zc_194 zc_198 (by decide))
                                have e389 : s375 194 1 = s161 194 1 := by rw [← hs376]; exact zset_k (zne_r zc_194 zc_198 (by decide))
                                have e390 : s375 194 3 = s161 194 3 := by rw [← hs376]; exact zset_k (zne_r zc_194 zc_198 (by decide))
                                have e391 : s375 194 4 = s161 194 4 := by rw [← hs376]; exact zset_k (zne_r zc_194 zc_198 (by decide))
                                have e392 : s375 164 48 = s161 164 48 := by rw [← hs376]; exact zset_k (zne_r zc_164 zc_198 (by decide))
                                have e393 : s375 164 54 = s161 164 54 := by rw [← hs376]; exact zset_k (zne_r zc_164 zc_198 (by decide))
                                have e394 : s375 164 1 = s161 164 1 := by rw [← hs376]; exact zset_k (zne_r zc_164 zc_198 (by decide))
                                refine zt_iinc (pc' := 183) (lv' := [some (.ref (X.1.1 + 164)), some (.int (zI (x158 + 1)))]) hX dX12_stands_180 rfl rfl hL (by decide) rfl ?_
                                refine zt_goto (tgt := 159) hX dX12_stands_183 (by decide) ?_
                                exact ih171 (x158 + 1) s375 (by omega) (by omega) hI377 hF378 (by omega) (by omega) (by omega) (by omega) (by omega) (by omega)
                          exact L_159_168 _ 0 s135 (by omega) (by omega) hI136 hF137 (by omega) (by omega) (by omega) (by omega) (by omega) (Nat.lt_succ_self _)
                        · refine zt_aload_n (pc' := 137) hX dX12_stands_136 rfl rfl ?_
                          refine zt_get (pc' := 140) (v := .ref (X.1.1 + 197)) hX dX12_stands_137 rfl zf_X12_112 (by decide) zc_164 zs_46 (zrf_of (zv_46_42 hI136 zc_164)) ?_
                          refine zt_bipush (pc' := 142) hX dX12_stands_140 rfl (by decide) (by decide) ?_
                          refine zt_iload_n (pc' := 143) hX dX12_stands_142 rfl rfl ?_
                          refine zt_iadd (pc' := 144) hX dX12_stands_143 rfl ?_
                          refine zt_aload_n (pc' := 145) hX dX12_stands_144 rfl rfl ?_
                          refine zt_get (pc' := 148) (v := .ref (X.1.1 + 197)) hX dX12_stands_145 rfl zf_X12_112 (by decide) zc_164 zs_46 (zrf_of (zv_46_42 hI136 zc_164)) ?_
                          refine zt_iload_n (pc' := 149) hX dX12_stands_148 rfl rfl ?_
                          refine zt_iald (pc' := 150) hX dX12_stands_149 rfl (by decide) zc_197 zs_79 (by decide) ⟨by omega, by omega⟩ ?_
                          generalize hv395 : s135 197 (x132.toNat) = v395
                          have bv395 : -2147483648 ≤ v395 ∧ v395 ≤ 2147483647 := hv395 ▸ zv_79 hI136 zc_197 _
                          refine zt_iast (pc' := 151) hX dX12_stands_150 rfl (by decide) zc_197 zs_79 (by decide) ⟨by omega, by omega⟩ ?_
                          generalize hs397 : zset s135 197 ((36 + x132).toNat) v395 = s396
                          have hI398 : zInv s396 := hs397 ▸ zp_79 hI136 zc_197 ((36 + x132).toNat) ⟨by omega, by omega⟩
                          have hF399 : zFN σ s396 := hs397 ▸ zFN_set hF137 zc_197 (by decide) zk_79
                          have w400 := zwz_set (σ := σ) hs397 (by omega) (by omega)
                          have e401 : s396 200 0 = s135 200 0 := by rw [← hs397]; exact zset_k (zne_r zc_200 zc_197 (by decide))
                          have e402 : s396 200 1 = s135 200 1 := by rw [← hs397]; exact zset_k (zne_r zc_200 zc_197 (by decide))
                          have e403 : s396 200 2 = s135 200 2 := by rw [← hs397]; exact zset_k (zne_r zc_200 zc_197 (by decide))
                          have e404 : s396 200 3 = s135 200 3 := by rw [← hs397]; exact zset_k (zne_r zc_200 zc_197 (by decide))
                          have e405 : s396 201 0 = s135 201 0 := by rw [← hs397]; exact zset_k (zne_r zc_201 zc_197 (by decide))
                          have e406 : s396 201 1 = s135 201 1 := by rw [← hs397]; exact zset_k (zne_r zc_201 zc_197 (by decide))
                          have e407 : s396 201 2 = s135 201 2 := by rw [← hs397]; exact zset_k (zne_r zc_201 zc_197 (by decide))
                          have e408 : s396 201 3 = s135 201 3 := by rw [← hs397]; exact zset_k (zne_r zc_201 zc_197 (by decide))
                          have e409 : s396 194 0 = s135 194 0 := by rw [← hs397]; exact zset_k (zne_r zc_194 zc_197 (by decide))
                          have e410 : s396 194 1 = s135 194 1 := by rw [← hs397]; exact zset_k (zne_r zc_194 zc_197 (by decide))
                          have e411 : s396 194 3 = s135 194 3 := by rw [← hs397]; exact zset_k (zne_r zc_194 zc_197 (by decide))
                          have e412 : s396 194 4 = s135 194 4 := by rw [← hs397]; exact zset_k (zne_r zc_194 zc_197 (by decide))
                          have e413 : s396 164 48 = s135 164 48 := by rw [← hs397]; exact zset_k (zne_r zc_164 zc_197 (by decide))
                          have e414 : s396 164 54 = s135 164 54 := by rw [← hs397]; exact zset_k (zne_r zc_164 zc_197 (by decide))
                          have e415 : s396 164 1 = s135 164 1 := by rw [← hs397]; exact zset_k (zne_r zc_164 zc_197 (by decide))
                          refine zt_iinc (pc' := 154) (lv' := [some (.ref (X.1.1 + 164)), some (.int (zI (x132 + 1)))]) hX dX12_stands_151 rfl rfl hL (by decide) rfl ?_
                          refine zt_goto (tgt := 130) hX dX12_stands_154 (by decide) ?_
                          exact ih145 (x132 + 1) s396 (by omega) (by omega) hI398 hF399 (by omega) (by omega) (by omega) (by omega) (by omega) (by omega)
                    exact L_130_142 _ 0 s109 (by omega) (by omega) hI110 hF111 (by omega) (by omega) (by omega) (by omega) (by omega) (Nat.lt_succ_self _)
                  · refine zt_aload_n (pc' := 108) hX dX12_stands_107 rfl rfl ?_
                    refine zt_get (pc' := 111) (v := .ref (X.1.1 + 196)) hX dX12_stands_108 rfl zf_X12_108 (by decide) zc_164 zs_46 (zrf_of (zv_46_41 hI110 zc_164)) ?_
                    refine zt_bipush (pc' := 113) hX dX12_stands_111 rfl (by decide) (by decide) ?_
                    refine zt_iload_n (pc' := 114) hX dX12_stands_113 rfl rfl ?_
                    refine zt_iadd (pc' := 115) hX dX12_stands_114 rfl ?_
                    refine zt_aload_n (pc' := 116) hX dX12_stands_115 rfl rfl ?_
                    refine zt_get (pc' := 119) (v := .ref (X.1.1 + 196)) hX dX12_stands_116 rfl zf_X12_108 (by decide) zc_164 zs_46 (zrf_of (zv_46_41 hI110 zc_164)) ?_
                    refine zt_iload_n (pc' := 120) hX dX12_stands_119 rfl rfl ?_
                    refine zt_lald (pc' := 121) hX dX12_stands_120 rfl (by decide) zc_196 zs_78 (by decide) ⟨by omega, by omega⟩ ?_
                    generalize hv416 : s109 196 (x106.toNat) = v416
                    have bv416 : -9223372036854775808 ≤ v416 ∧ v416 ≤ 9223372036854775807 := hv416 ▸ zv_78 hI110 zc_196 _
                    refine zt_last (pc' := 122) hX dX12_stands_121 rfl (by decide) zc_196 zs_78 (by decide) ⟨by omega, by omega⟩ ?_
                    generalize hs418 : zset s109 196 ((10 + x106).toNat) v416 = s417
                    have hI419 : zInv s417 := hs418 ▸ zp_78 hI110 zc_196 ((10 + x106).toNat) ⟨by omega, by omega⟩
                    have hF420 : zFN σ s417 := hs418 ▸ zFN_set hF111 zc_196 (by decide) zk_78
                    have w421 := zwz_set (σ := σ) hs418 (by omega) (by omega)
                    have e422 : s417 200 0 = s109 200 0 := by rw [← hs418]; exact zset_k (zne_r zc_200 zc_196 (by decide))
                    have e423 : s417 200 1 = s109 200 1 := by rw [← hs418]; exact zset_k (zne_r zc_200 zc_196 (by decide))
                    have e424 : s417 200 2 = s109 200 2 := by rw [← hs418]; exact zset_k (zne_r zc_200 zc_196 (by decide))
                    have e425 : s417 200 3 = s109 200 3 := by rw [← hs418]; exact zset_k (zne_r zc_200 zc_196 (by decide))
                    have e426 : s417 201 0 = s109 201 0 := by rw [← hs418]; exact zset_k (zne_r zc_201 zc_196 (by decide))
                    have e427 : s417 201 1 = s109 201 1 := by rw [← hs418]; exact zset_k (zne_r zc_201 zc_196 (by decide))
                    have e428 : s417 201 2 = s109 201 2 := by rw [← hs418]; exact zset_k (zne_r zc_201 zc_196 (by decide))
                    have e429 : s417 201 3 = s109 201 3 := by rw [← hs418]; exact zset_k (zne_r zc_201 zc_196 (by decide))
                    have e430 : s417 194 0 = s109 194 0 := by rw [← hs418]; exact zset_k (zne_r zc_194 zc_196 (by decide))
                    have e431 : s417 194 1 = s109 194 1 := by rw [← hs418]; exact zset_k (zne_r zc_194 zc_196 (by decide))
                    have e432 : s417 194 3 = s109 194 3 := by rw [← hs418]; exact zset_k (zne_r zc_194 zc_196 (by decide))
                    have e433 : s417 194 4 = s109 194 4 := by rw [← hs418]; exact zset_k (zne_r zc_194 zc_196 (by decide))
                    have e434 : s417 164 48 = s109 164 48 := by rw [← hs418]; exact zset_k (zne_r zc_164 zc_196 (by decide))
                    have e435 : s417 164 54 = s109 164 54 := by rw [← hs418]; exact zset_k (zne_r zc_164 zc_196 (by decide))
                    have e436 : s417 164 1 = s109 164 1 := by rw [← hs418]; exact zset_k (zne_r zc_164 zc_196 (by decide))
                    refine zt_iinc (pc' := 125) (lv' := [some (.ref (X.1.1 + 164)), some (.int (zI (x106 + 1)))]) hX dX12_stands_122 rfl rfl hL (by decide) rfl ?_
                    refine zt_goto (tgt := 101) hX dX12_stands_125 (by decide) ?_
                    exact ih119 (x106 + 1) s417 (by omega) (by omega) hI419 hF420 (by omega) (by omega) (by omega) (by omega) (by omega) (by omega)
              exact L_101_116 _ 0 s83 (by omega) (by omega) hI84 hF85 (by omega) (by omega) (by omega) (by omega) (by omega) (Nat.lt_succ_self _)
            · refine zt_aload_n (pc' := 66) hX dX12_stands_65 rfl rfl ?_
              refine zt_get (pc' := 69) (v := .ref (X.1.1 + 200)) hX dX12_stands_66 rfl zf_X12_121 (by decide) zc_164 zs_46 (zrf_of (zv_46_45 hI84 zc_164)) ?_
              refine zt_iconst (pc' := 70) hX dX12_stands_69 rfl ?_
              refine zt_iload_n (pc' := 71) hX dX12_stands_70 rfl rfl ?_
              refine zt_iadd (pc' := 72) hX dX12_stands_71 rfl ?_
              refine zt_aload_n (pc' := 73) hX dX12_stands_72 rfl rfl ?_
              refine zt_get (pc' := 76) (v := .ref (X.1.1 + 200)) hX dX12_stands_73 rfl zf_X12_121 (by decide) zc_164 zs_46 (zrf_of (zv_46_45 hI84 zc_164)) ?_
              refine zt_iload_n (pc' := 77) hX dX12_stands_76 rfl rfl ?_
              refine zt_iald (pc' := 78) hX dX12_stands_77 rfl (by decide) zc_200 zs_82 (by decide) ⟨by omega, by omega⟩ ?_
              generalize hv437 : s83 200 (x80.toNat) = v437
              have bv437 : -1 ≤ v437 ∧ v437 ≤ 1600 := hv437 ▸ zv_82 hI84 zc_200 _
              refine zt_iast (pc' := 79) hX dX12_stands_78 rfl (by decide) zc_200 zs_82 (by decide) ⟨by omega, by omega⟩ ?_
              generalize hs439 : zset s83 200 ((2 + x80).toNat) v437 = s438
              have hI440 : zInv s438 := hs439 ▸ zp_82 hI84 zc_200 ((2 + x80).toNat) ⟨by omega, by omega⟩
              have hF441 : zFN σ s438 := hs439 ▸ zFN_set hF85 zc_200 (by decide) zk_82
              have w442 := zwz_set (σ := σ) hs439 (by omega) (by omega)
              have e443 : s438 201 0 = s83 201 0 := by rw [← hs439]; exact zset_k (zne_r zc_201 zc_200 (by decide))
              have e444 : s438 201 1 = s83 201 1 := by rw [← hs439]; exact zset_k (zne_r zc_201 zc_200 (by decide))
              have e445 : s438 201 2 = s83 201 2 := by rw [← hs439]; exact zset_k (zne_r zc_201 zc_200 (by decide))
              have e446 : s438 201 3 = s83 201 3 := by rw [← hs439]; exact zset_k (zne_r zc_201 zc_200 (by decide))
              have e447 : s438 194 0 = s83 194 0 := by rw [← hs439]; exact zset_k (zne_r zc_194 zc_200 (by decide))
              have e448 : s438 194 1 = s83 194 1 := by rw [← hs439]; exact zset_k (zne_r zc_194 zc_200 (by decide))
              have e449 : s438 194 3 = s83 194 3 := by rw [← hs439]; exact zset_k (zne_r zc_194 zc_200 (by decide))
              have e450 : s438 194 4 = s83 194 4 := by rw [← hs439]; exact zset_k (zne_r zc_194 zc_200 (by decide))
              have e451 : s438 164 48 = s83 164 48 := by rw [← hs439]; exact zset_k (zne_r zc_164 zc_200 (by decide))
              have e452 : s438 164 54 = s83 164 54 := by rw [← hs439]; exact zset_k (zne_r zc_164 zc_200 (by decide))
              have e453 : s438 164 1 = s83 164 1 := by rw [← hs439]; exact zset_k (zne_r zc_164 zc_200 (by decide))
              have h454 := zc2 (d := 2) (e := 3) hs439 (by omega) rfl hv437 (by omega) (by decide)
              refine zt_aload_n (pc' := 80) hX dX12_stands_79 rfl rfl ?_
              refine zt_get (pc' := 83) (v := .ref (X.1.1 + 201)) hX dX12_stands_80 rfl zf_X12_124 (by decide) zc_164 zs_46 (zrf_of (zv_46_46 hI440 zc_164)) ?_
              refine zt_iconst (pc' := 84) hX dX12_stands_83 rfl ?_
              refine zt_iload_n (pc' := 85) hX dX12_stands_84 rfl rfl ?_
              refine zt_iadd (pc' := 86) hX dX12_stands_85 rfl ?_
              refine zt_aload_n (pc' := 87) hX dX12_stands_86 rfl rfl ?_
              refine zt_get (pc' := 90) (v := .ref (X.1.1 + 201)) hX dX12_stands_87 rfl zf_X12_124 (by decide) zc_164 zs_46 (zrf_of (zv_46_46 hI440 zc_164)) ?_
              refine zt_iload_n (pc' := 91) hX dX12_stands_90 rfl rfl ?_
              refine zt_iald (pc' := 92) hX dX12_stands_91 rfl (by decide) zc_201 zs_83 (by decide) ⟨by omega, by omega⟩ ?_
              generalize hv455 : s438 201 (x80.toNat) = v455
              have bv455 : 0 ≤ v455 ∧ v455 ≤ 1600 := hv455 ▸ zv_83 hI440 zc_201 _
              refine zt_iast (pc' := 93) hX dX12_stands_92 rfl (by decide) zc_201 zs_83 (by decide) ⟨by omega, by omega⟩ ?_
              generalize hs457 : zset s438 201 ((2 + x80).toNat) v455 = s456
              have hI458 : zInv s456 := hs457 ▸ zp_83 hI440 zc_201 ((2 + x80).toNat) ⟨by omega, by omega⟩
              have hF459 : zFN σ s456 := hs457 ▸ zFN_set hF441 zc_201 (by decide) zk_83
              have w460 := zwz_set (σ := σ) hs457 (by omega) (by omega)
              have e461 : s456 200 0 = s438 200 0 := by rw [← hs457]; exact zset_k (zne_r zc_200 zc_201 (by decide))
              have e462 : s456 200 1 = s438 200 1 := by rw [← hs457]; exact zset_k (zne_r zc_200 zc_201 (by decide))
              have e463 : s456 200 2 = s438 200 2 := by rw [← hs457]; exact zset_k (zne_r zc_200 zc_201 (by decide))
              have e464 : s456 200 3 = s438 200 3 := by rw [← hs457]; exact zset_k (zne_r zc_200 zc_201 (by decide))
              have e465 : s456 194 0 = s438 194 0 := by rw [← hs457]; exact zset_k (zne_r zc_194 zc_201 (by decide))
              have e466 : s456 194 1 = s438 194 1 := by rw [← hs457]; exact zset_k (zne_r zc_194 zc_201 (by decide))
              have e467 : s456 194 3 = s438 194 3 := by rw [← hs457]; exact zset_k (zne_r zc_194 zc_201 (by decide))
              have e468 : s456 194 4 = s438 194 4 := by rw [← hs457]; exact zset_k (zne_r zc_194 zc_201 (by decide))
              have e469 : s456 164 48 = s438 164 48 := by rw [← hs457]; exact zset_k (zne_r zc_164 zc_201 (by decide))
              have e470 : s456 164 54 = s438 164 54 := by rw [← hs457]; exact zset_k (zne_r zc_164 zc_201 (by decide))
              have e471 : s456 164 1 = s438 164 1 := by rw [← hs457]; exact zset_k (zne_r zc_164 zc_201 (by decide))
              have h472 := zc2 (d := 2) (e := 3) hs457 (by omega) rfl hv455 (by omega) (by decide)
              refine zt_iinc (pc' := 96) (lv' := [some (.ref (X.1.1 + 164)), some (.int (zI (x80 + 1)))]) hX dX12_stands_93 rfl rfl hL (by decide) rfl ?_
              refine zt_goto (tgt := 60) hX dX12_stands_96 (by decide) ?_
              exact ih93 (x80 + 1) s456 (by omega) (by omega) hI458 hF459 (by omega) (by omega) (by omega) (by omega) (by omega) (by omega)
        exact L_60_90 _ 0 s58 (by omega) (by omega) hI59 hF60 (by omega) (by omega) (by omega) (by omega) (by omega) (Nat.lt_succ_self _)
      · refine zt_aload_n (pc' := 25) hX dX12_stands_24 rfl rfl ?_
        refine zt_get (pc' := 28) (v := .ref (X.1.1 + 194)) hX dX12_stands_25 rfl zf_X12_102 (by decide) zc_164 zs_46 (zrf_of (zv_46_39 hI59 zc_164)) ?_
        refine zt_iconst (pc' := 29) hX dX12_stands_28 rfl ?_
        refine zt_iload_n (pc' := 30) hX dX12_stands_29 rfl rfl ?_
        refine zt_iadd (pc' := 31) hX dX12_stands_30 rfl ?_
        refine zt_aload_n (pc' := 32) hX dX12_stands_31 rfl rfl ?_
        refine zt_get (pc' := 35) (v := .ref (X.1.1 + 194)) hX dX12_stands_32 rfl zf_X12_102 (by decide) zc_164 zs_46 (zrf_of (zv_46_39 hI59 zc_164)) ?_
        refine zt_iload_n (pc' := 36) hX dX12_stands_35 rfl rfl ?_
        refine zt_iald (pc' := 37) hX dX12_stands_36 rfl (by decide) zc_194 zs_76 (by decide) ⟨by omega, by omega⟩ ?_
        have bv473 := zv_76 hI59 zc_194 (x55.toNat)
        generalize hv473 : s58 194 (x55.toNat) = v473 at bv473 ⊢
        have h474 := zwz_sd (σ := σ) (s := s58) (by omega) hpre0 hv473 (by omega) (by omega)
        refine zt_iast (pc' := 38) hX dX12_stands_37 rfl (by decide) zc_194 zs_76 (by decide) ⟨by omega, by omega⟩ ?_
        generalize hs476 : zset s58 194 ((3 + x55).toNat) v473 = s475
        have hI477 : zInv s475 := hs476 ▸ zp_76 hI59 zc_194 ((3 + x55).toNat) (by omega)
        have hF478 : zFN σ s475 := hs476 ▸ zFN_set hF60 zc_194 (by decide) zk_76
        have w479 := zwz_set (σ := σ) hs476 (by omega) (by omega)
        have e480 : s475 200 0 = s58 200 0 := by rw [← hs476]; exact zset_k (zne_r zc_200 zc_194 (by decide))
        have e481 : s475 200 1 = s58 200 1 := by rw [← hs476]; exact zset_k (zne_r zc_200 zc_194 (by decide))
        have e482 : s475 200 2 = s58 200 2 := by rw [← hs476]; exact zset_k (zne_r zc_200 zc_194 (by decide))
        have e483 : s475 200 3 = s58 200 3 := by rw [← hs476]; exact zset_k (zne_r zc_200 zc_194 (by decide))
        have e484 : s475 201 0 = s58 201 0 := by rw [← hs476]; exact zset_k (zne_r zc_201 zc_194 (by decide))
        have e485 : s475 201 1 = s58 201 1 := by rw [← hs476]; exact zset_k (zne_r zc_201 zc_194 (by decide))
        have e486 : s475 201 2 = s58 201 2 := by rw [← hs476]; exact zset_k (zne_r zc_201 zc_194 (by decide))
        have e487 : s475 201 3 = s58 201 3 := by rw [← hs476]; exact zset_k (zne_r zc_201 zc_194 (by decide))
        have e488 : s475 164 48 = s58 164 48 := by rw [← hs476]; exact zset_k (zne_r zc_164 zc_194 (by decide))
        have e489 : s475 164 54 = s58 164 54 := by rw [← hs476]; exact zset_k (zne_r zc_164 zc_194 (by decide))
        have e490 : s475 164 1 = s58 164 1 := by rw [← hs476]; exact zset_k (zne_r zc_164 zc_194 (by decide))
        have h491 := zc2 (d := 3) (e := 4) hs476 (by omega) rfl hv473 (by omega) (by decide)
        refine zt_aload_n (pc' := 39) hX dX12_stands_38 rfl rfl ?_
        refine zt_get (pc' := 42) (v := .ref (X.1.1 + 199)) hX dX12_stands_39 rfl zf_X12_118 (by decide) zc_164 zs_46 (zrf_of (zv_46_44 hI477 zc_164)) ?_
        refine zt_iconst (pc' := 43) hX dX12_stands_42 rfl ?_
        refine zt_iload_n (pc' := 44) hX dX12_stands_43 rfl rfl ?_
        refine zt_iadd (pc' := 45) hX dX12_stands_44 rfl ?_
        refine zt_aload_n (pc' := 46) hX dX12_stands_45 rfl rfl ?_
        refine zt_get (pc' := 49) (v := .ref (X.1.1 + 199)) hX dX12_stands_46 rfl zf_X12_118 (by decide) zc_164 zs_46 (zrf_of (zv_46_44 hI477 zc_164)) ?_
        refine zt_iload_n (pc' := 50) hX dX12_stands_49 rfl rfl ?_
        refine zt_iald (pc' := 51) hX dX12_stands_50 rfl (by decide) zc_199 zs_81 (by decide) ⟨by omega, by omega⟩ ?_
        have bv492 := zv_81 hI477 zc_199 (x55.toNat)
        generalize hv492 : s475 199 (x55.toNat) = v492 at bv492 ⊢
        have h493 := zwz_st (σ := σ) (s := s475) (by omega) hpre1 hv492 (by omega) (by omega)
        refine zt_iast (pc' := 52) hX dX12_stands_51 rfl (by decide) zc_199 zs_81 (by decide) ⟨by omega, by omega⟩ ?_
        generalize hs495 : zset s475 199 ((3 + x55).toNat) v492 = s494
        have hI496 : zInv s494 := hs495 ▸ zp_81 hI477 zc_199 ((3 + x55).toNat) (by omega)
        have hF497 : zFN σ s494 := hs495 ▸ zFN_set hF478 zc_199 (by decide) zk_81
        have w498 := zwz_set (σ := σ) hs495 (by omega) (by omega)
        have e499 : s494 200 0 = s475 200 0 := by rw [← hs495]; exact zset_k (zne_r zc_200 zc_199 (by decide))
        have e500 : s494 200 1 = s475 200 1 := by rw [← hs495]; exact zset_k (zne_r zc_200 zc_199 (by decide))
        have e501 : s494 200 2 = s475 200 2 := by rw [← hs495]; exact zset_k (zne_r zc_200 zc_199 (by decide))
        have e502 : s494 200 3 = s475 200 3 := by rw [← hs495]; exact zset_k (zne_r zc_200 zc_199 (by decide))
        have e503 : s494 201 0 = s475 201 0 := by rw [← hs495]; exact zset_k (zne_r zc_201 zc_199 (by decide))
        have e504 : s494 201 1 = s475 201 1 := by rw [← hs495]; exact zset_k (zne_r zc_201 zc_199 (by decide))
        have e505 : s494 201 2 = s475 201 2 := by rw [← hs495]; exact zset_k (zne_r zc_201 zc_199 (by decide))
        have e506 : s494 201 3 = s475 201 3 := by rw [← hs495]; exact zset_k (zne_r zc_201 zc_199 (by decide))
        have e507 : s494 194 0 = s475 194 0 := by rw [← hs495]; exact zset_k (zne_r zc_194 zc_199 (by decide))
        have e508 : s494 194 1 = s475 194 1 := by rw [← hs495]; exact zset_k (zne_r zc_194 zc_199 (by decide))
        have e509 : s494 194 3 = s475 194 3 := by rw [← hs495]; exact zset_k (zne_r zc_194 zc_199 (by decide))
        have e510 : s494 194 4 = s475 194 4 := by rw [← hs495]; exact zset_k (zne_r zc_194 zc_199 (by decide))
        have e511 : s494 164 48 = s475 164 48 := by rw [← hs495]; exact zset_k (zne_r zc_164 zc_199 (by decide))
        have e512 : s494 164 54 = s475 164 54 := by rw [← hs495]; exact zset_k (zne_r zc_164 zc_199 (by decide))
        have e513 : s494 164 1 = s475 164 1 := by rw [← hs495]; exact zset_k (zne_r zc_164 zc_199 (by decide))
        refine zt_iinc (pc' := 55) (lv' := [some (.ref (X.1.1 + 164)), some (.int (zI (x55 + 1)))]) hX dX12_stands_52 rfl rfl hL (by decide) rfl ?_
        refine zt_goto (tgt := 19) hX dX12_stands_55 (by decide) ?_
        exact ih67 (x55 + 1) s494 (by omega) (by omega) hI496 hF497 (by omega) (by omega) (by omega) (by omega) (by omega)
  exact L_19_64 _ 0 s35 (by omega) (by omega) hI37 hF38 (by omega) (by omega) (by omega) (by omega) (Nat.lt_succ_self _)

set_option maxRecDepth 100000 in
set_option maxHeartbeats 2000000 in
theorem zc_X12_pane (l : Launch) (E : zEN) (σ : zSto) (hI : zInv σ) (hW : zWF σ) : zCt l E yX12_pane cX12_pane 2 (some .int) 11 zNC zNC 0 0 σ [.ref (E.1 + 164)] (fun r σ' => zInv σ' ∧ zFN σ σ' ∧ -2147483648 ≤ r ∧ r ≤ 2147483647 ∧ (zwf σ' = 1) ∧ (σ' 164 54 = σ 164 54) ∧ (σ' 164 1 = 0)) := by
  refine zCt_of2 [some (.ref (E.1 + 164)), none] (by decide +kernel) (Nat.le_of_ble_eq_true rfl) rfl ?_
  intro X hE hX hR hL hN
  subst hE
  have hX : zok X cX12_pane RX12 11 := hX
  have hF := zGN_rf σ
  have b1 := zv_46_2 hI zc_164
  have b2 := zv_46_3 hI zc_164
  have b3 := zv_46_5 hI zc_164
  have b4 := zv_46_4 hI zc_164
  have b5 := zv_46_48 hI zc_164
  have b6 := zv_82 hI zc_200 0
  have b7 := zv_82 hI zc_200 1
  have b8 := zv_46_1 hI zc_164
  refine zt_aload_n (pc' := 1) hX dX12_pane_0 rfl rfl ?_
  refine zt_aload_n (pc' := 2) hX dX12_pane_1 rfl rfl ?_
  have b9 := zv_46_1 hI zc_164
  refine zt_get (pc' := 5) (v := .int (zI (σ 164 1))) hX dX12_pane_2 rfl zf_X12_243 (by decide) zc_164 zs_46 rfl ?_
  refine zt_put (pc' := 8) (x := (σ 164 1)) hX dX12_pane_5 rfl zf_X12_255 (by decide) zc_164 zs_46 (fun q hq => by cases hq; rfl) rfl rfl rfl ?_
  generalize hs11 : zset σ 164 3 (σ 164 1) = s10
  have hI12 : zInv s10 := hs11 ▸ zp_46_3 hI zc_164 ⟨by omega, by omega⟩
  have hF13 : zGN σ s10 := hs11 ▸ zGN_set hF zc_164 (by decide) zk_46 (Or.inr (by decide)) (by decide)
  have w14 := zwk_m hs11 (by decide)
  have e15 : s10 164 2 = σ 164 2 := by rw [← hs11]; exact zset_j (by decide)
  have e16 : s10 164 3 = (σ 164 1) := by rw [← hs11]; exact zset_s
  have e17 : s10 164 5 = σ 164 5 := by rw [← hs11]; exact zset_j (by decide)
  have e18 : s10 164 4 = σ 164 4 := by rw [← hs11]; exact zset_j (by decide)
  have e19 : s10 164 48 = σ 164 48 := by rw [← hs11]; exact zset_j (by decide)
  have e20 : s10 194 0 = σ 194 0 := by rw [← hs11]; exact zset_k (zne_r zc_194 zc_164 (by decide))
  have e21 : s10 194 1 = σ 194 1 := by rw [← hs11]; exact zset_k (zne_r zc_194 zc_164 (by decide))
  have e22 : s10 199 0 = σ 199 0 := by rw [← hs11]; exact zset_k (zne_r zc_199 zc_164 (by decide))
  have e23 : s10 199 1 = σ 199 1 := by rw [← hs11]; exact zset_k (zne_r zc_199 zc_164 (by decide))
  have e24 : s10 199 2 = σ 199 2 := by rw [← hs11]; exact zset_k (zne_r zc_199 zc_164 (by decide))
  have e25 : s10 200 0 = σ 200 0 := by rw [← hs11]; exact zset_k (zne_r zc_200 zc_164 (by decide))
  have e26 : s10 200 1 = σ 200 1 := by rw [← hs11]; exact zset_k (zne_r zc_200 zc_164 (by decide))
  have e27 : s10 164 1 = σ 164 1 := by rw [← hs11]; exact zset_j (by decide)
  refine zt_aload_n (pc' := 9) hX dX12_pane_8 rfl rfl ?_
  refine zt_iconst (pc' := 10) hX dX12_pane_9 rfl ?_
  refine zt_put (pc' := 13) (x := 0) hX dX12_pane_10 rfl zf_X12_243 (by decide) zc_164 zs_46 (fun q hq => by cases hq; rfl) rfl rfl rfl ?_
  generalize hs29 : zset s10 164 1 0 = s28
  have hI30 : zInv s28 := hs29 ▸ zp_46_1 hI12 zc_164 ⟨by omega, by omega⟩
  have hF31 : zGN σ s28 := hs29 ▸ zGN_set hF13 zc_164 (by decide) zk_46 (Or.inr (by decide)) (by decide)
  have w32 := zwk_m hs29 (by decide)
  have e33 : s28 164 2 = s10 164 2 := by rw [← hs29]; exact zset_j (by decide)
  have e34 : s28 164 3 = s10 164 3 := by rw [← hs29]; exact zset_j (by decide)
  have e35 : s28 164 5 = s10 164 5 := by rw [← hs29]; exact zset_j (by decide)
  have e36 : s28 164 4 = s10 164 4 := by rw [← hs29]; exact zset_j (by decide)
  have e37 : s28 164 48 = s10 164 48 := by rw [← hs29]; exact zset_j (by decide)
  have e38 : s28 194 0 = s10 194 0 := by rw [← hs29]; exact zset_k (zne_r zc_194 zc_164 (by decide))
  have e39 : s28 194 1 = s10 194 1 := by rw [← hs29]; exact zset_k (zne_r zc_194 zc_164 (by decide))
  have e40 : s28 199 0 = s10 199 0 := by rw [← hs29]; exact zset_k (zne_r zc_199 zc_164 (by decide))
  have e41 : s28 199 1 = s10 199 1 := by rw [← hs29]; exact zset_k (zne_r zc_199 zc_164 (by decide))
  have e42 : s28 199 2 = s10 199 2 := by rw [← hs29]; exact zset_k (zne_r zc_199 zc_164 (by decide))
  have e43 : s28 200 0 = s10 200 0 := by rw [← hs29]; exact zset_k (zne_r zc_200 zc_164 (by decide))
  have e44 : s28 200 1 = s10 200 1 := by rw [← hs29]; exact zset_k (zne_r zc_200 zc_164 (by decide))
  have e45 : s28 164 1 = 0 := by rw [← hs29]; exact zset_s
  refine zt_aload_n (pc' := 14) hX dX12_pane_13 rfl rfl ?_
  refine zt_iconst (pc' := 15) hX dX12_pane_14 rfl ?_
  refine zt_put (pc' := 18) (x := 0) hX dX12_pane_15 rfl zf_X12_252 (by decide) zc_164 zs_46 (fun q hq => by cases hq; rfl) rfl rfl rfl ?_
  generalize hs47 : zset s28 164 2 0 = s46
  have hI48 : zInv s46 := hs47 ▸ zp_46_2 hI30 zc_164 ⟨by omega, by omega⟩
  have hF49 : zGN σ s46 := hs47 ▸ zGN_set hF31 zc_164 (by decide) zk_46 (Or.inr (by decide)) (by decide)
  have w50 := zwk_m hs47 (by decide)
  have e51 : s46 164 2 = 0 := by rw [← hs47]; exact zset_s
  have e52 : s46 164 3 = s28 164 3 := by rw [← hs47]; exact zset_j (by decide)
  have e53 : s46 164 5 = s28 164 5 := by rw [← hs47]; exact zset_j (by decide)
  have e54 : s46 164 4 = s28 164 4 := by rw [← hs47]; exact zset_j (by decide)
  have e55 : s46 164 48 = s28 164 48 := by rw [← hs47]; exact zset_j (by decide)
  have e56 : s46 194 0 = s28 194 0 := by rw [← hs47]; exact zset_k (zne_r zc_194 zc_164 (by decide))
  have e57 : s46 194 1 = s28 194 1 := by rw [← hs47]; exact zset_k (zne_r zc_194 zc_164 (by decide))
  have e58 : s46 199 0 = s28 199 0 := by rw [← hs47]; exact zset_k (zne_r zc_199 zc_164 (by decide))
  have e59 : s46 199 1 = s28 199 1 := by rw [← hs47]; exact zset_k (zne_r zc_199 zc_164 (by decide))
  have e60 : s46 199 2 = s28 199 2 := by rw [← hs47]; exact zset_k (zne_r zc_199 zc_164 (by decide))
  have e61 : s46 200 0 = s28 200 0 := by rw [← hs47]; exact zset_k (zne_r zc_200 zc_164 (by decide))
  have e62 : s46 200 1 = s28 200 1 := by rw [← hs47]; exact zset_k (zne_r zc_200 zc_164 (by decide))
  have e63 : s46 164 1 = s28 164 1 := by rw [← hs47]; exact zset_j (by decide)
  refine zt_aload_n (pc' := 19) hX dX12_pane_18 rfl rfl ?_
  refine zt_iconst (pc' := 20) hX dX12_pane_19 rfl ?_
  refine zt_put (pc' := 23) (x := (-1)) hX dX12_pane_20 rfl zf_X12_266 (by decide) zc_164 zs_46 (fun q hq => by cases hq; rfl) rfl rfl rfl ?_
  generalize hs65 : zset s46 164 4 (-1) = s64
  have hI66 : zInv s64 := hs65 ▸ zp_46_4 hI48 zc_164 ⟨by omega, by omega⟩
  have hF67 : zGN σ s64 := hs65 ▸ zGN_set hF49 zc_164 (by decide) zk_46 (Or.inr (by decide)) (by decide)
  have w68 := zwk_m hs65 (by decide)
  have e69 : s64 164 2 = s46 164 2 := by rw [← hs65]; exact zset_j (by decide)
  have e70 : s64 164 3 = s46 164 3 := by rw [← hs65]; exact zset_j (by decide)
  have e71 : s64 164 5 = s46 164 5 := by rw [← hs65]; exact zset_j (by decide)
  have e72 : s64 164 4 = (-1) := by rw [← hs65]; exact zset_s
  have e73 : s64 164 48 = s46 164 48 := by rw [← hs65]; exact zset_j (by decide)
  have e74 : s64 194 0 = s46 194 0 := by rw [← hs65]; exact zset_k (zne_r zc_194 zc_164 (by decide))
  have e75 : s64 194 1 = s46 194 1 := by rw [← hs65]; exact zset_k (zne_r zc_194 zc_164 (by decide))
  have e76 : s64 199 0 = s46 199 0 := by rw [← hs65]; exact zset_k (zne_r zc_199 zc_164 (by decide))
  have e77 : s64 199 1 = s46 199 1 := by rw [← hs65]; exact zset_k (zne_r zc_199 zc_164 (by decide))
  have e78 : s64 199 2 = s46 199 2 := by rw [← hs65]; exact zset_k (zne_r zc_199 zc_164 (by decide))
  have e79 : s64 200 0 = s46 200 0 := by rw [← hs65]; exact zset_k (zne_r zc_200 zc_164 (by decide))
  have e80 : s64 200 1 = s46 200 1 := by rw [← hs65]; exact zset_k (zne_r zc_200 zc_164 (by decide))
  have e81 : s64 164 1 = s46 164 1 := by rw [← hs65]; exact zset_j (by decide)
  refine zt_aload_n (pc' := 24) hX dX12_pane_23 rfl rfl ?_
  refine zt_iconst (pc' := 25) hX dX12_pane_24 rfl ?_
  refine zt_put (pc' := 28) (x := 0) hX dX12_pane_25 rfl zf_X12_246 (by decide) zc_164 zs_46 (fun q hq => by cases hq; rfl) rfl rfl rfl ?_
  generalize hs83 : zset s64 164 5 0 = s82
  have hI84 : zInv s82 := hs83 ▸ zp_46_5 hI66 zc_164 ⟨by omega, by omega⟩
  have hF85 : zGN σ s82 := hs83 ▸ zGN_set hF67 zc_164 (by decide) zk_46 (Or.inr (by decide)) (by decide)
  have w86 := zwk_m hs83 (by decide)
  have e87 : s82 164 2 = s64 164 2 := by rw [← hs83]; exact zset_j (by decide)
  have e88 : s82 164 3 = s64 164 3 := by rw [← hs83]; exact zset_j (by decide)
  have e89 : s82 164 5 = 0 := by rw [← hs83]; exact zset_s
  have e90 : s82 164 4 = s64 164 4 := by rw [← hs83]; exact zset_j (by decide)
  have e91 : s82 164 48 = s64 164 48 := by rw [← hs83]; exact zset_j (by decide)
  have e92 : s82 194 0 = s64 194 0 := by rw [← hs83]; exact zset_k (zne_r zc_194 zc_164 (by decide))
  have e93 : s82 194 1 = s64 194 1 := by rw [← hs83]; exact zset_k (zne_r zc_194 zc_164 (by decide))
  have e94 : s82 199 0 = s64 199 0 := by rw [← hs83]; exact zset_k (zne_r zc_199 zc_164 (by decide))
  have e95 : s82 199 1 = s64 199 1 := by rw [← hs83]; exact zset_k (zne_r zc_199 zc_164 (by decide))
  have e96 : s82 199 2 = s64 199 2 := by rw [← hs83]; exact zset_k (zne_r zc_199 zc_164 (by decide))
  have e97 : s82 200 0 = s64 200 0 := by rw [← hs83]; exact zset_k (zne_r zc_200 zc_164 (by decide))
  have e98 : s82 200 1 = s64 200 1 := by rw [← hs83]; exact zset_k (zne_r zc_200 zc_164 (by decide))
  have e99 : s82 164 1 = s64 164 1 := by rw [← hs83]; exact zset_j (by decide)
  refine zt_aload_n (pc' := 29) hX dX12_pane_28 rfl rfl ?_
  refine zt_iconst (pc' := 30) hX dX12_pane_29 rfl ?_
  refine zt_put (pc' := 33) (x := (-1)) hX dX12_pane_30 rfl zf_X12_249 (by decide) zc_164 zs_46 (fun q hq => by cases hq; rfl) rfl rfl rfl ?_
  generalize hs101 : zset s82 164 6 (-1) = s100
  have hI102 : zInv s100 := hs101 ▸ zp_46_6 hI84 zc_164 ⟨by omega, by omega⟩
  have hF103 : zGN σ s100 := hs101 ▸ zGN_set hF85 zc_164 (by decide) zk_46 (Or.inr (by decide)) (by decide)
  have w104 := zwk_m hs101 (by decide)
  have e105 : s100 164 2 = s82 164 2 := by rw [← hs101]; exact zset_j (by decide)
  have e106 : s100 164 3 = s82 164 3 := by rw [← hs101]; exact zset_j (by decide)
  have e107 : s100 164 5 = s82 164 5 := by rw [← hs101]; exact zset_j (by decide)
  have e108 : s100 164 4 = s82 164 4 := by rw [← hs101]; exact zset_j (by decide)
  have e109 : s100 164 48 = s82 164 48 := by rw [← hs101]; exact zset_j (by decide)
  have e110 : s100 194 0 = s82 194 0 := by rw [← hs101]; exact zset_k (zne_r zc_194 zc_164 (by decide))
  have e111 : s100 194 1 = s82 194 1 := by rw [← hs101]; exact zset_k (zne_r zc_194 zc_164 (by decide))
  have e112 : s100 199 0 = s82 199 0 := by rw [← hs101]; exact zset_k (zne_r zc_199 zc_164 (by decide))
  have e113 : s100 199 1 = s82 199 1 := by rw [← hs101]; exact zset_k (zne_r zc_199 zc_164 (by decide))
  have e114 : s100 199 2 = s82 199 2 := by rw [← hs101]; exact zset_k (zne_r zc_199 zc_164 (by decide))
  have e115 : s100 200 0 = s82 200 0 := by rw [← hs101]; exact zset_k (zne_r zc_200 zc_164 (by decide))
  have e116 : s100 200 1 = s82 200 1 := by rw [← hs101]; exact zset_k (zne_r zc_200 zc_164 (by decide))
  have e117 : s100 164 1 = s82 164 1 := by rw [← hs101]; exact zset_j (by decide)
  refine zt_aload_n (pc' := 34) hX dX12_pane_33 rfl rfl ?_
  refine zt_iconst (pc' := 35) hX dX12_pane_34 rfl ?_
  refine zt_put (pc' := 38) (x := 0) hX dX12_pane_35 rfl zf_X12_348 (by decide) zc_164 zs_46 (fun q hq => by cases hq; rfl) rfl rfl rfl ?_
  generalize hs119 : zset s100 164 48 0 = s118
  have hI120 : zInv s118 := hs119 ▸ zp_46_48 hI102 zc_164 ⟨by omega, by omega⟩
  have hF121 : zGN σ s118 := hs119 ▸ zGN_set hF103 zc_164 (by decide) zk_46 (Or.inr (by decide)) (by decide)
  have e122 : s118 164 2 = s100 164 2 := by rw [← hs119]; exact zset_j (by decide)
  have e123 : s118 164 3 = s100 164 3 := by rw [← hs119]; exact zset_j (by decide)
  have e124 : s118 164 5 = s100 164 5 := by rw [← hs119]; exact zset_j (by decide)
  have e125 : s118 164 4 = s100 164 4 := by rw [← hs119]; exact zset_j (by decide)
  have e126 : s118 164 48 = 0 := by rw [← hs119]; exact zset_s
  have e127 : s118 194 0 = s100 194 0 := by rw [← hs119]; exact zset_k (zne_r zc_194 zc_164 (by decide))
  have e128 : s118 194 1 = s100 194 1 := by rw [← hs119]; exact zset_k (zne_r zc_194 zc_164 (by decide))
  have e129 : s118 199 0 = s100 199 0 := by rw [← hs119]; exact zset_k (zne_r zc_199 zc_164 (by decide))
  have e130 : s118 199 1 = s100 199 1 := by rw [← hs119]; exact zset_k (zne_r zc_199 zc_164 (by decide))
  have e131 : s118 199 2 = s100 199 2 := by rw [← hs119]; exact zset_k (zne_r zc_199 zc_164 (by decide))
  have e132 : s118 200 0 = s100 200 0 := by rw [← hs119]; exact zset_k (zne_r zc_200 zc_164 (by decide))
  have e133 : s118 200 1 = s100 200 1 := by rw [← hs119]; exact zset_k (zne_r zc_200 zc_164 (by decide))
  have e134 : s118 164 1 = s100 164 1 := by rw [← hs119]; exact zset_j (by decide)
  refine zt_aload_n (pc' := 39) hX dX12_pane_38 rfl rfl ?_
  refine zt_get (pc' := 42) (v := .ref (X.1.1 + 195)) hX dX12_pane_39 rfl zf_X12_105 (by decide) zc_164 zs_46 (zrf_of (zv_46_40 hI120 zc_164)) ?_
  refine zt_iconst (pc' := 43) hX dX12_pane_42 rfl ?_
  refine zt_iconst (pc' := 44) hX dX12_pane_43 rfl ?_
  refine zt_iast (pc' := 45) hX dX12_pane_44 rfl (by decide) zc_195 zs_77 (by decide) ⟨by omega, by omega⟩ ?_
  rw [show Int.toNat 0 = 0 from rfl]
  generalize hs136 : zset s118 195 0 0 = s135
  have hI137 : zInv s135 := hs136 ▸ zp_77 hI120 zc_195 0 ⟨by omega, by omega⟩
  have hF138 : zGN σ s135 := hs136 ▸ zGN_mn hF121 (by decide)
  have w139 := zwk_k hs136 (by decide)
  have e140 : s135 164 2 = s118 164 2 := by rw [← hs136]; exact zset_k (zne_r zc_164 zc_195 (by decide))
  have e141 : s135 164 3 = s118 164 3 := by rw [← hs136]; exact zset_k (zne_r zc_164 zc_195 (by decide))
  have e142 : s135 164 5 = s118 164 5 := by rw [← hs136]; exact zset_k (zne_r zc_164 zc_195 (by decide))
  have e143 : s135 164 4 = s118 164 4 := by rw [← hs136]; exact zset_k (zne_r zc_164 zc_195 (by decide))
  have e144 : s135 164 48 = s118 164 48 := by rw [← hs136]; exact zset_k (zne_r zc_164 zc_195 (by decide))
  have e145 : s135 194 0 = s118 194 0 := by rw [← hs136]; exact zset_k (zne_r zc_194 zc_195 (by decide))
  have e146 : s135 194 1 = s118 194 1 := by rw [← hs136]; exact zset_k (zne_r zc_194 zc_195 (by decide))
  have e147 : s135 199 0 = s118 199 0 := by rw [← hs136]; exact zset_k (zne_r zc_199 zc_195 (by decide))
  have e148 : s135 199 1 = s118 199 1 := by rw [← hs136]; exact zset_k (zne_r zc_199 zc_195 (by decide))
  have e149 : s135 199 2 = s118 199 2 := by rw [← hs136]; exact zset_k (zne_r zc_199 zc_195 (by decide))
  have e150 : s135 200 0 = s118 200 0 := by rw [← hs136]; exact zset_k (zne_r zc_200 zc_195 (by decide))
  have e151 : s135 200 1 = s118 200 1 := by rw [← hs136]; exact zset_k (zne_r zc_200 zc_195 (by decide))
  have e152 : s135 164 1 = s118 164 1 := by rw [← hs136]; exact zset_k (zne_r zc_164 zc_195 (by decide))
  refine zt_iconst (pc' := 46) hX dX12_pane_45 rfl ?_
  refine zt_istore_n (pc' := 47) (lv' := [some (.ref (X.1.1 + 164)), some (.int (zI 0))]) hX dX12_pane_46 rfl hL (by decide) rfl ?_
  have L_47_162 : ∀ (N : Nat) (x153 : Int) (s156 : zSto), 0 ≤ x153 → x153 ≤ 36 → zInv s156 → zGN σ s156 → s156 164 2 = 0 → s156 164 5 = 0 → s156 164 48 = 0 → s156 164 1 = 0 → ((37 - x153).toNat) < N → zF X s156 47 [some (.ref (X.1.1 + 164)), some (.int (zI x153))] [] := by
    intro N
    induction N with
    | zero =>
      intro x153 s156 h154 h155 hI157 hF158 g159 g160 g161 g162 hm164
      exact absurd hm164 (Nat.not_lt_zero _)
    | succ N ih165 =>
      intro x153 s156 h154 h155 hI157 hF158 g159 g160 g161 g162 hm164
      have b166 := zv_46_2 hI157 zc_164
      have b167 := zv_46_3 hI157 zc_164
      have b168 := zv_46_5 hI157 zc_164
      have b169 := zv_46_4 hI157 zc_164
      have b170 := zv_46_48 hI157 zc_164
      have b171 := zv_82 hI157 zc_200 0
      have b172 := zv_82 hI157 zc_200 1
      have b173 := zv_46_1 hI157 zc_164
      refine zt_iload_n (pc' := 48) hX dX12_pane_47 rfl rfl ?_
      refine zt_bipush (pc' := 50) hX dX12_pane_48 rfl (by decide) (by decide) ?_
      refine zt_icge (pc' := 53) (tgt := 66) hX dX12_pane_50 rfl (by decide) ⟨by omega, by omega⟩ ⟨by omega, by omega⟩ (fun c174 => ?_) (fun c174 => ?_)
      · refine zt_aload_n (pc' := 67) hX dX12_pane_66 rfl rfl ?_
        refine zt_get (pc' := 70) (v := .ref (X.1.1 + 200)) hX dX12_pane_67 rfl zf_X12_121 (by decide) zc_164 zs_46 (zrf_of (zv_46_45 hI157 zc_164)) ?_
        refine zt_iconst (pc' := 71) hX dX12_pane_70 rfl ?_
        refine zt_iconst (pc' := 72) hX dX12_pane_71 rfl ?_
        refine zt_iast (pc' := 73) hX dX12_pane_72 rfl (by decide) zc_200 zs_82 (by decide) ⟨by omega, by omega⟩ ?_
        rw [show Int.toNat 0 = 0 from rfl]
        generalize hs176 : zset s156 200 0 (-1) = s175
        have hI177 : zInv s175 := hs176 ▸ zp_82 hI157 zc_200 0 ⟨by omega, by omega⟩
        have hF178 : zGN σ s175 := hs176 ▸ zGN_cf hF158 (by decide)
        have e179 : s175 164 2 = s156 164 2 := by rw [← hs176]; exact zset_k (zne_r zc_164 zc_200 (by decide))
        have e180 : s175 164 3 = s156 164 3 := by rw [← hs176]; exact zset_k (zne_r zc_164 zc_200 (by decide))
        have e181 : s175 164 5 = s156 164 5 := by rw [← hs176]; exact zset_k (zne_r zc_164 zc_200 (by decide))
        have e182 : s175 164 4 = s156 164 4 := by rw [← hs176]; exact zset_k (zne_r zc_164 zc_200 (by decide))
        have e183 : s175 164 48 = s156 164 48 := by rw [← hs176]; exact zset_k (zne_r zc_164 zc_200 (by decide))
        have e184 : s175 194 0 = s156 194 0 := by rw [← hs176]; exact zset_k (zne_r zc_194 zc_200 (by decide))
        have e185 : s175 194 1 = s156 194 1 := by rw [← hs176]; exact zset_k (zne_r zc_194 zc_200 (by decide))
        have e186 : s175 199 0 = s156 199 0 := by rw [← hs176]; exact zset_k (zne_r zc_199 zc_200 (by decide))
        have e187 : s175 199 1 = s156 199 1 := by rw [← hs176]; exact zset_k (zne_r zc_199 zc_200 (by decide))
        have e188 : s175 199 2 = s156 199 2 := by rw [← hs176]; exact zset_k (zne_r zc_199 zc_200 (by decide))
        have e189 : s175 200 0 = (-1) := by rw [← hs176]; exact zset_s
        have e190 : s175 200 1 = s156 200 1 := by rw [← hs176]; exact zset_j (by decide)
        have e191 : s175 164 1 = s156 164 1 := by rw [← hs176]; exact zset_k (zne_r zc_164 zc_200 (by decide))
        refine zt_aload_n (pc' := 74) hX dX12_pane_73 rfl rfl ?_
        refine zt_get (pc' := 77) (v := .ref (X.1.1 + 200)) hX dX12_pane_74 rfl zf_X12_121 (by decide) zc_164 zs_46 (zrf_of (zv_46_45 hI177 zc_164)) ?_
        refine zt_iconst (pc' := 78) hX dX12_pane_77 rfl ?_
        refine zt_iconst (pc' := 79) hX dX12_pane_78 rfl ?_
        refine zt_iast (pc' := 80) hX dX12_pane_79 rfl (by decide) zc_200 zs_82 (by decide) ⟨by omega, by omega⟩ ?_
        rw [show Int.toNat 1 = 1 from rfl]
        generalize hs193 : zset s175 200 1 (-1) = s192
        have hI194 : zInv s192 := hs193 ▸ zp_82 hI177 zc_200 1 ⟨by omega, by omega⟩
        have hF195 : zGN σ s192 := hs193 ▸ zGN_cf hF178 (by decide)
        have e196 : s192 164 2 = s175 164 2 := by rw [← hs193]; exact zset_k (zne_r zc_164 zc_200 (by decide))
        have e197 : s192 164 3 = s175 164 3 := by rw [← hs193]; exact zset_k (zne_r zc_164 zc_200 (by decide))
        have e198 : s192 164 5 = s175 164 5 := by rw [← hs193]; exact zset_k (zne_r zc_164 zc_200 (by decide))
        have e199 : s192 164 4 = s175 164 4 := by rw [← hs193]; exact zset_k (zne_r zc_164 zc_200 (by decide))
        have e200 : s192 164 48 = s175 164 48 := by rw [← hs193]; exact zset_k (zne_r zc_164 zc_200 (by decide))
        have e201 : s192 194 0 = s175 194 0 := by rw [← hs193]; exact zset_k (zne_r zc_194 zc_200 (by decide))
        have e202 : s192 194 1 = s175 194 1 := by rw [← hs193]; exact zset_k (zne_r zc_194 zc_200 (by decide))
        have e203 : s192 199 0 = s175 199 0 := by rw [← hs193]; exact zset_k (zne_r zc_199 zc_200 (by decide))
        have e204 : s192 199 1 = s175 199 1 := by rw [← hs193]; exact zset_k (zne_r zc_199 zc_200 (by decide))
        have e205 : s192 199 2 = s175 199 2 := by rw [← hs193]; exact zset_k (zne_r zc_199 zc_200 (by decide))
        have e206 : s192 200 0 = s175 200 0 := by rw [← hs193]; exact zset_j (by decide)
        have e207 : s192 200 1 = (-1) := by rw [← hs193]; exact zset_s
        have e208 : s192 164 1 = s175 164 1 := by rw [← hs193]; exact zset_k (zne_r zc_164 zc_200 (by decide))
        have h209 := zwk_0 (s := s192) (by omega) (by omega)
        refine zt_aload_n (pc' := 81) hX dX12_pane_80 rfl rfl ?_
        refine zt_get (pc' := 84) (v := .ref (X.1.1 + 199)) hX dX12_pane_81 rfl zf_X12_118 (by decide) zc_164 zs_46 (zrf_of (zv_46_44 hI194 zc_164)) ?_
        refine zt_iconst (pc' := 85) hX dX12_pane_84 rfl ?_
        refine zt_iconst (pc' := 86) hX dX12_pane_85 rfl ?_
        refine zt_iast (pc' := 87) hX dX12_pane_86 rfl (by decide) zc_199 zs_81 (by decide) ⟨by omega, by omega⟩ ?_
        rw [show Int.toNat 0 = 0 from rfl]
        generalize hs211 : zset s192 199 0 3 = s210
        have hI212 : zInv s210 := hs211 ▸ zp_81 hI194 zc_199 0 (by omega)
        have hF213 : zGN σ s210 := hs211 ▸ zGN_set hF195 zc_199 (by decide) zk_81 (Or.inl (by decide)) (by decide)
        have w214 := zwk_k hs211 (by decide)
        have e215 : s210 164 2 = s192 164 2 := by rw [← hs211]; exact zset_k (zne_r zc_164 zc_199 (by decide))
        have e216 : s210 164 3 = s192 164 3 := by rw [← hs211]; exact zset_k (zne_r zc_164 zc_199 (by decide))
        have e217 : s210 164 5 = s192 164 5 := by rw [← hs211]; exact zset_k (zne_r zc_164 zc_199 (by decide))
        have e218 : s210 164 4 = s192 164 4 := by rw [← hs211]; exact zset_k (zne_r zc_164 zc_199 (by decide))
        have e219 : s210 164 48 = s192 164 48 := by rw [← hs211]; exact zset_k (zne_r zc_164 zc_199 (by decide))
        have e220 : s210 194 0 = s192 194 0 := by rw [← hs211]; exact zset_k (zne_r zc_194 zc_199 (by decide))
        have e221 : s210 194 1 = s192 194 1 := by rw [← hs211]; exact zset_k (zne_r zc_194 zc_199 (by decide))
        have e222 : s210 199 0 = 3 := by rw [← hs211]; exact zset_s
        have e223 : s210 199 1 = s192 199 1 := by rw [← hs211]; exact zset_j (by decide)
        have e224 : s210 199 2 = s192 199 2 := by rw [← hs211]; exact zset_j (by decide)
        have e225 : s210 200 0 = s192 200 0 := by rw [← hs211]; exact zset_k (zne_r zc_200 zc_199 (by decide))
        have e226 : s210 200 1 = s192 200 1 := by rw [← hs211]; exact zset_k (zne_r zc_200 zc_199 (by decide))
        have e227 : s210 164 1 = s192 164 1 := by rw [← hs211]; exact zset_k (zne_r zc_164 zc_199 (by decide))
        refine zt_aload_n (pc' := 88) hX dX12_pane_87 rfl rfl ?_
        refine zt_get (pc' := 91) (v := .ref (X.1.1 + 199)) hX dX12_pane_88 rfl zf_X12_118 (by decide) zc_164 zs_46 (zrf_of (zv_46_44 hI212 zc_164)) ?_
        refine zt_iconst (pc' := 92) hX dX12_pane_91 rfl ?_
        refine zt_bipush (pc' := 94) hX dX12_pane_92 rfl (by decide) (by decide) ?_
        refine zt_iast (pc' := 95) hX dX12_pane_94 rfl (by decide) zc_199 zs_81 (by decide) ⟨by omega, by omega⟩ ?_
        rw [show Int.toNat 1 = 1 from rfl]
        generalize hs229 : zset s210 199 1 20 = s228
        have hI230 : zInv s228 := hs229 ▸ zp_81 hI212 zc_199 1 (by omega)
        have hF231 : zGN σ s228 := hs229 ▸ zGN_set hF213 zc_199 (by decide) zk_81 (Or.inl (by decide)) (by decide)
        have w232 := zwk_k hs229 (by decide)
        have e233 : s228 164 2 = s210 164 2 := by rw [← hs229]; exact zset_k (zne_r zc_164 zc_199 (by decide))
        have e234 : s228 164 3 = s210 164 3 := by rw [← hs229]; exact zset_k (zne_r zc_164 zc_199 (by decide))
        have e235 : s228 164 5 = s210 164 5 := by rw [← hs229]; exact zset_k (zne_r zc_164 zc_199 (by decide))
        have e236 : s228 164 4 = s210 164 4 := by rw [← hs229]; exact zset_k (zne_r zc_164 zc_199 (by decide))
        have e237 : s228 164 48 = s210 164 48 := by rw [← hs229]; exact zset_k (zne_r zc_164 zc_199 (by decide))
        have e238 : s228 194 0 = s210 194 0 := by rw [← hs229]; exact zset_k (zne_r zc_194 zc_199 (by decide))
        have e239 : s228 194 1 = s210 194 1 := by rw [← hs229]; exact zset_k (zne_r zc_194 zc_199 (by decide))
        have e240 : s228 199 0 = s210 199 0 := by rw [← hs229]; exact zset_j (by decide)
        have e241 : s228 199 1 = 20 := by rw [← hs229]; exact zset_s
        have e242 : s228 199 2 = s210 199 2 := by rw [← hs229]; exact zset_j (by decide)
        have e243 : s228 200 0 = s210 200 0 := by rw [← hs229]; exact zset_k (zne_r zc_200 zc_199 (by decide))
        have e244 : s228 200 1 = s210 200 1 := by rw [← hs229]; exact zset_k (zne_r zc_200 zc_199 (by decide))
        have e245 : s228 164 1 = s210 164 1 := by rw [← hs229]; exact zset_k (zne_r zc_164 zc_199 (by decide))
        refine zt_aload_n (pc' := 96) hX dX12_pane_95 rfl rfl ?_
        refine zt_get (pc' := 99) (v := .ref (X.1.1 + 199)) hX dX12_pane_96 rfl zf_X12_118 (by decide) zc_164 zs_46 (zrf_of (zv_46_44 hI230 zc_164)) ?_
        refine zt_iconst (pc' := 100) hX dX12_pane_99 rfl ?_
        refine zt_iconst (pc' := 101) hX dX12_pane_100 rfl ?_
        refine zt_iast (pc' := 102) hX dX12_pane_101 rfl (by decide) zc_199 zs_81 (by decide) ⟨by omega, by omega⟩ ?_
        rw [show Int.toNat 2 = 2 from rfl]
        generalize hs247 : zset s228 199 2 0 = s246
        have hI248 : zInv s246 := hs247 ▸ zp_81 hI230 zc_199 2 (by omega)
        have hF249 : zGN σ s246 := hs247 ▸ zGN_set hF231 zc_199 (by decide) zk_81 (Or.inl (by decide)) (by decide)
        have w250 := zwk_k hs247 (by decide)
        have e251 : s246 164 2 = s228 164 2 := by rw [← hs247]; exact zset_k (zne_r zc_164 zc_199 (by decide))
        have e252 : s246 164 3 = s228 164 3 := by rw [← hs247]; exact zset_k (zne_r zc_164 zc_199 (by decide))
        have e253 : s246 164 5 = s228 164 5 := by rw [← hs247]; exact zset_k (zne_r zc_164 zc_199 (by decide))
        have e254 : s246 164 4 = s228 164 4 := by rw [← hs247]; exact zset_k (zne_r zc_164 zc_199 (by decide))
        have e255 : s246 164 48 = s228 164 48 := by rw [← hs247]; exact zset_k (zne_r zc_164 zc_199 (by decide))
        have e256 : s246 194 0 = s228 194 0 := by rw [← hs247]; exact zset_k (zne_r zc_194 zc_199 (by decide))
        have e257 : s246 194 1 = s228 194 1 := by rw [← hs247]; exact zset_k (zne_r zc_194 zc_199 (by decide))
        have e258 : s246 199 0 = s228 199 0 := by rw [← hs247]; exact zset_j (by decide)
        have e259 : s246 199 1 = s228 199 1 := by rw [← hs247]; exact zset_j (by decide)
        have e260 : s246 199 2 = 0 := by rw [← hs247]; exact zset_s
        have e261 : s246 200 0 = s228 200 0 := by rw [← hs247]; exact zset_k (zne_r zc_200 zc_199 (by decide))
        have e262 : s246 200 1 = s228 200 1 := by rw [← hs247]; exact zset_k (zne_r zc_200 zc_199 (by decide))
        have e263 : s246 164 1 = s228 164 1 := by rw [← hs247]; exact zset_k (zne_r zc_164 zc_199 (by decide))
        refine zt_aload_n (pc' := 103) hX dX12_pane_102 rfl rfl ?_
        refine zt_cVv (pc' := 106) hX dX12_pane_103 rfl zm_yX12_paneTold zw_25_20 zc_164 (by decide) zs_46 (q := (RX12, TX12, 108)) rfl rfl (zc_X12_paneTold _ _ s246 hI248 ) rfl rfl (Nat.le_of_ble_eq_true rfl) (by decide) (fun r264 s265 hr266 hp267 => ?_)
        obtain ⟨hI268, hF269, z270, z271, z272⟩ := hp267
        have w273 := zwk_q7 hF269
        have e274 := hF269 164 3 rfl
        have e275 := hF269 164 48 rfl
        have e276 := hF269 199 0 rfl
        have e277 := hF269 199 1 rfl
        have e278 := hF269 199 2 rfl
        have e279 := hF269 200 0 rfl
        have e280 := hF269 200 1 rfl
        have e281 := hF269 164 1 rfl
        have hF282 := zGN_tr hF249 (zOn_GN (zOn_up hF269 zi_73))
        have b283 := zv_46_2 hI268 zc_164
        have b284 := zv_46_3 hI268 zc_164
        have b285 := zv_46_5 hI268 zc_164
        have b286 := zv_46_4 hI268 zc_164
        have b287 := zv_46_48 hI268 zc_164
        have b288 := zv_82 hI268 zc_200 0
        have b289 := zv_82 hI268 zc_200 1
        have b290 := zv_46_1 hI268 zc_164
        replace z270 : _ ∧ _ := ⟨z270.1, z270.2 (by omega)⟩
        refine zt_aload_n (pc' := 107) hX dX12_pane_106 rfl rfl ?_
        refine zt_iconst (pc' := 108) hX dX12_pane_107 rfl ?_
        refine zt_put (pc' := 111) (x := 1) hX dX12_pane_108 rfl zf_X12_351 (by decide) zc_164 zs_46 (fun q hq => by cases hq; rfl) rfl rfl rfl ?_
        generalize hs292 : zset s265 164 49 1 = s291
        have hI293 : zInv s291 := hs292 ▸ zp_46_49 hI268 zc_164 ⟨by omega, by omega⟩
        have hF294 : zGN σ s291 := hs292 ▸ zGN_set hF282 zc_164 (by decide) zk_46 (Or.inr (by decide)) (by decide)
        have w295 := zwk_m hs292 (by decide)
        have e296 : s291 164 2 = s265 164 2 := by rw [← hs292]; exact zset_j (by decide)
        have e297 : s291 164 3 = s265 164 3 := by rw [← hs292]; exact zset_j (by decide)
        have e298 : s291 164 5 = s265 164 5 := by rw [← hs292]; exact zset_j (by decide)
        have e299 : s291 164 4 = s265 164 4 := by rw [← hs292]; exact zset_j (by decide)
        have e300 : s291 164 48 = s265 164 48 := by rw [← hs292]; exact zset_j (by decide)
        have e301 : s291 194 0 = s265 194 0 := by rw [← hs292]; exact zset_k (zne_r zc_194 zc_164 (by decide))
        have e302 : s291 194 1 = s265 194 1 := by rw [← hs292]; exact zset_k (zne_r zc_194 zc_164 (by decide))
        have e303 : s291 199 0 = s265 199 0 := by rw [← hs292]; exact zset_k (zne_r zc_199 zc_164 (by decide))
        have e304 : s291 199 1 = s265 199 1 := by rw [← hs292]; exact zset_k (zne_r zc_199 zc_164 (by decide))
        have e305 : s291 199 2 = s265 199 2 := by rw [← hs292]; exact zset_k (zne_r zc_199 zc_164 (by decide))
        have e306 : s291 200 0 = s265 200 0 := by rw [← hs292]; exact zset_k (zne_r zc_200 zc_164 (by decide))
        have e307 : s291 200 1 = s265 200 1 := by rw [← hs292]; exact zset_k (zne_r zc_200 zc_164 (by decide))
        have e308 : s291 164 1 = s265 164 1 := by rw [← hs292]; exact zset_j (by decide)
        have L_111_314 : ∀ (N : Nat) (s309 : zSto), zInv s309 → zGN σ s309 → s309 164 2 ≤ s309 164 3 → (s309 164 5 = 0 → zwk s309 = 1 ∧ s309 164 48 ≤ s309 164 2 ∧ (2 ≤ s309 194 0 ∧ s309 194 0 ≤ 6 ∧ 2 ≤ s309 194 1 ∧ s309 194 1 ≤ 6) ∧ (0 ≤ s309 199 0 ∧ s309 199 0 ≤ 100 ∧ 0 ≤ s309 199 1 ∧ s309 199 1 ≤ 100 ∧ 0 ≤ s309 199 2 ∧ s309 199 2 ≤ 100)) → s309 164 1 = 0 → ((2 * (1601 - s309 164 2) + 1 - min (max (s309 164 5) (-(s309 164 5))) 1).toNat) < N → zF X s309 111 [some (.ref (X.1.1 + 164)), none] [] := by
          clear z271 z272
          intro N
          induction N with
          | zero =>
            intro s309 hI310 hF311 g312 g313 g314 hm316
            exact absurd hm316 (Nat.not_lt_zero _)
          | succ N ih317 =>
            intro s309 hI310 hF311 g312 g313 g314 hm316
            have b318 := zv_46_2 hI310 zc_164
            have b319 := zv_46_3 hI310 zc_164
            have b320 := zv_46_5 hI310 zc_164
            have b321 := zv_46_4 hI310 zc_164
            have b322 := zv_46_48 hI310 zc_164
            have b323 := zv_82 hI310 zc_200 0
            have b324 := zv_82 hI310 zc_200 1
            have b325 := zv_46_1 hI310 zc_164
            refine zt_aload_n (pc' := 112) hX dX12_pane_111 rfl rfl ?_
            have b326 := zv_46_5 hI310 zc_164
            refine zt_get (pc' := 115) (v := .int (zI (s309 164 5))) hX dX12_pane_112 rfl zf_X12_246 (by decide) zc_164 zs_46 rfl ?_
            have J_133_332 : ∀ (s327 : zSto), zInv s327 → zGN σ s327 → s327 164 2 ≤ s327 164 3 → (s327 164 5 = 0 → zwk s327 = 1 ∧ s327 164 48 ≤ s327 164 2 ∧ (2 ≤ s327 194 0 ∧ s327 194 0 ≤ 6 ∧ 2 ≤ s327 194 1 ∧ s327 194 1 ≤ 6) ∧ (0 ≤ s327 199 0 ∧ s327 199 0 ≤ 100 ∧ 0 ≤ s327 199 1 ∧ s327 199 1 ≤ 100 ∧ 0 ≤ s327 199 2 ∧ s327 199 2 ≤ 100)) → s327 164 1 = 0 → zF X s327 133 [some (.ref (X.1.1 + 164)), none] [] := by
              clear g313
              intro s327 hI328 hF329 g330 g331 g332
              have b334 := zv_46_2 hI328 zc_164
              have b335 := zv_46_3 hI328 zc_164
              have b336 := zv_46_5 hI328 zc_164
              have b337 := zv_46_4 hI328 zc_164
              have b338 := zv_46_48 hI328 zc_164
              have b339 := zv_82 hI328 zc_200 0
              have b340 := zv_82 hI328 zc_200 1
              have b341 := zv_46_1 hI328 zc_164
              refine zt_aload_n (pc' := 134) hX dX12_pane_133 rfl rfl ?_
              refine zt_aload_n (pc' := 135) hX dX12_pane_134 rfl rfl ?_
              have b342 := zv_46_5 hI328 zc_164
              refine zt_get (pc' := 138) (v := .int (zI (s327 164 5))) hX dX12_pane_135 rfl zf_X12_246 (by decide) zc_164 zs_46 rfl ?_
              refine zt_put (pc' := 141) (x := (s327 164 5)) hX dX12_pane_138 rfl zf_X12_369 (by decide) zc_164 zs_46 (fun q hq => by cases hq; rfl) rfl rfl rfl ?_
              generalize hs344 : zset s327 164 7 (s327 164 5) = s343
              have hI345 : zInv s343 := hs344 ▸ zp_46_7 hI328 zc_164 ⟨by omega, by omega⟩
              have hF346 : zGN σ s343 := hs344 ▸ zGN_set hF329 zc_164 (by decide) zk_46 (Or.inr (by decide)) (by decide)
              have w347 := zwk_m hs344 (by decide)
              have e348 : s343 164 2 = s327 164 2 := by rw [← hs344]; exact zset_j (by decide)
              have e349 : s343 164 3 = s327 164 3 := by rw [← hs344]; exact zset_j (by decide)
              have e350 : s343 164 5 = s327 164 5 := by rw [← hs344]; exact zset_j (by decide)
              have e351 : s343 164 4 = s327 164 4 := by rw [← hs344]; exact zset_j (by decide)
              have e352 : s343 164 48 = s327 164 48 := by rw [← hs344]; exact zset_j (by decide)
              have e353 : s343 194 0 = s327 194 0 := by rw [← hs344]; exact zset_k (zne_r zc_194 zc_164 (by decide))
              have e354 : s343 194 1 = s327 194 1 := by rw [← hs344]; exact zset_k (zne_r zc_194 zc_164 (by decide))
              have e355 : s343 199 0 = s327 199 0 := by rw [← hs344]; exact zset_k (zne_r zc_199 zc_164 (by decide))
              have e356 : s343 199 1 = s327 199 1 := by rw [← hs344]; exact zset_k (zne_r zc_199 zc_164 (by decide))
              have e357 : s343 199 2 = s327 199 2 := by rw [← hs344]; exact zset_k (zne_r zc_199 zc_164 (by decide))
              have e358 : s343 200 0 = s327 200 0 := by rw [← hs344]; exact zset_k (zne_r zc_200 zc_164 (by decide))
              have e359 : s343 200 1 = s327 200 1 := by rw [← hs344]; exact zset_k (zne_r zc_200 zc_164 (by decide))
              have e360 : s343 164 1 = s327 164 1 := by rw [← hs344]; exact zset_j (by decide)
              refine zt_aload_n (pc' := 142) hX dX12_pane_141 rfl rfl ?_
              refine zt_aload_n (pc' := 143) hX dX12_pane_142 rfl rfl ?_
              have b361 := zv_46_6 hI345 zc_164
              have e362 : s343 164 6 = s327 164 6 := by rw [← hs344]; exact zset_j (by decide)
              refine zt_get (pc' := 146) (v := .int (zI (s343 164 6))) hX dX12_pane_143 rfl zf_X12_249 (by decide) zc_164 zs_46 rfl ?_
              refine zt_put (pc' := 149) (x := (s343 164 6)) hX dX12_pane_146 rfl zf_X12_13 (by decide) zc_164 zs_46 (fun q hq => by cases hq; rfl) rfl rfl rfl ?_
              generalize hs364 : zset s343 164 8 (s343 164 6) = s363
              have hI365 : zInv s363 := hs364 ▸ zp_46_8 hI345 zc_164 ⟨by omega, by omega⟩
              have hF366 : zGN σ s363 := hs364 ▸ zGN_set hF346 zc_164 (by decide) zk_46 (Or.inr (by decide)) (by decide)
              have w367 := zwk_m hs364 (by decide)
              have e368 : s363 164 2 = s343 164 2 := by rw [← hs364]; exact zset_j (by decide)
              have e369 : s363 164 3 = s343 164 3 := by rw [← hs364]; exact zset_j (by decide)
              have e370 : s363 164 5 = s343 164 5 := by rw [← hs364]; exact zset_j (by decide)
              have e371 : s363 164 4 = s343 164 4 := by rw [← hs364]; exact zset_j (by decide)
              have e372 : s363 164 48 = s343 164 48 := by rw [← hs364]; exact zset_j (by decide)
              have e373 : s363 194 0 = s343 194 0 := by rw [← hs364]; exact zset_k (zne_r zc_194 zc_164 (by decide))
              have e374 : s363 194 1 = s343 194 1 := by rw [← hs364]; exact zset_k (zne_r zc_194 zc_164 (by decide))
              have e375 : s363 199 0 = s343 199 0 := by rw [← hs364]; exact zset_k (zne_r zc_199 zc_164 (by decide))
              have e376 : s363 199 1 = s343 199 1 := by rw [← hs364]; exact zset_k (zne_r zc_199 zc_164 (by decide))
              have e377 : s363 199 2 = s343 199 2 := by rw [← hs364]; exact zset_k (zne_r zc_199 zc_164 (by decide))
              have e378 : s363 200 0 = s343 200 0 := by rw [← hs364]; exact zset_k (zne_r zc_200 zc_164 (by decide))
              have e379 : s363 200 1 = s343 200 1 := by rw [← hs364]; exact zset_k (zne_r zc_200 zc_164 (by decide))
              have e380 : s363 164 1 = s343 164 1 := by rw [← hs364]; exact zset_j (by decide)
              refine zt_aload_n (pc' := 150) hX dX12_pane_149 rfl rfl ?_
              have b381 := zv_46_5 hI365 zc_164
              refine zt_get (pc' := 153) (v := .int (zI (s363 164 5))) hX dX12_pane_150 rfl zf_X12_246 (by decide) zc_164 zs_46 rfl ?_
              refine zt_ifeq (pc' := 156) (tgt := 168) hX dX12_pane_153 rfl (by decide) ⟨by omega, by omega⟩ (fun c382 => ?_) (fun c382 => ?_)
              · have qg331 := g331 (by omega)
                clear g331
                refine zt_aload_n (pc' := 169) hX dX12_pane_168 rfl rfl ?_
                have h383 := zwf_N hW hF366
                refine zt_cVv (pc' := 172) hX dX12_pane_169 rfl zm_yX12_stands zw_32_15 zc_164 (by decide) zs_46 (q := (RX12, TX12, 108)) rfl rfl (zc_X12_stands _ _ s363 hI365 (by omega) (by omega) (by omega) (by omega)) rfl rfl (Nat.le_of_ble_eq_true rfl) (by decide) (fun r384 s385 hr386 hp387 => ?_)
                obtain ⟨hI388, hF389, z390, z391, z392⟩ := hp387
                have hF393 := zFN_tr hF366.1 hF389
                have b394 := zv_46_2 hI388 zc_164
                have b395 := zv_46_3 hI388 zc_164
                have b396 := zv_46_5 hI388 zc_164
                have b397 := zv_46_4 hI388 zc_164
                have b398 := zv_46_48 hI388 zc_164
                have b399 := zv_82 hI388 zc_200 0
                have b400 := zv_82 hI388 zc_200 1
                have b401 := zv_46_1 hI388 zc_164
                refine zt_aload_n (pc' := 173) hX dX12_pane_172 rfl rfl ?_
                have b402 := zv_46_49 hI388 zc_164
                refine zt_get (pc' := 176) (v := .int (zI (s385 164 49))) hX dX12_pane_173 rfl zf_X12_351 (by decide) zc_164 zs_46 rfl ?_
                exact zt_iret hX hR dX12_pane_176 ⟨by omega, by omega⟩ ⟨hI388, hF393, by omega, by omega, by omega, by omega, by omega⟩
              · clear g331
                refine zt_aload_n (pc' := 157) hX dX12_pane_156 rfl rfl ?_
                refine zt_get (pc' := 160) (v := .ref (X.1.1 + 166)) hX dX12_pane_157 rfl zf_X12_17 (by decide) zc_164 zs_46 (zrf_of (zv_46_9 hI365 zc_164)) ?_
                refine zt_iconst (pc' := 161) hX dX12_pane_160 rfl ?_
                refine zt_dup2 (pc' := 162) hX dX12_pane_161 rfl rfl rfl ?_
                refine zt_iald (pc' := 163) hX dX12_pane_162 rfl (by decide) zc_166 zs_48 (by decide) ⟨by omega, by omega⟩ ?_
                rw [show Int.toNat 1 = 1 from rfl]
                have b404 := zv_48 hI365 zc_166 1
                have e405 : s363 166 1 = s343 166 1 := by rw [← hs364]; exact zset_k (zne_r zc_166 zc_164 (by decide))
                have e406 : s343 166 1 = s327 166 1 := by rw [← hs344]; exact zset_k (zne_r zc_166 zc_164 (by decide))
                refine zt_iconst (pc' := 164) hX dX12_pane_163 rfl ?_
                refine zt_iadd (pc' := 165) hX dX12_pane_164 rfl ?_
                refine zt_wrap (fun r407 zr407 lr407 ur407 => ?_)
                clear zr407
                refine zt_iast (pc' := 166) hX dX12_pane_165 rfl (by decide) zc_166 zs_48 (by decide) ⟨by omega, by omega⟩ ?_
                rw [show Int.toNat 1 = 1 from rfl]
                generalize hs409 : zset s363 166 1 r407 = s408
                have hI410 : zInv s408 := hs409 ▸ zp_48 hI365 zc_166 1 ⟨by omega, by omega⟩
                have hF411 : zGN σ s408 := hs409 ▸ zGN_set hF366 zc_166 (by decide) zk_48 (Or.inl (by decide)) (by decide)
                have w412 := zwk_k hs409 (by decide)
                have e413 : s408 164 2 = s363 164 2 := by rw [← hs409]; exact zset_k (zne_r zc_164 zc_166 (by decide))
                have e414 : s408 164 3 = s363 164 3 := by rw [← hs409]; exact zset_k (zne_r zc_164 zc_166 (by decide))
                have e415 : s408 164 5 = s363 164 5 := by rw [← hs409]; exact zset_k (zne_r zc_164 zc_166 (by decide))
                have e416 : s408 164 4 = s363 164 4 := by rw [← hs409]; exact zset_k (zne_r zc_164 zc_166 (by decide))
                have e417 : s408 164 48 = s363 164 48 := by rw [← hs409]; exact zset_k (zne_r zc_164 zc_166 (by decide))
                have e418 : s408 194 0 = s363 194 0 := by rw [← hs409]; exact zset_k (zne_r zc_194 zc_166 (by decide))
                have e419 : s408 194 1 = s363 194 1 := by rw [← hs409]; exact zset_k (zne_r zc_194 zc_166 (by decide))
                have e420 : s408 199 0 = s363 199 0 := by rw [← hs409]; exact zset_k (zne_r zc_199 zc_166 (by decide))
                have e421 : s408 199 1 = s363 199 1 := by rw [← hs409]; exact zset_k (zne_r zc_199 zc_166 (by decide))
                have e422 : s408 199 2 = s363 199 2 := by rw [← hs409]; exact zset_k (zne_r zc_199 zc_166 (by decide))
                have e423 : s408 200 0 = s363 200 0 := by rw [← hs409]; exact zset_k (zne_r zc_200 zc_166 (by decide))
                have e424 : s408 200 1 = s363 200 1 := by rw [← hs409]; exact zset_k (zne_r zc_200 zc_166 (by decide))
                have e425 : s408 164 1 = s363 164 1 := by rw [← hs409]; exact zset_k (zne_r zc_164 zc_166 (by decide))
                refine zt_iconst (pc' := 167) hX dX12_pane_166 rfl ?_
                have h426 := zwf_N hW hF411
                exact zt_iret hX hR dX12_pane_167 ⟨by omega, by omega⟩ ⟨hI410, hF411.1, by omega, by omega, by omega, by omega, by omega⟩
            refine zt_ifne (pc' := 118) (tgt := 133) hX dX12_pane_115 rfl (by decide) ⟨by omega, by omega⟩ (fun c427 => ?_) (fun c427 => ?_)
            · clear g313
              exact J_133_332 s309 hI310 hF311 (by omega) (fun hb => by omega) (by omega)
            · have qg313 := g313 (by omega)
              clear g313
              refine zt_aload_n (pc' := 119) hX dX12_pane_118 rfl rfl ?_
              refine zt_cVi (pc' := 122) hX dX12_pane_119 rfl zm_yX12_look zw_26_12 zc_164 (by decide) zs_46 (q := (RX12, TX12, 108)) rfl rfl (zc_X12_look _ _ s309 hI310 ) rfl rfl (Nat.le_of_ble_eq_true rfl) (by decide) (fun r428 s429 hr430 hp431 => ?_)
              obtain ⟨hI432, hF433, q434, q435, z436, z437, z438, z439⟩ := hp431
              have w440 := zwk_q1 hF433
              have e441 := hF433 164 3 rfl
              have e442 := hF433 164 48 rfl
              have e443 := hF433 194 0 rfl
              have e444 := hF433 194 1 rfl
              have e445 := hF433 199 0 rfl
              have e446 := hF433 199 1 rfl
              have e447 := hF433 199 2 rfl
              have e448 := hF433 200 0 rfl
              have e449 := hF433 200 1 rfl
              have e450 := hF433 164 1 rfl
              have hF451 := zGN_tr hF311 (zOn_GN (zOn_up hF433 zi_13))
              have b452 := zv_46_2 hI432 zc_164
              have b453 := zv_46_3 hI432 zc_164
              have b454 := zv_46_5 hI432 zc_164
              have b455 := zv_46_4 hI432 zc_164
              have b456 := zv_46_48 hI432 zc_164
              have b457 := zv_82 hI432 zc_200 0
              have b458 := zv_82 hI432 zc_200 1
              have b459 := zv_46_1 hI432 zc_164
              clear z439
              replace z436 : _ ∧ _ := ⟨z436.1, z436.2 (by omega)⟩
              refine zt_iconst (pc' := 123) hX dX12_pane_122 rfl ?_
              refine zt_iceq (pc' := 126) (tgt := 133) hX dX12_pane_123 rfl (by decide) ⟨by omega, by omega⟩ ⟨by omega, by omega⟩ (fun c460 => ?_) (fun c460 => ?_)
              · clear z437
                exact J_133_332 s429 hI432 hF451 (by omega) (fun hb => by omega) (by omega)
              · have qz437 := z437 (by omega)
                clear z437
                refine zt_aload_n (pc' := 127) hX dX12_pane_126 rfl rfl ?_
                refine zt_cVv (pc' := 130) hX dX12_pane_127 rfl zm_yX12_statementTold zw_27_18 zc_164 (by decide) zs_46 (q := (RX12, TX12, 108)) rfl rfl (zc_X12_statementTold _ _ s429 hI432 (by omega) (by omega) (by omega) (by omega) (by omega) (by omega)) rfl rfl (Nat.le_of_ble_eq_true rfl) (by decide) (fun r461 s462 hr463 hp464 => ?_)
                obtain ⟨hI465, hF466, z467, z468, z469⟩ := hp464
                have e470 := hF466 164 3 rfl
                have e471 := hF466 164 1 rfl
                have hF472 := zGN_tr hF451 (zOn_GN (zOn_up hF466 zi_id))
                have b473 := zv_46_2 hI465 zc_164
                have b474 := zv_46_3 hI465 zc_164
                have b475 := zv_46_5 hI465 zc_164
                have b476 := zv_46_4 hI465 zc_164
                have b477 := zv_46_48 hI465 zc_164
                have b478 := zv_82 hI465 zc_200 0
                have b479 := zv_82 hI465 zc_200 1
                have b480 := zv_46_1 hI465 zc_164
                refine zt_goto (tgt := 111) hX dX12_pane_130 (by decide) ?_
                exact ih317 s462 hI465 hF472 (by omega) (fun hb => by have qz469 := z469 (by omega); clear z469; omega) (by omega) (Decidable.byCases (p := s462 164 5 = 0) (fun hb => by have qz469 := z469 (by omega); clear z469; omega) (fun hb => by clear z469; omega))
        refine zt_mask [true, false] rfl ?_
        exact L_111_314 _ s291 hI293 hF294 (by omega) (fun hb => by have qz272 := z272 (by omega); have qz271 := z271 (by omega); clear z272 z271; omega) (by omega) (Nat.lt_succ_self _)
      · refine zt_aload_n (pc' := 54) hX dX12_pane_53 rfl rfl ?_
        refine zt_get (pc' := 57) (v := .ref (X.1.1 + 197)) hX dX12_pane_54 rfl zf_X12_112 (by decide) zc_164 zs_46 (zrf_of (zv_46_42 hI157 zc_164)) ?_
        refine zt_iload_n (pc' := 58) hX dX12_pane_57 rfl rfl ?_
        refine zt_iconst (pc' := 59) hX dX12_pane_58 rfl ?_
        refine zt_iast (pc' := 60) hX dX12_pane_59 rfl (by decide) zc_197 zs_79 (by decide) ⟨by omega, by omega⟩ ?_
        generalize hs482 : zset s156 197 (x153.toNat) 1 = s481
        have hI483 : zInv s481 := hs482 ▸ zp_79 hI157 zc_197 (x153.toNat) ⟨by omega, by omega⟩
        have hF484 : zGN σ s481 := hs482 ▸ zGN_set hF158 zc_197 (by decide) zk_79 (Or.inl (by decide)) (by decide)
        have w485 := zwk_k hs482 (by decide)
        have e486 : s481 164 2 = s156 164 2 := by rw [← hs482]; exact zset_k (zne_r zc_164 zc_197 (by decide))
        have e487 : s481 164 3 = s156 164 3 := by rw [← hs482]; exact zset_k (zne_r zc_164 zc_197 (by decide))
        have e488 : s481 164 5 = s156 164 5 := by rw [← hs482]; exact zset_k (zne_r zc_164 zc_197 (by decide))
        have e489 : s481 164 4 = s156 164 4 := by rw [← hs482]; exact zset_k (zne_r zc_164 zc_197 (by decide))
        have e490 : s481 164 48 = s156 164 48 := by rw [← hs482]; exact zset_k (zne_r zc_164 zc_197 (by decide))
        have e491 : s481 194 0 = s156 194 0 := by rw [← hs482]; exact zset_k (zne_r zc_194 zc_197 (by decide))
        have e492 : s481 194 1 = s156 194 1 := by rw [← hs482]; exact zset_k (zne_r zc_194 zc_197 (by decide))
        have e493 : s481 199 0 = s156 199 0 := by rw [← hs482]; exact zset_k (zne_r zc_199 zc_197 (by decide))
        have e494 : s481 199 1 = s156 199 1 := by rw [← hs482]; exact zset_k (zne_r zc_199 zc_197 (by decide))
        have e495 : s481 199 2 = s156 199 2 := by rw [← hs482]; exact zset_k (zne_r zc_199 zc_197 (by decide))
        have e496 : s481 200 0 = s156 200 0 := by rw [← hs482]; exact zset_k (zne_r zc_200 zc_197 (by decide))
        have e497 : s481 200 1 = s156 200 1 := by rw [← hs482]; exact zset_k (zne_r zc_200 zc_197 (by decide))
        have e498 : s481 164 1 = s156 164 1 := by rw [← hs482]; exact zset_k (zne_r zc_164 zc_197 (by decide))
        refine zt_iinc (pc' := 63) (lv' := [some (.ref (X.1.1 + 164)), some (.int (zI (x153 + 1)))]) hX dX12_pane_60 rfl rfl hL (by decide) rfl ?_
        refine zt_goto (tgt := 47) hX dX12_pane_63 (by decide) ?_
        exact ih165 (x153 + 1) s481 (by omega) (by omega) hI483 hF484 (by omega) (by omega) (by omega) (by omega) (by omega)
  exact L_47_162 _ 0 s135 (by omega) (by omega) hI137 hF138 (by omega) (by omega) (by omega) (by omega) (Nat.lt_succ_self _)
