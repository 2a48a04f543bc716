set_option maxRecDepth 100000 in
set_option maxHeartbeats 4000000 in
theorem zn_X5 (l : Launch) (E : zEN) (z : zST) (σ : zSto) (hI : zIR σ) (hD : zDf σ 27) (hz : yzs z) : zCt2 l E z yX5_init cX5_init 5 none 4 28 33 5 6437 σ [.ref (E.1 + 27)] (fun _ σ' => zCp σ σ' 27 33 ∧ yTab σ') := by
  refine zCt2_of [some (.ref (E.1 + 27)), none, none, none, none] (by decide +kernel) (Nat.le_of_ble_eq_true rfl) rfl ?_
  intro X hE hX hR hL hN hxs
  subst hE
  have hX : zok X cX5_init RX5 4 := hX
  have q0 := zCs_0 hI hD
  refine zt_aload_n (pc' := 1) hX dX5_init_0 rfl rfl ?_
  refine zt_oinit (pc' := 4) hX (by decide) dX5_init_1 rfl zw_5_0 zw_1_10 zw_1_11 rfl ?_
  refine zt_aload_n (pc' := 5) hX dX5_init_4 rfl rfl ?_
  refine zt_bipush (pc' := 7) hX dX5_init_5 rfl (by decide) (by decide) ?_
  refine zt_newa (pc' := 9) (t := 0) (N := 33) hX dX5_init_7 rfl zw_3_7 rfl (by decide) (by decide) zc_28 zs_15 (by decide) (by decide) (zCs_nx q0) ⟨by rw [hN.2.1]; exact Nat.le_of_ble_eq_true rfl, by rw [hN.2.2]; exact Nat.le_of_ble_eq_true rfl⟩ ?_
  have q1 := zCs_arr q0 zc_28 zs_15 (by decide)
  refine zt_putF (pc' := 12) (x := ((28 : Nat) : Int)) hX dX5_init_9 rfl hN.1 zf_X5_9 (by omega) zc_27 zs_14 (fun q hq => by cases hq; exact ⟨rfl, rfl⟩) (zrf_of rfl) rfl rfl ?_
  generalize hs3 : zset σ 27 0 ((28 : Nat) : Int) = s2
  have q4 := zCs_ref hs3 q1 zc_27 zs_14 rfl (by omega) (by decide)
  have e5 : s2 27 0 = ((28 : Nat) : Int) := by rw [← hs3]; exact zset_s
  refine zt_aload_n (pc' := 13) hX dX5_init_12 rfl rfl ?_
  refine zt_sipush (pc' := 16) hX dX5_init_13 rfl (by decide) (by decide) ?_
  refine zt_newa (pc' := 18) (t := 0) (N := 1601) hX dX5_init_16 rfl zw_3_7 rfl (by decide) (by decide) zc_29 zs_16 (by decide) (by decide) (zCs_nx q4) ⟨by rw [hN.2.1]; exact Nat.le_of_ble_eq_true rfl, by rw [hN.2.2]; exact Nat.le_of_ble_eq_true rfl⟩ ?_
  have q6 := zCs_arr q4 zc_29 zs_16 (by decide)
  refine zt_putF (pc' := 21) (x := ((29 : Nat) : Int)) hX dX5_init_18 rfl hN.1 zf_X5_15 (by omega) zc_27 zs_14 (fun q hq => by cases hq; exact ⟨rfl, rfl⟩) (zrf_of rfl) rfl rfl ?_
  generalize hs8 : zset s2 27 1 ((29 : Nat) : Int) = s7
  have q9 := zCs_ref hs8 q6 zc_27 zs_14 rfl (by omega) (by decide)
  have e10 : s7 27 0 = ((28 : Nat) : Int) := by rw [← hs8]; exact (zset_j (by decide)).trans e5
  refine zt_aload_n (pc' := 22) hX dX5_init_21 rfl rfl ?_
  refine zt_sipush (pc' := 25) hX dX5_init_22 rfl (by decide) (by decide) ?_
  refine zt_newa (pc' := 27) (t := 0) (N := 1601) hX dX5_init_25 rfl zw_3_7 rfl (by decide) (by decide) zc_30 zs_17 (by decide) (by decide) (zCs_nx q9) ⟨by rw [hN.2.1]; exact Nat.le_of_ble_eq_true rfl, by rw [hN.2.2]; exact Nat.le_of_ble_eq_true rfl⟩ ?_
  have q11 := zCs_arr q9 zc_30 zs_17 (by decide)
  refine zt_putF (pc' := 30) (x := ((30 : Nat) : Int)) hX dX5_init_27 rfl hN.1 zf_X5_18 (by omega) zc_27 zs_14 (fun q hq => by cases hq; exact ⟨rfl, rfl⟩) (zrf_of rfl) rfl rfl ?_
  generalize hs13 : zset s7 27 2 ((30 : Nat) : Int) = s12
  have q14 := zCs_ref hs13 q11 zc_27 zs_14 rfl (by omega) (by decide)
  have e15 : s12 27 0 = ((28 : Nat) : Int) := by rw [← hs13]; exact (zset_j (by decide)).trans e10
  refine zt_aload_n (pc' := 31) hX dX5_init_30 rfl rfl ?_
  refine zt_sipush (pc' := 34) hX dX5_init_31 rfl (by decide) (by decide) ?_
  refine zt_newa (pc' := 36) (t := 0) (N := 1601) hX dX5_init_34 rfl zw_3_7 rfl (by decide) (by decide) zc_31 zs_18 (by decide) (by decide) (zCs_nx q14) ⟨by rw [hN.2.1]; exact Nat.le_of_ble_eq_true rfl, by rw [hN.2.2]; exact Nat.le_of_ble_eq_true rfl⟩ ?_
  have q16 := zCs_arr q14 zc_31 zs_18 (by decide)
  refine zt_putF (pc' := 39) (x := ((31 : Nat) : Int)) hX dX5_init_36 rfl hN.1 zf_X5_21 (by omega) zc_27 zs_14 (fun q hq => by cases hq; exact ⟨rfl, rfl⟩) (zrf_of rfl) rfl rfl ?_
  generalize hs18 : zset s12 27 3 ((31 : Nat) : Int) = s17
  have q19 := zCs_ref hs18 q16 zc_27 zs_14 rfl (by omega) (by decide)
  have e20 : s17 27 0 = ((28 : Nat) : Int) := by rw [← hs18]; exact (zset_j (by decide)).trans e15
  refine zt_aload_n (pc' := 40) hX dX5_init_39 rfl rfl ?_
  refine zt_sipush (pc' := 43) hX dX5_init_40 rfl (by decide) (by decide) ?_
  refine zt_newa (pc' := 45) (t := 0) (N := 1601) hX dX5_init_43 rfl zw_3_7 rfl (by decide) (by decide) zc_32 zs_19 (by decide) (by decide) (zCs_nx q19) ⟨by rw [hN.2.1]; exact Nat.le_of_ble_eq_true rfl, by rw [hN.2.2]; exact Nat.le_of_ble_eq_true rfl⟩ ?_
  have q21 := zCs_arr q19 zc_32 zs_19 (by decide)
  refine zt_putF (pc' := 48) (x := ((32 : Nat) : Int)) hX dX5_init_45 rfl hN.1 zf_X5_24 (by omega) zc_27 zs_14 (fun q hq => by cases hq; exact ⟨rfl, rfl⟩) (zrf_of rfl) rfl rfl ?_
  generalize hs23 : zset s17 27 4 ((32 : Nat) : Int) = s22
  have q24 := zCs_ref hs23 q21 zc_27 zs_14 rfl (by omega) (by decide)
  have e25 : s22 27 0 = ((28 : Nat) : Int) := by rw [← hs23]; exact (zset_j (by decide)).trans e20
  refine zt_aload_n (pc' := 49) hX dX5_init_48 rfl rfl ?_
  refine zt_iconst (pc' := 50) hX dX5_init_49 rfl ?_
  refine zt_put (pc' := 53) (x := 0) hX dX5_init_50 rfl zf_X5_27 (by omega) zc_27 zs_14 (fun q hq => by cases hq; rfl) rfl rfl rfl ?_
  generalize hs27 : zset s22 27 5 0 = s26
  have q28 := zCs_int hs27 q24 zc_27 zs_14 (show 0 ≤ (0 : Int) ∧ (0 : Int) ≤ 1601 from ⟨by decide, by decide⟩) (by decide)
  have e29 : s26 27 0 = ((28 : Nat) : Int) := by rw [← hs27]; exact (zset_j (by decide)).trans e25
  refine zt_aload_n (pc' := 54) hX dX5_init_53 rfl rfl ?_
  refine zt_iconst (pc' := 55) hX dX5_init_54 rfl ?_
  refine zt_put (pc' := 58) (x := 0) hX dX5_init_55 rfl zf_X5_31 (by omega) zc_27 zs_14 (fun q hq => by cases hq; rfl) rfl rfl rfl ?_
  generalize hs31 : zset s26 27 6 0 = s30
  have q32 := zCs_int hs31 q28 zc_27 zs_14 (show 0 ≤ (0 : Int) ∧ (0 : Int) ≤ 1600 from ⟨by decide, by decide⟩) (by decide)
  have e33 : s30 27 0 = ((28 : Nat) : Int) := by rw [← hs31]; exact (zset_j (by decide)).trans e29
  refine zt_aload_n (pc' := 59) hX dX5_init_58 rfl rfl ?_
  refine zt_iconst (pc' := 60) hX dX5_init_59 rfl ?_
  refine zt_put (pc' := 63) (x := 0) hX dX5_init_60 rfl zf_X5_34 (by omega) zc_27 zs_14 (fun q hq => by cases hq; rfl) rfl rfl rfl ?_
  generalize hs35 : zset s30 27 7 0 = s34
  have q36 := zCs_int hs35 q32 zc_27 zs_14 (show -2147483648 ≤ (0 : Int) ∧ (0 : Int) ≤ 2147483647 from ⟨by decide, by decide⟩) (by decide)
  have e37 : s34 27 0 = ((28 : Nat) : Int) := by rw [← hs35]; exact (zset_j (by decide)).trans e33
  refine zt_aload_n (pc' := 64) hX dX5_init_63 rfl rfl ?_
  refine zt_iconst (pc' := 65) hX dX5_init_64 rfl ?_
  refine zt_put (pc' := 68) (x := (-1)) hX dX5_init_65 rfl zf_X5_37 (by omega) zc_27 zs_14 (fun q hq => by cases hq; rfl) rfl rfl rfl ?_
  generalize hs39 : zset s34 27 8 (-1) = s38
  have q40 := zCs_int hs39 q36 zc_27 zs_14 (show -2147483648 ≤ ((-1) : Int) ∧ ((-1) : Int) ≤ 2147483647 from ⟨by decide, by decide⟩) (by decide)
  have e41 : s38 27 0 = ((28 : Nat) : Int) := by rw [← hs39]; exact (zset_j (by decide)).trans e37
  have LP : ∀ (N : Nat) (w p k : Int) (s : zSto), 0 ≤ w → w ≤ k → 0 ≤ p → p ≤ 6 → 0 ≤ k → k ≤ (z.2.2.1 : Int) → zCs σ s 27 5 33 → s 27 0 = ((28 : Nat) : Int) → yrI k w p s → (1001 - k).toNat < N → zZ X 33 5 6437 s 74 [some (.ref (X.1.1 + 27)), some (.int (zI w)), some (.int (zI p)), some (.int (zI k)), none] [] := by
    intro N
    induction N with
    | zero =>
      intro w p k s a1 a2 a3 a4 a5 a6 q e0 hy hm
      exact absurd hm (Nat.not_lt_zero _)
    | succ N ih =>
      intro w p k s a1 a2 a3 a4 a5 a6 q e0 hy hm
      have hL2 := hxs.2.2.2.1
      refine zt_iload_n (pc' := 75) hX dX5_init_74 rfl rfl ?_
      refine zt_sldc (pc' := 77) hX hxs dX5_init_75 rfl ?_
      refine zt_callV2 (pc' := 80) (As := []) (rest := [.int (zI k)]) hX hxs (zs_length _ _ z 33 s) zm_yJ0_length_8abf5 dX5_init_77 rfl zw_5_10 rfl rfl rfl (Nat.le_of_ble_eq_true rfl) (by decide) ⟨by rw [hN.2.1]; exact Nat.le_of_ble_eq_true rfl, by rw [hN.2.2]; exact Nat.le_of_ble_eq_true rfl⟩ (fun r s' hr hp => ?_)
      obtain ⟨rfl, rfl⟩ := hp
      refine zt_icge (pc' := 83) (tgt := 147) (x := k) (y := (z.2.2.1 : Int)) hX dX5_init_80 rfl (by decide) ⟨by omega, by omega⟩ ⟨by omega, by omega⟩ (fun c1 => ?_) (fun c1 => ?_)
      · exact zt_vret hX hR dX5_init_147 ⟨zCs_end (N := 9) q zc_27 zs_14 (by decide) (fun _ _ => trivial), fun i hi => by
          have kk : k.toNat = 171 := by have := hz.1; omega
          rw [hy.2.2 i hi, kk]; exact yrs_end i hi⟩
      · refine zt_sldc (pc' := 85) hX hxs dX5_init_83 rfl ?_
        refine zt_iload_n (pc' := 86) hX dX5_init_85 rfl rfl ?_
        refine zt_callV2 (pc' := 89) (As := [.int (zI k)]) (rest := []) hX hxs (zs_charAt _ _ z 33 s k ⟨by omega, by omega⟩) zm_yJ0_charAt_5068e dX5_init_86 rfl zw_5_22 rfl rfl rfl (Nat.le_of_ble_eq_true rfl) (by decide) ⟨by rw [hN.2.1]; exact Nat.le_of_ble_eq_true rfl, by rw [hN.2.2]; exact Nat.le_of_ble_eq_true rfl⟩ (fun c s' hr hp => ?_)
        obtain ⟨rfl, b1, b2, b3⟩ := hp
        have hc : c = ybyt.getD k.toNat 0 := b3.trans (hz.2 k.toNat (by have := hz.1; omega))
        refine zt_istore (pc' := 91) (lv' := [some (.ref (X.1.1 + 27)), some (.int (zI w)), some (.int (zI p)), some (.int (zI k)), some (.int (zI c))]) hX dX5_init_89 rfl hL (by decide) rfl ?_
        have TL : ∀ (w p : Int) (s : zSto), 0 ≤ w → w ≤ k + 1 → 0 ≤ p → p ≤ 6 → zCs σ s 27 5 33 → s 27 0 = ((28 : Nat) : Int) → yrI (k + 1) w p s → zZ X 33 5 6437 s 141 [some (.ref (X.1.1 + 27)), some (.int (zI w)), some (.int (zI p)), some (.int (zI k)), none] [] := by
          intro w p s g1 g2 g3 g4 q e0 hy
          refine zt_iinc (pc' := 144) (lv' := [some (.ref (X.1.1 + 27)), some (.int (zI w)), some (.int (zI p)), some (.int (zI (k + 1))), none]) hX dX5_init_141 rfl rfl hL (by decide) rfl ?_
          refine zt_goto (tgt := 74) hX dX5_init_144 (by decide) ?_
          exact ih w p (k + 1) s (by omega) (by omega) (by omega) (by omega) (by omega) (by omega) q e0 hy (by omega)
        refine zt_iload (pc' := 93) hX dX5_init_91 rfl rfl ?_
        refine zt_bipush (pc' := 95) hX dX5_init_93 rfl (by decide) (by decide) ?_
        refine zt_icne (pc' := 98) (tgt := 106) hX dX5_init_95 rfl (by decide) ⟨by omega, by omega⟩ ⟨by omega, by omega⟩ (fun c2 => ?_) (fun c2 => ?_)
        · refine zt_iload_n (pc' := 107) hX dX5_init_106 rfl rfl ?_
          refine zt_bipush (pc' := 109) hX dX5_init_107 rfl (by decide) (by decide) ?_
          refine zt_icge (pc' := 112) (tgt := 141) hX dX5_init_109 rfl (by decide) ⟨by omega, by omega⟩ ⟨by omega, by omega⟩ (fun c3 => ?_) (fun c3 => ?_)
          · refine zt_mask [true, true, true, true, false] rfl ?_
            exact TL w p s (by omega) (by omega) (by omega) (by omega) q e0 (yrI_b hy (by omega) hc (by omega) (by omega))
          · refine zt_iload_n (pc' := 113) hX dX5_init_112 rfl rfl ?_
            refine zt_bipush (pc' := 115) hX dX5_init_113 rfl (by decide) (by decide) ?_
            refine zt_icge (pc' := 118) (tgt := 141) hX dX5_init_115 rfl (by decide) ⟨by omega, by omega⟩ ⟨by omega, by omega⟩ (fun c4 => ?_) (fun c4 => ?_)
            · refine zt_mask [true, true, true, true, false] rfl ?_
              exact TL w p s (by omega) (by omega) (by omega) (by omega) q e0 (yrI_b hy (by omega) hc (by omega) (by omega))
            · refine zt_aload_n (pc' := 119) hX dX5_init_118 rfl rfl ?_
              refine zt_get (pc' := 122) (v := .ref (X.1.1 + 28)) hX dX5_init_119 rfl zf_X5_9 (by decide) zc_27 zs_14 (zrf_of e0) ?_
              refine zt_iload_n (pc' := 123) hX dX5_init_122 rfl rfl ?_
              refine zt_dup2 (pc' := 124) hX dX5_init_123 rfl rfl rfl ?_
              refine zt_iald (pc' := 125) hX dX5_init_124 rfl (by decide) zc_28 zs_15 (by decide) ⟨by omega, by omega⟩ ?_
              generalize hv : s 28 w.toNat = v
              refine zt_iload (pc' := 127) hX dX5_init_125 rfl rfl ?_
              refine zt_bipush (pc' := 129) hX dX5_init_127 rfl (by decide) (by decide) ?_
              refine zt_isub (pc' := 130) hX dX5_init_129 rfl ?_
              refine zt_lwgetN (pc' := 133) hX dX5_init_130 rfl (by decide +kernel) (fun t hT => ?_)
              refine zt_iload_n (pc' := 134) hX dX5_init_133 rfl rfl ?_
              refine zt_lwald (pc' := 135) hX dX5_init_134 rfl hT ⟨by omega, by omega⟩ ?_
              refine zt_imul (pc' := 136) hX dX5_init_135 rfl ?_
              refine zt_iadd (pc' := 137) hX dX5_init_136 rfl ?_
              refine zt_wrap (fun r zr_ l1 u1 => ?_)
              refine zt_iast (pc' := 138) hX dX5_init_137 rfl (by decide) zc_28 zs_15 (by decide) ⟨by omega, by omega⟩ ?_
              generalize hs9 : zset s 28 w.toNat r = s9
              have q9 := zCs_el hs9 q (by decide) (by decide) zc_28 zs_15 (show -2147483648 ≤ r ∧ r ≤ 2147483647 from ⟨l1, u1⟩)
              have e9 : s9 27 0 = ((28 : Nat) : Int) := by rw [← hs9]; exact (zset_k (by decide)).trans e0
              refine zt_iinc (pc' := 141) (lv' := [some (.ref (X.1.1 + 27)), some (.int (zI w)), some (.int (zI (p + 1))), some (.int (zI k)), some (.int (zI c))]) hX dX5_init_138 rfl rfl hL (by decide) rfl ?_
              refine zt_mask [true, true, true, true, false] rfl ?_
              exact TL w (p + 1) s9 (by omega) (by omega) (by omega) (by omega) q9 e9 (yrI_c hy (by omega) hc (by omega) ⟨by omega, by omega⟩ (by omega) hv zr_ hs9)
        · refine zt_iinc (pc' := 101) (lv' := [some (.ref (X.1.1 + 27)), some (.int (zI (w + 1))), some (.int (zI p)), some (.int (zI k)), some (.int (zI c))]) hX dX5_init_98 rfl rfl hL (by decide) rfl ?_
          refine zt_iconst (pc' := 102) hX dX5_init_101 rfl ?_
          refine zt_istore_n (pc' := 103) (lv' := [some (.ref (X.1.1 + 27)), some (.int (zI (w + 1))), some (.int (zI 0)), some (.int (zI k)), some (.int (zI c))]) hX dX5_init_102 rfl hL (by decide) rfl ?_
          refine zt_goto (tgt := 141) hX dX5_init_103 (by decide) ?_
          refine zt_mask [true, true, true, true, false] rfl ?_
          exact TL (w + 1) 0 s (by omega) (by omega) (by omega) (by omega) q e0 (yrI_a hy (by omega) hc (by omega))
  refine zt_iconst (pc' := 69) hX dX5_init_68 rfl ?_
  refine zt_istore_n (pc' := 70) (lv' := [some (.ref (X.1.1 + 27)), some (.int (zI 0)), none, none, none]) hX dX5_init_69 rfl hL (by decide) rfl ?_
  refine zt_iconst (pc' := 71) hX dX5_init_70 rfl ?_
  refine zt_istore_n (pc' := 72) (lv' := [some (.ref (X.1.1 + 27)), some (.int (zI 0)), some (.int (zI 0)), none, none]) hX dX5_init_71 rfl hL (by decide) rfl ?_
  refine zt_iconst (pc' := 73) hX dX5_init_72 rfl ?_
  refine zt_istore_n (pc' := 74) (lv' := [some (.ref (X.1.1 + 27)), some (.int (zI 0)), some (.int (zI 0)), some (.int (zI 0)), none]) hX dX5_init_73 rfl hL (by decide) rfl ?_
  exact LP _ 0 0 0 s38 (by decide) (by decide) (by decide) (by decide) (by decide) (by omega) q40 e41 ⟨rfl, rfl, fun i hi => by
    rw [show s38 28 i = σ 28 i by rw [← hs39, zset_k (by decide), ← hs35, zset_k (by decide), ← hs31, zset_k (by decide), ← hs27, zset_k (by decide), ← hs23, zset_k (by decide), ← hs18, zset_k (by decide), ← hs13, zset_k (by decide), ← hs8, zset_k (by decide), ← hs3, zset_k (by decide)], congrFun (hD 28 (by decide)) i, show zdef 28 i = 0 from rfl]
    show 0 = (List.replicate 33 (0 : Int)).getD i 0
    rw [List.getD_eq_getElem?_getD, List.getElem?_replicate, if_pos hi]; rfl⟩ (Nat.lt_succ_self _)
