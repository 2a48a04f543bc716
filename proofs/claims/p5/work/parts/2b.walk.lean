set_option maxRecDepth 100000 in
set_option maxHeartbeats 4000000 in
theorem zc_X5_open (l : Launch) (E : zEN) (σ : zSto) (hI : zInv σ)  : zCt l E yX5_open cX5_open 5 none 2 zNC zNC 0 0 σ [.ref (E.1 + 27), .ref (E.1 + 1)] (fun r σ' => zInv σ' ∧ zFA σ σ' ∧ (σ' 27 5 ≤ 1600)) := by
  refine zCt_of2 [some (.ref (E.1 + 27)), some (.ref (E.1 + 1)), none, none, none] (by decide +kernel) (Nat.le_of_ble_eq_true rfl) rfl ?_
  intro X hE hX hR hL hN
  subst hE
  have hX : zok X cX5_open RX5 2 := hX
  have hF := zFA_rf σ
  have b1 := zv_14_5 hI zc_27
  refine zt_aload_n (pc' := 1) hX dX5_open_0 rfl rfl ?_
  refine zt_iconst (pc' := 2) hX dX5_open_1 rfl ?_
  refine zt_put (pc' := 5) (x := 0) hX dX5_open_2 rfl zf_X5_34 (by decide) zc_27 zs_14 (fun q hq => by cases hq; rfl) rfl rfl rfl ?_
  generalize hs3 : zset σ 27 7 0 = s2
  have hI4 : zInv s2 := hs3 ▸ zp_14_7 hI zc_27 ⟨by omega, by omega⟩
  have hF5 : zFA σ s2 := hs3 ▸ zFA_set hF zc_27 (by decide) zk_14 (Or.inl (by decide))
  have e6 : s2 27 5 = σ 27 5 := by rw [← hs3]; exact zset_j (by decide)
  refine zt_aload_n (pc' := 6) hX dX5_open_5 rfl rfl ?_
  refine zt_iconst (pc' := 7) hX dX5_open_6 rfl ?_
  refine zt_put (pc' := 10) (x := (-1)) hX dX5_open_7 rfl zf_X5_37 (by decide) zc_27 zs_14 (fun q hq => by cases hq; rfl) rfl rfl rfl ?_
  generalize hs8 : zset s2 27 8 (-1) = s7
  have hI9 : zInv s7 := hs8 ▸ zp_14_8 hI4 zc_27 ⟨by omega, by omega⟩
  have hF10 : zFA σ s7 := hs8 ▸ zFA_set hF5 zc_27 (by decide) zk_14 (Or.inl (by decide))
  have e11 : s7 27 5 = s2 27 5 := by rw [← hs8]; exact zset_j (by decide)
  refine zt_aload_n (pc' := 11) hX dX5_open_10 rfl rfl ?_
  refine zt_iconst (pc' := 12) hX dX5_open_11 rfl ?_
  refine zt_put (pc' := 15) (x := 0) hX dX5_open_12 rfl zf_X5_31 (by decide) zc_27 zs_14 (fun q hq => by cases hq; rfl) rfl rfl rfl ?_
  generalize hs13 : zset s7 27 6 0 = s12
  have hI14 : zInv s12 := hs13 ▸ zp_14_6 hI9 zc_27 ⟨by omega, by omega⟩
  have hF15 : zFA σ s12 := hs13 ▸ zFA_set hF10 zc_27 (by decide) zk_14 (Or.inl (by decide))
  have e16 : s12 27 5 = s7 27 5 := by rw [← hs13]; exact zset_j (by decide)
  refine zt_aload_n (pc' := 16) hX dX5_open_15 rfl rfl ?_
  refine zt_iconst (pc' := 17) hX dX5_open_16 rfl ?_
  refine zt_put (pc' := 20) (x := 0) hX dX5_open_17 rfl zf_X5_27 (by decide) zc_27 zs_14 (fun q hq => by cases hq; rfl) rfl rfl rfl ?_
  generalize hs18 : zset s12 27 5 0 = s17
  have hI19 : zInv s17 := hs18 ▸ zp_14_5 hI14 zc_27 ⟨by omega, by omega⟩
  have hF20 : zFA σ s17 := hs18 ▸ zFA_set hF15 zc_27 (by decide) zk_14 (Or.inl (by decide))
  have e21 : s17 27 5 = 0 := by rw [← hs18]; exact zset_s
  refine zt_iconst (pc' := 21) hX dX5_open_20 rfl ?_
  refine zt_istore_n (pc' := 22) (lv' := [some (.ref (X.1.1 + 27)), some (.ref (X.1.1 + 1)), some (.int (zI 0)), none, none]) hX dX5_open_21 rfl hL (by decide) rfl ?_
  refine zt_iconst (pc' := 23) hX dX5_open_22 rfl ?_
  refine zt_istore_n (pc' := 24) (lv' := [some (.ref (X.1.1 + 27)), some (.ref (X.1.1 + 1)), some (.int (zI 0)), some (.int (zI 0)), none]) hX dX5_open_23 rfl hL (by decide) rfl ?_
  have L_24_30 : ∀ (N : Nat) (x22 : Int) (x25 : Int) (s28 : zSto), 0 ≤ x22 → x22 ≤ 3199 → 0 ≤ x25 → x25 ≤ 1600 → zInv s28 → zFA σ s28 → ((1601 - x25).toNat) < N → zF X s28 24 [some (.ref (X.1.1 + 27)), some (.ref (X.1.1 + 1)), some (.int (zI x22)), some (.int (zI x25)), none] [] := by
    intro N
    induction N with
    | zero =>
      intro x22 x25 s28 h23 h24 h26 h27 hI29 hF30 hm32
      exact absurd hm32 (Nat.not_lt_zero _)
    | succ N ih33 =>
      intro x22 x25 s28 h23 h24 h26 h27 hI29 hF30 hm32
      have b34 := zv_14_5 hI29 zc_27
      refine zt_iload_n (pc' := 25) hX dX5_open_24 rfl rfl ?_
      refine zt_sipush (pc' := 28) hX dX5_open_25 rfl (by decide) (by decide) ?_
      have J_118_34 : zF X s28 118 [some (.ref (X.1.1 + 27)), none, some (.int (zI x22)), none, none] [] := by
        refine zt_aload_n (pc' := 119) hX dX5_open_118 rfl rfl ?_
        refine zt_iconst (pc' := 120) hX dX5_open_119 rfl ?_
        refine zt_iload_n (pc' := 121) hX dX5_open_120 rfl rfl ?_
        refine zt_iconst (pc' := 122) hX dX5_open_121 rfl ?_
        refine zt_iconst (pc' := 123) hX dX5_open_122 rfl ?_
        refine zt_cVv (pc' := 126) hX dX5_open_123 rfl zm_yX5_addToken zw_17_5 zc_27 (by decide) zs_14 (q := (RX5, TX5, 9)) rfl rfl (zc_X5_addToken _ _ s28 hI29 0 ⟨by omega, by omega⟩ x22 ⟨by omega, by omega⟩ (-1) ⟨by omega, by omega⟩ (-1) ⟨by omega, by omega⟩) rfl rfl (Nat.le_of_ble_eq_true rfl) (by decide) (fun r36 s37 hr38 hp39 => ?_)
        obtain ⟨hI40, hF41, z42⟩ := hp39
        have hF43 := zFA_tr hF30 hF41
        have b44 := zv_14_5 hI40 zc_27
        refine zt_aload_n (pc' := 127) hX dX5_open_126 rfl rfl ?_
        refine zt_dup (pc' := 128) hX dX5_open_127 rfl rfl ?_
        have b45 := zv_14_5 hI40 zc_27
        refine zt_get (pc' := 131) (v := .int (zI (s37 27 5))) hX dX5_open_128 rfl zf_X5_27 (by decide) zc_27 zs_14 rfl ?_
        refine zt_iconst (pc' := 132) hX dX5_open_131 rfl ?_
        refine zt_isub (pc' := 133) hX dX5_open_132 rfl ?_
        refine zt_put (pc' := 136) (x := ((s37 27 5) - 1)) hX dX5_open_133 rfl zf_X5_27 (by decide) zc_27 zs_14 (fun q hq => by cases hq; rfl) rfl rfl rfl ?_
        generalize hs47 : zset s37 27 5 ((s37 27 5) - 1) = s46
        have hI48 : zInv s46 := hs47 ▸ zp_14_5 hI40 zc_27 ⟨by omega, by omega⟩
        have hF49 : zFA σ s46 := hs47 ▸ zFA_set hF43 zc_27 (by decide) zk_14 (Or.inl (by decide))
        have e50 : s46 27 5 = ((s37 27 5) - 1) := by rw [← hs47]; exact zset_s
        exact zt_vret hX hR dX5_open_136 ⟨hI48, hF49, by omega⟩
      refine zt_icge (pc' := 31) (tgt := 118) hX dX5_open_28 rfl (by decide) ⟨by omega, by omega⟩ ⟨by omega, by omega⟩ (fun c51 => ?_) (fun c51 => ?_)
      · refine zt_mask [true, false, true, false, false] rfl ?_
        exact J_118_34
      · refine zt_iload_n (pc' := 32) hX dX5_open_31 rfl rfl ?_
        refine zt_aload_n (pc' := 33) hX dX5_open_32 rfl rfl ?_
        have b52 := zv_2_1 hI29 zc_1
        refine zt_get (pc' := 36) (v := .int (zI (s28 1 1))) hX dX5_open_33 rfl zf_X5_55 (by decide) zc_1 zs_2 rfl ?_
        refine zt_icge (pc' := 39) (tgt := 118) hX dX5_open_36 rfl (by decide) ⟨by omega, by omega⟩ ⟨by omega, by omega⟩ (fun c53 => ?_) (fun c53 => ?_)
        · refine zt_mask [true, false, true, false, false] rfl ?_
          exact J_118_34
        · refine zt_aload_n (pc' := 40) hX dX5_open_39 rfl rfl ?_
          refine zt_iload_n (pc' := 41) hX dX5_open_40 rfl rfl ?_
          refine zt_cVi (pc' := 44) hX dX5_open_41 rfl zm_yX9_byteAt zw_16_15 zc_1 (by decide) zs_2 (q := (RX9, TX9, 2)) rfl rfl (zc_X9_byteAt_1 _ _ s28 hI29 x22 ⟨by omega, by omega⟩) rfl rfl (Nat.le_of_ble_eq_true rfl) (by decide) (fun r54 s55 hr56 hp57 => ?_)
          obtain ⟨rfl, q58, q59⟩ := hp57
          refine zt_istore (pc' := 46) (lv' := [some (.ref (X.1.1 + 27)), some (.ref (X.1.1 + 1)), some (.int (zI x22)), some (.int (zI x25)), some (.int (zI r54))]) hX dX5_open_44 rfl hL (by decide) rfl ?_
          refine zt_iload (pc' := 48) hX dX5_open_46 rfl rfl ?_
          refine zt_cSz (pc' := 51) hX dX5_open_48 rfl zm_yX5_isLetter zw_16_19 (zc_X5_isLetter _ _ s28  r54 ⟨by omega, by omega⟩) rfl rfl (Nat.le_of_ble_eq_true rfl) (by decide) (fun r60 s61 hr62 hp63 => ?_)
          obtain ⟨rfl, q64, q65⟩ := hp63
          have J_112_71 : ∀ (x66 : Int) (s69 : zSto), 0 ≤ x66 → x66 ≤ 3199 → zInv s69 → zFA σ s69 → zF X s69 112 [some (.ref (X.1.1 + 27)), some (.ref (X.1.1 + 1)), some (.int (zI x66)), some (.int (zI x25)), none] [] := by
            intro x66 s69 h67 h68 hI70 hF71
            have b73 := zv_14_5 hI70 zc_27
            refine zt_iinc (pc' := 115) (lv' := [some (.ref (X.1.1 + 27)), some (.ref (X.1.1 + 1)), some (.int (zI x66)), some (.int (zI (x25 + 1))), none]) hX dX5_open_112 rfl rfl hL (by decide) rfl ?_
            refine zt_goto (tgt := 24) hX dX5_open_115 (by decide) ?_
            exact ih33 x66 (x25 + 1) s69 (by omega) (by omega) (by omega) (by omega) hI70 hF71 (by omega)
          refine zt_ifeq (pc' := 54) (tgt := 66) hX dX5_open_51 rfl (by decide) ⟨by omega, by omega⟩ (fun c74 => ?_) (fun c74 => ?_)
          · refine zt_iload (pc' := 68) hX dX5_open_66 rfl rfl ?_
            refine zt_cSz (pc' := 71) hX dX5_open_68 rfl zm_yX5_isDigit zw_17_2 (zc_X5_isDigit _ _ s28  r54 ⟨by omega, by omega⟩) rfl rfl (Nat.le_of_ble_eq_true rfl) (by decide) (fun r75 s76 hr77 hp78 => ?_)
            obtain ⟨rfl, q79, q80⟩ := hp78
            refine zt_ifeq (pc' := 74) (tgt := 86) hX dX5_open_71 rfl (by decide) ⟨by omega, by omega⟩ (fun c81 => ?_) (fun c81 => ?_)
            · refine zt_iload (pc' := 88) hX dX5_open_86 rfl rfl ?_
              refine zt_bipush (pc' := 90) hX dX5_open_88 rfl (by decide) (by decide) ?_
              have J_109_84 : ∀ (s82 : zSto), zInv s82 → zFA σ s82 → zF X s82 109 [some (.ref (X.1.1 + 27)), some (.ref (X.1.1 + 1)), some (.int (zI x22)), some (.int (zI x25)), none] [] := by
                intro s82 hI83 hF84
                have b86 := zv_14_5 hI83 zc_27
                refine zt_iinc (pc' := 112) (lv' := [some (.ref (X.1.1 + 27)), some (.ref (X.1.1 + 1)), some (.int (zI (x22 + 1))), some (.int (zI x25)), none]) hX dX5_open_109 rfl rfl hL (by decide) rfl ?_
                exact J_112_71 (x22 + 1) s82 (by omega) (by omega) hI83 hF84
              refine zt_iceq (pc' := 93) (tgt := 109) hX dX5_open_90 rfl (by decide) ⟨by omega, by omega⟩ ⟨by omega, by omega⟩ (fun c87 => ?_) (fun c87 => ?_)
              · refine zt_mask [true, true, true, true, false] rfl ?_
                exact J_109_84 s28 hI29 hF30
              · refine zt_iload (pc' := 95) hX dX5_open_93 rfl rfl ?_
                refine zt_bipush (pc' := 97) hX dX5_open_95 rfl (by decide) (by decide) ?_
                refine zt_iceq (pc' := 100) (tgt := 109) hX dX5_open_97 rfl (by decide) ⟨by omega, by omega⟩ ⟨by omega, by omega⟩ (fun c88 => ?_) (fun c88 => ?_)
                · refine zt_mask [true, true, true, true, false] rfl ?_
                  exact J_109_84 s28 hI29 hF30
                · refine zt_aload_n (pc' := 101) hX dX5_open_100 rfl rfl ?_
                  refine zt_iconst (pc' := 102) hX dX5_open_101 rfl ?_
                  refine zt_iload_n (pc' := 103) hX dX5_open_102 rfl rfl ?_
                  refine zt_iload (pc' := 105) hX dX5_open_103 rfl rfl ?_
                  refine zt_iconst (pc' := 106) hX dX5_open_105 rfl ?_
                  refine zt_cVv (pc' := 109) hX dX5_open_106 rfl zm_yX5_addToken zw_17_5 zc_27 (by decide) zs_14 (q := (RX5, TX5, 9)) rfl rfl (zc_X5_addToken _ _ s28 hI29 3 ⟨by omega, by omega⟩ x22 ⟨by omega, by omega⟩ r54 ⟨by omega, by omega⟩ (-1) ⟨by omega, by omega⟩) rfl rfl (Nat.le_of_ble_eq_true rfl) (by decide) (fun r89 s90 hr91 hp92 => ?_)
                  obtain ⟨hI93, hF94, z95⟩ := hp92
                  have hF96 := zFA_tr hF30 hF94
                  have b97 := zv_14_5 hI93 zc_27
                  refine zt_mask [true, true, true, true, false] rfl ?_
                  exact J_109_84 s90 hI93 hF96
            · refine zt_iload_n (pc' := 75) hX dX5_open_74 rfl rfl ?_
              refine zt_aload_n (pc' := 76) hX dX5_open_75 rfl rfl ?_
              refine zt_aload_n (pc' := 77) hX dX5_open_76 rfl rfl ?_
              refine zt_iload_n (pc' := 78) hX dX5_open_77 rfl rfl ?_
              refine zt_cVi (pc' := 81) hX dX5_open_78 rfl zm_yX5_cutNumber zw_17_13 zc_27 (by decide) zs_14 (q := (RX5, TX5, 9)) rfl rfl (zc_X5_cutNumber _ _ s28 hI29 x22 ⟨by omega, by omega⟩) rfl rfl (Nat.le_of_ble_eq_true rfl) (by decide) (fun r98 s99 hr100 hp101 => ?_)
              obtain ⟨hI102, hF103, q104, q105⟩ := hp101
              have hF106 := zFA_tr hF30 hF103
              have b107 := zv_14_5 hI102 zc_27
              refine zt_iadd (pc' := 82) hX dX5_open_81 rfl ?_
              refine zt_istore_n (pc' := 83) (lv' := [some (.ref (X.1.1 + 27)), some (.ref (X.1.1 + 1)), some (.int (zI (x22 + r98))), some (.int (zI x25)), some (.int (zI r54))]) hX dX5_open_82 rfl hL (by decide) rfl ?_
              refine zt_goto (tgt := 112) hX dX5_open_83 (by decide) ?_
              refine zt_mask [true, true, true, true, false] rfl ?_
              exact J_112_71 (x22 + r98) s99 (by omega) (by omega) hI102 hF106
          · refine zt_iload_n (pc' := 55) hX dX5_open_54 rfl rfl ?_
            refine zt_aload_n (pc' := 56) hX dX5_open_55 rfl rfl ?_
            refine zt_aload_n (pc' := 57) hX dX5_open_56 rfl rfl ?_
            refine zt_iload_n (pc' := 58) hX dX5_open_57 rfl rfl ?_
            refine zt_cVi (pc' := 61) hX dX5_open_58 rfl zm_yX5_cutWord zw_16_22 zc_27 (by decide) zs_14 (q := (RX5, TX5, 9)) rfl rfl (zc_X5_cutWord _ _ s28 hI29 x22 ⟨by omega, by omega⟩) rfl rfl (Nat.le_of_ble_eq_true rfl) (by decide) (fun r108 s109 hr110 hp111 => ?_)
            obtain ⟨hI112, hF113, q114, q115⟩ := hp111
            have hF116 := zFA_tr hF30 hF113
            have b117 := zv_14_5 hI112 zc_27
            refine zt_iadd (pc' := 62) hX dX5_open_61 rfl ?_
            refine zt_istore_n (pc' := 63) (lv' := [some (.ref (X.1.1 + 27)), some (.ref (X.1.1 + 1)), some (.int (zI (x22 + r108))), some (.int (zI x25)), some (.int (zI r54))]) hX dX5_open_62 rfl hL (by decide) rfl ?_
            refine zt_goto (tgt := 112) hX dX5_open_63 (by decide) ?_
            refine zt_mask [true, true, true, true, false] rfl ?_
            exact J_112_71 (x22 + r108) s109 (by omega) (by omega) hI112 hF116
  exact L_24_30 _ 0 0 s17 (by omega) (by omega) (by omega) (by omega) hI19 hF20 (Nat.lt_succ_self _)

set_option maxRecDepth 100000 in
set_option maxHeartbeats 4000000 in
theorem zc_X5_kindHere (l : Launch) (E : zEN) (σ : zSto) (hI : zInv σ)  : zCt l E yX5_kindHere cX5_kindHere 1 (some .int) 0 zNC zNC 0 0 σ [.ref (E.1 + 27)] (fun r σ' => σ = σ' ∧ 0 ≤ r ∧ r ≤ 6) := by
  refine zCt_of2 [some (.ref (E.1 + 27))] (by decide +kernel) (Nat.le_of_ble_eq_true rfl) rfl ?_
  intro X hE hX hR hL hN
  subst hE
  have hX : zok X cX5_kindHere RX5 0 := hX
  refine zt_aload_n (pc' := 1) hX dX5_kindHere_0 rfl rfl ?_
  have b1 := zv_14_7 hI zc_27
  refine zt_get (pc' := 4) (v := .int (zI (σ 27 7))) hX dX5_kindHere_1 rfl zf_X5_34 (by decide) zc_27 zs_14 rfl ?_
  refine zt_ifne (pc' := 7) (tgt := 19) hX dX5_kindHere_4 rfl (by decide) ⟨by omega, by omega⟩ (fun c2 => ?_) (fun c2 => ?_)
  · refine zt_bipush (pc' := 21) hX dX5_kindHere_19 rfl (by decide) (by decide) ?_
    exact zt_iret hX hR dX5_kindHere_21 ⟨by omega, by omega⟩ ⟨rfl, by omega, by omega⟩
  · refine zt_aload_n (pc' := 8) hX dX5_kindHere_7 rfl rfl ?_
    refine zt_get (pc' := 11) (v := .ref (X.1.1 + 29)) hX dX5_kindHere_8 rfl zf_X5_15 (by decide) zc_27 zs_14 (zrf_of (zv_14_1 hI zc_27)) ?_
    refine zt_aload_n (pc' := 12) hX dX5_kindHere_11 rfl rfl ?_
    have b3 := zv_14_6 hI zc_27
    refine zt_get (pc' := 15) (v := .int (zI (σ 27 6))) hX dX5_kindHere_12 rfl zf_X5_31 (by decide) zc_27 zs_14 rfl ?_
    refine zt_iald (pc' := 16) hX dX5_kindHere_15 rfl (by decide) zc_29 zs_16 (by decide) ⟨by omega, by omega⟩ ?_
    generalize hv4 : σ 29 ((σ 27 6).toNat) = v4
    have bv4 : 0 ≤ v4 ∧ v4 ≤ 6 := hv4 ▸ zv_16 hI zc_29 _
    refine zt_goto (tgt := 21) hX dX5_kindHere_16 (by decide) ?_
    exact zt_iret hX hR dX5_kindHere_21 ⟨by omega, by omega⟩ ⟨rfl, by omega, by omega⟩

set_option maxRecDepth 100000 in
set_option maxHeartbeats 4000000 in
theorem zc_X5_wordHere (l : Launch) (E : zEN) (σ : zSto) (hI : zInv σ)  : zCt l E yX5_wordHere cX5_wordHere 1 (some .int) 0 zNC zNC 0 0 σ [.ref (E.1 + 27)] (fun r σ' => σ = σ' ∧ -1 ≤ r ∧ r ≤ 32) := by
  refine zCt_of2 [some (.ref (E.1 + 27))] (by decide +kernel) (Nat.le_of_ble_eq_true rfl) rfl ?_
  intro X hE hX hR hL hN
  subst hE
  have hX : zok X cX5_wordHere RX5 0 := hX
  refine zt_aload_n (pc' := 1) hX dX5_wordHere_0 rfl rfl ?_
  have b1 := zv_14_7 hI zc_27
  refine zt_get (pc' := 4) (v := .int (zI (σ 27 7))) hX dX5_wordHere_1 rfl zf_X5_34 (by decide) zc_27 zs_14 rfl ?_
  refine zt_ifne (pc' := 7) (tgt := 32) hX dX5_wordHere_4 rfl (by decide) ⟨by omega, by omega⟩ (fun c2 => ?_) (fun c2 => ?_)
  · refine zt_iconst (pc' := 33) hX dX5_wordHere_32 rfl ?_
    exact zt_iret hX hR dX5_wordHere_33 ⟨by omega, by omega⟩ ⟨rfl, by omega, by omega⟩
  · refine zt_aload_n (pc' := 8) hX dX5_wordHere_7 rfl rfl ?_
    refine zt_get (pc' := 11) (v := .ref (X.1.1 + 29)) hX dX5_wordHere_8 rfl zf_X5_15 (by decide) zc_27 zs_14 (zrf_of (zv_14_1 hI zc_27)) ?_
    refine zt_aload_n (pc' := 12) hX dX5_wordHere_11 rfl rfl ?_
    have b3 := zv_14_6 hI zc_27
    refine zt_get (pc' := 15) (v := .int (zI (σ 27 6))) hX dX5_wordHere_12 rfl zf_X5_31 (by decide) zc_27 zs_14 rfl ?_
    refine zt_iald (pc' := 16) hX dX5_wordHere_15 rfl (by decide) zc_29 zs_16 (by decide) ⟨by omega, by omega⟩ ?_
    generalize hv4 : σ 29 ((σ 27 6).toNat) = v4
    have bv4 : 0 ≤ v4 ∧ v4 ≤ 6 := hv4 ▸ zv_16 hI zc_29 _
    refine zt_iconst (pc' := 17) hX dX5_wordHere_16 rfl ?_
    refine zt_icne (pc' := 20) (tgt := 32) hX dX5_wordHere_17 rfl (by decide) ⟨by omega, by omega⟩ ⟨by omega, by omega⟩ (fun c5 => ?_) (fun c5 => ?_)
    · refine zt_iconst (pc' := 33) hX dX5_wordHere_32 rfl ?_
      exact zt_iret hX hR dX5_wordHere_33 ⟨by omega, by omega⟩ ⟨rfl, by omega, by omega⟩
    · refine zt_aload_n (pc' := 21) hX dX5_wordHere_20 rfl rfl ?_
      refine zt_get (pc' := 24) (v := .ref (X.1.1 + 32)) hX dX5_wordHere_21 rfl zf_X5_24 (by decide) zc_27 zs_14 (zrf_of (zv_14_4 hI zc_27)) ?_
      refine zt_aload_n (pc' := 25) hX dX5_wordHere_24 rfl rfl ?_
      refine zt_get (pc' := 28) (v := .int (zI (σ 27 6))) hX dX5_wordHere_25 rfl zf_X5_31 (by decide) zc_27 zs_14 rfl ?_
      refine zt_iald (pc' := 29) hX dX5_wordHere_28 rfl (by decide) zc_32 zs_19 (by decide) ⟨by omega, by omega⟩ ?_
      generalize hv6 : σ 32 ((σ 27 6).toNat) = v6
      have bv6 : -1 ≤ v6 ∧ v6 ≤ 32 := hv6 ▸ zv_19 hI zc_32 _
      refine zt_goto (tgt := 33) hX dX5_wordHere_29 (by decide) ?_
      exact zt_iret hX hR dX5_wordHere_33 ⟨by omega, by omega⟩ ⟨rfl, by omega, by omega⟩

set_option maxRecDepth 100000 in
set_option maxHeartbeats 4000000 in
theorem zc_X5_signHere (l : Launch) (E : zEN) (σ : zSto) (hI : zInv σ)  : zCt l E yX5_signHere cX5_signHere 1 (some .int) 0 zNC zNC 0 0 σ [.ref (E.1 + 27)] (fun r σ' => σ = σ' ∧ -2147483648 ≤ r ∧ r ≤ 2147483647) := by
  refine zCt_of2 [some (.ref (E.1 + 27))] (by decide +kernel) (Nat.le_of_ble_eq_true rfl) rfl ?_
  intro X hE hX hR hL hN
  subst hE
  have hX : zok X cX5_signHere RX5 0 := hX
  refine zt_aload_n (pc' := 1) hX dX5_signHere_0 rfl rfl ?_
  have b1 := zv_14_7 hI zc_27
  refine zt_get (pc' := 4) (v := .int (zI (σ 27 7))) hX dX5_signHere_1 rfl zf_X5_34 (by decide) zc_27 zs_14 rfl ?_
  refine zt_ifne (pc' := 7) (tgt := 32) hX dX5_signHere_4 rfl (by decide) ⟨by omega, by omega⟩ (fun c2 => ?_) (fun c2 => ?_)
  · refine zt_iconst (pc' := 33) hX dX5_signHere_32 rfl ?_
    exact zt_iret hX hR dX5_signHere_33 ⟨by omega, by omega⟩ ⟨rfl, by omega, by omega⟩
  · refine zt_aload_n (pc' := 8) hX dX5_signHere_7 rfl rfl ?_
    refine zt_get (pc' := 11) (v := .ref (X.1.1 + 29)) hX dX5_signHere_8 rfl zf_X5_15 (by decide) zc_27 zs_14 (zrf_of (zv_14_1 hI zc_27)) ?_
    refine zt_aload_n (pc' := 12) hX dX5_signHere_11 rfl rfl ?_
    have b3 := zv_14_6 hI zc_27
    refine zt_get (pc' := 15) (v := .int (zI (σ 27 6))) hX dX5_signHere_12 rfl zf_X5_31 (by decide) zc_27 zs_14 rfl ?_
    refine zt_iald (pc' := 16) hX dX5_signHere_15 rfl (by decide) zc_29 zs_16 (by decide) ⟨by omega, by omega⟩ ?_
    generalize hv4 : σ 29 ((σ 27 6).toNat) = v4
    have bv4 : 0 ≤ v4 ∧ v4 ≤ 6 := hv4 ▸ zv_16 hI zc_29 _
    refine zt_iconst (pc' := 17) hX dX5_signHere_16 rfl ?_
    refine zt_icne (pc' := 20) (tgt := 32) hX dX5_signHere_17 rfl (by decide) ⟨by omega, by omega⟩ ⟨by omega, by omega⟩ (fun c5 => ?_) (fun c5 => ?_)
    · refine zt_iconst (pc' := 33) hX dX5_signHere_32 rfl ?_
      exact zt_iret hX hR dX5_signHere_33 ⟨by omega, by omega⟩ ⟨rfl, by omega, by omega⟩
    · refine zt_aload_n (pc' := 21) hX dX5_signHere_20 rfl rfl ?_
      refine zt_get (pc' := 24) (v := .ref (X.1.1 + 31)) hX dX5_signHere_21 rfl zf_X5_21 (by decide) zc_27 zs_14 (zrf_of (zv_14_3 hI zc_27)) ?_
      refine zt_aload_n (pc' := 25) hX dX5_signHere_24 rfl rfl ?_
      refine zt_get (pc' := 28) (v := .int (zI (σ 27 6))) hX dX5_signHere_25 rfl zf_X5_31 (by decide) zc_27 zs_14 rfl ?_
      refine zt_iald (pc' := 29) hX dX5_signHere_28 rfl (by decide) zc_31 zs_18 (by decide) ⟨by omega, by omega⟩ ?_
      generalize hv6 : σ 31 ((σ 27 6).toNat) = v6
      have bv6 : -2147483648 ≤ v6 ∧ v6 ≤ 2147483647 := hv6 ▸ zv_18 hI zc_31 _
      refine zt_goto (tgt := 33) hX dX5_signHere_29 (by decide) ?_
      exact zt_iret hX hR dX5_signHere_33 ⟨by omega, by omega⟩ ⟨rfl, by omega, by omega⟩

set_option maxRecDepth 100000 in
set_option maxHeartbeats 4000000 in
theorem zc_X5_placeHere (l : Launch) (E : zEN) (σ : zSto) (hI : zInv σ)  : zCt l E yX5_placeHere cX5_placeHere 1 (some .int) 0 zNC zNC 0 0 σ [.ref (E.1 + 27)] (fun r σ' => σ = σ' ∧ 0 ≤ r ∧ r ≤ 10000) := by
  refine zCt_of2 [some (.ref (E.1 + 27))] (by decide +kernel) (Nat.le_of_ble_eq_true rfl) rfl ?_
  intro X hE hX hR hL hN
  subst hE
  have hX : zok X cX5_placeHere RX5 0 := hX
  refine zt_aload_n (pc' := 1) hX dX5_placeHere_0 rfl rfl ?_
  refine zt_get (pc' := 4) (v := .ref (X.1.1 + 30)) hX dX5_placeHere_1 rfl zf_X5_18 (by decide) zc_27 zs_14 (zrf_of (zv_14_2 hI zc_27)) ?_
  refine zt_aload_n (pc' := 5) hX dX5_placeHere_4 rfl rfl ?_
  have b1 := zv_14_6 hI zc_27
  refine zt_get (pc' := 8) (v := .int (zI (σ 27 6))) hX dX5_placeHere_5 rfl zf_X5_31 (by decide) zc_27 zs_14 rfl ?_
  refine zt_iald (pc' := 9) hX dX5_placeHere_8 rfl (by decide) zc_30 zs_17 (by decide) ⟨by omega, by omega⟩ ?_
  generalize hv2 : σ 30 ((σ 27 6).toNat) = v2
  have bv2 : 0 ≤ v2 ∧ v2 ≤ 10000 := hv2 ▸ zv_17 hI zc_30 _
  exact zt_iret hX hR dX5_placeHere_9 ⟨by omega, by omega⟩ ⟨rfl, by omega, by omega⟩

set_option maxRecDepth 100000 in
set_option maxHeartbeats 4000000 in
theorem zc_X5_hasMore (l : Launch) (E : zEN) (σ : zSto) (hI : zInv σ)  : zCt l E yX5_hasMore cX5_hasMore 1 (some .boolean) 0 zNC zNC 0 0 σ [.ref (E.1 + 27)] (fun r σ' => σ = σ' ∧ 0 ≤ r ∧ r ≤ 1) := by
  refine zCt_of2 [some (.ref (E.1 + 27))] (by decide +kernel) (Nat.le_of_ble_eq_true rfl) rfl ?_
  intro X hE hX hR hL hN
  subst hE
  have hX : zok X cX5_hasMore RX5 0 := hX
  refine zt_aload_n (pc' := 1) hX dX5_hasMore_0 rfl rfl ?_
  have b1 := zv_14_7 hI zc_27
  refine zt_get (pc' := 4) (v := .int (zI (σ 27 7))) hX dX5_hasMore_1 rfl zf_X5_34 (by decide) zc_27 zs_14 rfl ?_
  refine zt_ifne (pc' := 7) (tgt := 23) hX dX5_hasMore_4 rfl (by decide) ⟨by omega, by omega⟩ (fun c2 => ?_) (fun c2 => ?_)
  · refine zt_iconst (pc' := 24) hX dX5_hasMore_23 rfl ?_
    exact zt_zret hX hR dX5_hasMore_24 ⟨by omega, by omega⟩ ⟨rfl, by omega, by omega⟩
  · refine zt_aload_n (pc' := 8) hX dX5_hasMore_7 rfl rfl ?_
    refine zt_get (pc' := 11) (v := .ref (X.1.1 + 29)) hX dX5_hasMore_8 rfl zf_X5_15 (by decide) zc_27 zs_14 (zrf_of (zv_14_1 hI zc_27)) ?_
    refine zt_aload_n (pc' := 12) hX dX5_hasMore_11 rfl rfl ?_
    have b3 := zv_14_6 hI zc_27
    refine zt_get (pc' := 15) (v := .int (zI (σ 27 6))) hX dX5_hasMore_12 rfl zf_X5_31 (by decide) zc_27 zs_14 rfl ?_
    refine zt_iald (pc' := 16) hX dX5_hasMore_15 rfl (by decide) zc_29 zs_16 (by decide) ⟨by omega, by omega⟩ ?_
    generalize hv4 : σ 29 ((σ 27 6).toNat) = v4
    have bv4 : 0 ≤ v4 ∧ v4 ≤ 6 := hv4 ▸ zv_16 hI zc_29 _
    refine zt_ifeq (pc' := 19) (tgt := 23) hX dX5_hasMore_16 rfl (by decide) ⟨by omega, by omega⟩ (fun c5 => ?_) (fun c5 => ?_)
    · refine zt_iconst (pc' := 24) hX dX5_hasMore_23 rfl ?_
      exact zt_zret hX hR dX5_hasMore_24 ⟨by omega, by omega⟩ ⟨rfl, by omega, by omega⟩
    · refine zt_iconst (pc' := 20) hX dX5_hasMore_19 rfl ?_
      refine zt_goto (tgt := 24) hX dX5_hasMore_20 (by decide) ?_
      exact zt_zret hX hR dX5_hasMore_24 ⟨by omega, by omega⟩ ⟨rfl, by omega, by omega⟩

set_option maxRecDepth 100000 in
set_option maxHeartbeats 4000000 in
theorem zc_X5_step (l : Launch) (E : zEN) (σ : zSto) (hI : zInv σ) (hpre0 : σ 27 5 ≤ 1600) : zCt l E yX5_step cX5_step 1 none 0 zNC zNC 0 0 σ [.ref (E.1 + 27)] (fun r σ' => zInv σ' ∧ zFA σ σ' ∧ (σ' 27 5 = σ 27 5)) := by
  refine zCt_of2 [some (.ref (E.1 + 27))] (by decide +kernel) (Nat.le_of_ble_eq_true rfl) rfl ?_
  intro X hE hX hR hL hN
  subst hE
  have hX : zok X cX5_step RX5 0 := hX
  have hF := zFA_rf σ
  have b1 := zv_14_5 hI zc_27
  refine zt_aload_n (pc' := 1) hX dX5_step_0 rfl rfl ?_
  have b2 := zv_14_6 hI zc_27
  refine zt_get (pc' := 4) (v := .int (zI (σ 27 6))) hX dX5_step_1 rfl zf_X5_31 (by decide) zc_27 zs_14 rfl ?_
  refine zt_aload_n (pc' := 5) hX dX5_step_4 rfl rfl ?_
  have b3 := zv_14_5 hI zc_27
  refine zt_get (pc' := 8) (v := .int (zI (σ 27 5))) hX dX5_step_5 rfl zf_X5_27 (by decide) zc_27 zs_14 rfl ?_
  refine zt_icge (pc' := 11) (tgt := 21) hX dX5_step_8 rfl (by decide) ⟨by omega, by omega⟩ ⟨by omega, by omega⟩ (fun c4 => ?_) (fun c4 => ?_)
  · exact zt_vret hX hR dX5_step_21 ⟨hI, hF, by omega⟩
  · refine zt_aload_n (pc' := 12) hX dX5_step_11 rfl rfl ?_
    refine zt_dup (pc' := 13) hX dX5_step_12 rfl rfl ?_
    refine zt_get (pc' := 16) (v := .int (zI (σ 27 6))) hX dX5_step_13 rfl zf_X5_31 (by decide) zc_27 zs_14 rfl ?_
    refine zt_iconst (pc' := 17) hX dX5_step_16 rfl ?_
    refine zt_iadd (pc' := 18) hX dX5_step_17 rfl ?_
    refine zt_put (pc' := 21) (x := ((σ 27 6) + 1)) hX dX5_step_18 rfl zf_X5_31 (by decide) zc_27 zs_14 (fun q hq => by cases hq; rfl) rfl rfl rfl ?_
    generalize hs6 : zset σ 27 6 ((σ 27 6) + 1) = s5
    have hI7 : zInv s5 := hs6 ▸ zp_14_6 hI zc_27 ⟨by omega, by omega⟩
    have hF8 : zFA σ s5 := hs6 ▸ zFA_set hF zc_27 (by decide) zk_14 (Or.inl (by decide))
    have e9 : s5 27 5 = σ 27 5 := by rw [← hs6]; exact zset_j (by decide)
    exact zt_vret hX hR dX5_step_21 ⟨hI7, hF8, by omega⟩

set_option maxRecDepth 100000 in
set_option maxHeartbeats 4000000 in
theorem zc_X5_refuse (l : Launch) (E : zEN) (σ : zSto) (hI : zInv σ) (a1_ : Int) (ha1_ : -2147483648 ≤ a1_ ∧ a1_ ≤ 2147483647) (a2_ : Int) (ha2_ : -2147483648 ≤ a2_ ∧ a2_ ≤ 2147483647) (hpre0 : σ 27 5 ≤ 1600) : zCt l E yX5_refuse cX5_refuse 3 none 0 zNC zNC 0 0 σ [.ref (E.1 + 27), .int (zI a1_), .int (zI a2_)] (fun r σ' => zInv σ' ∧ zFA σ σ' ∧ (σ' 27 5 = σ 27 5)) := by
  refine zCt_of2 [some (.ref (E.1 + 27)), some (.int (zI a1_)), some (.int (zI a2_))] (by decide +kernel) (Nat.le_of_ble_eq_true rfl) rfl ?_
  intro X hE hX hR hL hN
  subst hE
  have hX : zok X cX5_refuse RX5 0 := hX
  have hF := zFA_rf σ
  have b1 := zv_14_5 hI zc_27
  refine zt_aload_n (pc' := 1) hX dX5_refuse_0 rfl rfl ?_
  have b2 := zv_14_7 hI zc_27
  refine zt_get (pc' := 4) (v := .int (zI (σ 27 7))) hX dX5_refuse_1 rfl zf_X5_34 (by decide) zc_27 zs_14 rfl ?_
  refine zt_ifne (pc' := 7) (tgt := 17) hX dX5_refuse_4 rfl (by decide) ⟨by omega, by omega⟩ (fun c3 => ?_) (fun c3 => ?_)
  · exact zt_vret hX hR dX5_refuse_17 ⟨hI, hF, by omega⟩
  · refine zt_aload_n (pc' := 8) hX dX5_refuse_7 rfl rfl ?_
    refine zt_iload_n (pc' := 9) hX dX5_refuse_8 rfl rfl ?_
    refine zt_put (pc' := 12) (x := a1_) hX dX5_refuse_9 rfl zf_X5_34 (by decide) zc_27 zs_14 (fun q hq => by cases hq; rfl) rfl rfl rfl ?_
    generalize hs5 : zset σ 27 7 a1_ = s4
    have hI6 : zInv s4 := hs5 ▸ zp_14_7 hI zc_27 ⟨by omega, by omega⟩
    have hF7 : zFA σ s4 := hs5 ▸ zFA_set hF zc_27 (by decide) zk_14 (Or.inl (by decide))
    have e8 : s4 27 5 = σ 27 5 := by rw [← hs5]; exact zset_j (by decide)
    refine zt_aload_n (pc' := 13) hX dX5_refuse_12 rfl rfl ?_
    refine zt_iload_n (pc' := 14) hX dX5_refuse_13 rfl rfl ?_
    refine zt_put (pc' := 17) (x := a2_) hX dX5_refuse_14 rfl zf_X5_37 (by decide) zc_27 zs_14 (fun q hq => by cases hq; rfl) rfl rfl rfl ?_
    generalize hs10 : zset s4 27 8 a2_ = s9
    have hI11 : zInv s9 := hs10 ▸ zp_14_8 hI6 zc_27 ⟨by omega, by omega⟩
    have hF12 : zFA σ s9 := hs10 ▸ zFA_set hF7 zc_27 (by decide) zk_14 (Or.inl (by decide))
    have e13 : s9 27 5 = s4 27 5 := by rw [← hs10]; exact zset_j (by decide)
    exact zt_vret hX hR dX5_refuse_17 ⟨hI11, hF12, by omega⟩

set_option maxRecDepth 100000 in
set_option maxHeartbeats 4000000 in
theorem zc_X5_takeWord (l : Launch) (E : zEN) (σ : zSto) (hI : zInv σ) (a1_ : Int) (ha1_ : -2147483648 ≤ a1_ ∧ a1_ ≤ 2147483647) (hpre0 : σ 27 5 ≤ 1600) : zCt l E yX5_takeWord cX5_takeWord 2 none 1 zNC zNC 0 0 σ [.ref (E.1 + 27), .int (zI a1_)] (fun r σ' => zInv σ' ∧ zFA σ σ' ∧ (σ' 27 5 = σ 27 5)) := by
  refine zCt_of2 [some (.ref (E.1 + 27)), some (.int (zI a1_))] (by decide +kernel) (Nat.le_of_ble_eq_true rfl) rfl ?_
  intro X hE hX hR hL hN
  subst hE
  have hX : zok X cX5_takeWord RX5 1 := hX
  have hF := zFA_rf σ
  have b1 := zv_14_5 hI zc_27
  refine zt_aload_n (pc' := 1) hX dX5_takeWord_0 rfl rfl ?_
  refine zt_cVi (pc' := 4) hX dX5_takeWord_1 rfl zm_yX5_wordHere zw_18_6 zc_27 (by decide) zs_14 (q := (RX5, TX5, 9)) rfl rfl (zc_X5_wordHere _ _ σ hI ) rfl rfl (Nat.le_of_ble_eq_true rfl) (by decide) (fun r2 s3 hr4 hp5 => ?_)
  obtain ⟨rfl, q6, q7⟩ := hp5
  refine zt_iload_n (pc' := 5) hX dX5_takeWord_4 rfl rfl ?_
  refine zt_icne (pc' := 8) (tgt := 15) hX dX5_takeWord_5 rfl (by decide) ⟨by omega, by omega⟩ ⟨by omega, by omega⟩ (fun c8 => ?_) (fun c8 => ?_)
  · refine zt_aload_n (pc' := 16) hX dX5_takeWord_15 rfl rfl ?_
    refine zt_iconst (pc' := 17) hX dX5_takeWord_16 rfl ?_
    refine zt_aload_n (pc' := 18) hX dX5_takeWord_17 rfl rfl ?_
    refine zt_get (pc' := 21) (v := .ref (X.1.1 + 30)) hX dX5_takeWord_18 rfl zf_X5_18 (by decide) zc_27 zs_14 (zrf_of (zv_14_2 hI zc_27)) ?_
    refine zt_aload_n (pc' := 22) hX dX5_takeWord_21 rfl rfl ?_
    have b9 := zv_14_6 hI zc_27
    refine zt_get (pc' := 25) (v := .int (zI (σ 27 6))) hX dX5_takeWord_22 rfl zf_X5_31 (by decide) zc_27 zs_14 rfl ?_
    refine zt_iald (pc' := 26) hX dX5_takeWord_25 rfl (by decide) zc_30 zs_17 (by decide) ⟨by omega, by omega⟩ ?_
    generalize hv10 : σ 30 ((σ 27 6).toNat) = v10
    have bv10 : 0 ≤ v10 ∧ v10 ≤ 10000 := hv10 ▸ zv_17 hI zc_30 _
    refine zt_cVv (pc' := 29) hX dX5_takeWord_26 rfl zm_yX5_refuse zw_18_14 zc_27 (by decide) zs_14 (q := (RX5, TX5, 9)) rfl rfl (zc_X5_refuse _ _ σ hI 1 ⟨by omega, by omega⟩ v10 ⟨by omega, by omega⟩ (by omega)) rfl rfl (Nat.le_of_ble_eq_true rfl) (by decide) (fun r11 s12 hr13 hp14 => ?_)
    obtain ⟨hI15, hF16, z17⟩ := hp14
    have hF18 := zFA_tr hF hF16
    have b19 := zv_14_5 hI15 zc_27
    exact zt_vret hX hR dX5_takeWord_29 ⟨hI15, hF18, by omega⟩
  · refine zt_aload_n (pc' := 9) hX dX5_takeWord_8 rfl rfl ?_
    refine zt_cVv (pc' := 12) hX dX5_takeWord_9 rfl zm_yX5_step zw_18_10 zc_27 (by decide) zs_14 (q := (RX5, TX5, 9)) rfl rfl (zc_X5_step _ _ σ hI (by omega)) rfl rfl (Nat.le_of_ble_eq_true rfl) (by decide) (fun r20 s21 hr22 hp23 => ?_)
    obtain ⟨hI24, hF25, z26⟩ := hp23
    have hF27 := zFA_tr hF hF25
    have b28 := zv_14_5 hI24 zc_27
    refine zt_goto (tgt := 29) hX dX5_takeWord_12 (by decide) ?_
    exact zt_vret hX hR dX5_takeWord_29 ⟨hI24, hF27, by omega⟩

set_option maxRecDepth 100000 in
set_option maxHeartbeats 4000000 in
theorem zc_X5_takeSign (l : Launch) (E : zEN) (σ : zSto) (hI : zInv σ) (a1_ : Int) (ha1_ : -2147483648 ≤ a1_ ∧ a1_ ≤ 2147483647) (hpre0 : σ 27 5 ≤ 1600) : zCt l E yX5_takeSign cX5_takeSign 2 none 1 zNC zNC 0 0 σ [.ref (E.1 + 27), .int (zI a1_)] (fun r σ' => zInv σ' ∧ zFA σ σ' ∧ (σ' 27 5 = σ 27 5)) := by
  refine zCt_of2 [some (.ref (E.1 + 27)), some (.int (zI a1_))] (by decide +kernel) (Nat.le_of_ble_eq_true rfl) rfl ?_
  intro X hE hX hR hL hN
  subst hE
  have hX : zok X cX5_takeSign RX5 1 := hX
  have hF := zFA_rf σ
  have b1 := zv_14_5 hI zc_27
  refine zt_aload_n (pc' := 1) hX dX5_takeSign_0 rfl rfl ?_
  refine zt_cVi (pc' := 4) hX dX5_takeSign_1 rfl zm_yX5_signHere zw_22_19 zc_27 (by decide) zs_14 (q := (RX5, TX5, 9)) rfl rfl (zc_X5_signHere _ _ σ hI ) rfl rfl (Nat.le_of_ble_eq_true rfl) (by decide) (fun r2 s3 hr4 hp5 => ?_)
  obtain ⟨rfl, q6, q7⟩ := hp5
  refine zt_iload_n (pc' := 5) hX dX5_takeSign_4 rfl rfl ?_
  refine zt_icne (pc' := 8) (tgt := 15) hX dX5_takeSign_5 rfl (by decide) ⟨by omega, by omega⟩ ⟨by omega, by omega⟩ (fun c8 => ?_) (fun c8 => ?_)
  · refine zt_aload_n (pc' := 16) hX dX5_takeSign_15 rfl rfl ?_
    refine zt_iconst (pc' := 17) hX dX5_takeSign_16 rfl ?_
    refine zt_aload_n (pc' := 18) hX dX5_takeSign_17 rfl rfl ?_
    refine zt_get (pc' := 21) (v := .ref (X.1.1 + 30)) hX dX5_takeSign_18 rfl zf_X5_18 (by decide) zc_27 zs_14 (zrf_of (zv_14_2 hI zc_27)) ?_
    refine zt_aload_n (pc' := 22) hX dX5_takeSign_21 rfl rfl ?_
    have b9 := zv_14_6 hI zc_27
    refine zt_get (pc' := 25) (v := .int (zI (σ 27 6))) hX dX5_takeSign_22 rfl zf_X5_31 (by decide) zc_27 zs_14 rfl ?_
    refine zt_iald (pc' := 26) hX dX5_takeSign_25 rfl (by decide) zc_30 zs_17 (by decide) ⟨by omega, by omega⟩ ?_
    generalize hv10 : σ 30 ((σ 27 6).toNat) = v10
    have bv10 : 0 ≤ v10 ∧ v10 ≤ 10000 := hv10 ▸ zv_17 hI zc_30 _
    refine zt_cVv (pc' := 29) hX dX5_takeSign_26 rfl zm_yX5_refuse zw_18_14 zc_27 (by decide) zs_14 (q := (RX5, TX5, 9)) rfl rfl (zc_X5_refuse _ _ σ hI 1 ⟨by omega, by omega⟩ v10 ⟨by omega, by omega⟩ (by omega)) rfl rfl (Nat.le_of_ble_eq_true rfl) (by decide) (fun r11 s12 hr13 hp14 => ?_)
    obtain ⟨hI15, hF16, z17⟩ := hp14
    have hF18 := zFA_tr hF hF16
    have b19 := zv_14_5 hI15 zc_27
    exact zt_vret hX hR dX5_takeSign_29 ⟨hI15, hF18, by omega⟩
  · refine zt_aload_n (pc' := 9) hX dX5_takeSign_8 rfl rfl ?_
    refine zt_cVv (pc' := 12) hX dX5_takeSign_9 rfl zm_yX5_step zw_18_10 zc_27 (by decide) zs_14 (q := (RX5, TX5, 9)) rfl rfl (zc_X5_step _ _ σ hI (by omega)) rfl rfl (Nat.le_of_ble_eq_true rfl) (by decide) (fun r20 s21 hr22 hp23 => ?_)
    obtain ⟨hI24, hF25, z26⟩ := hp23
    have hF27 := zFA_tr hF hF25
    have b28 := zv_14_5 hI24 zc_27
    refine zt_goto (tgt := 29) hX dX5_takeSign_12 (by decide) ?_
    exact zt_vret hX hR dX5_takeSign_29 ⟨hI24, hF27, by omega⟩

set_option maxRecDepth 100000 in
set_option maxHeartbeats 4000000 in
theorem zc_X5_takeNumber (l : Launch) (E : zEN) (σ : zSto) (hI : zInv σ) (a1_ : Int) (ha1_ : 0 ≤ a1_ ∧ a1_ ≤ 2) (a2_ : Int) (ha2_ : -1 ≤ a2_ ∧ a2_ ≤ 9999) (hpre0 : σ 27 5 ≤ 1600) : zCt l E yX5_takeNumber cX5_takeNumber 5 (some .int) 1 zNC zNC 0 0 σ [.ref (E.1 + 27), .int (zI a1_), .int (zI a2_)] (fun r σ' => zInv σ' ∧ zFA σ σ' ∧ 0 ≤ r ∧ r ≤ 9999 ∧ (a1_ ≤ r ∧ (r ≤ a2_ ∨ r = a1_)) ∧ (σ' 27 5 = σ 27 5)) := by
  refine zCt_of2 [some (.ref (E.1 + 27)), some (.int (zI a1_)), some (.int (zI a2_)), none, none] (by decide +kernel) (Nat.le_of_ble_eq_true rfl) rfl ?_
  intro X hE hX hR hL hN
  subst hE
  have hX : zok X cX5_takeNumber RX5 1 := hX
  have hF := zFA_rf σ
  have b1 := zv_14_5 hI zc_27
  refine zt_aload_n (pc' := 1) hX dX5_takeNumber_0 rfl rfl ?_
  refine zt_cVi (pc' := 4) hX dX5_takeNumber_1 rfl zm_yX5_kindHere zw_18_22 zc_27 (by decide) zs_14 (q := (RX5, TX5, 9)) rfl rfl (zc_X5_kindHere _ _ σ hI ) rfl rfl (Nat.le_of_ble_eq_true rfl) (by decide) (fun r2 s3 hr4 hp5 => ?_)
  obtain ⟨rfl, q6, q7⟩ := hp5
  refine zt_istore_n (pc' := 5) (lv' := [some (.ref (X.1.1 + 27)), some (.int (zI a1_)), some (.int (zI a2_)), some (.int (zI r2)), none]) hX dX5_takeNumber_4 rfl hL (by decide) rfl ?_
  refine zt_aload_n (pc' := 6) hX dX5_takeNumber_5 rfl rfl ?_
  refine zt_get (pc' := 9) (v := .ref (X.1.1 + 31)) hX dX5_takeNumber_6 rfl zf_X5_21 (by decide) zc_27 zs_14 (zrf_of (zv_14_3 hI zc_27)) ?_
  refine zt_aload_n (pc' := 10) hX dX5_takeNumber_9 rfl rfl ?_
  have b8 := zv_14_6 hI zc_27
  refine zt_get (pc' := 13) (v := .int (zI (σ 27 6))) hX dX5_takeNumber_10 rfl zf_X5_31 (by decide) zc_27 zs_14 rfl ?_
  refine zt_iald (pc' := 14) hX dX5_takeNumber_13 rfl (by decide) zc_31 zs_18 (by decide) ⟨by omega, by omega⟩ ?_
  generalize hv9 : σ 31 ((σ 27 6).toNat) = v9
  have bv9 : -2147483648 ≤ v9 ∧ v9 ≤ 2147483647 := hv9 ▸ zv_18 hI zc_31 _
  refine zt_istore (pc' := 16) (lv' := [some (.ref (X.1.1 + 27)), some (.int (zI a1_)), some (.int (zI a2_)), some (.int (zI r2)), some (.int (zI v9))]) hX dX5_takeNumber_14 rfl hL (by decide) rfl ?_
  refine zt_iload_n (pc' := 17) hX dX5_takeNumber_16 rfl rfl ?_
  refine zt_iconst (pc' := 18) hX dX5_takeNumber_17 rfl ?_
  refine zt_icne (pc' := 21) (tgt := 40) hX dX5_takeNumber_18 rfl (by decide) ⟨by omega, by omega⟩ ⟨by omega, by omega⟩ (fun c10 => ?_) (fun c10 => ?_)
  · refine zt_iload_n (pc' := 41) hX dX5_takeNumber_40 rfl rfl ?_
    refine zt_iconst (pc' := 42) hX dX5_takeNumber_41 rfl ?_
    refine zt_iceq (pc' := 45) (tgt := 62) hX dX5_takeNumber_42 rfl (by decide) ⟨by omega, by omega⟩ ⟨by omega, by omega⟩ (fun c11 => ?_) (fun c11 => ?_)
    · refine zt_iload (pc' := 64) hX dX5_takeNumber_62 rfl rfl ?_
      refine zt_iload_n (pc' := 65) hX dX5_takeNumber_64 rfl rfl ?_
      have J_74_11 : zF X σ 74 [some (.ref (X.1.1 + 27)), some (.int (zI a1_)), none, none, none] [] := by
        refine zt_aload_n (pc' := 75) hX dX5_takeNumber_74 rfl rfl ?_
        refine zt_iconst (pc' := 76) hX dX5_takeNumber_75 rfl ?_
        refine zt_aload_n (pc' := 77) hX dX5_takeNumber_76 rfl rfl ?_
        refine zt_get (pc' := 80) (v := .ref (X.1.1 + 30)) hX dX5_takeNumber_77 rfl zf_X5_18 (by decide) zc_27 zs_14 (zrf_of (zv_14_2 hI zc_27)) ?_
        refine zt_aload_n (pc' := 81) hX dX5_takeNumber_80 rfl rfl ?_
        refine zt_get (pc' := 84) (v := .int (zI (σ 27 6))) hX dX5_takeNumber_81 rfl zf_X5_31 (by decide) zc_27 zs_14 rfl ?_
        refine zt_iald (pc' := 85) hX dX5_takeNumber_84 rfl (by decide) zc_30 zs_17 (by decide) ⟨by omega, by omega⟩ ?_
        generalize hv13 : σ 30 ((σ 27 6).toNat) = v13
        have bv13 : 0 ≤ v13 ∧ v13 ≤ 10000 := hv13 ▸ zv_17 hI zc_30 _
        refine zt_cVv (pc' := 88) hX dX5_takeNumber_85 rfl zm_yX5_refuse zw_18_14 zc_27 (by decide) zs_14 (q := (RX5, TX5, 9)) rfl rfl (zc_X5_refuse _ _ σ hI 2 ⟨by omega, by omega⟩ v13 ⟨by omega, by omega⟩ (by omega)) rfl rfl (Nat.le_of_ble_eq_true rfl) (by decide) (fun r14 s15 hr16 hp17 => ?_)
        obtain ⟨hI18, hF19, z20⟩ := hp17
        have hF21 := zFA_tr hF hF19
        have b22 := zv_14_5 hI18 zc_27
        refine zt_goto (tgt := 98) hX dX5_takeNumber_88 (by decide) ?_
        refine zt_iload_n (pc' := 99) hX dX5_takeNumber_98 rfl rfl ?_
        exact zt_iret hX hR dX5_takeNumber_99 ⟨by omega, by omega⟩ ⟨hI18, hF21, by omega, by omega, by omega, by omega⟩
      refine zt_iclt (pc' := 68) (tgt := 74) hX dX5_takeNumber_65 rfl (by decide) ⟨by omega, by omega⟩ ⟨by omega, by omega⟩ (fun c23 => ?_) (fun c23 => ?_)
      · refine zt_mask [true, true, false, false, false] rfl ?_
        exact J_74_11
      · refine zt_iload (pc' := 70) hX dX5_takeNumber_68 rfl rfl ?_
        refine zt_iload_n (pc' := 71) hX dX5_takeNumber_70 rfl rfl ?_
        refine zt_icle (pc' := 74) (tgt := 91) hX dX5_takeNumber_71 rfl (by decide) ⟨by omega, by omega⟩ ⟨by omega, by omega⟩ (fun c24 => ?_) (fun c24 => ?_)
        · refine zt_aload_n (pc' := 92) hX dX5_takeNumber_91 rfl rfl ?_
          refine zt_cVv (pc' := 95) hX dX5_takeNumber_92 rfl zm_yX5_step zw_18_10 zc_27 (by decide) zs_14 (q := (RX5, TX5, 9)) rfl rfl (zc_X5_step _ _ σ hI (by omega)) rfl rfl (Nat.le_of_ble_eq_true rfl) (by decide) (fun r25 s26 hr27 hp28 => ?_)
          obtain ⟨hI29, hF30, z31⟩ := hp28
          have hF32 := zFA_tr hF hF30
          have b33 := zv_14_5 hI29 zc_27
          refine zt_iload (pc' := 97) hX dX5_takeNumber_95 rfl rfl ?_
          exact zt_iret hX hR dX5_takeNumber_97 ⟨by omega, by omega⟩ ⟨hI29, hF32, by omega, by omega, by omega, by omega⟩
        · refine zt_mask [true, true, false, false, false] rfl ?_
          exact J_74_11
    · refine zt_aload_n (pc' := 46) hX dX5_takeNumber_45 rfl rfl ?_
      refine zt_iconst (pc' := 47) hX dX5_takeNumber_46 rfl ?_
      refine zt_aload_n (pc' := 48) hX dX5_takeNumber_47 rfl rfl ?_
      refine zt_get (pc' := 51) (v := .ref (X.1.1 + 30)) hX dX5_takeNumber_48 rfl zf_X5_18 (by decide) zc_27 zs_14 (zrf_of (zv_14_2 hI zc_27)) ?_
      refine zt_aload_n (pc' := 52) hX dX5_takeNumber_51 rfl rfl ?_
      refine zt_get (pc' := 55) (v := .int (zI (σ 27 6))) hX dX5_takeNumber_52 rfl zf_X5_31 (by decide) zc_27 zs_14 rfl ?_
      refine zt_iald (pc' := 56) hX dX5_takeNumber_55 rfl (by decide) zc_30 zs_17 (by decide) ⟨by omega, by omega⟩ ?_
      generalize hv34 : σ 30 ((σ 27 6).toNat) = v34
      have bv34 : 0 ≤ v34 ∧ v34 ≤ 10000 := hv34 ▸ zv_17 hI zc_30 _
      refine zt_cVv (pc' := 59) hX dX5_takeNumber_56 rfl zm_yX5_refuse zw_18_14 zc_27 (by decide) zs_14 (q := (RX5, TX5, 9)) rfl rfl (zc_X5_refuse _ _ σ hI 1 ⟨by omega, by omega⟩ v34 ⟨by omega, by omega⟩ (by omega)) rfl rfl (Nat.le_of_ble_eq_true rfl) (by decide) (fun r35 s36 hr37 hp38 => ?_)
      obtain ⟨hI39, hF40, z41⟩ := hp38
      have hF42 := zFA_tr hF hF40
      have b43 := zv_14_5 hI39 zc_27
      refine zt_goto (tgt := 98) hX dX5_takeNumber_59 (by decide) ?_
      refine zt_iload_n (pc' := 99) hX dX5_takeNumber_98 rfl rfl ?_
      exact zt_iret hX hR dX5_takeNumber_99 ⟨by omega, by omega⟩ ⟨hI39, hF42, by omega, by omega, by omega, by omega⟩
  · refine zt_aload_n (pc' := 22) hX dX5_takeNumber_21 rfl rfl ?_
    refine zt_iconst (pc' := 23) hX dX5_takeNumber_22 rfl ?_
    refine zt_aload_n (pc' := 24) hX dX5_takeNumber_23 rfl rfl ?_
    refine zt_get (pc' := 27) (v := .ref (X.1.1 + 30)) hX dX5_takeNumber_24 rfl zf_X5_18 (by decide) zc_27 zs_14 (zrf_of (zv_14_2 hI zc_27)) ?_
    refine zt_aload_n (pc' := 28) hX dX5_takeNumber_27 rfl rfl ?_
    refine zt_get (pc' := 31) (v := .int (zI (σ 27 6))) hX dX5_takeNumber_28 rfl zf_X5_31 (by decide) zc_27 zs_14 rfl ?_
    refine zt_iald (pc' := 32) hX dX5_takeNumber_31 rfl (by decide) zc_30 zs_17 (by decide) ⟨by omega, by omega⟩ ?_
    generalize hv44 : σ 30 ((σ 27 6).toNat) = v44
    have bv44 : 0 ≤ v44 ∧ v44 ≤ 10000 := hv44 ▸ zv_17 hI zc_30 _
    refine zt_iconst (pc' := 33) hX dX5_takeNumber_32 rfl ?_
    refine zt_iadd (pc' := 34) hX dX5_takeNumber_33 rfl ?_
    refine zt_cVv (pc' := 37) hX dX5_takeNumber_34 rfl zm_yX5_refuse zw_18_14 zc_27 (by decide) zs_14 (q := (RX5, TX5, 9)) rfl rfl (zc_X5_refuse _ _ σ hI 1 ⟨by omega, by omega⟩ (v44 + 4) ⟨by omega, by omega⟩ (by omega)) rfl rfl (Nat.le_of_ble_eq_true rfl) (by decide) (fun r45 s46 hr47 hp48 => ?_)
    obtain ⟨hI49, hF50, z51⟩ := hp48
    have hF52 := zFA_tr hF hF50
    have b53 := zv_14_5 hI49 zc_27
    refine zt_goto (tgt := 98) hX dX5_takeNumber_37 (by decide) ?_
    refine zt_iload_n (pc' := 99) hX dX5_takeNumber_98 rfl rfl ?_
    exact zt_iret hX hR dX5_takeNumber_99 ⟨by omega, by omega⟩ ⟨hI49, hF52, by omega, by omega, by omega, by omega⟩

set_option maxRecDepth 100000 in
set_option maxHeartbeats 4000000 in
theorem zc_X1_isValue (l : Launch) (E : zEN) (σ : zSto) (hI : zInv σ) (a1_ : Int) (ha1_ : -2147483648 ≤ a1_ ∧ a1_ ≤ 2147483647) : zCt l E yX1_isValue cX1_isValue 2 (some .boolean) 0 zNC zNC 0 0 σ [.ref (E.1 + 33), .int (zI a1_)] (fun r σ' => σ = σ' ∧ 0 ≤ r ∧ r ≤ 1) := by
  refine zCt_of2 [some (.ref (E.1 + 33)), some (.int (zI a1_))] (by decide +kernel) (Nat.le_of_ble_eq_true rfl) rfl ?_
  intro X hE hX hR hL hN
  subst hE
  have hX : zok X cX1_isValue RX1 0 := hX
  refine zt_iload_n (pc' := 1) hX dX1_isValue_0 rfl rfl ?_
  rcases (show a1_ = 6 ∨ a1_ = 7 ∨ a1_ = 8 ∨ a1_ = 9 ∨ a1_ = 10 ∨ a1_ = 11 ∨ a1_ = 12 ∨ a1_ = 13 ∨ a1_ = 14 ∨ a1_ = 15 ∨ a1_ = 16 ∨ a1_ = 17 ∨ a1_ = 18 ∨ a1_ = 19 ∨ (a1_ < 6 ∨ 19 < a1_) by omega) with c1 | c1 | c1 | c1 | c1 | c1 | c1 | c1 | c1 | c1 | c1 | c1 | c1 | c1 | c1
  · refine zt_tsIn (v := 6) (tgt := 87) hX dX1_isValue_1 c1 (by decide) (by decide) (by decide) rfl (by decide) ?_
    refine zt_aload_n (pc' := 88) hX dX1_isValue_87 rfl rfl ?_
    have b2 := zv_20_2 hI zc_33
    refine zt_get (pc' := 91) (v := .int (zI (σ 33 2))) hX dX1_isValue_88 rfl zf_X1_9 (by decide) zc_33 zs_20 rfl ?_
    refine zt_ifeq (pc' := 94) (tgt := 98) hX dX1_isValue_91 rfl (by decide) ⟨by omega, by omega⟩ (fun c3 => ?_) (fun c3 => ?_)
    · refine zt_iconst (pc' := 99) hX dX1_isValue_98 rfl ?_
      exact zt_zret hX hR dX1_isValue_99 ⟨by omega, by omega⟩ ⟨rfl, by omega, by omega⟩
    · refine zt_iconst (pc' := 95) hX dX1_isValue_94 rfl ?_
      refine zt_goto (tgt := 99) hX dX1_isValue_95 (by decide) ?_
      exact zt_zret hX hR dX1_isValue_99 ⟨by omega, by omega⟩ ⟨rfl, by omega, by omega⟩
  · refine zt_tsIn (v := 7) (tgt := 114) hX dX1_isValue_1 c1 (by decide) (by decide) (by decide) rfl (by decide) ?_
    refine zt_iconst (pc' := 115) hX dX1_isValue_114 rfl ?_
    exact zt_zret hX hR dX1_isValue_115 ⟨by omega, by omega⟩ ⟨rfl, by omega, by omega⟩
  · refine zt_tsIn (v := 8) (tgt := 100) hX dX1_isValue_1 c1 (by decide) (by decide) (by decide) rfl (by decide) ?_
    refine zt_aload_n (pc' := 101) hX dX1_isValue_100 rfl rfl ?_
    have b4 := zv_20_2 hI zc_33
    refine zt_get (pc' := 104) (v := .int (zI (σ 33 2))) hX dX1_isValue_101 rfl zf_X1_9 (by decide) zc_33 zs_20 rfl ?_
    refine zt_iconst (pc' := 105) hX dX1_isValue_104 rfl ?_
    refine zt_icne (pc' := 108) (tgt := 112) hX dX1_isValue_105 rfl (by decide) ⟨by omega, by omega⟩ ⟨by omega, by omega⟩ (fun c5 => ?_) (fun c5 => ?_)
    · refine zt_iconst (pc' := 113) hX dX1_isValue_112 rfl ?_
      exact zt_zret hX hR dX1_isValue_113 ⟨by omega, by omega⟩ ⟨rfl, by omega, by omega⟩
    · refine zt_iconst (pc' := 109) hX dX1_isValue_108 rfl ?_
      refine zt_goto (tgt := 113) hX dX1_isValue_109 (by decide) ?_
      exact zt_zret hX hR dX1_isValue_113 ⟨by omega, by omega⟩ ⟨rfl, by omega, by omega⟩
  · refine zt_tsIn (v := 9) (tgt := 114) hX dX1_isValue_1 c1 (by decide) (by decide) (by decide) rfl (by decide) ?_
    refine zt_iconst (pc' := 115) hX dX1_isValue_114 rfl ?_
    exact zt_zret hX hR dX1_isValue_115 ⟨by omega, by omega⟩ ⟨rfl, by omega, by omega⟩
  · refine zt_tsIn (v := 10) (tgt := 114) hX dX1_isValue_1 c1 (by decide) (by decide) (by decide) rfl (by decide) ?_
    refine zt_iconst (pc' := 115) hX dX1_isValue_114 rfl ?_
    exact zt_zret hX hR dX1_isValue_115 ⟨by omega, by omega⟩ ⟨rfl, by omega, by omega⟩
  · refine zt_tsIn (v := 11) (tgt := 114) hX dX1_isValue_1 c1 (by decide) (by decide) (by decide) rfl (by decide) ?_
    refine zt_iconst (pc' := 115) hX dX1_isValue_114 rfl ?_
    exact zt_zret hX hR dX1_isValue_115 ⟨by omega, by omega⟩ ⟨rfl, by omega, by omega⟩
  · refine zt_tsIn (v := 12) (tgt := 72) hX dX1_isValue_1 c1 (by decide) (by decide) (by decide) rfl (by decide) ?_
    refine zt_iconst (pc' := 73) hX dX1_isValue_72 rfl ?_
    exact zt_zret hX hR dX1_isValue_73 ⟨by omega, by omega⟩ ⟨rfl, by omega, by omega⟩
  · refine zt_tsIn (v := 13) (tgt := 72) hX dX1_isValue_1 c1 (by decide) (by decide) (by decide) rfl (by decide) ?_
    refine zt_iconst (pc' := 73) hX dX1_isValue_72 rfl ?_
    exact zt_zret hX hR dX1_isValue_73 ⟨by omega, by omega⟩ ⟨rfl, by omega, by omega⟩
  · refine zt_tsIn (v := 14) (tgt := 74) hX dX1_isValue_1 c1 (by decide) (by decide) (by decide) rfl (by decide) ?_
    refine zt_aload_n (pc' := 75) hX dX1_isValue_74 rfl rfl ?_
    have b6 := zv_20_2 hI zc_33
    refine zt_get (pc' := 78) (v := .int (zI (σ 33 2))) hX dX1_isValue_75 rfl zf_X1_9 (by decide) zc_33 zs_20 rfl ?_
    refine zt_ifne (pc' := 81) (tgt := 85) hX dX1_isValue_78 rfl (by decide) ⟨by omega, by omega⟩ (fun c7 => ?_) (fun c7 => ?_)
    · refine zt_iconst (pc' := 86) hX dX1_isValue_85 rfl ?_
      exact zt_zret hX hR dX1_isValue_86 ⟨by omega, by omega⟩ ⟨rfl, by omega, by omega⟩
    · refine zt_iconst (pc' := 82) hX dX1_isValue_81 rfl ?_
      refine zt_goto (tgt := 86) hX dX1_isValue_82 (by decide) ?_
      exact zt_zret hX hR dX1_isValue_86 ⟨by omega, by omega⟩ ⟨rfl, by omega, by omega⟩
  · refine zt_tsIn (v := 15) (tgt := 87) hX dX1_isValue_1 c1 (by decide) (by decide) (by decide) rfl (by decide) ?_
    refine zt_aload_n (pc' := 88) hX dX1_isValue_87 rfl rfl ?_
    have b8 := zv_20_2 hI zc_33
    refine zt_get (pc' := 91) (v := .int (zI (σ 33 2))) hX dX1_isValue_88 rfl zf_X1_9 (by decide) zc_33 zs_20 rfl ?_
    refine zt_ifeq (pc' := 94) (tgt := 98) hX dX1_isValue_91 rfl (by decide) ⟨by omega, by omega⟩ (fun c9 => ?_) (fun c9 => ?_)
    · refine zt_iconst (pc' := 99) hX dX1_isValue_98 rfl ?_
      exact zt_zret hX hR dX1_isValue_99 ⟨by omega, by omega⟩ ⟨rfl, by omega, by omega⟩
    · refine zt_iconst (pc' := 95) hX dX1_isValue_94 rfl ?_
      refine zt_goto (tgt := 99) hX dX1_isValue_95 (by decide) ?_
      exact zt_zret hX hR dX1_isValue_99 ⟨by omega, by omega⟩ ⟨rfl, by omega, by omega⟩
  · refine zt_tsIn (v := 16) (tgt := 87) hX dX1_isValue_1 c1 (by decide) (by decide) (by decide) rfl (by decide) ?_
    refine zt_aload_n (pc' := 88) hX dX1_isValue_87 rfl rfl ?_
    have b10 := zv_20_2 hI zc_33
    refine zt_get (pc' := 91) (v := .int (zI (σ 33 2))) hX dX1_isValue_88 rfl zf_X1_9 (by decide) zc_33 zs_20 rfl ?_
    refine zt_ifeq (pc' := 94) (tgt := 98) hX dX1_isValue_91 rfl (by decide) ⟨by omega, by omega⟩ (fun c11 => ?_) (fun c11 => ?_)
    · refine zt_iconst (pc' := 99) hX dX1_isValue_98 rfl ?_
      exact zt_zret hX hR dX1_isValue_99 ⟨by omega, by omega⟩ ⟨rfl, by omega, by omega⟩
    · refine zt_iconst (pc' := 95) hX dX1_isValue_94 rfl ?_
      refine zt_goto (tgt := 99) hX dX1_isValue_95 (by decide) ?_
      exact zt_zret hX hR dX1_isValue_99 ⟨by omega, by omega⟩ ⟨rfl, by omega, by omega⟩
  · refine zt_tsIn (v := 17) (tgt := 100) hX dX1_isValue_1 c1 (by decide) (by decide) (by decide) rfl (by decide) ?_
    refine zt_aload_n (pc' := 101) hX dX1_isValue_100 rfl rfl ?_
    have b12 := zv_20_2 hI zc_33
    refine zt_get (pc' := 104) (v := .int (zI (σ 33 2))) hX dX1_isValue_101 rfl zf_X1_9 (by decide) zc_33 zs_20 rfl ?_
    refine zt_iconst (pc' := 105) hX dX1_isValue_104 rfl ?_
    refine zt_icne (pc' := 108) (tgt := 112) hX dX1_isValue_105 rfl (by decide) ⟨by omega, by omega⟩ ⟨by omega, by omega⟩ (fun c13 => ?_) (fun c13 => ?_)
    · refine zt_iconst (pc' := 113) hX dX1_isValue_112 rfl ?_
      exact zt_zret hX hR dX1_isValue_113 ⟨by omega, by omega⟩ ⟨rfl, by omega, by omega⟩
    · refine zt_iconst (pc' := 109) hX dX1_isValue_108 rfl ?_
      refine zt_goto (tgt := 113) hX dX1_isValue_109 (by decide) ?_
      exact zt_zret hX hR dX1_isValue_113 ⟨by omega, by omega⟩ ⟨rfl, by omega, by omega⟩
  · refine zt_tsIn (v := 18) (tgt := 100) hX dX1_isValue_1 c1 (by decide) (by decide) (by decide) rfl (by decide) ?_
    refine zt_aload_n (pc' := 101) hX dX1_isValue_100 rfl rfl ?_
    have b14 := zv_20_2 hI zc_33
    refine zt_get (pc' := 104) (v := .int (zI (σ 33 2))) hX dX1_isValue_101 rfl zf_X1_9 (by decide) zc_33 zs_20 rfl ?_
    refine zt_iconst (pc' := 105) hX dX1_isValue_104 rfl ?_
    refine zt_icne (pc' := 108) (tgt := 112) hX dX1_isValue_105 rfl (by decide) ⟨by omega, by omega⟩ ⟨by omega, by omega⟩ (fun c15 => ?_) (fun c15 => ?_)
    · refine zt_iconst (pc' := 113) hX dX1_isValue_112 rfl ?_
      exact zt_zret hX hR dX1_isValue_113 ⟨by omega, by omega⟩ ⟨rfl, by omega, by omega⟩
    · refine zt_iconst (pc' := 109) hX dX1_isValue_108 rfl ?_
      refine zt_goto (tgt := 113) hX dX1_isValue_109 (by decide) ?_
      exact zt_zret hX hR dX1_isValue_113 ⟨by omega, by omega⟩ ⟨rfl, by omega, by omega⟩
  · refine zt_tsIn (v := 19) (tgt := 100) hX dX1_isValue_1 c1 (by decide) (by decide) (by decide) rfl (by decide) ?_
    refine zt_aload_n (pc' := 101) hX dX1_isValue_100 rfl rfl ?_
    have b16 := zv_20_2 hI zc_33
    refine zt_get (pc' := 104) (v := .int (zI (σ 33 2))) hX dX1_isValue_101 rfl zf_X1_9 (by decide) zc_33 zs_20 rfl ?_
    refine zt_iconst (pc' := 105) hX dX1_isValue_104 rfl ?_
    refine zt_icne (pc' := 108) (tgt := 112) hX dX1_isValue_105 rfl (by decide) ⟨by omega, by omega⟩ ⟨by omega, by omega⟩ (fun c17 => ?_) (fun c17 => ?_)
    · refine zt_iconst (pc' := 113) hX dX1_isValue_112 rfl ?_
      exact zt_zret hX hR dX1_isValue_113 ⟨by omega, by omega⟩ ⟨rfl, by omega, by omega⟩
    · refine zt_iconst (pc' := 109) hX dX1_isValue_108 rfl ?_
      refine zt_goto (tgt := 113) hX dX1_isValue_109 (by decide) ?_
      exact zt_zret hX hR dX1_isValue_113 ⟨by omega, by omega⟩ ⟨rfl, by omega, by omega⟩
  · refine zt_tsOut (tgt := 114) hX dX1_isValue_1 ⟨by omega, by omega⟩ c1 (by decide) ?_
    refine zt_iconst (pc' := 115) hX dX1_isValue_114 rfl ?_
    exact zt_zret hX hR dX1_isValue_115 ⟨by omega, by omega⟩ ⟨rfl, by omega, by omega⟩

set_option maxRecDepth 100000 in
set_option maxHeartbeats 4000000 in
theorem zc_X1_opens_o6 (l : Launch) (E : zEN) (σ : zSto) (hI : zInv σ) (hpre0 : σ 27 5 ≤ 1600) : zCt l E yX1_opens cX1_opens 2 (some .boolean) 1 zNC zNC 0 0 σ [.ref (E.1 + 33), .int (zI 6)] (fun r σ' => zInv σ' ∧ zFA σ σ' ∧ 0 ≤ r ∧ r ≤ 0 ∧ (σ' 27 5 = σ 27 5)) := by
  refine zCt_of2 [some (.ref (E.1 + 33)), some (.int (zI 6))] (by decide +kernel) (Nat.le_of_ble_eq_true rfl) rfl ?_
  intro X hE hX hR hL hN
  subst hE
  have hX : zok X cX1_opens RX1 1 := hX
  have hF := zFA_rf σ
  have b1 := zv_14_5 hI zc_27
  refine zt_iload_n (pc' := 1) hX dX1_opens_0 rfl rfl ?_
  refine zt_bipush (pc' := 3) hX dX1_opens_1 rfl (by decide) (by decide) ?_
  refine zt_iclt (pc' := 6) (tgt := 23) hX dX1_opens_3 rfl (by decide) ⟨by omega, by omega⟩ ⟨by omega, by omega⟩ (fun c2 => ?_) (fun c2 => ?_)
  · exact absurd c2 (by omega)
  · refine zt_aload_n (pc' := 7) hX dX1_opens_6 rfl rfl ?_
    refine zt_get (pc' := 10) (v := .ref (X.1.1 + 27)) hX dX1_opens_7 rfl zf_X1_15 (by decide) zc_33 zs_20 (zrf_of (zv_20_0 hI zc_33)) ?_
    refine zt_iconst (pc' := 11) hX dX1_opens_10 rfl ?_
    refine zt_aload_n (pc' := 12) hX dX1_opens_11 rfl rfl ?_
    refine zt_get (pc' := 15) (v := .ref (X.1.1 + 27)) hX dX1_opens_12 rfl zf_X1_15 (by decide) zc_33 zs_20 (zrf_of (zv_20_0 hI zc_33)) ?_
    refine zt_cVi (pc' := 18) hX dX1_opens_15 rfl zm_yX5_placeHere zw_22_9 zc_27 (by decide) zs_14 (q := (RX5, TX5, 9)) rfl rfl (zc_X5_placeHere _ _ σ hI ) rfl rfl (Nat.le_of_ble_eq_true rfl) (by decide) (fun r3 s4 hr5 hp6 => ?_)
    obtain ⟨rfl, q7, q8⟩ := hp6
    refine zt_cVv (pc' := 21) hX dX1_opens_18 rfl zm_yX5_refuse zw_22_10 zc_27 (by decide) zs_14 (q := (RX5, TX5, 9)) rfl rfl (zc_X5_refuse _ _ σ hI 4 ⟨by omega, by omega⟩ r3 ⟨by omega, by omega⟩ (by omega)) rfl rfl (Nat.le_of_ble_eq_true rfl) (by decide) (fun r9 s10 hr11 hp12 => ?_)
    obtain ⟨hI13, hF14, z15⟩ := hp12
    have hF16 := zFA_tr hF hF14
    have b17 := zv_14_5 hI13 zc_27
    refine zt_iconst (pc' := 22) hX dX1_opens_21 rfl ?_
    exact zt_zret hX hR dX1_opens_22 ⟨by omega, by omega⟩ ⟨hI13, hF16, by omega, by omega, by omega⟩

set_option maxRecDepth 100000 in
set_option maxHeartbeats 4000000 in
theorem zc_X1_pair_o6 (l : Launch) (E : zEN) (σ : zSto) (hI : zInv σ) (hpre0 : σ 27 5 ≤ 1600) : zCt l E yX1_pair cX1_pair 2 none 2 zNC zNC 0 0 σ [.ref (E.1 + 33), .int (zI 6)] (fun r σ' => zInv σ' ∧ zFA σ σ' ∧ (σ' 27 5 = σ 27 5)) := by
  refine zCt_of2 [some (.ref (E.1 + 33)), some (.int (zI 6))] (by decide +kernel) (Nat.le_of_ble_eq_true rfl) rfl ?_
  intro X hE hX hR hL hN
  subst hE
  have hX : zok X cX1_pair RX1 2 := hX
  have hF := zFA_rf σ
  have b1 := zv_14_5 hI zc_27
  refine zt_aload_n (pc' := 1) hX dX1_pair_0 rfl rfl ?_
  refine zt_get (pc' := 4) (v := .ref (X.1.1 + 27)) hX dX1_pair_1 rfl zf_X1_15 (by decide) zc_33 zs_20 (zrf_of (zv_20_0 hI zc_33)) ?_
  refine zt_cVi (pc' := 7) hX dX1_pair_4 rfl zm_yX5_signHere zw_22_2 zc_27 (by decide) zs_14 (q := (RX5, TX5, 9)) rfl rfl (zc_X5_signHere _ _ σ hI ) rfl rfl (Nat.le_of_ble_eq_true rfl) (by decide) (fun r2 s3 hr4 hp5 => ?_)
  obtain ⟨rfl, q6, q7⟩ := hp5
  refine zt_bipush (pc' := 9) hX dX1_pair_7 rfl (by decide) (by decide) ?_
  refine zt_iceq (pc' := 12) (tgt := 30) hX dX1_pair_9 rfl (by decide) ⟨by omega, by omega⟩ ⟨by omega, by omega⟩ (fun c8 => ?_) (fun c8 => ?_)
  · refine zt_aload_n (pc' := 31) hX dX1_pair_30 rfl rfl ?_
    refine zt_iload_n (pc' := 32) hX dX1_pair_31 rfl rfl ?_
    refine zt_cVz (pc' := 35) hX dX1_pair_32 rfl zm_yX1_opens zw_22_11 zc_33 (by decide) zs_20 (q := (RX1, TX1, 3)) rfl rfl (zc_X1_opens_o6 _ _ σ hI (by omega)) rfl rfl (Nat.le_of_ble_eq_true rfl) (by decide) (fun r9 s10 hr11 hp12 => ?_)
    obtain ⟨hI13, hF14, q15, q16, z17⟩ := hp12
    have hF18 := zFA_tr hF hF14
    have b19 := zv_14_5 hI13 zc_27
    refine zt_ifeq (pc' := 38) (tgt := 70) hX dX1_pair_35 rfl (by decide) ⟨by omega, by omega⟩ (fun c20 => ?_) (fun c20 => ?_)
    · exact zt_vret hX hR dX1_pair_70 ⟨hI13, hF18, by omega⟩
    · exact absurd c20 (by omega)
  · refine zt_aload_n (pc' := 13) hX dX1_pair_12 rfl rfl ?_
    refine zt_get (pc' := 16) (v := .ref (X.1.1 + 27)) hX dX1_pair_13 rfl zf_X1_15 (by decide) zc_33 zs_20 (zrf_of (zv_20_0 hI zc_33)) ?_
    refine zt_iconst (pc' := 17) hX dX1_pair_16 rfl ?_
    refine zt_aload_n (pc' := 18) hX dX1_pair_17 rfl rfl ?_
    refine zt_get (pc' := 21) (v := .ref (X.1.1 + 27)) hX dX1_pair_18 rfl zf_X1_15 (by decide) zc_33 zs_20 (zrf_of (zv_20_0 hI zc_33)) ?_
    refine zt_cVi (pc' := 24) hX dX1_pair_21 rfl zm_yX5_placeHere zw_22_9 zc_27 (by decide) zs_14 (q := (RX5, TX5, 9)) rfl rfl (zc_X5_placeHere _ _ σ hI ) rfl rfl (Nat.le_of_ble_eq_true rfl) (by decide) (fun r21 s22 hr23 hp24 => ?_)
    obtain ⟨rfl, q25, q26⟩ := hp24
    refine zt_cVv (pc' := 27) hX dX1_pair_24 rfl zm_yX5_refuse zw_22_10 zc_27 (by decide) zs_14 (q := (RX5, TX5, 9)) rfl rfl (zc_X5_refuse _ _ σ hI 1 ⟨by omega, by omega⟩ r21 ⟨by omega, by omega⟩ (by omega)) rfl rfl (Nat.le_of_ble_eq_true rfl) (by decide) (fun r27 s28 hr29 hp30 => ?_)
    obtain ⟨hI31, hF32, z33⟩ := hp30
    have hF34 := zFA_tr hF hF32
    have b35 := zv_14_5 hI31 zc_27
    refine zt_goto (tgt := 70) hX dX1_pair_27 (by decide) ?_
    exact zt_vret hX hR dX1_pair_70 ⟨hI31, hF34, by omega⟩

set_option maxRecDepth 100000 in
set_option maxHeartbeats 4000000 in
theorem zc_X1_part_o6 (l : Launch) (E : zEN) (σ : zSto) (hI : zInv σ) (hpre0 : σ 27 5 ≤ 1600) : zCt l E yX1_part cX1_part 4 none 3 zNC zNC 0 0 σ [.ref (E.1 + 33), .int (zI 6)] (fun r σ' => zInv σ' ∧ zFA σ σ' ∧ (σ' 27 5 = σ 27 5)) := by
  refine zCt_of2 [some (.ref (E.1 + 33)), some (.int (zI 6)), none, none] (by decide +kernel) (Nat.le_of_ble_eq_true rfl) rfl ?_
  intro X hE hX hR hL hN
  subst hE
  have hX : zok X cX1_part RX1 3 := hX
  have hF := zFA_rf σ
  have b1 := zv_14_5 hI zc_27
  refine zt_aload_n (pc' := 1) hX dX1_part_0 rfl rfl ?_
  refine zt_get (pc' := 4) (v := .ref (X.1.1 + 27)) hX dX1_part_1 rfl zf_X1_15 (by decide) zc_33 zs_20 (zrf_of (zv_20_0 hI zc_33)) ?_
  refine zt_cVi (pc' := 7) hX dX1_part_4 rfl zm_yX5_wordHere zw_22_21 zc_27 (by decide) zs_14 (q := (RX5, TX5, 9)) rfl rfl (zc_X5_wordHere _ _ σ hI ) rfl rfl (Nat.le_of_ble_eq_true rfl) (by decide) (fun r2 s3 hr4 hp5 => ?_)
  obtain ⟨rfl, q6, q7⟩ := hp5
  refine zt_istore_n (pc' := 8) (lv' := [some (.ref (X.1.1 + 33)), some (.int (zI 6)), some (.int (zI r2)), none]) hX dX1_part_7 rfl hL (by decide) rfl ?_
  refine zt_aload_n (pc' := 9) hX dX1_part_8 rfl rfl ?_
  refine zt_get (pc' := 12) (v := .ref (X.1.1 + 27)) hX dX1_part_9 rfl zf_X1_15 (by decide) zc_33 zs_20 (zrf_of (zv_20_0 hI zc_33)) ?_
  refine zt_cVi (pc' := 15) hX dX1_part_12 rfl zm_yX5_kindHere zw_22_22 zc_27 (by decide) zs_14 (q := (RX5, TX5, 9)) rfl rfl (zc_X5_kindHere _ _ σ hI ) rfl rfl (Nat.le_of_ble_eq_true rfl) (by decide) (fun r8 s9 hr10 hp11 => ?_)
  obtain ⟨rfl, q12, q13⟩ := hp11
  refine zt_istore_n (pc' := 16) (lv' := [some (.ref (X.1.1 + 33)), some (.int (zI 6)), some (.int (zI r2)), some (.int (zI r8))]) hX dX1_part_15 rfl hL (by decide) rfl ?_
  refine zt_iload_n (pc' := 17) hX dX1_part_16 rfl rfl ?_
  refine zt_iconst (pc' := 18) hX dX1_part_17 rfl ?_
  have J_26_13 : zF X σ 26 [some (.ref (X.1.1 + 33)), none, none, none] [] := by
    refine zt_aload_n (pc' := 27) hX dX1_part_26 rfl rfl ?_
    obtain ⟨k15, ek16, hk17⟩ := zv_20_1 hI zc_33
    refine zt_get (pc' := 30) (v := .ref (X.1.1 + k15)) hX dX1_part_27 rfl zf_X1_19 (by decide) zc_33 zs_20 (zrf_of ek16) ?_
    refine zt_aload_n (pc' := 31) hX dX1_part_30 rfl rfl ?_
    refine zt_get (pc' := 34) (v := .ref (X.1.1 + 27)) hX dX1_part_31 rfl zf_X1_15 (by decide) zc_33 zs_20 (zrf_of (zv_20_0 hI zc_33)) ?_
    refine zt_iconst (pc' := 35) hX dX1_part_34 rfl ?_
    refine zt_sipush (pc' := 38) hX dX1_part_35 rfl (by decide) (by decide) ?_
    refine zt_cVi (pc' := 41) hX dX1_part_38 rfl zm_yX5_takeNumber zw_22_23 zc_27 (by decide) zs_14 (q := (RX5, TX5, 9)) rfl rfl (zc_X5_takeNumber _ _ σ hI 0 ⟨by omega, by omega⟩ 9999 ⟨by omega, by omega⟩ (by omega)) rfl rfl (Nat.le_of_ble_eq_true rfl) (by decide) (fun r18 s19 hr20 hp21 => ?_)
    obtain ⟨hI22, hF23, q24, q25, z26, z27⟩ := hp21
    have hF28 := zFA_tr hF hF23
    have b29 := zv_14_5 hI22 zc_27
    refine zt_cVv (pc' := 44) hX dX1_part_41 rfl zm_yX4_addNumber zw_23_0 hk17 (by decide) zs_6 (q := (RX4, TX4, 2)) rfl rfl (zc_X4_addNumber _ _ s19 hI22 k15 hk17 r18 ⟨by omega, by omega⟩) rfl rfl (Nat.le_of_ble_eq_true rfl) (by decide) (fun r30 s31 hr32 hp33 => ?_)
    obtain ⟨hI34, hF35, z36⟩ := hp33
    have hF37 := zFA_tr hF28 hF35
    have b38 := zv_14_5 hI34 zc_27
    refine zt_goto (tgt := 203) hX dX1_part_44 (by decide) ?_
    exact zt_vret hX hR dX1_part_203 ⟨hI34, hF37, by omega⟩
  refine zt_iceq (pc' := 21) (tgt := 26) hX dX1_part_18 rfl (by decide) ⟨by omega, by omega⟩ ⟨by omega, by omega⟩ (fun c39 => ?_) (fun c39 => ?_)
  · refine zt_mask [true, false, false, false] rfl ?_
    exact J_26_13
  · refine zt_iload_n (pc' := 22) hX dX1_part_21 rfl rfl ?_
    refine zt_iconst (pc' := 23) hX dX1_part_22 rfl ?_
    refine zt_icne (pc' := 26) (tgt := 47) hX dX1_part_23 rfl (by decide) ⟨by omega, by omega⟩ ⟨by omega, by omega⟩ (fun c40 => ?_) (fun c40 => ?_)
    · refine zt_aload_n (pc' := 48) hX dX1_part_47 rfl rfl ?_
      refine zt_get (pc' := 51) (v := .ref (X.1.1 + 27)) hX dX1_part_48 rfl zf_X1_15 (by decide) zc_33 zs_20 (zrf_of (zv_20_0 hI zc_33)) ?_
      refine zt_cVi (pc' := 54) hX dX1_part_51 rfl zm_yX5_signHere zw_22_2 zc_27 (by decide) zs_14 (q := (RX5, TX5, 9)) rfl rfl (zc_X5_signHere _ _ σ hI ) rfl rfl (Nat.le_of_ble_eq_true rfl) (by decide) (fun r41 s42 hr43 hp44 => ?_)
      obtain ⟨rfl, q45, q46⟩ := hp44
      refine zt_bipush (pc' := 56) hX dX1_part_54 rfl (by decide) (by decide) ?_
      refine zt_icne (pc' := 59) (tgt := 86) hX dX1_part_56 rfl (by decide) ⟨by omega, by omega⟩ ⟨by omega, by omega⟩ (fun c47 => ?_) (fun c47 => ?_)
      · refine zt_iload_n (pc' := 87) hX dX1_part_86 rfl rfl ?_
        refine zt_bipush (pc' := 89) hX dX1_part_87 rfl (by decide) (by decide) ?_
        have J_98_47 : zF X σ 98 [some (.ref (X.1.1 + 33)), some (.int (zI 6)), some (.int (zI r2)), none] [] := by
          refine zt_aload_n (pc' := 99) hX dX1_part_98 rfl rfl ?_
          refine zt_get (pc' := 102) (v := .ref (X.1.1 + 27)) hX dX1_part_99 rfl zf_X1_15 (by decide) zc_33 zs_20 (zrf_of (zv_20_0 hI zc_33)) ?_
          refine zt_cVv (pc' := 105) hX dX1_part_102 rfl zm_yX5_step zw_22_6 zc_27 (by decide) zs_14 (q := (RX5, TX5, 9)) rfl rfl (zc_X5_step _ _ σ hI (by omega)) rfl rfl (Nat.le_of_ble_eq_true rfl) (by decide) (fun r49 s50 hr51 hp52 => ?_)
          obtain ⟨hI53, hF54, z55⟩ := hp52
          have hF56 := zFA_tr hF hF54
          have b57 := zv_14_5 hI53 zc_27
          refine zt_aload_n (pc' := 106) hX dX1_part_105 rfl rfl ?_
          refine zt_iload_n (pc' := 107) hX dX1_part_106 rfl rfl ?_
          refine zt_cVv (pc' := 110) hX dX1_part_107 rfl zm_yX1_pair zw_23_1 zc_33 (by decide) zs_20 (q := (RX1, TX1, 3)) rfl rfl (zc_X1_pair_o6 _ _ s50 hI53 (by omega)) rfl rfl (Nat.le_of_ble_eq_true rfl) (by decide) (fun r58 s59 hr60 hp61 => ?_)
          obtain ⟨hI62, hF63, z64⟩ := hp61
          have hF65 := zFA_tr hF56 hF63
          have b66 := zv_14_5 hI62 zc_27
          refine zt_aload_n (pc' := 111) hX dX1_part_110 rfl rfl ?_
          obtain ⟨k67, ek68, hk69⟩ := zv_20_1 hI62 zc_33
          refine zt_get (pc' := 114) (v := .ref (X.1.1 + k67)) hX dX1_part_111 rfl zf_X1_19 (by decide) zc_33 zs_20 (zrf_of ek68) ?_
          refine zt_iload_n (pc' := 115) hX dX1_part_114 rfl rfl ?_
          refine zt_cVv (pc' := 118) hX dX1_part_115 rfl zm_yX4_addStep zw_22_7 hk69 (by decide) zs_6 (q := (RX4, TX4, 2)) rfl rfl (zc_X4_addStep _ _ s59 hI62 k67 hk69 r2 ⟨by omega, by omega⟩) rfl rfl (Nat.le_of_ble_eq_true rfl) (by decide) (fun r70 s71 hr72 hp73 => ?_)
          obtain ⟨hI74, hF75, z76⟩ := hp73
          have hF77 := zFA_tr hF65 hF75
          have b78 := zv_14_5 hI74 zc_27
          refine zt_goto (tgt := 203) hX dX1_part_118 (by decide) ?_
          exact zt_vret hX hR dX1_part_203 ⟨hI74, hF77, by omega⟩
        refine zt_iceq (pc' := 92) (tgt := 98) hX dX1_part_89 rfl (by decide) ⟨by omega, by omega⟩ ⟨by omega, by omega⟩ (fun c79 => ?_) (fun c79 => ?_)
        · refine zt_mask [true, true, true, false] rfl ?_
          exact J_98_47
        · refine zt_iload_n (pc' := 93) hX dX1_part_92 rfl rfl ?_
          refine zt_bipush (pc' := 95) hX dX1_part_93 rfl (by decide) (by decide) ?_
          refine zt_icne (pc' := 98) (tgt := 121) hX dX1_part_95 rfl (by decide) ⟨by omega, by omega⟩ ⟨by omega, by omega⟩ (fun c80 => ?_) (fun c80 => ?_)
          · refine zt_iload_n (pc' := 122) hX dX1_part_121 rfl rfl ?_
            refine zt_bipush (pc' := 124) hX dX1_part_122 rfl (by decide) (by decide) ?_
            have J_162_80 : zF X σ 162 [some (.ref (X.1.1 + 33)), none, some (.int (zI r2)), none] [] := by
              refine zt_aload_n (pc' := 163) hX dX1_part_162 rfl rfl ?_
              refine zt_iload_n (pc' := 164) hX dX1_part_163 rfl rfl ?_
              refine zt_cVz (pc' := 167) hX dX1_part_164 rfl zm_yX1_isValue zw_23_7 zc_33 (by decide) zs_20 (q := (RX1, TX1, 3)) rfl rfl (zc_X1_isValue _ _ σ hI r2 ⟨by omega, by omega⟩) rfl rfl (Nat.le_of_ble_eq_true rfl) (by decide) (fun r82 s83 hr84 hp85 => ?_)
              obtain ⟨rfl, q86, q87⟩ := hp85
              refine zt_ifeq (pc' := 170) (tgt := 188) hX dX1_part_167 rfl (by decide) ⟨by omega, by omega⟩ (fun c88 => ?_) (fun c88 => ?_)
              · refine zt_aload_n (pc' := 189) hX dX1_part_188 rfl rfl ?_
                refine zt_get (pc' := 192) (v := .ref (X.1.1 + 27)) hX dX1_part_189 rfl zf_X1_15 (by decide) zc_33 zs_20 (zrf_of (zv_20_0 hI zc_33)) ?_
                refine zt_iconst (pc' := 193) hX dX1_part_192 rfl ?_
                refine zt_aload_n (pc' := 194) hX dX1_part_193 rfl rfl ?_
                refine zt_get (pc' := 197) (v := .ref (X.1.1 + 27)) hX dX1_part_194 rfl zf_X1_15 (by decide) zc_33 zs_20 (zrf_of (zv_20_0 hI zc_33)) ?_
                refine zt_cVi (pc' := 200) hX dX1_part_197 rfl zm_yX5_placeHere zw_22_9 zc_27 (by decide) zs_14 (q := (RX5, TX5, 9)) rfl rfl (zc_X5_placeHere _ _ σ hI ) rfl rfl (Nat.le_of_ble_eq_true rfl) (by decide) (fun r89 s90 hr91 hp92 => ?_)
                obtain ⟨rfl, q93, q94⟩ := hp92
                refine zt_cVv (pc' := 203) hX dX1_part_200 rfl zm_yX5_refuse zw_22_10 zc_27 (by decide) zs_14 (q := (RX5, TX5, 9)) rfl rfl (zc_X5_refuse _ _ σ hI 1 ⟨by omega, by omega⟩ r89 ⟨by omega, by omega⟩ (by omega)) rfl rfl (Nat.le_of_ble_eq_true rfl) (by decide) (fun r95 s96 hr97 hp98 => ?_)
                obtain ⟨hI99, hF100, z101⟩ := hp98
                have hF102 := zFA_tr hF hF100
                have b103 := zv_14_5 hI99 zc_27
                exact zt_vret hX hR dX1_part_203 ⟨hI99, hF102, by omega⟩
              · refine zt_aload_n (pc' := 171) hX dX1_part_170 rfl rfl ?_
                refine zt_get (pc' := 174) (v := .ref (X.1.1 + 27)) hX dX1_part_171 rfl zf_X1_15 (by decide) zc_33 zs_20 (zrf_of (zv_20_0 hI zc_33)) ?_
                refine zt_cVv (pc' := 177) hX dX1_part_174 rfl zm_yX5_step zw_22_6 zc_27 (by decide) zs_14 (q := (RX5, TX5, 9)) rfl rfl (zc_X5_step _ _ σ hI (by omega)) rfl rfl (Nat.le_of_ble_eq_true rfl) (by decide) (fun r104 s105 hr106 hp107 => ?_)
                obtain ⟨hI108, hF109, z110⟩ := hp107
                have hF111 := zFA_tr hF hF109
                have b112 := zv_14_5 hI108 zc_27
                refine zt_aload_n (pc' := 178) hX dX1_part_177 rfl rfl ?_
                obtain ⟨k113, ek114, hk115⟩ := zv_20_1 hI108 zc_33
                refine zt_get (pc' := 181) (v := .ref (X.1.1 + k113)) hX dX1_part_178 rfl zf_X1_19 (by decide) zc_33 zs_20 (zrf_of ek114) ?_
                refine zt_iload_n (pc' := 182) hX dX1_part_181 rfl rfl ?_
                refine zt_cVv (pc' := 185) hX dX1_part_182 rfl zm_yX4_addStep zw_22_7 hk115 (by decide) zs_6 (q := (RX4, TX4, 2)) rfl rfl (zc_X4_addStep _ _ s105 hI108 k113 hk115 r2 ⟨by omega, by omega⟩) rfl rfl (Nat.le_of_ble_eq_true rfl) (by decide) (fun r116 s117 hr118 hp119 => ?_)
                obtain ⟨hI120, hF121, z122⟩ := hp119
                have hF123 := zFA_tr hF111 hF121
                have b124 := zv_14_5 hI120 zc_27
                refine zt_goto (tgt := 203) hX dX1_part_185 (by decide) ?_
                exact zt_vret hX hR dX1_part_203 ⟨hI120, hF123, by omega⟩
            refine zt_icne (pc' := 127) (tgt := 162) hX dX1_part_124 rfl (by decide) ⟨by omega, by omega⟩ ⟨by omega, by omega⟩ (fun c125 => ?_) (fun c125 => ?_)
            · refine zt_mask [true, false, true, false] rfl ?_
              exact J_162_80
            · refine zt_aload_n (pc' := 128) hX dX1_part_127 rfl rfl ?_
              have b126 := zv_20_2 hI zc_33
              refine zt_get (pc' := 131) (v := .int (zI (σ 33 2))) hX dX1_part_128 rfl zf_X1_9 (by decide) zc_33 zs_20 rfl ?_
              refine zt_iconst (pc' := 132) hX dX1_part_131 rfl ?_
              refine zt_icne (pc' := 135) (tgt := 162) hX dX1_part_132 rfl (by decide) ⟨by omega, by omega⟩ ⟨by omega, by omega⟩ (fun c127 => ?_) (fun c127 => ?_)
              · refine zt_mask [true, false, true, false] rfl ?_
                exact J_162_80
              · refine zt_aload_n (pc' := 136) hX dX1_part_135 rfl rfl ?_
                refine zt_iload_n (pc' := 137) hX dX1_part_136 rfl rfl ?_
                refine zt_cVz (pc' := 140) hX dX1_part_137 rfl zm_yX1_opens zw_22_11 zc_33 (by decide) zs_20 (q := (RX1, TX1, 3)) rfl rfl (zc_X1_opens_o6 _ _ σ hI (by omega)) rfl rfl (Nat.le_of_ble_eq_true rfl) (by decide) (fun r128 s129 hr130 hp131 => ?_)
                obtain ⟨hI132, hF133, q134, q135, z136⟩ := hp131
                have hF137 := zFA_tr hF hF133
                have b138 := zv_14_5 hI132 zc_27
                refine zt_ifeq (pc' := 143) (tgt := 203) hX dX1_part_140 rfl (by decide) ⟨by omega, by omega⟩ (fun c139 => ?_) (fun c139 => ?_)
                · exact zt_vret hX hR dX1_part_203 ⟨hI132, hF137, by omega⟩
                · exact absurd c139 (by omega)
          · refine zt_mask [true, true, true, false] rfl ?_
            exact J_98_47
      · refine zt_aload_n (pc' := 60) hX dX1_part_59 rfl rfl ?_
        refine zt_iload_n (pc' := 61) hX dX1_part_60 rfl rfl ?_
        refine zt_cVz (pc' := 64) hX dX1_part_61 rfl zm_yX1_opens zw_22_11 zc_33 (by decide) zs_20 (q := (RX1, TX1, 3)) rfl rfl (zc_X1_opens_o6 _ _ σ hI (by omega)) rfl rfl (Nat.le_of_ble_eq_true rfl) (by decide) (fun r140 s141 hr142 hp143 => ?_)
        obtain ⟨hI144, hF145, q146, q147, z148⟩ := hp143
        have hF149 := zFA_tr hF hF145
        have b150 := zv_14_5 hI144 zc_27
        refine zt_ifeq (pc' := 67) (tgt := 203) hX dX1_part_64 rfl (by decide) ⟨by omega, by omega⟩ (fun c151 => ?_) (fun c151 => ?_)
        · exact zt_vret hX hR dX1_part_203 ⟨hI144, hF149, by omega⟩
        · exact absurd c151 (by omega)
    · refine zt_mask [true, false, false, false] rfl ?_
      exact J_26_13

set_option maxRecDepth 100000 in
set_option maxHeartbeats 4000000 in
theorem zc_X1_product_o6 (l : Launch) (E : zEN) (σ : zSto) (hI : zInv σ) (hpre0 : σ 27 5 ≤ 1600) : zCt l E yX1_product cX1_product 4 none 4 zNC zNC 0 0 σ [.ref (E.1 + 33), .int (zI 6)] (fun r σ' => zInv σ' ∧ zFA σ σ' ∧ (σ' 27 5 = σ 27 5)) := by
  refine zCt_of2 [some (.ref (E.1 + 33)), some (.int (zI 6)), none, none] (by decide +kernel) (Nat.le_of_ble_eq_true rfl) rfl ?_
  intro X hE hX hR hL hN
  subst hE
  have hX : zok X cX1_product RX1 4 := hX
  have hF := zFA_rf σ
  have b1 := zv_14_5 hI zc_27
  refine zt_aload_n (pc' := 1) hX dX1_product_0 rfl rfl ?_
  refine zt_iload_n (pc' := 2) hX dX1_product_1 rfl rfl ?_
  refine zt_cVv (pc' := 5) hX dX1_product_2 rfl zm_yX1_part zw_23_4 zc_33 (by decide) zs_20 (q := (RX1, TX1, 3)) rfl rfl (zc_X1_part_o6 _ _ σ hI (by omega)) rfl rfl (Nat.le_of_ble_eq_true rfl) (by decide) (fun r2 s3 hr4 hp5 => ?_)
  obtain ⟨hI6, hF7, z8⟩ := hp5
  have hF9 := zFA_tr hF hF7
  have b10 := zv_14_5 hI6 zc_27
  refine zt_iconst (pc' := 6) hX dX1_product_5 rfl ?_
  refine zt_istore_n (pc' := 7) (lv' := [some (.ref (X.1.1 + 33)), some (.int (zI 6)), some (.int (zI 0)), none]) hX dX1_product_6 rfl hL (by decide) rfl ?_
  have L_7_17 : ∀ (N : Nat) (x11 : Int) (s14 : zSto), 0 ≤ x11 → x11 ≤ 1600 → zInv s14 → zFA σ s14 → s14 27 5 = σ 27 5 → ((1601 - x11).toNat) < N → zF X s14 7 [some (.ref (X.1.1 + 33)), some (.int (zI 6)), some (.int (zI x11)), none] [] := by
    intro N
    induction N with
    | zero =>
      intro x11 s14 h12 h13 hI15 hF16 g17 hm19
      exact absurd hm19 (Nat.not_lt_zero _)
    | succ N ih20 =>
      intro x11 s14 h12 h13 hI15 hF16 g17 hm19
      have b21 := zv_14_5 hI15 zc_27
      refine zt_iload_n (pc' := 8) hX dX1_product_7 rfl rfl ?_
      refine zt_sipush (pc' := 11) hX dX1_product_8 rfl (by decide) (by decide) ?_
      refine zt_icge (pc' := 14) (tgt := 72) hX dX1_product_11 rfl (by decide) ⟨by omega, by omega⟩ ⟨by omega, by omega⟩ (fun c22 => ?_) (fun c22 => ?_)
      · exact zt_vret hX hR dX1_product_72 ⟨hI15, hF16, by omega⟩
      · refine zt_aload_n (pc' := 15) hX dX1_product_14 rfl rfl ?_
        refine zt_get (pc' := 18) (v := .ref (X.1.1 + 27)) hX dX1_product_15 rfl zf_X1_15 (by decide) zc_33 zs_20 (zrf_of (zv_20_0 hI15 zc_33)) ?_
        refine zt_cVi (pc' := 21) hX dX1_product_18 rfl zm_yX5_signHere zw_22_2 zc_27 (by decide) zs_14 (q := (RX5, TX5, 9)) rfl rfl (zc_X5_signHere _ _ s14 hI15 ) rfl rfl (Nat.le_of_ble_eq_true rfl) (by decide) (fun r23 s24 hr25 hp26 => ?_)
        obtain ⟨rfl, q27, q28⟩ := hp26
        refine zt_bipush (pc' := 23) hX dX1_product_21 rfl (by decide) (by decide) ?_
        have J_38_28 : zF X s14 38 [some (.ref (X.1.1 + 33)), some (.int (zI 6)), some (.int (zI x11)), none] [] := by
          refine zt_aload_n (pc' := 39) hX dX1_product_38 rfl rfl ?_
          refine zt_get (pc' := 42) (v := .ref (X.1.1 + 27)) hX dX1_product_39 rfl zf_X1_15 (by decide) zc_33 zs_20 (zrf_of (zv_20_0 hI15 zc_33)) ?_
          refine zt_cVi (pc' := 45) hX dX1_product_42 rfl zm_yX5_signHere zw_22_2 zc_27 (by decide) zs_14 (q := (RX5, TX5, 9)) rfl rfl (zc_X5_signHere _ _ s14 hI15 ) rfl rfl (Nat.le_of_ble_eq_true rfl) (by decide) (fun r30 s31 hr32 hp33 => ?_)
          obtain ⟨rfl, q34, q35⟩ := hp33
          refine zt_istore_n (pc' := 46) (lv' := [some (.ref (X.1.1 + 33)), some (.int (zI 6)), some (.int (zI x11)), some (.int (zI r30))]) hX dX1_product_45 rfl hL (by decide) rfl ?_
          refine zt_aload_n (pc' := 47) hX dX1_product_46 rfl rfl ?_
          refine zt_get (pc' := 50) (v := .ref (X.1.1 + 27)) hX dX1_product_47 rfl zf_X1_15 (by decide) zc_33 zs_20 (zrf_of (zv_20_0 hI15 zc_33)) ?_
          refine zt_cVv (pc' := 53) hX dX1_product_50 rfl zm_yX5_step zw_22_6 zc_27 (by decide) zs_14 (q := (RX5, TX5, 9)) rfl rfl (zc_X5_step _ _ s14 hI15 (by omega)) rfl rfl (Nat.le_of_ble_eq_true rfl) (by decide) (fun r36 s37 hr38 hp39 => ?_)
          obtain ⟨hI40, hF41, z42⟩ := hp39
          have hF43 := zFA_tr hF16 hF41
          have b44 := zv_14_5 hI40 zc_27
          refine zt_aload_n (pc' := 54) hX dX1_product_53 rfl rfl ?_
          refine zt_iload_n (pc' := 55) hX dX1_product_54 rfl rfl ?_
          refine zt_cVv (pc' := 58) hX dX1_product_55 rfl zm_yX1_part zw_23_4 zc_33 (by decide) zs_20 (q := (RX1, TX1, 3)) rfl rfl (zc_X1_part_o6 _ _ s37 hI40 (by omega)) rfl rfl (Nat.le_of_ble_eq_true rfl) (by decide) (fun r45 s46 hr47 hp48 => ?_)
          obtain ⟨hI49, hF50, z51⟩ := hp48
          have hF52 := zFA_tr hF43 hF50
          have b53 := zv_14_5 hI49 zc_27
          refine zt_aload_n (pc' := 59) hX dX1_product_58 rfl rfl ?_
          obtain ⟨k54, ek55, hk56⟩ := zv_20_1 hI49 zc_33
          refine zt_get (pc' := 62) (v := .ref (X.1.1 + k54)) hX dX1_product_59 rfl zf_X1_19 (by decide) zc_33 zs_20 (zrf_of ek55) ?_
          refine zt_iload_n (pc' := 63) hX dX1_product_62 rfl rfl ?_
          refine zt_cVv (pc' := 66) hX dX1_product_63 rfl zm_yX4_addStep zw_22_7 hk56 (by decide) zs_6 (q := (RX4, TX4, 2)) rfl rfl (zc_X4_addStep _ _ s46 hI49 k54 hk56 r30 ⟨by omega, by omega⟩) rfl rfl (Nat.le_of_ble_eq_true rfl) (by decide) (fun r57 s58 hr59 hp60 => ?_)
          obtain ⟨hI61, hF62, z63⟩ := hp60
          have hF64 := zFA_tr hF52 hF62
          have b65 := zv_14_5 hI61 zc_27
          refine zt_iinc (pc' := 69) (lv' := [some (.ref (X.1.1 + 33)), some (.int (zI 6)), some (.int (zI (x11 + 1))), some (.int (zI r30))]) hX dX1_product_66 rfl rfl hL (by decide) rfl ?_
          refine zt_goto (tgt := 7) hX dX1_product_69 (by decide) ?_
          refine zt_mask [true, true, true, false] rfl ?_
          exact ih20 (x11 + 1) s58 (by omega) (by omega) hI61 hF64 (by omega) (by omega)
        refine zt_iceq (pc' := 26) (tgt := 38) hX dX1_product_23 rfl (by decide) ⟨by omega, by omega⟩ ⟨by omega, by omega⟩ (fun c66 => ?_) (fun c66 => ?_)
        · exact J_38_28
        · refine zt_aload_n (pc' := 27) hX dX1_product_26 rfl rfl ?_
          refine zt_get (pc' := 30) (v := .ref (X.1.1 + 27)) hX dX1_product_27 rfl zf_X1_15 (by decide) zc_33 zs_20 (zrf_of (zv_20_0 hI15 zc_33)) ?_
          refine zt_cVi (pc' := 33) hX dX1_product_30 rfl zm_yX5_signHere zw_22_2 zc_27 (by decide) zs_14 (q := (RX5, TX5, 9)) rfl rfl (zc_X5_signHere _ _ s14 hI15 ) rfl rfl (Nat.le_of_ble_eq_true rfl) (by decide) (fun r67 s68 hr69 hp70 => ?_)
          obtain ⟨rfl, q71, q72⟩ := hp70
          refine zt_bipush (pc' := 35) hX dX1_product_33 rfl (by decide) (by decide) ?_
          refine zt_icne (pc' := 38) (tgt := 72) hX dX1_product_35 rfl (by decide) ⟨by omega, by omega⟩ ⟨by omega, by omega⟩ (fun c73 => ?_) (fun c73 => ?_)
          · exact zt_vret hX hR dX1_product_72 ⟨hI15, hF16, by omega⟩
          · exact J_38_28
  exact L_7_17 _ 0 s3 (by omega) (by omega) hI6 hF9 (by omega) (Nat.lt_succ_self _)

set_option maxRecDepth 100000 in
set_option maxHeartbeats 4000000 in
theorem zc_X1_sum_o6 (l : Launch) (E : zEN) (σ : zSto) (hI : zInv σ) (hpre0 : σ 27 5 ≤ 1600) : zCt l E yX1_sum cX1_sum 4 none 5 zNC zNC 0 0 σ [.ref (E.1 + 33), .int (zI 6)] (fun r σ' => zInv σ' ∧ zFA σ σ' ∧ (σ' 27 5 = σ 27 5)) := by
  refine zCt_of2 [some (.ref (E.1 + 33)), some (.int (zI 6)), none, none] (by decide +kernel) (Nat.le_of_ble_eq_true rfl) rfl ?_
  intro X hE hX hR hL hN
  subst hE
  have hX : zok X cX1_sum RX1 5 := hX
  have hF := zFA_rf σ
  have b1 := zv_14_5 hI zc_27
  refine zt_aload_n (pc' := 1) hX dX1_sum_0 rfl rfl ?_
  refine zt_iload_n (pc' := 2) hX dX1_sum_1 rfl rfl ?_
  refine zt_cVv (pc' := 5) hX dX1_sum_2 rfl zm_yX1_product zw_21_23 zc_33 (by decide) zs_20 (q := (RX1, TX1, 3)) rfl rfl (zc_X1_product_o6 _ _ σ hI (by omega)) rfl rfl (Nat.le_of_ble_eq_true rfl) (by decide) (fun r2 s3 hr4 hp5 => ?_)
  obtain ⟨hI6, hF7, z8⟩ := hp5
  have hF9 := zFA_tr hF hF7
  have b10 := zv_14_5 hI6 zc_27
  refine zt_iconst (pc' := 6) hX dX1_sum_5 rfl ?_
  refine zt_istore_n (pc' := 7) (lv' := [some (.ref (X.1.1 + 33)), some (.int (zI 6)), some (.int (zI 0)), none]) hX dX1_sum_6 rfl hL (by decide) rfl ?_
  have L_7_17 : ∀ (N : Nat) (x11 : Int) (s14 : zSto), 0 ≤ x11 → x11 ≤ 1600 → zInv s14 → zFA σ s14 → s14 27 5 = σ 27 5 → ((1601 - x11).toNat) < N → zF X s14 7 [some (.ref (X.1.1 + 33)), some (.int (zI 6)), some (.int (zI x11)), none] [] := by
    intro N
    induction N with
    | zero =>
      intro x11 s14 h12 h13 hI15 hF16 g17 hm19
      exact absurd hm19 (Nat.not_lt_zero _)
    | succ N ih20 =>
      intro x11 s14 h12 h13 hI15 hF16 g17 hm19
      have b21 := zv_14_5 hI15 zc_27
      refine zt_iload_n (pc' := 8) hX dX1_sum_7 rfl rfl ?_
      refine zt_sipush (pc' := 11) hX dX1_sum_8 rfl (by decide) (by decide) ?_
      refine zt_icge (pc' := 14) (tgt := 72) hX dX1_sum_11 rfl (by decide) ⟨by omega, by omega⟩ ⟨by omega, by omega⟩ (fun c22 => ?_) (fun c22 => ?_)
      · exact zt_vret hX hR dX1_sum_72 ⟨hI15, hF16, by omega⟩
      · refine zt_aload_n (pc' := 15) hX dX1_sum_14 rfl rfl ?_
        refine zt_get (pc' := 18) (v := .ref (X.1.1 + 27)) hX dX1_sum_15 rfl zf_X1_15 (by decide) zc_33 zs_20 (zrf_of (zv_20_0 hI15 zc_33)) ?_
        refine zt_cVi (pc' := 21) hX dX1_sum_18 rfl zm_yX5_signHere zw_22_2 zc_27 (by decide) zs_14 (q := (RX5, TX5, 9)) rfl rfl (zc_X5_signHere _ _ s14 hI15 ) rfl rfl (Nat.le_of_ble_eq_true rfl) (by decide) (fun r23 s24 hr25 hp26 => ?_)
        obtain ⟨rfl, q27, q28⟩ := hp26
        refine zt_bipush (pc' := 23) hX dX1_sum_21 rfl (by decide) (by decide) ?_
        have J_38_28 : zF X s14 38 [some (.ref (X.1.1 + 33)), some (.int (zI 6)), some (.int (zI x11)), none] [] := by
          refine zt_aload_n (pc' := 39) hX dX1_sum_38 rfl rfl ?_
          refine zt_get (pc' := 42) (v := .ref (X.1.1 + 27)) hX dX1_sum_39 rfl zf_X1_15 (by decide) zc_33 zs_20 (zrf_of (zv_20_0 hI15 zc_33)) ?_
          refine zt_cVi (pc' := 45) hX dX1_sum_42 rfl zm_yX5_signHere zw_22_2 zc_27 (by decide) zs_14 (q := (RX5, TX5, 9)) rfl rfl (zc_X5_signHere _ _ s14 hI15 ) rfl rfl (Nat.le_of_ble_eq_true rfl) (by decide) (fun r30 s31 hr32 hp33 => ?_)
          obtain ⟨rfl, q34, q35⟩ := hp33
          refine zt_istore_n (pc' := 46) (lv' := [some (.ref (X.1.1 + 33)), some (.int (zI 6)), some (.int (zI x11)), some (.int (zI r30))]) hX dX1_sum_45 rfl hL (by decide) rfl ?_
          refine zt_aload_n (pc' := 47) hX dX1_sum_46 rfl rfl ?_
          refine zt_get (pc' := 50) (v := .ref (X.1.1 + 27)) hX dX1_sum_47 rfl zf_X1_15 (by decide) zc_33 zs_20 (zrf_of (zv_20_0 hI15 zc_33)) ?_
          refine zt_cVv (pc' := 53) hX dX1_sum_50 rfl zm_yX5_step zw_22_6 zc_27 (by decide) zs_14 (q := (RX5, TX5, 9)) rfl rfl (zc_X5_step _ _ s14 hI15 (by omega)) rfl rfl (Nat.le_of_ble_eq_true rfl) (by decide) (fun r36 s37 hr38 hp39 => ?_)
          obtain ⟨hI40, hF41, z42⟩ := hp39
          have hF43 := zFA_tr hF16 hF41
          have b44 := zv_14_5 hI40 zc_27
          refine zt_aload_n (pc' := 54) hX dX1_sum_53 rfl rfl ?_
          refine zt_iload_n (pc' := 55) hX dX1_sum_54 rfl rfl ?_
          refine zt_cVv (pc' := 58) hX dX1_sum_55 rfl zm_yX1_product zw_21_23 zc_33 (by decide) zs_20 (q := (RX1, TX1, 3)) rfl rfl (zc_X1_product_o6 _ _ s37 hI40 (by omega)) rfl rfl (Nat.le_of_ble_eq_true rfl) (by decide) (fun r45 s46 hr47 hp48 => ?_)
          obtain ⟨hI49, hF50, z51⟩ := hp48
          have hF52 := zFA_tr hF43 hF50
          have b53 := zv_14_5 hI49 zc_27
          refine zt_aload_n (pc' := 59) hX dX1_sum_58 rfl rfl ?_
          obtain ⟨k54, ek55, hk56⟩ := zv_20_1 hI49 zc_33
          refine zt_get (pc' := 62) (v := .ref (X.1.1 + k54)) hX dX1_sum_59 rfl zf_X1_19 (by decide) zc_33 zs_20 (zrf_of ek55) ?_
          refine zt_iload_n (pc' := 63) hX dX1_sum_62 rfl rfl ?_
          refine zt_cVv (pc' := 66) hX dX1_sum_63 rfl zm_yX4_addStep zw_22_7 hk56 (by decide) zs_6 (q := (RX4, TX4, 2)) rfl rfl (zc_X4_addStep _ _ s46 hI49 k54 hk56 r30 ⟨by omega, by omega⟩) rfl rfl (Nat.le_of_ble_eq_true rfl) (by decide) (fun r57 s58 hr59 hp60 => ?_)
          obtain ⟨hI61, hF62, z63⟩ := hp60
          have hF64 := zFA_tr hF52 hF62
          have b65 := zv_14_5 hI61 zc_27
          refine zt_iinc (pc' := 69) (lv' := [some (.ref (X.1.1 + 33)), some (.int (zI 6)), some (.int (zI (x11 + 1))), some (.int (zI r30))]) hX dX1_sum_66 rfl rfl hL (by decide) rfl ?_
          refine zt_goto (tgt := 7) hX dX1_sum_69 (by decide) ?_
          refine zt_mask [true, true, true, false] rfl ?_
          exact ih20 (x11 + 1) s58 (by omega) (by omega) hI61 hF64 (by omega) (by omega)
        refine zt_iceq (pc' := 26) (tgt := 38) hX dX1_sum_23 rfl (by decide) ⟨by omega, by omega⟩ ⟨by omega, by omega⟩ (fun c66 => ?_) (fun c66 => ?_)
        · exact J_38_28
        · refine zt_aload_n (pc' := 27) hX dX1_sum_26 rfl rfl ?_
          refine zt_get (pc' := 30) (v := .ref (X.1.1 + 27)) hX dX1_sum_27 rfl zf_X1_15 (by decide) zc_33 zs_20 (zrf_of (zv_20_0 hI15 zc_33)) ?_
          refine zt_cVi (pc' := 33) hX dX1_sum_30 rfl zm_yX5_signHere zw_22_2 zc_27 (by decide) zs_14 (q := (RX5, TX5, 9)) rfl rfl (zc_X5_signHere _ _ s14 hI15 ) rfl rfl (Nat.le_of_ble_eq_true rfl) (by decide) (fun r67 s68 hr69 hp70 => ?_)
          obtain ⟨rfl, q71, q72⟩ := hp70
          refine zt_bipush (pc' := 35) hX dX1_sum_33 rfl (by decide) (by decide) ?_
          refine zt_icne (pc' := 38) (tgt := 72) hX dX1_sum_35 rfl (by decide) ⟨by omega, by omega⟩ ⟨by omega, by omega⟩ (fun c73 => ?_) (fun c73 => ?_)
          · exact zt_vret hX hR dX1_sum_72 ⟨hI15, hF16, by omega⟩
          · exact J_38_28
  exact L_7_17 _ 0 s3 (by omega) (by omega) hI6 hF9 (by omega) (Nat.lt_succ_self _)

set_option maxRecDepth 100000 in
set_option maxHeartbeats 4000000 in
theorem zc_X1_comparison_o6 (l : Launch) (E : zEN) (σ : zSto) (hI : zInv σ) (hpre0 : σ 27 5 ≤ 1600) : zCt l E yX1_comparison cX1_comparison 3 none 6 zNC zNC 0 0 σ [.ref (E.1 + 33), .int (zI 6)] (fun r σ' => zInv σ' ∧ zFA σ σ' ∧ (σ' 27 5 = σ 27 5)) := by
  refine zCt_of2 [some (.ref (E.1 + 33)), some (.int (zI 6)), none] (by decide +kernel) (Nat.le_of_ble_eq_true rfl) rfl ?_
  intro X hE hX hR hL hN
  subst hE
  have hX : zok X cX1_comparison RX1 6 := hX
  have hF := zFA_rf σ
  have b1 := zv_14_5 hI zc_27
  refine zt_aload_n (pc' := 1) hX dX1_comparison_0 rfl rfl ?_
  refine zt_iload_n (pc' := 2) hX dX1_comparison_1 rfl rfl ?_
  refine zt_cVv (pc' := 5) hX dX1_comparison_2 rfl zm_yX1_sum zw_21_19 zc_33 (by decide) zs_20 (q := (RX1, TX1, 3)) rfl rfl (zc_X1_sum_o6 _ _ σ hI (by omega)) rfl rfl (Nat.le_of_ble_eq_true rfl) (by decide) (fun r2 s3 hr4 hp5 => ?_)
  obtain ⟨hI6, hF7, z8⟩ := hp5
  have hF9 := zFA_tr hF hF7
  have b10 := zv_14_5 hI6 zc_27
  refine zt_aload_n (pc' := 6) hX dX1_comparison_5 rfl rfl ?_
  refine zt_get (pc' := 9) (v := .ref (X.1.1 + 27)) hX dX1_comparison_6 rfl zf_X1_15 (by decide) zc_33 zs_20 (zrf_of (zv_20_0 hI6 zc_33)) ?_
  refine zt_cVi (pc' := 12) hX dX1_comparison_9 rfl zm_yX5_signHere zw_22_2 zc_27 (by decide) zs_14 (q := (RX5, TX5, 9)) rfl rfl (zc_X5_signHere _ _ s3 hI6 ) rfl rfl (Nat.le_of_ble_eq_true rfl) (by decide) (fun r11 s12 hr13 hp14 => ?_)
  obtain ⟨rfl, q15, q16⟩ := hp14
  refine zt_istore_n (pc' := 13) (lv' := [some (.ref (X.1.1 + 33)), some (.int (zI 6)), some (.int (zI r11))]) hX dX1_comparison_12 rfl hL (by decide) rfl ?_
  refine zt_iload_n (pc' := 14) hX dX1_comparison_13 rfl rfl ?_
  refine zt_bipush (pc' := 16) hX dX1_comparison_14 rfl (by decide) (by decide) ?_
  have J_31_16 : zF X s3 31 [some (.ref (X.1.1 + 33)), some (.int (zI 6)), some (.int (zI r11))] [] := by
    refine zt_aload_n (pc' := 32) hX dX1_comparison_31 rfl rfl ?_
    refine zt_get (pc' := 35) (v := .ref (X.1.1 + 27)) hX dX1_comparison_32 rfl zf_X1_15 (by decide) zc_33 zs_20 (zrf_of (zv_20_0 hI6 zc_33)) ?_
    refine zt_cVv (pc' := 38) hX dX1_comparison_35 rfl zm_yX5_step zw_22_6 zc_27 (by decide) zs_14 (q := (RX5, TX5, 9)) rfl rfl (zc_X5_step _ _ s3 hI6 (by omega)) rfl rfl (Nat.le_of_ble_eq_true rfl) (by decide) (fun r18 s19 hr20 hp21 => ?_)
    obtain ⟨hI22, hF23, z24⟩ := hp21
    have hF25 := zFA_tr hF9 hF23
    have b26 := zv_14_5 hI22 zc_27
    refine zt_aload_n (pc' := 39) hX dX1_comparison_38 rfl rfl ?_
    refine zt_iload_n (pc' := 40) hX dX1_comparison_39 rfl rfl ?_
    refine zt_cVv (pc' := 43) hX dX1_comparison_40 rfl zm_yX1_sum zw_21_19 zc_33 (by decide) zs_20 (q := (RX1, TX1, 3)) rfl rfl (zc_X1_sum_o6 _ _ s19 hI22 (by omega)) rfl rfl (Nat.le_of_ble_eq_true rfl) (by decide) (fun r27 s28 hr29 hp30 => ?_)
    obtain ⟨hI31, hF32, z33⟩ := hp30
    have hF34 := zFA_tr hF25 hF32
    have b35 := zv_14_5 hI31 zc_27
    refine zt_aload_n (pc' := 44) hX dX1_comparison_43 rfl rfl ?_
    obtain ⟨k36, ek37, hk38⟩ := zv_20_1 hI31 zc_33
    refine zt_get (pc' := 47) (v := .ref (X.1.1 + k36)) hX dX1_comparison_44 rfl zf_X1_19 (by decide) zc_33 zs_20 (zrf_of ek37) ?_
    refine zt_iload_n (pc' := 48) hX dX1_comparison_47 rfl rfl ?_
    refine zt_cVv (pc' := 51) hX dX1_comparison_48 rfl zm_yX4_addStep zw_22_7 hk38 (by decide) zs_6 (q := (RX4, TX4, 2)) rfl rfl (zc_X4_addStep _ _ s28 hI31 k36 hk38 r11 ⟨by omega, by omega⟩) rfl rfl (Nat.le_of_ble_eq_true rfl) (by decide) (fun r39 s40 hr41 hp42 => ?_)
    obtain ⟨hI43, hF44, z45⟩ := hp42
    have hF46 := zFA_tr hF34 hF44
    have b47 := zv_14_5 hI43 zc_27
    refine zt_goto (tgt := 69) hX dX1_comparison_51 (by decide) ?_
    exact zt_vret hX hR dX1_comparison_69 ⟨hI43, hF46, by omega⟩
  refine zt_iceq (pc' := 19) (tgt := 31) hX dX1_comparison_16 rfl (by decide) ⟨by omega, by omega⟩ ⟨by omega, by omega⟩ (fun c48 => ?_) (fun c48 => ?_)
  · exact J_31_16
  · refine zt_iload_n (pc' := 20) hX dX1_comparison_19 rfl rfl ?_
    refine zt_bipush (pc' := 22) hX dX1_comparison_20 rfl (by decide) (by decide) ?_
    refine zt_iceq (pc' := 25) (tgt := 31) hX dX1_comparison_22 rfl (by decide) ⟨by omega, by omega⟩ ⟨by omega, by omega⟩ (fun c49 => ?_) (fun c49 => ?_)
    · exact J_31_16
    · refine zt_iload_n (pc' := 26) hX dX1_comparison_25 rfl rfl ?_
      refine zt_bipush (pc' := 28) hX dX1_comparison_26 rfl (by decide) (by decide) ?_
      refine zt_icne (pc' := 31) (tgt := 54) hX dX1_comparison_28 rfl (by decide) ⟨by omega, by omega⟩ ⟨by omega, by omega⟩ (fun c50 => ?_) (fun c50 => ?_)
      · refine zt_aload_n (pc' := 55) hX dX1_comparison_54 rfl rfl ?_
        refine zt_get (pc' := 58) (v := .ref (X.1.1 + 27)) hX dX1_comparison_55 rfl zf_X1_15 (by decide) zc_33 zs_20 (zrf_of (zv_20_0 hI6 zc_33)) ?_
        refine zt_iconst (pc' := 59) hX dX1_comparison_58 rfl ?_
        refine zt_aload_n (pc' := 60) hX dX1_comparison_59 rfl rfl ?_
        refine zt_get (pc' := 63) (v := .ref (X.1.1 + 27)) hX dX1_comparison_60 rfl zf_X1_15 (by decide) zc_33 zs_20 (zrf_of (zv_20_0 hI6 zc_33)) ?_
        refine zt_cVi (pc' := 66) hX dX1_comparison_63 rfl zm_yX5_placeHere zw_22_9 zc_27 (by decide) zs_14 (q := (RX5, TX5, 9)) rfl rfl (zc_X5_placeHere _ _ s3 hI6 ) rfl rfl (Nat.le_of_ble_eq_true rfl) (by decide) (fun r51 s52 hr53 hp54 => ?_)
        obtain ⟨rfl, q55, q56⟩ := hp54
        refine zt_cVv (pc' := 69) hX dX1_comparison_66 rfl zm_yX5_refuse zw_22_10 zc_27 (by decide) zs_14 (q := (RX5, TX5, 9)) rfl rfl (zc_X5_refuse _ _ s3 hI6 1 ⟨by omega, by omega⟩ r51 ⟨by omega, by omega⟩ (by omega)) rfl rfl (Nat.le_of_ble_eq_true rfl) (by decide) (fun r57 s58 hr59 hp60 => ?_)
        obtain ⟨hI61, hF62, z63⟩ := hp60
        have hF64 := zFA_tr hF9 hF62
        have b65 := zv_14_5 hI61 zc_27
        exact zt_vret hX hR dX1_comparison_69 ⟨hI61, hF64, by omega⟩
      · exact J_31_16

set_option maxRecDepth 100000 in
set_option maxHeartbeats 4000000 in
theorem zc_X1_fact_o6 (l : Launch) (E : zEN) (σ : zSto) (hI : zInv σ) (hpre0 : σ 27 5 ≤ 1600) : zCt l E yX1_fact cX1_fact 2 none 7 zNC zNC 0 0 σ [.ref (E.1 + 33), .int (zI 6)] (fun r σ' => zInv σ' ∧ zFA σ σ' ∧ (σ' 27 5 = σ 27 5)) := by
  refine zCt_of2 [some (.ref (E.1 + 33)), some (.int (zI 6))] (by decide +kernel) (Nat.le_of_ble_eq_true rfl) rfl ?_
  intro X hE hX hR hL hN
  subst hE
  have hX : zok X cX1_fact RX1 7 := hX
  have hF := zFA_rf σ
  have b1 := zv_14_5 hI zc_27
  refine zt_aload_n (pc' := 1) hX dX1_fact_0 rfl rfl ?_
  refine zt_get (pc' := 4) (v := .ref (X.1.1 + 27)) hX dX1_fact_1 rfl zf_X1_15 (by decide) zc_33 zs_20 (zrf_of (zv_20_0 hI zc_33)) ?_
  refine zt_cVi (pc' := 7) hX dX1_fact_4 rfl zm_yX5_wordHere zw_22_21 zc_27 (by decide) zs_14 (q := (RX5, TX5, 9)) rfl rfl (zc_X5_wordHere _ _ σ hI ) rfl rfl (Nat.le_of_ble_eq_true rfl) (by decide) (fun r2 s3 hr4 hp5 => ?_)
  obtain ⟨rfl, q6, q7⟩ := hp5
  refine zt_bipush (pc' := 9) hX dX1_fact_7 rfl (by decide) (by decide) ?_
  refine zt_icne (pc' := 12) (tgt := 39) hX dX1_fact_9 rfl (by decide) ⟨by omega, by omega⟩ ⟨by omega, by omega⟩ (fun c8 => ?_) (fun c8 => ?_)
  · refine zt_aload_n (pc' := 40) hX dX1_fact_39 rfl rfl ?_
    refine zt_get (pc' := 43) (v := .ref (X.1.1 + 27)) hX dX1_fact_40 rfl zf_X1_15 (by decide) zc_33 zs_20 (zrf_of (zv_20_0 hI zc_33)) ?_
    refine zt_cVi (pc' := 46) hX dX1_fact_43 rfl zm_yX5_signHere zw_22_2 zc_27 (by decide) zs_14 (q := (RX5, TX5, 9)) rfl rfl (zc_X5_signHere _ _ σ hI ) rfl rfl (Nat.le_of_ble_eq_true rfl) (by decide) (fun r9 s10 hr11 hp12 => ?_)
    obtain ⟨rfl, q13, q14⟩ := hp12
    refine zt_bipush (pc' := 48) hX dX1_fact_46 rfl (by decide) (by decide) ?_
    refine zt_icne (pc' := 51) (tgt := 78) hX dX1_fact_48 rfl (by decide) ⟨by omega, by omega⟩ ⟨by omega, by omega⟩ (fun c15 => ?_) (fun c15 => ?_)
    · refine zt_aload_n (pc' := 79) hX dX1_fact_78 rfl rfl ?_
      refine zt_get (pc' := 82) (v := .ref (X.1.1 + 27)) hX dX1_fact_79 rfl zf_X1_15 (by decide) zc_33 zs_20 (zrf_of (zv_20_0 hI zc_33)) ?_
      refine zt_cVi (pc' := 85) hX dX1_fact_82 rfl zm_yX5_wordHere zw_22_21 zc_27 (by decide) zs_14 (q := (RX5, TX5, 9)) rfl rfl (zc_X5_wordHere _ _ σ hI ) rfl rfl (Nat.le_of_ble_eq_true rfl) (by decide) (fun r16 s17 hr18 hp19 => ?_)
      obtain ⟨rfl, q20, q21⟩ := hp19
      refine zt_bipush (pc' := 87) hX dX1_fact_85 rfl (by decide) (by decide) ?_
      refine zt_icne (pc' := 90) (tgt := 109) hX dX1_fact_87 rfl (by decide) ⟨by omega, by omega⟩ ⟨by omega, by omega⟩ (fun c22 => ?_) (fun c22 => ?_)
      · refine zt_aload_n (pc' := 110) hX dX1_fact_109 rfl rfl ?_
        refine zt_iload_n (pc' := 111) hX dX1_fact_110 rfl rfl ?_
        refine zt_cVv (pc' := 114) hX dX1_fact_111 rfl zm_yX1_comparison zw_24_14 zc_33 (by decide) zs_20 (q := (RX1, TX1, 3)) rfl rfl (zc_X1_comparison_o6 _ _ σ hI (by omega)) rfl rfl (Nat.le_of_ble_eq_true rfl) (by decide) (fun r23 s24 hr25 hp26 => ?_)
        obtain ⟨hI27, hF28, z29⟩ := hp26
        have hF30 := zFA_tr hF hF28
        have b31 := zv_14_5 hI27 zc_27
        exact zt_vret hX hR dX1_fact_114 ⟨hI27, hF30, by omega⟩
      · refine zt_aload_n (pc' := 91) hX dX1_fact_90 rfl rfl ?_
        refine zt_get (pc' := 94) (v := .ref (X.1.1 + 27)) hX dX1_fact_91 rfl zf_X1_15 (by decide) zc_33 zs_20 (zrf_of (zv_20_0 hI zc_33)) ?_
        refine zt_cVv (pc' := 97) hX dX1_fact_94 rfl zm_yX5_step zw_22_6 zc_27 (by decide) zs_14 (q := (RX5, TX5, 9)) rfl rfl (zc_X5_step _ _ σ hI (by omega)) rfl rfl (Nat.le_of_ble_eq_true rfl) (by decide) (fun r32 s33 hr34 hp35 => ?_)
        obtain ⟨hI36, hF37, z38⟩ := hp35
        have hF39 := zFA_tr hF hF37
        have b40 := zv_14_5 hI36 zc_27
        refine zt_aload_n (pc' := 98) hX dX1_fact_97 rfl rfl ?_
        obtain ⟨k41, ek42, hk43⟩ := zv_20_1 hI36 zc_33
        refine zt_get (pc' := 101) (v := .ref (X.1.1 + k41)) hX dX1_fact_98 rfl zf_X1_19 (by decide) zc_33 zs_20 (zrf_of ek42) ?_
        refine zt_bipush (pc' := 103) hX dX1_fact_101 rfl (by decide) (by decide) ?_
        refine zt_cVv (pc' := 106) hX dX1_fact_103 rfl zm_yX4_addStep zw_22_7 hk43 (by decide) zs_6 (q := (RX4, TX4, 2)) rfl rfl (zc_X4_addStep _ _ s33 hI36 k41 hk43 24 ⟨by omega, by omega⟩) rfl rfl (Nat.le_of_ble_eq_true rfl) (by decide) (fun r44 s45 hr46 hp47 => ?_)
        obtain ⟨hI48, hF49, z50⟩ := hp47
        have hF51 := zFA_tr hF39 hF49
        have b52 := zv_14_5 hI48 zc_27
        refine zt_goto (tgt := 114) hX dX1_fact_106 (by decide) ?_
        exact zt_vret hX hR dX1_fact_114 ⟨hI48, hF51, by omega⟩
    · refine zt_aload_n (pc' := 52) hX dX1_fact_51 rfl rfl ?_
      refine zt_iload_n (pc' := 53) hX dX1_fact_52 rfl rfl ?_
      refine zt_cVz (pc' := 56) hX dX1_fact_53 rfl zm_yX1_opens zw_22_11 zc_33 (by decide) zs_20 (q := (RX1, TX1, 3)) rfl rfl (zc_X1_opens_o6 _ _ σ hI (by omega)) rfl rfl (Nat.le_of_ble_eq_true rfl) (by decide) (fun r53 s54 hr55 hp56 => ?_)
      obtain ⟨hI57, hF58, q59, q60, z61⟩ := hp56
      have hF62 := zFA_tr hF hF58
      have b63 := zv_14_5 hI57 zc_27
      refine zt_ifeq (pc' := 59) (tgt := 114) hX dX1_fact_56 rfl (by decide) ⟨by omega, by omega⟩ (fun c64 => ?_) (fun c64 => ?_)
      · exact zt_vret hX hR dX1_fact_114 ⟨hI57, hF62, by omega⟩
      · exact absurd c64 (by omega)
  · refine zt_aload_n (pc' := 13) hX dX1_fact_12 rfl rfl ?_
    refine zt_iload_n (pc' := 14) hX dX1_fact_13 rfl rfl ?_
    refine zt_cVz (pc' := 17) hX dX1_fact_14 rfl zm_yX1_opens zw_22_11 zc_33 (by decide) zs_20 (q := (RX1, TX1, 3)) rfl rfl (zc_X1_opens_o6 _ _ σ hI (by omega)) rfl rfl (Nat.le_of_ble_eq_true rfl) (by decide) (fun r65 s66 hr67 hp68 => ?_)
    obtain ⟨hI69, hF70, q71, q72, z73⟩ := hp68
    have hF74 := zFA_tr hF hF70
    have b75 := zv_14_5 hI69 zc_27
    refine zt_ifeq (pc' := 20) (tgt := 114) hX dX1_fact_17 rfl (by decide) ⟨by omega, by omega⟩ (fun c76 => ?_) (fun c76 => ?_)
    · exact zt_vret hX hR dX1_fact_114 ⟨hI69, hF74, by omega⟩
    · exact absurd c76 (by omega)

set_option maxRecDepth 100000 in
set_option maxHeartbeats 4000000 in
theorem zc_X1_both_o6 (l : Launch) (E : zEN) (σ : zSto) (hI : zInv σ) (hpre0 : σ 27 5 ≤ 1600) : zCt l E yX1_both cX1_both 3 none 8 zNC zNC 0 0 σ [.ref (E.1 + 33), .int (zI 6)] (fun r σ' => zInv σ' ∧ zFA σ σ' ∧ (σ' 27 5 = σ 27 5)) := by
  refine zCt_of2 [some (.ref (E.1 + 33)), some (.int (zI 6)), none] (by decide +kernel) (Nat.le_of_ble_eq_true rfl) rfl ?_
  intro X hE hX hR hL hN
  subst hE
  have hX : zok X cX1_both RX1 8 := hX
  have hF := zFA_rf σ
  have b1 := zv_14_5 hI zc_27
  refine zt_aload_n (pc' := 1) hX dX1_both_0 rfl rfl ?_
  refine zt_iload_n (pc' := 2) hX dX1_both_1 rfl rfl ?_
  refine zt_cVv (pc' := 5) hX dX1_both_2 rfl zm_yX1_fact zw_24_10 zc_33 (by decide) zs_20 (q := (RX1, TX1, 3)) rfl rfl (zc_X1_fact_o6 _ _ σ hI (by omega)) rfl rfl (Nat.le_of_ble_eq_true rfl) (by decide) (fun r2 s3 hr4 hp5 => ?_)
  obtain ⟨hI6, hF7, z8⟩ := hp5
  have hF9 := zFA_tr hF hF7
  have b10 := zv_14_5 hI6 zc_27
  refine zt_iconst (pc' := 6) hX dX1_both_5 rfl ?_
  refine zt_istore_n (pc' := 7) (lv' := [some (.ref (X.1.1 + 33)), some (.int (zI 6)), some (.int (zI 0))]) hX dX1_both_6 rfl hL (by decide) rfl ?_
  have L_7_17 : ∀ (N : Nat) (x11 : Int) (s14 : zSto), 0 ≤ x11 → x11 ≤ 1600 → zInv s14 → zFA σ s14 → s14 27 5 = σ 27 5 → ((1601 - x11).toNat) < N → zF X s14 7 [some (.ref (X.1.1 + 33)), some (.int (zI 6)), some (.int (zI x11))] [] := by
    intro N
    induction N with
    | zero =>
      intro x11 s14 h12 h13 hI15 hF16 g17 hm19
      exact absurd hm19 (Nat.not_lt_zero _)
    | succ N ih20 =>
      intro x11 s14 h12 h13 hI15 hF16 g17 hm19
      have b21 := zv_14_5 hI15 zc_27
      refine zt_iload_n (pc' := 8) hX dX1_both_7 rfl rfl ?_
      refine zt_sipush (pc' := 11) hX dX1_both_8 rfl (by decide) (by decide) ?_
      refine zt_icge (pc' := 14) (tgt := 53) hX dX1_both_11 rfl (by decide) ⟨by omega, by omega⟩ ⟨by omega, by omega⟩ (fun c22 => ?_) (fun c22 => ?_)
      · exact zt_vret hX hR dX1_both_53 ⟨hI15, hF16, by omega⟩
      · refine zt_aload_n (pc' := 15) hX dX1_both_14 rfl rfl ?_
        refine zt_get (pc' := 18) (v := .ref (X.1.1 + 27)) hX dX1_both_15 rfl zf_X1_15 (by decide) zc_33 zs_20 (zrf_of (zv_20_0 hI15 zc_33)) ?_
        refine zt_cVi (pc' := 21) hX dX1_both_18 rfl zm_yX5_wordHere zw_22_21 zc_27 (by decide) zs_14 (q := (RX5, TX5, 9)) rfl rfl (zc_X5_wordHere _ _ s14 hI15 ) rfl rfl (Nat.le_of_ble_eq_true rfl) (by decide) (fun r23 s24 hr25 hp26 => ?_)
        obtain ⟨rfl, q27, q28⟩ := hp26
        refine zt_bipush (pc' := 23) hX dX1_both_21 rfl (by decide) (by decide) ?_
        refine zt_icne (pc' := 26) (tgt := 53) hX dX1_both_23 rfl (by decide) ⟨by omega, by omega⟩ ⟨by omega, by omega⟩ (fun c29 => ?_) (fun c29 => ?_)
        · exact zt_vret hX hR dX1_both_53 ⟨hI15, hF16, by omega⟩
        · refine zt_aload_n (pc' := 27) hX dX1_both_26 rfl rfl ?_
          refine zt_get (pc' := 30) (v := .ref (X.1.1 + 27)) hX dX1_both_27 rfl zf_X1_15 (by decide) zc_33 zs_20 (zrf_of (zv_20_0 hI15 zc_33)) ?_
          refine zt_cVv (pc' := 33) hX dX1_both_30 rfl zm_yX5_step zw_22_6 zc_27 (by decide) zs_14 (q := (RX5, TX5, 9)) rfl rfl (zc_X5_step _ _ s14 hI15 (by omega)) rfl rfl (Nat.le_of_ble_eq_true rfl) (by decide) (fun r30 s31 hr32 hp33 => ?_)
          obtain ⟨hI34, hF35, z36⟩ := hp33
          have hF37 := zFA_tr hF16 hF35
          have b38 := zv_14_5 hI34 zc_27
          refine zt_aload_n (pc' := 34) hX dX1_both_33 rfl rfl ?_
          refine zt_iload_n (pc' := 35) hX dX1_both_34 rfl rfl ?_
          refine zt_cVv (pc' := 38) hX dX1_both_35 rfl zm_yX1_fact zw_24_10 zc_33 (by decide) zs_20 (q := (RX1, TX1, 3)) rfl rfl (zc_X1_fact_o6 _ _ s31 hI34 (by omega)) rfl rfl (Nat.le_of_ble_eq_true rfl) (by decide) (fun r39 s40 hr41 hp42 => ?_)
          obtain ⟨hI43, hF44, z45⟩ := hp42
          have hF46 := zFA_tr hF37 hF44
          have b47 := zv_14_5 hI43 zc_27
          refine zt_aload_n (pc' := 39) hX dX1_both_38 rfl rfl ?_
          obtain ⟨k48, ek49, hk50⟩ := zv_20_1 hI43 zc_33
          refine zt_get (pc' := 42) (v := .ref (X.1.1 + k48)) hX dX1_both_39 rfl zf_X1_19 (by decide) zc_33 zs_20 (zrf_of ek49) ?_
          refine zt_bipush (pc' := 44) hX dX1_both_42 rfl (by decide) (by decide) ?_
          refine zt_cVv (pc' := 47) hX dX1_both_44 rfl zm_yX4_addStep zw_22_7 hk50 (by decide) zs_6 (q := (RX4, TX4, 2)) rfl rfl (zc_X4_addStep _ _ s40 hI43 k48 hk50 22 ⟨by omega, by omega⟩) rfl rfl (Nat.le_of_ble_eq_true rfl) (by decide) (fun r51 s52 hr53 hp54 => ?_)
          obtain ⟨hI55, hF56, z57⟩ := hp54
          have hF58 := zFA_tr hF46 hF56
          have b59 := zv_14_5 hI55 zc_27
          refine zt_iinc (pc' := 50) (lv' := [some (.ref (X.1.1 + 33)), some (.int (zI 6)), some (.int (zI (x11 + 1)))]) hX dX1_both_47 rfl rfl hL (by decide) rfl ?_
          refine zt_goto (tgt := 7) hX dX1_both_50 (by decide) ?_
          exact ih20 (x11 + 1) s52 (by omega) (by omega) hI55 hF58 (by omega) (by omega)
  exact L_7_17 _ 0 s3 (by omega) (by omega) hI6 hF9 (by omega) (Nat.lt_succ_self _)

set_option maxRecDepth 100000 in
set_option maxHeartbeats 4000000 in
theorem zc_X1_test_o6 (l : Launch) (E : zEN) (σ : zSto) (hI : zInv σ) (hpre0 : σ 27 5 ≤ 1600) : zCt l E yX1_test cX1_test 3 none 9 zNC zNC 0 0 σ [.ref (E.1 + 33), .int (zI 6)] (fun r σ' => zInv σ' ∧ zFA σ σ' ∧ (σ' 27 5 = σ 27 5)) := by
  refine zCt_of2 [some (.ref (E.1 + 33)), some (.int (zI 6)), none] (by decide +kernel) (Nat.le_of_ble_eq_true rfl) rfl ?_
  intro X hE hX hR hL hN
  subst hE
  have hX : zok X cX1_test RX1 9 := hX
  have hF := zFA_rf σ
  have b1 := zv_14_5 hI zc_27
  refine zt_aload_n (pc' := 1) hX dX1_test_0 rfl rfl ?_
  refine zt_iload_n (pc' := 2) hX dX1_test_1 rfl rfl ?_
  refine zt_cVv (pc' := 5) hX dX1_test_2 rfl zm_yX1_both zw_24_6 zc_33 (by decide) zs_20 (q := (RX1, TX1, 3)) rfl rfl (zc_X1_both_o6 _ _ σ hI (by omega)) rfl rfl (Nat.le_of_ble_eq_true rfl) (by decide) (fun r2 s3 hr4 hp5 => ?_)
  obtain ⟨hI6, hF7, z8⟩ := hp5
  have hF9 := zFA_tr hF hF7
  have b10 := zv_14_5 hI6 zc_27
  refine zt_iconst (pc' := 6) hX dX1_test_5 rfl ?_
  refine zt_istore_n (pc' := 7) (lv' := [some (.ref (X.1.1 + 33)), some (.int (zI 6)), some (.int (zI 0))]) hX dX1_test_6 rfl hL (by decide) rfl ?_
  have L_7_17 : ∀ (N : Nat) (x11 : Int) (s14 : zSto), 0 ≤ x11 → x11 ≤ 1600 → zInv s14 → zFA σ s14 → s14 27 5 = σ 27 5 → ((1601 - x11).toNat) < N → zF X s14 7 [some (.ref (X.1.1 + 33)), some (.int (zI 6)), some (.int (zI x11))] [] := by
    intro N
    induction N with
    | zero =>
      intro x11 s14 h12 h13 hI15 hF16 g17 hm19
      exact absurd hm19 (Nat.not_lt_zero _)
    | succ N ih20 =>
      intro x11 s14 h12 h13 hI15 hF16 g17 hm19
      have b21 := zv_14_5 hI15 zc_27
      refine zt_iload_n (pc' := 8) hX dX1_test_7 rfl rfl ?_
      refine zt_sipush (pc' := 11) hX dX1_test_8 rfl (by decide) (by decide) ?_
      refine zt_icge (pc' := 14) (tgt := 53) hX dX1_test_11 rfl (by decide) ⟨by omega, by omega⟩ ⟨by omega, by omega⟩ (fun c22 => ?_) (fun c22 => ?_)
      · exact zt_vret hX hR dX1_test_53 ⟨hI15, hF16, by omega⟩
      · refine zt_aload_n (pc' := 15) hX dX1_test_14 rfl rfl ?_
        refine zt_get (pc' := 18) (v := .ref (X.1.1 + 27)) hX dX1_test_15 rfl zf_X1_15 (by decide) zc_33 zs_20 (zrf_of (zv_20_0 hI15 zc_33)) ?_
        refine zt_cVi (pc' := 21) hX dX1_test_18 rfl zm_yX5_wordHere zw_22_21 zc_27 (by decide) zs_14 (q := (RX5, TX5, 9)) rfl rfl (zc_X5_wordHere _ _ s14 hI15 ) rfl rfl (Nat.le_of_ble_eq_true rfl) (by decide) (fun r23 s24 hr25 hp26 => ?_)
        obtain ⟨rfl, q27, q28⟩ := hp26
        refine zt_bipush (pc' := 23) hX dX1_test_21 rfl (by decide) (by decide) ?_
        refine zt_icne (pc' := 26) (tgt := 53) hX dX1_test_23 rfl (by decide) ⟨by omega, by omega⟩ ⟨by omega, by omega⟩ (fun c29 => ?_) (fun c29 => ?_)
        · exact zt_vret hX hR dX1_test_53 ⟨hI15, hF16, by omega⟩
        · refine zt_aload_n (pc' := 27) hX dX1_test_26 rfl rfl ?_
          refine zt_get (pc' := 30) (v := .ref (X.1.1 + 27)) hX dX1_test_27 rfl zf_X1_15 (by decide) zc_33 zs_20 (zrf_of (zv_20_0 hI15 zc_33)) ?_
          refine zt_cVv (pc' := 33) hX dX1_test_30 rfl zm_yX5_step zw_22_6 zc_27 (by decide) zs_14 (q := (RX5, TX5, 9)) rfl rfl (zc_X5_step _ _ s14 hI15 (by omega)) rfl rfl (Nat.le_of_ble_eq_true rfl) (by decide) (fun r30 s31 hr32 hp33 => ?_)
          obtain ⟨hI34, hF35, z36⟩ := hp33
          have hF37 := zFA_tr hF16 hF35
          have b38 := zv_14_5 hI34 zc_27
          refine zt_aload_n (pc' := 34) hX dX1_test_33 rfl rfl ?_
          refine zt_iload_n (pc' := 35) hX dX1_test_34 rfl rfl ?_
          refine zt_cVv (pc' := 38) hX dX1_test_35 rfl zm_yX1_both zw_24_6 zc_33 (by decide) zs_20 (q := (RX1, TX1, 3)) rfl rfl (zc_X1_both_o6 _ _ s31 hI34 (by omega)) rfl rfl (Nat.le_of_ble_eq_true rfl) (by decide) (fun r39 s40 hr41 hp42 => ?_)
          obtain ⟨hI43, hF44, z45⟩ := hp42
          have hF46 := zFA_tr hF37 hF44
          have b47 := zv_14_5 hI43 zc_27
          refine zt_aload_n (pc' := 39) hX dX1_test_38 rfl rfl ?_
          obtain ⟨k48, ek49, hk50⟩ := zv_20_1 hI43 zc_33
          refine zt_get (pc' := 42) (v := .ref (X.1.1 + k48)) hX dX1_test_39 rfl zf_X1_19 (by decide) zc_33 zs_20 (zrf_of ek49) ?_
          refine zt_bipush (pc' := 44) hX dX1_test_42 rfl (by decide) (by decide) ?_
          refine zt_cVv (pc' := 47) hX dX1_test_44 rfl zm_yX4_addStep zw_22_7 hk50 (by decide) zs_6 (q := (RX4, TX4, 2)) rfl rfl (zc_X4_addStep _ _ s40 hI43 k48 hk50 21 ⟨by omega, by omega⟩) rfl rfl (Nat.le_of_ble_eq_true rfl) (by decide) (fun r51 s52 hr53 hp54 => ?_)
          obtain ⟨hI55, hF56, z57⟩ := hp54
          have hF58 := zFA_tr hF46 hF56
          have b59 := zv_14_5 hI55 zc_27
          refine zt_iinc (pc' := 50) (lv' := [some (.ref (X.1.1 + 33)), some (.int (zI 6)), some (.int (zI (x11 + 1)))]) hX dX1_test_47 rfl rfl hL (by decide) rfl ?_
          refine zt_goto (tgt := 7) hX dX1_test_50 (by decide) ?_
          exact ih20 (x11 + 1) s52 (by omega) (by omega) hI55 hF58 (by omega) (by omega)
  exact L_7_17 _ 0 s3 (by omega) (by omega) hI6 hF9 (by omega) (Nat.lt_succ_self _)

set_option maxRecDepth 100000 in
set_option maxHeartbeats 4000000 in
theorem zc_X1_opens_o5 (l : Launch) (E : zEN) (σ : zSto) (hI : zInv σ) (hpre0 : σ 27 5 ≤ 1600) : zCt l E yX1_opens cX1_opens 2 (some .boolean) 1 zNC zNC 0 0 σ [.ref (E.1 + 33), .int (zI 5)] (fun r σ' => zInv σ' ∧ zFA σ σ' ∧ 1 ≤ r ∧ r ≤ 1 ∧ (σ' 27 5 = σ 27 5)) := by
  refine zCt_of2 [some (.ref (E.1 + 33)), some (.int (zI 5))] (by decide +kernel) (Nat.le_of_ble_eq_true rfl) rfl ?_
  intro X hE hX hR hL hN
  subst hE
  have hX : zok X cX1_opens RX1 1 := hX
  have hF := zFA_rf σ
  have b1 := zv_14_5 hI zc_27
  refine zt_iload_n (pc' := 1) hX dX1_opens_0 rfl rfl ?_
  refine zt_bipush (pc' := 3) hX dX1_opens_1 rfl (by decide) (by decide) ?_
  refine zt_iclt (pc' := 6) (tgt := 23) hX dX1_opens_3 rfl (by decide) ⟨by omega, by omega⟩ ⟨by omega, by omega⟩ (fun c2 => ?_) (fun c2 => ?_)
  · refine zt_aload_n (pc' := 24) hX dX1_opens_23 rfl rfl ?_
    refine zt_get (pc' := 27) (v := .ref (X.1.1 + 27)) hX dX1_opens_24 rfl zf_X1_15 (by decide) zc_33 zs_20 (zrf_of (zv_20_0 hI zc_33)) ?_
    refine zt_cVv (pc' := 30) hX dX1_opens_27 rfl zm_yX5_step zw_22_6 zc_27 (by decide) zs_14 (q := (RX5, TX5, 9)) rfl rfl (zc_X5_step _ _ σ hI (by omega)) rfl rfl (Nat.le_of_ble_eq_true rfl) (by decide) (fun r3 s4 hr5 hp6 => ?_)
    obtain ⟨hI7, hF8, z9⟩ := hp6
    have hF10 := zFA_tr hF hF8
    have b11 := zv_14_5 hI7 zc_27
    refine zt_iconst (pc' := 31) hX dX1_opens_30 rfl ?_
    exact zt_zret hX hR dX1_opens_31 ⟨by omega, by omega⟩ ⟨hI7, hF10, by omega, by omega, by omega⟩
  · exact absurd c2 (by omega)

set_option maxRecDepth 100000 in
set_option maxHeartbeats 4000000 in
theorem zc_X1_pair_o5 (l : Launch) (E : zEN) (σ : zSto) (hI : zInv σ) (hpre0 : σ 27 5 ≤ 1600) : zCt l E yX1_pair cX1_pair 2 none 6 zNC zNC 0 0 σ [.ref (E.1 + 33), .int (zI 5)] (fun r σ' => zInv σ' ∧ zFA σ σ' ∧ (σ' 27 5 = σ 27 5)) := by
  refine zCt_of2 [some (.ref (E.1 + 33)), some (.int (zI 5))] (by decide +kernel) (Nat.le_of_ble_eq_true rfl) rfl ?_
  intro X hE hX hR hL hN
  subst hE
  have hX : zok X cX1_pair RX1 6 := hX
  have hF := zFA_rf σ
  have b1 := zv_14_5 hI zc_27
  refine zt_aload_n (pc' := 1) hX dX1_pair_0 rfl rfl ?_
  refine zt_get (pc' := 4) (v := .ref (X.1.1 + 27)) hX dX1_pair_1 rfl zf_X1_15 (by decide) zc_33 zs_20 (zrf_of (zv_20_0 hI zc_33)) ?_
  refine zt_cVi (pc' := 7) hX dX1_pair_4 rfl zm_yX5_signHere zw_22_2 zc_27 (by decide) zs_14 (q := (RX5, TX5, 9)) rfl rfl (zc_X5_signHere _ _ σ hI ) rfl rfl (Nat.le_of_ble_eq_true rfl) (by decide) (fun r2 s3 hr4 hp5 => ?_)
  obtain ⟨rfl, q6, q7⟩ := hp5
  refine zt_bipush (pc' := 9) hX dX1_pair_7 rfl (by decide) (by decide) ?_
  refine zt_iceq (pc' := 12) (tgt := 30) hX dX1_pair_9 rfl (by decide) ⟨by omega, by omega⟩ ⟨by omega, by omega⟩ (fun c8 => ?_) (fun c8 => ?_)
  · refine zt_aload_n (pc' := 31) hX dX1_pair_30 rfl rfl ?_
    refine zt_iload_n (pc' := 32) hX dX1_pair_31 rfl rfl ?_
    refine zt_cVz (pc' := 35) hX dX1_pair_32 rfl zm_yX1_opens zw_22_11 zc_33 (by decide) zs_20 (q := (RX1, TX1, 3)) rfl rfl (zc_X1_opens_o5 _ _ σ hI (by omega)) rfl rfl (Nat.le_of_ble_eq_true rfl) (by decide) (fun r9 s10 hr11 hp12 => ?_)
    obtain ⟨hI13, hF14, q15, q16, z17⟩ := hp12
    have hF18 := zFA_tr hF hF14
    have b19 := zv_14_5 hI13 zc_27
    refine zt_ifeq (pc' := 38) (tgt := 70) hX dX1_pair_35 rfl (by decide) ⟨by omega, by omega⟩ (fun c20 => ?_) (fun c20 => ?_)
    · exact absurd c20 (by omega)
    · refine zt_aload_n (pc' := 39) hX dX1_pair_38 rfl rfl ?_
      refine zt_iload_n (pc' := 40) hX dX1_pair_39 rfl rfl ?_
      refine zt_iconst (pc' := 41) hX dX1_pair_40 rfl ?_
      refine zt_iadd (pc' := 42) hX dX1_pair_41 rfl ?_
      rw [show (5 + 1 : Int) = 6 from rfl]
      refine zt_cVv (pc' := 45) hX dX1_pair_42 rfl zm_yX1_sum zw_21_19 zc_33 (by decide) zs_20 (q := (RX1, TX1, 3)) rfl rfl (zc_X1_sum_o6 _ _ s10 hI13 (by omega)) rfl rfl (Nat.le_of_ble_eq_true rfl) (by decide) (fun r21 s22 hr23 hp24 => ?_)
      obtain ⟨hI25, hF26, z27⟩ := hp24
      have hF28 := zFA_tr hF18 hF26
      have b29 := zv_14_5 hI25 zc_27
      refine zt_aload_n (pc' := 46) hX dX1_pair_45 rfl rfl ?_
      refine zt_get (pc' := 49) (v := .ref (X.1.1 + 27)) hX dX1_pair_46 rfl zf_X1_15 (by decide) zc_33 zs_20 (zrf_of (zv_20_0 hI25 zc_33)) ?_
      refine zt_bipush (pc' := 51) hX dX1_pair_49 rfl (by decide) (by decide) ?_
      refine zt_cVv (pc' := 54) hX dX1_pair_51 rfl zm_yX5_takeSign zw_22_15 zc_27 (by decide) zs_14 (q := (RX5, TX5, 9)) rfl rfl (zc_X5_takeSign _ _ s22 hI25 44 ⟨by omega, by omega⟩ (by omega)) rfl rfl (Nat.le_of_ble_eq_true rfl) (by decide) (fun r30 s31 hr32 hp33 => ?_)
      obtain ⟨hI34, hF35, z36⟩ := hp33
      have hF37 := zFA_tr hF28 hF35
      have b38 := zv_14_5 hI34 zc_27
      refine zt_aload_n (pc' := 55) hX dX1_pair_54 rfl rfl ?_
      refine zt_iload_n (pc' := 56) hX dX1_pair_55 rfl rfl ?_
      refine zt_iconst (pc' := 57) hX dX1_pair_56 rfl ?_
      refine zt_iadd (pc' := 58) hX dX1_pair_57 rfl ?_
      rw [show (5 + 1 : Int) = 6 from rfl]
      refine zt_cVv (pc' := 61) hX dX1_pair_58 rfl zm_yX1_sum zw_21_19 zc_33 (by decide) zs_20 (q := (RX1, TX1, 3)) rfl rfl (zc_X1_sum_o6 _ _ s31 hI34 (by omega)) rfl rfl (Nat.le_of_ble_eq_true rfl) (by decide) (fun r39 s40 hr41 hp42 => ?_)
      obtain ⟨hI43, hF44, z45⟩ := hp42
      have hF46 := zFA_tr hF37 hF44
      have b47 := zv_14_5 hI43 zc_27
      refine zt_aload_n (pc' := 62) hX dX1_pair_61 rfl rfl ?_
      refine zt_get (pc' := 65) (v := .ref (X.1.1 + 27)) hX dX1_pair_62 rfl zf_X1_15 (by decide) zc_33 zs_20 (zrf_of (zv_20_0 hI43 zc_33)) ?_
      refine zt_bipush (pc' := 67) hX dX1_pair_65 rfl (by decide) (by decide) ?_
      refine zt_cVv (pc' := 70) hX dX1_pair_67 rfl zm_yX5_takeSign zw_22_15 zc_27 (by decide) zs_14 (q := (RX5, TX5, 9)) rfl rfl (zc_X5_takeSign _ _ s40 hI43 41 ⟨by omega, by omega⟩ (by omega)) rfl rfl (Nat.le_of_ble_eq_true rfl) (by decide) (fun r48 s49 hr50 hp51 => ?_)
      obtain ⟨hI52, hF53, z54⟩ := hp51
      have hF55 := zFA_tr hF46 hF53
      have b56 := zv_14_5 hI52 zc_27
      exact zt_vret hX hR dX1_pair_70 ⟨hI52, hF55, by omega⟩
  · refine zt_aload_n (pc' := 13) hX dX1_pair_12 rfl rfl ?_
    refine zt_get (pc' := 16) (v := .ref (X.1.1 + 27)) hX dX1_pair_13 rfl zf_X1_15 (by decide) zc_33 zs_20 (zrf_of (zv_20_0 hI zc_33)) ?_
    refine zt_iconst (pc' := 17) hX dX1_pair_16 rfl ?_
    refine zt_aload_n (pc' := 18) hX dX1_pair_17 rfl rfl ?_
    refine zt_get (pc' := 21) (v := .ref (X.1.1 + 27)) hX dX1_pair_18 rfl zf_X1_15 (by decide) zc_33 zs_20 (zrf_of (zv_20_0 hI zc_33)) ?_
    refine zt_cVi (pc' := 24) hX dX1_pair_21 rfl zm_yX5_placeHere zw_22_9 zc_27 (by decide) zs_14 (q := (RX5, TX5, 9)) rfl rfl (zc_X5_placeHere _ _ σ hI ) rfl rfl (Nat.le_of_ble_eq_true rfl) (by decide) (fun r57 s58 hr59 hp60 => ?_)
    obtain ⟨rfl, q61, q62⟩ := hp60
    refine zt_cVv (pc' := 27) hX dX1_pair_24 rfl zm_yX5_refuse zw_22_10 zc_27 (by decide) zs_14 (q := (RX5, TX5, 9)) rfl rfl (zc_X5_refuse _ _ σ hI 1 ⟨by omega, by omega⟩ r57 ⟨by omega, by omega⟩ (by omega)) rfl rfl (Nat.le_of_ble_eq_true rfl) (by decide) (fun r63 s64 hr65 hp66 => ?_)
    obtain ⟨hI67, hF68, z69⟩ := hp66
    have hF70 := zFA_tr hF hF68
    have b71 := zv_14_5 hI67 zc_27
    refine zt_goto (tgt := 70) hX dX1_pair_27 (by decide) ?_
    exact zt_vret hX hR dX1_pair_70 ⟨hI67, hF70, by omega⟩
