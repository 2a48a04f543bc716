set_option maxRecDepth 100000 in
set_option maxHeartbeats 4000000 in
theorem yd_X3_isTold_7 (l : Launch) (E : zEN) (σ : zSto) (hI : zInv σ)  : zCt l E yX3_isTold cX3_isTold 1 (some .boolean) 0 zNC zNC 0 0 σ [.ref (E.1 + 7)] (fun r σ' => σ = σ' ∧ 0 ≤ r ∧ r ≤ 1 ∧ ((1 ≤ σ 7 10 → r = 1) ∧ (σ 7 10 = 0 → r = 0))) := by
  refine zCt_of2 [some (.ref (E.1 + 7))] (by decide +kernel) (Nat.le_of_ble_eq_true rfl) rfl ?_
  intro X hE_ hX hR hL hN
  subst hE_
  have hX : zok X cX3_isTold RX3 0 := hX
  have b1 := zv_8_10 hI zc_7
  refine zt_aload_n (pc' := 1) hX dX3_isTold_0 rfl rfl ?_
  have b2 := zv_8_10 hI zc_7
  refine zt_get (pc' := 4) (v := .int (zI (σ 7 10))) hX dX3_isTold_1 rfl zf_X3_47 (by decide) zc_7 zs_8 rfl ?_
  refine zt_ifle (pc' := 7) (tgt := 11) hX dX3_isTold_4 rfl (by decide) ⟨by omega, by omega⟩ (fun c3 => ?_) (fun c3 => ?_)
  · refine zt_iconst (pc' := 12) hX dX3_isTold_11 rfl ?_
    exact zt_zret hX hR dX3_isTold_12 ⟨by omega, by omega⟩ ⟨rfl, by omega, by omega, by omega⟩
  · refine zt_iconst (pc' := 8) hX dX3_isTold_7 rfl ?_
    refine zt_goto (tgt := 12) hX dX3_isTold_8 (by decide) ?_
    exact zt_zret hX hR dX3_isTold_12 ⟨by omega, by omega⟩ ⟨rfl, by omega, by omega, by omega⟩
set_option maxRecDepth 100000 in
set_option maxHeartbeats 4000000 in
theorem yd_X3_isTold_17 (l : Launch) (E : zEN) (σ : zSto) (hI : zInv σ)  : zCt l E yX3_isTold cX3_isTold 1 (some .boolean) 0 zNC zNC 0 0 σ [.ref (E.1 + 17)] (fun r σ' => σ = σ' ∧ 0 ≤ r ∧ r ≤ 1 ∧ ((1 ≤ σ 17 10 → r = 1) ∧ (σ 17 10 = 0 → r = 0))) := by
  refine zCt_of2 [some (.ref (E.1 + 17))] (by decide +kernel) (Nat.le_of_ble_eq_true rfl) rfl ?_
  intro X hE_ hX hR hL hN
  subst hE_
  have hX : zok X cX3_isTold RX3 0 := hX
  have b1 := zv_8_10 hI zc_17
  refine zt_aload_n (pc' := 1) hX dX3_isTold_0 rfl rfl ?_
  have b2 := zv_8_10 hI zc_17
  refine zt_get (pc' := 4) (v := .int (zI (σ 17 10))) hX dX3_isTold_1 rfl zf_X3_47 (by decide) zc_17 zs_8 rfl ?_
  refine zt_ifle (pc' := 7) (tgt := 11) hX dX3_isTold_4 rfl (by decide) ⟨by omega, by omega⟩ (fun c3 => ?_) (fun c3 => ?_)
  · refine zt_iconst (pc' := 12) hX dX3_isTold_11 rfl ?_
    exact zt_zret hX hR dX3_isTold_12 ⟨by omega, by omega⟩ ⟨rfl, by omega, by omega, by omega⟩
  · refine zt_iconst (pc' := 8) hX dX3_isTold_7 rfl ?_
    refine zt_goto (tgt := 12) hX dX3_isTold_8 (by decide) ?_
    exact zt_zret hX hR dX3_isTold_12 ⟨by omega, by omega⟩ ⟨rfl, by omega, by omega, by omega⟩
set_option maxRecDepth 100000 in
set_option maxHeartbeats 4000000 in
theorem yd_X11_ask_7 (l : Launch) (E : zEN) (σ : zSto) (hI : zInv σ) (hpre0 : σ 0 3 = 7) (hW : yTab σ) : zCt l E yX11_ask cX11_ask 3 (some .long) 36 zNC zNC 0 0 σ [.ref (E.1 + 0)] (fun r σ' => zInv σ' ∧ zOn zPq σ σ' ∧ -9223372036854775808 ≤ r ∧ r ≤ 9223372036854775807 ∧ (σ' 1 1 = 0) ∧ (σ' 0 3 = σ 0 3 ∧ σ' 0 4 = σ 0 4) ∧ (σ' 7 10 = σ 7 10 ∧ σ' 7 11 = σ 7 11 ∧ σ' 7 12 = σ 7 12) ∧ (σ' 17 10 = σ 17 10 ∧ σ' 17 11 = σ 17 11 ∧ σ' 17 12 = σ 17 12) ∧ (1 ≤ σ 7 10 → yFl (yQst (yT σ)) (σ' 0 15) (σ' 0 16)) ∧ (σ 7 10 = 0 → σ' 0 15 = σ 0 15 ∧ σ' 0 16 = σ 0 16)) := by
  refine zCt_of2 [some (.ref (E.1 + 0)), none, none] (by decide +kernel) (Nat.le_of_ble_eq_true rfl) rfl ?_
  intro X hE_ hX hR hL hN
  subst hE_
  have hX : zok X cX11_ask RX11 36 := hX
  have hF := zOn_rf zPq σ
  have b1 := zv_14_7 hI zc_27
  have b2 := zv_14_8 hI zc_27
  have b3 := zv_1_15 hI zc_0
  have b4 := zv_1_16 hI zc_0
  have b5 := zv_1_3 hI zc_0
  have b6 := zv_1_4 hI zc_0
  have b7 := zv_8_10 hI zc_7
  have b8 := zv_8_11 hI zc_7
  have b9 := zv_8_12 hI zc_7
  have b10 := zv_8_10 hI zc_17
  have b11 := zv_8_11 hI zc_17
  have b12 := zv_8_12 hI zc_17
  have b13 := zv_2_1 hI zc_1
  refine zt_aload_n (pc' := 1) hX dX11_ask_0 rfl rfl ?_
  have ek14 : σ 0 3 = ((7 : Nat) : Int) := by omega
  refine zt_get (pc' := 4) (v := .ref (X.1.1 + 7)) hX dX11_ask_1 rfl zf_X11_31 (by decide) zc_0 zs_1 (zrf_of ek14) ?_
  refine zt_cVz (pc' := 7) hX dX11_ask_4 rfl zm_yX3_isTold zw_48_6 zc_7 (by decide) zs_8 (q := (RX3, TX3, 17)) rfl rfl (yd_X3_isTold_7 _ _ σ hI ) rfl rfl (Nat.le_of_ble_eq_true rfl) (by decide) (fun r15 s16 hr17 hp18 => ?_)
  obtain ⟨rfl, q19, q20, z21⟩ := hp18
  obtain ⟨ht, hu⟩ := z21
  replace ht : yIm _ _ := ht
  replace hu : yIm _ _ := hu
  refine zt_ifne (pc' := 10) (tgt := 22) hX dX11_ask_7 rfl (by decide) ⟨by omega, by omega⟩ (fun c22 => ?_) (fun c22 => ?_)
  · refine zt_aload_n (pc' := 23) hX dX11_ask_22 rfl rfl ?_
    refine zt_get (pc' := 26) (v := .ref (X.1.1 + 33)) hX dX11_ask_23 rfl zf_X11_50 (by decide) zc_0 zs_1 (zrf_of (zv_1_6 hI zc_0)) ?_
    refine zt_aload_n (pc' := 27) hX dX11_ask_26 rfl rfl ?_
    refine zt_get (pc' := 30) (v := .ref (X.1.1 + 5)) hX dX11_ask_27 rfl zf_X11_24 (by decide) zc_0 zs_1 (zrf_of (zv_1_2 hI zc_0)) ?_
    refine zt_aload_n (pc' := 31) hX dX11_ask_30 rfl rfl ?_
    refine zt_get (pc' := 34) (v := .ref (X.1.1 + 1)) hX dX11_ask_31 rfl zf_X11_14 (by decide) zc_0 zs_1 (zrf_of (zv_1_0 hI zc_0)) ?_
    refine zt_cVi (pc' := 37) hX dX11_ask_34 rfl zm_yX1_readQuestion zw_64_14 zc_33 (by decide) zs_20 (q := (RX1, TX1, 3)) rfl rfl (yc_X1_readQuestion _ _ σ hI 5 zc_5 hW) rfl rfl (Nat.le_of_ble_eq_true rfl) (by decide) (fun r23 s24 hr25 hp26 => ?_)
    obtain ⟨hI27, hF28, q29, q30, z31, z32, z33⟩ := hp26
    have hF34 := zOn_tr hF hF28 zi_5q
    have b35 := zv_14_7 hI27 zc_27
    have b36 := zv_14_8 hI27 zc_27
    have b37 := zv_1_15 hI27 zc_0
    have b38 := zv_1_16 hI27 zc_0
    have b39 := zv_1_3 hI27 zc_0
    have b40 := zv_1_4 hI27 zc_0
    have b41 := zv_8_10 hI27 zc_7
    have b42 := zv_8_11 hI27 zc_7
    have b43 := zv_8_12 hI27 zc_7
    have b44 := zv_8_10 hI27 zc_17
    have b45 := zv_8_11 hI27 zc_17
    have b46 := zv_8_12 hI27 zc_17
    have b47 := zv_2_1 hI27 zc_1
    have e48 := hF28 0 15 rfl
    have e49 := hF28 0 16 rfl
    have e50 := hF28 0 3 rfl
    have e51 := hF28 0 4 rfl
    have e52 := hF28 7 10 rfl
    have e53 := hF28 7 11 rfl
    have e54 := hF28 7 12 rfl
    have e55 := hF28 17 10 rfl
    have e56 := hF28 17 11 rfl
    have e57 := hF28 17 12 rfl
    have e58 := hF28 1 1 rfl
    have y59 := yFl_q z31 z32
    clear z31 z32
    refine zt_istore_n (pc' := 38) (lv' := [some (.ref (X.1.1 + 0)), some (.int (zI r23)), none]) hX dX11_ask_37 rfl hL (by decide) rfl ?_
    refine zt_aload_n (pc' := 39) hX dX11_ask_38 rfl rfl ?_
    refine zt_get (pc' := 42) (v := .ref (X.1.1 + 1)) hX dX11_ask_39 rfl zf_X11_14 (by decide) zc_0 zs_1 (zrf_of (zv_1_0 hI27 zc_0)) ?_
    refine zt_iconst (pc' := 43) hX dX11_ask_42 rfl ?_
    refine zt_put (pc' := 46) (x := 0) hX dX11_ask_43 rfl zf_X11_110 (by decide) zc_1 zs_2 (fun q hq => by cases hq; rfl) rfl rfl rfl ?_
    generalize hs61 : zset s24 1 1 0 = s60
    have hI62 : zInv s60 := hs61 ▸ zp_2_1 hI27 zc_1 ⟨by omega, by omega⟩
    have hF63 : zOn zPq σ s60 := hs61 ▸ zOn_set hF34 rfl
    have e64 : s60 27 7 = s24 27 7 := by rw [← hs61]; exact zset_k (zne_r zc_27 zc_1 (by decide))
    have e65 : s60 27 8 = s24 27 8 := by rw [← hs61]; exact zset_k (zne_r zc_27 zc_1 (by decide))
    have e66 : s60 0 15 = s24 0 15 := by rw [← hs61]; exact zset_k (zne_r zc_0 zc_1 (by decide))
    have e67 : s60 0 16 = s24 0 16 := by rw [← hs61]; exact zset_k (zne_r zc_0 zc_1 (by decide))
    have e68 : s60 0 3 = s24 0 3 := by rw [← hs61]; exact zset_k (zne_r zc_0 zc_1 (by decide))
    have e69 : s60 0 4 = s24 0 4 := by rw [← hs61]; exact zset_k (zne_r zc_0 zc_1 (by decide))
    have e70 : s60 7 10 = s24 7 10 := by rw [← hs61]; exact zset_k (zne_r zc_7 zc_1 (by decide))
    have e71 : s60 7 11 = s24 7 11 := by rw [← hs61]; exact zset_k (zne_r zc_7 zc_1 (by decide))
    have e72 : s60 7 12 = s24 7 12 := by rw [← hs61]; exact zset_k (zne_r zc_7 zc_1 (by decide))
    have e73 : s60 17 10 = s24 17 10 := by rw [← hs61]; exact zset_k (zne_r zc_17 zc_1 (by decide))
    have e74 : s60 17 11 = s24 17 11 := by rw [← hs61]; exact zset_k (zne_r zc_17 zc_1 (by decide))
    have e75 : s60 17 12 = s24 17 12 := by rw [← hs61]; exact zset_k (zne_r zc_17 zc_1 (by decide))
    have e76 : s60 1 1 = 0 := by rw [← hs61]; exact zset_s
    refine zt_aload_n (pc' := 47) hX dX11_ask_46 rfl rfl ?_
    refine zt_cVv (pc' := 50) hX dX11_ask_47 rfl zm_yX11_rememberFault zw_24_19 zc_0 (by decide) zs_1 (q := (RX11, TX11, 17)) rfl rfl (yc_X11_rememberFault _ _ s60 hI62 ) rfl rfl (Nat.le_of_ble_eq_true rfl) (by decide) (fun r77 s78 hr79 hp80 => ?_)
    obtain ⟨hI81, hF82, z83⟩ := hp80
    have hF84 := zOn_tr hF63 hF82 zi_fq
    have b85 := zv_14_7 hI81 zc_27
    have b86 := zv_14_8 hI81 zc_27
    have b87 := zv_1_15 hI81 zc_0
    have b88 := zv_1_16 hI81 zc_0
    have b89 := zv_1_3 hI81 zc_0
    have b90 := zv_1_4 hI81 zc_0
    have b91 := zv_8_10 hI81 zc_7
    have b92 := zv_8_11 hI81 zc_7
    have b93 := zv_8_12 hI81 zc_7
    have b94 := zv_8_10 hI81 zc_17
    have b95 := zv_8_11 hI81 zc_17
    have b96 := zv_8_12 hI81 zc_17
    have b97 := zv_2_1 hI81 zc_1
    have e98 := hF82 27 7 rfl
    have e99 := hF82 27 8 rfl
    have e100 := hF82 0 3 rfl
    have e101 := hF82 0 4 rfl
    have e102 := hF82 7 10 rfl
    have e103 := hF82 7 11 rfl
    have e104 := hF82 7 12 rfl
    have e105 := hF82 17 10 rfl
    have e106 := hF82 17 11 rfl
    have e107 := hF82 17 12 rfl
    have e108 := hF82 1 1 rfl
    refine zt_aload_n (pc' := 51) hX dX11_ask_50 rfl rfl ?_
    have b109 := zv_1_15 hI81 zc_0
    refine zt_get (pc' := 54) (v := .int (zI (s78 0 15))) hX dX11_ask_51 rfl zf_X11_104 (by decide) zc_0 zs_1 rfl ?_
    refine zt_ifeq (pc' := 57) (tgt := 61) hX dX11_ask_54 rfl (by decide) ⟨by omega, by omega⟩ (fun c110 => ?_) (fun c110 => ?_)
    · refine zt_aload_n (pc' := 62) hX dX11_ask_61 rfl rfl ?_
      refine zt_cVi (pc' := 65) hX dX11_ask_62 rfl zm_yX11_holdersNow zw_34_0 zc_0 (by decide) zs_1 (q := (RX11, TX11, 17)) rfl rfl (zc_X11_holdersNow _ _ s78 hI81 ) rfl rfl (Nat.le_of_ble_eq_true rfl) (by decide) (fun r111 s112 hr113 hp114 => ?_)
      obtain ⟨hI115, hF116, q117, q118⟩ := hp114
      have hF119 := zOn_tr hF84 (zOn_qe hF116) zi_id
      have b120 := zv_14_7 hI115 zc_27
      have b121 := zv_14_8 hI115 zc_27
      have b122 := zv_1_15 hI115 zc_0
      have b123 := zv_1_16 hI115 zc_0
      have b124 := zv_1_3 hI115 zc_0
      have b125 := zv_1_4 hI115 zc_0
      have b126 := zv_8_10 hI115 zc_7
      have b127 := zv_8_11 hI115 zc_7
      have b128 := zv_8_12 hI115 zc_7
      have b129 := zv_8_10 hI115 zc_17
      have b130 := zv_8_11 hI115 zc_17
      have b131 := zv_8_12 hI115 zc_17
      have b132 := zv_2_1 hI115 zc_1
      have e133 : s112 0 3 = s78 0 3 := hF116.1.2.1
      have e134 : s112 0 4 = s78 0 4 := hF116.1.2.2.1
      have e135 : s112 7 10 = s78 7 10 := congrFun (hF116.1.1 7 (by decide)) 10
      have e136 : s112 7 11 = s78 7 11 := congrFun (hF116.1.1 7 (by decide)) 11
      have e137 : s112 7 12 = s78 7 12 := congrFun (hF116.1.1 7 (by decide)) 12
      have e138 : s112 17 10 = s78 17 10 := congrFun (hF116.1.1 17 (by decide)) 10
      have e139 : s112 17 11 = s78 17 11 := congrFun (hF116.1.1 17 (by decide)) 11
      have e140 : s112 17 12 = s78 17 12 := congrFun (hF116.1.1 17 (by decide)) 12
      have e141 : s112 1 1 = s78 1 1 := hF116.2
      have e142 : s112 0 15 = s78 0 15 ∧ s112 0 16 = s78 0 16 := ⟨hF116.1.2.2.2.1, hF116.1.2.2.2.2⟩
      refine zt_istore_n (pc' := 66) (lv' := [some (.ref (X.1.1 + 0)), some (.int (zI r23)), some (.int (zI r111))]) hX dX11_ask_65 rfl hL (by decide) rfl ?_
      refine zt_iload_n (pc' := 67) hX dX11_ask_66 rfl rfl ?_
      rcases (show r23 = 27 ∨ r23 = 28 ∨ r23 = 29 ∨ r23 = 30 ∨ r23 = 31 ∨ (r23 < 27 ∨ 31 < r23) by omega) with c143 | c143 | c143 | c143 | c143 | c143
      · refine zt_tsIn (v := 27) (tgt := 100) hX dX11_ask_67 c143 (by decide) (by decide) (by decide) rfl (by decide) ?_
        refine zt_aload_n (pc' := 101) hX dX11_ask_100 rfl rfl ?_
        refine zt_iload_n (pc' := 102) hX dX11_ask_101 rfl rfl ?_
        refine zt_cVi (pc' := 105) hX dX11_ask_102 rfl zm_yX11_firstFor zw_64_22 zc_0 (by decide) zs_1 (q := (RX11, TX11, 17)) rfl rfl (zc_X11_firstFor _ _ s112 hI115 r111 ⟨by omega, by omega⟩) rfl rfl (Nat.le_of_ble_eq_true rfl) (by decide) (fun r144 s145 hr146 hp147 => ?_)
        obtain ⟨hI148, hF149, q150, q151⟩ := hp147
        have hF152 := zOn_tr hF119 (zOn_qe hF149) zi_id
        have b153 := zv_14_7 hI148 zc_27
        have b154 := zv_14_8 hI148 zc_27
        have b155 := zv_1_15 hI148 zc_0
        have b156 := zv_1_16 hI148 zc_0
        have b157 := zv_1_3 hI148 zc_0
        have b158 := zv_1_4 hI148 zc_0
        have b159 := zv_8_10 hI148 zc_7
        have b160 := zv_8_11 hI148 zc_7
        have b161 := zv_8_12 hI148 zc_7
        have b162 := zv_8_10 hI148 zc_17
        have b163 := zv_8_11 hI148 zc_17
        have b164 := zv_8_12 hI148 zc_17
        have b165 := zv_2_1 hI148 zc_1
        have e166 : s145 0 3 = s112 0 3 := hF149.1.2.1
        have e167 : s145 0 4 = s112 0 4 := hF149.1.2.2.1
        have e168 : s145 7 10 = s112 7 10 := congrFun (hF149.1.1 7 (by decide)) 10
        have e169 : s145 7 11 = s112 7 11 := congrFun (hF149.1.1 7 (by decide)) 11
        have e170 : s145 7 12 = s112 7 12 := congrFun (hF149.1.1 7 (by decide)) 12
        have e171 : s145 17 10 = s112 17 10 := congrFun (hF149.1.1 17 (by decide)) 10
        have e172 : s145 17 11 = s112 17 11 := congrFun (hF149.1.1 17 (by decide)) 11
        have e173 : s145 17 12 = s112 17 12 := congrFun (hF149.1.1 17 (by decide)) 12
        have e174 : s145 1 1 = s112 1 1 := hF149.2
        have e175 : s145 0 15 = s112 0 15 ∧ s145 0 16 = s112 0 16 := ⟨hF149.1.2.2.2.1, hF149.1.2.2.2.2⟩
        refine zt_i2l (pc' := 106) hX dX11_ask_105 rfl ⟨by omega, by omega⟩ ?_
        exact zt_lret hX hR dX11_ask_106 ⟨by omega, by omega⟩ ⟨hI148, hF152, by omega, by omega, by omega, ⟨by omega, by omega⟩, ⟨by omega, by omega, by omega⟩, ⟨by omega, by omega, by omega⟩, (fun _ => yFl_eq y59 (by omega) (by omega)), (fun o => absurd (show _ = (0 : Int) from hu o) (by omega))⟩
      · refine zt_tsIn (v := 28) (tgt := 107) hX dX11_ask_67 c143 (by decide) (by decide) (by decide) rfl (by decide) ?_
        refine zt_aload_n (pc' := 108) hX dX11_ask_107 rfl rfl ?_
        refine zt_iload_n (pc' := 109) hX dX11_ask_108 rfl rfl ?_
        refine zt_cVi (pc' := 112) hX dX11_ask_109 rfl zm_yX11_lastFor zw_65_14 zc_0 (by decide) zs_1 (q := (RX11, TX11, 17)) rfl rfl (zc_X11_lastFor _ _ s112 hI115 r111 ⟨by omega, by omega⟩) rfl rfl (Nat.le_of_ble_eq_true rfl) (by decide) (fun r176 s177 hr178 hp179 => ?_)
        obtain ⟨hI180, hF181, q182, q183⟩ := hp179
        have hF184 := zOn_tr hF119 (zOn_qe hF181) zi_id
        have b185 := zv_14_7 hI180 zc_27
        have b186 := zv_14_8 hI180 zc_27
        have b187 := zv_1_15 hI180 zc_0
        have b188 := zv_1_16 hI180 zc_0
        have b189 := zv_1_3 hI180 zc_0
        have b190 := zv_1_4 hI180 zc_0
        have b191 := zv_8_10 hI180 zc_7
        have b192 := zv_8_11 hI180 zc_7
        have b193 := zv_8_12 hI180 zc_7
        have b194 := zv_8_10 hI180 zc_17
        have b195 := zv_8_11 hI180 zc_17
        have b196 := zv_8_12 hI180 zc_17
        have b197 := zv_2_1 hI180 zc_1
        have e198 : s177 0 3 = s112 0 3 := hF181.1.2.1
        have e199 : s177 0 4 = s112 0 4 := hF181.1.2.2.1
        have e200 : s177 7 10 = s112 7 10 := congrFun (hF181.1.1 7 (by decide)) 10
        have e201 : s177 7 11 = s112 7 11 := congrFun (hF181.1.1 7 (by decide)) 11
        have e202 : s177 7 12 = s112 7 12 := congrFun (hF181.1.1 7 (by decide)) 12
        have e203 : s177 17 10 = s112 17 10 := congrFun (hF181.1.1 17 (by decide)) 10
        have e204 : s177 17 11 = s112 17 11 := congrFun (hF181.1.1 17 (by decide)) 11
        have e205 : s177 17 12 = s112 17 12 := congrFun (hF181.1.1 17 (by decide)) 12
        have e206 : s177 1 1 = s112 1 1 := hF181.2
        have e207 : s177 0 15 = s112 0 15 ∧ s177 0 16 = s112 0 16 := ⟨hF181.1.2.2.2.1, hF181.1.2.2.2.2⟩
        refine zt_i2l (pc' := 113) hX dX11_ask_112 rfl ⟨by omega, by omega⟩ ?_
        exact zt_lret hX hR dX11_ask_113 ⟨by omega, by omega⟩ ⟨hI180, hF184, by omega, by omega, by omega, ⟨by omega, by omega⟩, ⟨by omega, by omega, by omega⟩, ⟨by omega, by omega, by omega⟩, (fun _ => yFl_eq y59 (by omega) (by omega)), (fun o => absurd (show _ = (0 : Int) from hu o) (by omega))⟩
      · refine zt_tsIn (v := 29) (tgt := 114) hX dX11_ask_67 c143 (by decide) (by decide) (by decide) rfl (by decide) ?_
        refine zt_aload_n (pc' := 115) hX dX11_ask_114 rfl rfl ?_
        refine zt_iload_n (pc' := 116) hX dX11_ask_115 rfl rfl ?_
        refine zt_cVi (pc' := 119) hX dX11_ask_116 rfl zm_yX11_howOften zw_65_18 zc_0 (by decide) zs_1 (q := (RX11, TX11, 17)) rfl rfl (zc_X11_howOften _ _ s112 hI115 r111 ⟨by omega, by omega⟩) rfl rfl (Nat.le_of_ble_eq_true rfl) (by decide) (fun r208 s209 hr210 hp211 => ?_)
        obtain ⟨hI212, hF213, q214, q215⟩ := hp211
        have hF216 := zOn_tr hF119 (zOn_qe hF213) zi_id
        have b217 := zv_14_7 hI212 zc_27
        have b218 := zv_14_8 hI212 zc_27
        have b219 := zv_1_15 hI212 zc_0
        have b220 := zv_1_16 hI212 zc_0
        have b221 := zv_1_3 hI212 zc_0
        have b222 := zv_1_4 hI212 zc_0
        have b223 := zv_8_10 hI212 zc_7
        have b224 := zv_8_11 hI212 zc_7
        have b225 := zv_8_12 hI212 zc_7
        have b226 := zv_8_10 hI212 zc_17
        have b227 := zv_8_11 hI212 zc_17
        have b228 := zv_8_12 hI212 zc_17
        have b229 := zv_2_1 hI212 zc_1
        have e230 : s209 0 3 = s112 0 3 := hF213.1.2.1
        have e231 : s209 0 4 = s112 0 4 := hF213.1.2.2.1
        have e232 : s209 7 10 = s112 7 10 := congrFun (hF213.1.1 7 (by decide)) 10
        have e233 : s209 7 11 = s112 7 11 := congrFun (hF213.1.1 7 (by decide)) 11
        have e234 : s209 7 12 = s112 7 12 := congrFun (hF213.1.1 7 (by decide)) 12
        have e235 : s209 17 10 = s112 17 10 := congrFun (hF213.1.1 17 (by decide)) 10
        have e236 : s209 17 11 = s112 17 11 := congrFun (hF213.1.1 17 (by decide)) 11
        have e237 : s209 17 12 = s112 17 12 := congrFun (hF213.1.1 17 (by decide)) 12
        have e238 : s209 1 1 = s112 1 1 := hF213.2
        have e239 : s209 0 15 = s112 0 15 ∧ s209 0 16 = s112 0 16 := ⟨hF213.1.2.2.2.1, hF213.1.2.2.2.2⟩
        refine zt_i2l (pc' := 120) hX dX11_ask_119 rfl ⟨by omega, by omega⟩ ?_
        exact zt_lret hX hR dX11_ask_120 ⟨by omega, by omega⟩ ⟨hI212, hF216, by omega, by omega, by omega, ⟨by omega, by omega⟩, ⟨by omega, by omega, by omega⟩, ⟨by omega, by omega, by omega⟩, (fun _ => yFl_eq y59 (by omega) (by omega)), (fun o => absurd (show _ = (0 : Int) from hu o) (by omega))⟩
      · refine zt_tsIn (v := 30) (tgt := 121) hX dX11_ask_67 c143 (by decide) (by decide) (by decide) rfl (by decide) ?_
        refine zt_aload_n (pc' := 122) hX dX11_ask_121 rfl rfl ?_
        refine zt_iload_n (pc' := 123) hX dX11_ask_122 rfl rfl ?_
        refine zt_cVl (pc' := 126) hX dX11_ask_123 rfl zm_yX11_total zw_65_22 zc_0 (by decide) zs_1 (q := (RX11, TX11, 17)) rfl rfl (zc_X11_total _ _ s112 hI115 r111 ⟨by omega, by omega⟩) rfl rfl (Nat.le_of_ble_eq_true rfl) (by decide) (fun r240 s241 hr242 hp243 => ?_)
        obtain ⟨hI244, hF245, q246, q247⟩ := hp243
        have hF248 := zOn_tr hF119 (zOn_qe hF245) zi_id
        have b249 := zv_14_7 hI244 zc_27
        have b250 := zv_14_8 hI244 zc_27
        have b251 := zv_1_15 hI244 zc_0
        have b252 := zv_1_16 hI244 zc_0
        have b253 := zv_1_3 hI244 zc_0
        have b254 := zv_1_4 hI244 zc_0
        have b255 := zv_8_10 hI244 zc_7
        have b256 := zv_8_11 hI244 zc_7
        have b257 := zv_8_12 hI244 zc_7
        have b258 := zv_8_10 hI244 zc_17
        have b259 := zv_8_11 hI244 zc_17
        have b260 := zv_8_12 hI244 zc_17
        have b261 := zv_2_1 hI244 zc_1
        have e262 : s241 0 3 = s112 0 3 := hF245.1.2.1
        have e263 : s241 0 4 = s112 0 4 := hF245.1.2.2.1
        have e264 : s241 7 10 = s112 7 10 := congrFun (hF245.1.1 7 (by decide)) 10
        have e265 : s241 7 11 = s112 7 11 := congrFun (hF245.1.1 7 (by decide)) 11
        have e266 : s241 7 12 = s112 7 12 := congrFun (hF245.1.1 7 (by decide)) 12
        have e267 : s241 17 10 = s112 17 10 := congrFun (hF245.1.1 17 (by decide)) 10
        have e268 : s241 17 11 = s112 17 11 := congrFun (hF245.1.1 17 (by decide)) 11
        have e269 : s241 17 12 = s112 17 12 := congrFun (hF245.1.1 17 (by decide)) 12
        have e270 : s241 1 1 = s112 1 1 := hF245.2
        have e271 : s241 0 15 = s112 0 15 ∧ s241 0 16 = s112 0 16 := ⟨hF245.1.2.2.2.1, hF245.1.2.2.2.2⟩
        exact zt_lret hX hR dX11_ask_126 ⟨by omega, by omega⟩ ⟨hI244, hF248, by omega, by omega, by omega, ⟨by omega, by omega⟩, ⟨by omega, by omega, by omega⟩, ⟨by omega, by omega, by omega⟩, (fun _ => yFl_eq y59 (by omega) (by omega)), (fun o => absurd (show _ = (0 : Int) from hu o) (by omega))⟩
      · refine zt_tsIn (v := 31) (tgt := 127) hX dX11_ask_67 c143 (by decide) (by decide) (by decide) rfl (by decide) ?_
        refine zt_aload_n (pc' := 128) hX dX11_ask_127 rfl rfl ?_
        refine zt_iload_n (pc' := 129) hX dX11_ask_128 rfl rfl ?_
        refine zt_cVi (pc' := 132) hX dX11_ask_129 rfl zm_yX11_most zw_66_2 zc_0 (by decide) zs_1 (q := (RX11, TX11, 17)) rfl rfl (zc_X11_most _ _ s112 hI115 r111 ⟨by omega, by omega⟩) rfl rfl (Nat.le_of_ble_eq_true rfl) (by decide) (fun r272 s273 hr274 hp275 => ?_)
        obtain ⟨hI276, hF277, q278, q279⟩ := hp275
        have hF280 := zOn_tr hF119 (zOn_qe hF277) zi_id
        have b281 := zv_14_7 hI276 zc_27
        have b282 := zv_14_8 hI276 zc_27
        have b283 := zv_1_15 hI276 zc_0
        have b284 := zv_1_16 hI276 zc_0
        have b285 := zv_1_3 hI276 zc_0
        have b286 := zv_1_4 hI276 zc_0
        have b287 := zv_8_10 hI276 zc_7
        have b288 := zv_8_11 hI276 zc_7
        have b289 := zv_8_12 hI276 zc_7
        have b290 := zv_8_10 hI276 zc_17
        have b291 := zv_8_11 hI276 zc_17
        have b292 := zv_8_12 hI276 zc_17
        have b293 := zv_2_1 hI276 zc_1
        have e294 : s273 0 3 = s112 0 3 := hF277.1.2.1
        have e295 : s273 0 4 = s112 0 4 := hF277.1.2.2.1
        have e296 : s273 7 10 = s112 7 10 := congrFun (hF277.1.1 7 (by decide)) 10
        have e297 : s273 7 11 = s112 7 11 := congrFun (hF277.1.1 7 (by decide)) 11
        have e298 : s273 7 12 = s112 7 12 := congrFun (hF277.1.1 7 (by decide)) 12
        have e299 : s273 17 10 = s112 17 10 := congrFun (hF277.1.1 17 (by decide)) 10
        have e300 : s273 17 11 = s112 17 11 := congrFun (hF277.1.1 17 (by decide)) 11
        have e301 : s273 17 12 = s112 17 12 := congrFun (hF277.1.1 17 (by decide)) 12
        have e302 : s273 1 1 = s112 1 1 := hF277.2
        have e303 : s273 0 15 = s112 0 15 ∧ s273 0 16 = s112 0 16 := ⟨hF277.1.2.2.2.1, hF277.1.2.2.2.2⟩
        refine zt_i2l (pc' := 133) hX dX11_ask_132 rfl ⟨by omega, by omega⟩ ?_
        exact zt_lret hX hR dX11_ask_133 ⟨by omega, by omega⟩ ⟨hI276, hF280, by omega, by omega, by omega, ⟨by omega, by omega⟩, ⟨by omega, by omega, by omega⟩, ⟨by omega, by omega, by omega⟩, (fun _ => yFl_eq y59 (by omega) (by omega)), (fun o => absurd (show _ = (0 : Int) from hu o) (by omega))⟩
      · refine zt_tsOut (tgt := 134) hX dX11_ask_67 ⟨by omega, by omega⟩ c143 (by decide) ?_
        refine zt_aload_n (pc' := 135) hX dX11_ask_134 rfl rfl ?_
        refine zt_iload_n (pc' := 136) hX dX11_ask_135 rfl rfl ?_
        refine zt_cVi (pc' := 139) hX dX11_ask_136 rfl zm_yX11_least zw_66_7 zc_0 (by decide) zs_1 (q := (RX11, TX11, 17)) rfl rfl (zc_X11_least _ _ s112 hI115 r111 ⟨by omega, by omega⟩) rfl rfl (Nat.le_of_ble_eq_true rfl) (by decide) (fun r304 s305 hr306 hp307 => ?_)
        obtain ⟨hI308, hF309, q310, q311⟩ := hp307
        have hF312 := zOn_tr hF119 (zOn_qe hF309) zi_id
        have b313 := zv_14_7 hI308 zc_27
        have b314 := zv_14_8 hI308 zc_27
        have b315 := zv_1_15 hI308 zc_0
        have b316 := zv_1_16 hI308 zc_0
        have b317 := zv_1_3 hI308 zc_0
        have b318 := zv_1_4 hI308 zc_0
        have b319 := zv_8_10 hI308 zc_7
        have b320 := zv_8_11 hI308 zc_7
        have b321 := zv_8_12 hI308 zc_7
        have b322 := zv_8_10 hI308 zc_17
        have b323 := zv_8_11 hI308 zc_17
        have b324 := zv_8_12 hI308 zc_17
        have b325 := zv_2_1 hI308 zc_1
        have e326 : s305 0 3 = s112 0 3 := hF309.1.2.1
        have e327 : s305 0 4 = s112 0 4 := hF309.1.2.2.1
        have e328 : s305 7 10 = s112 7 10 := congrFun (hF309.1.1 7 (by decide)) 10
        have e329 : s305 7 11 = s112 7 11 := congrFun (hF309.1.1 7 (by decide)) 11
        have e330 : s305 7 12 = s112 7 12 := congrFun (hF309.1.1 7 (by decide)) 12
        have e331 : s305 17 10 = s112 17 10 := congrFun (hF309.1.1 17 (by decide)) 10
        have e332 : s305 17 11 = s112 17 11 := congrFun (hF309.1.1 17 (by decide)) 11
        have e333 : s305 17 12 = s112 17 12 := congrFun (hF309.1.1 17 (by decide)) 12
        have e334 : s305 1 1 = s112 1 1 := hF309.2
        have e335 : s305 0 15 = s112 0 15 ∧ s305 0 16 = s112 0 16 := ⟨hF309.1.2.2.2.1, hF309.1.2.2.2.2⟩
        refine zt_i2l (pc' := 140) hX dX11_ask_139 rfl ⟨by omega, by omega⟩ ?_
        exact zt_lret hX hR dX11_ask_140 ⟨by omega, by omega⟩ ⟨hI308, hF312, by omega, by omega, by omega, ⟨by omega, by omega⟩, ⟨by omega, by omega, by omega⟩, ⟨by omega, by omega, by omega⟩, (fun _ => yFl_eq y59 (by omega) (by omega)), (fun o => absurd (show _ = (0 : Int) from hu o) (by omega))⟩
    · refine zt_ldc2 (pc' := 60) (x := (-1000000000000000)) hX dX11_ask_57 rfl zw_45_20 (by decide +kernel) ?_
      exact zt_lret hX hR dX11_ask_60 ⟨by omega, by omega⟩ ⟨hI81, hF84, by omega, by omega, by omega, ⟨by omega, by omega⟩, ⟨by omega, by omega, by omega⟩, ⟨by omega, by omega, by omega⟩, (fun _ => yFl_eq y59 (by omega) (by omega)), (fun o => absurd (show _ = (0 : Int) from hu o) (by omega))⟩
  · refine zt_aload_n (pc' := 11) hX dX11_ask_10 rfl rfl ?_
    refine zt_get (pc' := 14) (v := .ref (X.1.1 + 1)) hX dX11_ask_11 rfl zf_X11_14 (by decide) zc_0 zs_1 (zrf_of (zv_1_0 hI zc_0)) ?_
    refine zt_iconst (pc' := 15) hX dX11_ask_14 rfl ?_
    refine zt_put (pc' := 18) (x := 0) hX dX11_ask_15 rfl zf_X11_110 (by decide) zc_1 zs_2 (fun q hq => by cases hq; rfl) rfl rfl rfl ?_
    generalize hs337 : zset σ 1 1 0 = s336
    have hI338 : zInv s336 := hs337 ▸ zp_2_1 hI zc_1 ⟨by omega, by omega⟩
    have hF339 : zOn zPq σ s336 := hs337 ▸ zOn_set hF rfl
    have e340 : s336 27 7 = σ 27 7 := by rw [← hs337]; exact zset_k (zne_r zc_27 zc_1 (by decide))
    have e341 : s336 27 8 = σ 27 8 := by rw [← hs337]; exact zset_k (zne_r zc_27 zc_1 (by decide))
    have e342 : s336 0 15 = σ 0 15 := by rw [← hs337]; exact zset_k (zne_r zc_0 zc_1 (by decide))
    have e343 : s336 0 16 = σ 0 16 := by rw [← hs337]; exact zset_k (zne_r zc_0 zc_1 (by decide))
    have e344 : s336 0 3 = σ 0 3 := by rw [← hs337]; exact zset_k (zne_r zc_0 zc_1 (by decide))
    have e345 : s336 0 4 = σ 0 4 := by rw [← hs337]; exact zset_k (zne_r zc_0 zc_1 (by decide))
    have e346 : s336 7 10 = σ 7 10 := by rw [← hs337]; exact zset_k (zne_r zc_7 zc_1 (by decide))
    have e347 : s336 7 11 = σ 7 11 := by rw [← hs337]; exact zset_k (zne_r zc_7 zc_1 (by decide))
    have e348 : s336 7 12 = σ 7 12 := by rw [← hs337]; exact zset_k (zne_r zc_7 zc_1 (by decide))
    have e349 : s336 17 10 = σ 17 10 := by rw [← hs337]; exact zset_k (zne_r zc_17 zc_1 (by decide))
    have e350 : s336 17 11 = σ 17 11 := by rw [← hs337]; exact zset_k (zne_r zc_17 zc_1 (by decide))
    have e351 : s336 17 12 = σ 17 12 := by rw [← hs337]; exact zset_k (zne_r zc_17 zc_1 (by decide))
    have e352 : s336 1 1 = 0 := by rw [← hs337]; exact zset_s
    refine zt_ldc2 (pc' := 21) (x := (-1000000000000000)) hX dX11_ask_18 rfl zw_45_20 (by decide +kernel) ?_
    exact zt_lret hX hR dX11_ask_21 ⟨by omega, by omega⟩ ⟨hI338, hF339, by omega, by omega, by omega, ⟨by omega, by omega⟩, ⟨by omega, by omega, by omega⟩, ⟨by omega, by omega, by omega⟩, (fun o => absurd (show _ = (1 : Int) from ht o) (by omega)), (fun _ => ⟨by omega, by omega⟩)⟩
set_option maxRecDepth 100000 in
set_option maxHeartbeats 4000000 in
theorem yd_X11_ask_17 (l : Launch) (E : zEN) (σ : zSto) (hI : zInv σ) (hpre0 : σ 0 3 = 17) (hW : yTab σ) : zCt l E yX11_ask cX11_ask 3 (some .long) 36 zNC zNC 0 0 σ [.ref (E.1 + 0)] (fun r σ' => zInv σ' ∧ zOn zPq σ σ' ∧ -9223372036854775808 ≤ r ∧ r ≤ 9223372036854775807 ∧ (σ' 1 1 = 0) ∧ (σ' 0 3 = σ 0 3 ∧ σ' 0 4 = σ 0 4) ∧ (σ' 7 10 = σ 7 10 ∧ σ' 7 11 = σ 7 11 ∧ σ' 7 12 = σ 7 12) ∧ (σ' 17 10 = σ 17 10 ∧ σ' 17 11 = σ 17 11 ∧ σ' 17 12 = σ 17 12) ∧ (1 ≤ σ 17 10 → yFl (yQst (yT σ)) (σ' 0 15) (σ' 0 16)) ∧ (σ 17 10 = 0 → σ' 0 15 = σ 0 15 ∧ σ' 0 16 = σ 0 16)) := by
  refine zCt_of2 [some (.ref (E.1 + 0)), none, none] (by decide +kernel) (Nat.le_of_ble_eq_true rfl) rfl ?_
  intro X hE_ hX hR hL hN
  subst hE_
  have hX : zok X cX11_ask RX11 36 := hX
  have hF := zOn_rf zPq σ
  have b1 := zv_14_7 hI zc_27
  have b2 := zv_14_8 hI zc_27
  have b3 := zv_1_15 hI zc_0
  have b4 := zv_1_16 hI zc_0
  have b5 := zv_1_3 hI zc_0
  have b6 := zv_1_4 hI zc_0
  have b7 := zv_8_10 hI zc_7
  have b8 := zv_8_11 hI zc_7
  have b9 := zv_8_12 hI zc_7
  have b10 := zv_8_10 hI zc_17
  have b11 := zv_8_11 hI zc_17
  have b12 := zv_8_12 hI zc_17
  have b13 := zv_2_1 hI zc_1
  refine zt_aload_n (pc' := 1) hX dX11_ask_0 rfl rfl ?_
  have ek14 : σ 0 3 = ((17 : Nat) : Int) := by omega
  refine zt_get (pc' := 4) (v := .ref (X.1.1 + 17)) hX dX11_ask_1 rfl zf_X11_31 (by decide) zc_0 zs_1 (zrf_of ek14) ?_
  refine zt_cVz (pc' := 7) hX dX11_ask_4 rfl zm_yX3_isTold zw_48_6 zc_17 (by decide) zs_8 (q := (RX3, TX3, 17)) rfl rfl (yd_X3_isTold_17 _ _ σ hI ) rfl rfl (Nat.le_of_ble_eq_true rfl) (by decide) (fun r15 s16 hr17 hp18 => ?_)
  obtain ⟨rfl, q19, q20, z21⟩ := hp18
  obtain ⟨ht, hu⟩ := z21
  replace ht : yIm _ _ := ht
  replace hu : yIm _ _ := hu
  refine zt_ifne (pc' := 10) (tgt := 22) hX dX11_ask_7 rfl (by decide) ⟨by omega, by omega⟩ (fun c22 => ?_) (fun c22 => ?_)
  · refine zt_aload_n (pc' := 23) hX dX11_ask_22 rfl rfl ?_
    refine zt_get (pc' := 26) (v := .ref (X.1.1 + 33)) hX dX11_ask_23 rfl zf_X11_50 (by decide) zc_0 zs_1 (zrf_of (zv_1_6 hI zc_0)) ?_
    refine zt_aload_n (pc' := 27) hX dX11_ask_26 rfl rfl ?_
    refine zt_get (pc' := 30) (v := .ref (X.1.1 + 5)) hX dX11_ask_27 rfl zf_X11_24 (by decide) zc_0 zs_1 (zrf_of (zv_1_2 hI zc_0)) ?_
    refine zt_aload_n (pc' := 31) hX dX11_ask_30 rfl rfl ?_
    refine zt_get (pc' := 34) (v := .ref (X.1.1 + 1)) hX dX11_ask_31 rfl zf_X11_14 (by decide) zc_0 zs_1 (zrf_of (zv_1_0 hI zc_0)) ?_
    refine zt_cVi (pc' := 37) hX dX11_ask_34 rfl zm_yX1_readQuestion zw_64_14 zc_33 (by decide) zs_20 (q := (RX1, TX1, 3)) rfl rfl (yc_X1_readQuestion _ _ σ hI 5 zc_5 hW) rfl rfl (Nat.le_of_ble_eq_true rfl) (by decide) (fun r23 s24 hr25 hp26 => ?_)
    obtain ⟨hI27, hF28, q29, q30, z31, z32, z33⟩ := hp26
    have hF34 := zOn_tr hF hF28 zi_5q
    have b35 := zv_14_7 hI27 zc_27
    have b36 := zv_14_8 hI27 zc_27
    have b37 := zv_1_15 hI27 zc_0
    have b38 := zv_1_16 hI27 zc_0
    have b39 := zv_1_3 hI27 zc_0
    have b40 := zv_1_4 hI27 zc_0
    have b41 := zv_8_10 hI27 zc_7
    have b42 := zv_8_11 hI27 zc_7
    have b43 := zv_8_12 hI27 zc_7
    have b44 := zv_8_10 hI27 zc_17
    have b45 := zv_8_11 hI27 zc_17
    have b46 := zv_8_12 hI27 zc_17
    have b47 := zv_2_1 hI27 zc_1
    have e48 := hF28 0 15 rfl
    have e49 := hF28 0 16 rfl
    have e50 := hF28 0 3 rfl
    have e51 := hF28 0 4 rfl
    have e52 := hF28 7 10 rfl
    have e53 := hF28 7 11 rfl
    have e54 := hF28 7 12 rfl
    have e55 := hF28 17 10 rfl
    have e56 := hF28 17 11 rfl
    have e57 := hF28 17 12 rfl
    have e58 := hF28 1 1 rfl
    have y59 := yFl_q z31 z32
    clear z31 z32
    refine zt_istore_n (pc' := 38) (lv' := [some (.ref (X.1.1 + 0)), some (.int (zI r23)), none]) hX dX11_ask_37 rfl hL (by decide) rfl ?_
    refine zt_aload_n (pc' := 39) hX dX11_ask_38 rfl rfl ?_
    refine zt_get (pc' := 42) (v := .ref (X.1.1 + 1)) hX dX11_ask_39 rfl zf_X11_14 (by decide) zc_0 zs_1 (zrf_of (zv_1_0 hI27 zc_0)) ?_
    refine zt_iconst (pc' := 43) hX dX11_ask_42 rfl ?_
    refine zt_put (pc' := 46) (x := 0) hX dX11_ask_43 rfl zf_X11_110 (by decide) zc_1 zs_2 (fun q hq => by cases hq; rfl) rfl rfl rfl ?_
    generalize hs61 : zset s24 1 1 0 = s60
    have hI62 : zInv s60 := hs61 ▸ zp_2_1 hI27 zc_1 ⟨by omega, by omega⟩
    have hF63 : zOn zPq σ s60 := hs61 ▸ zOn_set hF34 rfl
    have e64 : s60 27 7 = s24 27 7 := by rw [← hs61]; exact zset_k (zne_r zc_27 zc_1 (by decide))
    have e65 : s60 27 8 = s24 27 8 := by rw [← hs61]; exact zset_k (zne_r zc_27 zc_1 (by decide))
    have e66 : s60 0 15 = s24 0 15 := by rw [← hs61]; exact zset_k (zne_r zc_0 zc_1 (by decide))
    have e67 : s60 0 16 = s24 0 16 := by rw [← hs61]; exact zset_k (zne_r zc_0 zc_1 (by decide))
    have e68 : s60 0 3 = s24 0 3 := by rw [← hs61]; exact zset_k (zne_r zc_0 zc_1 (by decide))
    have e69 : s60 0 4 = s24 0 4 := by rw [← hs61]; exact zset_k (zne_r zc_0 zc_1 (by decide))
    have e70 : s60 7 10 = s24 7 10 := by rw [← hs61]; exact zset_k (zne_r zc_7 zc_1 (by decide))
    have e71 : s60 7 11 = s24 7 11 := by rw [← hs61]; exact zset_k (zne_r zc_7 zc_1 (by decide))
    have e72 : s60 7 12 = s24 7 12 := by rw [← hs61]; exact zset_k (zne_r zc_7 zc_1 (by decide))
    have e73 : s60 17 10 = s24 17 10 := by rw [← hs61]; exact zset_k (zne_r zc_17 zc_1 (by decide))
    have e74 : s60 17 11 = s24 17 11 := by rw [← hs61]; exact zset_k (zne_r zc_17 zc_1 (by decide))
    have e75 : s60 17 12 = s24 17 12 := by rw [← hs61]; exact zset_k (zne_r zc_17 zc_1 (by decide))
    have e76 : s60 1 1 = 0 := by rw [← hs61]; exact zset_s
    refine zt_aload_n (pc' := 47) hX dX11_ask_46 rfl rfl ?_
    refine zt_cVv (pc' := 50) hX dX11_ask_47 rfl zm_yX11_rememberFault zw_24_19 zc_0 (by decide) zs_1 (q := (RX11, TX11, 17)) rfl rfl (yc_X11_rememberFault _ _ s60 hI62 ) rfl rfl (Nat.le_of_ble_eq_true rfl) (by decide) (fun r77 s78 hr79 hp80 => ?_)
    obtain ⟨hI81, hF82, z83⟩ := hp80
    have hF84 := zOn_tr hF63 hF82 zi_fq
    have b85 := zv_14_7 hI81 zc_27
    have b86 := zv_14_8 hI81 zc_27
    have b87 := zv_1_15 hI81 zc_0
    have b88 := zv_1_16 hI81 zc_0
    have b89 := zv_1_3 hI81 zc_0
    have b90 := zv_1_4 hI81 zc_0
    have b91 := zv_8_10 hI81 zc_7
    have b92 := zv_8_11 hI81 zc_7
    have b93 := zv_8_12 hI81 zc_7
    have b94 := zv_8_10 hI81 zc_17
    have b95 := zv_8_11 hI81 zc_17
    have b96 := zv_8_12 hI81 zc_17
    have b97 := zv_2_1 hI81 zc_1
    have e98 := hF82 27 7 rfl
    have e99 := hF82 27 8 rfl
    have e100 := hF82 0 3 rfl
    have e101 := hF82 0 4 rfl
    have e102 := hF82 7 10 rfl
    have e103 := hF82 7 11 rfl
    have e104 := hF82 7 12 rfl
    have e105 := hF82 17 10 rfl
    have e106 := hF82 17 11 rfl
    have e107 := hF82 17 12 rfl
    have e108 := hF82 1 1 rfl
    refine zt_aload_n (pc' := 51) hX dX11_ask_50 rfl rfl ?_
    have b109 := zv_1_15 hI81 zc_0
    refine zt_get (pc' := 54) (v := .int (zI (s78 0 15))) hX dX11_ask_51 rfl zf_X11_104 (by decide) zc_0 zs_1 rfl ?_
    refine zt_ifeq (pc' := 57) (tgt := 61) hX dX11_ask_54 rfl (by decide) ⟨by omega, by omega⟩ (fun c110 => ?_) (fun c110 => ?_)
    · refine zt_aload_n (pc' := 62) hX dX11_ask_61 rfl rfl ?_
      refine zt_cVi (pc' := 65) hX dX11_ask_62 rfl zm_yX11_holdersNow zw_34_0 zc_0 (by decide) zs_1 (q := (RX11, TX11, 17)) rfl rfl (zc_X11_holdersNow _ _ s78 hI81 ) rfl rfl (Nat.le_of_ble_eq_true rfl) (by decide) (fun r111 s112 hr113 hp114 => ?_)
      obtain ⟨hI115, hF116, q117, q118⟩ := hp114
      have hF119 := zOn_tr hF84 (zOn_qe hF116) zi_id
      have b120 := zv_14_7 hI115 zc_27
      have b121 := zv_14_8 hI115 zc_27
      have b122 := zv_1_15 hI115 zc_0
      have b123 := zv_1_16 hI115 zc_0
      have b124 := zv_1_3 hI115 zc_0
      have b125 := zv_1_4 hI115 zc_0
      have b126 := zv_8_10 hI115 zc_7
      have b127 := zv_8_11 hI115 zc_7
      have b128 := zv_8_12 hI115 zc_7
      have b129 := zv_8_10 hI115 zc_17
      have b130 := zv_8_11 hI115 zc_17
      have b131 := zv_8_12 hI115 zc_17
      have b132 := zv_2_1 hI115 zc_1
      have e133 : s112 0 3 = s78 0 3 := hF116.1.2.1
      have e134 : s112 0 4 = s78 0 4 := hF116.1.2.2.1
      have e135 : s112 7 10 = s78 7 10 := congrFun (hF116.1.1 7 (by decide)) 10
      have e136 : s112 7 11 = s78 7 11 := congrFun (hF116.1.1 7 (by decide)) 11
      have e137 : s112 7 12 = s78 7 12 := congrFun (hF116.1.1 7 (by decide)) 12
      have e138 : s112 17 10 = s78 17 10 := congrFun (hF116.1.1 17 (by decide)) 10
      have e139 : s112 17 11 = s78 17 11 := congrFun (hF116.1.1 17 (by decide)) 11
      have e140 : s112 17 12 = s78 17 12 := congrFun (hF116.1.1 17 (by decide)) 12
      have e141 : s112 1 1 = s78 1 1 := hF116.2
      have e142 : s112 0 15 = s78 0 15 ∧ s112 0 16 = s78 0 16 := ⟨hF116.1.2.2.2.1, hF116.1.2.2.2.2⟩
      refine zt_istore_n (pc' := 66) (lv' := [some (.ref (X.1.1 + 0)), some (.int (zI r23)), some (.int (zI r111))]) hX dX11_ask_65 rfl hL (by decide) rfl ?_
      refine zt_iload_n (pc' := 67) hX dX11_ask_66 rfl rfl ?_
      rcases (show r23 = 27 ∨ r23 = 28 ∨ r23 = 29 ∨ r23 = 30 ∨ r23 = 31 ∨ (r23 < 27 ∨ 31 < r23) by omega) with c143 | c143 | c143 | c143 | c143 | c143
      · refine zt_tsIn (v := 27) (tgt := 100) hX dX11_ask_67 c143 (by decide) (by decide) (by decide) rfl (by decide) ?_
        refine zt_aload_n (pc' := 101) hX dX11_ask_100 rfl rfl ?_
        refine zt_iload_n (pc' := 102) hX dX11_ask_101 rfl rfl ?_
        refine zt_cVi (pc' := 105) hX dX11_ask_102 rfl zm_yX11_firstFor zw_64_22 zc_0 (by decide) zs_1 (q := (RX11, TX11, 17)) rfl rfl (zc_X11_firstFor _ _ s112 hI115 r111 ⟨by omega, by omega⟩) rfl rfl (Nat.le_of_ble_eq_true rfl) (by decide) (fun r144 s145 hr146 hp147 => ?_)
        obtain ⟨hI148, hF149, q150, q151⟩ := hp147
        have hF152 := zOn_tr hF119 (zOn_qe hF149) zi_id
        have b153 := zv_14_7 hI148 zc_27
        have b154 := zv_14_8 hI148 zc_27
        have b155 := zv_1_15 hI148 zc_0
        have b156 := zv_1_16 hI148 zc_0
        have b157 := zv_1_3 hI148 zc_0
        have b158 := zv_1_4 hI148 zc_0
        have b159 := zv_8_10 hI148 zc_7
        have b160 := zv_8_11 hI148 zc_7
        have b161 := zv_8_12 hI148 zc_7
        have b162 := zv_8_10 hI148 zc_17
        have b163 := zv_8_11 hI148 zc_17
        have b164 := zv_8_12 hI148 zc_17
        have b165 := zv_2_1 hI148 zc_1
        have e166 : s145 0 3 = s112 0 3 := hF149.1.2.1
        have e167 : s145 0 4 = s112 0 4 := hF149.1.2.2.1
        have e168 : s145 7 10 = s112 7 10 := congrFun (hF149.1.1 7 (by decide)) 10
        have e169 : s145 7 11 = s112 7 11 := congrFun (hF149.1.1 7 (by decide)) 11
        have e170 : s145 7 12 = s112 7 12 := congrFun (hF149.1.1 7 (by decide)) 12
        have e171 : s145 17 10 = s112 17 10 := congrFun (hF149.1.1 17 (by decide)) 10
        have e172 : s145 17 11 = s112 17 11 := congrFun (hF149.1.1 17 (by decide)) 11
        have e173 : s145 17 12 = s112 17 12 := congrFun (hF149.1.1 17 (by decide)) 12
        have e174 : s145 1 1 = s112 1 1 := hF149.2
        have e175 : s145 0 15 = s112 0 15 ∧ s145 0 16 = s112 0 16 := ⟨hF149.1.2.2.2.1, hF149.1.2.2.2.2⟩
        refine zt_i2l (pc' := 106) hX dX11_ask_105 rfl ⟨by omega, by omega⟩ ?_
        exact zt_lret hX hR dX11_ask_106 ⟨by omega, by omega⟩ ⟨hI148, hF152, by omega, by omega, by omega, ⟨by omega, by omega⟩, ⟨by omega, by omega, by omega⟩, ⟨by omega, by omega, by omega⟩, (fun _ => yFl_eq y59 (by omega) (by omega)), (fun o => absurd (show _ = (0 : Int) from hu o) (by omega))⟩
      · refine zt_tsIn (v := 28) (tgt := 107) hX dX11_ask_67 c143 (by decide) (by decide) (by decide) rfl (by decide) ?_
        refine zt_aload_n (pc' := 108) hX dX11_ask_107 rfl rfl ?_
        refine zt_iload_n (pc' := 109) hX dX11_ask_108 rfl rfl ?_
        refine zt_cVi (pc' := 112) hX dX11_ask_109 rfl zm_yX11_lastFor zw_65_14 zc_0 (by decide) zs_1 (q := (RX11, TX11, 17)) rfl rfl (zc_X11_lastFor _ _ s112 hI115 r111 ⟨by omega, by omega⟩) rfl rfl (Nat.le_of_ble_eq_true rfl) (by decide) (fun r176 s177 hr178 hp179 => ?_)
        obtain ⟨hI180, hF181, q182, q183⟩ := hp179
        have hF184 := zOn_tr hF119 (zOn_qe hF181) zi_id
        have b185 := zv_14_7 hI180 zc_27
        have b186 := zv_14_8 hI180 zc_27
        have b187 := zv_1_15 hI180 zc_0
        have b188 := zv_1_16 hI180 zc_0
        have b189 := zv_1_3 hI180 zc_0
        have b190 := zv_1_4 hI180 zc_0
        have b191 := zv_8_10 hI180 zc_7
        have b192 := zv_8_11 hI180 zc_7
        have b193 := zv_8_12 hI180 zc_7
        have b194 := zv_8_10 hI180 zc_17
        have b195 := zv_8_11 hI180 zc_17
        have b196 := zv_8_12 hI180 zc_17
        have b197 := zv_2_1 hI180 zc_1
        have e198 : s177 0 3 = s112 0 3 := hF181.1.2.1
        have e199 : s177 0 4 = s112 0 4 := hF181.1.2.2.1
        have e200 : s177 7 10 = s112 7 10 := congrFun (hF181.1.1 7 (by decide)) 10
        have e201 : s177 7 11 = s112 7 11 := congrFun (hF181.1.1 7 (by decide)) 11
        have e202 : s177 7 12 = s112 7 12 := congrFun (hF181.1.1 7 (by decide)) 12
        have e203 : s177 17 10 = s112 17 10 := congrFun (hF181.1.1 17 (by decide)) 10
        have e204 : s177 17 11 = s112 17 11 := congrFun (hF181.1.1 17 (by decide)) 11
        have e205 : s177 17 12 = s112 17 12 := congrFun (hF181.1.1 17 (by decide)) 12
        have e206 : s177 1 1 = s112 1 1 := hF181.2
        have e207 : s177 0 15 = s112 0 15 ∧ s177 0 16 = s112 0 16 := ⟨hF181.1.2.2.2.1, hF181.1.2.2.2.2⟩
        refine zt_i2l (pc' := 113) hX dX11_ask_112 rfl ⟨by omega, by omega⟩ ?_
        exact zt_lret hX hR dX11_ask_113 ⟨by omega, by omega⟩ ⟨hI180, hF184, by omega, by omega, by omega, ⟨by omega, by omega⟩, ⟨by omega, by omega, by omega⟩, ⟨by omega, by omega, by omega⟩, (fun _ => yFl_eq y59 (by omega) (by omega)), (fun o => absurd (show _ = (0 : Int) from hu o) (by omega))⟩
      · refine zt_tsIn (v := 29) (tgt := 114) hX dX11_ask_67 c143 (by decide) (by decide) (by decide) rfl (by decide) ?_
        refine zt_aload_n (pc' := 115) hX dX11_ask_114 rfl rfl ?_
        refine zt_iload_n (pc' := 116) hX dX11_ask_115 rfl rfl ?_
        refine zt_cVi (pc' := 119) hX dX11_ask_116 rfl zm_yX11_howOften zw_65_18 zc_0 (by decide) zs_1 (q := (RX11, TX11, 17)) rfl rfl (zc_X11_howOften _ _ s112 hI115 r111 ⟨by omega, by omega⟩) rfl rfl (Nat.le_of_ble_eq_true rfl) (by decide) (fun r208 s209 hr210 hp211 => ?_)
        obtain ⟨hI212, hF213, q214, q215⟩ := hp211
        have hF216 := zOn_tr hF119 (zOn_qe hF213) zi_id
        have b217 := zv_14_7 hI212 zc_27
        have b218 := zv_14_8 hI212 zc_27
        have b219 := zv_1_15 hI212 zc_0
        have b220 := zv_1_16 hI212 zc_0
        have b221 := zv_1_3 hI212 zc_0
        have b222 := zv_1_4 hI212 zc_0
        have b223 := zv_8_10 hI212 zc_7
        have b224 := zv_8_11 hI212 zc_7
        have b225 := zv_8_12 hI212 zc_7
        have b226 := zv_8_10 hI212 zc_17
        have b227 := zv_8_11 hI212 zc_17
        have b228 := zv_8_12 hI212 zc_17
        have b229 := zv_2_1 hI212 zc_1
        have e230 : s209 0 3 = s112 0 3 := hF213.1.2.1
        have e231 : s209 0 4 = s112 0 4 := hF213.1.2.2.1
        have e232 : s209 7 10 = s112 7 10 := congrFun (hF213.1.1 7 (by decide)) 10
        have e233 : s209 7 11 = s112 7 11 := congrFun (hF213.1.1 7 (by decide)) 11
        have e234 : s209 7 12 = s112 7 12 := congrFun (hF213.1.1 7 (by decide)) 12
        have e235 : s209 17 10 = s112 17 10 := congrFun (hF213.1.1 17 (by decide)) 10
        have e236 : s209 17 11 = s112 17 11 := congrFun (hF213.1.1 17 (by decide)) 11
        have e237 : s209 17 12 = s112 17 12 := congrFun (hF213.1.1 17 (by decide)) 12
        have e238 : s209 1 1 = s112 1 1 := hF213.2
        have e239 : s209 0 15 = s112 0 15 ∧ s209 0 16 = s112 0 16 := ⟨hF213.1.2.2.2.1, hF213.1.2.2.2.2⟩
        refine zt_i2l (pc' := 120) hX dX11_ask_119 rfl ⟨by omega, by omega⟩ ?_
        exact zt_lret hX hR dX11_ask_120 ⟨by omega, by omega⟩ ⟨hI212, hF216, by omega, by omega, by omega, ⟨by omega, by omega⟩, ⟨by omega, by omega, by omega⟩, ⟨by omega, by omega, by omega⟩, (fun _ => yFl_eq y59 (by omega) (by omega)), (fun o => absurd (show _ = (0 : Int) from hu o) (by omega))⟩
      · refine zt_tsIn (v := 30) (tgt := 121) hX dX11_ask_67 c143 (by decide) (by decide) (by decide) rfl (by decide) ?_
        refine zt_aload_n (pc' := 122) hX dX11_ask_121 rfl rfl ?_
        refine zt_iload_n (pc' := 123) hX dX11_ask_122 rfl rfl ?_
        refine zt_cVl (pc' := 126) hX dX11_ask_123 rfl zm_yX11_total zw_65_22 zc_0 (by decide) zs_1 (q := (RX11, TX11, 17)) rfl rfl (zc_X11_total _ _ s112 hI115 r111 ⟨by omega, by omega⟩) rfl rfl (Nat.le_of_ble_eq_true rfl) (by decide) (fun r240 s241 hr242 hp243 => ?_)
        obtain ⟨hI244, hF245, q246, q247⟩ := hp243
        have hF248 := zOn_tr hF119 (zOn_qe hF245) zi_id
        have b249 := zv_14_7 hI244 zc_27
        have b250 := zv_14_8 hI244 zc_27
        have b251 := zv_1_15 hI244 zc_0
        have b252 := zv_1_16 hI244 zc_0
        have b253 := zv_1_3 hI244 zc_0
        have b254 := zv_1_4 hI244 zc_0
        have b255 := zv_8_10 hI244 zc_7
        have b256 := zv_8_11 hI244 zc_7
        have b257 := zv_8_12 hI244 zc_7
        have b258 := zv_8_10 hI244 zc_17
        have b259 := zv_8_11 hI244 zc_17
        have b260 := zv_8_12 hI244 zc_17
        have b261 := zv_2_1 hI244 zc_1
        have e262 : s241 0 3 = s112 0 3 := hF245.1.2.1
        have e263 : s241 0 4 = s112 0 4 := hF245.1.2.2.1
        have e264 : s241 7 10 = s112 7 10 := congrFun (hF245.1.1 7 (by decide)) 10
        have e265 : s241 7 11 = s112 7 11 := congrFun (hF245.1.1 7 (by decide)) 11
        have e266 : s241 7 12 = s112 7 12 := congrFun (hF245.1.1 7 (by decide)) 12
        have e267 : s241 17 10 = s112 17 10 := congrFun (hF245.1.1 17 (by decide)) 10
        have e268 : s241 17 11 = s112 17 11 := congrFun (hF245.1.1 17 (by decide)) 11
        have e269 : s241 17 12 = s112 17 12 := congrFun (hF245.1.1 17 (by decide)) 12
        have e270 : s241 1 1 = s112 1 1 := hF245.2
        have e271 : s241 0 15 = s112 0 15 ∧ s241 0 16 = s112 0 16 := ⟨hF245.1.2.2.2.1, hF245.1.2.2.2.2⟩
        exact zt_lret hX hR dX11_ask_126 ⟨by omega, by omega⟩ ⟨hI244, hF248, by omega, by omega, by omega, ⟨by omega, by omega⟩, ⟨by omega, by omega, by omega⟩, ⟨by omega, by omega, by omega⟩, (fun _ => yFl_eq y59 (by omega) (by omega)), (fun o => absurd (show _ = (0 : Int) from hu o) (by omega))⟩
      · refine zt_tsIn (v := 31) (tgt := 127) hX dX11_ask_67 c143 (by decide) (by decide) (by decide) rfl (by decide) ?_
        refine zt_aload_n (pc' := 128) hX dX11_ask_127 rfl rfl ?_
        refine zt_iload_n (pc' := 129) hX dX11_ask_128 rfl rfl ?_
        refine zt_cVi (pc' := 132) hX dX11_ask_129 rfl zm_yX11_most zw_66_2 zc_0 (by decide) zs_1 (q := (RX11, TX11, 17)) rfl rfl (zc_X11_most _ _ s112 hI115 r111 ⟨by omega, by omega⟩) rfl rfl (Nat.le_of_ble_eq_true rfl) (by decide) (fun r272 s273 hr274 hp275 => ?_)
        obtain ⟨hI276, hF277, q278, q279⟩ := hp275
        have hF280 := zOn_tr hF119 (zOn_qe hF277) zi_id
        have b281 := zv_14_7 hI276 zc_27
        have b282 := zv_14_8 hI276 zc_27
        have b283 := zv_1_15 hI276 zc_0
        have b284 := zv_1_16 hI276 zc_0
        have b285 := zv_1_3 hI276 zc_0
        have b286 := zv_1_4 hI276 zc_0
        have b287 := zv_8_10 hI276 zc_7
        have b288 := zv_8_11 hI276 zc_7
        have b289 := zv_8_12 hI276 zc_7
        have b290 := zv_8_10 hI276 zc_17
        have b291 := zv_8_11 hI276 zc_17
        have b292 := zv_8_12 hI276 zc_17
        have b293 := zv_2_1 hI276 zc_1
        have e294 : s273 0 3 = s112 0 3 := hF277.1.2.1
        have e295 : s273 0 4 = s112 0 4 := hF277.1.2.2.1
        have e296 : s273 7 10 = s112 7 10 := congrFun (hF277.1.1 7 (by decide)) 10
        have e297 : s273 7 11 = s112 7 11 := congrFun (hF277.1.1 7 (by decide)) 11
        have e298 : s273 7 12 = s112 7 12 := congrFun (hF277.1.1 7 (by decide)) 12
        have e299 : s273 17 10 = s112 17 10 := congrFun (hF277.1.1 17 (by decide)) 10
        have e300 : s273 17 11 = s112 17 11 := congrFun (hF277.1.1 17 (by decide)) 11
        have e301 : s273 17 12 = s112 17 12 := congrFun (hF277.1.1 17 (by decide)) 12
        have e302 : s273 1 1 = s112 1 1 := hF277.2
        have e303 : s273 0 15 = s112 0 15 ∧ s273 0 16 = s112 0 16 := ⟨hF277.1.2.2.2.1, hF277.1.2.2.2.2⟩
        refine zt_i2l (pc' := 133) hX dX11_ask_132 rfl ⟨by omega, by omega⟩ ?_
        exact zt_lret hX hR dX11_ask_133 ⟨by omega, by omega⟩ ⟨hI276, hF280, by omega, by omega, by omega, ⟨by omega, by omega⟩, ⟨by omega, by omega, by omega⟩, ⟨by omega, by omega, by omega⟩, (fun _ => yFl_eq y59 (by omega) (by omega)), (fun o => absurd (show _ = (0 : Int) from hu o) (by omega))⟩
      · refine zt_tsOut (tgt := 134) hX dX11_ask_67 ⟨by omega, by omega⟩ c143 (by decide) ?_
        refine zt_aload_n (pc' := 135) hX dX11_ask_134 rfl rfl ?_
        refine zt_iload_n (pc' := 136) hX dX11_ask_135 rfl rfl ?_
        refine zt_cVi (pc' := 139) hX dX11_ask_136 rfl zm_yX11_least zw_66_7 zc_0 (by decide) zs_1 (q := (RX11, TX11, 17)) rfl rfl (zc_X11_least _ _ s112 hI115 r111 ⟨by omega, by omega⟩) rfl rfl (Nat.le_of_ble_eq_true rfl) (by decide) (fun r304 s305 hr306 hp307 => ?_)
        obtain ⟨hI308, hF309, q310, q311⟩ := hp307
        have hF312 := zOn_tr hF119 (zOn_qe hF309) zi_id
        have b313 := zv_14_7 hI308 zc_27
        have b314 := zv_14_8 hI308 zc_27
        have b315 := zv_1_15 hI308 zc_0
        have b316 := zv_1_16 hI308 zc_0
        have b317 := zv_1_3 hI308 zc_0
        have b318 := zv_1_4 hI308 zc_0
        have b319 := zv_8_10 hI308 zc_7
        have b320 := zv_8_11 hI308 zc_7
        have b321 := zv_8_12 hI308 zc_7
        have b322 := zv_8_10 hI308 zc_17
        have b323 := zv_8_11 hI308 zc_17
        have b324 := zv_8_12 hI308 zc_17
        have b325 := zv_2_1 hI308 zc_1
        have e326 : s305 0 3 = s112 0 3 := hF309.1.2.1
        have e327 : s305 0 4 = s112 0 4 := hF309.1.2.2.1
        have e328 : s305 7 10 = s112 7 10 := congrFun (hF309.1.1 7 (by decide)) 10
        have e329 : s305 7 11 = s112 7 11 := congrFun (hF309.1.1 7 (by decide)) 11
        have e330 : s305 7 12 = s112 7 12 := congrFun (hF309.1.1 7 (by decide)) 12
        have e331 : s305 17 10 = s112 17 10 := congrFun (hF309.1.1 17 (by decide)) 10
        have e332 : s305 17 11 = s112 17 11 := congrFun (hF309.1.1 17 (by decide)) 11
        have e333 : s305 17 12 = s112 17 12 := congrFun (hF309.1.1 17 (by decide)) 12
        have e334 : s305 1 1 = s112 1 1 := hF309.2
        have e335 : s305 0 15 = s112 0 15 ∧ s305 0 16 = s112 0 16 := ⟨hF309.1.2.2.2.1, hF309.1.2.2.2.2⟩
        refine zt_i2l (pc' := 140) hX dX11_ask_139 rfl ⟨by omega, by omega⟩ ?_
        exact zt_lret hX hR dX11_ask_140 ⟨by omega, by omega⟩ ⟨hI308, hF312, by omega, by omega, by omega, ⟨by omega, by omega⟩, ⟨by omega, by omega, by omega⟩, ⟨by omega, by omega, by omega⟩, (fun _ => yFl_eq y59 (by omega) (by omega)), (fun o => absurd (show _ = (0 : Int) from hu o) (by omega))⟩
    · refine zt_ldc2 (pc' := 60) (x := (-1000000000000000)) hX dX11_ask_57 rfl zw_45_20 (by decide +kernel) ?_
      exact zt_lret hX hR dX11_ask_60 ⟨by omega, by omega⟩ ⟨hI81, hF84, by omega, by omega, by omega, ⟨by omega, by omega⟩, ⟨by omega, by omega, by omega⟩, ⟨by omega, by omega, by omega⟩, (fun _ => yFl_eq y59 (by omega) (by omega)), (fun o => absurd (show _ = (0 : Int) from hu o) (by omega))⟩
  · refine zt_aload_n (pc' := 11) hX dX11_ask_10 rfl rfl ?_
    refine zt_get (pc' := 14) (v := .ref (X.1.1 + 1)) hX dX11_ask_11 rfl zf_X11_14 (by decide) zc_0 zs_1 (zrf_of (zv_1_0 hI zc_0)) ?_
    refine zt_iconst (pc' := 15) hX dX11_ask_14 rfl ?_
    refine zt_put (pc' := 18) (x := 0) hX dX11_ask_15 rfl zf_X11_110 (by decide) zc_1 zs_2 (fun q hq => by cases hq; rfl) rfl rfl rfl ?_
    generalize hs337 : zset σ 1 1 0 = s336
    have hI338 : zInv s336 := hs337 ▸ zp_2_1 hI zc_1 ⟨by omega, by omega⟩
    have hF339 : zOn zPq σ s336 := hs337 ▸ zOn_set hF rfl
    have e340 : s336 27 7 = σ 27 7 := by rw [← hs337]; exact zset_k (zne_r zc_27 zc_1 (by decide))
    have e341 : s336 27 8 = σ 27 8 := by rw [← hs337]; exact zset_k (zne_r zc_27 zc_1 (by decide))
    have e342 : s336 0 15 = σ 0 15 := by rw [← hs337]; exact zset_k (zne_r zc_0 zc_1 (by decide))
    have e343 : s336 0 16 = σ 0 16 := by rw [← hs337]; exact zset_k (zne_r zc_0 zc_1 (by decide))
    have e344 : s336 0 3 = σ 0 3 := by rw [← hs337]; exact zset_k (zne_r zc_0 zc_1 (by decide))
    have e345 : s336 0 4 = σ 0 4 := by rw [← hs337]; exact zset_k (zne_r zc_0 zc_1 (by decide))
    have e346 : s336 7 10 = σ 7 10 := by rw [← hs337]; exact zset_k (zne_r zc_7 zc_1 (by decide))
    have e347 : s336 7 11 = σ 7 11 := by rw [← hs337]; exact zset_k (zne_r zc_7 zc_1 (by decide))
    have e348 : s336 7 12 = σ 7 12 := by rw [← hs337]; exact zset_k (zne_r zc_7 zc_1 (by decide))
    have e349 : s336 17 10 = σ 17 10 := by rw [← hs337]; exact zset_k (zne_r zc_17 zc_1 (by decide))
    have e350 : s336 17 11 = σ 17 11 := by rw [← hs337]; exact zset_k (zne_r zc_17 zc_1 (by decide))
    have e351 : s336 17 12 = σ 17 12 := by rw [← hs337]; exact zset_k (zne_r zc_17 zc_1 (by decide))
    have e352 : s336 1 1 = 0 := by rw [← hs337]; exact zset_s
    refine zt_ldc2 (pc' := 21) (x := (-1000000000000000)) hX dX11_ask_18 rfl zw_45_20 (by decide +kernel) ?_
    exact zt_lret hX hR dX11_ask_21 ⟨by omega, by omega⟩ ⟨hI338, hF339, by omega, by omega, by omega, ⟨by omega, by omega⟩, ⟨by omega, by omega, by omega⟩, ⟨by omega, by omega, by omega⟩, (fun o => absurd (show _ = (1 : Int) from ht o) (by omega)), (fun _ => ⟨by omega, by omega⟩)⟩
