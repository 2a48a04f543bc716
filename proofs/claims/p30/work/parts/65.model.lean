set_option maxRecDepth 100000 in
set_option maxHeartbeats 4000000 in
theorem zn_X12 (l : Launch) (E : zEN) (σ : zSto) (hI : zIR σ) (hD : zDf σ 164) : zCt l E yX12_init cX12_init 1 none 1 165 238 73 16482 σ [.ref (E.1 + 164)] (fun _ σ' => zCp σ σ' 164 238 ∧ σ' 200 2 = -1 ∧ σ' 200 3 = -1 ∧ σ' 164 50 = 0 ∧ σ' 164 54 = 0 ∧ σ' 164 1 = 0) := by
  refine zCt_of2 [some (.ref (E.1 + 164))] (by decide +kernel) (Nat.le_of_ble_eq_true rfl) rfl ?_
  intro X hE hX hR hL hN
  subst hE
  have hX : zok X cX12_init RX12 1 := hX
  have q0 := zCs_0 hI hD
  refine zt_aload_n (pc' := 1) hX dX12_init_0 rfl rfl ?_
  refine zt_oinit (pc' := 4) hX (by decide) dX12_init_1 rfl zw_10_15 zw_1_10 zw_1_11 rfl ?_
  refine zt_aload_n (pc' := 5) hX dX12_init_4 rfl rfl ?_
  refine zt_sipush (pc' := 8) hX dX12_init_5 rfl (by decide) (by decide) ?_
  refine zt_newa (pc' := 10) (t := 0) (N := 1600) hX dX12_init_8 rfl zw_3_7 rfl (by decide) (by decide) zc_165 zs_47 (by decide) (by decide) (zCs_nx q0) ⟨by rw [hN.2.1]; exact Nat.le_of_ble_eq_true rfl, by rw [hN.2.2]; exact Nat.le_of_ble_eq_true rfl⟩ ?_
  have q1 := zCs_arr q0 zc_165 zs_47 (by decide)
  refine zt_putF (pc' := 13) (x := ((165 : Nat) : Int)) hX dX12_init_10 rfl hN.1 zf_X12_7 (by omega) zc_164 zs_46 (fun q hq => by cases hq; exact ⟨rfl, rfl⟩) (zrf_of rfl) rfl rfl ?_
  generalize hs3 : zset σ 164 0 ((165 : Nat) : Int) = s2
  have q4 := zCs_ref hs3 q1 zc_164 zs_46 rfl (by omega) (by decide)
  have t5 : s2 200 2 = 0 := by rw [← hs3]; exact (zset_k (by decide)).trans (congrFun (hD 200 (by decide)) 2)
  have t6 : s2 200 3 = 0 := by rw [← hs3]; exact (zset_k (by decide)).trans (congrFun (hD 200 (by decide)) 3)
  have t7 : s2 164 50 = 0 := by rw [← hs3]; exact (zset_j (by decide)).trans (congrFun (hD 164 (by decide)) 50)
  have t8 : s2 164 54 = 0 := by rw [← hs3]; exact (zset_j (by decide)).trans (congrFun (hD 164 (by decide)) 54)
  have t9 : s2 164 1 = 0 := by rw [← hs3]; exact (zset_j (by decide)).trans (congrFun (hD 164 (by decide)) 1)
  refine zt_aload_n (pc' := 14) hX dX12_init_13 rfl rfl ?_
  refine zt_iconst (pc' := 15) hX dX12_init_14 rfl ?_
  refine zt_put (pc' := 18) (x := (-1)) hX dX12_init_15 rfl zf_X12_13 (by omega) zc_164 zs_46 (fun q hq => by cases hq; rfl) rfl rfl rfl ?_
  generalize hs11 : zset s2 164 8 (-1) = s10
  have q12 := zCs_int hs11 q4 zc_164 zs_46 (show -2147483648 ≤ ((-1) : Int) ∧ ((-1) : Int) ≤ 2147483647 from ⟨by decide, by decide⟩) (by decide)
  have t13 : s10 200 2 = -1 := by rw [← hs11]; exact (zset_k (by decide)).trans t5
  have t14 : s10 200 3 = -1 := by rw [← hs11]; exact (zset_k (by decide)).trans t6
  have t15 : s10 164 50 = 0 := by rw [← hs11]; exact (zset_j (by decide)).trans t7
  have t16 : s10 164 54 = 0 := by rw [← hs11]; exact (zset_j (by decide)).trans t8
  have t17 : s10 164 1 = 0 := by rw [← hs11]; exact (zset_j (by decide)).trans t9
  refine zt_aload_n (pc' := 19) hX dX12_init_18 rfl rfl ?_
  refine zt_bipush (pc' := 21) hX dX12_init_19 rfl (by decide) (by decide) ?_
  refine zt_newa (pc' := 23) (t := 0) (N := 6) hX dX12_init_21 rfl zw_3_7 rfl (by decide) (by decide) zc_166 zs_48 (by decide) (by decide) (zCs_nx q12) ⟨by rw [hN.2.1]; exact Nat.le_of_ble_eq_true rfl, by rw [hN.2.2]; exact Nat.le_of_ble_eq_true rfl⟩ ?_
  have q18 := zCs_arr q12 zc_166 zs_48 (by decide)
  refine zt_putF (pc' := 26) (x := ((166 : Nat) : Int)) hX dX12_init_23 rfl hN.1 zf_X12_17 (by omega) zc_164 zs_46 (fun q hq => by cases hq; exact ⟨rfl, rfl⟩) (zrf_of rfl) rfl rfl ?_
  generalize hs20 : zset s10 164 9 ((166 : Nat) : Int) = s19
  have q21 := zCs_ref hs20 q18 zc_164 zs_46 rfl (by omega) (by decide)
  have t22 : s19 200 2 = -1 := by rw [← hs20]; exact (zset_k (by decide)).trans t13
  have t23 : s19 200 3 = -1 := by rw [← hs20]; exact (zset_k (by decide)).trans t14
  have t24 : s19 164 50 = 0 := by rw [← hs20]; exact (zset_j (by decide)).trans t15
  have t25 : s19 164 54 = 0 := by rw [← hs20]; exact (zset_j (by decide)).trans t16
  have t26 : s19 164 1 = 0 := by rw [← hs20]; exact (zset_j (by decide)).trans t17
  refine zt_aload_n (pc' := 27) hX dX12_init_26 rfl rfl ?_
  refine zt_iconst (pc' := 28) hX dX12_init_27 rfl ?_
  refine zt_newa (pc' := 30) (t := 3) (N := 4) hX dX12_init_28 rfl zw_10_19 rfl (by decide) (by decide) zc_167 zs_49 (by decide) (by decide) (zCs_nx q21) ⟨by rw [hN.2.1]; exact Nat.le_of_ble_eq_true rfl, by rw [hN.2.2]; exact Nat.le_of_ble_eq_true rfl⟩ ?_
  have q27 := zCs_arr q21 zc_167 zs_49 (by decide)
  refine zt_dup (pc' := 31) hX dX12_init_30 rfl rfl ?_
  refine zt_iconst (pc' := 32) hX dX12_init_31 rfl ?_
  refine zt_bipush (pc' := 34) hX dX12_init_32 rfl (by decide) (by decide) ?_
  refine zt_cast (pc' := 35) hX dX12_init_34 rfl (by omega) zc_167 zs_49 (by decide) ⟨by decide, by decide⟩ (by decide +kernel) ?_
  rw [show Int.toNat 0 = 0 from rfl]
  generalize hs29 : zset s19 167 0 112 = s28
  have q30 := zCs_el hs29 q27 (by omega) (by omega) zc_167 zs_49 (show 0 ≤ (112 : Int) ∧ (112 : Int) ≤ 65535 from ⟨by decide, by decide⟩)
  have t31 : s28 200 2 = -1 := by rw [← hs29]; exact (zset_k (by decide)).trans t22
  have t32 : s28 200 3 = -1 := by rw [← hs29]; exact (zset_k (by decide)).trans t23
  have t33 : s28 164 50 = 0 := by rw [← hs29]; exact (zset_k (by decide)).trans t24
  have t34 : s28 164 54 = 0 := by rw [← hs29]; exact (zset_k (by decide)).trans t25
  have t35 : s28 164 1 = 0 := by rw [← hs29]; exact (zset_k (by decide)).trans t26
  refine zt_dup (pc' := 36) hX dX12_init_35 rfl rfl ?_
  refine zt_iconst (pc' := 37) hX dX12_init_36 rfl ?_
  refine zt_bipush (pc' := 39) hX dX12_init_37 rfl (by decide) (by decide) ?_
  refine zt_cast (pc' := 40) hX dX12_init_39 rfl (by omega) zc_167 zs_49 (by decide) ⟨by decide, by decide⟩ (by decide +kernel) ?_
  rw [show Int.toNat 1 = 1 from rfl]
  generalize hs37 : zset s28 167 1 97 = s36
  have q38 := zCs_el hs37 q30 (by omega) (by omega) zc_167 zs_49 (show 0 ≤ (97 : Int) ∧ (97 : Int) ≤ 65535 from ⟨by decide, by decide⟩)
  have t39 : s36 200 2 = -1 := by rw [← hs37]; exact (zset_k (by decide)).trans t31
  have t40 : s36 200 3 = -1 := by rw [← hs37]; exact (zset_k (by decide)).trans t32
  have t41 : s36 164 50 = 0 := by rw [← hs37]; exact (zset_k (by decide)).trans t33
  have t42 : s36 164 54 = 0 := by rw [← hs37]; exact (zset_k (by decide)).trans t34
  have t43 : s36 164 1 = 0 := by rw [← hs37]; exact (zset_k (by decide)).trans t35
  refine zt_dup (pc' := 41) hX dX12_init_40 rfl rfl ?_
  refine zt_iconst (pc' := 42) hX dX12_init_41 rfl ?_
  refine zt_bipush (pc' := 44) hX dX12_init_42 rfl (by decide) (by decide) ?_
  refine zt_cast (pc' := 45) hX dX12_init_44 rfl (by omega) zc_167 zs_49 (by decide) ⟨by decide, by decide⟩ (by decide +kernel) ?_
  rw [show Int.toNat 2 = 2 from rfl]
  generalize hs45 : zset s36 167 2 110 = s44
  have q46 := zCs_el hs45 q38 (by omega) (by omega) zc_167 zs_49 (show 0 ≤ (110 : Int) ∧ (110 : Int) ≤ 65535 from ⟨by decide, by decide⟩)
  have t47 : s44 200 2 = -1 := by rw [← hs45]; exact (zset_k (by decide)).trans t39
  have t48 : s44 200 3 = -1 := by rw [← hs45]; exact (zset_k (by decide)).trans t40
  have t49 : s44 164 50 = 0 := by rw [← hs45]; exact (zset_k (by decide)).trans t41
  have t50 : s44 164 54 = 0 := by rw [← hs45]; exact (zset_k (by decide)).trans t42
  have t51 : s44 164 1 = 0 := by rw [← hs45]; exact (zset_k (by decide)).trans t43
  refine zt_dup (pc' := 46) hX dX12_init_45 rfl rfl ?_
  refine zt_iconst (pc' := 47) hX dX12_init_46 rfl ?_
  refine zt_bipush (pc' := 49) hX dX12_init_47 rfl (by decide) (by decide) ?_
  refine zt_cast (pc' := 50) hX dX12_init_49 rfl (by omega) zc_167 zs_49 (by decide) ⟨by decide, by decide⟩ (by decide +kernel) ?_
  rw [show Int.toNat 3 = 3 from rfl]
  generalize hs53 : zset s44 167 3 101 = s52
  have q54 := zCs_el hs53 q46 (by omega) (by omega) zc_167 zs_49 (show 0 ≤ (101 : Int) ∧ (101 : Int) ≤ 65535 from ⟨by decide, by decide⟩)
  have t55 : s52 200 2 = -1 := by rw [← hs53]; exact (zset_k (by decide)).trans t47
  have t56 : s52 200 3 = -1 := by rw [← hs53]; exact (zset_k (by decide)).trans t48
  have t57 : s52 164 50 = 0 := by rw [← hs53]; exact (zset_k (by decide)).trans t49
  have t58 : s52 164 54 = 0 := by rw [← hs53]; exact (zset_k (by decide)).trans t50
  have t59 : s52 164 1 = 0 := by rw [← hs53]; exact (zset_k (by decide)).trans t51
  refine zt_putF (pc' := 53) (x := ((167 : Nat) : Int)) hX dX12_init_50 rfl hN.1 zf_X12_20 (by omega) zc_164 zs_46 (fun q hq => by cases hq; exact ⟨rfl, rfl⟩) (zrf_of rfl) rfl rfl ?_
  generalize hs61 : zset s52 164 11 ((167 : Nat) : Int) = s60
  have q62 := zCs_ref hs61 q54 zc_164 zs_46 rfl (by omega) (by decide)
  have t63 : s60 200 2 = -1 := by rw [← hs61]; exact (zset_k (by decide)).trans t55
  have t64 : s60 200 3 = -1 := by rw [← hs61]; exact (zset_k (by decide)).trans t56
  have t65 : s60 164 50 = 0 := by rw [← hs61]; exact (zset_j (by decide)).trans t57
  have t66 : s60 164 54 = 0 := by rw [← hs61]; exact (zset_j (by decide)).trans t58
  have t67 : s60 164 1 = 0 := by rw [← hs61]; exact (zset_j (by decide)).trans t59
  refine zt_aload_n (pc' := 54) hX dX12_init_53 rfl rfl ?_
  refine zt_iconst (pc' := 55) hX dX12_init_54 rfl ?_
  refine zt_newa (pc' := 57) (t := 3) (N := 2) hX dX12_init_55 rfl zw_10_19 rfl (by decide) (by decide) zc_168 zs_50 (by decide) (by decide) (zCs_nx q62) ⟨by rw [hN.2.1]; exact Nat.le_of_ble_eq_true rfl, by rw [hN.2.2]; exact Nat.le_of_ble_eq_true rfl⟩ ?_
  have q68 := zCs_arr q62 zc_168 zs_50 (by decide)
  refine zt_dup (pc' := 58) hX dX12_init_57 rfl rfl ?_
  refine zt_iconst (pc' := 59) hX dX12_init_58 rfl ?_
  refine zt_bipush (pc' := 61) hX dX12_init_59 rfl (by decide) (by decide) ?_
  refine zt_cast (pc' := 62) hX dX12_init_61 rfl (by omega) zc_168 zs_50 (by decide) ⟨by decide, by decide⟩ (by decide +kernel) ?_
  rw [show Int.toNat 0 = 0 from rfl]
  generalize hs70 : zset s60 168 0 98 = s69
  have q71 := zCs_el hs70 q68 (by omega) (by omega) zc_168 zs_50 (show 0 ≤ (98 : Int) ∧ (98 : Int) ≤ 65535 from ⟨by decide, by decide⟩)
  have t72 : s69 200 2 = -1 := by rw [← hs70]; exact (zset_k (by decide)).trans t63
  have t73 : s69 200 3 = -1 := by rw [← hs70]; exact (zset_k (by decide)).trans t64
  have t74 : s69 164 50 = 0 := by rw [← hs70]; exact (zset_k (by decide)).trans t65
  have t75 : s69 164 54 = 0 := by rw [← hs70]; exact (zset_k (by decide)).trans t66
  have t76 : s69 164 1 = 0 := by rw [← hs70]; exact (zset_k (by decide)).trans t67
  refine zt_dup (pc' := 63) hX dX12_init_62 rfl rfl ?_
  refine zt_iconst (pc' := 64) hX dX12_init_63 rfl ?_
  refine zt_bipush (pc' := 66) hX dX12_init_64 rfl (by decide) (by decide) ?_
  refine zt_cast (pc' := 67) hX dX12_init_66 rfl (by omega) zc_168 zs_50 (by decide) ⟨by decide, by decide⟩ (by decide +kernel) ?_
  rw [show Int.toNat 1 = 1 from rfl]
  generalize hs78 : zset s69 168 1 121 = s77
  have q79 := zCs_el hs78 q71 (by omega) (by omega) zc_168 zs_50 (show 0 ≤ (121 : Int) ∧ (121 : Int) ≤ 65535 from ⟨by decide, by decide⟩)
  have t80 : s77 200 2 = -1 := by rw [← hs78]; exact (zset_k (by decide)).trans t72
  have t81 : s77 200 3 = -1 := by rw [← hs78]; exact (zset_k (by decide)).trans t73
  have t82 : s77 164 50 = 0 := by rw [← hs78]; exact (zset_k (by decide)).trans t74
  have t83 : s77 164 54 = 0 := by rw [← hs78]; exact (zset_k (by decide)).trans t75
  have t84 : s77 164 1 = 0 := by rw [← hs78]; exact (zset_k (by decide)).trans t76
  refine zt_putF (pc' := 70) (x := ((168 : Nat) : Int)) hX dX12_init_67 rfl hN.1 zf_X12_24 (by omega) zc_164 zs_46 (fun q hq => by cases hq; exact ⟨rfl, rfl⟩) (zrf_of rfl) rfl rfl ?_
  generalize hs86 : zset s77 164 12 ((168 : Nat) : Int) = s85
  have q87 := zCs_ref hs86 q79 zc_164 zs_46 rfl (by omega) (by decide)
  have t88 : s85 200 2 = -1 := by rw [← hs86]; exact (zset_k (by decide)).trans t80
  have t89 : s85 200 3 = -1 := by rw [← hs86]; exact (zset_k (by decide)).trans t81
  have t90 : s85 164 50 = 0 := by rw [← hs86]; exact (zset_j (by decide)).trans t82
  have t91 : s85 164 54 = 0 := by rw [← hs86]; exact (zset_j (by decide)).trans t83
  have t92 : s85 164 1 = 0 := by rw [← hs86]; exact (zset_j (by decide)).trans t84
  refine zt_aload_n (pc' := 71) hX dX12_init_70 rfl rfl ?_
  refine zt_iconst (pc' := 72) hX dX12_init_71 rfl ?_
  refine zt_newa (pc' := 74) (t := 3) (N := 5) hX dX12_init_72 rfl zw_10_19 rfl (by decide) (by decide) zc_169 zs_51 (by decide) (by decide) (zCs_nx q87) ⟨by rw [hN.2.1]; exact Nat.le_of_ble_eq_true rfl, by rw [hN.2.2]; exact Nat.le_of_ble_eq_true rfl⟩ ?_
  have q93 := zCs_arr q87 zc_169 zs_51 (by decide)
  refine zt_dup (pc' := 75) hX dX12_init_74 rfl rfl ?_
  refine zt_iconst (pc' := 76) hX dX12_init_75 rfl ?_
  refine zt_bipush (pc' := 78) hX dX12_init_76 rfl (by decide) (by decide) ?_
  refine zt_cast (pc' := 79) hX dX12_init_78 rfl (by omega) zc_169 zs_51 (by decide) ⟨by decide, by decide⟩ (by decide +kernel) ?_
  rw [show Int.toNat 0 = 0 from rfl]
  generalize hs95 : zset s85 169 0 116 = s94
  have q96 := zCs_el hs95 q93 (by omega) (by omega) zc_169 zs_51 (show 0 ≤ (116 : Int) ∧ (116 : Int) ≤ 65535 from ⟨by decide, by decide⟩)
  have t97 : s94 200 2 = -1 := by rw [← hs95]; exact (zset_k (by decide)).trans t88
  have t98 : s94 200 3 = -1 := by rw [← hs95]; exact (zset_k (by decide)).trans t89
  have t99 : s94 164 50 = 0 := by rw [← hs95]; exact (zset_k (by decide)).trans t90
  have t100 : s94 164 54 = 0 := by rw [← hs95]; exact (zset_k (by decide)).trans t91
  have t101 : s94 164 1 = 0 := by rw [← hs95]; exact (zset_k (by decide)).trans t92
  refine zt_dup (pc' := 80) hX dX12_init_79 rfl rfl ?_
  refine zt_iconst (pc' := 81) hX dX12_init_80 rfl ?_
  refine zt_bipush (pc' := 83) hX dX12_init_81 rfl (by decide) (by decide) ?_
  refine zt_cast (pc' := 84) hX dX12_init_83 rfl (by omega) zc_169 zs_51 (by decide) ⟨by decide, by decide⟩ (by decide +kernel) ?_
  rw [show Int.toNat 1 = 1 from rfl]
  generalize hs103 : zset s94 169 1 111 = s102
  have q104 := zCs_el hs103 q96 (by omega) (by omega) zc_169 zs_51 (show 0 ≤ (111 : Int) ∧ (111 : Int) ≤ 65535 from ⟨by decide, by decide⟩)
  have t105 : s102 200 2 = -1 := by rw [← hs103]; exact (zset_k (by decide)).trans t97
  have t106 : s102 200 3 = -1 := by rw [← hs103]; exact (zset_k (by decide)).trans t98
  have t107 : s102 164 50 = 0 := by rw [← hs103]; exact (zset_k (by decide)).trans t99
  have t108 : s102 164 54 = 0 := by rw [← hs103]; exact (zset_k (by decide)).trans t100
  have t109 : s102 164 1 = 0 := by rw [← hs103]; exact (zset_k (by decide)).trans t101
  refine zt_dup (pc' := 85) hX dX12_init_84 rfl rfl ?_
  refine zt_iconst (pc' := 86) hX dX12_init_85 rfl ?_
  refine zt_bipush (pc' := 88) hX dX12_init_86 rfl (by decide) (by decide) ?_
  refine zt_cast (pc' := 89) hX dX12_init_88 rfl (by omega) zc_169 zs_51 (by decide) ⟨by decide, by decide⟩ (by decide +kernel) ?_
  rw [show Int.toNat 2 = 2 from rfl]
  generalize hs111 : zset s102 169 2 117 = s110
  have q112 := zCs_el hs111 q104 (by omega) (by omega) zc_169 zs_51 (show 0 ≤ (117 : Int) ∧ (117 : Int) ≤ 65535 from ⟨by decide, by decide⟩)
  have t113 : s110 200 2 = -1 := by rw [← hs111]; exact (zset_k (by decide)).trans t105
  have t114 : s110 200 3 = -1 := by rw [← hs111]; exact (zset_k (by decide)).trans t106
  have t115 : s110 164 50 = 0 := by rw [← hs111]; exact (zset_k (by decide)).trans t107
  have t116 : s110 164 54 = 0 := by rw [← hs111]; exact (zset_k (by decide)).trans t108
  have t117 : s110 164 1 = 0 := by rw [← hs111]; exact (zset_k (by decide)).trans t109
  refine zt_dup (pc' := 90) hX dX12_init_89 rfl rfl ?_
  refine zt_iconst (pc' := 91) hX dX12_init_90 rfl ?_
  refine zt_bipush (pc' := 93) hX dX12_init_91 rfl (by decide) (by decide) ?_
  refine zt_cast (pc' := 94) hX dX12_init_93 rfl (by omega) zc_169 zs_51 (by decide) ⟨by decide, by decide⟩ (by decide +kernel) ?_
  rw [show Int.toNat 3 = 3 from rfl]
  generalize hs119 : zset s110 169 3 103 = s118
  have q120 := zCs_el hs119 q112 (by omega) (by omega) zc_169 zs_51 (show 0 ≤ (103 : Int) ∧ (103 : Int) ≤ 65535 from ⟨by decide, by decide⟩)
  have t121 : s118 200 2 = -1 := by rw [← hs119]; exact (zset_k (by decide)).trans t113
  have t122 : s118 200 3 = -1 := by rw [← hs119]; exact (zset_k (by decide)).trans t114
  have t123 : s118 164 50 = 0 := by rw [← hs119]; exact (zset_k (by decide)).trans t115
  have t124 : s118 164 54 = 0 := by rw [← hs119]; exact (zset_k (by decide)).trans t116
  have t125 : s118 164 1 = 0 := by rw [← hs119]; exact (zset_k (by decide)).trans t117
  refine zt_dup (pc' := 95) hX dX12_init_94 rfl rfl ?_
  refine zt_iconst (pc' := 96) hX dX12_init_95 rfl ?_
  refine zt_bipush (pc' := 98) hX dX12_init_96 rfl (by decide) (by decide) ?_
  refine zt_cast (pc' := 99) hX dX12_init_98 rfl (by omega) zc_169 zs_51 (by decide) ⟨by decide, by decide⟩ (by decide +kernel) ?_
  rw [show Int.toNat 4 = 4 from rfl]
  generalize hs127 : zset s118 169 4 104 = s126
  have q128 := zCs_el hs127 q120 (by omega) (by omega) zc_169 zs_51 (show 0 ≤ (104 : Int) ∧ (104 : Int) ≤ 65535 from ⟨by decide, by decide⟩)
  have t129 : s126 200 2 = -1 := by rw [← hs127]; exact (zset_k (by decide)).trans t121
  have t130 : s126 200 3 = -1 := by rw [← hs127]; exact (zset_k (by decide)).trans t122
  have t131 : s126 164 50 = 0 := by rw [← hs127]; exact (zset_k (by decide)).trans t123
  have t132 : s126 164 54 = 0 := by rw [← hs127]; exact (zset_k (by decide)).trans t124
  have t133 : s126 164 1 = 0 := by rw [← hs127]; exact (zset_k (by decide)).trans t125
  refine zt_putF (pc' := 102) (x := ((169 : Nat) : Int)) hX dX12_init_99 rfl hN.1 zf_X12_27 (by omega) zc_164 zs_46 (fun q hq => by cases hq; exact ⟨rfl, rfl⟩) (zrf_of rfl) rfl rfl ?_
  generalize hs135 : zset s126 164 13 ((169 : Nat) : Int) = s134
  have q136 := zCs_ref hs135 q128 zc_164 zs_46 rfl (by omega) (by decide)
  have t137 : s134 200 2 = -1 := by rw [← hs135]; exact (zset_k (by decide)).trans t129
  have t138 : s134 200 3 = -1 := by rw [← hs135]; exact (zset_k (by decide)).trans t130
  have t139 : s134 164 50 = 0 := by rw [← hs135]; exact (zset_j (by decide)).trans t131
  have t140 : s134 164 54 = 0 := by rw [← hs135]; exact (zset_j (by decide)).trans t132
  have t141 : s134 164 1 = 0 := by rw [← hs135]; exact (zset_j (by decide)).trans t133
  refine zt_aload_n (pc' := 103) hX dX12_init_102 rfl rfl ?_
  refine zt_iconst (pc' := 104) hX dX12_init_103 rfl ?_
  refine zt_newa (pc' := 106) (t := 3) (N := 5) hX dX12_init_104 rfl zw_10_19 rfl (by decide) (by decide) zc_170 zs_52 (by decide) (by decide) (zCs_nx q136) ⟨by rw [hN.2.1]; exact Nat.le_of_ble_eq_true rfl, by rw [hN.2.2]; exact Nat.le_of_ble_eq_true rfl⟩ ?_
  have q142 := zCs_arr q136 zc_170 zs_52 (by decide)
  refine zt_dup (pc' := 107) hX dX12_init_106 rfl rfl ?_
  refine zt_iconst (pc' := 108) hX dX12_init_107 rfl ?_
  refine zt_bipush (pc' := 110) hX dX12_init_108 rfl (by decide) (by decide) ?_
  refine zt_cast (pc' := 111) hX dX12_init_110 rfl (by omega) zc_170 zs_52 (by decide) ⟨by decide, by decide⟩ (by decide +kernel) ?_
  rw [show Int.toNat 0 = 0 from rfl]
  generalize hs144 : zset s134 170 0 104 = s143
  have q145 := zCs_el hs144 q142 (by omega) (by omega) zc_170 zs_52 (show 0 ≤ (104 : Int) ∧ (104 : Int) ≤ 65535 from ⟨by decide, by decide⟩)
  have t146 : s143 200 2 = -1 := by rw [← hs144]; exact (zset_k (by decide)).trans t137
  have t147 : s143 200 3 = -1 := by rw [← hs144]; exact (zset_k (by decide)).trans t138
  have t148 : s143 164 50 = 0 := by rw [← hs144]; exact (zset_k (by decide)).trans t139
  have t149 : s143 164 54 = 0 := by rw [← hs144]; exact (zset_k (by decide)).trans t140
  have t150 : s143 164 1 = 0 := by rw [← hs144]; exact (zset_k (by decide)).trans t141
  refine zt_dup (pc' := 112) hX dX12_init_111 rfl rfl ?_
  refine zt_iconst (pc' := 113) hX dX12_init_112 rfl ?_
  refine zt_bipush (pc' := 115) hX dX12_init_113 rfl (by decide) (by decide) ?_
  refine zt_cast (pc' := 116) hX dX12_init_115 rfl (by omega) zc_170 zs_52 (by decide) ⟨by decide, by decide⟩ (by decide +kernel) ?_
  rw [show Int.toNat 1 = 1 from rfl]
  generalize hs152 : zset s143 170 1 101 = s151
  have q153 := zCs_el hs152 q145 (by omega) (by omega) zc_170 zs_52 (show 0 ≤ (101 : Int) ∧ (101 : Int) ≤ 65535 from ⟨by decide, by decide⟩)
  have t154 : s151 200 2 = -1 := by rw [← hs152]; exact (zset_k (by decide)).trans t146
  have t155 : s151 200 3 = -1 := by rw [← hs152]; exact (zset_k (by decide)).trans t147
  have t156 : s151 164 50 = 0 := by rw [← hs152]; exact (zset_k (by decide)).trans t148
  have t157 : s151 164 54 = 0 := by rw [← hs152]; exact (zset_k (by decide)).trans t149
  have t158 : s151 164 1 = 0 := by rw [← hs152]; exact (zset_k (by decide)).trans t150
  refine zt_dup (pc' := 117) hX dX12_init_116 rfl rfl ?_
  refine zt_iconst (pc' := 118) hX dX12_init_117 rfl ?_
  refine zt_bipush (pc' := 120) hX dX12_init_118 rfl (by decide) (by decide) ?_
  refine zt_cast (pc' := 121) hX dX12_init_120 rfl (by omega) zc_170 zs_52 (by decide) ⟨by decide, by decide⟩ (by decide +kernel) ?_
  rw [show Int.toNat 2 = 2 from rfl]
  generalize hs160 : zset s151 170 2 97 = s159
  have q161 := zCs_el hs160 q153 (by omega) (by omega) zc_170 zs_52 (show 0 ≤ (97 : Int) ∧ (97 : Int) ≤ 65535 from ⟨by decide, by decide⟩)
  have t162 : s159 200 2 = -1 := by rw [← hs160]; exact (zset_k (by decide)).trans t154
  have t163 : s159 200 3 = -1 := by rw [← hs160]; exact (zset_k (by decide)).trans t155
  have t164 : s159 164 50 = 0 := by rw [← hs160]; exact (zset_k (by decide)).trans t156
  have t165 : s159 164 54 = 0 := by rw [← hs160]; exact (zset_k (by decide)).trans t157
  have t166 : s159 164 1 = 0 := by rw [← hs160]; exact (zset_k (by decide)).trans t158
  refine zt_dup (pc' := 122) hX dX12_init_121 rfl rfl ?_
  refine zt_iconst (pc' := 123) hX dX12_init_122 rfl ?_
  refine zt_bipush (pc' := 125) hX dX12_init_123 rfl (by decide) (by decide) ?_
  refine zt_cast (pc' := 126) hX dX12_init_125 rfl (by omega) zc_170 zs_52 (by decide) ⟨by decide, by decide⟩ (by decide +kernel) ?_
  rw [show Int.toNat 3 = 3 from rfl]
  generalize hs168 : zset s159 170 3 118 = s167
  have q169 := zCs_el hs168 q161 (by omega) (by omega) zc_170 zs_52 (show 0 ≤ (118 : Int) ∧ (118 : Int) ≤ 65535 from ⟨by decide, by decide⟩)
  have t170 : s167 200 2 = -1 := by rw [← hs168]; exact (zset_k (by decide)).trans t162
  have t171 : s167 200 3 = -1 := by rw [← hs168]; exact (zset_k (by decide)).trans t163
  have t172 : s167 164 50 = 0 := by rw [← hs168]; exact (zset_k (by decide)).trans t164
  have t173 : s167 164 54 = 0 := by rw [← hs168]; exact (zset_k (by decide)).trans t165
  have t174 : s167 164 1 = 0 := by rw [← hs168]; exact (zset_k (by decide)).trans t166
  refine zt_dup (pc' := 127) hX dX12_init_126 rfl rfl ?_
  refine zt_iconst (pc' := 128) hX dX12_init_127 rfl ?_
  refine zt_bipush (pc' := 130) hX dX12_init_128 rfl (by decide) (by decide) ?_
  refine zt_cast (pc' := 131) hX dX12_init_130 rfl (by omega) zc_170 zs_52 (by decide) ⟨by decide, by decide⟩ (by decide +kernel) ?_
  rw [show Int.toNat 4 = 4 from rfl]
  generalize hs176 : zset s167 170 4 121 = s175
  have q177 := zCs_el hs176 q169 (by omega) (by omega) zc_170 zs_52 (show 0 ≤ (121 : Int) ∧ (121 : Int) ≤ 65535 from ⟨by decide, by decide⟩)
  have t178 : s175 200 2 = -1 := by rw [← hs176]; exact (zset_k (by decide)).trans t170
  have t179 : s175 200 3 = -1 := by rw [← hs176]; exact (zset_k (by decide)).trans t171
  have t180 : s175 164 50 = 0 := by rw [← hs176]; exact (zset_k (by decide)).trans t172
  have t181 : s175 164 54 = 0 := by rw [← hs176]; exact (zset_k (by decide)).trans t173
  have t182 : s175 164 1 = 0 := by rw [← hs176]; exact (zset_k (by decide)).trans t174
  refine zt_putF (pc' := 134) (x := ((170 : Nat) : Int)) hX dX12_init_131 rfl hN.1 zf_X12_30 (by omega) zc_164 zs_46 (fun q hq => by cases hq; exact ⟨rfl, rfl⟩) (zrf_of rfl) rfl rfl ?_
  generalize hs184 : zset s175 164 14 ((170 : Nat) : Int) = s183
  have q185 := zCs_ref hs184 q177 zc_164 zs_46 rfl (by omega) (by decide)
  have t186 : s183 200 2 = -1 := by rw [← hs184]; exact (zset_k (by decide)).trans t178
  have t187 : s183 200 3 = -1 := by rw [← hs184]; exact (zset_k (by decide)).trans t179
  have t188 : s183 164 50 = 0 := by rw [← hs184]; exact (zset_j (by decide)).trans t180
  have t189 : s183 164 54 = 0 := by rw [← hs184]; exact (zset_j (by decide)).trans t181
  have t190 : s183 164 1 = 0 := by rw [← hs184]; exact (zset_j (by decide)).trans t182
  refine zt_aload_n (pc' := 135) hX dX12_init_134 rfl rfl ?_
  refine zt_iconst (pc' := 136) hX dX12_init_135 rfl ?_
  refine zt_newa (pc' := 138) (t := 3) (N := 4) hX dX12_init_136 rfl zw_10_19 rfl (by decide) (by decide) zc_171 zs_53 (by decide) (by decide) (zCs_nx q185) ⟨by rw [hN.2.1]; exact Nat.le_of_ble_eq_true rfl, by rw [hN.2.2]; exact Nat.le_of_ble_eq_true rfl⟩ ?_
  have q191 := zCs_arr q185 zc_171 zs_53 (by decide)
  refine zt_dup (pc' := 139) hX dX12_init_138 rfl rfl ?_
  refine zt_iconst (pc' := 140) hX dX12_init_139 rfl ?_
  refine zt_bipush (pc' := 142) hX dX12_init_140 rfl (by decide) (by decide) ?_
  refine zt_cast (pc' := 143) hX dX12_init_142 rfl (by omega) zc_171 zs_53 (by decide) ⟨by decide, by decide⟩ (by decide +kernel) ?_
  rw [show Int.toNat 0 = 0 from rfl]
  generalize hs193 : zset s183 171 0 112 = s192
  have q194 := zCs_el hs193 q191 (by omega) (by omega) zc_171 zs_53 (show 0 ≤ (112 : Int) ∧ (112 : Int) ≤ 65535 from ⟨by decide, by decide⟩)
  have t195 : s192 200 2 = -1 := by rw [← hs193]; exact (zset_k (by decide)).trans t186
  have t196 : s192 200 3 = -1 := by rw [← hs193]; exact (zset_k (by decide)).trans t187
  have t197 : s192 164 50 = 0 := by rw [← hs193]; exact (zset_k (by decide)).trans t188
  have t198 : s192 164 54 = 0 := by rw [← hs193]; exact (zset_k (by decide)).trans t189
  have t199 : s192 164 1 = 0 := by rw [← hs193]; exact (zset_k (by decide)).trans t190
  refine zt_dup (pc' := 144) hX dX12_init_143 rfl rfl ?_
  refine zt_iconst (pc' := 145) hX dX12_init_144 rfl ?_
  refine zt_bipush (pc' := 147) hX dX12_init_145 rfl (by decide) (by decide) ?_
  refine zt_cast (pc' := 148) hX dX12_init_147 rfl (by omega) zc_171 zs_53 (by decide) ⟨by decide, by decide⟩ (by decide +kernel) ?_
  rw [show Int.toNat 1 = 1 from rfl]
  generalize hs201 : zset s192 171 1 111 = s200
  have q202 := zCs_el hs201 q194 (by omega) (by omega) zc_171 zs_53 (show 0 ≤ (111 : Int) ∧ (111 : Int) ≤ 65535 from ⟨by decide, by decide⟩)
  have t203 : s200 200 2 = -1 := by rw [← hs201]; exact (zset_k (by decide)).trans t195
  have t204 : s200 200 3 = -1 := by rw [← hs201]; exact (zset_k (by decide)).trans t196
  have t205 : s200 164 50 = 0 := by rw [← hs201]; exact (zset_k (by decide)).trans t197
  have t206 : s200 164 54 = 0 := by rw [← hs201]; exact (zset_k (by decide)).trans t198
  have t207 : s200 164 1 = 0 := by rw [← hs201]; exact (zset_k (by decide)).trans t199
  refine zt_dup (pc' := 149) hX dX12_init_148 rfl rfl ?_
  refine zt_iconst (pc' := 150) hX dX12_init_149 rfl ?_
  refine zt_bipush (pc' := 152) hX dX12_init_150 rfl (by decide) (by decide) ?_
  refine zt_cast (pc' := 153) hX dX12_init_152 rfl (by omega) zc_171 zs_53 (by decide) ⟨by decide, by decide⟩ (by decide +kernel) ?_
  rw [show Int.toNat 2 = 2 from rfl]
  generalize hs209 : zset s200 171 2 108 = s208
  have q210 := zCs_el hs209 q202 (by omega) (by omega) zc_171 zs_53 (show 0 ≤ (108 : Int) ∧ (108 : Int) ≤ 65535 from ⟨by decide, by decide⟩)
  have t211 : s208 200 2 = -1 := by rw [← hs209]; exact (zset_k (by decide)).trans t203
  have t212 : s208 200 3 = -1 := by rw [← hs209]; exact (zset_k (by decide)).trans t204
  have t213 : s208 164 50 = 0 := by rw [← hs209]; exact (zset_k (by decide)).trans t205
  have t214 : s208 164 54 = 0 := by rw [← hs209]; exact (zset_k (by decide)).trans t206
  have t215 : s208 164 1 = 0 := by rw [← hs209]; exact (zset_k (by decide)).trans t207
  refine zt_dup (pc' := 154) hX dX12_init_153 rfl rfl ?_
  refine zt_iconst (pc' := 155) hX dX12_init_154 rfl ?_
  refine zt_bipush (pc' := 157) hX dX12_init_155 rfl (by decide) (by decide) ?_
  refine zt_cast (pc' := 158) hX dX12_init_157 rfl (by omega) zc_171 zs_53 (by decide) ⟨by decide, by decide⟩ (by decide +kernel) ?_
  rw [show Int.toNat 3 = 3 from rfl]
  generalize hs217 : zset s208 171 3 101 = s216
  have q218 := zCs_el hs217 q210 (by omega) (by omega) zc_171 zs_53 (show 0 ≤ (101 : Int) ∧ (101 : Int) ≤ 65535 from ⟨by decide, by decide⟩)
  have t219 : s216 200 2 = -1 := by rw [← hs217]; exact (zset_k (by decide)).trans t211
  have t220 : s216 200 3 = -1 := by rw [← hs217]; exact (zset_k (by decide)).trans t212
  have t221 : s216 164 50 = 0 := by rw [← hs217]; exact (zset_k (by decide)).trans t213
  have t222 : s216 164 54 = 0 := by rw [← hs217]; exact (zset_k (by decide)).trans t214
  have t223 : s216 164 1 = 0 := by rw [← hs217]; exact (zset_k (by decide)).trans t215
  refine zt_putF (pc' := 161) (x := ((171 : Nat) : Int)) hX dX12_init_158 rfl hN.1 zf_X12_33 (by omega) zc_164 zs_46 (fun q hq => by cases hq; exact ⟨rfl, rfl⟩) (zrf_of rfl) rfl rfl ?_
  generalize hs225 : zset s216 164 15 ((171 : Nat) : Int) = s224
  have q226 := zCs_ref hs225 q218 zc_164 zs_46 rfl (by omega) (by decide)
  have t227 : s224 200 2 = -1 := by rw [← hs225]; exact (zset_k (by decide)).trans t219
  have t228 : s224 200 3 = -1 := by rw [← hs225]; exact (zset_k (by decide)).trans t220
  have t229 : s224 164 50 = 0 := by rw [← hs225]; exact (zset_j (by decide)).trans t221
  have t230 : s224 164 54 = 0 := by rw [← hs225]; exact (zset_j (by decide)).trans t222
  have t231 : s224 164 1 = 0 := by rw [← hs225]; exact (zset_j (by decide)).trans t223
  refine zt_aload_n (pc' := 162) hX dX12_init_161 rfl rfl ?_
  refine zt_iconst (pc' := 163) hX dX12_init_162 rfl ?_
  refine zt_newa (pc' := 165) (t := 3) (N := 2) hX dX12_init_163 rfl zw_10_19 rfl (by decide) (by decide) zc_172 zs_54 (by decide) (by decide) (zCs_nx q226) ⟨by rw [hN.2.1]; exact Nat.le_of_ble_eq_true rfl, by rw [hN.2.2]; exact Nat.le_of_ble_eq_true rfl⟩ ?_
  have q232 := zCs_arr q226 zc_172 zs_54 (by decide)
  refine zt_dup (pc' := 166) hX dX12_init_165 rfl rfl ?_
  refine zt_iconst (pc' := 167) hX dX12_init_166 rfl ?_
  refine zt_bipush (pc' := 169) hX dX12_init_167 rfl (by decide) (by decide) ?_
  refine zt_cast (pc' := 170) hX dX12_init_169 rfl (by omega) zc_172 zs_54 (by decide) ⟨by decide, by decide⟩ (by decide +kernel) ?_
  rw [show Int.toNat 0 = 0 from rfl]
  generalize hs234 : zset s224 172 0 97 = s233
  have q235 := zCs_el hs234 q232 (by omega) (by omega) zc_172 zs_54 (show 0 ≤ (97 : Int) ∧ (97 : Int) ≤ 65535 from ⟨by decide, by decide⟩)
  have t236 : s233 200 2 = -1 := by rw [← hs234]; exact (zset_k (by decide)).trans t227
  have t237 : s233 200 3 = -1 := by rw [← hs234]; exact (zset_k (by decide)).trans t228
  have t238 : s233 164 50 = 0 := by rw [← hs234]; exact (zset_k (by decide)).trans t229
  have t239 : s233 164 54 = 0 := by rw [← hs234]; exact (zset_k (by decide)).trans t230
  have t240 : s233 164 1 = 0 := by rw [← hs234]; exact (zset_k (by decide)).trans t231
  refine zt_dup (pc' := 171) hX dX12_init_170 rfl rfl ?_
  refine zt_iconst (pc' := 172) hX dX12_init_171 rfl ?_
  refine zt_bipush (pc' := 174) hX dX12_init_172 rfl (by decide) (by decide) ?_
  refine zt_cast (pc' := 175) hX dX12_init_174 rfl (by omega) zc_172 zs_54 (by decide) ⟨by decide, by decide⟩ (by decide +kernel) ?_
  rw [show Int.toNat 1 = 1 from rfl]
  generalize hs242 : zset s233 172 1 116 = s241
  have q243 := zCs_el hs242 q235 (by omega) (by omega) zc_172 zs_54 (show 0 ≤ (116 : Int) ∧ (116 : Int) ≤ 65535 from ⟨by decide, by decide⟩)
  have t244 : s241 200 2 = -1 := by rw [← hs242]; exact (zset_k (by decide)).trans t236
  have t245 : s241 200 3 = -1 := by rw [← hs242]; exact (zset_k (by decide)).trans t237
  have t246 : s241 164 50 = 0 := by rw [← hs242]; exact (zset_k (by decide)).trans t238
  have t247 : s241 164 54 = 0 := by rw [← hs242]; exact (zset_k (by decide)).trans t239
  have t248 : s241 164 1 = 0 := by rw [← hs242]; exact (zset_k (by decide)).trans t240
  refine zt_putF (pc' := 178) (x := ((172 : Nat) : Int)) hX dX12_init_175 rfl hN.1 zf_X12_36 (by omega) zc_164 zs_46 (fun q hq => by cases hq; exact ⟨rfl, rfl⟩) (zrf_of rfl) rfl rfl ?_
  generalize hs250 : zset s241 164 16 ((172 : Nat) : Int) = s249
  have q251 := zCs_ref hs250 q243 zc_164 zs_46 rfl (by omega) (by decide)
  have t252 : s249 200 2 = -1 := by rw [← hs250]; exact (zset_k (by decide)).trans t244
  have t253 : s249 200 3 = -1 := by rw [← hs250]; exact (zset_k (by decide)).trans t245
  have t254 : s249 164 50 = 0 := by rw [← hs250]; exact (zset_j (by decide)).trans t246
  have t255 : s249 164 54 = 0 := by rw [← hs250]; exact (zset_j (by decide)).trans t247
  have t256 : s249 164 1 = 0 := by rw [← hs250]; exact (zset_j (by decide)).trans t248
  refine zt_aload_n (pc' := 179) hX dX12_init_178 rfl rfl ?_
  refine zt_iconst (pc' := 180) hX dX12_init_179 rfl ?_
  refine zt_newa (pc' := 182) (t := 3) (N := 5) hX dX12_init_180 rfl zw_10_19 rfl (by decide) (by decide) zc_173 zs_55 (by decide) (by decide) (zCs_nx q251) ⟨by rw [hN.2.1]; exact Nat.le_of_ble_eq_true rfl, by rw [hN.2.2]; exact Nat.le_of_ble_eq_true rfl⟩ ?_
  have q257 := zCs_arr q251 zc_173 zs_55 (by decide)
  refine zt_dup (pc' := 183) hX dX12_init_182 rfl rfl ?_
  refine zt_iconst (pc' := 184) hX dX12_init_183 rfl ?_
  refine zt_bipush (pc' := 186) hX dX12_init_184 rfl (by decide) (by decide) ?_
  refine zt_cast (pc' := 187) hX dX12_init_186 rfl (by omega) zc_173 zs_55 (by decide) ⟨by decide, by decide⟩ (by decide +kernel) ?_
  rw [show Int.toNat 0 = 0 from rfl]
  generalize hs259 : zset s249 173 0 108 = s258
  have q260 := zCs_el hs259 q257 (by omega) (by omega) zc_173 zs_55 (show 0 ≤ (108 : Int) ∧ (108 : Int) ≤ 65535 from ⟨by decide, by decide⟩)
  have t261 : s258 200 2 = -1 := by rw [← hs259]; exact (zset_k (by decide)).trans t252
  have t262 : s258 200 3 = -1 := by rw [← hs259]; exact (zset_k (by decide)).trans t253
  have t263 : s258 164 50 = 0 := by rw [← hs259]; exact (zset_k (by decide)).trans t254
  have t264 : s258 164 54 = 0 := by rw [← hs259]; exact (zset_k (by decide)).trans t255
  have t265 : s258 164 1 = 0 := by rw [← hs259]; exact (zset_k (by decide)).trans t256
  refine zt_dup (pc' := 188) hX dX12_init_187 rfl rfl ?_
  refine zt_iconst (pc' := 189) hX dX12_init_188 rfl ?_
  refine zt_bipush (pc' := 191) hX dX12_init_189 rfl (by decide) (by decide) ?_
  refine zt_cast (pc' := 192) hX dX12_init_191 rfl (by omega) zc_173 zs_55 (by decide) ⟨by decide, by decide⟩ (by decide +kernel) ?_
  rw [show Int.toNat 1 = 1 from rfl]
  generalize hs267 : zset s258 173 1 105 = s266
  have q268 := zCs_el hs267 q260 (by omega) (by omega) zc_173 zs_55 (show 0 ≤ (105 : Int) ∧ (105 : Int) ≤ 65535 from ⟨by decide, by decide⟩)
  have t269 : s266 200 2 = -1 := by rw [← hs267]; exact (zset_k (by decide)).trans t261
  have t270 : s266 200 3 = -1 := by rw [← hs267]; exact (zset_k (by decide)).trans t262
  have t271 : s266 164 50 = 0 := by rw [← hs267]; exact (zset_k (by decide)).trans t263
  have t272 : s266 164 54 = 0 := by rw [← hs267]; exact (zset_k (by decide)).trans t264
  have t273 : s266 164 1 = 0 := by rw [← hs267]; exact (zset_k (by decide)).trans t265
  refine zt_dup (pc' := 193) hX dX12_init_192 rfl rfl ?_
  refine zt_iconst (pc' := 194) hX dX12_init_193 rfl ?_
  refine zt_bipush (pc' := 196) hX dX12_init_194 rfl (by decide) (by decide) ?_
  refine zt_cast (pc' := 197) hX dX12_init_196 rfl (by omega) zc_173 zs_55 (by decide) ⟨by decide, by decide⟩ (by decide +kernel) ?_
  rw [show Int.toNat 2 = 2 from rfl]
  generalize hs275 : zset s266 173 2 102 = s274
  have q276 := zCs_el hs275 q268 (by omega) (by omega) zc_173 zs_55 (show 0 ≤ (102 : Int) ∧ (102 : Int) ≤ 65535 from ⟨by decide, by decide⟩)
  have t277 : s274 200 2 = -1 := by rw [← hs275]; exact (zset_k (by decide)).trans t269
  have t278 : s274 200 3 = -1 := by rw [← hs275]; exact (zset_k (by decide)).trans t270
  have t279 : s274 164 50 = 0 := by rw [← hs275]; exact (zset_k (by decide)).trans t271
  have t280 : s274 164 54 = 0 := by rw [← hs275]; exact (zset_k (by decide)).trans t272
  have t281 : s274 164 1 = 0 := by rw [← hs275]; exact (zset_k (by decide)).trans t273
  refine zt_dup (pc' := 198) hX dX12_init_197 rfl rfl ?_
  refine zt_iconst (pc' := 199) hX dX12_init_198 rfl ?_
  refine zt_bipush (pc' := 201) hX dX12_init_199 rfl (by decide) (by decide) ?_
  refine zt_cast (pc' := 202) hX dX12_init_201 rfl (by omega) zc_173 zs_55 (by decide) ⟨by decide, by decide⟩ (by decide +kernel) ?_
  rw [show Int.toNat 3 = 3 from rfl]
  generalize hs283 : zset s274 173 3 116 = s282
  have q284 := zCs_el hs283 q276 (by omega) (by omega) zc_173 zs_55 (show 0 ≤ (116 : Int) ∧ (116 : Int) ≤ 65535 from ⟨by decide, by decide⟩)
  have t285 : s282 200 2 = -1 := by rw [← hs283]; exact (zset_k (by decide)).trans t277
  have t286 : s282 200 3 = -1 := by rw [← hs283]; exact (zset_k (by decide)).trans t278
  have t287 : s282 164 50 = 0 := by rw [← hs283]; exact (zset_k (by decide)).trans t279
  have t288 : s282 164 54 = 0 := by rw [← hs283]; exact (zset_k (by decide)).trans t280
  have t289 : s282 164 1 = 0 := by rw [← hs283]; exact (zset_k (by decide)).trans t281
  refine zt_dup (pc' := 203) hX dX12_init_202 rfl rfl ?_
  refine zt_iconst (pc' := 204) hX dX12_init_203 rfl ?_
  refine zt_bipush (pc' := 206) hX dX12_init_204 rfl (by decide) (by decide) ?_
  refine zt_cast (pc' := 207) hX dX12_init_206 rfl (by omega) zc_173 zs_55 (by decide) ⟨by decide, by decide⟩ (by decide +kernel) ?_
  rw [show Int.toNat 4 = 4 from rfl]
  generalize hs291 : zset s282 173 4 115 = s290
  have q292 := zCs_el hs291 q284 (by omega) (by omega) zc_173 zs_55 (show 0 ≤ (115 : Int) ∧ (115 : Int) ≤ 65535 from ⟨by decide, by decide⟩)
  have t293 : s290 200 2 = -1 := by rw [← hs291]; exact (zset_k (by decide)).trans t285
  have t294 : s290 200 3 = -1 := by rw [← hs291]; exact (zset_k (by decide)).trans t286
  have t295 : s290 164 50 = 0 := by rw [← hs291]; exact (zset_k (by decide)).trans t287
  have t296 : s290 164 54 = 0 := by rw [← hs291]; exact (zset_k (by decide)).trans t288
  have t297 : s290 164 1 = 0 := by rw [← hs291]; exact (zset_k (by decide)).trans t289
  refine zt_putF (pc' := 210) (x := ((173 : Nat) : Int)) hX dX12_init_207 rfl hN.1 zf_X12_39 (by omega) zc_164 zs_46 (fun q hq => by cases hq; exact ⟨rfl, rfl⟩) (zrf_of rfl) rfl rfl ?_
  generalize hs299 : zset s290 164 17 ((173 : Nat) : Int) = s298
  have q300 := zCs_ref hs299 q292 zc_164 zs_46 rfl (by omega) (by decide)
  have t301 : s298 200 2 = -1 := by rw [← hs299]; exact (zset_k (by decide)).trans t293
  have t302 : s298 200 3 = -1 := by rw [← hs299]; exact (zset_k (by decide)).trans t294
  have t303 : s298 164 50 = 0 := by rw [← hs299]; exact (zset_j (by decide)).trans t295
  have t304 : s298 164 54 = 0 := by rw [← hs299]; exact (zset_j (by decide)).trans t296
  have t305 : s298 164 1 = 0 := by rw [← hs299]; exact (zset_j (by decide)).trans t297
  refine zt_aload_n (pc' := 211) hX dX12_init_210 rfl rfl ?_
  refine zt_iconst (pc' := 212) hX dX12_init_211 rfl ?_
  refine zt_newa (pc' := 214) (t := 3) (N := 4) hX dX12_init_212 rfl zw_10_19 rfl (by decide) (by decide) zc_174 zs_56 (by decide) (by decide) (zCs_nx q300) ⟨by rw [hN.2.1]; exact Nat.le_of_ble_eq_true rfl, by rw [hN.2.2]; exact Nat.le_of_ble_eq_true rfl⟩ ?_
  have q306 := zCs_arr q300 zc_174 zs_56 (by decide)
  refine zt_dup (pc' := 215) hX dX12_init_214 rfl rfl ?_
  refine zt_iconst (pc' := 216) hX dX12_init_215 rfl ?_
  refine zt_bipush (pc' := 218) hX dX12_init_216 rfl (by decide) (by decide) ?_
  refine zt_cast (pc' := 219) hX dX12_init_218 rfl (by omega) zc_174 zs_56 (by decide) ⟨by decide, by decide⟩ (by decide +kernel) ?_
  rw [show Int.toNat 0 = 0 from rfl]
  generalize hs308 : zset s298 174 0 97 = s307
  have q309 := zCs_el hs308 q306 (by omega) (by omega) zc_174 zs_56 (show 0 ≤ (97 : Int) ∧ (97 : Int) ≤ 65535 from ⟨by decide, by decide⟩)
  have t310 : s307 200 2 = -1 := by rw [← hs308]; exact (zset_k (by decide)).trans t301
  have t311 : s307 200 3 = -1 := by rw [← hs308]; exact (zset_k (by decide)).trans t302
  have t312 : s307 164 50 = 0 := by rw [← hs308]; exact (zset_k (by decide)).trans t303
  have t313 : s307 164 54 = 0 := by rw [← hs308]; exact (zset_k (by decide)).trans t304
  have t314 : s307 164 1 = 0 := by rw [← hs308]; exact (zset_k (by decide)).trans t305
  refine zt_dup (pc' := 220) hX dX12_init_219 rfl rfl ?_
  refine zt_iconst (pc' := 221) hX dX12_init_220 rfl ?_
  refine zt_bipush (pc' := 223) hX dX12_init_221 rfl (by decide) (by decide) ?_
  refine zt_cast (pc' := 224) hX dX12_init_223 rfl (by omega) zc_174 zs_56 (by decide) ⟨by decide, by decide⟩ (by decide +kernel) ?_
  rw [show Int.toNat 1 = 1 from rfl]
  generalize hs316 : zset s307 174 1 100 = s315
  have q317 := zCs_el hs316 q309 (by omega) (by omega) zc_174 zs_56 (show 0 ≤ (100 : Int) ∧ (100 : Int) ≤ 65535 from ⟨by decide, by decide⟩)
  have t318 : s315 200 2 = -1 := by rw [← hs316]; exact (zset_k (by decide)).trans t310
  have t319 : s315 200 3 = -1 := by rw [← hs316]; exact (zset_k (by decide)).trans t311
  have t320 : s315 164 50 = 0 := by rw [← hs316]; exact (zset_k (by decide)).trans t312
  have t321 : s315 164 54 = 0 := by rw [← hs316]; exact (zset_k (by decide)).trans t313
  have t322 : s315 164 1 = 0 := by rw [← hs316]; exact (zset_k (by decide)).trans t314
  refine zt_dup (pc' := 225) hX dX12_init_224 rfl rfl ?_
  refine zt_iconst (pc' := 226) hX dX12_init_225 rfl ?_
  refine zt_bipush (pc' := 228) hX dX12_init_226 rfl (by decide) (by decide) ?_
  refine zt_cast (pc' := 229) hX dX12_init_228 rfl (by omega) zc_174 zs_56 (by decide) ⟨by decide, by decide⟩ (by decide +kernel) ?_
  rw [show Int.toNat 2 = 2 from rfl]
  generalize hs324 : zset s315 174 2 100 = s323
  have q325 := zCs_el hs324 q317 (by omega) (by omega) zc_174 zs_56 (show 0 ≤ (100 : Int) ∧ (100 : Int) ≤ 65535 from ⟨by decide, by decide⟩)
  have t326 : s323 200 2 = -1 := by rw [← hs324]; exact (zset_k (by decide)).trans t318
  have t327 : s323 200 3 = -1 := by rw [← hs324]; exact (zset_k (by decide)).trans t319
  have t328 : s323 164 50 = 0 := by rw [← hs324]; exact (zset_k (by decide)).trans t320
  have t329 : s323 164 54 = 0 := by rw [← hs324]; exact (zset_k (by decide)).trans t321
  have t330 : s323 164 1 = 0 := by rw [← hs324]; exact (zset_k (by decide)).trans t322
  refine zt_dup (pc' := 230) hX dX12_init_229 rfl rfl ?_
  refine zt_iconst (pc' := 231) hX dX12_init_230 rfl ?_
  refine zt_bipush (pc' := 233) hX dX12_init_231 rfl (by decide) (by decide) ?_
  refine zt_cast (pc' := 234) hX dX12_init_233 rfl (by omega) zc_174 zs_56 (by decide) ⟨by decide, by decide⟩ (by decide +kernel) ?_
  rw [show Int.toNat 3 = 3 from rfl]
  generalize hs332 : zset s323 174 3 115 = s331
  have q333 := zCs_el hs332 q325 (by omega) (by omega) zc_174 zs_56 (show 0 ≤ (115 : Int) ∧ (115 : Int) ≤ 65535 from ⟨by decide, by decide⟩)
  have t334 : s331 200 2 = -1 := by rw [← hs332]; exact (zset_k (by decide)).trans t326
  have t335 : s331 200 3 = -1 := by rw [← hs332]; exact (zset_k (by decide)).trans t327
  have t336 : s331 164 50 = 0 := by rw [← hs332]; exact (zset_k (by decide)).trans t328
  have t337 : s331 164 54 = 0 := by rw [← hs332]; exact (zset_k (by decide)).trans t329
  have t338 : s331 164 1 = 0 := by rw [← hs332]; exact (zset_k (by decide)).trans t330
  refine zt_putF (pc' := 237) (x := ((174 : Nat) : Int)) hX dX12_init_234 rfl hN.1 zf_X12_42 (by omega) zc_164 zs_46 (fun q hq => by cases hq; exact ⟨rfl, rfl⟩) (zrf_of rfl) rfl rfl ?_
  generalize hs340 : zset s331 164 18 ((174 : Nat) : Int) = s339
  have q341 := zCs_ref hs340 q333 zc_164 zs_46 rfl (by omega) (by decide)
  have t342 : s339 200 2 = -1 := by rw [← hs340]; exact (zset_k (by decide)).trans t334
  have t343 : s339 200 3 = -1 := by rw [← hs340]; exact (zset_k (by decide)).trans t335
  have t344 : s339 164 50 = 0 := by rw [← hs340]; exact (zset_j (by decide)).trans t336
  have t345 : s339 164 54 = 0 := by rw [← hs340]; exact (zset_j (by decide)).trans t337
  have t346 : s339 164 1 = 0 := by rw [← hs340]; exact (zset_j (by decide)).trans t338
  refine zt_aload_n (pc' := 238) hX dX12_init_237 rfl rfl ?_
  refine zt_iconst (pc' := 239) hX dX12_init_238 rfl ?_
  refine zt_newa (pc' := 241) (t := 3) (N := 5) hX dX12_init_239 rfl zw_10_19 rfl (by decide) (by decide) zc_175 zs_57 (by decide) (by decide) (zCs_nx q341) ⟨by rw [hN.2.1]; exact Nat.le_of_ble_eq_true rfl, by rw [hN.2.2]; exact Nat.le_of_ble_eq_true rfl⟩ ?_
  have q347 := zCs_arr q341 zc_175 zs_57 (by decide)
  refine zt_dup (pc' := 242) hX dX12_init_241 rfl rfl ?_
  refine zt_iconst (pc' := 243) hX dX12_init_242 rfl ?_
  refine zt_bipush (pc' := 245) hX dX12_init_243 rfl (by decide) (by decide) ?_
  refine zt_cast (pc' := 246) hX dX12_init_245 rfl (by omega) zc_175 zs_57 (by decide) ⟨by decide, by decide⟩ (by decide +kernel) ?_
  rw [show Int.toNat 0 = 0 from rfl]
  generalize hs349 : zset s339 175 0 104 = s348
  have q350 := zCs_el hs349 q347 (by omega) (by omega) zc_175 zs_57 (show 0 ≤ (104 : Int) ∧ (104 : Int) ≤ 65535 from ⟨by decide, by decide⟩)
  have t351 : s348 200 2 = -1 := by rw [← hs349]; exact (zset_k (by decide)).trans t342
  have t352 : s348 200 3 = -1 := by rw [← hs349]; exact (zset_k (by decide)).trans t343
  have t353 : s348 164 50 = 0 := by rw [← hs349]; exact (zset_k (by decide)).trans t344
  have t354 : s348 164 54 = 0 := by rw [← hs349]; exact (zset_k (by decide)).trans t345
  have t355 : s348 164 1 = 0 := by rw [← hs349]; exact (zset_k (by decide)).trans t346
  refine zt_dup (pc' := 247) hX dX12_init_246 rfl rfl ?_
  refine zt_iconst (pc' := 248) hX dX12_init_247 rfl ?_
  refine zt_bipush (pc' := 250) hX dX12_init_248 rfl (by decide) (by decide) ?_
  refine zt_cast (pc' := 251) hX dX12_init_250 rfl (by omega) zc_175 zs_57 (by decide) ⟨by decide, by decide⟩ (by decide +kernel) ?_
  rw [show Int.toNat 1 = 1 from rfl]
  generalize hs357 : zset s348 175 1 111 = s356
  have q358 := zCs_el hs357 q350 (by omega) (by omega) zc_175 zs_57 (show 0 ≤ (111 : Int) ∧ (111 : Int) ≤ 65535 from ⟨by decide, by decide⟩)
  have t359 : s356 200 2 = -1 := by rw [← hs357]; exact (zset_k (by decide)).trans t351
  have t360 : s356 200 3 = -1 := by rw [← hs357]; exact (zset_k (by decide)).trans t352
  have t361 : s356 164 50 = 0 := by rw [← hs357]; exact (zset_k (by decide)).trans t353
  have t362 : s356 164 54 = 0 := by rw [← hs357]; exact (zset_k (by decide)).trans t354
  have t363 : s356 164 1 = 0 := by rw [← hs357]; exact (zset_k (by decide)).trans t355
  refine zt_dup (pc' := 252) hX dX12_init_251 rfl rfl ?_
  refine zt_iconst (pc' := 253) hX dX12_init_252 rfl ?_
  refine zt_bipush (pc' := 255) hX dX12_init_253 rfl (by decide) (by decide) ?_
  refine zt_cast (pc' := 256) hX dX12_init_255 rfl (by omega) zc_175 zs_57 (by decide) ⟨by decide, by decide⟩ (by decide +kernel) ?_
  rw [show Int.toNat 2 = 2 from rfl]
  generalize hs365 : zset s356 175 2 108 = s364
  have q366 := zCs_el hs365 q358 (by omega) (by omega) zc_175 zs_57 (show 0 ≤ (108 : Int) ∧ (108 : Int) ≤ 65535 from ⟨by decide, by decide⟩)
  have t367 : s364 200 2 = -1 := by rw [← hs365]; exact (zset_k (by decide)).trans t359
  have t368 : s364 200 3 = -1 := by rw [← hs365]; exact (zset_k (by decide)).trans t360
  have t369 : s364 164 50 = 0 := by rw [← hs365]; exact (zset_k (by decide)).trans t361
  have t370 : s364 164 54 = 0 := by rw [← hs365]; exact (zset_k (by decide)).trans t362
  have t371 : s364 164 1 = 0 := by rw [← hs365]; exact (zset_k (by decide)).trans t363
  refine zt_dup (pc' := 257) hX dX12_init_256 rfl rfl ?_
  refine zt_iconst (pc' := 258) hX dX12_init_257 rfl ?_
  refine zt_bipush (pc' := 260) hX dX12_init_258 rfl (by decide) (by decide) ?_
  refine zt_cast (pc' := 261) hX dX12_init_260 rfl (by omega) zc_175 zs_57 (by decide) ⟨by decide, by decide⟩ (by decide +kernel) ?_
  rw [show Int.toNat 3 = 3 from rfl]
  generalize hs373 : zset s364 175 3 100 = s372
  have q374 := zCs_el hs373 q366 (by omega) (by omega) zc_175 zs_57 (show 0 ≤ (100 : Int) ∧ (100 : Int) ≤ 65535 from ⟨by decide, by decide⟩)
  have t375 : s372 200 2 = -1 := by rw [← hs373]; exact (zset_k (by decide)).trans t367
  have t376 : s372 200 3 = -1 := by rw [← hs373]; exact (zset_k (by decide)).trans t368
  have t377 : s372 164 50 = 0 := by rw [← hs373]; exact (zset_k (by decide)).trans t369
  have t378 : s372 164 54 = 0 := by rw [← hs373]; exact (zset_k (by decide)).trans t370
  have t379 : s372 164 1 = 0 := by rw [← hs373]; exact (zset_k (by decide)).trans t371
  refine zt_dup (pc' := 262) hX dX12_init_261 rfl rfl ?_
  refine zt_iconst (pc' := 263) hX dX12_init_262 rfl ?_
  refine zt_bipush (pc' := 265) hX dX12_init_263 rfl (by decide) (by decide) ?_
  refine zt_cast (pc' := 266) hX dX12_init_265 rfl (by omega) zc_175 zs_57 (by decide) ⟨by decide, by decide⟩ (by decide +kernel) ?_
  rw [show Int.toNat 4 = 4 from rfl]
  generalize hs381 : zset s372 175 4 115 = s380
  have q382 := zCs_el hs381 q374 (by omega) (by omega) zc_175 zs_57 (show 0 ≤ (115 : Int) ∧ (115 : Int) ≤ 65535 from ⟨by decide, by decide⟩)
  have t383 : s380 200 2 = -1 := by rw [← hs381]; exact (zset_k (by decide)).trans t375
  have t384 : s380 200 3 = -1 := by rw [← hs381]; exact (zset_k (by decide)).trans t376
  have t385 : s380 164 50 = 0 := by rw [← hs381]; exact (zset_k (by decide)).trans t377
  have t386 : s380 164 54 = 0 := by rw [← hs381]; exact (zset_k (by decide)).trans t378
  have t387 : s380 164 1 = 0 := by rw [← hs381]; exact (zset_k (by decide)).trans t379
  refine zt_putF (pc' := 269) (x := ((175 : Nat) : Int)) hX dX12_init_266 rfl hN.1 zf_X12_45 (by omega) zc_164 zs_46 (fun q hq => by cases hq; exact ⟨rfl, rfl⟩) (zrf_of rfl) rfl rfl ?_
  generalize hs389 : zset s380 164 19 ((175 : Nat) : Int) = s388
  have q390 := zCs_ref hs389 q382 zc_164 zs_46 rfl (by omega) (by decide)
  have t391 : s388 200 2 = -1 := by rw [← hs389]; exact (zset_k (by decide)).trans t383
  have t392 : s388 200 3 = -1 := by rw [← hs389]; exact (zset_k (by decide)).trans t384
  have t393 : s388 164 50 = 0 := by rw [← hs389]; exact (zset_j (by decide)).trans t385
  have t394 : s388 164 54 = 0 := by rw [← hs389]; exact (zset_j (by decide)).trans t386
  have t395 : s388 164 1 = 0 := by rw [← hs389]; exact (zset_j (by decide)).trans t387
  refine zt_aload_n (pc' := 270) hX dX12_init_269 rfl rfl ?_
  refine zt_iconst (pc' := 271) hX dX12_init_270 rfl ?_
  refine zt_newa (pc' := 273) (t := 3) (N := 5) hX dX12_init_271 rfl zw_10_19 rfl (by decide) (by decide) zc_176 zs_58 (by decide) (by decide) (zCs_nx q390) ⟨by rw [hN.2.1]; exact Nat.le_of_ble_eq_true rfl, by rw [hN.2.2]; exact Nat.le_of_ble_eq_true rfl⟩ ?_
  have q396 := zCs_arr q390 zc_176 zs_58 (by decide)
  refine zt_dup (pc' := 274) hX dX12_init_273 rfl rfl ?_
  refine zt_iconst (pc' := 275) hX dX12_init_274 rfl ?_
  refine zt_bipush (pc' := 277) hX dX12_init_275 rfl (by decide) (by decide) ?_
  refine zt_cast (pc' := 278) hX dX12_init_277 rfl (by omega) zc_176 zs_58 (by decide) ⟨by decide, by decide⟩ (by decide +kernel) ?_
  rw [show Int.toNat 0 = 0 from rfl]
  generalize hs398 : zset s388 176 0 102 = s397
  have q399 := zCs_el hs398 q396 (by omega) (by omega) zc_176 zs_58 (show 0 ≤ (102 : Int) ∧ (102 : Int) ≤ 65535 from ⟨by decide, by decide⟩)
  have t400 : s397 200 2 = -1 := by rw [← hs398]; exact (zset_k (by decide)).trans t391
  have t401 : s397 200 3 = -1 := by rw [← hs398]; exact (zset_k (by decide)).trans t392
  have t402 : s397 164 50 = 0 := by rw [← hs398]; exact (zset_k (by decide)).trans t393
  have t403 : s397 164 54 = 0 := by rw [← hs398]; exact (zset_k (by decide)).trans t394
  have t404 : s397 164 1 = 0 := by rw [← hs398]; exact (zset_k (by decide)).trans t395
  refine zt_dup (pc' := 279) hX dX12_init_278 rfl rfl ?_
  refine zt_iconst (pc' := 280) hX dX12_init_279 rfl ?_
  refine zt_bipush (pc' := 282) hX dX12_init_280 rfl (by decide) (by decide) ?_
  refine zt_cast (pc' := 283) hX dX12_init_282 rfl (by omega) zc_176 zs_58 (by decide) ⟨by decide, by decide⟩ (by decide +kernel) ?_
  rw [show Int.toNat 1 = 1 from rfl]
  generalize hs406 : zset s397 176 1 97 = s405
  have q407 := zCs_el hs406 q399 (by omega) (by omega) zc_176 zs_58 (show 0 ≤ (97 : Int) ∧ (97 : Int) ≤ 65535 from ⟨by decide, by decide⟩)
  have t408 : s405 200 2 = -1 := by rw [← hs406]; exact (zset_k (by decide)).trans t400
  have t409 : s405 200 3 = -1 := by rw [← hs406]; exact (zset_k (by decide)).trans t401
  have t410 : s405 164 50 = 0 := by rw [← hs406]; exact (zset_k (by decide)).trans t402
  have t411 : s405 164 54 = 0 := by rw [← hs406]; exact (zset_k (by decide)).trans t403
  have t412 : s405 164 1 = 0 := by rw [← hs406]; exact (zset_k (by decide)).trans t404
  refine zt_dup (pc' := 284) hX dX12_init_283 rfl rfl ?_
  refine zt_iconst (pc' := 285) hX dX12_init_284 rfl ?_
  refine zt_bipush (pc' := 287) hX dX12_init_285 rfl (by decide) (by decide) ?_
  refine zt_cast (pc' := 288) hX dX12_init_287 rfl (by omega) zc_176 zs_58 (by decide) ⟨by decide, by decide⟩ (by decide +kernel) ?_
  rw [show Int.toNat 2 = 2 from rfl]
  generalize hs414 : zset s405 176 2 100 = s413
  have q415 := zCs_el hs414 q407 (by omega) (by omega) zc_176 zs_58 (show 0 ≤ (100 : Int) ∧ (100 : Int) ≤ 65535 from ⟨by decide, by decide⟩)
  have t416 : s413 200 2 = -1 := by rw [← hs414]; exact (zset_k (by decide)).trans t408
  have t417 : s413 200 3 = -1 := by rw [← hs414]; exact (zset_k (by decide)).trans t409
  have t418 : s413 164 50 = 0 := by rw [← hs414]; exact (zset_k (by decide)).trans t410
  have t419 : s413 164 54 = 0 := by rw [← hs414]; exact (zset_k (by decide)).trans t411
  have t420 : s413 164 1 = 0 := by rw [← hs414]; exact (zset_k (by decide)).trans t412
  refine zt_dup (pc' := 289) hX dX12_init_288 rfl rfl ?_
  refine zt_iconst (pc' := 290) hX dX12_init_289 rfl ?_
  refine zt_bipush (pc' := 292) hX dX12_init_290 rfl (by decide) (by decide) ?_
  refine zt_cast (pc' := 293) hX dX12_init_292 rfl (by omega) zc_176 zs_58 (by decide) ⟨by decide, by decide⟩ (by decide +kernel) ?_
  rw [show Int.toNat 3 = 3 from rfl]
  generalize hs422 : zset s413 176 3 101 = s421
  have q423 := zCs_el hs422 q415 (by omega) (by omega) zc_176 zs_58 (show 0 ≤ (101 : Int) ∧ (101 : Int) ≤ 65535 from ⟨by decide, by decide⟩)
  have t424 : s421 200 2 = -1 := by rw [← hs422]; exact (zset_k (by decide)).trans t416
  have t425 : s421 200 3 = -1 := by rw [← hs422]; exact (zset_k (by decide)).trans t417
  have t426 : s421 164 50 = 0 := by rw [← hs422]; exact (zset_k (by decide)).trans t418
  have t427 : s421 164 54 = 0 := by rw [← hs422]; exact (zset_k (by decide)).trans t419
  have t428 : s421 164 1 = 0 := by rw [← hs422]; exact (zset_k (by decide)).trans t420
  refine zt_dup (pc' := 294) hX dX12_init_293 rfl rfl ?_
  refine zt_iconst (pc' := 295) hX dX12_init_294 rfl ?_
  refine zt_bipush (pc' := 297) hX dX12_init_295 rfl (by decide) (by decide) ?_
  refine zt_cast (pc' := 298) hX dX12_init_297 rfl (by omega) zc_176 zs_58 (by decide) ⟨by decide, by decide⟩ (by decide +kernel) ?_
  rw [show Int.toNat 4 = 4 from rfl]
  generalize hs430 : zset s421 176 4 115 = s429
  have q431 := zCs_el hs430 q423 (by omega) (by omega) zc_176 zs_58 (show 0 ≤ (115 : Int) ∧ (115 : Int) ≤ 65535 from ⟨by decide, by decide⟩)
  have t432 : s429 200 2 = -1 := by rw [← hs430]; exact (zset_k (by decide)).trans t424
  have t433 : s429 200 3 = -1 := by rw [← hs430]; exact (zset_k (by decide)).trans t425
  have t434 : s429 164 50 = 0 := by rw [← hs430]; exact (zset_k (by decide)).trans t426
  have t435 : s429 164 54 = 0 := by rw [← hs430]; exact (zset_k (by decide)).trans t427
  have t436 : s429 164 1 = 0 := by rw [← hs430]; exact (zset_k (by decide)).trans t428
  refine zt_putF (pc' := 301) (x := ((176 : Nat) : Int)) hX dX12_init_298 rfl hN.1 zf_X12_48 (by omega) zc_164 zs_46 (fun q hq => by cases hq; exact ⟨rfl, rfl⟩) (zrf_of rfl) rfl rfl ?_
  generalize hs438 : zset s429 164 20 ((176 : Nat) : Int) = s437
  have q439 := zCs_ref hs438 q431 zc_164 zs_46 rfl (by omega) (by decide)
  have t440 : s437 200 2 = -1 := by rw [← hs438]; exact (zset_k (by decide)).trans t432
  have t441 : s437 200 3 = -1 := by rw [← hs438]; exact (zset_k (by decide)).trans t433
  have t442 : s437 164 50 = 0 := by rw [← hs438]; exact (zset_j (by decide)).trans t434
  have t443 : s437 164 54 = 0 := by rw [← hs438]; exact (zset_j (by decide)).trans t435
  have t444 : s437 164 1 = 0 := by rw [← hs438]; exact (zset_j (by decide)).trans t436
  refine zt_aload_n (pc' := 302) hX dX12_init_301 rfl rfl ?_
  refine zt_iconst (pc' := 303) hX dX12_init_302 rfl ?_
  refine zt_newa (pc' := 305) (t := 3) (N := 5) hX dX12_init_303 rfl zw_10_19 rfl (by decide) (by decide) zc_177 zs_59 (by decide) (by decide) (zCs_nx q439) ⟨by rw [hN.2.1]; exact Nat.le_of_ble_eq_true rfl, by rw [hN.2.2]; exact Nat.le_of_ble_eq_true rfl⟩ ?_
  have q445 := zCs_arr q439 zc_177 zs_59 (by decide)
  refine zt_dup (pc' := 306) hX dX12_init_305 rfl rfl ?_
  refine zt_iconst (pc' := 307) hX dX12_init_306 rfl ?_
  refine zt_bipush (pc' := 309) hX dX12_init_307 rfl (by decide) (by decide) ?_
  refine zt_cast (pc' := 310) hX dX12_init_309 rfl (by omega) zc_177 zs_59 (by decide) ⟨by decide, by decide⟩ (by decide +kernel) ?_
  rw [show Int.toNat 0 = 0 from rfl]
  generalize hs447 : zset s437 177 0 115 = s446
  have q448 := zCs_el hs447 q445 (by omega) (by omega) zc_177 zs_59 (show 0 ≤ (115 : Int) ∧ (115 : Int) ≤ 65535 from ⟨by decide, by decide⟩)
  have t449 : s446 200 2 = -1 := by rw [← hs447]; exact (zset_k (by decide)).trans t440
  have t450 : s446 200 3 = -1 := by rw [← hs447]; exact (zset_k (by decide)).trans t441
  have t451 : s446 164 50 = 0 := by rw [← hs447]; exact (zset_k (by decide)).trans t442
  have t452 : s446 164 54 = 0 := by rw [← hs447]; exact (zset_k (by decide)).trans t443
  have t453 : s446 164 1 = 0 := by rw [← hs447]; exact (zset_k (by decide)).trans t444
  refine zt_dup (pc' := 311) hX dX12_init_310 rfl rfl ?_
  refine zt_iconst (pc' := 312) hX dX12_init_311 rfl ?_
  refine zt_bipush (pc' := 314) hX dX12_init_312 rfl (by decide) (by decide) ?_
  refine zt_cast (pc' := 315) hX dX12_init_314 rfl (by omega) zc_177 zs_59 (by decide) ⟨by decide, by decide⟩ (by decide +kernel) ?_
  rw [show Int.toNat 1 = 1 from rfl]
  generalize hs455 : zset s446 177 1 116 = s454
  have q456 := zCs_el hs455 q448 (by omega) (by omega) zc_177 zs_59 (show 0 ≤ (116 : Int) ∧ (116 : Int) ≤ 65535 from ⟨by decide, by decide⟩)
  have t457 : s454 200 2 = -1 := by rw [← hs455]; exact (zset_k (by decide)).trans t449
  have t458 : s454 200 3 = -1 := by rw [← hs455]; exact (zset_k (by decide)).trans t450
  have t459 : s454 164 50 = 0 := by rw [← hs455]; exact (zset_k (by decide)).trans t451
  have t460 : s454 164 54 = 0 := by rw [← hs455]; exact (zset_k (by decide)).trans t452
  have t461 : s454 164 1 = 0 := by rw [← hs455]; exact (zset_k (by decide)).trans t453
  refine zt_dup (pc' := 316) hX dX12_init_315 rfl rfl ?_
  refine zt_iconst (pc' := 317) hX dX12_init_316 rfl ?_
  refine zt_bipush (pc' := 319) hX dX12_init_317 rfl (by decide) (by decide) ?_
  refine zt_cast (pc' := 320) hX dX12_init_319 rfl (by omega) zc_177 zs_59 (by decide) ⟨by decide, by decide⟩ (by decide +kernel) ?_
  rw [show Int.toNat 2 = 2 from rfl]
  generalize hs463 : zset s454 177 2 111 = s462
  have q464 := zCs_el hs463 q456 (by omega) (by omega) zc_177 zs_59 (show 0 ≤ (111 : Int) ∧ (111 : Int) ≤ 65535 from ⟨by decide, by decide⟩)
  have t465 : s462 200 2 = -1 := by rw [← hs463]; exact (zset_k (by decide)).trans t457
  have t466 : s462 200 3 = -1 := by rw [← hs463]; exact (zset_k (by decide)).trans t458
  have t467 : s462 164 50 = 0 := by rw [← hs463]; exact (zset_k (by decide)).trans t459
  have t468 : s462 164 54 = 0 := by rw [← hs463]; exact (zset_k (by decide)).trans t460
  have t469 : s462 164 1 = 0 := by rw [← hs463]; exact (zset_k (by decide)).trans t461
  refine zt_dup (pc' := 321) hX dX12_init_320 rfl rfl ?_
  refine zt_iconst (pc' := 322) hX dX12_init_321 rfl ?_
  refine zt_bipush (pc' := 324) hX dX12_init_322 rfl (by decide) (by decide) ?_
  refine zt_cast (pc' := 325) hX dX12_init_324 rfl (by omega) zc_177 zs_59 (by decide) ⟨by decide, by decide⟩ (by decide +kernel) ?_
  rw [show Int.toNat 3 = 3 from rfl]
  generalize hs471 : zset s462 177 3 110 = s470
  have q472 := zCs_el hs471 q464 (by omega) (by omega) zc_177 zs_59 (show 0 ≤ (110 : Int) ∧ (110 : Int) ≤ 65535 from ⟨by decide, by decide⟩)
  have t473 : s470 200 2 = -1 := by rw [← hs471]; exact (zset_k (by decide)).trans t465
  have t474 : s470 200 3 = -1 := by rw [← hs471]; exact (zset_k (by decide)).trans t466
  have t475 : s470 164 50 = 0 := by rw [← hs471]; exact (zset_k (by decide)).trans t467
  have t476 : s470 164 54 = 0 := by rw [← hs471]; exact (zset_k (by decide)).trans t468
  have t477 : s470 164 1 = 0 := by rw [← hs471]; exact (zset_k (by decide)).trans t469
  refine zt_dup (pc' := 326) hX dX12_init_325 rfl rfl ?_
  refine zt_iconst (pc' := 327) hX dX12_init_326 rfl ?_
  refine zt_bipush (pc' := 329) hX dX12_init_327 rfl (by decide) (by decide) ?_
  refine zt_cast (pc' := 330) hX dX12_init_329 rfl (by omega) zc_177 zs_59 (by decide) ⟨by decide, by decide⟩ (by decide +kernel) ?_
  rw [show Int.toNat 4 = 4 from rfl]
  generalize hs479 : zset s470 177 4 101 = s478
  have q480 := zCs_el hs479 q472 (by omega) (by omega) zc_177 zs_59 (show 0 ≤ (101 : Int) ∧ (101 : Int) ≤ 65535 from ⟨by decide, by decide⟩)
  have t481 : s478 200 2 = -1 := by rw [← hs479]; exact (zset_k (by decide)).trans t473
  have t482 : s478 200 3 = -1 := by rw [← hs479]; exact (zset_k (by decide)).trans t474
  have t483 : s478 164 50 = 0 := by rw [← hs479]; exact (zset_k (by decide)).trans t475
  have t484 : s478 164 54 = 0 := by rw [← hs479]; exact (zset_k (by decide)).trans t476
  have t485 : s478 164 1 = 0 := by rw [← hs479]; exact (zset_k (by decide)).trans t477
  refine zt_putF (pc' := 333) (x := ((177 : Nat) : Int)) hX dX12_init_330 rfl hN.1 zf_X12_51 (by omega) zc_164 zs_46 (fun q hq => by cases hq; exact ⟨rfl, rfl⟩) (zrf_of rfl) rfl rfl ?_
  generalize hs487 : zset s478 164 21 ((177 : Nat) : Int) = s486
  have q488 := zCs_ref hs487 q480 zc_164 zs_46 rfl (by omega) (by decide)
  have t489 : s486 200 2 = -1 := by rw [← hs487]; exact (zset_k (by decide)).trans t481
  have t490 : s486 200 3 = -1 := by rw [← hs487]; exact (zset_k (by decide)).trans t482
  have t491 : s486 164 50 = 0 := by rw [← hs487]; exact (zset_j (by decide)).trans t483
  have t492 : s486 164 54 = 0 := by rw [← hs487]; exact (zset_j (by decide)).trans t484
  have t493 : s486 164 1 = 0 := by rw [← hs487]; exact (zset_j (by decide)).trans t485
  refine zt_aload_n (pc' := 334) hX dX12_init_333 rfl rfl ?_
  refine zt_iconst (pc' := 335) hX dX12_init_334 rfl ?_
  refine zt_newa (pc' := 337) (t := 3) (N := 4) hX dX12_init_335 rfl zw_10_19 rfl (by decide) (by decide) zc_178 zs_60 (by decide) (by decide) (zCs_nx q488) ⟨by rw [hN.2.1]; exact Nat.le_of_ble_eq_true rfl, by rw [hN.2.2]; exact Nat.le_of_ble_eq_true rfl⟩ ?_
  have q494 := zCs_arr q488 zc_178 zs_60 (by decide)
  refine zt_dup (pc' := 338) hX dX12_init_337 rfl rfl ?_
  refine zt_iconst (pc' := 339) hX dX12_init_338 rfl ?_
  refine zt_bipush (pc' := 341) hX dX12_init_339 rfl (by decide) (by decide) ?_
  refine zt_cast (pc' := 342) hX dX12_init_341 rfl (by omega) zc_178 zs_60 (by decide) ⟨by decide, by decide⟩ (by decide +kernel) ?_
  rw [show Int.toNat 0 = 0 from rfl]
  generalize hs496 : zset s486 178 0 104 = s495
  have q497 := zCs_el hs496 q494 (by omega) (by omega) zc_178 zs_60 (show 0 ≤ (104 : Int) ∧ (104 : Int) ≤ 65535 from ⟨by decide, by decide⟩)
  have t498 : s495 200 2 = -1 := by rw [← hs496]; exact (zset_k (by decide)).trans t489
  have t499 : s495 200 3 = -1 := by rw [← hs496]; exact (zset_k (by decide)).trans t490
  have t500 : s495 164 50 = 0 := by rw [← hs496]; exact (zset_k (by decide)).trans t491
  have t501 : s495 164 54 = 0 := by rw [← hs496]; exact (zset_k (by decide)).trans t492
  have t502 : s495 164 1 = 0 := by rw [← hs496]; exact (zset_k (by decide)).trans t493
  refine zt_dup (pc' := 343) hX dX12_init_342 rfl rfl ?_
  refine zt_iconst (pc' := 344) hX dX12_init_343 rfl ?_
  refine zt_bipush (pc' := 346) hX dX12_init_344 rfl (by decide) (by decide) ?_
  refine zt_cast (pc' := 347) hX dX12_init_346 rfl (by omega) zc_178 zs_60 (by decide) ⟨by decide, by decide⟩ (by decide +kernel) ?_
  rw [show Int.toNat 1 = 1 from rfl]
  generalize hs504 : zset s495 178 1 97 = s503
  have q505 := zCs_el hs504 q497 (by omega) (by omega) zc_178 zs_60 (show 0 ≤ (97 : Int) ∧ (97 : Int) ≤ 65535 from ⟨by decide, by decide⟩)
  have t506 : s503 200 2 = -1 := by rw [← hs504]; exact (zset_k (by decide)).trans t498
  have t507 : s503 200 3 = -1 := by rw [← hs504]; exact (zset_k (by decide)).trans t499
  have t508 : s503 164 50 = 0 := by rw [← hs504]; exact (zset_k (by decide)).trans t500
  have t509 : s503 164 54 = 0 := by rw [← hs504]; exact (zset_k (by decide)).trans t501
  have t510 : s503 164 1 = 0 := by rw [← hs504]; exact (zset_k (by decide)).trans t502
  refine zt_dup (pc' := 348) hX dX12_init_347 rfl rfl ?_
  refine zt_iconst (pc' := 349) hX dX12_init_348 rfl ?_
  refine zt_bipush (pc' := 351) hX dX12_init_349 rfl (by decide) (by decide) ?_
  refine zt_cast (pc' := 352) hX dX12_init_351 rfl (by omega) zc_178 zs_60 (by decide) ⟨by decide, by decide⟩ (by decide +kernel) ?_
  rw [show Int.toNat 2 = 2 from rfl]
  generalize hs512 : zset s503 178 2 105 = s511
  have q513 := zCs_el hs512 q505 (by omega) (by omega) zc_178 zs_60 (show 0 ≤ (105 : Int) ∧ (105 : Int) ≤ 65535 from ⟨by decide, by decide⟩)
  have t514 : s511 200 2 = -1 := by rw [← hs512]; exact (zset_k (by decide)).trans t506
  have t515 : s511 200 3 = -1 := by rw [← hs512]; exact (zset_k (by decide)).trans t507
  have t516 : s511 164 50 = 0 := by rw [← hs512]; exact (zset_k (by decide)).trans t508
  have t517 : s511 164 54 = 0 := by rw [← hs512]; exact (zset_k (by decide)).trans t509
  have t518 : s511 164 1 = 0 := by rw [← hs512]; exact (zset_k (by decide)).trans t510
  refine zt_dup (pc' := 353) hX dX12_init_352 rfl rfl ?_
  refine zt_iconst (pc' := 354) hX dX12_init_353 rfl ?_
  refine zt_bipush (pc' := 356) hX dX12_init_354 rfl (by decide) (by decide) ?_
  refine zt_cast (pc' := 357) hX dX12_init_356 rfl (by omega) zc_178 zs_60 (by decide) ⟨by decide, by decide⟩ (by decide +kernel) ?_
  rw [show Int.toNat 3 = 3 from rfl]
  generalize hs520 : zset s511 178 3 108 = s519
  have q521 := zCs_el hs520 q513 (by omega) (by omega) zc_178 zs_60 (show 0 ≤ (108 : Int) ∧ (108 : Int) ≤ 65535 from ⟨by decide, by decide⟩)
  have t522 : s519 200 2 = -1 := by rw [← hs520]; exact (zset_k (by decide)).trans t514
  have t523 : s519 200 3 = -1 := by rw [← hs520]; exact (zset_k (by decide)).trans t515
  have t524 : s519 164 50 = 0 := by rw [← hs520]; exact (zset_k (by decide)).trans t516
  have t525 : s519 164 54 = 0 := by rw [← hs520]; exact (zset_k (by decide)).trans t517
  have t526 : s519 164 1 = 0 := by rw [← hs520]; exact (zset_k (by decide)).trans t518
  refine zt_putF (pc' := 360) (x := ((178 : Nat) : Int)) hX dX12_init_357 rfl hN.1 zf_X12_54 (by omega) zc_164 zs_46 (fun q hq => by cases hq; exact ⟨rfl, rfl⟩) (zrf_of rfl) rfl rfl ?_
  generalize hs528 : zset s519 164 22 ((178 : Nat) : Int) = s527
  have q529 := zCs_ref hs528 q521 zc_164 zs_46 rfl (by omega) (by decide)
  have t530 : s527 200 2 = -1 := by rw [← hs528]; exact (zset_k (by decide)).trans t522
  have t531 : s527 200 3 = -1 := by rw [← hs528]; exact (zset_k (by decide)).trans t523
  have t532 : s527 164 50 = 0 := by rw [← hs528]; exact (zset_j (by decide)).trans t524
  have t533 : s527 164 54 = 0 := by rw [← hs528]; exact (zset_j (by decide)).trans t525
  have t534 : s527 164 1 = 0 := by rw [← hs528]; exact (zset_j (by decide)).trans t526
  refine zt_aload_n (pc' := 361) hX dX12_init_360 rfl rfl ?_
  refine zt_iconst (pc' := 362) hX dX12_init_361 rfl ?_
  refine zt_newa (pc' := 364) (t := 3) (N := 4) hX dX12_init_362 rfl zw_10_19 rfl (by decide) (by decide) zc_179 zs_61 (by decide) (by decide) (zCs_nx q529) ⟨by rw [hN.2.1]; exact Nat.le_of_ble_eq_true rfl, by rw [hN.2.2]; exact Nat.le_of_ble_eq_true rfl⟩ ?_
  have q535 := zCs_arr q529 zc_179 zs_61 (by decide)
  refine zt_dup (pc' := 365) hX dX12_init_364 rfl rfl ?_
  refine zt_iconst (pc' := 366) hX dX12_init_365 rfl ?_
  refine zt_bipush (pc' := 368) hX dX12_init_366 rfl (by decide) (by decide) ?_
  refine zt_cast (pc' := 369) hX dX12_init_368 rfl (by omega) zc_179 zs_61 (by decide) ⟨by decide, by decide⟩ (by decide +kernel) ?_
  rw [show Int.toNat 0 = 0 from rfl]
  generalize hs537 : zset s527 179 0 104 = s536
  have q538 := zCs_el hs537 q535 (by omega) (by omega) zc_179 zs_61 (show 0 ≤ (104 : Int) ∧ (104 : Int) ≤ 65535 from ⟨by decide, by decide⟩)
  have t539 : s536 200 2 = -1 := by rw [← hs537]; exact (zset_k (by decide)).trans t530
  have t540 : s536 200 3 = -1 := by rw [← hs537]; exact (zset_k (by decide)).trans t531
  have t541 : s536 164 50 = 0 := by rw [← hs537]; exact (zset_k (by decide)).trans t532
  have t542 : s536 164 54 = 0 := by rw [← hs537]; exact (zset_k (by decide)).trans t533
  have t543 : s536 164 1 = 0 := by rw [← hs537]; exact (zset_k (by decide)).trans t534
  refine zt_dup (pc' := 370) hX dX12_init_369 rfl rfl ?_
  refine zt_iconst (pc' := 371) hX dX12_init_370 rfl ?_
  refine zt_bipush (pc' := 373) hX dX12_init_371 rfl (by decide) (by decide) ?_
  refine zt_cast (pc' := 374) hX dX12_init_373 rfl (by omega) zc_179 zs_61 (by decide) ⟨by decide, by decide⟩ (by decide +kernel) ?_
  rw [show Int.toNat 1 = 1 from rfl]
  generalize hs545 : zset s536 179 1 111 = s544
  have q546 := zCs_el hs545 q538 (by omega) (by omega) zc_179 zs_61 (show 0 ≤ (111 : Int) ∧ (111 : Int) ≤ 65535 from ⟨by decide, by decide⟩)
  have t547 : s544 200 2 = -1 := by rw [← hs545]; exact (zset_k (by decide)).trans t539
  have t548 : s544 200 3 = -1 := by rw [← hs545]; exact (zset_k (by decide)).trans t540
  have t549 : s544 164 50 = 0 := by rw [← hs545]; exact (zset_k (by decide)).trans t541
  have t550 : s544 164 54 = 0 := by rw [← hs545]; exact (zset_k (by decide)).trans t542
  have t551 : s544 164 1 = 0 := by rw [← hs545]; exact (zset_k (by decide)).trans t543
  refine zt_dup (pc' := 375) hX dX12_init_374 rfl rfl ?_
  refine zt_iconst (pc' := 376) hX dX12_init_375 rfl ?_
  refine zt_bipush (pc' := 378) hX dX12_init_376 rfl (by decide) (by decide) ?_
  refine zt_cast (pc' := 379) hX dX12_init_378 rfl (by omega) zc_179 zs_61 (by decide) ⟨by decide, by decide⟩ (by decide +kernel) ?_
  rw [show Int.toNat 2 = 2 from rfl]
  generalize hs553 : zset s544 179 2 117 = s552
  have q554 := zCs_el hs553 q546 (by omega) (by omega) zc_179 zs_61 (show 0 ≤ (117 : Int) ∧ (117 : Int) ≤ 65535 from ⟨by decide, by decide⟩)
  have t555 : s552 200 2 = -1 := by rw [← hs553]; exact (zset_k (by decide)).trans t547
  have t556 : s552 200 3 = -1 := by rw [← hs553]; exact (zset_k (by decide)).trans t548
  have t557 : s552 164 50 = 0 := by rw [← hs553]; exact (zset_k (by decide)).trans t549
  have t558 : s552 164 54 = 0 := by rw [← hs553]; exact (zset_k (by decide)).trans t550
  have t559 : s552 164 1 = 0 := by rw [← hs553]; exact (zset_k (by decide)).trans t551
  refine zt_dup (pc' := 380) hX dX12_init_379 rfl rfl ?_
  refine zt_iconst (pc' := 381) hX dX12_init_380 rfl ?_
  refine zt_bipush (pc' := 383) hX dX12_init_381 rfl (by decide) (by decide) ?_
  refine zt_cast (pc' := 384) hX dX12_init_383 rfl (by omega) zc_179 zs_61 (by decide) ⟨by decide, by decide⟩ (by decide +kernel) ?_
  rw [show Int.toNat 3 = 3 from rfl]
  generalize hs561 : zset s552 179 3 114 = s560
  have q562 := zCs_el hs561 q554 (by omega) (by omega) zc_179 zs_61 (show 0 ≤ (114 : Int) ∧ (114 : Int) ≤ 65535 from ⟨by decide, by decide⟩)
  have t563 : s560 200 2 = -1 := by rw [← hs561]; exact (zset_k (by decide)).trans t555
  have t564 : s560 200 3 = -1 := by rw [← hs561]; exact (zset_k (by decide)).trans t556
  have t565 : s560 164 50 = 0 := by rw [← hs561]; exact (zset_k (by decide)).trans t557
  have t566 : s560 164 54 = 0 := by rw [← hs561]; exact (zset_k (by decide)).trans t558
  have t567 : s560 164 1 = 0 := by rw [← hs561]; exact (zset_k (by decide)).trans t559
  refine zt_putF (pc' := 387) (x := ((179 : Nat) : Int)) hX dX12_init_384 rfl hN.1 zf_X12_57 (by omega) zc_164 zs_46 (fun q hq => by cases hq; exact ⟨rfl, rfl⟩) (zrf_of rfl) rfl rfl ?_
  generalize hs569 : zset s560 164 23 ((179 : Nat) : Int) = s568
  have q570 := zCs_ref hs569 q562 zc_164 zs_46 rfl (by omega) (by decide)
  have t571 : s568 200 2 = -1 := by rw [← hs569]; exact (zset_k (by decide)).trans t563
  have t572 : s568 200 3 = -1 := by rw [← hs569]; exact (zset_k (by decide)).trans t564
  have t573 : s568 164 50 = 0 := by rw [← hs569]; exact (zset_j (by decide)).trans t565
  have t574 : s568 164 54 = 0 := by rw [← hs569]; exact (zset_j (by decide)).trans t566
  have t575 : s568 164 1 = 0 := by rw [← hs569]; exact (zset_j (by decide)).trans t567
  refine zt_aload_n (pc' := 388) hX dX12_init_387 rfl rfl ?_
  refine zt_bipush (pc' := 390) hX dX12_init_388 rfl (by decide) (by decide) ?_
  refine zt_newa (pc' := 392) (t := 3) (N := 6) hX dX12_init_390 rfl zw_10_19 rfl (by decide) (by decide) zc_180 zs_62 (by decide) (by decide) (zCs_nx q570) ⟨by rw [hN.2.1]; exact Nat.le_of_ble_eq_true rfl, by rw [hN.2.2]; exact Nat.le_of_ble_eq_true rfl⟩ ?_
  have q576 := zCs_arr q570 zc_180 zs_62 (by decide)
  refine zt_dup (pc' := 393) hX dX12_init_392 rfl rfl ?_
  refine zt_iconst (pc' := 394) hX dX12_init_393 rfl ?_
  refine zt_bipush (pc' := 396) hX dX12_init_394 rfl (by decide) (by decide) ?_
  refine zt_cast (pc' := 397) hX dX12_init_396 rfl (by omega) zc_180 zs_62 (by decide) ⟨by decide, by decide⟩ (by decide +kernel) ?_
  rw [show Int.toNat 0 = 0 from rfl]
  generalize hs578 : zset s568 180 0 99 = s577
  have q579 := zCs_el hs578 q576 (by omega) (by omega) zc_180 zs_62 (show 0 ≤ (99 : Int) ∧ (99 : Int) ≤ 65535 from ⟨by decide, by decide⟩)
  have t580 : s577 200 2 = -1 := by rw [← hs578]; exact (zset_k (by decide)).trans t571
  have t581 : s577 200 3 = -1 := by rw [← hs578]; exact (zset_k (by decide)).trans t572
  have t582 : s577 164 50 = 0 := by rw [← hs578]; exact (zset_k (by decide)).trans t573
  have t583 : s577 164 54 = 0 := by rw [← hs578]; exact (zset_k (by decide)).trans t574
  have t584 : s577 164 1 = 0 := by rw [← hs578]; exact (zset_k (by decide)).trans t575
  refine zt_dup (pc' := 398) hX dX12_init_397 rfl rfl ?_
  refine zt_iconst (pc' := 399) hX dX12_init_398 rfl ?_
  refine zt_bipush (pc' := 401) hX dX12_init_399 rfl (by decide) (by decide) ?_
  refine zt_cast (pc' := 402) hX dX12_init_401 rfl (by omega) zc_180 zs_62 (by decide) ⟨by decide, by decide⟩ (by decide +kernel) ?_
  rw [show Int.toNat 1 = 1 from rfl]
  generalize hs586 : zset s577 180 1 114 = s585
  have q587 := zCs_el hs586 q579 (by omega) (by omega) zc_180 zs_62 (show 0 ≤ (114 : Int) ∧ (114 : Int) ≤ 65535 from ⟨by decide, by decide⟩)
  have t588 : s585 200 2 = -1 := by rw [← hs586]; exact (zset_k (by decide)).trans t580
  have t589 : s585 200 3 = -1 := by rw [← hs586]; exact (zset_k (by decide)).trans t581
  have t590 : s585 164 50 = 0 := by rw [← hs586]; exact (zset_k (by decide)).trans t582
  have t591 : s585 164 54 = 0 := by rw [← hs586]; exact (zset_k (by decide)).trans t583
  have t592 : s585 164 1 = 0 := by rw [← hs586]; exact (zset_k (by decide)).trans t584
  refine zt_dup (pc' := 403) hX dX12_init_402 rfl rfl ?_
  refine zt_iconst (pc' := 404) hX dX12_init_403 rfl ?_
  refine zt_bipush (pc' := 406) hX dX12_init_404 rfl (by decide) (by decide) ?_
  refine zt_cast (pc' := 407) hX dX12_init_406 rfl (by omega) zc_180 zs_62 (by decide) ⟨by decide, by decide⟩ (by decide +kernel) ?_
  rw [show Int.toNat 2 = 2 from rfl]
  generalize hs594 : zset s585 180 2 97 = s593
  have q595 := zCs_el hs594 q587 (by omega) (by omega) zc_180 zs_62 (show 0 ≤ (97 : Int) ∧ (97 : Int) ≤ 65535 from ⟨by decide, by decide⟩)
  have t596 : s593 200 2 = -1 := by rw [← hs594]; exact (zset_k (by decide)).trans t588
  have t597 : s593 200 3 = -1 := by rw [← hs594]; exact (zset_k (by decide)).trans t589
  have t598 : s593 164 50 = 0 := by rw [← hs594]; exact (zset_k (by decide)).trans t590
  have t599 : s593 164 54 = 0 := by rw [← hs594]; exact (zset_k (by decide)).trans t591
  have t600 : s593 164 1 = 0 := by rw [← hs594]; exact (zset_k (by decide)).trans t592
  refine zt_dup (pc' := 408) hX dX12_init_407 rfl rfl ?_
  refine zt_iconst (pc' := 409) hX dX12_init_408 rfl ?_
  refine zt_bipush (pc' := 411) hX dX12_init_409 rfl (by decide) (by decide) ?_
  refine zt_cast (pc' := 412) hX dX12_init_411 rfl (by omega) zc_180 zs_62 (by decide) ⟨by decide, by decide⟩ (by decide +kernel) ?_
  rw [show Int.toNat 3 = 3 from rfl]
  generalize hs602 : zset s593 180 3 99 = s601
  have q603 := zCs_el hs602 q595 (by omega) (by omega) zc_180 zs_62 (show 0 ≤ (99 : Int) ∧ (99 : Int) ≤ 65535 from ⟨by decide, by decide⟩)
  have t604 : s601 200 2 = -1 := by rw [← hs602]; exact (zset_k (by decide)).trans t596
  have t605 : s601 200 3 = -1 := by rw [← hs602]; exact (zset_k (by decide)).trans t597
  have t606 : s601 164 50 = 0 := by rw [← hs602]; exact (zset_k (by decide)).trans t598
  have t607 : s601 164 54 = 0 := by rw [← hs602]; exact (zset_k (by decide)).trans t599
  have t608 : s601 164 1 = 0 := by rw [← hs602]; exact (zset_k (by decide)).trans t600
  refine zt_dup (pc' := 413) hX dX12_init_412 rfl rfl ?_
  refine zt_iconst (pc' := 414) hX dX12_init_413 rfl ?_
  refine zt_bipush (pc' := 416) hX dX12_init_414 rfl (by decide) (by decide) ?_
  refine zt_cast (pc' := 417) hX dX12_init_416 rfl (by omega) zc_180 zs_62 (by decide) ⟨by decide, by decide⟩ (by decide +kernel) ?_
  rw [show Int.toNat 4 = 4 from rfl]
  generalize hs610 : zset s601 180 4 107 = s609
  have q611 := zCs_el hs610 q603 (by omega) (by omega) zc_180 zs_62 (show 0 ≤ (107 : Int) ∧ (107 : Int) ≤ 65535 from ⟨by decide, by decide⟩)
  have t612 : s609 200 2 = -1 := by rw [← hs610]; exact (zset_k (by decide)).trans t604
  have t613 : s609 200 3 = -1 := by rw [← hs610]; exact (zset_k (by decide)).trans t605
  have t614 : s609 164 50 = 0 := by rw [← hs610]; exact (zset_k (by decide)).trans t606
  have t615 : s609 164 54 = 0 := by rw [← hs610]; exact (zset_k (by decide)).trans t607
  have t616 : s609 164 1 = 0 := by rw [← hs610]; exact (zset_k (by decide)).trans t608
  refine zt_dup (pc' := 418) hX dX12_init_417 rfl rfl ?_
  refine zt_iconst (pc' := 419) hX dX12_init_418 rfl ?_
  refine zt_bipush (pc' := 421) hX dX12_init_419 rfl (by decide) (by decide) ?_
  refine zt_cast (pc' := 422) hX dX12_init_421 rfl (by omega) zc_180 zs_62 (by decide) ⟨by decide, by decide⟩ (by decide +kernel) ?_
  rw [show Int.toNat 5 = 5 from rfl]
  generalize hs618 : zset s609 180 5 115 = s617
  have q619 := zCs_el hs618 q611 (by omega) (by omega) zc_180 zs_62 (show 0 ≤ (115 : Int) ∧ (115 : Int) ≤ 65535 from ⟨by decide, by decide⟩)
  have t620 : s617 200 2 = -1 := by rw [← hs618]; exact (zset_k (by decide)).trans t612
  have t621 : s617 200 3 = -1 := by rw [← hs618]; exact (zset_k (by decide)).trans t613
  have t622 : s617 164 50 = 0 := by rw [← hs618]; exact (zset_k (by decide)).trans t614
  have t623 : s617 164 54 = 0 := by rw [← hs618]; exact (zset_k (by decide)).trans t615
  have t624 : s617 164 1 = 0 := by rw [← hs618]; exact (zset_k (by decide)).trans t616
  refine zt_putF (pc' := 425) (x := ((180 : Nat) : Int)) hX dX12_init_422 rfl hN.1 zf_X12_60 (by omega) zc_164 zs_46 (fun q hq => by cases hq; exact ⟨rfl, rfl⟩) (zrf_of rfl) rfl rfl ?_
  generalize hs626 : zset s617 164 24 ((180 : Nat) : Int) = s625
  have q627 := zCs_ref hs626 q619 zc_164 zs_46 rfl (by omega) (by decide)
  have t628 : s625 200 2 = -1 := by rw [← hs626]; exact (zset_k (by decide)).trans t620
  have t629 : s625 200 3 = -1 := by rw [← hs626]; exact (zset_k (by decide)).trans t621
  have t630 : s625 164 50 = 0 := by rw [← hs626]; exact (zset_j (by decide)).trans t622
  have t631 : s625 164 54 = 0 := by rw [← hs626]; exact (zset_j (by decide)).trans t623
  have t632 : s625 164 1 = 0 := by rw [← hs626]; exact (zset_j (by decide)).trans t624
  refine zt_aload_n (pc' := 426) hX dX12_init_425 rfl rfl ?_
  refine zt_bipush (pc' := 428) hX dX12_init_426 rfl (by decide) (by decide) ?_
  refine zt_newa (pc' := 430) (t := 3) (N := 6) hX dX12_init_428 rfl zw_10_19 rfl (by decide) (by decide) zc_181 zs_63 (by decide) (by decide) (zCs_nx q627) ⟨by rw [hN.2.1]; exact Nat.le_of_ble_eq_true rfl, by rw [hN.2.2]; exact Nat.le_of_ble_eq_true rfl⟩ ?_
  have q633 := zCs_arr q627 zc_181 zs_63 (by decide)
  refine zt_dup (pc' := 431) hX dX12_init_430 rfl rfl ?_
  refine zt_iconst (pc' := 432) hX dX12_init_431 rfl ?_
  refine zt_bipush (pc' := 434) hX dX12_init_432 rfl (by decide) (by decide) ?_
  refine zt_cast (pc' := 435) hX dX12_init_434 rfl (by omega) zc_181 zs_63 (by decide) ⟨by decide, by decide⟩ (by decide +kernel) ?_
  rw [show Int.toNat 0 = 0 from rfl]
  generalize hs635 : zset s625 181 0 119 = s634
  have q636 := zCs_el hs635 q633 (by omega) (by omega) zc_181 zs_63 (show 0 ≤ (119 : Int) ∧ (119 : Int) ≤ 65535 from ⟨by decide, by decide⟩)
  have t637 : s634 200 2 = -1 := by rw [← hs635]; exact (zset_k (by decide)).trans t628
  have t638 : s634 200 3 = -1 := by rw [← hs635]; exact (zset_k (by decide)).trans t629
  have t639 : s634 164 50 = 0 := by rw [← hs635]; exact (zset_k (by decide)).trans t630
  have t640 : s634 164 54 = 0 := by rw [← hs635]; exact (zset_k (by decide)).trans t631
  have t641 : s634 164 1 = 0 := by rw [← hs635]; exact (zset_k (by decide)).trans t632
  refine zt_dup (pc' := 436) hX dX12_init_435 rfl rfl ?_
  refine zt_iconst (pc' := 437) hX dX12_init_436 rfl ?_
  refine zt_bipush (pc' := 439) hX dX12_init_437 rfl (by decide) (by decide) ?_
  refine zt_cast (pc' := 440) hX dX12_init_439 rfl (by omega) zc_181 zs_63 (by decide) ⟨by decide, by decide⟩ (by decide +kernel) ?_
  rw [show Int.toNat 1 = 1 from rfl]
  generalize hs643 : zset s634 181 1 101 = s642
  have q644 := zCs_el hs643 q636 (by omega) (by omega) zc_181 zs_63 (show 0 ≤ (101 : Int) ∧ (101 : Int) ≤ 65535 from ⟨by decide, by decide⟩)
  have t645 : s642 200 2 = -1 := by rw [← hs643]; exact (zset_k (by decide)).trans t637
  have t646 : s642 200 3 = -1 := by rw [← hs643]; exact (zset_k (by decide)).trans t638
  have t647 : s642 164 50 = 0 := by rw [← hs643]; exact (zset_k (by decide)).trans t639
  have t648 : s642 164 54 = 0 := by rw [← hs643]; exact (zset_k (by decide)).trans t640
  have t649 : s642 164 1 = 0 := by rw [← hs643]; exact (zset_k (by decide)).trans t641
  refine zt_dup (pc' := 441) hX dX12_init_440 rfl rfl ?_
  refine zt_iconst (pc' := 442) hX dX12_init_441 rfl ?_
  refine zt_bipush (pc' := 444) hX dX12_init_442 rfl (by decide) (by decide) ?_
  refine zt_cast (pc' := 445) hX dX12_init_444 rfl (by omega) zc_181 zs_63 (by decide) ⟨by decide, by decide⟩ (by decide +kernel) ?_
  rw [show Int.toNat 2 = 2 from rfl]
  generalize hs651 : zset s642 181 2 105 = s650
  have q652 := zCs_el hs651 q644 (by omega) (by omega) zc_181 zs_63 (show 0 ≤ (105 : Int) ∧ (105 : Int) ≤ 65535 from ⟨by decide, by decide⟩)
  have t653 : s650 200 2 = -1 := by rw [← hs651]; exact (zset_k (by decide)).trans t645
  have t654 : s650 200 3 = -1 := by rw [← hs651]; exact (zset_k (by decide)).trans t646
  have t655 : s650 164 50 = 0 := by rw [← hs651]; exact (zset_k (by decide)).trans t647
  have t656 : s650 164 54 = 0 := by rw [← hs651]; exact (zset_k (by decide)).trans t648
  have t657 : s650 164 1 = 0 := by rw [← hs651]; exact (zset_k (by decide)).trans t649
  refine zt_dup (pc' := 446) hX dX12_init_445 rfl rfl ?_
  refine zt_iconst (pc' := 447) hX dX12_init_446 rfl ?_
  refine zt_bipush (pc' := 449) hX dX12_init_447 rfl (by decide) (by decide) ?_
  refine zt_cast (pc' := 450) hX dX12_init_449 rfl (by omega) zc_181 zs_63 (by decide) ⟨by decide, by decide⟩ (by decide +kernel) ?_
  rw [show Int.toNat 3 = 3 from rfl]
  generalize hs659 : zset s650 181 3 103 = s658
  have q660 := zCs_el hs659 q652 (by omega) (by omega) zc_181 zs_63 (show 0 ≤ (103 : Int) ∧ (103 : Int) ≤ 65535 from ⟨by decide, by decide⟩)
  have t661 : s658 200 2 = -1 := by rw [← hs659]; exact (zset_k (by decide)).trans t653
  have t662 : s658 200 3 = -1 := by rw [← hs659]; exact (zset_k (by decide)).trans t654
  have t663 : s658 164 50 = 0 := by rw [← hs659]; exact (zset_k (by decide)).trans t655
  have t664 : s658 164 54 = 0 := by rw [← hs659]; exact (zset_k (by decide)).trans t656
  have t665 : s658 164 1 = 0 := by rw [← hs659]; exact (zset_k (by decide)).trans t657
  refine zt_dup (pc' := 451) hX dX12_init_450 rfl rfl ?_
  refine zt_iconst (pc' := 452) hX dX12_init_451 rfl ?_
  refine zt_bipush (pc' := 454) hX dX12_init_452 rfl (by decide) (by decide) ?_
  refine zt_cast (pc' := 455) hX dX12_init_454 rfl (by omega) zc_181 zs_63 (by decide) ⟨by decide, by decide⟩ (by decide +kernel) ?_
  rw [show Int.toNat 4 = 4 from rfl]
  generalize hs667 : zset s658 181 4 104 = s666
  have q668 := zCs_el hs667 q660 (by omega) (by omega) zc_181 zs_63 (show 0 ≤ (104 : Int) ∧ (104 : Int) ≤ 65535 from ⟨by decide, by decide⟩)
  have t669 : s666 200 2 = -1 := by rw [← hs667]; exact (zset_k (by decide)).trans t661
  have t670 : s666 200 3 = -1 := by rw [← hs667]; exact (zset_k (by decide)).trans t662
  have t671 : s666 164 50 = 0 := by rw [← hs667]; exact (zset_k (by decide)).trans t663
  have t672 : s666 164 54 = 0 := by rw [← hs667]; exact (zset_k (by decide)).trans t664
  have t673 : s666 164 1 = 0 := by rw [← hs667]; exact (zset_k (by decide)).trans t665
  refine zt_dup (pc' := 456) hX dX12_init_455 rfl rfl ?_
  refine zt_iconst (pc' := 457) hX dX12_init_456 rfl ?_
  refine zt_bipush (pc' := 459) hX dX12_init_457 rfl (by decide) (by decide) ?_
  refine zt_cast (pc' := 460) hX dX12_init_459 rfl (by omega) zc_181 zs_63 (by decide) ⟨by decide, by decide⟩ (by decide +kernel) ?_
  rw [show Int.toNat 5 = 5 from rfl]
  generalize hs675 : zset s666 181 5 116 = s674
  have q676 := zCs_el hs675 q668 (by omega) (by omega) zc_181 zs_63 (show 0 ≤ (116 : Int) ∧ (116 : Int) ≤ 65535 from ⟨by decide, by decide⟩)
  have t677 : s674 200 2 = -1 := by rw [← hs675]; exact (zset_k (by decide)).trans t669
  have t678 : s674 200 3 = -1 := by rw [← hs675]; exact (zset_k (by decide)).trans t670
  have t679 : s674 164 50 = 0 := by rw [← hs675]; exact (zset_k (by decide)).trans t671
  have t680 : s674 164 54 = 0 := by rw [← hs675]; exact (zset_k (by decide)).trans t672
  have t681 : s674 164 1 = 0 := by rw [← hs675]; exact (zset_k (by decide)).trans t673
  refine zt_putF (pc' := 463) (x := ((181 : Nat) : Int)) hX dX12_init_460 rfl hN.1 zf_X12_63 (by omega) zc_164 zs_46 (fun q hq => by cases hq; exact ⟨rfl, rfl⟩) (zrf_of rfl) rfl rfl ?_
  generalize hs683 : zset s674 164 25 ((181 : Nat) : Int) = s682
  have q684 := zCs_ref hs683 q676 zc_164 zs_46 rfl (by omega) (by decide)
  have t685 : s682 200 2 = -1 := by rw [← hs683]; exact (zset_k (by decide)).trans t677
  have t686 : s682 200 3 = -1 := by rw [← hs683]; exact (zset_k (by decide)).trans t678
  have t687 : s682 164 50 = 0 := by rw [← hs683]; exact (zset_j (by decide)).trans t679
  have t688 : s682 164 54 = 0 := by rw [← hs683]; exact (zset_j (by decide)).trans t680
  have t689 : s682 164 1 = 0 := by rw [← hs683]; exact (zset_j (by decide)).trans t681
  refine zt_aload_n (pc' := 464) hX dX12_init_463 rfl rfl ?_
  refine zt_iconst (pc' := 465) hX dX12_init_464 rfl ?_
  refine zt_newa (pc' := 467) (t := 3) (N := 5) hX dX12_init_465 rfl zw_10_19 rfl (by decide) (by decide) zc_182 zs_64 (by decide) (by decide) (zCs_nx q684) ⟨by rw [hN.2.1]; exact Nat.le_of_ble_eq_true rfl, by rw [hN.2.2]; exact Nat.le_of_ble_eq_true rfl⟩ ?_
  have q690 := zCs_arr q684 zc_182 zs_64 (by decide)
  refine zt_dup (pc' := 468) hX dX12_init_467 rfl rfl ?_
  refine zt_iconst (pc' := 469) hX dX12_init_468 rfl ?_
  refine zt_bipush (pc' := 471) hX dX12_init_469 rfl (by decide) (by decide) ?_
  refine zt_cast (pc' := 472) hX dX12_init_471 rfl (by omega) zc_182 zs_64 (by decide) ⟨by decide, by decide⟩ (by decide +kernel) ?_
  rw [show Int.toNat 0 = 0 from rfl]
  generalize hs692 : zset s682 182 0 116 = s691
  have q693 := zCs_el hs692 q690 (by omega) (by omega) zc_182 zs_64 (show 0 ≤ (116 : Int) ∧ (116 : Int) ≤ 65535 from ⟨by decide, by decide⟩)
  have t694 : s691 200 2 = -1 := by rw [← hs692]; exact (zset_k (by decide)).trans t685
  have t695 : s691 200 3 = -1 := by rw [← hs692]; exact (zset_k (by decide)).trans t686
  have t696 : s691 164 50 = 0 := by rw [← hs692]; exact (zset_k (by decide)).trans t687
  have t697 : s691 164 54 = 0 := by rw [← hs692]; exact (zset_k (by decide)).trans t688
  have t698 : s691 164 1 = 0 := by rw [← hs692]; exact (zset_k (by decide)).trans t689
  refine zt_dup (pc' := 473) hX dX12_init_472 rfl rfl ?_
  refine zt_iconst (pc' := 474) hX dX12_init_473 rfl ?_
  refine zt_bipush (pc' := 476) hX dX12_init_474 rfl (by decide) (by decide) ?_
  refine zt_cast (pc' := 477) hX dX12_init_476 rfl (by omega) zc_182 zs_64 (by decide) ⟨by decide, by decide⟩ (by decide +kernel) ?_
  rw [show Int.toNat 1 = 1 from rfl]
  generalize hs700 : zset s691 182 1 105 = s699
  have q701 := zCs_el hs700 q693 (by omega) (by omega) zc_182 zs_64 (show 0 ≤ (105 : Int) ∧ (105 : Int) ≤ 65535 from ⟨by decide, by decide⟩)
  have t702 : s699 200 2 = -1 := by rw [← hs700]; exact (zset_k (by decide)).trans t694
  have t703 : s699 200 3 = -1 := by rw [← hs700]; exact (zset_k (by decide)).trans t695
  have t704 : s699 164 50 = 0 := by rw [← hs700]; exact (zset_k (by decide)).trans t696
  have t705 : s699 164 54 = 0 := by rw [← hs700]; exact (zset_k (by decide)).trans t697
  have t706 : s699 164 1 = 0 := by rw [← hs700]; exact (zset_k (by decide)).trans t698
  refine zt_dup (pc' := 478) hX dX12_init_477 rfl rfl ?_
  refine zt_iconst (pc' := 479) hX dX12_init_478 rfl ?_
  refine zt_bipush (pc' := 481) hX dX12_init_479 rfl (by decide) (by decide) ?_
  refine zt_cast (pc' := 482) hX dX12_init_481 rfl (by omega) zc_182 zs_64 (by decide) ⟨by decide, by decide⟩ (by decide +kernel) ?_
  rw [show Int.toNat 2 = 2 from rfl]
  generalize hs708 : zset s699 182 2 114 = s707
  have q709 := zCs_el hs708 q701 (by omega) (by omega) zc_182 zs_64 (show 0 ≤ (114 : Int) ∧ (114 : Int) ≤ 65535 from ⟨by decide, by decide⟩)
  have t710 : s707 200 2 = -1 := by rw [← hs708]; exact (zset_k (by decide)).trans t702
  have t711 : s707 200 3 = -1 := by rw [← hs708]; exact (zset_k (by decide)).trans t703
  have t712 : s707 164 50 = 0 := by rw [← hs708]; exact (zset_k (by decide)).trans t704
  have t713 : s707 164 54 = 0 := by rw [← hs708]; exact (zset_k (by decide)).trans t705
  have t714 : s707 164 1 = 0 := by rw [← hs708]; exact (zset_k (by decide)).trans t706
  refine zt_dup (pc' := 483) hX dX12_init_482 rfl rfl ?_
  refine zt_iconst (pc' := 484) hX dX12_init_483 rfl ?_
  refine zt_bipush (pc' := 486) hX dX12_init_484 rfl (by decide) (by decide) ?_
  refine zt_cast (pc' := 487) hX dX12_init_486 rfl (by omega) zc_182 zs_64 (by decide) ⟨by decide, by decide⟩ (by decide +kernel) ?_
  rw [show Int.toNat 3 = 3 from rfl]
  generalize hs716 : zset s707 182 3 101 = s715
  have q717 := zCs_el hs716 q709 (by omega) (by omega) zc_182 zs_64 (show 0 ≤ (101 : Int) ∧ (101 : Int) ≤ 65535 from ⟨by decide, by decide⟩)
  have t718 : s715 200 2 = -1 := by rw [← hs716]; exact (zset_k (by decide)).trans t710
  have t719 : s715 200 3 = -1 := by rw [← hs716]; exact (zset_k (by decide)).trans t711
  have t720 : s715 164 50 = 0 := by rw [← hs716]; exact (zset_k (by decide)).trans t712
  have t721 : s715 164 54 = 0 := by rw [← hs716]; exact (zset_k (by decide)).trans t713
  have t722 : s715 164 1 = 0 := by rw [← hs716]; exact (zset_k (by decide)).trans t714
  refine zt_dup (pc' := 488) hX dX12_init_487 rfl rfl ?_
  refine zt_iconst (pc' := 489) hX dX12_init_488 rfl ?_
  refine zt_bipush (pc' := 491) hX dX12_init_489 rfl (by decide) (by decide) ?_
  refine zt_cast (pc' := 492) hX dX12_init_491 rfl (by omega) zc_182 zs_64 (by decide) ⟨by decide, by decide⟩ (by decide +kernel) ?_
  rw [show Int.toNat 4 = 4 from rfl]
  generalize hs724 : zset s715 182 4 100 = s723
  have q725 := zCs_el hs724 q717 (by omega) (by omega) zc_182 zs_64 (show 0 ≤ (100 : Int) ∧ (100 : Int) ≤ 65535 from ⟨by decide, by decide⟩)
  have t726 : s723 200 2 = -1 := by rw [← hs724]; exact (zset_k (by decide)).trans t718
  have t727 : s723 200 3 = -1 := by rw [← hs724]; exact (zset_k (by decide)).trans t719
  have t728 : s723 164 50 = 0 := by rw [← hs724]; exact (zset_k (by decide)).trans t720
  have t729 : s723 164 54 = 0 := by rw [← hs724]; exact (zset_k (by decide)).trans t721
  have t730 : s723 164 1 = 0 := by rw [← hs724]; exact (zset_k (by decide)).trans t722
  refine zt_putF (pc' := 495) (x := ((182 : Nat) : Int)) hX dX12_init_492 rfl hN.1 zf_X12_66 (by omega) zc_164 zs_46 (fun q hq => by cases hq; exact ⟨rfl, rfl⟩) (zrf_of rfl) rfl rfl ?_
  generalize hs732 : zset s723 164 26 ((182 : Nat) : Int) = s731
  have q733 := zCs_ref hs732 q725 zc_164 zs_46 rfl (by omega) (by decide)
  have t734 : s731 200 2 = -1 := by rw [← hs732]; exact (zset_k (by decide)).trans t726
  have t735 : s731 200 3 = -1 := by rw [← hs732]; exact (zset_k (by decide)).trans t727
  have t736 : s731 164 50 = 0 := by rw [← hs732]; exact (zset_j (by decide)).trans t728
  have t737 : s731 164 54 = 0 := by rw [← hs732]; exact (zset_j (by decide)).trans t729
  have t738 : s731 164 1 = 0 := by rw [← hs732]; exact (zset_j (by decide)).trans t730
  refine zt_aload_n (pc' := 496) hX dX12_init_495 rfl rfl ?_
  refine zt_iconst (pc' := 497) hX dX12_init_496 rfl ?_
  refine zt_newa (pc' := 499) (t := 3) (N := 4) hX dX12_init_497 rfl zw_10_19 rfl (by decide) (by decide) zc_183 zs_65 (by decide) (by decide) (zCs_nx q733) ⟨by rw [hN.2.1]; exact Nat.le_of_ble_eq_true rfl, by rw [hN.2.2]; exact Nat.le_of_ble_eq_true rfl⟩ ?_
  have q739 := zCs_arr q733 zc_183 zs_65 (by decide)
  refine zt_dup (pc' := 500) hX dX12_init_499 rfl rfl ?_
  refine zt_iconst (pc' := 501) hX dX12_init_500 rfl ?_
  refine zt_bipush (pc' := 503) hX dX12_init_501 rfl (by decide) (by decide) ?_
  refine zt_cast (pc' := 504) hX dX12_init_503 rfl (by omega) zc_183 zs_65 (by decide) ⟨by decide, by decide⟩ (by decide +kernel) ?_
  rw [show Int.toNat 0 = 0 from rfl]
  generalize hs741 : zset s731 183 0 110 = s740
  have q742 := zCs_el hs741 q739 (by omega) (by omega) zc_183 zs_65 (show 0 ≤ (110 : Int) ∧ (110 : Int) ≤ 65535 from ⟨by decide, by decide⟩)
  have t743 : s740 200 2 = -1 := by rw [← hs741]; exact (zset_k (by decide)).trans t734
  have t744 : s740 200 3 = -1 := by rw [← hs741]; exact (zset_k (by decide)).trans t735
  have t745 : s740 164 50 = 0 := by rw [← hs741]; exact (zset_k (by decide)).trans t736
  have t746 : s740 164 54 = 0 := by rw [← hs741]; exact (zset_k (by decide)).trans t737
  have t747 : s740 164 1 = 0 := by rw [← hs741]; exact (zset_k (by decide)).trans t738
  refine zt_dup (pc' := 505) hX dX12_init_504 rfl rfl ?_
  refine zt_iconst (pc' := 506) hX dX12_init_505 rfl ?_
  refine zt_bipush (pc' := 508) hX dX12_init_506 rfl (by decide) (by decide) ?_
  refine zt_cast (pc' := 509) hX dX12_init_508 rfl (by omega) zc_183 zs_65 (by decide) ⟨by decide, by decide⟩ (by decide +kernel) ?_
  rw [show Int.toNat 1 = 1 from rfl]
  generalize hs749 : zset s740 183 1 101 = s748
  have q750 := zCs_el hs749 q742 (by omega) (by omega) zc_183 zs_65 (show 0 ≤ (101 : Int) ∧ (101 : Int) ≤ 65535 from ⟨by decide, by decide⟩)
  have t751 : s748 200 2 = -1 := by rw [← hs749]; exact (zset_k (by decide)).trans t743
  have t752 : s748 200 3 = -1 := by rw [← hs749]; exact (zset_k (by decide)).trans t744
  have t753 : s748 164 50 = 0 := by rw [← hs749]; exact (zset_k (by decide)).trans t745
  have t754 : s748 164 54 = 0 := by rw [← hs749]; exact (zset_k (by decide)).trans t746
  have t755 : s748 164 1 = 0 := by rw [← hs749]; exact (zset_k (by decide)).trans t747
  refine zt_dup (pc' := 510) hX dX12_init_509 rfl rfl ?_
  refine zt_iconst (pc' := 511) hX dX12_init_510 rfl ?_
  refine zt_bipush (pc' := 513) hX dX12_init_511 rfl (by decide) (by decide) ?_
  refine zt_cast (pc' := 514) hX dX12_init_513 rfl (by omega) zc_183 zs_65 (by decide) ⟨by decide, by decide⟩ (by decide +kernel) ?_
  rw [show Int.toNat 2 = 2 from rfl]
  generalize hs757 : zset s748 183 2 97 = s756
  have q758 := zCs_el hs757 q750 (by omega) (by omega) zc_183 zs_65 (show 0 ≤ (97 : Int) ∧ (97 : Int) ≤ 65535 from ⟨by decide, by decide⟩)
  have t759 : s756 200 2 = -1 := by rw [← hs757]; exact (zset_k (by decide)).trans t751
  have t760 : s756 200 3 = -1 := by rw [← hs757]; exact (zset_k (by decide)).trans t752
  have t761 : s756 164 50 = 0 := by rw [← hs757]; exact (zset_k (by decide)).trans t753
  have t762 : s756 164 54 = 0 := by rw [← hs757]; exact (zset_k (by decide)).trans t754
  have t763 : s756 164 1 = 0 := by rw [← hs757]; exact (zset_k (by decide)).trans t755
  refine zt_dup (pc' := 515) hX dX12_init_514 rfl rfl ?_
  refine zt_iconst (pc' := 516) hX dX12_init_515 rfl ?_
  refine zt_bipush (pc' := 518) hX dX12_init_516 rfl (by decide) (by decide) ?_
  refine zt_cast (pc' := 519) hX dX12_init_518 rfl (by omega) zc_183 zs_65 (by decide) ⟨by decide, by decide⟩ (by decide +kernel) ?_
  rw [show Int.toNat 3 = 3 from rfl]
  generalize hs765 : zset s756 183 3 114 = s764
  have q766 := zCs_el hs765 q758 (by omega) (by omega) zc_183 zs_65 (show 0 ≤ (114 : Int) ∧ (114 : Int) ≤ 65535 from ⟨by decide, by decide⟩)
  have t767 : s764 200 2 = -1 := by rw [← hs765]; exact (zset_k (by decide)).trans t759
  have t768 : s764 200 3 = -1 := by rw [← hs765]; exact (zset_k (by decide)).trans t760
  have t769 : s764 164 50 = 0 := by rw [← hs765]; exact (zset_k (by decide)).trans t761
  have t770 : s764 164 54 = 0 := by rw [← hs765]; exact (zset_k (by decide)).trans t762
  have t771 : s764 164 1 = 0 := by rw [← hs765]; exact (zset_k (by decide)).trans t763
  refine zt_putF (pc' := 522) (x := ((183 : Nat) : Int)) hX dX12_init_519 rfl hN.1 zf_X12_69 (by omega) zc_164 zs_46 (fun q hq => by cases hq; exact ⟨rfl, rfl⟩) (zrf_of rfl) rfl rfl ?_
  generalize hs773 : zset s764 164 27 ((183 : Nat) : Int) = s772
  have q774 := zCs_ref hs773 q766 zc_164 zs_46 rfl (by omega) (by decide)
  have t775 : s772 200 2 = -1 := by rw [← hs773]; exact (zset_k (by decide)).trans t767
  have t776 : s772 200 3 = -1 := by rw [← hs773]; exact (zset_k (by decide)).trans t768
  have t777 : s772 164 50 = 0 := by rw [← hs773]; exact (zset_j (by decide)).trans t769
  have t778 : s772 164 54 = 0 := by rw [← hs773]; exact (zset_j (by decide)).trans t770
  have t779 : s772 164 1 = 0 := by rw [← hs773]; exact (zset_j (by decide)).trans t771
  refine zt_aload_n (pc' := 523) hX dX12_init_522 rfl rfl ?_
  refine zt_bipush (pc' := 525) hX dX12_init_523 rfl (by decide) (by decide) ?_
  refine zt_newa (pc' := 527) (t := 3) (N := 6) hX dX12_init_525 rfl zw_10_19 rfl (by decide) (by decide) zc_184 zs_66 (by decide) (by decide) (zCs_nx q774) ⟨by rw [hN.2.1]; exact Nat.le_of_ble_eq_true rfl, by rw [hN.2.2]; exact Nat.le_of_ble_eq_true rfl⟩ ?_
  have q780 := zCs_arr q774 zc_184 zs_66 (by decide)
  refine zt_dup (pc' := 528) hX dX12_init_527 rfl rfl ?_
  refine zt_iconst (pc' := 529) hX dX12_init_528 rfl ?_
  refine zt_bipush (pc' := 531) hX dX12_init_529 rfl (by decide) (by decide) ?_
  refine zt_cast (pc' := 532) hX dX12_init_531 rfl (by omega) zc_184 zs_66 (by decide) ⟨by decide, by decide⟩ (by decide +kernel) ?_
  rw [show Int.toNat 0 = 0 from rfl]
  generalize hs782 : zset s772 184 0 110 = s781
  have q783 := zCs_el hs782 q780 (by omega) (by omega) zc_184 zs_66 (show 0 ≤ (110 : Int) ∧ (110 : Int) ≤ 65535 from ⟨by decide, by decide⟩)
  have t784 : s781 200 2 = -1 := by rw [← hs782]; exact (zset_k (by decide)).trans t775
  have t785 : s781 200 3 = -1 := by rw [← hs782]; exact (zset_k (by decide)).trans t776
  have t786 : s781 164 50 = 0 := by rw [← hs782]; exact (zset_k (by decide)).trans t777
  have t787 : s781 164 54 = 0 := by rw [← hs782]; exact (zset_k (by decide)).trans t778
  have t788 : s781 164 1 = 0 := by rw [← hs782]; exact (zset_k (by decide)).trans t779
  refine zt_dup (pc' := 533) hX dX12_init_532 rfl rfl ?_
  refine zt_iconst (pc' := 534) hX dX12_init_533 rfl ?_
  refine zt_bipush (pc' := 536) hX dX12_init_534 rfl (by decide) (by decide) ?_
  refine zt_cast (pc' := 537) hX dX12_init_536 rfl (by omega) zc_184 zs_66 (by decide) ⟨by decide, by decide⟩ (by decide +kernel) ?_
  rw [show Int.toNat 1 = 1 from rfl]
  generalize hs790 : zset s781 184 1 117 = s789
  have q791 := zCs_el hs790 q783 (by omega) (by omega) zc_184 zs_66 (show 0 ≤ (117 : Int) ∧ (117 : Int) ≤ 65535 from ⟨by decide, by decide⟩)
  have t792 : s789 200 2 = -1 := by rw [← hs790]; exact (zset_k (by decide)).trans t784
  have t793 : s789 200 3 = -1 := by rw [← hs790]; exact (zset_k (by decide)).trans t785
  have t794 : s789 164 50 = 0 := by rw [← hs790]; exact (zset_k (by decide)).trans t786
  have t795 : s789 164 54 = 0 := by rw [← hs790]; exact (zset_k (by decide)).trans t787
  have t796 : s789 164 1 = 0 := by rw [← hs790]; exact (zset_k (by decide)).trans t788
  refine zt_dup (pc' := 538) hX dX12_init_537 rfl rfl ?_
  refine zt_iconst (pc' := 539) hX dX12_init_538 rfl ?_
  refine zt_bipush (pc' := 541) hX dX12_init_539 rfl (by decide) (by decide) ?_
  refine zt_cast (pc' := 542) hX dX12_init_541 rfl (by omega) zc_184 zs_66 (by decide) ⟨by decide, by decide⟩ (by decide +kernel) ?_
  rw [show Int.toNat 2 = 2 from rfl]
  generalize hs798 : zset s789 184 2 109 = s797
  have q799 := zCs_el hs798 q791 (by omega) (by omega) zc_184 zs_66 (show 0 ≤ (109 : Int) ∧ (109 : Int) ≤ 65535 from ⟨by decide, by decide⟩)
  have t800 : s797 200 2 = -1 := by rw [← hs798]; exact (zset_k (by decide)).trans t792
  have t801 : s797 200 3 = -1 := by rw [← hs798]; exact (zset_k (by decide)).trans t793
  have t802 : s797 164 50 = 0 := by rw [← hs798]; exact (zset_k (by decide)).trans t794
  have t803 : s797 164 54 = 0 := by rw [← hs798]; exact (zset_k (by decide)).trans t795
  have t804 : s797 164 1 = 0 := by rw [← hs798]; exact (zset_k (by decide)).trans t796
  refine zt_dup (pc' := 543) hX dX12_init_542 rfl rfl ?_
  refine zt_iconst (pc' := 544) hX dX12_init_543 rfl ?_
  refine zt_bipush (pc' := 546) hX dX12_init_544 rfl (by decide) (by decide) ?_
  refine zt_cast (pc' := 547) hX dX12_init_546 rfl (by omega) zc_184 zs_66 (by decide) ⟨by decide, by decide⟩ (by decide +kernel) ?_
  rw [show Int.toNat 3 = 3 from rfl]
  generalize hs806 : zset s797 184 3 98 = s805
  have q807 := zCs_el hs806 q799 (by omega) (by omega) zc_184 zs_66 (show 0 ≤ (98 : Int) ∧ (98 : Int) ≤ 65535 from ⟨by decide, by decide⟩)
  have t808 : s805 200 2 = -1 := by rw [← hs806]; exact (zset_k (by decide)).trans t800
  have t809 : s805 200 3 = -1 := by rw [← hs806]; exact (zset_k (by decide)).trans t801
  have t810 : s805 164 50 = 0 := by rw [← hs806]; exact (zset_k (by decide)).trans t802
  have t811 : s805 164 54 = 0 := by rw [← hs806]; exact (zset_k (by decide)).trans t803
  have t812 : s805 164 1 = 0 := by rw [← hs806]; exact (zset_k (by decide)).trans t804
  refine zt_dup (pc' := 548) hX dX12_init_547 rfl rfl ?_
  refine zt_iconst (pc' := 549) hX dX12_init_548 rfl ?_
  refine zt_bipush (pc' := 551) hX dX12_init_549 rfl (by decide) (by decide) ?_
  refine zt_cast (pc' := 552) hX dX12_init_551 rfl (by omega) zc_184 zs_66 (by decide) ⟨by decide, by decide⟩ (by decide +kernel) ?_
  rw [show Int.toNat 4 = 4 from rfl]
  generalize hs814 : zset s805 184 4 101 = s813
  have q815 := zCs_el hs814 q807 (by omega) (by omega) zc_184 zs_66 (show 0 ≤ (101 : Int) ∧ (101 : Int) ≤ 65535 from ⟨by decide, by decide⟩)
  have t816 : s813 200 2 = -1 := by rw [← hs814]; exact (zset_k (by decide)).trans t808
  have t817 : s813 200 3 = -1 := by rw [← hs814]; exact (zset_k (by decide)).trans t809
  have t818 : s813 164 50 = 0 := by rw [← hs814]; exact (zset_k (by decide)).trans t810
  have t819 : s813 164 54 = 0 := by rw [← hs814]; exact (zset_k (by decide)).trans t811
  have t820 : s813 164 1 = 0 := by rw [← hs814]; exact (zset_k (by decide)).trans t812
  refine zt_dup (pc' := 553) hX dX12_init_552 rfl rfl ?_
  refine zt_iconst (pc' := 554) hX dX12_init_553 rfl ?_
  refine zt_bipush (pc' := 556) hX dX12_init_554 rfl (by decide) (by decide) ?_
  refine zt_cast (pc' := 557) hX dX12_init_556 rfl (by omega) zc_184 zs_66 (by decide) ⟨by decide, by decide⟩ (by decide +kernel) ?_
  rw [show Int.toNat 5 = 5 from rfl]
  generalize hs822 : zset s813 184 5 114 = s821
  have q823 := zCs_el hs822 q815 (by omega) (by omega) zc_184 zs_66 (show 0 ≤ (114 : Int) ∧ (114 : Int) ≤ 65535 from ⟨by decide, by decide⟩)
  have t824 : s821 200 2 = -1 := by rw [← hs822]; exact (zset_k (by decide)).trans t816
  have t825 : s821 200 3 = -1 := by rw [← hs822]; exact (zset_k (by decide)).trans t817
  have t826 : s821 164 50 = 0 := by rw [← hs822]; exact (zset_k (by decide)).trans t818
  have t827 : s821 164 54 = 0 := by rw [← hs822]; exact (zset_k (by decide)).trans t819
  have t828 : s821 164 1 = 0 := by rw [← hs822]; exact (zset_k (by decide)).trans t820
  refine zt_putF (pc' := 560) (x := ((184 : Nat) : Int)) hX dX12_init_557 rfl hN.1 zf_X12_72 (by omega) zc_164 zs_46 (fun q hq => by cases hq; exact ⟨rfl, rfl⟩) (zrf_of rfl) rfl rfl ?_
  generalize hs830 : zset s821 164 28 ((184 : Nat) : Int) = s829
  have q831 := zCs_ref hs830 q823 zc_164 zs_46 rfl (by omega) (by decide)
  have t832 : s829 200 2 = -1 := by rw [← hs830]; exact (zset_k (by decide)).trans t824
  have t833 : s829 200 3 = -1 := by rw [← hs830]; exact (zset_k (by decide)).trans t825
  have t834 : s829 164 50 = 0 := by rw [← hs830]; exact (zset_j (by decide)).trans t826
  have t835 : s829 164 54 = 0 := by rw [← hs830]; exact (zset_j (by decide)).trans t827
  have t836 : s829 164 1 = 0 := by rw [← hs830]; exact (zset_j (by decide)).trans t828
  refine zt_aload_n (pc' := 561) hX dX12_init_560 rfl rfl ?_
  refine zt_bipush (pc' := 563) hX dX12_init_561 rfl (by decide) (by decide) ?_
  refine zt_newa (pc' := 565) (t := 3) (N := 6) hX dX12_init_563 rfl zw_10_19 rfl (by decide) (by decide) zc_185 zs_67 (by decide) (by decide) (zCs_nx q831) ⟨by rw [hN.2.1]; exact Nat.le_of_ble_eq_true rfl, by rw [hN.2.2]; exact Nat.le_of_ble_eq_true rfl⟩ ?_
  have q837 := zCs_arr q831 zc_185 zs_67 (by decide)
  refine zt_dup (pc' := 566) hX dX12_init_565 rfl rfl ?_
  refine zt_iconst (pc' := 567) hX dX12_init_566 rfl ?_
  refine zt_bipush (pc' := 569) hX dX12_init_567 rfl (by decide) (by decide) ?_
  refine zt_cast (pc' := 570) hX dX12_init_569 rfl (by omega) zc_185 zs_67 (by decide) ⟨by decide, by decide⟩ (by decide +kernel) ?_
  rw [show Int.toNat 0 = 0 from rfl]
  generalize hs839 : zset s829 185 0 99 = s838
  have q840 := zCs_el hs839 q837 (by omega) (by omega) zc_185 zs_67 (show 0 ≤ (99 : Int) ∧ (99 : Int) ≤ 65535 from ⟨by decide, by decide⟩)
  have t841 : s838 200 2 = -1 := by rw [← hs839]; exact (zset_k (by decide)).trans t832
  have t842 : s838 200 3 = -1 := by rw [← hs839]; exact (zset_k (by decide)).trans t833
  have t843 : s838 164 50 = 0 := by rw [← hs839]; exact (zset_k (by decide)).trans t834
  have t844 : s838 164 54 = 0 := by rw [← hs839]; exact (zset_k (by decide)).trans t835
  have t845 : s838 164 1 = 0 := by rw [← hs839]; exact (zset_k (by decide)).trans t836
  refine zt_dup (pc' := 571) hX dX12_init_570 rfl rfl ?_
  refine zt_iconst (pc' := 572) hX dX12_init_571 rfl ?_
  refine zt_bipush (pc' := 574) hX dX12_init_572 rfl (by decide) (by decide) ?_
  refine zt_cast (pc' := 575) hX dX12_init_574 rfl (by omega) zc_185 zs_67 (by decide) ⟨by decide, by decide⟩ (by decide +kernel) ?_
  rw [show Int.toNat 1 = 1 from rfl]
  generalize hs847 : zset s838 185 1 111 = s846
  have q848 := zCs_el hs847 q840 (by omega) (by omega) zc_185 zs_67 (show 0 ≤ (111 : Int) ∧ (111 : Int) ≤ 65535 from ⟨by decide, by decide⟩)
  have t849 : s846 200 2 = -1 := by rw [← hs847]; exact (zset_k (by decide)).trans t841
  have t850 : s846 200 3 = -1 := by rw [← hs847]; exact (zset_k (by decide)).trans t842
  have t851 : s846 164 50 = 0 := by rw [← hs847]; exact (zset_k (by decide)).trans t843
  have t852 : s846 164 54 = 0 := by rw [← hs847]; exact (zset_k (by decide)).trans t844
  have t853 : s846 164 1 = 0 := by rw [← hs847]; exact (zset_k (by decide)).trans t845
  refine zt_dup (pc' := 576) hX dX12_init_575 rfl rfl ?_
  refine zt_iconst (pc' := 577) hX dX12_init_576 rfl ?_
  refine zt_bipush (pc' := 579) hX dX12_init_577 rfl (by decide) (by decide) ?_
  refine zt_cast (pc' := 580) hX dX12_init_579 rfl (by omega) zc_185 zs_67 (by decide) ⟨by decide, by decide⟩ (by decide +kernel) ?_
  rw [show Int.toNat 2 = 2 from rfl]
  generalize hs855 : zset s846 185 2 108 = s854
  have q856 := zCs_el hs855 q848 (by omega) (by omega) zc_185 zs_67 (show 0 ≤ (108 : Int) ∧ (108 : Int) ≤ 65535 from ⟨by decide, by decide⟩)
  have t857 : s854 200 2 = -1 := by rw [← hs855]; exact (zset_k (by decide)).trans t849
  have t858 : s854 200 3 = -1 := by rw [← hs855]; exact (zset_k (by decide)).trans t850
  have t859 : s854 164 50 = 0 := by rw [← hs855]; exact (zset_k (by decide)).trans t851
  have t860 : s854 164 54 = 0 := by rw [← hs855]; exact (zset_k (by decide)).trans t852
  have t861 : s854 164 1 = 0 := by rw [← hs855]; exact (zset_k (by decide)).trans t853
  refine zt_dup (pc' := 581) hX dX12_init_580 rfl rfl ?_
  refine zt_iconst (pc' := 582) hX dX12_init_581 rfl ?_
  refine zt_bipush (pc' := 584) hX dX12_init_582 rfl (by decide) (by decide) ?_
  refine zt_cast (pc' := 585) hX dX12_init_584 rfl (by omega) zc_185 zs_67 (by decide) ⟨by decide, by decide⟩ (by decide +kernel) ?_
  rw [show Int.toNat 3 = 3 from rfl]
  generalize hs863 : zset s854 185 3 117 = s862
  have q864 := zCs_el hs863 q856 (by omega) (by omega) zc_185 zs_67 (show 0 ≤ (117 : Int) ∧ (117 : Int) ≤ 65535 from ⟨by decide, by decide⟩)
  have t865 : s862 200 2 = -1 := by rw [← hs863]; exact (zset_k (by decide)).trans t857
  have t866 : s862 200 3 = -1 := by rw [← hs863]; exact (zset_k (by decide)).trans t858
  have t867 : s862 164 50 = 0 := by rw [← hs863]; exact (zset_k (by decide)).trans t859
  have t868 : s862 164 54 = 0 := by rw [← hs863]; exact (zset_k (by decide)).trans t860
  have t869 : s862 164 1 = 0 := by rw [← hs863]; exact (zset_k (by decide)).trans t861
  refine zt_dup (pc' := 586) hX dX12_init_585 rfl rfl ?_
  refine zt_iconst (pc' := 587) hX dX12_init_586 rfl ?_
  refine zt_bipush (pc' := 589) hX dX12_init_587 rfl (by decide) (by decide) ?_
  refine zt_cast (pc' := 590) hX dX12_init_589 rfl (by omega) zc_185 zs_67 (by decide) ⟨by decide, by decide⟩ (by decide +kernel) ?_
  rw [show Int.toNat 4 = 4 from rfl]
  generalize hs871 : zset s862 185 4 109 = s870
  have q872 := zCs_el hs871 q864 (by omega) (by omega) zc_185 zs_67 (show 0 ≤ (109 : Int) ∧ (109 : Int) ≤ 65535 from ⟨by decide, by decide⟩)
  have t873 : s870 200 2 = -1 := by rw [← hs871]; exact (zset_k (by decide)).trans t865
  have t874 : s870 200 3 = -1 := by rw [← hs871]; exact (zset_k (by decide)).trans t866
  have t875 : s870 164 50 = 0 := by rw [← hs871]; exact (zset_k (by decide)).trans t867
  have t876 : s870 164 54 = 0 := by rw [← hs871]; exact (zset_k (by decide)).trans t868
  have t877 : s870 164 1 = 0 := by rw [← hs871]; exact (zset_k (by decide)).trans t869
  refine zt_dup (pc' := 591) hX dX12_init_590 rfl rfl ?_
  refine zt_iconst (pc' := 592) hX dX12_init_591 rfl ?_
  refine zt_bipush (pc' := 594) hX dX12_init_592 rfl (by decide) (by decide) ?_
  refine zt_cast (pc' := 595) hX dX12_init_594 rfl (by omega) zc_185 zs_67 (by decide) ⟨by decide, by decide⟩ (by decide +kernel) ?_
  rw [show Int.toNat 5 = 5 from rfl]
  generalize hs879 : zset s870 185 5 110 = s878
  have q880 := zCs_el hs879 q872 (by omega) (by omega) zc_185 zs_67 (show 0 ≤ (110 : Int) ∧ (110 : Int) ≤ 65535 from ⟨by decide, by decide⟩)
  have t881 : s878 200 2 = -1 := by rw [← hs879]; exact (zset_k (by decide)).trans t873
  have t882 : s878 200 3 = -1 := by rw [← hs879]; exact (zset_k (by decide)).trans t874
  have t883 : s878 164 50 = 0 := by rw [← hs879]; exact (zset_k (by decide)).trans t875
  have t884 : s878 164 54 = 0 := by rw [← hs879]; exact (zset_k (by decide)).trans t876
  have t885 : s878 164 1 = 0 := by rw [← hs879]; exact (zset_k (by decide)).trans t877
  refine zt_putF (pc' := 598) (x := ((185 : Nat) : Int)) hX dX12_init_595 rfl hN.1 zf_X12_75 (by omega) zc_164 zs_46 (fun q hq => by cases hq; exact ⟨rfl, rfl⟩) (zrf_of rfl) rfl rfl ?_
  generalize hs887 : zset s878 164 29 ((185 : Nat) : Int) = s886
  have q888 := zCs_ref hs887 q880 zc_164 zs_46 rfl (by omega) (by decide)
  have t889 : s886 200 2 = -1 := by rw [← hs887]; exact (zset_k (by decide)).trans t881
  have t890 : s886 200 3 = -1 := by rw [← hs887]; exact (zset_k (by decide)).trans t882
  have t891 : s886 164 50 = 0 := by rw [← hs887]; exact (zset_j (by decide)).trans t883
  have t892 : s886 164 54 = 0 := by rw [← hs887]; exact (zset_j (by decide)).trans t884
  have t893 : s886 164 1 = 0 := by rw [← hs887]; exact (zset_j (by decide)).trans t885
  refine zt_aload_n (pc' := 599) hX dX12_init_598 rfl rfl ?_
  refine zt_iconst (pc' := 600) hX dX12_init_599 rfl ?_
  refine zt_newa (pc' := 602) (t := 3) (N := 3) hX dX12_init_600 rfl zw_10_19 rfl (by decide) (by decide) zc_186 zs_68 (by decide) (by decide) (zCs_nx q888) ⟨by rw [hN.2.1]; exact Nat.le_of_ble_eq_true rfl, by rw [hN.2.2]; exact Nat.le_of_ble_eq_true rfl⟩ ?_
  have q894 := zCs_arr q888 zc_186 zs_68 (by decide)
  refine zt_dup (pc' := 603) hX dX12_init_602 rfl rfl ?_
  refine zt_iconst (pc' := 604) hX dX12_init_603 rfl ?_
  refine zt_bipush (pc' := 606) hX dX12_init_604 rfl (by decide) (by decide) ?_
  refine zt_cast (pc' := 607) hX dX12_init_606 rfl (by omega) zc_186 zs_68 (by decide) ⟨by decide, by decide⟩ (by decide +kernel) ?_
  rw [show Int.toNat 0 = 0 from rfl]
  generalize hs896 : zset s886 186 0 114 = s895
  have q897 := zCs_el hs896 q894 (by omega) (by omega) zc_186 zs_68 (show 0 ≤ (114 : Int) ∧ (114 : Int) ≤ 65535 from ⟨by decide, by decide⟩)
  have t898 : s895 200 2 = -1 := by rw [← hs896]; exact (zset_k (by decide)).trans t889
  have t899 : s895 200 3 = -1 := by rw [← hs896]; exact (zset_k (by decide)).trans t890
  have t900 : s895 164 50 = 0 := by rw [← hs896]; exact (zset_k (by decide)).trans t891
  have t901 : s895 164 54 = 0 := by rw [← hs896]; exact (zset_k (by decide)).trans t892
  have t902 : s895 164 1 = 0 := by rw [← hs896]; exact (zset_k (by decide)).trans t893
  refine zt_dup (pc' := 608) hX dX12_init_607 rfl rfl ?_
  refine zt_iconst (pc' := 609) hX dX12_init_608 rfl ?_
  refine zt_bipush (pc' := 611) hX dX12_init_609 rfl (by decide) (by decide) ?_
  refine zt_cast (pc' := 612) hX dX12_init_611 rfl (by omega) zc_186 zs_68 (by decide) ⟨by decide, by decide⟩ (by decide +kernel) ?_
  rw [show Int.toNat 1 = 1 from rfl]
  generalize hs904 : zset s895 186 1 111 = s903
  have q905 := zCs_el hs904 q897 (by omega) (by omega) zc_186 zs_68 (show 0 ≤ (111 : Int) ∧ (111 : Int) ≤ 65535 from ⟨by decide, by decide⟩)
  have t906 : s903 200 2 = -1 := by rw [← hs904]; exact (zset_k (by decide)).trans t898
  have t907 : s903 200 3 = -1 := by rw [← hs904]; exact (zset_k (by decide)).trans t899
  have t908 : s903 164 50 = 0 := by rw [← hs904]; exact (zset_k (by decide)).trans t900
  have t909 : s903 164 54 = 0 := by rw [← hs904]; exact (zset_k (by decide)).trans t901
  have t910 : s903 164 1 = 0 := by rw [← hs904]; exact (zset_k (by decide)).trans t902
  refine zt_dup (pc' := 613) hX dX12_init_612 rfl rfl ?_
  refine zt_iconst (pc' := 614) hX dX12_init_613 rfl ?_
  refine zt_bipush (pc' := 616) hX dX12_init_614 rfl (by decide) (by decide) ?_
  refine zt_cast (pc' := 617) hX dX12_init_616 rfl (by omega) zc_186 zs_68 (by decide) ⟨by decide, by decide⟩ (by decide +kernel) ?_
  rw [show Int.toNat 2 = 2 from rfl]
  generalize hs912 : zset s903 186 2 119 = s911
  have q913 := zCs_el hs912 q905 (by omega) (by omega) zc_186 zs_68 (show 0 ≤ (119 : Int) ∧ (119 : Int) ≤ 65535 from ⟨by decide, by decide⟩)
  have t914 : s911 200 2 = -1 := by rw [← hs912]; exact (zset_k (by decide)).trans t906
  have t915 : s911 200 3 = -1 := by rw [← hs912]; exact (zset_k (by decide)).trans t907
  have t916 : s911 164 50 = 0 := by rw [← hs912]; exact (zset_k (by decide)).trans t908
  have t917 : s911 164 54 = 0 := by rw [← hs912]; exact (zset_k (by decide)).trans t909
  have t918 : s911 164 1 = 0 := by rw [← hs912]; exact (zset_k (by decide)).trans t910
  refine zt_putF (pc' := 620) (x := ((186 : Nat) : Int)) hX dX12_init_617 rfl hN.1 zf_X12_78 (by omega) zc_164 zs_46 (fun q hq => by cases hq; exact ⟨rfl, rfl⟩) (zrf_of rfl) rfl rfl ?_
  generalize hs920 : zset s911 164 30 ((186 : Nat) : Int) = s919
  have q921 := zCs_ref hs920 q913 zc_164 zs_46 rfl (by omega) (by decide)
  have t922 : s919 200 2 = -1 := by rw [← hs920]; exact (zset_k (by decide)).trans t914
  have t923 : s919 200 3 = -1 := by rw [← hs920]; exact (zset_k (by decide)).trans t915
  have t924 : s919 164 50 = 0 := by rw [← hs920]; exact (zset_j (by decide)).trans t916
  have t925 : s919 164 54 = 0 := by rw [← hs920]; exact (zset_j (by decide)).trans t917
  have t926 : s919 164 1 = 0 := by rw [← hs920]; exact (zset_j (by decide)).trans t918
  refine zt_aload_n (pc' := 621) hX dX12_init_620 rfl rfl ?_
  refine zt_iconst (pc' := 622) hX dX12_init_621 rfl ?_
  refine zt_newa (pc' := 624) (t := 3) (N := 3) hX dX12_init_622 rfl zw_10_19 rfl (by decide) (by decide) zc_187 zs_69 (by decide) (by decide) (zCs_nx q921) ⟨by rw [hN.2.1]; exact Nat.le_of_ble_eq_true rfl, by rw [hN.2.2]; exact Nat.le_of_ble_eq_true rfl⟩ ?_
  have q927 := zCs_arr q921 zc_187 zs_69 (by decide)
  refine zt_dup (pc' := 625) hX dX12_init_624 rfl rfl ?_
  refine zt_iconst (pc' := 626) hX dX12_init_625 rfl ?_
  refine zt_bipush (pc' := 628) hX dX12_init_626 rfl (by decide) (by decide) ?_
  refine zt_cast (pc' := 629) hX dX12_init_628 rfl (by omega) zc_187 zs_69 (by decide) ⟨by decide, by decide⟩ (by decide +kernel) ?_
  rw [show Int.toNat 0 = 0 from rfl]
  generalize hs929 : zset s919 187 0 102 = s928
  have q930 := zCs_el hs929 q927 (by omega) (by omega) zc_187 zs_69 (show 0 ≤ (102 : Int) ∧ (102 : Int) ≤ 65535 from ⟨by decide, by decide⟩)
  have t931 : s928 200 2 = -1 := by rw [← hs929]; exact (zset_k (by decide)).trans t922
  have t932 : s928 200 3 = -1 := by rw [← hs929]; exact (zset_k (by decide)).trans t923
  have t933 : s928 164 50 = 0 := by rw [← hs929]; exact (zset_k (by decide)).trans t924
  have t934 : s928 164 54 = 0 := by rw [← hs929]; exact (zset_k (by decide)).trans t925
  have t935 : s928 164 1 = 0 := by rw [← hs929]; exact (zset_k (by decide)).trans t926
  refine zt_dup (pc' := 630) hX dX12_init_629 rfl rfl ?_
  refine zt_iconst (pc' := 631) hX dX12_init_630 rfl ?_
  refine zt_bipush (pc' := 633) hX dX12_init_631 rfl (by decide) (by decide) ?_
  refine zt_cast (pc' := 634) hX dX12_init_633 rfl (by omega) zc_187 zs_69 (by decide) ⟨by decide, by decide⟩ (by decide +kernel) ?_
  rw [show Int.toNat 1 = 1 from rfl]
  generalize hs937 : zset s928 187 1 97 = s936
  have q938 := zCs_el hs937 q930 (by omega) (by omega) zc_187 zs_69 (show 0 ≤ (97 : Int) ∧ (97 : Int) ≤ 65535 from ⟨by decide, by decide⟩)
  have t939 : s936 200 2 = -1 := by rw [← hs937]; exact (zset_k (by decide)).trans t931
  have t940 : s936 200 3 = -1 := by rw [← hs937]; exact (zset_k (by decide)).trans t932
  have t941 : s936 164 50 = 0 := by rw [← hs937]; exact (zset_k (by decide)).trans t933
  have t942 : s936 164 54 = 0 := by rw [← hs937]; exact (zset_k (by decide)).trans t934
  have t943 : s936 164 1 = 0 := by rw [← hs937]; exact (zset_k (by decide)).trans t935
  refine zt_dup (pc' := 635) hX dX12_init_634 rfl rfl ?_
  refine zt_iconst (pc' := 636) hX dX12_init_635 rfl ?_
  refine zt_bipush (pc' := 638) hX dX12_init_636 rfl (by decide) (by decide) ?_
  refine zt_cast (pc' := 639) hX dX12_init_638 rfl (by omega) zc_187 zs_69 (by decide) ⟨by decide, by decide⟩ (by decide +kernel) ?_
  rw [show Int.toNat 2 = 2 from rfl]
  generalize hs945 : zset s936 187 2 114 = s944
  have q946 := zCs_el hs945 q938 (by omega) (by omega) zc_187 zs_69 (show 0 ≤ (114 : Int) ∧ (114 : Int) ≤ 65535 from ⟨by decide, by decide⟩)
  have t947 : s944 200 2 = -1 := by rw [← hs945]; exact (zset_k (by decide)).trans t939
  have t948 : s944 200 3 = -1 := by rw [← hs945]; exact (zset_k (by decide)).trans t940
  have t949 : s944 164 50 = 0 := by rw [← hs945]; exact (zset_k (by decide)).trans t941
  have t950 : s944 164 54 = 0 := by rw [← hs945]; exact (zset_k (by decide)).trans t942
  have t951 : s944 164 1 = 0 := by rw [← hs945]; exact (zset_k (by decide)).trans t943
  refine zt_putF (pc' := 642) (x := ((187 : Nat) : Int)) hX dX12_init_639 rfl hN.1 zf_X12_81 (by omega) zc_164 zs_46 (fun q hq => by cases hq; exact ⟨rfl, rfl⟩) (zrf_of rfl) rfl rfl ?_
  generalize hs953 : zset s944 164 31 ((187 : Nat) : Int) = s952
  have q954 := zCs_ref hs953 q946 zc_164 zs_46 rfl (by omega) (by decide)
  have t955 : s952 200 2 = -1 := by rw [← hs953]; exact (zset_k (by decide)).trans t947
  have t956 : s952 200 3 = -1 := by rw [← hs953]; exact (zset_k (by decide)).trans t948
  have t957 : s952 164 50 = 0 := by rw [← hs953]; exact (zset_j (by decide)).trans t949
  have t958 : s952 164 54 = 0 := by rw [← hs953]; exact (zset_j (by decide)).trans t950
  have t959 : s952 164 1 = 0 := by rw [← hs953]; exact (zset_j (by decide)).trans t951
  refine zt_aload_n (pc' := 643) hX dX12_init_642 rfl rfl ?_
  refine zt_iconst (pc' := 644) hX dX12_init_643 rfl ?_
  refine zt_newa (pc' := 646) (t := 3) (N := 2) hX dX12_init_644 rfl zw_10_19 rfl (by decide) (by decide) zc_188 zs_70 (by decide) (by decide) (zCs_nx q954) ⟨by rw [hN.2.1]; exact Nat.le_of_ble_eq_true rfl, by rw [hN.2.2]; exact Nat.le_of_ble_eq_true rfl⟩ ?_
  have q960 := zCs_arr q954 zc_188 zs_70 (by decide)
  refine zt_dup (pc' := 647) hX dX12_init_646 rfl rfl ?_
  refine zt_iconst (pc' := 648) hX dX12_init_647 rfl ?_
  refine zt_bipush (pc' := 650) hX dX12_init_648 rfl (by decide) (by decide) ?_
  refine zt_cast (pc' := 651) hX dX12_init_650 rfl (by omega) zc_188 zs_70 (by decide) ⟨by decide, by decide⟩ (by decide +kernel) ?_
  rw [show Int.toNat 0 = 0 from rfl]
  generalize hs962 : zset s952 188 0 111 = s961
  have q963 := zCs_el hs962 q960 (by omega) (by omega) zc_188 zs_70 (show 0 ≤ (111 : Int) ∧ (111 : Int) ≤ 65535 from ⟨by decide, by decide⟩)
  have t964 : s961 200 2 = -1 := by rw [← hs962]; exact (zset_k (by decide)).trans t955
  have t965 : s961 200 3 = -1 := by rw [← hs962]; exact (zset_k (by decide)).trans t956
  have t966 : s961 164 50 = 0 := by rw [← hs962]; exact (zset_k (by decide)).trans t957
  have t967 : s961 164 54 = 0 := by rw [← hs962]; exact (zset_k (by decide)).trans t958
  have t968 : s961 164 1 = 0 := by rw [← hs962]; exact (zset_k (by decide)).trans t959
  refine zt_dup (pc' := 652) hX dX12_init_651 rfl rfl ?_
  refine zt_iconst (pc' := 653) hX dX12_init_652 rfl ?_
  refine zt_bipush (pc' := 655) hX dX12_init_653 rfl (by decide) (by decide) ?_
  refine zt_cast (pc' := 656) hX dX12_init_655 rfl (by omega) zc_188 zs_70 (by decide) ⟨by decide, by decide⟩ (by decide +kernel) ?_
  rw [show Int.toNat 1 = 1 from rfl]
  generalize hs970 : zset s961 188 1 114 = s969
  have q971 := zCs_el hs970 q963 (by omega) (by omega) zc_188 zs_70 (show 0 ≤ (114 : Int) ∧ (114 : Int) ≤ 65535 from ⟨by decide, by decide⟩)
  have t972 : s969 200 2 = -1 := by rw [← hs970]; exact (zset_k (by decide)).trans t964
  have t973 : s969 200 3 = -1 := by rw [← hs970]; exact (zset_k (by decide)).trans t965
  have t974 : s969 164 50 = 0 := by rw [← hs970]; exact (zset_k (by decide)).trans t966
  have t975 : s969 164 54 = 0 := by rw [← hs970]; exact (zset_k (by decide)).trans t967
  have t976 : s969 164 1 = 0 := by rw [← hs970]; exact (zset_k (by decide)).trans t968
  refine zt_putF (pc' := 659) (x := ((188 : Nat) : Int)) hX dX12_init_656 rfl hN.1 zf_X12_84 (by omega) zc_164 zs_46 (fun q hq => by cases hq; exact ⟨rfl, rfl⟩) (zrf_of rfl) rfl rfl ?_
  generalize hs978 : zset s969 164 32 ((188 : Nat) : Int) = s977
  have q979 := zCs_ref hs978 q971 zc_164 zs_46 rfl (by omega) (by decide)
  have t980 : s977 200 2 = -1 := by rw [← hs978]; exact (zset_k (by decide)).trans t972
  have t981 : s977 200 3 = -1 := by rw [← hs978]; exact (zset_k (by decide)).trans t973
  have t982 : s977 164 50 = 0 := by rw [← hs978]; exact (zset_j (by decide)).trans t974
  have t983 : s977 164 54 = 0 := by rw [← hs978]; exact (zset_j (by decide)).trans t975
  have t984 : s977 164 1 = 0 := by rw [← hs978]; exact (zset_j (by decide)).trans t976
  refine zt_aload_n (pc' := 660) hX dX12_init_659 rfl rfl ?_
  refine zt_iconst (pc' := 661) hX dX12_init_660 rfl ?_
  refine zt_newa (pc' := 663) (t := 3) (N := 3) hX dX12_init_661 rfl zw_10_19 rfl (by decide) (by decide) zc_189 zs_71 (by decide) (by decide) (zCs_nx q979) ⟨by rw [hN.2.1]; exact Nat.le_of_ble_eq_true rfl, by rw [hN.2.2]; exact Nat.le_of_ble_eq_true rfl⟩ ?_
  have q985 := zCs_arr q979 zc_189 zs_71 (by decide)
  refine zt_dup (pc' := 664) hX dX12_init_663 rfl rfl ?_
  refine zt_iconst (pc' := 665) hX dX12_init_664 rfl ?_
  refine zt_bipush (pc' := 667) hX dX12_init_665 rfl (by decide) (by decide) ?_
  refine zt_cast (pc' := 668) hX dX12_init_667 rfl (by omega) zc_189 zs_71 (by decide) ⟨by decide, by decide⟩ (by decide +kernel) ?_
  rw [show Int.toNat 0 = 0 from rfl]
  generalize hs987 : zset s977 189 0 97 = s986
  have q988 := zCs_el hs987 q985 (by omega) (by omega) zc_189 zs_71 (show 0 ≤ (97 : Int) ∧ (97 : Int) ≤ 65535 from ⟨by decide, by decide⟩)
  have t989 : s986 200 2 = -1 := by rw [← hs987]; exact (zset_k (by decide)).trans t980
  have t990 : s986 200 3 = -1 := by rw [← hs987]; exact (zset_k (by decide)).trans t981
  have t991 : s986 164 50 = 0 := by rw [← hs987]; exact (zset_k (by decide)).trans t982
  have t992 : s986 164 54 = 0 := by rw [← hs987]; exact (zset_k (by decide)).trans t983
  have t993 : s986 164 1 = 0 := by rw [← hs987]; exact (zset_k (by decide)).trans t984
  refine zt_dup (pc' := 669) hX dX12_init_668 rfl rfl ?_
  refine zt_iconst (pc' := 670) hX dX12_init_669 rfl ?_
  refine zt_bipush (pc' := 672) hX dX12_init_670 rfl (by decide) (by decide) ?_
  refine zt_cast (pc' := 673) hX dX12_init_672 rfl (by omega) zc_189 zs_71 (by decide) ⟨by decide, by decide⟩ (by decide +kernel) ?_
  rw [show Int.toNat 1 = 1 from rfl]
  generalize hs995 : zset s986 189 1 110 = s994
  have q996 := zCs_el hs995 q988 (by omega) (by omega) zc_189 zs_71 (show 0 ≤ (110 : Int) ∧ (110 : Int) ≤ 65535 from ⟨by decide, by decide⟩)
  have t997 : s994 200 2 = -1 := by rw [← hs995]; exact (zset_k (by decide)).trans t989
  have t998 : s994 200 3 = -1 := by rw [← hs995]; exact (zset_k (by decide)).trans t990
  have t999 : s994 164 50 = 0 := by rw [← hs995]; exact (zset_k (by decide)).trans t991
  have t1000 : s994 164 54 = 0 := by rw [← hs995]; exact (zset_k (by decide)).trans t992
  have t1001 : s994 164 1 = 0 := by rw [← hs995]; exact (zset_k (by decide)).trans t993
  refine zt_dup (pc' := 674) hX dX12_init_673 rfl rfl ?_
  refine zt_iconst (pc' := 675) hX dX12_init_674 rfl ?_
  refine zt_bipush (pc' := 677) hX dX12_init_675 rfl (by decide) (by decide) ?_
  refine zt_cast (pc' := 678) hX dX12_init_677 rfl (by omega) zc_189 zs_71 (by decide) ⟨by decide, by decide⟩ (by decide +kernel) ?_
  rw [show Int.toNat 2 = 2 from rfl]
  generalize hs1003 : zset s994 189 2 100 = s1002
  have q1004 := zCs_el hs1003 q996 (by omega) (by omega) zc_189 zs_71 (show 0 ≤ (100 : Int) ∧ (100 : Int) ≤ 65535 from ⟨by decide, by decide⟩)
  have t1005 : s1002 200 2 = -1 := by rw [← hs1003]; exact (zset_k (by decide)).trans t997
  have t1006 : s1002 200 3 = -1 := by rw [← hs1003]; exact (zset_k (by decide)).trans t998
  have t1007 : s1002 164 50 = 0 := by rw [← hs1003]; exact (zset_k (by decide)).trans t999
  have t1008 : s1002 164 54 = 0 := by rw [← hs1003]; exact (zset_k (by decide)).trans t1000
  have t1009 : s1002 164 1 = 0 := by rw [← hs1003]; exact (zset_k (by decide)).trans t1001
  refine zt_putF (pc' := 681) (x := ((189 : Nat) : Int)) hX dX12_init_678 rfl hN.1 zf_X12_87 (by omega) zc_164 zs_46 (fun q hq => by cases hq; exact ⟨rfl, rfl⟩) (zrf_of rfl) rfl rfl ?_
  generalize hs1011 : zset s1002 164 33 ((189 : Nat) : Int) = s1010
  have q1012 := zCs_ref hs1011 q1004 zc_164 zs_46 rfl (by omega) (by decide)
  have t1013 : s1010 200 2 = -1 := by rw [← hs1011]; exact (zset_k (by decide)).trans t1005
  have t1014 : s1010 200 3 = -1 := by rw [← hs1011]; exact (zset_k (by decide)).trans t1006
  have t1015 : s1010 164 50 = 0 := by rw [← hs1011]; exact (zset_j (by decide)).trans t1007
  have t1016 : s1010 164 54 = 0 := by rw [← hs1011]; exact (zset_j (by decide)).trans t1008
  have t1017 : s1010 164 1 = 0 := by rw [← hs1011]; exact (zset_j (by decide)).trans t1009
  refine zt_aload_n (pc' := 682) hX dX12_init_681 rfl rfl ?_
  refine zt_iconst (pc' := 683) hX dX12_init_682 rfl ?_
  refine zt_newa (pc' := 685) (t := 3) (N := 3) hX dX12_init_683 rfl zw_10_19 rfl (by decide) (by decide) zc_190 zs_72 (by decide) (by decide) (zCs_nx q1012) ⟨by rw [hN.2.1]; exact Nat.le_of_ble_eq_true rfl, by rw [hN.2.2]; exact Nat.le_of_ble_eq_true rfl⟩ ?_
  have q1018 := zCs_arr q1012 zc_190 zs_72 (by decide)
  refine zt_dup (pc' := 686) hX dX12_init_685 rfl rfl ?_
  refine zt_iconst (pc' := 687) hX dX12_init_686 rfl ?_
  refine zt_bipush (pc' := 689) hX dX12_init_687 rfl (by decide) (by decide) ?_
  refine zt_cast (pc' := 690) hX dX12_init_689 rfl (by omega) zc_190 zs_72 (by decide) ⟨by decide, by decide⟩ (by decide +kernel) ?_
  rw [show Int.toNat 0 = 0 from rfl]
  generalize hs1020 : zset s1010 190 0 110 = s1019
  have q1021 := zCs_el hs1020 q1018 (by omega) (by omega) zc_190 zs_72 (show 0 ≤ (110 : Int) ∧ (110 : Int) ≤ 65535 from ⟨by decide, by decide⟩)
  have t1022 : s1019 200 2 = -1 := by rw [← hs1020]; exact (zset_k (by decide)).trans t1013
  have t1023 : s1019 200 3 = -1 := by rw [← hs1020]; exact (zset_k (by decide)).trans t1014
  have t1024 : s1019 164 50 = 0 := by rw [← hs1020]; exact (zset_k (by decide)).trans t1015
  have t1025 : s1019 164 54 = 0 := by rw [← hs1020]; exact (zset_k (by decide)).trans t1016
  have t1026 : s1019 164 1 = 0 := by rw [← hs1020]; exact (zset_k (by decide)).trans t1017
  refine zt_dup (pc' := 691) hX dX12_init_690 rfl rfl ?_
  refine zt_iconst (pc' := 692) hX dX12_init_691 rfl ?_
  refine zt_bipush (pc' := 694) hX dX12_init_692 rfl (by decide) (by decide) ?_
  refine zt_cast (pc' := 695) hX dX12_init_694 rfl (by omega) zc_190 zs_72 (by decide) ⟨by decide, by decide⟩ (by decide +kernel) ?_
  rw [show Int.toNat 1 = 1 from rfl]
  generalize hs1028 : zset s1019 190 1 111 = s1027
  have q1029 := zCs_el hs1028 q1021 (by omega) (by omega) zc_190 zs_72 (show 0 ≤ (111 : Int) ∧ (111 : Int) ≤ 65535 from ⟨by decide, by decide⟩)
  have t1030 : s1027 200 2 = -1 := by rw [← hs1028]; exact (zset_k (by decide)).trans t1022
  have t1031 : s1027 200 3 = -1 := by rw [← hs1028]; exact (zset_k (by decide)).trans t1023
  have t1032 : s1027 164 50 = 0 := by rw [← hs1028]; exact (zset_k (by decide)).trans t1024
  have t1033 : s1027 164 54 = 0 := by rw [← hs1028]; exact (zset_k (by decide)).trans t1025
  have t1034 : s1027 164 1 = 0 := by rw [← hs1028]; exact (zset_k (by decide)).trans t1026
  refine zt_dup (pc' := 696) hX dX12_init_695 rfl rfl ?_
  refine zt_iconst (pc' := 697) hX dX12_init_696 rfl ?_
  refine zt_bipush (pc' := 699) hX dX12_init_697 rfl (by decide) (by decide) ?_
  refine zt_cast (pc' := 700) hX dX12_init_699 rfl (by omega) zc_190 zs_72 (by decide) ⟨by decide, by decide⟩ (by decide +kernel) ?_
  rw [show Int.toNat 2 = 2 from rfl]
  generalize hs1036 : zset s1027 190 2 116 = s1035
  have q1037 := zCs_el hs1036 q1029 (by omega) (by omega) zc_190 zs_72 (show 0 ≤ (116 : Int) ∧ (116 : Int) ≤ 65535 from ⟨by decide, by decide⟩)
  have t1038 : s1035 200 2 = -1 := by rw [← hs1036]; exact (zset_k (by decide)).trans t1030
  have t1039 : s1035 200 3 = -1 := by rw [← hs1036]; exact (zset_k (by decide)).trans t1031
  have t1040 : s1035 164 50 = 0 := by rw [← hs1036]; exact (zset_k (by decide)).trans t1032
  have t1041 : s1035 164 54 = 0 := by rw [← hs1036]; exact (zset_k (by decide)).trans t1033
  have t1042 : s1035 164 1 = 0 := by rw [← hs1036]; exact (zset_k (by decide)).trans t1034
  refine zt_putF (pc' := 703) (x := ((190 : Nat) : Int)) hX dX12_init_700 rfl hN.1 zf_X12_90 (by omega) zc_164 zs_46 (fun q hq => by cases hq; exact ⟨rfl, rfl⟩) (zrf_of rfl) rfl rfl ?_
  generalize hs1044 : zset s1035 164 34 ((190 : Nat) : Int) = s1043
  have q1045 := zCs_ref hs1044 q1037 zc_164 zs_46 rfl (by omega) (by decide)
  have t1046 : s1043 200 2 = -1 := by rw [← hs1044]; exact (zset_k (by decide)).trans t1038
  have t1047 : s1043 200 3 = -1 := by rw [← hs1044]; exact (zset_k (by decide)).trans t1039
  have t1048 : s1043 164 50 = 0 := by rw [← hs1044]; exact (zset_j (by decide)).trans t1040
  have t1049 : s1043 164 54 = 0 := by rw [← hs1044]; exact (zset_j (by decide)).trans t1041
  have t1050 : s1043 164 1 = 0 := by rw [← hs1044]; exact (zset_j (by decide)).trans t1042
  refine zt_aload_n (pc' := 704) hX dX12_init_703 rfl rfl ?_
  refine zt_iconst (pc' := 705) hX dX12_init_704 rfl ?_
  refine zt_newa (pc' := 707) (t := 3) (N := 3) hX dX12_init_705 rfl zw_10_19 rfl (by decide) (by decide) zc_191 zs_73 (by decide) (by decide) (zCs_nx q1045) ⟨by rw [hN.2.1]; exact Nat.le_of_ble_eq_true rfl, by rw [hN.2.2]; exact Nat.le_of_ble_eq_true rfl⟩ ?_
  have q1051 := zCs_arr q1045 zc_191 zs_73 (by decide)
  refine zt_dup (pc' := 708) hX dX12_init_707 rfl rfl ?_
  refine zt_iconst (pc' := 709) hX dX12_init_708 rfl ?_
  refine zt_bipush (pc' := 711) hX dX12_init_709 rfl (by decide) (by decide) ?_
  refine zt_cast (pc' := 712) hX dX12_init_711 rfl (by omega) zc_191 zs_73 (by decide) ⟨by decide, by decide⟩ (by decide +kernel) ?_
  rw [show Int.toNat 0 = 0 from rfl]
  generalize hs1053 : zset s1043 191 0 97 = s1052
  have q1054 := zCs_el hs1053 q1051 (by omega) (by omega) zc_191 zs_73 (show 0 ≤ (97 : Int) ∧ (97 : Int) ≤ 65535 from ⟨by decide, by decide⟩)
  have t1055 : s1052 200 2 = -1 := by rw [← hs1053]; exact (zset_k (by decide)).trans t1046
  have t1056 : s1052 200 3 = -1 := by rw [← hs1053]; exact (zset_k (by decide)).trans t1047
  have t1057 : s1052 164 50 = 0 := by rw [← hs1053]; exact (zset_k (by decide)).trans t1048
  have t1058 : s1052 164 54 = 0 := by rw [← hs1053]; exact (zset_k (by decide)).trans t1049
  have t1059 : s1052 164 1 = 0 := by rw [← hs1053]; exact (zset_k (by decide)).trans t1050
  refine zt_dup (pc' := 713) hX dX12_init_712 rfl rfl ?_
  refine zt_iconst (pc' := 714) hX dX12_init_713 rfl ?_
  refine zt_bipush (pc' := 716) hX dX12_init_714 rfl (by decide) (by decide) ?_
  refine zt_cast (pc' := 717) hX dX12_init_716 rfl (by omega) zc_191 zs_73 (by decide) ⟨by decide, by decide⟩ (by decide +kernel) ?_
  rw [show Int.toNat 1 = 1 from rfl]
  generalize hs1061 : zset s1052 191 1 108 = s1060
  have q1062 := zCs_el hs1061 q1054 (by omega) (by omega) zc_191 zs_73 (show 0 ≤ (108 : Int) ∧ (108 : Int) ≤ 65535 from ⟨by decide, by decide⟩)
  have t1063 : s1060 200 2 = -1 := by rw [← hs1061]; exact (zset_k (by decide)).trans t1055
  have t1064 : s1060 200 3 = -1 := by rw [← hs1061]; exact (zset_k (by decide)).trans t1056
  have t1065 : s1060 164 50 = 0 := by rw [← hs1061]; exact (zset_k (by decide)).trans t1057
  have t1066 : s1060 164 54 = 0 := by rw [← hs1061]; exact (zset_k (by decide)).trans t1058
  have t1067 : s1060 164 1 = 0 := by rw [← hs1061]; exact (zset_k (by decide)).trans t1059
  refine zt_dup (pc' := 718) hX dX12_init_717 rfl rfl ?_
  refine zt_iconst (pc' := 719) hX dX12_init_718 rfl ?_
  refine zt_bipush (pc' := 721) hX dX12_init_719 rfl (by decide) (by decide) ?_
  refine zt_cast (pc' := 722) hX dX12_init_721 rfl (by omega) zc_191 zs_73 (by decide) ⟨by decide, by decide⟩ (by decide +kernel) ?_
  rw [show Int.toNat 2 = 2 from rfl]
  generalize hs1069 : zset s1060 191 2 108 = s1068
  have q1070 := zCs_el hs1069 q1062 (by omega) (by omega) zc_191 zs_73 (show 0 ≤ (108 : Int) ∧ (108 : Int) ≤ 65535 from ⟨by decide, by decide⟩)
  have t1071 : s1068 200 2 = -1 := by rw [← hs1069]; exact (zset_k (by decide)).trans t1063
  have t1072 : s1068 200 3 = -1 := by rw [← hs1069]; exact (zset_k (by decide)).trans t1064
  have t1073 : s1068 164 50 = 0 := by rw [← hs1069]; exact (zset_k (by decide)).trans t1065
  have t1074 : s1068 164 54 = 0 := by rw [← hs1069]; exact (zset_k (by decide)).trans t1066
  have t1075 : s1068 164 1 = 0 := by rw [← hs1069]; exact (zset_k (by decide)).trans t1067
  refine zt_putF (pc' := 725) (x := ((191 : Nat) : Int)) hX dX12_init_722 rfl hN.1 zf_X12_93 (by omega) zc_164 zs_46 (fun q hq => by cases hq; exact ⟨rfl, rfl⟩) (zrf_of rfl) rfl rfl ?_
  generalize hs1077 : zset s1068 164 35 ((191 : Nat) : Int) = s1076
  have q1078 := zCs_ref hs1077 q1070 zc_164 zs_46 rfl (by omega) (by decide)
  have t1079 : s1076 200 2 = -1 := by rw [← hs1077]; exact (zset_k (by decide)).trans t1071
  have t1080 : s1076 200 3 = -1 := by rw [← hs1077]; exact (zset_k (by decide)).trans t1072
  have t1081 : s1076 164 50 = 0 := by rw [← hs1077]; exact (zset_j (by decide)).trans t1073
  have t1082 : s1076 164 54 = 0 := by rw [← hs1077]; exact (zset_j (by decide)).trans t1074
  have t1083 : s1076 164 1 = 0 := by rw [← hs1077]; exact (zset_j (by decide)).trans t1075
  refine zt_aload_n (pc' := 726) hX dX12_init_725 rfl rfl ?_
  refine zt_iconst (pc' := 727) hX dX12_init_726 rfl ?_
  refine zt_newa (pc' := 729) (t := 3) (N := 3) hX dX12_init_727 rfl zw_10_19 rfl (by decide) (by decide) zc_192 zs_74 (by decide) (by decide) (zCs_nx q1078) ⟨by rw [hN.2.1]; exact Nat.le_of_ble_eq_true rfl, by rw [hN.2.2]; exact Nat.le_of_ble_eq_true rfl⟩ ?_
  have q1084 := zCs_arr q1078 zc_192 zs_74 (by decide)
  refine zt_dup (pc' := 730) hX dX12_init_729 rfl rfl ?_
  refine zt_iconst (pc' := 731) hX dX12_init_730 rfl ?_
  refine zt_bipush (pc' := 733) hX dX12_init_731 rfl (by decide) (by decide) ?_
  refine zt_cast (pc' := 734) hX dX12_init_733 rfl (by omega) zc_192 zs_74 (by decide) ⟨by decide, by decide⟩ (by decide +kernel) ?_
  rw [show Int.toNat 0 = 0 from rfl]
  generalize hs1086 : zset s1076 192 0 109 = s1085
  have q1087 := zCs_el hs1086 q1084 (by omega) (by omega) zc_192 zs_74 (show 0 ≤ (109 : Int) ∧ (109 : Int) ≤ 65535 from ⟨by decide, by decide⟩)
  have t1088 : s1085 200 2 = -1 := by rw [← hs1086]; exact (zset_k (by decide)).trans t1079
  have t1089 : s1085 200 3 = -1 := by rw [← hs1086]; exact (zset_k (by decide)).trans t1080
  have t1090 : s1085 164 50 = 0 := by rw [← hs1086]; exact (zset_k (by decide)).trans t1081
  have t1091 : s1085 164 54 = 0 := by rw [← hs1086]; exact (zset_k (by decide)).trans t1082
  have t1092 : s1085 164 1 = 0 := by rw [← hs1086]; exact (zset_k (by decide)).trans t1083
  refine zt_dup (pc' := 735) hX dX12_init_734 rfl rfl ?_
  refine zt_iconst (pc' := 736) hX dX12_init_735 rfl ?_
  refine zt_bipush (pc' := 738) hX dX12_init_736 rfl (by decide) (by decide) ?_
  refine zt_cast (pc' := 739) hX dX12_init_738 rfl (by omega) zc_192 zs_74 (by decide) ⟨by decide, by decide⟩ (by decide +kernel) ?_
  rw [show Int.toNat 1 = 1 from rfl]
  generalize hs1094 : zset s1085 192 1 105 = s1093
  have q1095 := zCs_el hs1094 q1087 (by omega) (by omega) zc_192 zs_74 (show 0 ≤ (105 : Int) ∧ (105 : Int) ≤ 65535 from ⟨by decide, by decide⟩)
  have t1096 : s1093 200 2 = -1 := by rw [← hs1094]; exact (zset_k (by decide)).trans t1088
  have t1097 : s1093 200 3 = -1 := by rw [← hs1094]; exact (zset_k (by decide)).trans t1089
  have t1098 : s1093 164 50 = 0 := by rw [← hs1094]; exact (zset_k (by decide)).trans t1090
  have t1099 : s1093 164 54 = 0 := by rw [← hs1094]; exact (zset_k (by decide)).trans t1091
  have t1100 : s1093 164 1 = 0 := by rw [← hs1094]; exact (zset_k (by decide)).trans t1092
  refine zt_dup (pc' := 740) hX dX12_init_739 rfl rfl ?_
  refine zt_iconst (pc' := 741) hX dX12_init_740 rfl ?_
  refine zt_bipush (pc' := 743) hX dX12_init_741 rfl (by decide) (by decide) ?_
  refine zt_cast (pc' := 744) hX dX12_init_743 rfl (by omega) zc_192 zs_74 (by decide) ⟨by decide, by decide⟩ (by decide +kernel) ?_
  rw [show Int.toNat 2 = 2 from rfl]
  generalize hs1102 : zset s1093 192 2 110 = s1101
  have q1103 := zCs_el hs1102 q1095 (by omega) (by omega) zc_192 zs_74 (show 0 ≤ (110 : Int) ∧ (110 : Int) ≤ 65535 from ⟨by decide, by decide⟩)
  have t1104 : s1101 200 2 = -1 := by rw [← hs1102]; exact (zset_k (by decide)).trans t1096
  have t1105 : s1101 200 3 = -1 := by rw [← hs1102]; exact (zset_k (by decide)).trans t1097
  have t1106 : s1101 164 50 = 0 := by rw [← hs1102]; exact (zset_k (by decide)).trans t1098
  have t1107 : s1101 164 54 = 0 := by rw [← hs1102]; exact (zset_k (by decide)).trans t1099
  have t1108 : s1101 164 1 = 0 := by rw [← hs1102]; exact (zset_k (by decide)).trans t1100
  refine zt_putF (pc' := 747) (x := ((192 : Nat) : Int)) hX dX12_init_744 rfl hN.1 zf_X12_96 (by omega) zc_164 zs_46 (fun q hq => by cases hq; exact ⟨rfl, rfl⟩) (zrf_of rfl) rfl rfl ?_
  generalize hs1110 : zset s1101 164 36 ((192 : Nat) : Int) = s1109
  have q1111 := zCs_ref hs1110 q1103 zc_164 zs_46 rfl (by omega) (by decide)
  have t1112 : s1109 200 2 = -1 := by rw [← hs1110]; exact (zset_k (by decide)).trans t1104
  have t1113 : s1109 200 3 = -1 := by rw [← hs1110]; exact (zset_k (by decide)).trans t1105
  have t1114 : s1109 164 50 = 0 := by rw [← hs1110]; exact (zset_j (by decide)).trans t1106
  have t1115 : s1109 164 54 = 0 := by rw [← hs1110]; exact (zset_j (by decide)).trans t1107
  have t1116 : s1109 164 1 = 0 := by rw [← hs1110]; exact (zset_j (by decide)).trans t1108
  refine zt_aload_n (pc' := 748) hX dX12_init_747 rfl rfl ?_
  refine zt_iconst (pc' := 749) hX dX12_init_748 rfl ?_
  refine zt_newa (pc' := 751) (t := 3) (N := 3) hX dX12_init_749 rfl zw_10_19 rfl (by decide) (by decide) zc_193 zs_75 (by decide) (by decide) (zCs_nx q1111) ⟨by rw [hN.2.1]; exact Nat.le_of_ble_eq_true rfl, by rw [hN.2.2]; exact Nat.le_of_ble_eq_true rfl⟩ ?_
  have q1117 := zCs_arr q1111 zc_193 zs_75 (by decide)
  refine zt_dup (pc' := 752) hX dX12_init_751 rfl rfl ?_
  refine zt_iconst (pc' := 753) hX dX12_init_752 rfl ?_
  refine zt_bipush (pc' := 755) hX dX12_init_753 rfl (by decide) (by decide) ?_
  refine zt_cast (pc' := 756) hX dX12_init_755 rfl (by omega) zc_193 zs_75 (by decide) ⟨by decide, by decide⟩ (by decide +kernel) ?_
  rw [show Int.toNat 0 = 0 from rfl]
  generalize hs1119 : zset s1109 193 0 109 = s1118
  have q1120 := zCs_el hs1119 q1117 (by omega) (by omega) zc_193 zs_75 (show 0 ≤ (109 : Int) ∧ (109 : Int) ≤ 65535 from ⟨by decide, by decide⟩)
  have t1121 : s1118 200 2 = -1 := by rw [← hs1119]; exact (zset_k (by decide)).trans t1112
  have t1122 : s1118 200 3 = -1 := by rw [← hs1119]; exact (zset_k (by decide)).trans t1113
  have t1123 : s1118 164 50 = 0 := by rw [← hs1119]; exact (zset_k (by decide)).trans t1114
  have t1124 : s1118 164 54 = 0 := by rw [← hs1119]; exact (zset_k (by decide)).trans t1115
  have t1125 : s1118 164 1 = 0 := by rw [← hs1119]; exact (zset_k (by decide)).trans t1116
  refine zt_dup (pc' := 757) hX dX12_init_756 rfl rfl ?_
  refine zt_iconst (pc' := 758) hX dX12_init_757 rfl ?_
  refine zt_bipush (pc' := 760) hX dX12_init_758 rfl (by decide) (by decide) ?_
  refine zt_cast (pc' := 761) hX dX12_init_760 rfl (by omega) zc_193 zs_75 (by decide) ⟨by decide, by decide⟩ (by decide +kernel) ?_
  rw [show Int.toNat 1 = 1 from rfl]
  generalize hs1127 : zset s1118 193 1 97 = s1126
  have q1128 := zCs_el hs1127 q1120 (by omega) (by omega) zc_193 zs_75 (show 0 ≤ (97 : Int) ∧ (97 : Int) ≤ 65535 from ⟨by decide, by decide⟩)
  have t1129 : s1126 200 2 = -1 := by rw [← hs1127]; exact (zset_k (by decide)).trans t1121
  have t1130 : s1126 200 3 = -1 := by rw [← hs1127]; exact (zset_k (by decide)).trans t1122
  have t1131 : s1126 164 50 = 0 := by rw [← hs1127]; exact (zset_k (by decide)).trans t1123
  have t1132 : s1126 164 54 = 0 := by rw [← hs1127]; exact (zset_k (by decide)).trans t1124
  have t1133 : s1126 164 1 = 0 := by rw [← hs1127]; exact (zset_k (by decide)).trans t1125
  refine zt_dup (pc' := 762) hX dX12_init_761 rfl rfl ?_
  refine zt_iconst (pc' := 763) hX dX12_init_762 rfl ?_
  refine zt_bipush (pc' := 765) hX dX12_init_763 rfl (by decide) (by decide) ?_
  refine zt_cast (pc' := 766) hX dX12_init_765 rfl (by omega) zc_193 zs_75 (by decide) ⟨by decide, by decide⟩ (by decide +kernel) ?_
  rw [show Int.toNat 2 = 2 from rfl]
  generalize hs1135 : zset s1126 193 2 120 = s1134
  have q1136 := zCs_el hs1135 q1128 (by omega) (by omega) zc_193 zs_75 (show 0 ≤ (120 : Int) ∧ (120 : Int) ≤ 65535 from ⟨by decide, by decide⟩)
  have t1137 : s1134 200 2 = -1 := by rw [← hs1135]; exact (zset_k (by decide)).trans t1129
  have t1138 : s1134 200 3 = -1 := by rw [← hs1135]; exact (zset_k (by decide)).trans t1130
  have t1139 : s1134 164 50 = 0 := by rw [← hs1135]; exact (zset_k (by decide)).trans t1131
  have t1140 : s1134 164 54 = 0 := by rw [← hs1135]; exact (zset_k (by decide)).trans t1132
  have t1141 : s1134 164 1 = 0 := by rw [← hs1135]; exact (zset_k (by decide)).trans t1133
  refine zt_putF (pc' := 769) (x := ((193 : Nat) : Int)) hX dX12_init_766 rfl hN.1 zf_X12_99 (by omega) zc_164 zs_46 (fun q hq => by cases hq; exact ⟨rfl, rfl⟩) (zrf_of rfl) rfl rfl ?_
  generalize hs1143 : zset s1134 164 37 ((193 : Nat) : Int) = s1142
  have q1144 := zCs_ref hs1143 q1136 zc_164 zs_46 rfl (by omega) (by decide)
  have t1145 : s1142 200 2 = -1 := by rw [← hs1143]; exact (zset_k (by decide)).trans t1137
  have t1146 : s1142 200 3 = -1 := by rw [← hs1143]; exact (zset_k (by decide)).trans t1138
  have t1147 : s1142 164 50 = 0 := by rw [← hs1143]; exact (zset_j (by decide)).trans t1139
  have t1148 : s1142 164 54 = 0 := by rw [← hs1143]; exact (zset_j (by decide)).trans t1140
  have t1149 : s1142 164 1 = 0 := by rw [← hs1143]; exact (zset_j (by decide)).trans t1141
  refine zt_aload_n (pc' := 770) hX dX12_init_769 rfl rfl ?_
  refine zt_bipush (pc' := 772) hX dX12_init_770 rfl (by decide) (by decide) ?_
  refine zt_newa (pc' := 774) (t := 0) (N := 6) hX dX12_init_772 rfl zw_3_7 rfl (by decide) (by decide) zc_194 zs_76 (by decide) (by decide) (zCs_nx q1144) ⟨by rw [hN.2.1]; exact Nat.le_of_ble_eq_true rfl, by rw [hN.2.2]; exact Nat.le_of_ble_eq_true rfl⟩ ?_
  have q1150 := zCs_arr q1144 zc_194 zs_76 (by decide)
  refine zt_putF (pc' := 777) (x := ((194 : Nat) : Int)) hX dX12_init_774 rfl hN.1 zf_X12_102 (by omega) zc_164 zs_46 (fun q hq => by cases hq; exact ⟨rfl, rfl⟩) (zrf_of rfl) rfl rfl ?_
  generalize hs1152 : zset s1142 164 39 ((194 : Nat) : Int) = s1151
  have q1153 := zCs_ref hs1152 q1150 zc_164 zs_46 rfl (by omega) (by decide)
  have t1154 : s1151 200 2 = -1 := by rw [← hs1152]; exact (zset_k (by decide)).trans t1145
  have t1155 : s1151 200 3 = -1 := by rw [← hs1152]; exact (zset_k (by decide)).trans t1146
  have t1156 : s1151 164 50 = 0 := by rw [← hs1152]; exact (zset_j (by decide)).trans t1147
  have t1157 : s1151 164 54 = 0 := by rw [← hs1152]; exact (zset_j (by decide)).trans t1148
  have t1158 : s1151 164 1 = 0 := by rw [← hs1152]; exact (zset_j (by decide)).trans t1149
  refine zt_aload_n (pc' := 778) hX dX12_init_777 rfl rfl ?_
  refine zt_iconst (pc' := 779) hX dX12_init_778 rfl ?_
  refine zt_newa (pc' := 781) (t := 0) (N := 2) hX dX12_init_779 rfl zw_3_7 rfl (by decide) (by decide) zc_195 zs_77 (by decide) (by decide) (zCs_nx q1153) ⟨by rw [hN.2.1]; exact Nat.le_of_ble_eq_true rfl, by rw [hN.2.2]; exact Nat.le_of_ble_eq_true rfl⟩ ?_
  have q1159 := zCs_arr q1153 zc_195 zs_77 (by decide)
  refine zt_putF (pc' := 784) (x := ((195 : Nat) : Int)) hX dX12_init_781 rfl hN.1 zf_X12_105 (by omega) zc_164 zs_46 (fun q hq => by cases hq; exact ⟨rfl, rfl⟩) (zrf_of rfl) rfl rfl ?_
  generalize hs1161 : zset s1151 164 40 ((195 : Nat) : Int) = s1160
  have q1162 := zCs_ref hs1161 q1159 zc_164 zs_46 rfl (by omega) (by decide)
  have t1163 : s1160 200 2 = -1 := by rw [← hs1161]; exact (zset_k (by decide)).trans t1154
  have t1164 : s1160 200 3 = -1 := by rw [← hs1161]; exact (zset_k (by decide)).trans t1155
  have t1165 : s1160 164 50 = 0 := by rw [← hs1161]; exact (zset_j (by decide)).trans t1156
  have t1166 : s1160 164 54 = 0 := by rw [← hs1161]; exact (zset_j (by decide)).trans t1157
  have t1167 : s1160 164 1 = 0 := by rw [← hs1161]; exact (zset_j (by decide)).trans t1158
  refine zt_aload_n (pc' := 785) hX dX12_init_784 rfl rfl ?_
  refine zt_bipush (pc' := 787) hX dX12_init_785 rfl (by decide) (by decide) ?_
  refine zt_newa (pc' := 789) (t := 4) (N := 20) hX dX12_init_787 rfl zw_12_1 rfl (by decide) (by decide) zc_196 zs_78 (by decide) (by decide) (zCs_nx q1162) ⟨by rw [hN.2.1]; exact Nat.le_of_ble_eq_true rfl, by rw [hN.2.2]; exact Nat.le_of_ble_eq_true rfl⟩ ?_
  have q1168 := zCs_arr q1162 zc_196 zs_78 (by decide)
  refine zt_putF (pc' := 792) (x := ((196 : Nat) : Int)) hX dX12_init_789 rfl hN.1 zf_X12_108 (by omega) zc_164 zs_46 (fun q hq => by cases hq; exact ⟨rfl, rfl⟩) (zrf_of rfl) rfl rfl ?_
  generalize hs1170 : zset s1160 164 41 ((196 : Nat) : Int) = s1169
  have q1171 := zCs_ref hs1170 q1168 zc_164 zs_46 rfl (by omega) (by decide)
  have t1172 : s1169 200 2 = -1 := by rw [← hs1170]; exact (zset_k (by decide)).trans t1163
  have t1173 : s1169 200 3 = -1 := by rw [← hs1170]; exact (zset_k (by decide)).trans t1164
  have t1174 : s1169 164 50 = 0 := by rw [← hs1170]; exact (zset_j (by decide)).trans t1165
  have t1175 : s1169 164 54 = 0 := by rw [← hs1170]; exact (zset_j (by decide)).trans t1166
  have t1176 : s1169 164 1 = 0 := by rw [← hs1170]; exact (zset_j (by decide)).trans t1167
  refine zt_aload_n (pc' := 793) hX dX12_init_792 rfl rfl ?_
  refine zt_bipush (pc' := 795) hX dX12_init_793 rfl (by decide) (by decide) ?_
  refine zt_newa (pc' := 797) (t := 0) (N := 72) hX dX12_init_795 rfl zw_3_7 rfl (by decide) (by decide) zc_197 zs_79 (by decide) (by decide) (zCs_nx q1171) ⟨by rw [hN.2.1]; exact Nat.le_of_ble_eq_true rfl, by rw [hN.2.2]; exact Nat.le_of_ble_eq_true rfl⟩ ?_
  have q1177 := zCs_arr q1171 zc_197 zs_79 (by decide)
  refine zt_putF (pc' := 800) (x := ((197 : Nat) : Int)) hX dX12_init_797 rfl hN.1 zf_X12_112 (by omega) zc_164 zs_46 (fun q hq => by cases hq; exact ⟨rfl, rfl⟩) (zrf_of rfl) rfl rfl ?_
  generalize hs1179 : zset s1169 164 42 ((197 : Nat) : Int) = s1178
  have q1180 := zCs_ref hs1179 q1177 zc_164 zs_46 rfl (by omega) (by decide)
  have t1181 : s1178 200 2 = -1 := by rw [← hs1179]; exact (zset_k (by decide)).trans t1172
  have t1182 : s1178 200 3 = -1 := by rw [← hs1179]; exact (zset_k (by decide)).trans t1173
  have t1183 : s1178 164 50 = 0 := by rw [← hs1179]; exact (zset_j (by decide)).trans t1174
  have t1184 : s1178 164 54 = 0 := by rw [← hs1179]; exact (zset_j (by decide)).trans t1175
  have t1185 : s1178 164 1 = 0 := by rw [← hs1179]; exact (zset_j (by decide)).trans t1176
  refine zt_aload_n (pc' := 801) hX dX12_init_800 rfl rfl ?_
  refine zt_bipush (pc' := 803) hX dX12_init_801 rfl (by decide) (by decide) ?_
  refine zt_newa (pc' := 805) (t := 0) (N := 40) hX dX12_init_803 rfl zw_3_7 rfl (by decide) (by decide) zc_198 zs_80 (by decide) (by decide) (zCs_nx q1180) ⟨by rw [hN.2.1]; exact Nat.le_of_ble_eq_true rfl, by rw [hN.2.2]; exact Nat.le_of_ble_eq_true rfl⟩ ?_
  have q1186 := zCs_arr q1180 zc_198 zs_80 (by decide)
  refine zt_putF (pc' := 808) (x := ((198 : Nat) : Int)) hX dX12_init_805 rfl hN.1 zf_X12_115 (by omega) zc_164 zs_46 (fun q hq => by cases hq; exact ⟨rfl, rfl⟩) (zrf_of rfl) rfl rfl ?_
  generalize hs1188 : zset s1178 164 43 ((198 : Nat) : Int) = s1187
  have q1189 := zCs_ref hs1188 q1186 zc_164 zs_46 rfl (by omega) (by decide)
  have t1190 : s1187 200 2 = -1 := by rw [← hs1188]; exact (zset_k (by decide)).trans t1181
  have t1191 : s1187 200 3 = -1 := by rw [← hs1188]; exact (zset_k (by decide)).trans t1182
  have t1192 : s1187 164 50 = 0 := by rw [← hs1188]; exact (zset_j (by decide)).trans t1183
  have t1193 : s1187 164 54 = 0 := by rw [← hs1188]; exact (zset_j (by decide)).trans t1184
  have t1194 : s1187 164 1 = 0 := by rw [← hs1188]; exact (zset_j (by decide)).trans t1185
  refine zt_aload_n (pc' := 809) hX dX12_init_808 rfl rfl ?_
  refine zt_bipush (pc' := 811) hX dX12_init_809 rfl (by decide) (by decide) ?_
  refine zt_newa (pc' := 813) (t := 0) (N := 6) hX dX12_init_811 rfl zw_3_7 rfl (by decide) (by decide) zc_199 zs_81 (by decide) (by decide) (zCs_nx q1189) ⟨by rw [hN.2.1]; exact Nat.le_of_ble_eq_true rfl, by rw [hN.2.2]; exact Nat.le_of_ble_eq_true rfl⟩ ?_
  have q1195 := zCs_arr q1189 zc_199 zs_81 (by decide)
  refine zt_dup (pc' := 814) hX dX12_init_813 rfl rfl ?_
  refine zt_iconst (pc' := 815) hX dX12_init_814 rfl ?_
  refine zt_iconst (pc' := 816) hX dX12_init_815 rfl ?_
  refine zt_iast (pc' := 817) hX dX12_init_816 rfl (by omega) zc_199 zs_81 (by decide) ⟨by decide, by decide⟩ ?_
  rw [show Int.toNat 0 = 0 from rfl]
  generalize hs1197 : zset s1187 199 0 3 = s1196
  have q1198 := zCs_el hs1197 q1195 (by omega) (by omega) zc_199 zs_81 (by show zP81 _ _ _; unfold zP81; omega)
  have t1199 : s1196 200 2 = -1 := by rw [← hs1197]; exact (zset_k (by decide)).trans t1190
  have t1200 : s1196 200 3 = -1 := by rw [← hs1197]; exact (zset_k (by decide)).trans t1191
  have t1201 : s1196 164 50 = 0 := by rw [← hs1197]; exact (zset_k (by decide)).trans t1192
  have t1202 : s1196 164 54 = 0 := by rw [← hs1197]; exact (zset_k (by decide)).trans t1193
  have t1203 : s1196 164 1 = 0 := by rw [← hs1197]; exact (zset_k (by decide)).trans t1194
  refine zt_dup (pc' := 818) hX dX12_init_817 rfl rfl ?_
  refine zt_iconst (pc' := 819) hX dX12_init_818 rfl ?_
  refine zt_bipush (pc' := 821) hX dX12_init_819 rfl (by decide) (by decide) ?_
  refine zt_iast (pc' := 822) hX dX12_init_821 rfl (by omega) zc_199 zs_81 (by decide) ⟨by decide, by decide⟩ ?_
  rw [show Int.toNat 1 = 1 from rfl]
  generalize hs1205 : zset s1196 199 1 20 = s1204
  have q1206 := zCs_el hs1205 q1198 (by omega) (by omega) zc_199 zs_81 (by show zP81 _ _ _; unfold zP81; omega)
  have t1207 : s1204 200 2 = -1 := by rw [← hs1205]; exact (zset_k (by decide)).trans t1199
  have t1208 : s1204 200 3 = -1 := by rw [← hs1205]; exact (zset_k (by decide)).trans t1200
  have t1209 : s1204 164 50 = 0 := by rw [← hs1205]; exact (zset_k (by decide)).trans t1201
  have t1210 : s1204 164 54 = 0 := by rw [← hs1205]; exact (zset_k (by decide)).trans t1202
  have t1211 : s1204 164 1 = 0 := by rw [← hs1205]; exact (zset_k (by decide)).trans t1203
  refine zt_dup (pc' := 823) hX dX12_init_822 rfl rfl ?_
  refine zt_iconst (pc' := 824) hX dX12_init_823 rfl ?_
  refine zt_iconst (pc' := 825) hX dX12_init_824 rfl ?_
  refine zt_iast (pc' := 826) hX dX12_init_825 rfl (by omega) zc_199 zs_81 (by decide) ⟨by decide, by decide⟩ ?_
  rw [show Int.toNat 2 = 2 from rfl]
  generalize hs1213 : zset s1204 199 2 0 = s1212
  have q1214 := zCs_el hs1213 q1206 (by omega) (by omega) zc_199 zs_81 (by show zP81 _ _ _; unfold zP81; omega)
  have t1215 : s1212 200 2 = -1 := by rw [← hs1213]; exact (zset_k (by decide)).trans t1207
  have t1216 : s1212 200 3 = -1 := by rw [← hs1213]; exact (zset_k (by decide)).trans t1208
  have t1217 : s1212 164 50 = 0 := by rw [← hs1213]; exact (zset_k (by decide)).trans t1209
  have t1218 : s1212 164 54 = 0 := by rw [← hs1213]; exact (zset_k (by decide)).trans t1210
  have t1219 : s1212 164 1 = 0 := by rw [← hs1213]; exact (zset_k (by decide)).trans t1211
  refine zt_dup (pc' := 827) hX dX12_init_826 rfl rfl ?_
  refine zt_iconst (pc' := 828) hX dX12_init_827 rfl ?_
  refine zt_iconst (pc' := 829) hX dX12_init_828 rfl ?_
  refine zt_iast (pc' := 830) hX dX12_init_829 rfl (by omega) zc_199 zs_81 (by decide) ⟨by decide, by decide⟩ ?_
  rw [show Int.toNat 3 = 3 from rfl]
  generalize hs1221 : zset s1212 199 3 3 = s1220
  have q1222 := zCs_el hs1221 q1214 (by omega) (by omega) zc_199 zs_81 (by show zP81 _ _ _; unfold zP81; omega)
  have t1223 : s1220 200 2 = -1 := by rw [← hs1221]; exact (zset_k (by decide)).trans t1215
  have t1224 : s1220 200 3 = -1 := by rw [← hs1221]; exact (zset_k (by decide)).trans t1216
  have t1225 : s1220 164 50 = 0 := by rw [← hs1221]; exact (zset_k (by decide)).trans t1217
  have t1226 : s1220 164 54 = 0 := by rw [← hs1221]; exact (zset_k (by decide)).trans t1218
  have t1227 : s1220 164 1 = 0 := by rw [← hs1221]; exact (zset_k (by decide)).trans t1219
  refine zt_dup (pc' := 831) hX dX12_init_830 rfl rfl ?_
  refine zt_iconst (pc' := 832) hX dX12_init_831 rfl ?_
  refine zt_bipush (pc' := 834) hX dX12_init_832 rfl (by decide) (by decide) ?_
  refine zt_iast (pc' := 835) hX dX12_init_834 rfl (by omega) zc_199 zs_81 (by decide) ⟨by decide, by decide⟩ ?_
  rw [show Int.toNat 4 = 4 from rfl]
  generalize hs1229 : zset s1220 199 4 20 = s1228
  have q1230 := zCs_el hs1229 q1222 (by omega) (by omega) zc_199 zs_81 (by show zP81 _ _ _; unfold zP81; omega)
  have t1231 : s1228 200 2 = -1 := by rw [← hs1229]; exact (zset_k (by decide)).trans t1223
  have t1232 : s1228 200 3 = -1 := by rw [← hs1229]; exact (zset_k (by decide)).trans t1224
  have t1233 : s1228 164 50 = 0 := by rw [← hs1229]; exact (zset_k (by decide)).trans t1225
  have t1234 : s1228 164 54 = 0 := by rw [← hs1229]; exact (zset_k (by decide)).trans t1226
  have t1235 : s1228 164 1 = 0 := by rw [← hs1229]; exact (zset_k (by decide)).trans t1227
  refine zt_dup (pc' := 836) hX dX12_init_835 rfl rfl ?_
  refine zt_iconst (pc' := 837) hX dX12_init_836 rfl ?_
  refine zt_iconst (pc' := 838) hX dX12_init_837 rfl ?_
  refine zt_iast (pc' := 839) hX dX12_init_838 rfl (by omega) zc_199 zs_81 (by decide) ⟨by decide, by decide⟩ ?_
  rw [show Int.toNat 5 = 5 from rfl]
  generalize hs1237 : zset s1228 199 5 0 = s1236
  have q1238 := zCs_el hs1237 q1230 (by omega) (by omega) zc_199 zs_81 (by show zP81 _ _ _; unfold zP81; omega)
  have t1239 : s1236 200 2 = -1 := by rw [← hs1237]; exact (zset_k (by decide)).trans t1231
  have t1240 : s1236 200 3 = -1 := by rw [← hs1237]; exact (zset_k (by decide)).trans t1232
  have t1241 : s1236 164 50 = 0 := by rw [← hs1237]; exact (zset_k (by decide)).trans t1233
  have t1242 : s1236 164 54 = 0 := by rw [← hs1237]; exact (zset_k (by decide)).trans t1234
  have t1243 : s1236 164 1 = 0 := by rw [← hs1237]; exact (zset_k (by decide)).trans t1235
  refine zt_putF (pc' := 842) (x := ((199 : Nat) : Int)) hX dX12_init_839 rfl hN.1 zf_X12_118 (by omega) zc_164 zs_46 (fun q hq => by cases hq; exact ⟨rfl, rfl⟩) (zrf_of rfl) rfl rfl ?_
  generalize hs1245 : zset s1236 164 44 ((199 : Nat) : Int) = s1244
  have q1246 := zCs_ref hs1245 q1238 zc_164 zs_46 rfl (by omega) (by decide)
  have t1247 : s1244 200 2 = -1 := by rw [← hs1245]; exact (zset_k (by decide)).trans t1239
  have t1248 : s1244 200 3 = -1 := by rw [← hs1245]; exact (zset_k (by decide)).trans t1240
  have t1249 : s1244 164 50 = 0 := by rw [← hs1245]; exact (zset_j (by decide)).trans t1241
  have t1250 : s1244 164 54 = 0 := by rw [← hs1245]; exact (zset_j (by decide)).trans t1242
  have t1251 : s1244 164 1 = 0 := by rw [← hs1245]; exact (zset_j (by decide)).trans t1243
  refine zt_aload_n (pc' := 843) hX dX12_init_842 rfl rfl ?_
  refine zt_iconst (pc' := 844) hX dX12_init_843 rfl ?_
  refine zt_newa (pc' := 846) (t := 0) (N := 4) hX dX12_init_844 rfl zw_3_7 rfl (by decide) (by decide) zc_200 zs_82 (by decide) (by decide) (zCs_nx q1246) ⟨by rw [hN.2.1]; exact Nat.le_of_ble_eq_true rfl, by rw [hN.2.2]; exact Nat.le_of_ble_eq_true rfl⟩ ?_
  have q1252 := zCs_arr q1246 zc_200 zs_82 (by decide)
  refine zt_dup (pc' := 847) hX dX12_init_846 rfl rfl ?_
  refine zt_iconst (pc' := 848) hX dX12_init_847 rfl ?_
  refine zt_iconst (pc' := 849) hX dX12_init_848 rfl ?_
  refine zt_iast (pc' := 850) hX dX12_init_849 rfl (by omega) zc_200 zs_82 (by decide) ⟨by decide, by decide⟩ ?_
  rw [show Int.toNat 0 = 0 from rfl]
  generalize hs1254 : zset s1244 200 0 (-1) = s1253
  have q1255 := zCs_el hs1254 q1252 (by omega) (by omega) zc_200 zs_82 (show -1 ≤ ((-1) : Int) ∧ ((-1) : Int) ≤ 1600 from ⟨by decide, by decide⟩)
  have t1256 : s1253 200 2 = -1 := by rw [← hs1254]; exact (zset_j (by decide)).trans t1247
  have t1257 : s1253 200 3 = -1 := by rw [← hs1254]; exact (zset_j (by decide)).trans t1248
  have t1258 : s1253 164 50 = 0 := by rw [← hs1254]; exact (zset_k (by decide)).trans t1249
  have t1259 : s1253 164 54 = 0 := by rw [← hs1254]; exact (zset_k (by decide)).trans t1250
  have t1260 : s1253 164 1 = 0 := by rw [← hs1254]; exact (zset_k (by decide)).trans t1251
  refine zt_dup (pc' := 851) hX dX12_init_850 rfl rfl ?_
  refine zt_iconst (pc' := 852) hX dX12_init_851 rfl ?_
  refine zt_iconst (pc' := 853) hX dX12_init_852 rfl ?_
  refine zt_iast (pc' := 854) hX dX12_init_853 rfl (by omega) zc_200 zs_82 (by decide) ⟨by decide, by decide⟩ ?_
  rw [show Int.toNat 1 = 1 from rfl]
  generalize hs1262 : zset s1253 200 1 (-1) = s1261
  have q1263 := zCs_el hs1262 q1255 (by omega) (by omega) zc_200 zs_82 (show -1 ≤ ((-1) : Int) ∧ ((-1) : Int) ≤ 1600 from ⟨by decide, by decide⟩)
  have t1264 : s1261 200 2 = -1 := by rw [← hs1262]; exact (zset_j (by decide)).trans t1256
  have t1265 : s1261 200 3 = -1 := by rw [← hs1262]; exact (zset_j (by decide)).trans t1257
  have t1266 : s1261 164 50 = 0 := by rw [← hs1262]; exact (zset_k (by decide)).trans t1258
  have t1267 : s1261 164 54 = 0 := by rw [← hs1262]; exact (zset_k (by decide)).trans t1259
  have t1268 : s1261 164 1 = 0 := by rw [← hs1262]; exact (zset_k (by decide)).trans t1260
  refine zt_dup (pc' := 855) hX dX12_init_854 rfl rfl ?_
  refine zt_iconst (pc' := 856) hX dX12_init_855 rfl ?_
  refine zt_iconst (pc' := 857) hX dX12_init_856 rfl ?_
  refine zt_iast (pc' := 858) hX dX12_init_857 rfl (by omega) zc_200 zs_82 (by decide) ⟨by decide, by decide⟩ ?_
  rw [show Int.toNat 2 = 2 from rfl]
  generalize hs1270 : zset s1261 200 2 (-1) = s1269
  have q1271 := zCs_el hs1270 q1263 (by omega) (by omega) zc_200 zs_82 (show -1 ≤ ((-1) : Int) ∧ ((-1) : Int) ≤ 1600 from ⟨by decide, by decide⟩)
  have t1272 : s1269 200 2 = -1 := by rw [← hs1270]; exact zset_s
  have t1273 : s1269 200 3 = -1 := by rw [← hs1270]; exact (zset_j (by decide)).trans t1265
  have t1274 : s1269 164 50 = 0 := by rw [← hs1270]; exact (zset_k (by decide)).trans t1266
  have t1275 : s1269 164 54 = 0 := by rw [← hs1270]; exact (zset_k (by decide)).trans t1267
  have t1276 : s1269 164 1 = 0 := by rw [← hs1270]; exact (zset_k (by decide)).trans t1268
  refine zt_dup (pc' := 859) hX dX12_init_858 rfl rfl ?_
  refine zt_iconst (pc' := 860) hX dX12_init_859 rfl ?_
  refine zt_iconst (pc' := 861) hX dX12_init_860 rfl ?_
  refine zt_iast (pc' := 862) hX dX12_init_861 rfl (by omega) zc_200 zs_82 (by decide) ⟨by decide, by decide⟩ ?_
  rw [show Int.toNat 3 = 3 from rfl]
  generalize hs1278 : zset s1269 200 3 (-1) = s1277
  have q1279 := zCs_el hs1278 q1271 (by omega) (by omega) zc_200 zs_82 (show -1 ≤ ((-1) : Int) ∧ ((-1) : Int) ≤ 1600 from ⟨by decide, by decide⟩)
  have t1280 : s1277 200 2 = -1 := by rw [← hs1278]; exact (zset_j (by decide)).trans t1272
  have t1281 : s1277 200 3 = -1 := by rw [← hs1278]; exact zset_s
  have t1282 : s1277 164 50 = 0 := by rw [← hs1278]; exact (zset_k (by decide)).trans t1274
  have t1283 : s1277 164 54 = 0 := by rw [← hs1278]; exact (zset_k (by decide)).trans t1275
  have t1284 : s1277 164 1 = 0 := by rw [← hs1278]; exact (zset_k (by decide)).trans t1276
  refine zt_putF (pc' := 865) (x := ((200 : Nat) : Int)) hX dX12_init_862 rfl hN.1 zf_X12_121 (by omega) zc_164 zs_46 (fun q hq => by cases hq; exact ⟨rfl, rfl⟩) (zrf_of rfl) rfl rfl ?_
  generalize hs1286 : zset s1277 164 45 ((200 : Nat) : Int) = s1285
  have q1287 := zCs_ref hs1286 q1279 zc_164 zs_46 rfl (by omega) (by decide)
  have t1288 : s1285 200 2 = -1 := by rw [← hs1286]; exact (zset_k (by decide)).trans t1280
  have t1289 : s1285 200 3 = -1 := by rw [← hs1286]; exact (zset_k (by decide)).trans t1281
  have t1290 : s1285 164 50 = 0 := by rw [← hs1286]; exact (zset_j (by decide)).trans t1282
  have t1291 : s1285 164 54 = 0 := by rw [← hs1286]; exact (zset_j (by decide)).trans t1283
  have t1292 : s1285 164 1 = 0 := by rw [← hs1286]; exact (zset_j (by decide)).trans t1284
  refine zt_aload_n (pc' := 866) hX dX12_init_865 rfl rfl ?_
  refine zt_iconst (pc' := 867) hX dX12_init_866 rfl ?_
  refine zt_newa (pc' := 869) (t := 0) (N := 4) hX dX12_init_867 rfl zw_3_7 rfl (by decide) (by decide) zc_201 zs_83 (by decide) (by decide) (zCs_nx q1287) ⟨by rw [hN.2.1]; exact Nat.le_of_ble_eq_true rfl, by rw [hN.2.2]; exact Nat.le_of_ble_eq_true rfl⟩ ?_
  have q1293 := zCs_arr q1287 zc_201 zs_83 (by decide)
  refine zt_putF (pc' := 872) (x := ((201 : Nat) : Int)) hX dX12_init_869 rfl hN.1 zf_X12_124 (by omega) zc_164 zs_46 (fun q hq => by cases hq; exact ⟨rfl, rfl⟩) (zrf_of rfl) rfl rfl ?_
  generalize hs1295 : zset s1285 164 46 ((201 : Nat) : Int) = s1294
  have q1296 := zCs_ref hs1295 q1293 zc_164 zs_46 rfl (by omega) (by decide)
  have t1297 : s1294 200 2 = -1 := by rw [← hs1295]; exact (zset_k (by decide)).trans t1288
  have t1298 : s1294 200 3 = -1 := by rw [← hs1295]; exact (zset_k (by decide)).trans t1289
  have t1299 : s1294 164 50 = 0 := by rw [← hs1295]; exact (zset_j (by decide)).trans t1290
  have t1300 : s1294 164 54 = 0 := by rw [← hs1295]; exact (zset_j (by decide)).trans t1291
  have t1301 : s1294 164 1 = 0 := by rw [← hs1295]; exact (zset_j (by decide)).trans t1292
  refine zt_aload_n (pc' := 873) hX dX12_init_872 rfl rfl ?_
  refine zt_sipush (pc' := 876) hX dX12_init_873 rfl (by decide) (by decide) ?_
  refine zt_newa (pc' := 878) (t := 0) (N := 3200) hX dX12_init_876 rfl zw_3_7 rfl (by decide) (by decide) zc_202 zs_84 (by decide) (by decide) (zCs_nx q1296) ⟨by rw [hN.2.1]; exact Nat.le_of_ble_eq_true rfl, by rw [hN.2.2]; exact Nat.le_of_ble_eq_true rfl⟩ ?_
  have q1302 := zCs_arr q1296 zc_202 zs_84 (by decide)
  refine zt_putF (pc' := 881) (x := ((202 : Nat) : Int)) hX dX12_init_878 rfl hN.1 zf_X12_127 (by omega) zc_164 zs_46 (fun q hq => by cases hq; exact ⟨rfl, rfl⟩) (zrf_of rfl) rfl rfl ?_
  generalize hs1304 : zset s1294 164 47 ((202 : Nat) : Int) = s1303
  have q1305 := zCs_ref hs1304 q1302 zc_164 zs_46 rfl (by omega) (by decide)
  have t1306 : s1303 200 2 = -1 := by rw [← hs1304]; exact (zset_k (by decide)).trans t1297
  have t1307 : s1303 200 3 = -1 := by rw [← hs1304]; exact (zset_k (by decide)).trans t1298
  have t1308 : s1303 164 50 = 0 := by rw [← hs1304]; exact (zset_j (by decide)).trans t1299
  have t1309 : s1303 164 54 = 0 := by rw [← hs1304]; exact (zset_j (by decide)).trans t1300
  have t1310 : s1303 164 1 = 0 := by rw [← hs1304]; exact (zset_j (by decide)).trans t1301
  refine zt_aload_n (pc' := 882) hX dX12_init_881 rfl rfl ?_
  refine zt_sipush (pc' := 885) hX dX12_init_882 rfl (by decide) (by decide) ?_
  refine zt_newa (pc' := 887) (t := 0) (N := 188) hX dX12_init_885 rfl zw_3_7 rfl (by decide) (by decide) zc_203 zs_85 (by decide) (by decide) (zCs_nx q1305) ⟨by rw [hN.2.1]; exact Nat.le_of_ble_eq_true rfl, by rw [hN.2.2]; exact Nat.le_of_ble_eq_true rfl⟩ ?_
  have q1311 := zCs_arr q1305 zc_203 zs_85 (by decide)
  refine zt_putF (pc' := 890) (x := ((203 : Nat) : Int)) hX dX12_init_887 rfl hN.1 zf_X12_130 (by omega) zc_164 zs_46 (fun q hq => by cases hq; exact ⟨rfl, rfl⟩) (zrf_of rfl) rfl rfl ?_
  generalize hs1313 : zset s1303 164 52 ((203 : Nat) : Int) = s1312
  have q1314 := zCs_ref hs1313 q1311 zc_164 zs_46 rfl (by omega) (by decide)
  have t1315 : s1312 200 2 = -1 := by rw [← hs1313]; exact (zset_k (by decide)).trans t1306
  have t1316 : s1312 200 3 = -1 := by rw [← hs1313]; exact (zset_k (by decide)).trans t1307
  have t1317 : s1312 164 50 = 0 := by rw [← hs1313]; exact (zset_j (by decide)).trans t1308
  have t1318 : s1312 164 54 = 0 := by rw [← hs1313]; exact (zset_j (by decide)).trans t1309
  have t1319 : s1312 164 1 = 0 := by rw [← hs1313]; exact (zset_j (by decide)).trans t1310
  refine zt_aload_n (pc' := 891) hX dX12_init_890 rfl rfl ?_
  refine zt_bipush (pc' := 893) hX dX12_init_891 rfl (by decide) (by decide) ?_
  refine zt_newa (pc' := 895) (t := 0) (N := 67) hX dX12_init_893 rfl zw_3_7 rfl (by decide) (by decide) zc_204 zs_86 (by decide) (by decide) (zCs_nx q1314) ⟨by rw [hN.2.1]; exact Nat.le_of_ble_eq_true rfl, by rw [hN.2.2]; exact Nat.le_of_ble_eq_true rfl⟩ ?_
  have q1320 := zCs_arr q1314 zc_204 zs_86 (by decide)
  refine zt_putF (pc' := 898) (x := ((204 : Nat) : Int)) hX dX12_init_895 rfl hN.1 zf_X12_133 (by omega) zc_164 zs_46 (fun q hq => by cases hq; exact ⟨rfl, rfl⟩) (zrf_of rfl) rfl rfl ?_
  generalize hs1322 : zset s1312 164 53 ((204 : Nat) : Int) = s1321
  have q1323 := zCs_ref hs1322 q1320 zc_164 zs_46 rfl (by omega) (by decide)
  have t1324 : s1321 200 2 = -1 := by rw [← hs1322]; exact (zset_k (by decide)).trans t1315
  have t1325 : s1321 200 3 = -1 := by rw [← hs1322]; exact (zset_k (by decide)).trans t1316
  have t1326 : s1321 164 50 = 0 := by rw [← hs1322]; exact (zset_j (by decide)).trans t1317
  have t1327 : s1321 164 54 = 0 := by rw [← hs1322]; exact (zset_j (by decide)).trans t1318
  have t1328 : s1321 164 1 = 0 := by rw [← hs1322]; exact (zset_j (by decide)).trans t1319
  refine zt_aload_n (pc' := 899) hX dX12_init_898 rfl rfl ?_
  refine zt_bipush (pc' := 901) hX dX12_init_899 rfl (by decide) (by decide) ?_
  refine zt_newa (pc' := 903) (t := 0) (N := 36) hX dX12_init_901 rfl zw_3_7 rfl (by decide) (by decide) zc_205 zs_87 (by decide) (by decide) (zCs_nx q1323) ⟨by rw [hN.2.1]; exact Nat.le_of_ble_eq_true rfl, by rw [hN.2.2]; exact Nat.le_of_ble_eq_true rfl⟩ ?_
  have q1329 := zCs_arr q1323 zc_205 zs_87 (by decide)
  refine zt_putF (pc' := 906) (x := ((205 : Nat) : Int)) hX dX12_init_903 rfl hN.1 zf_X12_136 (by omega) zc_164 zs_46 (fun q hq => by cases hq; exact ⟨rfl, rfl⟩) (zrf_of rfl) rfl rfl ?_
  generalize hs1331 : zset s1321 164 57 ((205 : Nat) : Int) = s1330
  have q1332 := zCs_ref hs1331 q1329 zc_164 zs_46 rfl (by omega) (by decide)
  have t1333 : s1330 200 2 = -1 := by rw [← hs1331]; exact (zset_k (by decide)).trans t1324
  have t1334 : s1330 200 3 = -1 := by rw [← hs1331]; exact (zset_k (by decide)).trans t1325
  have t1335 : s1330 164 50 = 0 := by rw [← hs1331]; exact (zset_j (by decide)).trans t1326
  have t1336 : s1330 164 54 = 0 := by rw [← hs1331]; exact (zset_j (by decide)).trans t1327
  have t1337 : s1330 164 1 = 0 := by rw [← hs1331]; exact (zset_j (by decide)).trans t1328
  refine zt_aload_n (pc' := 907) hX dX12_init_906 rfl rfl ?_
  refine zt_iconst (pc' := 908) hX dX12_init_907 rfl ?_
  refine zt_put (pc' := 911) (x := (-1)) hX dX12_init_908 rfl zf_X12_139 (by omega) zc_164 zs_46 (fun q hq => by cases hq; rfl) rfl rfl rfl ?_
  generalize hs1339 : zset s1330 164 58 (-1) = s1338
  have q1340 := zCs_int hs1339 q1332 zc_164 zs_46 (show -1 ≤ ((-1) : Int) ∧ ((-1) : Int) ≤ 35 from ⟨by decide, by decide⟩) (by decide)
  have t1341 : s1338 200 2 = -1 := by rw [← hs1339]; exact (zset_k (by decide)).trans t1333
  have t1342 : s1338 200 3 = -1 := by rw [← hs1339]; exact (zset_k (by decide)).trans t1334
  have t1343 : s1338 164 50 = 0 := by rw [← hs1339]; exact (zset_j (by decide)).trans t1335
  have t1344 : s1338 164 54 = 0 := by rw [← hs1339]; exact (zset_j (by decide)).trans t1336
  have t1345 : s1338 164 1 = 0 := by rw [← hs1339]; exact (zset_j (by decide)).trans t1337
  refine zt_aload_n (pc' := 912) hX dX12_init_911 rfl rfl ?_
  refine zt_bipush (pc' := 914) hX dX12_init_912 rfl (by decide) (by decide) ?_
  refine zt_newa (pc' := 916) (t := 2) (N := 36) hX dX12_init_914 rfl zw_8_23 rfl (by decide) (by decide) zc_206 zs_88 (by decide) (by decide) (zCs_nx q1340) ⟨by rw [hN.2.1]; exact Nat.le_of_ble_eq_true rfl, by rw [hN.2.2]; exact Nat.le_of_ble_eq_true rfl⟩ ?_
  have q1346 := zCs_arr q1340 zc_206 zs_88 (by decide)
  refine zt_putF (pc' := 919) (x := ((206 : Nat) : Int)) hX dX12_init_916 rfl hN.1 zf_X12_142 (by omega) zc_164 zs_46 (fun q hq => by cases hq; exact ⟨rfl, rfl⟩) (zrf_of rfl) rfl rfl ?_
  generalize hs1348 : zset s1338 164 61 ((206 : Nat) : Int) = s1347
  have q1349 := zCs_ref hs1348 q1346 zc_164 zs_46 rfl (by omega) (by decide)
  have t1350 : s1347 200 2 = -1 := by rw [← hs1348]; exact (zset_k (by decide)).trans t1341
  have t1351 : s1347 200 3 = -1 := by rw [← hs1348]; exact (zset_k (by decide)).trans t1342
  have t1352 : s1347 164 50 = 0 := by rw [← hs1348]; exact (zset_j (by decide)).trans t1343
  have t1353 : s1347 164 54 = 0 := by rw [← hs1348]; exact (zset_j (by decide)).trans t1344
  have t1354 : s1347 164 1 = 0 := by rw [← hs1348]; exact (zset_j (by decide)).trans t1345
  refine zt_aload_n (pc' := 920) hX dX12_init_919 rfl rfl ?_
  refine zt_bipush (pc' := 922) hX dX12_init_920 rfl (by decide) (by decide) ?_
  refine zt_newa (pc' := 924) (t := 0) (N := 24) hX dX12_init_922 rfl zw_3_7 rfl (by decide) (by decide) zc_207 zs_89 (by decide) (by decide) (zCs_nx q1349) ⟨by rw [hN.2.1]; exact Nat.le_of_ble_eq_true rfl, by rw [hN.2.2]; exact Nat.le_of_ble_eq_true rfl⟩ ?_
  have q1355 := zCs_arr q1349 zc_207 zs_89 (by decide)
  refine zt_putF (pc' := 927) (x := ((207 : Nat) : Int)) hX dX12_init_924 rfl hN.1 zf_X12_146 (by omega) zc_164 zs_46 (fun q hq => by cases hq; exact ⟨rfl, rfl⟩) (zrf_of rfl) rfl rfl ?_
  generalize hs1357 : zset s1347 164 65 ((207 : Nat) : Int) = s1356
  have q1358 := zCs_ref hs1357 q1355 zc_164 zs_46 rfl (by omega) (by decide)
  have t1359 : s1356 200 2 = -1 := by rw [← hs1357]; exact (zset_k (by decide)).trans t1350
  have t1360 : s1356 200 3 = -1 := by rw [← hs1357]; exact (zset_k (by decide)).trans t1351
  have t1361 : s1356 164 50 = 0 := by rw [← hs1357]; exact (zset_j (by decide)).trans t1352
  have t1362 : s1356 164 54 = 0 := by rw [← hs1357]; exact (zset_j (by decide)).trans t1353
  have t1363 : s1356 164 1 = 0 := by rw [← hs1357]; exact (zset_j (by decide)).trans t1354
  refine zt_aload_n (pc' := 928) hX dX12_init_927 rfl rfl ?_
  refine zt_sipush (pc' := 931) hX dX12_init_928 rfl (by decide) (by decide) ?_
  refine zt_newa (pc' := 933) (t := 0) (N := 1024) hX dX12_init_931 rfl zw_3_7 rfl (by decide) (by decide) zc_208 zs_90 (by decide) (by decide) (zCs_nx q1358) ⟨by rw [hN.2.1]; exact Nat.le_of_ble_eq_true rfl, by rw [hN.2.2]; exact Nat.le_of_ble_eq_true rfl⟩ ?_
  have q1364 := zCs_arr q1358 zc_208 zs_90 (by decide)
  refine zt_putF (pc' := 936) (x := ((208 : Nat) : Int)) hX dX12_init_933 rfl hN.1 zf_X12_149 (by omega) zc_164 zs_46 (fun q hq => by cases hq; exact ⟨rfl, rfl⟩) (zrf_of rfl) rfl rfl ?_
  generalize hs1366 : zset s1356 164 66 ((208 : Nat) : Int) = s1365
  have q1367 := zCs_ref hs1366 q1364 zc_164 zs_46 rfl (by omega) (by decide)
  have t1368 : s1365 200 2 = -1 := by rw [← hs1366]; exact (zset_k (by decide)).trans t1359
  have t1369 : s1365 200 3 = -1 := by rw [← hs1366]; exact (zset_k (by decide)).trans t1360
  have t1370 : s1365 164 50 = 0 := by rw [← hs1366]; exact (zset_j (by decide)).trans t1361
  have t1371 : s1365 164 54 = 0 := by rw [← hs1366]; exact (zset_j (by decide)).trans t1362
  have t1372 : s1365 164 1 = 0 := by rw [← hs1366]; exact (zset_j (by decide)).trans t1363
  refine zt_aload_n (pc' := 937) hX dX12_init_936 rfl rfl ?_
  refine zt_sipush (pc' := 940) hX dX12_init_937 rfl (by decide) (by decide) ?_
  refine zt_newa (pc' := 942) (t := 0) (N := 1000) hX dX12_init_940 rfl zw_3_7 rfl (by decide) (by decide) zc_209 zs_91 (by decide) (by decide) (zCs_nx q1367) ⟨by rw [hN.2.1]; exact Nat.le_of_ble_eq_true rfl, by rw [hN.2.2]; exact Nat.le_of_ble_eq_true rfl⟩ ?_
  have q1373 := zCs_arr q1367 zc_209 zs_91 (by decide)
  refine zt_putF (pc' := 945) (x := ((209 : Nat) : Int)) hX dX12_init_942 rfl hN.1 zf_X12_152 (by omega) zc_164 zs_46 (fun q hq => by cases hq; exact ⟨rfl, rfl⟩) (zrf_of rfl) rfl rfl ?_
  generalize hs1375 : zset s1365 164 68 ((209 : Nat) : Int) = s1374
  have q1376 := zCs_ref hs1375 q1373 zc_164 zs_46 rfl (by omega) (by decide)
  have t1377 : s1374 200 2 = -1 := by rw [← hs1375]; exact (zset_k (by decide)).trans t1368
  have t1378 : s1374 200 3 = -1 := by rw [← hs1375]; exact (zset_k (by decide)).trans t1369
  have t1379 : s1374 164 50 = 0 := by rw [← hs1375]; exact (zset_j (by decide)).trans t1370
  have t1380 : s1374 164 54 = 0 := by rw [← hs1375]; exact (zset_j (by decide)).trans t1371
  have t1381 : s1374 164 1 = 0 := by rw [← hs1375]; exact (zset_j (by decide)).trans t1372
  refine zt_aload_n (pc' := 946) hX dX12_init_945 rfl rfl ?_
  refine zt_sipush (pc' := 949) hX dX12_init_946 rfl (by decide) (by decide) ?_
  refine zt_newa (pc' := 951) (t := 0) (N := 3760) hX dX12_init_949 rfl zw_3_7 rfl (by decide) (by decide) zc_210 zs_92 (by decide) (by decide) (zCs_nx q1376) ⟨by rw [hN.2.1]; exact Nat.le_of_ble_eq_true rfl, by rw [hN.2.2]; exact Nat.le_of_ble_eq_true rfl⟩ ?_
  have q1382 := zCs_arr q1376 zc_210 zs_92 (by decide)
  refine zt_putF (pc' := 954) (x := ((210 : Nat) : Int)) hX dX12_init_951 rfl hN.1 zf_X12_155 (by omega) zc_164 zs_46 (fun q hq => by cases hq; exact ⟨rfl, rfl⟩) (zrf_of rfl) rfl rfl ?_
  generalize hs1384 : zset s1374 164 69 ((210 : Nat) : Int) = s1383
  have q1385 := zCs_ref hs1384 q1382 zc_164 zs_46 rfl (by omega) (by decide)
  have t1386 : s1383 200 2 = -1 := by rw [← hs1384]; exact (zset_k (by decide)).trans t1377
  have t1387 : s1383 200 3 = -1 := by rw [← hs1384]; exact (zset_k (by decide)).trans t1378
  have t1388 : s1383 164 50 = 0 := by rw [← hs1384]; exact (zset_j (by decide)).trans t1379
  have t1389 : s1383 164 54 = 0 := by rw [← hs1384]; exact (zset_j (by decide)).trans t1380
  have t1390 : s1383 164 1 = 0 := by rw [← hs1384]; exact (zset_j (by decide)).trans t1381
  refine zt_aload_n (pc' := 955) hX dX12_init_954 rfl rfl ?_
  refine zt_lconst (y := 1) (pc' := 956) hX dX12_init_955 rfl (by decide +kernel) ?_
  refine zt_put (pc' := 959) (x := 1) hX dX12_init_956 rfl zf_X12_158 (by omega) zc_164 zs_46 (fun q hq => by cases hq; rfl) rfl rfl rfl ?_
  generalize hs1392 : zset s1383 164 72 1 = s1391
  have q1393 := zCs_int hs1392 q1385 zc_164 zs_46 (show 0 ≤ (1 : Int) ∧ (1 : Int) ≤ 2147483647 from ⟨by decide, by decide⟩) (by decide)
  have t1394 : s1391 200 2 = -1 := by rw [← hs1392]; exact (zset_k (by decide)).trans t1386
  have t1395 : s1391 200 3 = -1 := by rw [← hs1392]; exact (zset_k (by decide)).trans t1387
  have t1396 : s1391 164 50 = 0 := by rw [← hs1392]; exact (zset_j (by decide)).trans t1388
  have t1397 : s1391 164 54 = 0 := by rw [← hs1392]; exact (zset_j (by decide)).trans t1389
  have t1398 : s1391 164 1 = 0 := by rw [← hs1392]; exact (zset_j (by decide)).trans t1390
  refine zt_aload_n (pc' := 960) hX dX12_init_959 rfl rfl ?_
  refine zt_iconst (pc' := 961) hX dX12_init_960 rfl ?_
  refine zt_newa (pc' := 963) (t := 3) (N := 5) hX dX12_init_961 rfl zw_10_19 rfl (by decide) (by decide) zc_211 zs_93 (by decide) (by decide) (zCs_nx q1393) ⟨by rw [hN.2.1]; exact Nat.le_of_ble_eq_true rfl, by rw [hN.2.2]; exact Nat.le_of_ble_eq_true rfl⟩ ?_
  have q1399 := zCs_arr q1393 zc_211 zs_93 (by decide)
  refine zt_dup (pc' := 964) hX dX12_init_963 rfl rfl ?_
  refine zt_iconst (pc' := 965) hX dX12_init_964 rfl ?_
  refine zt_bipush (pc' := 967) hX dX12_init_965 rfl (by decide) (by decide) ?_
  refine zt_cast (pc' := 968) hX dX12_init_967 rfl (by omega) zc_211 zs_93 (by decide) ⟨by decide, by decide⟩ (by decide +kernel) ?_
  rw [show Int.toNat 0 = 0 from rfl]
  generalize hs1401 : zset s1391 211 0 102 = s1400
  have q1402 := zCs_el hs1401 q1399 (by omega) (by omega) zc_211 zs_93 (show 0 ≤ (102 : Int) ∧ (102 : Int) ≤ 65535 from ⟨by decide, by decide⟩)
  have t1403 : s1400 200 2 = -1 := by rw [← hs1401]; exact (zset_k (by decide)).trans t1394
  have t1404 : s1400 200 3 = -1 := by rw [← hs1401]; exact (zset_k (by decide)).trans t1395
  have t1405 : s1400 164 50 = 0 := by rw [← hs1401]; exact (zset_k (by decide)).trans t1396
  have t1406 : s1400 164 54 = 0 := by rw [← hs1401]; exact (zset_k (by decide)).trans t1397
  have t1407 : s1400 164 1 = 0 := by rw [← hs1401]; exact (zset_k (by decide)).trans t1398
  refine zt_dup (pc' := 969) hX dX12_init_968 rfl rfl ?_
  refine zt_iconst (pc' := 970) hX dX12_init_969 rfl ?_
  refine zt_bipush (pc' := 972) hX dX12_init_970 rfl (by decide) (by decide) ?_
  refine zt_cast (pc' := 973) hX dX12_init_972 rfl (by omega) zc_211 zs_93 (by decide) ⟨by decide, by decide⟩ (by decide +kernel) ?_
  rw [show Int.toNat 1 = 1 from rfl]
  generalize hs1409 : zset s1400 211 1 105 = s1408
  have q1410 := zCs_el hs1409 q1402 (by omega) (by omega) zc_211 zs_93 (show 0 ≤ (105 : Int) ∧ (105 : Int) ≤ 65535 from ⟨by decide, by decide⟩)
  have t1411 : s1408 200 2 = -1 := by rw [← hs1409]; exact (zset_k (by decide)).trans t1403
  have t1412 : s1408 200 3 = -1 := by rw [← hs1409]; exact (zset_k (by decide)).trans t1404
  have t1413 : s1408 164 50 = 0 := by rw [← hs1409]; exact (zset_k (by decide)).trans t1405
  have t1414 : s1408 164 54 = 0 := by rw [← hs1409]; exact (zset_k (by decide)).trans t1406
  have t1415 : s1408 164 1 = 0 := by rw [← hs1409]; exact (zset_k (by decide)).trans t1407
  refine zt_dup (pc' := 974) hX dX12_init_973 rfl rfl ?_
  refine zt_iconst (pc' := 975) hX dX12_init_974 rfl ?_
  refine zt_bipush (pc' := 977) hX dX12_init_975 rfl (by decide) (by decide) ?_
  refine zt_cast (pc' := 978) hX dX12_init_977 rfl (by omega) zc_211 zs_93 (by decide) ⟨by decide, by decide⟩ (by decide +kernel) ?_
  rw [show Int.toNat 2 = 2 from rfl]
  generalize hs1417 : zset s1408 211 2 114 = s1416
  have q1418 := zCs_el hs1417 q1410 (by omega) (by omega) zc_211 zs_93 (show 0 ≤ (114 : Int) ∧ (114 : Int) ≤ 65535 from ⟨by decide, by decide⟩)
  have t1419 : s1416 200 2 = -1 := by rw [← hs1417]; exact (zset_k (by decide)).trans t1411
  have t1420 : s1416 200 3 = -1 := by rw [← hs1417]; exact (zset_k (by decide)).trans t1412
  have t1421 : s1416 164 50 = 0 := by rw [← hs1417]; exact (zset_k (by decide)).trans t1413
  have t1422 : s1416 164 54 = 0 := by rw [← hs1417]; exact (zset_k (by decide)).trans t1414
  have t1423 : s1416 164 1 = 0 := by rw [← hs1417]; exact (zset_k (by decide)).trans t1415
  refine zt_dup (pc' := 979) hX dX12_init_978 rfl rfl ?_
  refine zt_iconst (pc' := 980) hX dX12_init_979 rfl ?_
  refine zt_bipush (pc' := 982) hX dX12_init_980 rfl (by decide) (by decide) ?_
  refine zt_cast (pc' := 983) hX dX12_init_982 rfl (by omega) zc_211 zs_93 (by decide) ⟨by decide, by decide⟩ (by decide +kernel) ?_
  rw [show Int.toNat 3 = 3 from rfl]
  generalize hs1425 : zset s1416 211 3 115 = s1424
  have q1426 := zCs_el hs1425 q1418 (by omega) (by omega) zc_211 zs_93 (show 0 ≤ (115 : Int) ∧ (115 : Int) ≤ 65535 from ⟨by decide, by decide⟩)
  have t1427 : s1424 200 2 = -1 := by rw [← hs1425]; exact (zset_k (by decide)).trans t1419
  have t1428 : s1424 200 3 = -1 := by rw [← hs1425]; exact (zset_k (by decide)).trans t1420
  have t1429 : s1424 164 50 = 0 := by rw [← hs1425]; exact (zset_k (by decide)).trans t1421
  have t1430 : s1424 164 54 = 0 := by rw [← hs1425]; exact (zset_k (by decide)).trans t1422
  have t1431 : s1424 164 1 = 0 := by rw [← hs1425]; exact (zset_k (by decide)).trans t1423
  refine zt_dup (pc' := 984) hX dX12_init_983 rfl rfl ?_
  refine zt_iconst (pc' := 985) hX dX12_init_984 rfl ?_
  refine zt_bipush (pc' := 987) hX dX12_init_985 rfl (by decide) (by decide) ?_
  refine zt_cast (pc' := 988) hX dX12_init_987 rfl (by omega) zc_211 zs_93 (by decide) ⟨by decide, by decide⟩ (by decide +kernel) ?_
  rw [show Int.toNat 4 = 4 from rfl]
  generalize hs1433 : zset s1424 211 4 116 = s1432
  have q1434 := zCs_el hs1433 q1426 (by omega) (by omega) zc_211 zs_93 (show 0 ≤ (116 : Int) ∧ (116 : Int) ≤ 65535 from ⟨by decide, by decide⟩)
  have t1435 : s1432 200 2 = -1 := by rw [← hs1433]; exact (zset_k (by decide)).trans t1427
  have t1436 : s1432 200 3 = -1 := by rw [← hs1433]; exact (zset_k (by decide)).trans t1428
  have t1437 : s1432 164 50 = 0 := by rw [← hs1433]; exact (zset_k (by decide)).trans t1429
  have t1438 : s1432 164 54 = 0 := by rw [← hs1433]; exact (zset_k (by decide)).trans t1430
  have t1439 : s1432 164 1 = 0 := by rw [← hs1433]; exact (zset_k (by decide)).trans t1431
  refine zt_putF (pc' := 991) (x := ((211 : Nat) : Int)) hX dX12_init_988 rfl hN.1 zf_X12_162 (by omega) zc_164 zs_46 (fun q hq => by cases hq; exact ⟨rfl, rfl⟩) (zrf_of rfl) rfl rfl ?_
  generalize hs1441 : zset s1432 164 73 ((211 : Nat) : Int) = s1440
  have q1442 := zCs_ref hs1441 q1434 zc_164 zs_46 rfl (by omega) (by decide)
  have t1443 : s1440 200 2 = -1 := by rw [← hs1441]; exact (zset_k (by decide)).trans t1435
  have t1444 : s1440 200 3 = -1 := by rw [← hs1441]; exact (zset_k (by decide)).trans t1436
  have t1445 : s1440 164 50 = 0 := by rw [← hs1441]; exact (zset_j (by decide)).trans t1437
  have t1446 : s1440 164 54 = 0 := by rw [← hs1441]; exact (zset_j (by decide)).trans t1438
  have t1447 : s1440 164 1 = 0 := by rw [← hs1441]; exact (zset_j (by decide)).trans t1439
  refine zt_aload_n (pc' := 992) hX dX12_init_991 rfl rfl ?_
  refine zt_iconst (pc' := 993) hX dX12_init_992 rfl ?_
  refine zt_newa (pc' := 995) (t := 3) (N := 4) hX dX12_init_993 rfl zw_10_19 rfl (by decide) (by decide) zc_212 zs_94 (by decide) (by decide) (zCs_nx q1442) ⟨by rw [hN.2.1]; exact Nat.le_of_ble_eq_true rfl, by rw [hN.2.2]; exact Nat.le_of_ble_eq_true rfl⟩ ?_
  have q1448 := zCs_arr q1442 zc_212 zs_94 (by decide)
  refine zt_dup (pc' := 996) hX dX12_init_995 rfl rfl ?_
  refine zt_iconst (pc' := 997) hX dX12_init_996 rfl ?_
  refine zt_bipush (pc' := 999) hX dX12_init_997 rfl (by decide) (by decide) ?_
  refine zt_cast (pc' := 1000) hX dX12_init_999 rfl (by omega) zc_212 zs_94 (by decide) ⟨by decide, by decide⟩ (by decide +kernel) ?_
  rw [show Int.toNat 0 = 0 from rfl]
  generalize hs1450 : zset s1440 212 0 108 = s1449
  have q1451 := zCs_el hs1450 q1448 (by omega) (by omega) zc_212 zs_94 (show 0 ≤ (108 : Int) ∧ (108 : Int) ≤ 65535 from ⟨by decide, by decide⟩)
  have t1452 : s1449 200 2 = -1 := by rw [← hs1450]; exact (zset_k (by decide)).trans t1443
  have t1453 : s1449 200 3 = -1 := by rw [← hs1450]; exact (zset_k (by decide)).trans t1444
  have t1454 : s1449 164 50 = 0 := by rw [← hs1450]; exact (zset_k (by decide)).trans t1445
  have t1455 : s1449 164 54 = 0 := by rw [← hs1450]; exact (zset_k (by decide)).trans t1446
  have t1456 : s1449 164 1 = 0 := by rw [← hs1450]; exact (zset_k (by decide)).trans t1447
  refine zt_dup (pc' := 1001) hX dX12_init_1000 rfl rfl ?_
  refine zt_iconst (pc' := 1002) hX dX12_init_1001 rfl ?_
  refine zt_bipush (pc' := 1004) hX dX12_init_1002 rfl (by decide) (by decide) ?_
  refine zt_cast (pc' := 1005) hX dX12_init_1004 rfl (by omega) zc_212 zs_94 (by decide) ⟨by decide, by decide⟩ (by decide +kernel) ?_
  rw [show Int.toNat 1 = 1 from rfl]
  generalize hs1458 : zset s1449 212 1 97 = s1457
  have q1459 := zCs_el hs1458 q1451 (by omega) (by omega) zc_212 zs_94 (show 0 ≤ (97 : Int) ∧ (97 : Int) ≤ 65535 from ⟨by decide, by decide⟩)
  have t1460 : s1457 200 2 = -1 := by rw [← hs1458]; exact (zset_k (by decide)).trans t1452
  have t1461 : s1457 200 3 = -1 := by rw [← hs1458]; exact (zset_k (by decide)).trans t1453
  have t1462 : s1457 164 50 = 0 := by rw [← hs1458]; exact (zset_k (by decide)).trans t1454
  have t1463 : s1457 164 54 = 0 := by rw [← hs1458]; exact (zset_k (by decide)).trans t1455
  have t1464 : s1457 164 1 = 0 := by rw [← hs1458]; exact (zset_k (by decide)).trans t1456
  refine zt_dup (pc' := 1006) hX dX12_init_1005 rfl rfl ?_
  refine zt_iconst (pc' := 1007) hX dX12_init_1006 rfl ?_
  refine zt_bipush (pc' := 1009) hX dX12_init_1007 rfl (by decide) (by decide) ?_
  refine zt_cast (pc' := 1010) hX dX12_init_1009 rfl (by omega) zc_212 zs_94 (by decide) ⟨by decide, by decide⟩ (by decide +kernel) ?_
  rw [show Int.toNat 2 = 2 from rfl]
  generalize hs1466 : zset s1457 212 2 115 = s1465
  have q1467 := zCs_el hs1466 q1459 (by omega) (by omega) zc_212 zs_94 (show 0 ≤ (115 : Int) ∧ (115 : Int) ≤ 65535 from ⟨by decide, by decide⟩)
  have t1468 : s1465 200 2 = -1 := by rw [← hs1466]; exact (zset_k (by decide)).trans t1460
  have t1469 : s1465 200 3 = -1 := by rw [← hs1466]; exact (zset_k (by decide)).trans t1461
  have t1470 : s1465 164 50 = 0 := by rw [← hs1466]; exact (zset_k (by decide)).trans t1462
  have t1471 : s1465 164 54 = 0 := by rw [← hs1466]; exact (zset_k (by decide)).trans t1463
  have t1472 : s1465 164 1 = 0 := by rw [← hs1466]; exact (zset_k (by decide)).trans t1464
  refine zt_dup (pc' := 1011) hX dX12_init_1010 rfl rfl ?_
  refine zt_iconst (pc' := 1012) hX dX12_init_1011 rfl ?_
  refine zt_bipush (pc' := 1014) hX dX12_init_1012 rfl (by decide) (by decide) ?_
  refine zt_cast (pc' := 1015) hX dX12_init_1014 rfl (by omega) zc_212 zs_94 (by decide) ⟨by decide, by decide⟩ (by decide +kernel) ?_
  rw [show Int.toNat 3 = 3 from rfl]
  generalize hs1474 : zset s1465 212 3 116 = s1473
  have q1475 := zCs_el hs1474 q1467 (by omega) (by omega) zc_212 zs_94 (show 0 ≤ (116 : Int) ∧ (116 : Int) ≤ 65535 from ⟨by decide, by decide⟩)
  have t1476 : s1473 200 2 = -1 := by rw [← hs1474]; exact (zset_k (by decide)).trans t1468
  have t1477 : s1473 200 3 = -1 := by rw [← hs1474]; exact (zset_k (by decide)).trans t1469
  have t1478 : s1473 164 50 = 0 := by rw [← hs1474]; exact (zset_k (by decide)).trans t1470
  have t1479 : s1473 164 54 = 0 := by rw [← hs1474]; exact (zset_k (by decide)).trans t1471
  have t1480 : s1473 164 1 = 0 := by rw [← hs1474]; exact (zset_k (by decide)).trans t1472
  refine zt_putF (pc' := 1018) (x := ((212 : Nat) : Int)) hX dX12_init_1015 rfl hN.1 zf_X12_165 (by omega) zc_164 zs_46 (fun q hq => by cases hq; exact ⟨rfl, rfl⟩) (zrf_of rfl) rfl rfl ?_
  generalize hs1482 : zset s1473 164 74 ((212 : Nat) : Int) = s1481
  have q1483 := zCs_ref hs1482 q1475 zc_164 zs_46 rfl (by omega) (by decide)
  have t1484 : s1481 200 2 = -1 := by rw [← hs1482]; exact (zset_k (by decide)).trans t1476
  have t1485 : s1481 200 3 = -1 := by rw [← hs1482]; exact (zset_k (by decide)).trans t1477
  have t1486 : s1481 164 50 = 0 := by rw [← hs1482]; exact (zset_j (by decide)).trans t1478
  have t1487 : s1481 164 54 = 0 := by rw [← hs1482]; exact (zset_j (by decide)).trans t1479
  have t1488 : s1481 164 1 = 0 := by rw [← hs1482]; exact (zset_j (by decide)).trans t1480
  refine zt_aload_n (pc' := 1019) hX dX12_init_1018 rfl rfl ?_
  refine zt_iconst (pc' := 1020) hX dX12_init_1019 rfl ?_
  refine zt_newa (pc' := 1022) (t := 3) (N := 5) hX dX12_init_1020 rfl zw_10_19 rfl (by decide) (by decide) zc_213 zs_95 (by decide) (by decide) (zCs_nx q1483) ⟨by rw [hN.2.1]; exact Nat.le_of_ble_eq_true rfl, by rw [hN.2.2]; exact Nat.le_of_ble_eq_true rfl⟩ ?_
  have q1489 := zCs_arr q1483 zc_213 zs_95 (by decide)
  refine zt_dup (pc' := 1023) hX dX12_init_1022 rfl rfl ?_
  refine zt_iconst (pc' := 1024) hX dX12_init_1023 rfl ?_
  refine zt_bipush (pc' := 1026) hX dX12_init_1024 rfl (by decide) (by decide) ?_
  refine zt_cast (pc' := 1027) hX dX12_init_1026 rfl (by omega) zc_213 zs_95 (by decide) ⟨by decide, by decide⟩ (by decide +kernel) ?_
  rw [show Int.toNat 0 = 0 from rfl]
  generalize hs1491 : zset s1481 213 0 111 = s1490
  have q1492 := zCs_el hs1491 q1489 (by omega) (by omega) zc_213 zs_95 (show 0 ≤ (111 : Int) ∧ (111 : Int) ≤ 65535 from ⟨by decide, by decide⟩)
  have t1493 : s1490 200 2 = -1 := by rw [← hs1491]; exact (zset_k (by decide)).trans t1484
  have t1494 : s1490 200 3 = -1 := by rw [← hs1491]; exact (zset_k (by decide)).trans t1485
  have t1495 : s1490 164 50 = 0 := by rw [← hs1491]; exact (zset_k (by decide)).trans t1486
  have t1496 : s1490 164 54 = 0 := by rw [← hs1491]; exact (zset_k (by decide)).trans t1487
  have t1497 : s1490 164 1 = 0 := by rw [← hs1491]; exact (zset_k (by decide)).trans t1488
  refine zt_dup (pc' := 1028) hX dX12_init_1027 rfl rfl ?_
  refine zt_iconst (pc' := 1029) hX dX12_init_1028 rfl ?_
  refine zt_bipush (pc' := 1031) hX dX12_init_1029 rfl (by decide) (by decide) ?_
  refine zt_cast (pc' := 1032) hX dX12_init_1031 rfl (by omega) zc_213 zs_95 (by decide) ⟨by decide, by decide⟩ (by decide +kernel) ?_
  rw [show Int.toNat 1 = 1 from rfl]
  generalize hs1499 : zset s1490 213 1 102 = s1498
  have q1500 := zCs_el hs1499 q1492 (by omega) (by omega) zc_213 zs_95 (show 0 ≤ (102 : Int) ∧ (102 : Int) ≤ 65535 from ⟨by decide, by decide⟩)
  have t1501 : s1498 200 2 = -1 := by rw [← hs1499]; exact (zset_k (by decide)).trans t1493
  have t1502 : s1498 200 3 = -1 := by rw [← hs1499]; exact (zset_k (by decide)).trans t1494
  have t1503 : s1498 164 50 = 0 := by rw [← hs1499]; exact (zset_k (by decide)).trans t1495
  have t1504 : s1498 164 54 = 0 := by rw [← hs1499]; exact (zset_k (by decide)).trans t1496
  have t1505 : s1498 164 1 = 0 := by rw [← hs1499]; exact (zset_k (by decide)).trans t1497
  refine zt_dup (pc' := 1033) hX dX12_init_1032 rfl rfl ?_
  refine zt_iconst (pc' := 1034) hX dX12_init_1033 rfl ?_
  refine zt_bipush (pc' := 1036) hX dX12_init_1034 rfl (by decide) (by decide) ?_
  refine zt_cast (pc' := 1037) hX dX12_init_1036 rfl (by omega) zc_213 zs_95 (by decide) ⟨by decide, by decide⟩ (by decide +kernel) ?_
  rw [show Int.toNat 2 = 2 from rfl]
  generalize hs1507 : zset s1498 213 2 116 = s1506
  have q1508 := zCs_el hs1507 q1500 (by omega) (by omega) zc_213 zs_95 (show 0 ≤ (116 : Int) ∧ (116 : Int) ≤ 65535 from ⟨by decide, by decide⟩)
  have t1509 : s1506 200 2 = -1 := by rw [← hs1507]; exact (zset_k (by decide)).trans t1501
  have t1510 : s1506 200 3 = -1 := by rw [← hs1507]; exact (zset_k (by decide)).trans t1502
  have t1511 : s1506 164 50 = 0 := by rw [← hs1507]; exact (zset_k (by decide)).trans t1503
  have t1512 : s1506 164 54 = 0 := by rw [← hs1507]; exact (zset_k (by decide)).trans t1504
  have t1513 : s1506 164 1 = 0 := by rw [← hs1507]; exact (zset_k (by decide)).trans t1505
  refine zt_dup (pc' := 1038) hX dX12_init_1037 rfl rfl ?_
  refine zt_iconst (pc' := 1039) hX dX12_init_1038 rfl ?_
  refine zt_bipush (pc' := 1041) hX dX12_init_1039 rfl (by decide) (by decide) ?_
  refine zt_cast (pc' := 1042) hX dX12_init_1041 rfl (by omega) zc_213 zs_95 (by decide) ⟨by decide, by decide⟩ (by decide +kernel) ?_
  rw [show Int.toNat 3 = 3 from rfl]
  generalize hs1515 : zset s1506 213 3 101 = s1514
  have q1516 := zCs_el hs1515 q1508 (by omega) (by omega) zc_213 zs_95 (show 0 ≤ (101 : Int) ∧ (101 : Int) ≤ 65535 from ⟨by decide, by decide⟩)
  have t1517 : s1514 200 2 = -1 := by rw [← hs1515]; exact (zset_k (by decide)).trans t1509
  have t1518 : s1514 200 3 = -1 := by rw [← hs1515]; exact (zset_k (by decide)).trans t1510
  have t1519 : s1514 164 50 = 0 := by rw [← hs1515]; exact (zset_k (by decide)).trans t1511
  have t1520 : s1514 164 54 = 0 := by rw [← hs1515]; exact (zset_k (by decide)).trans t1512
  have t1521 : s1514 164 1 = 0 := by rw [← hs1515]; exact (zset_k (by decide)).trans t1513
  refine zt_dup (pc' := 1043) hX dX12_init_1042 rfl rfl ?_
  refine zt_iconst (pc' := 1044) hX dX12_init_1043 rfl ?_
  refine zt_bipush (pc' := 1046) hX dX12_init_1044 rfl (by decide) (by decide) ?_
  refine zt_cast (pc' := 1047) hX dX12_init_1046 rfl (by omega) zc_213 zs_95 (by decide) ⟨by decide, by decide⟩ (by decide +kernel) ?_
  rw [show Int.toNat 4 = 4 from rfl]
  generalize hs1523 : zset s1514 213 4 110 = s1522
  have q1524 := zCs_el hs1523 q1516 (by omega) (by omega) zc_213 zs_95 (show 0 ≤ (110 : Int) ∧ (110 : Int) ≤ 65535 from ⟨by decide, by decide⟩)
  have t1525 : s1522 200 2 = -1 := by rw [← hs1523]; exact (zset_k (by decide)).trans t1517
  have t1526 : s1522 200 3 = -1 := by rw [← hs1523]; exact (zset_k (by decide)).trans t1518
  have t1527 : s1522 164 50 = 0 := by rw [← hs1523]; exact (zset_k (by decide)).trans t1519
  have t1528 : s1522 164 54 = 0 := by rw [← hs1523]; exact (zset_k (by decide)).trans t1520
  have t1529 : s1522 164 1 = 0 := by rw [← hs1523]; exact (zset_k (by decide)).trans t1521
  refine zt_putF (pc' := 1050) (x := ((213 : Nat) : Int)) hX dX12_init_1047 rfl hN.1 zf_X12_168 (by omega) zc_164 zs_46 (fun q hq => by cases hq; exact ⟨rfl, rfl⟩) (zrf_of rfl) rfl rfl ?_
  generalize hs1531 : zset s1522 164 75 ((213 : Nat) : Int) = s1530
  have q1532 := zCs_ref hs1531 q1524 zc_164 zs_46 rfl (by omega) (by decide)
  have t1533 : s1530 200 2 = -1 := by rw [← hs1531]; exact (zset_k (by decide)).trans t1525
  have t1534 : s1530 200 3 = -1 := by rw [← hs1531]; exact (zset_k (by decide)).trans t1526
  have t1535 : s1530 164 50 = 0 := by rw [← hs1531]; exact (zset_j (by decide)).trans t1527
  have t1536 : s1530 164 54 = 0 := by rw [← hs1531]; exact (zset_j (by decide)).trans t1528
  have t1537 : s1530 164 1 = 0 := by rw [← hs1531]; exact (zset_j (by decide)).trans t1529
  refine zt_aload_n (pc' := 1051) hX dX12_init_1050 rfl rfl ?_
  refine zt_iconst (pc' := 1052) hX dX12_init_1051 rfl ?_
  refine zt_newa (pc' := 1054) (t := 3) (N := 5) hX dX12_init_1052 rfl zw_10_19 rfl (by decide) (by decide) zc_214 zs_96 (by decide) (by decide) (zCs_nx q1532) ⟨by rw [hN.2.1]; exact Nat.le_of_ble_eq_true rfl, by rw [hN.2.2]; exact Nat.le_of_ble_eq_true rfl⟩ ?_
  have q1538 := zCs_arr q1532 zc_214 zs_96 (by decide)
  refine zt_dup (pc' := 1055) hX dX12_init_1054 rfl rfl ?_
  refine zt_iconst (pc' := 1056) hX dX12_init_1055 rfl ?_
  refine zt_bipush (pc' := 1058) hX dX12_init_1056 rfl (by decide) (by decide) ?_
  refine zt_cast (pc' := 1059) hX dX12_init_1058 rfl (by omega) zc_214 zs_96 (by decide) ⟨by decide, by decide⟩ (by decide +kernel) ?_
  rw [show Int.toNat 0 = 0 from rfl]
  generalize hs1540 : zset s1530 214 0 116 = s1539
  have q1541 := zCs_el hs1540 q1538 (by omega) (by omega) zc_214 zs_96 (show 0 ≤ (116 : Int) ∧ (116 : Int) ≤ 65535 from ⟨by decide, by decide⟩)
  have t1542 : s1539 200 2 = -1 := by rw [← hs1540]; exact (zset_k (by decide)).trans t1533
  have t1543 : s1539 200 3 = -1 := by rw [← hs1540]; exact (zset_k (by decide)).trans t1534
  have t1544 : s1539 164 50 = 0 := by rw [← hs1540]; exact (zset_k (by decide)).trans t1535
  have t1545 : s1539 164 54 = 0 := by rw [← hs1540]; exact (zset_k (by decide)).trans t1536
  have t1546 : s1539 164 1 = 0 := by rw [← hs1540]; exact (zset_k (by decide)).trans t1537
  refine zt_dup (pc' := 1060) hX dX12_init_1059 rfl rfl ?_
  refine zt_iconst (pc' := 1061) hX dX12_init_1060 rfl ?_
  refine zt_bipush (pc' := 1063) hX dX12_init_1061 rfl (by decide) (by decide) ?_
  refine zt_cast (pc' := 1064) hX dX12_init_1063 rfl (by omega) zc_214 zs_96 (by decide) ⟨by decide, by decide⟩ (by decide +kernel) ?_
  rw [show Int.toNat 1 = 1 from rfl]
  generalize hs1548 : zset s1539 214 1 111 = s1547
  have q1549 := zCs_el hs1548 q1541 (by omega) (by omega) zc_214 zs_96 (show 0 ≤ (111 : Int) ∧ (111 : Int) ≤ 65535 from ⟨by decide, by decide⟩)
  have t1550 : s1547 200 2 = -1 := by rw [← hs1548]; exact (zset_k (by decide)).trans t1542
  have t1551 : s1547 200 3 = -1 := by rw [← hs1548]; exact (zset_k (by decide)).trans t1543
  have t1552 : s1547 164 50 = 0 := by rw [← hs1548]; exact (zset_k (by decide)).trans t1544
  have t1553 : s1547 164 54 = 0 := by rw [← hs1548]; exact (zset_k (by decide)).trans t1545
  have t1554 : s1547 164 1 = 0 := by rw [← hs1548]; exact (zset_k (by decide)).trans t1546
  refine zt_dup (pc' := 1065) hX dX12_init_1064 rfl rfl ?_
  refine zt_iconst (pc' := 1066) hX dX12_init_1065 rfl ?_
  refine zt_bipush (pc' := 1068) hX dX12_init_1066 rfl (by decide) (by decide) ?_
  refine zt_cast (pc' := 1069) hX dX12_init_1068 rfl (by omega) zc_214 zs_96 (by decide) ⟨by decide, by decide⟩ (by decide +kernel) ?_
  rw [show Int.toNat 2 = 2 from rfl]
  generalize hs1556 : zset s1547 214 2 116 = s1555
  have q1557 := zCs_el hs1556 q1549 (by omega) (by omega) zc_214 zs_96 (show 0 ≤ (116 : Int) ∧ (116 : Int) ≤ 65535 from ⟨by decide, by decide⟩)
  have t1558 : s1555 200 2 = -1 := by rw [← hs1556]; exact (zset_k (by decide)).trans t1550
  have t1559 : s1555 200 3 = -1 := by rw [← hs1556]; exact (zset_k (by decide)).trans t1551
  have t1560 : s1555 164 50 = 0 := by rw [← hs1556]; exact (zset_k (by decide)).trans t1552
  have t1561 : s1555 164 54 = 0 := by rw [← hs1556]; exact (zset_k (by decide)).trans t1553
  have t1562 : s1555 164 1 = 0 := by rw [← hs1556]; exact (zset_k (by decide)).trans t1554
  refine zt_dup (pc' := 1070) hX dX12_init_1069 rfl rfl ?_
  refine zt_iconst (pc' := 1071) hX dX12_init_1070 rfl ?_
  refine zt_bipush (pc' := 1073) hX dX12_init_1071 rfl (by decide) (by decide) ?_
  refine zt_cast (pc' := 1074) hX dX12_init_1073 rfl (by omega) zc_214 zs_96 (by decide) ⟨by decide, by decide⟩ (by decide +kernel) ?_
  rw [show Int.toNat 3 = 3 from rfl]
  generalize hs1564 : zset s1555 214 3 97 = s1563
  have q1565 := zCs_el hs1564 q1557 (by omega) (by omega) zc_214 zs_96 (show 0 ≤ (97 : Int) ∧ (97 : Int) ≤ 65535 from ⟨by decide, by decide⟩)
  have t1566 : s1563 200 2 = -1 := by rw [← hs1564]; exact (zset_k (by decide)).trans t1558
  have t1567 : s1563 200 3 = -1 := by rw [← hs1564]; exact (zset_k (by decide)).trans t1559
  have t1568 : s1563 164 50 = 0 := by rw [← hs1564]; exact (zset_k (by decide)).trans t1560
  have t1569 : s1563 164 54 = 0 := by rw [← hs1564]; exact (zset_k (by decide)).trans t1561
  have t1570 : s1563 164 1 = 0 := by rw [← hs1564]; exact (zset_k (by decide)).trans t1562
  refine zt_dup (pc' := 1075) hX dX12_init_1074 rfl rfl ?_
  refine zt_iconst (pc' := 1076) hX dX12_init_1075 rfl ?_
  refine zt_bipush (pc' := 1078) hX dX12_init_1076 rfl (by decide) (by decide) ?_
  refine zt_cast (pc' := 1079) hX dX12_init_1078 rfl (by omega) zc_214 zs_96 (by decide) ⟨by decide, by decide⟩ (by decide +kernel) ?_
  rw [show Int.toNat 4 = 4 from rfl]
  generalize hs1572 : zset s1563 214 4 108 = s1571
  have q1573 := zCs_el hs1572 q1565 (by omega) (by omega) zc_214 zs_96 (show 0 ≤ (108 : Int) ∧ (108 : Int) ≤ 65535 from ⟨by decide, by decide⟩)
  have t1574 : s1571 200 2 = -1 := by rw [← hs1572]; exact (zset_k (by decide)).trans t1566
  have t1575 : s1571 200 3 = -1 := by rw [← hs1572]; exact (zset_k (by decide)).trans t1567
  have t1576 : s1571 164 50 = 0 := by rw [← hs1572]; exact (zset_k (by decide)).trans t1568
  have t1577 : s1571 164 54 = 0 := by rw [← hs1572]; exact (zset_k (by decide)).trans t1569
  have t1578 : s1571 164 1 = 0 := by rw [← hs1572]; exact (zset_k (by decide)).trans t1570
  refine zt_putF (pc' := 1082) (x := ((214 : Nat) : Int)) hX dX12_init_1079 rfl hN.1 zf_X12_171 (by omega) zc_164 zs_46 (fun q hq => by cases hq; exact ⟨rfl, rfl⟩) (zrf_of rfl) rfl rfl ?_
  generalize hs1580 : zset s1571 164 76 ((214 : Nat) : Int) = s1579
  have q1581 := zCs_ref hs1580 q1573 zc_164 zs_46 rfl (by omega) (by decide)
  have t1582 : s1579 200 2 = -1 := by rw [← hs1580]; exact (zset_k (by decide)).trans t1574
  have t1583 : s1579 200 3 = -1 := by rw [← hs1580]; exact (zset_k (by decide)).trans t1575
  have t1584 : s1579 164 50 = 0 := by rw [← hs1580]; exact (zset_j (by decide)).trans t1576
  have t1585 : s1579 164 54 = 0 := by rw [← hs1580]; exact (zset_j (by decide)).trans t1577
  have t1586 : s1579 164 1 = 0 := by rw [← hs1580]; exact (zset_j (by decide)).trans t1578
  refine zt_aload_n (pc' := 1083) hX dX12_init_1082 rfl rfl ?_
  refine zt_iconst (pc' := 1084) hX dX12_init_1083 rfl ?_
  refine zt_newa (pc' := 1086) (t := 3) (N := 4) hX dX12_init_1084 rfl zw_10_19 rfl (by decide) (by decide) zc_215 zs_97 (by decide) (by decide) (zCs_nx q1581) ⟨by rw [hN.2.1]; exact Nat.le_of_ble_eq_true rfl, by rw [hN.2.2]; exact Nat.le_of_ble_eq_true rfl⟩ ?_
  have q1587 := zCs_arr q1581 zc_215 zs_97 (by decide)
  refine zt_dup (pc' := 1087) hX dX12_init_1086 rfl rfl ?_
  refine zt_iconst (pc' := 1088) hX dX12_init_1087 rfl ?_
  refine zt_bipush (pc' := 1090) hX dX12_init_1088 rfl (by decide) (by decide) ?_
  refine zt_cast (pc' := 1091) hX dX12_init_1090 rfl (by omega) zc_215 zs_97 (by decide) ⟨by decide, by decide⟩ (by decide +kernel) ?_
  rw [show Int.toNat 0 = 0 from rfl]
  generalize hs1589 : zset s1579 215 0 109 = s1588
  have q1590 := zCs_el hs1589 q1587 (by omega) (by omega) zc_215 zs_97 (show 0 ≤ (109 : Int) ∧ (109 : Int) ≤ 65535 from ⟨by decide, by decide⟩)
  have t1591 : s1588 200 2 = -1 := by rw [← hs1589]; exact (zset_k (by decide)).trans t1582
  have t1592 : s1588 200 3 = -1 := by rw [← hs1589]; exact (zset_k (by decide)).trans t1583
  have t1593 : s1588 164 50 = 0 := by rw [← hs1589]; exact (zset_k (by decide)).trans t1584
  have t1594 : s1588 164 54 = 0 := by rw [← hs1589]; exact (zset_k (by decide)).trans t1585
  have t1595 : s1588 164 1 = 0 := by rw [← hs1589]; exact (zset_k (by decide)).trans t1586
  refine zt_dup (pc' := 1092) hX dX12_init_1091 rfl rfl ?_
  refine zt_iconst (pc' := 1093) hX dX12_init_1092 rfl ?_
  refine zt_bipush (pc' := 1095) hX dX12_init_1093 rfl (by decide) (by decide) ?_
  refine zt_cast (pc' := 1096) hX dX12_init_1095 rfl (by omega) zc_215 zs_97 (by decide) ⟨by decide, by decide⟩ (by decide +kernel) ?_
  rw [show Int.toNat 1 = 1 from rfl]
  generalize hs1597 : zset s1588 215 1 111 = s1596
  have q1598 := zCs_el hs1597 q1590 (by omega) (by omega) zc_215 zs_97 (show 0 ≤ (111 : Int) ∧ (111 : Int) ≤ 65535 from ⟨by decide, by decide⟩)
  have t1599 : s1596 200 2 = -1 := by rw [← hs1597]; exact (zset_k (by decide)).trans t1591
  have t1600 : s1596 200 3 = -1 := by rw [← hs1597]; exact (zset_k (by decide)).trans t1592
  have t1601 : s1596 164 50 = 0 := by rw [← hs1597]; exact (zset_k (by decide)).trans t1593
  have t1602 : s1596 164 54 = 0 := by rw [← hs1597]; exact (zset_k (by decide)).trans t1594
  have t1603 : s1596 164 1 = 0 := by rw [← hs1597]; exact (zset_k (by decide)).trans t1595
  refine zt_dup (pc' := 1097) hX dX12_init_1096 rfl rfl ?_
  refine zt_iconst (pc' := 1098) hX dX12_init_1097 rfl ?_
  refine zt_bipush (pc' := 1100) hX dX12_init_1098 rfl (by decide) (by decide) ?_
  refine zt_cast (pc' := 1101) hX dX12_init_1100 rfl (by omega) zc_215 zs_97 (by decide) ⟨by decide, by decide⟩ (by decide +kernel) ?_
  rw [show Int.toNat 2 = 2 from rfl]
  generalize hs1605 : zset s1596 215 2 115 = s1604
  have q1606 := zCs_el hs1605 q1598 (by omega) (by omega) zc_215 zs_97 (show 0 ≤ (115 : Int) ∧ (115 : Int) ≤ 65535 from ⟨by decide, by decide⟩)
  have t1607 : s1604 200 2 = -1 := by rw [← hs1605]; exact (zset_k (by decide)).trans t1599
  have t1608 : s1604 200 3 = -1 := by rw [← hs1605]; exact (zset_k (by decide)).trans t1600
  have t1609 : s1604 164 50 = 0 := by rw [← hs1605]; exact (zset_k (by decide)).trans t1601
  have t1610 : s1604 164 54 = 0 := by rw [← hs1605]; exact (zset_k (by decide)).trans t1602
  have t1611 : s1604 164 1 = 0 := by rw [← hs1605]; exact (zset_k (by decide)).trans t1603
  refine zt_dup (pc' := 1102) hX dX12_init_1101 rfl rfl ?_
  refine zt_iconst (pc' := 1103) hX dX12_init_1102 rfl ?_
  refine zt_bipush (pc' := 1105) hX dX12_init_1103 rfl (by decide) (by decide) ?_
  refine zt_cast (pc' := 1106) hX dX12_init_1105 rfl (by omega) zc_215 zs_97 (by decide) ⟨by decide, by decide⟩ (by decide +kernel) ?_
  rw [show Int.toNat 3 = 3 from rfl]
  generalize hs1613 : zset s1604 215 3 116 = s1612
  have q1614 := zCs_el hs1613 q1606 (by omega) (by omega) zc_215 zs_97 (show 0 ≤ (116 : Int) ∧ (116 : Int) ≤ 65535 from ⟨by decide, by decide⟩)
  have t1615 : s1612 200 2 = -1 := by rw [← hs1613]; exact (zset_k (by decide)).trans t1607
  have t1616 : s1612 200 3 = -1 := by rw [← hs1613]; exact (zset_k (by decide)).trans t1608
  have t1617 : s1612 164 50 = 0 := by rw [← hs1613]; exact (zset_k (by decide)).trans t1609
  have t1618 : s1612 164 54 = 0 := by rw [← hs1613]; exact (zset_k (by decide)).trans t1610
  have t1619 : s1612 164 1 = 0 := by rw [← hs1613]; exact (zset_k (by decide)).trans t1611
  refine zt_putF (pc' := 1109) (x := ((215 : Nat) : Int)) hX dX12_init_1106 rfl hN.1 zf_X12_174 (by omega) zc_164 zs_46 (fun q hq => by cases hq; exact ⟨rfl, rfl⟩) (zrf_of rfl) rfl rfl ?_
  generalize hs1621 : zset s1612 164 77 ((215 : Nat) : Int) = s1620
  have q1622 := zCs_ref hs1621 q1614 zc_164 zs_46 rfl (by omega) (by decide)
  have t1623 : s1620 200 2 = -1 := by rw [← hs1621]; exact (zset_k (by decide)).trans t1615
  have t1624 : s1620 200 3 = -1 := by rw [← hs1621]; exact (zset_k (by decide)).trans t1616
  have t1625 : s1620 164 50 = 0 := by rw [← hs1621]; exact (zset_j (by decide)).trans t1617
  have t1626 : s1620 164 54 = 0 := by rw [← hs1621]; exact (zset_j (by decide)).trans t1618
  have t1627 : s1620 164 1 = 0 := by rw [← hs1621]; exact (zset_j (by decide)).trans t1619
  refine zt_aload_n (pc' := 1110) hX dX12_init_1109 rfl rfl ?_
  refine zt_iconst (pc' := 1111) hX dX12_init_1110 rfl ?_
  refine zt_newa (pc' := 1113) (t := 3) (N := 5) hX dX12_init_1111 rfl zw_10_19 rfl (by decide) (by decide) zc_216 zs_98 (by decide) (by decide) (zCs_nx q1622) ⟨by rw [hN.2.1]; exact Nat.le_of_ble_eq_true rfl, by rw [hN.2.2]; exact Nat.le_of_ble_eq_true rfl⟩ ?_
  have q1628 := zCs_arr q1622 zc_216 zs_98 (by decide)
  refine zt_dup (pc' := 1114) hX dX12_init_1113 rfl rfl ?_
  refine zt_iconst (pc' := 1115) hX dX12_init_1114 rfl ?_
  refine zt_bipush (pc' := 1117) hX dX12_init_1115 rfl (by decide) (by decide) ?_
  refine zt_cast (pc' := 1118) hX dX12_init_1117 rfl (by omega) zc_216 zs_98 (by decide) ⟨by decide, by decide⟩ (by decide +kernel) ?_
  rw [show Int.toNat 0 = 0 from rfl]
  generalize hs1630 : zset s1620 216 0 108 = s1629
  have q1631 := zCs_el hs1630 q1628 (by omega) (by omega) zc_216 zs_98 (show 0 ≤ (108 : Int) ∧ (108 : Int) ≤ 65535 from ⟨by decide, by decide⟩)
  have t1632 : s1629 200 2 = -1 := by rw [← hs1630]; exact (zset_k (by decide)).trans t1623
  have t1633 : s1629 200 3 = -1 := by rw [← hs1630]; exact (zset_k (by decide)).trans t1624
  have t1634 : s1629 164 50 = 0 := by rw [← hs1630]; exact (zset_k (by decide)).trans t1625
  have t1635 : s1629 164 54 = 0 := by rw [← hs1630]; exact (zset_k (by decide)).trans t1626
  have t1636 : s1629 164 1 = 0 := by rw [← hs1630]; exact (zset_k (by decide)).trans t1627
  refine zt_dup (pc' := 1119) hX dX12_init_1118 rfl rfl ?_
  refine zt_iconst (pc' := 1120) hX dX12_init_1119 rfl ?_
  refine zt_bipush (pc' := 1122) hX dX12_init_1120 rfl (by decide) (by decide) ?_
  refine zt_cast (pc' := 1123) hX dX12_init_1122 rfl (by omega) zc_216 zs_98 (by decide) ⟨by decide, by decide⟩ (by decide +kernel) ?_
  rw [show Int.toNat 1 = 1 from rfl]
  generalize hs1638 : zset s1629 216 1 101 = s1637
  have q1639 := zCs_el hs1638 q1631 (by omega) (by omega) zc_216 zs_98 (show 0 ≤ (101 : Int) ∧ (101 : Int) ≤ 65535 from ⟨by decide, by decide⟩)
  have t1640 : s1637 200 2 = -1 := by rw [← hs1638]; exact (zset_k (by decide)).trans t1632
  have t1641 : s1637 200 3 = -1 := by rw [← hs1638]; exact (zset_k (by decide)).trans t1633
  have t1642 : s1637 164 50 = 0 := by rw [← hs1638]; exact (zset_k (by decide)).trans t1634
  have t1643 : s1637 164 54 = 0 := by rw [← hs1638]; exact (zset_k (by decide)).trans t1635
  have t1644 : s1637 164 1 = 0 := by rw [← hs1638]; exact (zset_k (by decide)).trans t1636
  refine zt_dup (pc' := 1124) hX dX12_init_1123 rfl rfl ?_
  refine zt_iconst (pc' := 1125) hX dX12_init_1124 rfl ?_
  refine zt_bipush (pc' := 1127) hX dX12_init_1125 rfl (by decide) (by decide) ?_
  refine zt_cast (pc' := 1128) hX dX12_init_1127 rfl (by omega) zc_216 zs_98 (by decide) ⟨by decide, by decide⟩ (by decide +kernel) ?_
  rw [show Int.toNat 2 = 2 from rfl]
  generalize hs1646 : zset s1637 216 2 97 = s1645
  have q1647 := zCs_el hs1646 q1639 (by omega) (by omega) zc_216 zs_98 (show 0 ≤ (97 : Int) ∧ (97 : Int) ≤ 65535 from ⟨by decide, by decide⟩)
  have t1648 : s1645 200 2 = -1 := by rw [← hs1646]; exact (zset_k (by decide)).trans t1640
  have t1649 : s1645 200 3 = -1 := by rw [← hs1646]; exact (zset_k (by decide)).trans t1641
  have t1650 : s1645 164 50 = 0 := by rw [← hs1646]; exact (zset_k (by decide)).trans t1642
  have t1651 : s1645 164 54 = 0 := by rw [← hs1646]; exact (zset_k (by decide)).trans t1643
  have t1652 : s1645 164 1 = 0 := by rw [← hs1646]; exact (zset_k (by decide)).trans t1644
  refine zt_dup (pc' := 1129) hX dX12_init_1128 rfl rfl ?_
  refine zt_iconst (pc' := 1130) hX dX12_init_1129 rfl ?_
  refine zt_bipush (pc' := 1132) hX dX12_init_1130 rfl (by decide) (by decide) ?_
  refine zt_cast (pc' := 1133) hX dX12_init_1132 rfl (by omega) zc_216 zs_98 (by decide) ⟨by decide, by decide⟩ (by decide +kernel) ?_
  rw [show Int.toNat 3 = 3 from rfl]
  generalize hs1654 : zset s1645 216 3 115 = s1653
  have q1655 := zCs_el hs1654 q1647 (by omega) (by omega) zc_216 zs_98 (show 0 ≤ (115 : Int) ∧ (115 : Int) ≤ 65535 from ⟨by decide, by decide⟩)
  have t1656 : s1653 200 2 = -1 := by rw [← hs1654]; exact (zset_k (by decide)).trans t1648
  have t1657 : s1653 200 3 = -1 := by rw [← hs1654]; exact (zset_k (by decide)).trans t1649
  have t1658 : s1653 164 50 = 0 := by rw [← hs1654]; exact (zset_k (by decide)).trans t1650
  have t1659 : s1653 164 54 = 0 := by rw [← hs1654]; exact (zset_k (by decide)).trans t1651
  have t1660 : s1653 164 1 = 0 := by rw [← hs1654]; exact (zset_k (by decide)).trans t1652
  refine zt_dup (pc' := 1134) hX dX12_init_1133 rfl rfl ?_
  refine zt_iconst (pc' := 1135) hX dX12_init_1134 rfl ?_
  refine zt_bipush (pc' := 1137) hX dX12_init_1135 rfl (by decide) (by decide) ?_
  refine zt_cast (pc' := 1138) hX dX12_init_1137 rfl (by omega) zc_216 zs_98 (by decide) ⟨by decide, by decide⟩ (by decide +kernel) ?_
  rw [show Int.toNat 4 = 4 from rfl]
  generalize hs1662 : zset s1653 216 4 116 = s1661
  have q1663 := zCs_el hs1662 q1655 (by omega) (by omega) zc_216 zs_98 (show 0 ≤ (116 : Int) ∧ (116 : Int) ≤ 65535 from ⟨by decide, by decide⟩)
  have t1664 : s1661 200 2 = -1 := by rw [← hs1662]; exact (zset_k (by decide)).trans t1656
  have t1665 : s1661 200 3 = -1 := by rw [← hs1662]; exact (zset_k (by decide)).trans t1657
  have t1666 : s1661 164 50 = 0 := by rw [← hs1662]; exact (zset_k (by decide)).trans t1658
  have t1667 : s1661 164 54 = 0 := by rw [← hs1662]; exact (zset_k (by decide)).trans t1659
  have t1668 : s1661 164 1 = 0 := by rw [← hs1662]; exact (zset_k (by decide)).trans t1660
  refine zt_putF (pc' := 1141) (x := ((216 : Nat) : Int)) hX dX12_init_1138 rfl hN.1 zf_X12_177 (by omega) zc_164 zs_46 (fun q hq => by cases hq; exact ⟨rfl, rfl⟩) (zrf_of rfl) rfl rfl ?_
  generalize hs1670 : zset s1661 164 78 ((216 : Nat) : Int) = s1669
  have q1671 := zCs_ref hs1670 q1663 zc_164 zs_46 rfl (by omega) (by decide)
  have t1672 : s1669 200 2 = -1 := by rw [← hs1670]; exact (zset_k (by decide)).trans t1664
  have t1673 : s1669 200 3 = -1 := by rw [← hs1670]; exact (zset_k (by decide)).trans t1665
  have t1674 : s1669 164 50 = 0 := by rw [← hs1670]; exact (zset_j (by decide)).trans t1666
  have t1675 : s1669 164 54 = 0 := by rw [← hs1670]; exact (zset_j (by decide)).trans t1667
  have t1676 : s1669 164 1 = 0 := by rw [← hs1670]; exact (zset_j (by decide)).trans t1668
  refine zt_aload_n (pc' := 1142) hX dX12_init_1141 rfl rfl ?_
  refine zt_iconst (pc' := 1143) hX dX12_init_1142 rfl ?_
  refine zt_newa (pc' := 1145) (t := 3) (N := 3) hX dX12_init_1143 rfl zw_10_19 rfl (by decide) (by decide) zc_217 zs_99 (by decide) (by decide) (zCs_nx q1671) ⟨by rw [hN.2.1]; exact Nat.le_of_ble_eq_true rfl, by rw [hN.2.2]; exact Nat.le_of_ble_eq_true rfl⟩ ?_
  have q1677 := zCs_arr q1671 zc_217 zs_99 (by decide)
  refine zt_dup (pc' := 1146) hX dX12_init_1145 rfl rfl ?_
  refine zt_iconst (pc' := 1147) hX dX12_init_1146 rfl ?_
  refine zt_bipush (pc' := 1149) hX dX12_init_1147 rfl (by decide) (by decide) ?_
  refine zt_cast (pc' := 1150) hX dX12_init_1149 rfl (by omega) zc_217 zs_99 (by decide) ⟨by decide, by decide⟩ (by decide +kernel) ?_
  rw [show Int.toNat 0 = 0 from rfl]
  generalize hs1679 : zset s1669 217 0 110 = s1678
  have q1680 := zCs_el hs1679 q1677 (by omega) (by omega) zc_217 zs_99 (show 0 ≤ (110 : Int) ∧ (110 : Int) ≤ 65535 from ⟨by decide, by decide⟩)
  have t1681 : s1678 200 2 = -1 := by rw [← hs1679]; exact (zset_k (by decide)).trans t1672
  have t1682 : s1678 200 3 = -1 := by rw [← hs1679]; exact (zset_k (by decide)).trans t1673
  have t1683 : s1678 164 50 = 0 := by rw [← hs1679]; exact (zset_k (by decide)).trans t1674
  have t1684 : s1678 164 54 = 0 := by rw [← hs1679]; exact (zset_k (by decide)).trans t1675
  have t1685 : s1678 164 1 = 0 := by rw [← hs1679]; exact (zset_k (by decide)).trans t1676
  refine zt_dup (pc' := 1151) hX dX12_init_1150 rfl rfl ?_
  refine zt_iconst (pc' := 1152) hX dX12_init_1151 rfl ?_
  refine zt_bipush (pc' := 1154) hX dX12_init_1152 rfl (by decide) (by decide) ?_
  refine zt_cast (pc' := 1155) hX dX12_init_1154 rfl (by omega) zc_217 zs_99 (by decide) ⟨by decide, by decide⟩ (by decide +kernel) ?_
  rw [show Int.toNat 1 = 1 from rfl]
  generalize hs1687 : zset s1678 217 1 111 = s1686
  have q1688 := zCs_el hs1687 q1680 (by omega) (by omega) zc_217 zs_99 (show 0 ≤ (111 : Int) ∧ (111 : Int) ≤ 65535 from ⟨by decide, by decide⟩)
  have t1689 : s1686 200 2 = -1 := by rw [← hs1687]; exact (zset_k (by decide)).trans t1681
  have t1690 : s1686 200 3 = -1 := by rw [← hs1687]; exact (zset_k (by decide)).trans t1682
  have t1691 : s1686 164 50 = 0 := by rw [← hs1687]; exact (zset_k (by decide)).trans t1683
  have t1692 : s1686 164 54 = 0 := by rw [← hs1687]; exact (zset_k (by decide)).trans t1684
  have t1693 : s1686 164 1 = 0 := by rw [← hs1687]; exact (zset_k (by decide)).trans t1685
  refine zt_dup (pc' := 1156) hX dX12_init_1155 rfl rfl ?_
  refine zt_iconst (pc' := 1157) hX dX12_init_1156 rfl ?_
  refine zt_bipush (pc' := 1159) hX dX12_init_1157 rfl (by decide) (by decide) ?_
  refine zt_cast (pc' := 1160) hX dX12_init_1159 rfl (by omega) zc_217 zs_99 (by decide) ⟨by decide, by decide⟩ (by decide +kernel) ?_
  rw [show Int.toNat 2 = 2 from rfl]
  generalize hs1695 : zset s1686 217 2 116 = s1694
  have q1696 := zCs_el hs1695 q1688 (by omega) (by omega) zc_217 zs_99 (show 0 ≤ (116 : Int) ∧ (116 : Int) ≤ 65535 from ⟨by decide, by decide⟩)
  have t1697 : s1694 200 2 = -1 := by rw [← hs1695]; exact (zset_k (by decide)).trans t1689
  have t1698 : s1694 200 3 = -1 := by rw [← hs1695]; exact (zset_k (by decide)).trans t1690
  have t1699 : s1694 164 50 = 0 := by rw [← hs1695]; exact (zset_k (by decide)).trans t1691
  have t1700 : s1694 164 54 = 0 := by rw [← hs1695]; exact (zset_k (by decide)).trans t1692
  have t1701 : s1694 164 1 = 0 := by rw [← hs1695]; exact (zset_k (by decide)).trans t1693
  refine zt_putF (pc' := 1163) (x := ((217 : Nat) : Int)) hX dX12_init_1160 rfl hN.1 zf_X12_180 (by omega) zc_164 zs_46 (fun q hq => by cases hq; exact ⟨rfl, rfl⟩) (zrf_of rfl) rfl rfl ?_
  generalize hs1703 : zset s1694 164 79 ((217 : Nat) : Int) = s1702
  have q1704 := zCs_ref hs1703 q1696 zc_164 zs_46 rfl (by omega) (by decide)
  have t1705 : s1702 200 2 = -1 := by rw [← hs1703]; exact (zset_k (by decide)).trans t1697
  have t1706 : s1702 200 3 = -1 := by rw [← hs1703]; exact (zset_k (by decide)).trans t1698
  have t1707 : s1702 164 50 = 0 := by rw [← hs1703]; exact (zset_j (by decide)).trans t1699
  have t1708 : s1702 164 54 = 0 := by rw [← hs1703]; exact (zset_j (by decide)).trans t1700
  have t1709 : s1702 164 1 = 0 := by rw [← hs1703]; exact (zset_j (by decide)).trans t1701
  refine zt_aload_n (pc' := 1164) hX dX12_init_1163 rfl rfl ?_
  refine zt_iconst (pc' := 1165) hX dX12_init_1164 rfl ?_
  refine zt_newa (pc' := 1167) (t := 3) (N := 3) hX dX12_init_1165 rfl zw_10_19 rfl (by decide) (by decide) zc_218 zs_100 (by decide) (by decide) (zCs_nx q1704) ⟨by rw [hN.2.1]; exact Nat.le_of_ble_eq_true rfl, by rw [hN.2.2]; exact Nat.le_of_ble_eq_true rfl⟩ ?_
  have q1710 := zCs_arr q1704 zc_218 zs_100 (by decide)
  refine zt_dup (pc' := 1168) hX dX12_init_1167 rfl rfl ?_
  refine zt_iconst (pc' := 1169) hX dX12_init_1168 rfl ?_
  refine zt_bipush (pc' := 1171) hX dX12_init_1169 rfl (by decide) (by decide) ?_
  refine zt_cast (pc' := 1172) hX dX12_init_1171 rfl (by omega) zc_218 zs_100 (by decide) ⟨by decide, by decide⟩ (by decide +kernel) ?_
  rw [show Int.toNat 0 = 0 from rfl]
  generalize hs1712 : zset s1702 218 0 97 = s1711
  have q1713 := zCs_el hs1712 q1710 (by omega) (by omega) zc_218 zs_100 (show 0 ≤ (97 : Int) ∧ (97 : Int) ≤ 65535 from ⟨by decide, by decide⟩)
  have t1714 : s1711 200 2 = -1 := by rw [← hs1712]; exact (zset_k (by decide)).trans t1705
  have t1715 : s1711 200 3 = -1 := by rw [← hs1712]; exact (zset_k (by decide)).trans t1706
  have t1716 : s1711 164 50 = 0 := by rw [← hs1712]; exact (zset_k (by decide)).trans t1707
  have t1717 : s1711 164 54 = 0 := by rw [← hs1712]; exact (zset_k (by decide)).trans t1708
  have t1718 : s1711 164 1 = 0 := by rw [← hs1712]; exact (zset_k (by decide)).trans t1709
  refine zt_dup (pc' := 1173) hX dX12_init_1172 rfl rfl ?_
  refine zt_iconst (pc' := 1174) hX dX12_init_1173 rfl ?_
  refine zt_bipush (pc' := 1176) hX dX12_init_1174 rfl (by decide) (by decide) ?_
  refine zt_cast (pc' := 1177) hX dX12_init_1176 rfl (by omega) zc_218 zs_100 (by decide) ⟨by decide, by decide⟩ (by decide +kernel) ?_
  rw [show Int.toNat 1 = 1 from rfl]
  generalize hs1720 : zset s1711 218 1 110 = s1719
  have q1721 := zCs_el hs1720 q1713 (by omega) (by omega) zc_218 zs_100 (show 0 ≤ (110 : Int) ∧ (110 : Int) ≤ 65535 from ⟨by decide, by decide⟩)
  have t1722 : s1719 200 2 = -1 := by rw [← hs1720]; exact (zset_k (by decide)).trans t1714
  have t1723 : s1719 200 3 = -1 := by rw [← hs1720]; exact (zset_k (by decide)).trans t1715
  have t1724 : s1719 164 50 = 0 := by rw [← hs1720]; exact (zset_k (by decide)).trans t1716
  have t1725 : s1719 164 54 = 0 := by rw [← hs1720]; exact (zset_k (by decide)).trans t1717
  have t1726 : s1719 164 1 = 0 := by rw [← hs1720]; exact (zset_k (by decide)).trans t1718
  refine zt_dup (pc' := 1178) hX dX12_init_1177 rfl rfl ?_
  refine zt_iconst (pc' := 1179) hX dX12_init_1178 rfl ?_
  refine zt_bipush (pc' := 1181) hX dX12_init_1179 rfl (by decide) (by decide) ?_
  refine zt_cast (pc' := 1182) hX dX12_init_1181 rfl (by omega) zc_218 zs_100 (by decide) ⟨by decide, by decide⟩ (by decide +kernel) ?_
  rw [show Int.toNat 2 = 2 from rfl]
  generalize hs1728 : zset s1719 218 2 100 = s1727
  have q1729 := zCs_el hs1728 q1721 (by omega) (by omega) zc_218 zs_100 (show 0 ≤ (100 : Int) ∧ (100 : Int) ≤ 65535 from ⟨by decide, by decide⟩)
  have t1730 : s1727 200 2 = -1 := by rw [← hs1728]; exact (zset_k (by decide)).trans t1722
  have t1731 : s1727 200 3 = -1 := by rw [← hs1728]; exact (zset_k (by decide)).trans t1723
  have t1732 : s1727 164 50 = 0 := by rw [← hs1728]; exact (zset_k (by decide)).trans t1724
  have t1733 : s1727 164 54 = 0 := by rw [← hs1728]; exact (zset_k (by decide)).trans t1725
  have t1734 : s1727 164 1 = 0 := by rw [← hs1728]; exact (zset_k (by decide)).trans t1726
  refine zt_putF (pc' := 1185) (x := ((218 : Nat) : Int)) hX dX12_init_1182 rfl hN.1 zf_X12_183 (by omega) zc_164 zs_46 (fun q hq => by cases hq; exact ⟨rfl, rfl⟩) (zrf_of rfl) rfl rfl ?_
  generalize hs1736 : zset s1727 164 80 ((218 : Nat) : Int) = s1735
  have q1737 := zCs_ref hs1736 q1729 zc_164 zs_46 rfl (by omega) (by decide)
  have t1738 : s1735 200 2 = -1 := by rw [← hs1736]; exact (zset_k (by decide)).trans t1730
  have t1739 : s1735 200 3 = -1 := by rw [← hs1736]; exact (zset_k (by decide)).trans t1731
  have t1740 : s1735 164 50 = 0 := by rw [← hs1736]; exact (zset_j (by decide)).trans t1732
  have t1741 : s1735 164 54 = 0 := by rw [← hs1736]; exact (zset_j (by decide)).trans t1733
  have t1742 : s1735 164 1 = 0 := by rw [← hs1736]; exact (zset_j (by decide)).trans t1734
  refine zt_aload_n (pc' := 1186) hX dX12_init_1185 rfl rfl ?_
  refine zt_iconst (pc' := 1187) hX dX12_init_1186 rfl ?_
  refine zt_newa (pc' := 1189) (t := 3) (N := 2) hX dX12_init_1187 rfl zw_10_19 rfl (by decide) (by decide) zc_219 zs_101 (by decide) (by decide) (zCs_nx q1737) ⟨by rw [hN.2.1]; exact Nat.le_of_ble_eq_true rfl, by rw [hN.2.2]; exact Nat.le_of_ble_eq_true rfl⟩ ?_
  have q1743 := zCs_arr q1737 zc_219 zs_101 (by decide)
  refine zt_dup (pc' := 1190) hX dX12_init_1189 rfl rfl ?_
  refine zt_iconst (pc' := 1191) hX dX12_init_1190 rfl ?_
  refine zt_bipush (pc' := 1193) hX dX12_init_1191 rfl (by decide) (by decide) ?_
  refine zt_cast (pc' := 1194) hX dX12_init_1193 rfl (by omega) zc_219 zs_101 (by decide) ⟨by decide, by decide⟩ (by decide +kernel) ?_
  rw [show Int.toNat 0 = 0 from rfl]
  generalize hs1745 : zset s1735 219 0 111 = s1744
  have q1746 := zCs_el hs1745 q1743 (by omega) (by omega) zc_219 zs_101 (show 0 ≤ (111 : Int) ∧ (111 : Int) ≤ 65535 from ⟨by decide, by decide⟩)
  have t1747 : s1744 200 2 = -1 := by rw [← hs1745]; exact (zset_k (by decide)).trans t1738
  have t1748 : s1744 200 3 = -1 := by rw [← hs1745]; exact (zset_k (by decide)).trans t1739
  have t1749 : s1744 164 50 = 0 := by rw [← hs1745]; exact (zset_k (by decide)).trans t1740
  have t1750 : s1744 164 54 = 0 := by rw [← hs1745]; exact (zset_k (by decide)).trans t1741
  have t1751 : s1744 164 1 = 0 := by rw [← hs1745]; exact (zset_k (by decide)).trans t1742
  refine zt_dup (pc' := 1195) hX dX12_init_1194 rfl rfl ?_
  refine zt_iconst (pc' := 1196) hX dX12_init_1195 rfl ?_
  refine zt_bipush (pc' := 1198) hX dX12_init_1196 rfl (by decide) (by decide) ?_
  refine zt_cast (pc' := 1199) hX dX12_init_1198 rfl (by omega) zc_219 zs_101 (by decide) ⟨by decide, by decide⟩ (by decide +kernel) ?_
  rw [show Int.toNat 1 = 1 from rfl]
  generalize hs1753 : zset s1744 219 1 114 = s1752
  have q1754 := zCs_el hs1753 q1746 (by omega) (by omega) zc_219 zs_101 (show 0 ≤ (114 : Int) ∧ (114 : Int) ≤ 65535 from ⟨by decide, by decide⟩)
  have t1755 : s1752 200 2 = -1 := by rw [← hs1753]; exact (zset_k (by decide)).trans t1747
  have t1756 : s1752 200 3 = -1 := by rw [← hs1753]; exact (zset_k (by decide)).trans t1748
  have t1757 : s1752 164 50 = 0 := by rw [← hs1753]; exact (zset_k (by decide)).trans t1749
  have t1758 : s1752 164 54 = 0 := by rw [← hs1753]; exact (zset_k (by decide)).trans t1750
  have t1759 : s1752 164 1 = 0 := by rw [← hs1753]; exact (zset_k (by decide)).trans t1751
  refine zt_putF (pc' := 1202) (x := ((219 : Nat) : Int)) hX dX12_init_1199 rfl hN.1 zf_X12_186 (by omega) zc_164 zs_46 (fun q hq => by cases hq; exact ⟨rfl, rfl⟩) (zrf_of rfl) rfl rfl ?_
  generalize hs1761 : zset s1752 164 81 ((219 : Nat) : Int) = s1760
  have q1762 := zCs_ref hs1761 q1754 zc_164 zs_46 rfl (by omega) (by decide)
  have t1763 : s1760 200 2 = -1 := by rw [← hs1761]; exact (zset_k (by decide)).trans t1755
  have t1764 : s1760 200 3 = -1 := by rw [← hs1761]; exact (zset_k (by decide)).trans t1756
  have t1765 : s1760 164 50 = 0 := by rw [← hs1761]; exact (zset_j (by decide)).trans t1757
  have t1766 : s1760 164 54 = 0 := by rw [← hs1761]; exact (zset_j (by decide)).trans t1758
  have t1767 : s1760 164 1 = 0 := by rw [← hs1761]; exact (zset_j (by decide)).trans t1759
  refine zt_aload_n (pc' := 1203) hX dX12_init_1202 rfl rfl ?_
  refine zt_iconst (pc' := 1204) hX dX12_init_1203 rfl ?_
  refine zt_newa (pc' := 1206) (t := 3) (N := 3) hX dX12_init_1204 rfl zw_10_19 rfl (by decide) (by decide) zc_220 zs_102 (by decide) (by decide) (zCs_nx q1762) ⟨by rw [hN.2.1]; exact Nat.le_of_ble_eq_true rfl, by rw [hN.2.2]; exact Nat.le_of_ble_eq_true rfl⟩ ?_
  have q1768 := zCs_arr q1762 zc_220 zs_102 (by decide)
  refine zt_dup (pc' := 1207) hX dX12_init_1206 rfl rfl ?_
  refine zt_iconst (pc' := 1208) hX dX12_init_1207 rfl ?_
  refine zt_bipush (pc' := 1210) hX dX12_init_1208 rfl (by decide) (by decide) ?_
  refine zt_cast (pc' := 1211) hX dX12_init_1210 rfl (by omega) zc_220 zs_102 (by decide) ⟨by decide, by decide⟩ (by decide +kernel) ?_
  rw [show Int.toNat 0 = 0 from rfl]
  generalize hs1770 : zset s1760 220 0 97 = s1769
  have q1771 := zCs_el hs1770 q1768 (by omega) (by omega) zc_220 zs_102 (show 0 ≤ (97 : Int) ∧ (97 : Int) ≤ 65535 from ⟨by decide, by decide⟩)
  have t1772 : s1769 200 2 = -1 := by rw [← hs1770]; exact (zset_k (by decide)).trans t1763
  have t1773 : s1769 200 3 = -1 := by rw [← hs1770]; exact (zset_k (by decide)).trans t1764
  have t1774 : s1769 164 50 = 0 := by rw [← hs1770]; exact (zset_k (by decide)).trans t1765
  have t1775 : s1769 164 54 = 0 := by rw [← hs1770]; exact (zset_k (by decide)).trans t1766
  have t1776 : s1769 164 1 = 0 := by rw [← hs1770]; exact (zset_k (by decide)).trans t1767
  refine zt_dup (pc' := 1212) hX dX12_init_1211 rfl rfl ?_
  refine zt_iconst (pc' := 1213) hX dX12_init_1212 rfl ?_
  refine zt_bipush (pc' := 1215) hX dX12_init_1213 rfl (by decide) (by decide) ?_
  refine zt_cast (pc' := 1216) hX dX12_init_1215 rfl (by omega) zc_220 zs_102 (by decide) ⟨by decide, by decide⟩ (by decide +kernel) ?_
  rw [show Int.toNat 1 = 1 from rfl]
  generalize hs1778 : zset s1769 220 1 108 = s1777
  have q1779 := zCs_el hs1778 q1771 (by omega) (by omega) zc_220 zs_102 (show 0 ≤ (108 : Int) ∧ (108 : Int) ≤ 65535 from ⟨by decide, by decide⟩)
  have t1780 : s1777 200 2 = -1 := by rw [← hs1778]; exact (zset_k (by decide)).trans t1772
  have t1781 : s1777 200 3 = -1 := by rw [← hs1778]; exact (zset_k (by decide)).trans t1773
  have t1782 : s1777 164 50 = 0 := by rw [← hs1778]; exact (zset_k (by decide)).trans t1774
  have t1783 : s1777 164 54 = 0 := by rw [← hs1778]; exact (zset_k (by decide)).trans t1775
  have t1784 : s1777 164 1 = 0 := by rw [← hs1778]; exact (zset_k (by decide)).trans t1776
  refine zt_dup (pc' := 1217) hX dX12_init_1216 rfl rfl ?_
  refine zt_iconst (pc' := 1218) hX dX12_init_1217 rfl ?_
  refine zt_bipush (pc' := 1220) hX dX12_init_1218 rfl (by decide) (by decide) ?_
  refine zt_cast (pc' := 1221) hX dX12_init_1220 rfl (by omega) zc_220 zs_102 (by decide) ⟨by decide, by decide⟩ (by decide +kernel) ?_
  rw [show Int.toNat 2 = 2 from rfl]
  generalize hs1786 : zset s1777 220 2 108 = s1785
  have q1787 := zCs_el hs1786 q1779 (by omega) (by omega) zc_220 zs_102 (show 0 ≤ (108 : Int) ∧ (108 : Int) ≤ 65535 from ⟨by decide, by decide⟩)
  have t1788 : s1785 200 2 = -1 := by rw [← hs1786]; exact (zset_k (by decide)).trans t1780
  have t1789 : s1785 200 3 = -1 := by rw [← hs1786]; exact (zset_k (by decide)).trans t1781
  have t1790 : s1785 164 50 = 0 := by rw [← hs1786]; exact (zset_k (by decide)).trans t1782
  have t1791 : s1785 164 54 = 0 := by rw [← hs1786]; exact (zset_k (by decide)).trans t1783
  have t1792 : s1785 164 1 = 0 := by rw [← hs1786]; exact (zset_k (by decide)).trans t1784
  refine zt_putF (pc' := 1224) (x := ((220 : Nat) : Int)) hX dX12_init_1221 rfl hN.1 zf_X12_189 (by omega) zc_164 zs_46 (fun q hq => by cases hq; exact ⟨rfl, rfl⟩) (zrf_of rfl) rfl rfl ?_
  generalize hs1794 : zset s1785 164 82 ((220 : Nat) : Int) = s1793
  have q1795 := zCs_ref hs1794 q1787 zc_164 zs_46 rfl (by omega) (by decide)
  have t1796 : s1793 200 2 = -1 := by rw [← hs1794]; exact (zset_k (by decide)).trans t1788
  have t1797 : s1793 200 3 = -1 := by rw [← hs1794]; exact (zset_k (by decide)).trans t1789
  have t1798 : s1793 164 50 = 0 := by rw [← hs1794]; exact (zset_j (by decide)).trans t1790
  have t1799 : s1793 164 54 = 0 := by rw [← hs1794]; exact (zset_j (by decide)).trans t1791
  have t1800 : s1793 164 1 = 0 := by rw [← hs1794]; exact (zset_j (by decide)).trans t1792
  refine zt_aload_n (pc' := 1225) hX dX12_init_1224 rfl rfl ?_
  refine zt_iconst (pc' := 1226) hX dX12_init_1225 rfl ?_
  refine zt_newa (pc' := 1228) (t := 3) (N := 3) hX dX12_init_1226 rfl zw_10_19 rfl (by decide) (by decide) zc_221 zs_103 (by decide) (by decide) (zCs_nx q1795) ⟨by rw [hN.2.1]; exact Nat.le_of_ble_eq_true rfl, by rw [hN.2.2]; exact Nat.le_of_ble_eq_true rfl⟩ ?_
  have q1801 := zCs_arr q1795 zc_221 zs_103 (by decide)
  refine zt_dup (pc' := 1229) hX dX12_init_1228 rfl rfl ?_
  refine zt_iconst (pc' := 1230) hX dX12_init_1229 rfl ?_
  refine zt_bipush (pc' := 1232) hX dX12_init_1230 rfl (by decide) (by decide) ?_
  refine zt_cast (pc' := 1233) hX dX12_init_1232 rfl (by omega) zc_221 zs_103 (by decide) ⟨by decide, by decide⟩ (by decide +kernel) ?_
  rw [show Int.toNat 0 = 0 from rfl]
  generalize hs1803 : zset s1793 221 0 109 = s1802
  have q1804 := zCs_el hs1803 q1801 (by omega) (by omega) zc_221 zs_103 (show 0 ≤ (109 : Int) ∧ (109 : Int) ≤ 65535 from ⟨by decide, by decide⟩)
  have t1805 : s1802 200 2 = -1 := by rw [← hs1803]; exact (zset_k (by decide)).trans t1796
  have t1806 : s1802 200 3 = -1 := by rw [← hs1803]; exact (zset_k (by decide)).trans t1797
  have t1807 : s1802 164 50 = 0 := by rw [← hs1803]; exact (zset_k (by decide)).trans t1798
  have t1808 : s1802 164 54 = 0 := by rw [← hs1803]; exact (zset_k (by decide)).trans t1799
  have t1809 : s1802 164 1 = 0 := by rw [← hs1803]; exact (zset_k (by decide)).trans t1800
  refine zt_dup (pc' := 1234) hX dX12_init_1233 rfl rfl ?_
  refine zt_iconst (pc' := 1235) hX dX12_init_1234 rfl ?_
  refine zt_bipush (pc' := 1237) hX dX12_init_1235 rfl (by decide) (by decide) ?_
  refine zt_cast (pc' := 1238) hX dX12_init_1237 rfl (by omega) zc_221 zs_103 (by decide) ⟨by decide, by decide⟩ (by decide +kernel) ?_
  rw [show Int.toNat 1 = 1 from rfl]
  generalize hs1811 : zset s1802 221 1 105 = s1810
  have q1812 := zCs_el hs1811 q1804 (by omega) (by omega) zc_221 zs_103 (show 0 ≤ (105 : Int) ∧ (105 : Int) ≤ 65535 from ⟨by decide, by decide⟩)
  have t1813 : s1810 200 2 = -1 := by rw [← hs1811]; exact (zset_k (by decide)).trans t1805
  have t1814 : s1810 200 3 = -1 := by rw [← hs1811]; exact (zset_k (by decide)).trans t1806
  have t1815 : s1810 164 50 = 0 := by rw [← hs1811]; exact (zset_k (by decide)).trans t1807
  have t1816 : s1810 164 54 = 0 := by rw [← hs1811]; exact (zset_k (by decide)).trans t1808
  have t1817 : s1810 164 1 = 0 := by rw [← hs1811]; exact (zset_k (by decide)).trans t1809
  refine zt_dup (pc' := 1239) hX dX12_init_1238 rfl rfl ?_
  refine zt_iconst (pc' := 1240) hX dX12_init_1239 rfl ?_
  refine zt_bipush (pc' := 1242) hX dX12_init_1240 rfl (by decide) (by decide) ?_
  refine zt_cast (pc' := 1243) hX dX12_init_1242 rfl (by omega) zc_221 zs_103 (by decide) ⟨by decide, by decide⟩ (by decide +kernel) ?_
  rw [show Int.toNat 2 = 2 from rfl]
  generalize hs1819 : zset s1810 221 2 110 = s1818
  have q1820 := zCs_el hs1819 q1812 (by omega) (by omega) zc_221 zs_103 (show 0 ≤ (110 : Int) ∧ (110 : Int) ≤ 65535 from ⟨by decide, by decide⟩)
  have t1821 : s1818 200 2 = -1 := by rw [← hs1819]; exact (zset_k (by decide)).trans t1813
  have t1822 : s1818 200 3 = -1 := by rw [← hs1819]; exact (zset_k (by decide)).trans t1814
  have t1823 : s1818 164 50 = 0 := by rw [← hs1819]; exact (zset_k (by decide)).trans t1815
  have t1824 : s1818 164 54 = 0 := by rw [← hs1819]; exact (zset_k (by decide)).trans t1816
  have t1825 : s1818 164 1 = 0 := by rw [← hs1819]; exact (zset_k (by decide)).trans t1817
  refine zt_putF (pc' := 1246) (x := ((221 : Nat) : Int)) hX dX12_init_1243 rfl hN.1 zf_X12_192 (by omega) zc_164 zs_46 (fun q hq => by cases hq; exact ⟨rfl, rfl⟩) (zrf_of rfl) rfl rfl ?_
  generalize hs1827 : zset s1818 164 83 ((221 : Nat) : Int) = s1826
  have q1828 := zCs_ref hs1827 q1820 zc_164 zs_46 rfl (by omega) (by decide)
  have t1829 : s1826 200 2 = -1 := by rw [← hs1827]; exact (zset_k (by decide)).trans t1821
  have t1830 : s1826 200 3 = -1 := by rw [← hs1827]; exact (zset_k (by decide)).trans t1822
  have t1831 : s1826 164 50 = 0 := by rw [← hs1827]; exact (zset_j (by decide)).trans t1823
  have t1832 : s1826 164 54 = 0 := by rw [← hs1827]; exact (zset_j (by decide)).trans t1824
  have t1833 : s1826 164 1 = 0 := by rw [← hs1827]; exact (zset_j (by decide)).trans t1825
  refine zt_aload_n (pc' := 1247) hX dX12_init_1246 rfl rfl ?_
  refine zt_iconst (pc' := 1248) hX dX12_init_1247 rfl ?_
  refine zt_newa (pc' := 1250) (t := 3) (N := 3) hX dX12_init_1248 rfl zw_10_19 rfl (by decide) (by decide) zc_222 zs_104 (by decide) (by decide) (zCs_nx q1828) ⟨by rw [hN.2.1]; exact Nat.le_of_ble_eq_true rfl, by rw [hN.2.2]; exact Nat.le_of_ble_eq_true rfl⟩ ?_
  have q1834 := zCs_arr q1828 zc_222 zs_104 (by decide)
  refine zt_dup (pc' := 1251) hX dX12_init_1250 rfl rfl ?_
  refine zt_iconst (pc' := 1252) hX dX12_init_1251 rfl ?_
  refine zt_bipush (pc' := 1254) hX dX12_init_1252 rfl (by decide) (by decide) ?_
  refine zt_cast (pc' := 1255) hX dX12_init_1254 rfl (by omega) zc_222 zs_104 (by decide) ⟨by decide, by decide⟩ (by decide +kernel) ?_
  rw [show Int.toNat 0 = 0 from rfl]
  generalize hs1836 : zset s1826 222 0 109 = s1835
  have q1837 := zCs_el hs1836 q1834 (by omega) (by omega) zc_222 zs_104 (show 0 ≤ (109 : Int) ∧ (109 : Int) ≤ 65535 from ⟨by decide, by decide⟩)
  have t1838 : s1835 200 2 = -1 := by rw [← hs1836]; exact (zset_k (by decide)).trans t1829
  have t1839 : s1835 200 3 = -1 := by rw [← hs1836]; exact (zset_k (by decide)).trans t1830
  have t1840 : s1835 164 50 = 0 := by rw [← hs1836]; exact (zset_k (by decide)).trans t1831
  have t1841 : s1835 164 54 = 0 := by rw [← hs1836]; exact (zset_k (by decide)).trans t1832
  have t1842 : s1835 164 1 = 0 := by rw [← hs1836]; exact (zset_k (by decide)).trans t1833
  refine zt_dup (pc' := 1256) hX dX12_init_1255 rfl rfl ?_
  refine zt_iconst (pc' := 1257) hX dX12_init_1256 rfl ?_
  refine zt_bipush (pc' := 1259) hX dX12_init_1257 rfl (by decide) (by decide) ?_
  refine zt_cast (pc' := 1260) hX dX12_init_1259 rfl (by omega) zc_222 zs_104 (by decide) ⟨by decide, by decide⟩ (by decide +kernel) ?_
  rw [show Int.toNat 1 = 1 from rfl]
  generalize hs1844 : zset s1835 222 1 97 = s1843
  have q1845 := zCs_el hs1844 q1837 (by omega) (by omega) zc_222 zs_104 (show 0 ≤ (97 : Int) ∧ (97 : Int) ≤ 65535 from ⟨by decide, by decide⟩)
  have t1846 : s1843 200 2 = -1 := by rw [← hs1844]; exact (zset_k (by decide)).trans t1838
  have t1847 : s1843 200 3 = -1 := by rw [← hs1844]; exact (zset_k (by decide)).trans t1839
  have t1848 : s1843 164 50 = 0 := by rw [← hs1844]; exact (zset_k (by decide)).trans t1840
  have t1849 : s1843 164 54 = 0 := by rw [← hs1844]; exact (zset_k (by decide)).trans t1841
  have t1850 : s1843 164 1 = 0 := by rw [← hs1844]; exact (zset_k (by decide)).trans t1842
  refine zt_dup (pc' := 1261) hX dX12_init_1260 rfl rfl ?_
  refine zt_iconst (pc' := 1262) hX dX12_init_1261 rfl ?_
  refine zt_bipush (pc' := 1264) hX dX12_init_1262 rfl (by decide) (by decide) ?_
  refine zt_cast (pc' := 1265) hX dX12_init_1264 rfl (by omega) zc_222 zs_104 (by decide) ⟨by decide, by decide⟩ (by decide +kernel) ?_
  rw [show Int.toNat 2 = 2 from rfl]
  generalize hs1852 : zset s1843 222 2 120 = s1851
  have q1853 := zCs_el hs1852 q1845 (by omega) (by omega) zc_222 zs_104 (show 0 ≤ (120 : Int) ∧ (120 : Int) ≤ 65535 from ⟨by decide, by decide⟩)
  have t1854 : s1851 200 2 = -1 := by rw [← hs1852]; exact (zset_k (by decide)).trans t1846
  have t1855 : s1851 200 3 = -1 := by rw [← hs1852]; exact (zset_k (by decide)).trans t1847
  have t1856 : s1851 164 50 = 0 := by rw [← hs1852]; exact (zset_k (by decide)).trans t1848
  have t1857 : s1851 164 54 = 0 := by rw [← hs1852]; exact (zset_k (by decide)).trans t1849
  have t1858 : s1851 164 1 = 0 := by rw [← hs1852]; exact (zset_k (by decide)).trans t1850
  refine zt_putF (pc' := 1268) (x := ((222 : Nat) : Int)) hX dX12_init_1265 rfl hN.1 zf_X12_195 (by omega) zc_164 zs_46 (fun q hq => by cases hq; exact ⟨rfl, rfl⟩) (zrf_of rfl) rfl rfl ?_
  generalize hs1860 : zset s1851 164 84 ((222 : Nat) : Int) = s1859
  have q1861 := zCs_ref hs1860 q1853 zc_164 zs_46 rfl (by omega) (by decide)
  have t1862 : s1859 200 2 = -1 := by rw [← hs1860]; exact (zset_k (by decide)).trans t1854
  have t1863 : s1859 200 3 = -1 := by rw [← hs1860]; exact (zset_k (by decide)).trans t1855
  have t1864 : s1859 164 50 = 0 := by rw [← hs1860]; exact (zset_j (by decide)).trans t1856
  have t1865 : s1859 164 54 = 0 := by rw [← hs1860]; exact (zset_j (by decide)).trans t1857
  have t1866 : s1859 164 1 = 0 := by rw [← hs1860]; exact (zset_j (by decide)).trans t1858
  refine zt_aload_n (pc' := 1269) hX dX12_init_1268 rfl rfl ?_
  refine zt_iconst (pc' := 1270) hX dX12_init_1269 rfl ?_
  refine zt_newa (pc' := 1272) (t := 3) (N := 4) hX dX12_init_1270 rfl zw_10_19 rfl (by decide) (by decide) zc_223 zs_105 (by decide) (by decide) (zCs_nx q1861) ⟨by rw [hN.2.1]; exact Nat.le_of_ble_eq_true rfl, by rw [hN.2.2]; exact Nat.le_of_ble_eq_true rfl⟩ ?_
  have q1867 := zCs_arr q1861 zc_223 zs_105 (by decide)
  refine zt_dup (pc' := 1273) hX dX12_init_1272 rfl rfl ?_
  refine zt_iconst (pc' := 1274) hX dX12_init_1273 rfl ?_
  refine zt_bipush (pc' := 1276) hX dX12_init_1274 rfl (by decide) (by decide) ?_
  refine zt_cast (pc' := 1277) hX dX12_init_1276 rfl (by omega) zc_223 zs_105 (by decide) ⟨by decide, by decide⟩ (by decide +kernel) ?_
  rw [show Int.toNat 0 = 0 from rfl]
  generalize hs1869 : zset s1859 223 0 104 = s1868
  have q1870 := zCs_el hs1869 q1867 (by omega) (by omega) zc_223 zs_105 (show 0 ≤ (104 : Int) ∧ (104 : Int) ≤ 65535 from ⟨by decide, by decide⟩)
  have t1871 : s1868 200 2 = -1 := by rw [← hs1869]; exact (zset_k (by decide)).trans t1862
  have t1872 : s1868 200 3 = -1 := by rw [← hs1869]; exact (zset_k (by decide)).trans t1863
  have t1873 : s1868 164 50 = 0 := by rw [← hs1869]; exact (zset_k (by decide)).trans t1864
  have t1874 : s1868 164 54 = 0 := by rw [← hs1869]; exact (zset_k (by decide)).trans t1865
  have t1875 : s1868 164 1 = 0 := by rw [← hs1869]; exact (zset_k (by decide)).trans t1866
  refine zt_dup (pc' := 1278) hX dX12_init_1277 rfl rfl ?_
  refine zt_iconst (pc' := 1279) hX dX12_init_1278 rfl ?_
  refine zt_bipush (pc' := 1281) hX dX12_init_1279 rfl (by decide) (by decide) ?_
  refine zt_cast (pc' := 1282) hX dX12_init_1281 rfl (by omega) zc_223 zs_105 (by decide) ⟨by decide, by decide⟩ (by decide +kernel) ?_
  rw [show Int.toNat 1 = 1 from rfl]
  generalize hs1877 : zset s1868 223 1 111 = s1876
  have q1878 := zCs_el hs1877 q1870 (by omega) (by omega) zc_223 zs_105 (show 0 ≤ (111 : Int) ∧ (111 : Int) ≤ 65535 from ⟨by decide, by decide⟩)
  have t1879 : s1876 200 2 = -1 := by rw [← hs1877]; exact (zset_k (by decide)).trans t1871
  have t1880 : s1876 200 3 = -1 := by rw [← hs1877]; exact (zset_k (by decide)).trans t1872
  have t1881 : s1876 164 50 = 0 := by rw [← hs1877]; exact (zset_k (by decide)).trans t1873
  have t1882 : s1876 164 54 = 0 := by rw [← hs1877]; exact (zset_k (by decide)).trans t1874
  have t1883 : s1876 164 1 = 0 := by rw [← hs1877]; exact (zset_k (by decide)).trans t1875
  refine zt_dup (pc' := 1283) hX dX12_init_1282 rfl rfl ?_
  refine zt_iconst (pc' := 1284) hX dX12_init_1283 rfl ?_
  refine zt_bipush (pc' := 1286) hX dX12_init_1284 rfl (by decide) (by decide) ?_
  refine zt_cast (pc' := 1287) hX dX12_init_1286 rfl (by omega) zc_223 zs_105 (by decide) ⟨by decide, by decide⟩ (by decide +kernel) ?_
  rw [show Int.toNat 2 = 2 from rfl]
  generalize hs1885 : zset s1876 223 2 117 = s1884
  have q1886 := zCs_el hs1885 q1878 (by omega) (by omega) zc_223 zs_105 (show 0 ≤ (117 : Int) ∧ (117 : Int) ≤ 65535 from ⟨by decide, by decide⟩)
  have t1887 : s1884 200 2 = -1 := by rw [← hs1885]; exact (zset_k (by decide)).trans t1879
  have t1888 : s1884 200 3 = -1 := by rw [← hs1885]; exact (zset_k (by decide)).trans t1880
  have t1889 : s1884 164 50 = 0 := by rw [← hs1885]; exact (zset_k (by decide)).trans t1881
  have t1890 : s1884 164 54 = 0 := by rw [← hs1885]; exact (zset_k (by decide)).trans t1882
  have t1891 : s1884 164 1 = 0 := by rw [← hs1885]; exact (zset_k (by decide)).trans t1883
  refine zt_dup (pc' := 1288) hX dX12_init_1287 rfl rfl ?_
  refine zt_iconst (pc' := 1289) hX dX12_init_1288 rfl ?_
  refine zt_bipush (pc' := 1291) hX dX12_init_1289 rfl (by decide) (by decide) ?_
  refine zt_cast (pc' := 1292) hX dX12_init_1291 rfl (by omega) zc_223 zs_105 (by decide) ⟨by decide, by decide⟩ (by decide +kernel) ?_
  rw [show Int.toNat 3 = 3 from rfl]
  generalize hs1893 : zset s1884 223 3 114 = s1892
  have q1894 := zCs_el hs1893 q1886 (by omega) (by omega) zc_223 zs_105 (show 0 ≤ (114 : Int) ∧ (114 : Int) ≤ 65535 from ⟨by decide, by decide⟩)
  have t1895 : s1892 200 2 = -1 := by rw [← hs1893]; exact (zset_k (by decide)).trans t1887
  have t1896 : s1892 200 3 = -1 := by rw [← hs1893]; exact (zset_k (by decide)).trans t1888
  have t1897 : s1892 164 50 = 0 := by rw [← hs1893]; exact (zset_k (by decide)).trans t1889
  have t1898 : s1892 164 54 = 0 := by rw [← hs1893]; exact (zset_k (by decide)).trans t1890
  have t1899 : s1892 164 1 = 0 := by rw [← hs1893]; exact (zset_k (by decide)).trans t1891
  refine zt_putF (pc' := 1295) (x := ((223 : Nat) : Int)) hX dX12_init_1292 rfl hN.1 zf_X12_198 (by omega) zc_164 zs_46 (fun q hq => by cases hq; exact ⟨rfl, rfl⟩) (zrf_of rfl) rfl rfl ?_
  generalize hs1901 : zset s1892 164 85 ((223 : Nat) : Int) = s1900
  have q1902 := zCs_ref hs1901 q1894 zc_164 zs_46 rfl (by omega) (by decide)
  have t1903 : s1900 200 2 = -1 := by rw [← hs1901]; exact (zset_k (by decide)).trans t1895
  have t1904 : s1900 200 3 = -1 := by rw [← hs1901]; exact (zset_k (by decide)).trans t1896
  have t1905 : s1900 164 50 = 0 := by rw [← hs1901]; exact (zset_j (by decide)).trans t1897
  have t1906 : s1900 164 54 = 0 := by rw [← hs1901]; exact (zset_j (by decide)).trans t1898
  have t1907 : s1900 164 1 = 0 := by rw [← hs1901]; exact (zset_j (by decide)).trans t1899
  refine zt_aload_n (pc' := 1296) hX dX12_init_1295 rfl rfl ?_
  refine zt_bipush (pc' := 1298) hX dX12_init_1296 rfl (by decide) (by decide) ?_
  refine zt_newa (pc' := 1300) (t := 3) (N := 6) hX dX12_init_1298 rfl zw_10_19 rfl (by decide) (by decide) zc_224 zs_106 (by decide) (by decide) (zCs_nx q1902) ⟨by rw [hN.2.1]; exact Nat.le_of_ble_eq_true rfl, by rw [hN.2.2]; exact Nat.le_of_ble_eq_true rfl⟩ ?_
  have q1908 := zCs_arr q1902 zc_224 zs_106 (by decide)
  refine zt_dup (pc' := 1301) hX dX12_init_1300 rfl rfl ?_
  refine zt_iconst (pc' := 1302) hX dX12_init_1301 rfl ?_
  refine zt_bipush (pc' := 1304) hX dX12_init_1302 rfl (by decide) (by decide) ?_
  refine zt_cast (pc' := 1305) hX dX12_init_1304 rfl (by omega) zc_224 zs_106 (by decide) ⟨by decide, by decide⟩ (by decide +kernel) ?_
  rw [show Int.toNat 0 = 0 from rfl]
  generalize hs1910 : zset s1900 224 0 99 = s1909
  have q1911 := zCs_el hs1910 q1908 (by omega) (by omega) zc_224 zs_106 (show 0 ≤ (99 : Int) ∧ (99 : Int) ≤ 65535 from ⟨by decide, by decide⟩)
  have t1912 : s1909 200 2 = -1 := by rw [← hs1910]; exact (zset_k (by decide)).trans t1903
  have t1913 : s1909 200 3 = -1 := by rw [← hs1910]; exact (zset_k (by decide)).trans t1904
  have t1914 : s1909 164 50 = 0 := by rw [← hs1910]; exact (zset_k (by decide)).trans t1905
  have t1915 : s1909 164 54 = 0 := by rw [← hs1910]; exact (zset_k (by decide)).trans t1906
  have t1916 : s1909 164 1 = 0 := by rw [← hs1910]; exact (zset_k (by decide)).trans t1907
  refine zt_dup (pc' := 1306) hX dX12_init_1305 rfl rfl ?_
  refine zt_iconst (pc' := 1307) hX dX12_init_1306 rfl ?_
  refine zt_bipush (pc' := 1309) hX dX12_init_1307 rfl (by decide) (by decide) ?_
  refine zt_cast (pc' := 1310) hX dX12_init_1309 rfl (by omega) zc_224 zs_106 (by decide) ⟨by decide, by decide⟩ (by decide +kernel) ?_
  rw [show Int.toNat 1 = 1 from rfl]
  generalize hs1918 : zset s1909 224 1 114 = s1917
  have q1919 := zCs_el hs1918 q1911 (by omega) (by omega) zc_224 zs_106 (show 0 ≤ (114 : Int) ∧ (114 : Int) ≤ 65535 from ⟨by decide, by decide⟩)
  have t1920 : s1917 200 2 = -1 := by rw [← hs1918]; exact (zset_k (by decide)).trans t1912
  have t1921 : s1917 200 3 = -1 := by rw [← hs1918]; exact (zset_k (by decide)).trans t1913
  have t1922 : s1917 164 50 = 0 := by rw [← hs1918]; exact (zset_k (by decide)).trans t1914
  have t1923 : s1917 164 54 = 0 := by rw [← hs1918]; exact (zset_k (by decide)).trans t1915
  have t1924 : s1917 164 1 = 0 := by rw [← hs1918]; exact (zset_k (by decide)).trans t1916
  refine zt_dup (pc' := 1311) hX dX12_init_1310 rfl rfl ?_
  refine zt_iconst (pc' := 1312) hX dX12_init_1311 rfl ?_
  refine zt_bipush (pc' := 1314) hX dX12_init_1312 rfl (by decide) (by decide) ?_
  refine zt_cast (pc' := 1315) hX dX12_init_1314 rfl (by omega) zc_224 zs_106 (by decide) ⟨by decide, by decide⟩ (by decide +kernel) ?_
  rw [show Int.toNat 2 = 2 from rfl]
  generalize hs1926 : zset s1917 224 2 97 = s1925
  have q1927 := zCs_el hs1926 q1919 (by omega) (by omega) zc_224 zs_106 (show 0 ≤ (97 : Int) ∧ (97 : Int) ≤ 65535 from ⟨by decide, by decide⟩)
  have t1928 : s1925 200 2 = -1 := by rw [← hs1926]; exact (zset_k (by decide)).trans t1920
  have t1929 : s1925 200 3 = -1 := by rw [← hs1926]; exact (zset_k (by decide)).trans t1921
  have t1930 : s1925 164 50 = 0 := by rw [← hs1926]; exact (zset_k (by decide)).trans t1922
  have t1931 : s1925 164 54 = 0 := by rw [← hs1926]; exact (zset_k (by decide)).trans t1923
  have t1932 : s1925 164 1 = 0 := by rw [← hs1926]; exact (zset_k (by decide)).trans t1924
  refine zt_dup (pc' := 1316) hX dX12_init_1315 rfl rfl ?_
  refine zt_iconst (pc' := 1317) hX dX12_init_1316 rfl ?_
  refine zt_bipush (pc' := 1319) hX dX12_init_1317 rfl (by decide) (by decide) ?_
  refine zt_cast (pc' := 1320) hX dX12_init_1319 rfl (by omega) zc_224 zs_106 (by decide) ⟨by decide, by decide⟩ (by decide +kernel) ?_
  rw [show Int.toNat 3 = 3 from rfl]
  generalize hs1934 : zset s1925 224 3 99 = s1933
  have q1935 := zCs_el hs1934 q1927 (by omega) (by omega) zc_224 zs_106 (show 0 ≤ (99 : Int) ∧ (99 : Int) ≤ 65535 from ⟨by decide, by decide⟩)
  have t1936 : s1933 200 2 = -1 := by rw [← hs1934]; exact (zset_k (by decide)).trans t1928
  have t1937 : s1933 200 3 = -1 := by rw [← hs1934]; exact (zset_k (by decide)).trans t1929
  have t1938 : s1933 164 50 = 0 := by rw [← hs1934]; exact (zset_k (by decide)).trans t1930
  have t1939 : s1933 164 54 = 0 := by rw [← hs1934]; exact (zset_k (by decide)).trans t1931
  have t1940 : s1933 164 1 = 0 := by rw [← hs1934]; exact (zset_k (by decide)).trans t1932
  refine zt_dup (pc' := 1321) hX dX12_init_1320 rfl rfl ?_
  refine zt_iconst (pc' := 1322) hX dX12_init_1321 rfl ?_
  refine zt_bipush (pc' := 1324) hX dX12_init_1322 rfl (by decide) (by decide) ?_
  refine zt_cast (pc' := 1325) hX dX12_init_1324 rfl (by omega) zc_224 zs_106 (by decide) ⟨by decide, by decide⟩ (by decide +kernel) ?_
  rw [show Int.toNat 4 = 4 from rfl]
  generalize hs1942 : zset s1933 224 4 107 = s1941
  have q1943 := zCs_el hs1942 q1935 (by omega) (by omega) zc_224 zs_106 (show 0 ≤ (107 : Int) ∧ (107 : Int) ≤ 65535 from ⟨by decide, by decide⟩)
  have t1944 : s1941 200 2 = -1 := by rw [← hs1942]; exact (zset_k (by decide)).trans t1936
  have t1945 : s1941 200 3 = -1 := by rw [← hs1942]; exact (zset_k (by decide)).trans t1937
  have t1946 : s1941 164 50 = 0 := by rw [← hs1942]; exact (zset_k (by decide)).trans t1938
  have t1947 : s1941 164 54 = 0 := by rw [← hs1942]; exact (zset_k (by decide)).trans t1939
  have t1948 : s1941 164 1 = 0 := by rw [← hs1942]; exact (zset_k (by decide)).trans t1940
  refine zt_dup (pc' := 1326) hX dX12_init_1325 rfl rfl ?_
  refine zt_iconst (pc' := 1327) hX dX12_init_1326 rfl ?_
  refine zt_bipush (pc' := 1329) hX dX12_init_1327 rfl (by decide) (by decide) ?_
  refine zt_cast (pc' := 1330) hX dX12_init_1329 rfl (by omega) zc_224 zs_106 (by decide) ⟨by decide, by decide⟩ (by decide +kernel) ?_
  rw [show Int.toNat 5 = 5 from rfl]
  generalize hs1950 : zset s1941 224 5 115 = s1949
  have q1951 := zCs_el hs1950 q1943 (by omega) (by omega) zc_224 zs_106 (show 0 ≤ (115 : Int) ∧ (115 : Int) ≤ 65535 from ⟨by decide, by decide⟩)
  have t1952 : s1949 200 2 = -1 := by rw [← hs1950]; exact (zset_k (by decide)).trans t1944
  have t1953 : s1949 200 3 = -1 := by rw [← hs1950]; exact (zset_k (by decide)).trans t1945
  have t1954 : s1949 164 50 = 0 := by rw [← hs1950]; exact (zset_k (by decide)).trans t1946
  have t1955 : s1949 164 54 = 0 := by rw [← hs1950]; exact (zset_k (by decide)).trans t1947
  have t1956 : s1949 164 1 = 0 := by rw [← hs1950]; exact (zset_k (by decide)).trans t1948
  refine zt_putF (pc' := 1333) (x := ((224 : Nat) : Int)) hX dX12_init_1330 rfl hN.1 zf_X12_201 (by omega) zc_164 zs_46 (fun q hq => by cases hq; exact ⟨rfl, rfl⟩) (zrf_of rfl) rfl rfl ?_
  generalize hs1958 : zset s1949 164 86 ((224 : Nat) : Int) = s1957
  have q1959 := zCs_ref hs1958 q1951 zc_164 zs_46 rfl (by omega) (by decide)
  have t1960 : s1957 200 2 = -1 := by rw [← hs1958]; exact (zset_k (by decide)).trans t1952
  have t1961 : s1957 200 3 = -1 := by rw [← hs1958]; exact (zset_k (by decide)).trans t1953
  have t1962 : s1957 164 50 = 0 := by rw [← hs1958]; exact (zset_j (by decide)).trans t1954
  have t1963 : s1957 164 54 = 0 := by rw [← hs1958]; exact (zset_j (by decide)).trans t1955
  have t1964 : s1957 164 1 = 0 := by rw [← hs1958]; exact (zset_j (by decide)).trans t1956
  refine zt_aload_n (pc' := 1334) hX dX12_init_1333 rfl rfl ?_
  refine zt_bipush (pc' := 1336) hX dX12_init_1334 rfl (by decide) (by decide) ?_
  refine zt_newa (pc' := 1338) (t := 3) (N := 6) hX dX12_init_1336 rfl zw_10_19 rfl (by decide) (by decide) zc_225 zs_107 (by decide) (by decide) (zCs_nx q1959) ⟨by rw [hN.2.1]; exact Nat.le_of_ble_eq_true rfl, by rw [hN.2.2]; exact Nat.le_of_ble_eq_true rfl⟩ ?_
  have q1965 := zCs_arr q1959 zc_225 zs_107 (by decide)
  refine zt_dup (pc' := 1339) hX dX12_init_1338 rfl rfl ?_
  refine zt_iconst (pc' := 1340) hX dX12_init_1339 rfl ?_
  refine zt_bipush (pc' := 1342) hX dX12_init_1340 rfl (by decide) (by decide) ?_
  refine zt_cast (pc' := 1343) hX dX12_init_1342 rfl (by omega) zc_225 zs_107 (by decide) ⟨by decide, by decide⟩ (by decide +kernel) ?_
  rw [show Int.toNat 0 = 0 from rfl]
  generalize hs1967 : zset s1957 225 0 119 = s1966
  have q1968 := zCs_el hs1967 q1965 (by omega) (by omega) zc_225 zs_107 (show 0 ≤ (119 : Int) ∧ (119 : Int) ≤ 65535 from ⟨by decide, by decide⟩)
  have t1969 : s1966 200 2 = -1 := by rw [← hs1967]; exact (zset_k (by decide)).trans t1960
  have t1970 : s1966 200 3 = -1 := by rw [← hs1967]; exact (zset_k (by decide)).trans t1961
  have t1971 : s1966 164 50 = 0 := by rw [← hs1967]; exact (zset_k (by decide)).trans t1962
  have t1972 : s1966 164 54 = 0 := by rw [← hs1967]; exact (zset_k (by decide)).trans t1963
  have t1973 : s1966 164 1 = 0 := by rw [← hs1967]; exact (zset_k (by decide)).trans t1964
  refine zt_dup (pc' := 1344) hX dX12_init_1343 rfl rfl ?_
  refine zt_iconst (pc' := 1345) hX dX12_init_1344 rfl ?_
  refine zt_bipush (pc' := 1347) hX dX12_init_1345 rfl (by decide) (by decide) ?_
  refine zt_cast (pc' := 1348) hX dX12_init_1347 rfl (by omega) zc_225 zs_107 (by decide) ⟨by decide, by decide⟩ (by decide +kernel) ?_
  rw [show Int.toNat 1 = 1 from rfl]
  generalize hs1975 : zset s1966 225 1 101 = s1974
  have q1976 := zCs_el hs1975 q1968 (by omega) (by omega) zc_225 zs_107 (show 0 ≤ (101 : Int) ∧ (101 : Int) ≤ 65535 from ⟨by decide, by decide⟩)
  have t1977 : s1974 200 2 = -1 := by rw [← hs1975]; exact (zset_k (by decide)).trans t1969
  have t1978 : s1974 200 3 = -1 := by rw [← hs1975]; exact (zset_k (by decide)).trans t1970
  have t1979 : s1974 164 50 = 0 := by rw [← hs1975]; exact (zset_k (by decide)).trans t1971
  have t1980 : s1974 164 54 = 0 := by rw [← hs1975]; exact (zset_k (by decide)).trans t1972
  have t1981 : s1974 164 1 = 0 := by rw [← hs1975]; exact (zset_k (by decide)).trans t1973
  refine zt_dup (pc' := 1349) hX dX12_init_1348 rfl rfl ?_
  refine zt_iconst (pc' := 1350) hX dX12_init_1349 rfl ?_
  refine zt_bipush (pc' := 1352) hX dX12_init_1350 rfl (by decide) (by decide) ?_
  refine zt_cast (pc' := 1353) hX dX12_init_1352 rfl (by omega) zc_225 zs_107 (by decide) ⟨by decide, by decide⟩ (by decide +kernel) ?_
  rw [show Int.toNat 2 = 2 from rfl]
  generalize hs1983 : zset s1974 225 2 105 = s1982
  have q1984 := zCs_el hs1983 q1976 (by omega) (by omega) zc_225 zs_107 (show 0 ≤ (105 : Int) ∧ (105 : Int) ≤ 65535 from ⟨by decide, by decide⟩)
  have t1985 : s1982 200 2 = -1 := by rw [← hs1983]; exact (zset_k (by decide)).trans t1977
  have t1986 : s1982 200 3 = -1 := by rw [← hs1983]; exact (zset_k (by decide)).trans t1978
  have t1987 : s1982 164 50 = 0 := by rw [← hs1983]; exact (zset_k (by decide)).trans t1979
  have t1988 : s1982 164 54 = 0 := by rw [← hs1983]; exact (zset_k (by decide)).trans t1980
  have t1989 : s1982 164 1 = 0 := by rw [← hs1983]; exact (zset_k (by decide)).trans t1981
  refine zt_dup (pc' := 1354) hX dX12_init_1353 rfl rfl ?_
  refine zt_iconst (pc' := 1355) hX dX12_init_1354 rfl ?_
  refine zt_bipush (pc' := 1357) hX dX12_init_1355 rfl (by decide) (by decide) ?_
  refine zt_cast (pc' := 1358) hX dX12_init_1357 rfl (by omega) zc_225 zs_107 (by decide) ⟨by decide, by decide⟩ (by decide +kernel) ?_
  rw [show Int.toNat 3 = 3 from rfl]
  generalize hs1991 : zset s1982 225 3 103 = s1990
  have q1992 := zCs_el hs1991 q1984 (by omega) (by omega) zc_225 zs_107 (show 0 ≤ (103 : Int) ∧ (103 : Int) ≤ 65535 from ⟨by decide, by decide⟩)
  have t1993 : s1990 200 2 = -1 := by rw [← hs1991]; exact (zset_k (by decide)).trans t1985
  have t1994 : s1990 200 3 = -1 := by rw [← hs1991]; exact (zset_k (by decide)).trans t1986
  have t1995 : s1990 164 50 = 0 := by rw [← hs1991]; exact (zset_k (by decide)).trans t1987
  have t1996 : s1990 164 54 = 0 := by rw [← hs1991]; exact (zset_k (by decide)).trans t1988
  have t1997 : s1990 164 1 = 0 := by rw [← hs1991]; exact (zset_k (by decide)).trans t1989
  refine zt_dup (pc' := 1359) hX dX12_init_1358 rfl rfl ?_
  refine zt_iconst (pc' := 1360) hX dX12_init_1359 rfl ?_
  refine zt_bipush (pc' := 1362) hX dX12_init_1360 rfl (by decide) (by decide) ?_
  refine zt_cast (pc' := 1363) hX dX12_init_1362 rfl (by omega) zc_225 zs_107 (by decide) ⟨by decide, by decide⟩ (by decide +kernel) ?_
  rw [show Int.toNat 4 = 4 from rfl]
  generalize hs1999 : zset s1990 225 4 104 = s1998
  have q2000 := zCs_el hs1999 q1992 (by omega) (by omega) zc_225 zs_107 (show 0 ≤ (104 : Int) ∧ (104 : Int) ≤ 65535 from ⟨by decide, by decide⟩)
  have t2001 : s1998 200 2 = -1 := by rw [← hs1999]; exact (zset_k (by decide)).trans t1993
  have t2002 : s1998 200 3 = -1 := by rw [← hs1999]; exact (zset_k (by decide)).trans t1994
  have t2003 : s1998 164 50 = 0 := by rw [← hs1999]; exact (zset_k (by decide)).trans t1995
  have t2004 : s1998 164 54 = 0 := by rw [← hs1999]; exact (zset_k (by decide)).trans t1996
  have t2005 : s1998 164 1 = 0 := by rw [← hs1999]; exact (zset_k (by decide)).trans t1997
  refine zt_dup (pc' := 1364) hX dX12_init_1363 rfl rfl ?_
  refine zt_iconst (pc' := 1365) hX dX12_init_1364 rfl ?_
  refine zt_bipush (pc' := 1367) hX dX12_init_1365 rfl (by decide) (by decide) ?_
  refine zt_cast (pc' := 1368) hX dX12_init_1367 rfl (by omega) zc_225 zs_107 (by decide) ⟨by decide, by decide⟩ (by decide +kernel) ?_
  rw [show Int.toNat 5 = 5 from rfl]
  generalize hs2007 : zset s1998 225 5 116 = s2006
  have q2008 := zCs_el hs2007 q2000 (by omega) (by omega) zc_225 zs_107 (show 0 ≤ (116 : Int) ∧ (116 : Int) ≤ 65535 from ⟨by decide, by decide⟩)
  have t2009 : s2006 200 2 = -1 := by rw [← hs2007]; exact (zset_k (by decide)).trans t2001
  have t2010 : s2006 200 3 = -1 := by rw [← hs2007]; exact (zset_k (by decide)).trans t2002
  have t2011 : s2006 164 50 = 0 := by rw [← hs2007]; exact (zset_k (by decide)).trans t2003
  have t2012 : s2006 164 54 = 0 := by rw [← hs2007]; exact (zset_k (by decide)).trans t2004
  have t2013 : s2006 164 1 = 0 := by rw [← hs2007]; exact (zset_k (by decide)).trans t2005
  refine zt_putF (pc' := 1371) (x := ((225 : Nat) : Int)) hX dX12_init_1368 rfl hN.1 zf_X12_204 (by omega) zc_164 zs_46 (fun q hq => by cases hq; exact ⟨rfl, rfl⟩) (zrf_of rfl) rfl rfl ?_
  generalize hs2015 : zset s2006 164 87 ((225 : Nat) : Int) = s2014
  have q2016 := zCs_ref hs2015 q2008 zc_164 zs_46 rfl (by omega) (by decide)
  have t2017 : s2014 200 2 = -1 := by rw [← hs2015]; exact (zset_k (by decide)).trans t2009
  have t2018 : s2014 200 3 = -1 := by rw [← hs2015]; exact (zset_k (by decide)).trans t2010
  have t2019 : s2014 164 50 = 0 := by rw [← hs2015]; exact (zset_j (by decide)).trans t2011
  have t2020 : s2014 164 54 = 0 := by rw [← hs2015]; exact (zset_j (by decide)).trans t2012
  have t2021 : s2014 164 1 = 0 := by rw [← hs2015]; exact (zset_j (by decide)).trans t2013
  refine zt_aload_n (pc' := 1372) hX dX12_init_1371 rfl rfl ?_
  refine zt_iconst (pc' := 1373) hX dX12_init_1372 rfl ?_
  refine zt_newa (pc' := 1375) (t := 3) (N := 5) hX dX12_init_1373 rfl zw_10_19 rfl (by decide) (by decide) zc_226 zs_108 (by decide) (by decide) (zCs_nx q2016) ⟨by rw [hN.2.1]; exact Nat.le_of_ble_eq_true rfl, by rw [hN.2.2]; exact Nat.le_of_ble_eq_true rfl⟩ ?_
  have q2022 := zCs_arr q2016 zc_226 zs_108 (by decide)
  refine zt_dup (pc' := 1376) hX dX12_init_1375 rfl rfl ?_
  refine zt_iconst (pc' := 1377) hX dX12_init_1376 rfl ?_
  refine zt_bipush (pc' := 1379) hX dX12_init_1377 rfl (by decide) (by decide) ?_
  refine zt_cast (pc' := 1380) hX dX12_init_1379 rfl (by omega) zc_226 zs_108 (by decide) ⟨by decide, by decide⟩ (by decide +kernel) ?_
  rw [show Int.toNat 0 = 0 from rfl]
  generalize hs2024 : zset s2014 226 0 108 = s2023
  have q2025 := zCs_el hs2024 q2022 (by omega) (by omega) zc_226 zs_108 (show 0 ≤ (108 : Int) ∧ (108 : Int) ≤ 65535 from ⟨by decide, by decide⟩)
  have t2026 : s2023 200 2 = -1 := by rw [← hs2024]; exact (zset_k (by decide)).trans t2017
  have t2027 : s2023 200 3 = -1 := by rw [← hs2024]; exact (zset_k (by decide)).trans t2018
  have t2028 : s2023 164 50 = 0 := by rw [← hs2024]; exact (zset_k (by decide)).trans t2019
  have t2029 : s2023 164 54 = 0 := by rw [← hs2024]; exact (zset_k (by decide)).trans t2020
  have t2030 : s2023 164 1 = 0 := by rw [← hs2024]; exact (zset_k (by decide)).trans t2021
  refine zt_dup (pc' := 1381) hX dX12_init_1380 rfl rfl ?_
  refine zt_iconst (pc' := 1382) hX dX12_init_1381 rfl ?_
  refine zt_bipush (pc' := 1384) hX dX12_init_1382 rfl (by decide) (by decide) ?_
  refine zt_cast (pc' := 1385) hX dX12_init_1384 rfl (by omega) zc_226 zs_108 (by decide) ⟨by decide, by decide⟩ (by decide +kernel) ?_
  rw [show Int.toNat 1 = 1 from rfl]
  generalize hs2032 : zset s2023 226 1 105 = s2031
  have q2033 := zCs_el hs2032 q2025 (by omega) (by omega) zc_226 zs_108 (show 0 ≤ (105 : Int) ∧ (105 : Int) ≤ 65535 from ⟨by decide, by decide⟩)
  have t2034 : s2031 200 2 = -1 := by rw [← hs2032]; exact (zset_k (by decide)).trans t2026
  have t2035 : s2031 200 3 = -1 := by rw [← hs2032]; exact (zset_k (by decide)).trans t2027
  have t2036 : s2031 164 50 = 0 := by rw [← hs2032]; exact (zset_k (by decide)).trans t2028
  have t2037 : s2031 164 54 = 0 := by rw [← hs2032]; exact (zset_k (by decide)).trans t2029
  have t2038 : s2031 164 1 = 0 := by rw [← hs2032]; exact (zset_k (by decide)).trans t2030
  refine zt_dup (pc' := 1386) hX dX12_init_1385 rfl rfl ?_
  refine zt_iconst (pc' := 1387) hX dX12_init_1386 rfl ?_
  refine zt_bipush (pc' := 1389) hX dX12_init_1387 rfl (by decide) (by decide) ?_
  refine zt_cast (pc' := 1390) hX dX12_init_1389 rfl (by omega) zc_226 zs_108 (by decide) ⟨by decide, by decide⟩ (by decide +kernel) ?_
  rw [show Int.toNat 2 = 2 from rfl]
  generalize hs2040 : zset s2031 226 2 102 = s2039
  have q2041 := zCs_el hs2040 q2033 (by omega) (by omega) zc_226 zs_108 (show 0 ≤ (102 : Int) ∧ (102 : Int) ≤ 65535 from ⟨by decide, by decide⟩)
  have t2042 : s2039 200 2 = -1 := by rw [← hs2040]; exact (zset_k (by decide)).trans t2034
  have t2043 : s2039 200 3 = -1 := by rw [← hs2040]; exact (zset_k (by decide)).trans t2035
  have t2044 : s2039 164 50 = 0 := by rw [← hs2040]; exact (zset_k (by decide)).trans t2036
  have t2045 : s2039 164 54 = 0 := by rw [← hs2040]; exact (zset_k (by decide)).trans t2037
  have t2046 : s2039 164 1 = 0 := by rw [← hs2040]; exact (zset_k (by decide)).trans t2038
  refine zt_dup (pc' := 1391) hX dX12_init_1390 rfl rfl ?_
  refine zt_iconst (pc' := 1392) hX dX12_init_1391 rfl ?_
  refine zt_bipush (pc' := 1394) hX dX12_init_1392 rfl (by decide) (by decide) ?_
  refine zt_cast (pc' := 1395) hX dX12_init_1394 rfl (by omega) zc_226 zs_108 (by decide) ⟨by decide, by decide⟩ (by decide +kernel) ?_
  rw [show Int.toNat 3 = 3 from rfl]
  generalize hs2048 : zset s2039 226 3 116 = s2047
  have q2049 := zCs_el hs2048 q2041 (by omega) (by omega) zc_226 zs_108 (show 0 ≤ (116 : Int) ∧ (116 : Int) ≤ 65535 from ⟨by decide, by decide⟩)
  have t2050 : s2047 200 2 = -1 := by rw [← hs2048]; exact (zset_k (by decide)).trans t2042
  have t2051 : s2047 200 3 = -1 := by rw [← hs2048]; exact (zset_k (by decide)).trans t2043
  have t2052 : s2047 164 50 = 0 := by rw [← hs2048]; exact (zset_k (by decide)).trans t2044
  have t2053 : s2047 164 54 = 0 := by rw [← hs2048]; exact (zset_k (by decide)).trans t2045
  have t2054 : s2047 164 1 = 0 := by rw [← hs2048]; exact (zset_k (by decide)).trans t2046
  refine zt_dup (pc' := 1396) hX dX12_init_1395 rfl rfl ?_
  refine zt_iconst (pc' := 1397) hX dX12_init_1396 rfl ?_
  refine zt_bipush (pc' := 1399) hX dX12_init_1397 rfl (by decide) (by decide) ?_
  refine zt_cast (pc' := 1400) hX dX12_init_1399 rfl (by omega) zc_226 zs_108 (by decide) ⟨by decide, by decide⟩ (by decide +kernel) ?_
  rw [show Int.toNat 4 = 4 from rfl]
  generalize hs2056 : zset s2047 226 4 115 = s2055
  have q2057 := zCs_el hs2056 q2049 (by omega) (by omega) zc_226 zs_108 (show 0 ≤ (115 : Int) ∧ (115 : Int) ≤ 65535 from ⟨by decide, by decide⟩)
  have t2058 : s2055 200 2 = -1 := by rw [← hs2056]; exact (zset_k (by decide)).trans t2050
  have t2059 : s2055 200 3 = -1 := by rw [← hs2056]; exact (zset_k (by decide)).trans t2051
  have t2060 : s2055 164 50 = 0 := by rw [← hs2056]; exact (zset_k (by decide)).trans t2052
  have t2061 : s2055 164 54 = 0 := by rw [← hs2056]; exact (zset_k (by decide)).trans t2053
  have t2062 : s2055 164 1 = 0 := by rw [← hs2056]; exact (zset_k (by decide)).trans t2054
  refine zt_putF (pc' := 1403) (x := ((226 : Nat) : Int)) hX dX12_init_1400 rfl hN.1 zf_X12_207 (by omega) zc_164 zs_46 (fun q hq => by cases hq; exact ⟨rfl, rfl⟩) (zrf_of rfl) rfl rfl ?_
  generalize hs2064 : zset s2055 164 88 ((226 : Nat) : Int) = s2063
  have q2065 := zCs_ref hs2064 q2057 zc_164 zs_46 rfl (by omega) (by decide)
  have t2066 : s2063 200 2 = -1 := by rw [← hs2064]; exact (zset_k (by decide)).trans t2058
  have t2067 : s2063 200 3 = -1 := by rw [← hs2064]; exact (zset_k (by decide)).trans t2059
  have t2068 : s2063 164 50 = 0 := by rw [← hs2064]; exact (zset_j (by decide)).trans t2060
  have t2069 : s2063 164 54 = 0 := by rw [← hs2064]; exact (zset_j (by decide)).trans t2061
  have t2070 : s2063 164 1 = 0 := by rw [← hs2064]; exact (zset_j (by decide)).trans t2062
  refine zt_aload_n (pc' := 1404) hX dX12_init_1403 rfl rfl ?_
  refine zt_iconst (pc' := 1405) hX dX12_init_1404 rfl ?_
  refine zt_newa (pc' := 1407) (t := 3) (N := 5) hX dX12_init_1405 rfl zw_10_19 rfl (by decide) (by decide) zc_227 zs_109 (by decide) (by decide) (zCs_nx q2065) ⟨by rw [hN.2.1]; exact Nat.le_of_ble_eq_true rfl, by rw [hN.2.2]; exact Nat.le_of_ble_eq_true rfl⟩ ?_
  have q2071 := zCs_arr q2065 zc_227 zs_109 (by decide)
  refine zt_dup (pc' := 1408) hX dX12_init_1407 rfl rfl ?_
  refine zt_iconst (pc' := 1409) hX dX12_init_1408 rfl ?_
  refine zt_bipush (pc' := 1411) hX dX12_init_1409 rfl (by decide) (by decide) ?_
  refine zt_cast (pc' := 1412) hX dX12_init_1411 rfl (by omega) zc_227 zs_109 (by decide) ⟨by decide, by decide⟩ (by decide +kernel) ?_
  rw [show Int.toNat 0 = 0 from rfl]
  generalize hs2073 : zset s2063 227 0 116 = s2072
  have q2074 := zCs_el hs2073 q2071 (by omega) (by omega) zc_227 zs_109 (show 0 ≤ (116 : Int) ∧ (116 : Int) ≤ 65535 from ⟨by decide, by decide⟩)
  have t2075 : s2072 200 2 = -1 := by rw [← hs2073]; exact (zset_k (by decide)).trans t2066
  have t2076 : s2072 200 3 = -1 := by rw [← hs2073]; exact (zset_k (by decide)).trans t2067
  have t2077 : s2072 164 50 = 0 := by rw [← hs2073]; exact (zset_k (by decide)).trans t2068
  have t2078 : s2072 164 54 = 0 := by rw [← hs2073]; exact (zset_k (by decide)).trans t2069
  have t2079 : s2072 164 1 = 0 := by rw [← hs2073]; exact (zset_k (by decide)).trans t2070
  refine zt_dup (pc' := 1413) hX dX12_init_1412 rfl rfl ?_
  refine zt_iconst (pc' := 1414) hX dX12_init_1413 rfl ?_
  refine zt_bipush (pc' := 1416) hX dX12_init_1414 rfl (by decide) (by decide) ?_
  refine zt_cast (pc' := 1417) hX dX12_init_1416 rfl (by omega) zc_227 zs_109 (by decide) ⟨by decide, by decide⟩ (by decide +kernel) ?_
  rw [show Int.toNat 1 = 1 from rfl]
  generalize hs2081 : zset s2072 227 1 105 = s2080
  have q2082 := zCs_el hs2081 q2074 (by omega) (by omega) zc_227 zs_109 (show 0 ≤ (105 : Int) ∧ (105 : Int) ≤ 65535 from ⟨by decide, by decide⟩)
  have t2083 : s2080 200 2 = -1 := by rw [← hs2081]; exact (zset_k (by decide)).trans t2075
  have t2084 : s2080 200 3 = -1 := by rw [← hs2081]; exact (zset_k (by decide)).trans t2076
  have t2085 : s2080 164 50 = 0 := by rw [← hs2081]; exact (zset_k (by decide)).trans t2077
  have t2086 : s2080 164 54 = 0 := by rw [← hs2081]; exact (zset_k (by decide)).trans t2078
  have t2087 : s2080 164 1 = 0 := by rw [← hs2081]; exact (zset_k (by decide)).trans t2079
  refine zt_dup (pc' := 1418) hX dX12_init_1417 rfl rfl ?_
  refine zt_iconst (pc' := 1419) hX dX12_init_1418 rfl ?_
  refine zt_bipush (pc' := 1421) hX dX12_init_1419 rfl (by decide) (by decide) ?_
  refine zt_cast (pc' := 1422) hX dX12_init_1421 rfl (by omega) zc_227 zs_109 (by decide) ⟨by decide, by decide⟩ (by decide +kernel) ?_
  rw [show Int.toNat 2 = 2 from rfl]
  generalize hs2089 : zset s2080 227 2 114 = s2088
  have q2090 := zCs_el hs2089 q2082 (by omega) (by omega) zc_227 zs_109 (show 0 ≤ (114 : Int) ∧ (114 : Int) ≤ 65535 from ⟨by decide, by decide⟩)
  have t2091 : s2088 200 2 = -1 := by rw [← hs2089]; exact (zset_k (by decide)).trans t2083
  have t2092 : s2088 200 3 = -1 := by rw [← hs2089]; exact (zset_k (by decide)).trans t2084
  have t2093 : s2088 164 50 = 0 := by rw [← hs2089]; exact (zset_k (by decide)).trans t2085
  have t2094 : s2088 164 54 = 0 := by rw [← hs2089]; exact (zset_k (by decide)).trans t2086
  have t2095 : s2088 164 1 = 0 := by rw [← hs2089]; exact (zset_k (by decide)).trans t2087
  refine zt_dup (pc' := 1423) hX dX12_init_1422 rfl rfl ?_
  refine zt_iconst (pc' := 1424) hX dX12_init_1423 rfl ?_
  refine zt_bipush (pc' := 1426) hX dX12_init_1424 rfl (by decide) (by decide) ?_
  refine zt_cast (pc' := 1427) hX dX12_init_1426 rfl (by omega) zc_227 zs_109 (by decide) ⟨by decide, by decide⟩ (by decide +kernel) ?_
  rw [show Int.toNat 3 = 3 from rfl]
  generalize hs2097 : zset s2088 227 3 101 = s2096
  have q2098 := zCs_el hs2097 q2090 (by omega) (by omega) zc_227 zs_109 (show 0 ≤ (101 : Int) ∧ (101 : Int) ≤ 65535 from ⟨by decide, by decide⟩)
  have t2099 : s2096 200 2 = -1 := by rw [← hs2097]; exact (zset_k (by decide)).trans t2091
  have t2100 : s2096 200 3 = -1 := by rw [← hs2097]; exact (zset_k (by decide)).trans t2092
  have t2101 : s2096 164 50 = 0 := by rw [← hs2097]; exact (zset_k (by decide)).trans t2093
  have t2102 : s2096 164 54 = 0 := by rw [← hs2097]; exact (zset_k (by decide)).trans t2094
  have t2103 : s2096 164 1 = 0 := by rw [← hs2097]; exact (zset_k (by decide)).trans t2095
  refine zt_dup (pc' := 1428) hX dX12_init_1427 rfl rfl ?_
  refine zt_iconst (pc' := 1429) hX dX12_init_1428 rfl ?_
  refine zt_bipush (pc' := 1431) hX dX12_init_1429 rfl (by decide) (by decide) ?_
  refine zt_cast (pc' := 1432) hX dX12_init_1431 rfl (by omega) zc_227 zs_109 (by decide) ⟨by decide, by decide⟩ (by decide +kernel) ?_
  rw [show Int.toNat 4 = 4 from rfl]
  generalize hs2105 : zset s2096 227 4 100 = s2104
  have q2106 := zCs_el hs2105 q2098 (by omega) (by omega) zc_227 zs_109 (show 0 ≤ (100 : Int) ∧ (100 : Int) ≤ 65535 from ⟨by decide, by decide⟩)
  have t2107 : s2104 200 2 = -1 := by rw [← hs2105]; exact (zset_k (by decide)).trans t2099
  have t2108 : s2104 200 3 = -1 := by rw [← hs2105]; exact (zset_k (by decide)).trans t2100
  have t2109 : s2104 164 50 = 0 := by rw [← hs2105]; exact (zset_k (by decide)).trans t2101
  have t2110 : s2104 164 54 = 0 := by rw [← hs2105]; exact (zset_k (by decide)).trans t2102
  have t2111 : s2104 164 1 = 0 := by rw [← hs2105]; exact (zset_k (by decide)).trans t2103
  refine zt_putF (pc' := 1435) (x := ((227 : Nat) : Int)) hX dX12_init_1432 rfl hN.1 zf_X12_210 (by omega) zc_164 zs_46 (fun q hq => by cases hq; exact ⟨rfl, rfl⟩) (zrf_of rfl) rfl rfl ?_
  generalize hs2113 : zset s2104 164 89 ((227 : Nat) : Int) = s2112
  have q2114 := zCs_ref hs2113 q2106 zc_164 zs_46 rfl (by omega) (by decide)
  have t2115 : s2112 200 2 = -1 := by rw [← hs2113]; exact (zset_k (by decide)).trans t2107
  have t2116 : s2112 200 3 = -1 := by rw [← hs2113]; exact (zset_k (by decide)).trans t2108
  have t2117 : s2112 164 50 = 0 := by rw [← hs2113]; exact (zset_j (by decide)).trans t2109
  have t2118 : s2112 164 54 = 0 := by rw [← hs2113]; exact (zset_j (by decide)).trans t2110
  have t2119 : s2112 164 1 = 0 := by rw [← hs2113]; exact (zset_j (by decide)).trans t2111
  refine zt_aload_n (pc' := 1436) hX dX12_init_1435 rfl rfl ?_
  refine zt_iconst (pc' := 1437) hX dX12_init_1436 rfl ?_
  refine zt_newa (pc' := 1439) (t := 3) (N := 4) hX dX12_init_1437 rfl zw_10_19 rfl (by decide) (by decide) zc_228 zs_110 (by decide) (by decide) (zCs_nx q2114) ⟨by rw [hN.2.1]; exact Nat.le_of_ble_eq_true rfl, by rw [hN.2.2]; exact Nat.le_of_ble_eq_true rfl⟩ ?_
  have q2120 := zCs_arr q2114 zc_228 zs_110 (by decide)
  refine zt_dup (pc' := 1440) hX dX12_init_1439 rfl rfl ?_
  refine zt_iconst (pc' := 1441) hX dX12_init_1440 rfl ?_
  refine zt_bipush (pc' := 1443) hX dX12_init_1441 rfl (by decide) (by decide) ?_
  refine zt_cast (pc' := 1444) hX dX12_init_1443 rfl (by omega) zc_228 zs_110 (by decide) ⟨by decide, by decide⟩ (by decide +kernel) ?_
  rw [show Int.toNat 0 = 0 from rfl]
  generalize hs2122 : zset s2112 228 0 110 = s2121
  have q2123 := zCs_el hs2122 q2120 (by omega) (by omega) zc_228 zs_110 (show 0 ≤ (110 : Int) ∧ (110 : Int) ≤ 65535 from ⟨by decide, by decide⟩)
  have t2124 : s2121 200 2 = -1 := by rw [← hs2122]; exact (zset_k (by decide)).trans t2115
  have t2125 : s2121 200 3 = -1 := by rw [← hs2122]; exact (zset_k (by decide)).trans t2116
  have t2126 : s2121 164 50 = 0 := by rw [← hs2122]; exact (zset_k (by decide)).trans t2117
  have t2127 : s2121 164 54 = 0 := by rw [← hs2122]; exact (zset_k (by decide)).trans t2118
  have t2128 : s2121 164 1 = 0 := by rw [← hs2122]; exact (zset_k (by decide)).trans t2119
  refine zt_dup (pc' := 1445) hX dX12_init_1444 rfl rfl ?_
  refine zt_iconst (pc' := 1446) hX dX12_init_1445 rfl ?_
  refine zt_bipush (pc' := 1448) hX dX12_init_1446 rfl (by decide) (by decide) ?_
  refine zt_cast (pc' := 1449) hX dX12_init_1448 rfl (by omega) zc_228 zs_110 (by decide) ⟨by decide, by decide⟩ (by decide +kernel) ?_
  rw [show Int.toNat 1 = 1 from rfl]
  generalize hs2130 : zset s2121 228 1 101 = s2129
  have q2131 := zCs_el hs2130 q2123 (by omega) (by omega) zc_228 zs_110 (show 0 ≤ (101 : Int) ∧ (101 : Int) ≤ 65535 from ⟨by decide, by decide⟩)
  have t2132 : s2129 200 2 = -1 := by rw [← hs2130]; exact (zset_k (by decide)).trans t2124
  have t2133 : s2129 200 3 = -1 := by rw [← hs2130]; exact (zset_k (by decide)).trans t2125
  have t2134 : s2129 164 50 = 0 := by rw [← hs2130]; exact (zset_k (by decide)).trans t2126
  have t2135 : s2129 164 54 = 0 := by rw [← hs2130]; exact (zset_k (by decide)).trans t2127
  have t2136 : s2129 164 1 = 0 := by rw [← hs2130]; exact (zset_k (by decide)).trans t2128
  refine zt_dup (pc' := 1450) hX dX12_init_1449 rfl rfl ?_
  refine zt_iconst (pc' := 1451) hX dX12_init_1450 rfl ?_
  refine zt_bipush (pc' := 1453) hX dX12_init_1451 rfl (by decide) (by decide) ?_
  refine zt_cast (pc' := 1454) hX dX12_init_1453 rfl (by omega) zc_228 zs_110 (by decide) ⟨by decide, by decide⟩ (by decide +kernel) ?_
  rw [show Int.toNat 2 = 2 from rfl]
  generalize hs2138 : zset s2129 228 2 97 = s2137
  have q2139 := zCs_el hs2138 q2131 (by omega) (by omega) zc_228 zs_110 (show 0 ≤ (97 : Int) ∧ (97 : Int) ≤ 65535 from ⟨by decide, by decide⟩)
  have t2140 : s2137 200 2 = -1 := by rw [← hs2138]; exact (zset_k (by decide)).trans t2132
  have t2141 : s2137 200 3 = -1 := by rw [← hs2138]; exact (zset_k (by decide)).trans t2133
  have t2142 : s2137 164 50 = 0 := by rw [← hs2138]; exact (zset_k (by decide)).trans t2134
  have t2143 : s2137 164 54 = 0 := by rw [← hs2138]; exact (zset_k (by decide)).trans t2135
  have t2144 : s2137 164 1 = 0 := by rw [← hs2138]; exact (zset_k (by decide)).trans t2136
  refine zt_dup (pc' := 1455) hX dX12_init_1454 rfl rfl ?_
  refine zt_iconst (pc' := 1456) hX dX12_init_1455 rfl ?_
  refine zt_bipush (pc' := 1458) hX dX12_init_1456 rfl (by decide) (by decide) ?_
  refine zt_cast (pc' := 1459) hX dX12_init_1458 rfl (by omega) zc_228 zs_110 (by decide) ⟨by decide, by decide⟩ (by decide +kernel) ?_
  rw [show Int.toNat 3 = 3 from rfl]
  generalize hs2146 : zset s2137 228 3 114 = s2145
  have q2147 := zCs_el hs2146 q2139 (by omega) (by omega) zc_228 zs_110 (show 0 ≤ (114 : Int) ∧ (114 : Int) ≤ 65535 from ⟨by decide, by decide⟩)
  have t2148 : s2145 200 2 = -1 := by rw [← hs2146]; exact (zset_k (by decide)).trans t2140
  have t2149 : s2145 200 3 = -1 := by rw [← hs2146]; exact (zset_k (by decide)).trans t2141
  have t2150 : s2145 164 50 = 0 := by rw [← hs2146]; exact (zset_k (by decide)).trans t2142
  have t2151 : s2145 164 54 = 0 := by rw [← hs2146]; exact (zset_k (by decide)).trans t2143
  have t2152 : s2145 164 1 = 0 := by rw [← hs2146]; exact (zset_k (by decide)).trans t2144
  refine zt_putF (pc' := 1462) (x := ((228 : Nat) : Int)) hX dX12_init_1459 rfl hN.1 zf_X12_213 (by omega) zc_164 zs_46 (fun q hq => by cases hq; exact ⟨rfl, rfl⟩) (zrf_of rfl) rfl rfl ?_
  generalize hs2154 : zset s2145 164 90 ((228 : Nat) : Int) = s2153
  have q2155 := zCs_ref hs2154 q2147 zc_164 zs_46 rfl (by omega) (by decide)
  have t2156 : s2153 200 2 = -1 := by rw [← hs2154]; exact (zset_k (by decide)).trans t2148
  have t2157 : s2153 200 3 = -1 := by rw [← hs2154]; exact (zset_k (by decide)).trans t2149
  have t2158 : s2153 164 50 = 0 := by rw [← hs2154]; exact (zset_j (by decide)).trans t2150
  have t2159 : s2153 164 54 = 0 := by rw [← hs2154]; exact (zset_j (by decide)).trans t2151
  have t2160 : s2153 164 1 = 0 := by rw [← hs2154]; exact (zset_j (by decide)).trans t2152
  refine zt_aload_n (pc' := 1463) hX dX12_init_1462 rfl rfl ?_
  refine zt_bipush (pc' := 1465) hX dX12_init_1463 rfl (by decide) (by decide) ?_
  refine zt_newa (pc' := 1467) (t := 3) (N := 6) hX dX12_init_1465 rfl zw_10_19 rfl (by decide) (by decide) zc_229 zs_111 (by decide) (by decide) (zCs_nx q2155) ⟨by rw [hN.2.1]; exact Nat.le_of_ble_eq_true rfl, by rw [hN.2.2]; exact Nat.le_of_ble_eq_true rfl⟩ ?_
  have q2161 := zCs_arr q2155 zc_229 zs_111 (by decide)
  refine zt_dup (pc' := 1468) hX dX12_init_1467 rfl rfl ?_
  refine zt_iconst (pc' := 1469) hX dX12_init_1468 rfl ?_
  refine zt_bipush (pc' := 1471) hX dX12_init_1469 rfl (by decide) (by decide) ?_
  refine zt_cast (pc' := 1472) hX dX12_init_1471 rfl (by omega) zc_229 zs_111 (by decide) ⟨by decide, by decide⟩ (by decide +kernel) ?_
  rw [show Int.toNat 0 = 0 from rfl]
  generalize hs2163 : zset s2153 229 0 110 = s2162
  have q2164 := zCs_el hs2163 q2161 (by omega) (by omega) zc_229 zs_111 (show 0 ≤ (110 : Int) ∧ (110 : Int) ≤ 65535 from ⟨by decide, by decide⟩)
  have t2165 : s2162 200 2 = -1 := by rw [← hs2163]; exact (zset_k (by decide)).trans t2156
  have t2166 : s2162 200 3 = -1 := by rw [← hs2163]; exact (zset_k (by decide)).trans t2157
  have t2167 : s2162 164 50 = 0 := by rw [← hs2163]; exact (zset_k (by decide)).trans t2158
  have t2168 : s2162 164 54 = 0 := by rw [← hs2163]; exact (zset_k (by decide)).trans t2159
  have t2169 : s2162 164 1 = 0 := by rw [← hs2163]; exact (zset_k (by decide)).trans t2160
  refine zt_dup (pc' := 1473) hX dX12_init_1472 rfl rfl ?_
  refine zt_iconst (pc' := 1474) hX dX12_init_1473 rfl ?_
  refine zt_bipush (pc' := 1476) hX dX12_init_1474 rfl (by decide) (by decide) ?_
  refine zt_cast (pc' := 1477) hX dX12_init_1476 rfl (by omega) zc_229 zs_111 (by decide) ⟨by decide, by decide⟩ (by decide +kernel) ?_
  rw [show Int.toNat 1 = 1 from rfl]
  generalize hs2171 : zset s2162 229 1 117 = s2170
  have q2172 := zCs_el hs2171 q2164 (by omega) (by omega) zc_229 zs_111 (show 0 ≤ (117 : Int) ∧ (117 : Int) ≤ 65535 from ⟨by decide, by decide⟩)
  have t2173 : s2170 200 2 = -1 := by rw [← hs2171]; exact (zset_k (by decide)).trans t2165
  have t2174 : s2170 200 3 = -1 := by rw [← hs2171]; exact (zset_k (by decide)).trans t2166
  have t2175 : s2170 164 50 = 0 := by rw [← hs2171]; exact (zset_k (by decide)).trans t2167
  have t2176 : s2170 164 54 = 0 := by rw [← hs2171]; exact (zset_k (by decide)).trans t2168
  have t2177 : s2170 164 1 = 0 := by rw [← hs2171]; exact (zset_k (by decide)).trans t2169
  refine zt_dup (pc' := 1478) hX dX12_init_1477 rfl rfl ?_
  refine zt_iconst (pc' := 1479) hX dX12_init_1478 rfl ?_
  refine zt_bipush (pc' := 1481) hX dX12_init_1479 rfl (by decide) (by decide) ?_
  refine zt_cast (pc' := 1482) hX dX12_init_1481 rfl (by omega) zc_229 zs_111 (by decide) ⟨by decide, by decide⟩ (by decide +kernel) ?_
  rw [show Int.toNat 2 = 2 from rfl]
  generalize hs2179 : zset s2170 229 2 109 = s2178
  have q2180 := zCs_el hs2179 q2172 (by omega) (by omega) zc_229 zs_111 (show 0 ≤ (109 : Int) ∧ (109 : Int) ≤ 65535 from ⟨by decide, by decide⟩)
  have t2181 : s2178 200 2 = -1 := by rw [← hs2179]; exact (zset_k (by decide)).trans t2173
  have t2182 : s2178 200 3 = -1 := by rw [← hs2179]; exact (zset_k (by decide)).trans t2174
  have t2183 : s2178 164 50 = 0 := by rw [← hs2179]; exact (zset_k (by decide)).trans t2175
  have t2184 : s2178 164 54 = 0 := by rw [← hs2179]; exact (zset_k (by decide)).trans t2176
  have t2185 : s2178 164 1 = 0 := by rw [← hs2179]; exact (zset_k (by decide)).trans t2177
  refine zt_dup (pc' := 1483) hX dX12_init_1482 rfl rfl ?_
  refine zt_iconst (pc' := 1484) hX dX12_init_1483 rfl ?_
  refine zt_bipush (pc' := 1486) hX dX12_init_1484 rfl (by decide) (by decide) ?_
  refine zt_cast (pc' := 1487) hX dX12_init_1486 rfl (by omega) zc_229 zs_111 (by decide) ⟨by decide, by decide⟩ (by decide +kernel) ?_
  rw [show Int.toNat 3 = 3 from rfl]
  generalize hs2187 : zset s2178 229 3 98 = s2186
  have q2188 := zCs_el hs2187 q2180 (by omega) (by omega) zc_229 zs_111 (show 0 ≤ (98 : Int) ∧ (98 : Int) ≤ 65535 from ⟨by decide, by decide⟩)
  have t2189 : s2186 200 2 = -1 := by rw [← hs2187]; exact (zset_k (by decide)).trans t2181
  have t2190 : s2186 200 3 = -1 := by rw [← hs2187]; exact (zset_k (by decide)).trans t2182
  have t2191 : s2186 164 50 = 0 := by rw [← hs2187]; exact (zset_k (by decide)).trans t2183
  have t2192 : s2186 164 54 = 0 := by rw [← hs2187]; exact (zset_k (by decide)).trans t2184
  have t2193 : s2186 164 1 = 0 := by rw [← hs2187]; exact (zset_k (by decide)).trans t2185
  refine zt_dup (pc' := 1488) hX dX12_init_1487 rfl rfl ?_
  refine zt_iconst (pc' := 1489) hX dX12_init_1488 rfl ?_
  refine zt_bipush (pc' := 1491) hX dX12_init_1489 rfl (by decide) (by decide) ?_
  refine zt_cast (pc' := 1492) hX dX12_init_1491 rfl (by omega) zc_229 zs_111 (by decide) ⟨by decide, by decide⟩ (by decide +kernel) ?_
  rw [show Int.toNat 4 = 4 from rfl]
  generalize hs2195 : zset s2186 229 4 101 = s2194
  have q2196 := zCs_el hs2195 q2188 (by omega) (by omega) zc_229 zs_111 (show 0 ≤ (101 : Int) ∧ (101 : Int) ≤ 65535 from ⟨by decide, by decide⟩)
  have t2197 : s2194 200 2 = -1 := by rw [← hs2195]; exact (zset_k (by decide)).trans t2189
  have t2198 : s2194 200 3 = -1 := by rw [← hs2195]; exact (zset_k (by decide)).trans t2190
  have t2199 : s2194 164 50 = 0 := by rw [← hs2195]; exact (zset_k (by decide)).trans t2191
  have t2200 : s2194 164 54 = 0 := by rw [← hs2195]; exact (zset_k (by decide)).trans t2192
  have t2201 : s2194 164 1 = 0 := by rw [← hs2195]; exact (zset_k (by decide)).trans t2193
  refine zt_dup (pc' := 1493) hX dX12_init_1492 rfl rfl ?_
  refine zt_iconst (pc' := 1494) hX dX12_init_1493 rfl ?_
  refine zt_bipush (pc' := 1496) hX dX12_init_1494 rfl (by decide) (by decide) ?_
  refine zt_cast (pc' := 1497) hX dX12_init_1496 rfl (by omega) zc_229 zs_111 (by decide) ⟨by decide, by decide⟩ (by decide +kernel) ?_
  rw [show Int.toNat 5 = 5 from rfl]
  generalize hs2203 : zset s2194 229 5 114 = s2202
  have q2204 := zCs_el hs2203 q2196 (by omega) (by omega) zc_229 zs_111 (show 0 ≤ (114 : Int) ∧ (114 : Int) ≤ 65535 from ⟨by decide, by decide⟩)
  have t2205 : s2202 200 2 = -1 := by rw [← hs2203]; exact (zset_k (by decide)).trans t2197
  have t2206 : s2202 200 3 = -1 := by rw [← hs2203]; exact (zset_k (by decide)).trans t2198
  have t2207 : s2202 164 50 = 0 := by rw [← hs2203]; exact (zset_k (by decide)).trans t2199
  have t2208 : s2202 164 54 = 0 := by rw [← hs2203]; exact (zset_k (by decide)).trans t2200
  have t2209 : s2202 164 1 = 0 := by rw [← hs2203]; exact (zset_k (by decide)).trans t2201
  refine zt_putF (pc' := 1500) (x := ((229 : Nat) : Int)) hX dX12_init_1497 rfl hN.1 zf_X12_216 (by omega) zc_164 zs_46 (fun q hq => by cases hq; exact ⟨rfl, rfl⟩) (zrf_of rfl) rfl rfl ?_
  generalize hs2211 : zset s2202 164 91 ((229 : Nat) : Int) = s2210
  have q2212 := zCs_ref hs2211 q2204 zc_164 zs_46 rfl (by omega) (by decide)
  have t2213 : s2210 200 2 = -1 := by rw [← hs2211]; exact (zset_k (by decide)).trans t2205
  have t2214 : s2210 200 3 = -1 := by rw [← hs2211]; exact (zset_k (by decide)).trans t2206
  have t2215 : s2210 164 50 = 0 := by rw [← hs2211]; exact (zset_j (by decide)).trans t2207
  have t2216 : s2210 164 54 = 0 := by rw [← hs2211]; exact (zset_j (by decide)).trans t2208
  have t2217 : s2210 164 1 = 0 := by rw [← hs2211]; exact (zset_j (by decide)).trans t2209
  refine zt_aload_n (pc' := 1501) hX dX12_init_1500 rfl rfl ?_
  refine zt_bipush (pc' := 1503) hX dX12_init_1501 rfl (by decide) (by decide) ?_
  refine zt_newa (pc' := 1505) (t := 3) (N := 6) hX dX12_init_1503 rfl zw_10_19 rfl (by decide) (by decide) zc_230 zs_112 (by decide) (by decide) (zCs_nx q2212) ⟨by rw [hN.2.1]; exact Nat.le_of_ble_eq_true rfl, by rw [hN.2.2]; exact Nat.le_of_ble_eq_true rfl⟩ ?_
  have q2218 := zCs_arr q2212 zc_230 zs_112 (by decide)
  refine zt_dup (pc' := 1506) hX dX12_init_1505 rfl rfl ?_
  refine zt_iconst (pc' := 1507) hX dX12_init_1506 rfl ?_
  refine zt_bipush (pc' := 1509) hX dX12_init_1507 rfl (by decide) (by decide) ?_
  refine zt_cast (pc' := 1510) hX dX12_init_1509 rfl (by omega) zc_230 zs_112 (by decide) ⟨by decide, by decide⟩ (by decide +kernel) ?_
  rw [show Int.toNat 0 = 0 from rfl]
  generalize hs2220 : zset s2210 230 0 99 = s2219
  have q2221 := zCs_el hs2220 q2218 (by omega) (by omega) zc_230 zs_112 (show 0 ≤ (99 : Int) ∧ (99 : Int) ≤ 65535 from ⟨by decide, by decide⟩)
  have t2222 : s2219 200 2 = -1 := by rw [← hs2220]; exact (zset_k (by decide)).trans t2213
  have t2223 : s2219 200 3 = -1 := by rw [← hs2220]; exact (zset_k (by decide)).trans t2214
  have t2224 : s2219 164 50 = 0 := by rw [← hs2220]; exact (zset_k (by decide)).trans t2215
  have t2225 : s2219 164 54 = 0 := by rw [← hs2220]; exact (zset_k (by decide)).trans t2216
  have t2226 : s2219 164 1 = 0 := by rw [← hs2220]; exact (zset_k (by decide)).trans t2217
  refine zt_dup (pc' := 1511) hX dX12_init_1510 rfl rfl ?_
  refine zt_iconst (pc' := 1512) hX dX12_init_1511 rfl ?_
  refine zt_bipush (pc' := 1514) hX dX12_init_1512 rfl (by decide) (by decide) ?_
  refine zt_cast (pc' := 1515) hX dX12_init_1514 rfl (by omega) zc_230 zs_112 (by decide) ⟨by decide, by decide⟩ (by decide +kernel) ?_
  rw [show Int.toNat 1 = 1 from rfl]
  generalize hs2228 : zset s2219 230 1 111 = s2227
  have q2229 := zCs_el hs2228 q2221 (by omega) (by omega) zc_230 zs_112 (show 0 ≤ (111 : Int) ∧ (111 : Int) ≤ 65535 from ⟨by decide, by decide⟩)
  have t2230 : s2227 200 2 = -1 := by rw [← hs2228]; exact (zset_k (by decide)).trans t2222
  have t2231 : s2227 200 3 = -1 := by rw [← hs2228]; exact (zset_k (by decide)).trans t2223
  have t2232 : s2227 164 50 = 0 := by rw [← hs2228]; exact (zset_k (by decide)).trans t2224
  have t2233 : s2227 164 54 = 0 := by rw [← hs2228]; exact (zset_k (by decide)).trans t2225
  have t2234 : s2227 164 1 = 0 := by rw [← hs2228]; exact (zset_k (by decide)).trans t2226
  refine zt_dup (pc' := 1516) hX dX12_init_1515 rfl rfl ?_
  refine zt_iconst (pc' := 1517) hX dX12_init_1516 rfl ?_
  refine zt_bipush (pc' := 1519) hX dX12_init_1517 rfl (by decide) (by decide) ?_
  refine zt_cast (pc' := 1520) hX dX12_init_1519 rfl (by omega) zc_230 zs_112 (by decide) ⟨by decide, by decide⟩ (by decide +kernel) ?_
  rw [show Int.toNat 2 = 2 from rfl]
  generalize hs2236 : zset s2227 230 2 108 = s2235
  have q2237 := zCs_el hs2236 q2229 (by omega) (by omega) zc_230 zs_112 (show 0 ≤ (108 : Int) ∧ (108 : Int) ≤ 65535 from ⟨by decide, by decide⟩)
  have t2238 : s2235 200 2 = -1 := by rw [← hs2236]; exact (zset_k (by decide)).trans t2230
  have t2239 : s2235 200 3 = -1 := by rw [← hs2236]; exact (zset_k (by decide)).trans t2231
  have t2240 : s2235 164 50 = 0 := by rw [← hs2236]; exact (zset_k (by decide)).trans t2232
  have t2241 : s2235 164 54 = 0 := by rw [← hs2236]; exact (zset_k (by decide)).trans t2233
  have t2242 : s2235 164 1 = 0 := by rw [← hs2236]; exact (zset_k (by decide)).trans t2234
  refine zt_dup (pc' := 1521) hX dX12_init_1520 rfl rfl ?_
  refine zt_iconst (pc' := 1522) hX dX12_init_1521 rfl ?_
  refine zt_bipush (pc' := 1524) hX dX12_init_1522 rfl (by decide) (by decide) ?_
  refine zt_cast (pc' := 1525) hX dX12_init_1524 rfl (by omega) zc_230 zs_112 (by decide) ⟨by decide, by decide⟩ (by decide +kernel) ?_
  rw [show Int.toNat 3 = 3 from rfl]
  generalize hs2244 : zset s2235 230 3 117 = s2243
  have q2245 := zCs_el hs2244 q2237 (by omega) (by omega) zc_230 zs_112 (show 0 ≤ (117 : Int) ∧ (117 : Int) ≤ 65535 from ⟨by decide, by decide⟩)
  have t2246 : s2243 200 2 = -1 := by rw [← hs2244]; exact (zset_k (by decide)).trans t2238
  have t2247 : s2243 200 3 = -1 := by rw [← hs2244]; exact (zset_k (by decide)).trans t2239
  have t2248 : s2243 164 50 = 0 := by rw [← hs2244]; exact (zset_k (by decide)).trans t2240
  have t2249 : s2243 164 54 = 0 := by rw [← hs2244]; exact (zset_k (by decide)).trans t2241
  have t2250 : s2243 164 1 = 0 := by rw [← hs2244]; exact (zset_k (by decide)).trans t2242
  refine zt_dup (pc' := 1526) hX dX12_init_1525 rfl rfl ?_
  refine zt_iconst (pc' := 1527) hX dX12_init_1526 rfl ?_
  refine zt_bipush (pc' := 1529) hX dX12_init_1527 rfl (by decide) (by decide) ?_
  refine zt_cast (pc' := 1530) hX dX12_init_1529 rfl (by omega) zc_230 zs_112 (by decide) ⟨by decide, by decide⟩ (by decide +kernel) ?_
  rw [show Int.toNat 4 = 4 from rfl]
  generalize hs2252 : zset s2243 230 4 109 = s2251
  have q2253 := zCs_el hs2252 q2245 (by omega) (by omega) zc_230 zs_112 (show 0 ≤ (109 : Int) ∧ (109 : Int) ≤ 65535 from ⟨by decide, by decide⟩)
  have t2254 : s2251 200 2 = -1 := by rw [← hs2252]; exact (zset_k (by decide)).trans t2246
  have t2255 : s2251 200 3 = -1 := by rw [← hs2252]; exact (zset_k (by decide)).trans t2247
  have t2256 : s2251 164 50 = 0 := by rw [← hs2252]; exact (zset_k (by decide)).trans t2248
  have t2257 : s2251 164 54 = 0 := by rw [← hs2252]; exact (zset_k (by decide)).trans t2249
  have t2258 : s2251 164 1 = 0 := by rw [← hs2252]; exact (zset_k (by decide)).trans t2250
  refine zt_dup (pc' := 1531) hX dX12_init_1530 rfl rfl ?_
  refine zt_iconst (pc' := 1532) hX dX12_init_1531 rfl ?_
  refine zt_bipush (pc' := 1534) hX dX12_init_1532 rfl (by decide) (by decide) ?_
  refine zt_cast (pc' := 1535) hX dX12_init_1534 rfl (by omega) zc_230 zs_112 (by decide) ⟨by decide, by decide⟩ (by decide +kernel) ?_
  rw [show Int.toNat 5 = 5 from rfl]
  generalize hs2260 : zset s2251 230 5 110 = s2259
  have q2261 := zCs_el hs2260 q2253 (by omega) (by omega) zc_230 zs_112 (show 0 ≤ (110 : Int) ∧ (110 : Int) ≤ 65535 from ⟨by decide, by decide⟩)
  have t2262 : s2259 200 2 = -1 := by rw [← hs2260]; exact (zset_k (by decide)).trans t2254
  have t2263 : s2259 200 3 = -1 := by rw [← hs2260]; exact (zset_k (by decide)).trans t2255
  have t2264 : s2259 164 50 = 0 := by rw [← hs2260]; exact (zset_k (by decide)).trans t2256
  have t2265 : s2259 164 54 = 0 := by rw [← hs2260]; exact (zset_k (by decide)).trans t2257
  have t2266 : s2259 164 1 = 0 := by rw [← hs2260]; exact (zset_k (by decide)).trans t2258
  refine zt_putF (pc' := 1538) (x := ((230 : Nat) : Int)) hX dX12_init_1535 rfl hN.1 zf_X12_219 (by omega) zc_164 zs_46 (fun q hq => by cases hq; exact ⟨rfl, rfl⟩) (zrf_of rfl) rfl rfl ?_
  generalize hs2268 : zset s2259 164 92 ((230 : Nat) : Int) = s2267
  have q2269 := zCs_ref hs2268 q2261 zc_164 zs_46 rfl (by omega) (by decide)
  have t2270 : s2267 200 2 = -1 := by rw [← hs2268]; exact (zset_k (by decide)).trans t2262
  have t2271 : s2267 200 3 = -1 := by rw [← hs2268]; exact (zset_k (by decide)).trans t2263
  have t2272 : s2267 164 50 = 0 := by rw [← hs2268]; exact (zset_j (by decide)).trans t2264
  have t2273 : s2267 164 54 = 0 := by rw [← hs2268]; exact (zset_j (by decide)).trans t2265
  have t2274 : s2267 164 1 = 0 := by rw [← hs2268]; exact (zset_j (by decide)).trans t2266
  refine zt_aload_n (pc' := 1539) hX dX12_init_1538 rfl rfl ?_
  refine zt_iconst (pc' := 1540) hX dX12_init_1539 rfl ?_
  refine zt_newa (pc' := 1542) (t := 3) (N := 3) hX dX12_init_1540 rfl zw_10_19 rfl (by decide) (by decide) zc_231 zs_113 (by decide) (by decide) (zCs_nx q2269) ⟨by rw [hN.2.1]; exact Nat.le_of_ble_eq_true rfl, by rw [hN.2.2]; exact Nat.le_of_ble_eq_true rfl⟩ ?_
  have q2275 := zCs_arr q2269 zc_231 zs_113 (by decide)
  refine zt_dup (pc' := 1543) hX dX12_init_1542 rfl rfl ?_
  refine zt_iconst (pc' := 1544) hX dX12_init_1543 rfl ?_
  refine zt_bipush (pc' := 1546) hX dX12_init_1544 rfl (by decide) (by decide) ?_
  refine zt_cast (pc' := 1547) hX dX12_init_1546 rfl (by omega) zc_231 zs_113 (by decide) ⟨by decide, by decide⟩ (by decide +kernel) ?_
  rw [show Int.toNat 0 = 0 from rfl]
  generalize hs2277 : zset s2267 231 0 114 = s2276
  have q2278 := zCs_el hs2277 q2275 (by omega) (by omega) zc_231 zs_113 (show 0 ≤ (114 : Int) ∧ (114 : Int) ≤ 65535 from ⟨by decide, by decide⟩)
  have t2279 : s2276 200 2 = -1 := by rw [← hs2277]; exact (zset_k (by decide)).trans t2270
  have t2280 : s2276 200 3 = -1 := by rw [← hs2277]; exact (zset_k (by decide)).trans t2271
  have t2281 : s2276 164 50 = 0 := by rw [← hs2277]; exact (zset_k (by decide)).trans t2272
  have t2282 : s2276 164 54 = 0 := by rw [← hs2277]; exact (zset_k (by decide)).trans t2273
  have t2283 : s2276 164 1 = 0 := by rw [← hs2277]; exact (zset_k (by decide)).trans t2274
  refine zt_dup (pc' := 1548) hX dX12_init_1547 rfl rfl ?_
  refine zt_iconst (pc' := 1549) hX dX12_init_1548 rfl ?_
  refine zt_bipush (pc' := 1551) hX dX12_init_1549 rfl (by decide) (by decide) ?_
  refine zt_cast (pc' := 1552) hX dX12_init_1551 rfl (by omega) zc_231 zs_113 (by decide) ⟨by decide, by decide⟩ (by decide +kernel) ?_
  rw [show Int.toNat 1 = 1 from rfl]
  generalize hs2285 : zset s2276 231 1 111 = s2284
  have q2286 := zCs_el hs2285 q2278 (by omega) (by omega) zc_231 zs_113 (show 0 ≤ (111 : Int) ∧ (111 : Int) ≤ 65535 from ⟨by decide, by decide⟩)
  have t2287 : s2284 200 2 = -1 := by rw [← hs2285]; exact (zset_k (by decide)).trans t2279
  have t2288 : s2284 200 3 = -1 := by rw [← hs2285]; exact (zset_k (by decide)).trans t2280
  have t2289 : s2284 164 50 = 0 := by rw [← hs2285]; exact (zset_k (by decide)).trans t2281
  have t2290 : s2284 164 54 = 0 := by rw [← hs2285]; exact (zset_k (by decide)).trans t2282
  have t2291 : s2284 164 1 = 0 := by rw [← hs2285]; exact (zset_k (by decide)).trans t2283
  refine zt_dup (pc' := 1553) hX dX12_init_1552 rfl rfl ?_
  refine zt_iconst (pc' := 1554) hX dX12_init_1553 rfl ?_
  refine zt_bipush (pc' := 1556) hX dX12_init_1554 rfl (by decide) (by decide) ?_
  refine zt_cast (pc' := 1557) hX dX12_init_1556 rfl (by omega) zc_231 zs_113 (by decide) ⟨by decide, by decide⟩ (by decide +kernel) ?_
  rw [show Int.toNat 2 = 2 from rfl]
  generalize hs2293 : zset s2284 231 2 119 = s2292
  have q2294 := zCs_el hs2293 q2286 (by omega) (by omega) zc_231 zs_113 (show 0 ≤ (119 : Int) ∧ (119 : Int) ≤ 65535 from ⟨by decide, by decide⟩)
  have t2295 : s2292 200 2 = -1 := by rw [← hs2293]; exact (zset_k (by decide)).trans t2287
  have t2296 : s2292 200 3 = -1 := by rw [← hs2293]; exact (zset_k (by decide)).trans t2288
  have t2297 : s2292 164 50 = 0 := by rw [← hs2293]; exact (zset_k (by decide)).trans t2289
  have t2298 : s2292 164 54 = 0 := by rw [← hs2293]; exact (zset_k (by decide)).trans t2290
  have t2299 : s2292 164 1 = 0 := by rw [← hs2293]; exact (zset_k (by decide)).trans t2291
  refine zt_putF (pc' := 1560) (x := ((231 : Nat) : Int)) hX dX12_init_1557 rfl hN.1 zf_X12_222 (by omega) zc_164 zs_46 (fun q hq => by cases hq; exact ⟨rfl, rfl⟩) (zrf_of rfl) rfl rfl ?_
  generalize hs2301 : zset s2292 164 93 ((231 : Nat) : Int) = s2300
  have q2302 := zCs_ref hs2301 q2294 zc_164 zs_46 rfl (by omega) (by decide)
  have t2303 : s2300 200 2 = -1 := by rw [← hs2301]; exact (zset_k (by decide)).trans t2295
  have t2304 : s2300 200 3 = -1 := by rw [← hs2301]; exact (zset_k (by decide)).trans t2296
  have t2305 : s2300 164 50 = 0 := by rw [← hs2301]; exact (zset_j (by decide)).trans t2297
  have t2306 : s2300 164 54 = 0 := by rw [← hs2301]; exact (zset_j (by decide)).trans t2298
  have t2307 : s2300 164 1 = 0 := by rw [← hs2301]; exact (zset_j (by decide)).trans t2299
  refine zt_aload_n (pc' := 1561) hX dX12_init_1560 rfl rfl ?_
  refine zt_iconst (pc' := 1562) hX dX12_init_1561 rfl ?_
  refine zt_newa (pc' := 1564) (t := 3) (N := 5) hX dX12_init_1562 rfl zw_10_19 rfl (by decide) (by decide) zc_232 zs_114 (by decide) (by decide) (zCs_nx q2302) ⟨by rw [hN.2.1]; exact Nat.le_of_ble_eq_true rfl, by rw [hN.2.2]; exact Nat.le_of_ble_eq_true rfl⟩ ?_
  have q2308 := zCs_arr q2302 zc_232 zs_114 (by decide)
  refine zt_dup (pc' := 1565) hX dX12_init_1564 rfl rfl ?_
  refine zt_iconst (pc' := 1566) hX dX12_init_1565 rfl ?_
  refine zt_bipush (pc' := 1568) hX dX12_init_1566 rfl (by decide) (by decide) ?_
  refine zt_cast (pc' := 1569) hX dX12_init_1568 rfl (by omega) zc_232 zs_114 (by decide) ⟨by decide, by decide⟩ (by decide +kernel) ?_
  rw [show Int.toNat 0 = 0 from rfl]
  generalize hs2310 : zset s2300 232 0 104 = s2309
  have q2311 := zCs_el hs2310 q2308 (by omega) (by omega) zc_232 zs_114 (show 0 ≤ (104 : Int) ∧ (104 : Int) ≤ 65535 from ⟨by decide, by decide⟩)
  have t2312 : s2309 200 2 = -1 := by rw [← hs2310]; exact (zset_k (by decide)).trans t2303
  have t2313 : s2309 200 3 = -1 := by rw [← hs2310]; exact (zset_k (by decide)).trans t2304
  have t2314 : s2309 164 50 = 0 := by rw [← hs2310]; exact (zset_k (by decide)).trans t2305
  have t2315 : s2309 164 54 = 0 := by rw [← hs2310]; exact (zset_k (by decide)).trans t2306
  have t2316 : s2309 164 1 = 0 := by rw [← hs2310]; exact (zset_k (by decide)).trans t2307
  refine zt_dup (pc' := 1570) hX dX12_init_1569 rfl rfl ?_
  refine zt_iconst (pc' := 1571) hX dX12_init_1570 rfl ?_
  refine zt_bipush (pc' := 1573) hX dX12_init_1571 rfl (by decide) (by decide) ?_
  refine zt_cast (pc' := 1574) hX dX12_init_1573 rfl (by omega) zc_232 zs_114 (by decide) ⟨by decide, by decide⟩ (by decide +kernel) ?_
  rw [show Int.toNat 1 = 1 from rfl]
  generalize hs2318 : zset s2309 232 1 111 = s2317
  have q2319 := zCs_el hs2318 q2311 (by omega) (by omega) zc_232 zs_114 (show 0 ≤ (111 : Int) ∧ (111 : Int) ≤ 65535 from ⟨by decide, by decide⟩)
  have t2320 : s2317 200 2 = -1 := by rw [← hs2318]; exact (zset_k (by decide)).trans t2312
  have t2321 : s2317 200 3 = -1 := by rw [← hs2318]; exact (zset_k (by decide)).trans t2313
  have t2322 : s2317 164 50 = 0 := by rw [← hs2318]; exact (zset_k (by decide)).trans t2314
  have t2323 : s2317 164 54 = 0 := by rw [← hs2318]; exact (zset_k (by decide)).trans t2315
  have t2324 : s2317 164 1 = 0 := by rw [← hs2318]; exact (zset_k (by decide)).trans t2316
  refine zt_dup (pc' := 1575) hX dX12_init_1574 rfl rfl ?_
  refine zt_iconst (pc' := 1576) hX dX12_init_1575 rfl ?_
  refine zt_bipush (pc' := 1578) hX dX12_init_1576 rfl (by decide) (by decide) ?_
  refine zt_cast (pc' := 1579) hX dX12_init_1578 rfl (by omega) zc_232 zs_114 (by decide) ⟨by decide, by decide⟩ (by decide +kernel) ?_
  rw [show Int.toNat 2 = 2 from rfl]
  generalize hs2326 : zset s2317 232 2 108 = s2325
  have q2327 := zCs_el hs2326 q2319 (by omega) (by omega) zc_232 zs_114 (show 0 ≤ (108 : Int) ∧ (108 : Int) ≤ 65535 from ⟨by decide, by decide⟩)
  have t2328 : s2325 200 2 = -1 := by rw [← hs2326]; exact (zset_k (by decide)).trans t2320
  have t2329 : s2325 200 3 = -1 := by rw [← hs2326]; exact (zset_k (by decide)).trans t2321
  have t2330 : s2325 164 50 = 0 := by rw [← hs2326]; exact (zset_k (by decide)).trans t2322
  have t2331 : s2325 164 54 = 0 := by rw [← hs2326]; exact (zset_k (by decide)).trans t2323
  have t2332 : s2325 164 1 = 0 := by rw [← hs2326]; exact (zset_k (by decide)).trans t2324
  refine zt_dup (pc' := 1580) hX dX12_init_1579 rfl rfl ?_
  refine zt_iconst (pc' := 1581) hX dX12_init_1580 rfl ?_
  refine zt_bipush (pc' := 1583) hX dX12_init_1581 rfl (by decide) (by decide) ?_
  refine zt_cast (pc' := 1584) hX dX12_init_1583 rfl (by omega) zc_232 zs_114 (by decide) ⟨by decide, by decide⟩ (by decide +kernel) ?_
  rw [show Int.toNat 3 = 3 from rfl]
  generalize hs2334 : zset s2325 232 3 100 = s2333
  have q2335 := zCs_el hs2334 q2327 (by omega) (by omega) zc_232 zs_114 (show 0 ≤ (100 : Int) ∧ (100 : Int) ≤ 65535 from ⟨by decide, by decide⟩)
  have t2336 : s2333 200 2 = -1 := by rw [← hs2334]; exact (zset_k (by decide)).trans t2328
  have t2337 : s2333 200 3 = -1 := by rw [← hs2334]; exact (zset_k (by decide)).trans t2329
  have t2338 : s2333 164 50 = 0 := by rw [← hs2334]; exact (zset_k (by decide)).trans t2330
  have t2339 : s2333 164 54 = 0 := by rw [← hs2334]; exact (zset_k (by decide)).trans t2331
  have t2340 : s2333 164 1 = 0 := by rw [← hs2334]; exact (zset_k (by decide)).trans t2332
  refine zt_dup (pc' := 1585) hX dX12_init_1584 rfl rfl ?_
  refine zt_iconst (pc' := 1586) hX dX12_init_1585 rfl ?_
  refine zt_bipush (pc' := 1588) hX dX12_init_1586 rfl (by decide) (by decide) ?_
  refine zt_cast (pc' := 1589) hX dX12_init_1588 rfl (by omega) zc_232 zs_114 (by decide) ⟨by decide, by decide⟩ (by decide +kernel) ?_
  rw [show Int.toNat 4 = 4 from rfl]
  generalize hs2342 : zset s2333 232 4 115 = s2341
  have q2343 := zCs_el hs2342 q2335 (by omega) (by omega) zc_232 zs_114 (show 0 ≤ (115 : Int) ∧ (115 : Int) ≤ 65535 from ⟨by decide, by decide⟩)
  have t2344 : s2341 200 2 = -1 := by rw [← hs2342]; exact (zset_k (by decide)).trans t2336
  have t2345 : s2341 200 3 = -1 := by rw [← hs2342]; exact (zset_k (by decide)).trans t2337
  have t2346 : s2341 164 50 = 0 := by rw [← hs2342]; exact (zset_k (by decide)).trans t2338
  have t2347 : s2341 164 54 = 0 := by rw [← hs2342]; exact (zset_k (by decide)).trans t2339
  have t2348 : s2341 164 1 = 0 := by rw [← hs2342]; exact (zset_k (by decide)).trans t2340
  refine zt_putF (pc' := 1592) (x := ((232 : Nat) : Int)) hX dX12_init_1589 rfl hN.1 zf_X12_225 (by omega) zc_164 zs_46 (fun q hq => by cases hq; exact ⟨rfl, rfl⟩) (zrf_of rfl) rfl rfl ?_
  generalize hs2350 : zset s2341 164 94 ((232 : Nat) : Int) = s2349
  have q2351 := zCs_ref hs2350 q2343 zc_164 zs_46 rfl (by omega) (by decide)
  have t2352 : s2349 200 2 = -1 := by rw [← hs2350]; exact (zset_k (by decide)).trans t2344
  have t2353 : s2349 200 3 = -1 := by rw [← hs2350]; exact (zset_k (by decide)).trans t2345
  have t2354 : s2349 164 50 = 0 := by rw [← hs2350]; exact (zset_j (by decide)).trans t2346
  have t2355 : s2349 164 54 = 0 := by rw [← hs2350]; exact (zset_j (by decide)).trans t2347
  have t2356 : s2349 164 1 = 0 := by rw [← hs2350]; exact (zset_j (by decide)).trans t2348
  refine zt_aload_n (pc' := 1593) hX dX12_init_1592 rfl rfl ?_
  refine zt_iconst (pc' := 1594) hX dX12_init_1593 rfl ?_
  refine zt_newa (pc' := 1596) (t := 3) (N := 3) hX dX12_init_1594 rfl zw_10_19 rfl (by decide) (by decide) zc_233 zs_115 (by decide) (by decide) (zCs_nx q2351) ⟨by rw [hN.2.1]; exact Nat.le_of_ble_eq_true rfl, by rw [hN.2.2]; exact Nat.le_of_ble_eq_true rfl⟩ ?_
  have q2357 := zCs_arr q2351 zc_233 zs_115 (by decide)
  refine zt_dup (pc' := 1597) hX dX12_init_1596 rfl rfl ?_
  refine zt_iconst (pc' := 1598) hX dX12_init_1597 rfl ?_
  refine zt_bipush (pc' := 1600) hX dX12_init_1598 rfl (by decide) (by decide) ?_
  refine zt_cast (pc' := 1601) hX dX12_init_1600 rfl (by omega) zc_233 zs_115 (by decide) ⟨by decide, by decide⟩ (by decide +kernel) ?_
  rw [show Int.toNat 0 = 0 from rfl]
  generalize hs2359 : zset s2349 233 0 102 = s2358
  have q2360 := zCs_el hs2359 q2357 (by omega) (by omega) zc_233 zs_115 (show 0 ≤ (102 : Int) ∧ (102 : Int) ≤ 65535 from ⟨by decide, by decide⟩)
  have t2361 : s2358 200 2 = -1 := by rw [← hs2359]; exact (zset_k (by decide)).trans t2352
  have t2362 : s2358 200 3 = -1 := by rw [← hs2359]; exact (zset_k (by decide)).trans t2353
  have t2363 : s2358 164 50 = 0 := by rw [← hs2359]; exact (zset_k (by decide)).trans t2354
  have t2364 : s2358 164 54 = 0 := by rw [← hs2359]; exact (zset_k (by decide)).trans t2355
  have t2365 : s2358 164 1 = 0 := by rw [← hs2359]; exact (zset_k (by decide)).trans t2356
  refine zt_dup (pc' := 1602) hX dX12_init_1601 rfl rfl ?_
  refine zt_iconst (pc' := 1603) hX dX12_init_1602 rfl ?_
  refine zt_bipush (pc' := 1605) hX dX12_init_1603 rfl (by decide) (by decide) ?_
  refine zt_cast (pc' := 1606) hX dX12_init_1605 rfl (by omega) zc_233 zs_115 (by decide) ⟨by decide, by decide⟩ (by decide +kernel) ?_
  rw [show Int.toNat 1 = 1 from rfl]
  generalize hs2367 : zset s2358 233 1 97 = s2366
  have q2368 := zCs_el hs2367 q2360 (by omega) (by omega) zc_233 zs_115 (show 0 ≤ (97 : Int) ∧ (97 : Int) ≤ 65535 from ⟨by decide, by decide⟩)
  have t2369 : s2366 200 2 = -1 := by rw [← hs2367]; exact (zset_k (by decide)).trans t2361
  have t2370 : s2366 200 3 = -1 := by rw [← hs2367]; exact (zset_k (by decide)).trans t2362
  have t2371 : s2366 164 50 = 0 := by rw [← hs2367]; exact (zset_k (by decide)).trans t2363
  have t2372 : s2366 164 54 = 0 := by rw [← hs2367]; exact (zset_k (by decide)).trans t2364
  have t2373 : s2366 164 1 = 0 := by rw [← hs2367]; exact (zset_k (by decide)).trans t2365
  refine zt_dup (pc' := 1607) hX dX12_init_1606 rfl rfl ?_
  refine zt_iconst (pc' := 1608) hX dX12_init_1607 rfl ?_
  refine zt_bipush (pc' := 1610) hX dX12_init_1608 rfl (by decide) (by decide) ?_
  refine zt_cast (pc' := 1611) hX dX12_init_1610 rfl (by omega) zc_233 zs_115 (by decide) ⟨by decide, by decide⟩ (by decide +kernel) ?_
  rw [show Int.toNat 2 = 2 from rfl]
  generalize hs2375 : zset s2366 233 2 114 = s2374
  have q2376 := zCs_el hs2375 q2368 (by omega) (by omega) zc_233 zs_115 (show 0 ≤ (114 : Int) ∧ (114 : Int) ≤ 65535 from ⟨by decide, by decide⟩)
  have t2377 : s2374 200 2 = -1 := by rw [← hs2375]; exact (zset_k (by decide)).trans t2369
  have t2378 : s2374 200 3 = -1 := by rw [← hs2375]; exact (zset_k (by decide)).trans t2370
  have t2379 : s2374 164 50 = 0 := by rw [← hs2375]; exact (zset_k (by decide)).trans t2371
  have t2380 : s2374 164 54 = 0 := by rw [← hs2375]; exact (zset_k (by decide)).trans t2372
  have t2381 : s2374 164 1 = 0 := by rw [← hs2375]; exact (zset_k (by decide)).trans t2373
  refine zt_putF (pc' := 1614) (x := ((233 : Nat) : Int)) hX dX12_init_1611 rfl hN.1 zf_X12_228 (by omega) zc_164 zs_46 (fun q hq => by cases hq; exact ⟨rfl, rfl⟩) (zrf_of rfl) rfl rfl ?_
  generalize hs2383 : zset s2374 164 95 ((233 : Nat) : Int) = s2382
  have q2384 := zCs_ref hs2383 q2376 zc_164 zs_46 rfl (by omega) (by decide)
  have t2385 : s2382 200 2 = -1 := by rw [← hs2383]; exact (zset_k (by decide)).trans t2377
  have t2386 : s2382 200 3 = -1 := by rw [← hs2383]; exact (zset_k (by decide)).trans t2378
  have t2387 : s2382 164 50 = 0 := by rw [← hs2383]; exact (zset_j (by decide)).trans t2379
  have t2388 : s2382 164 54 = 0 := by rw [← hs2383]; exact (zset_j (by decide)).trans t2380
  have t2389 : s2382 164 1 = 0 := by rw [← hs2383]; exact (zset_j (by decide)).trans t2381
  refine zt_aload_n (pc' := 1615) hX dX12_init_1614 rfl rfl ?_
  refine zt_sipush (pc' := 1618) hX dX12_init_1615 rfl (by decide) (by decide) ?_
  refine zt_newa (pc' := 1620) (t := 0) (N := 1700) hX dX12_init_1618 rfl zw_3_7 rfl (by decide) (by decide) zc_234 zs_116 (by decide) (by decide) (zCs_nx q2384) ⟨by rw [hN.2.1]; exact Nat.le_of_ble_eq_true rfl, by rw [hN.2.2]; exact Nat.le_of_ble_eq_true rfl⟩ ?_
  have q2390 := zCs_arr q2384 zc_234 zs_116 (by decide)
  refine zt_putF (pc' := 1623) (x := ((234 : Nat) : Int)) hX dX12_init_1620 rfl hN.1 zf_X12_231 (by omega) zc_164 zs_46 (fun q hq => by cases hq; exact ⟨rfl, rfl⟩) (zrf_of rfl) rfl rfl ?_
  generalize hs2392 : zset s2382 164 96 ((234 : Nat) : Int) = s2391
  have q2393 := zCs_ref hs2392 q2390 zc_164 zs_46 rfl (by omega) (by decide)
  have t2394 : s2391 200 2 = -1 := by rw [← hs2392]; exact (zset_k (by decide)).trans t2385
  have t2395 : s2391 200 3 = -1 := by rw [← hs2392]; exact (zset_k (by decide)).trans t2386
  have t2396 : s2391 164 50 = 0 := by rw [← hs2392]; exact (zset_j (by decide)).trans t2387
  have t2397 : s2391 164 54 = 0 := by rw [← hs2392]; exact (zset_j (by decide)).trans t2388
  have t2398 : s2391 164 1 = 0 := by rw [← hs2392]; exact (zset_j (by decide)).trans t2389
  refine zt_aload_n (pc' := 1624) hX dX12_init_1623 rfl rfl ?_
  refine zt_sipush (pc' := 1627) hX dX12_init_1624 rfl (by decide) (by decide) ?_
  refine zt_newa (pc' := 1629) (t := 0) (N := 1700) hX dX12_init_1627 rfl zw_3_7 rfl (by decide) (by decide) zc_235 zs_117 (by decide) (by decide) (zCs_nx q2393) ⟨by rw [hN.2.1]; exact Nat.le_of_ble_eq_true rfl, by rw [hN.2.2]; exact Nat.le_of_ble_eq_true rfl⟩ ?_
  have q2399 := zCs_arr q2393 zc_235 zs_117 (by decide)
  refine zt_putF (pc' := 1632) (x := ((235 : Nat) : Int)) hX dX12_init_1629 rfl hN.1 zf_X12_234 (by omega) zc_164 zs_46 (fun q hq => by cases hq; exact ⟨rfl, rfl⟩) (zrf_of rfl) rfl rfl ?_
  generalize hs2401 : zset s2391 164 98 ((235 : Nat) : Int) = s2400
  have q2402 := zCs_ref hs2401 q2399 zc_164 zs_46 rfl (by omega) (by decide)
  have t2403 : s2400 200 2 = -1 := by rw [← hs2401]; exact (zset_k (by decide)).trans t2394
  have t2404 : s2400 200 3 = -1 := by rw [← hs2401]; exact (zset_k (by decide)).trans t2395
  have t2405 : s2400 164 50 = 0 := by rw [← hs2401]; exact (zset_j (by decide)).trans t2396
  have t2406 : s2400 164 54 = 0 := by rw [← hs2401]; exact (zset_j (by decide)).trans t2397
  have t2407 : s2400 164 1 = 0 := by rw [← hs2401]; exact (zset_j (by decide)).trans t2398
  refine zt_aload_n (pc' := 1633) hX dX12_init_1632 rfl rfl ?_
  refine zt_sipush (pc' := 1636) hX dX12_init_1633 rfl (by decide) (by decide) ?_
  refine zt_newa (pc' := 1638) (t := 4) (N := 1700) hX dX12_init_1636 rfl zw_12_1 rfl (by decide) (by decide) zc_236 zs_118 (by decide) (by decide) (zCs_nx q2402) ⟨by rw [hN.2.1]; exact Nat.le_of_ble_eq_true rfl, by rw [hN.2.2]; exact Nat.le_of_ble_eq_true rfl⟩ ?_
  have q2408 := zCs_arr q2402 zc_236 zs_118 (by decide)
  refine zt_putF (pc' := 1641) (x := ((236 : Nat) : Int)) hX dX12_init_1638 rfl hN.1 zf_X12_237 (by omega) zc_164 zs_46 (fun q hq => by cases hq; exact ⟨rfl, rfl⟩) (zrf_of rfl) rfl rfl ?_
  generalize hs2410 : zset s2400 164 102 ((236 : Nat) : Int) = s2409
  have q2411 := zCs_ref hs2410 q2408 zc_164 zs_46 rfl (by omega) (by decide)
  have t2412 : s2409 200 2 = -1 := by rw [← hs2410]; exact (zset_k (by decide)).trans t2403
  have t2413 : s2409 200 3 = -1 := by rw [← hs2410]; exact (zset_k (by decide)).trans t2404
  have t2414 : s2409 164 50 = 0 := by rw [← hs2410]; exact (zset_j (by decide)).trans t2405
  have t2415 : s2409 164 54 = 0 := by rw [← hs2410]; exact (zset_j (by decide)).trans t2406
  have t2416 : s2409 164 1 = 0 := by rw [← hs2410]; exact (zset_j (by decide)).trans t2407
  refine zt_aload_n (pc' := 1642) hX dX12_init_1641 rfl rfl ?_
  refine zt_bipush (pc' := 1644) hX dX12_init_1642 rfl (by decide) (by decide) ?_
  refine zt_newa (pc' := 1646) (t := 0) (N := 79) hX dX12_init_1644 rfl zw_3_7 rfl (by decide) (by decide) zc_237 zs_119 (by decide) (by decide) (zCs_nx q2411) ⟨by rw [hN.2.1]; exact Nat.le_of_ble_eq_true rfl, by rw [hN.2.2]; exact Nat.le_of_ble_eq_true rfl⟩ ?_
  have q2417 := zCs_arr q2411 zc_237 zs_119 (by decide)
  refine zt_putF (pc' := 1649) (x := ((237 : Nat) : Int)) hX dX12_init_1646 rfl hN.1 zf_X12_240 (by omega) zc_164 zs_46 (fun q hq => by cases hq; exact ⟨rfl, rfl⟩) (zrf_of rfl) rfl rfl ?_
  generalize hs2419 : zset s2409 164 106 ((237 : Nat) : Int) = s2418
  have q2420 := zCs_ref hs2419 q2417 zc_164 zs_46 rfl (by omega) (by decide)
  have t2421 : s2418 200 2 = -1 := by rw [← hs2419]; exact (zset_k (by decide)).trans t2412
  have t2422 : s2418 200 3 = -1 := by rw [← hs2419]; exact (zset_k (by decide)).trans t2413
  have t2423 : s2418 164 50 = 0 := by rw [← hs2419]; exact (zset_j (by decide)).trans t2414
  have t2424 : s2418 164 54 = 0 := by rw [← hs2419]; exact (zset_j (by decide)).trans t2415
  have t2425 : s2418 164 1 = 0 := by rw [← hs2419]; exact (zset_j (by decide)).trans t2416
  exact zt_vret hX hR dX12_init_1649 ⟨zCs_end (N := 108) q2420 zc_164 zs_46 (by decide) (fun _ _ => trivial), t2421, t2422, t2423, t2424, t2425⟩
