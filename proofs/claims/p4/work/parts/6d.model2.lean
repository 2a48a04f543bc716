set_option maxRecDepth 100000 in
set_option maxHeartbeats 4000000 in
theorem zxm_6 {X : zCX} {σ s : zSto} (hX : zok X cX12_init RX12 1) (hN : X.2.2.2.2.2.2.2.2.2.1.name = yX12_init.name ∧ X.2.2.2.2.1.cells = 73 ∧ X.2.2.2.2.1.slots = 16482) (q : zQm (0) (0) σ s 45 200) (K : ∀ s' : zSto, zQm (-1) (-1) σ s' 74 212 → zZ X 212 47 11210 s' 991 [some (.ref (X.1.1 + 164))] []) : zZ X 200 35 1862 s 842 [some (.ref (X.1.1 + 164))] [] := by
  refine zt_aload_n (pc' := 843) hX dX12_init_842 rfl rfl ?_
  refine zt_iconst (pc' := 844) hX dX12_init_843 rfl ?_
  refine zt_newaL (pc' := 846) (t := 0) (N := 4) (n' := 201) (cs' := 36) (ss' := 1866) hX dX12_init_844 rfl zw_3_7 rfl (by decide) (by decide) zc_200 zs_82 (by decide) (by decide) (zCs_nx q.1) rfl rfl rfl ⟨by rw [hN.2.1]; exact Nat.le_of_ble_eq_true rfl, by rw [hN.2.2]; exact Nat.le_of_ble_eq_true rfl⟩ ?_
  have q492 := zq_arr (n' := 201) q zc_200 zs_82 (by decide) rfl
  refine zt_dup (pc' := 847) hX dX12_init_846 rfl rfl ?_
  refine zt_iconst (pc' := 848) hX dX12_init_847 rfl ?_
  refine zt_iconst (pc' := 849) hX dX12_init_848 rfl ?_
  refine zt_iast (pc' := 850) hX dX12_init_849 rfl (by decide) zc_200 zs_82 (by decide) ⟨by decide, by decide⟩ ?_
  rw [show Int.toNat 0 = 0 from rfl]
  generalize h494 : zset s 200 0 (-1) = s493
  have q495 := zq_el h494 q492 (by decide) (by decide) zc_200 zs_82 (show -1 ≤ ((-1) : Int) ∧ ((-1) : Int) ≤ 1600 from ⟨by decide, by decide⟩) (by decide)
  clear h494 q492
  refine zt_dup (pc' := 851) hX dX12_init_850 rfl rfl ?_
  refine zt_iconst (pc' := 852) hX dX12_init_851 rfl ?_
  refine zt_iconst (pc' := 853) hX dX12_init_852 rfl ?_
  refine zt_iast (pc' := 854) hX dX12_init_853 rfl (by decide) zc_200 zs_82 (by decide) ⟨by decide, by decide⟩ ?_
  rw [show Int.toNat 1 = 1 from rfl]
  generalize h497 : zset s493 200 1 (-1) = s496
  have q498 := zq_el h497 q495 (by decide) (by decide) zc_200 zs_82 (show -1 ≤ ((-1) : Int) ∧ ((-1) : Int) ≤ 1600 from ⟨by decide, by decide⟩) (by decide)
  clear h497 q495
  refine zt_dup (pc' := 855) hX dX12_init_854 rfl rfl ?_
  refine zt_iconst (pc' := 856) hX dX12_init_855 rfl ?_
  refine zt_iconst (pc' := 857) hX dX12_init_856 rfl ?_
  refine zt_iast (pc' := 858) hX dX12_init_857 rfl (by decide) zc_200 zs_82 (by decide) ⟨by decide, by decide⟩ ?_
  rw [show Int.toNat 2 = 2 from rfl]
  generalize h500 : zset s496 200 2 (-1) = s499
  have q501 := zq_e2 h500 q498 (by decide) zc_200 zs_82 (show -1 ≤ ((-1) : Int) ∧ ((-1) : Int) ≤ 1600 from ⟨by decide, by decide⟩)
  clear h500 q498
  refine zt_dup (pc' := 859) hX dX12_init_858 rfl rfl ?_
  refine zt_iconst (pc' := 860) hX dX12_init_859 rfl ?_
  refine zt_iconst (pc' := 861) hX dX12_init_860 rfl ?_
  refine zt_iast (pc' := 862) hX dX12_init_861 rfl (by decide) zc_200 zs_82 (by decide) ⟨by decide, by decide⟩ ?_
  rw [show Int.toNat 3 = 3 from rfl]
  generalize h503 : zset s499 200 3 (-1) = s502
  have q504 := zq_e3 h503 q501 (by decide) zc_200 zs_82 (show -1 ≤ ((-1) : Int) ∧ ((-1) : Int) ≤ 1600 from ⟨by decide, by decide⟩)
  clear h503 q501
  refine zt_putF (pc' := 865) (x := ((200 : Nat) : Int)) hX dX12_init_862 rfl hN.1 zf_X12_121 (by decide) zc_164 zs_46 (fun q hq => by cases hq; exact ⟨rfl, rfl⟩) (zrf_of rfl) rfl rfl ?_
  generalize h506 : zset s502 164 45 ((200 : Nat) : Int) = s505
  have q507 := zq_ref (m' := 46) (g := 0) h506 q504 rfl (by decide) rfl (by decide) rfl (by decide)
  clear h506 q504
  refine zt_aload_n (pc' := 866) hX dX12_init_865 rfl rfl ?_
  refine zt_iconst (pc' := 867) hX dX12_init_866 rfl ?_
  refine zt_newaL (pc' := 869) (t := 0) (N := 4) (n' := 202) (cs' := 37) (ss' := 1870) hX dX12_init_867 rfl zw_3_7 rfl (by decide) (by decide) zc_201 zs_83 (by decide) (by decide) (zCs_nx q507.1) rfl rfl rfl ⟨by rw [hN.2.1]; exact Nat.le_of_ble_eq_true rfl, by rw [hN.2.2]; exact Nat.le_of_ble_eq_true rfl⟩ ?_
  have q508 := zq_arr (n' := 202) q507 zc_201 zs_83 (by decide) rfl
  clear q507
  refine zt_putF (pc' := 872) (x := ((201 : Nat) : Int)) hX dX12_init_869 rfl hN.1 zf_X12_124 (by decide) zc_164 zs_46 (fun q hq => by cases hq; exact ⟨rfl, rfl⟩) (zrf_of rfl) rfl rfl ?_
  generalize h510 : zset s505 164 46 ((201 : Nat) : Int) = s509
  have q511 := zq_ref (m' := 47) (g := 0) h510 q508 rfl (by decide) rfl (by decide) rfl (by decide)
  clear h510 q508
  refine zt_aload_n (pc' := 873) hX dX12_init_872 rfl rfl ?_
  refine zt_sipush (pc' := 876) hX dX12_init_873 rfl (by decide) (by decide) ?_
  refine zt_newaL (pc' := 878) (t := 0) (N := 3200) (n' := 203) (cs' := 38) (ss' := 5070) hX dX12_init_876 rfl zw_3_7 rfl (by decide) (by decide) zc_202 zs_84 (by decide) (by decide) (zCs_nx q511.1) rfl rfl rfl ⟨by rw [hN.2.1]; exact Nat.le_of_ble_eq_true rfl, by rw [hN.2.2]; exact Nat.le_of_ble_eq_true rfl⟩ ?_
  have q512 := zq_arr (n' := 203) q511 zc_202 zs_84 (by decide) rfl
  clear q511
  refine zt_putF (pc' := 881) (x := ((202 : Nat) : Int)) hX dX12_init_878 rfl hN.1 zf_X12_127 (by decide) zc_164 zs_46 (fun q hq => by cases hq; exact ⟨rfl, rfl⟩) (zrf_of rfl) rfl rfl ?_
  generalize h514 : zset s509 164 47 ((202 : Nat) : Int) = s513
  have q515 := zq_ref (m' := 48) (g := 0) h514 q512 rfl (by decide) rfl (by decide) rfl (by decide)
  clear h514 q512
  refine zt_aload_n (pc' := 882) hX dX12_init_881 rfl rfl ?_
  refine zt_sipush (pc' := 885) hX dX12_init_882 rfl (by decide) (by decide) ?_
  refine zt_newaL (pc' := 887) (t := 0) (N := 188) (n' := 204) (cs' := 39) (ss' := 5258) hX dX12_init_885 rfl zw_3_7 rfl (by decide) (by decide) zc_203 zs_85 (by decide) (by decide) (zCs_nx q515.1) rfl rfl rfl ⟨by rw [hN.2.1]; exact Nat.le_of_ble_eq_true rfl, by rw [hN.2.2]; exact Nat.le_of_ble_eq_true rfl⟩ ?_
  have q516 := zq_arr (n' := 204) q515 zc_203 zs_85 (by decide) rfl
  clear q515
  refine zt_putF (pc' := 890) (x := ((203 : Nat) : Int)) hX dX12_init_887 rfl hN.1 zf_X12_130 (by decide) zc_164 zs_46 (fun q hq => by cases hq; exact ⟨rfl, rfl⟩) (zrf_of rfl) rfl rfl ?_
  generalize h518 : zset s513 164 52 ((203 : Nat) : Int) = s517
  have q519 := zq_ref (m' := 53) (g := 4) h518 q516 rfl (by decide) rfl (by decide) rfl (by decide)
  clear h518 q516
  refine zt_aload_n (pc' := 891) hX dX12_init_890 rfl rfl ?_
  refine zt_bipush (pc' := 893) hX dX12_init_891 rfl (by decide) (by decide) ?_
  refine zt_newaL (pc' := 895) (t := 0) (N := 67) (n' := 205) (cs' := 40) (ss' := 5325) hX dX12_init_893 rfl zw_3_7 rfl (by decide) (by decide) zc_204 zs_86 (by decide) (by decide) (zCs_nx q519.1) rfl rfl rfl ⟨by rw [hN.2.1]; exact Nat.le_of_ble_eq_true rfl, by rw [hN.2.2]; exact Nat.le_of_ble_eq_true rfl⟩ ?_
  have q520 := zq_arr (n' := 205) q519 zc_204 zs_86 (by decide) rfl
  clear q519
  refine zt_putF (pc' := 898) (x := ((204 : Nat) : Int)) hX dX12_init_895 rfl hN.1 zf_X12_133 (by decide) zc_164 zs_46 (fun q hq => by cases hq; exact ⟨rfl, rfl⟩) (zrf_of rfl) rfl rfl ?_
  generalize h522 : zset s517 164 53 ((204 : Nat) : Int) = s521
  have q523 := zq_ref (m' := 54) (g := 0) h522 q520 rfl (by decide) rfl (by decide) rfl (by decide)
  clear h522 q520
  refine zt_aload_n (pc' := 899) hX dX12_init_898 rfl rfl ?_
  refine zt_bipush (pc' := 901) hX dX12_init_899 rfl (by decide) (by decide) ?_
  refine zt_newaL (pc' := 903) (t := 0) (N := 36) (n' := 206) (cs' := 41) (ss' := 5361) hX dX12_init_901 rfl zw_3_7 rfl (by decide) (by decide) zc_205 zs_87 (by decide) (by decide) (zCs_nx q523.1) rfl rfl rfl ⟨by rw [hN.2.1]; exact Nat.le_of_ble_eq_true rfl, by rw [hN.2.2]; exact Nat.le_of_ble_eq_true rfl⟩ ?_
  have q524 := zq_arr (n' := 206) q523 zc_205 zs_87 (by decide) rfl
  clear q523
  refine zt_putF (pc' := 906) (x := ((205 : Nat) : Int)) hX dX12_init_903 rfl hN.1 zf_X12_136 (by decide) zc_164 zs_46 (fun q hq => by cases hq; exact ⟨rfl, rfl⟩) (zrf_of rfl) rfl rfl ?_
  generalize h526 : zset s521 164 57 ((205 : Nat) : Int) = s525
  have q527 := zq_ref (m' := 58) (g := 3) h526 q524 rfl (by decide) rfl (by decide) rfl (by decide)
  clear h526 q524
  refine zt_aload_n (pc' := 907) hX dX12_init_906 rfl rfl ?_
  refine zt_iconst (pc' := 908) hX dX12_init_907 rfl ?_
  refine zt_put (pc' := 911) (x := (-1)) hX dX12_init_908 rfl zf_X12_139 (by decide) zc_164 zs_46 (fun q hq => by cases hq; rfl) rfl rfl rfl ?_
  generalize h529 : zset s525 164 58 (-1) = s528
  have q530 := zq_int h529 q527 (show -1 ≤ ((-1) : Int) ∧ ((-1) : Int) ≤ 35 from ⟨by decide, by decide⟩) (by decide) (by decide)
  clear h529 q527
  refine zt_aload_n (pc' := 912) hX dX12_init_911 rfl rfl ?_
  refine zt_bipush (pc' := 914) hX dX12_init_912 rfl (by decide) (by decide) ?_
  refine zt_newaL (pc' := 916) (t := 2) (N := 36) (n' := 207) (cs' := 42) (ss' := 5397) hX dX12_init_914 rfl zw_8_23 rfl (by decide) (by decide) zc_206 zs_88 (by decide) (by decide) (zCs_nx q530.1) rfl rfl rfl ⟨by rw [hN.2.1]; exact Nat.le_of_ble_eq_true rfl, by rw [hN.2.2]; exact Nat.le_of_ble_eq_true rfl⟩ ?_
  have q531 := zq_arr (n' := 207) q530 zc_206 zs_88 (by decide) rfl
  clear q530
  refine zt_putF (pc' := 919) (x := ((206 : Nat) : Int)) hX dX12_init_916 rfl hN.1 zf_X12_142 (by decide) zc_164 zs_46 (fun q hq => by cases hq; exact ⟨rfl, rfl⟩) (zrf_of rfl) rfl rfl ?_
  generalize h533 : zset s528 164 61 ((206 : Nat) : Int) = s532
  have q534 := zq_ref (m' := 62) (g := 3) h533 q531 rfl (by decide) rfl (by decide) rfl (by decide)
  clear h533 q531
  refine zt_aload_n (pc' := 920) hX dX12_init_919 rfl rfl ?_
  refine zt_bipush (pc' := 922) hX dX12_init_920 rfl (by decide) (by decide) ?_
  refine zt_newaL (pc' := 924) (t := 0) (N := 24) (n' := 208) (cs' := 43) (ss' := 5421) hX dX12_init_922 rfl zw_3_7 rfl (by decide) (by decide) zc_207 zs_89 (by decide) (by decide) (zCs_nx q534.1) rfl rfl rfl ⟨by rw [hN.2.1]; exact Nat.le_of_ble_eq_true rfl, by rw [hN.2.2]; exact Nat.le_of_ble_eq_true rfl⟩ ?_
  have q535 := zq_arr (n' := 208) q534 zc_207 zs_89 (by decide) rfl
  clear q534
  refine zt_putF (pc' := 927) (x := ((207 : Nat) : Int)) hX dX12_init_924 rfl hN.1 zf_X12_146 (by decide) zc_164 zs_46 (fun q hq => by cases hq; exact ⟨rfl, rfl⟩) (zrf_of rfl) rfl rfl ?_
  generalize h537 : zset s532 164 65 ((207 : Nat) : Int) = s536
  have q538 := zq_ref (m' := 66) (g := 3) h537 q535 rfl (by decide) rfl (by decide) rfl (by decide)
  clear h537 q535
  refine zt_aload_n (pc' := 928) hX dX12_init_927 rfl rfl ?_
  refine zt_sipush (pc' := 931) hX dX12_init_928 rfl (by decide) (by decide) ?_
  refine zt_newaL (pc' := 933) (t := 0) (N := 1024) (n' := 209) (cs' := 44) (ss' := 6445) hX dX12_init_931 rfl zw_3_7 rfl (by decide) (by decide) zc_208 zs_90 (by decide) (by decide) (zCs_nx q538.1) rfl rfl rfl ⟨by rw [hN.2.1]; exact Nat.le_of_ble_eq_true rfl, by rw [hN.2.2]; exact Nat.le_of_ble_eq_true rfl⟩ ?_
  have q539 := zq_arr (n' := 209) q538 zc_208 zs_90 (by decide) rfl
  clear q538
  refine zt_putF (pc' := 936) (x := ((208 : Nat) : Int)) hX dX12_init_933 rfl hN.1 zf_X12_149 (by decide) zc_164 zs_46 (fun q hq => by cases hq; exact ⟨rfl, rfl⟩) (zrf_of rfl) rfl rfl ?_
  generalize h541 : zset s536 164 66 ((208 : Nat) : Int) = s540
  have q542 := zq_ref (m' := 67) (g := 0) h541 q539 rfl (by decide) rfl (by decide) rfl (by decide)
  clear h541 q539
  refine zt_aload_n (pc' := 937) hX dX12_init_936 rfl rfl ?_
  refine zt_sipush (pc' := 940) hX dX12_init_937 rfl (by decide) (by decide) ?_
  refine zt_newaL (pc' := 942) (t := 0) (N := 1000) (n' := 210) (cs' := 45) (ss' := 7445) hX dX12_init_940 rfl zw_3_7 rfl (by decide) (by decide) zc_209 zs_91 (by decide) (by decide) (zCs_nx q542.1) rfl rfl rfl ⟨by rw [hN.2.1]; exact Nat.le_of_ble_eq_true rfl, by rw [hN.2.2]; exact Nat.le_of_ble_eq_true rfl⟩ ?_
  have q543 := zq_arr (n' := 210) q542 zc_209 zs_91 (by decide) rfl
  clear q542
  refine zt_putF (pc' := 945) (x := ((209 : Nat) : Int)) hX dX12_init_942 rfl hN.1 zf_X12_152 (by decide) zc_164 zs_46 (fun q hq => by cases hq; exact ⟨rfl, rfl⟩) (zrf_of rfl) rfl rfl ?_
  generalize h545 : zset s540 164 68 ((209 : Nat) : Int) = s544
  have q546 := zq_ref (m' := 69) (g := 1) h545 q543 rfl (by decide) rfl (by decide) rfl (by decide)
  clear h545 q543
  refine zt_aload_n (pc' := 946) hX dX12_init_945 rfl rfl ?_
  refine zt_sipush (pc' := 949) hX dX12_init_946 rfl (by decide) (by decide) ?_
  refine zt_newaL (pc' := 951) (t := 0) (N := 3760) (n' := 211) (cs' := 46) (ss' := 11205) hX dX12_init_949 rfl zw_3_7 rfl (by decide) (by decide) zc_210 zs_92 (by decide) (by decide) (zCs_nx q546.1) rfl rfl rfl ⟨by rw [hN.2.1]; exact Nat.le_of_ble_eq_true rfl, by rw [hN.2.2]; exact Nat.le_of_ble_eq_true rfl⟩ ?_
  have q547 := zq_arr (n' := 211) q546 zc_210 zs_92 (by decide) rfl
  clear q546
  refine zt_putF (pc' := 954) (x := ((210 : Nat) : Int)) hX dX12_init_951 rfl hN.1 zf_X12_155 (by decide) zc_164 zs_46 (fun q hq => by cases hq; exact ⟨rfl, rfl⟩) (zrf_of rfl) rfl rfl ?_
  generalize h549 : zset s544 164 69 ((210 : Nat) : Int) = s548
  have q550 := zq_ref (m' := 70) (g := 0) h549 q547 rfl (by decide) rfl (by decide) rfl (by decide)
  clear h549 q547
  refine zt_aload_n (pc' := 955) hX dX12_init_954 rfl rfl ?_
  refine zt_lconst (y := 1) (pc' := 956) hX dX12_init_955 rfl (by decide +kernel) ?_
  refine zt_put (pc' := 959) (x := 1) hX dX12_init_956 rfl zf_X12_158 (by decide) zc_164 zs_46 (fun q hq => by cases hq; rfl) rfl rfl rfl ?_
  generalize h552 : zset s548 164 72 1 = s551
  have q553 := zq_int h552 q550 (show 0 ≤ (1 : Int) ∧ (1 : Int) ≤ 2147483647 from ⟨by decide, by decide⟩) (by decide) (by decide)
  clear h552 q550
  refine zt_aload_n (pc' := 960) hX dX12_init_959 rfl rfl ?_
  refine zt_iconst (pc' := 961) hX dX12_init_960 rfl ?_
  refine zt_newaL (pc' := 963) (t := 3) (N := 5) (n' := 212) (cs' := 47) (ss' := 11210) hX dX12_init_961 rfl zw_10_19 rfl (by decide) (by decide) zc_211 zs_93 (by decide) (by decide) (zCs_nx q553.1) rfl rfl rfl ⟨by rw [hN.2.1]; exact Nat.le_of_ble_eq_true rfl, by rw [hN.2.2]; exact Nat.le_of_ble_eq_true rfl⟩ ?_
  have q554 := zq_arr (n' := 212) q553 zc_211 zs_93 (by decide) rfl
  clear q553
  refine zt_dup (pc' := 964) hX dX12_init_963 rfl rfl ?_
  refine zt_iconst (pc' := 965) hX dX12_init_964 rfl ?_
  refine zt_bipush (pc' := 967) hX dX12_init_965 rfl (by decide) (by decide) ?_
  refine zt_cast (pc' := 968) hX dX12_init_967 rfl (by decide) zc_211 zs_93 (by decide) ⟨by decide, by decide⟩ (by decide +kernel) ?_
  rw [show Int.toNat 0 = 0 from rfl]
  generalize h556 : zset s551 211 0 102 = s555
  have q557 := zq_el h556 q554 (by decide) (by decide) zc_211 zs_93 (show 0 ≤ (102 : Int) ∧ (102 : Int) ≤ 65535 from ⟨by decide, by decide⟩) (by decide)
  clear h556 q554
  refine zt_dup (pc' := 969) hX dX12_init_968 rfl rfl ?_
  refine zt_iconst (pc' := 970) hX dX12_init_969 rfl ?_
  refine zt_bipush (pc' := 972) hX dX12_init_970 rfl (by decide) (by decide) ?_
  refine zt_cast (pc' := 973) hX dX12_init_972 rfl (by decide) zc_211 zs_93 (by decide) ⟨by decide, by decide⟩ (by decide +kernel) ?_
  rw [show Int.toNat 1 = 1 from rfl]
  generalize h559 : zset s555 211 1 105 = s558
  have q560 := zq_el h559 q557 (by decide) (by decide) zc_211 zs_93 (show 0 ≤ (105 : Int) ∧ (105 : Int) ≤ 65535 from ⟨by decide, by decide⟩) (by decide)
  clear h559 q557
  refine zt_dup (pc' := 974) hX dX12_init_973 rfl rfl ?_
  refine zt_iconst (pc' := 975) hX dX12_init_974 rfl ?_
  refine zt_bipush (pc' := 977) hX dX12_init_975 rfl (by decide) (by decide) ?_
  refine zt_cast (pc' := 978) hX dX12_init_977 rfl (by decide) zc_211 zs_93 (by decide) ⟨by decide, by decide⟩ (by decide +kernel) ?_
  rw [show Int.toNat 2 = 2 from rfl]
  generalize h562 : zset s558 211 2 114 = s561
  have q563 := zq_el h562 q560 (by decide) (by decide) zc_211 zs_93 (show 0 ≤ (114 : Int) ∧ (114 : Int) ≤ 65535 from ⟨by decide, by decide⟩) (by decide)
  clear h562 q560
  refine zt_dup (pc' := 979) hX dX12_init_978 rfl rfl ?_
  refine zt_iconst (pc' := 980) hX dX12_init_979 rfl ?_
  refine zt_bipush (pc' := 982) hX dX12_init_980 rfl (by decide) (by decide) ?_
  refine zt_cast (pc' := 983) hX dX12_init_982 rfl (by decide) zc_211 zs_93 (by decide) ⟨by decide, by decide⟩ (by decide +kernel) ?_
  rw [show Int.toNat 3 = 3 from rfl]
  generalize h565 : zset s561 211 3 115 = s564
  have q566 := zq_el h565 q563 (by decide) (by decide) zc_211 zs_93 (show 0 ≤ (115 : Int) ∧ (115 : Int) ≤ 65535 from ⟨by decide, by decide⟩) (by decide)
  clear h565 q563
  refine zt_dup (pc' := 984) hX dX12_init_983 rfl rfl ?_
  refine zt_iconst (pc' := 985) hX dX12_init_984 rfl ?_
  refine zt_bipush (pc' := 987) hX dX12_init_985 rfl (by decide) (by decide) ?_
  refine zt_cast (pc' := 988) hX dX12_init_987 rfl (by decide) zc_211 zs_93 (by decide) ⟨by decide, by decide⟩ (by decide +kernel) ?_
  rw [show Int.toNat 4 = 4 from rfl]
  generalize h568 : zset s564 211 4 116 = s567
  have q569 := zq_el h568 q566 (by decide) (by decide) zc_211 zs_93 (show 0 ≤ (116 : Int) ∧ (116 : Int) ≤ 65535 from ⟨by decide, by decide⟩) (by decide)
  clear h568 q566
  refine zt_putF (pc' := 991) (x := ((211 : Nat) : Int)) hX dX12_init_988 rfl hN.1 zf_X12_162 (by decide) zc_164 zs_46 (fun q hq => by cases hq; exact ⟨rfl, rfl⟩) (zrf_of rfl) rfl rfl ?_
  generalize h571 : zset s567 164 73 ((211 : Nat) : Int) = s570
  have q572 := zq_ref (m' := 74) (g := 3) h571 q569 rfl (by decide) rfl (by decide) rfl (by decide)
  clear h571 q569
  exact K s570 q572

set_option maxRecDepth 100000 in
set_option maxHeartbeats 4000000 in
theorem zxm_7 {X : zCX} {σ s : zSto} (hX : zok X cX12_init RX12 1) (hN : X.2.2.2.2.2.2.2.2.2.1.name = yX12_init.name ∧ X.2.2.2.2.1.cells = 73 ∧ X.2.2.2.2.1.slots = 16482) (q : zQm (-1) (-1) σ s 74 212) (K : ∀ s' : zSto, zQm (-1) (-1) σ s' 79 217 → zZ X 217 52 11233 s' 1141 [some (.ref (X.1.1 + 164))] []) : zZ X 212 47 11210 s 991 [some (.ref (X.1.1 + 164))] [] := by
  refine zt_aload_n (pc' := 992) hX dX12_init_991 rfl rfl ?_
  refine zt_iconst (pc' := 993) hX dX12_init_992 rfl ?_
  refine zt_newaL (pc' := 995) (t := 3) (N := 4) (n' := 213) (cs' := 48) (ss' := 11214) hX dX12_init_993 rfl zw_10_19 rfl (by decide) (by decide) zc_212 zs_94 (by decide) (by decide) (zCs_nx q.1) rfl rfl rfl ⟨by rw [hN.2.1]; exact Nat.le_of_ble_eq_true rfl, by rw [hN.2.2]; exact Nat.le_of_ble_eq_true rfl⟩ ?_
  have q573 := zq_arr (n' := 213) q zc_212 zs_94 (by decide) rfl
  refine zt_dup (pc' := 996) hX dX12_init_995 rfl rfl ?_
  refine zt_iconst (pc' := 997) hX dX12_init_996 rfl ?_
  refine zt_bipush (pc' := 999) hX dX12_init_997 rfl (by decide) (by decide) ?_
  refine zt_cast (pc' := 1000) hX dX12_init_999 rfl (by decide) zc_212 zs_94 (by decide) ⟨by decide, by decide⟩ (by decide +kernel) ?_
  rw [show Int.toNat 0 = 0 from rfl]
  generalize h575 : zset s 212 0 108 = s574
  have q576 := zq_el h575 q573 (by decide) (by decide) zc_212 zs_94 (show 0 ≤ (108 : Int) ∧ (108 : Int) ≤ 65535 from ⟨by decide, by decide⟩) (by decide)
  clear h575 q573
  refine zt_dup (pc' := 1001) hX dX12_init_1000 rfl rfl ?_
  refine zt_iconst (pc' := 1002) hX dX12_init_1001 rfl ?_
  refine zt_bipush (pc' := 1004) hX dX12_init_1002 rfl (by decide) (by decide) ?_
  refine zt_cast (pc' := 1005) hX dX12_init_1004 rfl (by decide) zc_212 zs_94 (by decide) ⟨by decide, by decide⟩ (by decide +kernel) ?_
  rw [show Int.toNat 1 = 1 from rfl]
  generalize h578 : zset s574 212 1 97 = s577
  have q579 := zq_el h578 q576 (by decide) (by decide) zc_212 zs_94 (show 0 ≤ (97 : Int) ∧ (97 : Int) ≤ 65535 from ⟨by decide, by decide⟩) (by decide)
  clear h578 q576
  refine zt_dup (pc' := 1006) hX dX12_init_1005 rfl rfl ?_
  refine zt_iconst (pc' := 1007) hX dX12_init_1006 rfl ?_
  refine zt_bipush (pc' := 1009) hX dX12_init_1007 rfl (by decide) (by decide) ?_
  refine zt_cast (pc' := 1010) hX dX12_init_1009 rfl (by decide) zc_212 zs_94 (by decide) ⟨by decide, by decide⟩ (by decide +kernel) ?_
  rw [show Int.toNat 2 = 2 from rfl]
  generalize h581 : zset s577 212 2 115 = s580
  have q582 := zq_el h581 q579 (by decide) (by decide) zc_212 zs_94 (show 0 ≤ (115 : Int) ∧ (115 : Int) ≤ 65535 from ⟨by decide, by decide⟩) (by decide)
  clear h581 q579
  refine zt_dup (pc' := 1011) hX dX12_init_1010 rfl rfl ?_
  refine zt_iconst (pc' := 1012) hX dX12_init_1011 rfl ?_
  refine zt_bipush (pc' := 1014) hX dX12_init_1012 rfl (by decide) (by decide) ?_
  refine zt_cast (pc' := 1015) hX dX12_init_1014 rfl (by decide) zc_212 zs_94 (by decide) ⟨by decide, by decide⟩ (by decide +kernel) ?_
  rw [show Int.toNat 3 = 3 from rfl]
  generalize h584 : zset s580 212 3 116 = s583
  have q585 := zq_el h584 q582 (by decide) (by decide) zc_212 zs_94 (show 0 ≤ (116 : Int) ∧ (116 : Int) ≤ 65535 from ⟨by decide, by decide⟩) (by decide)
  clear h584 q582
  refine zt_putF (pc' := 1018) (x := ((212 : Nat) : Int)) hX dX12_init_1015 rfl hN.1 zf_X12_165 (by decide) zc_164 zs_46 (fun q hq => by cases hq; exact ⟨rfl, rfl⟩) (zrf_of rfl) rfl rfl ?_
  generalize h587 : zset s583 164 74 ((212 : Nat) : Int) = s586
  have q588 := zq_ref (m' := 75) (g := 0) h587 q585 rfl (by decide) rfl (by decide) rfl (by decide)
  clear h587 q585
  refine zt_aload_n (pc' := 1019) hX dX12_init_1018 rfl rfl ?_
  refine zt_iconst (pc' := 1020) hX dX12_init_1019 rfl ?_
  refine zt_newaL (pc' := 1022) (t := 3) (N := 5) (n' := 214) (cs' := 49) (ss' := 11219) hX dX12_init_1020 rfl zw_10_19 rfl (by decide) (by decide) zc_213 zs_95 (by decide) (by decide) (zCs_nx q588.1) rfl rfl rfl ⟨by rw [hN.2.1]; exact Nat.le_of_ble_eq_true rfl, by rw [hN.2.2]; exact Nat.le_of_ble_eq_true rfl⟩ ?_
  have q589 := zq_arr (n' := 214) q588 zc_213 zs_95 (by decide) rfl
  clear q588
  refine zt_dup (pc' := 1023) hX dX12_init_1022 rfl rfl ?_
  refine zt_iconst (pc' := 1024) hX dX12_init_1023 rfl ?_
  refine zt_bipush (pc' := 1026) hX dX12_init_1024 rfl (by decide) (by decide) ?_
  refine zt_cast (pc' := 1027) hX dX12_init_1026 rfl (by decide) zc_213 zs_95 (by decide) ⟨by decide, by decide⟩ (by decide +kernel) ?_
  rw [show Int.toNat 0 = 0 from rfl]
  generalize h591 : zset s586 213 0 111 = s590
  have q592 := zq_el h591 q589 (by decide) (by decide) zc_213 zs_95 (show 0 ≤ (111 : Int) ∧ (111 : Int) ≤ 65535 from ⟨by decide, by decide⟩) (by decide)
  clear h591 q589
  refine zt_dup (pc' := 1028) hX dX12_init_1027 rfl rfl ?_
  refine zt_iconst (pc' := 1029) hX dX12_init_1028 rfl ?_
  refine zt_bipush (pc' := 1031) hX dX12_init_1029 rfl (by decide) (by decide) ?_
  refine zt_cast (pc' := 1032) hX dX12_init_1031 rfl (by decide) zc_213 zs_95 (by decide) ⟨by decide, by decide⟩ (by decide +kernel) ?_
  rw [show Int.toNat 1 = 1 from rfl]
  generalize h594 : zset s590 213 1 102 = s593
  have q595 := zq_el h594 q592 (by decide) (by decide) zc_213 zs_95 (show 0 ≤ (102 : Int) ∧ (102 : Int) ≤ 65535 from ⟨by decide, by decide⟩) (by decide)
  clear h594 q592
  refine zt_dup (pc' := 1033) hX dX12_init_1032 rfl rfl ?_
  refine zt_iconst (pc' := 1034) hX dX12_init_1033 rfl ?_
  refine zt_bipush (pc' := 1036) hX dX12_init_1034 rfl (by decide) (by decide) ?_
  refine zt_cast (pc' := 1037) hX dX12_init_1036 rfl (by decide) zc_213 zs_95 (by decide) ⟨by decide, by decide⟩ (by decide +kernel) ?_
  rw [show Int.toNat 2 = 2 from rfl]
  generalize h597 : zset s593 213 2 116 = s596
  have q598 := zq_el h597 q595 (by decide) (by decide) zc_213 zs_95 (show 0 ≤ (116 : Int) ∧ (116 : Int) ≤ 65535 from ⟨by decide, by decide⟩) (by decide)
  clear h597 q595
  refine zt_dup (pc' := 1038) hX dX12_init_1037 rfl rfl ?_
  refine zt_iconst (pc' := 1039) hX dX12_init_1038 rfl ?_
  refine zt_bipush (pc' := 1041) hX dX12_init_1039 rfl (by decide) (by decide) ?_
  refine zt_cast (pc' := 1042) hX dX12_init_1041 rfl (by decide) zc_213 zs_95 (by decide) ⟨by decide, by decide⟩ (by decide +kernel) ?_
  rw [show Int.toNat 3 = 3 from rfl]
  generalize h600 : zset s596 213 3 101 = s599
  have q601 := zq_el h600 q598 (by decide) (by decide) zc_213 zs_95 (show 0 ≤ (101 : Int) ∧ (101 : Int) ≤ 65535 from ⟨by decide, by decide⟩) (by decide)
  clear h600 q598
  refine zt_dup (pc' := 1043) hX dX12_init_1042 rfl rfl ?_
  refine zt_iconst (pc' := 1044) hX dX12_init_1043 rfl ?_
  refine zt_bipush (pc' := 1046) hX dX12_init_1044 rfl (by decide) (by decide) ?_
  refine zt_cast (pc' := 1047) hX dX12_init_1046 rfl (by decide) zc_213 zs_95 (by decide) ⟨by decide, by decide⟩ (by decide +kernel) ?_
  rw [show Int.toNat 4 = 4 from rfl]
  generalize h603 : zset s599 213 4 110 = s602
  have q604 := zq_el h603 q601 (by decide) (by decide) zc_213 zs_95 (show 0 ≤ (110 : Int) ∧ (110 : Int) ≤ 65535 from ⟨by decide, by decide⟩) (by decide)
  clear h603 q601
  refine zt_putF (pc' := 1050) (x := ((213 : Nat) : Int)) hX dX12_init_1047 rfl hN.1 zf_X12_168 (by decide) zc_164 zs_46 (fun q hq => by cases hq; exact ⟨rfl, rfl⟩) (zrf_of rfl) rfl rfl ?_
  generalize h606 : zset s602 164 75 ((213 : Nat) : Int) = s605
  have q607 := zq_ref (m' := 76) (g := 0) h606 q604 rfl (by decide) rfl (by decide) rfl (by decide)
  clear h606 q604
  refine zt_aload_n (pc' := 1051) hX dX12_init_1050 rfl rfl ?_
  refine zt_iconst (pc' := 1052) hX dX12_init_1051 rfl ?_
  refine zt_newaL (pc' := 1054) (t := 3) (N := 5) (n' := 215) (cs' := 50) (ss' := 11224) hX dX12_init_1052 rfl zw_10_19 rfl (by decide) (by decide) zc_214 zs_96 (by decide) (by decide) (zCs_nx q607.1) rfl rfl rfl ⟨by rw [hN.2.1]; exact Nat.le_of_ble_eq_true rfl, by rw [hN.2.2]; exact Nat.le_of_ble_eq_true rfl⟩ ?_
  have q608 := zq_arr (n' := 215) q607 zc_214 zs_96 (by decide) rfl
  clear q607
  refine zt_dup (pc' := 1055) hX dX12_init_1054 rfl rfl ?_
  refine zt_iconst (pc' := 1056) hX dX12_init_1055 rfl ?_
  refine zt_bipush (pc' := 1058) hX dX12_init_1056 rfl (by decide) (by decide) ?_
  refine zt_cast (pc' := 1059) hX dX12_init_1058 rfl (by decide) zc_214 zs_96 (by decide) ⟨by decide, by decide⟩ (by decide +kernel) ?_
  rw [show Int.toNat 0 = 0 from rfl]
  generalize h610 : zset s605 214 0 116 = s609
  have q611 := zq_el h610 q608 (by decide) (by decide) zc_214 zs_96 (show 0 ≤ (116 : Int) ∧ (116 : Int) ≤ 65535 from ⟨by decide, by decide⟩) (by decide)
  clear h610 q608
  refine zt_dup (pc' := 1060) hX dX12_init_1059 rfl rfl ?_
  refine zt_iconst (pc' := 1061) hX dX12_init_1060 rfl ?_
  refine zt_bipush (pc' := 1063) hX dX12_init_1061 rfl (by decide) (by decide) ?_
  refine zt_cast (pc' := 1064) hX dX12_init_1063 rfl (by decide) zc_214 zs_96 (by decide) ⟨by decide, by decide⟩ (by decide +kernel) ?_
  rw [show Int.toNat 1 = 1 from rfl]
  generalize h613 : zset s609 214 1 111 = s612
  have q614 := zq_el h613 q611 (by decide) (by decide) zc_214 zs_96 (show 0 ≤ (111 : Int) ∧ (111 : Int) ≤ 65535 from ⟨by decide, by decide⟩) (by decide)
  clear h613 q611
  refine zt_dup (pc' := 1065) hX dX12_init_1064 rfl rfl ?_
  refine zt_iconst (pc' := 1066) hX dX12_init_1065 rfl ?_
  refine zt_bipush (pc' := 1068) hX dX12_init_1066 rfl (by decide) (by decide) ?_
  refine zt_cast (pc' := 1069) hX dX12_init_1068 rfl (by decide) zc_214 zs_96 (by decide) ⟨by decide, by decide⟩ (by decide +kernel) ?_
  rw [show Int.toNat 2 = 2 from rfl]
  generalize h616 : zset s612 214 2 116 = s615
  have q617 := zq_el h616 q614 (by decide) (by decide) zc_214 zs_96 (show 0 ≤ (116 : Int) ∧ (116 : Int) ≤ 65535 from ⟨by decide, by decide⟩) (by decide)
  clear h616 q614
  refine zt_dup (pc' := 1070) hX dX12_init_1069 rfl rfl ?_
  refine zt_iconst (pc' := 1071) hX dX12_init_1070 rfl ?_
  refine zt_bipush (pc' := 1073) hX dX12_init_1071 rfl (by decide) (by decide) ?_
  refine zt_cast (pc' := 1074) hX dX12_init_1073 rfl (by decide) zc_214 zs_96 (by decide) ⟨by decide, by decide⟩ (by decide +kernel) ?_
  rw [show Int.toNat 3 = 3 from rfl]
  generalize h619 : zset s615 214 3 97 = s618
  have q620 := zq_el h619 q617 (by decide) (by decide) zc_214 zs_96 (show 0 ≤ (97 : Int) ∧ (97 : Int) ≤ 65535 from ⟨by decide, by decide⟩) (by decide)
  clear h619 q617
  refine zt_dup (pc' := 1075) hX dX12_init_1074 rfl rfl ?_
  refine zt_iconst (pc' := 1076) hX dX12_init_1075 rfl ?_
  refine zt_bipush (pc' := 1078) hX dX12_init_1076 rfl (by decide) (by decide) ?_
  refine zt_cast (pc' := 1079) hX dX12_init_1078 rfl (by decide) zc_214 zs_96 (by decide) ⟨by decide, by decide⟩ (by decide +kernel) ?_
  rw [show Int.toNat 4 = 4 from rfl]
  generalize h622 : zset s618 214 4 108 = s621
  have q623 := zq_el h622 q620 (by decide) (by decide) zc_214 zs_96 (show 0 ≤ (108 : Int) ∧ (108 : Int) ≤ 65535 from ⟨by decide, by decide⟩) (by decide)
  clear h622 q620
  refine zt_putF (pc' := 1082) (x := ((214 : Nat) : Int)) hX dX12_init_1079 rfl hN.1 zf_X12_171 (by decide) zc_164 zs_46 (fun q hq => by cases hq; exact ⟨rfl, rfl⟩) (zrf_of rfl) rfl rfl ?_
  generalize h625 : zset s621 164 76 ((214 : Nat) : Int) = s624
  have q626 := zq_ref (m' := 77) (g := 0) h625 q623 rfl (by decide) rfl (by decide) rfl (by decide)
  clear h625 q623
  refine zt_aload_n (pc' := 1083) hX dX12_init_1082 rfl rfl ?_
  refine zt_iconst (pc' := 1084) hX dX12_init_1083 rfl ?_
  refine zt_newaL (pc' := 1086) (t := 3) (N := 4) (n' := 216) (cs' := 51) (ss' := 11228) hX dX12_init_1084 rfl zw_10_19 rfl (by decide) (by decide) zc_215 zs_97 (by decide) (by decide) (zCs_nx q626.1) rfl rfl rfl ⟨by rw [hN.2.1]; exact Nat.le_of_ble_eq_true rfl, by rw [hN.2.2]; exact Nat.le_of_ble_eq_true rfl⟩ ?_
  have q627 := zq_arr (n' := 216) q626 zc_215 zs_97 (by decide) rfl
  clear q626
  refine zt_dup (pc' := 1087) hX dX12_init_1086 rfl rfl ?_
  refine zt_iconst (pc' := 1088) hX dX12_init_1087 rfl ?_
  refine zt_bipush (pc' := 1090) hX dX12_init_1088 rfl (by decide) (by decide) ?_
  refine zt_cast (pc' := 1091) hX dX12_init_1090 rfl (by decide) zc_215 zs_97 (by decide) ⟨by decide, by decide⟩ (by decide +kernel) ?_
  rw [show Int.toNat 0 = 0 from rfl]
  generalize h629 : zset s624 215 0 109 = s628
  have q630 := zq_el h629 q627 (by decide) (by decide) zc_215 zs_97 (show 0 ≤ (109 : Int) ∧ (109 : Int) ≤ 65535 from ⟨by decide, by decide⟩) (by decide)
  clear h629 q627
  refine zt_dup (pc' := 1092) hX dX12_init_1091 rfl rfl ?_
  refine zt_iconst (pc' := 1093) hX dX12_init_1092 rfl ?_
  refine zt_bipush (pc' := 1095) hX dX12_init_1093 rfl (by decide) (by decide) ?_
  refine zt_cast (pc' := 1096) hX dX12_init_1095 rfl (by decide) zc_215 zs_97 (by decide) ⟨by decide, by decide⟩ (by decide +kernel) ?_
  rw [show Int.toNat 1 = 1 from rfl]
  generalize h632 : zset s628 215 1 111 = s631
  have q633 := zq_el h632 q630 (by decide) (by decide) zc_215 zs_97 (show 0 ≤ (111 : Int) ∧ (111 : Int) ≤ 65535 from ⟨by decide, by decide⟩) (by decide)
  clear h632 q630
  refine zt_dup (pc' := 1097) hX dX12_init_1096 rfl rfl ?_
  refine zt_iconst (pc' := 1098) hX dX12_init_1097 rfl ?_
  refine zt_bipush (pc' := 1100) hX dX12_init_1098 rfl (by decide) (by decide) ?_
  refine zt_cast (pc' := 1101) hX dX12_init_1100 rfl (by decide) zc_215 zs_97 (by decide) ⟨by decide, by decide⟩ (by decide +kernel) ?_
  rw [show Int.toNat 2 = 2 from rfl]
  generalize h635 : zset s631 215 2 115 = s634
  have q636 := zq_el h635 q633 (by decide) (by decide) zc_215 zs_97 (show 0 ≤ (115 : Int) ∧ (115 : Int) ≤ 65535 from ⟨by decide, by decide⟩) (by decide)
  clear h635 q633
  refine zt_dup (pc' := 1102) hX dX12_init_1101 rfl rfl ?_
  refine zt_iconst (pc' := 1103) hX dX12_init_1102 rfl ?_
  refine zt_bipush (pc' := 1105) hX dX12_init_1103 rfl (by decide) (by decide) ?_
  refine zt_cast (pc' := 1106) hX dX12_init_1105 rfl (by decide) zc_215 zs_97 (by decide) ⟨by decide, by decide⟩ (by decide +kernel) ?_
  rw [show Int.toNat 3 = 3 from rfl]
  generalize h638 : zset s634 215 3 116 = s637
  have q639 := zq_el h638 q636 (by decide) (by decide) zc_215 zs_97 (show 0 ≤ (116 : Int) ∧ (116 : Int) ≤ 65535 from ⟨by decide, by decide⟩) (by decide)
  clear h638 q636
  refine zt_putF (pc' := 1109) (x := ((215 : Nat) : Int)) hX dX12_init_1106 rfl hN.1 zf_X12_174 (by decide) zc_164 zs_46 (fun q hq => by cases hq; exact ⟨rfl, rfl⟩) (zrf_of rfl) rfl rfl ?_
  generalize h641 : zset s637 164 77 ((215 : Nat) : Int) = s640
  have q642 := zq_ref (m' := 78) (g := 0) h641 q639 rfl (by decide) rfl (by decide) rfl (by decide)
  clear h641 q639
  refine zt_aload_n (pc' := 1110) hX dX12_init_1109 rfl rfl ?_
  refine zt_iconst (pc' := 1111) hX dX12_init_1110 rfl ?_
  refine zt_newaL (pc' := 1113) (t := 3) (N := 5) (n' := 217) (cs' := 52) (ss' := 11233) hX dX12_init_1111 rfl zw_10_19 rfl (by decide) (by decide) zc_216 zs_98 (by decide) (by decide) (zCs_nx q642.1) rfl rfl rfl ⟨by rw [hN.2.1]; exact Nat.le_of_ble_eq_true rfl, by rw [hN.2.2]; exact Nat.le_of_ble_eq_true rfl⟩ ?_
  have q643 := zq_arr (n' := 217) q642 zc_216 zs_98 (by decide) rfl
  clear q642
  refine zt_dup (pc' := 1114) hX dX12_init_1113 rfl rfl ?_
  refine zt_iconst (pc' := 1115) hX dX12_init_1114 rfl ?_
  refine zt_bipush (pc' := 1117) hX dX12_init_1115 rfl (by decide) (by decide) ?_
  refine zt_cast (pc' := 1118) hX dX12_init_1117 rfl (by decide) zc_216 zs_98 (by decide) ⟨by decide, by decide⟩ (by decide +kernel) ?_
  rw [show Int.toNat 0 = 0 from rfl]
  generalize h645 : zset s640 216 0 108 = s644
  have q646 := zq_el h645 q643 (by decide) (by decide) zc_216 zs_98 (show 0 ≤ (108 : Int) ∧ (108 : Int) ≤ 65535 from ⟨by decide, by decide⟩) (by decide)
  clear h645 q643
  refine zt_dup (pc' := 1119) hX dX12_init_1118 rfl rfl ?_
  refine zt_iconst (pc' := 1120) hX dX12_init_1119 rfl ?_
  refine zt_bipush (pc' := 1122) hX dX12_init_1120 rfl (by decide) (by decide) ?_
  refine zt_cast (pc' := 1123) hX dX12_init_1122 rfl (by decide) zc_216 zs_98 (by decide) ⟨by decide, by decide⟩ (by decide +kernel) ?_
  rw [show Int.toNat 1 = 1 from rfl]
  generalize h648 : zset s644 216 1 101 = s647
  have q649 := zq_el h648 q646 (by decide) (by decide) zc_216 zs_98 (show 0 ≤ (101 : Int) ∧ (101 : Int) ≤ 65535 from ⟨by decide, by decide⟩) (by decide)
  clear h648 q646
  refine zt_dup (pc' := 1124) hX dX12_init_1123 rfl rfl ?_
  refine zt_iconst (pc' := 1125) hX dX12_init_1124 rfl ?_
  refine zt_bipush (pc' := 1127) hX dX12_init_1125 rfl (by decide) (by decide) ?_
  refine zt_cast (pc' := 1128) hX dX12_init_1127 rfl (by decide) zc_216 zs_98 (by decide) ⟨by decide, by decide⟩ (by decide +kernel) ?_
  rw [show Int.toNat 2 = 2 from rfl]
  generalize h651 : zset s647 216 2 97 = s650
  have q652 := zq_el h651 q649 (by decide) (by decide) zc_216 zs_98 (show 0 ≤ (97 : Int) ∧ (97 : Int) ≤ 65535 from ⟨by decide, by decide⟩) (by decide)
  clear h651 q649
  refine zt_dup (pc' := 1129) hX dX12_init_1128 rfl rfl ?_
  refine zt_iconst (pc' := 1130) hX dX12_init_1129 rfl ?_
  refine zt_bipush (pc' := 1132) hX dX12_init_1130 rfl (by decide) (by decide) ?_
  refine zt_cast (pc' := 1133) hX dX12_init_1132 rfl (by decide) zc_216 zs_98 (by decide) ⟨by decide, by decide⟩ (by decide +kernel) ?_
  rw [show Int.toNat 3 = 3 from rfl]
  generalize h654 : zset s650 216 3 115 = s653
  have q655 := zq_el h654 q652 (by decide) (by decide) zc_216 zs_98 (show 0 ≤ (115 : Int) ∧ (115 : Int) ≤ 65535 from ⟨by decide, by decide⟩) (by decide)
  clear h654 q652
  refine zt_dup (pc' := 1134) hX dX12_init_1133 rfl rfl ?_
  refine zt_iconst (pc' := 1135) hX dX12_init_1134 rfl ?_
  refine zt_bipush (pc' := 1137) hX dX12_init_1135 rfl (by decide) (by decide) ?_
  refine zt_cast (pc' := 1138) hX dX12_init_1137 rfl (by decide) zc_216 zs_98 (by decide) ⟨by decide, by decide⟩ (by decide +kernel) ?_
  rw [show Int.toNat 4 = 4 from rfl]
  generalize h657 : zset s653 216 4 116 = s656
  have q658 := zq_el h657 q655 (by decide) (by decide) zc_216 zs_98 (show 0 ≤ (116 : Int) ∧ (116 : Int) ≤ 65535 from ⟨by decide, by decide⟩) (by decide)
  clear h657 q655
  refine zt_putF (pc' := 1141) (x := ((216 : Nat) : Int)) hX dX12_init_1138 rfl hN.1 zf_X12_177 (by decide) zc_164 zs_46 (fun q hq => by cases hq; exact ⟨rfl, rfl⟩) (zrf_of rfl) rfl rfl ?_
  generalize h660 : zset s656 164 78 ((216 : Nat) : Int) = s659
  have q661 := zq_ref (m' := 79) (g := 0) h660 q658 rfl (by decide) rfl (by decide) rfl (by decide)
  clear h660 q658
  exact K s659 q661

set_option maxRecDepth 100000 in
set_option maxHeartbeats 4000000 in
theorem zxm_8 {X : zCX} {σ s : zSto} (hX : zok X cX12_init RX12 1) (hN : X.2.2.2.2.2.2.2.2.2.1.name = yX12_init.name ∧ X.2.2.2.2.1.cells = 73 ∧ X.2.2.2.2.1.slots = 16482) (q : zQm (-1) (-1) σ s 79 217) (K : ∀ s' : zSto, zQm (-1) (-1) σ s' 85 223 → zZ X 223 58 11250 s' 1268 [some (.ref (X.1.1 + 164))] []) : zZ X 217 52 11233 s 1141 [some (.ref (X.1.1 + 164))] [] := by
  refine zt_aload_n (pc' := 1142) hX dX12_init_1141 rfl rfl ?_
  refine zt_iconst (pc' := 1143) hX dX12_init_1142 rfl ?_
  refine zt_newaL (pc' := 1145) (t := 3) (N := 3) (n' := 218) (cs' := 53) (ss' := 11236) hX dX12_init_1143 rfl zw_10_19 rfl (by decide) (by decide) zc_217 zs_99 (by decide) (by decide) (zCs_nx q.1) rfl rfl rfl ⟨by rw [hN.2.1]; exact Nat.le_of_ble_eq_true rfl, by rw [hN.2.2]; exact Nat.le_of_ble_eq_true rfl⟩ ?_
  have q662 := zq_arr (n' := 218) q zc_217 zs_99 (by decide) rfl
  refine zt_dup (pc' := 1146) hX dX12_init_1145 rfl rfl ?_
  refine zt_iconst (pc' := 1147) hX dX12_init_1146 rfl ?_
  refine zt_bipush (pc' := 1149) hX dX12_init_1147 rfl (by decide) (by decide) ?_
  refine zt_cast (pc' := 1150) hX dX12_init_1149 rfl (by decide) zc_217 zs_99 (by decide) ⟨by decide, by decide⟩ (by decide +kernel) ?_
  rw [show Int.toNat 0 = 0 from rfl]
  generalize h664 : zset s 217 0 110 = s663
  have q665 := zq_el h664 q662 (by decide) (by decide) zc_217 zs_99 (show 0 ≤ (110 : Int) ∧ (110 : Int) ≤ 65535 from ⟨by decide, by decide⟩) (by decide)
  clear h664 q662
  refine zt_dup (pc' := 1151) hX dX12_init_1150 rfl rfl ?_
  refine zt_iconst (pc' := 1152) hX dX12_init_1151 rfl ?_
  refine zt_bipush (pc' := 1154) hX dX12_init_1152 rfl (by decide) (by decide) ?_
  refine zt_cast (pc' := 1155) hX dX12_init_1154 rfl (by decide) zc_217 zs_99 (by decide) ⟨by decide, by decide⟩ (by decide +kernel) ?_
  rw [show Int.toNat 1 = 1 from rfl]
  generalize h667 : zset s663 217 1 111 = s666
  have q668 := zq_el h667 q665 (by decide) (by decide) zc_217 zs_99 (show 0 ≤ (111 : Int) ∧ (111 : Int) ≤ 65535 from ⟨by decide, by decide⟩) (by decide)
  clear h667 q665
  refine zt_dup (pc' := 1156) hX dX12_init_1155 rfl rfl ?_
  refine zt_iconst (pc' := 1157) hX dX12_init_1156 rfl ?_
  refine zt_bipush (pc' := 1159) hX dX12_init_1157 rfl (by decide) (by decide) ?_
  refine zt_cast (pc' := 1160) hX dX12_init_1159 rfl (by decide) zc_217 zs_99 (by decide) ⟨by decide, by decide⟩ (by decide +kernel) ?_
  rw [show Int.toNat 2 = 2 from rfl]
  generalize h670 : zset s666 217 2 116 = s669
  have q671 := zq_el h670 q668 (by decide) (by decide) zc_217 zs_99 (show 0 ≤ (116 : Int) ∧ (116 : Int) ≤ 65535 from ⟨by decide, by decide⟩) (by decide)
  clear h670 q668
  refine zt_putF (pc' := 1163) (x := ((217 : Nat) : Int)) hX dX12_init_1160 rfl hN.1 zf_X12_180 (by decide) zc_164 zs_46 (fun q hq => by cases hq; exact ⟨rfl, rfl⟩) (zrf_of rfl) rfl rfl ?_
  generalize h673 : zset s669 164 79 ((217 : Nat) : Int) = s672
  have q674 := zq_ref (m' := 80) (g := 0) h673 q671 rfl (by decide) rfl (by decide) rfl (by decide)
  clear h673 q671
  refine zt_aload_n (pc' := 1164) hX dX12_init_1163 rfl rfl ?_
  refine zt_iconst (pc' := 1165) hX dX12_init_1164 rfl ?_
  refine zt_newaL (pc' := 1167) (t := 3) (N := 3) (n' := 219) (cs' := 54) (ss' := 11239) hX dX12_init_1165 rfl zw_10_19 rfl (by decide) (by decide) zc_218 zs_100 (by decide) (by decide) (zCs_nx q674.1) rfl rfl rfl ⟨by rw [hN.2.1]; exact Nat.le_of_ble_eq_true rfl, by rw [hN.2.2]; exact Nat.le_of_ble_eq_true rfl⟩ ?_
  have q675 := zq_arr (n' := 219) q674 zc_218 zs_100 (by decide) rfl
  clear q674
  refine zt_dup (pc' := 1168) hX dX12_init_1167 rfl rfl ?_
  refine zt_iconst (pc' := 1169) hX dX12_init_1168 rfl ?_
  refine zt_bipush (pc' := 1171) hX dX12_init_1169 rfl (by decide) (by decide) ?_
  refine zt_cast (pc' := 1172) hX dX12_init_1171 rfl (by decide) zc_218 zs_100 (by decide) ⟨by decide, by decide⟩ (by decide +kernel) ?_
  rw [show Int.toNat 0 = 0 from rfl]
  generalize h677 : zset s672 218 0 97 = s676
  have q678 := zq_el h677 q675 (by decide) (by decide) zc_218 zs_100 (show 0 ≤ (97 : Int) ∧ (97 : Int) ≤ 65535 from ⟨by decide, by decide⟩) (by decide)
  clear h677 q675
  refine zt_dup (pc' := 1173) hX dX12_init_1172 rfl rfl ?_
  refine zt_iconst (pc' := 1174) hX dX12_init_1173 rfl ?_
  refine zt_bipush (pc' := 1176) hX dX12_init_1174 rfl (by decide) (by decide) ?_
  refine zt_cast (pc' := 1177) hX dX12_init_1176 rfl (by decide) zc_218 zs_100 (by decide) ⟨by decide, by decide⟩ (by decide +kernel) ?_
  rw [show Int.toNat 1 = 1 from rfl]
  generalize h680 : zset s676 218 1 110 = s679
  have q681 := zq_el h680 q678 (by decide) (by decide) zc_218 zs_100 (show 0 ≤ (110 : Int) ∧ (110 : Int) ≤ 65535 from ⟨by decide, by decide⟩) (by decide)
  clear h680 q678
  refine zt_dup (pc' := 1178) hX dX12_init_1177 rfl rfl ?_
  refine zt_iconst (pc' := 1179) hX dX12_init_1178 rfl ?_
  refine zt_bipush (pc' := 1181) hX dX12_init_1179 rfl (by decide) (by decide) ?_
  refine zt_cast (pc' := 1182) hX dX12_init_1181 rfl (by decide) zc_218 zs_100 (by decide) ⟨by decide, by decide⟩ (by decide +kernel) ?_
  rw [show Int.toNat 2 = 2 from rfl]
  generalize h683 : zset s679 218 2 100 = s682
  have q684 := zq_el h683 q681 (by decide) (by decide) zc_218 zs_100 (show 0 ≤ (100 : Int) ∧ (100 : Int) ≤ 65535 from ⟨by decide, by decide⟩) (by decide)
  clear h683 q681
  refine zt_putF (pc' := 1185) (x := ((218 : Nat) : Int)) hX dX12_init_1182 rfl hN.1 zf_X12_183 (by decide) zc_164 zs_46 (fun q hq => by cases hq; exact ⟨rfl, rfl⟩) (zrf_of rfl) rfl rfl ?_
  generalize h686 : zset s682 164 80 ((218 : Nat) : Int) = s685
  have q687 := zq_ref (m' := 81) (g := 0) h686 q684 rfl (by decide) rfl (by decide) rfl (by decide)
  clear h686 q684
  refine zt_aload_n (pc' := 1186) hX dX12_init_1185 rfl rfl ?_
  refine zt_iconst (pc' := 1187) hX dX12_init_1186 rfl ?_
  refine zt_newaL (pc' := 1189) (t := 3) (N := 2) (n' := 220) (cs' := 55) (ss' := 11241) hX dX12_init_1187 rfl zw_10_19 rfl (by decide) (by decide) zc_219 zs_101 (by decide) (by decide) (zCs_nx q687.1) rfl rfl rfl ⟨by rw [hN.2.1]; exact Nat.le_of_ble_eq_true rfl, by rw [hN.2.2]; exact Nat.le_of_ble_eq_true rfl⟩ ?_
  have q688 := zq_arr (n' := 220) q687 zc_219 zs_101 (by decide) rfl
  clear q687
  refine zt_dup (pc' := 1190) hX dX12_init_1189 rfl rfl ?_
  refine zt_iconst (pc' := 1191) hX dX12_init_1190 rfl ?_
  refine zt_bipush (pc' := 1193) hX dX12_init_1191 rfl (by decide) (by decide) ?_
  refine zt_cast (pc' := 1194) hX dX12_init_1193 rfl (by decide) zc_219 zs_101 (by decide) ⟨by decide, by decide⟩ (by decide +kernel) ?_
  rw [show Int.toNat 0 = 0 from rfl]
  generalize h690 : zset s685 219 0 111 = s689
  have q691 := zq_el h690 q688 (by decide) (by decide) zc_219 zs_101 (show 0 ≤ (111 : Int) ∧ (111 : Int) ≤ 65535 from ⟨by decide, by decide⟩) (by decide)
  clear h690 q688
  refine zt_dup (pc' := 1195) hX dX12_init_1194 rfl rfl ?_
  refine zt_iconst (pc' := 1196) hX dX12_init_1195 rfl ?_
  refine zt_bipush (pc' := 1198) hX dX12_init_1196 rfl (by decide) (by decide) ?_
  refine zt_cast (pc' := 1199) hX dX12_init_1198 rfl (by decide) zc_219 zs_101 (by decide) ⟨by decide, by decide⟩ (by decide +kernel) ?_
  rw [show Int.toNat 1 = 1 from rfl]
  generalize h693 : zset s689 219 1 114 = s692
  have q694 := zq_el h693 q691 (by decide) (by decide) zc_219 zs_101 (show 0 ≤ (114 : Int) ∧ (114 : Int) ≤ 65535 from ⟨by decide, by decide⟩) (by decide)
  clear h693 q691
  refine zt_putF (pc' := 1202) (x := ((219 : Nat) : Int)) hX dX12_init_1199 rfl hN.1 zf_X12_186 (by decide) zc_164 zs_46 (fun q hq => by cases hq; exact ⟨rfl, rfl⟩) (zrf_of rfl) rfl rfl ?_
  generalize h696 : zset s692 164 81 ((219 : Nat) : Int) = s695
  have q697 := zq_ref (m' := 82) (g := 0) h696 q694 rfl (by decide) rfl (by decide) rfl (by decide)
  clear h696 q694
  refine zt_aload_n (pc' := 1203) hX dX12_init_1202 rfl rfl ?_
  refine zt_iconst (pc' := 1204) hX dX12_init_1203 rfl ?_
  refine zt_newaL (pc' := 1206) (t := 3) (N := 3) (n' := 221) (cs' := 56) (ss' := 11244) hX dX12_init_1204 rfl zw_10_19 rfl (by decide) (by decide) zc_220 zs_102 (by decide) (by decide) (zCs_nx q697.1) rfl rfl rfl ⟨by rw [hN.2.1]; exact Nat.le_of_ble_eq_true rfl, by rw [hN.2.2]; exact Nat.le_of_ble_eq_true rfl⟩ ?_
  have q698 := zq_arr (n' := 221) q697 zc_220 zs_102 (by decide) rfl
  clear q697
  refine zt_dup (pc' := 1207) hX dX12_init_1206 rfl rfl ?_
  refine zt_iconst (pc' := 1208) hX dX12_init_1207 rfl ?_
  refine zt_bipush (pc' := 1210) hX dX12_init_1208 rfl (by decide) (by decide) ?_
  refine zt_cast (pc' := 1211) hX dX12_init_1210 rfl (by decide) zc_220 zs_102 (by decide) ⟨by decide, by decide⟩ (by decide +kernel) ?_
  rw [show Int.toNat 0 = 0 from rfl]
  generalize h700 : zset s695 220 0 97 = s699
  have q701 := zq_el h700 q698 (by decide) (by decide) zc_220 zs_102 (show 0 ≤ (97 : Int) ∧ (97 : Int) ≤ 65535 from ⟨by decide, by decide⟩) (by decide)
  clear h700 q698
  refine zt_dup (pc' := 1212) hX dX12_init_1211 rfl rfl ?_
  refine zt_iconst (pc' := 1213) hX dX12_init_1212 rfl ?_
  refine zt_bipush (pc' := 1215) hX dX12_init_1213 rfl (by decide) (by decide) ?_
  refine zt_cast (pc' := 1216) hX dX12_init_1215 rfl (by decide) zc_220 zs_102 (by decide) ⟨by decide, by decide⟩ (by decide +kernel) ?_
  rw [show Int.toNat 1 = 1 from rfl]
  generalize h703 : zset s699 220 1 108 = s702
  have q704 := zq_el h703 q701 (by decide) (by decide) zc_220 zs_102 (show 0 ≤ (108 : Int) ∧ (108 : Int) ≤ 65535 from ⟨by decide, by decide⟩) (by decide)
  clear h703 q701
  refine zt_dup (pc' := 1217) hX dX12_init_1216 rfl rfl ?_
  refine zt_iconst (pc' := 1218) hX dX12_init_1217 rfl ?_
  refine zt_bipush (pc' := 1220) hX dX12_init_1218 rfl (by decide) (by decide) ?_
  refine zt_cast (pc' := 1221) hX dX12_init_1220 rfl (by decide) zc_220 zs_102 (by decide) ⟨by decide, by decide⟩ (by decide +kernel) ?_
  rw [show Int.toNat 2 = 2 from rfl]
  generalize h706 : zset s702 220 2 108 = s705
  have q707 := zq_el h706 q704 (by decide) (by decide) zc_220 zs_102 (show 0 ≤ (108 : Int) ∧ (108 : Int) ≤ 65535 from ⟨by decide, by decide⟩) (by decide)
  clear h706 q704
  refine zt_putF (pc' := 1224) (x := ((220 : Nat) : Int)) hX dX12_init_1221 rfl hN.1 zf_X12_189 (by decide) zc_164 zs_46 (fun q hq => by cases hq; exact ⟨rfl, rfl⟩) (zrf_of rfl) rfl rfl ?_
  generalize h709 : zset s705 164 82 ((220 : Nat) : Int) = s708
  have q710 := zq_ref (m' := 83) (g := 0) h709 q707 rfl (by decide) rfl (by decide) rfl (by decide)
  clear h709 q707
  refine zt_aload_n (pc' := 1225) hX dX12_init_1224 rfl rfl ?_
  refine zt_iconst (pc' := 1226) hX dX12_init_1225 rfl ?_
  refine zt_newaL (pc' := 1228) (t := 3) (N := 3) (n' := 222) (cs' := 57) (ss' := 11247) hX dX12_init_1226 rfl zw_10_19 rfl (by decide) (by decide) zc_221 zs_103 (by decide) (by decide) (zCs_nx q710.1) rfl rfl rfl ⟨by rw [hN.2.1]; exact Nat.le_of_ble_eq_true rfl, by rw [hN.2.2]; exact Nat.le_of_ble_eq_true rfl⟩ ?_
  have q711 := zq_arr (n' := 222) q710 zc_221 zs_103 (by decide) rfl
  clear q710
  refine zt_dup (pc' := 1229) hX dX12_init_1228 rfl rfl ?_
  refine zt_iconst (pc' := 1230) hX dX12_init_1229 rfl ?_
  refine zt_bipush (pc' := 1232) hX dX12_init_1230 rfl (by decide) (by decide) ?_
  refine zt_cast (pc' := 1233) hX dX12_init_1232 rfl (by decide) zc_221 zs_103 (by decide) ⟨by decide, by decide⟩ (by decide +kernel) ?_
  rw [show Int.toNat 0 = 0 from rfl]
  generalize h713 : zset s708 221 0 109 = s712
  have q714 := zq_el h713 q711 (by decide) (by decide) zc_221 zs_103 (show 0 ≤ (109 : Int) ∧ (109 : Int) ≤ 65535 from ⟨by decide, by decide⟩) (by decide)
  clear h713 q711
  refine zt_dup (pc' := 1234) hX dX12_init_1233 rfl rfl ?_
  refine zt_iconst (pc' := 1235) hX dX12_init_1234 rfl ?_
  refine zt_bipush (pc' := 1237) hX dX12_init_1235 rfl (by decide) (by decide) ?_
  refine zt_cast (pc' := 1238) hX dX12_init_1237 rfl (by decide) zc_221 zs_103 (by decide) ⟨by decide, by decide⟩ (by decide +kernel) ?_
  rw [show Int.toNat 1 = 1 from rfl]
  generalize h716 : zset s712 221 1 105 = s715
  have q717 := zq_el h716 q714 (by decide) (by decide) zc_221 zs_103 (show 0 ≤ (105 : Int) ∧ (105 : Int) ≤ 65535 from ⟨by decide, by decide⟩) (by decide)
  clear h716 q714
  refine zt_dup (pc' := 1239) hX dX12_init_1238 rfl rfl ?_
  refine zt_iconst (pc' := 1240) hX dX12_init_1239 rfl ?_
  refine zt_bipush (pc' := 1242) hX dX12_init_1240 rfl (by decide) (by decide) ?_
  refine zt_cast (pc' := 1243) hX dX12_init_1242 rfl (by decide) zc_221 zs_103 (by decide) ⟨by decide, by decide⟩ (by decide +kernel) ?_
  rw [show Int.toNat 2 = 2 from rfl]
  generalize h719 : zset s715 221 2 110 = s718
  have q720 := zq_el h719 q717 (by decide) (by decide) zc_221 zs_103 (show 0 ≤ (110 : Int) ∧ (110 : Int) ≤ 65535 from ⟨by decide, by decide⟩) (by decide)
  clear h719 q717
  refine zt_putF (pc' := 1246) (x := ((221 : Nat) : Int)) hX dX12_init_1243 rfl hN.1 zf_X12_192 (by decide) zc_164 zs_46 (fun q hq => by cases hq; exact ⟨rfl, rfl⟩) (zrf_of rfl) rfl rfl ?_
  generalize h722 : zset s718 164 83 ((221 : Nat) : Int) = s721
  have q723 := zq_ref (m' := 84) (g := 0) h722 q720 rfl (by decide) rfl (by decide) rfl (by decide)
  clear h722 q720
  refine zt_aload_n (pc' := 1247) hX dX12_init_1246 rfl rfl ?_
  refine zt_iconst (pc' := 1248) hX dX12_init_1247 rfl ?_
  refine zt_newaL (pc' := 1250) (t := 3) (N := 3) (n' := 223) (cs' := 58) (ss' := 11250) hX dX12_init_1248 rfl zw_10_19 rfl (by decide) (by decide) zc_222 zs_104 (by decide) (by decide) (zCs_nx q723.1) rfl rfl rfl ⟨by rw [hN.2.1]; exact Nat.le_of_ble_eq_true rfl, by rw [hN.2.2]; exact Nat.le_of_ble_eq_true rfl⟩ ?_
  have q724 := zq_arr (n' := 223) q723 zc_222 zs_104 (by decide) rfl
  clear q723
  refine zt_dup (pc' := 1251) hX dX12_init_1250 rfl rfl ?_
  refine zt_iconst (pc' := 1252) hX dX12_init_1251 rfl ?_
  refine zt_bipush (pc' := 1254) hX dX12_init_1252 rfl (by decide) (by decide) ?_
  refine zt_cast (pc' := 1255) hX dX12_init_1254 rfl (by decide) zc_222 zs_104 (by decide) ⟨by decide, by decide⟩ (by decide +kernel) ?_
  rw [show Int.toNat 0 = 0 from rfl]
  generalize h726 : zset s721 222 0 109 = s725
  have q727 := zq_el h726 q724 (by decide) (by decide) zc_222 zs_104 (show 0 ≤ (109 : Int) ∧ (109 : Int) ≤ 65535 from ⟨by decide, by decide⟩) (by decide)
  clear h726 q724
  refine zt_dup (pc' := 1256) hX dX12_init_1255 rfl rfl ?_
  refine zt_iconst (pc' := 1257) hX dX12_init_1256 rfl ?_
  refine zt_bipush (pc' := 1259) hX dX12_init_1257 rfl (by decide) (by decide) ?_
  refine zt_cast (pc' := 1260) hX dX12_init_1259 rfl (by decide) zc_222 zs_104 (by decide) ⟨by decide, by decide⟩ (by decide +kernel) ?_
  rw [show Int.toNat 1 = 1 from rfl]
  generalize h729 : zset s725 222 1 97 = s728
  have q730 := zq_el h729 q727 (by decide) (by decide) zc_222 zs_104 (show 0 ≤ (97 : Int) ∧ (97 : Int) ≤ 65535 from ⟨by decide, by decide⟩) (by decide)
  clear h729 q727
  refine zt_dup (pc' := 1261) hX dX12_init_1260 rfl rfl ?_
  refine zt_iconst (pc' := 1262) hX dX12_init_1261 rfl ?_
  refine zt_bipush (pc' := 1264) hX dX12_init_1262 rfl (by decide) (by decide) ?_
  refine zt_cast (pc' := 1265) hX dX12_init_1264 rfl (by decide) zc_222 zs_104 (by decide) ⟨by decide, by decide⟩ (by decide +kernel) ?_
  rw [show Int.toNat 2 = 2 from rfl]
  generalize h732 : zset s728 222 2 120 = s731
  have q733 := zq_el h732 q730 (by decide) (by decide) zc_222 zs_104 (show 0 ≤ (120 : Int) ∧ (120 : Int) ≤ 65535 from ⟨by decide, by decide⟩) (by decide)
  clear h732 q730
  refine zt_putF (pc' := 1268) (x := ((222 : Nat) : Int)) hX dX12_init_1265 rfl hN.1 zf_X12_195 (by decide) zc_164 zs_46 (fun q hq => by cases hq; exact ⟨rfl, rfl⟩) (zrf_of rfl) rfl rfl ?_
  generalize h735 : zset s731 164 84 ((222 : Nat) : Int) = s734
  have q736 := zq_ref (m' := 85) (g := 0) h735 q733 rfl (by decide) rfl (by decide) rfl (by decide)
  clear h735 q733
  exact K s734 q736

set_option maxRecDepth 100000 in
set_option maxHeartbeats 4000000 in
theorem zxm_9 {X : zCX} {σ s : zSto} (hX : zok X cX12_init RX12 1) (hN : X.2.2.2.2.2.2.2.2.2.1.name = yX12_init.name ∧ X.2.2.2.2.1.cells = 73 ∧ X.2.2.2.2.1.slots = 16482) (q : zQm (-1) (-1) σ s 85 223) (K : ∀ s' : zSto, zQm (-1) (-1) σ s' 89 227 → zZ X 227 62 11271 s' 1403 [some (.ref (X.1.1 + 164))] []) : zZ X 223 58 11250 s 1268 [some (.ref (X.1.1 + 164))] [] := by
  refine zt_aload_n (pc' := 1269) hX dX12_init_1268 rfl rfl ?_
  refine zt_iconst (pc' := 1270) hX dX12_init_1269 rfl ?_
  refine zt_newaL (pc' := 1272) (t := 3) (N := 4) (n' := 224) (cs' := 59) (ss' := 11254) hX dX12_init_1270 rfl zw_10_19 rfl (by decide) (by decide) zc_223 zs_105 (by decide) (by decide) (zCs_nx q.1) rfl rfl rfl ⟨by rw [hN.2.1]; exact Nat.le_of_ble_eq_true rfl, by rw [hN.2.2]; exact Nat.le_of_ble_eq_true rfl⟩ ?_
  have q737 := zq_arr (n' := 224) q zc_223 zs_105 (by decide) rfl
  refine zt_dup (pc' := 1273) hX dX12_init_1272 rfl rfl ?_
  refine zt_iconst (pc' := 1274) hX dX12_init_1273 rfl ?_
  refine zt_bipush (pc' := 1276) hX dX12_init_1274 rfl (by decide) (by decide) ?_
  refine zt_cast (pc' := 1277) hX dX12_init_1276 rfl (by decide) zc_223 zs_105 (by decide) ⟨by decide, by decide⟩ (by decide +kernel) ?_
  rw [show Int.toNat 0 = 0 from rfl]
  generalize h739 : zset s 223 0 104 = s738
  have q740 := zq_el h739 q737 (by decide) (by decide) zc_223 zs_105 (show 0 ≤ (104 : Int) ∧ (104 : Int) ≤ 65535 from ⟨by decide, by decide⟩) (by decide)
  clear h739 q737
  refine zt_dup (pc' := 1278) hX dX12_init_1277 rfl rfl ?_
  refine zt_iconst (pc' := 1279) hX dX12_init_1278 rfl ?_
  refine zt_bipush (pc' := 1281) hX dX12_init_1279 rfl (by decide) (by decide) ?_
  refine zt_cast (pc' := 1282) hX dX12_init_1281 rfl (by decide) zc_223 zs_105 (by decide) ⟨by decide, by decide⟩ (by decide +kernel) ?_
  rw [show Int.toNat 1 = 1 from rfl]
  generalize h742 : zset s738 223 1 111 = s741
  have q743 := zq_el h742 q740 (by decide) (by decide) zc_223 zs_105 (show 0 ≤ (111 : Int) ∧ (111 : Int) ≤ 65535 from ⟨by decide, by decide⟩) (by decide)
  clear h742 q740
  refine zt_dup (pc' := 1283) hX dX12_init_1282 rfl rfl ?_
  refine zt_iconst (pc' := 1284) hX dX12_init_1283 rfl ?_
  refine zt_bipush (pc' := 1286) hX dX12_init_1284 rfl (by decide) (by decide) ?_
  refine zt_cast (pc' := 1287) hX dX12_init_1286 rfl (by decide) zc_223 zs_105 (by decide) ⟨by decide, by decide⟩ (by decide +kernel) ?_
  rw [show Int.toNat 2 = 2 from rfl]
  generalize h745 : zset s741 223 2 117 = s744
  have q746 := zq_el h745 q743 (by decide) (by decide) zc_223 zs_105 (show 0 ≤ (117 : Int) ∧ (117 : Int) ≤ 65535 from ⟨by decide, by decide⟩) (by decide)
  clear h745 q743
  refine zt_dup (pc' := 1288) hX dX12_init_1287 rfl rfl ?_
  refine zt_iconst (pc' := 1289) hX dX12_init_1288 rfl ?_
  refine zt_bipush (pc' := 1291) hX dX12_init_1289 rfl (by decide) (by decide) ?_
  refine zt_cast (pc' := 1292) hX dX12_init_1291 rfl (by decide) zc_223 zs_105 (by decide) ⟨by decide, by decide⟩ (by decide +kernel) ?_
  rw [show Int.toNat 3 = 3 from rfl]
  generalize h748 : zset s744 223 3 114 = s747
  have q749 := zq_el h748 q746 (by decide) (by decide) zc_223 zs_105 (show 0 ≤ (114 : Int) ∧ (114 : Int) ≤ 65535 from ⟨by decide, by decide⟩) (by decide)
  clear h748 q746
  refine zt_putF (pc' := 1295) (x := ((223 : Nat) : Int)) hX dX12_init_1292 rfl hN.1 zf_X12_198 (by decide) zc_164 zs_46 (fun q hq => by cases hq; exact ⟨rfl, rfl⟩) (zrf_of rfl) rfl rfl ?_
  generalize h751 : zset s747 164 85 ((223 : Nat) : Int) = s750
  have q752 := zq_ref (m' := 86) (g := 0) h751 q749 rfl (by decide) rfl (by decide) rfl (by decide)
  clear h751 q749
  refine zt_aload_n (pc' := 1296) hX dX12_init_1295 rfl rfl ?_
  refine zt_bipush (pc' := 1298) hX dX12_init_1296 rfl (by decide) (by decide) ?_
  refine zt_newaL (pc' := 1300) (t := 3) (N := 6) (n' := 225) (cs' := 60) (ss' := 11260) hX dX12_init_1298 rfl zw_10_19 rfl (by decide) (by decide) zc_224 zs_106 (by decide) (by decide) (zCs_nx q752.1) rfl rfl rfl ⟨by rw [hN.2.1]; exact Nat.le_of_ble_eq_true rfl, by rw [hN.2.2]; exact Nat.le_of_ble_eq_true rfl⟩ ?_
  have q753 := zq_arr (n' := 225) q752 zc_224 zs_106 (by decide) rfl
  clear q752
  refine zt_dup (pc' := 1301) hX dX12_init_1300 rfl rfl ?_
  refine zt_iconst (pc' := 1302) hX dX12_init_1301 rfl ?_
  refine zt_bipush (pc' := 1304) hX dX12_init_1302 rfl (by decide) (by decide) ?_
  refine zt_cast (pc' := 1305) hX dX12_init_1304 rfl (by decide) zc_224 zs_106 (by decide) ⟨by decide, by decide⟩ (by decide +kernel) ?_
  rw [show Int.toNat 0 = 0 from rfl]
  generalize h755 : zset s750 224 0 99 = s754
  have q756 := zq_el h755 q753 (by decide) (by decide) zc_224 zs_106 (show 0 ≤ (99 : Int) ∧ (99 : Int) ≤ 65535 from ⟨by decide, by decide⟩) (by decide)
  clear h755 q753
  refine zt_dup (pc' := 1306) hX dX12_init_1305 rfl rfl ?_
  refine zt_iconst (pc' := 1307) hX dX12_init_1306 rfl ?_
  refine zt_bipush (pc' := 1309) hX dX12_init_1307 rfl (by decide) (by decide) ?_
  refine zt_cast (pc' := 1310) hX dX12_init_1309 rfl (by decide) zc_224 zs_106 (by decide) ⟨by decide, by decide⟩ (by decide +kernel) ?_
  rw [show Int.toNat 1 = 1 from rfl]
  generalize h758 : zset s754 224 1 114 = s757
  have q759 := zq_el h758 q756 (by decide) (by decide) zc_224 zs_106 (show 0 ≤ (114 : Int) ∧ (114 : Int) ≤ 65535 from ⟨by decide, by decide⟩) (by decide)
  clear h758 q756
  refine zt_dup (pc' := 1311) hX dX12_init_1310 rfl rfl ?_
  refine zt_iconst (pc' := 1312) hX dX12_init_1311 rfl ?_
  refine zt_bipush (pc' := 1314) hX dX12_init_1312 rfl (by decide) (by decide) ?_
  refine zt_cast (pc' := 1315) hX dX12_init_1314 rfl (by decide) zc_224 zs_106 (by decide) ⟨by decide, by decide⟩ (by decide +kernel) ?_
  rw [show Int.toNat 2 = 2 from rfl]
  generalize h761 : zset s757 224 2 97 = s760
  have q762 := zq_el h761 q759 (by decide) (by decide) zc_224 zs_106 (show 0 ≤ (97 : Int) ∧ (97 : Int) ≤ 65535 from ⟨by decide, by decide⟩) (by decide)
  clear h761 q759
  refine zt_dup (pc' := 1316) hX dX12_init_1315 rfl rfl ?_
  refine zt_iconst (pc' := 1317) hX dX12_init_1316 rfl ?_
  refine zt_bipush (pc' := 1319) hX dX12_init_1317 rfl (by decide) (by decide) ?_
  refine zt_cast (pc' := 1320) hX dX12_init_1319 rfl (by decide) zc_224 zs_106 (by decide) ⟨by decide, by decide⟩ (by decide +kernel) ?_
  rw [show Int.toNat 3 = 3 from rfl]
  generalize h764 : zset s760 224 3 99 = s763
  have q765 := zq_el h764 q762 (by decide) (by decide) zc_224 zs_106 (show 0 ≤ (99 : Int) ∧ (99 : Int) ≤ 65535 from ⟨by decide, by decide⟩) (by decide)
  clear h764 q762
  refine zt_dup (pc' := 1321) hX dX12_init_1320 rfl rfl ?_
  refine zt_iconst (pc' := 1322) hX dX12_init_1321 rfl ?_
  refine zt_bipush (pc' := 1324) hX dX12_init_1322 rfl (by decide) (by decide) ?_
  refine zt_cast (pc' := 1325) hX dX12_init_1324 rfl (by decide) zc_224 zs_106 (by decide) ⟨by decide, by decide⟩ (by decide +kernel) ?_
  rw [show Int.toNat 4 = 4 from rfl]
  generalize h767 : zset s763 224 4 107 = s766
  have q768 := zq_el h767 q765 (by decide) (by decide) zc_224 zs_106 (show 0 ≤ (107 : Int) ∧ (107 : Int) ≤ 65535 from ⟨by decide, by decide⟩) (by decide)
  clear h767 q765
  refine zt_dup (pc' := 1326) hX dX12_init_1325 rfl rfl ?_
  refine zt_iconst (pc' := 1327) hX dX12_init_1326 rfl ?_
  refine zt_bipush (pc' := 1329) hX dX12_init_1327 rfl (by decide) (by decide) ?_
  refine zt_cast (pc' := 1330) hX dX12_init_1329 rfl (by decide) zc_224 zs_106 (by decide) ⟨by decide, by decide⟩ (by decide +kernel) ?_
  rw [show Int.toNat 5 = 5 from rfl]
  generalize h770 : zset s766 224 5 115 = s769
  have q771 := zq_el h770 q768 (by decide) (by decide) zc_224 zs_106 (show 0 ≤ (115 : Int) ∧ (115 : Int) ≤ 65535 from ⟨by decide, by decide⟩) (by decide)
  clear h770 q768
  refine zt_putF (pc' := 1333) (x := ((224 : Nat) : Int)) hX dX12_init_1330 rfl hN.1 zf_X12_201 (by decide) zc_164 zs_46 (fun q hq => by cases hq; exact ⟨rfl, rfl⟩) (zrf_of rfl) rfl rfl ?_
  generalize h773 : zset s769 164 86 ((224 : Nat) : Int) = s772
  have q774 := zq_ref (m' := 87) (g := 0) h773 q771 rfl (by decide) rfl (by decide) rfl (by decide)
  clear h773 q771
  refine zt_aload_n (pc' := 1334) hX dX12_init_1333 rfl rfl ?_
  refine zt_bipush (pc' := 1336) hX dX12_init_1334 rfl (by decide) (by decide) ?_
  refine zt_newaL (pc' := 1338) (t := 3) (N := 6) (n' := 226) (cs' := 61) (ss' := 11266) hX dX12_init_1336 rfl zw_10_19 rfl (by decide) (by decide) zc_225 zs_107 (by decide) (by decide) (zCs_nx q774.1) rfl rfl rfl ⟨by rw [hN.2.1]; exact Nat.le_of_ble_eq_true rfl, by rw [hN.2.2]; exact Nat.le_of_ble_eq_true rfl⟩ ?_
  have q775 := zq_arr (n' := 226) q774 zc_225 zs_107 (by decide) rfl
  clear q774
  refine zt_dup (pc' := 1339) hX dX12_init_1338 rfl rfl ?_
  refine zt_iconst (pc' := 1340) hX dX12_init_1339 rfl ?_
  refine zt_bipush (pc' := 1342) hX dX12_init_1340 rfl (by decide) (by decide) ?_
  refine zt_cast (pc' := 1343) hX dX12_init_1342 rfl (by decide) zc_225 zs_107 (by decide) ⟨by decide, by decide⟩ (by decide +kernel) ?_
  rw [show Int.toNat 0 = 0 from rfl]
  generalize h777 : zset s772 225 0 119 = s776
  have q778 := zq_el h777 q775 (by decide) (by decide) zc_225 zs_107 (show 0 ≤ (119 : Int) ∧ (119 : Int) ≤ 65535 from ⟨by decide, by decide⟩) (by decide)
  clear h777 q775
  refine zt_dup (pc' := 1344) hX dX12_init_1343 rfl rfl ?_
  refine zt_iconst (pc' := 1345) hX dX12_init_1344 rfl ?_
  refine zt_bipush (pc' := 1347) hX dX12_init_1345 rfl (by decide) (by decide) ?_
  refine zt_cast (pc' := 1348) hX dX12_init_1347 rfl (by decide) zc_225 zs_107 (by decide) ⟨by decide, by decide⟩ (by decide +kernel) ?_
  rw [show Int.toNat 1 = 1 from rfl]
  generalize h780 : zset s776 225 1 101 = s779
  have q781 := zq_el h780 q778 (by decide) (by decide) zc_225 zs_107 (show 0 ≤ (101 : Int) ∧ (101 : Int) ≤ 65535 from ⟨by decide, by decide⟩) (by decide)
  clear h780 q778
  refine zt_dup (pc' := 1349) hX dX12_init_1348 rfl rfl ?_
  refine zt_iconst (pc' := 1350) hX dX12_init_1349 rfl ?_
  refine zt_bipush (pc' := 1352) hX dX12_init_1350 rfl (by decide) (by decide) ?_
  refine zt_cast (pc' := 1353) hX dX12_init_1352 rfl (by decide) zc_225 zs_107 (by decide) ⟨by decide, by decide⟩ (by decide +kernel) ?_
  rw [show Int.toNat 2 = 2 from rfl]
  generalize h783 : zset s779 225 2 105 = s782
  have q784 := zq_el h783 q781 (by decide) (by decide) zc_225 zs_107 (show 0 ≤ (105 : Int) ∧ (105 : Int) ≤ 65535 from ⟨by decide, by decide⟩) (by decide)
  clear h783 q781
  refine zt_dup (pc' := 1354) hX dX12_init_1353 rfl rfl ?_
  refine zt_iconst (pc' := 1355) hX dX12_init_1354 rfl ?_
  refine zt_bipush (pc' := 1357) hX dX12_init_1355 rfl (by decide) (by decide) ?_
  refine zt_cast (pc' := 1358) hX dX12_init_1357 rfl (by decide) zc_225 zs_107 (by decide) ⟨by decide, by decide⟩ (by decide +kernel) ?_
  rw [show Int.toNat 3 = 3 from rfl]
  generalize h786 : zset s782 225 3 103 = s785
  have q787 := zq_el h786 q784 (by decide) (by decide) zc_225 zs_107 (show 0 ≤ (103 : Int) ∧ (103 : Int) ≤ 65535 from ⟨by decide, by decide⟩) (by decide)
  clear h786 q784
  refine zt_dup (pc' := 1359) hX dX12_init_1358 rfl rfl ?_
  refine zt_iconst (pc' := 1360) hX dX12_init_1359 rfl ?_
  refine zt_bipush (pc' := 1362) hX dX12_init_1360 rfl (by decide) (by decide) ?_
  refine zt_cast (pc' := 1363) hX dX12_init_1362 rfl (by decide) zc_225 zs_107 (by decide) ⟨by decide, by decide⟩ (by decide +kernel) ?_
  rw [show Int.toNat 4 = 4 from rfl]
  generalize h789 : zset s785 225 4 104 = s788
  have q790 := zq_el h789 q787 (by decide) (by decide) zc_225 zs_107 (show 0 ≤ (104 : Int) ∧ (104 : Int) ≤ 65535 from ⟨by decide, by decide⟩) (by decide)
  clear h789 q787
  refine zt_dup (pc' := 1364) hX dX12_init_1363 rfl rfl ?_
  refine zt_iconst (pc' := 1365) hX dX12_init_1364 rfl ?_
  refine zt_bipush (pc' := 1367) hX dX12_init_1365 rfl (by decide) (by decide) ?_
  refine zt_cast (pc' := 1368) hX dX12_init_1367 rfl (by decide) zc_225 zs_107 (by decide) ⟨by decide, by decide⟩ (by decide +kernel) ?_
  rw [show Int.toNat 5 = 5 from rfl]
  generalize h792 : zset s788 225 5 116 = s791
  have q793 := zq_el h792 q790 (by decide) (by decide) zc_225 zs_107 (show 0 ≤ (116 : Int) ∧ (116 : Int) ≤ 65535 from ⟨by decide, by decide⟩) (by decide)
  clear h792 q790
  refine zt_putF (pc' := 1371) (x := ((225 : Nat) : Int)) hX dX12_init_1368 rfl hN.1 zf_X12_204 (by decide) zc_164 zs_46 (fun q hq => by cases hq; exact ⟨rfl, rfl⟩) (zrf_of rfl) rfl rfl ?_
  generalize h795 : zset s791 164 87 ((225 : Nat) : Int) = s794
  have q796 := zq_ref (m' := 88) (g := 0) h795 q793 rfl (by decide) rfl (by decide) rfl (by decide)
  clear h795 q793
  refine zt_aload_n (pc' := 1372) hX dX12_init_1371 rfl rfl ?_
  refine zt_iconst (pc' := 1373) hX dX12_init_1372 rfl ?_
  refine zt_newaL (pc' := 1375) (t := 3) (N := 5) (n' := 227) (cs' := 62) (ss' := 11271) hX dX12_init_1373 rfl zw_10_19 rfl (by decide) (by decide) zc_226 zs_108 (by decide) (by decide) (zCs_nx q796.1) rfl rfl rfl ⟨by rw [hN.2.1]; exact Nat.le_of_ble_eq_true rfl, by rw [hN.2.2]; exact Nat.le_of_ble_eq_true rfl⟩ ?_
  have q797 := zq_arr (n' := 227) q796 zc_226 zs_108 (by decide) rfl
  clear q796
  refine zt_dup (pc' := 1376) hX dX12_init_1375 rfl rfl ?_
  refine zt_iconst (pc' := 1377) hX dX12_init_1376 rfl ?_
  refine zt_bipush (pc' := 1379) hX dX12_init_1377 rfl (by decide) (by decide) ?_
  refine zt_cast (pc' := 1380) hX dX12_init_1379 rfl (by decide) zc_226 zs_108 (by decide) ⟨by decide, by decide⟩ (by decide +kernel) ?_
  rw [show Int.toNat 0 = 0 from rfl]
  generalize h799 : zset s794 226 0 108 = s798
  have q800 := zq_el h799 q797 (by decide) (by decide) zc_226 zs_108 (show 0 ≤ (108 : Int) ∧ (108 : Int) ≤ 65535 from ⟨by decide, by decide⟩) (by decide)
  clear h799 q797
  refine zt_dup (pc' := 1381) hX dX12_init_1380 rfl rfl ?_
  refine zt_iconst (pc' := 1382) hX dX12_init_1381 rfl ?_
  refine zt_bipush (pc' := 1384) hX dX12_init_1382 rfl (by decide) (by decide) ?_
  refine zt_cast (pc' := 1385) hX dX12_init_1384 rfl (by decide) zc_226 zs_108 (by decide) ⟨by decide, by decide⟩ (by decide +kernel) ?_
  rw [show Int.toNat 1 = 1 from rfl]
  generalize h802 : zset s798 226 1 105 = s801
  have q803 := zq_el h802 q800 (by decide) (by decide) zc_226 zs_108 (show 0 ≤ (105 : Int) ∧ (105 : Int) ≤ 65535 from ⟨by decide, by decide⟩) (by decide)
  clear h802 q800
  refine zt_dup (pc' := 1386) hX dX12_init_1385 rfl rfl ?_
  refine zt_iconst (pc' := 1387) hX dX12_init_1386 rfl ?_
  refine zt_bipush (pc' := 1389) hX dX12_init_1387 rfl (by decide) (by decide) ?_
  refine zt_cast (pc' := 1390) hX dX12_init_1389 rfl (by decide) zc_226 zs_108 (by decide) ⟨by decide, by decide⟩ (by decide +kernel) ?_
  rw [show Int.toNat 2 = 2 from rfl]
  generalize h805 : zset s801 226 2 102 = s804
  have q806 := zq_el h805 q803 (by decide) (by decide) zc_226 zs_108 (show 0 ≤ (102 : Int) ∧ (102 : Int) ≤ 65535 from ⟨by decide, by decide⟩) (by decide)
  clear h805 q803
  refine zt_dup (pc' := 1391) hX dX12_init_1390 rfl rfl ?_
  refine zt_iconst (pc' := 1392) hX dX12_init_1391 rfl ?_
  refine zt_bipush (pc' := 1394) hX dX12_init_1392 rfl (by decide) (by decide) ?_
  refine zt_cast (pc' := 1395) hX dX12_init_1394 rfl (by decide) zc_226 zs_108 (by decide) ⟨by decide, by decide⟩ (by decide +kernel) ?_
  rw [show Int.toNat 3 = 3 from rfl]
  generalize h808 : zset s804 226 3 116 = s807
  have q809 := zq_el h808 q806 (by decide) (by decide) zc_226 zs_108 (show 0 ≤ (116 : Int) ∧ (116 : Int) ≤ 65535 from ⟨by decide, by decide⟩) (by decide)
  clear h808 q806
  refine zt_dup (pc' := 1396) hX dX12_init_1395 rfl rfl ?_
  refine zt_iconst (pc' := 1397) hX dX12_init_1396 rfl ?_
  refine zt_bipush (pc' := 1399) hX dX12_init_1397 rfl (by decide) (by decide) ?_
  refine zt_cast (pc' := 1400) hX dX12_init_1399 rfl (by decide) zc_226 zs_108 (by decide) ⟨by decide, by decide⟩ (by decide +kernel) ?_
  rw [show Int.toNat 4 = 4 from rfl]
  generalize h811 : zset s807 226 4 115 = s810
  have q812 := zq_el h811 q809 (by decide) (by decide) zc_226 zs_108 (show 0 ≤ (115 : Int) ∧ (115 : Int) ≤ 65535 from ⟨by decide, by decide⟩) (by decide)
  clear h811 q809
  refine zt_putF (pc' := 1403) (x := ((226 : Nat) : Int)) hX dX12_init_1400 rfl hN.1 zf_X12_207 (by decide) zc_164 zs_46 (fun q hq => by cases hq; exact ⟨rfl, rfl⟩) (zrf_of rfl) rfl rfl ?_
  generalize h814 : zset s810 164 88 ((226 : Nat) : Int) = s813
  have q815 := zq_ref (m' := 89) (g := 0) h814 q812 rfl (by decide) rfl (by decide) rfl (by decide)
  clear h814 q812
  exact K s813 q815

set_option maxRecDepth 100000 in
set_option maxHeartbeats 4000000 in
theorem zxm_10 {X : zCX} {σ s : zSto} (hX : zok X cX12_init RX12 1) (hN : X.2.2.2.2.2.2.2.2.2.1.name = yX12_init.name ∧ X.2.2.2.2.1.cells = 73 ∧ X.2.2.2.2.1.slots = 16482) (q : zQm (-1) (-1) σ s 89 227) (K : ∀ s' : zSto, zQm (-1) (-1) σ s' 93 231 → zZ X 231 66 11292 s' 1538 [some (.ref (X.1.1 + 164))] []) : zZ X 227 62 11271 s 1403 [some (.ref (X.1.1 + 164))] [] := by
  refine zt_aload_n (pc' := 1404) hX dX12_init_1403 rfl rfl ?_
  refine zt_iconst (pc' := 1405) hX dX12_init_1404 rfl ?_
  refine zt_newaL (pc' := 1407) (t := 3) (N := 5) (n' := 228) (cs' := 63) (ss' := 11276) hX dX12_init_1405 rfl zw_10_19 rfl (by decide) (by decide) zc_227 zs_109 (by decide) (by decide) (zCs_nx q.1) rfl rfl rfl ⟨by rw [hN.2.1]; exact Nat.le_of_ble_eq_true rfl, by rw [hN.2.2]; exact Nat.le_of_ble_eq_true rfl⟩ ?_
  have q816 := zq_arr (n' := 228) q zc_227 zs_109 (by decide) rfl
  refine zt_dup (pc' := 1408) hX dX12_init_1407 rfl rfl ?_
  refine zt_iconst (pc' := 1409) hX dX12_init_1408 rfl ?_
  refine zt_bipush (pc' := 1411) hX dX12_init_1409 rfl (by decide) (by decide) ?_
  refine zt_cast (pc' := 1412) hX dX12_init_1411 rfl (by decide) zc_227 zs_109 (by decide) ⟨by decide, by decide⟩ (by decide +kernel) ?_
  rw [show Int.toNat 0 = 0 from rfl]
  generalize h818 : zset s 227 0 116 = s817
  have q819 := zq_el h818 q816 (by decide) (by decide) zc_227 zs_109 (show 0 ≤ (116 : Int) ∧ (116 : Int) ≤ 65535 from ⟨by decide, by decide⟩) (by decide)
  clear h818 q816
  refine zt_dup (pc' := 1413) hX dX12_init_1412 rfl rfl ?_
  refine zt_iconst (pc' := 1414) hX dX12_init_1413 rfl ?_
  refine zt_bipush (pc' := 1416) hX dX12_init_1414 rfl (by decide) (by decide) ?_
  refine zt_cast (pc' := 1417) hX dX12_init_1416 rfl (by decide) zc_227 zs_109 (by decide) ⟨by decide, by decide⟩ (by decide +kernel) ?_
  rw [show Int.toNat 1 = 1 from rfl]
  generalize h821 : zset s817 227 1 105 = s820
  have q822 := zq_el h821 q819 (by decide) (by decide) zc_227 zs_109 (show 0 ≤ (105 : Int) ∧ (105 : Int) ≤ 65535 from ⟨by decide, by decide⟩) (by decide)
  clear h821 q819
  refine zt_dup (pc' := 1418) hX dX12_init_1417 rfl rfl ?_
  refine zt_iconst (pc' := 1419) hX dX12_init_1418 rfl ?_
  refine zt_bipush (pc' := 1421) hX dX12_init_1419 rfl (by decide) (by decide) ?_
  refine zt_cast (pc' := 1422) hX dX12_init_1421 rfl (by decide) zc_227 zs_109 (by decide) ⟨by decide, by decide⟩ (by decide +kernel) ?_
  rw [show Int.toNat 2 = 2 from rfl]
  generalize h824 : zset s820 227 2 114 = s823
  have q825 := zq_el h824 q822 (by decide) (by decide) zc_227 zs_109 (show 0 ≤ (114 : Int) ∧ (114 : Int) ≤ 65535 from ⟨by decide, by decide⟩) (by decide)
  clear h824 q822
  refine zt_dup (pc' := 1423) hX dX12_init_1422 rfl rfl ?_
  refine zt_iconst (pc' := 1424) hX dX12_init_1423 rfl ?_
  refine zt_bipush (pc' := 1426) hX dX12_init_1424 rfl (by decide) (by decide) ?_
  refine zt_cast (pc' := 1427) hX dX12_init_1426 rfl (by decide) zc_227 zs_109 (by decide) ⟨by decide, by decide⟩ (by decide +kernel) ?_
  rw [show Int.toNat 3 = 3 from rfl]
  generalize h827 : zset s823 227 3 101 = s826
  have q828 := zq_el h827 q825 (by decide) (by decide) zc_227 zs_109 (show 0 ≤ (101 : Int) ∧ (101 : Int) ≤ 65535 from ⟨by decide, by decide⟩) (by decide)
  clear h827 q825
  refine zt_dup (pc' := 1428) hX dX12_init_1427 rfl rfl ?_
  refine zt_iconst (pc' := 1429) hX dX12_init_1428 rfl ?_
  refine zt_bipush (pc' := 1431) hX dX12_init_1429 rfl (by decide) (by decide) ?_
  refine zt_cast (pc' := 1432) hX dX12_init_1431 rfl (by decide) zc_227 zs_109 (by decide) ⟨by decide, by decide⟩ (by decide +kernel) ?_
  rw [show Int.toNat 4 = 4 from rfl]
  generalize h830 : zset s826 227 4 100 = s829
  have q831 := zq_el h830 q828 (by decide) (by decide) zc_227 zs_109 (show 0 ≤ (100 : Int) ∧ (100 : Int) ≤ 65535 from ⟨by decide, by decide⟩) (by decide)
  clear h830 q828
  refine zt_putF (pc' := 1435) (x := ((227 : Nat) : Int)) hX dX12_init_1432 rfl hN.1 zf_X12_210 (by decide) zc_164 zs_46 (fun q hq => by cases hq; exact ⟨rfl, rfl⟩) (zrf_of rfl) rfl rfl ?_
  generalize h833 : zset s829 164 89 ((227 : Nat) : Int) = s832
  have q834 := zq_ref (m' := 90) (g := 0) h833 q831 rfl (by decide) rfl (by decide) rfl (by decide)
  clear h833 q831
  refine zt_aload_n (pc' := 1436) hX dX12_init_1435 rfl rfl ?_
  refine zt_iconst (pc' := 1437) hX dX12_init_1436 rfl ?_
  refine zt_newaL (pc' := 1439) (t := 3) (N := 4) (n' := 229) (cs' := 64) (ss' := 11280) hX dX12_init_1437 rfl zw_10_19 rfl (by decide) (by decide) zc_228 zs_110 (by decide) (by decide) (zCs_nx q834.1) rfl rfl rfl ⟨by rw [hN.2.1]; exact Nat.le_of_ble_eq_true rfl, by rw [hN.2.2]; exact Nat.le_of_ble_eq_true rfl⟩ ?_
  have q835 := zq_arr (n' := 229) q834 zc_228 zs_110 (by decide) rfl
  clear q834
  refine zt_dup (pc' := 1440) hX dX12_init_1439 rfl rfl ?_
  refine zt_iconst (pc' := 1441) hX dX12_init_1440 rfl ?_
  refine zt_bipush (pc' := 1443) hX dX12_init_1441 rfl (by decide) (by decide) ?_
  refine zt_cast (pc' := 1444) hX dX12_init_1443 rfl (by decide) zc_228 zs_110 (by decide) ⟨by decide, by decide⟩ (by decide +kernel) ?_
  rw [show Int.toNat 0 = 0 from rfl]
  generalize h837 : zset s832 228 0 110 = s836
  have q838 := zq_el h837 q835 (by decide) (by decide) zc_228 zs_110 (show 0 ≤ (110 : Int) ∧ (110 : Int) ≤ 65535 from ⟨by decide, by decide⟩) (by decide)
  clear h837 q835
  refine zt_dup (pc' := 1445) hX dX12_init_1444 rfl rfl ?_
  refine zt_iconst (pc' := 1446) hX dX12_init_1445 rfl ?_
  refine zt_bipush (pc' := 1448) hX dX12_init_1446 rfl (by decide) (by decide) ?_
  refine zt_cast (pc' := 1449) hX dX12_init_1448 rfl (by decide) zc_228 zs_110 (by decide) ⟨by decide, by decide⟩ (by decide +kernel) ?_
  rw [show Int.toNat 1 = 1 from rfl]
  generalize h840 : zset s836 228 1 101 = s839
  have q841 := zq_el h840 q838 (by decide) (by decide) zc_228 zs_110 (show 0 ≤ (101 : Int) ∧ (101 : Int) ≤ 65535 from ⟨by decide, by decide⟩) (by decide)
  clear h840 q838
  refine zt_dup (pc' := 1450) hX dX12_init_1449 rfl rfl ?_
  refine zt_iconst (pc' := 1451) hX dX12_init_1450 rfl ?_
  refine zt_bipush (pc' := 1453) hX dX12_init_1451 rfl (by decide) (by decide) ?_
  refine zt_cast (pc' := 1454) hX dX12_init_1453 rfl (by decide) zc_228 zs_110 (by decide) ⟨by decide, by decide⟩ (by decide +kernel) ?_
  rw [show Int.toNat 2 = 2 from rfl]
  generalize h843 : zset s839 228 2 97 = s842
  have q844 := zq_el h843 q841 (by decide) (by decide) zc_228 zs_110 (show 0 ≤ (97 : Int) ∧ (97 : Int) ≤ 65535 from ⟨by decide, by decide⟩) (by decide)
  clear h843 q841
  refine zt_dup (pc' := 1455) hX dX12_init_1454 rfl rfl ?_
  refine zt_iconst (pc' := 1456) hX dX12_init_1455 rfl ?_
  refine zt_bipush (pc' := 1458) hX dX12_init_1456 rfl (by decide) (by decide) ?_
  refine zt_cast (pc' := 1459) hX dX12_init_1458 rfl (by decide) zc_228 zs_110 (by decide) ⟨by decide, by decide⟩ (by decide +kernel) ?_
  rw [show Int.toNat 3 = 3 from rfl]
  generalize h846 : zset s842 228 3 114 = s845
  have q847 := zq_el h846 q844 (by decide) (by decide) zc_228 zs_110 (show 0 ≤ (114 : Int) ∧ (114 : Int) ≤ 65535 from ⟨by decide, by decide⟩) (by decide)
  clear h846 q844
  refine zt_putF (pc' := 1462) (x := ((228 : Nat) : Int)) hX dX12_init_1459 rfl hN.1 zf_X12_213 (by decide) zc_164 zs_46 (fun q hq => by cases hq; exact ⟨rfl, rfl⟩) (zrf_of rfl) rfl rfl ?_
  generalize h849 : zset s845 164 90 ((228 : Nat) : Int) = s848
  have q850 := zq_ref (m' := 91) (g := 0) h849 q847 rfl (by decide) rfl (by decide) rfl (by decide)
  clear h849 q847
  refine zt_aload_n (pc' := 1463) hX dX12_init_1462 rfl rfl ?_
  refine zt_bipush (pc' := 1465) hX dX12_init_1463 rfl (by decide) (by decide) ?_
  refine zt_newaL (pc' := 1467) (t := 3) (N := 6) (n' := 230) (cs' := 65) (ss' := 11286) hX dX12_init_1465 rfl zw_10_19 rfl (by decide) (by decide) zc_229 zs_111 (by decide) (by decide) (zCs_nx q850.1) rfl rfl rfl ⟨by rw [hN.2.1]; exact Nat.le_of_ble_eq_true rfl, by rw [hN.2.2]; exact Nat.le_of_ble_eq_true rfl⟩ ?_
  have q851 := zq_arr (n' := 230) q850 zc_229 zs_111 (by decide) rfl
  clear q850
  refine zt_dup (pc' := 1468) hX dX12_init_1467 rfl rfl ?_
  refine zt_iconst (pc' := 1469) hX dX12_init_1468 rfl ?_
  refine zt_bipush (pc' := 1471) hX dX12_init_1469 rfl (by decide) (by decide) ?_
  refine zt_cast (pc' := 1472) hX dX12_init_1471 rfl (by decide) zc_229 zs_111 (by decide) ⟨by decide, by decide⟩ (by decide +kernel) ?_
  rw [show Int.toNat 0 = 0 from rfl]
  generalize h853 : zset s848 229 0 110 = s852
  have q854 := zq_el h853 q851 (by decide) (by decide) zc_229 zs_111 (show 0 ≤ (110 : Int) ∧ (110 : Int) ≤ 65535 from ⟨by decide, by decide⟩) (by decide)
  clear h853 q851
  refine zt_dup (pc' := 1473) hX dX12_init_1472 rfl rfl ?_
  refine zt_iconst (pc' := 1474) hX dX12_init_1473 rfl ?_
  refine zt_bipush (pc' := 1476) hX dX12_init_1474 rfl (by decide) (by decide) ?_
  refine zt_cast (pc' := 1477) hX dX12_init_1476 rfl (by decide) zc_229 zs_111 (by decide) ⟨by decide, by decide⟩ (by decide +kernel) ?_
  rw [show Int.toNat 1 = 1 from rfl]
  generalize h856 : zset s852 229 1 117 = s855
  have q857 := zq_el h856 q854 (by decide) (by decide) zc_229 zs_111 (show 0 ≤ (117 : Int) ∧ (117 : Int) ≤ 65535 from ⟨by decide, by decide⟩) (by decide)
  clear h856 q854
  refine zt_dup (pc' := 1478) hX dX12_init_1477 rfl rfl ?_
  refine zt_iconst (pc' := 1479) hX dX12_init_1478 rfl ?_
  refine zt_bipush (pc' := 1481) hX dX12_init_1479 rfl (by decide) (by decide) ?_
  refine zt_cast (pc' := 1482) hX dX12_init_1481 rfl (by decide) zc_229 zs_111 (by decide) ⟨by decide, by decide⟩ (by decide +kernel) ?_
  rw [show Int.toNat 2 = 2 from rfl]
  generalize h859 : zset s855 229 2 109 = s858
  have q860 := zq_el h859 q857 (by decide) (by decide) zc_229 zs_111 (show 0 ≤ (109 : Int) ∧ (109 : Int) ≤ 65535 from ⟨by decide, by decide⟩) (by decide)
  clear h859 q857
  refine zt_dup (pc' := 1483) hX dX12_init_1482 rfl rfl ?_
  refine zt_iconst (pc' := 1484) hX dX12_init_1483 rfl ?_
  refine zt_bipush (pc' := 1486) hX dX12_init_1484 rfl (by decide) (by decide) ?_
  refine zt_cast (pc' := 1487) hX dX12_init_1486 rfl (by decide) zc_229 zs_111 (by decide) ⟨by decide, by decide⟩ (by decide +kernel) ?_
  rw [show Int.toNat 3 = 3 from rfl]
  generalize h862 : zset s858 229 3 98 = s861
  have q863 := zq_el h862 q860 (by decide) (by decide) zc_229 zs_111 (show 0 ≤ (98 : Int) ∧ (98 : Int) ≤ 65535 from ⟨by decide, by decide⟩) (by decide)
  clear h862 q860
  refine zt_dup (pc' := 1488) hX dX12_init_1487 rfl rfl ?_
  refine zt_iconst (pc' := 1489) hX dX12_init_1488 rfl ?_
  refine zt_bipush (pc' := 1491) hX dX12_init_1489 rfl (by decide) (by decide) ?_
  refine zt_cast (pc' := 1492) hX dX12_init_1491 rfl (by decide) zc_229 zs_111 (by decide) ⟨by decide, by decide⟩ (by decide +kernel) ?_
  rw [show Int.toNat 4 = 4 from rfl]
  generalize h865 : zset s861 229 4 101 = s864
  have q866 := zq_el h865 q863 (by decide) (by decide) zc_229 zs_111 (show 0 ≤ (101 : Int) ∧ (101 : Int) ≤ 65535 from ⟨by decide, by decide⟩) (by decide)
  clear h865 q863
  refine zt_dup (pc' := 1493) hX dX12_init_1492 rfl rfl ?_
  refine zt_iconst (pc' := 1494) hX dX12_init_1493 rfl ?_
  refine zt_bipush (pc' := 1496) hX dX12_init_1494 rfl (by decide) (by decide) ?_
  refine zt_cast (pc' := 1497) hX dX12_init_1496 rfl (by decide) zc_229 zs_111 (by decide) ⟨by decide, by decide⟩ (by decide +kernel) ?_
  rw [show Int.toNat 5 = 5 from rfl]
  generalize h868 : zset s864 229 5 114 = s867
  have q869 := zq_el h868 q866 (by decide) (by decide) zc_229 zs_111 (show 0 ≤ (114 : Int) ∧ (114 : Int) ≤ 65535 from ⟨by decide, by decide⟩) (by decide)
  clear h868 q866
  refine zt_putF (pc' := 1500) (x := ((229 : Nat) : Int)) hX dX12_init_1497 rfl hN.1 zf_X12_216 (by decide) zc_164 zs_46 (fun q hq => by cases hq; exact ⟨rfl, rfl⟩) (zrf_of rfl) rfl rfl ?_
  generalize h871 : zset s867 164 91 ((229 : Nat) : Int) = s870
  have q872 := zq_ref (m' := 92) (g := 0) h871 q869 rfl (by decide) rfl (by decide) rfl (by decide)
  clear h871 q869
  refine zt_aload_n (pc' := 1501) hX dX12_init_1500 rfl rfl ?_
  refine zt_bipush (pc' := 1503) hX dX12_init_1501 rfl (by decide) (by decide) ?_
  refine zt_newaL (pc' := 1505) (t := 3) (N := 6) (n' := 231) (cs' := 66) (ss' := 11292) hX dX12_init_1503 rfl zw_10_19 rfl (by decide) (by decide) zc_230 zs_112 (by decide) (by decide) (zCs_nx q872.1) rfl rfl rfl ⟨by rw [hN.2.1]; exact Nat.le_of_ble_eq_true rfl, by rw [hN.2.2]; exact Nat.le_of_ble_eq_true rfl⟩ ?_
  have q873 := zq_arr (n' := 231) q872 zc_230 zs_112 (by decide) rfl
  clear q872
  refine zt_dup (pc' := 1506) hX dX12_init_1505 rfl rfl ?_
  refine zt_iconst (pc' := 1507) hX dX12_init_1506 rfl ?_
  refine zt_bipush (pc' := 1509) hX dX12_init_1507 rfl (by decide) (by decide) ?_
  refine zt_cast (pc' := 1510) hX dX12_init_1509 rfl (by decide) zc_230 zs_112 (by decide) ⟨by decide, by decide⟩ (by decide +kernel) ?_
  rw [show Int.toNat 0 = 0 from rfl]
  generalize h875 : zset s870 230 0 99 = s874
  have q876 := zq_el h875 q873 (by decide) (by decide) zc_230 zs_112 (show 0 ≤ (99 : Int) ∧ (99 : Int) ≤ 65535 from ⟨by decide, by decide⟩) (by decide)
  clear h875 q873
  refine zt_dup (pc' := 1511) hX dX12_init_1510 rfl rfl ?_
  refine zt_iconst (pc' := 1512) hX dX12_init_1511 rfl ?_
  refine zt_bipush (pc' := 1514) hX dX12_init_1512 rfl (by decide) (by decide) ?_
  refine zt_cast (pc' := 1515) hX dX12_init_1514 rfl (by decide) zc_230 zs_112 (by decide) ⟨by decide, by decide⟩ (by decide +kernel) ?_
  rw [show Int.toNat 1 = 1 from rfl]
  generalize h878 : zset s874 230 1 111 = s877
  have q879 := zq_el h878 q876 (by decide) (by decide) zc_230 zs_112 (show 0 ≤ (111 : Int) ∧ (111 : Int) ≤ 65535 from ⟨by decide, by decide⟩) (by decide)
  clear h878 q876
  refine zt_dup (pc' := 1516) hX dX12_init_1515 rfl rfl ?_
  refine zt_iconst (pc' := 1517) hX dX12_init_1516 rfl ?_
  refine zt_bipush (pc' := 1519) hX dX12_init_1517 rfl (by decide) (by decide) ?_
  refine zt_cast (pc' := 1520) hX dX12_init_1519 rfl (by decide) zc_230 zs_112 (by decide) ⟨by decide, by decide⟩ (by decide +kernel) ?_
  rw [show Int.toNat 2 = 2 from rfl]
  generalize h881 : zset s877 230 2 108 = s880
  have q882 := zq_el h881 q879 (by decide) (by decide) zc_230 zs_112 (show 0 ≤ (108 : Int) ∧ (108 : Int) ≤ 65535 from ⟨by decide, by decide⟩) (by decide)
  clear h881 q879
  refine zt_dup (pc' := 1521) hX dX12_init_1520 rfl rfl ?_
  refine zt_iconst (pc' := 1522) hX dX12_init_1521 rfl ?_
  refine zt_bipush (pc' := 1524) hX dX12_init_1522 rfl (by decide) (by decide) ?_
  refine zt_cast (pc' := 1525) hX dX12_init_1524 rfl (by decide) zc_230 zs_112 (by decide) ⟨by decide, by decide⟩ (by decide +kernel) ?_
  rw [show Int.toNat 3 = 3 from rfl]
  generalize h884 : zset s880 230 3 117 = s883
  have q885 := zq_el h884 q882 (by decide) (by decide) zc_230 zs_112 (show 0 ≤ (117 : Int) ∧ (117 : Int) ≤ 65535 from ⟨by decide, by decide⟩) (by decide)
  clear h884 q882
  refine zt_dup (pc' := 1526) hX dX12_init_1525 rfl rfl ?_
  refine zt_iconst (pc' := 1527) hX dX12_init_1526 rfl ?_
  refine zt_bipush (pc' := 1529) hX dX12_init_1527 rfl (by decide) (by decide) ?_
  refine zt_cast (pc' := 1530) hX dX12_init_1529 rfl (by decide) zc_230 zs_112 (by decide) ⟨by decide, by decide⟩ (by decide +kernel) ?_
  rw [show Int.toNat 4 = 4 from rfl]
  generalize h887 : zset s883 230 4 109 = s886
  have q888 := zq_el h887 q885 (by decide) (by decide) zc_230 zs_112 (show 0 ≤ (109 : Int) ∧ (109 : Int) ≤ 65535 from ⟨by decide, by decide⟩) (by decide)
  clear h887 q885
  refine zt_dup (pc' := 1531) hX dX12_init_1530 rfl rfl ?_
  refine zt_iconst (pc' := 1532) hX dX12_init_1531 rfl ?_
  refine zt_bipush (pc' := 1534) hX dX12_init_1532 rfl (by decide) (by decide) ?_
  refine zt_cast (pc' := 1535) hX dX12_init_1534 rfl (by decide) zc_230 zs_112 (by decide) ⟨by decide, by decide⟩ (by decide +kernel) ?_
  rw [show Int.toNat 5 = 5 from rfl]
  generalize h890 : zset s886 230 5 110 = s889
  have q891 := zq_el h890 q888 (by decide) (by decide) zc_230 zs_112 (show 0 ≤ (110 : Int) ∧ (110 : Int) ≤ 65535 from ⟨by decide, by decide⟩) (by decide)
  clear h890 q888
  refine zt_putF (pc' := 1538) (x := ((230 : Nat) : Int)) hX dX12_init_1535 rfl hN.1 zf_X12_219 (by decide) zc_164 zs_46 (fun q hq => by cases hq; exact ⟨rfl, rfl⟩) (zrf_of rfl) rfl rfl ?_
  generalize h893 : zset s889 164 92 ((230 : Nat) : Int) = s892
  have q894 := zq_ref (m' := 93) (g := 0) h893 q891 rfl (by decide) rfl (by decide) rfl (by decide)
  clear h893 q891
  exact K s892 q894

set_option maxRecDepth 100000 in
set_option maxHeartbeats 4000000 in
theorem zxm_11 {X : zCX} {σ s : zSto} (hX : zok X cX12_init RX12 1) (hN : X.2.2.2.2.2.2.2.2.2.1.name = yX12_init.name ∧ X.2.2.2.2.1.cells = 73 ∧ X.2.2.2.2.1.slots = 16482) (q : zQm (-1) (-1) σ s 93 231) (K : ∀ s' : zSto, zQm (-1) (-1) σ s' 107 238 → zZ X 238 73 16482 s' 1649 [some (.ref (X.1.1 + 164))] []) : zZ X 231 66 11292 s 1538 [some (.ref (X.1.1 + 164))] [] := by
  refine zt_aload_n (pc' := 1539) hX dX12_init_1538 rfl rfl ?_
  refine zt_iconst (pc' := 1540) hX dX12_init_1539 rfl ?_
  refine zt_newaL (pc' := 1542) (t := 3) (N := 3) (n' := 232) (cs' := 67) (ss' := 11295) hX dX12_init_1540 rfl zw_10_19 rfl (by decide) (by decide) zc_231 zs_113 (by decide) (by decide) (zCs_nx q.1) rfl rfl rfl ⟨by rw [hN.2.1]; exact Nat.le_of_ble_eq_true rfl, by rw [hN.2.2]; exact Nat.le_of_ble_eq_true rfl⟩ ?_
  have q895 := zq_arr (n' := 232) q zc_231 zs_113 (by decide) rfl
  refine zt_dup (pc' := 1543) hX dX12_init_1542 rfl rfl ?_
  refine zt_iconst (pc' := 1544) hX dX12_init_1543 rfl ?_
  refine zt_bipush (pc' := 1546) hX dX12_init_1544 rfl (by decide) (by decide) ?_
  refine zt_cast (pc' := 1547) hX dX12_init_1546 rfl (by decide) zc_231 zs_113 (by decide) ⟨by decide, by decide⟩ (by decide +kernel) ?_
  rw [show Int.toNat 0 = 0 from rfl]
  generalize h897 : zset s 231 0 114 = s896
  have q898 := zq_el h897 q895 (by decide) (by decide) zc_231 zs_113 (show 0 ≤ (114 : Int) ∧ (114 : Int) ≤ 65535 from ⟨by decide, by decide⟩) (by decide)
  clear h897 q895
  refine zt_dup (pc' := 1548) hX dX12_init_1547 rfl rfl ?_
  refine zt_iconst (pc' := 1549) hX dX12_init_1548 rfl ?_
  refine zt_bipush (pc' := 1551) hX dX12_init_1549 rfl (by decide) (by decide) ?_
  refine zt_cast (pc' := 1552) hX dX12_init_1551 rfl (by decide) zc_231 zs_113 (by decide) ⟨by decide, by decide⟩ (by decide +kernel) ?_
  rw [show Int.toNat 1 = 1 from rfl]
  generalize h900 : zset s896 231 1 111 = s899
  have q901 := zq_el h900 q898 (by decide) (by decide) zc_231 zs_113 (show 0 ≤ (111 : Int) ∧ (111 : Int) ≤ 65535 from ⟨by decide, by decide⟩) (by decide)
  clear h900 q898
  refine zt_dup (pc' := 1553) hX dX12_init_1552 rfl rfl ?_
  refine zt_iconst (pc' := 1554) hX dX12_init_1553 rfl ?_
  refine zt_bipush (pc' := 1556) hX dX12_init_1554 rfl (by decide) (by decide) ?_
  refine zt_cast (pc' := 1557) hX dX12_init_1556 rfl (by decide) zc_231 zs_113 (by decide) ⟨by decide, by decide⟩ (by decide +kernel) ?_
  rw [show Int.toNat 2 = 2 from rfl]
  generalize h903 : zset s899 231 2 119 = s902
  have q904 := zq_el h903 q901 (by decide) (by decide) zc_231 zs_113 (show 0 ≤ (119 : Int) ∧ (119 : Int) ≤ 65535 from ⟨by decide, by decide⟩) (by decide)
  clear h903 q901
  refine zt_putF (pc' := 1560) (x := ((231 : Nat) : Int)) hX dX12_init_1557 rfl hN.1 zf_X12_222 (by decide) zc_164 zs_46 (fun q hq => by cases hq; exact ⟨rfl, rfl⟩) (zrf_of rfl) rfl rfl ?_
  generalize h906 : zset s902 164 93 ((231 : Nat) : Int) = s905
  have q907 := zq_ref (m' := 94) (g := 0) h906 q904 rfl (by decide) rfl (by decide) rfl (by decide)
  clear h906 q904
  refine zt_aload_n (pc' := 1561) hX dX12_init_1560 rfl rfl ?_
  refine zt_iconst (pc' := 1562) hX dX12_init_1561 rfl ?_
  refine zt_newaL (pc' := 1564) (t := 3) (N := 5) (n' := 233) (cs' := 68) (ss' := 11300) hX dX12_init_1562 rfl zw_10_19 rfl (by decide) (by decide) zc_232 zs_114 (by decide) (by decide) (zCs_nx q907.1) rfl rfl rfl ⟨by rw [hN.2.1]; exact Nat.le_of_ble_eq_true rfl, by rw [hN.2.2]; exact Nat.le_of_ble_eq_true rfl⟩ ?_
  have q908 := zq_arr (n' := 233) q907 zc_232 zs_114 (by decide) rfl
  clear q907
  refine zt_dup (pc' := 1565) hX dX12_init_1564 rfl rfl ?_
  refine zt_iconst (pc' := 1566) hX dX12_init_1565 rfl ?_
  refine zt_bipush (pc' := 1568) hX dX12_init_1566 rfl (by decide) (by decide) ?_
  refine zt_cast (pc' := 1569) hX dX12_init_1568 rfl (by decide) zc_232 zs_114 (by decide) ⟨by decide, by decide⟩ (by decide +kernel) ?_
  rw [show Int.toNat 0 = 0 from rfl]
  generalize h910 : zset s905 232 0 104 = s909
  have q911 := zq_el h910 q908 (by decide) (by decide) zc_232 zs_114 (show 0 ≤ (104 : Int) ∧ (104 : Int) ≤ 65535 from ⟨by decide, by decide⟩) (by decide)
  clear h910 q908
  refine zt_dup (pc' := 1570) hX dX12_init_1569 rfl rfl ?_
  refine zt_iconst (pc' := 1571) hX dX12_init_1570 rfl ?_
  refine zt_bipush (pc' := 1573) hX dX12_init_1571 rfl (by decide) (by decide) ?_
  refine zt_cast (pc' := 1574) hX dX12_init_1573 rfl (by decide) zc_232 zs_114 (by decide) ⟨by decide, by decide⟩ (by decide +kernel) ?_
  rw [show Int.toNat 1 = 1 from rfl]
  generalize h913 : zset s909 232 1 111 = s912
  have q914 := zq_el h913 q911 (by decide) (by decide) zc_232 zs_114 (show 0 ≤ (111 : Int) ∧ (111 : Int) ≤ 65535 from ⟨by decide, by decide⟩) (by decide)
  clear h913 q911
  refine zt_dup (pc' := 1575) hX dX12_init_1574 rfl rfl ?_
  refine zt_iconst (pc' := 1576) hX dX12_init_1575 rfl ?_
  refine zt_bipush (pc' := 1578) hX dX12_init_1576 rfl (by decide) (by decide) ?_
  refine zt_cast (pc' := 1579) hX dX12_init_1578 rfl (by decide) zc_232 zs_114 (by decide) ⟨by decide, by decide⟩ (by decide +kernel) ?_
  rw [show Int.toNat 2 = 2 from rfl]
  generalize h916 : zset s912 232 2 108 = s915
  have q917 := zq_el h916 q914 (by decide) (by decide) zc_232 zs_114 (show 0 ≤ (108 : Int) ∧ (108 : Int) ≤ 65535 from ⟨by decide, by decide⟩) (by decide)
  clear h916 q914
  refine zt_dup (pc' := 1580) hX dX12_init_1579 rfl rfl ?_
  refine zt_iconst (pc' := 1581) hX dX12_init_1580 rfl ?_
  refine zt_bipush (pc' := 1583) hX dX12_init_1581 rfl (by decide) (by decide) ?_
  refine zt_cast (pc' := 1584) hX dX12_init_1583 rfl (by decide) zc_232 zs_114 (by decide) ⟨by decide, by decide⟩ (by decide +kernel) ?_
  rw [show Int.toNat 3 = 3 from rfl]
  generalize h919 : zset s915 232 3 100 = s918
  have q920 := zq_el h919 q917 (by decide) (by decide) zc_232 zs_114 (show 0 ≤ (100 : Int) ∧ (100 : Int) ≤ 65535 from ⟨by decide, by decide⟩) (by decide)
  clear h919 q917
  refine zt_dup (pc' := 1585) hX dX12_init_1584 rfl rfl ?_
  refine zt_iconst (pc' := 1586) hX dX12_init_1585 rfl ?_
  refine zt_bipush (pc' := 1588) hX dX12_init_1586 rfl (by decide) (by decide) ?_
  refine zt_cast (pc' := 1589) hX dX12_init_1588 rfl (by decide) zc_232 zs_114 (by decide) ⟨by decide, by decide⟩ (by decide +kernel) ?_
  rw [show Int.toNat 4 = 4 from rfl]
  generalize h922 : zset s918 232 4 115 = s921
  have q923 := zq_el h922 q920 (by decide) (by decide) zc_232 zs_114 (show 0 ≤ (115 : Int) ∧ (115 : Int) ≤ 65535 from ⟨by decide, by decide⟩) (by decide)
  clear h922 q920
  refine zt_putF (pc' := 1592) (x := ((232 : Nat) : Int)) hX dX12_init_1589 rfl hN.1 zf_X12_225 (by decide) zc_164 zs_46 (fun q hq => by cases hq; exact ⟨rfl, rfl⟩) (zrf_of rfl) rfl rfl ?_
  generalize h925 : zset s921 164 94 ((232 : Nat) : Int) = s924
  have q926 := zq_ref (m' := 95) (g := 0) h925 q923 rfl (by decide) rfl (by decide) rfl (by decide)
  clear h925 q923
  refine zt_aload_n (pc' := 1593) hX dX12_init_1592 rfl rfl ?_
  refine zt_iconst (pc' := 1594) hX dX12_init_1593 rfl ?_
  refine zt_newaL (pc' := 1596) (t := 3) (N := 3) (n' := 234) (cs' := 69) (ss' := 11303) hX dX12_init_1594 rfl zw_10_19 rfl (by decide) (by decide) zc_233 zs_115 (by decide) (by decide) (zCs_nx q926.1) rfl rfl rfl ⟨by rw [hN.2.1]; exact Nat.le_of_ble_eq_true rfl, by rw [hN.2.2]; exact Nat.le_of_ble_eq_true rfl⟩ ?_
  have q927 := zq_arr (n' := 234) q926 zc_233 zs_115 (by decide) rfl
  clear q926
  refine zt_dup (pc' := 1597) hX dX12_init_1596 rfl rfl ?_
  refine zt_iconst (pc' := 1598) hX dX12_init_1597 rfl ?_
  refine zt_bipush (pc' := 1600) hX dX12_init_1598 rfl (by decide) (by decide) ?_
  refine zt_cast (pc' := 1601) hX dX12_init_1600 rfl (by decide) zc_233 zs_115 (by decide) ⟨by decide, by decide⟩ (by decide +kernel) ?_
  rw [show Int.toNat 0 = 0 from rfl]
  generalize h929 : zset s924 233 0 102 = s928
  have q930 := zq_el h929 q927 (by decide) (by decide) zc_233 zs_115 (show 0 ≤ (102 : Int) ∧ (102 : Int) ≤ 65535 from ⟨by decide, by decide⟩) (by decide)
  clear h929 q927
  refine zt_dup (pc' := 1602) hX dX12_init_1601 rfl rfl ?_
  refine zt_iconst (pc' := 1603) hX dX12_init_1602 rfl ?_
  refine zt_bipush (pc' := 1605) hX dX12_init_1603 rfl (by decide) (by decide) ?_
  refine zt_cast (pc' := 1606) hX dX12_init_1605 rfl (by decide) zc_233 zs_115 (by decide) ⟨by decide, by decide⟩ (by decide +kernel) ?_
  rw [show Int.toNat 1 = 1 from rfl]
  generalize h932 : zset s928 233 1 97 = s931
  have q933 := zq_el h932 q930 (by decide) (by decide) zc_233 zs_115 (show 0 ≤ (97 : Int) ∧ (97 : Int) ≤ 65535 from ⟨by decide, by decide⟩) (by decide)
  clear h932 q930
  refine zt_dup (pc' := 1607) hX dX12_init_1606 rfl rfl ?_
  refine zt_iconst (pc' := 1608) hX dX12_init_1607 rfl ?_
  refine zt_bipush (pc' := 1610) hX dX12_init_1608 rfl (by decide) (by decide) ?_
  refine zt_cast (pc' := 1611) hX dX12_init_1610 rfl (by decide) zc_233 zs_115 (by decide) ⟨by decide, by decide⟩ (by decide +kernel) ?_
  rw [show Int.toNat 2 = 2 from rfl]
  generalize h935 : zset s931 233 2 114 = s934
  have q936 := zq_el h935 q933 (by decide) (by decide) zc_233 zs_115 (show 0 ≤ (114 : Int) ∧ (114 : Int) ≤ 65535 from ⟨by decide, by decide⟩) (by decide)
  clear h935 q933
  refine zt_putF (pc' := 1614) (x := ((233 : Nat) : Int)) hX dX12_init_1611 rfl hN.1 zf_X12_228 (by decide) zc_164 zs_46 (fun q hq => by cases hq; exact ⟨rfl, rfl⟩) (zrf_of rfl) rfl rfl ?_
  generalize h938 : zset s934 164 95 ((233 : Nat) : Int) = s937
  have q939 := zq_ref (m' := 96) (g := 0) h938 q936 rfl (by decide) rfl (by decide) rfl (by decide)
  clear h938 q936
  refine zt_aload_n (pc' := 1615) hX dX12_init_1614 rfl rfl ?_
  refine zt_sipush (pc' := 1618) hX dX12_init_1615 rfl (by decide) (by decide) ?_
  refine zt_newaL (pc' := 1620) (t := 0) (N := 1700) (n' := 235) (cs' := 70) (ss' := 13003) hX dX12_init_1618 rfl zw_3_7 rfl (by decide) (by decide) zc_234 zs_116 (by decide) (by decide) (zCs_nx q939.1) rfl rfl rfl ⟨by rw [hN.2.1]; exact Nat.le_of_ble_eq_true rfl, by rw [hN.2.2]; exact Nat.le_of_ble_eq_true rfl⟩ ?_
  have q940 := zq_arr (n' := 235) q939 zc_234 zs_116 (by decide) rfl
  clear q939
  refine zt_putF (pc' := 1623) (x := ((234 : Nat) : Int)) hX dX12_init_1620 rfl hN.1 zf_X12_231 (by decide) zc_164 zs_46 (fun q hq => by cases hq; exact ⟨rfl, rfl⟩) (zrf_of rfl) rfl rfl ?_
  generalize h942 : zset s937 164 96 ((234 : Nat) : Int) = s941
  have q943 := zq_ref (m' := 97) (g := 0) h942 q940 rfl (by decide) rfl (by decide) rfl (by decide)
  clear h942 q940
  refine zt_aload_n (pc' := 1624) hX dX12_init_1623 rfl rfl ?_
  refine zt_sipush (pc' := 1627) hX dX12_init_1624 rfl (by decide) (by decide) ?_
  refine zt_newaL (pc' := 1629) (t := 0) (N := 1700) (n' := 236) (cs' := 71) (ss' := 14703) hX dX12_init_1627 rfl zw_3_7 rfl (by decide) (by decide) zc_235 zs_117 (by decide) (by decide) (zCs_nx q943.1) rfl rfl rfl ⟨by rw [hN.2.1]; exact Nat.le_of_ble_eq_true rfl, by rw [hN.2.2]; exact Nat.le_of_ble_eq_true rfl⟩ ?_
  have q944 := zq_arr (n' := 236) q943 zc_235 zs_117 (by decide) rfl
  clear q943
  refine zt_putF (pc' := 1632) (x := ((235 : Nat) : Int)) hX dX12_init_1629 rfl hN.1 zf_X12_234 (by decide) zc_164 zs_46 (fun q hq => by cases hq; exact ⟨rfl, rfl⟩) (zrf_of rfl) rfl rfl ?_
  generalize h946 : zset s941 164 98 ((235 : Nat) : Int) = s945
  have q947 := zq_ref (m' := 99) (g := 1) h946 q944 rfl (by decide) rfl (by decide) rfl (by decide)
  clear h946 q944
  refine zt_aload_n (pc' := 1633) hX dX12_init_1632 rfl rfl ?_
  refine zt_sipush (pc' := 1636) hX dX12_init_1633 rfl (by decide) (by decide) ?_
  refine zt_newaL (pc' := 1638) (t := 4) (N := 1700) (n' := 237) (cs' := 72) (ss' := 16403) hX dX12_init_1636 rfl zw_12_1 rfl (by decide) (by decide) zc_236 zs_118 (by decide) (by decide) (zCs_nx q947.1) rfl rfl rfl ⟨by rw [hN.2.1]; exact Nat.le_of_ble_eq_true rfl, by rw [hN.2.2]; exact Nat.le_of_ble_eq_true rfl⟩ ?_
  have q948 := zq_arr (n' := 237) q947 zc_236 zs_118 (by decide) rfl
  clear q947
  refine zt_putF (pc' := 1641) (x := ((236 : Nat) : Int)) hX dX12_init_1638 rfl hN.1 zf_X12_237 (by decide) zc_164 zs_46 (fun q hq => by cases hq; exact ⟨rfl, rfl⟩) (zrf_of rfl) rfl rfl ?_
  generalize h950 : zset s945 164 102 ((236 : Nat) : Int) = s949
  have q951 := zq_ref (m' := 103) (g := 3) h950 q948 rfl (by decide) rfl (by decide) rfl (by decide)
  clear h950 q948
  refine zt_aload_n (pc' := 1642) hX dX12_init_1641 rfl rfl ?_
  refine zt_bipush (pc' := 1644) hX dX12_init_1642 rfl (by decide) (by decide) ?_
  refine zt_newaL (pc' := 1646) (t := 0) (N := 79) (n' := 238) (cs' := 73) (ss' := 16482) hX dX12_init_1644 rfl zw_3_7 rfl (by decide) (by decide) zc_237 zs_119 (by decide) (by decide) (zCs_nx q951.1) rfl rfl rfl ⟨by rw [hN.2.1]; exact Nat.le_of_ble_eq_true rfl, by rw [hN.2.2]; exact Nat.le_of_ble_eq_true rfl⟩ ?_
  have q952 := zq_arr (n' := 238) q951 zc_237 zs_119 (by decide) rfl
  clear q951
  refine zt_putF (pc' := 1649) (x := ((237 : Nat) : Int)) hX dX12_init_1646 rfl hN.1 zf_X12_240 (by decide) zc_164 zs_46 (fun q hq => by cases hq; exact ⟨rfl, rfl⟩) (zrf_of rfl) rfl rfl ?_
  generalize h954 : zset s949 164 106 ((237 : Nat) : Int) = s953
  have q955 := zq_ref (m' := 107) (g := 3) h954 q952 rfl (by decide) rfl (by decide) rfl (by decide)
  clear h954 q952
  exact K s953 q955

set_option maxRecDepth 100000 in
set_option maxHeartbeats 4000000 in
theorem zn_X12 (l : Launch) (E : zEN) (σ : zSto) (hI : zIR σ) (hD : zDf σ 164) : zCt l E yX12_init cX12_init 1 none 1 165 238 73 16482 σ [.ref (E.1 + 164)] (fun _ σ' => zCp σ σ' 164 238 ∧ σ' 200 2 = -1 ∧ σ' 200 3 = -1 ∧ σ' 164 50 = 0 ∧ σ' 164 54 = 0 ∧ σ' 164 1 = 0) := by
  refine zCt_of2 [some (.ref (E.1 + 164))] (by decide +kernel) (Nat.le_of_ble_eq_true rfl) rfl ?_
  intro X hE hX hR hL hN
  subst hE
  have hX : zok X cX12_init RX12 1 := hX
  have q0 : zQm 0 0 σ σ 0 165 := ⟨zCs_0 hI hD, congrFun (hD 200 (by decide)) 2, congrFun (hD 200 (by decide)) 3, congrFun (hD 164 (by decide)) 50, congrFun (hD 164 (by decide)) 54, congrFun (hD 164 (by decide)) 1⟩
  exact zxm_0 hX hN q0 (fun s1 q1 => zxm_1 hX hN q1 (fun s2 q2 => zxm_2 hX hN q2 (fun s3 q3 => zxm_3 hX hN q3 (fun s4 q4 => zxm_4 hX hN q4 (fun s5 q5 => zxm_5 hX hN q5 (fun s6 q6 => zxm_6 hX hN q6 (fun s7 q7 => zxm_7 hX hN q7 (fun s8 q8 => zxm_8 hX hN q8 (fun s9 q9 => zxm_9 hX hN q9 (fun s10 q10 => zxm_10 hX hN q10 (fun s11 q11 => zxm_11 hX hN q11 (fun s12 q12 => zt_vret hX hR dX12_init_1649 ⟨zCs_end (N := 108) q12.1 zc_164 zs_46 (by decide +kernel) (fun _ _ => trivial), q12.2.1, q12.2.2.1, q12.2.2.2.1, q12.2.2.2.2.1, q12.2.2.2.2.2⟩))))))))))))
