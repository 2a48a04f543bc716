set_option maxRecDepth 100000 in
set_option maxHeartbeats 4000000 in
theorem zxm_6 {X : zCX} {σ s : zSto} (hX : zok X cX12_init RX12 1) (hN : X.2.2.2.2.2.2.2.2.2.1.name = yX12_init.name ∧ X.2.2.2.2.1.cells = 73 ∧ X.2.2.2.2.1.slots = 16482) (q : zQm (0) (0) (-1) 194 σ s 45 200) (K : ∀ s' : zSto, zQm (-1) (-1) (-1) 212 σ s' 74 212 → zZ X 212 47 11210 s' 991 [some (.ref (X.1.1 + 164))] []) : zZ X 200 35 1862 s 842 [some (.ref (X.1.1 + 164))] [] := by
  refine zt_aload_n (pc' := 843) hX dX12_init_842 rfl rfl ?_
  refine zt_iconst (pc' := 844) hX dX12_init_843 rfl ?_
  refine zt_newaL (pc' := 846) (t := 0) (N := 4) (n' := 201) (cs' := 36) (ss' := 1866) hX dX12_init_844 rfl zw_3_7 rfl (by decide) (by decide) zc_200 zs_82 (by decide) (by decide) (zCs_nx q.1) rfl rfl rfl ⟨by rw [hN.2.1]; exact Nat.le_of_ble_eq_true rfl, by rw [hN.2.2]; exact Nat.le_of_ble_eq_true rfl⟩ ?_
  have q819 := zq_arr (n' := 201) q zc_200 zs_82 (by decide) rfl
  refine zt_dup (pc' := 847) hX dX12_init_846 rfl rfl ?_
  refine zt_iconst (pc' := 848) hX dX12_init_847 rfl ?_
  refine zt_iconst (pc' := 849) hX dX12_init_848 rfl ?_
  refine zt_iast (pc' := 850) hX dX12_init_849 rfl (by decide) zc_200 zs_82 (by decide) ⟨by decide, by decide⟩ ?_
  rw [show Int.toNat 0 = 0 from rfl]
  generalize h821 : zset s 200 0 (-1) = s820
  have q822 := zq_el h821 q819 (by decide) (by decide) zc_200 zs_82 (show -1 ≤ ((-1) : Int) ∧ ((-1) : Int) ≤ 1600 from ⟨by decide, by decide⟩) (by decide) (by decide)
  clear h821 q819
  refine zt_dup (pc' := 851) hX dX12_init_850 rfl rfl ?_
  refine zt_iconst (pc' := 852) hX dX12_init_851 rfl ?_
  refine zt_iconst (pc' := 853) hX dX12_init_852 rfl ?_
  refine zt_iast (pc' := 854) hX dX12_init_853 rfl (by decide) zc_200 zs_82 (by decide) ⟨by decide, by decide⟩ ?_
  rw [show Int.toNat 1 = 1 from rfl]
  generalize h824 : zset s820 200 1 (-1) = s823
  have q825 := zq_el h824 q822 (by decide) (by decide) zc_200 zs_82 (show -1 ≤ ((-1) : Int) ∧ ((-1) : Int) ≤ 1600 from ⟨by decide, by decide⟩) (by decide) (by decide)
  clear h824 q822
  refine zt_dup (pc' := 855) hX dX12_init_854 rfl rfl ?_
  refine zt_iconst (pc' := 856) hX dX12_init_855 rfl ?_
  refine zt_iconst (pc' := 857) hX dX12_init_856 rfl ?_
  refine zt_iast (pc' := 858) hX dX12_init_857 rfl (by decide) zc_200 zs_82 (by decide) ⟨by decide, by decide⟩ ?_
  rw [show Int.toNat 2 = 2 from rfl]
  generalize h827 : zset s823 200 2 (-1) = s826
  have q828 := zq_e2 h827 q825 (by decide) zc_200 zs_82 (show -1 ≤ ((-1) : Int) ∧ ((-1) : Int) ≤ 1600 from ⟨by decide, by decide⟩) (by decide)
  clear h827 q825
  refine zt_dup (pc' := 859) hX dX12_init_858 rfl rfl ?_
  refine zt_iconst (pc' := 860) hX dX12_init_859 rfl ?_
  refine zt_iconst (pc' := 861) hX dX12_init_860 rfl ?_
  refine zt_iast (pc' := 862) hX dX12_init_861 rfl (by decide) zc_200 zs_82 (by decide) ⟨by decide, by decide⟩ ?_
  rw [show Int.toNat 3 = 3 from rfl]
  generalize h830 : zset s826 200 3 (-1) = s829
  have q831 := zq_e3 h830 q828 (by decide) zc_200 zs_82 (show -1 ≤ ((-1) : Int) ∧ ((-1) : Int) ≤ 1600 from ⟨by decide, by decide⟩) (by decide)
  clear h830 q828
  refine zt_putF (pc' := 865) (x := ((200 : Nat) : Int)) hX dX12_init_862 rfl hN.1 zf_X12_121 (by decide) zc_164 zs_46 (fun q hq => by cases hq; exact ⟨rfl, rfl⟩) (zrf_of rfl) rfl rfl ?_
  generalize h833 : zset s829 164 45 ((200 : Nat) : Int) = s832
  have q834 := zq_ref (m' := 46) (g := 0) h833 q831 rfl (by decide) rfl (by decide) rfl (by decide)
  clear h833 q831
  refine zt_aload_n (pc' := 866) hX dX12_init_865 rfl rfl ?_
  refine zt_iconst (pc' := 867) hX dX12_init_866 rfl ?_
  refine zt_newaL (pc' := 869) (t := 0) (N := 4) (n' := 202) (cs' := 37) (ss' := 1870) hX dX12_init_867 rfl zw_3_7 rfl (by decide) (by decide) zc_201 zs_83 (by decide) (by decide) (zCs_nx q834.1) rfl rfl rfl ⟨by rw [hN.2.1]; exact Nat.le_of_ble_eq_true rfl, by rw [hN.2.2]; exact Nat.le_of_ble_eq_true rfl⟩ ?_
  have q835 := zq_arr (n' := 202) q834 zc_201 zs_83 (by decide) rfl
  clear q834
  refine zt_putF (pc' := 872) (x := ((201 : Nat) : Int)) hX dX12_init_869 rfl hN.1 zf_X12_124 (by decide) zc_164 zs_46 (fun q hq => by cases hq; exact ⟨rfl, rfl⟩) (zrf_of rfl) rfl rfl ?_
  generalize h837 : zset s832 164 46 ((201 : Nat) : Int) = s836
  have q838 := zq_ref (m' := 47) (g := 0) h837 q835 rfl (by decide) rfl (by decide) rfl (by decide)
  clear h837 q835
  refine zt_aload_n (pc' := 873) hX dX12_init_872 rfl rfl ?_
  refine zt_sipush (pc' := 876) hX dX12_init_873 rfl (by decide) (by decide) ?_
  refine zt_newaL (pc' := 878) (t := 0) (N := 3200) (n' := 203) (cs' := 38) (ss' := 5070) hX dX12_init_876 rfl zw_3_7 rfl (by decide) (by decide) zc_202 zs_84 (by decide) (by decide) (zCs_nx q838.1) rfl rfl rfl ⟨by rw [hN.2.1]; exact Nat.le_of_ble_eq_true rfl, by rw [hN.2.2]; exact Nat.le_of_ble_eq_true rfl⟩ ?_
  have q839 := zq_arr (n' := 203) q838 zc_202 zs_84 (by decide) rfl
  clear q838
  refine zt_putF (pc' := 881) (x := ((202 : Nat) : Int)) hX dX12_init_878 rfl hN.1 zf_X12_127 (by decide) zc_164 zs_46 (fun q hq => by cases hq; exact ⟨rfl, rfl⟩) (zrf_of rfl) rfl rfl ?_
  generalize h841 : zset s836 164 47 ((202 : Nat) : Int) = s840
  have q842 := zq_ref (m' := 48) (g := 0) h841 q839 rfl (by decide) rfl (by decide) rfl (by decide)
  clear h841 q839
  refine zt_aload_n (pc' := 882) hX dX12_init_881 rfl rfl ?_
  refine zt_sipush (pc' := 885) hX dX12_init_882 rfl (by decide) (by decide) ?_
  refine zt_newaL (pc' := 887) (t := 0) (N := 188) (n' := 204) (cs' := 39) (ss' := 5258) hX dX12_init_885 rfl zw_3_7 rfl (by decide) (by decide) zc_203 zs_85 (by decide) (by decide) (zCs_nx q842.1) rfl rfl rfl ⟨by rw [hN.2.1]; exact Nat.le_of_ble_eq_true rfl, by rw [hN.2.2]; exact Nat.le_of_ble_eq_true rfl⟩ ?_
  have q843 := zq_arr (n' := 204) q842 zc_203 zs_85 (by decide) rfl
  clear q842
  refine zt_putF (pc' := 890) (x := ((203 : Nat) : Int)) hX dX12_init_887 rfl hN.1 zf_X12_130 (by decide) zc_164 zs_46 (fun q hq => by cases hq; exact ⟨rfl, rfl⟩) (zrf_of rfl) rfl rfl ?_
  generalize h845 : zset s840 164 52 ((203 : Nat) : Int) = s844
  have q846 := zq_ref (m' := 53) (g := 4) h845 q843 rfl (by decide) rfl (by decide) rfl (by decide)
  clear h845 q843
  refine zt_aload_n (pc' := 891) hX dX12_init_890 rfl rfl ?_
  refine zt_bipush (pc' := 893) hX dX12_init_891 rfl (by decide) (by decide) ?_
  refine zt_newaL (pc' := 895) (t := 0) (N := 67) (n' := 205) (cs' := 40) (ss' := 5325) hX dX12_init_893 rfl zw_3_7 rfl (by decide) (by decide) zc_204 zs_86 (by decide) (by decide) (zCs_nx q846.1) rfl rfl rfl ⟨by rw [hN.2.1]; exact Nat.le_of_ble_eq_true rfl, by rw [hN.2.2]; exact Nat.le_of_ble_eq_true rfl⟩ ?_
  have q847 := zq_arr (n' := 205) q846 zc_204 zs_86 (by decide) rfl
  clear q846
  refine zt_putF (pc' := 898) (x := ((204 : Nat) : Int)) hX dX12_init_895 rfl hN.1 zf_X12_133 (by decide) zc_164 zs_46 (fun q hq => by cases hq; exact ⟨rfl, rfl⟩) (zrf_of rfl) rfl rfl ?_
  generalize h849 : zset s844 164 53 ((204 : Nat) : Int) = s848
  have q850 := zq_ref (m' := 54) (g := 0) h849 q847 rfl (by decide) rfl (by decide) rfl (by decide)
  clear h849 q847
  refine zt_aload_n (pc' := 899) hX dX12_init_898 rfl rfl ?_
  refine zt_bipush (pc' := 901) hX dX12_init_899 rfl (by decide) (by decide) ?_
  refine zt_newaL (pc' := 903) (t := 0) (N := 36) (n' := 206) (cs' := 41) (ss' := 5361) hX dX12_init_901 rfl zw_3_7 rfl (by decide) (by decide) zc_205 zs_87 (by decide) (by decide) (zCs_nx q850.1) rfl rfl rfl ⟨by rw [hN.2.1]; exact Nat.le_of_ble_eq_true rfl, by rw [hN.2.2]; exact Nat.le_of_ble_eq_true rfl⟩ ?_
  have q851 := zq_arr (n' := 206) q850 zc_205 zs_87 (by decide) rfl
  clear q850
  refine zt_putF (pc' := 906) (x := ((205 : Nat) : Int)) hX dX12_init_903 rfl hN.1 zf_X12_136 (by decide) zc_164 zs_46 (fun q hq => by cases hq; exact ⟨rfl, rfl⟩) (zrf_of rfl) rfl rfl ?_
  generalize h853 : zset s848 164 57 ((205 : Nat) : Int) = s852
  have q854 := zq_ref (m' := 58) (g := 3) h853 q851 rfl (by decide) rfl (by decide) rfl (by decide)
  clear h853 q851
  refine zt_aload_n (pc' := 907) hX dX12_init_906 rfl rfl ?_
  refine zt_iconst (pc' := 908) hX dX12_init_907 rfl ?_
  refine zt_put (pc' := 911) (x := (-1)) hX dX12_init_908 rfl zf_X12_139 (by decide) zc_164 zs_46 (fun q hq => by cases hq; rfl) rfl rfl rfl ?_
  generalize h856 : zset s852 164 58 (-1) = s855
  have q857 := zq_int h856 q854 (show -1 ≤ ((-1) : Int) ∧ ((-1) : Int) ≤ 35 from ⟨by decide, by decide⟩) (by decide) (by decide)
  clear h856 q854
  refine zt_aload_n (pc' := 912) hX dX12_init_911 rfl rfl ?_
  refine zt_bipush (pc' := 914) hX dX12_init_912 rfl (by decide) (by decide) ?_
  refine zt_newaL (pc' := 916) (t := 2) (N := 36) (n' := 207) (cs' := 42) (ss' := 5397) hX dX12_init_914 rfl zw_8_23 rfl (by decide) (by decide) zc_206 zs_88 (by decide) (by decide) (zCs_nx q857.1) rfl rfl rfl ⟨by rw [hN.2.1]; exact Nat.le_of_ble_eq_true rfl, by rw [hN.2.2]; exact Nat.le_of_ble_eq_true rfl⟩ ?_
  have q858 := zq_arr (n' := 207) q857 zc_206 zs_88 (by decide) rfl
  clear q857
  refine zt_putF (pc' := 919) (x := ((206 : Nat) : Int)) hX dX12_init_916 rfl hN.1 zf_X12_142 (by decide) zc_164 zs_46 (fun q hq => by cases hq; exact ⟨rfl, rfl⟩) (zrf_of rfl) rfl rfl ?_
  generalize h860 : zset s855 164 61 ((206 : Nat) : Int) = s859
  have q861 := zq_ref (m' := 62) (g := 3) h860 q858 rfl (by decide) rfl (by decide) rfl (by decide)
  clear h860 q858
  refine zt_aload_n (pc' := 920) hX dX12_init_919 rfl rfl ?_
  refine zt_bipush (pc' := 922) hX dX12_init_920 rfl (by decide) (by decide) ?_
  refine zt_newaL (pc' := 924) (t := 0) (N := 24) (n' := 208) (cs' := 43) (ss' := 5421) hX dX12_init_922 rfl zw_3_7 rfl (by decide) (by decide) zc_207 zs_89 (by decide) (by decide) (zCs_nx q861.1) rfl rfl rfl ⟨by rw [hN.2.1]; exact Nat.le_of_ble_eq_true rfl, by rw [hN.2.2]; exact Nat.le_of_ble_eq_true rfl⟩ ?_
  have q862 := zq_arr (n' := 208) q861 zc_207 zs_89 (by decide) rfl
  clear q861
  refine zt_putF (pc' := 927) (x := ((207 : Nat) : Int)) hX dX12_init_924 rfl hN.1 zf_X12_146 (by decide) zc_164 zs_46 (fun q hq => by cases hq; exact ⟨rfl, rfl⟩) (zrf_of rfl) rfl rfl ?_
  generalize h864 : zset s859 164 65 ((207 : Nat) : Int) = s863
  have q865 := zq_ref (m' := 66) (g := 3) h864 q862 rfl (by decide) rfl (by decide) rfl (by decide)
  clear h864 q862
  refine zt_aload_n (pc' := 928) hX dX12_init_927 rfl rfl ?_
  refine zt_sipush (pc' := 931) hX dX12_init_928 rfl (by decide) (by decide) ?_
  refine zt_newaL (pc' := 933) (t := 0) (N := 1024) (n' := 209) (cs' := 44) (ss' := 6445) hX dX12_init_931 rfl zw_3_7 rfl (by decide) (by decide) zc_208 zs_90 (by decide) (by decide) (zCs_nx q865.1) rfl rfl rfl ⟨by rw [hN.2.1]; exact Nat.le_of_ble_eq_true rfl, by rw [hN.2.2]; exact Nat.le_of_ble_eq_true rfl⟩ ?_
  have q866 := zq_arr (n' := 209) q865 zc_208 zs_90 (by decide) rfl
  clear q865
  refine zt_putF (pc' := 936) (x := ((208 : Nat) : Int)) hX dX12_init_933 rfl hN.1 zf_X12_149 (by decide) zc_164 zs_46 (fun q hq => by cases hq; exact ⟨rfl, rfl⟩) (zrf_of rfl) rfl rfl ?_
  generalize h868 : zset s863 164 66 ((208 : Nat) : Int) = s867
  have q869 := zq_ref (m' := 67) (g := 0) h868 q866 rfl (by decide) rfl (by decide) rfl (by decide)
  clear h868 q866
  refine zt_aload_n (pc' := 937) hX dX12_init_936 rfl rfl ?_
  refine zt_sipush (pc' := 940) hX dX12_init_937 rfl (by decide) (by decide) ?_
  refine zt_newaL (pc' := 942) (t := 0) (N := 1000) (n' := 210) (cs' := 45) (ss' := 7445) hX dX12_init_940 rfl zw_3_7 rfl (by decide) (by decide) zc_209 zs_91 (by decide) (by decide) (zCs_nx q869.1) rfl rfl rfl ⟨by rw [hN.2.1]; exact Nat.le_of_ble_eq_true rfl, by rw [hN.2.2]; exact Nat.le_of_ble_eq_true rfl⟩ ?_
  have q870 := zq_arr (n' := 210) q869 zc_209 zs_91 (by decide) rfl
  clear q869
  refine zt_putF (pc' := 945) (x := ((209 : Nat) : Int)) hX dX12_init_942 rfl hN.1 zf_X12_152 (by decide) zc_164 zs_46 (fun q hq => by cases hq; exact ⟨rfl, rfl⟩) (zrf_of rfl) rfl rfl ?_
  generalize h872 : zset s867 164 68 ((209 : Nat) : Int) = s871
  have q873 := zq_ref (m' := 69) (g := 1) h872 q870 rfl (by decide) rfl (by decide) rfl (by decide)
  clear h872 q870
  refine zt_aload_n (pc' := 946) hX dX12_init_945 rfl rfl ?_
  refine zt_sipush (pc' := 949) hX dX12_init_946 rfl (by decide) (by decide) ?_
  refine zt_newaL (pc' := 951) (t := 0) (N := 3760) (n' := 211) (cs' := 46) (ss' := 11205) hX dX12_init_949 rfl zw_3_7 rfl (by decide) (by decide) zc_210 zs_92 (by decide) (by decide) (zCs_nx q873.1) rfl rfl rfl ⟨by rw [hN.2.1]; exact Nat.le_of_ble_eq_true rfl, by rw [hN.2.2]; exact Nat.le_of_ble_eq_true rfl⟩ ?_
  have q874 := zq_arr (n' := 211) q873 zc_210 zs_92 (by decide) rfl
  clear q873
  refine zt_putF (pc' := 954) (x := ((210 : Nat) : Int)) hX dX12_init_951 rfl hN.1 zf_X12_155 (by decide) zc_164 zs_46 (fun q hq => by cases hq; exact ⟨rfl, rfl⟩) (zrf_of rfl) rfl rfl ?_
  generalize h876 : zset s871 164 69 ((210 : Nat) : Int) = s875
  have q877 := zq_ref (m' := 70) (g := 0) h876 q874 rfl (by decide) rfl (by decide) rfl (by decide)
  clear h876 q874
  refine zt_aload_n (pc' := 955) hX dX12_init_954 rfl rfl ?_
  refine zt_lconst (y := 1) (pc' := 956) hX dX12_init_955 rfl (by decide +kernel) ?_
  refine zt_put (pc' := 959) (x := 1) hX dX12_init_956 rfl zf_X12_158 (by decide) zc_164 zs_46 (fun q hq => by cases hq; rfl) rfl rfl rfl ?_
  generalize h879 : zset s875 164 72 1 = s878
  have q880 := zq_int h879 q877 (show 0 ≤ (1 : Int) ∧ (1 : Int) ≤ 2147483647 from ⟨by decide, by decide⟩) (by decide) (by decide)
  clear h879 q877
  refine zt_aload_n (pc' := 960) hX dX12_init_959 rfl rfl ?_
  refine zt_iconst (pc' := 961) hX dX12_init_960 rfl ?_
  refine zt_newaL (pc' := 963) (t := 3) (N := 5) (n' := 212) (cs' := 47) (ss' := 11210) hX dX12_init_961 rfl zw_10_19 rfl (by decide) (by decide) zc_211 zs_93 (by decide) (by decide) (zCs_nx q880.1) rfl rfl rfl ⟨by rw [hN.2.1]; exact Nat.le_of_ble_eq_true rfl, by rw [hN.2.2]; exact Nat.le_of_ble_eq_true rfl⟩ ?_
  have q881 := zq_arr (n' := 212) q880 zc_211 zs_93 (by decide) rfl
  clear q880
  refine zt_dup (pc' := 964) hX dX12_init_963 rfl rfl ?_
  refine zt_iconst (pc' := 965) hX dX12_init_964 rfl ?_
  refine zt_bipush (pc' := 967) hX dX12_init_965 rfl (by decide) (by decide) ?_
  refine zt_cast (pc' := 968) hX dX12_init_967 rfl (by decide) zc_211 zs_93 (by decide) ⟨by decide, by decide⟩ (by decide +kernel) ?_
  rw [show Int.toNat 0 = 0 from rfl]
  generalize h883 : zset s878 211 0 102 = s882
  have q884 := zq_el h883 q881 (by decide) (by decide) zc_211 zs_93 (show 0 ≤ (102 : Int) ∧ (102 : Int) ≤ 65535 from ⟨by decide, by decide⟩) (by decide) (by decide)
  have f885 : s882 211 0 = 102 := by rw [← h883]; exact zset_s
  clear h883 q881
  refine zt_dup (pc' := 969) hX dX12_init_968 rfl rfl ?_
  refine zt_iconst (pc' := 970) hX dX12_init_969 rfl ?_
  refine zt_bipush (pc' := 972) hX dX12_init_970 rfl (by decide) (by decide) ?_
  refine zt_cast (pc' := 973) hX dX12_init_972 rfl (by decide) zc_211 zs_93 (by decide) ⟨by decide, by decide⟩ (by decide +kernel) ?_
  rw [show Int.toNat 1 = 1 from rfl]
  generalize h887 : zset s882 211 1 105 = s886
  have q888 := zq_el h887 q884 (by decide) (by decide) zc_211 zs_93 (show 0 ≤ (105 : Int) ∧ (105 : Int) ≤ 65535 from ⟨by decide, by decide⟩) (by decide) (by decide)
  have f889 : s886 211 0 = 102 := by rw [← h887]; exact (zset_j (by decide)).trans f885
  have f890 : s886 211 1 = 105 := by rw [← h887]; exact zset_s
  clear f885
  clear h887 q884
  refine zt_dup (pc' := 974) hX dX12_init_973 rfl rfl ?_
  refine zt_iconst (pc' := 975) hX dX12_init_974 rfl ?_
  refine zt_bipush (pc' := 977) hX dX12_init_975 rfl (by decide) (by decide) ?_
  refine zt_cast (pc' := 978) hX dX12_init_977 rfl (by decide) zc_211 zs_93 (by decide) ⟨by decide, by decide⟩ (by decide +kernel) ?_
  rw [show Int.toNat 2 = 2 from rfl]
  generalize h892 : zset s886 211 2 114 = s891
  have q893 := zq_el h892 q888 (by decide) (by decide) zc_211 zs_93 (show 0 ≤ (114 : Int) ∧ (114 : Int) ≤ 65535 from ⟨by decide, by decide⟩) (by decide) (by decide)
  have f894 : s891 211 0 = 102 := by rw [← h892]; exact (zset_j (by decide)).trans f889
  have f895 : s891 211 1 = 105 := by rw [← h892]; exact (zset_j (by decide)).trans f890
  have f896 : s891 211 2 = 114 := by rw [← h892]; exact zset_s
  clear f889 f890
  clear h892 q888
  refine zt_dup (pc' := 979) hX dX12_init_978 rfl rfl ?_
  refine zt_iconst (pc' := 980) hX dX12_init_979 rfl ?_
  refine zt_bipush (pc' := 982) hX dX12_init_980 rfl (by decide) (by decide) ?_
  refine zt_cast (pc' := 983) hX dX12_init_982 rfl (by decide) zc_211 zs_93 (by decide) ⟨by decide, by decide⟩ (by decide +kernel) ?_
  rw [show Int.toNat 3 = 3 from rfl]
  generalize h898 : zset s891 211 3 115 = s897
  have q899 := zq_el h898 q893 (by decide) (by decide) zc_211 zs_93 (show 0 ≤ (115 : Int) ∧ (115 : Int) ≤ 65535 from ⟨by decide, by decide⟩) (by decide) (by decide)
  have f900 : s897 211 0 = 102 := by rw [← h898]; exact (zset_j (by decide)).trans f894
  have f901 : s897 211 1 = 105 := by rw [← h898]; exact (zset_j (by decide)).trans f895
  have f902 : s897 211 2 = 114 := by rw [← h898]; exact (zset_j (by decide)).trans f896
  have f903 : s897 211 3 = 115 := by rw [← h898]; exact zset_s
  clear f894 f895 f896
  clear h898 q893
  refine zt_dup (pc' := 984) hX dX12_init_983 rfl rfl ?_
  refine zt_iconst (pc' := 985) hX dX12_init_984 rfl ?_
  refine zt_bipush (pc' := 987) hX dX12_init_985 rfl (by decide) (by decide) ?_
  refine zt_cast (pc' := 988) hX dX12_init_987 rfl (by decide) zc_211 zs_93 (by decide) ⟨by decide, by decide⟩ (by decide +kernel) ?_
  rw [show Int.toNat 4 = 4 from rfl]
  generalize h905 : zset s897 211 4 116 = s904
  have q906 := zq_el h905 q899 (by decide) (by decide) zc_211 zs_93 (show 0 ≤ (116 : Int) ∧ (116 : Int) ≤ 65535 from ⟨by decide, by decide⟩) (by decide) (by decide)
  have f907 : s904 211 0 = 102 := by rw [← h905]; exact (zset_j (by decide)).trans f900
  have f908 : s904 211 1 = 105 := by rw [← h905]; exact (zset_j (by decide)).trans f901
  have f909 : s904 211 2 = 114 := by rw [← h905]; exact (zset_j (by decide)).trans f902
  have f910 : s904 211 3 = 115 := by rw [← h905]; exact (zset_j (by decide)).trans f903
  have f911 : s904 211 4 = 116 := by rw [← h905]; exact zset_s
  clear f900 f901 f902 f903
  clear h905 q899
  have q912 := zq_row (d := 212) (k := 211) (L := [102, 105, 114, 115, 116]) q906 (by decide) (fun j hj => by have hj : j < 5 := hj; rcases (show j = 0 ∨ j = 1 ∨ j = 2 ∨ j = 3 ∨ j = 4 by omega) with rfl | rfl | rfl | rfl | rfl; exact f907; exact f908; exact f909; exact f910; exact f911)
  clear f907 f908 f909 f910 f911 q906
  refine zt_putF (pc' := 991) (x := ((211 : Nat) : Int)) hX dX12_init_988 rfl hN.1 zf_X12_162 (by decide) zc_164 zs_46 (fun q hq => by cases hq; exact ⟨rfl, rfl⟩) (zrf_of rfl) rfl rfl ?_
  generalize h914 : zset s904 164 73 ((211 : Nat) : Int) = s913
  have q915 := zq_ref (m' := 74) (g := 3) h914 q912 rfl (by decide) rfl (by decide) rfl (by decide)
  clear h914 q912
  exact K s913 q915

set_option maxRecDepth 100000 in
set_option maxHeartbeats 4000000 in
theorem zxm_7 {X : zCX} {σ s : zSto} (hX : zok X cX12_init RX12 1) (hN : X.2.2.2.2.2.2.2.2.2.1.name = yX12_init.name ∧ X.2.2.2.2.1.cells = 73 ∧ X.2.2.2.2.1.slots = 16482) (q : zQm (-1) (-1) (-1) 212 σ s 74 212) (K : ∀ s' : zSto, zQm (-1) (-1) (-1) 217 σ s' 79 217 → zZ X 217 52 11233 s' 1141 [some (.ref (X.1.1 + 164))] []) : zZ X 212 47 11210 s 991 [some (.ref (X.1.1 + 164))] [] := by
  refine zt_aload_n (pc' := 992) hX dX12_init_991 rfl rfl ?_
  refine zt_iconst (pc' := 993) hX dX12_init_992 rfl ?_
  refine zt_newaL (pc' := 995) (t := 3) (N := 4) (n' := 213) (cs' := 48) (ss' := 11214) hX dX12_init_993 rfl zw_10_19 rfl (by decide) (by decide) zc_212 zs_94 (by decide) (by decide) (zCs_nx q.1) rfl rfl rfl ⟨by rw [hN.2.1]; exact Nat.le_of_ble_eq_true rfl, by rw [hN.2.2]; exact Nat.le_of_ble_eq_true rfl⟩ ?_
  have q916 := zq_arr (n' := 213) q zc_212 zs_94 (by decide) rfl
  refine zt_dup (pc' := 996) hX dX12_init_995 rfl rfl ?_
  refine zt_iconst (pc' := 997) hX dX12_init_996 rfl ?_
  refine zt_bipush (pc' := 999) hX dX12_init_997 rfl (by decide) (by decide) ?_
  refine zt_cast (pc' := 1000) hX dX12_init_999 rfl (by decide) zc_212 zs_94 (by decide) ⟨by decide, by decide⟩ (by decide +kernel) ?_
  rw [show Int.toNat 0 = 0 from rfl]
  generalize h918 : zset s 212 0 108 = s917
  have q919 := zq_el h918 q916 (by decide) (by decide) zc_212 zs_94 (show 0 ≤ (108 : Int) ∧ (108 : Int) ≤ 65535 from ⟨by decide, by decide⟩) (by decide) (by decide)
  have f920 : s917 212 0 = 108 := by rw [← h918]; exact zset_s
  clear h918 q916
  refine zt_dup (pc' := 1001) hX dX12_init_1000 rfl rfl ?_
  refine zt_iconst (pc' := 1002) hX dX12_init_1001 rfl ?_
  refine zt_bipush (pc' := 1004) hX dX12_init_1002 rfl (by decide) (by decide) ?_
  refine zt_cast (pc' := 1005) hX dX12_init_1004 rfl (by decide) zc_212 zs_94 (by decide) ⟨by decide, by decide⟩ (by decide +kernel) ?_
  rw [show Int.toNat 1 = 1 from rfl]
  generalize h922 : zset s917 212 1 97 = s921
  have q923 := zq_el h922 q919 (by decide) (by decide) zc_212 zs_94 (show 0 ≤ (97 : Int) ∧ (97 : Int) ≤ 65535 from ⟨by decide, by decide⟩) (by decide) (by decide)
  have f924 : s921 212 0 = 108 := by rw [← h922]; exact (zset_j (by decide)).trans f920
  have f925 : s921 212 1 = 97 := by rw [← h922]; exact zset_s
  clear f920
  clear h922 q919
  refine zt_dup (pc' := 1006) hX dX12_init_1005 rfl rfl ?_
  refine zt_iconst (pc' := 1007) hX dX12_init_1006 rfl ?_
  refine zt_bipush (pc' := 1009) hX dX12_init_1007 rfl (by decide) (by decide) ?_
  refine zt_cast (pc' := 1010) hX dX12_init_1009 rfl (by decide) zc_212 zs_94 (by decide) ⟨by decide, by decide⟩ (by decide +kernel) ?_
  rw [show Int.toNat 2 = 2 from rfl]
  generalize h927 : zset s921 212 2 115 = s926
  have q928 := zq_el h927 q923 (by decide) (by decide) zc_212 zs_94 (show 0 ≤ (115 : Int) ∧ (115 : Int) ≤ 65535 from ⟨by decide, by decide⟩) (by decide) (by decide)
  have f929 : s926 212 0 = 108 := by rw [← h927]; exact (zset_j (by decide)).trans f924
  have f930 : s926 212 1 = 97 := by rw [← h927]; exact (zset_j (by decide)).trans f925
  have f931 : s926 212 2 = 115 := by rw [← h927]; exact zset_s
  clear f924 f925
  clear h927 q923
  refine zt_dup (pc' := 1011) hX dX12_init_1010 rfl rfl ?_
  refine zt_iconst (pc' := 1012) hX dX12_init_1011 rfl ?_
  refine zt_bipush (pc' := 1014) hX dX12_init_1012 rfl (by decide) (by decide) ?_
  refine zt_cast (pc' := 1015) hX dX12_init_1014 rfl (by decide) zc_212 zs_94 (by decide) ⟨by decide, by decide⟩ (by decide +kernel) ?_
  rw [show Int.toNat 3 = 3 from rfl]
  generalize h933 : zset s926 212 3 116 = s932
  have q934 := zq_el h933 q928 (by decide) (by decide) zc_212 zs_94 (show 0 ≤ (116 : Int) ∧ (116 : Int) ≤ 65535 from ⟨by decide, by decide⟩) (by decide) (by decide)
  have f935 : s932 212 0 = 108 := by rw [← h933]; exact (zset_j (by decide)).trans f929
  have f936 : s932 212 1 = 97 := by rw [← h933]; exact (zset_j (by decide)).trans f930
  have f937 : s932 212 2 = 115 := by rw [← h933]; exact (zset_j (by decide)).trans f931
  have f938 : s932 212 3 = 116 := by rw [← h933]; exact zset_s
  clear f929 f930 f931
  clear h933 q928
  have q939 := zq_row (d := 213) (k := 212) (L := [108, 97, 115, 116]) q934 (by decide) (fun j hj => by have hj : j < 4 := hj; rcases (show j = 0 ∨ j = 1 ∨ j = 2 ∨ j = 3 by omega) with rfl | rfl | rfl | rfl; exact f935; exact f936; exact f937; exact f938)
  clear f935 f936 f937 f938 q934
  refine zt_putF (pc' := 1018) (x := ((212 : Nat) : Int)) hX dX12_init_1015 rfl hN.1 zf_X12_165 (by decide) zc_164 zs_46 (fun q hq => by cases hq; exact ⟨rfl, rfl⟩) (zrf_of rfl) rfl rfl ?_
  generalize h941 : zset s932 164 74 ((212 : Nat) : Int) = s940
  have q942 := zq_ref (m' := 75) (g := 0) h941 q939 rfl (by decide) rfl (by decide) rfl (by decide)
  clear h941 q939
  refine zt_aload_n (pc' := 1019) hX dX12_init_1018 rfl rfl ?_
  refine zt_iconst (pc' := 1020) hX dX12_init_1019 rfl ?_
  refine zt_newaL (pc' := 1022) (t := 3) (N := 5) (n' := 214) (cs' := 49) (ss' := 11219) hX dX12_init_1020 rfl zw_10_19 rfl (by decide) (by decide) zc_213 zs_95 (by decide) (by decide) (zCs_nx q942.1) rfl rfl rfl ⟨by rw [hN.2.1]; exact Nat.le_of_ble_eq_true rfl, by rw [hN.2.2]; exact Nat.le_of_ble_eq_true rfl⟩ ?_
  have q943 := zq_arr (n' := 214) q942 zc_213 zs_95 (by decide) rfl
  clear q942
  refine zt_dup (pc' := 1023) hX dX12_init_1022 rfl rfl ?_
  refine zt_iconst (pc' := 1024) hX dX12_init_1023 rfl ?_
  refine zt_bipush (pc' := 1026) hX dX12_init_1024 rfl (by decide) (by decide) ?_
  refine zt_cast (pc' := 1027) hX dX12_init_1026 rfl (by decide) zc_213 zs_95 (by decide) ⟨by decide, by decide⟩ (by decide +kernel) ?_
  rw [show Int.toNat 0 = 0 from rfl]
  generalize h945 : zset s940 213 0 111 = s944
  have q946 := zq_el h945 q943 (by decide) (by decide) zc_213 zs_95 (show 0 ≤ (111 : Int) ∧ (111 : Int) ≤ 65535 from ⟨by decide, by decide⟩) (by decide) (by decide)
  have f947 : s944 213 0 = 111 := by rw [← h945]; exact zset_s
  clear h945 q943
  refine zt_dup (pc' := 1028) hX dX12_init_1027 rfl rfl ?_
  refine zt_iconst (pc' := 1029) hX dX12_init_1028 rfl ?_
  refine zt_bipush (pc' := 1031) hX dX12_init_1029 rfl (by decide) (by decide) ?_
  refine zt_cast (pc' := 1032) hX dX12_init_1031 rfl (by decide) zc_213 zs_95 (by decide) ⟨by decide, by decide⟩ (by decide +kernel) ?_
  rw [show Int.toNat 1 = 1 from rfl]
  generalize h949 : zset s944 213 1 102 = s948
  have q950 := zq_el h949 q946 (by decide) (by decide) zc_213 zs_95 (show 0 ≤ (102 : Int) ∧ (102 : Int) ≤ 65535 from ⟨by decide, by decide⟩) (by decide) (by decide)
  have f951 : s948 213 0 = 111 := by rw [← h949]; exact (zset_j (by decide)).trans f947
  have f952 : s948 213 1 = 102 := by rw [← h949]; exact zset_s
  clear f947
  clear h949 q946
  refine zt_dup (pc' := 1033) hX dX12_init_1032 rfl rfl ?_
  refine zt_iconst (pc' := 1034) hX dX12_init_1033 rfl ?_
  refine zt_bipush (pc' := 1036) hX dX12_init_1034 rfl (by decide) (by decide) ?_
  refine zt_cast (pc' := 1037) hX dX12_init_1036 rfl (by decide) zc_213 zs_95 (by decide) ⟨by decide, by decide⟩ (by decide +kernel) ?_
  rw [show Int.toNat 2 = 2 from rfl]
  generalize h954 : zset s948 213 2 116 = s953
  have q955 := zq_el h954 q950 (by decide) (by decide) zc_213 zs_95 (show 0 ≤ (116 : Int) ∧ (116 : Int) ≤ 65535 from ⟨by decide, by decide⟩) (by decide) (by decide)
  have f956 : s953 213 0 = 111 := by rw [← h954]; exact (zset_j (by decide)).trans f951
  have f957 : s953 213 1 = 102 := by rw [← h954]; exact (zset_j (by decide)).trans f952
  have f958 : s953 213 2 = 116 := by rw [← h954]; exact zset_s
  clear f951 f952
  clear h954 q950
  refine zt_dup (pc' := 1038) hX dX12_init_1037 rfl rfl ?_
  refine zt_iconst (pc' := 1039) hX dX12_init_1038 rfl ?_
  refine zt_bipush (pc' := 1041) hX dX12_init_1039 rfl (by decide) (by decide) ?_
  refine zt_cast (pc' := 1042) hX dX12_init_1041 rfl (by decide) zc_213 zs_95 (by decide) ⟨by decide, by decide⟩ (by decide +kernel) ?_
  rw [show Int.toNat 3 = 3 from rfl]
  generalize h960 : zset s953 213 3 101 = s959
  have q961 := zq_el h960 q955 (by decide) (by decide) zc_213 zs_95 (show 0 ≤ (101 : Int) ∧ (101 : Int) ≤ 65535 from ⟨by decide, by decide⟩) (by decide) (by decide)
  have f962 : s959 213 0 = 111 := by rw [← h960]; exact (zset_j (by decide)).trans f956
  have f963 : s959 213 1 = 102 := by rw [← h960]; exact (zset_j (by decide)).trans f957
  have f964 : s959 213 2 = 116 := by rw [← h960]; exact (zset_j (by decide)).trans f958
  have f965 : s959 213 3 = 101 := by rw [← h960]; exact zset_s
  clear f956 f957 f958
  clear h960 q955
  refine zt_dup (pc' := 1043) hX dX12_init_1042 rfl rfl ?_
  refine zt_iconst (pc' := 1044) hX dX12_init_1043 rfl ?_
  refine zt_bipush (pc' := 1046) hX dX12_init_1044 rfl (by decide) (by decide) ?_
  refine zt_cast (pc' := 1047) hX dX12_init_1046 rfl (by decide) zc_213 zs_95 (by decide) ⟨by decide, by decide⟩ (by decide +kernel) ?_
  rw [show Int.toNat 4 = 4 from rfl]
  generalize h967 : zset s959 213 4 110 = s966
  have q968 := zq_el h967 q961 (by decide) (by decide) zc_213 zs_95 (show 0 ≤ (110 : Int) ∧ (110 : Int) ≤ 65535 from ⟨by decide, by decide⟩) (by decide) (by decide)
  have f969 : s966 213 0 = 111 := by rw [← h967]; exact (zset_j (by decide)).trans f962
  have f970 : s966 213 1 = 102 := by rw [← h967]; exact (zset_j (by decide)).trans f963
  have f971 : s966 213 2 = 116 := by rw [← h967]; exact (zset_j (by decide)).trans f964
  have f972 : s966 213 3 = 101 := by rw [← h967]; exact (zset_j (by decide)).trans f965
  have f973 : s966 213 4 = 110 := by rw [← h967]; exact zset_s
  clear f962 f963 f964 f965
  clear h967 q961
  have q974 := zq_row (d := 214) (k := 213) (L := [111, 102, 116, 101, 110]) q968 (by decide) (fun j hj => by have hj : j < 5 := hj; rcases (show j = 0 ∨ j = 1 ∨ j = 2 ∨ j = 3 ∨ j = 4 by omega) with rfl | rfl | rfl | rfl | rfl; exact f969; exact f970; exact f971; exact f972; exact f973)
  clear f969 f970 f971 f972 f973 q968
  refine zt_putF (pc' := 1050) (x := ((213 : Nat) : Int)) hX dX12_init_1047 rfl hN.1 zf_X12_168 (by decide) zc_164 zs_46 (fun q hq => by cases hq; exact ⟨rfl, rfl⟩) (zrf_of rfl) rfl rfl ?_
  generalize h976 : zset s966 164 75 ((213 : Nat) : Int) = s975
  have q977 := zq_ref (m' := 76) (g := 0) h976 q974 rfl (by decide) rfl (by decide) rfl (by decide)
  clear h976 q974
  refine zt_aload_n (pc' := 1051) hX dX12_init_1050 rfl rfl ?_
  refine zt_iconst (pc' := 1052) hX dX12_init_1051 rfl ?_
  refine zt_newaL (pc' := 1054) (t := 3) (N := 5) (n' := 215) (cs' := 50) (ss' := 11224) hX dX12_init_1052 rfl zw_10_19 rfl (by decide) (by decide) zc_214 zs_96 (by decide) (by decide) (zCs_nx q977.1) rfl rfl rfl ⟨by rw [hN.2.1]; exact Nat.le_of_ble_eq_true rfl, by rw [hN.2.2]; exact Nat.le_of_ble_eq_true rfl⟩ ?_
  have q978 := zq_arr (n' := 215) q977 zc_214 zs_96 (by decide) rfl
  clear q977
  refine zt_dup (pc' := 1055) hX dX12_init_1054 rfl rfl ?_
  refine zt_iconst (pc' := 1056) hX dX12_init_1055 rfl ?_
  refine zt_bipush (pc' := 1058) hX dX12_init_1056 rfl (by decide) (by decide) ?_
  refine zt_cast (pc' := 1059) hX dX12_init_1058 rfl (by decide) zc_214 zs_96 (by decide) ⟨by decide, by decide⟩ (by decide +kernel) ?_
  rw [show Int.toNat 0 = 0 from rfl]
  generalize h980 : zset s975 214 0 116 = s979
  have q981 := zq_el h980 q978 (by decide) (by decide) zc_214 zs_96 (show 0 ≤ (116 : Int) ∧ (116 : Int) ≤ 65535 from ⟨by decide, by decide⟩) (by decide) (by decide)
  have f982 : s979 214 0 = 116 := by rw [← h980]; exact zset_s
  clear h980 q978
  refine zt_dup (pc' := 1060) hX dX12_init_1059 rfl rfl ?_
  refine zt_iconst (pc' := 1061) hX dX12_init_1060 rfl ?_
  refine zt_bipush (pc' := 1063) hX dX12_init_1061 rfl (by decide) (by decide) ?_
  refine zt_cast (pc' := 1064) hX dX12_init_1063 rfl (by decide) zc_214 zs_96 (by decide) ⟨by decide, by decide⟩ (by decide +kernel) ?_
  rw [show Int.toNat 1 = 1 from rfl]
  generalize h984 : zset s979 214 1 111 = s983
  have q985 := zq_el h984 q981 (by decide) (by decide) zc_214 zs_96 (show 0 ≤ (111 : Int) ∧ (111 : Int) ≤ 65535 from ⟨by decide, by decide⟩) (by decide) (by decide)
  have f986 : s983 214 0 = 116 := by rw [← h984]; exact (zset_j (by decide)).trans f982
  have f987 : s983 214 1 = 111 := by rw [← h984]; exact zset_s
  clear f982
  clear h984 q981
  refine zt_dup (pc' := 1065) hX dX12_init_1064 rfl rfl ?_
  refine zt_iconst (pc' := 1066) hX dX12_init_1065 rfl ?_
  refine zt_bipush (pc' := 1068) hX dX12_init_1066 rfl (by decide) (by decide) ?_
  refine zt_cast (pc' := 1069) hX dX12_init_1068 rfl (by decide) zc_214 zs_96 (by decide) ⟨by decide, by decide⟩ (by decide +kernel) ?_
  rw [show Int.toNat 2 = 2 from rfl]
  generalize h989 : zset s983 214 2 116 = s988
  have q990 := zq_el h989 q985 (by decide) (by decide) zc_214 zs_96 (show 0 ≤ (116 : Int) ∧ (116 : Int) ≤ 65535 from ⟨by decide, by decide⟩) (by decide) (by decide)
  have f991 : s988 214 0 = 116 := by rw [← h989]; exact (zset_j (by decide)).trans f986
  have f992 : s988 214 1 = 111 := by rw [← h989]; exact (zset_j (by decide)).trans f987
  have f993 : s988 214 2 = 116 := by rw [← h989]; exact zset_s
  clear f986 f987
  clear h989 q985
  refine zt_dup (pc' := 1070) hX dX12_init_1069 rfl rfl ?_
  refine zt_iconst (pc' := 1071) hX dX12_init_1070 rfl ?_
  refine zt_bipush (pc' := 1073) hX dX12_init_1071 rfl (by decide) (by decide) ?_
  refine zt_cast (pc' := 1074) hX dX12_init_1073 rfl (by decide) zc_214 zs_96 (by decide) ⟨by decide, by decide⟩ (by decide +kernel) ?_
  rw [show Int.toNat 3 = 3 from rfl]
  generalize h995 : zset s988 214 3 97 = s994
  have q996 := zq_el h995 q990 (by decide) (by decide) zc_214 zs_96 (show 0 ≤ (97 : Int) ∧ (97 : Int) ≤ 65535 from ⟨by decide, by decide⟩) (by decide) (by decide)
  have f997 : s994 214 0 = 116 := by rw [← h995]; exact (zset_j (by decide)).trans f991
  have f998 : s994 214 1 = 111 := by rw [← h995]; exact (zset_j (by decide)).trans f992
  have f999 : s994 214 2 = 116 := by rw [← h995]; exact (zset_j (by decide)).trans f993
  have f1000 : s994 214 3 = 97 := by rw [← h995]; exact zset_s
  clear f991 f992 f993
  clear h995 q990
  refine zt_dup (pc' := 1075) hX dX12_init_1074 rfl rfl ?_
  refine zt_iconst (pc' := 1076) hX dX12_init_1075 rfl ?_
  refine zt_bipush (pc' := 1078) hX dX12_init_1076 rfl (by decide) (by decide) ?_
  refine zt_cast (pc' := 1079) hX dX12_init_1078 rfl (by decide) zc_214 zs_96 (by decide) ⟨by decide, by decide⟩ (by decide +kernel) ?_
  rw [show Int.toNat 4 = 4 from rfl]
  generalize h1002 : zset s994 214 4 108 = s1001
  have q1003 := zq_el h1002 q996 (by decide) (by decide) zc_214 zs_96 (show 0 ≤ (108 : Int) ∧ (108 : Int) ≤ 65535 from ⟨by decide, by decide⟩) (by decide) (by decide)
  have f1004 : s1001 214 0 = 116 := by rw [← h1002]; exact (zset_j (by decide)).trans f997
  have f1005 : s1001 214 1 = 111 := by rw [← h1002]; exact (zset_j (by decide)).trans f998
  have f1006 : s1001 214 2 = 116 := by rw [← h1002]; exact (zset_j (by decide)).trans f999
  have f1007 : s1001 214 3 = 97 := by rw [← h1002]; exact (zset_j (by decide)).trans f1000
  have f1008 : s1001 214 4 = 108 := by rw [← h1002]; exact zset_s
  clear f997 f998 f999 f1000
  clear h1002 q996
  have q1009 := zq_row (d := 215) (k := 214) (L := [116, 111, 116, 97, 108]) q1003 (by decide) (fun j hj => by have hj : j < 5 := hj; rcases (show j = 0 ∨ j = 1 ∨ j = 2 ∨ j = 3 ∨ j = 4 by omega) with rfl | rfl | rfl | rfl | rfl; exact f1004; exact f1005; exact f1006; exact f1007; exact f1008)
  clear f1004 f1005 f1006 f1007 f1008 q1003
  refine zt_putF (pc' := 1082) (x := ((214 : Nat) : Int)) hX dX12_init_1079 rfl hN.1 zf_X12_171 (by decide) zc_164 zs_46 (fun q hq => by cases hq; exact ⟨rfl, rfl⟩) (zrf_of rfl) rfl rfl ?_
  generalize h1011 : zset s1001 164 76 ((214 : Nat) : Int) = s1010
  have q1012 := zq_ref (m' := 77) (g := 0) h1011 q1009 rfl (by decide) rfl (by decide) rfl (by decide)
  clear h1011 q1009
  refine zt_aload_n (pc' := 1083) hX dX12_init_1082 rfl rfl ?_
  refine zt_iconst (pc' := 1084) hX dX12_init_1083 rfl ?_
  refine zt_newaL (pc' := 1086) (t := 3) (N := 4) (n' := 216) (cs' := 51) (ss' := 11228) hX dX12_init_1084 rfl zw_10_19 rfl (by decide) (by decide) zc_215 zs_97 (by decide) (by decide) (zCs_nx q1012.1) rfl rfl rfl ⟨by rw [hN.2.1]; exact Nat.le_of_ble_eq_true rfl, by rw [hN.2.2]; exact Nat.le_of_ble_eq_true rfl⟩ ?_
  have q1013 := zq_arr (n' := 216) q1012 zc_215 zs_97 (by decide) rfl
  clear q1012
  refine zt_dup (pc' := 1087) hX dX12_init_1086 rfl rfl ?_
  refine zt_iconst (pc' := 1088) hX dX12_init_1087 rfl ?_
  refine zt_bipush (pc' := 1090) hX dX12_init_1088 rfl (by decide) (by decide) ?_
  refine zt_cast (pc' := 1091) hX dX12_init_1090 rfl (by decide) zc_215 zs_97 (by decide) ⟨by decide, by decide⟩ (by decide +kernel) ?_
  rw [show Int.toNat 0 = 0 from rfl]
  generalize h1015 : zset s1010 215 0 109 = s1014
  have q1016 := zq_el h1015 q1013 (by decide) (by decide) zc_215 zs_97 (show 0 ≤ (109 : Int) ∧ (109 : Int) ≤ 65535 from ⟨by decide, by decide⟩) (by decide) (by decide)
  have f1017 : s1014 215 0 = 109 := by rw [← h1015]; exact zset_s
  clear h1015 q1013
  refine zt_dup (pc' := 1092) hX dX12_init_1091 rfl rfl ?_
  refine zt_iconst (pc' := 1093) hX dX12_init_1092 rfl ?_
  refine zt_bipush (pc' := 1095) hX dX12_init_1093 rfl (by decide) (by decide) ?_
  refine zt_cast (pc' := 1096) hX dX12_init_1095 rfl (by decide) zc_215 zs_97 (by decide) ⟨by decide, by decide⟩ (by decide +kernel) ?_
  rw [show Int.toNat 1 = 1 from rfl]
  generalize h1019 : zset s1014 215 1 111 = s1018
  have q1020 := zq_el h1019 q1016 (by decide) (by decide) zc_215 zs_97 (show 0 ≤ (111 : Int) ∧ (111 : Int) ≤ 65535 from ⟨by decide, by decide⟩) (by decide) (by decide)
  have f1021 : s1018 215 0 = 109 := by rw [← h1019]; exact (zset_j (by decide)).trans f1017
  have f1022 : s1018 215 1 = 111 := by rw [← h1019]; exact zset_s
  clear f1017
  clear h1019 q1016
  refine zt_dup (pc' := 1097) hX dX12_init_1096 rfl rfl ?_
  refine zt_iconst (pc' := 1098) hX dX12_init_1097 rfl ?_
  refine zt_bipush (pc' := 1100) hX dX12_init_1098 rfl (by decide) (by decide) ?_
  refine zt_cast (pc' := 1101) hX dX12_init_1100 rfl (by decide) zc_215 zs_97 (by decide) ⟨by decide, by decide⟩ (by decide +kernel) ?_
  rw [show Int.toNat 2 = 2 from rfl]
  generalize h1024 : zset s1018 215 2 115 = s1023
  have q1025 := zq_el h1024 q1020 (by decide) (by decide) zc_215 zs_97 (show 0 ≤ (115 : Int) ∧ (115 : Int) ≤ 65535 from ⟨by decide, by decide⟩) (by decide) (by decide)
  have f1026 : s1023 215 0 = 109 := by rw [← h1024]; exact (zset_j (by decide)).trans f1021
  have f1027 : s1023 215 1 = 111 := by rw [← h1024]; exact (zset_j (by decide)).trans f1022
  have f1028 : s1023 215 2 = 115 := by rw [← h1024]; exact zset_s
  clear f1021 f1022
  clear h1024 q1020
  refine zt_dup (pc' := 1102) hX dX12_init_1101 rfl rfl ?_
  refine zt_iconst (pc' := 1103) hX dX12_init_1102 rfl ?_
  refine zt_bipush (pc' := 1105) hX dX12_init_1103 rfl (by decide) (by decide) ?_
  refine zt_cast (pc' := 1106) hX dX12_init_1105 rfl (by decide) zc_215 zs_97 (by decide) ⟨by decide, by decide⟩ (by decide +kernel) ?_
  rw [show Int.toNat 3 = 3 from rfl]
  generalize h1030 : zset s1023 215 3 116 = s1029
  have q1031 := zq_el h1030 q1025 (by decide) (by decide) zc_215 zs_97 (show 0 ≤ (116 : Int) ∧ (116 : Int) ≤ 65535 from ⟨by decide, by decide⟩) (by decide) (by decide)
  have f1032 : s1029 215 0 = 109 := by rw [← h1030]; exact (zset_j (by decide)).trans f1026
  have f1033 : s1029 215 1 = 111 := by rw [← h1030]; exact (zset_j (by decide)).trans f1027
  have f1034 : s1029 215 2 = 115 := by rw [← h1030]; exact (zset_j (by decide)).trans f1028
  have f1035 : s1029 215 3 = 116 := by rw [← h1030]; exact zset_s
  clear f1026 f1027 f1028
  clear h1030 q1025
  have q1036 := zq_row (d := 216) (k := 215) (L := [109, 111, 115, 116]) q1031 (by decide) (fun j hj => by have hj : j < 4 := hj; rcases (show j = 0 ∨ j = 1 ∨ j = 2 ∨ j = 3 by omega) with rfl | rfl | rfl | rfl; exact f1032; exact f1033; exact f1034; exact f1035)
  clear f1032 f1033 f1034 f1035 q1031
  refine zt_putF (pc' := 1109) (x := ((215 : Nat) : Int)) hX dX12_init_1106 rfl hN.1 zf_X12_174 (by decide) zc_164 zs_46 (fun q hq => by cases hq; exact ⟨rfl, rfl⟩) (zrf_of rfl) rfl rfl ?_
  generalize h1038 : zset s1029 164 77 ((215 : Nat) : Int) = s1037
  have q1039 := zq_ref (m' := 78) (g := 0) h1038 q1036 rfl (by decide) rfl (by decide) rfl (by decide)
  clear h1038 q1036
  refine zt_aload_n (pc' := 1110) hX dX12_init_1109 rfl rfl ?_
  refine zt_iconst (pc' := 1111) hX dX12_init_1110 rfl ?_
  refine zt_newaL (pc' := 1113) (t := 3) (N := 5) (n' := 217) (cs' := 52) (ss' := 11233) hX dX12_init_1111 rfl zw_10_19 rfl (by decide) (by decide) zc_216 zs_98 (by decide) (by decide) (zCs_nx q1039.1) rfl rfl rfl ⟨by rw [hN.2.1]; exact Nat.le_of_ble_eq_true rfl, by rw [hN.2.2]; exact Nat.le_of_ble_eq_true rfl⟩ ?_
  have q1040 := zq_arr (n' := 217) q1039 zc_216 zs_98 (by decide) rfl
  clear q1039
  refine zt_dup (pc' := 1114) hX dX12_init_1113 rfl rfl ?_
  refine zt_iconst (pc' := 1115) hX dX12_init_1114 rfl ?_
  refine zt_bipush (pc' := 1117) hX dX12_init_1115 rfl (by decide) (by decide) ?_
  refine zt_cast (pc' := 1118) hX dX12_init_1117 rfl (by decide) zc_216 zs_98 (by decide) ⟨by decide, by decide⟩ (by decide +kernel) ?_
  rw [show Int.toNat 0 = 0 from rfl]
  generalize h1042 : zset s1037 216 0 108 = s1041
  have q1043 := zq_el h1042 q1040 (by decide) (by decide) zc_216 zs_98 (show 0 ≤ (108 : Int) ∧ (108 : Int) ≤ 65535 from ⟨by decide, by decide⟩) (by decide) (by decide)
  have f1044 : s1041 216 0 = 108 := by rw [← h1042]; exact zset_s
  clear h1042 q1040
  refine zt_dup (pc' := 1119) hX dX12_init_1118 rfl rfl ?_
  refine zt_iconst (pc' := 1120) hX dX12_init_1119 rfl ?_
  refine zt_bipush (pc' := 1122) hX dX12_init_1120 rfl (by decide) (by decide) ?_
  refine zt_cast (pc' := 1123) hX dX12_init_1122 rfl (by decide) zc_216 zs_98 (by decide) ⟨by decide, by decide⟩ (by decide +kernel) ?_
  rw [show Int.toNat 1 = 1 from rfl]
  generalize h1046 : zset s1041 216 1 101 = s1045
  have q1047 := zq_el h1046 q1043 (by decide) (by decide) zc_216 zs_98 (show 0 ≤ (101 : Int) ∧ (101 : Int) ≤ 65535 from ⟨by decide, by decide⟩) (by decide) (by decide)
  have f1048 : s1045 216 0 = 108 := by rw [← h1046]; exact (zset_j (by decide)).trans f1044
  have f1049 : s1045 216 1 = 101 := by rw [← h1046]; exact zset_s
  clear f1044
  clear h1046 q1043
  refine zt_dup (pc' := 1124) hX dX12_init_1123 rfl rfl ?_
  refine zt_iconst (pc' := 1125) hX dX12_init_1124 rfl ?_
  refine zt_bipush (pc' := 1127) hX dX12_init_1125 rfl (by decide) (by decide) ?_
  refine zt_cast (pc' := 1128) hX dX12_init_1127 rfl (by decide) zc_216 zs_98 (by decide) ⟨by decide, by decide⟩ (by decide +kernel) ?_
  rw [show Int.toNat 2 = 2 from rfl]
  generalize h1051 : zset s1045 216 2 97 = s1050
  have q1052 := zq_el h1051 q1047 (by decide) (by decide) zc_216 zs_98 (show 0 ≤ (97 : Int) ∧ (97 : Int) ≤ 65535 from ⟨by decide, by decide⟩) (by decide) (by decide)
  have f1053 : s1050 216 0 = 108 := by rw [← h1051]; exact (zset_j (by decide)).trans f1048
  have f1054 : s1050 216 1 = 101 := by rw [← h1051]; exact (zset_j (by decide)).trans f1049
  have f1055 : s1050 216 2 = 97 := by rw [← h1051]; exact zset_s
  clear f1048 f1049
  clear h1051 q1047
  refine zt_dup (pc' := 1129) hX dX12_init_1128 rfl rfl ?_
  refine zt_iconst (pc' := 1130) hX dX12_init_1129 rfl ?_
  refine zt_bipush (pc' := 1132) hX dX12_init_1130 rfl (by decide) (by decide) ?_
  refine zt_cast (pc' := 1133) hX dX12_init_1132 rfl (by decide) zc_216 zs_98 (by decide) ⟨by decide, by decide⟩ (by decide +kernel) ?_
  rw [show Int.toNat 3 = 3 from rfl]
  generalize h1057 : zset s1050 216 3 115 = s1056
  have q1058 := zq_el h1057 q1052 (by decide) (by decide) zc_216 zs_98 (show 0 ≤ (115 : Int) ∧ (115 : Int) ≤ 65535 from ⟨by decide, by decide⟩) (by decide) (by decide)
  have f1059 : s1056 216 0 = 108 := by rw [← h1057]; exact (zset_j (by decide)).trans f1053
  have f1060 : s1056 216 1 = 101 := by rw [← h1057]; exact (zset_j (by decide)).trans f1054
  have f1061 : s1056 216 2 = 97 := by rw [← h1057]; exact (zset_j (by decide)).trans f1055
  have f1062 : s1056 216 3 = 115 := by rw [← h1057]; exact zset_s
  clear f1053 f1054 f1055
  clear h1057 q1052
  refine zt_dup (pc' := 1134) hX dX12_init_1133 rfl rfl ?_
  refine zt_iconst (pc' := 1135) hX dX12_init_1134 rfl ?_
  refine zt_bipush (pc' := 1137) hX dX12_init_1135 rfl (by decide) (by decide) ?_
  refine zt_cast (pc' := 1138) hX dX12_init_1137 rfl (by decide) zc_216 zs_98 (by decide) ⟨by decide, by decide⟩ (by decide +kernel) ?_
  rw [show Int.toNat 4 = 4 from rfl]
  generalize h1064 : zset s1056 216 4 116 = s1063
  have q1065 := zq_el h1064 q1058 (by decide) (by decide) zc_216 zs_98 (show 0 ≤ (116 : Int) ∧ (116 : Int) ≤ 65535 from ⟨by decide, by decide⟩) (by decide) (by decide)
  have f1066 : s1063 216 0 = 108 := by rw [← h1064]; exact (zset_j (by decide)).trans f1059
  have f1067 : s1063 216 1 = 101 := by rw [← h1064]; exact (zset_j (by decide)).trans f1060
  have f1068 : s1063 216 2 = 97 := by rw [← h1064]; exact (zset_j (by decide)).trans f1061
  have f1069 : s1063 216 3 = 115 := by rw [← h1064]; exact (zset_j (by decide)).trans f1062
  have f1070 : s1063 216 4 = 116 := by rw [← h1064]; exact zset_s
  clear f1059 f1060 f1061 f1062
  clear h1064 q1058
  have q1071 := zq_row (d := 217) (k := 216) (L := [108, 101, 97, 115, 116]) q1065 (by decide) (fun j hj => by have hj : j < 5 := hj; rcases (show j = 0 ∨ j = 1 ∨ j = 2 ∨ j = 3 ∨ j = 4 by omega) with rfl | rfl | rfl | rfl | rfl; exact f1066; exact f1067; exact f1068; exact f1069; exact f1070)
  clear f1066 f1067 f1068 f1069 f1070 q1065
  refine zt_putF (pc' := 1141) (x := ((216 : Nat) : Int)) hX dX12_init_1138 rfl hN.1 zf_X12_177 (by decide) zc_164 zs_46 (fun q hq => by cases hq; exact ⟨rfl, rfl⟩) (zrf_of rfl) rfl rfl ?_
  generalize h1073 : zset s1063 164 78 ((216 : Nat) : Int) = s1072
  have q1074 := zq_ref (m' := 79) (g := 0) h1073 q1071 rfl (by decide) rfl (by decide) rfl (by decide)
  clear h1073 q1071
  exact K s1072 q1074

set_option maxRecDepth 100000 in
set_option maxHeartbeats 4000000 in
theorem zxm_8 {X : zCX} {σ s : zSto} (hX : zok X cX12_init RX12 1) (hN : X.2.2.2.2.2.2.2.2.2.1.name = yX12_init.name ∧ X.2.2.2.2.1.cells = 73 ∧ X.2.2.2.2.1.slots = 16482) (q : zQm (-1) (-1) (-1) 217 σ s 79 217) (K : ∀ s' : zSto, zQm (-1) (-1) (-1) 223 σ s' 85 223 → zZ X 223 58 11250 s' 1268 [some (.ref (X.1.1 + 164))] []) : zZ X 217 52 11233 s 1141 [some (.ref (X.1.1 + 164))] [] := by
  refine zt_aload_n (pc' := 1142) hX dX12_init_1141 rfl rfl ?_
  refine zt_iconst (pc' := 1143) hX dX12_init_1142 rfl ?_
  refine zt_newaL (pc' := 1145) (t := 3) (N := 3) (n' := 218) (cs' := 53) (ss' := 11236) hX dX12_init_1143 rfl zw_10_19 rfl (by decide) (by decide) zc_217 zs_99 (by decide) (by decide) (zCs_nx q.1) rfl rfl rfl ⟨by rw [hN.2.1]; exact Nat.le_of_ble_eq_true rfl, by rw [hN.2.2]; exact Nat.le_of_ble_eq_true rfl⟩ ?_
  have q1075 := zq_arr (n' := 218) q zc_217 zs_99 (by decide) rfl
  refine zt_dup (pc' := 1146) hX dX12_init_1145 rfl rfl ?_
  refine zt_iconst (pc' := 1147) hX dX12_init_1146 rfl ?_
  refine zt_bipush (pc' := 1149) hX dX12_init_1147 rfl (by decide) (by decide) ?_
  refine zt_cast (pc' := 1150) hX dX12_init_1149 rfl (by decide) zc_217 zs_99 (by decide) ⟨by decide, by decide⟩ (by decide +kernel) ?_
  rw [show Int.toNat 0 = 0 from rfl]
  generalize h1077 : zset s 217 0 110 = s1076
  have q1078 := zq_el h1077 q1075 (by decide) (by decide) zc_217 zs_99 (show 0 ≤ (110 : Int) ∧ (110 : Int) ≤ 65535 from ⟨by decide, by decide⟩) (by decide) (by decide)
  have f1079 : s1076 217 0 = 110 := by rw [← h1077]; exact zset_s
  clear h1077 q1075
  refine zt_dup (pc' := 1151) hX dX12_init_1150 rfl rfl ?_
  refine zt_iconst (pc' := 1152) hX dX12_init_1151 rfl ?_
  refine zt_bipush (pc' := 1154) hX dX12_init_1152 rfl (by decide) (by decide) ?_
  refine zt_cast (pc' := 1155) hX dX12_init_1154 rfl (by decide) zc_217 zs_99 (by decide) ⟨by decide, by decide⟩ (by decide +kernel) ?_
  rw [show Int.toNat 1 = 1 from rfl]
  generalize h1081 : zset s1076 217 1 111 = s1080
  have q1082 := zq_el h1081 q1078 (by decide) (by decide) zc_217 zs_99 (show 0 ≤ (111 : Int) ∧ (111 : Int) ≤ 65535 from ⟨by decide, by decide⟩) (by decide) (by decide)
  have f1083 : s1080 217 0 = 110 := by rw [← h1081]; exact (zset_j (by decide)).trans f1079
  have f1084 : s1080 217 1 = 111 := by rw [← h1081]; exact zset_s
  clear f1079
  clear h1081 q1078
  refine zt_dup (pc' := 1156) hX dX12_init_1155 rfl rfl ?_
  refine zt_iconst (pc' := 1157) hX dX12_init_1156 rfl ?_
  refine zt_bipush (pc' := 1159) hX dX12_init_1157 rfl (by decide) (by decide) ?_
  refine zt_cast (pc' := 1160) hX dX12_init_1159 rfl (by decide) zc_217 zs_99 (by decide) ⟨by decide, by decide⟩ (by decide +kernel) ?_
  rw [show Int.toNat 2 = 2 from rfl]
  generalize h1086 : zset s1080 217 2 116 = s1085
  have q1087 := zq_el h1086 q1082 (by decide) (by decide) zc_217 zs_99 (show 0 ≤ (116 : Int) ∧ (116 : Int) ≤ 65535 from ⟨by decide, by decide⟩) (by decide) (by decide)
  have f1088 : s1085 217 0 = 110 := by rw [← h1086]; exact (zset_j (by decide)).trans f1083
  have f1089 : s1085 217 1 = 111 := by rw [← h1086]; exact (zset_j (by decide)).trans f1084
  have f1090 : s1085 217 2 = 116 := by rw [← h1086]; exact zset_s
  clear f1083 f1084
  clear h1086 q1082
  have q1091 := zq_row (d := 218) (k := 217) (L := [110, 111, 116]) q1087 (by decide) (fun j hj => by have hj : j < 3 := hj; rcases (show j = 0 ∨ j = 1 ∨ j = 2 by omega) with rfl | rfl | rfl; exact f1088; exact f1089; exact f1090)
  clear f1088 f1089 f1090 q1087
  refine zt_putF (pc' := 1163) (x := ((217 : Nat) : Int)) hX dX12_init_1160 rfl hN.1 zf_X12_180 (by decide) zc_164 zs_46 (fun q hq => by cases hq; exact ⟨rfl, rfl⟩) (zrf_of rfl) rfl rfl ?_
  generalize h1093 : zset s1085 164 79 ((217 : Nat) : Int) = s1092
  have q1094 := zq_ref (m' := 80) (g := 0) h1093 q1091 rfl (by decide) rfl (by decide) rfl (by decide)
  clear h1093 q1091
  refine zt_aload_n (pc' := 1164) hX dX12_init_1163 rfl rfl ?_
  refine zt_iconst (pc' := 1165) hX dX12_init_1164 rfl ?_
  refine zt_newaL (pc' := 1167) (t := 3) (N := 3) (n' := 219) (cs' := 54) (ss' := 11239) hX dX12_init_1165 rfl zw_10_19 rfl (by decide) (by decide) zc_218 zs_100 (by decide) (by decide) (zCs_nx q1094.1) rfl rfl rfl ⟨by rw [hN.2.1]; exact Nat.le_of_ble_eq_true rfl, by rw [hN.2.2]; exact Nat.le_of_ble_eq_true rfl⟩ ?_
  have q1095 := zq_arr (n' := 219) q1094 zc_218 zs_100 (by decide) rfl
  clear q1094
  refine zt_dup (pc' := 1168) hX dX12_init_1167 rfl rfl ?_
  refine zt_iconst (pc' := 1169) hX dX12_init_1168 rfl ?_
  refine zt_bipush (pc' := 1171) hX dX12_init_1169 rfl (by decide) (by decide) ?_
  refine zt_cast (pc' := 1172) hX dX12_init_1171 rfl (by decide) zc_218 zs_100 (by decide) ⟨by decide, by decide⟩ (by decide +kernel) ?_
  rw [show Int.toNat 0 = 0 from rfl]
  generalize h1097 : zset s1092 218 0 97 = s1096
  have q1098 := zq_el h1097 q1095 (by decide) (by decide) zc_218 zs_100 (show 0 ≤ (97 : Int) ∧ (97 : Int) ≤ 65535 from ⟨by decide, by decide⟩) (by decide) (by decide)
  have f1099 : s1096 218 0 = 97 := by rw [← h1097]; exact zset_s
  clear h1097 q1095
  refine zt_dup (pc' := 1173) hX dX12_init_1172 rfl rfl ?_
  refine zt_iconst (pc' := 1174) hX dX12_init_1173 rfl ?_
  refine zt_bipush (pc' := 1176) hX dX12_init_1174 rfl (by decide) (by decide) ?_
  refine zt_cast (pc' := 1177) hX dX12_init_1176 rfl (by decide) zc_218 zs_100 (by decide) ⟨by decide, by decide⟩ (by decide +kernel) ?_
  rw [show Int.toNat 1 = 1 from rfl]
  generalize h1101 : zset s1096 218 1 110 = s1100
  have q1102 := zq_el h1101 q1098 (by decide) (by decide) zc_218 zs_100 (show 0 ≤ (110 : Int) ∧ (110 : Int) ≤ 65535 from ⟨by decide, by decide⟩) (by decide) (by decide)
  have f1103 : s1100 218 0 = 97 := by rw [← h1101]; exact (zset_j (by decide)).trans f1099
  have f1104 : s1100 218 1 = 110 := by rw [← h1101]; exact zset_s
  clear f1099
  clear h1101 q1098
  refine zt_dup (pc' := 1178) hX dX12_init_1177 rfl rfl ?_
  refine zt_iconst (pc' := 1179) hX dX12_init_1178 rfl ?_
  refine zt_bipush (pc' := 1181) hX dX12_init_1179 rfl (by decide) (by decide) ?_
  refine zt_cast (pc' := 1182) hX dX12_init_1181 rfl (by decide) zc_218 zs_100 (by decide) ⟨by decide, by decide⟩ (by decide +kernel) ?_
  rw [show Int.toNat 2 = 2 from rfl]
  generalize h1106 : zset s1100 218 2 100 = s1105
  have q1107 := zq_el h1106 q1102 (by decide) (by decide) zc_218 zs_100 (show 0 ≤ (100 : Int) ∧ (100 : Int) ≤ 65535 from ⟨by decide, by decide⟩) (by decide) (by decide)
  have f1108 : s1105 218 0 = 97 := by rw [← h1106]; exact (zset_j (by decide)).trans f1103
  have f1109 : s1105 218 1 = 110 := by rw [← h1106]; exact (zset_j (by decide)).trans f1104
  have f1110 : s1105 218 2 = 100 := by rw [← h1106]; exact zset_s
  clear f1103 f1104
  clear h1106 q1102
  have q1111 := zq_row (d := 219) (k := 218) (L := [97, 110, 100]) q1107 (by decide) (fun j hj => by have hj : j < 3 := hj; rcases (show j = 0 ∨ j = 1 ∨ j = 2 by omega) with rfl | rfl | rfl; exact f1108; exact f1109; exact f1110)
  clear f1108 f1109 f1110 q1107
  refine zt_putF (pc' := 1185) (x := ((218 : Nat) : Int)) hX dX12_init_1182 rfl hN.1 zf_X12_183 (by decide) zc_164 zs_46 (fun q hq => by cases hq; exact ⟨rfl, rfl⟩) (zrf_of rfl) rfl rfl ?_
  generalize h1113 : zset s1105 164 80 ((218 : Nat) : Int) = s1112
  have q1114 := zq_ref (m' := 81) (g := 0) h1113 q1111 rfl (by decide) rfl (by decide) rfl (by decide)
  clear h1113 q1111
  refine zt_aload_n (pc' := 1186) hX dX12_init_1185 rfl rfl ?_
  refine zt_iconst (pc' := 1187) hX dX12_init_1186 rfl ?_
  refine zt_newaL (pc' := 1189) (t := 3) (N := 2) (n' := 220) (cs' := 55) (ss' := 11241) hX dX12_init_1187 rfl zw_10_19 rfl (by decide) (by decide) zc_219 zs_101 (by decide) (by decide) (zCs_nx q1114.1) rfl rfl rfl ⟨by rw [hN.2.1]; exact Nat.le_of_ble_eq_true rfl, by rw [hN.2.2]; exact Nat.le_of_ble_eq_true rfl⟩ ?_
  have q1115 := zq_arr (n' := 220) q1114 zc_219 zs_101 (by decide) rfl
  clear q1114
  refine zt_dup (pc' := 1190) hX dX12_init_1189 rfl rfl ?_
  refine zt_iconst (pc' := 1191) hX dX12_init_1190 rfl ?_
  refine zt_bipush (pc' := 1193) hX dX12_init_1191 rfl (by decide) (by decide) ?_
  refine zt_cast (pc' := 1194) hX dX12_init_1193 rfl (by decide) zc_219 zs_101 (by decide) ⟨by decide, by decide⟩ (by decide +kernel) ?_
  rw [show Int.toNat 0 = 0 from rfl]
  generalize h1117 : zset s1112 219 0 111 = s1116
  have q1118 := zq_el h1117 q1115 (by decide) (by decide) zc_219 zs_101 (show 0 ≤ (111 : Int) ∧ (111 : Int) ≤ 65535 from ⟨by decide, by decide⟩) (by decide) (by decide)
  have f1119 : s1116 219 0 = 111 := by rw [← h1117]; exact zset_s
  clear h1117 q1115
  refine zt_dup (pc' := 1195) hX dX12_init_1194 rfl rfl ?_
  refine zt_iconst (pc' := 1196) hX dX12_init_1195 rfl ?_
  refine zt_bipush (pc' := 1198) hX dX12_init_1196 rfl (by decide) (by decide) ?_
  refine zt_cast (pc' := 1199) hX dX12_init_1198 rfl (by decide) zc_219 zs_101 (by decide) ⟨by decide, by decide⟩ (by decide +kernel) ?_
  rw [show Int.toNat 1 = 1 from rfl]
  generalize h1121 : zset s1116 219 1 114 = s1120
  have q1122 := zq_el h1121 q1118 (by decide) (by decide) zc_219 zs_101 (show 0 ≤ (114 : Int) ∧ (114 : Int) ≤ 65535 from ⟨by decide, by decide⟩) (by decide) (by decide)
  have f1123 : s1120 219 0 = 111 := by rw [← h1121]; exact (zset_j (by decide)).trans f1119
  have f1124 : s1120 219 1 = 114 := by rw [← h1121]; exact zset_s
  clear f1119
  clear h1121 q1118
  have q1125 := zq_row (d := 220) (k := 219) (L := [111, 114]) q1122 (by decide) (fun j hj => by have hj : j < 2 := hj; rcases (show j = 0 ∨ j = 1 by omega) with rfl | rfl; exact f1123; exact f1124)
  clear f1123 f1124 q1122
  refine zt_putF (pc' := 1202) (x := ((219 : Nat) : Int)) hX dX12_init_1199 rfl hN.1 zf_X12_186 (by decide) zc_164 zs_46 (fun q hq => by cases hq; exact ⟨rfl, rfl⟩) (zrf_of rfl) rfl rfl ?_
  generalize h1127 : zset s1120 164 81 ((219 : Nat) : Int) = s1126
  have q1128 := zq_ref (m' := 82) (g := 0) h1127 q1125 rfl (by decide) rfl (by decide) rfl (by decide)
  clear h1127 q1125
  refine zt_aload_n (pc' := 1203) hX dX12_init_1202 rfl rfl ?_
  refine zt_iconst (pc' := 1204) hX dX12_init_1203 rfl ?_
  refine zt_newaL (pc' := 1206) (t := 3) (N := 3) (n' := 221) (cs' := 56) (ss' := 11244) hX dX12_init_1204 rfl zw_10_19 rfl (by decide) (by decide) zc_220 zs_102 (by decide) (by decide) (zCs_nx q1128.1) rfl rfl rfl ⟨by rw [hN.2.1]; exact Nat.le_of_ble_eq_true rfl, by rw [hN.2.2]; exact Nat.le_of_ble_eq_true rfl⟩ ?_
  have q1129 := zq_arr (n' := 221) q1128 zc_220 zs_102 (by decide) rfl
  clear q1128
  refine zt_dup (pc' := 1207) hX dX12_init_1206 rfl rfl ?_
  refine zt_iconst (pc' := 1208) hX dX12_init_1207 rfl ?_
  refine zt_bipush (pc' := 1210) hX dX12_init_1208 rfl (by decide) (by decide) ?_
  refine zt_cast (pc' := 1211) hX dX12_init_1210 rfl (by decide) zc_220 zs_102 (by decide) ⟨by decide, by decide⟩ (by decide +kernel) ?_
  rw [show Int.toNat 0 = 0 from rfl]
  generalize h1131 : zset s1126 220 0 97 = s1130
  have q1132 := zq_el h1131 q1129 (by decide) (by decide) zc_220 zs_102 (show 0 ≤ (97 : Int) ∧ (97 : Int) ≤ 65535 from ⟨by decide, by decide⟩) (by decide) (by decide)
  have f1133 : s1130 220 0 = 97 := by rw [← h1131]; exact zset_s
  clear h1131 q1129
  refine zt_dup (pc' := 1212) hX dX12_init_1211 rfl rfl ?_
  refine zt_iconst (pc' := 1213) hX dX12_init_1212 rfl ?_
  refine zt_bipush (pc' := 1215) hX dX12_init_1213 rfl (by decide) (by decide) ?_
  refine zt_cast (pc' := 1216) hX dX12_init_1215 rfl (by decide) zc_220 zs_102 (by decide) ⟨by decide, by decide⟩ (by decide +kernel) ?_
  rw [show Int.toNat 1 = 1 from rfl]
  generalize h1135 : zset s1130 220 1 108 = s1134
  have q1136 := zq_el h1135 q1132 (by decide) (by decide) zc_220 zs_102 (show 0 ≤ (108 : Int) ∧ (108 : Int) ≤ 65535 from ⟨by decide, by decide⟩) (by decide) (by decide)
  have f1137 : s1134 220 0 = 97 := by rw [← h1135]; exact (zset_j (by decide)).trans f1133
  have f1138 : s1134 220 1 = 108 := by rw [← h1135]; exact zset_s
  clear f1133
  clear h1135 q1132
  refine zt_dup (pc' := 1217) hX dX12_init_1216 rfl rfl ?_
  refine zt_iconst (pc' := 1218) hX dX12_init_1217 rfl ?_
  refine zt_bipush (pc' := 1220) hX dX12_init_1218 rfl (by decide) (by decide) ?_
  refine zt_cast (pc' := 1221) hX dX12_init_1220 rfl (by decide) zc_220 zs_102 (by decide) ⟨by decide, by decide⟩ (by decide +kernel) ?_
  rw [show Int.toNat 2 = 2 from rfl]
  generalize h1140 : zset s1134 220 2 108 = s1139
  have q1141 := zq_el h1140 q1136 (by decide) (by decide) zc_220 zs_102 (show 0 ≤ (108 : Int) ∧ (108 : Int) ≤ 65535 from ⟨by decide, by decide⟩) (by decide) (by decide)
  have f1142 : s1139 220 0 = 97 := by rw [← h1140]; exact (zset_j (by decide)).trans f1137
  have f1143 : s1139 220 1 = 108 := by rw [← h1140]; exact (zset_j (by decide)).trans f1138
  have f1144 : s1139 220 2 = 108 := by rw [← h1140]; exact zset_s
  clear f1137 f1138
  clear h1140 q1136
  have q1145 := zq_row (d := 221) (k := 220) (L := [97, 108, 108]) q1141 (by decide) (fun j hj => by have hj : j < 3 := hj; rcases (show j = 0 ∨ j = 1 ∨ j = 2 by omega) with rfl | rfl | rfl; exact f1142; exact f1143; exact f1144)
  clear f1142 f1143 f1144 q1141
  refine zt_putF (pc' := 1224) (x := ((220 : Nat) : Int)) hX dX12_init_1221 rfl hN.1 zf_X12_189 (by decide) zc_164 zs_46 (fun q hq => by cases hq; exact ⟨rfl, rfl⟩) (zrf_of rfl) rfl rfl ?_
  generalize h1147 : zset s1139 164 82 ((220 : Nat) : Int) = s1146
  have q1148 := zq_ref (m' := 83) (g := 0) h1147 q1145 rfl (by decide) rfl (by decide) rfl (by decide)
  clear h1147 q1145
  refine zt_aload_n (pc' := 1225) hX dX12_init_1224 rfl rfl ?_
  refine zt_iconst (pc' := 1226) hX dX12_init_1225 rfl ?_
  refine zt_newaL (pc' := 1228) (t := 3) (N := 3) (n' := 222) (cs' := 57) (ss' := 11247) hX dX12_init_1226 rfl zw_10_19 rfl (by decide) (by decide) zc_221 zs_103 (by decide) (by decide) (zCs_nx q1148.1) rfl rfl rfl ⟨by rw [hN.2.1]; exact Nat.le_of_ble_eq_true rfl, by rw [hN.2.2]; exact Nat.le_of_ble_eq_true rfl⟩ ?_
  have q1149 := zq_arr (n' := 222) q1148 zc_221 zs_103 (by decide) rfl
  clear q1148
  refine zt_dup (pc' := 1229) hX dX12_init_1228 rfl rfl ?_
  refine zt_iconst (pc' := 1230) hX dX12_init_1229 rfl ?_
  refine zt_bipush (pc' := 1232) hX dX12_init_1230 rfl (by decide) (by decide) ?_
  refine zt_cast (pc' := 1233) hX dX12_init_1232 rfl (by decide) zc_221 zs_103 (by decide) ⟨by decide, by decide⟩ (by decide +kernel) ?_
  rw [show Int.toNat 0 = 0 from rfl]
  generalize h1151 : zset s1146 221 0 109 = s1150
  have q1152 := zq_el h1151 q1149 (by decide) (by decide) zc_221 zs_103 (show 0 ≤ (109 : Int) ∧ (109 : Int) ≤ 65535 from ⟨by decide, by decide⟩) (by decide) (by decide)
  have f1153 : s1150 221 0 = 109 := by rw [← h1151]; exact zset_s
  clear h1151 q1149
  refine zt_dup (pc' := 1234) hX dX12_init_1233 rfl rfl ?_
  refine zt_iconst (pc' := 1235) hX dX12_init_1234 rfl ?_
  refine zt_bipush (pc' := 1237) hX dX12_init_1235 rfl (by decide) (by decide) ?_
  refine zt_cast (pc' := 1238) hX dX12_init_1237 rfl (by decide) zc_221 zs_103 (by decide) ⟨by decide, by decide⟩ (by decide +kernel) ?_
  rw [show Int.toNat 1 = 1 from rfl]
  generalize h1155 : zset s1150 221 1 105 = s1154
  have q1156 := zq_el h1155 q1152 (by decide) (by decide) zc_221 zs_103 (show 0 ≤ (105 : Int) ∧ (105 : Int) ≤ 65535 from ⟨by decide, by decide⟩) (by decide) (by decide)
  have f1157 : s1154 221 0 = 109 := by rw [← h1155]; exact (zset_j (by decide)).trans f1153
  have f1158 : s1154 221 1 = 105 := by rw [← h1155]; exact zset_s
  clear f1153
  clear h1155 q1152
  refine zt_dup (pc' := 1239) hX dX12_init_1238 rfl rfl ?_
  refine zt_iconst (pc' := 1240) hX dX12_init_1239 rfl ?_
  refine zt_bipush (pc' := 1242) hX dX12_init_1240 rfl (by decide) (by decide) ?_
  refine zt_cast (pc' := 1243) hX dX12_init_1242 rfl (by decide) zc_221 zs_103 (by decide) ⟨by decide, by decide⟩ (by decide +kernel) ?_
  rw [show Int.toNat 2 = 2 from rfl]
  generalize h1160 : zset s1154 221 2 110 = s1159
  have q1161 := zq_el h1160 q1156 (by decide) (by decide) zc_221 zs_103 (show 0 ≤ (110 : Int) ∧ (110 : Int) ≤ 65535 from ⟨by decide, by decide⟩) (by decide) (by decide)
  have f1162 : s1159 221 0 = 109 := by rw [← h1160]; exact (zset_j (by decide)).trans f1157
  have f1163 : s1159 221 1 = 105 := by rw [← h1160]; exact (zset_j (by decide)).trans f1158
  have f1164 : s1159 221 2 = 110 := by rw [← h1160]; exact zset_s
  clear f1157 f1158
  clear h1160 q1156
  have q1165 := zq_row (d := 222) (k := 221) (L := [109, 105, 110]) q1161 (by decide) (fun j hj => by have hj : j < 3 := hj; rcases (show j = 0 ∨ j = 1 ∨ j = 2 by omega) with rfl | rfl | rfl; exact f1162; exact f1163; exact f1164)
  clear f1162 f1163 f1164 q1161
  refine zt_putF (pc' := 1246) (x := ((221 : Nat) : Int)) hX dX12_init_1243 rfl hN.1 zf_X12_192 (by decide) zc_164 zs_46 (fun q hq => by cases hq; exact ⟨rfl, rfl⟩) (zrf_of rfl) rfl rfl ?_
  generalize h1167 : zset s1159 164 83 ((221 : Nat) : Int) = s1166
  have q1168 := zq_ref (m' := 84) (g := 0) h1167 q1165 rfl (by decide) rfl (by decide) rfl (by decide)
  clear h1167 q1165
  refine zt_aload_n (pc' := 1247) hX dX12_init_1246 rfl rfl ?_
  refine zt_iconst (pc' := 1248) hX dX12_init_1247 rfl ?_
  refine zt_newaL (pc' := 1250) (t := 3) (N := 3) (n' := 223) (cs' := 58) (ss' := 11250) hX dX12_init_1248 rfl zw_10_19 rfl (by decide) (by decide) zc_222 zs_104 (by decide) (by decide) (zCs_nx q1168.1) rfl rfl rfl ⟨by rw [hN.2.1]; exact Nat.le_of_ble_eq_true rfl, by rw [hN.2.2]; exact Nat.le_of_ble_eq_true rfl⟩ ?_
  have q1169 := zq_arr (n' := 223) q1168 zc_222 zs_104 (by decide) rfl
  clear q1168
  refine zt_dup (pc' := 1251) hX dX12_init_1250 rfl rfl ?_
  refine zt_iconst (pc' := 1252) hX dX12_init_1251 rfl ?_
  refine zt_bipush (pc' := 1254) hX dX12_init_1252 rfl (by decide) (by decide) ?_
  refine zt_cast (pc' := 1255) hX dX12_init_1254 rfl (by decide) zc_222 zs_104 (by decide) ⟨by decide, by decide⟩ (by decide +kernel) ?_
  rw [show Int.toNat 0 = 0 from rfl]
  generalize h1171 : zset s1166 222 0 109 = s1170
  have q1172 := zq_el h1171 q1169 (by decide) (by decide) zc_222 zs_104 (show 0 ≤ (109 : Int) ∧ (109 : Int) ≤ 65535 from ⟨by decide, by decide⟩) (by decide) (by decide)
  have f1173 : s1170 222 0 = 109 := by rw [← h1171]; exact zset_s
  clear h1171 q1169
  refine zt_dup (pc' := 1256) hX dX12_init_1255 rfl rfl ?_
  refine zt_iconst (pc' := 1257) hX dX12_init_1256 rfl ?_
  refine zt_bipush (pc' := 1259) hX dX12_init_1257 rfl (by decide) (by decide) ?_
  refine zt_cast (pc' := 1260) hX dX12_init_1259 rfl (by decide) zc_222 zs_104 (by decide) ⟨by decide, by decide⟩ (by decide +kernel) ?_
  rw [show Int.toNat 1 = 1 from rfl]
  generalize h1175 : zset s1170 222 1 97 = s1174
  have q1176 := zq_el h1175 q1172 (by decide) (by decide) zc_222 zs_104 (show 0 ≤ (97 : Int) ∧ (97 : Int) ≤ 65535 from ⟨by decide, by decide⟩) (by decide) (by decide)
  have f1177 : s1174 222 0 = 109 := by rw [← h1175]; exact (zset_j (by decide)).trans f1173
  have f1178 : s1174 222 1 = 97 := by rw [← h1175]; exact zset_s
  clear f1173
  clear h1175 q1172
  refine zt_dup (pc' := 1261) hX dX12_init_1260 rfl rfl ?_
  refine zt_iconst (pc' := 1262) hX dX12_init_1261 rfl ?_
  refine zt_bipush (pc' := 1264) hX dX12_init_1262 rfl (by decide) (by decide) ?_
  refine zt_cast (pc' := 1265) hX dX12_init_1264 rfl (by decide) zc_222 zs_104 (by decide) ⟨by decide, by decide⟩ (by decide +kernel) ?_
  rw [show Int.toNat 2 = 2 from rfl]
  generalize h1180 : zset s1174 222 2 120 = s1179
  have q1181 := zq_el h1180 q1176 (by decide) (by decide) zc_222 zs_104 (show 0 ≤ (120 : Int) ∧ (120 : Int) ≤ 65535 from ⟨by decide, by decide⟩) (by decide) (by decide)
  have f1182 : s1179 222 0 = 109 := by rw [← h1180]; exact (zset_j (by decide)).trans f1177
  have f1183 : s1179 222 1 = 97 := by rw [← h1180]; exact (zset_j (by decide)).trans f1178
  have f1184 : s1179 222 2 = 120 := by rw [← h1180]; exact zset_s
  clear f1177 f1178
  clear h1180 q1176
  have q1185 := zq_row (d := 223) (k := 222) (L := [109, 97, 120]) q1181 (by decide) (fun j hj => by have hj : j < 3 := hj; rcases (show j = 0 ∨ j = 1 ∨ j = 2 by omega) with rfl | rfl | rfl; exact f1182; exact f1183; exact f1184)
  clear f1182 f1183 f1184 q1181
  refine zt_putF (pc' := 1268) (x := ((222 : Nat) : Int)) hX dX12_init_1265 rfl hN.1 zf_X12_195 (by decide) zc_164 zs_46 (fun q hq => by cases hq; exact ⟨rfl, rfl⟩) (zrf_of rfl) rfl rfl ?_
  generalize h1187 : zset s1179 164 84 ((222 : Nat) : Int) = s1186
  have q1188 := zq_ref (m' := 85) (g := 0) h1187 q1185 rfl (by decide) rfl (by decide) rfl (by decide)
  clear h1187 q1185
  exact K s1186 q1188

set_option maxRecDepth 100000 in
set_option maxHeartbeats 4000000 in
theorem zxm_9 {X : zCX} {σ s : zSto} (hX : zok X cX12_init RX12 1) (hN : X.2.2.2.2.2.2.2.2.2.1.name = yX12_init.name ∧ X.2.2.2.2.1.cells = 73 ∧ X.2.2.2.2.1.slots = 16482) (q : zQm (-1) (-1) (-1) 223 σ s 85 223) (K : ∀ s' : zSto, zQm (-1) (-1) (-1) 227 σ s' 89 227 → zZ X 227 62 11271 s' 1403 [some (.ref (X.1.1 + 164))] []) : zZ X 223 58 11250 s 1268 [some (.ref (X.1.1 + 164))] [] := by
  refine zt_aload_n (pc' := 1269) hX dX12_init_1268 rfl rfl ?_
  refine zt_iconst (pc' := 1270) hX dX12_init_1269 rfl ?_
  refine zt_newaL (pc' := 1272) (t := 3) (N := 4) (n' := 224) (cs' := 59) (ss' := 11254) hX dX12_init_1270 rfl zw_10_19 rfl (by decide) (by decide) zc_223 zs_105 (by decide) (by decide) (zCs_nx q.1) rfl rfl rfl ⟨by rw [hN.2.1]; exact Nat.le_of_ble_eq_true rfl, by rw [hN.2.2]; exact Nat.le_of_ble_eq_true rfl⟩ ?_
  have q1189 := zq_arr (n' := 224) q zc_223 zs_105 (by decide) rfl
  refine zt_dup (pc' := 1273) hX dX12_init_1272 rfl rfl ?_
  refine zt_iconst (pc' := 1274) hX dX12_init_1273 rfl ?_
  refine zt_bipush (pc' := 1276) hX dX12_init_1274 rfl (by decide) (by decide) ?_
  refine zt_cast (pc' := 1277) hX dX12_init_1276 rfl (by decide) zc_223 zs_105 (by decide) ⟨by decide, by decide⟩ (by decide +kernel) ?_
  rw [show Int.toNat 0 = 0 from rfl]
  generalize h1191 : zset s 223 0 104 = s1190
  have q1192 := zq_el h1191 q1189 (by decide) (by decide) zc_223 zs_105 (show 0 ≤ (104 : Int) ∧ (104 : Int) ≤ 65535 from ⟨by decide, by decide⟩) (by decide) (by decide)
  have f1193 : s1190 223 0 = 104 := by rw [← h1191]; exact zset_s
  clear h1191 q1189
  refine zt_dup (pc' := 1278) hX dX12_init_1277 rfl rfl ?_
  refine zt_iconst (pc' := 1279) hX dX12_init_1278 rfl ?_
  refine zt_bipush (pc' := 1281) hX dX12_init_1279 rfl (by decide) (by decide) ?_
  refine zt_cast (pc' := 1282) hX dX12_init_1281 rfl (by decide) zc_223 zs_105 (by decide) ⟨by decide, by decide⟩ (by decide +kernel) ?_
  rw [show Int.toNat 1 = 1 from rfl]
  generalize h1195 : zset s1190 223 1 111 = s1194
  have q1196 := zq_el h1195 q1192 (by decide) (by decide) zc_223 zs_105 (show 0 ≤ (111 : Int) ∧ (111 : Int) ≤ 65535 from ⟨by decide, by decide⟩) (by decide) (by decide)
  have f1197 : s1194 223 0 = 104 := by rw [← h1195]; exact (zset_j (by decide)).trans f1193
  have f1198 : s1194 223 1 = 111 := by rw [← h1195]; exact zset_s
  clear f1193
  clear h1195 q1192
  refine zt_dup (pc' := 1283) hX dX12_init_1282 rfl rfl ?_
  refine zt_iconst (pc' := 1284) hX dX12_init_1283 rfl ?_
  refine zt_bipush (pc' := 1286) hX dX12_init_1284 rfl (by decide) (by decide) ?_
  refine zt_cast (pc' := 1287) hX dX12_init_1286 rfl (by decide) zc_223 zs_105 (by decide) ⟨by decide, by decide⟩ (by decide +kernel) ?_
  rw [show Int.toNat 2 = 2 from rfl]
  generalize h1200 : zset s1194 223 2 117 = s1199
  have q1201 := zq_el h1200 q1196 (by decide) (by decide) zc_223 zs_105 (show 0 ≤ (117 : Int) ∧ (117 : Int) ≤ 65535 from ⟨by decide, by decide⟩) (by decide) (by decide)
  have f1202 : s1199 223 0 = 104 := by rw [← h1200]; exact (zset_j (by decide)).trans f1197
  have f1203 : s1199 223 1 = 111 := by rw [← h1200]; exact (zset_j (by decide)).trans f1198
  have f1204 : s1199 223 2 = 117 := by rw [← h1200]; exact zset_s
  clear f1197 f1198
  clear h1200 q1196
  refine zt_dup (pc' := 1288) hX dX12_init_1287 rfl rfl ?_
  refine zt_iconst (pc' := 1289) hX dX12_init_1288 rfl ?_
  refine zt_bipush (pc' := 1291) hX dX12_init_1289 rfl (by decide) (by decide) ?_
  refine zt_cast (pc' := 1292) hX dX12_init_1291 rfl (by decide) zc_223 zs_105 (by decide) ⟨by decide, by decide⟩ (by decide +kernel) ?_
  rw [show Int.toNat 3 = 3 from rfl]
  generalize h1206 : zset s1199 223 3 114 = s1205
  have q1207 := zq_el h1206 q1201 (by decide) (by decide) zc_223 zs_105 (show 0 ≤ (114 : Int) ∧ (114 : Int) ≤ 65535 from ⟨by decide, by decide⟩) (by decide) (by decide)
  have f1208 : s1205 223 0 = 104 := by rw [← h1206]; exact (zset_j (by decide)).trans f1202
  have f1209 : s1205 223 1 = 111 := by rw [← h1206]; exact (zset_j (by decide)).trans f1203
  have f1210 : s1205 223 2 = 117 := by rw [← h1206]; exact (zset_j (by decide)).trans f1204
  have f1211 : s1205 223 3 = 114 := by rw [← h1206]; exact zset_s
  clear f1202 f1203 f1204
  clear h1206 q1201
  have q1212 := zq_row (d := 224) (k := 223) (L := [104, 111, 117, 114]) q1207 (by decide) (fun j hj => by have hj : j < 4 := hj; rcases (show j = 0 ∨ j = 1 ∨ j = 2 ∨ j = 3 by omega) with rfl | rfl | rfl | rfl; exact f1208; exact f1209; exact f1210; exact f1211)
  clear f1208 f1209 f1210 f1211 q1207
  refine zt_putF (pc' := 1295) (x := ((223 : Nat) : Int)) hX dX12_init_1292 rfl hN.1 zf_X12_198 (by decide) zc_164 zs_46 (fun q hq => by cases hq; exact ⟨rfl, rfl⟩) (zrf_of rfl) rfl rfl ?_
  generalize h1214 : zset s1205 164 85 ((223 : Nat) : Int) = s1213
  have q1215 := zq_ref (m' := 86) (g := 0) h1214 q1212 rfl (by decide) rfl (by decide) rfl (by decide)
  clear h1214 q1212
  refine zt_aload_n (pc' := 1296) hX dX12_init_1295 rfl rfl ?_
  refine zt_bipush (pc' := 1298) hX dX12_init_1296 rfl (by decide) (by decide) ?_
  refine zt_newaL (pc' := 1300) (t := 3) (N := 6) (n' := 225) (cs' := 60) (ss' := 11260) hX dX12_init_1298 rfl zw_10_19 rfl (by decide) (by decide) zc_224 zs_106 (by decide) (by decide) (zCs_nx q1215.1) rfl rfl rfl ⟨by rw [hN.2.1]; exact Nat.le_of_ble_eq_true rfl, by rw [hN.2.2]; exact Nat.le_of_ble_eq_true rfl⟩ ?_
  have q1216 := zq_arr (n' := 225) q1215 zc_224 zs_106 (by decide) rfl
  clear q1215
  refine zt_dup (pc' := 1301) hX dX12_init_1300 rfl rfl ?_
  refine zt_iconst (pc' := 1302) hX dX12_init_1301 rfl ?_
  refine zt_bipush (pc' := 1304) hX dX12_init_1302 rfl (by decide) (by decide) ?_
  refine zt_cast (pc' := 1305) hX dX12_init_1304 rfl (by decide) zc_224 zs_106 (by decide) ⟨by decide, by decide⟩ (by decide +kernel) ?_
  rw [show Int.toNat 0 = 0 from rfl]
  generalize h1218 : zset s1213 224 0 99 = s1217
  have q1219 := zq_el h1218 q1216 (by decide) (by decide) zc_224 zs_106 (show 0 ≤ (99 : Int) ∧ (99 : Int) ≤ 65535 from ⟨by decide, by decide⟩) (by decide) (by decide)
  have f1220 : s1217 224 0 = 99 := by rw [← h1218]; exact zset_s
  clear h1218 q1216
  refine zt_dup (pc' := 1306) hX dX12_init_1305 rfl rfl ?_
  refine zt_iconst (pc' := 1307) hX dX12_init_1306 rfl ?_
  refine zt_bipush (pc' := 1309) hX dX12_init_1307 rfl (by decide) (by decide) ?_
  refine zt_cast (pc' := 1310) hX dX12_init_1309 rfl (by decide) zc_224 zs_106 (by decide) ⟨by decide, by decide⟩ (by decide +kernel) ?_
  rw [show Int.toNat 1 = 1 from rfl]
  generalize h1222 : zset s1217 224 1 114 = s1221
  have q1223 := zq_el h1222 q1219 (by decide) (by decide) zc_224 zs_106 (show 0 ≤ (114 : Int) ∧ (114 : Int) ≤ 65535 from ⟨by decide, by decide⟩) (by decide) (by decide)
  have f1224 : s1221 224 0 = 99 := by rw [← h1222]; exact (zset_j (by decide)).trans f1220
  have f1225 : s1221 224 1 = 114 := by rw [← h1222]; exact zset_s
  clear f1220
  clear h1222 q1219
  refine zt_dup (pc' := 1311) hX dX12_init_1310 rfl rfl ?_
  refine zt_iconst (pc' := 1312) hX dX12_init_1311 rfl ?_
  refine zt_bipush (pc' := 1314) hX dX12_init_1312 rfl (by decide) (by decide) ?_
  refine zt_cast (pc' := 1315) hX dX12_init_1314 rfl (by decide) zc_224 zs_106 (by decide) ⟨by decide, by decide⟩ (by decide +kernel) ?_
  rw [show Int.toNat 2 = 2 from rfl]
  generalize h1227 : zset s1221 224 2 97 = s1226
  have q1228 := zq_el h1227 q1223 (by decide) (by decide) zc_224 zs_106 (show 0 ≤ (97 : Int) ∧ (97 : Int) ≤ 65535 from ⟨by decide, by decide⟩) (by decide) (by decide)
  have f1229 : s1226 224 0 = 99 := by rw [← h1227]; exact (zset_j (by decide)).trans f1224
  have f1230 : s1226 224 1 = 114 := by rw [← h1227]; exact (zset_j (by decide)).trans f1225
  have f1231 : s1226 224 2 = 97 := by rw [← h1227]; exact zset_s
  clear f1224 f1225
  clear h1227 q1223
  refine zt_dup (pc' := 1316) hX dX12_init_1315 rfl rfl ?_
  refine zt_iconst (pc' := 1317) hX dX12_init_1316 rfl ?_
  refine zt_bipush (pc' := 1319) hX dX12_init_1317 rfl (by decide) (by decide) ?_
  refine zt_cast (pc' := 1320) hX dX12_init_1319 rfl (by decide) zc_224 zs_106 (by decide) ⟨by decide, by decide⟩ (by decide +kernel) ?_
  rw [show Int.toNat 3 = 3 from rfl]
  generalize h1233 : zset s1226 224 3 99 = s1232
  have q1234 := zq_el h1233 q1228 (by decide) (by decide) zc_224 zs_106 (show 0 ≤ (99 : Int) ∧ (99 : Int) ≤ 65535 from ⟨by decide, by decide⟩) (by decide) (by decide)
  have f1235 : s1232 224 0 = 99 := by rw [← h1233]; exact (zset_j (by decide)).trans f1229
  have f1236 : s1232 224 1 = 114 := by rw [← h1233]; exact (zset_j (by decide)).trans f1230
  have f1237 : s1232 224 2 = 97 := by rw [← h1233]; exact (zset_j (by decide)).trans f1231
  have f1238 : s1232 224 3 = 99 := by rw [← h1233]; exact zset_s
  clear f1229 f1230 f1231
  clear h1233 q1228
  refine zt_dup (pc' := 1321) hX dX12_init_1320 rfl rfl ?_
  refine zt_iconst (pc' := 1322) hX dX12_init_1321 rfl ?_
  refine zt_bipush (pc' := 1324) hX dX12_init_1322 rfl (by decide) (by decide) ?_
  refine zt_cast (pc' := 1325) hX dX12_init_1324 rfl (by decide) zc_224 zs_106 (by decide) ⟨by decide, by decide⟩ (by decide +kernel) ?_
  rw [show Int.toNat 4 = 4 from rfl]
  generalize h1240 : zset s1232 224 4 107 = s1239
  have q1241 := zq_el h1240 q1234 (by decide) (by decide) zc_224 zs_106 (show 0 ≤ (107 : Int) ∧ (107 : Int) ≤ 65535 from ⟨by decide, by decide⟩) (by decide) (by decide)
  have f1242 : s1239 224 0 = 99 := by rw [← h1240]; exact (zset_j (by decide)).trans f1235
  have f1243 : s1239 224 1 = 114 := by rw [← h1240]; exact (zset_j (by decide)).trans f1236
  have f1244 : s1239 224 2 = 97 := by rw [← h1240]; exact (zset_j (by decide)).trans f1237
  have f1245 : s1239 224 3 = 99 := by rw [← h1240]; exact (zset_j (by decide)).trans f1238
  have f1246 : s1239 224 4 = 107 := by rw [← h1240]; exact zset_s
  clear f1235 f1236 f1237 f1238
  clear h1240 q1234
  refine zt_dup (pc' := 1326) hX dX12_init_1325 rfl rfl ?_
  refine zt_iconst (pc' := 1327) hX dX12_init_1326 rfl ?_
  refine zt_bipush (pc' := 1329) hX dX12_init_1327 rfl (by decide) (by decide) ?_
  refine zt_cast (pc' := 1330) hX dX12_init_1329 rfl (by decide) zc_224 zs_106 (by decide) ⟨by decide, by decide⟩ (by decide +kernel) ?_
  rw [show Int.toNat 5 = 5 from rfl]
  generalize h1248 : zset s1239 224 5 115 = s1247
  have q1249 := zq_el h1248 q1241 (by decide) (by decide) zc_224 zs_106 (show 0 ≤ (115 : Int) ∧ (115 : Int) ≤ 65535 from ⟨by decide, by decide⟩) (by decide) (by decide)
  have f1250 : s1247 224 0 = 99 := by rw [← h1248]; exact (zset_j (by decide)).trans f1242
  have f1251 : s1247 224 1 = 114 := by rw [← h1248]; exact (zset_j (by decide)).trans f1243
  have f1252 : s1247 224 2 = 97 := by rw [← h1248]; exact (zset_j (by decide)).trans f1244
  have f1253 : s1247 224 3 = 99 := by rw [← h1248]; exact (zset_j (by decide)).trans f1245
  have f1254 : s1247 224 4 = 107 := by rw [← h1248]; exact (zset_j (by decide)).trans f1246
  have f1255 : s1247 224 5 = 115 := by rw [← h1248]; exact zset_s
  clear f1242 f1243 f1244 f1245 f1246
  clear h1248 q1241
  have q1256 := zq_row (d := 225) (k := 224) (L := [99, 114, 97, 99, 107, 115]) q1249 (by decide) (fun j hj => by have hj : j < 6 := hj; rcases (show j = 0 ∨ j = 1 ∨ j = 2 ∨ j = 3 ∨ j = 4 ∨ j = 5 by omega) with rfl | rfl | rfl | rfl | rfl | rfl; exact f1250; exact f1251; exact f1252; exact f1253; exact f1254; exact f1255)
  clear f1250 f1251 f1252 f1253 f1254 f1255 q1249
  refine zt_putF (pc' := 1333) (x := ((224 : Nat) : Int)) hX dX12_init_1330 rfl hN.1 zf_X12_201 (by decide) zc_164 zs_46 (fun q hq => by cases hq; exact ⟨rfl, rfl⟩) (zrf_of rfl) rfl rfl ?_
  generalize h1258 : zset s1247 164 86 ((224 : Nat) : Int) = s1257
  have q1259 := zq_ref (m' := 87) (g := 0) h1258 q1256 rfl (by decide) rfl (by decide) rfl (by decide)
  clear h1258 q1256
  refine zt_aload_n (pc' := 1334) hX dX12_init_1333 rfl rfl ?_
  refine zt_bipush (pc' := 1336) hX dX12_init_1334 rfl (by decide) (by decide) ?_
  refine zt_newaL (pc' := 1338) (t := 3) (N := 6) (n' := 226) (cs' := 61) (ss' := 11266) hX dX12_init_1336 rfl zw_10_19 rfl (by decide) (by decide) zc_225 zs_107 (by decide) (by decide) (zCs_nx q1259.1) rfl rfl rfl ⟨by rw [hN.2.1]; exact Nat.le_of_ble_eq_true rfl, by rw [hN.2.2]; exact Nat.le_of_ble_eq_true rfl⟩ ?_
  have q1260 := zq_arr (n' := 226) q1259 zc_225 zs_107 (by decide) rfl
  clear q1259
  refine zt_dup (pc' := 1339) hX dX12_init_1338 rfl rfl ?_
  refine zt_iconst (pc' := 1340) hX dX12_init_1339 rfl ?_
  refine zt_bipush (pc' := 1342) hX dX12_init_1340 rfl (by decide) (by decide) ?_
  refine zt_cast (pc' := 1343) hX dX12_init_1342 rfl (by decide) zc_225 zs_107 (by decide) ⟨by decide, by decide⟩ (by decide +kernel) ?_
  rw [show Int.toNat 0 = 0 from rfl]
  generalize h1262 : zset s1257 225 0 119 = s1261
  have q1263 := zq_el h1262 q1260 (by decide) (by decide) zc_225 zs_107 (show 0 ≤ (119 : Int) ∧ (119 : Int) ≤ 65535 from ⟨by decide, by decide⟩) (by decide) (by decide)
  have f1264 : s1261 225 0 = 119 := by rw [← h1262]; exact zset_s
  clear h1262 q1260
  refine zt_dup (pc' := 1344) hX dX12_init_1343 rfl rfl ?_
  refine zt_iconst (pc' := 1345) hX dX12_init_1344 rfl ?_
  refine zt_bipush (pc' := 1347) hX dX12_init_1345 rfl (by decide) (by decide) ?_
  refine zt_cast (pc' := 1348) hX dX12_init_1347 rfl (by decide) zc_225 zs_107 (by decide) ⟨by decide, by decide⟩ (by decide +kernel) ?_
  rw [show Int.toNat 1 = 1 from rfl]
  generalize h1266 : zset s1261 225 1 101 = s1265
  have q1267 := zq_el h1266 q1263 (by decide) (by decide) zc_225 zs_107 (show 0 ≤ (101 : Int) ∧ (101 : Int) ≤ 65535 from ⟨by decide, by decide⟩) (by decide) (by decide)
  have f1268 : s1265 225 0 = 119 := by rw [← h1266]; exact (zset_j (by decide)).trans f1264
  have f1269 : s1265 225 1 = 101 := by rw [← h1266]; exact zset_s
  clear f1264
  clear h1266 q1263
  refine zt_dup (pc' := 1349) hX dX12_init_1348 rfl rfl ?_
  refine zt_iconst (pc' := 1350) hX dX12_init_1349 rfl ?_
  refine zt_bipush (pc' := 1352) hX dX12_init_1350 rfl (by decide) (by decide) ?_
  refine zt_cast (pc' := 1353) hX dX12_init_1352 rfl (by decide) zc_225 zs_107 (by decide) ⟨by decide, by decide⟩ (by decide +kernel) ?_
  rw [show Int.toNat 2 = 2 from rfl]
  generalize h1271 : zset s1265 225 2 105 = s1270
  have q1272 := zq_el h1271 q1267 (by decide) (by decide) zc_225 zs_107 (show 0 ≤ (105 : Int) ∧ (105 : Int) ≤ 65535 from ⟨by decide, by decide⟩) (by decide) (by decide)
  have f1273 : s1270 225 0 = 119 := by rw [← h1271]; exact (zset_j (by decide)).trans f1268
  have f1274 : s1270 225 1 = 101 := by rw [← h1271]; exact (zset_j (by decide)).trans f1269
  have f1275 : s1270 225 2 = 105 := by rw [← h1271]; exact zset_s
  clear f1268 f1269
  clear h1271 q1267
  refine zt_dup (pc' := 1354) hX dX12_init_1353 rfl rfl ?_
  refine zt_iconst (pc' := 1355) hX dX12_init_1354 rfl ?_
  refine zt_bipush (pc' := 1357) hX dX12_init_1355 rfl (by decide) (by decide) ?_
  refine zt_cast (pc' := 1358) hX dX12_init_1357 rfl (by decide) zc_225 zs_107 (by decide) ⟨by decide, by decide⟩ (by decide +kernel) ?_
  rw [show Int.toNat 3 = 3 from rfl]
  generalize h1277 : zset s1270 225 3 103 = s1276
  have q1278 := zq_el h1277 q1272 (by decide) (by decide) zc_225 zs_107 (show 0 ≤ (103 : Int) ∧ (103 : Int) ≤ 65535 from ⟨by decide, by decide⟩) (by decide) (by decide)
  have f1279 : s1276 225 0 = 119 := by rw [← h1277]; exact (zset_j (by decide)).trans f1273
  have f1280 : s1276 225 1 = 101 := by rw [← h1277]; exact (zset_j (by decide)).trans f1274
  have f1281 : s1276 225 2 = 105 := by rw [← h1277]; exact (zset_j (by decide)).trans f1275
  have f1282 : s1276 225 3 = 103 := by rw [← h1277]; exact zset_s
  clear f1273 f1274 f1275
  clear h1277 q1272
  refine zt_dup (pc' := 1359) hX dX12_init_1358 rfl rfl ?_
  refine zt_iconst (pc' := 1360) hX dX12_init_1359 rfl ?_
  refine zt_bipush (pc' := 1362) hX dX12_init_1360 rfl (by decide) (by decide) ?_
  refine zt_cast (pc' := 1363) hX dX12_init_1362 rfl (by decide) zc_225 zs_107 (by decide) ⟨by decide, by decide⟩ (by decide +kernel) ?_
  rw [show Int.toNat 4 = 4 from rfl]
  generalize h1284 : zset s1276 225 4 104 = s1283
  have q1285 := zq_el h1284 q1278 (by decide) (by decide) zc_225 zs_107 (show 0 ≤ (104 : Int) ∧ (104 : Int) ≤ 65535 from ⟨by decide, by decide⟩) (by decide) (by decide)
  have f1286 : s1283 225 0 = 119 := by rw [← h1284]; exact (zset_j (by decide)).trans f1279
  have f1287 : s1283 225 1 = 101 := by rw [← h1284]; exact (zset_j (by decide)).trans f1280
  have f1288 : s1283 225 2 = 105 := by rw [← h1284]; exact (zset_j (by decide)).trans f1281
  have f1289 : s1283 225 3 = 103 := by rw [← h1284]; exact (zset_j (by decide)).trans f1282
  have f1290 : s1283 225 4 = 104 := by rw [← h1284]; exact zset_s
  clear f1279 f1280 f1281 f1282
  clear h1284 q1278
  refine zt_dup (pc' := 1364) hX dX12_init_1363 rfl rfl ?_
  refine zt_iconst (pc' := 1365) hX dX12_init_1364 rfl ?_
  refine zt_bipush (pc' := 1367) hX dX12_init_1365 rfl (by decide) (by decide) ?_
  refine zt_cast (pc' := 1368) hX dX12_init_1367 rfl (by decide) zc_225 zs_107 (by decide) ⟨by decide, by decide⟩ (by decide +kernel) ?_
  rw [show Int.toNat 5 = 5 from rfl]
  generalize h1292 : zset s1283 225 5 116 = s1291
  have q1293 := zq_el h1292 q1285 (by decide) (by decide) zc_225 zs_107 (show 0 ≤ (116 : Int) ∧ (116 : Int) ≤ 65535 from ⟨by decide, by decide⟩) (by decide) (by decide)
  have f1294 : s1291 225 0 = 119 := by rw [← h1292]; exact (zset_j (by decide)).trans f1286
  have f1295 : s1291 225 1 = 101 := by rw [← h1292]; exact (zset_j (by decide)).trans f1287
  have f1296 : s1291 225 2 = 105 := by rw [← h1292]; exact (zset_j (by decide)).trans f1288
  have f1297 : s1291 225 3 = 103 := by rw [← h1292]; exact (zset_j (by decide)).trans f1289
  have f1298 : s1291 225 4 = 104 := by rw [← h1292]; exact (zset_j (by decide)).trans f1290
  have f1299 : s1291 225 5 = 116 := by rw [← h1292]; exact zset_s
  clear f1286 f1287 f1288 f1289 f1290
  clear h1292 q1285
  have q1300 := zq_row (d := 226) (k := 225) (L := [119, 101, 105, 103, 104, 116]) q1293 (by decide) (fun j hj => by have hj : j < 6 := hj; rcases (show j = 0 ∨ j = 1 ∨ j = 2 ∨ j = 3 ∨ j = 4 ∨ j = 5 by omega) with rfl | rfl | rfl | rfl | rfl | rfl; exact f1294; exact f1295; exact f1296; exact f1297; exact f1298; exact f1299)
  clear f1294 f1295 f1296 f1297 f1298 f1299 q1293
  refine zt_putF (pc' := 1371) (x := ((225 : Nat) : Int)) hX dX12_init_1368 rfl hN.1 zf_X12_204 (by decide) zc_164 zs_46 (fun q hq => by cases hq; exact ⟨rfl, rfl⟩) (zrf_of rfl) rfl rfl ?_
  generalize h1302 : zset s1291 164 87 ((225 : Nat) : Int) = s1301
  have q1303 := zq_ref (m' := 88) (g := 0) h1302 q1300 rfl (by decide) rfl (by decide) rfl (by decide)
  clear h1302 q1300
  refine zt_aload_n (pc' := 1372) hX dX12_init_1371 rfl rfl ?_
  refine zt_iconst (pc' := 1373) hX dX12_init_1372 rfl ?_
  refine zt_newaL (pc' := 1375) (t := 3) (N := 5) (n' := 227) (cs' := 62) (ss' := 11271) hX dX12_init_1373 rfl zw_10_19 rfl (by decide) (by decide) zc_226 zs_108 (by decide) (by decide) (zCs_nx q1303.1) rfl rfl rfl ⟨by rw [hN.2.1]; exact Nat.le_of_ble_eq_true rfl, by rw [hN.2.2]; exact Nat.le_of_ble_eq_true rfl⟩ ?_
  have q1304 := zq_arr (n' := 227) q1303 zc_226 zs_108 (by decide) rfl
  clear q1303
  refine zt_dup (pc' := 1376) hX dX12_init_1375 rfl rfl ?_
  refine zt_iconst (pc' := 1377) hX dX12_init_1376 rfl ?_
  refine zt_bipush (pc' := 1379) hX dX12_init_1377 rfl (by decide) (by decide) ?_
  refine zt_cast (pc' := 1380) hX dX12_init_1379 rfl (by decide) zc_226 zs_108 (by decide) ⟨by decide, by decide⟩ (by decide +kernel) ?_
  rw [show Int.toNat 0 = 0 from rfl]
  generalize h1306 : zset s1301 226 0 108 = s1305
  have q1307 := zq_el h1306 q1304 (by decide) (by decide) zc_226 zs_108 (show 0 ≤ (108 : Int) ∧ (108 : Int) ≤ 65535 from ⟨by decide, by decide⟩) (by decide) (by decide)
  have f1308 : s1305 226 0 = 108 := by rw [← h1306]; exact zset_s
  clear h1306 q1304
  refine zt_dup (pc' := 1381) hX dX12_init_1380 rfl rfl ?_
  refine zt_iconst (pc' := 1382) hX dX12_init_1381 rfl ?_
  refine zt_bipush (pc' := 1384) hX dX12_init_1382 rfl (by decide) (by decide) ?_
  refine zt_cast (pc' := 1385) hX dX12_init_1384 rfl (by decide) zc_226 zs_108 (by decide) ⟨by decide, by decide⟩ (by decide +kernel) ?_
  rw [show Int.toNat 1 = 1 from rfl]
  generalize h1310 : zset s1305 226 1 105 = s1309
  have q1311 := zq_el h1310 q1307 (by decide) (by decide) zc_226 zs_108 (show 0 ≤ (105 : Int) ∧ (105 : Int) ≤ 65535 from ⟨by decide, by decide⟩) (by decide) (by decide)
  have f1312 : s1309 226 0 = 108 := by rw [← h1310]; exact (zset_j (by decide)).trans f1308
  have f1313 : s1309 226 1 = 105 := by rw [← h1310]; exact zset_s
  clear f1308
  clear h1310 q1307
  refine zt_dup (pc' := 1386) hX dX12_init_1385 rfl rfl ?_
  refine zt_iconst (pc' := 1387) hX dX12_init_1386 rfl ?_
  refine zt_bipush (pc' := 1389) hX dX12_init_1387 rfl (by decide) (by decide) ?_
  refine zt_cast (pc' := 1390) hX dX12_init_1389 rfl (by decide) zc_226 zs_108 (by decide) ⟨by decide, by decide⟩ (by decide +kernel) ?_
  rw [show Int.toNat 2 = 2 from rfl]
  generalize h1315 : zset s1309 226 2 102 = s1314
  have q1316 := zq_el h1315 q1311 (by decide) (by decide) zc_226 zs_108 (show 0 ≤ (102 : Int) ∧ (102 : Int) ≤ 65535 from ⟨by decide, by decide⟩) (by decide) (by decide)
  have f1317 : s1314 226 0 = 108 := by rw [← h1315]; exact (zset_j (by decide)).trans f1312
  have f1318 : s1314 226 1 = 105 := by rw [← h1315]; exact (zset_j (by decide)).trans f1313
  have f1319 : s1314 226 2 = 102 := by rw [← h1315]; exact zset_s
  clear f1312 f1313
  clear h1315 q1311
  refine zt_dup (pc' := 1391) hX dX12_init_1390 rfl rfl ?_
  refine zt_iconst (pc' := 1392) hX dX12_init_1391 rfl ?_
  refine zt_bipush (pc' := 1394) hX dX12_init_1392 rfl (by decide) (by decide) ?_
  refine zt_cast (pc' := 1395) hX dX12_init_1394 rfl (by decide) zc_226 zs_108 (by decide) ⟨by decide, by decide⟩ (by decide +kernel) ?_
  rw [show Int.toNat 3 = 3 from rfl]
  generalize h1321 : zset s1314 226 3 116 = s1320
  have q1322 := zq_el h1321 q1316 (by decide) (by decide) zc_226 zs_108 (show 0 ≤ (116 : Int) ∧ (116 : Int) ≤ 65535 from ⟨by decide, by decide⟩) (by decide) (by decide)
  have f1323 : s1320 226 0 = 108 := by rw [← h1321]; exact (zset_j (by decide)).trans f1317
  have f1324 : s1320 226 1 = 105 := by rw [← h1321]; exact (zset_j (by decide)).trans f1318
  have f1325 : s1320 226 2 = 102 := by rw [← h1321]; exact (zset_j (by decide)).trans f1319
  have f1326 : s1320 226 3 = 116 := by rw [← h1321]; exact zset_s
  clear f1317 f1318 f1319
  clear h1321 q1316
  refine zt_dup (pc' := 1396) hX dX12_init_1395 rfl rfl ?_
  refine zt_iconst (pc' := 1397) hX dX12_init_1396 rfl ?_
  refine zt_bipush (pc' := 1399) hX dX12_init_1397 rfl (by decide) (by decide) ?_
  refine zt_cast (pc' := 1400) hX dX12_init_1399 rfl (by decide) zc_226 zs_108 (by decide) ⟨by decide, by decide⟩ (by decide +kernel) ?_
  rw [show Int.toNat 4 = 4 from rfl]
  generalize h1328 : zset s1320 226 4 115 = s1327
  have q1329 := zq_el h1328 q1322 (by decide) (by decide) zc_226 zs_108 (show 0 ≤ (115 : Int) ∧ (115 : Int) ≤ 65535 from ⟨by decide, by decide⟩) (by decide) (by decide)
  have f1330 : s1327 226 0 = 108 := by rw [← h1328]; exact (zset_j (by decide)).trans f1323
  have f1331 : s1327 226 1 = 105 := by rw [← h1328]; exact (zset_j (by decide)).trans f1324
  have f1332 : s1327 226 2 = 102 := by rw [← h1328]; exact (zset_j (by decide)).trans f1325
  have f1333 : s1327 226 3 = 116 := by rw [← h1328]; exact (zset_j (by decide)).trans f1326
  have f1334 : s1327 226 4 = 115 := by rw [← h1328]; exact zset_s
  clear f1323 f1324 f1325 f1326
  clear h1328 q1322
  have q1335 := zq_row (d := 227) (k := 226) (L := [108, 105, 102, 116, 115]) q1329 (by decide) (fun j hj => by have hj : j < 5 := hj; rcases (show j = 0 ∨ j = 1 ∨ j = 2 ∨ j = 3 ∨ j = 4 by omega) with rfl | rfl | rfl | rfl | rfl; exact f1330; exact f1331; exact f1332; exact f1333; exact f1334)
  clear f1330 f1331 f1332 f1333 f1334 q1329
  refine zt_putF (pc' := 1403) (x := ((226 : Nat) : Int)) hX dX12_init_1400 rfl hN.1 zf_X12_207 (by decide) zc_164 zs_46 (fun q hq => by cases hq; exact ⟨rfl, rfl⟩) (zrf_of rfl) rfl rfl ?_
  generalize h1337 : zset s1327 164 88 ((226 : Nat) : Int) = s1336
  have q1338 := zq_ref (m' := 89) (g := 0) h1337 q1335 rfl (by decide) rfl (by decide) rfl (by decide)
  clear h1337 q1335
  exact K s1336 q1338

set_option maxRecDepth 100000 in
set_option maxHeartbeats 4000000 in
theorem zxm_10 {X : zCX} {σ s : zSto} (hX : zok X cX12_init RX12 1) (hN : X.2.2.2.2.2.2.2.2.2.1.name = yX12_init.name ∧ X.2.2.2.2.1.cells = 73 ∧ X.2.2.2.2.1.slots = 16482) (q : zQm (-1) (-1) (-1) 227 σ s 89 227) (K : ∀ s' : zSto, zQm (-1) (-1) (-1) 231 σ s' 93 231 → zZ X 231 66 11292 s' 1538 [some (.ref (X.1.1 + 164))] []) : zZ X 227 62 11271 s 1403 [some (.ref (X.1.1 + 164))] [] := by
  refine zt_aload_n (pc' := 1404) hX dX12_init_1403 rfl rfl ?_
  refine zt_iconst (pc' := 1405) hX dX12_init_1404 rfl ?_
  refine zt_newaL (pc' := 1407) (t := 3) (N := 5) (n' := 228) (cs' := 63) (ss' := 11276) hX dX12_init_1405 rfl zw_10_19 rfl (by decide) (by decide) zc_227 zs_109 (by decide) (by decide) (zCs_nx q.1) rfl rfl rfl ⟨by rw [hN.2.1]; exact Nat.le_of_ble_eq_true rfl, by rw [hN.2.2]; exact Nat.le_of_ble_eq_true rfl⟩ ?_
  have q1339 := zq_arr (n' := 228) q zc_227 zs_109 (by decide) rfl
  refine zt_dup (pc' := 1408) hX dX12_init_1407 rfl rfl ?_
  refine zt_iconst (pc' := 1409) hX dX12_init_1408 rfl ?_
  refine zt_bipush (pc' := 1411) hX dX12_init_1409 rfl (by decide) (by decide) ?_
  refine zt_cast (pc' := 1412) hX dX12_init_1411 rfl (by decide) zc_227 zs_109 (by decide) ⟨by decide, by decide⟩ (by decide +kernel) ?_
  rw [show Int.toNat 0 = 0 from rfl]
  generalize h1341 : zset s 227 0 116 = s1340
  have q1342 := zq_el h1341 q1339 (by decide) (by decide) zc_227 zs_109 (show 0 ≤ (116 : Int) ∧ (116 : Int) ≤ 65535 from ⟨by decide, by decide⟩) (by decide) (by decide)
  have f1343 : s1340 227 0 = 116 := by rw [← h1341]; exact zset_s
  clear h1341 q1339
  refine zt_dup (pc' := 1413) hX dX12_init_1412 rfl rfl ?_
  refine zt_iconst (pc' := 1414) hX dX12_init_1413 rfl ?_
  refine zt_bipush (pc' := 1416) hX dX12_init_1414 rfl (by decide) (by decide) ?_
  refine zt_cast (pc' := 1417) hX dX12_init_1416 rfl (by decide) zc_227 zs_109 (by decide) ⟨by decide, by decide⟩ (by decide +kernel) ?_
  rw [show Int.toNat 1 = 1 from rfl]
  generalize h1345 : zset s1340 227 1 105 = s1344
  have q1346 := zq_el h1345 q1342 (by decide) (by decide) zc_227 zs_109 (show 0 ≤ (105 : Int) ∧ (105 : Int) ≤ 65535 from ⟨by decide, by decide⟩) (by decide) (by decide)
  have f1347 : s1344 227 0 = 116 := by rw [← h1345]; exact (zset_j (by decide)).trans f1343
  have f1348 : s1344 227 1 = 105 := by rw [← h1345]; exact zset_s
  clear f1343
  clear h1345 q1342
  refine zt_dup (pc' := 1418) hX dX12_init_1417 rfl rfl ?_
  refine zt_iconst (pc' := 1419) hX dX12_init_1418 rfl ?_
  refine zt_bipush (pc' := 1421) hX dX12_init_1419 rfl (by decide) (by decide) ?_
  refine zt_cast (pc' := 1422) hX dX12_init_1421 rfl (by decide) zc_227 zs_109 (by decide) ⟨by decide, by decide⟩ (by decide +kernel) ?_
  rw [show Int.toNat 2 = 2 from rfl]
  generalize h1350 : zset s1344 227 2 114 = s1349
  have q1351 := zq_el h1350 q1346 (by decide) (by decide) zc_227 zs_109 (show 0 ≤ (114 : Int) ∧ (114 : Int) ≤ 65535 from ⟨by decide, by decide⟩) (by decide) (by decide)
  have f1352 : s1349 227 0 = 116 := by rw [← h1350]; exact (zset_j (by decide)).trans f1347
  have f1353 : s1349 227 1 = 105 := by rw [← h1350]; exact (zset_j (by decide)).trans f1348
  have f1354 : s1349 227 2 = 114 := by rw [← h1350]; exact zset_s
  clear f1347 f1348
  clear h1350 q1346
  refine zt_dup (pc' := 1423) hX dX12_init_1422 rfl rfl ?_
  refine zt_iconst (pc' := 1424) hX dX12_init_1423 rfl ?_
  refine zt_bipush (pc' := 1426) hX dX12_init_1424 rfl (by decide) (by decide) ?_
  refine zt_cast (pc' := 1427) hX dX12_init_1426 rfl (by decide) zc_227 zs_109 (by decide) ⟨by decide, by decide⟩ (by decide +kernel) ?_
  rw [show Int.toNat 3 = 3 from rfl]
  generalize h1356 : zset s1349 227 3 101 = s1355
  have q1357 := zq_el h1356 q1351 (by decide) (by decide) zc_227 zs_109 (show 0 ≤ (101 : Int) ∧ (101 : Int) ≤ 65535 from ⟨by decide, by decide⟩) (by decide) (by decide)
  have f1358 : s1355 227 0 = 116 := by rw [← h1356]; exact (zset_j (by decide)).trans f1352
  have f1359 : s1355 227 1 = 105 := by rw [← h1356]; exact (zset_j (by decide)).trans f1353
  have f1360 : s1355 227 2 = 114 := by rw [← h1356]; exact (zset_j (by decide)).trans f1354
  have f1361 : s1355 227 3 = 101 := by rw [← h1356]; exact zset_s
  clear f1352 f1353 f1354
  clear h1356 q1351
  refine zt_dup (pc' := 1428) hX dX12_init_1427 rfl rfl ?_
  refine zt_iconst (pc' := 1429) hX dX12_init_1428 rfl ?_
  refine zt_bipush (pc' := 1431) hX dX12_init_1429 rfl (by decide) (by decide) ?_
  refine zt_cast (pc' := 1432) hX dX12_init_1431 rfl (by decide) zc_227 zs_109 (by decide) ⟨by decide, by decide⟩ (by decide +kernel) ?_
  rw [show Int.toNat 4 = 4 from rfl]
  generalize h1363 : zset s1355 227 4 100 = s1362
  have q1364 := zq_el h1363 q1357 (by decide) (by decide) zc_227 zs_109 (show 0 ≤ (100 : Int) ∧ (100 : Int) ≤ 65535 from ⟨by decide, by decide⟩) (by decide) (by decide)
  have f1365 : s1362 227 0 = 116 := by rw [← h1363]; exact (zset_j (by decide)).trans f1358
  have f1366 : s1362 227 1 = 105 := by rw [← h1363]; exact (zset_j (by decide)).trans f1359
  have f1367 : s1362 227 2 = 114 := by rw [← h1363]; exact (zset_j (by decide)).trans f1360
  have f1368 : s1362 227 3 = 101 := by rw [← h1363]; exact (zset_j (by decide)).trans f1361
  have f1369 : s1362 227 4 = 100 := by rw [← h1363]; exact zset_s
  clear f1358 f1359 f1360 f1361
  clear h1363 q1357
  have q1370 := zq_row (d := 228) (k := 227) (L := [116, 105, 114, 101, 100]) q1364 (by decide) (fun j hj => by have hj : j < 5 := hj; rcases (show j = 0 ∨ j = 1 ∨ j = 2 ∨ j = 3 ∨ j = 4 by omega) with rfl | rfl | rfl | rfl | rfl; exact f1365; exact f1366; exact f1367; exact f1368; exact f1369)
  clear f1365 f1366 f1367 f1368 f1369 q1364
  refine zt_putF (pc' := 1435) (x := ((227 : Nat) : Int)) hX dX12_init_1432 rfl hN.1 zf_X12_210 (by decide) zc_164 zs_46 (fun q hq => by cases hq; exact ⟨rfl, rfl⟩) (zrf_of rfl) rfl rfl ?_
  generalize h1372 : zset s1362 164 89 ((227 : Nat) : Int) = s1371
  have q1373 := zq_ref (m' := 90) (g := 0) h1372 q1370 rfl (by decide) rfl (by decide) rfl (by decide)
  clear h1372 q1370
  refine zt_aload_n (pc' := 1436) hX dX12_init_1435 rfl rfl ?_
  refine zt_iconst (pc' := 1437) hX dX12_init_1436 rfl ?_
  refine zt_newaL (pc' := 1439) (t := 3) (N := 4) (n' := 229) (cs' := 64) (ss' := 11280) hX dX12_init_1437 rfl zw_10_19 rfl (by decide) (by decide) zc_228 zs_110 (by decide) (by decide) (zCs_nx q1373.1) rfl rfl rfl ⟨by rw [hN.2.1]; exact Nat.le_of_ble_eq_true rfl, by rw [hN.2.2]; exact Nat.le_of_ble_eq_true rfl⟩ ?_
  have q1374 := zq_arr (n' := 229) q1373 zc_228 zs_110 (by decide) rfl
  clear q1373
  refine zt_dup (pc' := 1440) hX dX12_init_1439 rfl rfl ?_
  refine zt_iconst (pc' := 1441) hX dX12_init_1440 rfl ?_
  refine zt_bipush (pc' := 1443) hX dX12_init_1441 rfl (by decide) (by decide) ?_
  refine zt_cast (pc' := 1444) hX dX12_init_1443 rfl (by decide) zc_228 zs_110 (by decide) ⟨by decide, by decide⟩ (by decide +kernel) ?_
  rw [show Int.toNat 0 = 0 from rfl]
  generalize h1376 : zset s1371 228 0 110 = s1375
  have q1377 := zq_el h1376 q1374 (by decide) (by decide) zc_228 zs_110 (show 0 ≤ (110 : Int) ∧ (110 : Int) ≤ 65535 from ⟨by decide, by decide⟩) (by decide) (by decide)
  have f1378 : s1375 228 0 = 110 := by rw [← h1376]; exact zset_s
  clear h1376 q1374
  refine zt_dup (pc' := 1445) hX dX12_init_1444 rfl rfl ?_
  refine zt_iconst (pc' := 1446) hX dX12_init_1445 rfl ?_
  refine zt_bipush (pc' := 1448) hX dX12_init_1446 rfl (by decide) (by decide) ?_
  refine zt_cast (pc' := 1449) hX dX12_init_1448 rfl (by decide) zc_228 zs_110 (by decide) ⟨by decide, by decide⟩ (by decide +kernel) ?_
  rw [show Int.toNat 1 = 1 from rfl]
  generalize h1380 : zset s1375 228 1 101 = s1379
  have q1381 := zq_el h1380 q1377 (by decide) (by decide) zc_228 zs_110 (show 0 ≤ (101 : Int) ∧ (101 : Int) ≤ 65535 from ⟨by decide, by decide⟩) (by decide) (by decide)
  have f1382 : s1379 228 0 = 110 := by rw [← h1380]; exact (zset_j (by decide)).trans f1378
  have f1383 : s1379 228 1 = 101 := by rw [← h1380]; exact zset_s
  clear f1378
  clear h1380 q1377
  refine zt_dup (pc' := 1450) hX dX12_init_1449 rfl rfl ?_
  refine zt_iconst (pc' := 1451) hX dX12_init_1450 rfl ?_
  refine zt_bipush (pc' := 1453) hX dX12_init_1451 rfl (by decide) (by decide) ?_
  refine zt_cast (pc' := 1454) hX dX12_init_1453 rfl (by decide) zc_228 zs_110 (by decide) ⟨by decide, by decide⟩ (by decide +kernel) ?_
  rw [show Int.toNat 2 = 2 from rfl]
  generalize h1385 : zset s1379 228 2 97 = s1384
  have q1386 := zq_el h1385 q1381 (by decide) (by decide) zc_228 zs_110 (show 0 ≤ (97 : Int) ∧ (97 : Int) ≤ 65535 from ⟨by decide, by decide⟩) (by decide) (by decide)
  have f1387 : s1384 228 0 = 110 := by rw [← h1385]; exact (zset_j (by decide)).trans f1382
  have f1388 : s1384 228 1 = 101 := by rw [← h1385]; exact (zset_j (by decide)).trans f1383
  have f1389 : s1384 228 2 = 97 := by rw [← h1385]; exact zset_s
  clear f1382 f1383
  clear h1385 q1381
  refine zt_dup (pc' := 1455) hX dX12_init_1454 rfl rfl ?_
  refine zt_iconst (pc' := 1456) hX dX12_init_1455 rfl ?_
  refine zt_bipush (pc' := 1458) hX dX12_init_1456 rfl (by decide) (by decide) ?_
  refine zt_cast (pc' := 1459) hX dX12_init_1458 rfl (by decide) zc_228 zs_110 (by decide) ⟨by decide, by decide⟩ (by decide +kernel) ?_
  rw [show Int.toNat 3 = 3 from rfl]
  generalize h1391 : zset s1384 228 3 114 = s1390
  have q1392 := zq_el h1391 q1386 (by decide) (by decide) zc_228 zs_110 (show 0 ≤ (114 : Int) ∧ (114 : Int) ≤ 65535 from ⟨by decide, by decide⟩) (by decide) (by decide)
  have f1393 : s1390 228 0 = 110 := by rw [← h1391]; exact (zset_j (by decide)).trans f1387
  have f1394 : s1390 228 1 = 101 := by rw [← h1391]; exact (zset_j (by decide)).trans f1388
  have f1395 : s1390 228 2 = 97 := by rw [← h1391]; exact (zset_j (by decide)).trans f1389
  have f1396 : s1390 228 3 = 114 := by rw [← h1391]; exact zset_s
  clear f1387 f1388 f1389
  clear h1391 q1386
  have q1397 := zq_row (d := 229) (k := 228) (L := [110, 101, 97, 114]) q1392 (by decide) (fun j hj => by have hj : j < 4 := hj; rcases (show j = 0 ∨ j = 1 ∨ j = 2 ∨ j = 3 by omega) with rfl | rfl | rfl | rfl; exact f1393; exact f1394; exact f1395; exact f1396)
  clear f1393 f1394 f1395 f1396 q1392
  refine zt_putF (pc' := 1462) (x := ((228 : Nat) : Int)) hX dX12_init_1459 rfl hN.1 zf_X12_213 (by decide) zc_164 zs_46 (fun q hq => by cases hq; exact ⟨rfl, rfl⟩) (zrf_of rfl) rfl rfl ?_
  generalize h1399 : zset s1390 164 90 ((228 : Nat) : Int) = s1398
  have q1400 := zq_ref (m' := 91) (g := 0) h1399 q1397 rfl (by decide) rfl (by decide) rfl (by decide)
  clear h1399 q1397
  refine zt_aload_n (pc' := 1463) hX dX12_init_1462 rfl rfl ?_
  refine zt_bipush (pc' := 1465) hX dX12_init_1463 rfl (by decide) (by decide) ?_
  refine zt_newaL (pc' := 1467) (t := 3) (N := 6) (n' := 230) (cs' := 65) (ss' := 11286) hX dX12_init_1465 rfl zw_10_19 rfl (by decide) (by decide) zc_229 zs_111 (by decide) (by decide) (zCs_nx q1400.1) rfl rfl rfl ⟨by rw [hN.2.1]; exact Nat.le_of_ble_eq_true rfl, by rw [hN.2.2]; exact Nat.le_of_ble_eq_true rfl⟩ ?_
  have q1401 := zq_arr (n' := 230) q1400 zc_229 zs_111 (by decide) rfl
  clear q1400
  refine zt_dup (pc' := 1468) hX dX12_init_1467 rfl rfl ?_
  refine zt_iconst (pc' := 1469) hX dX12_init_1468 rfl ?_
  refine zt_bipush (pc' := 1471) hX dX12_init_1469 rfl (by decide) (by decide) ?_
  refine zt_cast (pc' := 1472) hX dX12_init_1471 rfl (by decide) zc_229 zs_111 (by decide) ⟨by decide, by decide⟩ (by decide +kernel) ?_
  rw [show Int.toNat 0 = 0 from rfl]
  generalize h1403 : zset s1398 229 0 110 = s1402
  have q1404 := zq_el h1403 q1401 (by decide) (by decide) zc_229 zs_111 (show 0 ≤ (110 : Int) ∧ (110 : Int) ≤ 65535 from ⟨by decide, by decide⟩) (by decide) (by decide)
  have f1405 : s1402 229 0 = 110 := by rw [← h1403]; exact zset_s
  clear h1403 q1401
  refine zt_dup (pc' := 1473) hX dX12_init_1472 rfl rfl ?_
  refine zt_iconst (pc' := 1474) hX dX12_init_1473 rfl ?_
  refine zt_bipush (pc' := 1476) hX dX12_init_1474 rfl (by decide) (by decide) ?_
  refine zt_cast (pc' := 1477) hX dX12_init_1476 rfl (by decide) zc_229 zs_111 (by decide) ⟨by decide, by decide⟩ (by decide +kernel) ?_
  rw [show Int.toNat 1 = 1 from rfl]
  generalize h1407 : zset s1402 229 1 117 = s1406
  have q1408 := zq_el h1407 q1404 (by decide) (by decide) zc_229 zs_111 (show 0 ≤ (117 : Int) ∧ (117 : Int) ≤ 65535 from ⟨by decide, by decide⟩) (by decide) (by decide)
  have f1409 : s1406 229 0 = 110 := by rw [← h1407]; exact (zset_j (by decide)).trans f1405
  have f1410 : s1406 229 1 = 117 := by rw [← h1407]; exact zset_s
  clear f1405
  clear h1407 q1404
  refine zt_dup (pc' := 1478) hX dX12_init_1477 rfl rfl ?_
  refine zt_iconst (pc' := 1479) hX dX12_init_1478 rfl ?_
  refine zt_bipush (pc' := 1481) hX dX12_init_1479 rfl (by decide) (by decide) ?_
  refine zt_cast (pc' := 1482) hX dX12_init_1481 rfl (by decide) zc_229 zs_111 (by decide) ⟨by decide, by decide⟩ (by decide +kernel) ?_
  rw [show Int.toNat 2 = 2 from rfl]
  generalize h1412 : zset s1406 229 2 109 = s1411
  have q1413 := zq_el h1412 q1408 (by decide) (by decide) zc_229 zs_111 (show 0 ≤ (109 : Int) ∧ (109 : Int) ≤ 65535 from ⟨by decide, by decide⟩) (by decide) (by decide)
  have f1414 : s1411 229 0 = 110 := by rw [← h1412]; exact (zset_j (by decide)).trans f1409
  have f1415 : s1411 229 1 = 117 := by rw [← h1412]; exact (zset_j (by decide)).trans f1410
  have f1416 : s1411 229 2 = 109 := by rw [← h1412]; exact zset_s
  clear f1409 f1410
  clear h1412 q1408
  refine zt_dup (pc' := 1483) hX dX12_init_1482 rfl rfl ?_
  refine zt_iconst (pc' := 1484) hX dX12_init_1483 rfl ?_
  refine zt_bipush (pc' := 1486) hX dX12_init_1484 rfl (by decide) (by decide) ?_
  refine zt_cast (pc' := 1487) hX dX12_init_1486 rfl (by decide) zc_229 zs_111 (by decide) ⟨by decide, by decide⟩ (by decide +kernel) ?_
  rw [show Int.toNat 3 = 3 from rfl]
  generalize h1418 : zset s1411 229 3 98 = s1417
  have q1419 := zq_el h1418 q1413 (by decide) (by decide) zc_229 zs_111 (show 0 ≤ (98 : Int) ∧ (98 : Int) ≤ 65535 from ⟨by decide, by decide⟩) (by decide) (by decide)
  have f1420 : s1417 229 0 = 110 := by rw [← h1418]; exact (zset_j (by decide)).trans f1414
  have f1421 : s1417 229 1 = 117 := by rw [← h1418]; exact (zset_j (by decide)).trans f1415
  have f1422 : s1417 229 2 = 109 := by rw [← h1418]; exact (zset_j (by decide)).trans f1416
  have f1423 : s1417 229 3 = 98 := by rw [← h1418]; exact zset_s
  clear f1414 f1415 f1416
  clear h1418 q1413
  refine zt_dup (pc' := 1488) hX dX12_init_1487 rfl rfl ?_
  refine zt_iconst (pc' := 1489) hX dX12_init_1488 rfl ?_
  refine zt_bipush (pc' := 1491) hX dX12_init_1489 rfl (by decide) (by decide) ?_
  refine zt_cast (pc' := 1492) hX dX12_init_1491 rfl (by decide) zc_229 zs_111 (by decide) ⟨by decide, by decide⟩ (by decide +kernel) ?_
  rw [show Int.toNat 4 = 4 from rfl]
  generalize h1425 : zset s1417 229 4 101 = s1424
  have q1426 := zq_el h1425 q1419 (by decide) (by decide) zc_229 zs_111 (show 0 ≤ (101 : Int) ∧ (101 : Int) ≤ 65535 from ⟨by decide, by decide⟩) (by decide) (by decide)
  have f1427 : s1424 229 0 = 110 := by rw [← h1425]; exact (zset_j (by decide)).trans f1420
  have f1428 : s1424 229 1 = 117 := by rw [← h1425]; exact (zset_j (by decide)).trans f1421
  have f1429 : s1424 229 2 = 109 := by rw [← h1425]; exact (zset_j (by decide)).trans f1422
  have f1430 : s1424 229 3 = 98 := by rw [← h1425]; exact (zset_j (by decide)).trans f1423
  have f1431 : s1424 229 4 = 101 := by rw [← h1425]; exact zset_s
  clear f1420 f1421 f1422 f1423
  clear h1425 q1419
  refine zt_dup (pc' := 1493) hX dX12_init_1492 rfl rfl ?_
  refine zt_iconst (pc' := 1494) hX dX12_init_1493 rfl ?_
  refine zt_bipush (pc' := 1496) hX dX12_init_1494 rfl (by decide) (by decide) ?_
  refine zt_cast (pc' := 1497) hX dX12_init_1496 rfl (by decide) zc_229 zs_111 (by decide) ⟨by decide, by decide⟩ (by decide +kernel) ?_
  rw [show Int.toNat 5 = 5 from rfl]
  generalize h1433 : zset s1424 229 5 114 = s1432
  have q1434 := zq_el h1433 q1426 (by decide) (by decide) zc_229 zs_111 (show 0 ≤ (114 : Int) ∧ (114 : Int) ≤ 65535 from ⟨by decide, by decide⟩) (by decide) (by decide)
  have f1435 : s1432 229 0 = 110 := by rw [← h1433]; exact (zset_j (by decide)).trans f1427
  have f1436 : s1432 229 1 = 117 := by rw [← h1433]; exact (zset_j (by decide)).trans f1428
  have f1437 : s1432 229 2 = 109 := by rw [← h1433]; exact (zset_j (by decide)).trans f1429
  have f1438 : s1432 229 3 = 98 := by rw [← h1433]; exact (zset_j (by decide)).trans f1430
  have f1439 : s1432 229 4 = 101 := by rw [← h1433]; exact (zset_j (by decide)).trans f1431
  have f1440 : s1432 229 5 = 114 := by rw [← h1433]; exact zset_s
  clear f1427 f1428 f1429 f1430 f1431
  clear h1433 q1426
  have q1441 := zq_row (d := 230) (k := 229) (L := [110, 117, 109, 98, 101, 114]) q1434 (by decide) (fun j hj => by have hj : j < 6 := hj; rcases (show j = 0 ∨ j = 1 ∨ j = 2 ∨ j = 3 ∨ j = 4 ∨ j = 5 by omega) with rfl | rfl | rfl | rfl | rfl | rfl; exact f1435; exact f1436; exact f1437; exact f1438; exact f1439; exact f1440)
  clear f1435 f1436 f1437 f1438 f1439 f1440 q1434
  refine zt_putF (pc' := 1500) (x := ((229 : Nat) : Int)) hX dX12_init_1497 rfl hN.1 zf_X12_216 (by decide) zc_164 zs_46 (fun q hq => by cases hq; exact ⟨rfl, rfl⟩) (zrf_of rfl) rfl rfl ?_
  generalize h1443 : zset s1432 164 91 ((229 : Nat) : Int) = s1442
  have q1444 := zq_ref (m' := 92) (g := 0) h1443 q1441 rfl (by decide) rfl (by decide) rfl (by decide)
  clear h1443 q1441
  refine zt_aload_n (pc' := 1501) hX dX12_init_1500 rfl rfl ?_
  refine zt_bipush (pc' := 1503) hX dX12_init_1501 rfl (by decide) (by decide) ?_
  refine zt_newaL (pc' := 1505) (t := 3) (N := 6) (n' := 231) (cs' := 66) (ss' := 11292) hX dX12_init_1503 rfl zw_10_19 rfl (by decide) (by decide) zc_230 zs_112 (by decide) (by decide) (zCs_nx q1444.1) rfl rfl rfl ⟨by rw [hN.2.1]; exact Nat.le_of_ble_eq_true rfl, by rw [hN.2.2]; exact Nat.le_of_ble_eq_true rfl⟩ ?_
  have q1445 := zq_arr (n' := 231) q1444 zc_230 zs_112 (by decide) rfl
  clear q1444
  refine zt_dup (pc' := 1506) hX dX12_init_1505 rfl rfl ?_
  refine zt_iconst (pc' := 1507) hX dX12_init_1506 rfl ?_
  refine zt_bipush (pc' := 1509) hX dX12_init_1507 rfl (by decide) (by decide) ?_
  refine zt_cast (pc' := 1510) hX dX12_init_1509 rfl (by decide) zc_230 zs_112 (by decide) ⟨by decide, by decide⟩ (by decide +kernel) ?_
  rw [show Int.toNat 0 = 0 from rfl]
  generalize h1447 : zset s1442 230 0 99 = s1446
  have q1448 := zq_el h1447 q1445 (by decide) (by decide) zc_230 zs_112 (show 0 ≤ (99 : Int) ∧ (99 : Int) ≤ 65535 from ⟨by decide, by decide⟩) (by decide) (by decide)
  have f1449 : s1446 230 0 = 99 := by rw [← h1447]; exact zset_s
  clear h1447 q1445
  refine zt_dup (pc' := 1511) hX dX12_init_1510 rfl rfl ?_
  refine zt_iconst (pc' := 1512) hX dX12_init_1511 rfl ?_
  refine zt_bipush (pc' := 1514) hX dX12_init_1512 rfl (by decide) (by decide) ?_
  refine zt_cast (pc' := 1515) hX dX12_init_1514 rfl (by decide) zc_230 zs_112 (by decide) ⟨by decide, by decide⟩ (by decide +kernel) ?_
  rw [show Int.toNat 1 = 1 from rfl]
  generalize h1451 : zset s1446 230 1 111 = s1450
  have q1452 := zq_el h1451 q1448 (by decide) (by decide) zc_230 zs_112 (show 0 ≤ (111 : Int) ∧ (111 : Int) ≤ 65535 from ⟨by decide, by decide⟩) (by decide) (by decide)
  have f1453 : s1450 230 0 = 99 := by rw [← h1451]; exact (zset_j (by decide)).trans f1449
  have f1454 : s1450 230 1 = 111 := by rw [← h1451]; exact zset_s
  clear f1449
  clear h1451 q1448
  refine zt_dup (pc' := 1516) hX dX12_init_1515 rfl rfl ?_
  refine zt_iconst (pc' := 1517) hX dX12_init_1516 rfl ?_
  refine zt_bipush (pc' := 1519) hX dX12_init_1517 rfl (by decide) (by decide) ?_
  refine zt_cast (pc' := 1520) hX dX12_init_1519 rfl (by decide) zc_230 zs_112 (by decide) ⟨by decide, by decide⟩ (by decide +kernel) ?_
  rw [show Int.toNat 2 = 2 from rfl]
  generalize h1456 : zset s1450 230 2 108 = s1455
  have q1457 := zq_el h1456 q1452 (by decide) (by decide) zc_230 zs_112 (show 0 ≤ (108 : Int) ∧ (108 : Int) ≤ 65535 from ⟨by decide, by decide⟩) (by decide) (by decide)
  have f1458 : s1455 230 0 = 99 := by rw [← h1456]; exact (zset_j (by decide)).trans f1453
  have f1459 : s1455 230 1 = 111 := by rw [← h1456]; exact (zset_j (by decide)).trans f1454
  have f1460 : s1455 230 2 = 108 := by rw [← h1456]; exact zset_s
  clear f1453 f1454
  clear h1456 q1452
  refine zt_dup (pc' := 1521) hX dX12_init_1520 rfl rfl ?_
  refine zt_iconst (pc' := 1522) hX dX12_init_1521 rfl ?_
  refine zt_bipush (pc' := 1524) hX dX12_init_1522 rfl (by decide) (by decide) ?_
  refine zt_cast (pc' := 1525) hX dX12_init_1524 rfl (by decide) zc_230 zs_112 (by decide) ⟨by decide, by decide⟩ (by decide +kernel) ?_
  rw [show Int.toNat 3 = 3 from rfl]
  generalize h1462 : zset s1455 230 3 117 = s1461
  have q1463 := zq_el h1462 q1457 (by decide) (by decide) zc_230 zs_112 (show 0 ≤ (117 : Int) ∧ (117 : Int) ≤ 65535 from ⟨by decide, by decide⟩) (by decide) (by decide)
  have f1464 : s1461 230 0 = 99 := by rw [← h1462]; exact (zset_j (by decide)).trans f1458
  have f1465 : s1461 230 1 = 111 := by rw [← h1462]; exact (zset_j (by decide)).trans f1459
  have f1466 : s1461 230 2 = 108 := by rw [← h1462]; exact (zset_j (by decide)).trans f1460
  have f1467 : s1461 230 3 = 117 := by rw [← h1462]; exact zset_s
  clear f1458 f1459 f1460
  clear h1462 q1457
  refine zt_dup (pc' := 1526) hX dX12_init_1525 rfl rfl ?_
  refine zt_iconst (pc' := 1527) hX dX12_init_1526 rfl ?_
  refine zt_bipush (pc' := 1529) hX dX12_init_1527 rfl (by decide) (by decide) ?_
  refine zt_cast (pc' := 1530) hX dX12_init_1529 rfl (by decide) zc_230 zs_112 (by decide) ⟨by decide, by decide⟩ (by decide +kernel) ?_
  rw [show Int.toNat 4 = 4 from rfl]
  generalize h1469 : zset s1461 230 4 109 = s1468
  have q1470 := zq_el h1469 q1463 (by decide) (by decide) zc_230 zs_112 (show 0 ≤ (109 : Int) ∧ (109 : Int) ≤ 65535 from ⟨by decide, by decide⟩) (by decide) (by decide)
  have f1471 : s1468 230 0 = 99 := by rw [← h1469]; exact (zset_j (by decide)).trans f1464
  have f1472 : s1468 230 1 = 111 := by rw [← h1469]; exact (zset_j (by decide)).trans f1465
  have f1473 : s1468 230 2 = 108 := by rw [← h1469]; exact (zset_j (by decide)).trans f1466
  have f1474 : s1468 230 3 = 117 := by rw [← h1469]; exact (zset_j (by decide)).trans f1467
  have f1475 : s1468 230 4 = 109 := by rw [← h1469]; exact zset_s
  clear f1464 f1465 f1466 f1467
  clear h1469 q1463
  refine zt_dup (pc' := 1531) hX dX12_init_1530 rfl rfl ?_
  refine zt_iconst (pc' := 1532) hX dX12_init_1531 rfl ?_
  refine zt_bipush (pc' := 1534) hX dX12_init_1532 rfl (by decide) (by decide) ?_
  refine zt_cast (pc' := 1535) hX dX12_init_1534 rfl (by decide) zc_230 zs_112 (by decide) ⟨by decide, by decide⟩ (by decide +kernel) ?_
  rw [show Int.toNat 5 = 5 from rfl]
  generalize h1477 : zset s1468 230 5 110 = s1476
  have q1478 := zq_el h1477 q1470 (by decide) (by decide) zc_230 zs_112 (show 0 ≤ (110 : Int) ∧ (110 : Int) ≤ 65535 from ⟨by decide, by decide⟩) (by decide) (by decide)
  have f1479 : s1476 230 0 = 99 := by rw [← h1477]; exact (zset_j (by decide)).trans f1471
  have f1480 : s1476 230 1 = 111 := by rw [← h1477]; exact (zset_j (by decide)).trans f1472
  have f1481 : s1476 230 2 = 108 := by rw [← h1477]; exact (zset_j (by decide)).trans f1473
  have f1482 : s1476 230 3 = 117 := by rw [← h1477]; exact (zset_j (by decide)).trans f1474
  have f1483 : s1476 230 4 = 109 := by rw [← h1477]; exact (zset_j (by decide)).trans f1475
  have f1484 : s1476 230 5 = 110 := by rw [← h1477]; exact zset_s
  clear f1471 f1472 f1473 f1474 f1475
  clear h1477 q1470
  have q1485 := zq_row (d := 231) (k := 230) (L := [99, 111, 108, 117, 109, 110]) q1478 (by decide) (fun j hj => by have hj : j < 6 := hj; rcases (show j = 0 ∨ j = 1 ∨ j = 2 ∨ j = 3 ∨ j = 4 ∨ j = 5 by omega) with rfl | rfl | rfl | rfl | rfl | rfl; exact f1479; exact f1480; exact f1481; exact f1482; exact f1483; exact f1484)
  clear f1479 f1480 f1481 f1482 f1483 f1484 q1478
  refine zt_putF (pc' := 1538) (x := ((230 : Nat) : Int)) hX dX12_init_1535 rfl hN.1 zf_X12_219 (by decide) zc_164 zs_46 (fun q hq => by cases hq; exact ⟨rfl, rfl⟩) (zrf_of rfl) rfl rfl ?_
  generalize h1487 : zset s1476 164 92 ((230 : Nat) : Int) = s1486
  have q1488 := zq_ref (m' := 93) (g := 0) h1487 q1485 rfl (by decide) rfl (by decide) rfl (by decide)
  clear h1487 q1485
  exact K s1486 q1488

set_option maxRecDepth 100000 in
set_option maxHeartbeats 4000000 in
theorem zxm_11 {X : zCX} {σ s : zSto} (hX : zok X cX12_init RX12 1) (hN : X.2.2.2.2.2.2.2.2.2.1.name = yX12_init.name ∧ X.2.2.2.2.1.cells = 73 ∧ X.2.2.2.2.1.slots = 16482) (q : zQm (-1) (-1) (-1) 231 σ s 93 231) (K : ∀ s' : zSto, zQm (-1) (-1) (-1) 234 σ s' 107 238 → zZ X 238 73 16482 s' 1649 [some (.ref (X.1.1 + 164))] []) : zZ X 231 66 11292 s 1538 [some (.ref (X.1.1 + 164))] [] := by
  refine zt_aload_n (pc' := 1539) hX dX12_init_1538 rfl rfl ?_
  refine zt_iconst (pc' := 1540) hX dX12_init_1539 rfl ?_
  refine zt_newaL (pc' := 1542) (t := 3) (N := 3) (n' := 232) (cs' := 67) (ss' := 11295) hX dX12_init_1540 rfl zw_10_19 rfl (by decide) (by decide) zc_231 zs_113 (by decide) (by decide) (zCs_nx q.1) rfl rfl rfl ⟨by rw [hN.2.1]; exact Nat.le_of_ble_eq_true rfl, by rw [hN.2.2]; exact Nat.le_of_ble_eq_true rfl⟩ ?_
  have q1489 := zq_arr (n' := 232) q zc_231 zs_113 (by decide) rfl
  refine zt_dup (pc' := 1543) hX dX12_init_1542 rfl rfl ?_
  refine zt_iconst (pc' := 1544) hX dX12_init_1543 rfl ?_
  refine zt_bipush (pc' := 1546) hX dX12_init_1544 rfl (by decide) (by decide) ?_
  refine zt_cast (pc' := 1547) hX dX12_init_1546 rfl (by decide) zc_231 zs_113 (by decide) ⟨by decide, by decide⟩ (by decide +kernel) ?_
  rw [show Int.toNat 0 = 0 from rfl]
  generalize h1491 : zset s 231 0 114 = s1490
  have q1492 := zq_el h1491 q1489 (by decide) (by decide) zc_231 zs_113 (show 0 ≤ (114 : Int) ∧ (114 : Int) ≤ 65535 from ⟨by decide, by decide⟩) (by decide) (by decide)
  have f1493 : s1490 231 0 = 114 := by rw [← h1491]; exact zset_s
  clear h1491 q1489
  refine zt_dup (pc' := 1548) hX dX12_init_1547 rfl rfl ?_
  refine zt_iconst (pc' := 1549) hX dX12_init_1548 rfl ?_
  refine zt_bipush (pc' := 1551) hX dX12_init_1549 rfl (by decide) (by decide) ?_
  refine zt_cast (pc' := 1552) hX dX12_init_1551 rfl (by decide) zc_231 zs_113 (by decide) ⟨by decide, by decide⟩ (by decide +kernel) ?_
  rw [show Int.toNat 1 = 1 from rfl]
  generalize h1495 : zset s1490 231 1 111 = s1494
  have q1496 := zq_el h1495 q1492 (by decide) (by decide) zc_231 zs_113 (show 0 ≤ (111 : Int) ∧ (111 : Int) ≤ 65535 from ⟨by decide, by decide⟩) (by decide) (by decide)
  have f1497 : s1494 231 0 = 114 := by rw [← h1495]; exact (zset_j (by decide)).trans f1493
  have f1498 : s1494 231 1 = 111 := by rw [← h1495]; exact zset_s
  clear f1493
  clear h1495 q1492
  refine zt_dup (pc' := 1553) hX dX12_init_1552 rfl rfl ?_
  refine zt_iconst (pc' := 1554) hX dX12_init_1553 rfl ?_
  refine zt_bipush (pc' := 1556) hX dX12_init_1554 rfl (by decide) (by decide) ?_
  refine zt_cast (pc' := 1557) hX dX12_init_1556 rfl (by decide) zc_231 zs_113 (by decide) ⟨by decide, by decide⟩ (by decide +kernel) ?_
  rw [show Int.toNat 2 = 2 from rfl]
  generalize h1500 : zset s1494 231 2 119 = s1499
  have q1501 := zq_el h1500 q1496 (by decide) (by decide) zc_231 zs_113 (show 0 ≤ (119 : Int) ∧ (119 : Int) ≤ 65535 from ⟨by decide, by decide⟩) (by decide) (by decide)
  have f1502 : s1499 231 0 = 114 := by rw [← h1500]; exact (zset_j (by decide)).trans f1497
  have f1503 : s1499 231 1 = 111 := by rw [← h1500]; exact (zset_j (by decide)).trans f1498
  have f1504 : s1499 231 2 = 119 := by rw [← h1500]; exact zset_s
  clear f1497 f1498
  clear h1500 q1496
  have q1505 := zq_row (d := 232) (k := 231) (L := [114, 111, 119]) q1501 (by decide) (fun j hj => by have hj : j < 3 := hj; rcases (show j = 0 ∨ j = 1 ∨ j = 2 by omega) with rfl | rfl | rfl; exact f1502; exact f1503; exact f1504)
  clear f1502 f1503 f1504 q1501
  refine zt_putF (pc' := 1560) (x := ((231 : Nat) : Int)) hX dX12_init_1557 rfl hN.1 zf_X12_222 (by decide) zc_164 zs_46 (fun q hq => by cases hq; exact ⟨rfl, rfl⟩) (zrf_of rfl) rfl rfl ?_
  generalize h1507 : zset s1499 164 93 ((231 : Nat) : Int) = s1506
  have q1508 := zq_ref (m' := 94) (g := 0) h1507 q1505 rfl (by decide) rfl (by decide) rfl (by decide)
  clear h1507 q1505
  refine zt_aload_n (pc' := 1561) hX dX12_init_1560 rfl rfl ?_
  refine zt_iconst (pc' := 1562) hX dX12_init_1561 rfl ?_
  refine zt_newaL (pc' := 1564) (t := 3) (N := 5) (n' := 233) (cs' := 68) (ss' := 11300) hX dX12_init_1562 rfl zw_10_19 rfl (by decide) (by decide) zc_232 zs_114 (by decide) (by decide) (zCs_nx q1508.1) rfl rfl rfl ⟨by rw [hN.2.1]; exact Nat.le_of_ble_eq_true rfl, by rw [hN.2.2]; exact Nat.le_of_ble_eq_true rfl⟩ ?_
  have q1509 := zq_arr (n' := 233) q1508 zc_232 zs_114 (by decide) rfl
  clear q1508
  refine zt_dup (pc' := 1565) hX dX12_init_1564 rfl rfl ?_
  refine zt_iconst (pc' := 1566) hX dX12_init_1565 rfl ?_
  refine zt_bipush (pc' := 1568) hX dX12_init_1566 rfl (by decide) (by decide) ?_
  refine zt_cast (pc' := 1569) hX dX12_init_1568 rfl (by decide) zc_232 zs_114 (by decide) ⟨by decide, by decide⟩ (by decide +kernel) ?_
  rw [show Int.toNat 0 = 0 from rfl]
  generalize h1511 : zset s1506 232 0 104 = s1510
  have q1512 := zq_el h1511 q1509 (by decide) (by decide) zc_232 zs_114 (show 0 ≤ (104 : Int) ∧ (104 : Int) ≤ 65535 from ⟨by decide, by decide⟩) (by decide) (by decide)
  have f1513 : s1510 232 0 = 104 := by rw [← h1511]; exact zset_s
  clear h1511 q1509
  refine zt_dup (pc' := 1570) hX dX12_init_1569 rfl rfl ?_
  refine zt_iconst (pc' := 1571) hX dX12_init_1570 rfl ?_
  refine zt_bipush (pc' := 1573) hX dX12_init_1571 rfl (by decide) (by decide) ?_
  refine zt_cast (pc' := 1574) hX dX12_init_1573 rfl (by decide) zc_232 zs_114 (by decide) ⟨by decide, by decide⟩ (by decide +kernel) ?_
  rw [show Int.toNat 1 = 1 from rfl]
  generalize h1515 : zset s1510 232 1 111 = s1514
  have q1516 := zq_el h1515 q1512 (by decide) (by decide) zc_232 zs_114 (show 0 ≤ (111 : Int) ∧ (111 : Int) ≤ 65535 from ⟨by decide, by decide⟩) (by decide) (by decide)
  have f1517 : s1514 232 0 = 104 := by rw [← h1515]; exact (zset_j (by decide)).trans f1513
  have f1518 : s1514 232 1 = 111 := by rw [← h1515]; exact zset_s
  clear f1513
  clear h1515 q1512
  refine zt_dup (pc' := 1575) hX dX12_init_1574 rfl rfl ?_
  refine zt_iconst (pc' := 1576) hX dX12_init_1575 rfl ?_
  refine zt_bipush (pc' := 1578) hX dX12_init_1576 rfl (by decide) (by decide) ?_
  refine zt_cast (pc' := 1579) hX dX12_init_1578 rfl (by decide) zc_232 zs_114 (by decide) ⟨by decide, by decide⟩ (by decide +kernel) ?_
  rw [show Int.toNat 2 = 2 from rfl]
  generalize h1520 : zset s1514 232 2 108 = s1519
  have q1521 := zq_el h1520 q1516 (by decide) (by decide) zc_232 zs_114 (show 0 ≤ (108 : Int) ∧ (108 : Int) ≤ 65535 from ⟨by decide, by decide⟩) (by decide) (by decide)
  have f1522 : s1519 232 0 = 104 := by rw [← h1520]; exact (zset_j (by decide)).trans f1517
  have f1523 : s1519 232 1 = 111 := by rw [← h1520]; exact (zset_j (by decide)).trans f1518
  have f1524 : s1519 232 2 = 108 := by rw [← h1520]; exact zset_s
  clear f1517 f1518
  clear h1520 q1516
  refine zt_dup (pc' := 1580) hX dX12_init_1579 rfl rfl ?_
  refine zt_iconst (pc' := 1581) hX dX12_init_1580 rfl ?_
  refine zt_bipush (pc' := 1583) hX dX12_init_1581 rfl (by decide) (by decide) ?_
  refine zt_cast (pc' := 1584) hX dX12_init_1583 rfl (by decide) zc_232 zs_114 (by decide) ⟨by decide, by decide⟩ (by decide +kernel) ?_
  rw [show Int.toNat 3 = 3 from rfl]
  generalize h1526 : zset s1519 232 3 100 = s1525
  have q1527 := zq_el h1526 q1521 (by decide) (by decide) zc_232 zs_114 (show 0 ≤ (100 : Int) ∧ (100 : Int) ≤ 65535 from ⟨by decide, by decide⟩) (by decide) (by decide)
  have f1528 : s1525 232 0 = 104 := by rw [← h1526]; exact (zset_j (by decide)).trans f1522
  have f1529 : s1525 232 1 = 111 := by rw [← h1526]; exact (zset_j (by decide)).trans f1523
  have f1530 : s1525 232 2 = 108 := by rw [← h1526]; exact (zset_j (by decide)).trans f1524
  have f1531 : s1525 232 3 = 100 := by rw [← h1526]; exact zset_s
  clear f1522 f1523 f1524
  clear h1526 q1521
  refine zt_dup (pc' := 1585) hX dX12_init_1584 rfl rfl ?_
  refine zt_iconst (pc' := 1586) hX dX12_init_1585 rfl ?_
  refine zt_bipush (pc' := 1588) hX dX12_init_1586 rfl (by decide) (by decide) ?_
  refine zt_cast (pc' := 1589) hX dX12_init_1588 rfl (by decide) zc_232 zs_114 (by decide) ⟨by decide, by decide⟩ (by decide +kernel) ?_
  rw [show Int.toNat 4 = 4 from rfl]
  generalize h1533 : zset s1525 232 4 115 = s1532
  have q1534 := zq_el h1533 q1527 (by decide) (by decide) zc_232 zs_114 (show 0 ≤ (115 : Int) ∧ (115 : Int) ≤ 65535 from ⟨by decide, by decide⟩) (by decide) (by decide)
  have f1535 : s1532 232 0 = 104 := by rw [← h1533]; exact (zset_j (by decide)).trans f1528
  have f1536 : s1532 232 1 = 111 := by rw [← h1533]; exact (zset_j (by decide)).trans f1529
  have f1537 : s1532 232 2 = 108 := by rw [← h1533]; exact (zset_j (by decide)).trans f1530
  have f1538 : s1532 232 3 = 100 := by rw [← h1533]; exact (zset_j (by decide)).trans f1531
  have f1539 : s1532 232 4 = 115 := by rw [← h1533]; exact zset_s
  clear f1528 f1529 f1530 f1531
  clear h1533 q1527
  have q1540 := zq_row (d := 233) (k := 232) (L := [104, 111, 108, 100, 115]) q1534 (by decide) (fun j hj => by have hj : j < 5 := hj; rcases (show j = 0 ∨ j = 1 ∨ j = 2 ∨ j = 3 ∨ j = 4 by omega) with rfl | rfl | rfl | rfl | rfl; exact f1535; exact f1536; exact f1537; exact f1538; exact f1539)
  clear f1535 f1536 f1537 f1538 f1539 q1534
  refine zt_putF (pc' := 1592) (x := ((232 : Nat) : Int)) hX dX12_init_1589 rfl hN.1 zf_X12_225 (by decide) zc_164 zs_46 (fun q hq => by cases hq; exact ⟨rfl, rfl⟩) (zrf_of rfl) rfl rfl ?_
  generalize h1542 : zset s1532 164 94 ((232 : Nat) : Int) = s1541
  have q1543 := zq_ref (m' := 95) (g := 0) h1542 q1540 rfl (by decide) rfl (by decide) rfl (by decide)
  clear h1542 q1540
  refine zt_aload_n (pc' := 1593) hX dX12_init_1592 rfl rfl ?_
  refine zt_iconst (pc' := 1594) hX dX12_init_1593 rfl ?_
  refine zt_newaL (pc' := 1596) (t := 3) (N := 3) (n' := 234) (cs' := 69) (ss' := 11303) hX dX12_init_1594 rfl zw_10_19 rfl (by decide) (by decide) zc_233 zs_115 (by decide) (by decide) (zCs_nx q1543.1) rfl rfl rfl ⟨by rw [hN.2.1]; exact Nat.le_of_ble_eq_true rfl, by rw [hN.2.2]; exact Nat.le_of_ble_eq_true rfl⟩ ?_
  have q1544 := zq_arr (n' := 234) q1543 zc_233 zs_115 (by decide) rfl
  clear q1543
  refine zt_dup (pc' := 1597) hX dX12_init_1596 rfl rfl ?_
  refine zt_iconst (pc' := 1598) hX dX12_init_1597 rfl ?_
  refine zt_bipush (pc' := 1600) hX dX12_init_1598 rfl (by decide) (by decide) ?_
  refine zt_cast (pc' := 1601) hX dX12_init_1600 rfl (by decide) zc_233 zs_115 (by decide) ⟨by decide, by decide⟩ (by decide +kernel) ?_
  rw [show Int.toNat 0 = 0 from rfl]
  generalize h1546 : zset s1541 233 0 102 = s1545
  have q1547 := zq_el h1546 q1544 (by decide) (by decide) zc_233 zs_115 (show 0 ≤ (102 : Int) ∧ (102 : Int) ≤ 65535 from ⟨by decide, by decide⟩) (by decide) (by decide)
  have f1548 : s1545 233 0 = 102 := by rw [← h1546]; exact zset_s
  clear h1546 q1544
  refine zt_dup (pc' := 1602) hX dX12_init_1601 rfl rfl ?_
  refine zt_iconst (pc' := 1603) hX dX12_init_1602 rfl ?_
  refine zt_bipush (pc' := 1605) hX dX12_init_1603 rfl (by decide) (by decide) ?_
  refine zt_cast (pc' := 1606) hX dX12_init_1605 rfl (by decide) zc_233 zs_115 (by decide) ⟨by decide, by decide⟩ (by decide +kernel) ?_
  rw [show Int.toNat 1 = 1 from rfl]
  generalize h1550 : zset s1545 233 1 97 = s1549
  have q1551 := zq_el h1550 q1547 (by decide) (by decide) zc_233 zs_115 (show 0 ≤ (97 : Int) ∧ (97 : Int) ≤ 65535 from ⟨by decide, by decide⟩) (by decide) (by decide)
  have f1552 : s1549 233 0 = 102 := by rw [← h1550]; exact (zset_j (by decide)).trans f1548
  have f1553 : s1549 233 1 = 97 := by rw [← h1550]; exact zset_s
  clear f1548
  clear h1550 q1547
  refine zt_dup (pc' := 1607) hX dX12_init_1606 rfl rfl ?_
  refine zt_iconst (pc' := 1608) hX dX12_init_1607 rfl ?_
  refine zt_bipush (pc' := 1610) hX dX12_init_1608 rfl (by decide) (by decide) ?_
  refine zt_cast (pc' := 1611) hX dX12_init_1610 rfl (by decide) zc_233 zs_115 (by decide) ⟨by decide, by decide⟩ (by decide +kernel) ?_
  rw [show Int.toNat 2 = 2 from rfl]
  generalize h1555 : zset s1549 233 2 114 = s1554
  have q1556 := zq_el h1555 q1551 (by decide) (by decide) zc_233 zs_115 (show 0 ≤ (114 : Int) ∧ (114 : Int) ≤ 65535 from ⟨by decide, by decide⟩) (by decide) (by decide)
  have f1557 : s1554 233 0 = 102 := by rw [← h1555]; exact (zset_j (by decide)).trans f1552
  have f1558 : s1554 233 1 = 97 := by rw [← h1555]; exact (zset_j (by decide)).trans f1553
  have f1559 : s1554 233 2 = 114 := by rw [← h1555]; exact zset_s
  clear f1552 f1553
  clear h1555 q1551
  have q1560 := zq_row (d := 234) (k := 233) (L := [102, 97, 114]) q1556 (by decide) (fun j hj => by have hj : j < 3 := hj; rcases (show j = 0 ∨ j = 1 ∨ j = 2 by omega) with rfl | rfl | rfl; exact f1557; exact f1558; exact f1559)
  clear f1557 f1558 f1559 q1556
  refine zt_putF (pc' := 1614) (x := ((233 : Nat) : Int)) hX dX12_init_1611 rfl hN.1 zf_X12_228 (by decide) zc_164 zs_46 (fun q hq => by cases hq; exact ⟨rfl, rfl⟩) (zrf_of rfl) rfl rfl ?_
  generalize h1562 : zset s1554 164 95 ((233 : Nat) : Int) = s1561
  have q1563 := zq_ref (m' := 96) (g := 0) h1562 q1560 rfl (by decide) rfl (by decide) rfl (by decide)
  clear h1562 q1560
  refine zt_aload_n (pc' := 1615) hX dX12_init_1614 rfl rfl ?_
  refine zt_sipush (pc' := 1618) hX dX12_init_1615 rfl (by decide) (by decide) ?_
  refine zt_newaL (pc' := 1620) (t := 0) (N := 1700) (n' := 235) (cs' := 70) (ss' := 13003) hX dX12_init_1618 rfl zw_3_7 rfl (by decide) (by decide) zc_234 zs_116 (by decide) (by decide) (zCs_nx q1563.1) rfl rfl rfl ⟨by rw [hN.2.1]; exact Nat.le_of_ble_eq_true rfl, by rw [hN.2.2]; exact Nat.le_of_ble_eq_true rfl⟩ ?_
  have q1564 := zq_arr (n' := 235) q1563 zc_234 zs_116 (by decide) rfl
  clear q1563
  refine zt_putF (pc' := 1623) (x := ((234 : Nat) : Int)) hX dX12_init_1620 rfl hN.1 zf_X12_231 (by decide) zc_164 zs_46 (fun q hq => by cases hq; exact ⟨rfl, rfl⟩) (zrf_of rfl) rfl rfl ?_
  generalize h1566 : zset s1561 164 96 ((234 : Nat) : Int) = s1565
  have q1567 := zq_ref (m' := 97) (g := 0) h1566 q1564 rfl (by decide) rfl (by decide) rfl (by decide)
  clear h1566 q1564
  refine zt_aload_n (pc' := 1624) hX dX12_init_1623 rfl rfl ?_
  refine zt_sipush (pc' := 1627) hX dX12_init_1624 rfl (by decide) (by decide) ?_
  refine zt_newaL (pc' := 1629) (t := 0) (N := 1700) (n' := 236) (cs' := 71) (ss' := 14703) hX dX12_init_1627 rfl zw_3_7 rfl (by decide) (by decide) zc_235 zs_117 (by decide) (by decide) (zCs_nx q1567.1) rfl rfl rfl ⟨by rw [hN.2.1]; exact Nat.le_of_ble_eq_true rfl, by rw [hN.2.2]; exact Nat.le_of_ble_eq_true rfl⟩ ?_
  have q1568 := zq_arr (n' := 236) q1567 zc_235 zs_117 (by decide) rfl
  clear q1567
  refine zt_putF (pc' := 1632) (x := ((235 : Nat) : Int)) hX dX12_init_1629 rfl hN.1 zf_X12_234 (by decide) zc_164 zs_46 (fun q hq => by cases hq; exact ⟨rfl, rfl⟩) (zrf_of rfl) rfl rfl ?_
  generalize h1570 : zset s1565 164 98 ((235 : Nat) : Int) = s1569
  have q1571 := zq_ref (m' := 99) (g := 1) h1570 q1568 rfl (by decide) rfl (by decide) rfl (by decide)
  clear h1570 q1568
  refine zt_aload_n (pc' := 1633) hX dX12_init_1632 rfl rfl ?_
  refine zt_sipush (pc' := 1636) hX dX12_init_1633 rfl (by decide) (by decide) ?_
  refine zt_newaL (pc' := 1638) (t := 4) (N := 1700) (n' := 237) (cs' := 72) (ss' := 16403) hX dX12_init_1636 rfl zw_12_1 rfl (by decide) (by decide) zc_236 zs_118 (by decide) (by decide) (zCs_nx q1571.1) rfl rfl rfl ⟨by rw [hN.2.1]; exact Nat.le_of_ble_eq_true rfl, by rw [hN.2.2]; exact Nat.le_of_ble_eq_true rfl⟩ ?_
  have q1572 := zq_arr (n' := 237) q1571 zc_236 zs_118 (by decide) rfl
  clear q1571
  refine zt_putF (pc' := 1641) (x := ((236 : Nat) : Int)) hX dX12_init_1638 rfl hN.1 zf_X12_237 (by decide) zc_164 zs_46 (fun q hq => by cases hq; exact ⟨rfl, rfl⟩) (zrf_of rfl) rfl rfl ?_
  generalize h1574 : zset s1569 164 102 ((236 : Nat) : Int) = s1573
  have q1575 := zq_ref (m' := 103) (g := 3) h1574 q1572 rfl (by decide) rfl (by decide) rfl (by decide)
  clear h1574 q1572
  refine zt_aload_n (pc' := 1642) hX dX12_init_1641 rfl rfl ?_
  refine zt_bipush (pc' := 1644) hX dX12_init_1642 rfl (by decide) (by decide) ?_
  refine zt_newaL (pc' := 1646) (t := 0) (N := 79) (n' := 238) (cs' := 73) (ss' := 16482) hX dX12_init_1644 rfl zw_3_7 rfl (by decide) (by decide) zc_237 zs_119 (by decide) (by decide) (zCs_nx q1575.1) rfl rfl rfl ⟨by rw [hN.2.1]; exact Nat.le_of_ble_eq_true rfl, by rw [hN.2.2]; exact Nat.le_of_ble_eq_true rfl⟩ ?_
  have q1576 := zq_arr (n' := 238) q1575 zc_237 zs_119 (by decide) rfl
  clear q1575
  refine zt_putF (pc' := 1649) (x := ((237 : Nat) : Int)) hX dX12_init_1646 rfl hN.1 zf_X12_240 (by decide) zc_164 zs_46 (fun q hq => by cases hq; exact ⟨rfl, rfl⟩) (zrf_of rfl) rfl rfl ?_
  generalize h1578 : zset s1573 164 106 ((237 : Nat) : Int) = s1577
  have q1579 := zq_ref (m' := 107) (g := 3) h1578 q1576 rfl (by decide) rfl (by decide) rfl (by decide)
  clear h1578 q1576
  exact K s1577 q1579

set_option maxRecDepth 100000 in
set_option maxHeartbeats 4000000 in
theorem zn_X12 (l : Launch) (E : zEN) (σ : zSto) (hI : zIR σ) (hD : zDf σ 164) : zCt l E yX12_init cX12_init 1 none 1 165 238 73 16482 σ [.ref (E.1 + 164)] (fun _ σ' => zCp σ σ' 164 238 ∧ σ' 200 2 = -1 ∧ σ' 200 3 = -1 ∧ σ' 164 50 = 0 ∧ σ' 164 54 = 0 ∧ σ' 164 1 = 0 ∧ yWd σ' ∧ zWm σ' ∧ σ' 164 7 = 0 ∧ σ' 164 8 = -1) := by
  refine zCt_of2 [some (.ref (E.1 + 164))] (by decide +kernel) (Nat.le_of_ble_eq_true rfl) rfl ?_
  intro X hE hX hR hL hN
  subst hE
  have hX : zok X cX12_init RX12 1 := hX
  have q0 : zQm 0 0 0 165 σ σ 0 165 := ⟨zCs_0 hI hD, ⟨congrFun (hD 200 (by decide)) 2, congrFun (hD 200 (by decide)) 3, congrFun (hD 164 (by decide)) 50, congrFun (hD 164 (by decide)) 54, congrFun (hD 164 (by decide)) 1, congrFun (hD 164 (by decide)) 7, congrFun (hD 164 (by decide)) 8⟩, fun p hp h => absurd h (by have := yWtab_ge p hp; omega), congrFun (hD 194 (by decide)) 3, congrFun (hD 194 (by decide)) 4, congrFun (hD 195 (by decide)) 1⟩
  exact zxm_0 hX hN q0 (fun s1 q1 => zxm_1 hX hN q1 (fun s2 q2 => zxm_2 hX hN q2 (fun s3 q3 => zxm_3 hX hN q3 (fun s4 q4 => zxm_4 hX hN q4 (fun s5 q5 => zxm_5 hX hN q5 (fun s6 q6 => zxm_6 hX hN q6 (fun s7 q7 => zxm_7 hX hN q7 (fun s8 q8 => zxm_8 hX hN q8 (fun s9 q9 => zxm_9 hX hN q9 (fun s10 q10 => zxm_10 hX hN q10 (fun s11 q11 => zxm_11 hX hN q11 (fun s12 q12 => zt_vret hX hR dX12_init_1649 ⟨zCs_end (N := 108) q12.1 zc_164 zs_46 (by decide +kernel) (fun _ _ => trivial), q12.2.1.1, q12.2.1.2.1, q12.2.1.2.2.1, q12.2.1.2.2.2.1, q12.2.1.2.2.2.2.1, fun p hp => q12.2.2.1 p hp ((show ∀ p ∈ yWtab, p.1 < 234 by decide) p hp), q12.2.2.2, q12.2.1.2.2.2.2.2.1, q12.2.1.2.2.2.2.2.2⟩))))))))))))
