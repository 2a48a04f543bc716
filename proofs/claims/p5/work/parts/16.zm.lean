theorem zk_cut1 : ∀ k, k < zNC → zro k ≤ 45 ∧ zro k ≠ 3 ∧ zro k ≠ 15 → k < zNK ∧ k ≠ 28 ∧ k ≠ 2 := by decide +kernel
theorem zk_cut2 : ∀ k, k < zNC → zro k ≤ 45 ∧ zro k ≠ 15 ∧ ¬ (6 ≤ zro k ∧ zro k ≤ 13) → k < zNK ∧ k ≠ 28 ∧ (k < 5 ∨ 26 < k) := by decide +kernel
theorem zk_cut5 : ∀ k, k < zNC → zro k ≤ 45 ∧ zro k ≠ 3 ∧ zro k ≠ 15 ∧ ¬ (6 ≤ zro k ∧ zro k ≤ 13) → k < zNK ∧ k ≠ 28 ∧ k ≠ 2 ∧ (k < 5 ∨ 26 < k) := by decide +kernel
theorem zk_cut3 : ∀ k, k < zNC → 46 ≤ zro k ∧ zro k ≠ 47 ∧ ¬ (49 ≤ zro k ∧ zro k ≤ 75) ∧ ¬ (93 ≤ zro k ∧ zro k ≤ 115) → zkn k = false := by decide +kernel
theorem zk_cut4 : ∀ k, k < zNC → 46 ≤ zro k ∧ ¬ (49 ≤ zro k ∧ zro k ≤ 75) ∧ ¬ (93 ≤ zro k ∧ zro k ≤ 115) → zkt k = false := by decide +kernel
theorem zclr_of {r : Nat} (h : r ≤ 45 ∧ r ≠ 3 ∧ r ≠ 15) : zclr r = true := by
  unfold zclr
  rw [List.all_eq_true]
  intro k hk
  have hk := List.mem_range.mp hk
  rw [Bool.or_eq_true]
  by_cases e : zro k = r
  · have q := zk_cut1 k hk (by omega)
    exact Or.inr (by simp only [q.1, q.2.1, q.2.2, decide_true, ne_eq, not_false_eq_true, Bool.and_self])
  · exact Or.inl (by simp [e])
theorem zclc_of {r : Nat} (h : r ≤ 45 ∧ r ≠ 15 ∧ ¬ (6 ≤ r ∧ r ≤ 13)) : zclc r = true := by
  unfold zclc
  rw [List.all_eq_true]
  intro k hk
  have hk := List.mem_range.mp hk
  rw [Bool.or_eq_true]
  by_cases e : zro k = r
  · have q := zk_cut2 k hk (by omega)
    exact Or.inr (by simp only [q.1, q.2.1, q.2.2, decide_true, ne_eq, not_false_eq_true, Bool.and_self])
  · exact Or.inl (by simp [e])
theorem zcle_of {r : Nat} (h : r ≤ 45 ∧ r ≠ 3 ∧ r ≠ 15 ∧ ¬ (6 ≤ r ∧ r ≤ 13)) : zcle r = true := by
  unfold zcle
  rw [List.all_eq_true]
  intro k hk
  have hk := List.mem_range.mp hk
  rw [Bool.or_eq_true]
  by_cases e : zro k = r
  · have q := zk_cut5 k hk (by omega)
    exact Or.inr (by simp only [q.1, q.2.1, q.2.2.1, q.2.2.2, decide_true, ne_eq, not_false_eq_true, Bool.and_self])
  · exact Or.inl (by simp [e])
theorem zmor_of {r : Nat} (h : 46 ≤ r ∧ r ≠ 47 ∧ ¬ (49 ≤ r ∧ r ≤ 75) ∧ ¬ (93 ≤ r ∧ r ≤ 115)) : zmor r = true := by
  unfold zmor
  rw [List.all_eq_true]
  intro k hk
  have hk := List.mem_range.mp hk
  rw [Bool.or_eq_true]
  by_cases e : zro k = r
  · exact Or.inr (by rw [zk_cut3 k hk (by omega)]; rfl)
  · exact Or.inl (by simp [e])
theorem zmot_of {r : Nat} (h : 46 ≤ r ∧ ¬ (49 ≤ r ∧ r ≤ 75) ∧ ¬ (93 ≤ r ∧ r ≤ 115)) : zmot r = true := by
  unfold zmot
  rw [List.all_eq_true]
  intro k hk
  have hk := List.mem_range.mp hk
  rw [Bool.or_eq_true]
  by_cases e : zro k = r
  · exact Or.inr (by rw [zk_cut4 k hk (by omega)]; rfl)
  · exact Or.inl (by simp [e])
theorem zkc_1 : zclc 1 = true := zclc_of (by decide)
theorem zkc_2 : zclc 2 = true := zclc_of (by decide)
theorem zkc_3 : zclc 3 = true := zclc_of (by decide)
theorem zkt_46 : zmot 46 = true := zmot_of (by decide)
theorem zkt_47 : zmot 47 = true := zmot_of (by decide)
theorem zkt_48 : zmot 48 = true := zmot_of (by decide)
theorem zke_1 : zcle 1 = true := zcle_of (by decide)
theorem zk_1 : zclr 1 = true := zclr_of (by decide)
theorem zke_2 : zcle 2 = true := zcle_of (by decide)
theorem zk_2 : zclr 2 = true := zclr_of (by decide)
theorem zke_4 : zcle 4 = true := zcle_of (by decide)
theorem zk_4 : zclr 4 = true := zclr_of (by decide)
theorem zke_5 : zcle 5 = true := zcle_of (by decide)
theorem zk_5 : zclr 5 = true := zclr_of (by decide)
theorem zk_6 : zclr 6 = true := zclr_of (by decide)
theorem zk_7 : zclr 7 = true := zclr_of (by decide)
theorem zk_8 : zclr 8 = true := zclr_of (by decide)
theorem zk_9 : zclr 9 = true := zclr_of (by decide)
theorem zk_10 : zclr 10 = true := zclr_of (by decide)
theorem zk_11 : zclr 11 = true := zclr_of (by decide)
theorem zk_12 : zclr 12 = true := zclr_of (by decide)
theorem zk_13 : zclr 13 = true := zclr_of (by decide)
theorem zke_14 : zcle 14 = true := zcle_of (by decide)
theorem zk_14 : zclr 14 = true := zclr_of (by decide)
theorem zke_16 : zcle 16 = true := zcle_of (by decide)
theorem zk_16 : zclr 16 = true := zclr_of (by decide)
theorem zke_17 : zcle 17 = true := zcle_of (by decide)
theorem zk_17 : zclr 17 = true := zclr_of (by decide)
theorem zke_18 : zcle 18 = true := zcle_of (by decide)
theorem zk_18 : zclr 18 = true := zclr_of (by decide)
theorem zke_19 : zcle 19 = true := zcle_of (by decide)
theorem zk_19 : zclr 19 = true := zclr_of (by decide)
theorem zke_20 : zcle 20 = true := zcle_of (by decide)
theorem zk_20 : zclr 20 = true := zclr_of (by decide)
theorem zke_21 : zcle 21 = true := zcle_of (by decide)
theorem zk_21 : zclr 21 = true := zclr_of (by decide)
theorem zke_22 : zcle 22 = true := zcle_of (by decide)
theorem zk_22 : zclr 22 = true := zclr_of (by decide)
theorem zke_23 : zcle 23 = true := zcle_of (by decide)
theorem zk_23 : zclr 23 = true := zclr_of (by decide)
theorem zke_24 : zcle 24 = true := zcle_of (by decide)
theorem zk_24 : zclr 24 = true := zclr_of (by decide)
theorem zke_25 : zcle 25 = true := zcle_of (by decide)
theorem zk_25 : zclr 25 = true := zclr_of (by decide)
theorem zke_26 : zcle 26 = true := zcle_of (by decide)
theorem zk_26 : zclr 26 = true := zclr_of (by decide)
theorem zke_27 : zcle 27 = true := zcle_of (by decide)
theorem zk_27 : zclr 27 = true := zclr_of (by decide)
theorem zke_28 : zcle 28 = true := zcle_of (by decide)
theorem zk_28 : zclr 28 = true := zclr_of (by decide)
theorem zke_29 : zcle 29 = true := zcle_of (by decide)
theorem zk_29 : zclr 29 = true := zclr_of (by decide)
theorem zke_30 : zcle 30 = true := zcle_of (by decide)
theorem zk_30 : zclr 30 = true := zclr_of (by decide)
theorem zke_31 : zcle 31 = true := zcle_of (by decide)
theorem zk_31 : zclr 31 = true := zclr_of (by decide)
theorem zke_32 : zcle 32 = true := zcle_of (by decide)
theorem zk_32 : zclr 32 = true := zclr_of (by decide)
theorem zke_33 : zcle 33 = true := zcle_of (by decide)
theorem zk_33 : zclr 33 = true := zclr_of (by decide)
theorem zke_34 : zcle 34 = true := zcle_of (by decide)
theorem zk_34 : zclr 34 = true := zclr_of (by decide)
theorem zke_35 : zcle 35 = true := zcle_of (by decide)
theorem zk_35 : zclr 35 = true := zclr_of (by decide)
theorem zke_36 : zcle 36 = true := zcle_of (by decide)
theorem zk_36 : zclr 36 = true := zclr_of (by decide)
theorem zke_37 : zcle 37 = true := zcle_of (by decide)
theorem zk_37 : zclr 37 = true := zclr_of (by decide)
theorem zke_38 : zcle 38 = true := zcle_of (by decide)
theorem zk_38 : zclr 38 = true := zclr_of (by decide)
theorem zke_39 : zcle 39 = true := zcle_of (by decide)
theorem zk_39 : zclr 39 = true := zclr_of (by decide)
theorem zke_40 : zcle 40 = true := zcle_of (by decide)
theorem zk_40 : zclr 40 = true := zclr_of (by decide)
theorem zke_41 : zcle 41 = true := zcle_of (by decide)
theorem zk_41 : zclr 41 = true := zclr_of (by decide)
theorem zke_42 : zcle 42 = true := zcle_of (by decide)
theorem zk_42 : zclr 42 = true := zclr_of (by decide)
theorem zke_43 : zcle 43 = true := zcle_of (by decide)
theorem zk_43 : zclr 43 = true := zclr_of (by decide)
theorem zke_44 : zcle 44 = true := zcle_of (by decide)
theorem zk_44 : zclr 44 = true := zclr_of (by decide)
theorem zke_45 : zcle 45 = true := zcle_of (by decide)
theorem zk_45 : zclr 45 = true := zclr_of (by decide)
theorem zk_46 : zmor 46 = true := zmor_of (by decide)
theorem zk_48 : zmor 48 = true := zmor_of (by decide)
theorem zk_76 : zmor 76 = true := zmor_of (by decide)
theorem zk_77 : zmor 77 = true := zmor_of (by decide)
theorem zk_78 : zmor 78 = true := zmor_of (by decide)
theorem zk_79 : zmor 79 = true := zmor_of (by decide)
theorem zk_80 : zmor 80 = true := zmor_of (by decide)
theorem zk_81 : zmor 81 = true := zmor_of (by decide)
theorem zk_82 : zmor 82 = true := zmor_of (by decide)
theorem zk_83 : zmor 83 = true := zmor_of (by decide)
theorem zk_84 : zmor 84 = true := zmor_of (by decide)
theorem zk_85 : zmor 85 = true := zmor_of (by decide)
theorem zk_86 : zmor 86 = true := zmor_of (by decide)
theorem zk_87 : zmor 87 = true := zmor_of (by decide)
theorem zk_88 : zmor 88 = true := zmor_of (by decide)
theorem zk_89 : zmor 89 = true := zmor_of (by decide)
theorem zk_90 : zmor 90 = true := zmor_of (by decide)
theorem zk_91 : zmor 91 = true := zmor_of (by decide)
theorem zk_92 : zmor 92 = true := zmor_of (by decide)
theorem zk_116 : zmor 116 = true := zmor_of (by decide)
theorem zk_117 : zmor 117 = true := zmor_of (by decide)
theorem zk_118 : zmor 118 = true := zmor_of (by decide)
theorem zk_119 : zmor 119 = true := zmor_of (by decide)
theorem znc_RJ0 : RJ0 ≠ "java/lang/invoke/MethodHandle" ∧ RJ0 ≠ "java/lang/invoke/VarHandle" := ⟨by decide +kernel, by decide +kernel⟩
theorem zds_0 : (parseMethodDescriptor "(I)C").map (fun d => d.parameters.length) = some 1 := by decide +kernel
theorem zm_yJ0_charAt_5068e : zMV yJ0_charAt_5068e cJ0_charAt_5068e 2 (some .char) 1 := ⟨zw_6_1, zw_5_23, zw_6_0, zw_5_13, ⟨znc_RJ0.1, znc_RJ0.2, zds_0⟩, by decide⟩
theorem zds_1 : (parseMethodDescriptor "(II)V").map (fun d => d.parameters.length) = some 2 := by decide +kernel
theorem zm_yJ0_checkIndex_df160 : zMS yJ0_checkIndex_df160 cJ0_checkIndex_df160 2 none 2 := ⟨zw_6_12, zw_6_11, zw_5_13, ⟨znc_RJ0.1, znc_RJ0.2, zds_1⟩, by decide⟩
theorem zds_2 : (parseMethodDescriptor "()B").map (fun d => d.parameters.length) = some 0 := by decide +kernel
theorem zm_yJ0_coder_7d493 : zMV yJ0_coder_7d493 cJ0_coder_7d493 1 (some .byte) 0 := ⟨zw_5_19, zw_5_17, zw_5_18, zw_5_13, ⟨znc_RJ0.1, znc_RJ0.2, zds_2⟩, by decide⟩
theorem zds_3 : (parseMethodDescriptor "()Z").map (fun d => d.parameters.length) = some 0 := by decide +kernel
theorem zm_yJ0_isLatin1_aae02 : zMV yJ0_isLatin1_aae02 cJ0_isLatin1_aae02 1 (some .boolean) 0 := ⟨zw_6_5, zw_6_3, zw_6_4, zw_5_13, ⟨znc_RJ0.1, znc_RJ0.2, zds_3⟩, by decide⟩
theorem zds_4 : (parseMethodDescriptor "()I").map (fun d => d.parameters.length) = some 0 := by decide +kernel
theorem zm_yJ0_length_8abf5 : zMV yJ0_length_8abf5 cJ0_length_8abf5 1 (some .int) 0 := ⟨zw_5_14, zw_5_11, zw_5_12, zw_5_13, ⟨znc_RJ0.1, znc_RJ0.2, zds_4⟩, by decide⟩
theorem znc_RJ13 : RJ13 ≠ "java/lang/invoke/MethodHandle" ∧ RJ13 ≠ "java/lang/invoke/VarHandle" := ⟨by decide +kernel, by decide +kernel⟩
theorem zds_5 : (parseMethodDescriptor "(J)I").map (fun d => d.parameters.length) = some 1 := by decide +kernel
theorem zm_yJ13_bitCount_95d88 : zMS yJ13_bitCount_95d88 cJ13_bitCount_95d88 2 (some .int) 1 := ⟨zw_33_20, zw_33_18, zw_33_19, ⟨znc_RJ13.1, znc_RJ13.2, zds_5⟩, by decide⟩
theorem znc_RJ1 : RJ1 ≠ "java/lang/invoke/MethodHandle" ∧ RJ1 ≠ "java/lang/invoke/VarHandle" := ⟨by decide +kernel, by decide +kernel⟩
theorem zds_6 : (parseMethodDescriptor "([BI)C").map (fun d => d.parameters.length) = some 2 := by decide +kernel
theorem zm_yJ1_charAt_3b067 : zMS yJ1_charAt_3b067 cJ1_charAt_3b067 2 (some .char) 2 := ⟨zw_6_9, zw_6_7, zw_6_8, ⟨znc_RJ1.1, znc_RJ1.2, zds_6⟩, by decide⟩
theorem znc_RJ2 : RJ2 ≠ "java/lang/invoke/MethodHandle" ∧ RJ2 ≠ "java/lang/invoke/VarHandle" := ⟨by decide +kernel, by decide +kernel⟩
theorem zm_yJ2_charAt_3b067 : zMS yJ2_charAt_3b067 cJ2_charAt_3b067 2 (some .char) 2 := ⟨zw_6_21, zw_6_19, zw_6_20, ⟨znc_RJ2.1, znc_RJ2.2, zds_6⟩, by decide⟩
theorem zds_7 : (parseMethodDescriptor "(I[B)V").map (fun d => d.parameters.length) = some 2 := by decide +kernel
theorem zm_yJ2_checkIndex_2214a : zMS yJ2_checkIndex_2214a cJ2_checkIndex_2214a 2 none 2 := ⟨zw_7_0, zw_6_23, zw_6_20, ⟨znc_RJ2.1, znc_RJ2.2, zds_7⟩, by decide⟩
theorem zm_yJ2_getChar_3b067 : zMS yJ2_getChar_3b067 cJ2_getChar_3b067 2 (some .char) 2 := ⟨zw_7_7, zw_7_6, zw_6_20, ⟨znc_RJ2.1, znc_RJ2.2, zds_6⟩, by decide⟩
theorem zds_8 : (parseMethodDescriptor "([B)I").map (fun d => d.parameters.length) = some 1 := by decide +kernel
theorem zm_yJ2_length_9d52b : zMS yJ2_length_9d52b cJ2_length_9d52b 1 (some .int) 1 := ⟨zw_7_3, zw_7_2, zw_6_20, ⟨znc_RJ2.1, znc_RJ2.2, zds_8⟩, by decide⟩
theorem znc_RJ3 : RJ3 ≠ "java/lang/invoke/MethodHandle" ∧ RJ3 ≠ "java/lang/invoke/VarHandle" := ⟨by decide +kernel, by decide +kernel⟩
theorem zds_9 : (parseMethodDescriptor "(IILjava/util/function/BiFunction;)I").map (fun d => d.parameters.length) = some 3 := by decide +kernel
theorem zm_yJ3_checkIndex_8e157 : zMS yJ3_checkIndex_8e157 cJ3_checkIndex_8e157 3 (some .int) 3 := ⟨zw_6_17, zw_6_15, zw_6_16, ⟨znc_RJ3.1, znc_RJ3.2, zds_9⟩, by decide⟩
theorem znc_RJ6 : RJ6 ≠ "java/lang/invoke/MethodHandle" ∧ RJ6 ≠ "java/lang/invoke/VarHandle" := ⟨by decide +kernel, by decide +kernel⟩
theorem zds_10 : (parseMethodDescriptor "(I)I").map (fun d => d.parameters.length) = some 1 := by decide +kernel
theorem zm_yJ6_bitCount_0f7a4 : zMS yJ6_bitCount_0f7a4 cJ6_bitCount_0f7a4 1 (some .int) 1 := ⟨zw_37_20, zw_37_18, zw_37_19, ⟨znc_RJ6.1, znc_RJ6.2, zds_10⟩, by decide⟩
theorem znc_RJ9 : RJ9 ≠ "java/lang/invoke/MethodHandle" ∧ RJ9 ≠ "java/lang/invoke/VarHandle" := ⟨by decide +kernel, by decide +kernel⟩
theorem zds_11 : (parseMethodDescriptor "(II)I").map (fun d => d.parameters.length) = some 2 := by decide +kernel
theorem zm_yJ9_floorDiv_7cf53 : zMS yJ9_floorDiv_7cf53 cJ9_floorDiv_7cf53 3 (some .int) 2 := ⟨zw_37_12, zw_37_10, zw_37_11, ⟨znc_RJ9.1, znc_RJ9.2, zds_11⟩, by decide⟩
theorem znc_RX0 : RX0 ≠ "java/lang/invoke/MethodHandle" ∧ RX0 ≠ "java/lang/invoke/VarHandle" := ⟨by decide +kernel, by decide +kernel⟩
theorem zm_yX0_farTo : zMV yX0_farTo cX0_farTo 2 (some .int) 1 := ⟨zw_37_16, zw_37_14, zw_37_15, zw_9_13, ⟨znc_RX0.1, znc_RX0.2, zds_10⟩, by decide⟩
theorem zds_12 : (parseMethodDescriptor "()V").map (fun d => d.parameters.length) = some 0 := by decide +kernel
theorem zm_yX0_init : zMI yX0_init cX0_init 1 0 := ⟨zw_10_6, zw_10_5, zw_9_13, rfl, ⟨znc_RX0.1, znc_RX0.2, zds_12⟩, by decide⟩
theorem zds_13 : (parseMethodDescriptor "(III)I").map (fun d => d.parameters.length) = some 3 := by decide +kernel
theorem zm_yX0_joined : zMS yX0_joined cX0_joined 3 (some .int) 3 := ⟨zw_36_21, zw_36_20, zw_9_13, ⟨znc_RX0.1, znc_RX0.2, zds_13⟩, by decide⟩
theorem zm_yX0_limited : zMS yX0_limited cX0_limited 2 (some .int) 1 := ⟨zw_37_4, zw_37_3, zw_9_13, ⟨znc_RX0.1, znc_RX0.2, zds_5⟩, by decide⟩
theorem zds_14 : (parseMethodDescriptor "(LOnePane$Program;)I").map (fun d => d.parameters.length) = some 1 := by decide +kernel
theorem zm_yX0_run : zMV yX0_run cX0_run 6 (some .int) 1 := ⟨zw_36_13, zw_36_11, zw_36_12, zw_9_13, ⟨znc_RX0.1, znc_RX0.2, zds_14⟩, by decide⟩
theorem zds_15 : (parseMethodDescriptor "(I)Z").map (fun d => d.parameters.length) = some 1 := by decide +kernel
theorem zm_yX0_takesTwo : zMS yX0_takesTwo cX0_takesTwo 1 (some .boolean) 1 := ⟨zw_36_18, zw_36_17, zw_9_13, ⟨znc_RX0.1, znc_RX0.2, zds_15⟩, by decide⟩
theorem znc_RX10 : RX10 ≠ "java/lang/invoke/MethodHandle" ∧ RX10 ≠ "java/lang/invoke/VarHandle" := ⟨by decide +kernel, by decide +kernel⟩
theorem zds_16 : (parseMethodDescriptor "(LOnePane$Plan;)V").map (fun d => d.parameters.length) = some 1 := by decide +kernel
theorem zm_yX10_begin : zMV yX10_begin cX10_begin 3 none 1 := ⟨zw_25_4, zw_25_2, zw_25_3, zw_2_16, ⟨znc_RX10.1, znc_RX10.2, zds_16⟩, by decide⟩
theorem zm_yX10_between : zMV yX10_between cX10_between 4 (some .int) 3 := ⟨zw_34_18, zw_34_16, zw_34_17, zw_2_16, ⟨znc_RX10.1, znc_RX10.2, zds_13⟩, by decide⟩
theorem zm_yX10_init : zMI yX10_init cX10_init 1 0 := ⟨zw_8_2, zw_8_1, zw_2_16, rfl, ⟨znc_RX10.1, znc_RX10.2, zds_12⟩, by decide⟩
theorem zm_yX10_isCracked : zMV yX10_isCracked cX10_isCracked 2 (some .boolean) 1 := ⟨zw_42_10, zw_42_8, zw_42_9, zw_2_16, ⟨znc_RX10.1, znc_RX10.2, zds_15⟩, by decide⟩
theorem zds_17 : (parseMethodDescriptor "(LOnePane$Plan;IJ)V").map (fun d => d.parameters.length) = some 3 := by decide +kernel
theorem zm_yX10_keep : zMV yX10_keep cX10_keep 7 none 3 := ⟨zw_62_3, zw_62_1, zw_62_2, zw_2_16, ⟨znc_RX10.1, znc_RX10.2, zds_17⟩, by decide⟩
theorem zds_18 : (parseMethodDescriptor "(I)V").map (fun d => d.parameters.length) = some 1 := by decide +kernel
theorem zm_yX10_keepOne : zMV yX10_keepOne cX10_keepOne 2 none 1 := ⟨zw_62_9, zw_62_7, zw_62_8, zw_2_16, ⟨znc_RX10.1, znc_RX10.2, zds_18⟩, by decide⟩
theorem zds_19 : (parseMethodDescriptor "(LOnePane$Plan;LOnePane$Tape;)Z").map (fun d => d.parameters.length) = some 2 := by decide +kernel
theorem zm_yX10_readImage : zMV yX10_readImage cX10_readImage 8 (some .boolean) 2 := ⟨zw_68_23, zw_68_21, zw_68_22, zw_2_16, ⟨znc_RX10.1, znc_RX10.2, zds_19⟩, by decide⟩
theorem zds_20 : (parseMethodDescriptor "(LOnePane$Plan;LOnePane$Tape;II)Z").map (fun d => d.parameters.length) = some 4 := by decide +kernel
theorem zm_yX10_readPerson : zMV yX10_readPerson cX10_readPerson 7 (some .boolean) 4 := ⟨zw_69_8, zw_69_6, zw_69_7, zw_2_16, ⟨znc_RX10.1, znc_RX10.2, zds_20⟩, by decide⟩
theorem zds_21 : (parseMethodDescriptor "(LOnePane$Plan;I)I").map (fun d => d.parameters.length) = some 2 := by decide +kernel
theorem zm_yX10_standing : zMV yX10_standing cX10_standing 4 (some .int) 2 := ⟨zw_44_5, zw_44_3, zw_44_4, zw_2_16, ⟨znc_RX10.1, znc_RX10.2, zds_21⟩, by decide⟩
theorem zds_22 : (parseMethodDescriptor "(LOnePane$Town;)V").map (fun d => d.parameters.length) = some 1 := by decide +kernel
theorem zm_yX10_takeAll : zMV yX10_takeAll cX10_takeAll 2 none 1 := ⟨zw_60_9, zw_60_7, zw_60_8, zw_2_16, ⟨znc_RX10.1, znc_RX10.2, zds_22⟩, by decide⟩
theorem zm_yX10_takeLife : zMV yX10_takeLife cX10_takeLife 3 none 1 := ⟨zw_48_17, zw_48_15, zw_48_16, zw_2_16, ⟨znc_RX10.1, znc_RX10.2, zds_22⟩, by decide⟩
theorem zm_yX10_tiredTogether : zMV yX10_tiredTogether cX10_tiredTogether 4 (some .int) 1 := ⟨zw_49_12, zw_49_10, zw_49_11, zw_2_16, ⟨znc_RX10.1, znc_RX10.2, zds_10⟩, by decide⟩
theorem znc_RX11 : RX11 ≠ "java/lang/invoke/MethodHandle" ∧ RX11 ≠ "java/lang/invoke/VarHandle" := ⟨by decide +kernel, by decide +kernel⟩
theorem zm_yX11_answerOf : zMV yX11_answerOf cX11_answerOf 3 (some .int) 2 := ⟨zw_65_5, zw_65_3, zw_65_4, zw_1_2, ⟨znc_RX11.1, znc_RX11.2, zds_11⟩, by decide⟩
theorem zds_23 : (parseMethodDescriptor "()J").map (fun d => d.parameters.length) = some 0 := by decide +kernel
theorem zm_yX11_ask : zMV yX11_ask cX11_ask 3 (some .long) 0 := ⟨zw_64_13, zw_64_11, zw_64_12, zw_1_2, ⟨znc_RX11.1, znc_RX11.2, zds_23⟩, by decide⟩
theorem zm_yX11_balanceNow : zMV yX11_balanceNow cX11_balanceNow 2 (some .int) 0 := ⟨zw_42_14, zw_42_12, zw_42_13, zw_1_2, ⟨znc_RX11.1, znc_RX11.2, zds_4⟩, by decide⟩
theorem zm_yX11_cell : zMV yX11_cell cX11_cell 5 (some .int) 3 := ⟨zw_41_23, zw_41_21, zw_41_22, zw_1_2, ⟨znc_RX11.1, znc_RX11.2, zds_13⟩, by decide⟩
theorem zm_yX11_chance : zMV yX11_chance cX11_chance 6 (some .int) 1 := ⟨zw_62_17, zw_62_15, zw_62_16, zw_1_2, ⟨znc_RX11.1, znc_RX11.2, zds_10⟩, by decide⟩
theorem zm_yX11_crackedWithMended : zMV yX11_crackedWithMended cX11_crackedWithMended 4 (some .int) 2 := ⟨zw_56_6, zw_56_4, zw_56_5, zw_1_2, ⟨znc_RX11.1, znc_RX11.2, zds_11⟩, by decide⟩
theorem zm_yX11_denial : zMV yX11_denial cX11_denial 2 (some .boolean) 1 := ⟨zw_15_3, zw_15_1, zw_15_2, zw_1_2, ⟨znc_RX11.1, znc_RX11.2, zds_15⟩, by decide⟩
theorem zm_yX11_draw : zMV yX11_draw cX11_draw 2 (some .int) 1 := ⟨zw_62_22, zw_62_20, zw_62_21, zw_1_2, ⟨znc_RX11.1, znc_RX11.2, zds_10⟩, by decide⟩
theorem zm_yX11_end : zMV yX11_end cX11_end 2 (some .boolean) 1 := ⟨zw_14_23, zw_14_21, zw_14_22, zw_1_2, ⟨znc_RX11.1, znc_RX11.2, zds_15⟩, by decide⟩
theorem zm_yX11_fault : zMV yX11_fault cX11_fault 2 (some .int) 1 := ⟨zw_33_1, zw_32_23, zw_33_0, zw_1_2, ⟨znc_RX11.1, znc_RX11.2, zds_10⟩, by decide⟩
theorem zds_24 : (parseMethodDescriptor "(IIIII)I").map (fun d => d.parameters.length) = some 5 := by decide +kernel
theorem zm_yX11_feed : zMV yX11_feed cX11_feed 6 (some .int) 5 := ⟨zw_14_1, zw_13_23, zw_14_0, zw_1_2, ⟨znc_RX11.1, znc_RX11.2, zds_24⟩, by decide⟩
theorem zm_yX11_firstFor : zMV yX11_firstFor cX11_firstFor 3 (some .int) 1 := ⟨zw_65_1, zw_64_23, zw_65_0, zw_1_2, ⟨znc_RX11.1, znc_RX11.2, zds_10⟩, by decide⟩
theorem zm_yX11_free : zMV yX11_free cX11_free 1 (some .int) 0 := ⟨zw_52_3, zw_52_1, zw_52_2, zw_1_2, ⟨znc_RX11.1, znc_RX11.2, zds_4⟩, by decide⟩
theorem zds_25 : (parseMethodDescriptor "(III)Z").map (fun d => d.parameters.length) = some 3 := by decide +kernel
theorem zm_yX11_go : zMV yX11_go cX11_go 4 (some .boolean) 3 := ⟨zw_61_7, zw_61_5, zw_61_6, zw_1_2, ⟨znc_RX11.1, znc_RX11.2, zds_25⟩, by decide⟩
theorem zm_yX11_has : zMV yX11_has cX11_has 2 (some .int) 1 := ⟨zw_33_9, zw_33_7, zw_33_8, zw_1_2, ⟨znc_RX11.1, znc_RX11.2, zds_10⟩, by decide⟩
theorem zm_yX11_holdersNow : zMV yX11_holdersNow cX11_holdersNow 1 (some .int) 0 := ⟨zw_34_3, zw_34_1, zw_34_2, zw_1_2, ⟨znc_RX11.1, znc_RX11.2, zds_4⟩, by decide⟩
theorem zm_yX11_hours : zMV yX11_hours cX11_hours 7 (some .int) 1 := ⟨zw_61_23, zw_61_21, zw_61_22, zw_1_2, ⟨znc_RX11.1, znc_RX11.2, zds_10⟩, by decide⟩
theorem zm_yX11_howOften : zMV yX11_howOften cX11_howOften 4 (some .int) 1 := ⟨zw_65_21, zw_65_19, zw_65_20, zw_1_2, ⟨znc_RX11.1, znc_RX11.2, zds_10⟩, by decide⟩
theorem zm_yX11_image : zMV yX11_image cX11_image 2 (some .int) 0 := ⟨zw_67_13, zw_67_11, zw_67_12, zw_1_2, ⟨znc_RX11.1, znc_RX11.2, zds_4⟩, by decide⟩
theorem zm_yX11_init : zMI yX11_init cX11_init 1 0 := ⟨zw_1_8, zw_1_7, zw_1_2, rfl, ⟨znc_RX11.1, znc_RX11.2, zds_12⟩, by decide⟩
theorem zm_yX11_isAhead : zMV yX11_isAhead cX11_isAhead 4 (some .boolean) 3 := ⟨zw_48_5, zw_48_3, zw_48_4, zw_1_2, ⟨znc_RX11.1, znc_RX11.2, zds_25⟩, by decide⟩
theorem zm_yX11_kept : zMV yX11_kept cX11_kept 4 (some .int) 2 := ⟨zw_47_15, zw_47_13, zw_47_14, zw_1_2, ⟨znc_RX11.1, znc_RX11.2, zds_11⟩, by decide⟩
theorem zm_yX11_knock : zMV yX11_knock cX11_knock 2 (some .int) 1 := ⟨zw_59_2, zw_59_0, zw_59_1, zw_1_2, ⟨znc_RX11.1, znc_RX11.2, zds_10⟩, by decide⟩
theorem zm_yX11_lastFor : zMV yX11_lastFor cX11_lastFor 3 (some .int) 1 := ⟨zw_65_17, zw_65_15, zw_65_16, zw_1_2, ⟨znc_RX11.1, znc_RX11.2, zds_10⟩, by decide⟩
theorem zm_yX11_lasts : zMV yX11_lasts cX11_lasts 3 (some .int) 1 := ⟨zw_51_11, zw_51_9, zw_51_10, zw_1_2, ⟨znc_RX11.1, znc_RX11.2, zds_10⟩, by decide⟩
theorem zm_yX11_later : zMV yX11_later cX11_later 4 (some .int) 2 := ⟨zw_48_1, zw_47_23, zw_48_0, zw_1_2, ⟨znc_RX11.1, znc_RX11.2, zds_11⟩, by decide⟩
theorem zm_yX11_least : zMV yX11_least cX11_least 5 (some .int) 1 := ⟨zw_66_10, zw_66_8, zw_66_9, zw_1_2, ⟨znc_RX11.1, znc_RX11.2, zds_10⟩, by decide⟩
theorem zm_yX11_letter : zMV yX11_letter cX11_letter 3 (some .int) 2 := ⟨zw_41_5, zw_41_3, zw_41_4, zw_1_2, ⟨znc_RX11.1, znc_RX11.2, zds_11⟩, by decide⟩
theorem zm_yX11_lifts : zMV yX11_lifts cX11_lifts 4 (some .int) 3 := ⟨zw_47_6, zw_47_4, zw_47_5, zw_1_2, ⟨znc_RX11.1, znc_RX11.2, zds_13⟩, by decide⟩
theorem zm_yX11_lookAhead : zMV yX11_lookAhead cX11_lookAhead 2 none 1 := ⟨zw_48_13, zw_48_11, zw_48_12, zw_1_2, ⟨znc_RX11.1, znc_RX11.2, zds_18⟩, by decide⟩
theorem zds_26 : (parseMethodDescriptor "(II)Z").map (fun d => d.parameters.length) = some 2 := by decide +kernel
theorem zm_yX11_mend : zMV yX11_mend cX11_mend 3 (some .boolean) 2 := ⟨zw_61_15, zw_61_13, zw_61_14, zw_1_2, ⟨znc_RX11.1, znc_RX11.2, zds_26⟩, by decide⟩
theorem zm_yX11_mends : zMV yX11_mends cX11_mends 6 (some .int) 2 := ⟨zw_56_1, zw_55_23, zw_56_0, zw_1_2, ⟨znc_RX11.1, znc_RX11.2, zds_11⟩, by decide⟩
theorem zm_yX11_most : zMV yX11_most cX11_most 5 (some .int) 1 := ⟨zw_66_5, zw_66_3, zw_66_4, zw_1_2, ⟨znc_RX11.1, znc_RX11.2, zds_10⟩, by decide⟩
theorem zm_yX11_needed : zMV yX11_needed cX11_needed 1 (some .int) 0 := ⟨zw_52_23, zw_52_21, zw_52_22, zw_1_2, ⟨znc_RX11.1, znc_RX11.2, zds_4⟩, by decide⟩
theorem zm_yX11_next : zMV yX11_next cX11_next 3 (some .int) 0 := ⟨zw_51_2, zw_51_0, zw_51_1, zw_1_2, ⟨znc_RX11.1, znc_RX11.2, zds_4⟩, by decide⟩
theorem zm_yX11_octet : zMV yX11_octet cX11_octet 2 (some .int) 1 := ⟨zw_68_10, zw_68_8, zw_68_9, zw_1_2, ⟨znc_RX11.1, znc_RX11.2, zds_10⟩, by decide⟩
theorem zm_yX11_on : zMV yX11_on cX11_on 2 (some .boolean) 0 := ⟨zw_68_19, zw_68_17, zw_68_18, zw_1_2, ⟨znc_RX11.1, znc_RX11.2, zds_3⟩, by decide⟩
theorem zm_yX11_packed : zMS yX11_packed cX11_packed 2 (some .int) 2 := ⟨zw_54_19, zw_54_18, zw_1_2, ⟨znc_RX11.1, znc_RX11.2, zds_11⟩, by decide⟩
theorem zm_yX11_pane : zMV yX11_pane cX11_pane 3 (some .int) 0 := ⟨zw_15_11, zw_15_9, zw_15_10, zw_1_2, ⟨znc_RX11.1, znc_RX11.2, zds_4⟩, by decide⟩
theorem zm_yX11_person : zMV yX11_person cX11_person 3 (some .int) 2 := ⟨zw_46_18, zw_46_16, zw_46_17, zw_1_2, ⟨znc_RX11.1, znc_RX11.2, zds_11⟩, by decide⟩
theorem zm_yX11_refusal : zMV yX11_refusal cX11_refusal 2 (some .int) 1 := ⟨zw_14_6, zw_14_4, zw_14_5, zw_1_2, ⟨znc_RX11.1, znc_RX11.2, zds_10⟩, by decide⟩
theorem zm_yX11_rememberFault : zMV yX11_rememberFault cX11_rememberFault 1 none 0 := ⟨zw_24_22, zw_24_20, zw_24_21, zw_1_2, ⟨znc_RX11.1, znc_RX11.2, zds_12⟩, by decide⟩
theorem zm_yX11_rest : zMV yX11_rest cX11_rest 3 (some .boolean) 2 := ⟨zw_60_0, zw_59_22, zw_59_23, zw_1_2, ⟨znc_RX11.1, znc_RX11.2, zds_26⟩, by decide⟩
theorem zm_yX11_seed : zMV yX11_seed cX11_seed 2 (some .boolean) 1 := ⟨zw_64_5, zw_64_3, zw_64_4, zw_1_2, ⟨znc_RX11.1, znc_RX11.2, zds_15⟩, by decide⟩
theorem zds_27 : (parseMethodDescriptor "(II)J").map (fun d => d.parameters.length) = some 2 := by decide +kernel
theorem zm_yX11_slack : zMV yX11_slack cX11_slack 3 (some .long) 2 := ⟨zw_45_19, zw_45_17, zw_45_18, zw_1_2, ⟨znc_RX11.1, znc_RX11.2, zds_27⟩, by decide⟩
theorem zm_yX11_sound : zMV yX11_sound cX11_sound 2 (some .int) 0 := ⟨zw_56_16, zw_56_14, zw_56_15, zw_1_2, ⟨znc_RX11.1, znc_RX11.2, zds_4⟩, by decide⟩
theorem zm_yX11_stand : zMV yX11_stand cX11_stand 4 (some .int) 2 := ⟨zw_54_6, zw_54_4, zw_54_5, zw_1_2, ⟨znc_RX11.1, znc_RX11.2, zds_11⟩, by decide⟩
theorem zm_yX11_status : zMV yX11_status cX11_status 2 (some .int) 1 := ⟨zw_70_2, zw_70_0, zw_70_1, zw_1_2, ⟨znc_RX11.1, znc_RX11.2, zds_10⟩, by decide⟩
theorem zm_yX11_staysWhole : zMV yX11_staysWhole cX11_staysWhole 4 (some .boolean) 2 := ⟨zw_51_15, zw_51_13, zw_51_14, zw_1_2, ⟨znc_RX11.1, znc_RX11.2, zds_26⟩, by decide⟩
theorem zm_yX11_tellFound : zMV yX11_tellFound cX11_tellFound 3 (some .int) 2 := ⟨zw_54_23, zw_54_21, zw_54_22, zw_1_2, ⟨znc_RX11.1, znc_RX11.2, zds_11⟩, by decide⟩
theorem zds_28 : (parseMethodDescriptor "(I)J").map (fun d => d.parameters.length) = some 1 := by decide +kernel
theorem zm_yX11_total : zMV yX11_total cX11_total 5 (some .long) 1 := ⟨zw_66_1, zw_65_23, zw_66_0, zw_1_2, ⟨znc_RX11.1, znc_RX11.2, zds_28⟩, by decide⟩
theorem zm_yX11_undo : zMV yX11_undo cX11_undo 1 (some .boolean) 0 := ⟨zw_63_17, zw_63_15, zw_63_16, zw_1_2, ⟨znc_RX11.1, znc_RX11.2, zds_3⟩, by decide⟩
theorem zm_yX11_weak : zMV yX11_weak cX11_weak 2 (some .int) 1 := ⟨zw_55_13, zw_55_11, zw_55_12, zw_1_2, ⟨znc_RX11.1, znc_RX11.2, zds_10⟩, by decide⟩
theorem zm_yX11_who : zMV yX11_who cX11_who 2 (some .int) 1 := ⟨zw_57_17, zw_57_15, zw_57_16, zw_1_2, ⟨znc_RX11.1, znc_RX11.2, zds_10⟩, by decide⟩
theorem znc_RX12 : RX12 ≠ "java/lang/invoke/MethodHandle" ∧ RX12 ≠ "java/lang/invoke/VarHandle" := ⟨by decide +kernel, by decide +kernel⟩
theorem zm_yX12_addsOf : zMV yX12_addsOf cX12_addsOf 4 (some .int) 1 := ⟨zw_45_10, zw_45_8, zw_45_9, zw_1_5, ⟨znc_RX12.1, znc_RX12.2, zds_10⟩, by decide⟩
theorem zm_yX12_apart : zMS yX12_apart cX12_apart 4 (some .int) 2 := ⟨zw_40_6, zw_40_5, zw_1_5, ⟨znc_RX12.1, znc_RX12.2, zds_11⟩, by decide⟩
theorem zm_yX12_ask : zMV yX12_ask cX12_ask 3 (some .long) 0 := ⟨zw_66_14, zw_66_12, zw_66_13, zw_1_5, ⟨znc_RX12.1, znc_RX12.2, zds_23⟩, by decide⟩
theorem zds_29 : (parseMethodDescriptor "([C)V").map (fun d => d.parameters.length) = some 1 := by decide +kernel
theorem zm_yX12_asks : zMV yX12_asks cX12_asks 2 none 1 := ⟨zw_26_3, zw_26_1, zw_26_2, zw_1_5, ⟨znc_RX12.1, znc_RX12.2, zds_29⟩, by decide⟩
theorem zm_yX12_asksSign : zMV yX12_asksSign cX12_asksSign 2 none 1 := ⟨zw_27_13, zw_27_11, zw_27_12, zw_1_5, ⟨znc_RX12.1, znc_RX12.2, zds_18⟩, by decide⟩
theorem zm_yX12_awake : zMV yX12_awake cX12_awake 3 (some .int) 0 := ⟨zw_41_1, zw_40_23, zw_41_0, zw_1_5, ⟨znc_RX12.1, znc_RX12.2, zds_4⟩, by decide⟩
theorem zm_yX12_bits : zMS yX12_bits cX12_bits 3 (some .int) 1 := ⟨zw_40_21, zw_40_20, zw_1_5, ⟨znc_RX12.1, znc_RX12.2, zds_10⟩, by decide⟩
theorem zm_yX12_cell : zMV yX12_cell cX12_cell 5 (some .int) 3 := ⟨zw_44_10, zw_44_8, zw_44_9, zw_1_5, ⟨znc_RX12.1, znc_RX12.2, zds_13⟩, by decide⟩
theorem zm_yX12_cellAt : zMV yX12_cellAt cX12_cellAt 3 (some .int) 2 := ⟨zw_44_14, zw_44_12, zw_44_13, zw_1_5, ⟨znc_RX12.1, znc_RX12.2, zds_11⟩, by decide⟩
theorem zm_yX12_cellMany : zMV yX12_cellMany cX12_cellMany 1 (some .int) 0 := ⟨zw_44_22, zw_44_20, zw_44_21, zw_1_5, ⟨znc_RX12.1, znc_RX12.2, zds_4⟩, by decide⟩
theorem zm_yX12_cellOf : zMV yX12_cellOf cX12_cellOf 2 (some .int) 1 := ⟨zw_45_2, zw_45_0, zw_45_1, zw_1_5, ⟨znc_RX12.1, znc_RX12.2, zds_10⟩, by decide⟩
theorem zm_yX12_cellTold : zMV yX12_cellTold cX12_cellTold 3 (some .int) 0 := ⟨zw_28_5, zw_28_3, zw_28_4, zw_1_5, ⟨znc_RX12.1, znc_RX12.2, zds_4⟩, by decide⟩
theorem zm_yX12_chance : zMV yX12_chance cX12_chance 4 (some .int) 1 := ⟨zw_63_5, zw_63_3, zw_63_4, zw_1_5, ⟨znc_RX12.1, znc_RX12.2, zds_10⟩, by decide⟩
theorem zds_30 : (parseMethodDescriptor "([II)I").map (fun d => d.parameters.length) = some 2 := by decide +kernel
theorem zm_yX12_checked : zMS yX12_checked cX12_checked 4 (some .int) 2 := ⟨zw_68_6, zw_68_5, zw_1_5, ⟨znc_RX12.1, znc_RX12.2, zds_30⟩, by decide⟩
theorem zm_yX12_codesTell : zMV yX12_codesTell cX12_codesTell 5 (some .long) 2 := ⟨zw_38_23, zw_38_21, zw_38_22, zw_1_5, ⟨znc_RX12.1, znc_RX12.2, zds_27⟩, by decide⟩
theorem zm_yX12_codesTold : zMV yX12_codesTold cX12_codesTold 4 none 2 := ⟨zw_29_0, zw_28_22, zw_28_23, zw_1_5, ⟨znc_RX12.1, znc_RX12.2, zds_1⟩, by decide⟩
theorem zm_yX12_crackedMany : zMV yX12_crackedMany cX12_crackedMany 3 (some .int) 0 := ⟨zw_38_11, zw_38_9, zw_38_10, zw_1_5, ⟨znc_RX12.1, znc_RX12.2, zds_4⟩, by decide⟩
theorem zm_yX12_cracksBy : zMV yX12_cracksBy cX12_cracksBy 4 (some .int) 1 := ⟨zw_52_19, zw_52_17, zw_52_18, zw_1_5, ⟨znc_RX12.1, znc_RX12.2, zds_10⟩, by decide⟩
theorem zm_yX12_drawOf : zMV yX12_drawOf cX12_drawOf 2 (some .int) 1 := ⟨zw_63_9, zw_63_7, zw_63_8, zw_1_5, ⟨znc_RX12.1, znc_RX12.2, zds_10⟩, by decide⟩
theorem zm_yX12_end : zMV yX12_end cX12_end 2 (some .boolean) 1 := ⟨zw_15_7, zw_15_5, zw_15_6, zw_1_5, ⟨znc_RX12.1, znc_RX12.2, zds_15⟩, by decide⟩
theorem zm_yX12_fail : zMV yX12_fail cX12_fail 3 none 2 := ⟨zw_26_22, zw_26_20, zw_26_21, zw_1_5, ⟨znc_RX12.1, znc_RX12.2, zds_1⟩, by decide⟩
theorem zm_yX12_fault : zMV yX12_fault cX12_fault 2 (some .int) 1 := ⟨zw_33_5, zw_33_3, zw_33_4, zw_1_5, ⟨znc_RX12.1, znc_RX12.2, zds_10⟩, by decide⟩
theorem zm_yX12_feed : zMV yX12_feed cX12_feed 8 (some .int) 5 := ⟨zw_14_18, zw_14_16, zw_14_17, zw_1_5, ⟨znc_RX12.1, znc_RX12.2, zds_24⟩, by decide⟩
theorem zm_yX12_free : zMV yX12_free cX12_free 5 (some .int) 0 := ⟨zw_52_15, zw_52_13, zw_52_14, zw_1_5, ⟨znc_RX12.1, znc_RX12.2, zds_4⟩, by decide⟩
theorem zm_yX12_go : zMV yX12_go cX12_go 5 (some .boolean) 3 := ⟨zw_61_11, zw_61_9, zw_61_10, zw_1_5, ⟨znc_RX12.1, znc_RX12.2, zds_25⟩, by decide⟩
theorem zm_yX12_has : zMV yX12_has cX12_has 2 (some .int) 1 := ⟨zw_38_3, zw_38_1, zw_38_2, zw_1_5, ⟨znc_RX12.1, znc_RX12.2, zds_10⟩, by decide⟩
theorem zm_yX12_heavyTold : zMV yX12_heavyTold cX12_heavyTold 3 none 0 := ⟨zw_28_1, zw_27_23, zw_28_0, zw_1_5, ⟨znc_RX12.1, znc_RX12.2, zds_12⟩, by decide⟩
theorem zm_yX12_holders : zMV yX12_holders cX12_holders 3 (some .int) 0 := ⟨zw_38_15, zw_38_13, zw_38_14, zw_1_5, ⟨znc_RX12.1, znc_RX12.2, zds_4⟩, by decide⟩
theorem zm_yX12_hourGoes : zMV yX12_hourGoes cX12_hourGoes 4 none 0 := ⟨zw_50_10, zw_50_8, zw_50_9, zw_1_5, ⟨znc_RX12.1, znc_RX12.2, zds_12⟩, by decide⟩
theorem zm_yX12_hours : zMV yX12_hours cX12_hours 2 (some .int) 1 := ⟨zw_62_13, zw_62_11, zw_62_12, zw_1_5, ⟨znc_RX12.1, znc_RX12.2, zds_10⟩, by decide⟩
theorem zm_yX12_hoursGo : zMV yX12_hoursGo cX12_hoursGo 3 none 1 := ⟨zw_50_6, zw_50_4, zw_50_5, zw_1_5, ⟨znc_RX12.1, znc_RX12.2, zds_18⟩, by decide⟩
theorem zm_yX12_image : zMV yX12_image cX12_image 2 (some .int) 0 := ⟨zw_67_22, zw_67_20, zw_67_21, zw_1_5, ⟨znc_RX12.1, znc_RX12.2, zds_4⟩, by decide⟩
theorem zm_yX12_init : zMI yX12_init cX12_init 1 0 := ⟨zw_10_14, zw_10_13, zw_1_5, rfl, ⟨znc_RX12.1, znc_RX12.2, zds_12⟩, by decide⟩
theorem zm_yX12_isAhead : zMV yX12_isAhead cX12_isAhead 4 (some .boolean) 3 := ⟨zw_49_20, zw_49_18, zw_49_19, zw_1_5, ⟨znc_RX12.1, znc_RX12.2, zds_25⟩, by decide⟩
theorem zm_yX12_isAllowed : zMV yX12_isAllowed cX12_isAllowed 2 (some .boolean) 1 := ⟨zw_30_17, zw_30_15, zw_30_16, zw_1_5, ⟨znc_RX12.1, znc_RX12.2, zds_15⟩, by decide⟩
theorem zm_yX12_isAsHeard : zMV yX12_isAsHeard cX12_isAsHeard 3 (some .boolean) 1 := ⟨zw_58_22, zw_58_20, zw_58_21, zw_1_5, ⟨znc_RX12.1, znc_RX12.2, zds_15⟩, by decide⟩
theorem zm_yX12_isAtRest : zMV yX12_isAtRest cX12_isAtRest 2 (some .boolean) 1 := ⟨zw_38_19, zw_38_17, zw_38_18, zw_1_5, ⟨znc_RX12.1, znc_RX12.2, zds_15⟩, by decide⟩
theorem zm_yX12_isCracked : zMV yX12_isCracked cX12_isCracked 2 (some .boolean) 1 := ⟨zw_45_6, zw_45_4, zw_45_5, zw_1_5, ⟨znc_RX12.1, znc_RX12.2, zds_15⟩, by decide⟩
theorem zm_yX12_isDigit : zMS yX12_isDigit cX12_isDigit 1 (some .boolean) 1 := ⟨zw_27_6, zw_27_5, zw_1_5, ⟨znc_RX12.1, znc_RX12.2, zds_15⟩, by decide⟩
theorem zds_31 : (parseMethodDescriptor "([C)Z").map (fun d => d.parameters.length) = some 1 := by decide +kernel
theorem zm_yX12_isHere : zMV yX12_isHere cX12_isHere 4 (some .boolean) 1 := ⟨zw_26_11, zw_26_9, zw_26_10, zw_1_5, ⟨znc_RX12.1, znc_RX12.2, zds_31⟩, by decide⟩
theorem zm_yX12_isImage : zMV yX12_isImage cX12_isImage 4 (some .boolean) 1 := ⟨zw_69_18, zw_69_16, zw_69_17, zw_1_5, ⟨znc_RX12.1, znc_RX12.2, zds_15⟩, by decide⟩
theorem zds_32 : (parseMethodDescriptor "(JJJ)Z").map (fun d => d.parameters.length) = some 3 := by decide +kernel
theorem zm_yX12_isIn : zMS yX12_isIn cX12_isIn 6 (some .boolean) 3 := ⟨zw_27_9, zw_27_8, zw_1_5, ⟨znc_RX12.1, znc_RX12.2, zds_32⟩, by decide⟩
theorem zm_yX12_isKept : zMV yX12_isKept cX12_isKept 3 none 1 := ⟨zw_50_14, zw_50_12, zw_50_13, zw_1_5, ⟨znc_RX12.1, znc_RX12.2, zds_18⟩, by decide⟩
theorem zm_yX12_isLetter : zMS yX12_isLetter cX12_isLetter 1 (some .boolean) 1 := ⟨zw_26_18, zw_26_17, zw_1_5, ⟨znc_RX12.1, znc_RX12.2, zds_15⟩, by decide⟩
theorem zm_yX12_isOwnHere : zMV yX12_isOwnHere cX12_isOwnHere 2 (some .boolean) 0 := ⟨zw_28_20, zw_28_18, zw_28_19, zw_1_5, ⟨znc_RX12.1, znc_RX12.2, zds_3⟩, by decide⟩
theorem zm_yX12_isPerson : zMV yX12_isPerson cX12_isPerson 2 (some .boolean) 1 := ⟨zw_41_19, zw_41_17, zw_41_18, zw_1_5, ⟨znc_RX12.1, znc_RX12.2, zds_15⟩, by decide⟩
theorem zm_yX12_isPersonTold : zMV yX12_isPersonTold cX12_isPersonTold 5 (some .boolean) 2 := ⟨zw_69_22, zw_69_20, zw_69_21, zw_1_5, ⟨znc_RX12.1, znc_RX12.2, zds_26⟩, by decide⟩
theorem zm_yX12_isRefused : zMV yX12_isRefused cX12_isRefused 1 (some .boolean) 0 := ⟨zw_60_22, zw_60_20, zw_60_21, zw_1_5, ⟨znc_RX12.1, znc_RX12.2, zds_3⟩, by decide⟩
theorem zm_yX12_keeps : zMV yX12_keeps cX12_keeps 2 none 0 := ⟨zw_61_2, zw_61_0, zw_61_1, zw_1_5, ⟨znc_RX12.1, znc_RX12.2, zds_12⟩, by decide⟩
theorem zm_yX12_kept : zMV yX12_kept cX12_kept 3 (some .int) 2 := ⟨zw_47_20, zw_47_18, zw_47_19, zw_1_5, ⟨znc_RX12.1, znc_RX12.2, zds_11⟩, by decide⟩
theorem zm_yX12_knock : zMV yX12_knock cX12_knock 7 (some .int) 1 := ⟨zw_59_16, zw_59_14, zw_59_15, zw_1_5, ⟨znc_RX12.1, znc_RX12.2, zds_10⟩, by decide⟩
theorem zm_yX12_lasts : zMV yX12_lasts cX12_lasts 5 (some .int) 1 := ⟨zw_51_19, zw_51_17, zw_51_18, zw_1_5, ⟨znc_RX12.1, znc_RX12.2, zds_10⟩, by decide⟩
theorem zm_yX12_later : zMV yX12_later cX12_later 4 (some .int) 2 := ⟨zw_49_16, zw_49_14, zw_49_15, zw_1_5, ⟨znc_RX12.1, znc_RX12.2, zds_11⟩, by decide⟩
theorem zm_yX12_laysLoads : zMV yX12_laysLoads cX12_laysLoads 6 none 0 := ⟨zw_44_18, zw_44_16, zw_44_17, zw_1_5, ⟨znc_RX12.1, znc_RX12.2, zds_12⟩, by decide⟩
theorem zm_yX12_laysSets : zMV yX12_laysSets cX12_laysSets 3 none 0 := ⟨zw_58_18, zw_58_16, zw_58_17, zw_1_5, ⟨znc_RX12.1, znc_RX12.2, zds_12⟩, by decide⟩
theorem zm_yX12_letter : zMV yX12_letter cX12_letter 8 (some .int) 2 := ⟨zw_41_15, zw_41_13, zw_41_14, zw_1_5, ⟨znc_RX12.1, znc_RX12.2, zds_11⟩, by decide⟩
theorem zm_yX12_liftBy : zMV yX12_liftBy cX12_liftBy 5 (some .int) 2 := ⟨zw_46_10, zw_46_8, zw_46_9, zw_1_5, ⟨znc_RX12.1, znc_RX12.2, zds_11⟩, by decide⟩
theorem zm_yX12_liftOf : zMV yX12_liftOf cX12_liftOf 5 (some .int) 3 := ⟨zw_46_14, zw_46_12, zw_46_13, zw_1_5, ⟨znc_RX12.1, znc_RX12.2, zds_13⟩, by decide⟩
theorem zm_yX12_lifts : zMV yX12_lifts cX12_lifts 5 (some .int) 3 := ⟨zw_47_11, zw_47_9, zw_47_10, zw_1_5, ⟨znc_RX12.1, znc_RX12.2, zds_13⟩, by decide⟩
theorem zm_yX12_look : zMV yX12_look cX12_look 1 (some .int) 0 := ⟨zw_26_15, zw_26_13, zw_26_14, zw_1_5, ⟨znc_RX12.1, znc_RX12.2, zds_4⟩, by decide⟩
theorem zm_yX12_mend : zMV yX12_mend cX12_mend 4 (some .boolean) 2 := ⟨zw_61_19, zw_61_17, zw_61_18, zw_1_5, ⟨znc_RX12.1, znc_RX12.2, zds_26⟩, by decide⟩
theorem zm_yX12_mends : zMV yX12_mends cX12_mends 8 (some .int) 2 := ⟨zw_56_12, zw_56_10, zw_56_11, zw_1_5, ⟨znc_RX12.1, znc_RX12.2, zds_11⟩, by decide⟩
theorem zm_yX12_mostAlike : zMV yX12_mostAlike cX12_mostAlike 5 (some .int) 1 := ⟨zw_59_20, zw_59_18, zw_59_19, zw_1_5, ⟨znc_RX12.1, znc_RX12.2, zds_10⟩, by decide⟩
theorem zm_yX12_name : zMV yX12_name cX12_name 3 (some .long) 0 := ⟨zw_28_14, zw_28_12, zw_28_13, zw_1_5, ⟨znc_RX12.1, znc_RX12.2, zds_23⟩, by decide⟩
theorem zm_yX12_nearOf : zMV yX12_nearOf cX12_nearOf 4 (some .int) 1 := ⟨zw_39_23, zw_39_21, zw_39_22, zw_1_5, ⟨znc_RX12.1, znc_RX12.2, zds_10⟩, by decide⟩
theorem zm_yX12_needed : zMV yX12_needed cX12_needed 4 (some .int) 0 := ⟨zw_54_2, zw_54_0, zw_54_1, zw_1_5, ⟨znc_RX12.1, znc_RX12.2, zds_4⟩, by decide⟩
theorem zm_yX12_next : zMV yX12_next cX12_next 3 (some .int) 0 := ⟨zw_51_7, zw_51_5, zw_51_6, zw_1_5, ⟨znc_RX12.1, znc_RX12.2, zds_4⟩, by decide⟩
theorem zm_yX12_number : zMV yX12_number cX12_number 5 (some .int) 2 := ⟨zw_27_2, zw_27_0, zw_27_1, zw_1_5, ⟨znc_RX12.1, znc_RX12.2, zds_11⟩, by decide⟩
theorem zm_yX12_octet : zMV yX12_octet cX12_octet 2 (some .int) 1 := ⟨zw_68_15, zw_68_13, zw_68_14, zw_1_5, ⟨znc_RX12.1, znc_RX12.2, zds_10⟩, by decide⟩
theorem zm_yX12_on : zMV yX12_on cX12_on 5 (some .boolean) 0 := ⟨zw_69_14, zw_69_12, zw_69_13, zw_1_5, ⟨znc_RX12.1, znc_RX12.2, zds_3⟩, by decide⟩
theorem zm_yX12_pane : zMV yX12_pane cX12_pane 2 (some .int) 0 := ⟨zw_25_11, zw_25_9, zw_25_10, zw_1_5, ⟨znc_RX12.1, znc_RX12.2, zds_4⟩, by decide⟩
theorem zm_yX12_paneTold : zMV yX12_paneTold cX12_paneTold 1 none 0 := ⟨zw_25_23, zw_25_21, zw_25_22, zw_1_5, ⟨znc_RX12.1, znc_RX12.2, zds_12⟩, by decide⟩
theorem zm_yX12_peopleMany : zMV yX12_peopleMany cX12_peopleMany 1 (some .int) 0 := ⟨zw_38_7, zw_38_5, zw_38_6, zw_1_5, ⟨znc_RX12.1, znc_RX12.2, zds_4⟩, by decide⟩
theorem zm_yX12_person : zMV yX12_person cX12_person 3 (some .int) 2 := ⟨zw_47_2, zw_47_0, zw_47_1, zw_1_5, ⟨znc_RX12.1, znc_RX12.2, zds_11⟩, by decide⟩
theorem zm_yX12_placeOf : zMV yX12_placeOf cX12_placeOf 2 (some .int) 1 := ⟨zw_40_3, zw_40_1, zw_40_2, zw_1_5, ⟨znc_RX12.1, znc_RX12.2, zds_10⟩, by decide⟩
theorem zm_yX12_poleTold : zMV yX12_poleTold cX12_poleTold 6 none 1 := ⟨zw_28_9, zw_28_7, zw_28_8, zw_1_5, ⟨znc_RX12.1, znc_RX12.2, zds_18⟩, by decide⟩
theorem zm_yX12_putsAside : zMV yX12_putsAside cX12_putsAside 2 none 0 := ⟨zw_50_0, zw_49_22, zw_49_23, zw_1_5, ⟨znc_RX12.1, znc_RX12.2, zds_12⟩, by decide⟩
theorem zm_yX12_qAsksWord : zMV yX12_qAsksWord cX12_qAsksWord 2 none 1 := ⟨zw_30_23, zw_30_21, zw_30_22, zw_1_5, ⟨znc_RX12.1, znc_RX12.2, zds_18⟩, by decide⟩
theorem zm_yX12_qBracket : zMV yX12_qBracket cX12_qBracket 2 (some .int) 0 := ⟨zw_31_15, zw_31_13, zw_31_14, zw_1_5, ⟨znc_RX12.1, znc_RX12.2, zds_4⟩, by decide⟩
theorem zds_33 : (parseMethodDescriptor "(J)J").map (fun d => d.parameters.length) = some 1 := by decide +kernel
theorem zm_yX12_qClip : zMS yX12_qClip cX12_qClip 2 (some .long) 1 := ⟨zw_40_13, zw_40_12, zw_1_5, ⟨znc_RX12.1, znc_RX12.2, zds_33⟩, by decide⟩
theorem zm_yX12_qCode : zMV yX12_qCode cX12_qCode 2 none 1 := ⟨zw_29_21, zw_29_19, zw_29_20, zw_1_5, ⟨znc_RX12.1, znc_RX12.2, zds_18⟩, by decide⟩
theorem zm_yX12_qDrops : zMV yX12_qDrops cX12_qDrops 1 none 0 := ⟨zw_31_7, zw_31_5, zw_31_6, zw_1_5, ⟨znc_RX12.1, znc_RX12.2, zds_12⟩, by decide⟩
theorem zm_yX12_qDropsNots : zMV yX12_qDropsNots cX12_qDropsNots 1 none 0 := ⟨zw_32_6, zw_32_4, zw_32_5, zw_1_5, ⟨znc_RX12.1, znc_RX12.2, zds_12⟩, by decide⟩
theorem zm_yX12_qDropsToBracket : zMV yX12_qDropsToBracket cX12_qDropsToBracket 1 none 0 := ⟨zw_31_22, zw_31_20, zw_31_21, zw_1_5, ⟨znc_RX12.1, znc_RX12.2, zds_12⟩, by decide⟩
theorem zm_yX12_qEndsPart : zMV yX12_qEndsPart cX12_qEndsPart 1 none 0 := ⟨zw_31_3, zw_31_1, zw_31_2, zw_1_5, ⟨znc_RX12.1, znc_RX12.2, zds_12⟩, by decide⟩
theorem zm_yX12_qFact : zMV yX12_qFact cX12_qFact 2 none 0 := ⟨zw_29_17, zw_29_15, zw_29_16, zw_1_5, ⟨znc_RX12.1, znc_RX12.2, zds_12⟩, by decide⟩
theorem zds_34 : (parseMethodDescriptor "(JJ)J").map (fun d => d.parameters.length) = some 2 := by decide +kernel
theorem zm_yX12_qFloor : zMS yX12_qFloor cX12_qFloor 6 (some .long) 2 := ⟨zw_40_18, zw_40_17, zw_1_5, ⟨znc_RX12.1, znc_RX12.2, zds_34⟩, by decide⟩
theorem zm_yX12_qGoesOn : zMV yX12_qGoesOn cX12_qGoesOn 2 (some .boolean) 0 := ⟨zw_31_11, zw_31_9, zw_31_10, zw_1_5, ⟨znc_RX12.1, znc_RX12.2, zds_3⟩, by decide⟩
theorem zm_yX12_qGoesOnTest : zMV yX12_qGoesOnTest cX12_qGoesOnTest 1 (some .boolean) 0 := ⟨zw_32_10, zw_32_8, zw_32_9, zw_1_5, ⟨znc_RX12.1, znc_RX12.2, zds_3⟩, by decide⟩
theorem zm_yX12_qHasSquare : zMV yX12_qHasSquare cX12_qHasSquare 2 (some .boolean) 0 := ⟨zw_32_14, zw_32_12, zw_32_13, zw_1_5, ⟨znc_RX12.1, znc_RX12.2, zds_3⟩, by decide⟩
theorem zm_yX12_qIsBracket : zMS yX12_qIsBracket cX12_qIsBracket 1 (some .boolean) 1 := ⟨zw_31_18, zw_31_17, zw_1_5, ⟨znc_RX12.1, znc_RX12.2, zds_15⟩, by decide⟩
theorem zm_yX12_qIsOn : zMV yX12_qIsOn cX12_qIsOn 2 (some .boolean) 1 := ⟨zw_32_2, zw_32_0, zw_32_1, zw_1_5, ⟨znc_RX12.1, znc_RX12.2, zds_15⟩, by decide⟩
theorem zm_yX12_qJoins : zMV yX12_qJoins cX12_qJoins 6 none 1 := ⟨zw_40_10, zw_40_8, zw_40_9, zw_1_5, ⟨znc_RX12.1, znc_RX12.2, zds_18⟩, by decide⟩
theorem zm_yX12_qKind : zMV yX12_qKind cX12_qKind 2 (some .int) 0 := ⟨zw_66_21, zw_66_19, zw_66_20, zw_1_5, ⟨znc_RX12.1, znc_RX12.2, zds_4⟩, by decide⟩
theorem zds_35 : (parseMethodDescriptor "(IJI)J").map (fun d => d.parameters.length) = some 3 := by decide +kernel
theorem zm_yX12_qOf : zMV yX12_qOf cX12_qOf 5 (some .long) 3 := ⟨zw_67_5, zw_67_3, zw_67_4, zw_1_5, ⟨znc_RX12.1, znc_RX12.2, zds_35⟩, by decide⟩
theorem zm_yX12_qOpens : zMV yX12_qOpens cX12_qOpens 3 none 2 := ⟨zw_29_13, zw_29_11, zw_29_12, zw_1_5, ⟨znc_RX12.1, znc_RX12.2, zds_1⟩, by decide⟩
theorem zm_yX12_qPartOf : zMV yX12_qPartOf cX12_qPartOf 3 (some .long) 2 := ⟨zw_39_8, zw_39_6, zw_39_7, zw_1_5, ⟨znc_RX12.1, znc_RX12.2, zds_27⟩, by decide⟩
theorem zm_yX12_qPartTold : zMV yX12_qPartTold cX12_qPartTold 6 none 0 := ⟨zw_30_5, zw_30_3, zw_30_4, zw_1_5, ⟨znc_RX12.1, znc_RX12.2, zds_12⟩, by decide⟩
theorem zds_36 : (parseMethodDescriptor "(J)V").map (fun d => d.parameters.length) = some 1 := by decide +kernel
theorem zm_yX12_qPuts : zMV yX12_qPuts cX12_qPuts 3 none 1 := ⟨zw_39_4, zw_39_2, zw_39_3, zw_1_5, ⟨znc_RX12.1, znc_RX12.2, zds_36⟩, by decide⟩
theorem zm_yX12_qSums : zMV yX12_qSums cX12_qSums 3 none 0 := ⟨zw_30_1, zw_29_23, zw_30_0, zw_1_5, ⟨znc_RX12.1, znc_RX12.2, zds_12⟩, by decide⟩
theorem zds_37 : (parseMethodDescriptor "(IJI)V").map (fun d => d.parameters.length) = some 3 := by decide +kernel
theorem zm_yX12_qTakes : zMV yX12_qTakes cX12_qTakes 6 none 3 := ⟨zw_67_9, zw_67_7, zw_67_8, zw_1_5, ⟨znc_RX12.1, znc_RX12.2, zds_37⟩, by decide⟩
theorem zm_yX12_qTest : zMV yX12_qTest cX12_qTest 3 none 0 := ⟨zw_29_9, zw_29_7, zw_29_8, zw_1_5, ⟨znc_RX12.1, znc_RX12.2, zds_12⟩, by decide⟩
theorem zm_yX12_qTold : zMV yX12_qTold cX12_qTold 4 (some .long) 1 := ⟨zw_67_1, zw_66_23, zw_67_0, zw_1_5, ⟨znc_RX12.1, znc_RX12.2, zds_28⟩, by decide⟩
theorem zm_yX12_qWordHere : zMV yX12_qWordHere cX12_qWordHere 1 (some .int) 0 := ⟨zw_30_13, zw_30_11, zw_30_12, zw_1_5, ⟨znc_RX12.1, znc_RX12.2, zds_4⟩, by decide⟩
theorem zm_yX12_qWordOf : zMV yX12_qWordOf cX12_qWordOf 4 (some .int) 2 := ⟨zw_30_9, zw_30_7, zw_30_8, zw_1_5, ⟨znc_RX12.1, znc_RX12.2, zds_11⟩, by decide⟩
theorem zm_yX12_refuses : zMV yX12_refuses cX12_refuses 2 (some .int) 1 := ⟨zw_57_13, zw_57_11, zw_57_12, zw_1_5, ⟨znc_RX12.1, znc_RX12.2, zds_10⟩, by decide⟩
theorem zm_yX12_rest : zMV yX12_rest cX12_rest 3 (some .boolean) 2 := ⟨zw_60_18, zw_60_16, zw_60_17, zw_1_5, ⟨znc_RX12.1, znc_RX12.2, zds_26⟩, by decide⟩
theorem zm_yX12_seed : zMV yX12_seed cX12_seed 2 (some .boolean) 1 := ⟨zw_64_9, zw_64_7, zw_64_8, zw_1_5, ⟨znc_RX12.1, znc_RX12.2, zds_15⟩, by decide⟩
theorem zm_yX12_slack : zMV yX12_slack cX12_slack 4 (some .long) 2 := ⟨zw_46_1, zw_45_23, zw_46_0, zw_1_5, ⟨znc_RX12.1, znc_RX12.2, zds_27⟩, by decide⟩
theorem zm_yX12_slackBy : zMV yX12_slackBy cX12_slackBy 3 (some .int) 2 := ⟨zw_46_6, zw_46_4, zw_46_5, zw_1_5, ⟨znc_RX12.1, znc_RX12.2, zds_11⟩, by decide⟩
theorem zm_yX12_sound : zMV yX12_sound cX12_sound 4 (some .int) 0 := ⟨zw_57_9, zw_57_7, zw_57_8, zw_1_5, ⟨znc_RX12.1, znc_RX12.2, zds_4⟩, by decide⟩
theorem zm_yX12_stand : zMV yX12_stand cX12_stand 10 (some .int) 2 := ⟨zw_55_3, zw_55_1, zw_55_2, zw_1_5, ⟨znc_RX12.1, znc_RX12.2, zds_11⟩, by decide⟩
theorem zm_yX12_stands : zMV yX12_stands cX12_stands 2 none 0 := ⟨zw_32_18, zw_32_16, zw_32_17, zw_1_5, ⟨znc_RX12.1, znc_RX12.2, zds_12⟩, by decide⟩
theorem zm_yX12_standsAt : zMV yX12_standsAt cX12_standsAt 3 (some .int) 1 := ⟨zw_45_15, zw_45_13, zw_45_14, zw_1_5, ⟨znc_RX12.1, znc_RX12.2, zds_10⟩, by decide⟩
theorem zds_38 : (parseMethodDescriptor "(III)V").map (fun d => d.parameters.length) = some 3 := by decide +kernel
theorem zm_yX12_standsTry : zMV yX12_standsTry cX12_standsTry 8 none 3 := ⟨zw_55_9, zw_55_7, zw_55_8, zw_1_5, ⟨znc_RX12.1, znc_RX12.2, zds_38⟩, by decide⟩
theorem zm_yX12_statementTold : zMV yX12_statementTold cX12_statementTold 2 none 0 := ⟨zw_27_21, zw_27_19, zw_27_20, zw_1_5, ⟨znc_RX12.1, znc_RX12.2, zds_12⟩, by decide⟩
theorem zm_yX12_status : zMV yX12_status cX12_status 2 (some .int) 1 := ⟨zw_70_6, zw_70_4, zw_70_5, zw_1_5, ⟨znc_RX12.1, znc_RX12.2, zds_10⟩, by decide⟩
theorem zm_yX12_strengthOf : zMV yX12_strengthOf cX12_strengthOf 2 (some .int) 1 := ⟨zw_39_14, zw_39_12, zw_39_13, zw_1_5, ⟨znc_RX12.1, znc_RX12.2, zds_10⟩, by decide⟩
theorem zm_yX12_takes : zMV yX12_takes cX12_takes 2 (some .boolean) 1 := ⟨zw_26_7, zw_26_5, zw_26_6, zw_1_5, ⟨znc_RX12.1, znc_RX12.2, zds_31⟩, by decide⟩
theorem zm_yX12_takesBack : zMV yX12_takesBack cX12_takesBack 2 none 0 := ⟨zw_50_22, zw_50_20, zw_50_21, zw_1_5, ⟨znc_RX12.1, znc_RX12.2, zds_12⟩, by decide⟩
theorem zm_yX12_takesSign : zMV yX12_takesSign cX12_takesSign 2 (some .boolean) 1 := ⟨zw_27_17, zw_27_15, zw_27_16, zw_1_5, ⟨znc_RX12.1, znc_RX12.2, zds_15⟩, by decide⟩
theorem zm_yX12_tiredAll : zMV yX12_tiredAll cX12_tiredAll 3 (some .int) 0 := ⟨zw_50_18, zw_50_16, zw_50_17, zw_1_5, ⟨znc_RX12.1, znc_RX12.2, zds_4⟩, by decide⟩
theorem zm_yX12_tiredOf : zMV yX12_tiredOf cX12_tiredOf 2 (some .int) 1 := ⟨zw_39_19, zw_39_17, zw_39_18, zw_1_5, ⟨znc_RX12.1, znc_RX12.2, zds_10⟩, by decide⟩
theorem zm_yX12_triesAnew : zMV yX12_triesAnew cX12_triesAnew 2 none 0 := ⟨zw_51_23, zw_51_21, zw_51_22, zw_1_5, ⟨znc_RX12.1, znc_RX12.2, zds_12⟩, by decide⟩
theorem zm_yX12_undo : zMV yX12_undo cX12_undo 2 (some .boolean) 0 := ⟨zw_64_1, zw_63_23, zw_64_0, zw_1_5, ⟨znc_RX12.1, znc_RX12.2, zds_3⟩, by decide⟩
theorem zm_yX12_weak : zMV yX12_weak cX12_weak 6 (some .int) 1 := ⟨zw_55_21, zw_55_19, zw_55_20, zw_1_5, ⟨znc_RX12.1, znc_RX12.2, zds_10⟩, by decide⟩
theorem zm_yX12_who : zMV yX12_who cX12_who 5 (some .int) 1 := ⟨zw_58_13, zw_58_11, zw_58_12, zw_1_5, ⟨znc_RX12.1, znc_RX12.2, zds_10⟩, by decide⟩
theorem zm_yX12_writes : zMV yX12_writes cX12_writes 2 none 1 := ⟨zw_68_3, zw_68_1, zw_68_2, zw_1_5, ⟨znc_RX12.1, znc_RX12.2, zds_18⟩, by decide⟩
theorem znc_RX1 : RX1 ≠ "java/lang/invoke/MethodHandle" ∧ RX1 ≠ "java/lang/invoke/VarHandle" := ⟨by decide +kernel, by decide +kernel⟩
theorem zm_yX1_both : zMV yX1_both cX1_both 3 none 1 := ⟨zw_24_9, zw_24_7, zw_24_8, zw_2_8, ⟨znc_RX1.1, znc_RX1.2, zds_18⟩, by decide⟩
theorem zm_yX1_comparison : zMV yX1_comparison cX1_comparison 3 none 1 := ⟨zw_24_17, zw_24_15, zw_24_16, zw_2_8, ⟨znc_RX1.1, znc_RX1.2, zds_18⟩, by decide⟩
theorem zm_yX1_fact : zMV yX1_fact cX1_fact 2 none 1 := ⟨zw_24_13, zw_24_11, zw_24_12, zw_2_8, ⟨znc_RX1.1, znc_RX1.2, zds_18⟩, by decide⟩
theorem zds_39 : (parseMethodDescriptor "(LOnePane$Reader;LOnePane$Program;)V").map (fun d => d.parameters.length) = some 2 := by decide +kernel
theorem zm_yX1_init : zMI yX1_init cX1_init 3 2 := ⟨zw_7_13, zw_7_12, zw_2_8, rfl, ⟨znc_RX1.1, znc_RX1.2, zds_39⟩, by decide⟩
theorem zm_yX1_isValue : zMV yX1_isValue cX1_isValue 2 (some .boolean) 1 := ⟨zw_23_10, zw_23_8, zw_23_9, zw_2_8, ⟨znc_RX1.1, znc_RX1.2, zds_15⟩, by decide⟩
theorem zm_yX1_opens : zMV yX1_opens cX1_opens 2 (some .boolean) 1 := ⟨zw_22_14, zw_22_12, zw_22_13, zw_2_8, ⟨znc_RX1.1, znc_RX1.2, zds_15⟩, by decide⟩
theorem zm_yX1_pair : zMV yX1_pair cX1_pair 2 none 1 := ⟨zw_22_8, zw_23_2, zw_23_3, zw_2_8, ⟨znc_RX1.1, znc_RX1.2, zds_18⟩, by decide⟩
theorem zm_yX1_part : zMV yX1_part cX1_part 4 none 1 := ⟨zw_22_20, zw_23_5, zw_23_6, zw_2_8, ⟨znc_RX1.1, znc_RX1.2, zds_18⟩, by decide⟩
theorem zm_yX1_product : zMV yX1_product cX1_product 4 none 1 := ⟨zw_23_11, zw_22_0, zw_22_1, zw_2_8, ⟨znc_RX1.1, znc_RX1.2, zds_18⟩, by decide⟩
theorem zds_40 : (parseMethodDescriptor "(LOnePane$Program;LOnePane$Tape;)I").map (fun d => d.parameters.length) = some 2 := by decide +kernel
theorem zm_yX1_readQuestion : zMV yX1_readQuestion cX1_readQuestion 4 (some .int) 2 := ⟨zw_64_17, zw_64_15, zw_64_16, zw_2_8, ⟨znc_RX1.1, znc_RX1.2, zds_40⟩, by decide⟩
theorem zds_41 : (parseMethodDescriptor "(LOnePane$Program;I)V").map (fun d => d.parameters.length) = some 2 := by decide +kernel
theorem zm_yX1_readSum : zMV yX1_readSum cX1_readSum 3 none 2 := ⟨zw_21_17, zw_21_15, zw_21_16, zw_2_8, ⟨znc_RX1.1, znc_RX1.2, zds_41⟩, by decide⟩
theorem zm_yX1_readTest : zMV yX1_readTest cX1_readTest 3 none 2 := ⟨zw_24_1, zw_23_23, zw_24_0, zw_2_8, ⟨znc_RX1.1, znc_RX1.2, zds_41⟩, by decide⟩
theorem zm_yX1_sum : zMV yX1_sum cX1_sum 4 none 1 := ⟨zw_21_22, zw_21_20, zw_21_21, zw_2_8, ⟨znc_RX1.1, znc_RX1.2, zds_18⟩, by decide⟩
theorem zm_yX1_test : zMV yX1_test cX1_test 3 none 1 := ⟨zw_24_5, zw_24_3, zw_24_4, zw_2_8, ⟨znc_RX1.1, znc_RX1.2, zds_18⟩, by decide⟩
theorem znc_RX2 : RX2 ≠ "java/lang/invoke/MethodHandle" ∧ RX2 ≠ "java/lang/invoke/VarHandle" := ⟨by decide +kernel, by decide +kernel⟩
theorem zm_yX2_init : zMI yX2_init cX2_init 2 0 := ⟨zw_8_14, zw_8_13, zw_2_21, rfl, ⟨znc_RX2.1, znc_RX2.2, zds_12⟩, by decide⟩
theorem zds_42 : (parseMethodDescriptor "(LOnePane$Town;)Z").map (fun d => d.parameters.length) = some 1 := by decide +kernel
theorem zm_yX2_pop : zMV yX2_pop cX2_pop 2 (some .boolean) 1 := ⟨zw_63_21, zw_63_19, zw_63_20, zw_2_21, ⟨znc_RX2.1, znc_RX2.2, zds_42⟩, by decide⟩
theorem zm_yX2_push : zMV yX2_push cX2_push 2 none 1 := ⟨zw_60_4, zw_60_2, zw_60_3, zw_2_21, ⟨znc_RX2.1, znc_RX2.2, zds_22⟩, by decide⟩
theorem znc_RX3 : RX3 ≠ "java/lang/invoke/MethodHandle" ∧ RX3 ≠ "java/lang/invoke/VarHandle" := ⟨by decide +kernel, by decide +kernel⟩
theorem zds_43 : (parseMethodDescriptor "(IIII)V").map (fun d => d.parameters.length) = some 4 := by decide +kernel
theorem zm_yX3_addPerson : zMV yX3_addPerson cX3_addPerson 5 none 4 := ⟨zw_21_6, zw_21_4, zw_21_5, zw_1_23, ⟨znc_RX3.1, znc_RX3.2, zds_43⟩, by decide⟩
theorem zm_yX3_cellAt : zMV yX3_cellAt cX3_cellAt 3 (some .int) 2 := ⟨zw_20_1, zw_19_23, zw_20_0, zw_1_23, ⟨znc_RX3.1, znc_RX3.2, zds_11⟩, by decide⟩
theorem zm_yX3_cells : zMV yX3_cells cX3_cells 1 (some .int) 0 := ⟨zw_43_10, zw_43_8, zw_43_9, zw_1_23, ⟨znc_RX3.1, znc_RX3.2, zds_4⟩, by decide⟩
theorem zm_yX3_clear : zMV yX3_clear cX3_clear 2 none 0 := ⟨zw_15_21, zw_15_19, zw_15_20, zw_1_23, ⟨znc_RX3.1, znc_RX3.2, zds_12⟩, by decide⟩
theorem zm_yX3_hasCell : zMV yX3_hasCell cX3_hasCell 3 (some .boolean) 2 := ⟨zw_42_5, zw_42_3, zw_42_4, zw_1_23, ⟨znc_RX3.1, znc_RX3.2, zds_26⟩, by decide⟩
theorem zm_yX3_hasPerson : zMV yX3_hasPerson cX3_hasPerson 2 (some .boolean) 1 := ⟨zw_41_11, zw_41_9, zw_41_10, zw_1_23, ⟨znc_RX3.1, znc_RX3.2, zds_15⟩, by decide⟩
theorem zm_yX3_init : zMI yX3_init cX3_init 1 0 := ⟨zw_4_1, zw_4_0, zw_1_23, rfl, ⟨znc_RX3.1, znc_RX3.2, zds_12⟩, by decide⟩
theorem zm_yX3_isHome : zMV yX3_isHome cX3_isHome 4 (some .boolean) 2 := ⟨zw_21_2, zw_21_0, zw_21_1, zw_1_23, ⟨znc_RX3.1, znc_RX3.2, zds_26⟩, by decide⟩
theorem zm_yX3_isNamed : zMV yX3_isNamed cX3_isNamed 3 (some .boolean) 1 := ⟨zw_20_22, zw_20_20, zw_20_21, zw_1_23, ⟨znc_RX3.1, znc_RX3.2, zds_15⟩, by decide⟩
theorem zm_yX3_isTold : zMV yX3_isTold cX3_isTold 1 (some .boolean) 0 := ⟨zw_48_9, zw_48_7, zw_48_8, zw_1_23, ⟨znc_RX3.1, znc_RX3.2, zds_3⟩, by decide⟩
theorem zm_yX3_setSides : zMV yX3_setSides cX3_setSides 3 none 2 := ⟨zw_19_5, zw_19_3, zw_19_4, zw_1_23, ⟨znc_RX3.1, znc_RX3.2, zds_1⟩, by decide⟩
theorem znc_RX4 : RX4 ≠ "java/lang/invoke/MethodHandle" ∧ RX4 ≠ "java/lang/invoke/VarHandle" := ⟨by decide +kernel, by decide +kernel⟩
theorem zm_yX4_addNumber : zMV yX4_addNumber cX4_addNumber 2 none 1 := ⟨zw_16_9, zw_16_7, zw_16_8, zw_1_19, ⟨znc_RX4.1, znc_RX4.2, zds_18⟩, by decide⟩
theorem zm_yX4_addStep : zMV yX4_addStep cX4_addStep 2 none 1 := ⟨zw_16_5, zw_16_3, zw_16_4, zw_1_19, ⟨znc_RX4.1, znc_RX4.2, zds_18⟩, by decide⟩
theorem zm_yX4_hasStep : zMV yX4_hasStep cX4_hasStep 3 (some .boolean) 1 := ⟨zw_23_15, zw_23_13, zw_23_14, zw_1_19, ⟨znc_RX4.1, znc_RX4.2, zds_15⟩, by decide⟩
theorem zm_yX4_init : zMI yX4_init cX4_init 1 0 := ⟨zw_3_20, zw_3_19, zw_1_19, rfl, ⟨znc_RX4.1, znc_RX4.2, zds_12⟩, by decide⟩
theorem zm_yX4_setStep : zMV yX4_setStep cX4_setStep 2 none 1 := ⟨zw_16_1, zw_15_23, zw_16_0, zw_1_19, ⟨znc_RX4.1, znc_RX4.2, zds_18⟩, by decide⟩
theorem znc_RX5 : RX5 ≠ "java/lang/invoke/MethodHandle" ∧ RX5 ≠ "java/lang/invoke/VarHandle" := ⟨by decide +kernel, by decide +kernel⟩
theorem zm_yX5_addToken : zMV yX5_addToken cX5_addToken 5 none 4 := ⟨zw_17_8, zw_17_6, zw_17_7, zw_2_4, ⟨znc_RX5.1, znc_RX5.2, zds_43⟩, by decide⟩
theorem zds_44 : (parseMethodDescriptor "(LOnePane$Tape;I)I").map (fun d => d.parameters.length) = some 2 := by decide +kernel
theorem zm_yX5_cutNumber : zMV yX5_cutNumber cX5_cutNumber 6 (some .int) 2 := ⟨zw_17_16, zw_17_14, zw_17_15, zw_2_4, ⟨znc_RX5.1, znc_RX5.2, zds_44⟩, by decide⟩
theorem zm_yX5_cutWord : zMV yX5_cutWord cX5_cutWord 6 (some .int) 2 := ⟨zw_17_1, zw_16_23, zw_17_0, zw_2_4, ⟨znc_RX5.1, znc_RX5.2, zds_44⟩, by decide⟩
theorem zm_yX5_hasMore : zMV yX5_hasMore cX5_hasMore 1 (some .boolean) 0 := ⟨zw_17_20, zw_17_18, zw_17_19, zw_2_4, ⟨znc_RX5.1, znc_RX5.2, zds_3⟩, by decide⟩
theorem zm_yX5_init : zMI yX5_init cX5_init 5 0 := ⟨zw_4_23, zw_4_22, zw_2_4, rfl, ⟨znc_RX5.1, znc_RX5.2, zds_12⟩, by decide⟩
theorem zm_yX5_isDigit : zMS yX5_isDigit cX5_isDigit 1 (some .boolean) 1 := ⟨zw_17_4, zw_17_3, zw_2_4, ⟨znc_RX5.1, znc_RX5.2, zds_15⟩, by decide⟩
theorem zm_yX5_isLetter : zMS yX5_isLetter cX5_isLetter 1 (some .boolean) 1 := ⟨zw_16_21, zw_16_20, zw_2_4, ⟨znc_RX5.1, znc_RX5.2, zds_15⟩, by decide⟩
theorem zm_yX5_kindHere : zMV yX5_kindHere cX5_kindHere 1 (some .int) 0 := ⟨zw_19_1, zw_18_23, zw_19_0, zw_2_4, ⟨znc_RX5.1, znc_RX5.2, zds_4⟩, by decide⟩
theorem zm_yX5_knownWord : zMV yX5_knownWord cX5_knownWord 3 (some .int) 1 := ⟨zw_17_12, zw_17_10, zw_17_11, zw_2_4, ⟨znc_RX5.1, znc_RX5.2, zds_10⟩, by decide⟩
theorem zds_45 : (parseMethodDescriptor "(LOnePane$Tape;)V").map (fun d => d.parameters.length) = some 1 := by decide +kernel
theorem zm_yX5_open : zMV yX5_open cX5_open 5 none 1 := ⟨zw_16_13, zw_16_11, zw_16_12, zw_2_4, ⟨znc_RX5.1, znc_RX5.2, zds_45⟩, by decide⟩
theorem zm_yX5_placeHere : zMV yX5_placeHere cX5_placeHere 1 (some .int) 0 := ⟨zw_20_10, zw_20_8, zw_20_9, zw_2_4, ⟨znc_RX5.1, znc_RX5.2, zds_4⟩, by decide⟩
theorem zm_yX5_refuse : zMV yX5_refuse cX5_refuse 3 none 2 := ⟨zw_18_17, zw_18_15, zw_18_16, zw_2_4, ⟨znc_RX5.1, znc_RX5.2, zds_1⟩, by decide⟩
theorem zm_yX5_signHere : zMV yX5_signHere cX5_signHere 1 (some .int) 0 := ⟨zw_22_5, zw_22_3, zw_22_4, zw_2_4, ⟨znc_RX5.1, znc_RX5.2, zds_4⟩, by decide⟩
theorem zm_yX5_step : zMV yX5_step cX5_step 1 none 0 := ⟨zw_18_13, zw_18_11, zw_18_12, zw_2_4, ⟨znc_RX5.1, znc_RX5.2, zds_12⟩, by decide⟩
theorem zm_yX5_takeNumber : zMV yX5_takeNumber cX5_takeNumber 5 (some .int) 2 := ⟨zw_18_21, zw_18_19, zw_18_20, zw_2_4, ⟨znc_RX5.1, znc_RX5.2, zds_11⟩, by decide⟩
theorem zm_yX5_takeSign : zMV yX5_takeSign cX5_takeSign 2 none 1 := ⟨zw_22_18, zw_22_16, zw_22_17, zw_2_4, ⟨znc_RX5.1, znc_RX5.2, zds_18⟩, by decide⟩
theorem zm_yX5_takeWord : zMV yX5_takeWord cX5_takeWord 2 none 1 := ⟨zw_18_5, zw_18_3, zw_18_4, zw_2_4, ⟨znc_RX5.1, znc_RX5.2, zds_18⟩, by decide⟩
theorem zm_yX5_wordHere : zMV yX5_wordHere cX5_wordHere 1 (some .int) 0 := ⟨zw_18_9, zw_18_7, zw_18_8, zw_2_4, ⟨znc_RX5.1, znc_RX5.2, zds_4⟩, by decide⟩
theorem znc_RX6 : RX6 ≠ "java/lang/invoke/MethodHandle" ∧ RX6 ≠ "java/lang/invoke/VarHandle" := ⟨by decide +kernel, by decide +kernel⟩
theorem zm_yX6_addLoad : zMV yX6_addLoad cX6_addLoad 4 none 3 := ⟨zw_43_20, zw_43_18, zw_43_19, zw_3_5, ⟨znc_RX6.1, znc_RX6.2, zds_38⟩, by decide⟩
theorem zm_yX6_balance : zMV yX6_balance cX6_balance 3 none 1 := ⟨zw_42_18, zw_42_16, zw_42_17, zw_3_5, ⟨znc_RX6.1, znc_RX6.2, zds_18⟩, by decide⟩
theorem zm_yX6_bestPlace : zMV yX6_bestPlace cX6_bestPlace 8 (some .int) 1 := ⟨zw_54_10, zw_54_8, zw_54_9, zw_3_5, ⟨znc_RX6.1, znc_RX6.2, zds_10⟩, by decide⟩
theorem zm_yX6_countNear : zMV yX6_countNear cX6_countNear 4 (some .int) 1 := ⟨zw_34_12, zw_34_10, zw_34_11, zw_3_5, ⟨znc_RX6.1, znc_RX6.2, zds_10⟩, by decide⟩
theorem zm_yX6_cracking : zMV yX6_cracking cX6_cracking 4 (some .long) 0 := ⟨zw_49_4, zw_49_2, zw_49_3, zw_3_5, ⟨znc_RX6.1, znc_RX6.2, zds_23⟩, by decide⟩
theorem zm_yX6_freeOf : zMV yX6_freeOf cX6_freeOf 4 (some .int) 1 := ⟨zw_52_7, zw_52_5, zw_52_6, zw_3_5, ⟨znc_RX6.1, znc_RX6.2, zds_10⟩, by decide⟩
theorem zm_yX6_hasLoads : zMV yX6_hasLoads cX6_hasLoads 2 (some .boolean) 0 := ⟨zw_42_23, zw_42_21, zw_42_22, zw_3_5, ⟨znc_RX6.1, znc_RX6.2, zds_3⟩, by decide⟩
theorem zm_yX6_holders : zMV yX6_holders cX6_holders 3 (some .int) 0 := ⟨zw_35_18, zw_35_16, zw_35_17, zw_3_5, ⟨znc_RX6.1, znc_RX6.2, zds_4⟩, by decide⟩
theorem zds_46 : (parseMethodDescriptor "(LOnePane$Plan;LOnePane$Town;)V").map (fun d => d.parameters.length) = some 2 := by decide +kernel
theorem zm_yX6_init : zMI yX6_init cX6_init 3 2 := ⟨zw_9_9, zw_9_8, zw_3_5, rfl, ⟨znc_RX6.1, znc_RX6.2, zds_46⟩, by decide⟩
theorem zm_yX6_isMissed : zMV yX6_isMissed cX6_isMissed 3 (some .boolean) 1 := ⟨zw_52_11, zw_52_9, zw_52_10, zw_3_5, ⟨znc_RX6.1, znc_RX6.2, zds_15⟩, by decide⟩
theorem zm_yX6_liftOver : zMV yX6_liftOver cX6_liftOver 3 (some .int) 2 := ⟨zw_35_9, zw_35_7, zw_35_8, zw_3_5, ⟨znc_RX6.1, znc_RX6.2, zds_11⟩, by decide⟩
theorem zm_yX6_loadNeighbours : zMV yX6_loadNeighbours cX6_loadNeighbours 5 none 3 := ⟨zw_43_15, zw_43_13, zw_43_14, zw_3_5, ⟨znc_RX6.1, znc_RX6.2, zds_38⟩, by decide⟩
theorem zds_47 : (parseMethodDescriptor "(LOnePane$Plan;LOnePane$Town;I)V").map (fun d => d.parameters.length) = some 3 := by decide +kernel
theorem zm_yX6_look : zMV yX6_look cX6_look 5 none 3 := ⟨zw_34_7, zw_34_5, zw_34_6, zw_3_5, ⟨znc_RX6.1, znc_RX6.2, zds_47⟩, by decide⟩
theorem zm_yX6_measureLift : zMV yX6_measureLift cX6_measureLift 4 none 1 := ⟨zw_35_2, zw_35_0, zw_35_1, zw_3_5, ⟨znc_RX6.1, znc_RX6.2, zds_18⟩, by decide⟩
theorem zm_yX6_measureLifted : zMV yX6_measureLifted cX6_measureLifted 4 none 1 := ⟨zw_44_1, zw_43_23, zw_44_0, zw_3_5, ⟨znc_RX6.1, znc_RX6.2, zds_18⟩, by decide⟩
theorem zm_yX6_measureLoads : zMV yX6_measureLoads cX6_measureLoads 6 none 0 := ⟨zw_43_4, zw_43_2, zw_43_3, zw_3_5, ⟨znc_RX6.1, znc_RX6.2, zds_12⟩, by decide⟩
theorem zm_yX6_passHour : zMV yX6_passHour cX6_passHour 5 (some .long) 1 := ⟨zw_48_21, zw_48_19, zw_48_20, zw_3_5, ⟨znc_RX6.1, znc_RX6.2, zds_28⟩, by decide⟩
theorem zm_yX6_showAsked : zMV yX6_showAsked cX6_showAsked 4 none 2 := ⟨zw_65_10, zw_65_8, zw_65_9, zw_3_5, ⟨znc_RX6.1, znc_RX6.2, zds_1⟩, by decide⟩
theorem zm_yX6_showPerson : zMV yX6_showPerson cX6_showPerson 2 none 1 := ⟨zw_36_8, zw_36_6, zw_36_7, zw_3_5, ⟨znc_RX6.1, znc_RX6.2, zds_18⟩, by decide⟩
theorem zm_yX6_showTime : zMV yX6_showTime cX6_showTime 1 none 0 := ⟨zw_36_0, zw_35_22, zw_35_23, zw_3_5, ⟨znc_RX6.1, znc_RX6.2, zds_12⟩, by decide⟩
theorem zm_yX6_tire : zMV yX6_tire cX6_tire 3 none 1 := ⟨zw_49_8, zw_49_6, zw_49_7, zw_3_5, ⟨znc_RX6.1, znc_RX6.2, zds_18⟩, by decide⟩
theorem zm_yX6_tryPlace : zMV yX6_tryPlace cX6_tryPlace 9 none 3 := ⟨zw_54_15, zw_54_13, zw_54_14, zw_3_5, ⟨znc_RX6.1, znc_RX6.2, zds_38⟩, by decide⟩
theorem zm_yX6_weakest : zMV yX6_weakest cX6_weakest 3 (some .int) 0 := ⟨zw_55_17, zw_55_15, zw_55_16, zw_3_5, ⟨znc_RX6.1, znc_RX6.2, zds_4⟩, by decide⟩
theorem znc_RX7 : RX7 ≠ "java/lang/invoke/MethodHandle" ∧ RX7 ≠ "java/lang/invoke/VarHandle" := ⟨by decide +kernel, by decide +kernel⟩
theorem zds_48 : (parseMethodDescriptor "(LOnePane$Reckoner;)I").map (fun d => d.parameters.length) = some 1 := by decide +kernel
theorem zm_yX7_bestKnock : zMV yX7_bestKnock cX7_bestKnock 5 (some .int) 1 := ⟨zw_59_6, zw_59_4, zw_59_5, zw_3_1, ⟨znc_RX7.1, znc_RX7.2, zds_48⟩, by decide⟩
theorem zm_yX7_fewest : zMV yX7_fewest cX7_fewest 5 (some .int) 1 := ⟨zw_53_3, zw_53_1, zw_53_2, zw_3_1, ⟨znc_RX7.1, znc_RX7.2, zds_48⟩, by decide⟩
theorem zm_yX7_howMany : zMV yX7_howMany cX7_howMany 3 (some .int) 0 := ⟨zw_58_1, zw_57_23, zw_58_0, zw_3_1, ⟨znc_RX7.1, znc_RX7.2, zds_4⟩, by decide⟩
theorem zm_yX7_inAll : zMV yX7_inAll cX7_inAll 3 (some .int) 0 := ⟨zw_58_5, zw_58_3, zw_58_4, zw_3_1, ⟨znc_RX7.1, znc_RX7.2, zds_4⟩, by decide⟩
theorem zm_yX7_inSome : zMV yX7_inSome cX7_inSome 3 (some .int) 0 := ⟨zw_58_9, zw_58_7, zw_58_8, zw_3_1, ⟨znc_RX7.1, znc_RX7.2, zds_4⟩, by decide⟩
theorem zm_yX7_init : zMI yX7_init cX7_init 1 0 := ⟨zw_8_21, zw_8_20, zw_3_1, rfl, ⟨znc_RX7.1, znc_RX7.2, zds_12⟩, by decide⟩
theorem zds_49 : (parseMethodDescriptor "(LOnePane$Reckoner;)V").map (fun d => d.parameters.length) = some 1 := by decide +kernel
theorem zm_yX7_keepAwake : zMV yX7_keepAwake cX7_keepAwake 3 none 1 := ⟨zw_53_11, zw_53_9, zw_53_10, zw_3_1, ⟨znc_RX7.1, znc_RX7.2, zds_49⟩, by decide⟩
theorem zm_yX7_keepSounded : zMV yX7_keepSounded cX7_keepSounded 6 none 1 := ⟨zw_57_21, zw_57_19, zw_57_20, zw_3_1, ⟨znc_RX7.1, znc_RX7.2, zds_49⟩, by decide⟩
theorem zds_50 : (parseMethodDescriptor "(LOnePane$Reckoner;I)V").map (fun d => d.parameters.length) = some 2 := by decide +kernel
theorem zm_yX7_measureLifted : zMV yX7_measureLifted cX7_measureLifted 7 none 2 := ⟨zw_53_20, zw_53_18, zw_53_19, zw_3_1, ⟨znc_RX7.1, znc_RX7.2, zds_50⟩, by decide⟩
theorem zds_51 : (parseMethodDescriptor "(LOnePane$Reckoner;I)I").map (fun d => d.parameters.length) = some 2 := by decide +kernel
theorem zm_yX7_mostAlike : zMV yX7_mostAlike cX7_mostAlike 6 (some .int) 2 := ⟨zw_59_11, zw_59_9, zw_59_10, zw_3_1, ⟨znc_RX7.1, znc_RX7.2, zds_51⟩, by decide⟩
theorem zm_yX7_takeSounds : zMV yX7_takeSounds cX7_takeSounds 6 (some .boolean) 2 := ⟨zw_56_20, zw_56_18, zw_56_19, zw_3_1, ⟨znc_RX7.1, znc_RX7.2, zds_19⟩, by decide⟩
theorem znc_RX8 : RX8 ≠ "java/lang/invoke/MethodHandle" ∧ RX8 ≠ "java/lang/invoke/VarHandle" := ⟨by decide +kernel, by decide +kernel⟩
theorem zds_52 : (parseMethodDescriptor "(LOnePane$Reader;LOnePane$Grammar;LOnePane$Plan;)V").map (fun d => d.parameters.length) = some 3 := by decide +kernel
theorem zm_yX8_init : zMI yX8_init cX8_init 4 3 := ⟨zw_7_20, zw_7_19, zw_2_12, rfl, ⟨znc_RX8.1, znc_RX8.2, zds_52⟩, by decide⟩
theorem zm_yX8_readAdds : zMV yX8_readAdds cX8_readAdds 1 none 0 := ⟨zw_21_10, zw_21_8, zw_21_9, zw_2_12, ⟨znc_RX8.1, znc_RX8.2, zds_12⟩, by decide⟩
theorem zm_yX8_readHeavy : zMV yX8_readHeavy cX8_readHeavy 4 none 0 := ⟨zw_19_17, zw_19_15, zw_19_16, zw_2_12, ⟨znc_RX8.1, znc_RX8.2, zds_12⟩, by decide⟩
theorem zm_yX8_readHolds : zMV yX8_readHolds cX8_readHolds 1 none 0 := ⟨zw_23_19, zw_23_17, zw_23_18, zw_2_12, ⟨znc_RX8.1, znc_RX8.2, zds_12⟩, by decide⟩
theorem zds_53 : (parseMethodDescriptor "(LOnePane$Plan;LOnePane$Tape;)I").map (fun d => d.parameters.length) = some 2 := by decide +kernel
theorem zm_yX8_readInto : zMV yX8_readInto cX8_readInto 4 (some .int) 2 := ⟨zw_15_17, zw_15_15, zw_15_16, zw_2_12, ⟨znc_RX8.1, znc_RX8.2, zds_53⟩, by decide⟩
theorem zm_yX8_readPane : zMV yX8_readPane cX8_readPane 3 none 0 := ⟨zw_18_0, zw_17_22, zw_17_23, zw_2_12, ⟨znc_RX8.1, znc_RX8.2, zds_12⟩, by decide⟩
theorem zm_yX8_readPole : zMV yX8_readPole cX8_readPole 6 none 0 := ⟨zw_20_5, zw_20_3, zw_20_4, zw_2_12, ⟨znc_RX8.1, znc_RX8.2, zds_12⟩, by decide⟩
theorem zm_yX8_readStatement : zMV yX8_readStatement cX8_readStatement 1 none 0 := ⟨zw_19_9, zw_19_7, zw_19_8, zw_2_12, ⟨znc_RX8.1, znc_RX8.2, zds_12⟩, by decide⟩
theorem zm_yX8_takeName : zMV yX8_takeName cX8_takeName 4 (some .int) 0 := ⟨zw_20_15, zw_20_13, zw_20_14, zw_2_12, ⟨znc_RX8.1, znc_RX8.2, zds_4⟩, by decide⟩
theorem znc_RX9 : RX9 ≠ "java/lang/invoke/MethodHandle" ∧ RX9 ≠ "java/lang/invoke/VarHandle" := ⟨by decide +kernel, by decide +kernel⟩
theorem zm_yX9_addByte : zMV yX9_addByte cX9_addByte 2 none 1 := ⟨zw_14_14, zw_14_12, zw_14_13, zw_1_14, ⟨znc_RX9.1, znc_RX9.2, zds_18⟩, by decide⟩
theorem zm_yX9_addNumber : zMV yX9_addNumber cX9_addNumber 2 none 1 := ⟨zw_14_10, zw_14_8, zw_14_9, zw_1_14, ⟨znc_RX9.1, znc_RX9.2, zds_18⟩, by decide⟩
theorem zm_yX9_byteAt : zMV yX9_byteAt cX9_byteAt 2 (some .int) 1 := ⟨zw_16_18, zw_16_16, zw_16_17, zw_1_14, ⟨znc_RX9.1, znc_RX9.2, zds_10⟩, by decide⟩
theorem zm_yX9_checkOf : zMV yX9_checkOf cX9_checkOf 4 (some .int) 1 := ⟨zw_67_18, zw_67_16, zw_67_17, zw_1_14, ⟨znc_RX9.1, znc_RX9.2, zds_10⟩, by decide⟩
theorem zm_yX9_init : zMI yX9_init cX9_init 2 1 := ⟨zw_3_14, zw_3_13, zw_1_14, rfl, ⟨znc_RX9.1, znc_RX9.2, zds_18⟩, by decide⟩
theorem zm_yX9_pairAt : zMV yX9_pairAt cX9_pairAt 2 (some .int) 1 := ⟨zw_57_4, zw_57_2, zw_57_3, zw_1_14, ⟨znc_RX9.1, znc_RX9.2, zds_10⟩, by decide⟩
