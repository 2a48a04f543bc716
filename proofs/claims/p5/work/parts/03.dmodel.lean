theorem yd_op_52 {c : ByteArray} {pc n i : Nat} {l : List Nat} (h : ydk c n l = true) (hi : (l.drop i).take 1 = [52]) (hp : n + i = pc) : decode c pc = .ok (.caload, 1) := yd_f0 rfl (yd_g h hi hp 0 _ rfl) rfl
theorem yd_op_47 {c : ByteArray} {pc n i : Nat} {l : List Nat} (h : ydk c n l = true) (hi : (l.drop i).take 1 = [47]) (hp : n + i = pc) : decode c pc = .ok (.laload, 1) := yd_f0 rfl (yd_g h hi hp 0 _ rfl) rfl
theorem yd_op_80 {c : ByteArray} {pc n i : Nat} {l : List Nat} (h : ydk c n l = true) (hi : (l.drop i).take 1 = [80]) (hp : n + i = pc) : decode c pc = .ok (.lastore, 1) := yd_f0 rfl (yd_g h hi hp 0 _ rfl) rfl
theorem yd_op_109 {c : ByteArray} {pc n i : Nat} {l : List Nat} (h : ydk c n l = true) (hi : (l.drop i).take 1 = [109]) (hp : n + i = pc) : decode c pc = .ok (.ldiv, 1) := yd_f0 rfl (yd_g h hi hp 0 _ rfl) rfl
theorem yd_op_113 {c : ByteArray} {pc n i : Nat} {l : List Nat} (h : ydk c n l = true) (hi : (l.drop i).take 1 = [113]) (hp : n + i = pc) : decode c pc = .ok (.lrem, 1) := yd_f0 rfl (yd_g h hi hp 0 _ rfl) rfl
set_option maxRecDepth 100000 in
theorem yd_by_cX12_isIn_0 : ydk cX12_isIn 0 [30, 32, 148, 155, 0, 14, 30, 22, 4, 148, 157, 0, 7, 4, 167, 0, 4, 3, 172] = true := by decide +kernel
theorem dX12_isIn_0 : decode cX12_isIn 0 = .ok (.lload_n 0, 1) := yd_op_30 (i := 0) yd_by_cX12_isIn_0 rfl rfl
theorem dX12_isIn_1 : decode cX12_isIn 1 = .ok (.lload_n 2, 1) := yd_op_32 (i := 1) yd_by_cX12_isIn_0 rfl rfl
theorem dX12_isIn_2 : decode cX12_isIn 2 = .ok (.lcmp, 1) := yd_op_148 (i := 2) yd_by_cX12_isIn_0 rfl rfl
theorem dX12_isIn_3 : decode cX12_isIn 3 = .ok (.ifCond .lt 14, 3) := yd_op_155 (i := 3) (a := 0) (b := 14) yd_by_cX12_isIn_0 rfl rfl
theorem dX12_isIn_6 : decode cX12_isIn 6 = .ok (.lload_n 0, 1) := yd_op_30 (i := 6) yd_by_cX12_isIn_0 rfl rfl
theorem dX12_isIn_7 : decode cX12_isIn 7 = .ok (.lload 4, 2) := yd_op_22 (i := 7) (a := 4) yd_by_cX12_isIn_0 rfl rfl
theorem dX12_isIn_9 : decode cX12_isIn 9 = .ok (.lcmp, 1) := yd_op_148 (i := 9) yd_by_cX12_isIn_0 rfl rfl
theorem dX12_isIn_10 : decode cX12_isIn 10 = .ok (.ifCond .gt 7, 3) := yd_op_157 (i := 10) (a := 0) (b := 7) yd_by_cX12_isIn_0 rfl rfl
theorem dX12_isIn_13 : decode cX12_isIn 13 = .ok (.iconst 1, 1) := yd_op_4 (i := 13) yd_by_cX12_isIn_0 rfl rfl
theorem dX12_isIn_14 : decode cX12_isIn 14 = .ok (.goto 4, 3) := yd_op_167 (i := 14) (a := 0) (b := 4) yd_by_cX12_isIn_0 rfl rfl
theorem dX12_isIn_17 : decode cX12_isIn 17 = .ok (.iconst 0, 1) := yd_op_3 (i := 17) yd_by_cX12_isIn_0 rfl rfl
theorem dX12_isIn_18 : decode cX12_isIn 18 = .ok (.ireturn, 1) := yd_op_172 (i := 18) yd_by_cX12_isIn_0 rfl rfl
set_option maxRecDepth 100000 in
theorem yd_by_cX12_feed_0 : ydk cX12_feed 0 [42, 180, 0, 243, 16, 20, 96, 17, 6, 64, 164, 0, 15, 42, 180, 0, 17, 3, 92, 46, 4, 96, 79, 2, 172, 3, 54, 6, 21, 6, 16, 20] = true := by decide +kernel
theorem dX12_feed_0 : decode cX12_feed 0 = .ok (.aload_n 0, 1) := yd_op_42 (i := 0) yd_by_cX12_feed_0 rfl rfl
theorem dX12_feed_1 : decode cX12_feed 1 = .ok (.getfield 243, 3) := yd_op_180 (i := 1) (a := 0) (b := 243) yd_by_cX12_feed_0 rfl rfl
theorem dX12_feed_4 : decode cX12_feed 4 = .ok (.bipush 20, 2) := yd_op_16 (i := 4) (a := 20) yd_by_cX12_feed_0 rfl rfl
theorem dX12_feed_6 : decode cX12_feed 6 = .ok (.iadd, 1) := yd_op_96 (i := 6) yd_by_cX12_feed_0 rfl rfl
theorem dX12_feed_7 : decode cX12_feed 7 = .ok (.sipush 1600, 3) := yd_op_17 (i := 7) (a := 6) (b := 64) yd_by_cX12_feed_0 rfl rfl
theorem dX12_feed_10 : decode cX12_feed 10 = .ok (.if_icmp .le 15, 3) := yd_op_164 (i := 10) (a := 0) (b := 15) yd_by_cX12_feed_0 rfl rfl
theorem dX12_feed_13 : decode cX12_feed 13 = .ok (.aload_n 0, 1) := yd_op_42 (i := 13) yd_by_cX12_feed_0 rfl rfl
theorem dX12_feed_14 : decode cX12_feed 14 = .ok (.getfield 17, 3) := yd_op_180 (i := 14) (a := 0) (b := 17) yd_by_cX12_feed_0 rfl rfl
theorem dX12_feed_17 : decode cX12_feed 17 = .ok (.iconst 0, 1) := yd_op_3 (i := 17) yd_by_cX12_feed_0 rfl rfl
theorem dX12_feed_18 : decode cX12_feed 18 = .ok (.dup2, 1) := yd_op_92 (i := 18) yd_by_cX12_feed_0 rfl rfl
theorem dX12_feed_19 : decode cX12_feed 19 = .ok (.iaload, 1) := yd_op_46 (i := 19) yd_by_cX12_feed_0 rfl rfl
theorem dX12_feed_20 : decode cX12_feed 20 = .ok (.iconst 1, 1) := yd_op_4 (i := 20) yd_by_cX12_feed_0 rfl rfl
theorem dX12_feed_21 : decode cX12_feed 21 = .ok (.iadd, 1) := yd_op_96 (i := 21) yd_by_cX12_feed_0 rfl rfl
theorem dX12_feed_22 : decode cX12_feed 22 = .ok (.iastore, 1) := yd_op_79 (i := 22) yd_by_cX12_feed_0 rfl rfl
theorem dX12_feed_23 : decode cX12_feed 23 = .ok (.iconst (-1), 1) := yd_op_2 (i := 23) yd_by_cX12_feed_0 rfl rfl
theorem dX12_feed_24 : decode cX12_feed 24 = .ok (.ireturn, 1) := yd_op_172 (i := 24) yd_by_cX12_feed_0 rfl rfl
theorem dX12_feed_25 : decode cX12_feed 25 = .ok (.iconst 0, 1) := yd_op_3 (i := 25) yd_by_cX12_feed_0 rfl rfl
theorem dX12_feed_26 : decode cX12_feed 26 = .ok (.istore 6, 2) := yd_op_54 (i := 26) (a := 6) yd_by_cX12_feed_0 rfl rfl
theorem dX12_feed_28 : decode cX12_feed 28 = .ok (.iload 6, 2) := yd_op_21 (i := 28) (a := 6) yd_by_cX12_feed_0 rfl rfl
theorem dX12_feed_30 : decode cX12_feed 30 = .ok (.bipush 20, 2) := yd_op_16 (i := 30) (a := 20) yd_by_cX12_feed_0 rfl rfl
set_option maxRecDepth 100000 in
theorem yd_by_cX12_feed_1 : ydk cX12_feed 32 [162, 0, 92, 21, 6, 7, 162, 0, 7, 27, 167, 0, 39, 21, 6, 16, 8, 162, 0, 7, 28, 167, 0, 28, 21, 6, 16, 12, 162, 0, 7, 29, 167, 0, 17, 21, 6, 16, 16, 162, 0, 8, 21, 4] = true := by decide +kernel
theorem dX12_feed_32 : decode cX12_feed 32 = .ok (.if_icmp .ge 92, 3) := yd_op_162 (i := 0) (a := 0) (b := 92) yd_by_cX12_feed_1 rfl rfl
theorem dX12_feed_35 : decode cX12_feed 35 = .ok (.iload 6, 2) := yd_op_21 (i := 3) (a := 6) yd_by_cX12_feed_1 rfl rfl
theorem dX12_feed_37 : decode cX12_feed 37 = .ok (.iconst 4, 1) := yd_op_7 (i := 5) yd_by_cX12_feed_1 rfl rfl
theorem dX12_feed_38 : decode cX12_feed 38 = .ok (.if_icmp .ge 7, 3) := yd_op_162 (i := 6) (a := 0) (b := 7) yd_by_cX12_feed_1 rfl rfl
theorem dX12_feed_41 : decode cX12_feed 41 = .ok (.iload_n 1, 1) := yd_op_27 (i := 9) yd_by_cX12_feed_1 rfl rfl
theorem dX12_feed_42 : decode cX12_feed 42 = .ok (.goto 39, 3) := yd_op_167 (i := 10) (a := 0) (b := 39) yd_by_cX12_feed_1 rfl rfl
theorem dX12_feed_45 : decode cX12_feed 45 = .ok (.iload 6, 2) := yd_op_21 (i := 13) (a := 6) yd_by_cX12_feed_1 rfl rfl
theorem dX12_feed_47 : decode cX12_feed 47 = .ok (.bipush 8, 2) := yd_op_16 (i := 15) (a := 8) yd_by_cX12_feed_1 rfl rfl
theorem dX12_feed_49 : decode cX12_feed 49 = .ok (.if_icmp .ge 7, 3) := yd_op_162 (i := 17) (a := 0) (b := 7) yd_by_cX12_feed_1 rfl rfl
theorem dX12_feed_52 : decode cX12_feed 52 = .ok (.iload_n 2, 1) := yd_op_28 (i := 20) yd_by_cX12_feed_1 rfl rfl
theorem dX12_feed_53 : decode cX12_feed 53 = .ok (.goto 28, 3) := yd_op_167 (i := 21) (a := 0) (b := 28) yd_by_cX12_feed_1 rfl rfl
theorem dX12_feed_56 : decode cX12_feed 56 = .ok (.iload 6, 2) := yd_op_21 (i := 24) (a := 6) yd_by_cX12_feed_1 rfl rfl
theorem dX12_feed_58 : decode cX12_feed 58 = .ok (.bipush 12, 2) := yd_op_16 (i := 26) (a := 12) yd_by_cX12_feed_1 rfl rfl
theorem dX12_feed_60 : decode cX12_feed 60 = .ok (.if_icmp .ge 7, 3) := yd_op_162 (i := 28) (a := 0) (b := 7) yd_by_cX12_feed_1 rfl rfl
theorem dX12_feed_63 : decode cX12_feed 63 = .ok (.iload_n 3, 1) := yd_op_29 (i := 31) yd_by_cX12_feed_1 rfl rfl
theorem dX12_feed_64 : decode cX12_feed 64 = .ok (.goto 17, 3) := yd_op_167 (i := 32) (a := 0) (b := 17) yd_by_cX12_feed_1 rfl rfl
theorem dX12_feed_67 : decode cX12_feed 67 = .ok (.iload 6, 2) := yd_op_21 (i := 35) (a := 6) yd_by_cX12_feed_1 rfl rfl
theorem dX12_feed_69 : decode cX12_feed 69 = .ok (.bipush 16, 2) := yd_op_16 (i := 37) (a := 16) yd_by_cX12_feed_1 rfl rfl
theorem dX12_feed_71 : decode cX12_feed 71 = .ok (.if_icmp .ge 8, 3) := yd_op_162 (i := 39) (a := 0) (b := 8) yd_by_cX12_feed_1 rfl rfl
theorem dX12_feed_74 : decode cX12_feed 74 = .ok (.iload 4, 2) := yd_op_21 (i := 42) (a := 4) yd_by_cX12_feed_1 rfl rfl
set_option maxRecDepth 100000 in
theorem yd_by_cX12_feed_2 : ydk cX12_feed 76 [167, 0, 5, 21, 5, 54, 7, 42, 180, 0, 7, 42, 180, 0, 243, 21, 7, 16, 8, 6, 21, 6, 7, 112, 100, 104, 122, 17, 0, 255, 126, 79, 42] = true := by decide +kernel
theorem dX12_feed_76 : decode cX12_feed 76 = .ok (.goto 5, 3) := yd_op_167 (i := 0) (a := 0) (b := 5) yd_by_cX12_feed_2 rfl rfl
theorem dX12_feed_79 : decode cX12_feed 79 = .ok (.iload 5, 2) := yd_op_21 (i := 3) (a := 5) yd_by_cX12_feed_2 rfl rfl
theorem dX12_feed_81 : decode cX12_feed 81 = .ok (.istore 7, 2) := yd_op_54 (i := 5) (a := 7) yd_by_cX12_feed_2 rfl rfl
theorem dX12_feed_83 : decode cX12_feed 83 = .ok (.aload_n 0, 1) := yd_op_42 (i := 7) yd_by_cX12_feed_2 rfl rfl
theorem dX12_feed_84 : decode cX12_feed 84 = .ok (.getfield 7, 3) := yd_op_180 (i := 8) (a := 0) (b := 7) yd_by_cX12_feed_2 rfl rfl
theorem dX12_feed_87 : decode cX12_feed 87 = .ok (.aload_n 0, 1) := yd_op_42 (i := 11) yd_by_cX12_feed_2 rfl rfl
theorem dX12_feed_88 : decode cX12_feed 88 = .ok (.getfield 243, 3) := yd_op_180 (i := 12) (a := 0) (b := 243) yd_by_cX12_feed_2 rfl rfl
theorem dX12_feed_91 : decode cX12_feed 91 = .ok (.iload 7, 2) := yd_op_21 (i := 15) (a := 7) yd_by_cX12_feed_2 rfl rfl
theorem dX12_feed_93 : decode cX12_feed 93 = .ok (.bipush 8, 2) := yd_op_16 (i := 17) (a := 8) yd_by_cX12_feed_2 rfl rfl
theorem dX12_feed_95 : decode cX12_feed 95 = .ok (.iconst 3, 1) := yd_op_6 (i := 19) yd_by_cX12_feed_2 rfl rfl
theorem dX12_feed_96 : decode cX12_feed 96 = .ok (.iload 6, 2) := yd_op_21 (i := 20) (a := 6) yd_by_cX12_feed_2 rfl rfl
theorem dX12_feed_98 : decode cX12_feed 98 = .ok (.iconst 4, 1) := yd_op_7 (i := 22) yd_by_cX12_feed_2 rfl rfl
theorem dX12_feed_99 : decode cX12_feed 99 = .ok (.irem, 1) := yd_op_112 (i := 23) yd_by_cX12_feed_2 rfl rfl
theorem dX12_feed_100 : decode cX12_feed 100 = .ok (.isub, 1) := yd_op_100 (i := 24) yd_by_cX12_feed_2 rfl rfl
theorem dX12_feed_101 : decode cX12_feed 101 = .ok (.imul, 1) := yd_op_104 (i := 25) yd_by_cX12_feed_2 rfl rfl
theorem dX12_feed_102 : decode cX12_feed 102 = .ok (.ishr, 1) := yd_op_122 (i := 26) yd_by_cX12_feed_2 rfl rfl
theorem dX12_feed_103 : decode cX12_feed 103 = .ok (.sipush 255, 3) := yd_op_17 (i := 27) (a := 0) (b := 255) yd_by_cX12_feed_2 rfl rfl
theorem dX12_feed_106 : decode cX12_feed 106 = .ok (.iand, 1) := yd_op_126 (i := 30) yd_by_cX12_feed_2 rfl rfl
theorem dX12_feed_107 : decode cX12_feed 107 = .ok (.iastore, 1) := yd_op_79 (i := 31) yd_by_cX12_feed_2 rfl rfl
theorem dX12_feed_108 : decode cX12_feed 108 = .ok (.aload_n 0, 1) := yd_op_42 (i := 32) yd_by_cX12_feed_2 rfl rfl
set_option maxRecDepth 100000 in
theorem yd_by_cX12_feed_3 : ydk cX12_feed 109 [89, 180, 0, 243, 4, 96, 181, 0, 243, 132, 6, 1, 167, 255, 163, 42, 180, 0, 243, 172] = true := by decide +kernel
theorem dX12_feed_109 : decode cX12_feed 109 = .ok (.dup, 1) := yd_op_89 (i := 0) yd_by_cX12_feed_3 rfl rfl
theorem dX12_feed_110 : decode cX12_feed 110 = .ok (.getfield 243, 3) := yd_op_180 (i := 1) (a := 0) (b := 243) yd_by_cX12_feed_3 rfl rfl
theorem dX12_feed_113 : decode cX12_feed 113 = .ok (.iconst 1, 1) := yd_op_4 (i := 4) yd_by_cX12_feed_3 rfl rfl
theorem dX12_feed_114 : decode cX12_feed 114 = .ok (.iadd, 1) := yd_op_96 (i := 5) yd_by_cX12_feed_3 rfl rfl
theorem dX12_feed_115 : decode cX12_feed 115 = .ok (.putfield 243, 3) := yd_op_181 (i := 6) (a := 0) (b := 243) yd_by_cX12_feed_3 rfl rfl
theorem dX12_feed_118 : decode cX12_feed 118 = .ok (.iinc 6 1, 3) := yd_op_132 (i := 9) (a := 6) (b := 1) yd_by_cX12_feed_3 rfl rfl
theorem dX12_feed_121 : decode cX12_feed 121 = .ok (.goto (-93), 3) := yd_op_167 (i := 12) (a := 255) (b := 163) yd_by_cX12_feed_3 rfl rfl
theorem dX12_feed_124 : decode cX12_feed 124 = .ok (.aload_n 0, 1) := yd_op_42 (i := 15) yd_by_cX12_feed_3 rfl rfl
theorem dX12_feed_125 : decode cX12_feed 125 = .ok (.getfield 243, 3) := yd_op_180 (i := 16) (a := 0) (b := 243) yd_by_cX12_feed_3 rfl rfl
theorem dX12_feed_128 : decode cX12_feed 128 = .ok (.ireturn, 1) := yd_op_172 (i := 19) yd_by_cX12_feed_3 rfl rfl
set_option maxRecDepth 100000 in
theorem yd_by_cX12_end_0 : ydk cX12_end 0 [27, 155, 0, 11, 27, 42, 180, 0, 243, 164, 0, 15, 42, 180, 0, 17, 3, 92, 46, 4, 96, 79, 3, 172, 42, 27, 181, 0, 243, 4] = true := by decide +kernel
theorem dX12_end_0 : decode cX12_end 0 = .ok (.iload_n 1, 1) := yd_op_27 (i := 0) yd_by_cX12_end_0 rfl rfl
theorem dX12_end_1 : decode cX12_end 1 = .ok (.ifCond .lt 11, 3) := yd_op_155 (i := 1) (a := 0) (b := 11) yd_by_cX12_end_0 rfl rfl
theorem dX12_end_4 : decode cX12_end 4 = .ok (.iload_n 1, 1) := yd_op_27 (i := 4) yd_by_cX12_end_0 rfl rfl
theorem dX12_end_5 : decode cX12_end 5 = .ok (.aload_n 0, 1) := yd_op_42 (i := 5) yd_by_cX12_end_0 rfl rfl
theorem dX12_end_6 : decode cX12_end 6 = .ok (.getfield 243, 3) := yd_op_180 (i := 6) (a := 0) (b := 243) yd_by_cX12_end_0 rfl rfl
theorem dX12_end_9 : decode cX12_end 9 = .ok (.if_icmp .le 15, 3) := yd_op_164 (i := 9) (a := 0) (b := 15) yd_by_cX12_end_0 rfl rfl
theorem dX12_end_12 : decode cX12_end 12 = .ok (.aload_n 0, 1) := yd_op_42 (i := 12) yd_by_cX12_end_0 rfl rfl
theorem dX12_end_13 : decode cX12_end 13 = .ok (.getfield 17, 3) := yd_op_180 (i := 13) (a := 0) (b := 17) yd_by_cX12_end_0 rfl rfl
theorem dX12_end_16 : decode cX12_end 16 = .ok (.iconst 0, 1) := yd_op_3 (i := 16) yd_by_cX12_end_0 rfl rfl
theorem dX12_end_17 : decode cX12_end 17 = .ok (.dup2, 1) := yd_op_92 (i := 17) yd_by_cX12_end_0 rfl rfl
theorem dX12_end_18 : decode cX12_end 18 = .ok (.iaload, 1) := yd_op_46 (i := 18) yd_by_cX12_end_0 rfl rfl
theorem dX12_end_19 : decode cX12_end 19 = .ok (.iconst 1, 1) := yd_op_4 (i := 19) yd_by_cX12_end_0 rfl rfl
theorem dX12_end_20 : decode cX12_end 20 = .ok (.iadd, 1) := yd_op_96 (i := 20) yd_by_cX12_end_0 rfl rfl
theorem dX12_end_21 : decode cX12_end 21 = .ok (.iastore, 1) := yd_op_79 (i := 21) yd_by_cX12_end_0 rfl rfl
theorem dX12_end_22 : decode cX12_end 22 = .ok (.iconst 0, 1) := yd_op_3 (i := 22) yd_by_cX12_end_0 rfl rfl
theorem dX12_end_23 : decode cX12_end 23 = .ok (.ireturn, 1) := yd_op_172 (i := 23) yd_by_cX12_end_0 rfl rfl
theorem dX12_end_24 : decode cX12_end 24 = .ok (.aload_n 0, 1) := yd_op_42 (i := 24) yd_by_cX12_end_0 rfl rfl
theorem dX12_end_25 : decode cX12_end 25 = .ok (.iload_n 1, 1) := yd_op_27 (i := 25) yd_by_cX12_end_0 rfl rfl
theorem dX12_end_26 : decode cX12_end 26 = .ok (.putfield 243, 3) := yd_op_181 (i := 26) (a := 0) (b := 243) yd_by_cX12_end_0 rfl rfl
theorem dX12_end_29 : decode cX12_end 29 = .ok (.iconst 1, 1) := yd_op_4 (i := 29) yd_by_cX12_end_0 rfl rfl
set_option maxRecDepth 100000 in
theorem yd_by_cX12_end_1 : ydk cX12_end 30 [172] = true := by decide +kernel
theorem dX12_end_30 : decode cX12_end 30 = .ok (.ireturn, 1) := yd_op_172 (i := 0) yd_by_cX12_end_1 rfl rfl
set_option maxRecDepth 100000 in
theorem yd_by_cX12_fail_0 : ydk cX12_fail 0 [42, 180, 0, 246, 153, 0, 4, 177, 42, 27, 181, 0, 246, 42, 28, 181, 0, 249, 177] = true := by decide +kernel
theorem dX12_fail_0 : decode cX12_fail 0 = .ok (.aload_n 0, 1) := yd_op_42 (i := 0) yd_by_cX12_fail_0 rfl rfl
theorem dX12_fail_1 : decode cX12_fail 1 = .ok (.getfield 246, 3) := yd_op_180 (i := 1) (a := 0) (b := 246) yd_by_cX12_fail_0 rfl rfl
theorem dX12_fail_4 : decode cX12_fail 4 = .ok (.ifCond .eq 4, 3) := yd_op_153 (i := 4) (a := 0) (b := 4) yd_by_cX12_fail_0 rfl rfl
theorem dX12_fail_7 : decode cX12_fail 7 = .ok (.return_, 1) := yd_op_177 (i := 7) yd_by_cX12_fail_0 rfl rfl
theorem dX12_fail_8 : decode cX12_fail 8 = .ok (.aload_n 0, 1) := yd_op_42 (i := 8) yd_by_cX12_fail_0 rfl rfl
theorem dX12_fail_9 : decode cX12_fail 9 = .ok (.iload_n 1, 1) := yd_op_27 (i := 9) yd_by_cX12_fail_0 rfl rfl
theorem dX12_fail_10 : decode cX12_fail 10 = .ok (.putfield 246, 3) := yd_op_181 (i := 10) (a := 0) (b := 246) yd_by_cX12_fail_0 rfl rfl
theorem dX12_fail_13 : decode cX12_fail 13 = .ok (.aload_n 0, 1) := yd_op_42 (i := 13) yd_by_cX12_fail_0 rfl rfl
theorem dX12_fail_14 : decode cX12_fail 14 = .ok (.iload_n 2, 1) := yd_op_28 (i := 14) yd_by_cX12_fail_0 rfl rfl
theorem dX12_fail_15 : decode cX12_fail 15 = .ok (.putfield 249, 3) := yd_op_181 (i := 15) (a := 0) (b := 249) yd_by_cX12_fail_0 rfl rfl
theorem dX12_fail_18 : decode cX12_fail 18 = .ok (.return_, 1) := yd_op_177 (i := 18) yd_by_cX12_fail_0 rfl rfl
set_option maxRecDepth 100000 in
theorem yd_by_cX12_isLetter_0 : ydk cX12_isLetter 0 [26, 16, 97, 161, 0, 13, 26, 16, 122, 163, 0, 7, 4, 167, 0, 4, 3, 172] = true := by decide +kernel
theorem dX12_isLetter_0 : decode cX12_isLetter 0 = .ok (.iload_n 0, 1) := yd_op_26 (i := 0) yd_by_cX12_isLetter_0 rfl rfl
theorem dX12_isLetter_1 : decode cX12_isLetter 1 = .ok (.bipush 97, 2) := yd_op_16 (i := 1) (a := 97) yd_by_cX12_isLetter_0 rfl rfl
theorem dX12_isLetter_3 : decode cX12_isLetter 3 = .ok (.if_icmp .lt 13, 3) := yd_op_161 (i := 3) (a := 0) (b := 13) yd_by_cX12_isLetter_0 rfl rfl
theorem dX12_isLetter_6 : decode cX12_isLetter 6 = .ok (.iload_n 0, 1) := yd_op_26 (i := 6) yd_by_cX12_isLetter_0 rfl rfl
theorem dX12_isLetter_7 : decode cX12_isLetter 7 = .ok (.bipush 122, 2) := yd_op_16 (i := 7) (a := 122) yd_by_cX12_isLetter_0 rfl rfl
theorem dX12_isLetter_9 : decode cX12_isLetter 9 = .ok (.if_icmp .gt 7, 3) := yd_op_163 (i := 9) (a := 0) (b := 7) yd_by_cX12_isLetter_0 rfl rfl
theorem dX12_isLetter_12 : decode cX12_isLetter 12 = .ok (.iconst 1, 1) := yd_op_4 (i := 12) yd_by_cX12_isLetter_0 rfl rfl
theorem dX12_isLetter_13 : decode cX12_isLetter 13 = .ok (.goto 4, 3) := yd_op_167 (i := 13) (a := 0) (b := 4) yd_by_cX12_isLetter_0 rfl rfl
theorem dX12_isLetter_16 : decode cX12_isLetter 16 = .ok (.iconst 0, 1) := yd_op_3 (i := 16) yd_by_cX12_isLetter_0 rfl rfl
theorem dX12_isLetter_17 : decode cX12_isLetter 17 = .ok (.ireturn, 1) := yd_op_172 (i := 17) yd_by_cX12_isLetter_0 rfl rfl
set_option maxRecDepth 100000 in
theorem yd_by_cX12_isDigit_0 : ydk cX12_isDigit 0 [26, 16, 48, 161, 0, 13, 26, 16, 57, 163, 0, 7, 4, 167, 0, 4, 3, 172] = true := by decide +kernel
theorem dX12_isDigit_0 : decode cX12_isDigit 0 = .ok (.iload_n 0, 1) := yd_op_26 (i := 0) yd_by_cX12_isDigit_0 rfl rfl
theorem dX12_isDigit_1 : decode cX12_isDigit 1 = .ok (.bipush 48, 2) := yd_op_16 (i := 1) (a := 48) yd_by_cX12_isDigit_0 rfl rfl
theorem dX12_isDigit_3 : decode cX12_isDigit 3 = .ok (.if_icmp .lt 13, 3) := yd_op_161 (i := 3) (a := 0) (b := 13) yd_by_cX12_isDigit_0 rfl rfl
theorem dX12_isDigit_6 : decode cX12_isDigit 6 = .ok (.iload_n 0, 1) := yd_op_26 (i := 6) yd_by_cX12_isDigit_0 rfl rfl
theorem dX12_isDigit_7 : decode cX12_isDigit 7 = .ok (.bipush 57, 2) := yd_op_16 (i := 7) (a := 57) yd_by_cX12_isDigit_0 rfl rfl
theorem dX12_isDigit_9 : decode cX12_isDigit 9 = .ok (.if_icmp .gt 7, 3) := yd_op_163 (i := 9) (a := 0) (b := 7) yd_by_cX12_isDigit_0 rfl rfl
theorem dX12_isDigit_12 : decode cX12_isDigit 12 = .ok (.iconst 1, 1) := yd_op_4 (i := 12) yd_by_cX12_isDigit_0 rfl rfl
theorem dX12_isDigit_13 : decode cX12_isDigit 13 = .ok (.goto 4, 3) := yd_op_167 (i := 13) (a := 0) (b := 4) yd_by_cX12_isDigit_0 rfl rfl
theorem dX12_isDigit_16 : decode cX12_isDigit 16 = .ok (.iconst 0, 1) := yd_op_3 (i := 16) yd_by_cX12_isDigit_0 rfl rfl
theorem dX12_isDigit_17 : decode cX12_isDigit 17 = .ok (.ireturn, 1) := yd_op_172 (i := 17) yd_by_cX12_isDigit_0 rfl rfl
set_option maxRecDepth 100000 in
theorem yd_by_cX12_look_0 : ydk cX12_look 0 [42, 180, 0, 252, 42, 180, 0, 255, 162, 0, 44, 42, 180, 0, 7, 42, 180, 0, 252, 46, 16, 10, 159, 0, 17, 42, 180, 0, 7, 42, 180, 0, 252, 46, 16, 32, 160, 0, 16, 42] = true := by decide +kernel
theorem dX12_look_0 : decode cX12_look 0 = .ok (.aload_n 0, 1) := yd_op_42 (i := 0) yd_by_cX12_look_0 rfl rfl
theorem dX12_look_1 : decode cX12_look 1 = .ok (.getfield 252, 3) := yd_op_180 (i := 1) (a := 0) (b := 252) yd_by_cX12_look_0 rfl rfl
theorem dX12_look_4 : decode cX12_look 4 = .ok (.aload_n 0, 1) := yd_op_42 (i := 4) yd_by_cX12_look_0 rfl rfl
theorem dX12_look_5 : decode cX12_look 5 = .ok (.getfield 255, 3) := yd_op_180 (i := 5) (a := 0) (b := 255) yd_by_cX12_look_0 rfl rfl
theorem dX12_look_8 : decode cX12_look 8 = .ok (.if_icmp .ge 44, 3) := yd_op_162 (i := 8) (a := 0) (b := 44) yd_by_cX12_look_0 rfl rfl
theorem dX12_look_11 : decode cX12_look 11 = .ok (.aload_n 0, 1) := yd_op_42 (i := 11) yd_by_cX12_look_0 rfl rfl
theorem dX12_look_12 : decode cX12_look 12 = .ok (.getfield 7, 3) := yd_op_180 (i := 12) (a := 0) (b := 7) yd_by_cX12_look_0 rfl rfl
theorem dX12_look_15 : decode cX12_look 15 = .ok (.aload_n 0, 1) := yd_op_42 (i := 15) yd_by_cX12_look_0 rfl rfl
theorem dX12_look_16 : decode cX12_look 16 = .ok (.getfield 252, 3) := yd_op_180 (i := 16) (a := 0) (b := 252) yd_by_cX12_look_0 rfl rfl
theorem dX12_look_19 : decode cX12_look 19 = .ok (.iaload, 1) := yd_op_46 (i := 19) yd_by_cX12_look_0 rfl rfl
theorem dX12_look_20 : decode cX12_look 20 = .ok (.bipush 10, 2) := yd_op_16 (i := 20) (a := 10) yd_by_cX12_look_0 rfl rfl
theorem dX12_look_22 : decode cX12_look 22 = .ok (.if_icmp .eq 17, 3) := yd_op_159 (i := 22) (a := 0) (b := 17) yd_by_cX12_look_0 rfl rfl
theorem dX12_look_25 : decode cX12_look 25 = .ok (.aload_n 0, 1) := yd_op_42 (i := 25) yd_by_cX12_look_0 rfl rfl
theorem dX12_look_26 : decode cX12_look 26 = .ok (.getfield 7, 3) := yd_op_180 (i := 26) (a := 0) (b := 7) yd_by_cX12_look_0 rfl rfl
theorem dX12_look_29 : decode cX12_look 29 = .ok (.aload_n 0, 1) := yd_op_42 (i := 29) yd_by_cX12_look_0 rfl rfl
theorem dX12_look_30 : decode cX12_look 30 = .ok (.getfield 252, 3) := yd_op_180 (i := 30) (a := 0) (b := 252) yd_by_cX12_look_0 rfl rfl
theorem dX12_look_33 : decode cX12_look 33 = .ok (.iaload, 1) := yd_op_46 (i := 33) yd_by_cX12_look_0 rfl rfl
theorem dX12_look_34 : decode cX12_look 34 = .ok (.bipush 32, 2) := yd_op_16 (i := 34) (a := 32) yd_by_cX12_look_0 rfl rfl
theorem dX12_look_36 : decode cX12_look 36 = .ok (.if_icmp .ne 16, 3) := yd_op_160 (i := 36) (a := 0) (b := 16) yd_by_cX12_look_0 rfl rfl
theorem dX12_look_39 : decode cX12_look 39 = .ok (.aload_n 0, 1) := yd_op_42 (i := 39) yd_by_cX12_look_0 rfl rfl
set_option maxRecDepth 100000 in
theorem yd_by_cX12_look_1 : ydk cX12_look 40 [89, 180, 0, 252, 4, 96, 181, 0, 252, 167, 255, 207, 42, 180, 0, 252, 42, 180, 0, 255, 162, 0, 15, 42, 180, 0, 7, 42, 180, 0, 252, 46, 167, 0, 4, 2, 172] = true := by decide +kernel
theorem dX12_look_40 : decode cX12_look 40 = .ok (.dup, 1) := yd_op_89 (i := 0) yd_by_cX12_look_1 rfl rfl
theorem dX12_look_41 : decode cX12_look 41 = .ok (.getfield 252, 3) := yd_op_180 (i := 1) (a := 0) (b := 252) yd_by_cX12_look_1 rfl rfl
theorem dX12_look_44 : decode cX12_look 44 = .ok (.iconst 1, 1) := yd_op_4 (i := 4) yd_by_cX12_look_1 rfl rfl
theorem dX12_look_45 : decode cX12_look 45 = .ok (.iadd, 1) := yd_op_96 (i := 5) yd_by_cX12_look_1 rfl rfl
theorem dX12_look_46 : decode cX12_look 46 = .ok (.putfield 252, 3) := yd_op_181 (i := 6) (a := 0) (b := 252) yd_by_cX12_look_1 rfl rfl
theorem dX12_look_49 : decode cX12_look 49 = .ok (.goto (-49), 3) := yd_op_167 (i := 9) (a := 255) (b := 207) yd_by_cX12_look_1 rfl rfl
theorem dX12_look_52 : decode cX12_look 52 = .ok (.aload_n 0, 1) := yd_op_42 (i := 12) yd_by_cX12_look_1 rfl rfl
theorem dX12_look_53 : decode cX12_look 53 = .ok (.getfield 252, 3) := yd_op_180 (i := 13) (a := 0) (b := 252) yd_by_cX12_look_1 rfl rfl
theorem dX12_look_56 : decode cX12_look 56 = .ok (.aload_n 0, 1) := yd_op_42 (i := 16) yd_by_cX12_look_1 rfl rfl
theorem dX12_look_57 : decode cX12_look 57 = .ok (.getfield 255, 3) := yd_op_180 (i := 17) (a := 0) (b := 255) yd_by_cX12_look_1 rfl rfl
theorem dX12_look_60 : decode cX12_look 60 = .ok (.if_icmp .ge 15, 3) := yd_op_162 (i := 20) (a := 0) (b := 15) yd_by_cX12_look_1 rfl rfl
theorem dX12_look_63 : decode cX12_look 63 = .ok (.aload_n 0, 1) := yd_op_42 (i := 23) yd_by_cX12_look_1 rfl rfl
theorem dX12_look_64 : decode cX12_look 64 = .ok (.getfield 7, 3) := yd_op_180 (i := 24) (a := 0) (b := 7) yd_by_cX12_look_1 rfl rfl
theorem dX12_look_67 : decode cX12_look 67 = .ok (.aload_n 0, 1) := yd_op_42 (i := 27) yd_by_cX12_look_1 rfl rfl
theorem dX12_look_68 : decode cX12_look 68 = .ok (.getfield 252, 3) := yd_op_180 (i := 28) (a := 0) (b := 252) yd_by_cX12_look_1 rfl rfl
theorem dX12_look_71 : decode cX12_look 71 = .ok (.iaload, 1) := yd_op_46 (i := 31) yd_by_cX12_look_1 rfl rfl
theorem dX12_look_72 : decode cX12_look 72 = .ok (.goto 4, 3) := yd_op_167 (i := 32) (a := 0) (b := 4) yd_by_cX12_look_1 rfl rfl
theorem dX12_look_75 : decode cX12_look 75 = .ok (.iconst (-1), 1) := yd_op_2 (i := 35) yd_by_cX12_look_1 rfl rfl
theorem dX12_look_76 : decode cX12_look 76 = .ok (.ireturn, 1) := yd_op_172 (i := 36) yd_by_cX12_look_1 rfl rfl
set_option maxRecDepth 100000 in
theorem yd_by_cX12_isHere_0 : ydk cX12_isHere 0 [42, 180, 0, 246, 154, 0, 24, 42, 182, 1, 2, 184, 1, 6, 153, 0, 14, 42, 180, 0, 252, 42, 180, 1, 10, 160, 0, 5, 3, 172, 42, 180, 0, 252, 61, 28, 42, 180, 0, 255] = true := by decide +kernel
theorem dX12_isHere_0 : decode cX12_isHere 0 = .ok (.aload_n 0, 1) := yd_op_42 (i := 0) yd_by_cX12_isHere_0 rfl rfl
theorem dX12_isHere_1 : decode cX12_isHere 1 = .ok (.getfield 246, 3) := yd_op_180 (i := 1) (a := 0) (b := 246) yd_by_cX12_isHere_0 rfl rfl
theorem dX12_isHere_4 : decode cX12_isHere 4 = .ok (.ifCond .ne 24, 3) := yd_op_154 (i := 4) (a := 0) (b := 24) yd_by_cX12_isHere_0 rfl rfl
theorem dX12_isHere_7 : decode cX12_isHere 7 = .ok (.aload_n 0, 1) := yd_op_42 (i := 7) yd_by_cX12_isHere_0 rfl rfl
theorem dX12_isHere_8 : decode cX12_isHere 8 = .ok (.invokevirtual 258, 3) := yd_op_182 (i := 8) (a := 1) (b := 2) yd_by_cX12_isHere_0 rfl rfl
theorem dX12_isHere_11 : decode cX12_isHere 11 = .ok (.invokestatic 262, 3) := yd_op_184 (i := 11) (a := 1) (b := 6) yd_by_cX12_isHere_0 rfl rfl
theorem dX12_isHere_14 : decode cX12_isHere 14 = .ok (.ifCond .eq 14, 3) := yd_op_153 (i := 14) (a := 0) (b := 14) yd_by_cX12_isHere_0 rfl rfl
theorem dX12_isHere_17 : decode cX12_isHere 17 = .ok (.aload_n 0, 1) := yd_op_42 (i := 17) yd_by_cX12_isHere_0 rfl rfl
theorem dX12_isHere_18 : decode cX12_isHere 18 = .ok (.getfield 252, 3) := yd_op_180 (i := 18) (a := 0) (b := 252) yd_by_cX12_isHere_0 rfl rfl
theorem dX12_isHere_21 : decode cX12_isHere 21 = .ok (.aload_n 0, 1) := yd_op_42 (i := 21) yd_by_cX12_isHere_0 rfl rfl
theorem dX12_isHere_22 : decode cX12_isHere 22 = .ok (.getfield 266, 3) := yd_op_180 (i := 22) (a := 1) (b := 10) yd_by_cX12_isHere_0 rfl rfl
theorem dX12_isHere_25 : decode cX12_isHere 25 = .ok (.if_icmp .ne 5, 3) := yd_op_160 (i := 25) (a := 0) (b := 5) yd_by_cX12_isHere_0 rfl rfl
theorem dX12_isHere_28 : decode cX12_isHere 28 = .ok (.iconst 0, 1) := yd_op_3 (i := 28) yd_by_cX12_isHere_0 rfl rfl
theorem dX12_isHere_29 : decode cX12_isHere 29 = .ok (.ireturn, 1) := yd_op_172 (i := 29) yd_by_cX12_isHere_0 rfl rfl
theorem dX12_isHere_30 : decode cX12_isHere 30 = .ok (.aload_n 0, 1) := yd_op_42 (i := 30) yd_by_cX12_isHere_0 rfl rfl
theorem dX12_isHere_31 : decode cX12_isHere 31 = .ok (.getfield 252, 3) := yd_op_180 (i := 31) (a := 0) (b := 252) yd_by_cX12_isHere_0 rfl rfl
theorem dX12_isHere_34 : decode cX12_isHere 34 = .ok (.istore_n 2, 1) := yd_op_61 (i := 34) yd_by_cX12_isHere_0 rfl rfl
theorem dX12_isHere_35 : decode cX12_isHere 35 = .ok (.iload_n 2, 1) := yd_op_28 (i := 35) yd_by_cX12_isHere_0 rfl rfl
theorem dX12_isHere_36 : decode cX12_isHere 36 = .ok (.aload_n 0, 1) := yd_op_42 (i := 36) yd_by_cX12_isHere_0 rfl rfl
theorem dX12_isHere_37 : decode cX12_isHere 37 = .ok (.getfield 255, 3) := yd_op_180 (i := 37) (a := 0) (b := 255) yd_by_cX12_isHere_0 rfl rfl
set_option maxRecDepth 100000 in
theorem yd_by_cX12_isHere_1 : ydk cX12_isHere 40 [162, 0, 21, 42, 180, 0, 7, 28, 46, 184, 1, 6, 153, 0, 9, 132, 2, 1, 167, 255, 233, 28, 42, 180, 0, 252, 100, 43, 190, 159, 0, 5, 3, 172, 3, 62] = true := by decide +kernel
theorem dX12_isHere_40 : decode cX12_isHere 40 = .ok (.if_icmp .ge 21, 3) := yd_op_162 (i := 0) (a := 0) (b := 21) yd_by_cX12_isHere_1 rfl rfl
theorem dX12_isHere_43 : decode cX12_isHere 43 = .ok (.aload_n 0, 1) := yd_op_42 (i := 3) yd_by_cX12_isHere_1 rfl rfl
theorem dX12_isHere_44 : decode cX12_isHere 44 = .ok (.getfield 7, 3) := yd_op_180 (i := 4) (a := 0) (b := 7) yd_by_cX12_isHere_1 rfl rfl
theorem dX12_isHere_47 : decode cX12_isHere 47 = .ok (.iload_n 2, 1) := yd_op_28 (i := 7) yd_by_cX12_isHere_1 rfl rfl
theorem dX12_isHere_48 : decode cX12_isHere 48 = .ok (.iaload, 1) := yd_op_46 (i := 8) yd_by_cX12_isHere_1 rfl rfl
theorem dX12_isHere_49 : decode cX12_isHere 49 = .ok (.invokestatic 262, 3) := yd_op_184 (i := 9) (a := 1) (b := 6) yd_by_cX12_isHere_1 rfl rfl
theorem dX12_isHere_52 : decode cX12_isHere 52 = .ok (.ifCond .eq 9, 3) := yd_op_153 (i := 12) (a := 0) (b := 9) yd_by_cX12_isHere_1 rfl rfl
theorem dX12_isHere_55 : decode cX12_isHere 55 = .ok (.iinc 2 1, 3) := yd_op_132 (i := 15) (a := 2) (b := 1) yd_by_cX12_isHere_1 rfl rfl
theorem dX12_isHere_58 : decode cX12_isHere 58 = .ok (.goto (-23), 3) := yd_op_167 (i := 18) (a := 255) (b := 233) yd_by_cX12_isHere_1 rfl rfl
theorem dX12_isHere_61 : decode cX12_isHere 61 = .ok (.iload_n 2, 1) := yd_op_28 (i := 21) yd_by_cX12_isHere_1 rfl rfl
theorem dX12_isHere_62 : decode cX12_isHere 62 = .ok (.aload_n 0, 1) := yd_op_42 (i := 22) yd_by_cX12_isHere_1 rfl rfl
theorem dX12_isHere_63 : decode cX12_isHere 63 = .ok (.getfield 252, 3) := yd_op_180 (i := 23) (a := 0) (b := 252) yd_by_cX12_isHere_1 rfl rfl
theorem dX12_isHere_66 : decode cX12_isHere 66 = .ok (.isub, 1) := yd_op_100 (i := 26) yd_by_cX12_isHere_1 rfl rfl
theorem dX12_isHere_67 : decode cX12_isHere 67 = .ok (.aload_n 1, 1) := yd_op_43 (i := 27) yd_by_cX12_isHere_1 rfl rfl
theorem dX12_isHere_68 : decode cX12_isHere 68 = .ok (.arraylength, 1) := yd_op_190 (i := 28) yd_by_cX12_isHere_1 rfl rfl
theorem dX12_isHere_69 : decode cX12_isHere 69 = .ok (.if_icmp .eq 5, 3) := yd_op_159 (i := 29) (a := 0) (b := 5) yd_by_cX12_isHere_1 rfl rfl
theorem dX12_isHere_72 : decode cX12_isHere 72 = .ok (.iconst 0, 1) := yd_op_3 (i := 32) yd_by_cX12_isHere_1 rfl rfl
theorem dX12_isHere_73 : decode cX12_isHere 73 = .ok (.ireturn, 1) := yd_op_172 (i := 33) yd_by_cX12_isHere_1 rfl rfl
theorem dX12_isHere_74 : decode cX12_isHere 74 = .ok (.iconst 0, 1) := yd_op_3 (i := 34) yd_by_cX12_isHere_1 rfl rfl
theorem dX12_isHere_75 : decode cX12_isHere 75 = .ok (.istore_n 3, 1) := yd_op_62 (i := 35) yd_by_cX12_isHere_1 rfl rfl
set_option maxRecDepth 100000 in
theorem yd_by_cX12_isHere_2 : ydk cX12_isHere 76 [29, 43, 190, 162, 0, 28, 42, 180, 0, 7, 42, 180, 0, 252, 29, 96, 46, 43, 29, 52, 159, 0, 5, 3, 172, 132, 3, 1, 167, 255, 228, 4] = true := by decide +kernel
theorem dX12_isHere_76 : decode cX12_isHere 76 = .ok (.iload_n 3, 1) := yd_op_29 (i := 0) yd_by_cX12_isHere_2 rfl rfl
theorem dX12_isHere_77 : decode cX12_isHere 77 = .ok (.aload_n 1, 1) := yd_op_43 (i := 1) yd_by_cX12_isHere_2 rfl rfl
theorem dX12_isHere_78 : decode cX12_isHere 78 = .ok (.arraylength, 1) := yd_op_190 (i := 2) yd_by_cX12_isHere_2 rfl rfl
theorem dX12_isHere_79 : decode cX12_isHere 79 = .ok (.if_icmp .ge 28, 3) := yd_op_162 (i := 3) (a := 0) (b := 28) yd_by_cX12_isHere_2 rfl rfl
theorem dX12_isHere_82 : decode cX12_isHere 82 = .ok (.aload_n 0, 1) := yd_op_42 (i := 6) yd_by_cX12_isHere_2 rfl rfl
theorem dX12_isHere_83 : decode cX12_isHere 83 = .ok (.getfield 7, 3) := yd_op_180 (i := 7) (a := 0) (b := 7) yd_by_cX12_isHere_2 rfl rfl
theorem dX12_isHere_86 : decode cX12_isHere 86 = .ok (.aload_n 0, 1) := yd_op_42 (i := 10) yd_by_cX12_isHere_2 rfl rfl
theorem dX12_isHere_87 : decode cX12_isHere 87 = .ok (.getfield 252, 3) := yd_op_180 (i := 11) (a := 0) (b := 252) yd_by_cX12_isHere_2 rfl rfl
theorem dX12_isHere_90 : decode cX12_isHere 90 = .ok (.iload_n 3, 1) := yd_op_29 (i := 14) yd_by_cX12_isHere_2 rfl rfl
theorem dX12_isHere_91 : decode cX12_isHere 91 = .ok (.iadd, 1) := yd_op_96 (i := 15) yd_by_cX12_isHere_2 rfl rfl
theorem dX12_isHere_92 : decode cX12_isHere 92 = .ok (.iaload, 1) := yd_op_46 (i := 16) yd_by_cX12_isHere_2 rfl rfl
theorem dX12_isHere_93 : decode cX12_isHere 93 = .ok (.aload_n 1, 1) := yd_op_43 (i := 17) yd_by_cX12_isHere_2 rfl rfl
theorem dX12_isHere_94 : decode cX12_isHere 94 = .ok (.iload_n 3, 1) := yd_op_29 (i := 18) yd_by_cX12_isHere_2 rfl rfl
theorem dX12_isHere_95 : decode cX12_isHere 95 = .ok (.caload, 1) := yd_op_52 (i := 19) yd_by_cX12_isHere_2 rfl rfl
theorem dX12_isHere_96 : decode cX12_isHere 96 = .ok (.if_icmp .eq 5, 3) := yd_op_159 (i := 20) (a := 0) (b := 5) yd_by_cX12_isHere_2 rfl rfl
theorem dX12_isHere_99 : decode cX12_isHere 99 = .ok (.iconst 0, 1) := yd_op_3 (i := 23) yd_by_cX12_isHere_2 rfl rfl
theorem dX12_isHere_100 : decode cX12_isHere 100 = .ok (.ireturn, 1) := yd_op_172 (i := 24) yd_by_cX12_isHere_2 rfl rfl
theorem dX12_isHere_101 : decode cX12_isHere 101 = .ok (.iinc 3 1, 3) := yd_op_132 (i := 25) (a := 3) (b := 1) yd_by_cX12_isHere_2 rfl rfl
theorem dX12_isHere_104 : decode cX12_isHere 104 = .ok (.goto (-28), 3) := yd_op_167 (i := 28) (a := 255) (b := 228) yd_by_cX12_isHere_2 rfl rfl
theorem dX12_isHere_107 : decode cX12_isHere 107 = .ok (.iconst 1, 1) := yd_op_4 (i := 31) yd_by_cX12_isHere_2 rfl rfl
set_option maxRecDepth 100000 in
theorem yd_by_cX12_isHere_3 : ydk cX12_isHere 108 [172] = true := by decide +kernel
theorem dX12_isHere_108 : decode cX12_isHere 108 = .ok (.ireturn, 1) := yd_op_172 (i := 0) yd_by_cX12_isHere_3 rfl rfl
set_option maxRecDepth 100000 in
theorem yd_by_cX12_takes_0 : ydk cX12_takes 0 [42, 43, 182, 1, 13, 154, 0, 5, 3, 172, 42, 89, 180, 0, 252, 43, 190, 96, 181, 0, 252, 42, 42, 180, 0, 252, 181, 1, 10, 4, 172] = true := by decide +kernel
theorem dX12_takes_0 : decode cX12_takes 0 = .ok (.aload_n 0, 1) := yd_op_42 (i := 0) yd_by_cX12_takes_0 rfl rfl
theorem dX12_takes_1 : decode cX12_takes 1 = .ok (.aload_n 1, 1) := yd_op_43 (i := 1) yd_by_cX12_takes_0 rfl rfl
theorem dX12_takes_2 : decode cX12_takes 2 = .ok (.invokevirtual 269, 3) := yd_op_182 (i := 2) (a := 1) (b := 13) yd_by_cX12_takes_0 rfl rfl
theorem dX12_takes_5 : decode cX12_takes 5 = .ok (.ifCond .ne 5, 3) := yd_op_154 (i := 5) (a := 0) (b := 5) yd_by_cX12_takes_0 rfl rfl
theorem dX12_takes_8 : decode cX12_takes 8 = .ok (.iconst 0, 1) := yd_op_3 (i := 8) yd_by_cX12_takes_0 rfl rfl
theorem dX12_takes_9 : decode cX12_takes 9 = .ok (.ireturn, 1) := yd_op_172 (i := 9) yd_by_cX12_takes_0 rfl rfl
theorem dX12_takes_10 : decode cX12_takes 10 = .ok (.aload_n 0, 1) := yd_op_42 (i := 10) yd_by_cX12_takes_0 rfl rfl
theorem dX12_takes_11 : decode cX12_takes 11 = .ok (.dup, 1) := yd_op_89 (i := 11) yd_by_cX12_takes_0 rfl rfl
theorem dX12_takes_12 : decode cX12_takes 12 = .ok (.getfield 252, 3) := yd_op_180 (i := 12) (a := 0) (b := 252) yd_by_cX12_takes_0 rfl rfl
theorem dX12_takes_15 : decode cX12_takes 15 = .ok (.aload_n 1, 1) := yd_op_43 (i := 15) yd_by_cX12_takes_0 rfl rfl
theorem dX12_takes_16 : decode cX12_takes 16 = .ok (.arraylength, 1) := yd_op_190 (i := 16) yd_by_cX12_takes_0 rfl rfl
theorem dX12_takes_17 : decode cX12_takes 17 = .ok (.iadd, 1) := yd_op_96 (i := 17) yd_by_cX12_takes_0 rfl rfl
theorem dX12_takes_18 : decode cX12_takes 18 = .ok (.putfield 252, 3) := yd_op_181 (i := 18) (a := 0) (b := 252) yd_by_cX12_takes_0 rfl rfl
theorem dX12_takes_21 : decode cX12_takes 21 = .ok (.aload_n 0, 1) := yd_op_42 (i := 21) yd_by_cX12_takes_0 rfl rfl
theorem dX12_takes_22 : decode cX12_takes 22 = .ok (.aload_n 0, 1) := yd_op_42 (i := 22) yd_by_cX12_takes_0 rfl rfl
theorem dX12_takes_23 : decode cX12_takes 23 = .ok (.getfield 252, 3) := yd_op_180 (i := 23) (a := 0) (b := 252) yd_by_cX12_takes_0 rfl rfl
theorem dX12_takes_26 : decode cX12_takes 26 = .ok (.putfield 266, 3) := yd_op_181 (i := 26) (a := 1) (b := 10) yd_by_cX12_takes_0 rfl rfl
theorem dX12_takes_29 : decode cX12_takes 29 = .ok (.iconst 1, 1) := yd_op_4 (i := 29) yd_by_cX12_takes_0 rfl rfl
theorem dX12_takes_30 : decode cX12_takes 30 = .ok (.ireturn, 1) := yd_op_172 (i := 30) yd_by_cX12_takes_0 rfl rfl
set_option maxRecDepth 100000 in
theorem yd_by_cX12_asks_0 : ydk cX12_asks 0 [42, 180, 0, 246, 154, 0, 20, 42, 43, 182, 1, 17, 154, 0, 12, 42, 4, 42, 180, 0, 252, 182, 1, 20, 177] = true := by decide +kernel
theorem dX12_asks_0 : decode cX12_asks 0 = .ok (.aload_n 0, 1) := yd_op_42 (i := 0) yd_by_cX12_asks_0 rfl rfl
theorem dX12_asks_1 : decode cX12_asks 1 = .ok (.getfield 246, 3) := yd_op_180 (i := 1) (a := 0) (b := 246) yd_by_cX12_asks_0 rfl rfl
theorem dX12_asks_4 : decode cX12_asks 4 = .ok (.ifCond .ne 20, 3) := yd_op_154 (i := 4) (a := 0) (b := 20) yd_by_cX12_asks_0 rfl rfl
theorem dX12_asks_7 : decode cX12_asks 7 = .ok (.aload_n 0, 1) := yd_op_42 (i := 7) yd_by_cX12_asks_0 rfl rfl
theorem dX12_asks_8 : decode cX12_asks 8 = .ok (.aload_n 1, 1) := yd_op_43 (i := 8) yd_by_cX12_asks_0 rfl rfl
theorem dX12_asks_9 : decode cX12_asks 9 = .ok (.invokevirtual 273, 3) := yd_op_182 (i := 9) (a := 1) (b := 17) yd_by_cX12_asks_0 rfl rfl
theorem dX12_asks_12 : decode cX12_asks 12 = .ok (.ifCond .ne 12, 3) := yd_op_154 (i := 12) (a := 0) (b := 12) yd_by_cX12_asks_0 rfl rfl
theorem dX12_asks_15 : decode cX12_asks 15 = .ok (.aload_n 0, 1) := yd_op_42 (i := 15) yd_by_cX12_asks_0 rfl rfl
theorem dX12_asks_16 : decode cX12_asks 16 = .ok (.iconst 1, 1) := yd_op_4 (i := 16) yd_by_cX12_asks_0 rfl rfl
theorem dX12_asks_17 : decode cX12_asks 17 = .ok (.aload_n 0, 1) := yd_op_42 (i := 17) yd_by_cX12_asks_0 rfl rfl
theorem dX12_asks_18 : decode cX12_asks 18 = .ok (.getfield 252, 3) := yd_op_180 (i := 18) (a := 0) (b := 252) yd_by_cX12_asks_0 rfl rfl
theorem dX12_asks_21 : decode cX12_asks 21 = .ok (.invokevirtual 276, 3) := yd_op_182 (i := 21) (a := 1) (b := 20) yd_by_cX12_asks_0 rfl rfl
theorem dX12_asks_24 : decode cX12_asks 24 = .ok (.return_, 1) := yd_op_177 (i := 24) yd_by_cX12_asks_0 rfl rfl
set_option maxRecDepth 100000 in
theorem yd_by_cX12_takesSign_0 : ydk cX12_takesSign 0 [42, 180, 0, 246, 154, 0, 11, 42, 182, 1, 2, 27, 159, 0, 5, 3, 172, 42, 89, 180, 0, 252, 4, 96, 181, 0, 252, 4, 172] = true := by decide +kernel
theorem dX12_takesSign_0 : decode cX12_takesSign 0 = .ok (.aload_n 0, 1) := yd_op_42 (i := 0) yd_by_cX12_takesSign_0 rfl rfl
theorem dX12_takesSign_1 : decode cX12_takesSign 1 = .ok (.getfield 246, 3) := yd_op_180 (i := 1) (a := 0) (b := 246) yd_by_cX12_takesSign_0 rfl rfl
theorem dX12_takesSign_4 : decode cX12_takesSign 4 = .ok (.ifCond .ne 11, 3) := yd_op_154 (i := 4) (a := 0) (b := 11) yd_by_cX12_takesSign_0 rfl rfl
theorem dX12_takesSign_7 : decode cX12_takesSign 7 = .ok (.aload_n 0, 1) := yd_op_42 (i := 7) yd_by_cX12_takesSign_0 rfl rfl
theorem dX12_takesSign_8 : decode cX12_takesSign 8 = .ok (.invokevirtual 258, 3) := yd_op_182 (i := 8) (a := 1) (b := 2) yd_by_cX12_takesSign_0 rfl rfl
theorem dX12_takesSign_11 : decode cX12_takesSign 11 = .ok (.iload_n 1, 1) := yd_op_27 (i := 11) yd_by_cX12_takesSign_0 rfl rfl
theorem dX12_takesSign_12 : decode cX12_takesSign 12 = .ok (.if_icmp .eq 5, 3) := yd_op_159 (i := 12) (a := 0) (b := 5) yd_by_cX12_takesSign_0 rfl rfl
theorem dX12_takesSign_15 : decode cX12_takesSign 15 = .ok (.iconst 0, 1) := yd_op_3 (i := 15) yd_by_cX12_takesSign_0 rfl rfl
theorem dX12_takesSign_16 : decode cX12_takesSign 16 = .ok (.ireturn, 1) := yd_op_172 (i := 16) yd_by_cX12_takesSign_0 rfl rfl
theorem dX12_takesSign_17 : decode cX12_takesSign 17 = .ok (.aload_n 0, 1) := yd_op_42 (i := 17) yd_by_cX12_takesSign_0 rfl rfl
theorem dX12_takesSign_18 : decode cX12_takesSign 18 = .ok (.dup, 1) := yd_op_89 (i := 18) yd_by_cX12_takesSign_0 rfl rfl
theorem dX12_takesSign_19 : decode cX12_takesSign 19 = .ok (.getfield 252, 3) := yd_op_180 (i := 19) (a := 0) (b := 252) yd_by_cX12_takesSign_0 rfl rfl
theorem dX12_takesSign_22 : decode cX12_takesSign 22 = .ok (.iconst 1, 1) := yd_op_4 (i := 22) yd_by_cX12_takesSign_0 rfl rfl
theorem dX12_takesSign_23 : decode cX12_takesSign 23 = .ok (.iadd, 1) := yd_op_96 (i := 23) yd_by_cX12_takesSign_0 rfl rfl
theorem dX12_takesSign_24 : decode cX12_takesSign 24 = .ok (.putfield 252, 3) := yd_op_181 (i := 24) (a := 0) (b := 252) yd_by_cX12_takesSign_0 rfl rfl
theorem dX12_takesSign_27 : decode cX12_takesSign 27 = .ok (.iconst 1, 1) := yd_op_4 (i := 27) yd_by_cX12_takesSign_0 rfl rfl
theorem dX12_takesSign_28 : decode cX12_takesSign 28 = .ok (.ireturn, 1) := yd_op_172 (i := 28) yd_by_cX12_takesSign_0 rfl rfl
set_option maxRecDepth 100000 in
theorem yd_by_cX12_asksSign_0 : ydk cX12_asksSign 0 [42, 180, 0, 246, 154, 0, 20, 42, 27, 182, 1, 24, 154, 0, 12, 42, 4, 42, 180, 0, 252, 182, 1, 20, 177] = true := by decide +kernel
theorem dX12_asksSign_0 : decode cX12_asksSign 0 = .ok (.aload_n 0, 1) := yd_op_42 (i := 0) yd_by_cX12_asksSign_0 rfl rfl
theorem dX12_asksSign_1 : decode cX12_asksSign 1 = .ok (.getfield 246, 3) := yd_op_180 (i := 1) (a := 0) (b := 246) yd_by_cX12_asksSign_0 rfl rfl
theorem dX12_asksSign_4 : decode cX12_asksSign 4 = .ok (.ifCond .ne 20, 3) := yd_op_154 (i := 4) (a := 0) (b := 20) yd_by_cX12_asksSign_0 rfl rfl
theorem dX12_asksSign_7 : decode cX12_asksSign 7 = .ok (.aload_n 0, 1) := yd_op_42 (i := 7) yd_by_cX12_asksSign_0 rfl rfl
theorem dX12_asksSign_8 : decode cX12_asksSign 8 = .ok (.iload_n 1, 1) := yd_op_27 (i := 8) yd_by_cX12_asksSign_0 rfl rfl
theorem dX12_asksSign_9 : decode cX12_asksSign 9 = .ok (.invokevirtual 280, 3) := yd_op_182 (i := 9) (a := 1) (b := 24) yd_by_cX12_asksSign_0 rfl rfl
theorem dX12_asksSign_12 : decode cX12_asksSign 12 = .ok (.ifCond .ne 12, 3) := yd_op_154 (i := 12) (a := 0) (b := 12) yd_by_cX12_asksSign_0 rfl rfl
theorem dX12_asksSign_15 : decode cX12_asksSign 15 = .ok (.aload_n 0, 1) := yd_op_42 (i := 15) yd_by_cX12_asksSign_0 rfl rfl
theorem dX12_asksSign_16 : decode cX12_asksSign 16 = .ok (.iconst 1, 1) := yd_op_4 (i := 16) yd_by_cX12_asksSign_0 rfl rfl
theorem dX12_asksSign_17 : decode cX12_asksSign 17 = .ok (.aload_n 0, 1) := yd_op_42 (i := 17) yd_by_cX12_asksSign_0 rfl rfl
theorem dX12_asksSign_18 : decode cX12_asksSign 18 = .ok (.getfield 252, 3) := yd_op_180 (i := 18) (a := 0) (b := 252) yd_by_cX12_asksSign_0 rfl rfl
theorem dX12_asksSign_21 : decode cX12_asksSign 21 = .ok (.invokevirtual 276, 3) := yd_op_182 (i := 21) (a := 1) (b := 20) yd_by_cX12_asksSign_0 rfl rfl
theorem dX12_asksSign_24 : decode cX12_asksSign 24 = .ok (.return_, 1) := yd_op_177 (i := 24) yd_by_cX12_asksSign_0 rfl rfl
set_option maxRecDepth 100000 in
theorem yd_by_cX12_number_0 : ydk cX12_number 0 [42, 180, 0, 246, 153, 0, 5, 3, 172, 42, 182, 1, 2, 184, 1, 27, 153, 0, 14, 42, 180, 0, 252, 42, 180, 1, 10, 160, 0, 14, 42, 4, 42, 180, 0, 252, 182, 1, 20, 3] = true := by decide +kernel
theorem dX12_number_0 : decode cX12_number 0 = .ok (.aload_n 0, 1) := yd_op_42 (i := 0) yd_by_cX12_number_0 rfl rfl
theorem dX12_number_1 : decode cX12_number 1 = .ok (.getfield 246, 3) := yd_op_180 (i := 1) (a := 0) (b := 246) yd_by_cX12_number_0 rfl rfl
theorem dX12_number_4 : decode cX12_number 4 = .ok (.ifCond .eq 5, 3) := yd_op_153 (i := 4) (a := 0) (b := 5) yd_by_cX12_number_0 rfl rfl
theorem dX12_number_7 : decode cX12_number 7 = .ok (.iconst 0, 1) := yd_op_3 (i := 7) yd_by_cX12_number_0 rfl rfl
theorem dX12_number_8 : decode cX12_number 8 = .ok (.ireturn, 1) := yd_op_172 (i := 8) yd_by_cX12_number_0 rfl rfl
theorem dX12_number_9 : decode cX12_number 9 = .ok (.aload_n 0, 1) := yd_op_42 (i := 9) yd_by_cX12_number_0 rfl rfl
theorem dX12_number_10 : decode cX12_number 10 = .ok (.invokevirtual 258, 3) := yd_op_182 (i := 10) (a := 1) (b := 2) yd_by_cX12_number_0 rfl rfl
theorem dX12_number_13 : decode cX12_number 13 = .ok (.invokestatic 283, 3) := yd_op_184 (i := 13) (a := 1) (b := 27) yd_by_cX12_number_0 rfl rfl
theorem dX12_number_16 : decode cX12_number 16 = .ok (.ifCond .eq 14, 3) := yd_op_153 (i := 16) (a := 0) (b := 14) yd_by_cX12_number_0 rfl rfl
theorem dX12_number_19 : decode cX12_number 19 = .ok (.aload_n 0, 1) := yd_op_42 (i := 19) yd_by_cX12_number_0 rfl rfl
theorem dX12_number_20 : decode cX12_number 20 = .ok (.getfield 252, 3) := yd_op_180 (i := 20) (a := 0) (b := 252) yd_by_cX12_number_0 rfl rfl
theorem dX12_number_23 : decode cX12_number 23 = .ok (.aload_n 0, 1) := yd_op_42 (i := 23) yd_by_cX12_number_0 rfl rfl
theorem dX12_number_24 : decode cX12_number 24 = .ok (.getfield 266, 3) := yd_op_180 (i := 24) (a := 1) (b := 10) yd_by_cX12_number_0 rfl rfl
theorem dX12_number_27 : decode cX12_number 27 = .ok (.if_icmp .ne 14, 3) := yd_op_160 (i := 27) (a := 0) (b := 14) yd_by_cX12_number_0 rfl rfl
theorem dX12_number_30 : decode cX12_number 30 = .ok (.aload_n 0, 1) := yd_op_42 (i := 30) yd_by_cX12_number_0 rfl rfl
theorem dX12_number_31 : decode cX12_number 31 = .ok (.iconst 1, 1) := yd_op_4 (i := 31) yd_by_cX12_number_0 rfl rfl
theorem dX12_number_32 : decode cX12_number 32 = .ok (.aload_n 0, 1) := yd_op_42 (i := 32) yd_by_cX12_number_0 rfl rfl
theorem dX12_number_33 : decode cX12_number 33 = .ok (.getfield 252, 3) := yd_op_180 (i := 33) (a := 0) (b := 252) yd_by_cX12_number_0 rfl rfl
theorem dX12_number_36 : decode cX12_number 36 = .ok (.invokevirtual 276, 3) := yd_op_182 (i := 36) (a := 1) (b := 20) yd_by_cX12_number_0 rfl rfl
theorem dX12_number_39 : decode cX12_number 39 = .ok (.iconst 0, 1) := yd_op_3 (i := 39) yd_by_cX12_number_0 rfl rfl
set_option maxRecDepth 100000 in
theorem yd_by_cX12_number_1 : ydk cX12_number 40 [172, 42, 180, 0, 252, 62, 3, 54, 4, 42, 180, 0, 252, 42, 180, 0, 255, 162, 0, 72, 42, 180, 0, 7, 42, 180, 0, 252, 46, 184, 1, 27, 153, 0, 57, 42, 180, 0, 252] = true := by decide +kernel
theorem dX12_number_40 : decode cX12_number 40 = .ok (.ireturn, 1) := yd_op_172 (i := 0) yd_by_cX12_number_1 rfl rfl
theorem dX12_number_41 : decode cX12_number 41 = .ok (.aload_n 0, 1) := yd_op_42 (i := 1) yd_by_cX12_number_1 rfl rfl
theorem dX12_number_42 : decode cX12_number 42 = .ok (.getfield 252, 3) := yd_op_180 (i := 2) (a := 0) (b := 252) yd_by_cX12_number_1 rfl rfl
theorem dX12_number_45 : decode cX12_number 45 = .ok (.istore_n 3, 1) := yd_op_62 (i := 5) yd_by_cX12_number_1 rfl rfl
theorem dX12_number_46 : decode cX12_number 46 = .ok (.iconst 0, 1) := yd_op_3 (i := 6) yd_by_cX12_number_1 rfl rfl
theorem dX12_number_47 : decode cX12_number 47 = .ok (.istore 4, 2) := yd_op_54 (i := 7) (a := 4) yd_by_cX12_number_1 rfl rfl
theorem dX12_number_49 : decode cX12_number 49 = .ok (.aload_n 0, 1) := yd_op_42 (i := 9) yd_by_cX12_number_1 rfl rfl
theorem dX12_number_50 : decode cX12_number 50 = .ok (.getfield 252, 3) := yd_op_180 (i := 10) (a := 0) (b := 252) yd_by_cX12_number_1 rfl rfl
theorem dX12_number_53 : decode cX12_number 53 = .ok (.aload_n 0, 1) := yd_op_42 (i := 13) yd_by_cX12_number_1 rfl rfl
theorem dX12_number_54 : decode cX12_number 54 = .ok (.getfield 255, 3) := yd_op_180 (i := 14) (a := 0) (b := 255) yd_by_cX12_number_1 rfl rfl
theorem dX12_number_57 : decode cX12_number 57 = .ok (.if_icmp .ge 72, 3) := yd_op_162 (i := 17) (a := 0) (b := 72) yd_by_cX12_number_1 rfl rfl
theorem dX12_number_60 : decode cX12_number 60 = .ok (.aload_n 0, 1) := yd_op_42 (i := 20) yd_by_cX12_number_1 rfl rfl
theorem dX12_number_61 : decode cX12_number 61 = .ok (.getfield 7, 3) := yd_op_180 (i := 21) (a := 0) (b := 7) yd_by_cX12_number_1 rfl rfl
theorem dX12_number_64 : decode cX12_number 64 = .ok (.aload_n 0, 1) := yd_op_42 (i := 24) yd_by_cX12_number_1 rfl rfl
theorem dX12_number_65 : decode cX12_number 65 = .ok (.getfield 252, 3) := yd_op_180 (i := 25) (a := 0) (b := 252) yd_by_cX12_number_1 rfl rfl
theorem dX12_number_68 : decode cX12_number 68 = .ok (.iaload, 1) := yd_op_46 (i := 28) yd_by_cX12_number_1 rfl rfl
theorem dX12_number_69 : decode cX12_number 69 = .ok (.invokestatic 283, 3) := yd_op_184 (i := 29) (a := 1) (b := 27) yd_by_cX12_number_1 rfl rfl
theorem dX12_number_72 : decode cX12_number 72 = .ok (.ifCond .eq 57, 3) := yd_op_153 (i := 32) (a := 0) (b := 57) yd_by_cX12_number_1 rfl rfl
theorem dX12_number_75 : decode cX12_number 75 = .ok (.aload_n 0, 1) := yd_op_42 (i := 35) yd_by_cX12_number_1 rfl rfl
theorem dX12_number_76 : decode cX12_number 76 = .ok (.getfield 252, 3) := yd_op_180 (i := 36) (a := 0) (b := 252) yd_by_cX12_number_1 rfl rfl
set_option maxRecDepth 100000 in
theorem yd_by_cX12_number_2 : ydk cX12_number 79 [29, 100, 7, 160, 0, 14, 42, 4, 42, 180, 0, 252, 182, 1, 20, 3, 172, 16, 10, 21, 4, 104, 42, 180, 0, 7, 42, 180, 0, 252, 46, 96] = true := by decide +kernel
theorem dX12_number_79 : decode cX12_number 79 = .ok (.iload_n 3, 1) := yd_op_29 (i := 0) yd_by_cX12_number_2 rfl rfl
theorem dX12_number_80 : decode cX12_number 80 = .ok (.isub, 1) := yd_op_100 (i := 1) yd_by_cX12_number_2 rfl rfl
theorem dX12_number_81 : decode cX12_number 81 = .ok (.iconst 4, 1) := yd_op_7 (i := 2) yd_by_cX12_number_2 rfl rfl
theorem dX12_number_82 : decode cX12_number 82 = .ok (.if_icmp .ne 14, 3) := yd_op_160 (i := 3) (a := 0) (b := 14) yd_by_cX12_number_2 rfl rfl
theorem dX12_number_85 : decode cX12_number 85 = .ok (.aload_n 0, 1) := yd_op_42 (i := 6) yd_by_cX12_number_2 rfl rfl
theorem dX12_number_86 : decode cX12_number 86 = .ok (.iconst 1, 1) := yd_op_4 (i := 7) yd_by_cX12_number_2 rfl rfl
theorem dX12_number_87 : decode cX12_number 87 = .ok (.aload_n 0, 1) := yd_op_42 (i := 8) yd_by_cX12_number_2 rfl rfl
theorem dX12_number_88 : decode cX12_number 88 = .ok (.getfield 252, 3) := yd_op_180 (i := 9) (a := 0) (b := 252) yd_by_cX12_number_2 rfl rfl
theorem dX12_number_91 : decode cX12_number 91 = .ok (.invokevirtual 276, 3) := yd_op_182 (i := 12) (a := 1) (b := 20) yd_by_cX12_number_2 rfl rfl
theorem dX12_number_94 : decode cX12_number 94 = .ok (.iconst 0, 1) := yd_op_3 (i := 15) yd_by_cX12_number_2 rfl rfl
theorem dX12_number_95 : decode cX12_number 95 = .ok (.ireturn, 1) := yd_op_172 (i := 16) yd_by_cX12_number_2 rfl rfl
theorem dX12_number_96 : decode cX12_number 96 = .ok (.bipush 10, 2) := yd_op_16 (i := 17) (a := 10) yd_by_cX12_number_2 rfl rfl
theorem dX12_number_98 : decode cX12_number 98 = .ok (.iload 4, 2) := yd_op_21 (i := 19) (a := 4) yd_by_cX12_number_2 rfl rfl
theorem dX12_number_100 : decode cX12_number 100 = .ok (.imul, 1) := yd_op_104 (i := 21) yd_by_cX12_number_2 rfl rfl
theorem dX12_number_101 : decode cX12_number 101 = .ok (.aload_n 0, 1) := yd_op_42 (i := 22) yd_by_cX12_number_2 rfl rfl
theorem dX12_number_102 : decode cX12_number 102 = .ok (.getfield 7, 3) := yd_op_180 (i := 23) (a := 0) (b := 7) yd_by_cX12_number_2 rfl rfl
theorem dX12_number_105 : decode cX12_number 105 = .ok (.aload_n 0, 1) := yd_op_42 (i := 26) yd_by_cX12_number_2 rfl rfl
theorem dX12_number_106 : decode cX12_number 106 = .ok (.getfield 252, 3) := yd_op_180 (i := 27) (a := 0) (b := 252) yd_by_cX12_number_2 rfl rfl
theorem dX12_number_109 : decode cX12_number 109 = .ok (.iaload, 1) := yd_op_46 (i := 30) yd_by_cX12_number_2 rfl rfl
theorem dX12_number_110 : decode cX12_number 110 = .ok (.iadd, 1) := yd_op_96 (i := 31) yd_by_cX12_number_2 rfl rfl
set_option maxRecDepth 100000 in
theorem yd_by_cX12_number_3 : ydk cX12_number 111 [16, 48, 100, 54, 4, 42, 89, 180, 0, 252, 4, 96, 181, 0, 252, 167, 255, 179, 42, 42, 180, 0, 252, 181, 1, 10, 42, 29, 181, 1, 30, 21, 4, 133, 27] = true := by decide +kernel
theorem dX12_number_111 : decode cX12_number 111 = .ok (.bipush 48, 2) := yd_op_16 (i := 0) (a := 48) yd_by_cX12_number_3 rfl rfl
theorem dX12_number_113 : decode cX12_number 113 = .ok (.isub, 1) := yd_op_100 (i := 2) yd_by_cX12_number_3 rfl rfl
theorem dX12_number_114 : decode cX12_number 114 = .ok (.istore 4, 2) := yd_op_54 (i := 3) (a := 4) yd_by_cX12_number_3 rfl rfl
theorem dX12_number_116 : decode cX12_number 116 = .ok (.aload_n 0, 1) := yd_op_42 (i := 5) yd_by_cX12_number_3 rfl rfl
theorem dX12_number_117 : decode cX12_number 117 = .ok (.dup, 1) := yd_op_89 (i := 6) yd_by_cX12_number_3 rfl rfl
theorem dX12_number_118 : decode cX12_number 118 = .ok (.getfield 252, 3) := yd_op_180 (i := 7) (a := 0) (b := 252) yd_by_cX12_number_3 rfl rfl
theorem dX12_number_121 : decode cX12_number 121 = .ok (.iconst 1, 1) := yd_op_4 (i := 10) yd_by_cX12_number_3 rfl rfl
theorem dX12_number_122 : decode cX12_number 122 = .ok (.iadd, 1) := yd_op_96 (i := 11) yd_by_cX12_number_3 rfl rfl
theorem dX12_number_123 : decode cX12_number 123 = .ok (.putfield 252, 3) := yd_op_181 (i := 12) (a := 0) (b := 252) yd_by_cX12_number_3 rfl rfl
theorem dX12_number_126 : decode cX12_number 126 = .ok (.goto (-77), 3) := yd_op_167 (i := 15) (a := 255) (b := 179) yd_by_cX12_number_3 rfl rfl
theorem dX12_number_129 : decode cX12_number 129 = .ok (.aload_n 0, 1) := yd_op_42 (i := 18) yd_by_cX12_number_3 rfl rfl
theorem dX12_number_130 : decode cX12_number 130 = .ok (.aload_n 0, 1) := yd_op_42 (i := 19) yd_by_cX12_number_3 rfl rfl
theorem dX12_number_131 : decode cX12_number 131 = .ok (.getfield 252, 3) := yd_op_180 (i := 20) (a := 0) (b := 252) yd_by_cX12_number_3 rfl rfl
theorem dX12_number_134 : decode cX12_number 134 = .ok (.putfield 266, 3) := yd_op_181 (i := 23) (a := 1) (b := 10) yd_by_cX12_number_3 rfl rfl
theorem dX12_number_137 : decode cX12_number 137 = .ok (.aload_n 0, 1) := yd_op_42 (i := 26) yd_by_cX12_number_3 rfl rfl
theorem dX12_number_138 : decode cX12_number 138 = .ok (.iload_n 3, 1) := yd_op_29 (i := 27) yd_by_cX12_number_3 rfl rfl
theorem dX12_number_139 : decode cX12_number 139 = .ok (.putfield 286, 3) := yd_op_181 (i := 28) (a := 1) (b := 30) yd_by_cX12_number_3 rfl rfl
theorem dX12_number_142 : decode cX12_number 142 = .ok (.iload 4, 2) := yd_op_21 (i := 31) (a := 4) yd_by_cX12_number_3 rfl rfl
theorem dX12_number_144 : decode cX12_number 144 = .ok (.i2l, 1) := yd_op_133 (i := 33) yd_by_cX12_number_3 rfl rfl
theorem dX12_number_145 : decode cX12_number 145 = .ok (.iload_n 1, 1) := yd_op_27 (i := 34) yd_by_cX12_number_3 rfl rfl
set_option maxRecDepth 100000 in
theorem yd_by_cX12_number_4 : ydk cX12_number 146 [133, 28, 133, 184, 1, 33, 154, 0, 9, 42, 5, 29, 182, 1, 20, 21, 4, 172] = true := by decide +kernel
theorem dX12_number_146 : decode cX12_number 146 = .ok (.i2l, 1) := yd_op_133 (i := 0) yd_by_cX12_number_4 rfl rfl
theorem dX12_number_147 : decode cX12_number 147 = .ok (.iload_n 2, 1) := yd_op_28 (i := 1) yd_by_cX12_number_4 rfl rfl
theorem dX12_number_148 : decode cX12_number 148 = .ok (.i2l, 1) := yd_op_133 (i := 2) yd_by_cX12_number_4 rfl rfl
theorem dX12_number_149 : decode cX12_number 149 = .ok (.invokestatic 289, 3) := yd_op_184 (i := 3) (a := 1) (b := 33) yd_by_cX12_number_4 rfl rfl
theorem dX12_number_152 : decode cX12_number 152 = .ok (.ifCond .ne 9, 3) := yd_op_154 (i := 6) (a := 0) (b := 9) yd_by_cX12_number_4 rfl rfl
theorem dX12_number_155 : decode cX12_number 155 = .ok (.aload_n 0, 1) := yd_op_42 (i := 9) yd_by_cX12_number_4 rfl rfl
theorem dX12_number_156 : decode cX12_number 156 = .ok (.iconst 2, 1) := yd_op_5 (i := 10) yd_by_cX12_number_4 rfl rfl
theorem dX12_number_157 : decode cX12_number 157 = .ok (.iload_n 3, 1) := yd_op_29 (i := 11) yd_by_cX12_number_4 rfl rfl
theorem dX12_number_158 : decode cX12_number 158 = .ok (.invokevirtual 276, 3) := yd_op_182 (i := 12) (a := 1) (b := 20) yd_by_cX12_number_4 rfl rfl
theorem dX12_number_161 : decode cX12_number 161 = .ok (.iload 4, 2) := yd_op_21 (i := 15) (a := 4) yd_by_cX12_number_4 rfl rfl
theorem dX12_number_163 : decode cX12_number 163 = .ok (.ireturn, 1) := yd_op_172 (i := 17) yd_by_cX12_number_4 rfl rfl
set_option maxRecDepth 100000 in
theorem yd_by_cX12_isOwnHere_0 : ydk cX12_isOwnHere 0 [42, 42, 180, 0, 20, 182, 1, 13, 154, 0, 58, 42, 42, 180, 0, 24, 182, 1, 13, 154, 0, 47, 42, 42, 180, 0, 27, 182, 1, 13, 154, 0, 36, 42, 42, 180, 0, 30, 182, 1, 13, 154, 0, 25] = true := by decide +kernel
theorem dX12_isOwnHere_0 : decode cX12_isOwnHere 0 = .ok (.aload_n 0, 1) := yd_op_42 (i := 0) yd_by_cX12_isOwnHere_0 rfl rfl
theorem dX12_isOwnHere_1 : decode cX12_isOwnHere 1 = .ok (.aload_n 0, 1) := yd_op_42 (i := 1) yd_by_cX12_isOwnHere_0 rfl rfl
theorem dX12_isOwnHere_2 : decode cX12_isOwnHere 2 = .ok (.getfield 20, 3) := yd_op_180 (i := 2) (a := 0) (b := 20) yd_by_cX12_isOwnHere_0 rfl rfl
theorem dX12_isOwnHere_5 : decode cX12_isOwnHere 5 = .ok (.invokevirtual 269, 3) := yd_op_182 (i := 5) (a := 1) (b := 13) yd_by_cX12_isOwnHere_0 rfl rfl
theorem dX12_isOwnHere_8 : decode cX12_isOwnHere 8 = .ok (.ifCond .ne 58, 3) := yd_op_154 (i := 8) (a := 0) (b := 58) yd_by_cX12_isOwnHere_0 rfl rfl
theorem dX12_isOwnHere_11 : decode cX12_isOwnHere 11 = .ok (.aload_n 0, 1) := yd_op_42 (i := 11) yd_by_cX12_isOwnHere_0 rfl rfl
theorem dX12_isOwnHere_12 : decode cX12_isOwnHere 12 = .ok (.aload_n 0, 1) := yd_op_42 (i := 12) yd_by_cX12_isOwnHere_0 rfl rfl
theorem dX12_isOwnHere_13 : decode cX12_isOwnHere 13 = .ok (.getfield 24, 3) := yd_op_180 (i := 13) (a := 0) (b := 24) yd_by_cX12_isOwnHere_0 rfl rfl
theorem dX12_isOwnHere_16 : decode cX12_isOwnHere 16 = .ok (.invokevirtual 269, 3) := yd_op_182 (i := 16) (a := 1) (b := 13) yd_by_cX12_isOwnHere_0 rfl rfl
theorem dX12_isOwnHere_19 : decode cX12_isOwnHere 19 = .ok (.ifCond .ne 47, 3) := yd_op_154 (i := 19) (a := 0) (b := 47) yd_by_cX12_isOwnHere_0 rfl rfl
theorem dX12_isOwnHere_22 : decode cX12_isOwnHere 22 = .ok (.aload_n 0, 1) := yd_op_42 (i := 22) yd_by_cX12_isOwnHere_0 rfl rfl
theorem dX12_isOwnHere_23 : decode cX12_isOwnHere 23 = .ok (.aload_n 0, 1) := yd_op_42 (i := 23) yd_by_cX12_isOwnHere_0 rfl rfl
theorem dX12_isOwnHere_24 : decode cX12_isOwnHere 24 = .ok (.getfield 27, 3) := yd_op_180 (i := 24) (a := 0) (b := 27) yd_by_cX12_isOwnHere_0 rfl rfl
theorem dX12_isOwnHere_27 : decode cX12_isOwnHere 27 = .ok (.invokevirtual 269, 3) := yd_op_182 (i := 27) (a := 1) (b := 13) yd_by_cX12_isOwnHere_0 rfl rfl
theorem dX12_isOwnHere_30 : decode cX12_isOwnHere 30 = .ok (.ifCond .ne 36, 3) := yd_op_154 (i := 30) (a := 0) (b := 36) yd_by_cX12_isOwnHere_0 rfl rfl
theorem dX12_isOwnHere_33 : decode cX12_isOwnHere 33 = .ok (.aload_n 0, 1) := yd_op_42 (i := 33) yd_by_cX12_isOwnHere_0 rfl rfl
theorem dX12_isOwnHere_34 : decode cX12_isOwnHere 34 = .ok (.aload_n 0, 1) := yd_op_42 (i := 34) yd_by_cX12_isOwnHere_0 rfl rfl
theorem dX12_isOwnHere_35 : decode cX12_isOwnHere 35 = .ok (.getfield 30, 3) := yd_op_180 (i := 35) (a := 0) (b := 30) yd_by_cX12_isOwnHere_0 rfl rfl
theorem dX12_isOwnHere_38 : decode cX12_isOwnHere 38 = .ok (.invokevirtual 269, 3) := yd_op_182 (i := 38) (a := 1) (b := 13) yd_by_cX12_isOwnHere_0 rfl rfl
theorem dX12_isOwnHere_41 : decode cX12_isOwnHere 41 = .ok (.ifCond .ne 25, 3) := yd_op_154 (i := 41) (a := 0) (b := 25) yd_by_cX12_isOwnHere_0 rfl rfl
set_option maxRecDepth 100000 in
theorem yd_by_cX12_isOwnHere_1 : ydk cX12_isOwnHere 44 [42, 42, 180, 0, 33, 182, 1, 13, 154, 0, 14, 42, 42, 180, 0, 36, 182, 1, 13, 153, 0, 7, 4, 167, 0, 4, 3, 60, 27, 154, 0, 69, 42, 42, 180, 0, 39, 182, 1, 13] = true := by decide +kernel
theorem dX12_isOwnHere_44 : decode cX12_isOwnHere 44 = .ok (.aload_n 0, 1) := yd_op_42 (i := 0) yd_by_cX12_isOwnHere_1 rfl rfl
theorem dX12_isOwnHere_45 : decode cX12_isOwnHere 45 = .ok (.aload_n 0, 1) := yd_op_42 (i := 1) yd_by_cX12_isOwnHere_1 rfl rfl
theorem dX12_isOwnHere_46 : decode cX12_isOwnHere 46 = .ok (.getfield 33, 3) := yd_op_180 (i := 2) (a := 0) (b := 33) yd_by_cX12_isOwnHere_1 rfl rfl
theorem dX12_isOwnHere_49 : decode cX12_isOwnHere 49 = .ok (.invokevirtual 269, 3) := yd_op_182 (i := 5) (a := 1) (b := 13) yd_by_cX12_isOwnHere_1 rfl rfl
theorem dX12_isOwnHere_52 : decode cX12_isOwnHere 52 = .ok (.ifCond .ne 14, 3) := yd_op_154 (i := 8) (a := 0) (b := 14) yd_by_cX12_isOwnHere_1 rfl rfl
theorem dX12_isOwnHere_55 : decode cX12_isOwnHere 55 = .ok (.aload_n 0, 1) := yd_op_42 (i := 11) yd_by_cX12_isOwnHere_1 rfl rfl
theorem dX12_isOwnHere_56 : decode cX12_isOwnHere 56 = .ok (.aload_n 0, 1) := yd_op_42 (i := 12) yd_by_cX12_isOwnHere_1 rfl rfl
theorem dX12_isOwnHere_57 : decode cX12_isOwnHere 57 = .ok (.getfield 36, 3) := yd_op_180 (i := 13) (a := 0) (b := 36) yd_by_cX12_isOwnHere_1 rfl rfl
theorem dX12_isOwnHere_60 : decode cX12_isOwnHere 60 = .ok (.invokevirtual 269, 3) := yd_op_182 (i := 16) (a := 1) (b := 13) yd_by_cX12_isOwnHere_1 rfl rfl
theorem dX12_isOwnHere_63 : decode cX12_isOwnHere 63 = .ok (.ifCond .eq 7, 3) := yd_op_153 (i := 19) (a := 0) (b := 7) yd_by_cX12_isOwnHere_1 rfl rfl
theorem dX12_isOwnHere_66 : decode cX12_isOwnHere 66 = .ok (.iconst 1, 1) := yd_op_4 (i := 22) yd_by_cX12_isOwnHere_1 rfl rfl
theorem dX12_isOwnHere_67 : decode cX12_isOwnHere 67 = .ok (.goto 4, 3) := yd_op_167 (i := 23) (a := 0) (b := 4) yd_by_cX12_isOwnHere_1 rfl rfl
theorem dX12_isOwnHere_70 : decode cX12_isOwnHere 70 = .ok (.iconst 0, 1) := yd_op_3 (i := 26) yd_by_cX12_isOwnHere_1 rfl rfl
theorem dX12_isOwnHere_71 : decode cX12_isOwnHere 71 = .ok (.istore_n 1, 1) := yd_op_60 (i := 27) yd_by_cX12_isOwnHere_1 rfl rfl
theorem dX12_isOwnHere_72 : decode cX12_isOwnHere 72 = .ok (.iload_n 1, 1) := yd_op_27 (i := 28) yd_by_cX12_isOwnHere_1 rfl rfl
theorem dX12_isOwnHere_73 : decode cX12_isOwnHere 73 = .ok (.ifCond .ne 69, 3) := yd_op_154 (i := 29) (a := 0) (b := 69) yd_by_cX12_isOwnHere_1 rfl rfl
theorem dX12_isOwnHere_76 : decode cX12_isOwnHere 76 = .ok (.aload_n 0, 1) := yd_op_42 (i := 32) yd_by_cX12_isOwnHere_1 rfl rfl
theorem dX12_isOwnHere_77 : decode cX12_isOwnHere 77 = .ok (.aload_n 0, 1) := yd_op_42 (i := 33) yd_by_cX12_isOwnHere_1 rfl rfl
theorem dX12_isOwnHere_78 : decode cX12_isOwnHere 78 = .ok (.getfield 39, 3) := yd_op_180 (i := 34) (a := 0) (b := 39) yd_by_cX12_isOwnHere_1 rfl rfl
theorem dX12_isOwnHere_81 : decode cX12_isOwnHere 81 = .ok (.invokevirtual 269, 3) := yd_op_182 (i := 37) (a := 1) (b := 13) yd_by_cX12_isOwnHere_1 rfl rfl
set_option maxRecDepth 100000 in
theorem yd_by_cX12_isOwnHere_2 : ydk cX12_isOwnHere 84 [154, 0, 58, 42, 42, 180, 0, 42, 182, 1, 13, 154, 0, 47, 42, 42, 180, 0, 45, 182, 1, 13, 154, 0, 36, 42, 42, 180, 0, 48, 182, 1, 13, 154, 0, 25, 42, 42, 180, 0, 51, 182, 1, 13] = true := by decide +kernel
theorem dX12_isOwnHere_84 : decode cX12_isOwnHere 84 = .ok (.ifCond .ne 58, 3) := yd_op_154 (i := 0) (a := 0) (b := 58) yd_by_cX12_isOwnHere_2 rfl rfl
theorem dX12_isOwnHere_87 : decode cX12_isOwnHere 87 = .ok (.aload_n 0, 1) := yd_op_42 (i := 3) yd_by_cX12_isOwnHere_2 rfl rfl
theorem dX12_isOwnHere_88 : decode cX12_isOwnHere 88 = .ok (.aload_n 0, 1) := yd_op_42 (i := 4) yd_by_cX12_isOwnHere_2 rfl rfl
theorem dX12_isOwnHere_89 : decode cX12_isOwnHere 89 = .ok (.getfield 42, 3) := yd_op_180 (i := 5) (a := 0) (b := 42) yd_by_cX12_isOwnHere_2 rfl rfl
theorem dX12_isOwnHere_92 : decode cX12_isOwnHere 92 = .ok (.invokevirtual 269, 3) := yd_op_182 (i := 8) (a := 1) (b := 13) yd_by_cX12_isOwnHere_2 rfl rfl
theorem dX12_isOwnHere_95 : decode cX12_isOwnHere 95 = .ok (.ifCond .ne 47, 3) := yd_op_154 (i := 11) (a := 0) (b := 47) yd_by_cX12_isOwnHere_2 rfl rfl
theorem dX12_isOwnHere_98 : decode cX12_isOwnHere 98 = .ok (.aload_n 0, 1) := yd_op_42 (i := 14) yd_by_cX12_isOwnHere_2 rfl rfl
theorem dX12_isOwnHere_99 : decode cX12_isOwnHere 99 = .ok (.aload_n 0, 1) := yd_op_42 (i := 15) yd_by_cX12_isOwnHere_2 rfl rfl
theorem dX12_isOwnHere_100 : decode cX12_isOwnHere 100 = .ok (.getfield 45, 3) := yd_op_180 (i := 16) (a := 0) (b := 45) yd_by_cX12_isOwnHere_2 rfl rfl
theorem dX12_isOwnHere_103 : decode cX12_isOwnHere 103 = .ok (.invokevirtual 269, 3) := yd_op_182 (i := 19) (a := 1) (b := 13) yd_by_cX12_isOwnHere_2 rfl rfl
theorem dX12_isOwnHere_106 : decode cX12_isOwnHere 106 = .ok (.ifCond .ne 36, 3) := yd_op_154 (i := 22) (a := 0) (b := 36) yd_by_cX12_isOwnHere_2 rfl rfl
theorem dX12_isOwnHere_109 : decode cX12_isOwnHere 109 = .ok (.aload_n 0, 1) := yd_op_42 (i := 25) yd_by_cX12_isOwnHere_2 rfl rfl
theorem dX12_isOwnHere_110 : decode cX12_isOwnHere 110 = .ok (.aload_n 0, 1) := yd_op_42 (i := 26) yd_by_cX12_isOwnHere_2 rfl rfl
theorem dX12_isOwnHere_111 : decode cX12_isOwnHere 111 = .ok (.getfield 48, 3) := yd_op_180 (i := 27) (a := 0) (b := 48) yd_by_cX12_isOwnHere_2 rfl rfl
theorem dX12_isOwnHere_114 : decode cX12_isOwnHere 114 = .ok (.invokevirtual 269, 3) := yd_op_182 (i := 30) (a := 1) (b := 13) yd_by_cX12_isOwnHere_2 rfl rfl
theorem dX12_isOwnHere_117 : decode cX12_isOwnHere 117 = .ok (.ifCond .ne 25, 3) := yd_op_154 (i := 33) (a := 0) (b := 25) yd_by_cX12_isOwnHere_2 rfl rfl
theorem dX12_isOwnHere_120 : decode cX12_isOwnHere 120 = .ok (.aload_n 0, 1) := yd_op_42 (i := 36) yd_by_cX12_isOwnHere_2 rfl rfl
theorem dX12_isOwnHere_121 : decode cX12_isOwnHere 121 = .ok (.aload_n 0, 1) := yd_op_42 (i := 37) yd_by_cX12_isOwnHere_2 rfl rfl
theorem dX12_isOwnHere_122 : decode cX12_isOwnHere 122 = .ok (.getfield 51, 3) := yd_op_180 (i := 38) (a := 0) (b := 51) yd_by_cX12_isOwnHere_2 rfl rfl
theorem dX12_isOwnHere_125 : decode cX12_isOwnHere 125 = .ok (.invokevirtual 269, 3) := yd_op_182 (i := 41) (a := 1) (b := 13) yd_by_cX12_isOwnHere_2 rfl rfl
set_option maxRecDepth 100000 in
theorem yd_by_cX12_isOwnHere_3 : ydk cX12_isOwnHere 128 [154, 0, 14, 42, 42, 180, 0, 54, 182, 1, 13, 153, 0, 7, 4, 167, 0, 4, 3, 60, 27, 154, 0, 69, 42, 42, 180, 0, 57, 182, 1, 13, 154, 0, 58, 42, 42, 180, 0, 60] = true := by decide +kernel
theorem dX12_isOwnHere_128 : decode cX12_isOwnHere 128 = .ok (.ifCond .ne 14, 3) := yd_op_154 (i := 0) (a := 0) (b := 14) yd_by_cX12_isOwnHere_3 rfl rfl
theorem dX12_isOwnHere_131 : decode cX12_isOwnHere 131 = .ok (.aload_n 0, 1) := yd_op_42 (i := 3) yd_by_cX12_isOwnHere_3 rfl rfl
theorem dX12_isOwnHere_132 : decode cX12_isOwnHere 132 = .ok (.aload_n 0, 1) := yd_op_42 (i := 4) yd_by_cX12_isOwnHere_3 rfl rfl
theorem dX12_isOwnHere_133 : decode cX12_isOwnHere 133 = .ok (.getfield 54, 3) := yd_op_180 (i := 5) (a := 0) (b := 54) yd_by_cX12_isOwnHere_3 rfl rfl
theorem dX12_isOwnHere_136 : decode cX12_isOwnHere 136 = .ok (.invokevirtual 269, 3) := yd_op_182 (i := 8) (a := 1) (b := 13) yd_by_cX12_isOwnHere_3 rfl rfl
theorem dX12_isOwnHere_139 : decode cX12_isOwnHere 139 = .ok (.ifCond .eq 7, 3) := yd_op_153 (i := 11) (a := 0) (b := 7) yd_by_cX12_isOwnHere_3 rfl rfl
theorem dX12_isOwnHere_142 : decode cX12_isOwnHere 142 = .ok (.iconst 1, 1) := yd_op_4 (i := 14) yd_by_cX12_isOwnHere_3 rfl rfl
theorem dX12_isOwnHere_143 : decode cX12_isOwnHere 143 = .ok (.goto 4, 3) := yd_op_167 (i := 15) (a := 0) (b := 4) yd_by_cX12_isOwnHere_3 rfl rfl
theorem dX12_isOwnHere_146 : decode cX12_isOwnHere 146 = .ok (.iconst 0, 1) := yd_op_3 (i := 18) yd_by_cX12_isOwnHere_3 rfl rfl
theorem dX12_isOwnHere_147 : decode cX12_isOwnHere 147 = .ok (.istore_n 1, 1) := yd_op_60 (i := 19) yd_by_cX12_isOwnHere_3 rfl rfl
theorem dX12_isOwnHere_148 : decode cX12_isOwnHere 148 = .ok (.iload_n 1, 1) := yd_op_27 (i := 20) yd_by_cX12_isOwnHere_3 rfl rfl
theorem dX12_isOwnHere_149 : decode cX12_isOwnHere 149 = .ok (.ifCond .ne 69, 3) := yd_op_154 (i := 21) (a := 0) (b := 69) yd_by_cX12_isOwnHere_3 rfl rfl
theorem dX12_isOwnHere_152 : decode cX12_isOwnHere 152 = .ok (.aload_n 0, 1) := yd_op_42 (i := 24) yd_by_cX12_isOwnHere_3 rfl rfl
theorem dX12_isOwnHere_153 : decode cX12_isOwnHere 153 = .ok (.aload_n 0, 1) := yd_op_42 (i := 25) yd_by_cX12_isOwnHere_3 rfl rfl
theorem dX12_isOwnHere_154 : decode cX12_isOwnHere 154 = .ok (.getfield 57, 3) := yd_op_180 (i := 26) (a := 0) (b := 57) yd_by_cX12_isOwnHere_3 rfl rfl
theorem dX12_isOwnHere_157 : decode cX12_isOwnHere 157 = .ok (.invokevirtual 269, 3) := yd_op_182 (i := 29) (a := 1) (b := 13) yd_by_cX12_isOwnHere_3 rfl rfl
theorem dX12_isOwnHere_160 : decode cX12_isOwnHere 160 = .ok (.ifCond .ne 58, 3) := yd_op_154 (i := 32) (a := 0) (b := 58) yd_by_cX12_isOwnHere_3 rfl rfl
theorem dX12_isOwnHere_163 : decode cX12_isOwnHere 163 = .ok (.aload_n 0, 1) := yd_op_42 (i := 35) yd_by_cX12_isOwnHere_3 rfl rfl
theorem dX12_isOwnHere_164 : decode cX12_isOwnHere 164 = .ok (.aload_n 0, 1) := yd_op_42 (i := 36) yd_by_cX12_isOwnHere_3 rfl rfl
theorem dX12_isOwnHere_165 : decode cX12_isOwnHere 165 = .ok (.getfield 60, 3) := yd_op_180 (i := 37) (a := 0) (b := 60) yd_by_cX12_isOwnHere_3 rfl rfl
set_option maxRecDepth 100000 in
theorem yd_by_cX12_isOwnHere_4 : ydk cX12_isOwnHere 168 [182, 1, 13, 154, 0, 47, 42, 42, 180, 0, 63, 182, 1, 13, 154, 0, 36, 42, 42, 180, 0, 66, 182, 1, 13, 154, 0, 25, 42, 42, 180, 0, 69, 182, 1, 13, 154, 0, 14, 42, 42, 180, 0, 72] = true := by decide +kernel
theorem dX12_isOwnHere_168 : decode cX12_isOwnHere 168 = .ok (.invokevirtual 269, 3) := yd_op_182 (i := 0) (a := 1) (b := 13) yd_by_cX12_isOwnHere_4 rfl rfl
theorem dX12_isOwnHere_171 : decode cX12_isOwnHere 171 = .ok (.ifCond .ne 47, 3) := yd_op_154 (i := 3) (a := 0) (b := 47) yd_by_cX12_isOwnHere_4 rfl rfl
theorem dX12_isOwnHere_174 : decode cX12_isOwnHere 174 = .ok (.aload_n 0, 1) := yd_op_42 (i := 6) yd_by_cX12_isOwnHere_4 rfl rfl
theorem dX12_isOwnHere_175 : decode cX12_isOwnHere 175 = .ok (.aload_n 0, 1) := yd_op_42 (i := 7) yd_by_cX12_isOwnHere_4 rfl rfl
theorem dX12_isOwnHere_176 : decode cX12_isOwnHere 176 = .ok (.getfield 63, 3) := yd_op_180 (i := 8) (a := 0) (b := 63) yd_by_cX12_isOwnHere_4 rfl rfl
theorem dX12_isOwnHere_179 : decode cX12_isOwnHere 179 = .ok (.invokevirtual 269, 3) := yd_op_182 (i := 11) (a := 1) (b := 13) yd_by_cX12_isOwnHere_4 rfl rfl
theorem dX12_isOwnHere_182 : decode cX12_isOwnHere 182 = .ok (.ifCond .ne 36, 3) := yd_op_154 (i := 14) (a := 0) (b := 36) yd_by_cX12_isOwnHere_4 rfl rfl
theorem dX12_isOwnHere_185 : decode cX12_isOwnHere 185 = .ok (.aload_n 0, 1) := yd_op_42 (i := 17) yd_by_cX12_isOwnHere_4 rfl rfl
theorem dX12_isOwnHere_186 : decode cX12_isOwnHere 186 = .ok (.aload_n 0, 1) := yd_op_42 (i := 18) yd_by_cX12_isOwnHere_4 rfl rfl
theorem dX12_isOwnHere_187 : decode cX12_isOwnHere 187 = .ok (.getfield 66, 3) := yd_op_180 (i := 19) (a := 0) (b := 66) yd_by_cX12_isOwnHere_4 rfl rfl
theorem dX12_isOwnHere_190 : decode cX12_isOwnHere 190 = .ok (.invokevirtual 269, 3) := yd_op_182 (i := 22) (a := 1) (b := 13) yd_by_cX12_isOwnHere_4 rfl rfl
theorem dX12_isOwnHere_193 : decode cX12_isOwnHere 193 = .ok (.ifCond .ne 25, 3) := yd_op_154 (i := 25) (a := 0) (b := 25) yd_by_cX12_isOwnHere_4 rfl rfl
theorem dX12_isOwnHere_196 : decode cX12_isOwnHere 196 = .ok (.aload_n 0, 1) := yd_op_42 (i := 28) yd_by_cX12_isOwnHere_4 rfl rfl
theorem dX12_isOwnHere_197 : decode cX12_isOwnHere 197 = .ok (.aload_n 0, 1) := yd_op_42 (i := 29) yd_by_cX12_isOwnHere_4 rfl rfl
theorem dX12_isOwnHere_198 : decode cX12_isOwnHere 198 = .ok (.getfield 69, 3) := yd_op_180 (i := 30) (a := 0) (b := 69) yd_by_cX12_isOwnHere_4 rfl rfl
theorem dX12_isOwnHere_201 : decode cX12_isOwnHere 201 = .ok (.invokevirtual 269, 3) := yd_op_182 (i := 33) (a := 1) (b := 13) yd_by_cX12_isOwnHere_4 rfl rfl
theorem dX12_isOwnHere_204 : decode cX12_isOwnHere 204 = .ok (.ifCond .ne 14, 3) := yd_op_154 (i := 36) (a := 0) (b := 14) yd_by_cX12_isOwnHere_4 rfl rfl
theorem dX12_isOwnHere_207 : decode cX12_isOwnHere 207 = .ok (.aload_n 0, 1) := yd_op_42 (i := 39) yd_by_cX12_isOwnHere_4 rfl rfl
theorem dX12_isOwnHere_208 : decode cX12_isOwnHere 208 = .ok (.aload_n 0, 1) := yd_op_42 (i := 40) yd_by_cX12_isOwnHere_4 rfl rfl
theorem dX12_isOwnHere_209 : decode cX12_isOwnHere 209 = .ok (.getfield 72, 3) := yd_op_180 (i := 41) (a := 0) (b := 72) yd_by_cX12_isOwnHere_4 rfl rfl
set_option maxRecDepth 100000 in
theorem yd_by_cX12_isOwnHere_5 : ydk cX12_isOwnHere 212 [182, 1, 13, 153, 0, 7, 4, 167, 0, 4, 3, 60, 27, 154, 0, 69, 42, 42, 180, 0, 75, 182, 1, 13, 154, 0, 58, 42, 42, 180, 0, 78, 182, 1, 13, 154, 0, 47, 42, 42] = true := by decide +kernel
theorem dX12_isOwnHere_212 : decode cX12_isOwnHere 212 = .ok (.invokevirtual 269, 3) := yd_op_182 (i := 0) (a := 1) (b := 13) yd_by_cX12_isOwnHere_5 rfl rfl
theorem dX12_isOwnHere_215 : decode cX12_isOwnHere 215 = .ok (.ifCond .eq 7, 3) := yd_op_153 (i := 3) (a := 0) (b := 7) yd_by_cX12_isOwnHere_5 rfl rfl
theorem dX12_isOwnHere_218 : decode cX12_isOwnHere 218 = .ok (.iconst 1, 1) := yd_op_4 (i := 6) yd_by_cX12_isOwnHere_5 rfl rfl
theorem dX12_isOwnHere_219 : decode cX12_isOwnHere 219 = .ok (.goto 4, 3) := yd_op_167 (i := 7) (a := 0) (b := 4) yd_by_cX12_isOwnHere_5 rfl rfl
theorem dX12_isOwnHere_222 : decode cX12_isOwnHere 222 = .ok (.iconst 0, 1) := yd_op_3 (i := 10) yd_by_cX12_isOwnHere_5 rfl rfl
theorem dX12_isOwnHere_223 : decode cX12_isOwnHere 223 = .ok (.istore_n 1, 1) := yd_op_60 (i := 11) yd_by_cX12_isOwnHere_5 rfl rfl
theorem dX12_isOwnHere_224 : decode cX12_isOwnHere 224 = .ok (.iload_n 1, 1) := yd_op_27 (i := 12) yd_by_cX12_isOwnHere_5 rfl rfl
theorem dX12_isOwnHere_225 : decode cX12_isOwnHere 225 = .ok (.ifCond .ne 69, 3) := yd_op_154 (i := 13) (a := 0) (b := 69) yd_by_cX12_isOwnHere_5 rfl rfl
theorem dX12_isOwnHere_228 : decode cX12_isOwnHere 228 = .ok (.aload_n 0, 1) := yd_op_42 (i := 16) yd_by_cX12_isOwnHere_5 rfl rfl
theorem dX12_isOwnHere_229 : decode cX12_isOwnHere 229 = .ok (.aload_n 0, 1) := yd_op_42 (i := 17) yd_by_cX12_isOwnHere_5 rfl rfl
theorem dX12_isOwnHere_230 : decode cX12_isOwnHere 230 = .ok (.getfield 75, 3) := yd_op_180 (i := 18) (a := 0) (b := 75) yd_by_cX12_isOwnHere_5 rfl rfl
theorem dX12_isOwnHere_233 : decode cX12_isOwnHere 233 = .ok (.invokevirtual 269, 3) := yd_op_182 (i := 21) (a := 1) (b := 13) yd_by_cX12_isOwnHere_5 rfl rfl
theorem dX12_isOwnHere_236 : decode cX12_isOwnHere 236 = .ok (.ifCond .ne 58, 3) := yd_op_154 (i := 24) (a := 0) (b := 58) yd_by_cX12_isOwnHere_5 rfl rfl
theorem dX12_isOwnHere_239 : decode cX12_isOwnHere 239 = .ok (.aload_n 0, 1) := yd_op_42 (i := 27) yd_by_cX12_isOwnHere_5 rfl rfl
theorem dX12_isOwnHere_240 : decode cX12_isOwnHere 240 = .ok (.aload_n 0, 1) := yd_op_42 (i := 28) yd_by_cX12_isOwnHere_5 rfl rfl
theorem dX12_isOwnHere_241 : decode cX12_isOwnHere 241 = .ok (.getfield 78, 3) := yd_op_180 (i := 29) (a := 0) (b := 78) yd_by_cX12_isOwnHere_5 rfl rfl
theorem dX12_isOwnHere_244 : decode cX12_isOwnHere 244 = .ok (.invokevirtual 269, 3) := yd_op_182 (i := 32) (a := 1) (b := 13) yd_by_cX12_isOwnHere_5 rfl rfl
theorem dX12_isOwnHere_247 : decode cX12_isOwnHere 247 = .ok (.ifCond .ne 47, 3) := yd_op_154 (i := 35) (a := 0) (b := 47) yd_by_cX12_isOwnHere_5 rfl rfl
theorem dX12_isOwnHere_250 : decode cX12_isOwnHere 250 = .ok (.aload_n 0, 1) := yd_op_42 (i := 38) yd_by_cX12_isOwnHere_5 rfl rfl
theorem dX12_isOwnHere_251 : decode cX12_isOwnHere 251 = .ok (.aload_n 0, 1) := yd_op_42 (i := 39) yd_by_cX12_isOwnHere_5 rfl rfl
set_option maxRecDepth 100000 in
theorem yd_by_cX12_isOwnHere_6 : ydk cX12_isOwnHere 252 [180, 0, 81, 182, 1, 13, 154, 0, 36, 42, 42, 180, 0, 84, 182, 1, 13, 154, 0, 25, 42, 42, 180, 0, 87, 182, 1, 13, 154, 0, 14, 42, 42, 180, 0, 90, 182, 1, 13, 153, 0, 7, 4, 167, 0, 4] = true := by decide +kernel
theorem dX12_isOwnHere_252 : decode cX12_isOwnHere 252 = .ok (.getfield 81, 3) := yd_op_180 (i := 0) (a := 0) (b := 81) yd_by_cX12_isOwnHere_6 rfl rfl
theorem dX12_isOwnHere_255 : decode cX12_isOwnHere 255 = .ok (.invokevirtual 269, 3) := yd_op_182 (i := 3) (a := 1) (b := 13) yd_by_cX12_isOwnHere_6 rfl rfl
theorem dX12_isOwnHere_258 : decode cX12_isOwnHere 258 = .ok (.ifCond .ne 36, 3) := yd_op_154 (i := 6) (a := 0) (b := 36) yd_by_cX12_isOwnHere_6 rfl rfl
theorem dX12_isOwnHere_261 : decode cX12_isOwnHere 261 = .ok (.aload_n 0, 1) := yd_op_42 (i := 9) yd_by_cX12_isOwnHere_6 rfl rfl
theorem dX12_isOwnHere_262 : decode cX12_isOwnHere 262 = .ok (.aload_n 0, 1) := yd_op_42 (i := 10) yd_by_cX12_isOwnHere_6 rfl rfl
theorem dX12_isOwnHere_263 : decode cX12_isOwnHere 263 = .ok (.getfield 84, 3) := yd_op_180 (i := 11) (a := 0) (b := 84) yd_by_cX12_isOwnHere_6 rfl rfl
theorem dX12_isOwnHere_266 : decode cX12_isOwnHere 266 = .ok (.invokevirtual 269, 3) := yd_op_182 (i := 14) (a := 1) (b := 13) yd_by_cX12_isOwnHere_6 rfl rfl
theorem dX12_isOwnHere_269 : decode cX12_isOwnHere 269 = .ok (.ifCond .ne 25, 3) := yd_op_154 (i := 17) (a := 0) (b := 25) yd_by_cX12_isOwnHere_6 rfl rfl
theorem dX12_isOwnHere_272 : decode cX12_isOwnHere 272 = .ok (.aload_n 0, 1) := yd_op_42 (i := 20) yd_by_cX12_isOwnHere_6 rfl rfl
theorem dX12_isOwnHere_273 : decode cX12_isOwnHere 273 = .ok (.aload_n 0, 1) := yd_op_42 (i := 21) yd_by_cX12_isOwnHere_6 rfl rfl
theorem dX12_isOwnHere_274 : decode cX12_isOwnHere 274 = .ok (.getfield 87, 3) := yd_op_180 (i := 22) (a := 0) (b := 87) yd_by_cX12_isOwnHere_6 rfl rfl
theorem dX12_isOwnHere_277 : decode cX12_isOwnHere 277 = .ok (.invokevirtual 269, 3) := yd_op_182 (i := 25) (a := 1) (b := 13) yd_by_cX12_isOwnHere_6 rfl rfl
theorem dX12_isOwnHere_280 : decode cX12_isOwnHere 280 = .ok (.ifCond .ne 14, 3) := yd_op_154 (i := 28) (a := 0) (b := 14) yd_by_cX12_isOwnHere_6 rfl rfl
theorem dX12_isOwnHere_283 : decode cX12_isOwnHere 283 = .ok (.aload_n 0, 1) := yd_op_42 (i := 31) yd_by_cX12_isOwnHere_6 rfl rfl
theorem dX12_isOwnHere_284 : decode cX12_isOwnHere 284 = .ok (.aload_n 0, 1) := yd_op_42 (i := 32) yd_by_cX12_isOwnHere_6 rfl rfl
theorem dX12_isOwnHere_285 : decode cX12_isOwnHere 285 = .ok (.getfield 90, 3) := yd_op_180 (i := 33) (a := 0) (b := 90) yd_by_cX12_isOwnHere_6 rfl rfl
theorem dX12_isOwnHere_288 : decode cX12_isOwnHere 288 = .ok (.invokevirtual 269, 3) := yd_op_182 (i := 36) (a := 1) (b := 13) yd_by_cX12_isOwnHere_6 rfl rfl
theorem dX12_isOwnHere_291 : decode cX12_isOwnHere 291 = .ok (.ifCond .eq 7, 3) := yd_op_153 (i := 39) (a := 0) (b := 7) yd_by_cX12_isOwnHere_6 rfl rfl
theorem dX12_isOwnHere_294 : decode cX12_isOwnHere 294 = .ok (.iconst 1, 1) := yd_op_4 (i := 42) yd_by_cX12_isOwnHere_6 rfl rfl
theorem dX12_isOwnHere_295 : decode cX12_isOwnHere 295 = .ok (.goto 4, 3) := yd_op_167 (i := 43) (a := 0) (b := 4) yd_by_cX12_isOwnHere_6 rfl rfl
set_option maxRecDepth 100000 in
theorem yd_by_cX12_isOwnHere_7 : ydk cX12_isOwnHere 298 [3, 60, 27, 154, 0, 36, 42, 42, 180, 0, 93, 182, 1, 13, 154, 0, 25, 42, 42, 180, 0, 96, 182, 1, 13, 154, 0, 14, 42, 42, 180, 0, 99, 182, 1, 13, 153, 0, 7, 4] = true := by decide +kernel
theorem dX12_isOwnHere_298 : decode cX12_isOwnHere 298 = .ok (.iconst 0, 1) := yd_op_3 (i := 0) yd_by_cX12_isOwnHere_7 rfl rfl
theorem dX12_isOwnHere_299 : decode cX12_isOwnHere 299 = .ok (.istore_n 1, 1) := yd_op_60 (i := 1) yd_by_cX12_isOwnHere_7 rfl rfl
theorem dX12_isOwnHere_300 : decode cX12_isOwnHere 300 = .ok (.iload_n 1, 1) := yd_op_27 (i := 2) yd_by_cX12_isOwnHere_7 rfl rfl
theorem dX12_isOwnHere_301 : decode cX12_isOwnHere 301 = .ok (.ifCond .ne 36, 3) := yd_op_154 (i := 3) (a := 0) (b := 36) yd_by_cX12_isOwnHere_7 rfl rfl
theorem dX12_isOwnHere_304 : decode cX12_isOwnHere 304 = .ok (.aload_n 0, 1) := yd_op_42 (i := 6) yd_by_cX12_isOwnHere_7 rfl rfl
theorem dX12_isOwnHere_305 : decode cX12_isOwnHere 305 = .ok (.aload_n 0, 1) := yd_op_42 (i := 7) yd_by_cX12_isOwnHere_7 rfl rfl
theorem dX12_isOwnHere_306 : decode cX12_isOwnHere 306 = .ok (.getfield 93, 3) := yd_op_180 (i := 8) (a := 0) (b := 93) yd_by_cX12_isOwnHere_7 rfl rfl
theorem dX12_isOwnHere_309 : decode cX12_isOwnHere 309 = .ok (.invokevirtual 269, 3) := yd_op_182 (i := 11) (a := 1) (b := 13) yd_by_cX12_isOwnHere_7 rfl rfl
theorem dX12_isOwnHere_312 : decode cX12_isOwnHere 312 = .ok (.ifCond .ne 25, 3) := yd_op_154 (i := 14) (a := 0) (b := 25) yd_by_cX12_isOwnHere_7 rfl rfl
theorem dX12_isOwnHere_315 : decode cX12_isOwnHere 315 = .ok (.aload_n 0, 1) := yd_op_42 (i := 17) yd_by_cX12_isOwnHere_7 rfl rfl
theorem dX12_isOwnHere_316 : decode cX12_isOwnHere 316 = .ok (.aload_n 0, 1) := yd_op_42 (i := 18) yd_by_cX12_isOwnHere_7 rfl rfl
theorem dX12_isOwnHere_317 : decode cX12_isOwnHere 317 = .ok (.getfield 96, 3) := yd_op_180 (i := 19) (a := 0) (b := 96) yd_by_cX12_isOwnHere_7 rfl rfl
theorem dX12_isOwnHere_320 : decode cX12_isOwnHere 320 = .ok (.invokevirtual 269, 3) := yd_op_182 (i := 22) (a := 1) (b := 13) yd_by_cX12_isOwnHere_7 rfl rfl
theorem dX12_isOwnHere_323 : decode cX12_isOwnHere 323 = .ok (.ifCond .ne 14, 3) := yd_op_154 (i := 25) (a := 0) (b := 14) yd_by_cX12_isOwnHere_7 rfl rfl
theorem dX12_isOwnHere_326 : decode cX12_isOwnHere 326 = .ok (.aload_n 0, 1) := yd_op_42 (i := 28) yd_by_cX12_isOwnHere_7 rfl rfl
theorem dX12_isOwnHere_327 : decode cX12_isOwnHere 327 = .ok (.aload_n 0, 1) := yd_op_42 (i := 29) yd_by_cX12_isOwnHere_7 rfl rfl
theorem dX12_isOwnHere_328 : decode cX12_isOwnHere 328 = .ok (.getfield 99, 3) := yd_op_180 (i := 30) (a := 0) (b := 99) yd_by_cX12_isOwnHere_7 rfl rfl
theorem dX12_isOwnHere_331 : decode cX12_isOwnHere 331 = .ok (.invokevirtual 269, 3) := yd_op_182 (i := 33) (a := 1) (b := 13) yd_by_cX12_isOwnHere_7 rfl rfl
theorem dX12_isOwnHere_334 : decode cX12_isOwnHere 334 = .ok (.ifCond .eq 7, 3) := yd_op_153 (i := 36) (a := 0) (b := 7) yd_by_cX12_isOwnHere_7 rfl rfl
theorem dX12_isOwnHere_337 : decode cX12_isOwnHere 337 = .ok (.iconst 1, 1) := yd_op_4 (i := 39) yd_by_cX12_isOwnHere_7 rfl rfl
set_option maxRecDepth 100000 in
theorem yd_by_cX12_isOwnHere_8 : ydk cX12_isOwnHere 338 [167, 0, 4, 3, 60, 27, 172] = true := by decide +kernel
theorem dX12_isOwnHere_338 : decode cX12_isOwnHere 338 = .ok (.goto 4, 3) := yd_op_167 (i := 0) (a := 0) (b := 4) yd_by_cX12_isOwnHere_8 rfl rfl
theorem dX12_isOwnHere_341 : decode cX12_isOwnHere 341 = .ok (.iconst 0, 1) := yd_op_3 (i := 3) yd_by_cX12_isOwnHere_8 rfl rfl
theorem dX12_isOwnHere_342 : decode cX12_isOwnHere 342 = .ok (.istore_n 1, 1) := yd_op_60 (i := 4) yd_by_cX12_isOwnHere_8 rfl rfl
theorem dX12_isOwnHere_343 : decode cX12_isOwnHere 343 = .ok (.iload_n 1, 1) := yd_op_27 (i := 5) yd_by_cX12_isOwnHere_8 rfl rfl
theorem dX12_isOwnHere_344 : decode cX12_isOwnHere 344 = .ok (.ireturn, 1) := yd_op_172 (i := 6) yd_by_cX12_isOwnHere_8 rfl rfl
set_option maxRecDepth 100000 in
theorem yd_by_cX12_name_0 : ydk cX12_name 0 [42, 180, 0, 246, 153, 0, 5, 9, 173, 42, 182, 1, 2, 184, 1, 6, 153, 0, 21, 42, 180, 0, 252, 42, 180, 1, 10, 159, 0, 10, 42, 182, 1, 37, 153, 0, 14, 42, 4, 42] = true := by decide +kernel
theorem dX12_name_0 : decode cX12_name 0 = .ok (.aload_n 0, 1) := yd_op_42 (i := 0) yd_by_cX12_name_0 rfl rfl
theorem dX12_name_1 : decode cX12_name 1 = .ok (.getfield 246, 3) := yd_op_180 (i := 1) (a := 0) (b := 246) yd_by_cX12_name_0 rfl rfl
theorem dX12_name_4 : decode cX12_name 4 = .ok (.ifCond .eq 5, 3) := yd_op_153 (i := 4) (a := 0) (b := 5) yd_by_cX12_name_0 rfl rfl
theorem dX12_name_7 : decode cX12_name 7 = .ok (.lconst 0, 1) := yd_op_9 (i := 7) yd_by_cX12_name_0 rfl rfl
theorem dX12_name_8 : decode cX12_name 8 = .ok (.lreturn, 1) := yd_op_173 (i := 8) yd_by_cX12_name_0 rfl rfl
theorem dX12_name_9 : decode cX12_name 9 = .ok (.aload_n 0, 1) := yd_op_42 (i := 9) yd_by_cX12_name_0 rfl rfl
theorem dX12_name_10 : decode cX12_name 10 = .ok (.invokevirtual 258, 3) := yd_op_182 (i := 10) (a := 1) (b := 2) yd_by_cX12_name_0 rfl rfl
theorem dX12_name_13 : decode cX12_name 13 = .ok (.invokestatic 262, 3) := yd_op_184 (i := 13) (a := 1) (b := 6) yd_by_cX12_name_0 rfl rfl
theorem dX12_name_16 : decode cX12_name 16 = .ok (.ifCond .eq 21, 3) := yd_op_153 (i := 16) (a := 0) (b := 21) yd_by_cX12_name_0 rfl rfl
theorem dX12_name_19 : decode cX12_name 19 = .ok (.aload_n 0, 1) := yd_op_42 (i := 19) yd_by_cX12_name_0 rfl rfl
theorem dX12_name_20 : decode cX12_name 20 = .ok (.getfield 252, 3) := yd_op_180 (i := 20) (a := 0) (b := 252) yd_by_cX12_name_0 rfl rfl
theorem dX12_name_23 : decode cX12_name 23 = .ok (.aload_n 0, 1) := yd_op_42 (i := 23) yd_by_cX12_name_0 rfl rfl
theorem dX12_name_24 : decode cX12_name 24 = .ok (.getfield 266, 3) := yd_op_180 (i := 24) (a := 1) (b := 10) yd_by_cX12_name_0 rfl rfl
theorem dX12_name_27 : decode cX12_name 27 = .ok (.if_icmp .eq 10, 3) := yd_op_159 (i := 27) (a := 0) (b := 10) yd_by_cX12_name_0 rfl rfl
theorem dX12_name_30 : decode cX12_name 30 = .ok (.aload_n 0, 1) := yd_op_42 (i := 30) yd_by_cX12_name_0 rfl rfl
theorem dX12_name_31 : decode cX12_name 31 = .ok (.invokevirtual 293, 3) := yd_op_182 (i := 31) (a := 1) (b := 37) yd_by_cX12_name_0 rfl rfl
theorem dX12_name_34 : decode cX12_name 34 = .ok (.ifCond .eq 14, 3) := yd_op_153 (i := 34) (a := 0) (b := 14) yd_by_cX12_name_0 rfl rfl
theorem dX12_name_37 : decode cX12_name 37 = .ok (.aload_n 0, 1) := yd_op_42 (i := 37) yd_by_cX12_name_0 rfl rfl
theorem dX12_name_38 : decode cX12_name 38 = .ok (.iconst 1, 1) := yd_op_4 (i := 38) yd_by_cX12_name_0 rfl rfl
theorem dX12_name_39 : decode cX12_name 39 = .ok (.aload_n 0, 1) := yd_op_42 (i := 39) yd_by_cX12_name_0 rfl rfl
set_option maxRecDepth 100000 in
theorem yd_by_cX12_name_1 : ydk cX12_name 40 [180, 0, 252, 182, 1, 20, 9, 173, 42, 42, 180, 0, 252, 181, 1, 41, 9, 64, 42, 180, 0, 252, 42, 180, 0, 255, 162, 0, 79, 42, 180, 0, 7, 42, 180, 0, 252, 46] = true := by decide +kernel
theorem dX12_name_40 : decode cX12_name 40 = .ok (.getfield 252, 3) := yd_op_180 (i := 0) (a := 0) (b := 252) yd_by_cX12_name_1 rfl rfl
theorem dX12_name_43 : decode cX12_name 43 = .ok (.invokevirtual 276, 3) := yd_op_182 (i := 3) (a := 1) (b := 20) yd_by_cX12_name_1 rfl rfl
theorem dX12_name_46 : decode cX12_name 46 = .ok (.lconst 0, 1) := yd_op_9 (i := 6) yd_by_cX12_name_1 rfl rfl
theorem dX12_name_47 : decode cX12_name 47 = .ok (.lreturn, 1) := yd_op_173 (i := 7) yd_by_cX12_name_1 rfl rfl
theorem dX12_name_48 : decode cX12_name 48 = .ok (.aload_n 0, 1) := yd_op_42 (i := 8) yd_by_cX12_name_1 rfl rfl
theorem dX12_name_49 : decode cX12_name 49 = .ok (.aload_n 0, 1) := yd_op_42 (i := 9) yd_by_cX12_name_1 rfl rfl
theorem dX12_name_50 : decode cX12_name 50 = .ok (.getfield 252, 3) := yd_op_180 (i := 10) (a := 0) (b := 252) yd_by_cX12_name_1 rfl rfl
theorem dX12_name_53 : decode cX12_name 53 = .ok (.putfield 297, 3) := yd_op_181 (i := 13) (a := 1) (b := 41) yd_by_cX12_name_1 rfl rfl
theorem dX12_name_56 : decode cX12_name 56 = .ok (.lconst 0, 1) := yd_op_9 (i := 16) yd_by_cX12_name_1 rfl rfl
theorem dX12_name_57 : decode cX12_name 57 = .ok (.lstore_n 1, 1) := yd_op_64 (i := 17) yd_by_cX12_name_1 rfl rfl
theorem dX12_name_58 : decode cX12_name 58 = .ok (.aload_n 0, 1) := yd_op_42 (i := 18) yd_by_cX12_name_1 rfl rfl
theorem dX12_name_59 : decode cX12_name 59 = .ok (.getfield 252, 3) := yd_op_180 (i := 19) (a := 0) (b := 252) yd_by_cX12_name_1 rfl rfl
theorem dX12_name_62 : decode cX12_name 62 = .ok (.aload_n 0, 1) := yd_op_42 (i := 22) yd_by_cX12_name_1 rfl rfl
theorem dX12_name_63 : decode cX12_name 63 = .ok (.getfield 255, 3) := yd_op_180 (i := 23) (a := 0) (b := 255) yd_by_cX12_name_1 rfl rfl
theorem dX12_name_66 : decode cX12_name 66 = .ok (.if_icmp .ge 79, 3) := yd_op_162 (i := 26) (a := 0) (b := 79) yd_by_cX12_name_1 rfl rfl
theorem dX12_name_69 : decode cX12_name 69 = .ok (.aload_n 0, 1) := yd_op_42 (i := 29) yd_by_cX12_name_1 rfl rfl
theorem dX12_name_70 : decode cX12_name 70 = .ok (.getfield 7, 3) := yd_op_180 (i := 30) (a := 0) (b := 7) yd_by_cX12_name_1 rfl rfl
theorem dX12_name_73 : decode cX12_name 73 = .ok (.aload_n 0, 1) := yd_op_42 (i := 33) yd_by_cX12_name_1 rfl rfl
theorem dX12_name_74 : decode cX12_name 74 = .ok (.getfield 252, 3) := yd_op_180 (i := 34) (a := 0) (b := 252) yd_by_cX12_name_1 rfl rfl
theorem dX12_name_77 : decode cX12_name 77 = .ok (.iaload, 1) := yd_op_46 (i := 37) yd_by_cX12_name_1 rfl rfl
set_option maxRecDepth 100000 in
theorem yd_by_cX12_name_2 : ydk cX12_name 78 [184, 1, 6, 153, 0, 64, 42, 180, 0, 252, 42, 180, 1, 41, 100, 16, 6, 160, 0, 14, 42, 4, 42, 180, 0, 252, 182, 1, 20, 9, 173, 20, 1, 44, 31, 105, 42] = true := by decide +kernel
theorem dX12_name_78 : decode cX12_name 78 = .ok (.invokestatic 262, 3) := yd_op_184 (i := 0) (a := 1) (b := 6) yd_by_cX12_name_2 rfl rfl
theorem dX12_name_81 : decode cX12_name 81 = .ok (.ifCond .eq 64, 3) := yd_op_153 (i := 3) (a := 0) (b := 64) yd_by_cX12_name_2 rfl rfl
theorem dX12_name_84 : decode cX12_name 84 = .ok (.aload_n 0, 1) := yd_op_42 (i := 6) yd_by_cX12_name_2 rfl rfl
theorem dX12_name_85 : decode cX12_name 85 = .ok (.getfield 252, 3) := yd_op_180 (i := 7) (a := 0) (b := 252) yd_by_cX12_name_2 rfl rfl
theorem dX12_name_88 : decode cX12_name 88 = .ok (.aload_n 0, 1) := yd_op_42 (i := 10) yd_by_cX12_name_2 rfl rfl
theorem dX12_name_89 : decode cX12_name 89 = .ok (.getfield 297, 3) := yd_op_180 (i := 11) (a := 1) (b := 41) yd_by_cX12_name_2 rfl rfl
theorem dX12_name_92 : decode cX12_name 92 = .ok (.isub, 1) := yd_op_100 (i := 14) yd_by_cX12_name_2 rfl rfl
theorem dX12_name_93 : decode cX12_name 93 = .ok (.bipush 6, 2) := yd_op_16 (i := 15) (a := 6) yd_by_cX12_name_2 rfl rfl
theorem dX12_name_95 : decode cX12_name 95 = .ok (.if_icmp .ne 14, 3) := yd_op_160 (i := 17) (a := 0) (b := 14) yd_by_cX12_name_2 rfl rfl
theorem dX12_name_98 : decode cX12_name 98 = .ok (.aload_n 0, 1) := yd_op_42 (i := 20) yd_by_cX12_name_2 rfl rfl
theorem dX12_name_99 : decode cX12_name 99 = .ok (.iconst 1, 1) := yd_op_4 (i := 21) yd_by_cX12_name_2 rfl rfl
theorem dX12_name_100 : decode cX12_name 100 = .ok (.aload_n 0, 1) := yd_op_42 (i := 22) yd_by_cX12_name_2 rfl rfl
theorem dX12_name_101 : decode cX12_name 101 = .ok (.getfield 252, 3) := yd_op_180 (i := 23) (a := 0) (b := 252) yd_by_cX12_name_2 rfl rfl
theorem dX12_name_104 : decode cX12_name 104 = .ok (.invokevirtual 276, 3) := yd_op_182 (i := 26) (a := 1) (b := 20) yd_by_cX12_name_2 rfl rfl
theorem dX12_name_107 : decode cX12_name 107 = .ok (.lconst 0, 1) := yd_op_9 (i := 29) yd_by_cX12_name_2 rfl rfl
theorem dX12_name_108 : decode cX12_name 108 = .ok (.lreturn, 1) := yd_op_173 (i := 30) yd_by_cX12_name_2 rfl rfl
theorem dX12_name_109 : decode cX12_name 109 = .ok (.ldc2_w 300, 3) := yd_op_20 (i := 31) (a := 1) (b := 44) yd_by_cX12_name_2 rfl rfl
theorem dX12_name_112 : decode cX12_name 112 = .ok (.lload_n 1, 1) := yd_op_31 (i := 34) yd_by_cX12_name_2 rfl rfl
theorem dX12_name_113 : decode cX12_name 113 = .ok (.lmul, 1) := yd_op_105 (i := 35) yd_by_cX12_name_2 rfl rfl
theorem dX12_name_114 : decode cX12_name 114 = .ok (.aload_n 0, 1) := yd_op_42 (i := 36) yd_by_cX12_name_2 rfl rfl
set_option maxRecDepth 100000 in
theorem yd_by_cX12_name_3 : ydk cX12_name 115 [180, 0, 7, 42, 180, 0, 252, 46, 133, 97, 20, 1, 46, 101, 10, 97, 64, 42, 89, 180, 0, 252, 4, 96, 181, 0, 252, 167, 255, 172, 42, 42] = true := by decide +kernel
theorem dX12_name_115 : decode cX12_name 115 = .ok (.getfield 7, 3) := yd_op_180 (i := 0) (a := 0) (b := 7) yd_by_cX12_name_3 rfl rfl
theorem dX12_name_118 : decode cX12_name 118 = .ok (.aload_n 0, 1) := yd_op_42 (i := 3) yd_by_cX12_name_3 rfl rfl
theorem dX12_name_119 : decode cX12_name 119 = .ok (.getfield 252, 3) := yd_op_180 (i := 4) (a := 0) (b := 252) yd_by_cX12_name_3 rfl rfl
theorem dX12_name_122 : decode cX12_name 122 = .ok (.iaload, 1) := yd_op_46 (i := 7) yd_by_cX12_name_3 rfl rfl
theorem dX12_name_123 : decode cX12_name 123 = .ok (.i2l, 1) := yd_op_133 (i := 8) yd_by_cX12_name_3 rfl rfl
theorem dX12_name_124 : decode cX12_name 124 = .ok (.ladd, 1) := yd_op_97 (i := 9) yd_by_cX12_name_3 rfl rfl
theorem dX12_name_125 : decode cX12_name 125 = .ok (.ldc2_w 302, 3) := yd_op_20 (i := 10) (a := 1) (b := 46) yd_by_cX12_name_3 rfl rfl
theorem dX12_name_128 : decode cX12_name 128 = .ok (.lsub, 1) := yd_op_101 (i := 13) yd_by_cX12_name_3 rfl rfl
theorem dX12_name_129 : decode cX12_name 129 = .ok (.lconst 1, 1) := yd_op_10 (i := 14) yd_by_cX12_name_3 rfl rfl
theorem dX12_name_130 : decode cX12_name 130 = .ok (.ladd, 1) := yd_op_97 (i := 15) yd_by_cX12_name_3 rfl rfl
theorem dX12_name_131 : decode cX12_name 131 = .ok (.lstore_n 1, 1) := yd_op_64 (i := 16) yd_by_cX12_name_3 rfl rfl
theorem dX12_name_132 : decode cX12_name 132 = .ok (.aload_n 0, 1) := yd_op_42 (i := 17) yd_by_cX12_name_3 rfl rfl
theorem dX12_name_133 : decode cX12_name 133 = .ok (.dup, 1) := yd_op_89 (i := 18) yd_by_cX12_name_3 rfl rfl
theorem dX12_name_134 : decode cX12_name 134 = .ok (.getfield 252, 3) := yd_op_180 (i := 19) (a := 0) (b := 252) yd_by_cX12_name_3 rfl rfl
theorem dX12_name_137 : decode cX12_name 137 = .ok (.iconst 1, 1) := yd_op_4 (i := 22) yd_by_cX12_name_3 rfl rfl
theorem dX12_name_138 : decode cX12_name 138 = .ok (.iadd, 1) := yd_op_96 (i := 23) yd_by_cX12_name_3 rfl rfl
theorem dX12_name_139 : decode cX12_name 139 = .ok (.putfield 252, 3) := yd_op_181 (i := 24) (a := 0) (b := 252) yd_by_cX12_name_3 rfl rfl
theorem dX12_name_142 : decode cX12_name 142 = .ok (.goto (-84), 3) := yd_op_167 (i := 27) (a := 255) (b := 172) yd_by_cX12_name_3 rfl rfl
theorem dX12_name_145 : decode cX12_name 145 = .ok (.aload_n 0, 1) := yd_op_42 (i := 30) yd_by_cX12_name_3 rfl rfl
theorem dX12_name_146 : decode cX12_name 146 = .ok (.aload_n 0, 1) := yd_op_42 (i := 31) yd_by_cX12_name_3 rfl rfl
set_option maxRecDepth 100000 in
theorem yd_by_cX12_name_4 : ydk cX12_name 147 [180, 0, 252, 181, 1, 10, 31, 173] = true := by decide +kernel
theorem dX12_name_147 : decode cX12_name 147 = .ok (.getfield 252, 3) := yd_op_180 (i := 0) (a := 0) (b := 252) yd_by_cX12_name_4 rfl rfl
theorem dX12_name_150 : decode cX12_name 150 = .ok (.putfield 266, 3) := yd_op_181 (i := 3) (a := 1) (b := 10) yd_by_cX12_name_4 rfl rfl
theorem dX12_name_153 : decode cX12_name 153 = .ok (.lload_n 1, 1) := yd_op_31 (i := 6) yd_by_cX12_name_4 rfl rfl
theorem dX12_name_154 : decode cX12_name 154 = .ok (.lreturn, 1) := yd_op_173 (i := 7) yd_by_cX12_name_4 rfl rfl
set_option maxRecDepth 100000 in
theorem yd_by_cX12_isAllowed_0 : ydk cX12_isAllowed 0 [27, 5, 161, 0, 48, 42, 180, 1, 48, 154, 0, 11, 27, 5, 160, 0, 40, 167, 0, 33, 42, 180, 1, 48, 4, 160, 0, 20, 27, 133, 20, 1, 51, 20, 1, 53, 184, 1, 33, 153, 0, 15] = true := by decide +kernel
theorem dX12_isAllowed_0 : decode cX12_isAllowed 0 = .ok (.iload_n 1, 1) := yd_op_27 (i := 0) yd_by_cX12_isAllowed_0 rfl rfl
theorem dX12_isAllowed_1 : decode cX12_isAllowed 1 = .ok (.iconst 2, 1) := yd_op_5 (i := 1) yd_by_cX12_isAllowed_0 rfl rfl
theorem dX12_isAllowed_2 : decode cX12_isAllowed 2 = .ok (.if_icmp .lt 48, 3) := yd_op_161 (i := 2) (a := 0) (b := 48) yd_by_cX12_isAllowed_0 rfl rfl
theorem dX12_isAllowed_5 : decode cX12_isAllowed 5 = .ok (.aload_n 0, 1) := yd_op_42 (i := 5) yd_by_cX12_isAllowed_0 rfl rfl
theorem dX12_isAllowed_6 : decode cX12_isAllowed 6 = .ok (.getfield 304, 3) := yd_op_180 (i := 6) (a := 1) (b := 48) yd_by_cX12_isAllowed_0 rfl rfl
theorem dX12_isAllowed_9 : decode cX12_isAllowed 9 = .ok (.ifCond .ne 11, 3) := yd_op_154 (i := 9) (a := 0) (b := 11) yd_by_cX12_isAllowed_0 rfl rfl
theorem dX12_isAllowed_12 : decode cX12_isAllowed 12 = .ok (.iload_n 1, 1) := yd_op_27 (i := 12) yd_by_cX12_isAllowed_0 rfl rfl
theorem dX12_isAllowed_13 : decode cX12_isAllowed 13 = .ok (.iconst 2, 1) := yd_op_5 (i := 13) yd_by_cX12_isAllowed_0 rfl rfl
theorem dX12_isAllowed_14 : decode cX12_isAllowed 14 = .ok (.if_icmp .ne 40, 3) := yd_op_160 (i := 14) (a := 0) (b := 40) yd_by_cX12_isAllowed_0 rfl rfl
theorem dX12_isAllowed_17 : decode cX12_isAllowed 17 = .ok (.goto 33, 3) := yd_op_167 (i := 17) (a := 0) (b := 33) yd_by_cX12_isAllowed_0 rfl rfl
theorem dX12_isAllowed_20 : decode cX12_isAllowed 20 = .ok (.aload_n 0, 1) := yd_op_42 (i := 20) yd_by_cX12_isAllowed_0 rfl rfl
theorem dX12_isAllowed_21 : decode cX12_isAllowed 21 = .ok (.getfield 304, 3) := yd_op_180 (i := 21) (a := 1) (b := 48) yd_by_cX12_isAllowed_0 rfl rfl
theorem dX12_isAllowed_24 : decode cX12_isAllowed 24 = .ok (.iconst 1, 1) := yd_op_4 (i := 24) yd_by_cX12_isAllowed_0 rfl rfl
theorem dX12_isAllowed_25 : decode cX12_isAllowed 25 = .ok (.if_icmp .ne 20, 3) := yd_op_160 (i := 25) (a := 0) (b := 20) yd_by_cX12_isAllowed_0 rfl rfl
theorem dX12_isAllowed_28 : decode cX12_isAllowed 28 = .ok (.iload_n 1, 1) := yd_op_27 (i := 28) yd_by_cX12_isAllowed_0 rfl rfl
theorem dX12_isAllowed_29 : decode cX12_isAllowed 29 = .ok (.i2l, 1) := yd_op_133 (i := 29) yd_by_cX12_isAllowed_0 rfl rfl
theorem dX12_isAllowed_30 : decode cX12_isAllowed 30 = .ok (.ldc2_w 307, 3) := yd_op_20 (i := 30) (a := 1) (b := 51) yd_by_cX12_isAllowed_0 rfl rfl
theorem dX12_isAllowed_33 : decode cX12_isAllowed 33 = .ok (.ldc2_w 309, 3) := yd_op_20 (i := 33) (a := 1) (b := 53) yd_by_cX12_isAllowed_0 rfl rfl
theorem dX12_isAllowed_36 : decode cX12_isAllowed 36 = .ok (.invokestatic 289, 3) := yd_op_184 (i := 36) (a := 1) (b := 33) yd_by_cX12_isAllowed_0 rfl rfl
theorem dX12_isAllowed_39 : decode cX12_isAllowed 39 = .ok (.ifCond .eq 15, 3) := yd_op_153 (i := 39) (a := 0) (b := 15) yd_by_cX12_isAllowed_0 rfl rfl
set_option maxRecDepth 100000 in
theorem yd_by_cX12_isAllowed_1 : ydk cX12_isAllowed 42 [167, 0, 8, 27, 5, 164, 0, 7, 4, 167, 0, 4, 3, 172] = true := by decide +kernel
theorem dX12_isAllowed_42 : decode cX12_isAllowed 42 = .ok (.goto 8, 3) := yd_op_167 (i := 0) (a := 0) (b := 8) yd_by_cX12_isAllowed_1 rfl rfl
theorem dX12_isAllowed_45 : decode cX12_isAllowed 45 = .ok (.iload_n 1, 1) := yd_op_27 (i := 3) yd_by_cX12_isAllowed_1 rfl rfl
theorem dX12_isAllowed_46 : decode cX12_isAllowed 46 = .ok (.iconst 2, 1) := yd_op_5 (i := 4) yd_by_cX12_isAllowed_1 rfl rfl
theorem dX12_isAllowed_47 : decode cX12_isAllowed 47 = .ok (.if_icmp .le 7, 3) := yd_op_164 (i := 5) (a := 0) (b := 7) yd_by_cX12_isAllowed_1 rfl rfl
theorem dX12_isAllowed_50 : decode cX12_isAllowed 50 = .ok (.iconst 1, 1) := yd_op_4 (i := 8) yd_by_cX12_isAllowed_1 rfl rfl
theorem dX12_isAllowed_51 : decode cX12_isAllowed 51 = .ok (.goto 4, 3) := yd_op_167 (i := 9) (a := 0) (b := 4) yd_by_cX12_isAllowed_1 rfl rfl
theorem dX12_isAllowed_54 : decode cX12_isAllowed 54 = .ok (.iconst 0, 1) := yd_op_3 (i := 12) yd_by_cX12_isAllowed_1 rfl rfl
theorem dX12_isAllowed_55 : decode cX12_isAllowed 55 = .ok (.ireturn, 1) := yd_op_172 (i := 13) yd_by_cX12_isAllowed_1 rfl rfl
set_option maxRecDepth 100000 in
theorem yd_by_cX12_paneTold_0 : ydk cX12_paneTold 0 [42, 42, 180, 0, 20, 182, 1, 55, 42, 180, 0, 102, 3, 42, 5, 16, 6, 182, 1, 59, 79, 42, 42, 180, 0, 24, 182, 1, 55, 42, 180, 0, 102, 4, 42] = true := by decide +kernel
theorem dX12_paneTold_0 : decode cX12_paneTold 0 = .ok (.aload_n 0, 1) := yd_op_42 (i := 0) yd_by_cX12_paneTold_0 rfl rfl
theorem dX12_paneTold_1 : decode cX12_paneTold 1 = .ok (.aload_n 0, 1) := yd_op_42 (i := 1) yd_by_cX12_paneTold_0 rfl rfl
theorem dX12_paneTold_2 : decode cX12_paneTold 2 = .ok (.getfield 20, 3) := yd_op_180 (i := 2) (a := 0) (b := 20) yd_by_cX12_paneTold_0 rfl rfl
theorem dX12_paneTold_5 : decode cX12_paneTold 5 = .ok (.invokevirtual 311, 3) := yd_op_182 (i := 5) (a := 1) (b := 55) yd_by_cX12_paneTold_0 rfl rfl
theorem dX12_paneTold_8 : decode cX12_paneTold 8 = .ok (.aload_n 0, 1) := yd_op_42 (i := 8) yd_by_cX12_paneTold_0 rfl rfl
theorem dX12_paneTold_9 : decode cX12_paneTold 9 = .ok (.getfield 102, 3) := yd_op_180 (i := 9) (a := 0) (b := 102) yd_by_cX12_paneTold_0 rfl rfl
theorem dX12_paneTold_12 : decode cX12_paneTold 12 = .ok (.iconst 0, 1) := yd_op_3 (i := 12) yd_by_cX12_paneTold_0 rfl rfl
theorem dX12_paneTold_13 : decode cX12_paneTold 13 = .ok (.aload_n 0, 1) := yd_op_42 (i := 13) yd_by_cX12_paneTold_0 rfl rfl
theorem dX12_paneTold_14 : decode cX12_paneTold 14 = .ok (.iconst 2, 1) := yd_op_5 (i := 14) yd_by_cX12_paneTold_0 rfl rfl
theorem dX12_paneTold_15 : decode cX12_paneTold 15 = .ok (.bipush 6, 2) := yd_op_16 (i := 15) (a := 6) yd_by_cX12_paneTold_0 rfl rfl
theorem dX12_paneTold_17 : decode cX12_paneTold 17 = .ok (.invokevirtual 315, 3) := yd_op_182 (i := 17) (a := 1) (b := 59) yd_by_cX12_paneTold_0 rfl rfl
theorem dX12_paneTold_20 : decode cX12_paneTold 20 = .ok (.iastore, 1) := yd_op_79 (i := 20) yd_by_cX12_paneTold_0 rfl rfl
theorem dX12_paneTold_21 : decode cX12_paneTold 21 = .ok (.aload_n 0, 1) := yd_op_42 (i := 21) yd_by_cX12_paneTold_0 rfl rfl
theorem dX12_paneTold_22 : decode cX12_paneTold 22 = .ok (.aload_n 0, 1) := yd_op_42 (i := 22) yd_by_cX12_paneTold_0 rfl rfl
theorem dX12_paneTold_23 : decode cX12_paneTold 23 = .ok (.getfield 24, 3) := yd_op_180 (i := 23) (a := 0) (b := 24) yd_by_cX12_paneTold_0 rfl rfl
theorem dX12_paneTold_26 : decode cX12_paneTold 26 = .ok (.invokevirtual 311, 3) := yd_op_182 (i := 26) (a := 1) (b := 55) yd_by_cX12_paneTold_0 rfl rfl
theorem dX12_paneTold_29 : decode cX12_paneTold 29 = .ok (.aload_n 0, 1) := yd_op_42 (i := 29) yd_by_cX12_paneTold_0 rfl rfl
theorem dX12_paneTold_30 : decode cX12_paneTold 30 = .ok (.getfield 102, 3) := yd_op_180 (i := 30) (a := 0) (b := 102) yd_by_cX12_paneTold_0 rfl rfl
theorem dX12_paneTold_33 : decode cX12_paneTold 33 = .ok (.iconst 1, 1) := yd_op_4 (i := 33) yd_by_cX12_paneTold_0 rfl rfl
theorem dX12_paneTold_34 : decode cX12_paneTold 34 = .ok (.aload_n 0, 1) := yd_op_42 (i := 34) yd_by_cX12_paneTold_0 rfl rfl
set_option maxRecDepth 100000 in
theorem yd_by_cX12_paneTold_1 : ydk cX12_paneTold 35 [5, 16, 6, 182, 1, 59, 79, 42, 42, 180, 0, 27, 182, 1, 55, 42, 180, 0, 102, 5, 42, 3, 16, 99, 182, 1, 59, 79, 42, 16, 59, 182, 1, 63, 177] = true := by decide +kernel
theorem dX12_paneTold_35 : decode cX12_paneTold 35 = .ok (.iconst 2, 1) := yd_op_5 (i := 0) yd_by_cX12_paneTold_1 rfl rfl
theorem dX12_paneTold_36 : decode cX12_paneTold 36 = .ok (.bipush 6, 2) := yd_op_16 (i := 1) (a := 6) yd_by_cX12_paneTold_1 rfl rfl
theorem dX12_paneTold_38 : decode cX12_paneTold 38 = .ok (.invokevirtual 315, 3) := yd_op_182 (i := 3) (a := 1) (b := 59) yd_by_cX12_paneTold_1 rfl rfl
theorem dX12_paneTold_41 : decode cX12_paneTold 41 = .ok (.iastore, 1) := yd_op_79 (i := 6) yd_by_cX12_paneTold_1 rfl rfl
theorem dX12_paneTold_42 : decode cX12_paneTold 42 = .ok (.aload_n 0, 1) := yd_op_42 (i := 7) yd_by_cX12_paneTold_1 rfl rfl
theorem dX12_paneTold_43 : decode cX12_paneTold 43 = .ok (.aload_n 0, 1) := yd_op_42 (i := 8) yd_by_cX12_paneTold_1 rfl rfl
theorem dX12_paneTold_44 : decode cX12_paneTold 44 = .ok (.getfield 27, 3) := yd_op_180 (i := 9) (a := 0) (b := 27) yd_by_cX12_paneTold_1 rfl rfl
theorem dX12_paneTold_47 : decode cX12_paneTold 47 = .ok (.invokevirtual 311, 3) := yd_op_182 (i := 12) (a := 1) (b := 55) yd_by_cX12_paneTold_1 rfl rfl
theorem dX12_paneTold_50 : decode cX12_paneTold 50 = .ok (.aload_n 0, 1) := yd_op_42 (i := 15) yd_by_cX12_paneTold_1 rfl rfl
theorem dX12_paneTold_51 : decode cX12_paneTold 51 = .ok (.getfield 102, 3) := yd_op_180 (i := 16) (a := 0) (b := 102) yd_by_cX12_paneTold_1 rfl rfl
theorem dX12_paneTold_54 : decode cX12_paneTold 54 = .ok (.iconst 2, 1) := yd_op_5 (i := 19) yd_by_cX12_paneTold_1 rfl rfl
theorem dX12_paneTold_55 : decode cX12_paneTold 55 = .ok (.aload_n 0, 1) := yd_op_42 (i := 20) yd_by_cX12_paneTold_1 rfl rfl
theorem dX12_paneTold_56 : decode cX12_paneTold 56 = .ok (.iconst 0, 1) := yd_op_3 (i := 21) yd_by_cX12_paneTold_1 rfl rfl
theorem dX12_paneTold_57 : decode cX12_paneTold 57 = .ok (.bipush 99, 2) := yd_op_16 (i := 22) (a := 99) yd_by_cX12_paneTold_1 rfl rfl
theorem dX12_paneTold_59 : decode cX12_paneTold 59 = .ok (.invokevirtual 315, 3) := yd_op_182 (i := 24) (a := 1) (b := 59) yd_by_cX12_paneTold_1 rfl rfl
theorem dX12_paneTold_62 : decode cX12_paneTold 62 = .ok (.iastore, 1) := yd_op_79 (i := 27) yd_by_cX12_paneTold_1 rfl rfl
theorem dX12_paneTold_63 : decode cX12_paneTold 63 = .ok (.aload_n 0, 1) := yd_op_42 (i := 28) yd_by_cX12_paneTold_1 rfl rfl
theorem dX12_paneTold_64 : decode cX12_paneTold 64 = .ok (.bipush 59, 2) := yd_op_16 (i := 29) (a := 59) yd_by_cX12_paneTold_1 rfl rfl
theorem dX12_paneTold_66 : decode cX12_paneTold 66 = .ok (.invokevirtual 319, 3) := yd_op_182 (i := 31) (a := 1) (b := 63) yd_by_cX12_paneTold_1 rfl rfl
theorem dX12_paneTold_69 : decode cX12_paneTold 69 = .ok (.return_, 1) := yd_op_177 (i := 34) yd_by_cX12_paneTold_1 rfl rfl
set_option maxRecDepth 100000 in
theorem yd_by_cX12_cellTold_0 : ydk cX12_cellTold 0 [42, 3, 42, 180, 0, 102, 3, 46, 4, 100, 182, 1, 59, 60, 42, 3, 42, 180, 0, 102, 4, 46, 4, 100, 182, 1, 59, 61] = true := by decide +kernel
theorem dX12_cellTold_0 : decode cX12_cellTold 0 = .ok (.aload_n 0, 1) := yd_op_42 (i := 0) yd_by_cX12_cellTold_0 rfl rfl
theorem dX12_cellTold_1 : decode cX12_cellTold 1 = .ok (.iconst 0, 1) := yd_op_3 (i := 1) yd_by_cX12_cellTold_0 rfl rfl
theorem dX12_cellTold_2 : decode cX12_cellTold 2 = .ok (.aload_n 0, 1) := yd_op_42 (i := 2) yd_by_cX12_cellTold_0 rfl rfl
theorem dX12_cellTold_3 : decode cX12_cellTold 3 = .ok (.getfield 102, 3) := yd_op_180 (i := 3) (a := 0) (b := 102) yd_by_cX12_cellTold_0 rfl rfl
theorem dX12_cellTold_6 : decode cX12_cellTold 6 = .ok (.iconst 0, 1) := yd_op_3 (i := 6) yd_by_cX12_cellTold_0 rfl rfl
theorem dX12_cellTold_7 : decode cX12_cellTold 7 = .ok (.iaload, 1) := yd_op_46 (i := 7) yd_by_cX12_cellTold_0 rfl rfl
theorem dX12_cellTold_8 : decode cX12_cellTold 8 = .ok (.iconst 1, 1) := yd_op_4 (i := 8) yd_by_cX12_cellTold_0 rfl rfl
theorem dX12_cellTold_9 : decode cX12_cellTold 9 = .ok (.isub, 1) := yd_op_100 (i := 9) yd_by_cX12_cellTold_0 rfl rfl
theorem dX12_cellTold_10 : decode cX12_cellTold 10 = .ok (.invokevirtual 315, 3) := yd_op_182 (i := 10) (a := 1) (b := 59) yd_by_cX12_cellTold_0 rfl rfl
theorem dX12_cellTold_13 : decode cX12_cellTold 13 = .ok (.istore_n 1, 1) := yd_op_60 (i := 13) yd_by_cX12_cellTold_0 rfl rfl
theorem dX12_cellTold_14 : decode cX12_cellTold 14 = .ok (.aload_n 0, 1) := yd_op_42 (i := 14) yd_by_cX12_cellTold_0 rfl rfl
theorem dX12_cellTold_15 : decode cX12_cellTold 15 = .ok (.iconst 0, 1) := yd_op_3 (i := 15) yd_by_cX12_cellTold_0 rfl rfl
theorem dX12_cellTold_16 : decode cX12_cellTold 16 = .ok (.aload_n 0, 1) := yd_op_42 (i := 16) yd_by_cX12_cellTold_0 rfl rfl
theorem dX12_cellTold_17 : decode cX12_cellTold 17 = .ok (.getfield 102, 3) := yd_op_180 (i := 17) (a := 0) (b := 102) yd_by_cX12_cellTold_0 rfl rfl
theorem dX12_cellTold_20 : decode cX12_cellTold 20 = .ok (.iconst 1, 1) := yd_op_4 (i := 20) yd_by_cX12_cellTold_0 rfl rfl
theorem dX12_cellTold_21 : decode cX12_cellTold 21 = .ok (.iaload, 1) := yd_op_46 (i := 21) yd_by_cX12_cellTold_0 rfl rfl
theorem dX12_cellTold_22 : decode cX12_cellTold 22 = .ok (.iconst 1, 1) := yd_op_4 (i := 22) yd_by_cX12_cellTold_0 rfl rfl
theorem dX12_cellTold_23 : decode cX12_cellTold 23 = .ok (.isub, 1) := yd_op_100 (i := 23) yd_by_cX12_cellTold_0 rfl rfl
theorem dX12_cellTold_24 : decode cX12_cellTold 24 = .ok (.invokevirtual 315, 3) := yd_op_182 (i := 24) (a := 1) (b := 59) yd_by_cX12_cellTold_0 rfl rfl
theorem dX12_cellTold_27 : decode cX12_cellTold 27 = .ok (.istore_n 2, 1) := yd_op_61 (i := 27) yd_by_cX12_cellTold_0 rfl rfl
set_option maxRecDepth 100000 in
theorem yd_by_cX12_cellTold_1 : ydk cX12_cellTold 28 [42, 180, 0, 246, 154, 0, 12, 27, 16, 6, 28, 104, 96, 167, 0, 4, 3, 172] = true := by decide +kernel
theorem dX12_cellTold_28 : decode cX12_cellTold 28 = .ok (.aload_n 0, 1) := yd_op_42 (i := 0) yd_by_cX12_cellTold_1 rfl rfl
theorem dX12_cellTold_29 : decode cX12_cellTold 29 = .ok (.getfield 246, 3) := yd_op_180 (i := 1) (a := 0) (b := 246) yd_by_cX12_cellTold_1 rfl rfl
theorem dX12_cellTold_32 : decode cX12_cellTold 32 = .ok (.ifCond .ne 12, 3) := yd_op_154 (i := 4) (a := 0) (b := 12) yd_by_cX12_cellTold_1 rfl rfl
theorem dX12_cellTold_35 : decode cX12_cellTold 35 = .ok (.iload_n 1, 1) := yd_op_27 (i := 7) yd_by_cX12_cellTold_1 rfl rfl
theorem dX12_cellTold_36 : decode cX12_cellTold 36 = .ok (.bipush 6, 2) := yd_op_16 (i := 8) (a := 6) yd_by_cX12_cellTold_1 rfl rfl
theorem dX12_cellTold_38 : decode cX12_cellTold 38 = .ok (.iload_n 2, 1) := yd_op_28 (i := 10) yd_by_cX12_cellTold_1 rfl rfl
theorem dX12_cellTold_39 : decode cX12_cellTold 39 = .ok (.imul, 1) := yd_op_104 (i := 11) yd_by_cX12_cellTold_1 rfl rfl
theorem dX12_cellTold_40 : decode cX12_cellTold 40 = .ok (.iadd, 1) := yd_op_96 (i := 12) yd_by_cX12_cellTold_1 rfl rfl
theorem dX12_cellTold_41 : decode cX12_cellTold 41 = .ok (.goto 4, 3) := yd_op_167 (i := 13) (a := 0) (b := 4) yd_by_cX12_cellTold_1 rfl rfl
theorem dX12_cellTold_44 : decode cX12_cellTold 44 = .ok (.iconst 0, 1) := yd_op_3 (i := 16) yd_by_cX12_cellTold_1 rfl rfl
theorem dX12_cellTold_45 : decode cX12_cellTold 45 = .ok (.ireturn, 1) := yd_op_172 (i := 17) yd_by_cX12_cellTold_1 rfl rfl
set_option maxRecDepth 100000 in
theorem yd_by_cX12_heavyTold_0 : ydk cX12_heavyTold 0 [42, 182, 1, 67, 60, 42, 3, 16, 99, 182, 1, 59, 61, 42, 180, 0, 246, 154, 0, 10, 42, 180, 0, 112, 27, 28, 79, 177] = true := by decide +kernel
theorem dX12_heavyTold_0 : decode cX12_heavyTold 0 = .ok (.aload_n 0, 1) := yd_op_42 (i := 0) yd_by_cX12_heavyTold_0 rfl rfl
theorem dX12_heavyTold_1 : decode cX12_heavyTold 1 = .ok (.invokevirtual 323, 3) := yd_op_182 (i := 1) (a := 1) (b := 67) yd_by_cX12_heavyTold_0 rfl rfl
theorem dX12_heavyTold_4 : decode cX12_heavyTold 4 = .ok (.istore_n 1, 1) := yd_op_60 (i := 4) yd_by_cX12_heavyTold_0 rfl rfl
theorem dX12_heavyTold_5 : decode cX12_heavyTold 5 = .ok (.aload_n 0, 1) := yd_op_42 (i := 5) yd_by_cX12_heavyTold_0 rfl rfl
theorem dX12_heavyTold_6 : decode cX12_heavyTold 6 = .ok (.iconst 0, 1) := yd_op_3 (i := 6) yd_by_cX12_heavyTold_0 rfl rfl
theorem dX12_heavyTold_7 : decode cX12_heavyTold 7 = .ok (.bipush 99, 2) := yd_op_16 (i := 7) (a := 99) yd_by_cX12_heavyTold_0 rfl rfl
theorem dX12_heavyTold_9 : decode cX12_heavyTold 9 = .ok (.invokevirtual 315, 3) := yd_op_182 (i := 9) (a := 1) (b := 59) yd_by_cX12_heavyTold_0 rfl rfl
theorem dX12_heavyTold_12 : decode cX12_heavyTold 12 = .ok (.istore_n 2, 1) := yd_op_61 (i := 12) yd_by_cX12_heavyTold_0 rfl rfl
theorem dX12_heavyTold_13 : decode cX12_heavyTold 13 = .ok (.aload_n 0, 1) := yd_op_42 (i := 13) yd_by_cX12_heavyTold_0 rfl rfl
theorem dX12_heavyTold_14 : decode cX12_heavyTold 14 = .ok (.getfield 246, 3) := yd_op_180 (i := 14) (a := 0) (b := 246) yd_by_cX12_heavyTold_0 rfl rfl
theorem dX12_heavyTold_17 : decode cX12_heavyTold 17 = .ok (.ifCond .ne 10, 3) := yd_op_154 (i := 17) (a := 0) (b := 10) yd_by_cX12_heavyTold_0 rfl rfl
theorem dX12_heavyTold_20 : decode cX12_heavyTold 20 = .ok (.aload_n 0, 1) := yd_op_42 (i := 20) yd_by_cX12_heavyTold_0 rfl rfl
theorem dX12_heavyTold_21 : decode cX12_heavyTold 21 = .ok (.getfield 112, 3) := yd_op_180 (i := 21) (a := 0) (b := 112) yd_by_cX12_heavyTold_0 rfl rfl
theorem dX12_heavyTold_24 : decode cX12_heavyTold 24 = .ok (.iload_n 1, 1) := yd_op_27 (i := 24) yd_by_cX12_heavyTold_0 rfl rfl
theorem dX12_heavyTold_25 : decode cX12_heavyTold 25 = .ok (.iload_n 2, 1) := yd_op_28 (i := 25) yd_by_cX12_heavyTold_0 rfl rfl
theorem dX12_heavyTold_26 : decode cX12_heavyTold 26 = .ok (.iastore, 1) := yd_op_79 (i := 26) yd_by_cX12_heavyTold_0 rfl rfl
theorem dX12_heavyTold_27 : decode cX12_heavyTold 27 = .ok (.return_, 1) := yd_op_177 (i := 27) yd_by_cX12_heavyTold_0 rfl rfl
set_option maxRecDepth 100000 in
theorem yd_by_cX12_poleTold_0 : ydk cX12_poleTold 0 [42, 180, 0, 246, 154, 0, 20, 42, 180, 0, 105, 3, 46, 16, 10, 160, 0, 9, 42, 8, 27, 182, 1, 20, 42, 180, 0, 246, 153, 0, 4, 177, 42, 182, 1, 70, 65] = true := by decide +kernel
theorem dX12_poleTold_0 : decode cX12_poleTold 0 = .ok (.aload_n 0, 1) := yd_op_42 (i := 0) yd_by_cX12_poleTold_0 rfl rfl
theorem dX12_poleTold_1 : decode cX12_poleTold 1 = .ok (.getfield 246, 3) := yd_op_180 (i := 1) (a := 0) (b := 246) yd_by_cX12_poleTold_0 rfl rfl
theorem dX12_poleTold_4 : decode cX12_poleTold 4 = .ok (.ifCond .ne 20, 3) := yd_op_154 (i := 4) (a := 0) (b := 20) yd_by_cX12_poleTold_0 rfl rfl
theorem dX12_poleTold_7 : decode cX12_poleTold 7 = .ok (.aload_n 0, 1) := yd_op_42 (i := 7) yd_by_cX12_poleTold_0 rfl rfl
theorem dX12_poleTold_8 : decode cX12_poleTold 8 = .ok (.getfield 105, 3) := yd_op_180 (i := 8) (a := 0) (b := 105) yd_by_cX12_poleTold_0 rfl rfl
theorem dX12_poleTold_11 : decode cX12_poleTold 11 = .ok (.iconst 0, 1) := yd_op_3 (i := 11) yd_by_cX12_poleTold_0 rfl rfl
theorem dX12_poleTold_12 : decode cX12_poleTold 12 = .ok (.iaload, 1) := yd_op_46 (i := 12) yd_by_cX12_poleTold_0 rfl rfl
theorem dX12_poleTold_13 : decode cX12_poleTold 13 = .ok (.bipush 10, 2) := yd_op_16 (i := 13) (a := 10) yd_by_cX12_poleTold_0 rfl rfl
theorem dX12_poleTold_15 : decode cX12_poleTold 15 = .ok (.if_icmp .ne 9, 3) := yd_op_160 (i := 15) (a := 0) (b := 9) yd_by_cX12_poleTold_0 rfl rfl
theorem dX12_poleTold_18 : decode cX12_poleTold 18 = .ok (.aload_n 0, 1) := yd_op_42 (i := 18) yd_by_cX12_poleTold_0 rfl rfl
theorem dX12_poleTold_19 : decode cX12_poleTold 19 = .ok (.iconst 5, 1) := yd_op_8 (i := 19) yd_by_cX12_poleTold_0 rfl rfl
theorem dX12_poleTold_20 : decode cX12_poleTold 20 = .ok (.iload_n 1, 1) := yd_op_27 (i := 20) yd_by_cX12_poleTold_0 rfl rfl
theorem dX12_poleTold_21 : decode cX12_poleTold 21 = .ok (.invokevirtual 276, 3) := yd_op_182 (i := 21) (a := 1) (b := 20) yd_by_cX12_poleTold_0 rfl rfl
theorem dX12_poleTold_24 : decode cX12_poleTold 24 = .ok (.aload_n 0, 1) := yd_op_42 (i := 24) yd_by_cX12_poleTold_0 rfl rfl
theorem dX12_poleTold_25 : decode cX12_poleTold 25 = .ok (.getfield 246, 3) := yd_op_180 (i := 25) (a := 0) (b := 246) yd_by_cX12_poleTold_0 rfl rfl
theorem dX12_poleTold_28 : decode cX12_poleTold 28 = .ok (.ifCond .eq 4, 3) := yd_op_153 (i := 28) (a := 0) (b := 4) yd_by_cX12_poleTold_0 rfl rfl
theorem dX12_poleTold_31 : decode cX12_poleTold 31 = .ok (.return_, 1) := yd_op_177 (i := 31) yd_by_cX12_poleTold_0 rfl rfl
theorem dX12_poleTold_32 : decode cX12_poleTold 32 = .ok (.aload_n 0, 1) := yd_op_42 (i := 32) yd_by_cX12_poleTold_0 rfl rfl
theorem dX12_poleTold_33 : decode cX12_poleTold 33 = .ok (.invokevirtual 326, 3) := yd_op_182 (i := 33) (a := 1) (b := 70) yd_by_cX12_poleTold_0 rfl rfl
theorem dX12_poleTold_36 : decode cX12_poleTold 36 = .ok (.lstore_n 2, 1) := yd_op_65 (i := 36) yd_by_cX12_poleTold_0 rfl rfl
set_option maxRecDepth 100000 in
theorem yd_by_cX12_poleTold_1 : ydk cX12_poleTold 37 [3, 54, 4, 21, 4, 42, 180, 0, 105, 3, 46, 162, 0, 37, 42, 180, 0, 246, 154, 0, 24, 42, 180, 0, 108, 21, 4, 47, 32, 148, 154, 0, 12, 42, 6] = true := by decide +kernel
theorem dX12_poleTold_37 : decode cX12_poleTold 37 = .ok (.iconst 0, 1) := yd_op_3 (i := 0) yd_by_cX12_poleTold_1 rfl rfl
theorem dX12_poleTold_38 : decode cX12_poleTold 38 = .ok (.istore 4, 2) := yd_op_54 (i := 1) (a := 4) yd_by_cX12_poleTold_1 rfl rfl
theorem dX12_poleTold_40 : decode cX12_poleTold 40 = .ok (.iload 4, 2) := yd_op_21 (i := 3) (a := 4) yd_by_cX12_poleTold_1 rfl rfl
theorem dX12_poleTold_42 : decode cX12_poleTold 42 = .ok (.aload_n 0, 1) := yd_op_42 (i := 5) yd_by_cX12_poleTold_1 rfl rfl
theorem dX12_poleTold_43 : decode cX12_poleTold 43 = .ok (.getfield 105, 3) := yd_op_180 (i := 6) (a := 0) (b := 105) yd_by_cX12_poleTold_1 rfl rfl
theorem dX12_poleTold_46 : decode cX12_poleTold 46 = .ok (.iconst 0, 1) := yd_op_3 (i := 9) yd_by_cX12_poleTold_1 rfl rfl
theorem dX12_poleTold_47 : decode cX12_poleTold 47 = .ok (.iaload, 1) := yd_op_46 (i := 10) yd_by_cX12_poleTold_1 rfl rfl
theorem dX12_poleTold_48 : decode cX12_poleTold 48 = .ok (.if_icmp .ge 37, 3) := yd_op_162 (i := 11) (a := 0) (b := 37) yd_by_cX12_poleTold_1 rfl rfl
theorem dX12_poleTold_51 : decode cX12_poleTold 51 = .ok (.aload_n 0, 1) := yd_op_42 (i := 14) yd_by_cX12_poleTold_1 rfl rfl
theorem dX12_poleTold_52 : decode cX12_poleTold 52 = .ok (.getfield 246, 3) := yd_op_180 (i := 15) (a := 0) (b := 246) yd_by_cX12_poleTold_1 rfl rfl
theorem dX12_poleTold_55 : decode cX12_poleTold 55 = .ok (.ifCond .ne 24, 3) := yd_op_154 (i := 18) (a := 0) (b := 24) yd_by_cX12_poleTold_1 rfl rfl
theorem dX12_poleTold_58 : decode cX12_poleTold 58 = .ok (.aload_n 0, 1) := yd_op_42 (i := 21) yd_by_cX12_poleTold_1 rfl rfl
theorem dX12_poleTold_59 : decode cX12_poleTold 59 = .ok (.getfield 108, 3) := yd_op_180 (i := 22) (a := 0) (b := 108) yd_by_cX12_poleTold_1 rfl rfl
theorem dX12_poleTold_62 : decode cX12_poleTold 62 = .ok (.iload 4, 2) := yd_op_21 (i := 25) (a := 4) yd_by_cX12_poleTold_1 rfl rfl
theorem dX12_poleTold_64 : decode cX12_poleTold 64 = .ok (.laload, 1) := yd_op_47 (i := 27) yd_by_cX12_poleTold_1 rfl rfl
theorem dX12_poleTold_65 : decode cX12_poleTold 65 = .ok (.lload_n 2, 1) := yd_op_32 (i := 28) yd_by_cX12_poleTold_1 rfl rfl
theorem dX12_poleTold_66 : decode cX12_poleTold 66 = .ok (.lcmp, 1) := yd_op_148 (i := 29) yd_by_cX12_poleTold_1 rfl rfl
theorem dX12_poleTold_67 : decode cX12_poleTold 67 = .ok (.ifCond .ne 12, 3) := yd_op_154 (i := 30) (a := 0) (b := 12) yd_by_cX12_poleTold_1 rfl rfl
theorem dX12_poleTold_70 : decode cX12_poleTold 70 = .ok (.aload_n 0, 1) := yd_op_42 (i := 33) yd_by_cX12_poleTold_1 rfl rfl
theorem dX12_poleTold_71 : decode cX12_poleTold 71 = .ok (.iconst 3, 1) := yd_op_6 (i := 34) yd_by_cX12_poleTold_1 rfl rfl
set_option maxRecDepth 100000 in
theorem yd_by_cX12_poleTold_2 : ydk cX12_poleTold 72 [42, 180, 1, 41, 182, 1, 20, 132, 4, 1, 167, 255, 214, 42, 42, 180, 0, 36, 182, 1, 55, 42, 182, 1, 67, 54, 4, 3, 54, 5, 21, 5, 42, 180, 0, 105, 3, 46, 162, 0, 39] = true := by decide +kernel
theorem dX12_poleTold_72 : decode cX12_poleTold 72 = .ok (.aload_n 0, 1) := yd_op_42 (i := 0) yd_by_cX12_poleTold_2 rfl rfl
theorem dX12_poleTold_73 : decode cX12_poleTold 73 = .ok (.getfield 297, 3) := yd_op_180 (i := 1) (a := 1) (b := 41) yd_by_cX12_poleTold_2 rfl rfl
theorem dX12_poleTold_76 : decode cX12_poleTold 76 = .ok (.invokevirtual 276, 3) := yd_op_182 (i := 4) (a := 1) (b := 20) yd_by_cX12_poleTold_2 rfl rfl
theorem dX12_poleTold_79 : decode cX12_poleTold 79 = .ok (.iinc 4 1, 3) := yd_op_132 (i := 7) (a := 4) (b := 1) yd_by_cX12_poleTold_2 rfl rfl
theorem dX12_poleTold_82 : decode cX12_poleTold 82 = .ok (.goto (-42), 3) := yd_op_167 (i := 10) (a := 255) (b := 214) yd_by_cX12_poleTold_2 rfl rfl
theorem dX12_poleTold_85 : decode cX12_poleTold 85 = .ok (.aload_n 0, 1) := yd_op_42 (i := 13) yd_by_cX12_poleTold_2 rfl rfl
theorem dX12_poleTold_86 : decode cX12_poleTold 86 = .ok (.aload_n 0, 1) := yd_op_42 (i := 14) yd_by_cX12_poleTold_2 rfl rfl
theorem dX12_poleTold_87 : decode cX12_poleTold 87 = .ok (.getfield 36, 3) := yd_op_180 (i := 15) (a := 0) (b := 36) yd_by_cX12_poleTold_2 rfl rfl
theorem dX12_poleTold_90 : decode cX12_poleTold 90 = .ok (.invokevirtual 311, 3) := yd_op_182 (i := 18) (a := 1) (b := 55) yd_by_cX12_poleTold_2 rfl rfl
theorem dX12_poleTold_93 : decode cX12_poleTold 93 = .ok (.aload_n 0, 1) := yd_op_42 (i := 21) yd_by_cX12_poleTold_2 rfl rfl
theorem dX12_poleTold_94 : decode cX12_poleTold 94 = .ok (.invokevirtual 323, 3) := yd_op_182 (i := 22) (a := 1) (b := 67) yd_by_cX12_poleTold_2 rfl rfl
theorem dX12_poleTold_97 : decode cX12_poleTold 97 = .ok (.istore 4, 2) := yd_op_54 (i := 25) (a := 4) yd_by_cX12_poleTold_2 rfl rfl
theorem dX12_poleTold_99 : decode cX12_poleTold 99 = .ok (.iconst 0, 1) := yd_op_3 (i := 27) yd_by_cX12_poleTold_2 rfl rfl
theorem dX12_poleTold_100 : decode cX12_poleTold 100 = .ok (.istore 5, 2) := yd_op_54 (i := 28) (a := 5) yd_by_cX12_poleTold_2 rfl rfl
theorem dX12_poleTold_102 : decode cX12_poleTold 102 = .ok (.iload 5, 2) := yd_op_21 (i := 30) (a := 5) yd_by_cX12_poleTold_2 rfl rfl
theorem dX12_poleTold_104 : decode cX12_poleTold 104 = .ok (.aload_n 0, 1) := yd_op_42 (i := 32) yd_by_cX12_poleTold_2 rfl rfl
theorem dX12_poleTold_105 : decode cX12_poleTold 105 = .ok (.getfield 105, 3) := yd_op_180 (i := 33) (a := 0) (b := 105) yd_by_cX12_poleTold_2 rfl rfl
theorem dX12_poleTold_108 : decode cX12_poleTold 108 = .ok (.iconst 0, 1) := yd_op_3 (i := 36) yd_by_cX12_poleTold_2 rfl rfl
theorem dX12_poleTold_109 : decode cX12_poleTold 109 = .ok (.iaload, 1) := yd_op_46 (i := 37) yd_by_cX12_poleTold_2 rfl rfl
theorem dX12_poleTold_110 : decode cX12_poleTold 110 = .ok (.if_icmp .ge 39, 3) := yd_op_162 (i := 38) (a := 0) (b := 39) yd_by_cX12_poleTold_2 rfl rfl
set_option maxRecDepth 100000 in
theorem yd_by_cX12_poleTold_3 : ydk cX12_poleTold 113 [42, 180, 0, 246, 154, 0, 26, 42, 180, 0, 115, 5, 21, 5, 104, 46, 21, 4, 160, 0, 12, 42, 5, 42, 180, 1, 30, 182, 1, 20, 132, 5, 1, 167, 255, 212, 42, 42] = true := by decide +kernel
theorem dX12_poleTold_113 : decode cX12_poleTold 113 = .ok (.aload_n 0, 1) := yd_op_42 (i := 0) yd_by_cX12_poleTold_3 rfl rfl
theorem dX12_poleTold_114 : decode cX12_poleTold 114 = .ok (.getfield 246, 3) := yd_op_180 (i := 1) (a := 0) (b := 246) yd_by_cX12_poleTold_3 rfl rfl
theorem dX12_poleTold_117 : decode cX12_poleTold 117 = .ok (.ifCond .ne 26, 3) := yd_op_154 (i := 4) (a := 0) (b := 26) yd_by_cX12_poleTold_3 rfl rfl
theorem dX12_poleTold_120 : decode cX12_poleTold 120 = .ok (.aload_n 0, 1) := yd_op_42 (i := 7) yd_by_cX12_poleTold_3 rfl rfl
theorem dX12_poleTold_121 : decode cX12_poleTold 121 = .ok (.getfield 115, 3) := yd_op_180 (i := 8) (a := 0) (b := 115) yd_by_cX12_poleTold_3 rfl rfl
theorem dX12_poleTold_124 : decode cX12_poleTold 124 = .ok (.iconst 2, 1) := yd_op_5 (i := 11) yd_by_cX12_poleTold_3 rfl rfl
theorem dX12_poleTold_125 : decode cX12_poleTold 125 = .ok (.iload 5, 2) := yd_op_21 (i := 12) (a := 5) yd_by_cX12_poleTold_3 rfl rfl
theorem dX12_poleTold_127 : decode cX12_poleTold 127 = .ok (.imul, 1) := yd_op_104 (i := 14) yd_by_cX12_poleTold_3 rfl rfl
theorem dX12_poleTold_128 : decode cX12_poleTold 128 = .ok (.iaload, 1) := yd_op_46 (i := 15) yd_by_cX12_poleTold_3 rfl rfl
theorem dX12_poleTold_129 : decode cX12_poleTold 129 = .ok (.iload 4, 2) := yd_op_21 (i := 16) (a := 4) yd_by_cX12_poleTold_3 rfl rfl
theorem dX12_poleTold_131 : decode cX12_poleTold 131 = .ok (.if_icmp .ne 12, 3) := yd_op_160 (i := 18) (a := 0) (b := 12) yd_by_cX12_poleTold_3 rfl rfl
theorem dX12_poleTold_134 : decode cX12_poleTold 134 = .ok (.aload_n 0, 1) := yd_op_42 (i := 21) yd_by_cX12_poleTold_3 rfl rfl
theorem dX12_poleTold_135 : decode cX12_poleTold 135 = .ok (.iconst 2, 1) := yd_op_5 (i := 22) yd_by_cX12_poleTold_3 rfl rfl
theorem dX12_poleTold_136 : decode cX12_poleTold 136 = .ok (.aload_n 0, 1) := yd_op_42 (i := 23) yd_by_cX12_poleTold_3 rfl rfl
theorem dX12_poleTold_137 : decode cX12_poleTold 137 = .ok (.getfield 286, 3) := yd_op_180 (i := 24) (a := 1) (b := 30) yd_by_cX12_poleTold_3 rfl rfl
theorem dX12_poleTold_140 : decode cX12_poleTold 140 = .ok (.invokevirtual 276, 3) := yd_op_182 (i := 27) (a := 1) (b := 20) yd_by_cX12_poleTold_3 rfl rfl
theorem dX12_poleTold_143 : decode cX12_poleTold 143 = .ok (.iinc 5 1, 3) := yd_op_132 (i := 30) (a := 5) (b := 1) yd_by_cX12_poleTold_3 rfl rfl
theorem dX12_poleTold_146 : decode cX12_poleTold 146 = .ok (.goto (-44), 3) := yd_op_167 (i := 33) (a := 255) (b := 212) yd_by_cX12_poleTold_3 rfl rfl
theorem dX12_poleTold_149 : decode cX12_poleTold 149 = .ok (.aload_n 0, 1) := yd_op_42 (i := 36) yd_by_cX12_poleTold_3 rfl rfl
theorem dX12_poleTold_150 : decode cX12_poleTold 150 = .ok (.aload_n 0, 1) := yd_op_42 (i := 37) yd_by_cX12_poleTold_3 rfl rfl
set_option maxRecDepth 100000 in
theorem yd_by_cX12_poleTold_4 : ydk cX12_poleTold 151 [180, 0, 39, 182, 1, 55, 42, 3, 16, 99, 182, 1, 59, 54, 5, 42, 180, 0, 246, 153, 0, 4, 177, 42, 180, 0, 108, 42, 180, 0, 105, 3, 46, 32, 80, 42] = true := by decide +kernel
theorem dX12_poleTold_151 : decode cX12_poleTold 151 = .ok (.getfield 39, 3) := yd_op_180 (i := 0) (a := 0) (b := 39) yd_by_cX12_poleTold_4 rfl rfl
theorem dX12_poleTold_154 : decode cX12_poleTold 154 = .ok (.invokevirtual 311, 3) := yd_op_182 (i := 3) (a := 1) (b := 55) yd_by_cX12_poleTold_4 rfl rfl
theorem dX12_poleTold_157 : decode cX12_poleTold 157 = .ok (.aload_n 0, 1) := yd_op_42 (i := 6) yd_by_cX12_poleTold_4 rfl rfl
theorem dX12_poleTold_158 : decode cX12_poleTold 158 = .ok (.iconst 0, 1) := yd_op_3 (i := 7) yd_by_cX12_poleTold_4 rfl rfl
theorem dX12_poleTold_159 : decode cX12_poleTold 159 = .ok (.bipush 99, 2) := yd_op_16 (i := 8) (a := 99) yd_by_cX12_poleTold_4 rfl rfl
theorem dX12_poleTold_161 : decode cX12_poleTold 161 = .ok (.invokevirtual 315, 3) := yd_op_182 (i := 10) (a := 1) (b := 59) yd_by_cX12_poleTold_4 rfl rfl
theorem dX12_poleTold_164 : decode cX12_poleTold 164 = .ok (.istore 5, 2) := yd_op_54 (i := 13) (a := 5) yd_by_cX12_poleTold_4 rfl rfl
theorem dX12_poleTold_166 : decode cX12_poleTold 166 = .ok (.aload_n 0, 1) := yd_op_42 (i := 15) yd_by_cX12_poleTold_4 rfl rfl
theorem dX12_poleTold_167 : decode cX12_poleTold 167 = .ok (.getfield 246, 3) := yd_op_180 (i := 16) (a := 0) (b := 246) yd_by_cX12_poleTold_4 rfl rfl
theorem dX12_poleTold_170 : decode cX12_poleTold 170 = .ok (.ifCond .eq 4, 3) := yd_op_153 (i := 19) (a := 0) (b := 4) yd_by_cX12_poleTold_4 rfl rfl
theorem dX12_poleTold_173 : decode cX12_poleTold 173 = .ok (.return_, 1) := yd_op_177 (i := 22) yd_by_cX12_poleTold_4 rfl rfl
theorem dX12_poleTold_174 : decode cX12_poleTold 174 = .ok (.aload_n 0, 1) := yd_op_42 (i := 23) yd_by_cX12_poleTold_4 rfl rfl
theorem dX12_poleTold_175 : decode cX12_poleTold 175 = .ok (.getfield 108, 3) := yd_op_180 (i := 24) (a := 0) (b := 108) yd_by_cX12_poleTold_4 rfl rfl
theorem dX12_poleTold_178 : decode cX12_poleTold 178 = .ok (.aload_n 0, 1) := yd_op_42 (i := 27) yd_by_cX12_poleTold_4 rfl rfl
theorem dX12_poleTold_179 : decode cX12_poleTold 179 = .ok (.getfield 105, 3) := yd_op_180 (i := 28) (a := 0) (b := 105) yd_by_cX12_poleTold_4 rfl rfl
theorem dX12_poleTold_182 : decode cX12_poleTold 182 = .ok (.iconst 0, 1) := yd_op_3 (i := 31) yd_by_cX12_poleTold_4 rfl rfl
theorem dX12_poleTold_183 : decode cX12_poleTold 183 = .ok (.iaload, 1) := yd_op_46 (i := 32) yd_by_cX12_poleTold_4 rfl rfl
theorem dX12_poleTold_184 : decode cX12_poleTold 184 = .ok (.lload_n 2, 1) := yd_op_32 (i := 33) yd_by_cX12_poleTold_4 rfl rfl
theorem dX12_poleTold_185 : decode cX12_poleTold 185 = .ok (.lastore, 1) := yd_op_80 (i := 34) yd_by_cX12_poleTold_4 rfl rfl
theorem dX12_poleTold_186 : decode cX12_poleTold 186 = .ok (.aload_n 0, 1) := yd_op_42 (i := 35) yd_by_cX12_poleTold_4 rfl rfl
set_option maxRecDepth 100000 in
theorem yd_by_cX12_poleTold_5 : ydk cX12_poleTold 187 [180, 0, 115, 5, 42, 180, 0, 105, 3, 46, 104, 21, 4, 79, 42, 180, 0, 115, 5, 42, 180, 0, 105, 3, 46, 104, 4, 96, 21, 5] = true := by decide +kernel
theorem dX12_poleTold_187 : decode cX12_poleTold 187 = .ok (.getfield 115, 3) := yd_op_180 (i := 0) (a := 0) (b := 115) yd_by_cX12_poleTold_5 rfl rfl
theorem dX12_poleTold_190 : decode cX12_poleTold 190 = .ok (.iconst 2, 1) := yd_op_5 (i := 3) yd_by_cX12_poleTold_5 rfl rfl
theorem dX12_poleTold_191 : decode cX12_poleTold 191 = .ok (.aload_n 0, 1) := yd_op_42 (i := 4) yd_by_cX12_poleTold_5 rfl rfl
theorem dX12_poleTold_192 : decode cX12_poleTold 192 = .ok (.getfield 105, 3) := yd_op_180 (i := 5) (a := 0) (b := 105) yd_by_cX12_poleTold_5 rfl rfl
theorem dX12_poleTold_195 : decode cX12_poleTold 195 = .ok (.iconst 0, 1) := yd_op_3 (i := 8) yd_by_cX12_poleTold_5 rfl rfl
theorem dX12_poleTold_196 : decode cX12_poleTold 196 = .ok (.iaload, 1) := yd_op_46 (i := 9) yd_by_cX12_poleTold_5 rfl rfl
theorem dX12_poleTold_197 : decode cX12_poleTold 197 = .ok (.imul, 1) := yd_op_104 (i := 10) yd_by_cX12_poleTold_5 rfl rfl
theorem dX12_poleTold_198 : decode cX12_poleTold 198 = .ok (.iload 4, 2) := yd_op_21 (i := 11) (a := 4) yd_by_cX12_poleTold_5 rfl rfl
theorem dX12_poleTold_200 : decode cX12_poleTold 200 = .ok (.iastore, 1) := yd_op_79 (i := 13) yd_by_cX12_poleTold_5 rfl rfl
theorem dX12_poleTold_201 : decode cX12_poleTold 201 = .ok (.aload_n 0, 1) := yd_op_42 (i := 14) yd_by_cX12_poleTold_5 rfl rfl
theorem dX12_poleTold_202 : decode cX12_poleTold 202 = .ok (.getfield 115, 3) := yd_op_180 (i := 15) (a := 0) (b := 115) yd_by_cX12_poleTold_5 rfl rfl
theorem dX12_poleTold_205 : decode cX12_poleTold 205 = .ok (.iconst 2, 1) := yd_op_5 (i := 18) yd_by_cX12_poleTold_5 rfl rfl
theorem dX12_poleTold_206 : decode cX12_poleTold 206 = .ok (.aload_n 0, 1) := yd_op_42 (i := 19) yd_by_cX12_poleTold_5 rfl rfl
theorem dX12_poleTold_207 : decode cX12_poleTold 207 = .ok (.getfield 105, 3) := yd_op_180 (i := 20) (a := 0) (b := 105) yd_by_cX12_poleTold_5 rfl rfl
theorem dX12_poleTold_210 : decode cX12_poleTold 210 = .ok (.iconst 0, 1) := yd_op_3 (i := 23) yd_by_cX12_poleTold_5 rfl rfl
theorem dX12_poleTold_211 : decode cX12_poleTold 211 = .ok (.iaload, 1) := yd_op_46 (i := 24) yd_by_cX12_poleTold_5 rfl rfl
theorem dX12_poleTold_212 : decode cX12_poleTold 212 = .ok (.imul, 1) := yd_op_104 (i := 25) yd_by_cX12_poleTold_5 rfl rfl
theorem dX12_poleTold_213 : decode cX12_poleTold 213 = .ok (.iconst 1, 1) := yd_op_4 (i := 26) yd_by_cX12_poleTold_5 rfl rfl
theorem dX12_poleTold_214 : decode cX12_poleTold 214 = .ok (.iadd, 1) := yd_op_96 (i := 27) yd_by_cX12_poleTold_5 rfl rfl
theorem dX12_poleTold_215 : decode cX12_poleTold 215 = .ok (.iload 5, 2) := yd_op_21 (i := 28) (a := 5) yd_by_cX12_poleTold_5 rfl rfl
set_option maxRecDepth 100000 in
theorem yd_by_cX12_poleTold_6 : ydk cX12_poleTold 217 [79, 42, 180, 0, 105, 3, 92, 46, 4, 96, 79, 177] = true := by decide +kernel
theorem dX12_poleTold_217 : decode cX12_poleTold 217 = .ok (.iastore, 1) := yd_op_79 (i := 0) yd_by_cX12_poleTold_6 rfl rfl
theorem dX12_poleTold_218 : decode cX12_poleTold 218 = .ok (.aload_n 0, 1) := yd_op_42 (i := 1) yd_by_cX12_poleTold_6 rfl rfl
theorem dX12_poleTold_219 : decode cX12_poleTold 219 = .ok (.getfield 105, 3) := yd_op_180 (i := 2) (a := 0) (b := 105) yd_by_cX12_poleTold_6 rfl rfl
theorem dX12_poleTold_222 : decode cX12_poleTold 222 = .ok (.iconst 0, 1) := yd_op_3 (i := 5) yd_by_cX12_poleTold_6 rfl rfl
theorem dX12_poleTold_223 : decode cX12_poleTold 223 = .ok (.dup2, 1) := yd_op_92 (i := 6) yd_by_cX12_poleTold_6 rfl rfl
theorem dX12_poleTold_224 : decode cX12_poleTold 224 = .ok (.iaload, 1) := yd_op_46 (i := 7) yd_by_cX12_poleTold_6 rfl rfl
theorem dX12_poleTold_225 : decode cX12_poleTold 225 = .ok (.iconst 1, 1) := yd_op_4 (i := 8) yd_by_cX12_poleTold_6 rfl rfl
theorem dX12_poleTold_226 : decode cX12_poleTold 226 = .ok (.iadd, 1) := yd_op_96 (i := 9) yd_by_cX12_poleTold_6 rfl rfl
theorem dX12_poleTold_227 : decode cX12_poleTold 227 = .ok (.iastore, 1) := yd_op_79 (i := 10) yd_by_cX12_poleTold_6 rfl rfl
theorem dX12_poleTold_228 : decode cX12_poleTold 228 = .ok (.return_, 1) := yd_op_177 (i := 11) yd_by_cX12_poleTold_6 rfl rfl
set_option maxRecDepth 100000 in
theorem yd_by_cX12_codesTold_0 : ydk cX12_codesTold 0 [42, 180, 0, 246, 154, 0, 19, 42, 180, 0, 121, 27, 46, 2, 159, 0, 9, 42, 8, 28, 182, 1, 20, 42, 180, 0, 246, 153, 0, 4, 177, 42, 27, 181, 1, 48] = true := by decide +kernel
theorem dX12_codesTold_0 : decode cX12_codesTold 0 = .ok (.aload_n 0, 1) := yd_op_42 (i := 0) yd_by_cX12_codesTold_0 rfl rfl
theorem dX12_codesTold_1 : decode cX12_codesTold 1 = .ok (.getfield 246, 3) := yd_op_180 (i := 1) (a := 0) (b := 246) yd_by_cX12_codesTold_0 rfl rfl
theorem dX12_codesTold_4 : decode cX12_codesTold 4 = .ok (.ifCond .ne 19, 3) := yd_op_154 (i := 4) (a := 0) (b := 19) yd_by_cX12_codesTold_0 rfl rfl
theorem dX12_codesTold_7 : decode cX12_codesTold 7 = .ok (.aload_n 0, 1) := yd_op_42 (i := 7) yd_by_cX12_codesTold_0 rfl rfl
theorem dX12_codesTold_8 : decode cX12_codesTold 8 = .ok (.getfield 121, 3) := yd_op_180 (i := 8) (a := 0) (b := 121) yd_by_cX12_codesTold_0 rfl rfl
theorem dX12_codesTold_11 : decode cX12_codesTold 11 = .ok (.iload_n 1, 1) := yd_op_27 (i := 11) yd_by_cX12_codesTold_0 rfl rfl
theorem dX12_codesTold_12 : decode cX12_codesTold 12 = .ok (.iaload, 1) := yd_op_46 (i := 12) yd_by_cX12_codesTold_0 rfl rfl
theorem dX12_codesTold_13 : decode cX12_codesTold 13 = .ok (.iconst (-1), 1) := yd_op_2 (i := 13) yd_by_cX12_codesTold_0 rfl rfl
theorem dX12_codesTold_14 : decode cX12_codesTold 14 = .ok (.if_icmp .eq 9, 3) := yd_op_159 (i := 14) (a := 0) (b := 9) yd_by_cX12_codesTold_0 rfl rfl
theorem dX12_codesTold_17 : decode cX12_codesTold 17 = .ok (.aload_n 0, 1) := yd_op_42 (i := 17) yd_by_cX12_codesTold_0 rfl rfl
theorem dX12_codesTold_18 : decode cX12_codesTold 18 = .ok (.iconst 5, 1) := yd_op_8 (i := 18) yd_by_cX12_codesTold_0 rfl rfl
theorem dX12_codesTold_19 : decode cX12_codesTold 19 = .ok (.iload_n 2, 1) := yd_op_28 (i := 19) yd_by_cX12_codesTold_0 rfl rfl
theorem dX12_codesTold_20 : decode cX12_codesTold 20 = .ok (.invokevirtual 276, 3) := yd_op_182 (i := 20) (a := 1) (b := 20) yd_by_cX12_codesTold_0 rfl rfl
theorem dX12_codesTold_23 : decode cX12_codesTold 23 = .ok (.aload_n 0, 1) := yd_op_42 (i := 23) yd_by_cX12_codesTold_0 rfl rfl
theorem dX12_codesTold_24 : decode cX12_codesTold 24 = .ok (.getfield 246, 3) := yd_op_180 (i := 24) (a := 0) (b := 246) yd_by_cX12_codesTold_0 rfl rfl
theorem dX12_codesTold_27 : decode cX12_codesTold 27 = .ok (.ifCond .eq 4, 3) := yd_op_153 (i := 27) (a := 0) (b := 4) yd_by_cX12_codesTold_0 rfl rfl
theorem dX12_codesTold_30 : decode cX12_codesTold 30 = .ok (.return_, 1) := yd_op_177 (i := 30) yd_by_cX12_codesTold_0 rfl rfl
theorem dX12_codesTold_31 : decode cX12_codesTold 31 = .ok (.aload_n 0, 1) := yd_op_42 (i := 31) yd_by_cX12_codesTold_0 rfl rfl
theorem dX12_codesTold_32 : decode cX12_codesTold 32 = .ok (.iload_n 1, 1) := yd_op_27 (i := 32) yd_by_cX12_codesTold_0 rfl rfl
theorem dX12_codesTold_33 : decode cX12_codesTold 33 = .ok (.putfield 304, 3) := yd_op_181 (i := 33) (a := 1) (b := 48) yd_by_cX12_codesTold_0 rfl rfl
set_option maxRecDepth 100000 in
theorem yd_by_cX12_codesTold_1 : ydk cX12_codesTold 36 [42, 3, 181, 1, 74, 42, 3, 181, 1, 77, 42, 3, 181, 1, 80, 42, 3, 181, 1, 83, 27, 4, 160, 0, 10, 42, 182, 1, 86, 167, 0, 7, 42, 182, 1, 89] = true := by decide +kernel
theorem dX12_codesTold_36 : decode cX12_codesTold 36 = .ok (.aload_n 0, 1) := yd_op_42 (i := 0) yd_by_cX12_codesTold_1 rfl rfl
theorem dX12_codesTold_37 : decode cX12_codesTold 37 = .ok (.iconst 0, 1) := yd_op_3 (i := 1) yd_by_cX12_codesTold_1 rfl rfl
theorem dX12_codesTold_38 : decode cX12_codesTold 38 = .ok (.putfield 330, 3) := yd_op_181 (i := 2) (a := 1) (b := 74) yd_by_cX12_codesTold_1 rfl rfl
theorem dX12_codesTold_41 : decode cX12_codesTold 41 = .ok (.aload_n 0, 1) := yd_op_42 (i := 5) yd_by_cX12_codesTold_1 rfl rfl
theorem dX12_codesTold_42 : decode cX12_codesTold 42 = .ok (.iconst 0, 1) := yd_op_3 (i := 6) yd_by_cX12_codesTold_1 rfl rfl
theorem dX12_codesTold_43 : decode cX12_codesTold 43 = .ok (.putfield 333, 3) := yd_op_181 (i := 7) (a := 1) (b := 77) yd_by_cX12_codesTold_1 rfl rfl
theorem dX12_codesTold_46 : decode cX12_codesTold 46 = .ok (.aload_n 0, 1) := yd_op_42 (i := 10) yd_by_cX12_codesTold_1 rfl rfl
theorem dX12_codesTold_47 : decode cX12_codesTold 47 = .ok (.iconst 0, 1) := yd_op_3 (i := 11) yd_by_cX12_codesTold_1 rfl rfl
theorem dX12_codesTold_48 : decode cX12_codesTold 48 = .ok (.putfield 336, 3) := yd_op_181 (i := 12) (a := 1) (b := 80) yd_by_cX12_codesTold_1 rfl rfl
theorem dX12_codesTold_51 : decode cX12_codesTold 51 = .ok (.aload_n 0, 1) := yd_op_42 (i := 15) yd_by_cX12_codesTold_1 rfl rfl
theorem dX12_codesTold_52 : decode cX12_codesTold 52 = .ok (.iconst 0, 1) := yd_op_3 (i := 16) yd_by_cX12_codesTold_1 rfl rfl
theorem dX12_codesTold_53 : decode cX12_codesTold 53 = .ok (.putfield 339, 3) := yd_op_181 (i := 17) (a := 1) (b := 83) yd_by_cX12_codesTold_1 rfl rfl
theorem dX12_codesTold_56 : decode cX12_codesTold 56 = .ok (.iload_n 1, 1) := yd_op_27 (i := 20) yd_by_cX12_codesTold_1 rfl rfl
theorem dX12_codesTold_57 : decode cX12_codesTold 57 = .ok (.iconst 1, 1) := yd_op_4 (i := 21) yd_by_cX12_codesTold_1 rfl rfl
theorem dX12_codesTold_58 : decode cX12_codesTold 58 = .ok (.if_icmp .ne 10, 3) := yd_op_160 (i := 22) (a := 0) (b := 10) yd_by_cX12_codesTold_1 rfl rfl
theorem dX12_codesTold_61 : decode cX12_codesTold 61 = .ok (.aload_n 0, 1) := yd_op_42 (i := 25) yd_by_cX12_codesTold_1 rfl rfl
theorem dX12_codesTold_62 : decode cX12_codesTold 62 = .ok (.invokevirtual 342, 3) := yd_op_182 (i := 26) (a := 1) (b := 86) yd_by_cX12_codesTold_1 rfl rfl
theorem dX12_codesTold_65 : decode cX12_codesTold 65 = .ok (.goto 7, 3) := yd_op_167 (i := 29) (a := 0) (b := 7) yd_by_cX12_codesTold_1 rfl rfl
theorem dX12_codesTold_68 : decode cX12_codesTold 68 = .ok (.aload_n 0, 1) := yd_op_42 (i := 32) yd_by_cX12_codesTold_1 rfl rfl
theorem dX12_codesTold_69 : decode cX12_codesTold 69 = .ok (.invokevirtual 345, 3) := yd_op_182 (i := 33) (a := 1) (b := 89) yd_by_cX12_codesTold_1 rfl rfl
set_option maxRecDepth 100000 in
theorem yd_by_cX12_codesTold_2 : ydk cX12_codesTold 72 [42, 180, 0, 246, 153, 0, 4, 177, 42, 180, 0, 121, 27, 42, 180, 1, 92, 79, 3, 62, 29, 42, 180, 1, 74, 162, 0, 34, 42, 180, 0, 127, 42, 180, 1, 92] = true := by decide +kernel
theorem dX12_codesTold_72 : decode cX12_codesTold 72 = .ok (.aload_n 0, 1) := yd_op_42 (i := 0) yd_by_cX12_codesTold_2 rfl rfl
theorem dX12_codesTold_73 : decode cX12_codesTold 73 = .ok (.getfield 246, 3) := yd_op_180 (i := 1) (a := 0) (b := 246) yd_by_cX12_codesTold_2 rfl rfl
theorem dX12_codesTold_76 : decode cX12_codesTold 76 = .ok (.ifCond .eq 4, 3) := yd_op_153 (i := 4) (a := 0) (b := 4) yd_by_cX12_codesTold_2 rfl rfl
theorem dX12_codesTold_79 : decode cX12_codesTold 79 = .ok (.return_, 1) := yd_op_177 (i := 7) yd_by_cX12_codesTold_2 rfl rfl
theorem dX12_codesTold_80 : decode cX12_codesTold 80 = .ok (.aload_n 0, 1) := yd_op_42 (i := 8) yd_by_cX12_codesTold_2 rfl rfl
theorem dX12_codesTold_81 : decode cX12_codesTold 81 = .ok (.getfield 121, 3) := yd_op_180 (i := 9) (a := 0) (b := 121) yd_by_cX12_codesTold_2 rfl rfl
theorem dX12_codesTold_84 : decode cX12_codesTold 84 = .ok (.iload_n 1, 1) := yd_op_27 (i := 12) yd_by_cX12_codesTold_2 rfl rfl
theorem dX12_codesTold_85 : decode cX12_codesTold 85 = .ok (.aload_n 0, 1) := yd_op_42 (i := 13) yd_by_cX12_codesTold_2 rfl rfl
theorem dX12_codesTold_86 : decode cX12_codesTold 86 = .ok (.getfield 348, 3) := yd_op_180 (i := 14) (a := 1) (b := 92) yd_by_cX12_codesTold_2 rfl rfl
theorem dX12_codesTold_89 : decode cX12_codesTold 89 = .ok (.iastore, 1) := yd_op_79 (i := 17) yd_by_cX12_codesTold_2 rfl rfl
theorem dX12_codesTold_90 : decode cX12_codesTold 90 = .ok (.iconst 0, 1) := yd_op_3 (i := 18) yd_by_cX12_codesTold_2 rfl rfl
theorem dX12_codesTold_91 : decode cX12_codesTold 91 = .ok (.istore_n 3, 1) := yd_op_62 (i := 19) yd_by_cX12_codesTold_2 rfl rfl
theorem dX12_codesTold_92 : decode cX12_codesTold 92 = .ok (.iload_n 3, 1) := yd_op_29 (i := 20) yd_by_cX12_codesTold_2 rfl rfl
theorem dX12_codesTold_93 : decode cX12_codesTold 93 = .ok (.aload_n 0, 1) := yd_op_42 (i := 21) yd_by_cX12_codesTold_2 rfl rfl
theorem dX12_codesTold_94 : decode cX12_codesTold 94 = .ok (.getfield 330, 3) := yd_op_180 (i := 22) (a := 1) (b := 74) yd_by_cX12_codesTold_2 rfl rfl
theorem dX12_codesTold_97 : decode cX12_codesTold 97 = .ok (.if_icmp .ge 34, 3) := yd_op_162 (i := 25) (a := 0) (b := 34) yd_by_cX12_codesTold_2 rfl rfl
theorem dX12_codesTold_100 : decode cX12_codesTold 100 = .ok (.aload_n 0, 1) := yd_op_42 (i := 28) yd_by_cX12_codesTold_2 rfl rfl
theorem dX12_codesTold_101 : decode cX12_codesTold 101 = .ok (.getfield 127, 3) := yd_op_180 (i := 29) (a := 0) (b := 127) yd_by_cX12_codesTold_2 rfl rfl
theorem dX12_codesTold_104 : decode cX12_codesTold 104 = .ok (.aload_n 0, 1) := yd_op_42 (i := 32) yd_by_cX12_codesTold_2 rfl rfl
theorem dX12_codesTold_105 : decode cX12_codesTold 105 = .ok (.getfield 348, 3) := yd_op_180 (i := 33) (a := 1) (b := 92) yd_by_cX12_codesTold_2 rfl rfl
set_option maxRecDepth 100000 in
theorem yd_by_cX12_codesTold_3 : ydk cX12_codesTold 108 [42, 180, 0, 231, 29, 46, 79, 42, 89, 180, 1, 92, 4, 96, 181, 1, 92, 132, 3, 1, 167, 255, 220, 42, 180, 0, 124, 27, 42, 180, 1, 92, 79, 177] = true := by decide +kernel
theorem dX12_codesTold_108 : decode cX12_codesTold 108 = .ok (.aload_n 0, 1) := yd_op_42 (i := 0) yd_by_cX12_codesTold_3 rfl rfl
theorem dX12_codesTold_109 : decode cX12_codesTold 109 = .ok (.getfield 231, 3) := yd_op_180 (i := 1) (a := 0) (b := 231) yd_by_cX12_codesTold_3 rfl rfl
theorem dX12_codesTold_112 : decode cX12_codesTold 112 = .ok (.iload_n 3, 1) := yd_op_29 (i := 4) yd_by_cX12_codesTold_3 rfl rfl
theorem dX12_codesTold_113 : decode cX12_codesTold 113 = .ok (.iaload, 1) := yd_op_46 (i := 5) yd_by_cX12_codesTold_3 rfl rfl
theorem dX12_codesTold_114 : decode cX12_codesTold 114 = .ok (.iastore, 1) := yd_op_79 (i := 6) yd_by_cX12_codesTold_3 rfl rfl
theorem dX12_codesTold_115 : decode cX12_codesTold 115 = .ok (.aload_n 0, 1) := yd_op_42 (i := 7) yd_by_cX12_codesTold_3 rfl rfl
theorem dX12_codesTold_116 : decode cX12_codesTold 116 = .ok (.dup, 1) := yd_op_89 (i := 8) yd_by_cX12_codesTold_3 rfl rfl
theorem dX12_codesTold_117 : decode cX12_codesTold 117 = .ok (.getfield 348, 3) := yd_op_180 (i := 9) (a := 1) (b := 92) yd_by_cX12_codesTold_3 rfl rfl
theorem dX12_codesTold_120 : decode cX12_codesTold 120 = .ok (.iconst 1, 1) := yd_op_4 (i := 12) yd_by_cX12_codesTold_3 rfl rfl
theorem dX12_codesTold_121 : decode cX12_codesTold 121 = .ok (.iadd, 1) := yd_op_96 (i := 13) yd_by_cX12_codesTold_3 rfl rfl
theorem dX12_codesTold_122 : decode cX12_codesTold 122 = .ok (.putfield 348, 3) := yd_op_181 (i := 14) (a := 1) (b := 92) yd_by_cX12_codesTold_3 rfl rfl
theorem dX12_codesTold_125 : decode cX12_codesTold 125 = .ok (.iinc 3 1, 3) := yd_op_132 (i := 17) (a := 3) (b := 1) yd_by_cX12_codesTold_3 rfl rfl
theorem dX12_codesTold_128 : decode cX12_codesTold 128 = .ok (.goto (-36), 3) := yd_op_167 (i := 20) (a := 255) (b := 220) yd_by_cX12_codesTold_3 rfl rfl
theorem dX12_codesTold_131 : decode cX12_codesTold 131 = .ok (.aload_n 0, 1) := yd_op_42 (i := 23) yd_by_cX12_codesTold_3 rfl rfl
theorem dX12_codesTold_132 : decode cX12_codesTold 132 = .ok (.getfield 124, 3) := yd_op_180 (i := 24) (a := 0) (b := 124) yd_by_cX12_codesTold_3 rfl rfl
theorem dX12_codesTold_135 : decode cX12_codesTold 135 = .ok (.iload_n 1, 1) := yd_op_27 (i := 27) yd_by_cX12_codesTold_3 rfl rfl
theorem dX12_codesTold_136 : decode cX12_codesTold 136 = .ok (.aload_n 0, 1) := yd_op_42 (i := 28) yd_by_cX12_codesTold_3 rfl rfl
theorem dX12_codesTold_137 : decode cX12_codesTold 137 = .ok (.getfield 348, 3) := yd_op_180 (i := 29) (a := 1) (b := 92) yd_by_cX12_codesTold_3 rfl rfl
theorem dX12_codesTold_140 : decode cX12_codesTold 140 = .ok (.iastore, 1) := yd_op_79 (i := 32) yd_by_cX12_codesTold_3 rfl rfl
theorem dX12_codesTold_141 : decode cX12_codesTold 141 = .ok (.return_, 1) := yd_op_177 (i := 33) yd_by_cX12_codesTold_3 rfl rfl
set_option maxRecDepth 100000 in
theorem yd_by_cX12_statementTold_0 : ydk cX12_statementTold 0 [42, 180, 0, 252, 60, 42, 180, 1, 95, 16, 80, 160, 0, 10, 42, 8, 27, 182, 1, 20, 177, 42, 42, 180, 0, 30, 182, 1, 17, 153, 0, 10, 42, 182, 1, 98, 167, 0, 137] = true := by decide +kernel
theorem dX12_statementTold_0 : decode cX12_statementTold 0 = .ok (.aload_n 0, 1) := yd_op_42 (i := 0) yd_by_cX12_statementTold_0 rfl rfl
theorem dX12_statementTold_1 : decode cX12_statementTold 1 = .ok (.getfield 252, 3) := yd_op_180 (i := 1) (a := 0) (b := 252) yd_by_cX12_statementTold_0 rfl rfl
theorem dX12_statementTold_4 : decode cX12_statementTold 4 = .ok (.istore_n 1, 1) := yd_op_60 (i := 4) yd_by_cX12_statementTold_0 rfl rfl
theorem dX12_statementTold_5 : decode cX12_statementTold 5 = .ok (.aload_n 0, 1) := yd_op_42 (i := 5) yd_by_cX12_statementTold_0 rfl rfl
theorem dX12_statementTold_6 : decode cX12_statementTold 6 = .ok (.getfield 351, 3) := yd_op_180 (i := 6) (a := 1) (b := 95) yd_by_cX12_statementTold_0 rfl rfl
theorem dX12_statementTold_9 : decode cX12_statementTold 9 = .ok (.bipush 80, 2) := yd_op_16 (i := 9) (a := 80) yd_by_cX12_statementTold_0 rfl rfl
theorem dX12_statementTold_11 : decode cX12_statementTold 11 = .ok (.if_icmp .ne 10, 3) := yd_op_160 (i := 11) (a := 0) (b := 10) yd_by_cX12_statementTold_0 rfl rfl
theorem dX12_statementTold_14 : decode cX12_statementTold 14 = .ok (.aload_n 0, 1) := yd_op_42 (i := 14) yd_by_cX12_statementTold_0 rfl rfl
theorem dX12_statementTold_15 : decode cX12_statementTold 15 = .ok (.iconst 5, 1) := yd_op_8 (i := 15) yd_by_cX12_statementTold_0 rfl rfl
theorem dX12_statementTold_16 : decode cX12_statementTold 16 = .ok (.iload_n 1, 1) := yd_op_27 (i := 16) yd_by_cX12_statementTold_0 rfl rfl
theorem dX12_statementTold_17 : decode cX12_statementTold 17 = .ok (.invokevirtual 276, 3) := yd_op_182 (i := 17) (a := 1) (b := 20) yd_by_cX12_statementTold_0 rfl rfl
theorem dX12_statementTold_20 : decode cX12_statementTold 20 = .ok (.return_, 1) := yd_op_177 (i := 20) yd_by_cX12_statementTold_0 rfl rfl
theorem dX12_statementTold_21 : decode cX12_statementTold 21 = .ok (.aload_n 0, 1) := yd_op_42 (i := 21) yd_by_cX12_statementTold_0 rfl rfl
theorem dX12_statementTold_22 : decode cX12_statementTold 22 = .ok (.aload_n 0, 1) := yd_op_42 (i := 22) yd_by_cX12_statementTold_0 rfl rfl
theorem dX12_statementTold_23 : decode cX12_statementTold 23 = .ok (.getfield 30, 3) := yd_op_180 (i := 23) (a := 0) (b := 30) yd_by_cX12_statementTold_0 rfl rfl
theorem dX12_statementTold_26 : decode cX12_statementTold 26 = .ok (.invokevirtual 273, 3) := yd_op_182 (i := 26) (a := 1) (b := 17) yd_by_cX12_statementTold_0 rfl rfl
theorem dX12_statementTold_29 : decode cX12_statementTold 29 = .ok (.ifCond .eq 10, 3) := yd_op_153 (i := 29) (a := 0) (b := 10) yd_by_cX12_statementTold_0 rfl rfl
theorem dX12_statementTold_32 : decode cX12_statementTold 32 = .ok (.aload_n 0, 1) := yd_op_42 (i := 32) yd_by_cX12_statementTold_0 rfl rfl
theorem dX12_statementTold_33 : decode cX12_statementTold 33 = .ok (.invokevirtual 354, 3) := yd_op_182 (i := 33) (a := 1) (b := 98) yd_by_cX12_statementTold_0 rfl rfl
theorem dX12_statementTold_36 : decode cX12_statementTold 36 = .ok (.goto 137, 3) := yd_op_167 (i := 36) (a := 0) (b := 137) yd_by_cX12_statementTold_0 rfl rfl
set_option maxRecDepth 100000 in
theorem yd_by_cX12_statementTold_1 : ydk cX12_statementTold 39 [42, 42, 180, 0, 33, 182, 1, 17, 153, 0, 11, 42, 27, 182, 1, 101, 167, 0, 118, 42, 42, 180, 0, 42, 182, 1, 17, 153, 0, 12, 42, 3, 27, 182, 1, 104, 167, 0, 98, 42] = true := by decide +kernel
theorem dX12_statementTold_39 : decode cX12_statementTold 39 = .ok (.aload_n 0, 1) := yd_op_42 (i := 0) yd_by_cX12_statementTold_1 rfl rfl
theorem dX12_statementTold_40 : decode cX12_statementTold 40 = .ok (.aload_n 0, 1) := yd_op_42 (i := 1) yd_by_cX12_statementTold_1 rfl rfl
theorem dX12_statementTold_41 : decode cX12_statementTold 41 = .ok (.getfield 33, 3) := yd_op_180 (i := 2) (a := 0) (b := 33) yd_by_cX12_statementTold_1 rfl rfl
theorem dX12_statementTold_44 : decode cX12_statementTold 44 = .ok (.invokevirtual 273, 3) := yd_op_182 (i := 5) (a := 1) (b := 17) yd_by_cX12_statementTold_1 rfl rfl
theorem dX12_statementTold_47 : decode cX12_statementTold 47 = .ok (.ifCond .eq 11, 3) := yd_op_153 (i := 8) (a := 0) (b := 11) yd_by_cX12_statementTold_1 rfl rfl
theorem dX12_statementTold_50 : decode cX12_statementTold 50 = .ok (.aload_n 0, 1) := yd_op_42 (i := 11) yd_by_cX12_statementTold_1 rfl rfl
theorem dX12_statementTold_51 : decode cX12_statementTold 51 = .ok (.iload_n 1, 1) := yd_op_27 (i := 12) yd_by_cX12_statementTold_1 rfl rfl
theorem dX12_statementTold_52 : decode cX12_statementTold 52 = .ok (.invokevirtual 357, 3) := yd_op_182 (i := 13) (a := 1) (b := 101) yd_by_cX12_statementTold_1 rfl rfl
theorem dX12_statementTold_55 : decode cX12_statementTold 55 = .ok (.goto 118, 3) := yd_op_167 (i := 16) (a := 0) (b := 118) yd_by_cX12_statementTold_1 rfl rfl
theorem dX12_statementTold_58 : decode cX12_statementTold 58 = .ok (.aload_n 0, 1) := yd_op_42 (i := 19) yd_by_cX12_statementTold_1 rfl rfl
theorem dX12_statementTold_59 : decode cX12_statementTold 59 = .ok (.aload_n 0, 1) := yd_op_42 (i := 20) yd_by_cX12_statementTold_1 rfl rfl
theorem dX12_statementTold_60 : decode cX12_statementTold 60 = .ok (.getfield 42, 3) := yd_op_180 (i := 21) (a := 0) (b := 42) yd_by_cX12_statementTold_1 rfl rfl
theorem dX12_statementTold_63 : decode cX12_statementTold 63 = .ok (.invokevirtual 273, 3) := yd_op_182 (i := 24) (a := 1) (b := 17) yd_by_cX12_statementTold_1 rfl rfl
theorem dX12_statementTold_66 : decode cX12_statementTold 66 = .ok (.ifCond .eq 12, 3) := yd_op_153 (i := 27) (a := 0) (b := 12) yd_by_cX12_statementTold_1 rfl rfl
theorem dX12_statementTold_69 : decode cX12_statementTold 69 = .ok (.aload_n 0, 1) := yd_op_42 (i := 30) yd_by_cX12_statementTold_1 rfl rfl
theorem dX12_statementTold_70 : decode cX12_statementTold 70 = .ok (.iconst 0, 1) := yd_op_3 (i := 31) yd_by_cX12_statementTold_1 rfl rfl
theorem dX12_statementTold_71 : decode cX12_statementTold 71 = .ok (.iload_n 1, 1) := yd_op_27 (i := 32) yd_by_cX12_statementTold_1 rfl rfl
theorem dX12_statementTold_72 : decode cX12_statementTold 72 = .ok (.invokevirtual 360, 3) := yd_op_182 (i := 33) (a := 1) (b := 104) yd_by_cX12_statementTold_1 rfl rfl
theorem dX12_statementTold_75 : decode cX12_statementTold 75 = .ok (.goto 98, 3) := yd_op_167 (i := 36) (a := 0) (b := 98) yd_by_cX12_statementTold_1 rfl rfl
theorem dX12_statementTold_78 : decode cX12_statementTold 78 = .ok (.aload_n 0, 1) := yd_op_42 (i := 39) yd_by_cX12_statementTold_1 rfl rfl
set_option maxRecDepth 100000 in
theorem yd_by_cX12_statementTold_2 : ydk cX12_statementTold 79 [42, 180, 0, 45, 182, 1, 17, 153, 0, 12, 42, 4, 27, 182, 1, 104, 167, 0, 78, 42, 42, 180, 0, 48, 182, 1, 17, 153, 0, 19, 42, 180, 0, 118, 3, 42, 3, 16, 99] = true := by decide +kernel
theorem dX12_statementTold_79 : decode cX12_statementTold 79 = .ok (.aload_n 0, 1) := yd_op_42 (i := 0) yd_by_cX12_statementTold_2 rfl rfl
theorem dX12_statementTold_80 : decode cX12_statementTold 80 = .ok (.getfield 45, 3) := yd_op_180 (i := 1) (a := 0) (b := 45) yd_by_cX12_statementTold_2 rfl rfl
theorem dX12_statementTold_83 : decode cX12_statementTold 83 = .ok (.invokevirtual 273, 3) := yd_op_182 (i := 4) (a := 1) (b := 17) yd_by_cX12_statementTold_2 rfl rfl
theorem dX12_statementTold_86 : decode cX12_statementTold 86 = .ok (.ifCond .eq 12, 3) := yd_op_153 (i := 7) (a := 0) (b := 12) yd_by_cX12_statementTold_2 rfl rfl
theorem dX12_statementTold_89 : decode cX12_statementTold 89 = .ok (.aload_n 0, 1) := yd_op_42 (i := 10) yd_by_cX12_statementTold_2 rfl rfl
theorem dX12_statementTold_90 : decode cX12_statementTold 90 = .ok (.iconst 1, 1) := yd_op_4 (i := 11) yd_by_cX12_statementTold_2 rfl rfl
theorem dX12_statementTold_91 : decode cX12_statementTold 91 = .ok (.iload_n 1, 1) := yd_op_27 (i := 12) yd_by_cX12_statementTold_2 rfl rfl
theorem dX12_statementTold_92 : decode cX12_statementTold 92 = .ok (.invokevirtual 360, 3) := yd_op_182 (i := 13) (a := 1) (b := 104) yd_by_cX12_statementTold_2 rfl rfl
theorem dX12_statementTold_95 : decode cX12_statementTold 95 = .ok (.goto 78, 3) := yd_op_167 (i := 16) (a := 0) (b := 78) yd_by_cX12_statementTold_2 rfl rfl
theorem dX12_statementTold_98 : decode cX12_statementTold 98 = .ok (.aload_n 0, 1) := yd_op_42 (i := 19) yd_by_cX12_statementTold_2 rfl rfl
theorem dX12_statementTold_99 : decode cX12_statementTold 99 = .ok (.aload_n 0, 1) := yd_op_42 (i := 20) yd_by_cX12_statementTold_2 rfl rfl
theorem dX12_statementTold_100 : decode cX12_statementTold 100 = .ok (.getfield 48, 3) := yd_op_180 (i := 21) (a := 0) (b := 48) yd_by_cX12_statementTold_2 rfl rfl
theorem dX12_statementTold_103 : decode cX12_statementTold 103 = .ok (.invokevirtual 273, 3) := yd_op_182 (i := 24) (a := 1) (b := 17) yd_by_cX12_statementTold_2 rfl rfl
theorem dX12_statementTold_106 : decode cX12_statementTold 106 = .ok (.ifCond .eq 19, 3) := yd_op_153 (i := 27) (a := 0) (b := 19) yd_by_cX12_statementTold_2 rfl rfl
theorem dX12_statementTold_109 : decode cX12_statementTold 109 = .ok (.aload_n 0, 1) := yd_op_42 (i := 30) yd_by_cX12_statementTold_2 rfl rfl
theorem dX12_statementTold_110 : decode cX12_statementTold 110 = .ok (.getfield 118, 3) := yd_op_180 (i := 31) (a := 0) (b := 118) yd_by_cX12_statementTold_2 rfl rfl
theorem dX12_statementTold_113 : decode cX12_statementTold 113 = .ok (.iconst 0, 1) := yd_op_3 (i := 34) yd_by_cX12_statementTold_2 rfl rfl
theorem dX12_statementTold_114 : decode cX12_statementTold 114 = .ok (.aload_n 0, 1) := yd_op_42 (i := 35) yd_by_cX12_statementTold_2 rfl rfl
theorem dX12_statementTold_115 : decode cX12_statementTold 115 = .ok (.iconst 0, 1) := yd_op_3 (i := 36) yd_by_cX12_statementTold_2 rfl rfl
theorem dX12_statementTold_116 : decode cX12_statementTold 116 = .ok (.bipush 99, 2) := yd_op_16 (i := 37) (a := 99) yd_by_cX12_statementTold_2 rfl rfl
set_option maxRecDepth 100000 in
theorem yd_by_cX12_statementTold_3 : ydk cX12_statementTold 118 [182, 1, 59, 79, 167, 0, 51, 42, 42, 180, 0, 51, 182, 1, 17, 153, 0, 19, 42, 180, 0, 118, 4, 42, 3, 16, 99, 182, 1, 59, 79, 167, 0, 24, 42, 42, 180, 0, 54] = true := by decide +kernel
theorem dX12_statementTold_118 : decode cX12_statementTold 118 = .ok (.invokevirtual 315, 3) := yd_op_182 (i := 0) (a := 1) (b := 59) yd_by_cX12_statementTold_3 rfl rfl
theorem dX12_statementTold_121 : decode cX12_statementTold 121 = .ok (.iastore, 1) := yd_op_79 (i := 3) yd_by_cX12_statementTold_3 rfl rfl
theorem dX12_statementTold_122 : decode cX12_statementTold 122 = .ok (.goto 51, 3) := yd_op_167 (i := 4) (a := 0) (b := 51) yd_by_cX12_statementTold_3 rfl rfl
theorem dX12_statementTold_125 : decode cX12_statementTold 125 = .ok (.aload_n 0, 1) := yd_op_42 (i := 7) yd_by_cX12_statementTold_3 rfl rfl
theorem dX12_statementTold_126 : decode cX12_statementTold 126 = .ok (.aload_n 0, 1) := yd_op_42 (i := 8) yd_by_cX12_statementTold_3 rfl rfl
theorem dX12_statementTold_127 : decode cX12_statementTold 127 = .ok (.getfield 51, 3) := yd_op_180 (i := 9) (a := 0) (b := 51) yd_by_cX12_statementTold_3 rfl rfl
theorem dX12_statementTold_130 : decode cX12_statementTold 130 = .ok (.invokevirtual 273, 3) := yd_op_182 (i := 12) (a := 1) (b := 17) yd_by_cX12_statementTold_3 rfl rfl
theorem dX12_statementTold_133 : decode cX12_statementTold 133 = .ok (.ifCond .eq 19, 3) := yd_op_153 (i := 15) (a := 0) (b := 19) yd_by_cX12_statementTold_3 rfl rfl
theorem dX12_statementTold_136 : decode cX12_statementTold 136 = .ok (.aload_n 0, 1) := yd_op_42 (i := 18) yd_by_cX12_statementTold_3 rfl rfl
theorem dX12_statementTold_137 : decode cX12_statementTold 137 = .ok (.getfield 118, 3) := yd_op_180 (i := 19) (a := 0) (b := 118) yd_by_cX12_statementTold_3 rfl rfl
theorem dX12_statementTold_140 : decode cX12_statementTold 140 = .ok (.iconst 1, 1) := yd_op_4 (i := 22) yd_by_cX12_statementTold_3 rfl rfl
theorem dX12_statementTold_141 : decode cX12_statementTold 141 = .ok (.aload_n 0, 1) := yd_op_42 (i := 23) yd_by_cX12_statementTold_3 rfl rfl
theorem dX12_statementTold_142 : decode cX12_statementTold 142 = .ok (.iconst 0, 1) := yd_op_3 (i := 24) yd_by_cX12_statementTold_3 rfl rfl
theorem dX12_statementTold_143 : decode cX12_statementTold 143 = .ok (.bipush 99, 2) := yd_op_16 (i := 25) (a := 99) yd_by_cX12_statementTold_3 rfl rfl
theorem dX12_statementTold_145 : decode cX12_statementTold 145 = .ok (.invokevirtual 315, 3) := yd_op_182 (i := 27) (a := 1) (b := 59) yd_by_cX12_statementTold_3 rfl rfl
theorem dX12_statementTold_148 : decode cX12_statementTold 148 = .ok (.iastore, 1) := yd_op_79 (i := 30) yd_by_cX12_statementTold_3 rfl rfl
theorem dX12_statementTold_149 : decode cX12_statementTold 149 = .ok (.goto 24, 3) := yd_op_167 (i := 31) (a := 0) (b := 24) yd_by_cX12_statementTold_3 rfl rfl
theorem dX12_statementTold_152 : decode cX12_statementTold 152 = .ok (.aload_n 0, 1) := yd_op_42 (i := 34) yd_by_cX12_statementTold_3 rfl rfl
theorem dX12_statementTold_153 : decode cX12_statementTold 153 = .ok (.aload_n 0, 1) := yd_op_42 (i := 35) yd_by_cX12_statementTold_3 rfl rfl
theorem dX12_statementTold_154 : decode cX12_statementTold 154 = .ok (.getfield 54, 3) := yd_op_180 (i := 36) (a := 0) (b := 54) yd_by_cX12_statementTold_3 rfl rfl
set_option maxRecDepth 100000 in
theorem yd_by_cX12_statementTold_4 : ydk cX12_statementTold 157 [182, 1, 55, 42, 180, 0, 118, 5, 42, 3, 16, 100, 182, 1, 59, 79, 42, 16, 59, 182, 1, 63, 42, 89, 180, 1, 95, 4, 96, 181, 1, 95, 177] = true := by decide +kernel
theorem dX12_statementTold_157 : decode cX12_statementTold 157 = .ok (.invokevirtual 311, 3) := yd_op_182 (i := 0) (a := 1) (b := 55) yd_by_cX12_statementTold_4 rfl rfl
theorem dX12_statementTold_160 : decode cX12_statementTold 160 = .ok (.aload_n 0, 1) := yd_op_42 (i := 3) yd_by_cX12_statementTold_4 rfl rfl
theorem dX12_statementTold_161 : decode cX12_statementTold 161 = .ok (.getfield 118, 3) := yd_op_180 (i := 4) (a := 0) (b := 118) yd_by_cX12_statementTold_4 rfl rfl
theorem dX12_statementTold_164 : decode cX12_statementTold 164 = .ok (.iconst 2, 1) := yd_op_5 (i := 7) yd_by_cX12_statementTold_4 rfl rfl
theorem dX12_statementTold_165 : decode cX12_statementTold 165 = .ok (.aload_n 0, 1) := yd_op_42 (i := 8) yd_by_cX12_statementTold_4 rfl rfl
theorem dX12_statementTold_166 : decode cX12_statementTold 166 = .ok (.iconst 0, 1) := yd_op_3 (i := 9) yd_by_cX12_statementTold_4 rfl rfl
theorem dX12_statementTold_167 : decode cX12_statementTold 167 = .ok (.bipush 100, 2) := yd_op_16 (i := 10) (a := 100) yd_by_cX12_statementTold_4 rfl rfl
theorem dX12_statementTold_169 : decode cX12_statementTold 169 = .ok (.invokevirtual 315, 3) := yd_op_182 (i := 12) (a := 1) (b := 59) yd_by_cX12_statementTold_4 rfl rfl
theorem dX12_statementTold_172 : decode cX12_statementTold 172 = .ok (.iastore, 1) := yd_op_79 (i := 15) yd_by_cX12_statementTold_4 rfl rfl
theorem dX12_statementTold_173 : decode cX12_statementTold 173 = .ok (.aload_n 0, 1) := yd_op_42 (i := 16) yd_by_cX12_statementTold_4 rfl rfl
theorem dX12_statementTold_174 : decode cX12_statementTold 174 = .ok (.bipush 59, 2) := yd_op_16 (i := 17) (a := 59) yd_by_cX12_statementTold_4 rfl rfl
theorem dX12_statementTold_176 : decode cX12_statementTold 176 = .ok (.invokevirtual 319, 3) := yd_op_182 (i := 19) (a := 1) (b := 63) yd_by_cX12_statementTold_4 rfl rfl
theorem dX12_statementTold_179 : decode cX12_statementTold 179 = .ok (.aload_n 0, 1) := yd_op_42 (i := 22) yd_by_cX12_statementTold_4 rfl rfl
theorem dX12_statementTold_180 : decode cX12_statementTold 180 = .ok (.dup, 1) := yd_op_89 (i := 23) yd_by_cX12_statementTold_4 rfl rfl
theorem dX12_statementTold_181 : decode cX12_statementTold 181 = .ok (.getfield 351, 3) := yd_op_180 (i := 24) (a := 1) (b := 95) yd_by_cX12_statementTold_4 rfl rfl
theorem dX12_statementTold_184 : decode cX12_statementTold 184 = .ok (.iconst 1, 1) := yd_op_4 (i := 27) yd_by_cX12_statementTold_4 rfl rfl
theorem dX12_statementTold_185 : decode cX12_statementTold 185 = .ok (.iadd, 1) := yd_op_96 (i := 28) yd_by_cX12_statementTold_4 rfl rfl
theorem dX12_statementTold_186 : decode cX12_statementTold 186 = .ok (.putfield 351, 3) := yd_op_181 (i := 29) (a := 1) (b := 95) yd_by_cX12_statementTold_4 rfl rfl
theorem dX12_statementTold_189 : decode cX12_statementTold 189 = .ok (.return_, 1) := yd_op_177 (i := 32) yd_by_cX12_statementTold_4 rfl rfl
set_option maxRecDepth 100000 in
theorem yd_by_cX12_pane_0 : ydk cX12_pane 0 [42, 42, 180, 0, 243, 181, 0, 255, 42, 3, 181, 0, 243, 42, 3, 181, 0, 252, 42, 2, 181, 1, 10, 42, 3, 181, 0, 246, 42, 2, 181, 0, 249, 42] = true := by decide +kernel
theorem dX12_pane_0 : decode cX12_pane 0 = .ok (.aload_n 0, 1) := yd_op_42 (i := 0) yd_by_cX12_pane_0 rfl rfl
theorem dX12_pane_1 : decode cX12_pane 1 = .ok (.aload_n 0, 1) := yd_op_42 (i := 1) yd_by_cX12_pane_0 rfl rfl
theorem dX12_pane_2 : decode cX12_pane 2 = .ok (.getfield 243, 3) := yd_op_180 (i := 2) (a := 0) (b := 243) yd_by_cX12_pane_0 rfl rfl
theorem dX12_pane_5 : decode cX12_pane 5 = .ok (.putfield 255, 3) := yd_op_181 (i := 5) (a := 0) (b := 255) yd_by_cX12_pane_0 rfl rfl
theorem dX12_pane_8 : decode cX12_pane 8 = .ok (.aload_n 0, 1) := yd_op_42 (i := 8) yd_by_cX12_pane_0 rfl rfl
theorem dX12_pane_9 : decode cX12_pane 9 = .ok (.iconst 0, 1) := yd_op_3 (i := 9) yd_by_cX12_pane_0 rfl rfl
theorem dX12_pane_10 : decode cX12_pane 10 = .ok (.putfield 243, 3) := yd_op_181 (i := 10) (a := 0) (b := 243) yd_by_cX12_pane_0 rfl rfl
theorem dX12_pane_13 : decode cX12_pane 13 = .ok (.aload_n 0, 1) := yd_op_42 (i := 13) yd_by_cX12_pane_0 rfl rfl
theorem dX12_pane_14 : decode cX12_pane 14 = .ok (.iconst 0, 1) := yd_op_3 (i := 14) yd_by_cX12_pane_0 rfl rfl
theorem dX12_pane_15 : decode cX12_pane 15 = .ok (.putfield 252, 3) := yd_op_181 (i := 15) (a := 0) (b := 252) yd_by_cX12_pane_0 rfl rfl
theorem dX12_pane_18 : decode cX12_pane 18 = .ok (.aload_n 0, 1) := yd_op_42 (i := 18) yd_by_cX12_pane_0 rfl rfl
theorem dX12_pane_19 : decode cX12_pane 19 = .ok (.iconst (-1), 1) := yd_op_2 (i := 19) yd_by_cX12_pane_0 rfl rfl
theorem dX12_pane_20 : decode cX12_pane 20 = .ok (.putfield 266, 3) := yd_op_181 (i := 20) (a := 1) (b := 10) yd_by_cX12_pane_0 rfl rfl
theorem dX12_pane_23 : decode cX12_pane 23 = .ok (.aload_n 0, 1) := yd_op_42 (i := 23) yd_by_cX12_pane_0 rfl rfl
theorem dX12_pane_24 : decode cX12_pane 24 = .ok (.iconst 0, 1) := yd_op_3 (i := 24) yd_by_cX12_pane_0 rfl rfl
theorem dX12_pane_25 : decode cX12_pane 25 = .ok (.putfield 246, 3) := yd_op_181 (i := 25) (a := 0) (b := 246) yd_by_cX12_pane_0 rfl rfl
theorem dX12_pane_28 : decode cX12_pane 28 = .ok (.aload_n 0, 1) := yd_op_42 (i := 28) yd_by_cX12_pane_0 rfl rfl
theorem dX12_pane_29 : decode cX12_pane 29 = .ok (.iconst (-1), 1) := yd_op_2 (i := 29) yd_by_cX12_pane_0 rfl rfl
theorem dX12_pane_30 : decode cX12_pane 30 = .ok (.putfield 249, 3) := yd_op_181 (i := 30) (a := 0) (b := 249) yd_by_cX12_pane_0 rfl rfl
theorem dX12_pane_33 : decode cX12_pane 33 = .ok (.aload_n 0, 1) := yd_op_42 (i := 33) yd_by_cX12_pane_0 rfl rfl
set_option maxRecDepth 100000 in
theorem yd_by_cX12_pane_1 : ydk cX12_pane 34 [3, 181, 1, 92, 42, 180, 0, 105, 3, 3, 79, 3, 60, 27, 16, 36, 162, 0, 16, 42, 180, 0, 112, 27, 4, 79, 132, 1, 1, 167, 255, 240, 42] = true := by decide +kernel
theorem dX12_pane_34 : decode cX12_pane 34 = .ok (.iconst 0, 1) := yd_op_3 (i := 0) yd_by_cX12_pane_1 rfl rfl
theorem dX12_pane_35 : decode cX12_pane 35 = .ok (.putfield 348, 3) := yd_op_181 (i := 1) (a := 1) (b := 92) yd_by_cX12_pane_1 rfl rfl
theorem dX12_pane_38 : decode cX12_pane 38 = .ok (.aload_n 0, 1) := yd_op_42 (i := 4) yd_by_cX12_pane_1 rfl rfl
theorem dX12_pane_39 : decode cX12_pane 39 = .ok (.getfield 105, 3) := yd_op_180 (i := 5) (a := 0) (b := 105) yd_by_cX12_pane_1 rfl rfl
theorem dX12_pane_42 : decode cX12_pane 42 = .ok (.iconst 0, 1) := yd_op_3 (i := 8) yd_by_cX12_pane_1 rfl rfl
theorem dX12_pane_43 : decode cX12_pane 43 = .ok (.iconst 0, 1) := yd_op_3 (i := 9) yd_by_cX12_pane_1 rfl rfl
theorem dX12_pane_44 : decode cX12_pane 44 = .ok (.iastore, 1) := yd_op_79 (i := 10) yd_by_cX12_pane_1 rfl rfl
theorem dX12_pane_45 : decode cX12_pane 45 = .ok (.iconst 0, 1) := yd_op_3 (i := 11) yd_by_cX12_pane_1 rfl rfl
theorem dX12_pane_46 : decode cX12_pane 46 = .ok (.istore_n 1, 1) := yd_op_60 (i := 12) yd_by_cX12_pane_1 rfl rfl
theorem dX12_pane_47 : decode cX12_pane 47 = .ok (.iload_n 1, 1) := yd_op_27 (i := 13) yd_by_cX12_pane_1 rfl rfl
theorem dX12_pane_48 : decode cX12_pane 48 = .ok (.bipush 36, 2) := yd_op_16 (i := 14) (a := 36) yd_by_cX12_pane_1 rfl rfl
theorem dX12_pane_50 : decode cX12_pane 50 = .ok (.if_icmp .ge 16, 3) := yd_op_162 (i := 16) (a := 0) (b := 16) yd_by_cX12_pane_1 rfl rfl
theorem dX12_pane_53 : decode cX12_pane 53 = .ok (.aload_n 0, 1) := yd_op_42 (i := 19) yd_by_cX12_pane_1 rfl rfl
theorem dX12_pane_54 : decode cX12_pane 54 = .ok (.getfield 112, 3) := yd_op_180 (i := 20) (a := 0) (b := 112) yd_by_cX12_pane_1 rfl rfl
theorem dX12_pane_57 : decode cX12_pane 57 = .ok (.iload_n 1, 1) := yd_op_27 (i := 23) yd_by_cX12_pane_1 rfl rfl
theorem dX12_pane_58 : decode cX12_pane 58 = .ok (.iconst 1, 1) := yd_op_4 (i := 24) yd_by_cX12_pane_1 rfl rfl
theorem dX12_pane_59 : decode cX12_pane 59 = .ok (.iastore, 1) := yd_op_79 (i := 25) yd_by_cX12_pane_1 rfl rfl
theorem dX12_pane_60 : decode cX12_pane 60 = .ok (.iinc 1 1, 3) := yd_op_132 (i := 26) (a := 1) (b := 1) yd_by_cX12_pane_1 rfl rfl
theorem dX12_pane_63 : decode cX12_pane 63 = .ok (.goto (-16), 3) := yd_op_167 (i := 29) (a := 255) (b := 240) yd_by_cX12_pane_1 rfl rfl
theorem dX12_pane_66 : decode cX12_pane 66 = .ok (.aload_n 0, 1) := yd_op_42 (i := 32) yd_by_cX12_pane_1 rfl rfl
set_option maxRecDepth 100000 in
theorem yd_by_cX12_pane_2 : ydk cX12_pane 67 [180, 0, 121, 3, 2, 79, 42, 180, 0, 121, 4, 2, 79, 42, 180, 0, 118, 3, 6, 79, 42, 180, 0, 118, 4, 16, 20, 79, 42] = true := by decide +kernel
theorem dX12_pane_67 : decode cX12_pane 67 = .ok (.getfield 121, 3) := yd_op_180 (i := 0) (a := 0) (b := 121) yd_by_cX12_pane_2 rfl rfl
theorem dX12_pane_70 : decode cX12_pane 70 = .ok (.iconst 0, 1) := yd_op_3 (i := 3) yd_by_cX12_pane_2 rfl rfl
theorem dX12_pane_71 : decode cX12_pane 71 = .ok (.iconst (-1), 1) := yd_op_2 (i := 4) yd_by_cX12_pane_2 rfl rfl
theorem dX12_pane_72 : decode cX12_pane 72 = .ok (.iastore, 1) := yd_op_79 (i := 5) yd_by_cX12_pane_2 rfl rfl
theorem dX12_pane_73 : decode cX12_pane 73 = .ok (.aload_n 0, 1) := yd_op_42 (i := 6) yd_by_cX12_pane_2 rfl rfl
theorem dX12_pane_74 : decode cX12_pane 74 = .ok (.getfield 121, 3) := yd_op_180 (i := 7) (a := 0) (b := 121) yd_by_cX12_pane_2 rfl rfl
theorem dX12_pane_77 : decode cX12_pane 77 = .ok (.iconst 1, 1) := yd_op_4 (i := 10) yd_by_cX12_pane_2 rfl rfl
theorem dX12_pane_78 : decode cX12_pane 78 = .ok (.iconst (-1), 1) := yd_op_2 (i := 11) yd_by_cX12_pane_2 rfl rfl
theorem dX12_pane_79 : decode cX12_pane 79 = .ok (.iastore, 1) := yd_op_79 (i := 12) yd_by_cX12_pane_2 rfl rfl
theorem dX12_pane_80 : decode cX12_pane 80 = .ok (.aload_n 0, 1) := yd_op_42 (i := 13) yd_by_cX12_pane_2 rfl rfl
theorem dX12_pane_81 : decode cX12_pane 81 = .ok (.getfield 118, 3) := yd_op_180 (i := 14) (a := 0) (b := 118) yd_by_cX12_pane_2 rfl rfl
theorem dX12_pane_84 : decode cX12_pane 84 = .ok (.iconst 0, 1) := yd_op_3 (i := 17) yd_by_cX12_pane_2 rfl rfl
theorem dX12_pane_85 : decode cX12_pane 85 = .ok (.iconst 3, 1) := yd_op_6 (i := 18) yd_by_cX12_pane_2 rfl rfl
theorem dX12_pane_86 : decode cX12_pane 86 = .ok (.iastore, 1) := yd_op_79 (i := 19) yd_by_cX12_pane_2 rfl rfl
theorem dX12_pane_87 : decode cX12_pane 87 = .ok (.aload_n 0, 1) := yd_op_42 (i := 20) yd_by_cX12_pane_2 rfl rfl
theorem dX12_pane_88 : decode cX12_pane 88 = .ok (.getfield 118, 3) := yd_op_180 (i := 21) (a := 0) (b := 118) yd_by_cX12_pane_2 rfl rfl
theorem dX12_pane_91 : decode cX12_pane 91 = .ok (.iconst 1, 1) := yd_op_4 (i := 24) yd_by_cX12_pane_2 rfl rfl
theorem dX12_pane_92 : decode cX12_pane 92 = .ok (.bipush 20, 2) := yd_op_16 (i := 25) (a := 20) yd_by_cX12_pane_2 rfl rfl
theorem dX12_pane_94 : decode cX12_pane 94 = .ok (.iastore, 1) := yd_op_79 (i := 27) yd_by_cX12_pane_2 rfl rfl
theorem dX12_pane_95 : decode cX12_pane 95 = .ok (.aload_n 0, 1) := yd_op_42 (i := 28) yd_by_cX12_pane_2 rfl rfl
set_option maxRecDepth 100000 in
theorem yd_by_cX12_pane_3 : ydk cX12_pane 96 [180, 0, 118, 5, 3, 79, 42, 182, 1, 107, 42, 4, 181, 1, 95, 42, 180, 0, 246, 154, 0, 18, 42, 182, 1, 2, 2, 159, 0, 10, 42, 182, 1, 110, 167, 255, 237, 42] = true := by decide +kernel
theorem dX12_pane_96 : decode cX12_pane 96 = .ok (.getfield 118, 3) := yd_op_180 (i := 0) (a := 0) (b := 118) yd_by_cX12_pane_3 rfl rfl
theorem dX12_pane_99 : decode cX12_pane 99 = .ok (.iconst 2, 1) := yd_op_5 (i := 3) yd_by_cX12_pane_3 rfl rfl
theorem dX12_pane_100 : decode cX12_pane 100 = .ok (.iconst 0, 1) := yd_op_3 (i := 4) yd_by_cX12_pane_3 rfl rfl
theorem dX12_pane_101 : decode cX12_pane 101 = .ok (.iastore, 1) := yd_op_79 (i := 5) yd_by_cX12_pane_3 rfl rfl
theorem dX12_pane_102 : decode cX12_pane 102 = .ok (.aload_n 0, 1) := yd_op_42 (i := 6) yd_by_cX12_pane_3 rfl rfl
theorem dX12_pane_103 : decode cX12_pane 103 = .ok (.invokevirtual 363, 3) := yd_op_182 (i := 7) (a := 1) (b := 107) yd_by_cX12_pane_3 rfl rfl
theorem dX12_pane_106 : decode cX12_pane 106 = .ok (.aload_n 0, 1) := yd_op_42 (i := 10) yd_by_cX12_pane_3 rfl rfl
theorem dX12_pane_107 : decode cX12_pane 107 = .ok (.iconst 1, 1) := yd_op_4 (i := 11) yd_by_cX12_pane_3 rfl rfl
theorem dX12_pane_108 : decode cX12_pane 108 = .ok (.putfield 351, 3) := yd_op_181 (i := 12) (a := 1) (b := 95) yd_by_cX12_pane_3 rfl rfl
theorem dX12_pane_111 : decode cX12_pane 111 = .ok (.aload_n 0, 1) := yd_op_42 (i := 15) yd_by_cX12_pane_3 rfl rfl
theorem dX12_pane_112 : decode cX12_pane 112 = .ok (.getfield 246, 3) := yd_op_180 (i := 16) (a := 0) (b := 246) yd_by_cX12_pane_3 rfl rfl
theorem dX12_pane_115 : decode cX12_pane 115 = .ok (.ifCond .ne 18, 3) := yd_op_154 (i := 19) (a := 0) (b := 18) yd_by_cX12_pane_3 rfl rfl
theorem dX12_pane_118 : decode cX12_pane 118 = .ok (.aload_n 0, 1) := yd_op_42 (i := 22) yd_by_cX12_pane_3 rfl rfl
theorem dX12_pane_119 : decode cX12_pane 119 = .ok (.invokevirtual 258, 3) := yd_op_182 (i := 23) (a := 1) (b := 2) yd_by_cX12_pane_3 rfl rfl
theorem dX12_pane_122 : decode cX12_pane 122 = .ok (.iconst (-1), 1) := yd_op_2 (i := 26) yd_by_cX12_pane_3 rfl rfl
theorem dX12_pane_123 : decode cX12_pane 123 = .ok (.if_icmp .eq 10, 3) := yd_op_159 (i := 27) (a := 0) (b := 10) yd_by_cX12_pane_3 rfl rfl
theorem dX12_pane_126 : decode cX12_pane 126 = .ok (.aload_n 0, 1) := yd_op_42 (i := 30) yd_by_cX12_pane_3 rfl rfl
theorem dX12_pane_127 : decode cX12_pane 127 = .ok (.invokevirtual 366, 3) := yd_op_182 (i := 31) (a := 1) (b := 110) yd_by_cX12_pane_3 rfl rfl
theorem dX12_pane_130 : decode cX12_pane 130 = .ok (.goto (-19), 3) := yd_op_167 (i := 34) (a := 255) (b := 237) yd_by_cX12_pane_3 rfl rfl
theorem dX12_pane_133 : decode cX12_pane 133 = .ok (.aload_n 0, 1) := yd_op_42 (i := 37) yd_by_cX12_pane_3 rfl rfl
set_option maxRecDepth 100000 in
theorem yd_by_cX12_pane_4 : ydk cX12_pane 134 [42, 180, 0, 246, 181, 1, 113, 42, 42, 180, 0, 249, 181, 0, 13, 42, 180, 0, 246, 153, 0, 15, 42, 180, 0, 17, 4, 92, 46, 4, 96, 79, 2, 172] = true := by decide +kernel
theorem dX12_pane_134 : decode cX12_pane 134 = .ok (.aload_n 0, 1) := yd_op_42 (i := 0) yd_by_cX12_pane_4 rfl rfl
theorem dX12_pane_135 : decode cX12_pane 135 = .ok (.getfield 246, 3) := yd_op_180 (i := 1) (a := 0) (b := 246) yd_by_cX12_pane_4 rfl rfl
theorem dX12_pane_138 : decode cX12_pane 138 = .ok (.putfield 369, 3) := yd_op_181 (i := 4) (a := 1) (b := 113) yd_by_cX12_pane_4 rfl rfl
theorem dX12_pane_141 : decode cX12_pane 141 = .ok (.aload_n 0, 1) := yd_op_42 (i := 7) yd_by_cX12_pane_4 rfl rfl
theorem dX12_pane_142 : decode cX12_pane 142 = .ok (.aload_n 0, 1) := yd_op_42 (i := 8) yd_by_cX12_pane_4 rfl rfl
theorem dX12_pane_143 : decode cX12_pane 143 = .ok (.getfield 249, 3) := yd_op_180 (i := 9) (a := 0) (b := 249) yd_by_cX12_pane_4 rfl rfl
theorem dX12_pane_146 : decode cX12_pane 146 = .ok (.putfield 13, 3) := yd_op_181 (i := 12) (a := 0) (b := 13) yd_by_cX12_pane_4 rfl rfl
theorem dX12_pane_149 : decode cX12_pane 149 = .ok (.aload_n 0, 1) := yd_op_42 (i := 15) yd_by_cX12_pane_4 rfl rfl
theorem dX12_pane_150 : decode cX12_pane 150 = .ok (.getfield 246, 3) := yd_op_180 (i := 16) (a := 0) (b := 246) yd_by_cX12_pane_4 rfl rfl
theorem dX12_pane_153 : decode cX12_pane 153 = .ok (.ifCond .eq 15, 3) := yd_op_153 (i := 19) (a := 0) (b := 15) yd_by_cX12_pane_4 rfl rfl
theorem dX12_pane_156 : decode cX12_pane 156 = .ok (.aload_n 0, 1) := yd_op_42 (i := 22) yd_by_cX12_pane_4 rfl rfl
theorem dX12_pane_157 : decode cX12_pane 157 = .ok (.getfield 17, 3) := yd_op_180 (i := 23) (a := 0) (b := 17) yd_by_cX12_pane_4 rfl rfl
theorem dX12_pane_160 : decode cX12_pane 160 = .ok (.iconst 1, 1) := yd_op_4 (i := 26) yd_by_cX12_pane_4 rfl rfl
theorem dX12_pane_161 : decode cX12_pane 161 = .ok (.dup2, 1) := yd_op_92 (i := 27) yd_by_cX12_pane_4 rfl rfl
theorem dX12_pane_162 : decode cX12_pane 162 = .ok (.iaload, 1) := yd_op_46 (i := 28) yd_by_cX12_pane_4 rfl rfl
theorem dX12_pane_163 : decode cX12_pane 163 = .ok (.iconst 1, 1) := yd_op_4 (i := 29) yd_by_cX12_pane_4 rfl rfl
theorem dX12_pane_164 : decode cX12_pane 164 = .ok (.iadd, 1) := yd_op_96 (i := 30) yd_by_cX12_pane_4 rfl rfl
theorem dX12_pane_165 : decode cX12_pane 165 = .ok (.iastore, 1) := yd_op_79 (i := 31) yd_by_cX12_pane_4 rfl rfl
theorem dX12_pane_166 : decode cX12_pane 166 = .ok (.iconst (-1), 1) := yd_op_2 (i := 32) yd_by_cX12_pane_4 rfl rfl
theorem dX12_pane_167 : decode cX12_pane 167 = .ok (.ireturn, 1) := yd_op_172 (i := 33) yd_by_cX12_pane_4 rfl rfl
set_option maxRecDepth 100000 in
theorem yd_by_cX12_pane_5 : ydk cX12_pane 168 [42, 182, 1, 116, 42, 180, 1, 95, 172] = true := by decide +kernel
theorem dX12_pane_168 : decode cX12_pane 168 = .ok (.aload_n 0, 1) := yd_op_42 (i := 0) yd_by_cX12_pane_5 rfl rfl
theorem dX12_pane_169 : decode cX12_pane 169 = .ok (.invokevirtual 372, 3) := yd_op_182 (i := 1) (a := 1) (b := 116) yd_by_cX12_pane_5 rfl rfl
theorem dX12_pane_172 : decode cX12_pane 172 = .ok (.aload_n 0, 1) := yd_op_42 (i := 4) yd_by_cX12_pane_5 rfl rfl
theorem dX12_pane_173 : decode cX12_pane 173 = .ok (.getfield 351, 3) := yd_op_180 (i := 5) (a := 1) (b := 95) yd_by_cX12_pane_5 rfl rfl
theorem dX12_pane_176 : decode cX12_pane 176 = .ok (.ireturn, 1) := yd_op_172 (i := 8) yd_by_cX12_pane_5 rfl rfl
set_option maxRecDepth 100000 in
theorem yd_by_cX12_stands_0 : ydk cX12_stands 0 [42, 4, 181, 1, 119, 42, 180, 0, 105, 4, 42, 180, 0, 105, 3, 46, 79, 3, 60, 27, 6, 162, 0, 37, 42, 180, 0, 102, 6, 27] = true := by decide +kernel
theorem dX12_stands_0 : decode cX12_stands 0 = .ok (.aload_n 0, 1) := yd_op_42 (i := 0) yd_by_cX12_stands_0 rfl rfl
theorem dX12_stands_1 : decode cX12_stands 1 = .ok (.iconst 1, 1) := yd_op_4 (i := 1) yd_by_cX12_stands_0 rfl rfl
theorem dX12_stands_2 : decode cX12_stands 2 = .ok (.putfield 375, 3) := yd_op_181 (i := 2) (a := 1) (b := 119) yd_by_cX12_stands_0 rfl rfl
theorem dX12_stands_5 : decode cX12_stands 5 = .ok (.aload_n 0, 1) := yd_op_42 (i := 5) yd_by_cX12_stands_0 rfl rfl
theorem dX12_stands_6 : decode cX12_stands 6 = .ok (.getfield 105, 3) := yd_op_180 (i := 6) (a := 0) (b := 105) yd_by_cX12_stands_0 rfl rfl
theorem dX12_stands_9 : decode cX12_stands 9 = .ok (.iconst 1, 1) := yd_op_4 (i := 9) yd_by_cX12_stands_0 rfl rfl
theorem dX12_stands_10 : decode cX12_stands 10 = .ok (.aload_n 0, 1) := yd_op_42 (i := 10) yd_by_cX12_stands_0 rfl rfl
theorem dX12_stands_11 : decode cX12_stands 11 = .ok (.getfield 105, 3) := yd_op_180 (i := 11) (a := 0) (b := 105) yd_by_cX12_stands_0 rfl rfl
theorem dX12_stands_14 : decode cX12_stands 14 = .ok (.iconst 0, 1) := yd_op_3 (i := 14) yd_by_cX12_stands_0 rfl rfl
theorem dX12_stands_15 : decode cX12_stands 15 = .ok (.iaload, 1) := yd_op_46 (i := 15) yd_by_cX12_stands_0 rfl rfl
theorem dX12_stands_16 : decode cX12_stands 16 = .ok (.iastore, 1) := yd_op_79 (i := 16) yd_by_cX12_stands_0 rfl rfl
theorem dX12_stands_17 : decode cX12_stands 17 = .ok (.iconst 0, 1) := yd_op_3 (i := 17) yd_by_cX12_stands_0 rfl rfl
theorem dX12_stands_18 : decode cX12_stands 18 = .ok (.istore_n 1, 1) := yd_op_60 (i := 18) yd_by_cX12_stands_0 rfl rfl
theorem dX12_stands_19 : decode cX12_stands 19 = .ok (.iload_n 1, 1) := yd_op_27 (i := 19) yd_by_cX12_stands_0 rfl rfl
theorem dX12_stands_20 : decode cX12_stands 20 = .ok (.iconst 3, 1) := yd_op_6 (i := 20) yd_by_cX12_stands_0 rfl rfl
theorem dX12_stands_21 : decode cX12_stands 21 = .ok (.if_icmp .ge 37, 3) := yd_op_162 (i := 21) (a := 0) (b := 37) yd_by_cX12_stands_0 rfl rfl
theorem dX12_stands_24 : decode cX12_stands 24 = .ok (.aload_n 0, 1) := yd_op_42 (i := 24) yd_by_cX12_stands_0 rfl rfl
theorem dX12_stands_25 : decode cX12_stands 25 = .ok (.getfield 102, 3) := yd_op_180 (i := 25) (a := 0) (b := 102) yd_by_cX12_stands_0 rfl rfl
theorem dX12_stands_28 : decode cX12_stands 28 = .ok (.iconst 3, 1) := yd_op_6 (i := 28) yd_by_cX12_stands_0 rfl rfl
theorem dX12_stands_29 : decode cX12_stands 29 = .ok (.iload_n 1, 1) := yd_op_27 (i := 29) yd_by_cX12_stands_0 rfl rfl
set_option maxRecDepth 100000 in
theorem yd_by_cX12_stands_1 : ydk cX12_stands 30 [96, 42, 180, 0, 102, 27, 46, 79, 42, 180, 0, 118, 6, 27, 96, 42, 180, 0, 118, 27, 46, 79, 132, 1, 1, 167, 255, 220, 3, 60] = true := by decide +kernel
theorem dX12_stands_30 : decode cX12_stands 30 = .ok (.iadd, 1) := yd_op_96 (i := 0) yd_by_cX12_stands_1 rfl rfl
theorem dX12_stands_31 : decode cX12_stands 31 = .ok (.aload_n 0, 1) := yd_op_42 (i := 1) yd_by_cX12_stands_1 rfl rfl
theorem dX12_stands_32 : decode cX12_stands 32 = .ok (.getfield 102, 3) := yd_op_180 (i := 2) (a := 0) (b := 102) yd_by_cX12_stands_1 rfl rfl
theorem dX12_stands_35 : decode cX12_stands 35 = .ok (.iload_n 1, 1) := yd_op_27 (i := 5) yd_by_cX12_stands_1 rfl rfl
theorem dX12_stands_36 : decode cX12_stands 36 = .ok (.iaload, 1) := yd_op_46 (i := 6) yd_by_cX12_stands_1 rfl rfl
theorem dX12_stands_37 : decode cX12_stands 37 = .ok (.iastore, 1) := yd_op_79 (i := 7) yd_by_cX12_stands_1 rfl rfl
theorem dX12_stands_38 : decode cX12_stands 38 = .ok (.aload_n 0, 1) := yd_op_42 (i := 8) yd_by_cX12_stands_1 rfl rfl
theorem dX12_stands_39 : decode cX12_stands 39 = .ok (.getfield 118, 3) := yd_op_180 (i := 9) (a := 0) (b := 118) yd_by_cX12_stands_1 rfl rfl
theorem dX12_stands_42 : decode cX12_stands 42 = .ok (.iconst 3, 1) := yd_op_6 (i := 12) yd_by_cX12_stands_1 rfl rfl
theorem dX12_stands_43 : decode cX12_stands 43 = .ok (.iload_n 1, 1) := yd_op_27 (i := 13) yd_by_cX12_stands_1 rfl rfl
theorem dX12_stands_44 : decode cX12_stands 44 = .ok (.iadd, 1) := yd_op_96 (i := 14) yd_by_cX12_stands_1 rfl rfl
theorem dX12_stands_45 : decode cX12_stands 45 = .ok (.aload_n 0, 1) := yd_op_42 (i := 15) yd_by_cX12_stands_1 rfl rfl
theorem dX12_stands_46 : decode cX12_stands 46 = .ok (.getfield 118, 3) := yd_op_180 (i := 16) (a := 0) (b := 118) yd_by_cX12_stands_1 rfl rfl
theorem dX12_stands_49 : decode cX12_stands 49 = .ok (.iload_n 1, 1) := yd_op_27 (i := 19) yd_by_cX12_stands_1 rfl rfl
theorem dX12_stands_50 : decode cX12_stands 50 = .ok (.iaload, 1) := yd_op_46 (i := 20) yd_by_cX12_stands_1 rfl rfl
theorem dX12_stands_51 : decode cX12_stands 51 = .ok (.iastore, 1) := yd_op_79 (i := 21) yd_by_cX12_stands_1 rfl rfl
theorem dX12_stands_52 : decode cX12_stands 52 = .ok (.iinc 1 1, 3) := yd_op_132 (i := 22) (a := 1) (b := 1) yd_by_cX12_stands_1 rfl rfl
theorem dX12_stands_55 : decode cX12_stands 55 = .ok (.goto (-36), 3) := yd_op_167 (i := 25) (a := 255) (b := 220) yd_by_cX12_stands_1 rfl rfl
theorem dX12_stands_58 : decode cX12_stands 58 = .ok (.iconst 0, 1) := yd_op_3 (i := 28) yd_by_cX12_stands_1 rfl rfl
theorem dX12_stands_59 : decode cX12_stands 59 = .ok (.istore_n 1, 1) := yd_op_60 (i := 29) yd_by_cX12_stands_1 rfl rfl
set_option maxRecDepth 100000 in
theorem yd_by_cX12_stands_2 : ydk cX12_stands 60 [27, 5, 162, 0, 37, 42, 180, 0, 121, 5, 27, 96, 42, 180, 0, 121, 27, 46, 79, 42, 180, 0, 124, 5, 27, 96, 42, 180, 0, 124] = true := by decide +kernel
theorem dX12_stands_60 : decode cX12_stands 60 = .ok (.iload_n 1, 1) := yd_op_27 (i := 0) yd_by_cX12_stands_2 rfl rfl
theorem dX12_stands_61 : decode cX12_stands 61 = .ok (.iconst 2, 1) := yd_op_5 (i := 1) yd_by_cX12_stands_2 rfl rfl
theorem dX12_stands_62 : decode cX12_stands 62 = .ok (.if_icmp .ge 37, 3) := yd_op_162 (i := 2) (a := 0) (b := 37) yd_by_cX12_stands_2 rfl rfl
theorem dX12_stands_65 : decode cX12_stands 65 = .ok (.aload_n 0, 1) := yd_op_42 (i := 5) yd_by_cX12_stands_2 rfl rfl
theorem dX12_stands_66 : decode cX12_stands 66 = .ok (.getfield 121, 3) := yd_op_180 (i := 6) (a := 0) (b := 121) yd_by_cX12_stands_2 rfl rfl
theorem dX12_stands_69 : decode cX12_stands 69 = .ok (.iconst 2, 1) := yd_op_5 (i := 9) yd_by_cX12_stands_2 rfl rfl
theorem dX12_stands_70 : decode cX12_stands 70 = .ok (.iload_n 1, 1) := yd_op_27 (i := 10) yd_by_cX12_stands_2 rfl rfl
theorem dX12_stands_71 : decode cX12_stands 71 = .ok (.iadd, 1) := yd_op_96 (i := 11) yd_by_cX12_stands_2 rfl rfl
theorem dX12_stands_72 : decode cX12_stands 72 = .ok (.aload_n 0, 1) := yd_op_42 (i := 12) yd_by_cX12_stands_2 rfl rfl
theorem dX12_stands_73 : decode cX12_stands 73 = .ok (.getfield 121, 3) := yd_op_180 (i := 13) (a := 0) (b := 121) yd_by_cX12_stands_2 rfl rfl
theorem dX12_stands_76 : decode cX12_stands 76 = .ok (.iload_n 1, 1) := yd_op_27 (i := 16) yd_by_cX12_stands_2 rfl rfl
theorem dX12_stands_77 : decode cX12_stands 77 = .ok (.iaload, 1) := yd_op_46 (i := 17) yd_by_cX12_stands_2 rfl rfl
theorem dX12_stands_78 : decode cX12_stands 78 = .ok (.iastore, 1) := yd_op_79 (i := 18) yd_by_cX12_stands_2 rfl rfl
theorem dX12_stands_79 : decode cX12_stands 79 = .ok (.aload_n 0, 1) := yd_op_42 (i := 19) yd_by_cX12_stands_2 rfl rfl
theorem dX12_stands_80 : decode cX12_stands 80 = .ok (.getfield 124, 3) := yd_op_180 (i := 20) (a := 0) (b := 124) yd_by_cX12_stands_2 rfl rfl
theorem dX12_stands_83 : decode cX12_stands 83 = .ok (.iconst 2, 1) := yd_op_5 (i := 23) yd_by_cX12_stands_2 rfl rfl
theorem dX12_stands_84 : decode cX12_stands 84 = .ok (.iload_n 1, 1) := yd_op_27 (i := 24) yd_by_cX12_stands_2 rfl rfl
theorem dX12_stands_85 : decode cX12_stands 85 = .ok (.iadd, 1) := yd_op_96 (i := 25) yd_by_cX12_stands_2 rfl rfl
theorem dX12_stands_86 : decode cX12_stands 86 = .ok (.aload_n 0, 1) := yd_op_42 (i := 26) yd_by_cX12_stands_2 rfl rfl
theorem dX12_stands_87 : decode cX12_stands 87 = .ok (.getfield 124, 3) := yd_op_180 (i := 27) (a := 0) (b := 124) yd_by_cX12_stands_2 rfl rfl
set_option maxRecDepth 100000 in
theorem yd_by_cX12_stands_3 : ydk cX12_stands 90 [27, 46, 79, 132, 1, 1, 167, 255, 220, 3, 60, 27, 16, 10, 162, 0, 24, 42, 180, 0, 108, 16, 10, 27, 96, 42, 180, 0, 108, 27, 47, 80] = true := by decide +kernel
theorem dX12_stands_90 : decode cX12_stands 90 = .ok (.iload_n 1, 1) := yd_op_27 (i := 0) yd_by_cX12_stands_3 rfl rfl
theorem dX12_stands_91 : decode cX12_stands 91 = .ok (.iaload, 1) := yd_op_46 (i := 1) yd_by_cX12_stands_3 rfl rfl
theorem dX12_stands_92 : decode cX12_stands 92 = .ok (.iastore, 1) := yd_op_79 (i := 2) yd_by_cX12_stands_3 rfl rfl
theorem dX12_stands_93 : decode cX12_stands 93 = .ok (.iinc 1 1, 3) := yd_op_132 (i := 3) (a := 1) (b := 1) yd_by_cX12_stands_3 rfl rfl
theorem dX12_stands_96 : decode cX12_stands 96 = .ok (.goto (-36), 3) := yd_op_167 (i := 6) (a := 255) (b := 220) yd_by_cX12_stands_3 rfl rfl
theorem dX12_stands_99 : decode cX12_stands 99 = .ok (.iconst 0, 1) := yd_op_3 (i := 9) yd_by_cX12_stands_3 rfl rfl
theorem dX12_stands_100 : decode cX12_stands 100 = .ok (.istore_n 1, 1) := yd_op_60 (i := 10) yd_by_cX12_stands_3 rfl rfl
theorem dX12_stands_101 : decode cX12_stands 101 = .ok (.iload_n 1, 1) := yd_op_27 (i := 11) yd_by_cX12_stands_3 rfl rfl
theorem dX12_stands_102 : decode cX12_stands 102 = .ok (.bipush 10, 2) := yd_op_16 (i := 12) (a := 10) yd_by_cX12_stands_3 rfl rfl
theorem dX12_stands_104 : decode cX12_stands 104 = .ok (.if_icmp .ge 24, 3) := yd_op_162 (i := 14) (a := 0) (b := 24) yd_by_cX12_stands_3 rfl rfl
theorem dX12_stands_107 : decode cX12_stands 107 = .ok (.aload_n 0, 1) := yd_op_42 (i := 17) yd_by_cX12_stands_3 rfl rfl
theorem dX12_stands_108 : decode cX12_stands 108 = .ok (.getfield 108, 3) := yd_op_180 (i := 18) (a := 0) (b := 108) yd_by_cX12_stands_3 rfl rfl
theorem dX12_stands_111 : decode cX12_stands 111 = .ok (.bipush 10, 2) := yd_op_16 (i := 21) (a := 10) yd_by_cX12_stands_3 rfl rfl
theorem dX12_stands_113 : decode cX12_stands 113 = .ok (.iload_n 1, 1) := yd_op_27 (i := 23) yd_by_cX12_stands_3 rfl rfl
theorem dX12_stands_114 : decode cX12_stands 114 = .ok (.iadd, 1) := yd_op_96 (i := 24) yd_by_cX12_stands_3 rfl rfl
theorem dX12_stands_115 : decode cX12_stands 115 = .ok (.aload_n 0, 1) := yd_op_42 (i := 25) yd_by_cX12_stands_3 rfl rfl
theorem dX12_stands_116 : decode cX12_stands 116 = .ok (.getfield 108, 3) := yd_op_180 (i := 26) (a := 0) (b := 108) yd_by_cX12_stands_3 rfl rfl
theorem dX12_stands_119 : decode cX12_stands 119 = .ok (.iload_n 1, 1) := yd_op_27 (i := 29) yd_by_cX12_stands_3 rfl rfl
theorem dX12_stands_120 : decode cX12_stands 120 = .ok (.laload, 1) := yd_op_47 (i := 30) yd_by_cX12_stands_3 rfl rfl
theorem dX12_stands_121 : decode cX12_stands 121 = .ok (.lastore, 1) := yd_op_80 (i := 31) yd_by_cX12_stands_3 rfl rfl
set_option maxRecDepth 100000 in
theorem yd_by_cX12_stands_4 : ydk cX12_stands 122 [132, 1, 1, 167, 255, 232, 3, 60, 27, 16, 36, 162, 0, 24, 42, 180, 0, 112, 16, 36, 27, 96, 42, 180, 0, 112, 27, 46, 79, 132, 1, 1, 167, 255, 232, 3] = true := by decide +kernel
theorem dX12_stands_122 : decode cX12_stands 122 = .ok (.iinc 1 1, 3) := yd_op_132 (i := 0) (a := 1) (b := 1) yd_by_cX12_stands_4 rfl rfl
theorem dX12_stands_125 : decode cX12_stands 125 = .ok (.goto (-24), 3) := yd_op_167 (i := 3) (a := 255) (b := 232) yd_by_cX12_stands_4 rfl rfl
theorem dX12_stands_128 : decode cX12_stands 128 = .ok (.iconst 0, 1) := yd_op_3 (i := 6) yd_by_cX12_stands_4 rfl rfl
theorem dX12_stands_129 : decode cX12_stands 129 = .ok (.istore_n 1, 1) := yd_op_60 (i := 7) yd_by_cX12_stands_4 rfl rfl
theorem dX12_stands_130 : decode cX12_stands 130 = .ok (.iload_n 1, 1) := yd_op_27 (i := 8) yd_by_cX12_stands_4 rfl rfl
theorem dX12_stands_131 : decode cX12_stands 131 = .ok (.bipush 36, 2) := yd_op_16 (i := 9) (a := 36) yd_by_cX12_stands_4 rfl rfl
theorem dX12_stands_133 : decode cX12_stands 133 = .ok (.if_icmp .ge 24, 3) := yd_op_162 (i := 11) (a := 0) (b := 24) yd_by_cX12_stands_4 rfl rfl
theorem dX12_stands_136 : decode cX12_stands 136 = .ok (.aload_n 0, 1) := yd_op_42 (i := 14) yd_by_cX12_stands_4 rfl rfl
theorem dX12_stands_137 : decode cX12_stands 137 = .ok (.getfield 112, 3) := yd_op_180 (i := 15) (a := 0) (b := 112) yd_by_cX12_stands_4 rfl rfl
theorem dX12_stands_140 : decode cX12_stands 140 = .ok (.bipush 36, 2) := yd_op_16 (i := 18) (a := 36) yd_by_cX12_stands_4 rfl rfl
theorem dX12_stands_142 : decode cX12_stands 142 = .ok (.iload_n 1, 1) := yd_op_27 (i := 20) yd_by_cX12_stands_4 rfl rfl
theorem dX12_stands_143 : decode cX12_stands 143 = .ok (.iadd, 1) := yd_op_96 (i := 21) yd_by_cX12_stands_4 rfl rfl
theorem dX12_stands_144 : decode cX12_stands 144 = .ok (.aload_n 0, 1) := yd_op_42 (i := 22) yd_by_cX12_stands_4 rfl rfl
theorem dX12_stands_145 : decode cX12_stands 145 = .ok (.getfield 112, 3) := yd_op_180 (i := 23) (a := 0) (b := 112) yd_by_cX12_stands_4 rfl rfl
theorem dX12_stands_148 : decode cX12_stands 148 = .ok (.iload_n 1, 1) := yd_op_27 (i := 26) yd_by_cX12_stands_4 rfl rfl
theorem dX12_stands_149 : decode cX12_stands 149 = .ok (.iaload, 1) := yd_op_46 (i := 27) yd_by_cX12_stands_4 rfl rfl
theorem dX12_stands_150 : decode cX12_stands 150 = .ok (.iastore, 1) := yd_op_79 (i := 28) yd_by_cX12_stands_4 rfl rfl
theorem dX12_stands_151 : decode cX12_stands 151 = .ok (.iinc 1 1, 3) := yd_op_132 (i := 29) (a := 1) (b := 1) yd_by_cX12_stands_4 rfl rfl
theorem dX12_stands_154 : decode cX12_stands 154 = .ok (.goto (-24), 3) := yd_op_167 (i := 32) (a := 255) (b := 232) yd_by_cX12_stands_4 rfl rfl
theorem dX12_stands_157 : decode cX12_stands 157 = .ok (.iconst 0, 1) := yd_op_3 (i := 35) yd_by_cX12_stands_4 rfl rfl
set_option maxRecDepth 100000 in
theorem yd_by_cX12_stands_5 : ydk cX12_stands 158 [60, 27, 16, 20, 162, 0, 24, 42, 180, 0, 115, 16, 20, 27, 96, 42, 180, 0, 115, 27, 46, 79, 132, 1, 1, 167, 255, 232, 3, 60, 27, 42] = true := by decide +kernel
theorem dX12_stands_158 : decode cX12_stands 158 = .ok (.istore_n 1, 1) := yd_op_60 (i := 0) yd_by_cX12_stands_5 rfl rfl
theorem dX12_stands_159 : decode cX12_stands 159 = .ok (.iload_n 1, 1) := yd_op_27 (i := 1) yd_by_cX12_stands_5 rfl rfl
theorem dX12_stands_160 : decode cX12_stands 160 = .ok (.bipush 20, 2) := yd_op_16 (i := 2) (a := 20) yd_by_cX12_stands_5 rfl rfl
theorem dX12_stands_162 : decode cX12_stands 162 = .ok (.if_icmp .ge 24, 3) := yd_op_162 (i := 4) (a := 0) (b := 24) yd_by_cX12_stands_5 rfl rfl
theorem dX12_stands_165 : decode cX12_stands 165 = .ok (.aload_n 0, 1) := yd_op_42 (i := 7) yd_by_cX12_stands_5 rfl rfl
theorem dX12_stands_166 : decode cX12_stands 166 = .ok (.getfield 115, 3) := yd_op_180 (i := 8) (a := 0) (b := 115) yd_by_cX12_stands_5 rfl rfl
theorem dX12_stands_169 : decode cX12_stands 169 = .ok (.bipush 20, 2) := yd_op_16 (i := 11) (a := 20) yd_by_cX12_stands_5 rfl rfl
theorem dX12_stands_171 : decode cX12_stands 171 = .ok (.iload_n 1, 1) := yd_op_27 (i := 13) yd_by_cX12_stands_5 rfl rfl
theorem dX12_stands_172 : decode cX12_stands 172 = .ok (.iadd, 1) := yd_op_96 (i := 14) yd_by_cX12_stands_5 rfl rfl
theorem dX12_stands_173 : decode cX12_stands 173 = .ok (.aload_n 0, 1) := yd_op_42 (i := 15) yd_by_cX12_stands_5 rfl rfl
theorem dX12_stands_174 : decode cX12_stands 174 = .ok (.getfield 115, 3) := yd_op_180 (i := 16) (a := 0) (b := 115) yd_by_cX12_stands_5 rfl rfl
theorem dX12_stands_177 : decode cX12_stands 177 = .ok (.iload_n 1, 1) := yd_op_27 (i := 19) yd_by_cX12_stands_5 rfl rfl
theorem dX12_stands_178 : decode cX12_stands 178 = .ok (.iaload, 1) := yd_op_46 (i := 20) yd_by_cX12_stands_5 rfl rfl
theorem dX12_stands_179 : decode cX12_stands 179 = .ok (.iastore, 1) := yd_op_79 (i := 21) yd_by_cX12_stands_5 rfl rfl
theorem dX12_stands_180 : decode cX12_stands 180 = .ok (.iinc 1 1, 3) := yd_op_132 (i := 22) (a := 1) (b := 1) yd_by_cX12_stands_5 rfl rfl
theorem dX12_stands_183 : decode cX12_stands 183 = .ok (.goto (-24), 3) := yd_op_167 (i := 25) (a := 255) (b := 232) yd_by_cX12_stands_5 rfl rfl
theorem dX12_stands_186 : decode cX12_stands 186 = .ok (.iconst 0, 1) := yd_op_3 (i := 28) yd_by_cX12_stands_5 rfl rfl
theorem dX12_stands_187 : decode cX12_stands 187 = .ok (.istore_n 1, 1) := yd_op_60 (i := 29) yd_by_cX12_stands_5 rfl rfl
theorem dX12_stands_188 : decode cX12_stands 188 = .ok (.iload_n 1, 1) := yd_op_27 (i := 30) yd_by_cX12_stands_5 rfl rfl
theorem dX12_stands_189 : decode cX12_stands 189 = .ok (.aload_n 0, 1) := yd_op_42 (i := 31) yd_by_cX12_stands_5 rfl rfl
set_option maxRecDepth 100000 in
theorem yd_by_cX12_stands_6 : ydk cX12_stands 190 [180, 1, 92, 162, 0, 25, 42, 180, 0, 127, 17, 6, 64, 27, 96, 42, 180, 0, 127, 27, 46, 79, 132, 1, 1, 167, 255, 229, 3, 60, 27, 17, 0, 188, 162, 0, 16, 42] = true := by decide +kernel
theorem dX12_stands_190 : decode cX12_stands 190 = .ok (.getfield 348, 3) := yd_op_180 (i := 0) (a := 1) (b := 92) yd_by_cX12_stands_6 rfl rfl
theorem dX12_stands_193 : decode cX12_stands 193 = .ok (.if_icmp .ge 25, 3) := yd_op_162 (i := 3) (a := 0) (b := 25) yd_by_cX12_stands_6 rfl rfl
theorem dX12_stands_196 : decode cX12_stands 196 = .ok (.aload_n 0, 1) := yd_op_42 (i := 6) yd_by_cX12_stands_6 rfl rfl
theorem dX12_stands_197 : decode cX12_stands 197 = .ok (.getfield 127, 3) := yd_op_180 (i := 7) (a := 0) (b := 127) yd_by_cX12_stands_6 rfl rfl
theorem dX12_stands_200 : decode cX12_stands 200 = .ok (.sipush 1600, 3) := yd_op_17 (i := 10) (a := 6) (b := 64) yd_by_cX12_stands_6 rfl rfl
theorem dX12_stands_203 : decode cX12_stands 203 = .ok (.iload_n 1, 1) := yd_op_27 (i := 13) yd_by_cX12_stands_6 rfl rfl
theorem dX12_stands_204 : decode cX12_stands 204 = .ok (.iadd, 1) := yd_op_96 (i := 14) yd_by_cX12_stands_6 rfl rfl
theorem dX12_stands_205 : decode cX12_stands 205 = .ok (.aload_n 0, 1) := yd_op_42 (i := 15) yd_by_cX12_stands_6 rfl rfl
theorem dX12_stands_206 : decode cX12_stands 206 = .ok (.getfield 127, 3) := yd_op_180 (i := 16) (a := 0) (b := 127) yd_by_cX12_stands_6 rfl rfl
theorem dX12_stands_209 : decode cX12_stands 209 = .ok (.iload_n 1, 1) := yd_op_27 (i := 19) yd_by_cX12_stands_6 rfl rfl
theorem dX12_stands_210 : decode cX12_stands 210 = .ok (.iaload, 1) := yd_op_46 (i := 20) yd_by_cX12_stands_6 rfl rfl
theorem dX12_stands_211 : decode cX12_stands 211 = .ok (.iastore, 1) := yd_op_79 (i := 21) yd_by_cX12_stands_6 rfl rfl
theorem dX12_stands_212 : decode cX12_stands 212 = .ok (.iinc 1 1, 3) := yd_op_132 (i := 22) (a := 1) (b := 1) yd_by_cX12_stands_6 rfl rfl
theorem dX12_stands_215 : decode cX12_stands 215 = .ok (.goto (-27), 3) := yd_op_167 (i := 25) (a := 255) (b := 229) yd_by_cX12_stands_6 rfl rfl
theorem dX12_stands_218 : decode cX12_stands 218 = .ok (.iconst 0, 1) := yd_op_3 (i := 28) yd_by_cX12_stands_6 rfl rfl
theorem dX12_stands_219 : decode cX12_stands 219 = .ok (.istore_n 1, 1) := yd_op_60 (i := 29) yd_by_cX12_stands_6 rfl rfl
theorem dX12_stands_220 : decode cX12_stands 220 = .ok (.iload_n 1, 1) := yd_op_27 (i := 30) yd_by_cX12_stands_6 rfl rfl
theorem dX12_stands_221 : decode cX12_stands 221 = .ok (.sipush 188, 3) := yd_op_17 (i := 31) (a := 0) (b := 188) yd_by_cX12_stands_6 rfl rfl
theorem dX12_stands_224 : decode cX12_stands 224 = .ok (.if_icmp .ge 16, 3) := yd_op_162 (i := 34) (a := 0) (b := 16) yd_by_cX12_stands_6 rfl rfl
theorem dX12_stands_227 : decode cX12_stands 227 = .ok (.aload_n 0, 1) := yd_op_42 (i := 37) yd_by_cX12_stands_6 rfl rfl
set_option maxRecDepth 100000 in
theorem yd_by_cX12_stands_7 : ydk cX12_stands 228 [180, 0, 130, 27, 3, 79, 132, 1, 1, 167, 255, 239, 3, 60, 27, 42, 180, 0, 105, 3, 46, 162, 0, 28, 42, 180, 0, 130, 16, 37, 6, 27, 104] = true := by decide +kernel
theorem dX12_stands_228 : decode cX12_stands 228 = .ok (.getfield 130, 3) := yd_op_180 (i := 0) (a := 0) (b := 130) yd_by_cX12_stands_7 rfl rfl
theorem dX12_stands_231 : decode cX12_stands 231 = .ok (.iload_n 1, 1) := yd_op_27 (i := 3) yd_by_cX12_stands_7 rfl rfl
theorem dX12_stands_232 : decode cX12_stands 232 = .ok (.iconst 0, 1) := yd_op_3 (i := 4) yd_by_cX12_stands_7 rfl rfl
theorem dX12_stands_233 : decode cX12_stands 233 = .ok (.iastore, 1) := yd_op_79 (i := 5) yd_by_cX12_stands_7 rfl rfl
theorem dX12_stands_234 : decode cX12_stands 234 = .ok (.iinc 1 1, 3) := yd_op_132 (i := 6) (a := 1) (b := 1) yd_by_cX12_stands_7 rfl rfl
theorem dX12_stands_237 : decode cX12_stands 237 = .ok (.goto (-17), 3) := yd_op_167 (i := 9) (a := 255) (b := 239) yd_by_cX12_stands_7 rfl rfl
theorem dX12_stands_240 : decode cX12_stands 240 = .ok (.iconst 0, 1) := yd_op_3 (i := 12) yd_by_cX12_stands_7 rfl rfl
theorem dX12_stands_241 : decode cX12_stands 241 = .ok (.istore_n 1, 1) := yd_op_60 (i := 13) yd_by_cX12_stands_7 rfl rfl
theorem dX12_stands_242 : decode cX12_stands 242 = .ok (.iload_n 1, 1) := yd_op_27 (i := 14) yd_by_cX12_stands_7 rfl rfl
theorem dX12_stands_243 : decode cX12_stands 243 = .ok (.aload_n 0, 1) := yd_op_42 (i := 15) yd_by_cX12_stands_7 rfl rfl
theorem dX12_stands_244 : decode cX12_stands 244 = .ok (.getfield 105, 3) := yd_op_180 (i := 16) (a := 0) (b := 105) yd_by_cX12_stands_7 rfl rfl
theorem dX12_stands_247 : decode cX12_stands 247 = .ok (.iconst 0, 1) := yd_op_3 (i := 19) yd_by_cX12_stands_7 rfl rfl
theorem dX12_stands_248 : decode cX12_stands 248 = .ok (.iaload, 1) := yd_op_46 (i := 20) yd_by_cX12_stands_7 rfl rfl
theorem dX12_stands_249 : decode cX12_stands 249 = .ok (.if_icmp .ge 28, 3) := yd_op_162 (i := 21) (a := 0) (b := 28) yd_by_cX12_stands_7 rfl rfl
theorem dX12_stands_252 : decode cX12_stands 252 = .ok (.aload_n 0, 1) := yd_op_42 (i := 24) yd_by_cX12_stands_7 rfl rfl
theorem dX12_stands_253 : decode cX12_stands 253 = .ok (.getfield 130, 3) := yd_op_180 (i := 25) (a := 0) (b := 130) yd_by_cX12_stands_7 rfl rfl
theorem dX12_stands_256 : decode cX12_stands 256 = .ok (.bipush 37, 2) := yd_op_16 (i := 28) (a := 37) yd_by_cX12_stands_7 rfl rfl
theorem dX12_stands_258 : decode cX12_stands 258 = .ok (.iconst 3, 1) := yd_op_6 (i := 30) yd_by_cX12_stands_7 rfl rfl
theorem dX12_stands_259 : decode cX12_stands 259 = .ok (.iload_n 1, 1) := yd_op_27 (i := 31) yd_by_cX12_stands_7 rfl rfl
theorem dX12_stands_260 : decode cX12_stands 260 = .ok (.imul, 1) := yd_op_104 (i := 32) yd_by_cX12_stands_7 rfl rfl
set_option maxRecDepth 100000 in
theorem yd_by_cX12_stands_8 : ydk cX12_stands 261 [96, 42, 180, 0, 115, 5, 27, 104, 46, 79, 132, 1, 1, 167, 255, 224, 42, 3, 181, 1, 123, 42, 3, 181, 1, 126, 177] = true := by decide +kernel
theorem dX12_stands_261 : decode cX12_stands 261 = .ok (.iadd, 1) := yd_op_96 (i := 0) yd_by_cX12_stands_8 rfl rfl
theorem dX12_stands_262 : decode cX12_stands 262 = .ok (.aload_n 0, 1) := yd_op_42 (i := 1) yd_by_cX12_stands_8 rfl rfl
theorem dX12_stands_263 : decode cX12_stands 263 = .ok (.getfield 115, 3) := yd_op_180 (i := 2) (a := 0) (b := 115) yd_by_cX12_stands_8 rfl rfl
theorem dX12_stands_266 : decode cX12_stands 266 = .ok (.iconst 2, 1) := yd_op_5 (i := 5) yd_by_cX12_stands_8 rfl rfl
theorem dX12_stands_267 : decode cX12_stands 267 = .ok (.iload_n 1, 1) := yd_op_27 (i := 6) yd_by_cX12_stands_8 rfl rfl
theorem dX12_stands_268 : decode cX12_stands 268 = .ok (.imul, 1) := yd_op_104 (i := 7) yd_by_cX12_stands_8 rfl rfl
theorem dX12_stands_269 : decode cX12_stands 269 = .ok (.iaload, 1) := yd_op_46 (i := 8) yd_by_cX12_stands_8 rfl rfl
theorem dX12_stands_270 : decode cX12_stands 270 = .ok (.iastore, 1) := yd_op_79 (i := 9) yd_by_cX12_stands_8 rfl rfl
theorem dX12_stands_271 : decode cX12_stands 271 = .ok (.iinc 1 1, 3) := yd_op_132 (i := 10) (a := 1) (b := 1) yd_by_cX12_stands_8 rfl rfl
theorem dX12_stands_274 : decode cX12_stands 274 = .ok (.goto (-32), 3) := yd_op_167 (i := 13) (a := 255) (b := 224) yd_by_cX12_stands_8 rfl rfl
theorem dX12_stands_277 : decode cX12_stands 277 = .ok (.aload_n 0, 1) := yd_op_42 (i := 16) yd_by_cX12_stands_8 rfl rfl
theorem dX12_stands_278 : decode cX12_stands 278 = .ok (.iconst 0, 1) := yd_op_3 (i := 17) yd_by_cX12_stands_8 rfl rfl
theorem dX12_stands_279 : decode cX12_stands 279 = .ok (.putfield 379, 3) := yd_op_181 (i := 18) (a := 1) (b := 123) yd_by_cX12_stands_8 rfl rfl
theorem dX12_stands_282 : decode cX12_stands 282 = .ok (.aload_n 0, 1) := yd_op_42 (i := 21) yd_by_cX12_stands_8 rfl rfl
theorem dX12_stands_283 : decode cX12_stands 283 = .ok (.iconst 0, 1) := yd_op_3 (i := 22) yd_by_cX12_stands_8 rfl rfl
theorem dX12_stands_284 : decode cX12_stands 284 = .ok (.putfield 382, 3) := yd_op_181 (i := 23) (a := 1) (b := 126) yd_by_cX12_stands_8 rfl rfl
theorem dX12_stands_287 : decode cX12_stands 287 = .ok (.return_, 1) := yd_op_177 (i := 26) yd_by_cX12_stands_8 rfl rfl
set_option maxRecDepth 100000 in
theorem yd_by_cX12_fault_0 : ydk cX12_fault 0 [27, 154, 0, 10, 42, 180, 1, 113, 167, 0, 16, 27, 4, 160, 0, 10, 42, 180, 0, 13, 167, 0, 4, 2, 172] = true := by decide +kernel
theorem dX12_fault_0 : decode cX12_fault 0 = .ok (.iload_n 1, 1) := yd_op_27 (i := 0) yd_by_cX12_fault_0 rfl rfl
theorem dX12_fault_1 : decode cX12_fault 1 = .ok (.ifCond .ne 10, 3) := yd_op_154 (i := 1) (a := 0) (b := 10) yd_by_cX12_fault_0 rfl rfl
theorem dX12_fault_4 : decode cX12_fault 4 = .ok (.aload_n 0, 1) := yd_op_42 (i := 4) yd_by_cX12_fault_0 rfl rfl
theorem dX12_fault_5 : decode cX12_fault 5 = .ok (.getfield 369, 3) := yd_op_180 (i := 5) (a := 1) (b := 113) yd_by_cX12_fault_0 rfl rfl
theorem dX12_fault_8 : decode cX12_fault 8 = .ok (.goto 16, 3) := yd_op_167 (i := 8) (a := 0) (b := 16) yd_by_cX12_fault_0 rfl rfl
theorem dX12_fault_11 : decode cX12_fault 11 = .ok (.iload_n 1, 1) := yd_op_27 (i := 11) yd_by_cX12_fault_0 rfl rfl
theorem dX12_fault_12 : decode cX12_fault 12 = .ok (.iconst 1, 1) := yd_op_4 (i := 12) yd_by_cX12_fault_0 rfl rfl
theorem dX12_fault_13 : decode cX12_fault 13 = .ok (.if_icmp .ne 10, 3) := yd_op_160 (i := 13) (a := 0) (b := 10) yd_by_cX12_fault_0 rfl rfl
theorem dX12_fault_16 : decode cX12_fault 16 = .ok (.aload_n 0, 1) := yd_op_42 (i := 16) yd_by_cX12_fault_0 rfl rfl
theorem dX12_fault_17 : decode cX12_fault 17 = .ok (.getfield 13, 3) := yd_op_180 (i := 17) (a := 0) (b := 13) yd_by_cX12_fault_0 rfl rfl
theorem dX12_fault_20 : decode cX12_fault 20 = .ok (.goto 4, 3) := yd_op_167 (i := 20) (a := 0) (b := 4) yd_by_cX12_fault_0 rfl rfl
theorem dX12_fault_23 : decode cX12_fault 23 = .ok (.iconst (-1), 1) := yd_op_2 (i := 23) yd_by_cX12_fault_0 rfl rfl
theorem dX12_fault_24 : decode cX12_fault 24 = .ok (.ireturn, 1) := yd_op_172 (i := 24) yd_by_cX12_fault_0 rfl rfl
set_option maxRecDepth 100000 in
theorem yd_by_cX12_peopleMany_0 : ydk cX12_peopleMany 0 [42, 180, 0, 105, 4, 46, 172] = true := by decide +kernel
theorem dX12_peopleMany_0 : decode cX12_peopleMany 0 = .ok (.aload_n 0, 1) := yd_op_42 (i := 0) yd_by_cX12_peopleMany_0 rfl rfl
theorem dX12_peopleMany_1 : decode cX12_peopleMany 1 = .ok (.getfield 105, 3) := yd_op_180 (i := 1) (a := 0) (b := 105) yd_by_cX12_peopleMany_0 rfl rfl
theorem dX12_peopleMany_4 : decode cX12_peopleMany 4 = .ok (.iconst 1, 1) := yd_op_4 (i := 4) yd_by_cX12_peopleMany_0 rfl rfl
theorem dX12_peopleMany_5 : decode cX12_peopleMany 5 = .ok (.iaload, 1) := yd_op_46 (i := 5) yd_by_cX12_peopleMany_0 rfl rfl
theorem dX12_peopleMany_6 : decode cX12_peopleMany 6 = .ok (.ireturn, 1) := yd_op_172 (i := 6) yd_by_cX12_peopleMany_0 rfl rfl
set_option maxRecDepth 100000 in
theorem yd_by_cX12_isPerson_0 : ydk cX12_isPerson 0 [27, 133, 9, 42, 182, 1, 129, 4, 100, 133, 184, 1, 33, 172] = true := by decide +kernel
theorem dX12_isPerson_0 : decode cX12_isPerson 0 = .ok (.iload_n 1, 1) := yd_op_27 (i := 0) yd_by_cX12_isPerson_0 rfl rfl
theorem dX12_isPerson_1 : decode cX12_isPerson 1 = .ok (.i2l, 1) := yd_op_133 (i := 1) yd_by_cX12_isPerson_0 rfl rfl
theorem dX12_isPerson_2 : decode cX12_isPerson 2 = .ok (.lconst 0, 1) := yd_op_9 (i := 2) yd_by_cX12_isPerson_0 rfl rfl
theorem dX12_isPerson_3 : decode cX12_isPerson 3 = .ok (.aload_n 0, 1) := yd_op_42 (i := 3) yd_by_cX12_isPerson_0 rfl rfl
theorem dX12_isPerson_4 : decode cX12_isPerson 4 = .ok (.invokevirtual 385, 3) := yd_op_182 (i := 4) (a := 1) (b := 129) yd_by_cX12_isPerson_0 rfl rfl
theorem dX12_isPerson_7 : decode cX12_isPerson 7 = .ok (.iconst 1, 1) := yd_op_4 (i := 7) yd_by_cX12_isPerson_0 rfl rfl
theorem dX12_isPerson_8 : decode cX12_isPerson 8 = .ok (.isub, 1) := yd_op_100 (i := 8) yd_by_cX12_isPerson_0 rfl rfl
theorem dX12_isPerson_9 : decode cX12_isPerson 9 = .ok (.i2l, 1) := yd_op_133 (i := 9) yd_by_cX12_isPerson_0 rfl rfl
theorem dX12_isPerson_10 : decode cX12_isPerson 10 = .ok (.invokestatic 289, 3) := yd_op_184 (i := 10) (a := 1) (b := 33) yd_by_cX12_isPerson_0 rfl rfl
theorem dX12_isPerson_13 : decode cX12_isPerson 13 = .ok (.ireturn, 1) := yd_op_172 (i := 13) yd_by_cX12_isPerson_0 rfl rfl
set_option maxRecDepth 100000 in
theorem yd_by_cX12_cellMany_0 : ydk cX12_cellMany 0 [42, 180, 0, 102, 6, 46, 42, 180, 0, 102, 7, 46, 104, 172] = true := by decide +kernel
theorem dX12_cellMany_0 : decode cX12_cellMany 0 = .ok (.aload_n 0, 1) := yd_op_42 (i := 0) yd_by_cX12_cellMany_0 rfl rfl
theorem dX12_cellMany_1 : decode cX12_cellMany 1 = .ok (.getfield 102, 3) := yd_op_180 (i := 1) (a := 0) (b := 102) yd_by_cX12_cellMany_0 rfl rfl
theorem dX12_cellMany_4 : decode cX12_cellMany 4 = .ok (.iconst 3, 1) := yd_op_6 (i := 4) yd_by_cX12_cellMany_0 rfl rfl
theorem dX12_cellMany_5 : decode cX12_cellMany 5 = .ok (.iaload, 1) := yd_op_46 (i := 5) yd_by_cX12_cellMany_0 rfl rfl
theorem dX12_cellMany_6 : decode cX12_cellMany 6 = .ok (.aload_n 0, 1) := yd_op_42 (i := 6) yd_by_cX12_cellMany_0 rfl rfl
theorem dX12_cellMany_7 : decode cX12_cellMany 7 = .ok (.getfield 102, 3) := yd_op_180 (i := 7) (a := 0) (b := 102) yd_by_cX12_cellMany_0 rfl rfl
theorem dX12_cellMany_10 : decode cX12_cellMany 10 = .ok (.iconst 4, 1) := yd_op_7 (i := 10) yd_by_cX12_cellMany_0 rfl rfl
theorem dX12_cellMany_11 : decode cX12_cellMany 11 = .ok (.iaload, 1) := yd_op_46 (i := 11) yd_by_cX12_cellMany_0 rfl rfl
theorem dX12_cellMany_12 : decode cX12_cellMany 12 = .ok (.imul, 1) := yd_op_104 (i := 12) yd_by_cX12_cellMany_0 rfl rfl
theorem dX12_cellMany_13 : decode cX12_cellMany 13 = .ok (.ireturn, 1) := yd_op_172 (i := 13) yd_by_cX12_cellMany_0 rfl rfl
set_option maxRecDepth 100000 in
theorem yd_by_cX12_cellOf_0 : ydk cX12_cellOf 0 [27, 42, 180, 0, 102, 6, 46, 112, 16, 6, 27, 42, 180, 0, 102, 6, 46, 108, 104, 96, 172] = true := by decide +kernel
theorem dX12_cellOf_0 : decode cX12_cellOf 0 = .ok (.iload_n 1, 1) := yd_op_27 (i := 0) yd_by_cX12_cellOf_0 rfl rfl
theorem dX12_cellOf_1 : decode cX12_cellOf 1 = .ok (.aload_n 0, 1) := yd_op_42 (i := 1) yd_by_cX12_cellOf_0 rfl rfl
theorem dX12_cellOf_2 : decode cX12_cellOf 2 = .ok (.getfield 102, 3) := yd_op_180 (i := 2) (a := 0) (b := 102) yd_by_cX12_cellOf_0 rfl rfl
theorem dX12_cellOf_5 : decode cX12_cellOf 5 = .ok (.iconst 3, 1) := yd_op_6 (i := 5) yd_by_cX12_cellOf_0 rfl rfl
theorem dX12_cellOf_6 : decode cX12_cellOf 6 = .ok (.iaload, 1) := yd_op_46 (i := 6) yd_by_cX12_cellOf_0 rfl rfl
theorem dX12_cellOf_7 : decode cX12_cellOf 7 = .ok (.irem, 1) := yd_op_112 (i := 7) yd_by_cX12_cellOf_0 rfl rfl
theorem dX12_cellOf_8 : decode cX12_cellOf 8 = .ok (.bipush 6, 2) := yd_op_16 (i := 8) (a := 6) yd_by_cX12_cellOf_0 rfl rfl
theorem dX12_cellOf_10 : decode cX12_cellOf 10 = .ok (.iload_n 1, 1) := yd_op_27 (i := 10) yd_by_cX12_cellOf_0 rfl rfl
theorem dX12_cellOf_11 : decode cX12_cellOf 11 = .ok (.aload_n 0, 1) := yd_op_42 (i := 11) yd_by_cX12_cellOf_0 rfl rfl
theorem dX12_cellOf_12 : decode cX12_cellOf 12 = .ok (.getfield 102, 3) := yd_op_180 (i := 12) (a := 0) (b := 102) yd_by_cX12_cellOf_0 rfl rfl
theorem dX12_cellOf_15 : decode cX12_cellOf 15 = .ok (.iconst 3, 1) := yd_op_6 (i := 15) yd_by_cX12_cellOf_0 rfl rfl
theorem dX12_cellOf_16 : decode cX12_cellOf 16 = .ok (.iaload, 1) := yd_op_46 (i := 16) yd_by_cX12_cellOf_0 rfl rfl
theorem dX12_cellOf_17 : decode cX12_cellOf 17 = .ok (.idiv, 1) := yd_op_108 (i := 17) yd_by_cX12_cellOf_0 rfl rfl
theorem dX12_cellOf_18 : decode cX12_cellOf 18 = .ok (.imul, 1) := yd_op_104 (i := 18) yd_by_cX12_cellOf_0 rfl rfl
theorem dX12_cellOf_19 : decode cX12_cellOf 19 = .ok (.iadd, 1) := yd_op_96 (i := 19) yd_by_cX12_cellOf_0 rfl rfl
theorem dX12_cellOf_20 : decode cX12_cellOf 20 = .ok (.ireturn, 1) := yd_op_172 (i := 20) yd_by_cX12_cellOf_0 rfl rfl
set_option maxRecDepth 100000 in
theorem yd_by_cX12_cellAt_0 : ydk cX12_cellAt 0 [42, 180, 1, 119, 153, 0, 48, 27, 133, 9, 42, 180, 0, 102, 6, 46, 4, 100, 133, 184, 1, 33, 153, 0, 30, 28, 133, 9, 42, 180, 0, 102] = true := by decide +kernel
theorem dX12_cellAt_0 : decode cX12_cellAt 0 = .ok (.aload_n 0, 1) := yd_op_42 (i := 0) yd_by_cX12_cellAt_0 rfl rfl
theorem dX12_cellAt_1 : decode cX12_cellAt 1 = .ok (.getfield 375, 3) := yd_op_180 (i := 1) (a := 1) (b := 119) yd_by_cX12_cellAt_0 rfl rfl
theorem dX12_cellAt_4 : decode cX12_cellAt 4 = .ok (.ifCond .eq 48, 3) := yd_op_153 (i := 4) (a := 0) (b := 48) yd_by_cX12_cellAt_0 rfl rfl
theorem dX12_cellAt_7 : decode cX12_cellAt 7 = .ok (.iload_n 1, 1) := yd_op_27 (i := 7) yd_by_cX12_cellAt_0 rfl rfl
theorem dX12_cellAt_8 : decode cX12_cellAt 8 = .ok (.i2l, 1) := yd_op_133 (i := 8) yd_by_cX12_cellAt_0 rfl rfl
theorem dX12_cellAt_9 : decode cX12_cellAt 9 = .ok (.lconst 0, 1) := yd_op_9 (i := 9) yd_by_cX12_cellAt_0 rfl rfl
theorem dX12_cellAt_10 : decode cX12_cellAt 10 = .ok (.aload_n 0, 1) := yd_op_42 (i := 10) yd_by_cX12_cellAt_0 rfl rfl
theorem dX12_cellAt_11 : decode cX12_cellAt 11 = .ok (.getfield 102, 3) := yd_op_180 (i := 11) (a := 0) (b := 102) yd_by_cX12_cellAt_0 rfl rfl
theorem dX12_cellAt_14 : decode cX12_cellAt 14 = .ok (.iconst 3, 1) := yd_op_6 (i := 14) yd_by_cX12_cellAt_0 rfl rfl
theorem dX12_cellAt_15 : decode cX12_cellAt 15 = .ok (.iaload, 1) := yd_op_46 (i := 15) yd_by_cX12_cellAt_0 rfl rfl
theorem dX12_cellAt_16 : decode cX12_cellAt 16 = .ok (.iconst 1, 1) := yd_op_4 (i := 16) yd_by_cX12_cellAt_0 rfl rfl
theorem dX12_cellAt_17 : decode cX12_cellAt 17 = .ok (.isub, 1) := yd_op_100 (i := 17) yd_by_cX12_cellAt_0 rfl rfl
theorem dX12_cellAt_18 : decode cX12_cellAt 18 = .ok (.i2l, 1) := yd_op_133 (i := 18) yd_by_cX12_cellAt_0 rfl rfl
theorem dX12_cellAt_19 : decode cX12_cellAt 19 = .ok (.invokestatic 289, 3) := yd_op_184 (i := 19) (a := 1) (b := 33) yd_by_cX12_cellAt_0 rfl rfl
theorem dX12_cellAt_22 : decode cX12_cellAt 22 = .ok (.ifCond .eq 30, 3) := yd_op_153 (i := 22) (a := 0) (b := 30) yd_by_cX12_cellAt_0 rfl rfl
theorem dX12_cellAt_25 : decode cX12_cellAt 25 = .ok (.iload_n 2, 1) := yd_op_28 (i := 25) yd_by_cX12_cellAt_0 rfl rfl
theorem dX12_cellAt_26 : decode cX12_cellAt 26 = .ok (.i2l, 1) := yd_op_133 (i := 26) yd_by_cX12_cellAt_0 rfl rfl
theorem dX12_cellAt_27 : decode cX12_cellAt 27 = .ok (.lconst 0, 1) := yd_op_9 (i := 27) yd_by_cX12_cellAt_0 rfl rfl
theorem dX12_cellAt_28 : decode cX12_cellAt 28 = .ok (.aload_n 0, 1) := yd_op_42 (i := 28) yd_by_cX12_cellAt_0 rfl rfl
theorem dX12_cellAt_29 : decode cX12_cellAt 29 = .ok (.getfield 102, 3) := yd_op_180 (i := 29) (a := 0) (b := 102) yd_by_cX12_cellAt_0 rfl rfl
set_option maxRecDepth 100000 in
theorem yd_by_cX12_cellAt_1 : ydk cX12_cellAt 32 [7, 46, 4, 100, 133, 184, 1, 33, 153, 0, 12, 27, 16, 6, 28, 104, 96, 167, 0, 4, 2, 172] = true := by decide +kernel
theorem dX12_cellAt_32 : decode cX12_cellAt 32 = .ok (.iconst 4, 1) := yd_op_7 (i := 0) yd_by_cX12_cellAt_1 rfl rfl
theorem dX12_cellAt_33 : decode cX12_cellAt 33 = .ok (.iaload, 1) := yd_op_46 (i := 1) yd_by_cX12_cellAt_1 rfl rfl
theorem dX12_cellAt_34 : decode cX12_cellAt 34 = .ok (.iconst 1, 1) := yd_op_4 (i := 2) yd_by_cX12_cellAt_1 rfl rfl
theorem dX12_cellAt_35 : decode cX12_cellAt 35 = .ok (.isub, 1) := yd_op_100 (i := 3) yd_by_cX12_cellAt_1 rfl rfl
theorem dX12_cellAt_36 : decode cX12_cellAt 36 = .ok (.i2l, 1) := yd_op_133 (i := 4) yd_by_cX12_cellAt_1 rfl rfl
theorem dX12_cellAt_37 : decode cX12_cellAt 37 = .ok (.invokestatic 289, 3) := yd_op_184 (i := 5) (a := 1) (b := 33) yd_by_cX12_cellAt_1 rfl rfl
theorem dX12_cellAt_40 : decode cX12_cellAt 40 = .ok (.ifCond .eq 12, 3) := yd_op_153 (i := 8) (a := 0) (b := 12) yd_by_cX12_cellAt_1 rfl rfl
theorem dX12_cellAt_43 : decode cX12_cellAt 43 = .ok (.iload_n 1, 1) := yd_op_27 (i := 11) yd_by_cX12_cellAt_1 rfl rfl
theorem dX12_cellAt_44 : decode cX12_cellAt 44 = .ok (.bipush 6, 2) := yd_op_16 (i := 12) (a := 6) yd_by_cX12_cellAt_1 rfl rfl
theorem dX12_cellAt_46 : decode cX12_cellAt 46 = .ok (.iload_n 2, 1) := yd_op_28 (i := 14) yd_by_cX12_cellAt_1 rfl rfl
theorem dX12_cellAt_47 : decode cX12_cellAt 47 = .ok (.imul, 1) := yd_op_104 (i := 15) yd_by_cX12_cellAt_1 rfl rfl
theorem dX12_cellAt_48 : decode cX12_cellAt 48 = .ok (.iadd, 1) := yd_op_96 (i := 16) yd_by_cX12_cellAt_1 rfl rfl
theorem dX12_cellAt_49 : decode cX12_cellAt 49 = .ok (.goto 4, 3) := yd_op_167 (i := 17) (a := 0) (b := 4) yd_by_cX12_cellAt_1 rfl rfl
theorem dX12_cellAt_52 : decode cX12_cellAt 52 = .ok (.iconst (-1), 1) := yd_op_2 (i := 20) yd_by_cX12_cellAt_1 rfl rfl
theorem dX12_cellAt_53 : decode cX12_cellAt 53 = .ok (.ireturn, 1) := yd_op_172 (i := 21) yd_by_cX12_cellAt_1 rfl rfl
set_option maxRecDepth 100000 in
theorem yd_by_cX12_isCracked_0 : ydk cX12_isCracked 0 [42, 180, 0, 130, 4, 27, 96, 46, 4, 160, 0, 7, 4, 167, 0, 4, 3, 172] = true := by decide +kernel
theorem dX12_isCracked_0 : decode cX12_isCracked 0 = .ok (.aload_n 0, 1) := yd_op_42 (i := 0) yd_by_cX12_isCracked_0 rfl rfl
theorem dX12_isCracked_1 : decode cX12_isCracked 1 = .ok (.getfield 130, 3) := yd_op_180 (i := 1) (a := 0) (b := 130) yd_by_cX12_isCracked_0 rfl rfl
theorem dX12_isCracked_4 : decode cX12_isCracked 4 = .ok (.iconst 1, 1) := yd_op_4 (i := 4) yd_by_cX12_isCracked_0 rfl rfl
theorem dX12_isCracked_5 : decode cX12_isCracked 5 = .ok (.iload_n 1, 1) := yd_op_27 (i := 5) yd_by_cX12_isCracked_0 rfl rfl
theorem dX12_isCracked_6 : decode cX12_isCracked 6 = .ok (.iadd, 1) := yd_op_96 (i := 6) yd_by_cX12_isCracked_0 rfl rfl
theorem dX12_isCracked_7 : decode cX12_isCracked 7 = .ok (.iaload, 1) := yd_op_46 (i := 7) yd_by_cX12_isCracked_0 rfl rfl
theorem dX12_isCracked_8 : decode cX12_isCracked 8 = .ok (.iconst 1, 1) := yd_op_4 (i := 8) yd_by_cX12_isCracked_0 rfl rfl
theorem dX12_isCracked_9 : decode cX12_isCracked 9 = .ok (.if_icmp .ne 7, 3) := yd_op_160 (i := 9) (a := 0) (b := 7) yd_by_cX12_isCracked_0 rfl rfl
theorem dX12_isCracked_12 : decode cX12_isCracked 12 = .ok (.iconst 1, 1) := yd_op_4 (i := 12) yd_by_cX12_isCracked_0 rfl rfl
theorem dX12_isCracked_13 : decode cX12_isCracked 13 = .ok (.goto 4, 3) := yd_op_167 (i := 13) (a := 0) (b := 4) yd_by_cX12_isCracked_0 rfl rfl
theorem dX12_isCracked_16 : decode cX12_isCracked 16 = .ok (.iconst 0, 1) := yd_op_3 (i := 16) yd_by_cX12_isCracked_0 rfl rfl
theorem dX12_isCracked_17 : decode cX12_isCracked 17 = .ok (.ireturn, 1) := yd_op_172 (i := 17) yd_by_cX12_isCracked_0 rfl rfl
set_option maxRecDepth 100000 in
theorem yd_by_cX12_crackedMany_0 : ydk cX12_crackedMany 0 [3, 60, 3, 61, 28, 16, 36, 162, 0, 20, 27, 42, 180, 0, 130, 4, 28, 96, 46, 96, 60, 132, 2, 1, 167, 255, 236, 27, 172] = true := by decide +kernel
theorem dX12_crackedMany_0 : decode cX12_crackedMany 0 = .ok (.iconst 0, 1) := yd_op_3 (i := 0) yd_by_cX12_crackedMany_0 rfl rfl
theorem dX12_crackedMany_1 : decode cX12_crackedMany 1 = .ok (.istore_n 1, 1) := yd_op_60 (i := 1) yd_by_cX12_crackedMany_0 rfl rfl
theorem dX12_crackedMany_2 : decode cX12_crackedMany 2 = .ok (.iconst 0, 1) := yd_op_3 (i := 2) yd_by_cX12_crackedMany_0 rfl rfl
theorem dX12_crackedMany_3 : decode cX12_crackedMany 3 = .ok (.istore_n 2, 1) := yd_op_61 (i := 3) yd_by_cX12_crackedMany_0 rfl rfl
theorem dX12_crackedMany_4 : decode cX12_crackedMany 4 = .ok (.iload_n 2, 1) := yd_op_28 (i := 4) yd_by_cX12_crackedMany_0 rfl rfl
theorem dX12_crackedMany_5 : decode cX12_crackedMany 5 = .ok (.bipush 36, 2) := yd_op_16 (i := 5) (a := 36) yd_by_cX12_crackedMany_0 rfl rfl
theorem dX12_crackedMany_7 : decode cX12_crackedMany 7 = .ok (.if_icmp .ge 20, 3) := yd_op_162 (i := 7) (a := 0) (b := 20) yd_by_cX12_crackedMany_0 rfl rfl
theorem dX12_crackedMany_10 : decode cX12_crackedMany 10 = .ok (.iload_n 1, 1) := yd_op_27 (i := 10) yd_by_cX12_crackedMany_0 rfl rfl
theorem dX12_crackedMany_11 : decode cX12_crackedMany 11 = .ok (.aload_n 0, 1) := yd_op_42 (i := 11) yd_by_cX12_crackedMany_0 rfl rfl
theorem dX12_crackedMany_12 : decode cX12_crackedMany 12 = .ok (.getfield 130, 3) := yd_op_180 (i := 12) (a := 0) (b := 130) yd_by_cX12_crackedMany_0 rfl rfl
theorem dX12_crackedMany_15 : decode cX12_crackedMany 15 = .ok (.iconst 1, 1) := yd_op_4 (i := 15) yd_by_cX12_crackedMany_0 rfl rfl
theorem dX12_crackedMany_16 : decode cX12_crackedMany 16 = .ok (.iload_n 2, 1) := yd_op_28 (i := 16) yd_by_cX12_crackedMany_0 rfl rfl
theorem dX12_crackedMany_17 : decode cX12_crackedMany 17 = .ok (.iadd, 1) := yd_op_96 (i := 17) yd_by_cX12_crackedMany_0 rfl rfl
theorem dX12_crackedMany_18 : decode cX12_crackedMany 18 = .ok (.iaload, 1) := yd_op_46 (i := 18) yd_by_cX12_crackedMany_0 rfl rfl
theorem dX12_crackedMany_19 : decode cX12_crackedMany 19 = .ok (.iadd, 1) := yd_op_96 (i := 19) yd_by_cX12_crackedMany_0 rfl rfl
theorem dX12_crackedMany_20 : decode cX12_crackedMany 20 = .ok (.istore_n 1, 1) := yd_op_60 (i := 20) yd_by_cX12_crackedMany_0 rfl rfl
theorem dX12_crackedMany_21 : decode cX12_crackedMany 21 = .ok (.iinc 2 1, 3) := yd_op_132 (i := 21) (a := 2) (b := 1) yd_by_cX12_crackedMany_0 rfl rfl
theorem dX12_crackedMany_24 : decode cX12_crackedMany 24 = .ok (.goto (-20), 3) := yd_op_167 (i := 24) (a := 255) (b := 236) yd_by_cX12_crackedMany_0 rfl rfl
theorem dX12_crackedMany_27 : decode cX12_crackedMany 27 = .ok (.iload_n 1, 1) := yd_op_27 (i := 27) yd_by_cX12_crackedMany_0 rfl rfl
theorem dX12_crackedMany_28 : decode cX12_crackedMany 28 = .ok (.ireturn, 1) := yd_op_172 (i := 28) yd_by_cX12_crackedMany_0 rfl rfl
set_option maxRecDepth 100000 in
theorem yd_by_cX12_placeOf_0 : ydk cX12_placeOf 0 [42, 180, 0, 130, 16, 37, 6, 27, 104, 96, 46, 172] = true := by decide +kernel
theorem dX12_placeOf_0 : decode cX12_placeOf 0 = .ok (.aload_n 0, 1) := yd_op_42 (i := 0) yd_by_cX12_placeOf_0 rfl rfl
theorem dX12_placeOf_1 : decode cX12_placeOf 1 = .ok (.getfield 130, 3) := yd_op_180 (i := 1) (a := 0) (b := 130) yd_by_cX12_placeOf_0 rfl rfl
theorem dX12_placeOf_4 : decode cX12_placeOf 4 = .ok (.bipush 37, 2) := yd_op_16 (i := 4) (a := 37) yd_by_cX12_placeOf_0 rfl rfl
theorem dX12_placeOf_6 : decode cX12_placeOf 6 = .ok (.iconst 3, 1) := yd_op_6 (i := 6) yd_by_cX12_placeOf_0 rfl rfl
theorem dX12_placeOf_7 : decode cX12_placeOf 7 = .ok (.iload_n 1, 1) := yd_op_27 (i := 7) yd_by_cX12_placeOf_0 rfl rfl
theorem dX12_placeOf_8 : decode cX12_placeOf 8 = .ok (.imul, 1) := yd_op_104 (i := 8) yd_by_cX12_placeOf_0 rfl rfl
theorem dX12_placeOf_9 : decode cX12_placeOf 9 = .ok (.iadd, 1) := yd_op_96 (i := 9) yd_by_cX12_placeOf_0 rfl rfl
theorem dX12_placeOf_10 : decode cX12_placeOf 10 = .ok (.iaload, 1) := yd_op_46 (i := 10) yd_by_cX12_placeOf_0 rfl rfl
theorem dX12_placeOf_11 : decode cX12_placeOf 11 = .ok (.ireturn, 1) := yd_op_172 (i := 11) yd_by_cX12_placeOf_0 rfl rfl
set_option maxRecDepth 100000 in
theorem yd_by_cX12_tiredOf_0 : ydk cX12_tiredOf 0 [42, 180, 0, 130, 16, 37, 6, 27, 104, 96, 4, 96, 46, 172] = true := by decide +kernel
theorem dX12_tiredOf_0 : decode cX12_tiredOf 0 = .ok (.aload_n 0, 1) := yd_op_42 (i := 0) yd_by_cX12_tiredOf_0 rfl rfl
theorem dX12_tiredOf_1 : decode cX12_tiredOf 1 = .ok (.getfield 130, 3) := yd_op_180 (i := 1) (a := 0) (b := 130) yd_by_cX12_tiredOf_0 rfl rfl
theorem dX12_tiredOf_4 : decode cX12_tiredOf 4 = .ok (.bipush 37, 2) := yd_op_16 (i := 4) (a := 37) yd_by_cX12_tiredOf_0 rfl rfl
theorem dX12_tiredOf_6 : decode cX12_tiredOf 6 = .ok (.iconst 3, 1) := yd_op_6 (i := 6) yd_by_cX12_tiredOf_0 rfl rfl
theorem dX12_tiredOf_7 : decode cX12_tiredOf 7 = .ok (.iload_n 1, 1) := yd_op_27 (i := 7) yd_by_cX12_tiredOf_0 rfl rfl
theorem dX12_tiredOf_8 : decode cX12_tiredOf 8 = .ok (.imul, 1) := yd_op_104 (i := 8) yd_by_cX12_tiredOf_0 rfl rfl
theorem dX12_tiredOf_9 : decode cX12_tiredOf 9 = .ok (.iadd, 1) := yd_op_96 (i := 9) yd_by_cX12_tiredOf_0 rfl rfl
theorem dX12_tiredOf_10 : decode cX12_tiredOf 10 = .ok (.iconst 1, 1) := yd_op_4 (i := 10) yd_by_cX12_tiredOf_0 rfl rfl
theorem dX12_tiredOf_11 : decode cX12_tiredOf 11 = .ok (.iadd, 1) := yd_op_96 (i := 11) yd_by_cX12_tiredOf_0 rfl rfl
theorem dX12_tiredOf_12 : decode cX12_tiredOf 12 = .ok (.iaload, 1) := yd_op_46 (i := 12) yd_by_cX12_tiredOf_0 rfl rfl
theorem dX12_tiredOf_13 : decode cX12_tiredOf 13 = .ok (.ireturn, 1) := yd_op_172 (i := 13) yd_by_cX12_tiredOf_0 rfl rfl
set_option maxRecDepth 100000 in
theorem yd_by_cX12_isAtRest_0 : ydk cX12_isAtRest 0 [42, 180, 0, 130, 16, 37, 6, 27, 104, 96, 5, 96, 46, 4, 160, 0, 7, 4, 167, 0, 4, 3, 172] = true := by decide +kernel
theorem dX12_isAtRest_0 : decode cX12_isAtRest 0 = .ok (.aload_n 0, 1) := yd_op_42 (i := 0) yd_by_cX12_isAtRest_0 rfl rfl
theorem dX12_isAtRest_1 : decode cX12_isAtRest 1 = .ok (.getfield 130, 3) := yd_op_180 (i := 1) (a := 0) (b := 130) yd_by_cX12_isAtRest_0 rfl rfl
theorem dX12_isAtRest_4 : decode cX12_isAtRest 4 = .ok (.bipush 37, 2) := yd_op_16 (i := 4) (a := 37) yd_by_cX12_isAtRest_0 rfl rfl
theorem dX12_isAtRest_6 : decode cX12_isAtRest 6 = .ok (.iconst 3, 1) := yd_op_6 (i := 6) yd_by_cX12_isAtRest_0 rfl rfl
theorem dX12_isAtRest_7 : decode cX12_isAtRest 7 = .ok (.iload_n 1, 1) := yd_op_27 (i := 7) yd_by_cX12_isAtRest_0 rfl rfl
theorem dX12_isAtRest_8 : decode cX12_isAtRest 8 = .ok (.imul, 1) := yd_op_104 (i := 8) yd_by_cX12_isAtRest_0 rfl rfl
theorem dX12_isAtRest_9 : decode cX12_isAtRest 9 = .ok (.iadd, 1) := yd_op_96 (i := 9) yd_by_cX12_isAtRest_0 rfl rfl
theorem dX12_isAtRest_10 : decode cX12_isAtRest 10 = .ok (.iconst 2, 1) := yd_op_5 (i := 10) yd_by_cX12_isAtRest_0 rfl rfl
theorem dX12_isAtRest_11 : decode cX12_isAtRest 11 = .ok (.iadd, 1) := yd_op_96 (i := 11) yd_by_cX12_isAtRest_0 rfl rfl
theorem dX12_isAtRest_12 : decode cX12_isAtRest 12 = .ok (.iaload, 1) := yd_op_46 (i := 12) yd_by_cX12_isAtRest_0 rfl rfl
theorem dX12_isAtRest_13 : decode cX12_isAtRest 13 = .ok (.iconst 1, 1) := yd_op_4 (i := 13) yd_by_cX12_isAtRest_0 rfl rfl
theorem dX12_isAtRest_14 : decode cX12_isAtRest 14 = .ok (.if_icmp .ne 7, 3) := yd_op_160 (i := 14) (a := 0) (b := 7) yd_by_cX12_isAtRest_0 rfl rfl
theorem dX12_isAtRest_17 : decode cX12_isAtRest 17 = .ok (.iconst 1, 1) := yd_op_4 (i := 17) yd_by_cX12_isAtRest_0 rfl rfl
theorem dX12_isAtRest_18 : decode cX12_isAtRest 18 = .ok (.goto 4, 3) := yd_op_167 (i := 18) (a := 0) (b := 4) yd_by_cX12_isAtRest_0 rfl rfl
theorem dX12_isAtRest_21 : decode cX12_isAtRest 21 = .ok (.iconst 0, 1) := yd_op_3 (i := 21) yd_by_cX12_isAtRest_0 rfl rfl
theorem dX12_isAtRest_22 : decode cX12_isAtRest 22 = .ok (.ireturn, 1) := yd_op_172 (i := 22) yd_by_cX12_isAtRest_0 rfl rfl
set_option maxRecDepth 100000 in
theorem yd_by_cX12_strengthOf_0 : ydk cX12_strengthOf 0 [42, 180, 0, 115, 16, 21, 5, 27, 104, 96, 46, 42, 180, 1, 132, 96, 172] = true := by decide +kernel
theorem dX12_strengthOf_0 : decode cX12_strengthOf 0 = .ok (.aload_n 0, 1) := yd_op_42 (i := 0) yd_by_cX12_strengthOf_0 rfl rfl
theorem dX12_strengthOf_1 : decode cX12_strengthOf 1 = .ok (.getfield 115, 3) := yd_op_180 (i := 1) (a := 0) (b := 115) yd_by_cX12_strengthOf_0 rfl rfl
theorem dX12_strengthOf_4 : decode cX12_strengthOf 4 = .ok (.bipush 21, 2) := yd_op_16 (i := 4) (a := 21) yd_by_cX12_strengthOf_0 rfl rfl
theorem dX12_strengthOf_6 : decode cX12_strengthOf 6 = .ok (.iconst 2, 1) := yd_op_5 (i := 6) yd_by_cX12_strengthOf_0 rfl rfl
theorem dX12_strengthOf_7 : decode cX12_strengthOf 7 = .ok (.iload_n 1, 1) := yd_op_27 (i := 7) yd_by_cX12_strengthOf_0 rfl rfl
theorem dX12_strengthOf_8 : decode cX12_strengthOf 8 = .ok (.imul, 1) := yd_op_104 (i := 8) yd_by_cX12_strengthOf_0 rfl rfl
theorem dX12_strengthOf_9 : decode cX12_strengthOf 9 = .ok (.iadd, 1) := yd_op_96 (i := 9) yd_by_cX12_strengthOf_0 rfl rfl
theorem dX12_strengthOf_10 : decode cX12_strengthOf 10 = .ok (.iaload, 1) := yd_op_46 (i := 10) yd_by_cX12_strengthOf_0 rfl rfl
theorem dX12_strengthOf_11 : decode cX12_strengthOf 11 = .ok (.aload_n 0, 1) := yd_op_42 (i := 11) yd_by_cX12_strengthOf_0 rfl rfl
theorem dX12_strengthOf_12 : decode cX12_strengthOf 12 = .ok (.getfield 388, 3) := yd_op_180 (i := 12) (a := 1) (b := 132) yd_by_cX12_strengthOf_0 rfl rfl
theorem dX12_strengthOf_15 : decode cX12_strengthOf 15 = .ok (.iadd, 1) := yd_op_96 (i := 15) yd_by_cX12_strengthOf_0 rfl rfl
theorem dX12_strengthOf_16 : decode cX12_strengthOf 16 = .ok (.ireturn, 1) := yd_op_172 (i := 16) yd_by_cX12_strengthOf_0 rfl rfl
set_option maxRecDepth 100000 in
theorem yd_by_cX12_apart_0 : ydk cX12_apart 0 [26, 16, 6, 112, 27, 16, 6, 112, 100, 61, 26, 16, 6, 108, 27, 16, 6, 108, 100, 62, 28, 156, 0, 8, 28, 116] = true := by decide +kernel
theorem dX12_apart_0 : decode cX12_apart 0 = .ok (.iload_n 0, 1) := yd_op_26 (i := 0) yd_by_cX12_apart_0 rfl rfl
theorem dX12_apart_1 : decode cX12_apart 1 = .ok (.bipush 6, 2) := yd_op_16 (i := 1) (a := 6) yd_by_cX12_apart_0 rfl rfl
theorem dX12_apart_3 : decode cX12_apart 3 = .ok (.irem, 1) := yd_op_112 (i := 3) yd_by_cX12_apart_0 rfl rfl
theorem dX12_apart_4 : decode cX12_apart 4 = .ok (.iload_n 1, 1) := yd_op_27 (i := 4) yd_by_cX12_apart_0 rfl rfl
theorem dX12_apart_5 : decode cX12_apart 5 = .ok (.bipush 6, 2) := yd_op_16 (i := 5) (a := 6) yd_by_cX12_apart_0 rfl rfl
theorem dX12_apart_7 : decode cX12_apart 7 = .ok (.irem, 1) := yd_op_112 (i := 7) yd_by_cX12_apart_0 rfl rfl
theorem dX12_apart_8 : decode cX12_apart 8 = .ok (.isub, 1) := yd_op_100 (i := 8) yd_by_cX12_apart_0 rfl rfl
theorem dX12_apart_9 : decode cX12_apart 9 = .ok (.istore_n 2, 1) := yd_op_61 (i := 9) yd_by_cX12_apart_0 rfl rfl
theorem dX12_apart_10 : decode cX12_apart 10 = .ok (.iload_n 0, 1) := yd_op_26 (i := 10) yd_by_cX12_apart_0 rfl rfl
theorem dX12_apart_11 : decode cX12_apart 11 = .ok (.bipush 6, 2) := yd_op_16 (i := 11) (a := 6) yd_by_cX12_apart_0 rfl rfl
theorem dX12_apart_13 : decode cX12_apart 13 = .ok (.idiv, 1) := yd_op_108 (i := 13) yd_by_cX12_apart_0 rfl rfl
theorem dX12_apart_14 : decode cX12_apart 14 = .ok (.iload_n 1, 1) := yd_op_27 (i := 14) yd_by_cX12_apart_0 rfl rfl
theorem dX12_apart_15 : decode cX12_apart 15 = .ok (.bipush 6, 2) := yd_op_16 (i := 15) (a := 6) yd_by_cX12_apart_0 rfl rfl
theorem dX12_apart_17 : decode cX12_apart 17 = .ok (.idiv, 1) := yd_op_108 (i := 17) yd_by_cX12_apart_0 rfl rfl
theorem dX12_apart_18 : decode cX12_apart 18 = .ok (.isub, 1) := yd_op_100 (i := 18) yd_by_cX12_apart_0 rfl rfl
theorem dX12_apart_19 : decode cX12_apart 19 = .ok (.istore_n 3, 1) := yd_op_62 (i := 19) yd_by_cX12_apart_0 rfl rfl
theorem dX12_apart_20 : decode cX12_apart 20 = .ok (.iload_n 2, 1) := yd_op_28 (i := 20) yd_by_cX12_apart_0 rfl rfl
theorem dX12_apart_21 : decode cX12_apart 21 = .ok (.ifCond .ge 8, 3) := yd_op_156 (i := 21) (a := 0) (b := 8) yd_by_cX12_apart_0 rfl rfl
theorem dX12_apart_24 : decode cX12_apart 24 = .ok (.iload_n 2, 1) := yd_op_28 (i := 24) yd_by_cX12_apart_0 rfl rfl
theorem dX12_apart_25 : decode cX12_apart 25 = .ok (.ineg, 1) := yd_op_116 (i := 25) yd_by_cX12_apart_0 rfl rfl
set_option maxRecDepth 100000 in
theorem yd_by_cX12_apart_1 : ydk cX12_apart 26 [167, 0, 4, 28, 29, 156, 0, 8, 29, 116, 167, 0, 4, 29, 96, 172] = true := by decide +kernel
theorem dX12_apart_26 : decode cX12_apart 26 = .ok (.goto 4, 3) := yd_op_167 (i := 0) (a := 0) (b := 4) yd_by_cX12_apart_1 rfl rfl
theorem dX12_apart_29 : decode cX12_apart 29 = .ok (.iload_n 2, 1) := yd_op_28 (i := 3) yd_by_cX12_apart_1 rfl rfl
theorem dX12_apart_30 : decode cX12_apart 30 = .ok (.iload_n 3, 1) := yd_op_29 (i := 4) yd_by_cX12_apart_1 rfl rfl
theorem dX12_apart_31 : decode cX12_apart 31 = .ok (.ifCond .ge 8, 3) := yd_op_156 (i := 5) (a := 0) (b := 8) yd_by_cX12_apart_1 rfl rfl
theorem dX12_apart_34 : decode cX12_apart 34 = .ok (.iload_n 3, 1) := yd_op_29 (i := 8) yd_by_cX12_apart_1 rfl rfl
theorem dX12_apart_35 : decode cX12_apart 35 = .ok (.ineg, 1) := yd_op_116 (i := 9) yd_by_cX12_apart_1 rfl rfl
theorem dX12_apart_36 : decode cX12_apart 36 = .ok (.goto 4, 3) := yd_op_167 (i := 10) (a := 0) (b := 4) yd_by_cX12_apart_1 rfl rfl
theorem dX12_apart_39 : decode cX12_apart 39 = .ok (.iload_n 3, 1) := yd_op_29 (i := 13) yd_by_cX12_apart_1 rfl rfl
theorem dX12_apart_40 : decode cX12_apart 40 = .ok (.iadd, 1) := yd_op_96 (i := 14) yd_by_cX12_apart_1 rfl rfl
theorem dX12_apart_41 : decode cX12_apart 41 = .ok (.ireturn, 1) := yd_op_172 (i := 15) yd_by_cX12_apart_1 rfl rfl
set_option maxRecDepth 100000 in
theorem yd_by_cX12_nearOf_0 : ydk cX12_nearOf 0 [3, 61, 3, 62, 29, 42, 182, 1, 129, 162, 0, 29, 42, 27, 182, 1, 135, 42, 29, 182, 1, 135, 184, 1, 139, 4, 160, 0, 6, 132, 2, 1, 132, 3, 1, 167, 255, 225] = true := by decide +kernel
theorem dX12_nearOf_0 : decode cX12_nearOf 0 = .ok (.iconst 0, 1) := yd_op_3 (i := 0) yd_by_cX12_nearOf_0 rfl rfl
theorem dX12_nearOf_1 : decode cX12_nearOf 1 = .ok (.istore_n 2, 1) := yd_op_61 (i := 1) yd_by_cX12_nearOf_0 rfl rfl
theorem dX12_nearOf_2 : decode cX12_nearOf 2 = .ok (.iconst 0, 1) := yd_op_3 (i := 2) yd_by_cX12_nearOf_0 rfl rfl
theorem dX12_nearOf_3 : decode cX12_nearOf 3 = .ok (.istore_n 3, 1) := yd_op_62 (i := 3) yd_by_cX12_nearOf_0 rfl rfl
theorem dX12_nearOf_4 : decode cX12_nearOf 4 = .ok (.iload_n 3, 1) := yd_op_29 (i := 4) yd_by_cX12_nearOf_0 rfl rfl
theorem dX12_nearOf_5 : decode cX12_nearOf 5 = .ok (.aload_n 0, 1) := yd_op_42 (i := 5) yd_by_cX12_nearOf_0 rfl rfl
theorem dX12_nearOf_6 : decode cX12_nearOf 6 = .ok (.invokevirtual 385, 3) := yd_op_182 (i := 6) (a := 1) (b := 129) yd_by_cX12_nearOf_0 rfl rfl
theorem dX12_nearOf_9 : decode cX12_nearOf 9 = .ok (.if_icmp .ge 29, 3) := yd_op_162 (i := 9) (a := 0) (b := 29) yd_by_cX12_nearOf_0 rfl rfl
theorem dX12_nearOf_12 : decode cX12_nearOf 12 = .ok (.aload_n 0, 1) := yd_op_42 (i := 12) yd_by_cX12_nearOf_0 rfl rfl
theorem dX12_nearOf_13 : decode cX12_nearOf 13 = .ok (.iload_n 1, 1) := yd_op_27 (i := 13) yd_by_cX12_nearOf_0 rfl rfl
theorem dX12_nearOf_14 : decode cX12_nearOf 14 = .ok (.invokevirtual 391, 3) := yd_op_182 (i := 14) (a := 1) (b := 135) yd_by_cX12_nearOf_0 rfl rfl
theorem dX12_nearOf_17 : decode cX12_nearOf 17 = .ok (.aload_n 0, 1) := yd_op_42 (i := 17) yd_by_cX12_nearOf_0 rfl rfl
theorem dX12_nearOf_18 : decode cX12_nearOf 18 = .ok (.iload_n 3, 1) := yd_op_29 (i := 18) yd_by_cX12_nearOf_0 rfl rfl
theorem dX12_nearOf_19 : decode cX12_nearOf 19 = .ok (.invokevirtual 391, 3) := yd_op_182 (i := 19) (a := 1) (b := 135) yd_by_cX12_nearOf_0 rfl rfl
theorem dX12_nearOf_22 : decode cX12_nearOf 22 = .ok (.invokestatic 395, 3) := yd_op_184 (i := 22) (a := 1) (b := 139) yd_by_cX12_nearOf_0 rfl rfl
theorem dX12_nearOf_25 : decode cX12_nearOf 25 = .ok (.iconst 1, 1) := yd_op_4 (i := 25) yd_by_cX12_nearOf_0 rfl rfl
theorem dX12_nearOf_26 : decode cX12_nearOf 26 = .ok (.if_icmp .ne 6, 3) := yd_op_160 (i := 26) (a := 0) (b := 6) yd_by_cX12_nearOf_0 rfl rfl
theorem dX12_nearOf_29 : decode cX12_nearOf 29 = .ok (.iinc 2 1, 3) := yd_op_132 (i := 29) (a := 2) (b := 1) yd_by_cX12_nearOf_0 rfl rfl
theorem dX12_nearOf_32 : decode cX12_nearOf 32 = .ok (.iinc 3 1, 3) := yd_op_132 (i := 32) (a := 3) (b := 1) yd_by_cX12_nearOf_0 rfl rfl
theorem dX12_nearOf_35 : decode cX12_nearOf 35 = .ok (.goto (-31), 3) := yd_op_167 (i := 35) (a := 255) (b := 225) yd_by_cX12_nearOf_0 rfl rfl
set_option maxRecDepth 100000 in
theorem yd_by_cX12_nearOf_1 : ydk cX12_nearOf 38 [28, 172] = true := by decide +kernel
theorem dX12_nearOf_38 : decode cX12_nearOf 38 = .ok (.iload_n 2, 1) := yd_op_28 (i := 0) yd_by_cX12_nearOf_1 rfl rfl
theorem dX12_nearOf_39 : decode cX12_nearOf 39 = .ok (.ireturn, 1) := yd_op_172 (i := 1) yd_by_cX12_nearOf_1 rfl rfl
set_option maxRecDepth 100000 in
theorem yd_by_cX12_standsAt_0 : ydk cX12_standsAt 0 [3, 61, 28, 42, 182, 1, 129, 162, 0, 20, 42, 28, 182, 1, 135, 27, 160, 0, 5, 28, 172, 132, 2, 1, 167, 255, 234, 2, 172] = true := by decide +kernel
theorem dX12_standsAt_0 : decode cX12_standsAt 0 = .ok (.iconst 0, 1) := yd_op_3 (i := 0) yd_by_cX12_standsAt_0 rfl rfl
theorem dX12_standsAt_1 : decode cX12_standsAt 1 = .ok (.istore_n 2, 1) := yd_op_61 (i := 1) yd_by_cX12_standsAt_0 rfl rfl
theorem dX12_standsAt_2 : decode cX12_standsAt 2 = .ok (.iload_n 2, 1) := yd_op_28 (i := 2) yd_by_cX12_standsAt_0 rfl rfl
theorem dX12_standsAt_3 : decode cX12_standsAt 3 = .ok (.aload_n 0, 1) := yd_op_42 (i := 3) yd_by_cX12_standsAt_0 rfl rfl
theorem dX12_standsAt_4 : decode cX12_standsAt 4 = .ok (.invokevirtual 385, 3) := yd_op_182 (i := 4) (a := 1) (b := 129) yd_by_cX12_standsAt_0 rfl rfl
theorem dX12_standsAt_7 : decode cX12_standsAt 7 = .ok (.if_icmp .ge 20, 3) := yd_op_162 (i := 7) (a := 0) (b := 20) yd_by_cX12_standsAt_0 rfl rfl
theorem dX12_standsAt_10 : decode cX12_standsAt 10 = .ok (.aload_n 0, 1) := yd_op_42 (i := 10) yd_by_cX12_standsAt_0 rfl rfl
theorem dX12_standsAt_11 : decode cX12_standsAt 11 = .ok (.iload_n 2, 1) := yd_op_28 (i := 11) yd_by_cX12_standsAt_0 rfl rfl
theorem dX12_standsAt_12 : decode cX12_standsAt 12 = .ok (.invokevirtual 391, 3) := yd_op_182 (i := 12) (a := 1) (b := 135) yd_by_cX12_standsAt_0 rfl rfl
theorem dX12_standsAt_15 : decode cX12_standsAt 15 = .ok (.iload_n 1, 1) := yd_op_27 (i := 15) yd_by_cX12_standsAt_0 rfl rfl
theorem dX12_standsAt_16 : decode cX12_standsAt 16 = .ok (.if_icmp .ne 5, 3) := yd_op_160 (i := 16) (a := 0) (b := 5) yd_by_cX12_standsAt_0 rfl rfl
theorem dX12_standsAt_19 : decode cX12_standsAt 19 = .ok (.iload_n 2, 1) := yd_op_28 (i := 19) yd_by_cX12_standsAt_0 rfl rfl
theorem dX12_standsAt_20 : decode cX12_standsAt 20 = .ok (.ireturn, 1) := yd_op_172 (i := 20) yd_by_cX12_standsAt_0 rfl rfl
theorem dX12_standsAt_21 : decode cX12_standsAt 21 = .ok (.iinc 2 1, 3) := yd_op_132 (i := 21) (a := 2) (b := 1) yd_by_cX12_standsAt_0 rfl rfl
theorem dX12_standsAt_24 : decode cX12_standsAt 24 = .ok (.goto (-22), 3) := yd_op_167 (i := 24) (a := 255) (b := 234) yd_by_cX12_standsAt_0 rfl rfl
theorem dX12_standsAt_27 : decode cX12_standsAt 27 = .ok (.iconst (-1), 1) := yd_op_2 (i := 27) yd_by_cX12_standsAt_0 rfl rfl
theorem dX12_standsAt_28 : decode cX12_standsAt 28 = .ok (.ireturn, 1) := yd_op_172 (i := 28) yd_by_cX12_standsAt_0 rfl rfl
set_option maxRecDepth 100000 in
theorem yd_by_cX12_codesTell_0 : ydk cX12_codesTell 0 [42, 27, 181, 1, 48, 42, 3, 181, 1, 142, 42, 180, 0, 121, 5, 27, 96, 46, 62, 29, 42, 180, 0, 124, 5, 27, 96, 46] = true := by decide +kernel
theorem dX12_codesTell_0 : decode cX12_codesTell 0 = .ok (.aload_n 0, 1) := yd_op_42 (i := 0) yd_by_cX12_codesTell_0 rfl rfl
theorem dX12_codesTell_1 : decode cX12_codesTell 1 = .ok (.iload_n 1, 1) := yd_op_27 (i := 1) yd_by_cX12_codesTell_0 rfl rfl
theorem dX12_codesTell_2 : decode cX12_codesTell 2 = .ok (.putfield 304, 3) := yd_op_181 (i := 2) (a := 1) (b := 48) yd_by_cX12_codesTell_0 rfl rfl
theorem dX12_codesTell_5 : decode cX12_codesTell 5 = .ok (.aload_n 0, 1) := yd_op_42 (i := 5) yd_by_cX12_codesTell_0 rfl rfl
theorem dX12_codesTell_6 : decode cX12_codesTell 6 = .ok (.iconst 0, 1) := yd_op_3 (i := 6) yd_by_cX12_codesTell_0 rfl rfl
theorem dX12_codesTell_7 : decode cX12_codesTell 7 = .ok (.putfield 398, 3) := yd_op_181 (i := 7) (a := 1) (b := 142) yd_by_cX12_codesTell_0 rfl rfl
theorem dX12_codesTell_10 : decode cX12_codesTell 10 = .ok (.aload_n 0, 1) := yd_op_42 (i := 10) yd_by_cX12_codesTell_0 rfl rfl
theorem dX12_codesTell_11 : decode cX12_codesTell 11 = .ok (.getfield 121, 3) := yd_op_180 (i := 11) (a := 0) (b := 121) yd_by_cX12_codesTell_0 rfl rfl
theorem dX12_codesTell_14 : decode cX12_codesTell 14 = .ok (.iconst 2, 1) := yd_op_5 (i := 14) yd_by_cX12_codesTell_0 rfl rfl
theorem dX12_codesTell_15 : decode cX12_codesTell 15 = .ok (.iload_n 1, 1) := yd_op_27 (i := 15) yd_by_cX12_codesTell_0 rfl rfl
theorem dX12_codesTell_16 : decode cX12_codesTell 16 = .ok (.iadd, 1) := yd_op_96 (i := 16) yd_by_cX12_codesTell_0 rfl rfl
theorem dX12_codesTell_17 : decode cX12_codesTell 17 = .ok (.iaload, 1) := yd_op_46 (i := 17) yd_by_cX12_codesTell_0 rfl rfl
theorem dX12_codesTell_18 : decode cX12_codesTell 18 = .ok (.istore_n 3, 1) := yd_op_62 (i := 18) yd_by_cX12_codesTell_0 rfl rfl
theorem dX12_codesTell_19 : decode cX12_codesTell 19 = .ok (.iload_n 3, 1) := yd_op_29 (i := 19) yd_by_cX12_codesTell_0 rfl rfl
theorem dX12_codesTell_20 : decode cX12_codesTell 20 = .ok (.aload_n 0, 1) := yd_op_42 (i := 20) yd_by_cX12_codesTell_0 rfl rfl
theorem dX12_codesTell_21 : decode cX12_codesTell 21 = .ok (.getfield 124, 3) := yd_op_180 (i := 21) (a := 0) (b := 124) yd_by_cX12_codesTell_0 rfl rfl
theorem dX12_codesTell_24 : decode cX12_codesTell 24 = .ok (.iconst 2, 1) := yd_op_5 (i := 24) yd_by_cX12_codesTell_0 rfl rfl
theorem dX12_codesTell_25 : decode cX12_codesTell 25 = .ok (.iload_n 1, 1) := yd_op_27 (i := 25) yd_by_cX12_codesTell_0 rfl rfl
theorem dX12_codesTell_26 : decode cX12_codesTell 26 = .ok (.iadd, 1) := yd_op_96 (i := 26) yd_by_cX12_codesTell_0 rfl rfl
theorem dX12_codesTell_27 : decode cX12_codesTell 27 = .ok (.iaload, 1) := yd_op_46 (i := 27) yd_by_cX12_codesTell_0 rfl rfl
set_option maxRecDepth 100000 in
theorem yd_by_cX12_codesTell_1 : ydk cX12_codesTell 28 [162, 0, 122, 42, 180, 0, 127, 17, 6, 64, 29, 96, 46, 54, 4, 21, 4, 17, 3, 232, 161, 0, 17, 42, 21, 4, 17, 3, 232, 100, 133, 182, 1, 145, 167, 0, 82, 21, 4, 16, 40] = true := by decide +kernel
theorem dX12_codesTell_28 : decode cX12_codesTell 28 = .ok (.if_icmp .ge 122, 3) := yd_op_162 (i := 0) (a := 0) (b := 122) yd_by_cX12_codesTell_1 rfl rfl
theorem dX12_codesTell_31 : decode cX12_codesTell 31 = .ok (.aload_n 0, 1) := yd_op_42 (i := 3) yd_by_cX12_codesTell_1 rfl rfl
theorem dX12_codesTell_32 : decode cX12_codesTell 32 = .ok (.getfield 127, 3) := yd_op_180 (i := 4) (a := 0) (b := 127) yd_by_cX12_codesTell_1 rfl rfl
theorem dX12_codesTell_35 : decode cX12_codesTell 35 = .ok (.sipush 1600, 3) := yd_op_17 (i := 7) (a := 6) (b := 64) yd_by_cX12_codesTell_1 rfl rfl
theorem dX12_codesTell_38 : decode cX12_codesTell 38 = .ok (.iload_n 3, 1) := yd_op_29 (i := 10) yd_by_cX12_codesTell_1 rfl rfl
theorem dX12_codesTell_39 : decode cX12_codesTell 39 = .ok (.iadd, 1) := yd_op_96 (i := 11) yd_by_cX12_codesTell_1 rfl rfl
theorem dX12_codesTell_40 : decode cX12_codesTell 40 = .ok (.iaload, 1) := yd_op_46 (i := 12) yd_by_cX12_codesTell_1 rfl rfl
theorem dX12_codesTell_41 : decode cX12_codesTell 41 = .ok (.istore 4, 2) := yd_op_54 (i := 13) (a := 4) yd_by_cX12_codesTell_1 rfl rfl
theorem dX12_codesTell_43 : decode cX12_codesTell 43 = .ok (.iload 4, 2) := yd_op_21 (i := 15) (a := 4) yd_by_cX12_codesTell_1 rfl rfl
theorem dX12_codesTell_45 : decode cX12_codesTell 45 = .ok (.sipush 1000, 3) := yd_op_17 (i := 17) (a := 3) (b := 232) yd_by_cX12_codesTell_1 rfl rfl
theorem dX12_codesTell_48 : decode cX12_codesTell 48 = .ok (.if_icmp .lt 17, 3) := yd_op_161 (i := 20) (a := 0) (b := 17) yd_by_cX12_codesTell_1 rfl rfl
theorem dX12_codesTell_51 : decode cX12_codesTell 51 = .ok (.aload_n 0, 1) := yd_op_42 (i := 23) yd_by_cX12_codesTell_1 rfl rfl
theorem dX12_codesTell_52 : decode cX12_codesTell 52 = .ok (.iload 4, 2) := yd_op_21 (i := 24) (a := 4) yd_by_cX12_codesTell_1 rfl rfl
theorem dX12_codesTell_54 : decode cX12_codesTell 54 = .ok (.sipush 1000, 3) := yd_op_17 (i := 26) (a := 3) (b := 232) yd_by_cX12_codesTell_1 rfl rfl
theorem dX12_codesTell_57 : decode cX12_codesTell 57 = .ok (.isub, 1) := yd_op_100 (i := 29) yd_by_cX12_codesTell_1 rfl rfl
theorem dX12_codesTell_58 : decode cX12_codesTell 58 = .ok (.i2l, 1) := yd_op_133 (i := 30) yd_by_cX12_codesTell_1 rfl rfl
theorem dX12_codesTell_59 : decode cX12_codesTell 59 = .ok (.invokevirtual 401, 3) := yd_op_182 (i := 31) (a := 1) (b := 145) yd_by_cX12_codesTell_1 rfl rfl
theorem dX12_codesTell_62 : decode cX12_codesTell 62 = .ok (.goto 82, 3) := yd_op_167 (i := 34) (a := 0) (b := 82) yd_by_cX12_codesTell_1 rfl rfl
theorem dX12_codesTell_65 : decode cX12_codesTell 65 = .ok (.iload 4, 2) := yd_op_21 (i := 37) (a := 4) yd_by_cX12_codesTell_1 rfl rfl
theorem dX12_codesTell_67 : decode cX12_codesTell 67 = .ok (.bipush 40, 2) := yd_op_16 (i := 39) (a := 40) yd_by_cX12_codesTell_1 rfl rfl
set_option maxRecDepth 100000 in
theorem yd_by_cX12_codesTell_2 : ydk cX12_codesTell 69 [161, 0, 20, 42, 42, 21, 4, 16, 40, 100, 28, 182, 1, 149, 182, 1, 145, 167, 0, 58, 21, 4, 16, 13, 160, 0, 11, 42, 10, 182, 1, 145, 167, 0, 43, 21, 4, 16, 12, 160, 0, 30] = true := by decide +kernel
theorem dX12_codesTell_69 : decode cX12_codesTell 69 = .ok (.if_icmp .lt 20, 3) := yd_op_161 (i := 0) (a := 0) (b := 20) yd_by_cX12_codesTell_2 rfl rfl
theorem dX12_codesTell_72 : decode cX12_codesTell 72 = .ok (.aload_n 0, 1) := yd_op_42 (i := 3) yd_by_cX12_codesTell_2 rfl rfl
theorem dX12_codesTell_73 : decode cX12_codesTell 73 = .ok (.aload_n 0, 1) := yd_op_42 (i := 4) yd_by_cX12_codesTell_2 rfl rfl
theorem dX12_codesTell_74 : decode cX12_codesTell 74 = .ok (.iload 4, 2) := yd_op_21 (i := 5) (a := 4) yd_by_cX12_codesTell_2 rfl rfl
theorem dX12_codesTell_76 : decode cX12_codesTell 76 = .ok (.bipush 40, 2) := yd_op_16 (i := 7) (a := 40) yd_by_cX12_codesTell_2 rfl rfl
theorem dX12_codesTell_78 : decode cX12_codesTell 78 = .ok (.isub, 1) := yd_op_100 (i := 9) yd_by_cX12_codesTell_2 rfl rfl
theorem dX12_codesTell_79 : decode cX12_codesTell 79 = .ok (.iload_n 2, 1) := yd_op_28 (i := 10) yd_by_cX12_codesTell_2 rfl rfl
theorem dX12_codesTell_80 : decode cX12_codesTell 80 = .ok (.invokevirtual 405, 3) := yd_op_182 (i := 11) (a := 1) (b := 149) yd_by_cX12_codesTell_2 rfl rfl
theorem dX12_codesTell_83 : decode cX12_codesTell 83 = .ok (.invokevirtual 401, 3) := yd_op_182 (i := 14) (a := 1) (b := 145) yd_by_cX12_codesTell_2 rfl rfl
theorem dX12_codesTell_86 : decode cX12_codesTell 86 = .ok (.goto 58, 3) := yd_op_167 (i := 17) (a := 0) (b := 58) yd_by_cX12_codesTell_2 rfl rfl
theorem dX12_codesTell_89 : decode cX12_codesTell 89 = .ok (.iload 4, 2) := yd_op_21 (i := 20) (a := 4) yd_by_cX12_codesTell_2 rfl rfl
theorem dX12_codesTell_91 : decode cX12_codesTell 91 = .ok (.bipush 13, 2) := yd_op_16 (i := 22) (a := 13) yd_by_cX12_codesTell_2 rfl rfl
theorem dX12_codesTell_93 : decode cX12_codesTell 93 = .ok (.if_icmp .ne 11, 3) := yd_op_160 (i := 24) (a := 0) (b := 11) yd_by_cX12_codesTell_2 rfl rfl
theorem dX12_codesTell_96 : decode cX12_codesTell 96 = .ok (.aload_n 0, 1) := yd_op_42 (i := 27) yd_by_cX12_codesTell_2 rfl rfl
theorem dX12_codesTell_97 : decode cX12_codesTell 97 = .ok (.lconst 1, 1) := yd_op_10 (i := 28) yd_by_cX12_codesTell_2 rfl rfl
theorem dX12_codesTell_98 : decode cX12_codesTell 98 = .ok (.invokevirtual 401, 3) := yd_op_182 (i := 29) (a := 1) (b := 145) yd_by_cX12_codesTell_2 rfl rfl
theorem dX12_codesTell_101 : decode cX12_codesTell 101 = .ok (.goto 43, 3) := yd_op_167 (i := 32) (a := 0) (b := 43) yd_by_cX12_codesTell_2 rfl rfl
theorem dX12_codesTell_104 : decode cX12_codesTell 104 = .ok (.iload 4, 2) := yd_op_21 (i := 35) (a := 4) yd_by_cX12_codesTell_2 rfl rfl
theorem dX12_codesTell_106 : decode cX12_codesTell 106 = .ok (.bipush 12, 2) := yd_op_16 (i := 37) (a := 12) yd_by_cX12_codesTell_2 rfl rfl
theorem dX12_codesTell_108 : decode cX12_codesTell 108 = .ok (.if_icmp .ne 30, 3) := yd_op_160 (i := 39) (a := 0) (b := 30) yd_by_cX12_codesTell_2 rfl rfl
set_option maxRecDepth 100000 in
theorem yd_by_cX12_codesTell_3 : ydk cX12_codesTell 111 [42, 180, 0, 237, 42, 180, 1, 142, 4, 100, 10, 42, 180, 0, 237, 42, 180, 1, 142, 4, 100, 47, 101, 80, 167, 0, 9, 42, 21, 4, 182, 1, 153] = true := by decide +kernel
theorem dX12_codesTell_111 : decode cX12_codesTell 111 = .ok (.aload_n 0, 1) := yd_op_42 (i := 0) yd_by_cX12_codesTell_3 rfl rfl
theorem dX12_codesTell_112 : decode cX12_codesTell 112 = .ok (.getfield 237, 3) := yd_op_180 (i := 1) (a := 0) (b := 237) yd_by_cX12_codesTell_3 rfl rfl
theorem dX12_codesTell_115 : decode cX12_codesTell 115 = .ok (.aload_n 0, 1) := yd_op_42 (i := 4) yd_by_cX12_codesTell_3 rfl rfl
theorem dX12_codesTell_116 : decode cX12_codesTell 116 = .ok (.getfield 398, 3) := yd_op_180 (i := 5) (a := 1) (b := 142) yd_by_cX12_codesTell_3 rfl rfl
theorem dX12_codesTell_119 : decode cX12_codesTell 119 = .ok (.iconst 1, 1) := yd_op_4 (i := 8) yd_by_cX12_codesTell_3 rfl rfl
theorem dX12_codesTell_120 : decode cX12_codesTell 120 = .ok (.isub, 1) := yd_op_100 (i := 9) yd_by_cX12_codesTell_3 rfl rfl
theorem dX12_codesTell_121 : decode cX12_codesTell 121 = .ok (.lconst 1, 1) := yd_op_10 (i := 10) yd_by_cX12_codesTell_3 rfl rfl
theorem dX12_codesTell_122 : decode cX12_codesTell 122 = .ok (.aload_n 0, 1) := yd_op_42 (i := 11) yd_by_cX12_codesTell_3 rfl rfl
theorem dX12_codesTell_123 : decode cX12_codesTell 123 = .ok (.getfield 237, 3) := yd_op_180 (i := 12) (a := 0) (b := 237) yd_by_cX12_codesTell_3 rfl rfl
theorem dX12_codesTell_126 : decode cX12_codesTell 126 = .ok (.aload_n 0, 1) := yd_op_42 (i := 15) yd_by_cX12_codesTell_3 rfl rfl
theorem dX12_codesTell_127 : decode cX12_codesTell 127 = .ok (.getfield 398, 3) := yd_op_180 (i := 16) (a := 1) (b := 142) yd_by_cX12_codesTell_3 rfl rfl
theorem dX12_codesTell_130 : decode cX12_codesTell 130 = .ok (.iconst 1, 1) := yd_op_4 (i := 19) yd_by_cX12_codesTell_3 rfl rfl
theorem dX12_codesTell_131 : decode cX12_codesTell 131 = .ok (.isub, 1) := yd_op_100 (i := 20) yd_by_cX12_codesTell_3 rfl rfl
theorem dX12_codesTell_132 : decode cX12_codesTell 132 = .ok (.laload, 1) := yd_op_47 (i := 21) yd_by_cX12_codesTell_3 rfl rfl
theorem dX12_codesTell_133 : decode cX12_codesTell 133 = .ok (.lsub, 1) := yd_op_101 (i := 22) yd_by_cX12_codesTell_3 rfl rfl
theorem dX12_codesTell_134 : decode cX12_codesTell 134 = .ok (.lastore, 1) := yd_op_80 (i := 23) yd_by_cX12_codesTell_3 rfl rfl
theorem dX12_codesTell_135 : decode cX12_codesTell 135 = .ok (.goto 9, 3) := yd_op_167 (i := 24) (a := 0) (b := 9) yd_by_cX12_codesTell_3 rfl rfl
theorem dX12_codesTell_138 : decode cX12_codesTell 138 = .ok (.aload_n 0, 1) := yd_op_42 (i := 27) yd_by_cX12_codesTell_3 rfl rfl
theorem dX12_codesTell_139 : decode cX12_codesTell 139 = .ok (.iload 4, 2) := yd_op_21 (i := 28) (a := 4) yd_by_cX12_codesTell_3 rfl rfl
theorem dX12_codesTell_141 : decode cX12_codesTell 141 = .ok (.invokevirtual 409, 3) := yd_op_182 (i := 30) (a := 1) (b := 153) yd_by_cX12_codesTell_3 rfl rfl
set_option maxRecDepth 100000 in
theorem yd_by_cX12_codesTell_4 : ydk cX12_codesTell 144 [132, 3, 1, 167, 255, 128, 42, 180, 0, 237, 3, 47, 173] = true := by decide +kernel
theorem dX12_codesTell_144 : decode cX12_codesTell 144 = .ok (.iinc 3 1, 3) := yd_op_132 (i := 0) (a := 3) (b := 1) yd_by_cX12_codesTell_4 rfl rfl
theorem dX12_codesTell_147 : decode cX12_codesTell 147 = .ok (.goto (-128), 3) := yd_op_167 (i := 3) (a := 255) (b := 128) yd_by_cX12_codesTell_4 rfl rfl
theorem dX12_codesTell_150 : decode cX12_codesTell 150 = .ok (.aload_n 0, 1) := yd_op_42 (i := 6) yd_by_cX12_codesTell_4 rfl rfl
theorem dX12_codesTell_151 : decode cX12_codesTell 151 = .ok (.getfield 237, 3) := yd_op_180 (i := 7) (a := 0) (b := 237) yd_by_cX12_codesTell_4 rfl rfl
theorem dX12_codesTell_154 : decode cX12_codesTell 154 = .ok (.iconst 0, 1) := yd_op_3 (i := 10) yd_by_cX12_codesTell_4 rfl rfl
theorem dX12_codesTell_155 : decode cX12_codesTell 155 = .ok (.laload, 1) := yd_op_47 (i := 11) yd_by_cX12_codesTell_4 rfl rfl
theorem dX12_codesTell_156 : decode cX12_codesTell 156 = .ok (.lreturn, 1) := yd_op_173 (i := 12) yd_by_cX12_codesTell_4 rfl rfl
set_option maxRecDepth 100000 in
theorem yd_by_cX12_holders_0 : ydk cX12_holders 0 [3, 60, 3, 61, 28, 42, 182, 1, 129, 162, 0, 44, 42, 28, 182, 1, 156, 154, 0, 30, 42, 180, 0, 121, 6, 46, 2, 159, 0, 14, 42, 4] = true := by decide +kernel
theorem dX12_holders_0 : decode cX12_holders 0 = .ok (.iconst 0, 1) := yd_op_3 (i := 0) yd_by_cX12_holders_0 rfl rfl
theorem dX12_holders_1 : decode cX12_holders 1 = .ok (.istore_n 1, 1) := yd_op_60 (i := 1) yd_by_cX12_holders_0 rfl rfl
theorem dX12_holders_2 : decode cX12_holders 2 = .ok (.iconst 0, 1) := yd_op_3 (i := 2) yd_by_cX12_holders_0 rfl rfl
theorem dX12_holders_3 : decode cX12_holders 3 = .ok (.istore_n 2, 1) := yd_op_61 (i := 3) yd_by_cX12_holders_0 rfl rfl
theorem dX12_holders_4 : decode cX12_holders 4 = .ok (.iload_n 2, 1) := yd_op_28 (i := 4) yd_by_cX12_holders_0 rfl rfl
theorem dX12_holders_5 : decode cX12_holders 5 = .ok (.aload_n 0, 1) := yd_op_42 (i := 5) yd_by_cX12_holders_0 rfl rfl
theorem dX12_holders_6 : decode cX12_holders 6 = .ok (.invokevirtual 385, 3) := yd_op_182 (i := 6) (a := 1) (b := 129) yd_by_cX12_holders_0 rfl rfl
theorem dX12_holders_9 : decode cX12_holders 9 = .ok (.if_icmp .ge 44, 3) := yd_op_162 (i := 9) (a := 0) (b := 44) yd_by_cX12_holders_0 rfl rfl
theorem dX12_holders_12 : decode cX12_holders 12 = .ok (.aload_n 0, 1) := yd_op_42 (i := 12) yd_by_cX12_holders_0 rfl rfl
theorem dX12_holders_13 : decode cX12_holders 13 = .ok (.iload_n 2, 1) := yd_op_28 (i := 13) yd_by_cX12_holders_0 rfl rfl
theorem dX12_holders_14 : decode cX12_holders 14 = .ok (.invokevirtual 412, 3) := yd_op_182 (i := 14) (a := 1) (b := 156) yd_by_cX12_holders_0 rfl rfl
theorem dX12_holders_17 : decode cX12_holders 17 = .ok (.ifCond .ne 30, 3) := yd_op_154 (i := 17) (a := 0) (b := 30) yd_by_cX12_holders_0 rfl rfl
theorem dX12_holders_20 : decode cX12_holders 20 = .ok (.aload_n 0, 1) := yd_op_42 (i := 20) yd_by_cX12_holders_0 rfl rfl
theorem dX12_holders_21 : decode cX12_holders 21 = .ok (.getfield 121, 3) := yd_op_180 (i := 21) (a := 0) (b := 121) yd_by_cX12_holders_0 rfl rfl
theorem dX12_holders_24 : decode cX12_holders 24 = .ok (.iconst 3, 1) := yd_op_6 (i := 24) yd_by_cX12_holders_0 rfl rfl
theorem dX12_holders_25 : decode cX12_holders 25 = .ok (.iaload, 1) := yd_op_46 (i := 25) yd_by_cX12_holders_0 rfl rfl
theorem dX12_holders_26 : decode cX12_holders 26 = .ok (.iconst (-1), 1) := yd_op_2 (i := 26) yd_by_cX12_holders_0 rfl rfl
theorem dX12_holders_27 : decode cX12_holders 27 = .ok (.if_icmp .eq 14, 3) := yd_op_159 (i := 27) (a := 0) (b := 14) yd_by_cX12_holders_0 rfl rfl
theorem dX12_holders_30 : decode cX12_holders 30 = .ok (.aload_n 0, 1) := yd_op_42 (i := 30) yd_by_cX12_holders_0 rfl rfl
theorem dX12_holders_31 : decode cX12_holders 31 = .ok (.iconst 1, 1) := yd_op_4 (i := 31) yd_by_cX12_holders_0 rfl rfl
set_option maxRecDepth 100000 in
theorem yd_by_cX12_holders_1 : ydk cX12_holders 32 [28, 182, 1, 159, 10, 148, 154, 0, 9, 27, 4, 28, 120, 128, 60, 132, 2, 1, 167, 255, 210, 27, 172] = true := by decide +kernel
theorem dX12_holders_32 : decode cX12_holders 32 = .ok (.iload_n 2, 1) := yd_op_28 (i := 0) yd_by_cX12_holders_1 rfl rfl
theorem dX12_holders_33 : decode cX12_holders 33 = .ok (.invokevirtual 415, 3) := yd_op_182 (i := 1) (a := 1) (b := 159) yd_by_cX12_holders_1 rfl rfl
theorem dX12_holders_36 : decode cX12_holders 36 = .ok (.lconst 1, 1) := yd_op_10 (i := 4) yd_by_cX12_holders_1 rfl rfl
theorem dX12_holders_37 : decode cX12_holders 37 = .ok (.lcmp, 1) := yd_op_148 (i := 5) yd_by_cX12_holders_1 rfl rfl
theorem dX12_holders_38 : decode cX12_holders 38 = .ok (.ifCond .ne 9, 3) := yd_op_154 (i := 6) (a := 0) (b := 9) yd_by_cX12_holders_1 rfl rfl
theorem dX12_holders_41 : decode cX12_holders 41 = .ok (.iload_n 1, 1) := yd_op_27 (i := 9) yd_by_cX12_holders_1 rfl rfl
theorem dX12_holders_42 : decode cX12_holders 42 = .ok (.iconst 1, 1) := yd_op_4 (i := 10) yd_by_cX12_holders_1 rfl rfl
theorem dX12_holders_43 : decode cX12_holders 43 = .ok (.iload_n 2, 1) := yd_op_28 (i := 11) yd_by_cX12_holders_1 rfl rfl
theorem dX12_holders_44 : decode cX12_holders 44 = .ok (.ishl, 1) := yd_op_120 (i := 12) yd_by_cX12_holders_1 rfl rfl
theorem dX12_holders_45 : decode cX12_holders 45 = .ok (.ior, 1) := yd_op_128 (i := 13) yd_by_cX12_holders_1 rfl rfl
theorem dX12_holders_46 : decode cX12_holders 46 = .ok (.istore_n 1, 1) := yd_op_60 (i := 14) yd_by_cX12_holders_1 rfl rfl
theorem dX12_holders_47 : decode cX12_holders 47 = .ok (.iinc 2 1, 3) := yd_op_132 (i := 15) (a := 2) (b := 1) yd_by_cX12_holders_1 rfl rfl
theorem dX12_holders_50 : decode cX12_holders 50 = .ok (.goto (-46), 3) := yd_op_167 (i := 18) (a := 255) (b := 210) yd_by_cX12_holders_1 rfl rfl
theorem dX12_holders_53 : decode cX12_holders 53 = .ok (.iload_n 1, 1) := yd_op_27 (i := 21) yd_by_cX12_holders_1 rfl rfl
theorem dX12_holders_54 : decode cX12_holders 54 = .ok (.ireturn, 1) := yd_op_172 (i := 22) yd_by_cX12_holders_1 rfl rfl
set_option maxRecDepth 100000 in
theorem yd_by_cX12_liftOf_0 : ydk cX12_liftOf 0 [42, 27, 182, 1, 162, 42, 180, 0, 118, 6, 46, 28, 29, 184, 1, 139, 104, 100, 54, 4, 21, 4, 156, 0, 7, 3, 167, 0, 5, 21, 4, 172] = true := by decide +kernel
theorem dX12_liftOf_0 : decode cX12_liftOf 0 = .ok (.aload_n 0, 1) := yd_op_42 (i := 0) yd_by_cX12_liftOf_0 rfl rfl
theorem dX12_liftOf_1 : decode cX12_liftOf 1 = .ok (.iload_n 1, 1) := yd_op_27 (i := 1) yd_by_cX12_liftOf_0 rfl rfl
theorem dX12_liftOf_2 : decode cX12_liftOf 2 = .ok (.invokevirtual 418, 3) := yd_op_182 (i := 2) (a := 1) (b := 162) yd_by_cX12_liftOf_0 rfl rfl
theorem dX12_liftOf_5 : decode cX12_liftOf 5 = .ok (.aload_n 0, 1) := yd_op_42 (i := 5) yd_by_cX12_liftOf_0 rfl rfl
theorem dX12_liftOf_6 : decode cX12_liftOf 6 = .ok (.getfield 118, 3) := yd_op_180 (i := 6) (a := 0) (b := 118) yd_by_cX12_liftOf_0 rfl rfl
theorem dX12_liftOf_9 : decode cX12_liftOf 9 = .ok (.iconst 3, 1) := yd_op_6 (i := 9) yd_by_cX12_liftOf_0 rfl rfl
theorem dX12_liftOf_10 : decode cX12_liftOf 10 = .ok (.iaload, 1) := yd_op_46 (i := 10) yd_by_cX12_liftOf_0 rfl rfl
theorem dX12_liftOf_11 : decode cX12_liftOf 11 = .ok (.iload_n 2, 1) := yd_op_28 (i := 11) yd_by_cX12_liftOf_0 rfl rfl
theorem dX12_liftOf_12 : decode cX12_liftOf 12 = .ok (.iload_n 3, 1) := yd_op_29 (i := 12) yd_by_cX12_liftOf_0 rfl rfl
theorem dX12_liftOf_13 : decode cX12_liftOf 13 = .ok (.invokestatic 395, 3) := yd_op_184 (i := 13) (a := 1) (b := 139) yd_by_cX12_liftOf_0 rfl rfl
theorem dX12_liftOf_16 : decode cX12_liftOf 16 = .ok (.imul, 1) := yd_op_104 (i := 16) yd_by_cX12_liftOf_0 rfl rfl
theorem dX12_liftOf_17 : decode cX12_liftOf 17 = .ok (.isub, 1) := yd_op_100 (i := 17) yd_by_cX12_liftOf_0 rfl rfl
theorem dX12_liftOf_18 : decode cX12_liftOf 18 = .ok (.istore 4, 2) := yd_op_54 (i := 18) (a := 4) yd_by_cX12_liftOf_0 rfl rfl
theorem dX12_liftOf_20 : decode cX12_liftOf 20 = .ok (.iload 4, 2) := yd_op_21 (i := 20) (a := 4) yd_by_cX12_liftOf_0 rfl rfl
theorem dX12_liftOf_22 : decode cX12_liftOf 22 = .ok (.ifCond .ge 7, 3) := yd_op_156 (i := 22) (a := 0) (b := 7) yd_by_cX12_liftOf_0 rfl rfl
theorem dX12_liftOf_25 : decode cX12_liftOf 25 = .ok (.iconst 0, 1) := yd_op_3 (i := 25) yd_by_cX12_liftOf_0 rfl rfl
theorem dX12_liftOf_26 : decode cX12_liftOf 26 = .ok (.goto 5, 3) := yd_op_167 (i := 26) (a := 0) (b := 5) yd_by_cX12_liftOf_0 rfl rfl
theorem dX12_liftOf_29 : decode cX12_liftOf 29 = .ok (.iload 4, 2) := yd_op_21 (i := 29) (a := 4) yd_by_cX12_liftOf_0 rfl rfl
theorem dX12_liftOf_31 : decode cX12_liftOf 31 = .ok (.ireturn, 1) := yd_op_172 (i := 31) yd_by_cX12_liftOf_0 rfl rfl
set_option maxRecDepth 100000 in
theorem yd_by_cX12_liftBy_0 : ydk cX12_liftBy 0 [3, 62, 3, 54, 4, 21, 4, 42, 182, 1, 129, 162, 0, 35, 27, 21, 4, 122, 4, 126, 4, 160, 0, 19, 29, 42, 21, 4, 42, 21, 4] = true := by decide +kernel
theorem dX12_liftBy_0 : decode cX12_liftBy 0 = .ok (.iconst 0, 1) := yd_op_3 (i := 0) yd_by_cX12_liftBy_0 rfl rfl
theorem dX12_liftBy_1 : decode cX12_liftBy 1 = .ok (.istore_n 3, 1) := yd_op_62 (i := 1) yd_by_cX12_liftBy_0 rfl rfl
theorem dX12_liftBy_2 : decode cX12_liftBy 2 = .ok (.iconst 0, 1) := yd_op_3 (i := 2) yd_by_cX12_liftBy_0 rfl rfl
theorem dX12_liftBy_3 : decode cX12_liftBy 3 = .ok (.istore 4, 2) := yd_op_54 (i := 3) (a := 4) yd_by_cX12_liftBy_0 rfl rfl
theorem dX12_liftBy_5 : decode cX12_liftBy 5 = .ok (.iload 4, 2) := yd_op_21 (i := 5) (a := 4) yd_by_cX12_liftBy_0 rfl rfl
theorem dX12_liftBy_7 : decode cX12_liftBy 7 = .ok (.aload_n 0, 1) := yd_op_42 (i := 7) yd_by_cX12_liftBy_0 rfl rfl
theorem dX12_liftBy_8 : decode cX12_liftBy 8 = .ok (.invokevirtual 385, 3) := yd_op_182 (i := 8) (a := 1) (b := 129) yd_by_cX12_liftBy_0 rfl rfl
theorem dX12_liftBy_11 : decode cX12_liftBy 11 = .ok (.if_icmp .ge 35, 3) := yd_op_162 (i := 11) (a := 0) (b := 35) yd_by_cX12_liftBy_0 rfl rfl
theorem dX12_liftBy_14 : decode cX12_liftBy 14 = .ok (.iload_n 1, 1) := yd_op_27 (i := 14) yd_by_cX12_liftBy_0 rfl rfl
theorem dX12_liftBy_15 : decode cX12_liftBy 15 = .ok (.iload 4, 2) := yd_op_21 (i := 15) (a := 4) yd_by_cX12_liftBy_0 rfl rfl
theorem dX12_liftBy_17 : decode cX12_liftBy 17 = .ok (.ishr, 1) := yd_op_122 (i := 17) yd_by_cX12_liftBy_0 rfl rfl
theorem dX12_liftBy_18 : decode cX12_liftBy 18 = .ok (.iconst 1, 1) := yd_op_4 (i := 18) yd_by_cX12_liftBy_0 rfl rfl
theorem dX12_liftBy_19 : decode cX12_liftBy 19 = .ok (.iand, 1) := yd_op_126 (i := 19) yd_by_cX12_liftBy_0 rfl rfl
theorem dX12_liftBy_20 : decode cX12_liftBy 20 = .ok (.iconst 1, 1) := yd_op_4 (i := 20) yd_by_cX12_liftBy_0 rfl rfl
theorem dX12_liftBy_21 : decode cX12_liftBy 21 = .ok (.if_icmp .ne 19, 3) := yd_op_160 (i := 21) (a := 0) (b := 19) yd_by_cX12_liftBy_0 rfl rfl
theorem dX12_liftBy_24 : decode cX12_liftBy 24 = .ok (.iload_n 3, 1) := yd_op_29 (i := 24) yd_by_cX12_liftBy_0 rfl rfl
theorem dX12_liftBy_25 : decode cX12_liftBy 25 = .ok (.aload_n 0, 1) := yd_op_42 (i := 25) yd_by_cX12_liftBy_0 rfl rfl
theorem dX12_liftBy_26 : decode cX12_liftBy 26 = .ok (.iload 4, 2) := yd_op_21 (i := 26) (a := 4) yd_by_cX12_liftBy_0 rfl rfl
theorem dX12_liftBy_28 : decode cX12_liftBy 28 = .ok (.aload_n 0, 1) := yd_op_42 (i := 28) yd_by_cX12_liftBy_0 rfl rfl
theorem dX12_liftBy_29 : decode cX12_liftBy 29 = .ok (.iload 4, 2) := yd_op_21 (i := 29) (a := 4) yd_by_cX12_liftBy_0 rfl rfl
set_option maxRecDepth 100000 in
theorem yd_by_cX12_liftBy_1 : ydk cX12_liftBy 31 [182, 1, 135, 28, 182, 1, 165, 96, 62, 132, 4, 1, 167, 255, 218, 29, 172] = true := by decide +kernel
theorem dX12_liftBy_31 : decode cX12_liftBy 31 = .ok (.invokevirtual 391, 3) := yd_op_182 (i := 0) (a := 1) (b := 135) yd_by_cX12_liftBy_1 rfl rfl
theorem dX12_liftBy_34 : decode cX12_liftBy 34 = .ok (.iload_n 2, 1) := yd_op_28 (i := 3) yd_by_cX12_liftBy_1 rfl rfl
theorem dX12_liftBy_35 : decode cX12_liftBy 35 = .ok (.invokevirtual 421, 3) := yd_op_182 (i := 4) (a := 1) (b := 165) yd_by_cX12_liftBy_1 rfl rfl
theorem dX12_liftBy_38 : decode cX12_liftBy 38 = .ok (.iadd, 1) := yd_op_96 (i := 7) yd_by_cX12_liftBy_1 rfl rfl
theorem dX12_liftBy_39 : decode cX12_liftBy 39 = .ok (.istore_n 3, 1) := yd_op_62 (i := 8) yd_by_cX12_liftBy_1 rfl rfl
theorem dX12_liftBy_40 : decode cX12_liftBy 40 = .ok (.iinc 4 1, 3) := yd_op_132 (i := 9) (a := 4) (b := 1) yd_by_cX12_liftBy_1 rfl rfl
theorem dX12_liftBy_43 : decode cX12_liftBy 43 = .ok (.goto (-38), 3) := yd_op_167 (i := 12) (a := 255) (b := 218) yd_by_cX12_liftBy_1 rfl rfl
theorem dX12_liftBy_46 : decode cX12_liftBy 46 = .ok (.iload_n 3, 1) := yd_op_29 (i := 15) yd_by_cX12_liftBy_1 rfl rfl
theorem dX12_liftBy_47 : decode cX12_liftBy 47 = .ok (.ireturn, 1) := yd_op_172 (i := 16) yd_by_cX12_liftBy_1 rfl rfl
set_option maxRecDepth 100000 in
theorem yd_by_cX12_addsOf_0 : ydk cX12_addsOf 0 [42, 180, 0, 121, 5, 46, 2, 160, 0, 13, 42, 180, 0, 112, 16, 36, 27, 96, 46, 172, 42, 42, 180, 0, 112, 16, 36, 27, 96, 46] = true := by decide +kernel
theorem dX12_addsOf_0 : decode cX12_addsOf 0 = .ok (.aload_n 0, 1) := yd_op_42 (i := 0) yd_by_cX12_addsOf_0 rfl rfl
theorem dX12_addsOf_1 : decode cX12_addsOf 1 = .ok (.getfield 121, 3) := yd_op_180 (i := 1) (a := 0) (b := 121) yd_by_cX12_addsOf_0 rfl rfl
theorem dX12_addsOf_4 : decode cX12_addsOf 4 = .ok (.iconst 2, 1) := yd_op_5 (i := 4) yd_by_cX12_addsOf_0 rfl rfl
theorem dX12_addsOf_5 : decode cX12_addsOf 5 = .ok (.iaload, 1) := yd_op_46 (i := 5) yd_by_cX12_addsOf_0 rfl rfl
theorem dX12_addsOf_6 : decode cX12_addsOf 6 = .ok (.iconst (-1), 1) := yd_op_2 (i := 6) yd_by_cX12_addsOf_0 rfl rfl
theorem dX12_addsOf_7 : decode cX12_addsOf 7 = .ok (.if_icmp .ne 13, 3) := yd_op_160 (i := 7) (a := 0) (b := 13) yd_by_cX12_addsOf_0 rfl rfl
theorem dX12_addsOf_10 : decode cX12_addsOf 10 = .ok (.aload_n 0, 1) := yd_op_42 (i := 10) yd_by_cX12_addsOf_0 rfl rfl
theorem dX12_addsOf_11 : decode cX12_addsOf 11 = .ok (.getfield 112, 3) := yd_op_180 (i := 11) (a := 0) (b := 112) yd_by_cX12_addsOf_0 rfl rfl
theorem dX12_addsOf_14 : decode cX12_addsOf 14 = .ok (.bipush 36, 2) := yd_op_16 (i := 14) (a := 36) yd_by_cX12_addsOf_0 rfl rfl
theorem dX12_addsOf_16 : decode cX12_addsOf 16 = .ok (.iload_n 1, 1) := yd_op_27 (i := 16) yd_by_cX12_addsOf_0 rfl rfl
theorem dX12_addsOf_17 : decode cX12_addsOf 17 = .ok (.iadd, 1) := yd_op_96 (i := 17) yd_by_cX12_addsOf_0 rfl rfl
theorem dX12_addsOf_18 : decode cX12_addsOf 18 = .ok (.iaload, 1) := yd_op_46 (i := 18) yd_by_cX12_addsOf_0 rfl rfl
theorem dX12_addsOf_19 : decode cX12_addsOf 19 = .ok (.ireturn, 1) := yd_op_172 (i := 19) yd_by_cX12_addsOf_0 rfl rfl
theorem dX12_addsOf_20 : decode cX12_addsOf 20 = .ok (.aload_n 0, 1) := yd_op_42 (i := 20) yd_by_cX12_addsOf_0 rfl rfl
theorem dX12_addsOf_21 : decode cX12_addsOf 21 = .ok (.aload_n 0, 1) := yd_op_42 (i := 21) yd_by_cX12_addsOf_0 rfl rfl
theorem dX12_addsOf_22 : decode cX12_addsOf 22 = .ok (.getfield 112, 3) := yd_op_180 (i := 22) (a := 0) (b := 112) yd_by_cX12_addsOf_0 rfl rfl
theorem dX12_addsOf_25 : decode cX12_addsOf 25 = .ok (.bipush 36, 2) := yd_op_16 (i := 25) (a := 36) yd_by_cX12_addsOf_0 rfl rfl
theorem dX12_addsOf_27 : decode cX12_addsOf 27 = .ok (.iload_n 1, 1) := yd_op_27 (i := 27) yd_by_cX12_addsOf_0 rfl rfl
theorem dX12_addsOf_28 : decode cX12_addsOf 28 = .ok (.iadd, 1) := yd_op_96 (i := 28) yd_by_cX12_addsOf_0 rfl rfl
theorem dX12_addsOf_29 : decode cX12_addsOf 29 = .ok (.iaload, 1) := yd_op_46 (i := 29) yd_by_cX12_addsOf_0 rfl rfl
set_option maxRecDepth 100000 in
theorem yd_by_cX12_addsOf_1 : ydk cX12_addsOf 30 [181, 1, 169, 42, 3, 3, 182, 1, 159, 65, 32, 9, 148, 156, 0, 7, 3, 167, 0, 19, 32, 20, 1, 172, 148, 158, 0, 9, 17, 3, 231, 167, 0, 5, 32, 136] = true := by decide +kernel
theorem dX12_addsOf_30 : decode cX12_addsOf 30 = .ok (.putfield 425, 3) := yd_op_181 (i := 0) (a := 1) (b := 169) yd_by_cX12_addsOf_1 rfl rfl
theorem dX12_addsOf_33 : decode cX12_addsOf 33 = .ok (.aload_n 0, 1) := yd_op_42 (i := 3) yd_by_cX12_addsOf_1 rfl rfl
theorem dX12_addsOf_34 : decode cX12_addsOf 34 = .ok (.iconst 0, 1) := yd_op_3 (i := 4) yd_by_cX12_addsOf_1 rfl rfl
theorem dX12_addsOf_35 : decode cX12_addsOf 35 = .ok (.iconst 0, 1) := yd_op_3 (i := 5) yd_by_cX12_addsOf_1 rfl rfl
theorem dX12_addsOf_36 : decode cX12_addsOf 36 = .ok (.invokevirtual 415, 3) := yd_op_182 (i := 6) (a := 1) (b := 159) yd_by_cX12_addsOf_1 rfl rfl
theorem dX12_addsOf_39 : decode cX12_addsOf 39 = .ok (.lstore_n 2, 1) := yd_op_65 (i := 9) yd_by_cX12_addsOf_1 rfl rfl
theorem dX12_addsOf_40 : decode cX12_addsOf 40 = .ok (.lload_n 2, 1) := yd_op_32 (i := 10) yd_by_cX12_addsOf_1 rfl rfl
theorem dX12_addsOf_41 : decode cX12_addsOf 41 = .ok (.lconst 0, 1) := yd_op_9 (i := 11) yd_by_cX12_addsOf_1 rfl rfl
theorem dX12_addsOf_42 : decode cX12_addsOf 42 = .ok (.lcmp, 1) := yd_op_148 (i := 12) yd_by_cX12_addsOf_1 rfl rfl
theorem dX12_addsOf_43 : decode cX12_addsOf 43 = .ok (.ifCond .ge 7, 3) := yd_op_156 (i := 13) (a := 0) (b := 7) yd_by_cX12_addsOf_1 rfl rfl
theorem dX12_addsOf_46 : decode cX12_addsOf 46 = .ok (.iconst 0, 1) := yd_op_3 (i := 16) yd_by_cX12_addsOf_1 rfl rfl
theorem dX12_addsOf_47 : decode cX12_addsOf 47 = .ok (.goto 19, 3) := yd_op_167 (i := 17) (a := 0) (b := 19) yd_by_cX12_addsOf_1 rfl rfl
theorem dX12_addsOf_50 : decode cX12_addsOf 50 = .ok (.lload_n 2, 1) := yd_op_32 (i := 20) yd_by_cX12_addsOf_1 rfl rfl
theorem dX12_addsOf_51 : decode cX12_addsOf 51 = .ok (.ldc2_w 428, 3) := yd_op_20 (i := 21) (a := 1) (b := 172) yd_by_cX12_addsOf_1 rfl rfl
theorem dX12_addsOf_54 : decode cX12_addsOf 54 = .ok (.lcmp, 1) := yd_op_148 (i := 24) yd_by_cX12_addsOf_1 rfl rfl
theorem dX12_addsOf_55 : decode cX12_addsOf 55 = .ok (.ifCond .le 9, 3) := yd_op_158 (i := 25) (a := 0) (b := 9) yd_by_cX12_addsOf_1 rfl rfl
theorem dX12_addsOf_58 : decode cX12_addsOf 58 = .ok (.sipush 999, 3) := yd_op_17 (i := 28) (a := 3) (b := 231) yd_by_cX12_addsOf_1 rfl rfl
theorem dX12_addsOf_61 : decode cX12_addsOf 61 = .ok (.goto 5, 3) := yd_op_167 (i := 31) (a := 0) (b := 5) yd_by_cX12_addsOf_1 rfl rfl
theorem dX12_addsOf_64 : decode cX12_addsOf 64 = .ok (.lload_n 2, 1) := yd_op_32 (i := 34) yd_by_cX12_addsOf_1 rfl rfl
theorem dX12_addsOf_65 : decode cX12_addsOf 65 = .ok (.l2i, 1) := yd_op_136 (i := 35) yd_by_cX12_addsOf_1 rfl rfl
set_option maxRecDepth 100000 in
theorem yd_by_cX12_addsOf_2 : ydk cX12_addsOf 66 [172] = true := by decide +kernel
theorem dX12_addsOf_66 : decode cX12_addsOf 66 = .ok (.ireturn, 1) := yd_op_172 (i := 0) yd_by_cX12_addsOf_2 rfl rfl
set_option maxRecDepth 100000 in
theorem yd_by_cX12_laysLoads_0 : ydk cX12_laysLoads 0 [3, 60, 27, 42, 182, 1, 174, 162, 0, 113, 42, 27, 182, 1, 177, 61, 42, 180, 0, 112, 16, 36, 28, 96, 46, 28, 42, 180, 0, 139, 160, 0, 20] = true := by decide +kernel
theorem dX12_laysLoads_0 : decode cX12_laysLoads 0 = .ok (.iconst 0, 1) := yd_op_3 (i := 0) yd_by_cX12_laysLoads_0 rfl rfl
theorem dX12_laysLoads_1 : decode cX12_laysLoads 1 = .ok (.istore_n 1, 1) := yd_op_60 (i := 1) yd_by_cX12_laysLoads_0 rfl rfl
theorem dX12_laysLoads_2 : decode cX12_laysLoads 2 = .ok (.iload_n 1, 1) := yd_op_27 (i := 2) yd_by_cX12_laysLoads_0 rfl rfl
theorem dX12_laysLoads_3 : decode cX12_laysLoads 3 = .ok (.aload_n 0, 1) := yd_op_42 (i := 3) yd_by_cX12_laysLoads_0 rfl rfl
theorem dX12_laysLoads_4 : decode cX12_laysLoads 4 = .ok (.invokevirtual 430, 3) := yd_op_182 (i := 4) (a := 1) (b := 174) yd_by_cX12_laysLoads_0 rfl rfl
theorem dX12_laysLoads_7 : decode cX12_laysLoads 7 = .ok (.if_icmp .ge 113, 3) := yd_op_162 (i := 7) (a := 0) (b := 113) yd_by_cX12_laysLoads_0 rfl rfl
theorem dX12_laysLoads_10 : decode cX12_laysLoads 10 = .ok (.aload_n 0, 1) := yd_op_42 (i := 10) yd_by_cX12_laysLoads_0 rfl rfl
theorem dX12_laysLoads_11 : decode cX12_laysLoads 11 = .ok (.iload_n 1, 1) := yd_op_27 (i := 11) yd_by_cX12_laysLoads_0 rfl rfl
theorem dX12_laysLoads_12 : decode cX12_laysLoads 12 = .ok (.invokevirtual 433, 3) := yd_op_182 (i := 12) (a := 1) (b := 177) yd_by_cX12_laysLoads_0 rfl rfl
theorem dX12_laysLoads_15 : decode cX12_laysLoads 15 = .ok (.istore_n 2, 1) := yd_op_61 (i := 15) yd_by_cX12_laysLoads_0 rfl rfl
theorem dX12_laysLoads_16 : decode cX12_laysLoads 16 = .ok (.aload_n 0, 1) := yd_op_42 (i := 16) yd_by_cX12_laysLoads_0 rfl rfl
theorem dX12_laysLoads_17 : decode cX12_laysLoads 17 = .ok (.getfield 112, 3) := yd_op_180 (i := 17) (a := 0) (b := 112) yd_by_cX12_laysLoads_0 rfl rfl
theorem dX12_laysLoads_20 : decode cX12_laysLoads 20 = .ok (.bipush 36, 2) := yd_op_16 (i := 20) (a := 36) yd_by_cX12_laysLoads_0 rfl rfl
theorem dX12_laysLoads_22 : decode cX12_laysLoads 22 = .ok (.iload_n 2, 1) := yd_op_28 (i := 22) yd_by_cX12_laysLoads_0 rfl rfl
theorem dX12_laysLoads_23 : decode cX12_laysLoads 23 = .ok (.iadd, 1) := yd_op_96 (i := 23) yd_by_cX12_laysLoads_0 rfl rfl
theorem dX12_laysLoads_24 : decode cX12_laysLoads 24 = .ok (.iaload, 1) := yd_op_46 (i := 24) yd_by_cX12_laysLoads_0 rfl rfl
theorem dX12_laysLoads_25 : decode cX12_laysLoads 25 = .ok (.iload_n 2, 1) := yd_op_28 (i := 25) yd_by_cX12_laysLoads_0 rfl rfl
theorem dX12_laysLoads_26 : decode cX12_laysLoads 26 = .ok (.aload_n 0, 1) := yd_op_42 (i := 26) yd_by_cX12_laysLoads_0 rfl rfl
theorem dX12_laysLoads_27 : decode cX12_laysLoads 27 = .ok (.getfield 139, 3) := yd_op_180 (i := 27) (a := 0) (b := 139) yd_by_cX12_laysLoads_0 rfl rfl
theorem dX12_laysLoads_30 : decode cX12_laysLoads 30 = .ok (.if_icmp .ne 20, 3) := yd_op_160 (i := 30) (a := 0) (b := 20) yd_by_cX12_laysLoads_0 rfl rfl
set_option maxRecDepth 100000 in
theorem yd_by_cX12_laysLoads_1 : ydk cX12_laysLoads 33 [42, 28, 182, 1, 180, 154, 0, 12, 42, 180, 0, 118, 7, 46, 167, 0, 4, 3, 96, 62, 3, 54, 4, 21, 4, 42, 182, 1, 174, 162, 0, 45, 42, 21, 4] = true := by decide +kernel
theorem dX12_laysLoads_33 : decode cX12_laysLoads 33 = .ok (.aload_n 0, 1) := yd_op_42 (i := 0) yd_by_cX12_laysLoads_1 rfl rfl
theorem dX12_laysLoads_34 : decode cX12_laysLoads 34 = .ok (.iload_n 2, 1) := yd_op_28 (i := 1) yd_by_cX12_laysLoads_1 rfl rfl
theorem dX12_laysLoads_35 : decode cX12_laysLoads 35 = .ok (.invokevirtual 436, 3) := yd_op_182 (i := 2) (a := 1) (b := 180) yd_by_cX12_laysLoads_1 rfl rfl
theorem dX12_laysLoads_38 : decode cX12_laysLoads 38 = .ok (.ifCond .ne 12, 3) := yd_op_154 (i := 5) (a := 0) (b := 12) yd_by_cX12_laysLoads_1 rfl rfl
theorem dX12_laysLoads_41 : decode cX12_laysLoads 41 = .ok (.aload_n 0, 1) := yd_op_42 (i := 8) yd_by_cX12_laysLoads_1 rfl rfl
theorem dX12_laysLoads_42 : decode cX12_laysLoads 42 = .ok (.getfield 118, 3) := yd_op_180 (i := 9) (a := 0) (b := 118) yd_by_cX12_laysLoads_1 rfl rfl
theorem dX12_laysLoads_45 : decode cX12_laysLoads 45 = .ok (.iconst 4, 1) := yd_op_7 (i := 12) yd_by_cX12_laysLoads_1 rfl rfl
theorem dX12_laysLoads_46 : decode cX12_laysLoads 46 = .ok (.iaload, 1) := yd_op_46 (i := 13) yd_by_cX12_laysLoads_1 rfl rfl
theorem dX12_laysLoads_47 : decode cX12_laysLoads 47 = .ok (.goto 4, 3) := yd_op_167 (i := 14) (a := 0) (b := 4) yd_by_cX12_laysLoads_1 rfl rfl
theorem dX12_laysLoads_50 : decode cX12_laysLoads 50 = .ok (.iconst 0, 1) := yd_op_3 (i := 17) yd_by_cX12_laysLoads_1 rfl rfl
theorem dX12_laysLoads_51 : decode cX12_laysLoads 51 = .ok (.iadd, 1) := yd_op_96 (i := 18) yd_by_cX12_laysLoads_1 rfl rfl
theorem dX12_laysLoads_52 : decode cX12_laysLoads 52 = .ok (.istore_n 3, 1) := yd_op_62 (i := 19) yd_by_cX12_laysLoads_1 rfl rfl
theorem dX12_laysLoads_53 : decode cX12_laysLoads 53 = .ok (.iconst 0, 1) := yd_op_3 (i := 20) yd_by_cX12_laysLoads_1 rfl rfl
theorem dX12_laysLoads_54 : decode cX12_laysLoads 54 = .ok (.istore 4, 2) := yd_op_54 (i := 21) (a := 4) yd_by_cX12_laysLoads_1 rfl rfl
theorem dX12_laysLoads_56 : decode cX12_laysLoads 56 = .ok (.iload 4, 2) := yd_op_21 (i := 23) (a := 4) yd_by_cX12_laysLoads_1 rfl rfl
theorem dX12_laysLoads_58 : decode cX12_laysLoads 58 = .ok (.aload_n 0, 1) := yd_op_42 (i := 25) yd_by_cX12_laysLoads_1 rfl rfl
theorem dX12_laysLoads_59 : decode cX12_laysLoads 59 = .ok (.invokevirtual 430, 3) := yd_op_182 (i := 26) (a := 1) (b := 174) yd_by_cX12_laysLoads_1 rfl rfl
theorem dX12_laysLoads_62 : decode cX12_laysLoads 62 = .ok (.if_icmp .ge 45, 3) := yd_op_162 (i := 29) (a := 0) (b := 45) yd_by_cX12_laysLoads_1 rfl rfl
theorem dX12_laysLoads_65 : decode cX12_laysLoads 65 = .ok (.aload_n 0, 1) := yd_op_42 (i := 32) yd_by_cX12_laysLoads_1 rfl rfl
theorem dX12_laysLoads_66 : decode cX12_laysLoads 66 = .ok (.iload 4, 2) := yd_op_21 (i := 33) (a := 4) yd_by_cX12_laysLoads_1 rfl rfl
set_option maxRecDepth 100000 in
theorem yd_by_cX12_laysLoads_2 : ydk cX12_laysLoads 68 [182, 1, 177, 54, 5, 42, 21, 5, 182, 1, 180, 153, 0, 22, 28, 21, 5, 184, 1, 139, 4, 160, 0, 12, 29, 42, 21, 5, 182, 1, 183, 96, 62, 132, 4, 1, 167, 255, 208, 42] = true := by decide +kernel
theorem dX12_laysLoads_68 : decode cX12_laysLoads 68 = .ok (.invokevirtual 433, 3) := yd_op_182 (i := 0) (a := 1) (b := 177) yd_by_cX12_laysLoads_2 rfl rfl
theorem dX12_laysLoads_71 : decode cX12_laysLoads 71 = .ok (.istore 5, 2) := yd_op_54 (i := 3) (a := 5) yd_by_cX12_laysLoads_2 rfl rfl
theorem dX12_laysLoads_73 : decode cX12_laysLoads 73 = .ok (.aload_n 0, 1) := yd_op_42 (i := 5) yd_by_cX12_laysLoads_2 rfl rfl
theorem dX12_laysLoads_74 : decode cX12_laysLoads 74 = .ok (.iload 5, 2) := yd_op_21 (i := 6) (a := 5) yd_by_cX12_laysLoads_2 rfl rfl
theorem dX12_laysLoads_76 : decode cX12_laysLoads 76 = .ok (.invokevirtual 436, 3) := yd_op_182 (i := 8) (a := 1) (b := 180) yd_by_cX12_laysLoads_2 rfl rfl
theorem dX12_laysLoads_79 : decode cX12_laysLoads 79 = .ok (.ifCond .eq 22, 3) := yd_op_153 (i := 11) (a := 0) (b := 22) yd_by_cX12_laysLoads_2 rfl rfl
theorem dX12_laysLoads_82 : decode cX12_laysLoads 82 = .ok (.iload_n 2, 1) := yd_op_28 (i := 14) yd_by_cX12_laysLoads_2 rfl rfl
theorem dX12_laysLoads_83 : decode cX12_laysLoads 83 = .ok (.iload 5, 2) := yd_op_21 (i := 15) (a := 5) yd_by_cX12_laysLoads_2 rfl rfl
theorem dX12_laysLoads_85 : decode cX12_laysLoads 85 = .ok (.invokestatic 395, 3) := yd_op_184 (i := 17) (a := 1) (b := 139) yd_by_cX12_laysLoads_2 rfl rfl
theorem dX12_laysLoads_88 : decode cX12_laysLoads 88 = .ok (.iconst 1, 1) := yd_op_4 (i := 20) yd_by_cX12_laysLoads_2 rfl rfl
theorem dX12_laysLoads_89 : decode cX12_laysLoads 89 = .ok (.if_icmp .ne 12, 3) := yd_op_160 (i := 21) (a := 0) (b := 12) yd_by_cX12_laysLoads_2 rfl rfl
theorem dX12_laysLoads_92 : decode cX12_laysLoads 92 = .ok (.iload_n 3, 1) := yd_op_29 (i := 24) yd_by_cX12_laysLoads_2 rfl rfl
theorem dX12_laysLoads_93 : decode cX12_laysLoads 93 = .ok (.aload_n 0, 1) := yd_op_42 (i := 25) yd_by_cX12_laysLoads_2 rfl rfl
theorem dX12_laysLoads_94 : decode cX12_laysLoads 94 = .ok (.iload 5, 2) := yd_op_21 (i := 26) (a := 5) yd_by_cX12_laysLoads_2 rfl rfl
theorem dX12_laysLoads_96 : decode cX12_laysLoads 96 = .ok (.invokevirtual 439, 3) := yd_op_182 (i := 28) (a := 1) (b := 183) yd_by_cX12_laysLoads_2 rfl rfl
theorem dX12_laysLoads_99 : decode cX12_laysLoads 99 = .ok (.iadd, 1) := yd_op_96 (i := 31) yd_by_cX12_laysLoads_2 rfl rfl
theorem dX12_laysLoads_100 : decode cX12_laysLoads 100 = .ok (.istore_n 3, 1) := yd_op_62 (i := 32) yd_by_cX12_laysLoads_2 rfl rfl
theorem dX12_laysLoads_101 : decode cX12_laysLoads 101 = .ok (.iinc 4 1, 3) := yd_op_132 (i := 33) (a := 4) (b := 1) yd_by_cX12_laysLoads_2 rfl rfl
theorem dX12_laysLoads_104 : decode cX12_laysLoads 104 = .ok (.goto (-48), 3) := yd_op_167 (i := 36) (a := 255) (b := 208) yd_by_cX12_laysLoads_2 rfl rfl
theorem dX12_laysLoads_107 : decode cX12_laysLoads 107 = .ok (.aload_n 0, 1) := yd_op_42 (i := 39) yd_by_cX12_laysLoads_2 rfl rfl
set_option maxRecDepth 100000 in
theorem yd_by_cX12_laysLoads_3 : ydk cX12_laysLoads 108 [180, 0, 136, 28, 29, 79, 132, 1, 1, 167, 255, 141, 177] = true := by decide +kernel
theorem dX12_laysLoads_108 : decode cX12_laysLoads 108 = .ok (.getfield 136, 3) := yd_op_180 (i := 0) (a := 0) (b := 136) yd_by_cX12_laysLoads_3 rfl rfl
theorem dX12_laysLoads_111 : decode cX12_laysLoads 111 = .ok (.iload_n 2, 1) := yd_op_28 (i := 3) yd_by_cX12_laysLoads_3 rfl rfl
theorem dX12_laysLoads_112 : decode cX12_laysLoads 112 = .ok (.iload_n 3, 1) := yd_op_29 (i := 4) yd_by_cX12_laysLoads_3 rfl rfl
theorem dX12_laysLoads_113 : decode cX12_laysLoads 113 = .ok (.iastore, 1) := yd_op_79 (i := 5) yd_by_cX12_laysLoads_3 rfl rfl
theorem dX12_laysLoads_114 : decode cX12_laysLoads 114 = .ok (.iinc 1 1, 3) := yd_op_132 (i := 6) (a := 1) (b := 1) yd_by_cX12_laysLoads_3 rfl rfl
theorem dX12_laysLoads_117 : decode cX12_laysLoads 117 = .ok (.goto (-115), 3) := yd_op_167 (i := 9) (a := 255) (b := 141) yd_by_cX12_laysLoads_3 rfl rfl
theorem dX12_laysLoads_120 : decode cX12_laysLoads 120 = .ok (.return_, 1) := yd_op_177 (i := 12) yd_by_cX12_laysLoads_3 rfl rfl
set_option maxRecDepth 100000 in
theorem yd_by_cX12_slackBy_0 : ydk cX12_slackBy 0 [42, 180, 0, 102, 8, 46, 42, 27, 28, 182, 1, 186, 96, 42, 180, 0, 136, 28, 46, 100, 172] = true := by decide +kernel
theorem dX12_slackBy_0 : decode cX12_slackBy 0 = .ok (.aload_n 0, 1) := yd_op_42 (i := 0) yd_by_cX12_slackBy_0 rfl rfl
theorem dX12_slackBy_1 : decode cX12_slackBy 1 = .ok (.getfield 102, 3) := yd_op_180 (i := 1) (a := 0) (b := 102) yd_by_cX12_slackBy_0 rfl rfl
theorem dX12_slackBy_4 : decode cX12_slackBy 4 = .ok (.iconst 5, 1) := yd_op_8 (i := 4) yd_by_cX12_slackBy_0 rfl rfl
theorem dX12_slackBy_5 : decode cX12_slackBy 5 = .ok (.iaload, 1) := yd_op_46 (i := 5) yd_by_cX12_slackBy_0 rfl rfl
theorem dX12_slackBy_6 : decode cX12_slackBy 6 = .ok (.aload_n 0, 1) := yd_op_42 (i := 6) yd_by_cX12_slackBy_0 rfl rfl
theorem dX12_slackBy_7 : decode cX12_slackBy 7 = .ok (.iload_n 1, 1) := yd_op_27 (i := 7) yd_by_cX12_slackBy_0 rfl rfl
theorem dX12_slackBy_8 : decode cX12_slackBy 8 = .ok (.iload_n 2, 1) := yd_op_28 (i := 8) yd_by_cX12_slackBy_0 rfl rfl
theorem dX12_slackBy_9 : decode cX12_slackBy 9 = .ok (.invokevirtual 442, 3) := yd_op_182 (i := 9) (a := 1) (b := 186) yd_by_cX12_slackBy_0 rfl rfl
theorem dX12_slackBy_12 : decode cX12_slackBy 12 = .ok (.iadd, 1) := yd_op_96 (i := 12) yd_by_cX12_slackBy_0 rfl rfl
theorem dX12_slackBy_13 : decode cX12_slackBy 13 = .ok (.aload_n 0, 1) := yd_op_42 (i := 13) yd_by_cX12_slackBy_0 rfl rfl
theorem dX12_slackBy_14 : decode cX12_slackBy 14 = .ok (.getfield 136, 3) := yd_op_180 (i := 14) (a := 0) (b := 136) yd_by_cX12_slackBy_0 rfl rfl
theorem dX12_slackBy_17 : decode cX12_slackBy 17 = .ok (.iload_n 2, 1) := yd_op_28 (i := 17) yd_by_cX12_slackBy_0 rfl rfl
theorem dX12_slackBy_18 : decode cX12_slackBy 18 = .ok (.iaload, 1) := yd_op_46 (i := 18) yd_by_cX12_slackBy_0 rfl rfl
theorem dX12_slackBy_19 : decode cX12_slackBy 19 = .ok (.isub, 1) := yd_op_100 (i := 19) yd_by_cX12_slackBy_0 rfl rfl
theorem dX12_slackBy_20 : decode cX12_slackBy 20 = .ok (.ireturn, 1) := yd_op_172 (i := 20) yd_by_cX12_slackBy_0 rfl rfl
set_option maxRecDepth 100000 in
theorem yd_by_cX12_cracksBy_0 : ydk cX12_cracksBy 0 [3, 61, 3, 62, 29, 42, 182, 1, 174, 162, 0, 37, 42, 42, 29, 182, 1, 177, 182, 1, 180, 154, 0, 19, 42, 27, 42, 29, 182, 1, 177, 182, 1, 189] = true := by decide +kernel
theorem dX12_cracksBy_0 : decode cX12_cracksBy 0 = .ok (.iconst 0, 1) := yd_op_3 (i := 0) yd_by_cX12_cracksBy_0 rfl rfl
theorem dX12_cracksBy_1 : decode cX12_cracksBy 1 = .ok (.istore_n 2, 1) := yd_op_61 (i := 1) yd_by_cX12_cracksBy_0 rfl rfl
theorem dX12_cracksBy_2 : decode cX12_cracksBy 2 = .ok (.iconst 0, 1) := yd_op_3 (i := 2) yd_by_cX12_cracksBy_0 rfl rfl
theorem dX12_cracksBy_3 : decode cX12_cracksBy 3 = .ok (.istore_n 3, 1) := yd_op_62 (i := 3) yd_by_cX12_cracksBy_0 rfl rfl
theorem dX12_cracksBy_4 : decode cX12_cracksBy 4 = .ok (.iload_n 3, 1) := yd_op_29 (i := 4) yd_by_cX12_cracksBy_0 rfl rfl
theorem dX12_cracksBy_5 : decode cX12_cracksBy 5 = .ok (.aload_n 0, 1) := yd_op_42 (i := 5) yd_by_cX12_cracksBy_0 rfl rfl
theorem dX12_cracksBy_6 : decode cX12_cracksBy 6 = .ok (.invokevirtual 430, 3) := yd_op_182 (i := 6) (a := 1) (b := 174) yd_by_cX12_cracksBy_0 rfl rfl
theorem dX12_cracksBy_9 : decode cX12_cracksBy 9 = .ok (.if_icmp .ge 37, 3) := yd_op_162 (i := 9) (a := 0) (b := 37) yd_by_cX12_cracksBy_0 rfl rfl
theorem dX12_cracksBy_12 : decode cX12_cracksBy 12 = .ok (.aload_n 0, 1) := yd_op_42 (i := 12) yd_by_cX12_cracksBy_0 rfl rfl
theorem dX12_cracksBy_13 : decode cX12_cracksBy 13 = .ok (.aload_n 0, 1) := yd_op_42 (i := 13) yd_by_cX12_cracksBy_0 rfl rfl
theorem dX12_cracksBy_14 : decode cX12_cracksBy 14 = .ok (.iload_n 3, 1) := yd_op_29 (i := 14) yd_by_cX12_cracksBy_0 rfl rfl
theorem dX12_cracksBy_15 : decode cX12_cracksBy 15 = .ok (.invokevirtual 433, 3) := yd_op_182 (i := 15) (a := 1) (b := 177) yd_by_cX12_cracksBy_0 rfl rfl
theorem dX12_cracksBy_18 : decode cX12_cracksBy 18 = .ok (.invokevirtual 436, 3) := yd_op_182 (i := 18) (a := 1) (b := 180) yd_by_cX12_cracksBy_0 rfl rfl
theorem dX12_cracksBy_21 : decode cX12_cracksBy 21 = .ok (.ifCond .ne 19, 3) := yd_op_154 (i := 21) (a := 0) (b := 19) yd_by_cX12_cracksBy_0 rfl rfl
theorem dX12_cracksBy_24 : decode cX12_cracksBy 24 = .ok (.aload_n 0, 1) := yd_op_42 (i := 24) yd_by_cX12_cracksBy_0 rfl rfl
theorem dX12_cracksBy_25 : decode cX12_cracksBy 25 = .ok (.iload_n 1, 1) := yd_op_27 (i := 25) yd_by_cX12_cracksBy_0 rfl rfl
theorem dX12_cracksBy_26 : decode cX12_cracksBy 26 = .ok (.aload_n 0, 1) := yd_op_42 (i := 26) yd_by_cX12_cracksBy_0 rfl rfl
theorem dX12_cracksBy_27 : decode cX12_cracksBy 27 = .ok (.iload_n 3, 1) := yd_op_29 (i := 27) yd_by_cX12_cracksBy_0 rfl rfl
theorem dX12_cracksBy_28 : decode cX12_cracksBy 28 = .ok (.invokevirtual 433, 3) := yd_op_182 (i := 28) (a := 1) (b := 177) yd_by_cX12_cracksBy_0 rfl rfl
theorem dX12_cracksBy_31 : decode cX12_cracksBy 31 = .ok (.invokevirtual 445, 3) := yd_op_182 (i := 31) (a := 1) (b := 189) yd_by_cX12_cracksBy_0 rfl rfl
set_option maxRecDepth 100000 in
theorem yd_by_cX12_cracksBy_1 : ydk cX12_cracksBy 34 [156, 0, 6, 132, 2, 1, 132, 3, 1, 167, 255, 217, 28, 172] = true := by decide +kernel
theorem dX12_cracksBy_34 : decode cX12_cracksBy 34 = .ok (.ifCond .ge 6, 3) := yd_op_156 (i := 0) (a := 0) (b := 6) yd_by_cX12_cracksBy_1 rfl rfl
theorem dX12_cracksBy_37 : decode cX12_cracksBy 37 = .ok (.iinc 2 1, 3) := yd_op_132 (i := 3) (a := 2) (b := 1) yd_by_cX12_cracksBy_1 rfl rfl
theorem dX12_cracksBy_40 : decode cX12_cracksBy 40 = .ok (.iinc 3 1, 3) := yd_op_132 (i := 6) (a := 3) (b := 1) yd_by_cX12_cracksBy_1 rfl rfl
theorem dX12_cracksBy_43 : decode cX12_cracksBy 43 = .ok (.goto (-39), 3) := yd_op_167 (i := 9) (a := 255) (b := 217) yd_by_cX12_cracksBy_1 rfl rfl
theorem dX12_cracksBy_46 : decode cX12_cracksBy 46 = .ok (.iload_n 2, 1) := yd_op_28 (i := 12) yd_by_cX12_cracksBy_1 rfl rfl
theorem dX12_cracksBy_47 : decode cX12_cracksBy 47 = .ok (.ireturn, 1) := yd_op_172 (i := 13) yd_by_cX12_cracksBy_1 rfl rfl
set_option maxRecDepth 100000 in
theorem yd_by_cX12_isKept_0 : ydk cX12_isKept 0 [42, 180, 1, 192, 153, 0, 4, 177, 42, 180, 0, 130, 16, 67, 46, 16, 40, 160, 0, 36, 16, 68, 61, 28, 17, 0, 185, 162, 0, 23, 42, 180, 0, 130, 28, 42, 180, 0, 130] = true := by decide +kernel
theorem dX12_isKept_0 : decode cX12_isKept 0 = .ok (.aload_n 0, 1) := yd_op_42 (i := 0) yd_by_cX12_isKept_0 rfl rfl
theorem dX12_isKept_1 : decode cX12_isKept 1 = .ok (.getfield 448, 3) := yd_op_180 (i := 1) (a := 1) (b := 192) yd_by_cX12_isKept_0 rfl rfl
theorem dX12_isKept_4 : decode cX12_isKept 4 = .ok (.ifCond .eq 4, 3) := yd_op_153 (i := 4) (a := 0) (b := 4) yd_by_cX12_isKept_0 rfl rfl
theorem dX12_isKept_7 : decode cX12_isKept 7 = .ok (.return_, 1) := yd_op_177 (i := 7) yd_by_cX12_isKept_0 rfl rfl
theorem dX12_isKept_8 : decode cX12_isKept 8 = .ok (.aload_n 0, 1) := yd_op_42 (i := 8) yd_by_cX12_isKept_0 rfl rfl
theorem dX12_isKept_9 : decode cX12_isKept 9 = .ok (.getfield 130, 3) := yd_op_180 (i := 9) (a := 0) (b := 130) yd_by_cX12_isKept_0 rfl rfl
theorem dX12_isKept_12 : decode cX12_isKept 12 = .ok (.bipush 67, 2) := yd_op_16 (i := 12) (a := 67) yd_by_cX12_isKept_0 rfl rfl
theorem dX12_isKept_14 : decode cX12_isKept 14 = .ok (.iaload, 1) := yd_op_46 (i := 14) yd_by_cX12_isKept_0 rfl rfl
theorem dX12_isKept_15 : decode cX12_isKept 15 = .ok (.bipush 40, 2) := yd_op_16 (i := 15) (a := 40) yd_by_cX12_isKept_0 rfl rfl
theorem dX12_isKept_17 : decode cX12_isKept 17 = .ok (.if_icmp .ne 36, 3) := yd_op_160 (i := 17) (a := 0) (b := 36) yd_by_cX12_isKept_0 rfl rfl
theorem dX12_isKept_20 : decode cX12_isKept 20 = .ok (.bipush 68, 2) := yd_op_16 (i := 20) (a := 68) yd_by_cX12_isKept_0 rfl rfl
theorem dX12_isKept_22 : decode cX12_isKept 22 = .ok (.istore_n 2, 1) := yd_op_61 (i := 22) yd_by_cX12_isKept_0 rfl rfl
theorem dX12_isKept_23 : decode cX12_isKept 23 = .ok (.iload_n 2, 1) := yd_op_28 (i := 23) yd_by_cX12_isKept_0 rfl rfl
theorem dX12_isKept_24 : decode cX12_isKept 24 = .ok (.sipush 185, 3) := yd_op_17 (i := 24) (a := 0) (b := 185) yd_by_cX12_isKept_0 rfl rfl
theorem dX12_isKept_27 : decode cX12_isKept 27 = .ok (.if_icmp .ge 23, 3) := yd_op_162 (i := 27) (a := 0) (b := 23) yd_by_cX12_isKept_0 rfl rfl
theorem dX12_isKept_30 : decode cX12_isKept 30 = .ok (.aload_n 0, 1) := yd_op_42 (i := 30) yd_by_cX12_isKept_0 rfl rfl
theorem dX12_isKept_31 : decode cX12_isKept 31 = .ok (.getfield 130, 3) := yd_op_180 (i := 31) (a := 0) (b := 130) yd_by_cX12_isKept_0 rfl rfl
theorem dX12_isKept_34 : decode cX12_isKept 34 = .ok (.iload_n 2, 1) := yd_op_28 (i := 34) yd_by_cX12_isKept_0 rfl rfl
theorem dX12_isKept_35 : decode cX12_isKept 35 = .ok (.aload_n 0, 1) := yd_op_42 (i := 35) yd_by_cX12_isKept_0 rfl rfl
theorem dX12_isKept_36 : decode cX12_isKept 36 = .ok (.getfield 130, 3) := yd_op_180 (i := 36) (a := 0) (b := 130) yd_by_cX12_isKept_0 rfl rfl
set_option maxRecDepth 100000 in
theorem yd_by_cX12_isKept_1 : ydk cX12_isKept 39 [28, 6, 96, 46, 79, 132, 2, 1, 167, 255, 232, 167, 0, 14, 42, 180, 0, 130, 16, 67, 92, 46, 4, 96, 79, 16, 68, 6, 42, 180, 0, 130] = true := by decide +kernel
theorem dX12_isKept_39 : decode cX12_isKept 39 = .ok (.iload_n 2, 1) := yd_op_28 (i := 0) yd_by_cX12_isKept_1 rfl rfl
theorem dX12_isKept_40 : decode cX12_isKept 40 = .ok (.iconst 3, 1) := yd_op_6 (i := 1) yd_by_cX12_isKept_1 rfl rfl
theorem dX12_isKept_41 : decode cX12_isKept 41 = .ok (.iadd, 1) := yd_op_96 (i := 2) yd_by_cX12_isKept_1 rfl rfl
theorem dX12_isKept_42 : decode cX12_isKept 42 = .ok (.iaload, 1) := yd_op_46 (i := 3) yd_by_cX12_isKept_1 rfl rfl
theorem dX12_isKept_43 : decode cX12_isKept 43 = .ok (.iastore, 1) := yd_op_79 (i := 4) yd_by_cX12_isKept_1 rfl rfl
theorem dX12_isKept_44 : decode cX12_isKept 44 = .ok (.iinc 2 1, 3) := yd_op_132 (i := 5) (a := 2) (b := 1) yd_by_cX12_isKept_1 rfl rfl
theorem dX12_isKept_47 : decode cX12_isKept 47 = .ok (.goto (-24), 3) := yd_op_167 (i := 8) (a := 255) (b := 232) yd_by_cX12_isKept_1 rfl rfl
theorem dX12_isKept_50 : decode cX12_isKept 50 = .ok (.goto 14, 3) := yd_op_167 (i := 11) (a := 0) (b := 14) yd_by_cX12_isKept_1 rfl rfl
theorem dX12_isKept_53 : decode cX12_isKept 53 = .ok (.aload_n 0, 1) := yd_op_42 (i := 14) yd_by_cX12_isKept_1 rfl rfl
theorem dX12_isKept_54 : decode cX12_isKept 54 = .ok (.getfield 130, 3) := yd_op_180 (i := 15) (a := 0) (b := 130) yd_by_cX12_isKept_1 rfl rfl
theorem dX12_isKept_57 : decode cX12_isKept 57 = .ok (.bipush 67, 2) := yd_op_16 (i := 18) (a := 67) yd_by_cX12_isKept_1 rfl rfl
theorem dX12_isKept_59 : decode cX12_isKept 59 = .ok (.dup2, 1) := yd_op_92 (i := 20) yd_by_cX12_isKept_1 rfl rfl
theorem dX12_isKept_60 : decode cX12_isKept 60 = .ok (.iaload, 1) := yd_op_46 (i := 21) yd_by_cX12_isKept_1 rfl rfl
theorem dX12_isKept_61 : decode cX12_isKept 61 = .ok (.iconst 1, 1) := yd_op_4 (i := 22) yd_by_cX12_isKept_1 rfl rfl
theorem dX12_isKept_62 : decode cX12_isKept 62 = .ok (.iadd, 1) := yd_op_96 (i := 23) yd_by_cX12_isKept_1 rfl rfl
theorem dX12_isKept_63 : decode cX12_isKept 63 = .ok (.iastore, 1) := yd_op_79 (i := 24) yd_by_cX12_isKept_1 rfl rfl
theorem dX12_isKept_64 : decode cX12_isKept 64 = .ok (.bipush 68, 2) := yd_op_16 (i := 25) (a := 68) yd_by_cX12_isKept_1 rfl rfl
theorem dX12_isKept_66 : decode cX12_isKept 66 = .ok (.iconst 3, 1) := yd_op_6 (i := 27) yd_by_cX12_isKept_1 rfl rfl
theorem dX12_isKept_67 : decode cX12_isKept 67 = .ok (.aload_n 0, 1) := yd_op_42 (i := 28) yd_by_cX12_isKept_1 rfl rfl
theorem dX12_isKept_68 : decode cX12_isKept 68 = .ok (.getfield 130, 3) := yd_op_180 (i := 29) (a := 0) (b := 130) yd_by_cX12_isKept_1 rfl rfl
set_option maxRecDepth 100000 in
theorem yd_by_cX12_isKept_2 : ydk cX12_isKept 71 [16, 67, 46, 104, 96, 6, 100, 61, 42, 180, 0, 130, 28, 42, 180, 0, 130, 3, 46, 79, 42, 180, 0, 130, 28, 4, 96] = true := by decide +kernel
theorem dX12_isKept_71 : decode cX12_isKept 71 = .ok (.bipush 67, 2) := yd_op_16 (i := 0) (a := 67) yd_by_cX12_isKept_2 rfl rfl
theorem dX12_isKept_73 : decode cX12_isKept 73 = .ok (.iaload, 1) := yd_op_46 (i := 2) yd_by_cX12_isKept_2 rfl rfl
theorem dX12_isKept_74 : decode cX12_isKept 74 = .ok (.imul, 1) := yd_op_104 (i := 3) yd_by_cX12_isKept_2 rfl rfl
theorem dX12_isKept_75 : decode cX12_isKept 75 = .ok (.iadd, 1) := yd_op_96 (i := 4) yd_by_cX12_isKept_2 rfl rfl
theorem dX12_isKept_76 : decode cX12_isKept 76 = .ok (.iconst 3, 1) := yd_op_6 (i := 5) yd_by_cX12_isKept_2 rfl rfl
theorem dX12_isKept_77 : decode cX12_isKept 77 = .ok (.isub, 1) := yd_op_100 (i := 6) yd_by_cX12_isKept_2 rfl rfl
theorem dX12_isKept_78 : decode cX12_isKept 78 = .ok (.istore_n 2, 1) := yd_op_61 (i := 7) yd_by_cX12_isKept_2 rfl rfl
theorem dX12_isKept_79 : decode cX12_isKept 79 = .ok (.aload_n 0, 1) := yd_op_42 (i := 8) yd_by_cX12_isKept_2 rfl rfl
theorem dX12_isKept_80 : decode cX12_isKept 80 = .ok (.getfield 130, 3) := yd_op_180 (i := 9) (a := 0) (b := 130) yd_by_cX12_isKept_2 rfl rfl
theorem dX12_isKept_83 : decode cX12_isKept 83 = .ok (.iload_n 2, 1) := yd_op_28 (i := 12) yd_by_cX12_isKept_2 rfl rfl
theorem dX12_isKept_84 : decode cX12_isKept 84 = .ok (.aload_n 0, 1) := yd_op_42 (i := 13) yd_by_cX12_isKept_2 rfl rfl
theorem dX12_isKept_85 : decode cX12_isKept 85 = .ok (.getfield 130, 3) := yd_op_180 (i := 14) (a := 0) (b := 130) yd_by_cX12_isKept_2 rfl rfl
theorem dX12_isKept_88 : decode cX12_isKept 88 = .ok (.iconst 0, 1) := yd_op_3 (i := 17) yd_by_cX12_isKept_2 rfl rfl
theorem dX12_isKept_89 : decode cX12_isKept 89 = .ok (.iaload, 1) := yd_op_46 (i := 18) yd_by_cX12_isKept_2 rfl rfl
theorem dX12_isKept_90 : decode cX12_isKept 90 = .ok (.iastore, 1) := yd_op_79 (i := 19) yd_by_cX12_isKept_2 rfl rfl
theorem dX12_isKept_91 : decode cX12_isKept 91 = .ok (.aload_n 0, 1) := yd_op_42 (i := 20) yd_by_cX12_isKept_2 rfl rfl
theorem dX12_isKept_92 : decode cX12_isKept 92 = .ok (.getfield 130, 3) := yd_op_180 (i := 21) (a := 0) (b := 130) yd_by_cX12_isKept_2 rfl rfl
theorem dX12_isKept_95 : decode cX12_isKept 95 = .ok (.iload_n 2, 1) := yd_op_28 (i := 24) yd_by_cX12_isKept_2 rfl rfl
theorem dX12_isKept_96 : decode cX12_isKept 96 = .ok (.iconst 1, 1) := yd_op_4 (i := 25) yd_by_cX12_isKept_2 rfl rfl
theorem dX12_isKept_97 : decode cX12_isKept 97 = .ok (.iadd, 1) := yd_op_96 (i := 26) yd_by_cX12_isKept_2 rfl rfl
set_option maxRecDepth 100000 in
theorem yd_by_cX12_isKept_3 : ydk cX12_isKept 98 [27, 16, 6, 112, 79, 42, 180, 0, 130, 28, 5, 96, 27, 16, 6, 108, 79, 177] = true := by decide +kernel
theorem dX12_isKept_98 : decode cX12_isKept 98 = .ok (.iload_n 1, 1) := yd_op_27 (i := 0) yd_by_cX12_isKept_3 rfl rfl
theorem dX12_isKept_99 : decode cX12_isKept 99 = .ok (.bipush 6, 2) := yd_op_16 (i := 1) (a := 6) yd_by_cX12_isKept_3 rfl rfl
theorem dX12_isKept_101 : decode cX12_isKept 101 = .ok (.irem, 1) := yd_op_112 (i := 3) yd_by_cX12_isKept_3 rfl rfl
theorem dX12_isKept_102 : decode cX12_isKept 102 = .ok (.iastore, 1) := yd_op_79 (i := 4) yd_by_cX12_isKept_3 rfl rfl
theorem dX12_isKept_103 : decode cX12_isKept 103 = .ok (.aload_n 0, 1) := yd_op_42 (i := 5) yd_by_cX12_isKept_3 rfl rfl
theorem dX12_isKept_104 : decode cX12_isKept 104 = .ok (.getfield 130, 3) := yd_op_180 (i := 6) (a := 0) (b := 130) yd_by_cX12_isKept_3 rfl rfl
theorem dX12_isKept_107 : decode cX12_isKept 107 = .ok (.iload_n 2, 1) := yd_op_28 (i := 9) yd_by_cX12_isKept_3 rfl rfl
theorem dX12_isKept_108 : decode cX12_isKept 108 = .ok (.iconst 2, 1) := yd_op_5 (i := 10) yd_by_cX12_isKept_3 rfl rfl
theorem dX12_isKept_109 : decode cX12_isKept 109 = .ok (.iadd, 1) := yd_op_96 (i := 11) yd_by_cX12_isKept_3 rfl rfl
theorem dX12_isKept_110 : decode cX12_isKept 110 = .ok (.iload_n 1, 1) := yd_op_27 (i := 12) yd_by_cX12_isKept_3 rfl rfl
theorem dX12_isKept_111 : decode cX12_isKept 111 = .ok (.bipush 6, 2) := yd_op_16 (i := 13) (a := 6) yd_by_cX12_isKept_3 rfl rfl
theorem dX12_isKept_113 : decode cX12_isKept 113 = .ok (.idiv, 1) := yd_op_108 (i := 15) yd_by_cX12_isKept_3 rfl rfl
theorem dX12_isKept_114 : decode cX12_isKept 114 = .ok (.iastore, 1) := yd_op_79 (i := 16) yd_by_cX12_isKept_3 rfl rfl
theorem dX12_isKept_115 : decode cX12_isKept 115 = .ok (.return_, 1) := yd_op_177 (i := 17) yd_by_cX12_isKept_3 rfl rfl
set_option maxRecDepth 100000 in
theorem yd_by_cX12_hourGoes_0 : ydk cX12_hourGoes 0 [42, 182, 1, 195, 60, 42, 182, 1, 198, 3, 61, 28, 42, 182, 1, 174, 162, 0, 43, 42, 28, 182, 1, 177, 62, 42, 180, 0, 142, 29, 42, 29] = true := by decide +kernel
theorem dX12_hourGoes_0 : decode cX12_hourGoes 0 = .ok (.aload_n 0, 1) := yd_op_42 (i := 0) yd_by_cX12_hourGoes_0 rfl rfl
theorem dX12_hourGoes_1 : decode cX12_hourGoes 1 = .ok (.invokevirtual 451, 3) := yd_op_182 (i := 1) (a := 1) (b := 195) yd_by_cX12_hourGoes_0 rfl rfl
theorem dX12_hourGoes_4 : decode cX12_hourGoes 4 = .ok (.istore_n 1, 1) := yd_op_60 (i := 4) yd_by_cX12_hourGoes_0 rfl rfl
theorem dX12_hourGoes_5 : decode cX12_hourGoes 5 = .ok (.aload_n 0, 1) := yd_op_42 (i := 5) yd_by_cX12_hourGoes_0 rfl rfl
theorem dX12_hourGoes_6 : decode cX12_hourGoes 6 = .ok (.invokevirtual 454, 3) := yd_op_182 (i := 6) (a := 1) (b := 198) yd_by_cX12_hourGoes_0 rfl rfl
theorem dX12_hourGoes_9 : decode cX12_hourGoes 9 = .ok (.iconst 0, 1) := yd_op_3 (i := 9) yd_by_cX12_hourGoes_0 rfl rfl
theorem dX12_hourGoes_10 : decode cX12_hourGoes 10 = .ok (.istore_n 2, 1) := yd_op_61 (i := 10) yd_by_cX12_hourGoes_0 rfl rfl
theorem dX12_hourGoes_11 : decode cX12_hourGoes 11 = .ok (.iload_n 2, 1) := yd_op_28 (i := 11) yd_by_cX12_hourGoes_0 rfl rfl
theorem dX12_hourGoes_12 : decode cX12_hourGoes 12 = .ok (.aload_n 0, 1) := yd_op_42 (i := 12) yd_by_cX12_hourGoes_0 rfl rfl
theorem dX12_hourGoes_13 : decode cX12_hourGoes 13 = .ok (.invokevirtual 430, 3) := yd_op_182 (i := 13) (a := 1) (b := 174) yd_by_cX12_hourGoes_0 rfl rfl
theorem dX12_hourGoes_16 : decode cX12_hourGoes 16 = .ok (.if_icmp .ge 43, 3) := yd_op_162 (i := 16) (a := 0) (b := 43) yd_by_cX12_hourGoes_0 rfl rfl
theorem dX12_hourGoes_19 : decode cX12_hourGoes 19 = .ok (.aload_n 0, 1) := yd_op_42 (i := 19) yd_by_cX12_hourGoes_0 rfl rfl
theorem dX12_hourGoes_20 : decode cX12_hourGoes 20 = .ok (.iload_n 2, 1) := yd_op_28 (i := 20) yd_by_cX12_hourGoes_0 rfl rfl
theorem dX12_hourGoes_21 : decode cX12_hourGoes 21 = .ok (.invokevirtual 433, 3) := yd_op_182 (i := 21) (a := 1) (b := 177) yd_by_cX12_hourGoes_0 rfl rfl
theorem dX12_hourGoes_24 : decode cX12_hourGoes 24 = .ok (.istore_n 3, 1) := yd_op_62 (i := 24) yd_by_cX12_hourGoes_0 rfl rfl
theorem dX12_hourGoes_25 : decode cX12_hourGoes 25 = .ok (.aload_n 0, 1) := yd_op_42 (i := 25) yd_by_cX12_hourGoes_0 rfl rfl
theorem dX12_hourGoes_26 : decode cX12_hourGoes 26 = .ok (.getfield 142, 3) := yd_op_180 (i := 26) (a := 0) (b := 142) yd_by_cX12_hourGoes_0 rfl rfl
theorem dX12_hourGoes_29 : decode cX12_hourGoes 29 = .ok (.iload_n 3, 1) := yd_op_29 (i := 29) yd_by_cX12_hourGoes_0 rfl rfl
theorem dX12_hourGoes_30 : decode cX12_hourGoes 30 = .ok (.aload_n 0, 1) := yd_op_42 (i := 30) yd_by_cX12_hourGoes_0 rfl rfl
theorem dX12_hourGoes_31 : decode cX12_hourGoes 31 = .ok (.iload_n 3, 1) := yd_op_29 (i := 31) yd_by_cX12_hourGoes_0 rfl rfl
set_option maxRecDepth 100000 in
theorem yd_by_cX12_hourGoes_1 : ydk cX12_hourGoes 32 [182, 1, 180, 154, 0, 16, 42, 27, 29, 182, 1, 189, 156, 0, 7, 4, 167, 0, 4, 3, 84, 132, 2, 1, 167, 255, 211, 3, 61, 28, 42, 182, 1, 174, 162, 0, 51, 42] = true := by decide +kernel
theorem dX12_hourGoes_32 : decode cX12_hourGoes 32 = .ok (.invokevirtual 436, 3) := yd_op_182 (i := 0) (a := 1) (b := 180) yd_by_cX12_hourGoes_1 rfl rfl
theorem dX12_hourGoes_35 : decode cX12_hourGoes 35 = .ok (.ifCond .ne 16, 3) := yd_op_154 (i := 3) (a := 0) (b := 16) yd_by_cX12_hourGoes_1 rfl rfl
theorem dX12_hourGoes_38 : decode cX12_hourGoes 38 = .ok (.aload_n 0, 1) := yd_op_42 (i := 6) yd_by_cX12_hourGoes_1 rfl rfl
theorem dX12_hourGoes_39 : decode cX12_hourGoes 39 = .ok (.iload_n 1, 1) := yd_op_27 (i := 7) yd_by_cX12_hourGoes_1 rfl rfl
theorem dX12_hourGoes_40 : decode cX12_hourGoes 40 = .ok (.iload_n 3, 1) := yd_op_29 (i := 8) yd_by_cX12_hourGoes_1 rfl rfl
theorem dX12_hourGoes_41 : decode cX12_hourGoes 41 = .ok (.invokevirtual 445, 3) := yd_op_182 (i := 9) (a := 1) (b := 189) yd_by_cX12_hourGoes_1 rfl rfl
theorem dX12_hourGoes_44 : decode cX12_hourGoes 44 = .ok (.ifCond .ge 7, 3) := yd_op_156 (i := 12) (a := 0) (b := 7) yd_by_cX12_hourGoes_1 rfl rfl
theorem dX12_hourGoes_47 : decode cX12_hourGoes 47 = .ok (.iconst 1, 1) := yd_op_4 (i := 15) yd_by_cX12_hourGoes_1 rfl rfl
theorem dX12_hourGoes_48 : decode cX12_hourGoes 48 = .ok (.goto 4, 3) := yd_op_167 (i := 16) (a := 0) (b := 4) yd_by_cX12_hourGoes_1 rfl rfl
theorem dX12_hourGoes_51 : decode cX12_hourGoes 51 = .ok (.iconst 0, 1) := yd_op_3 (i := 19) yd_by_cX12_hourGoes_1 rfl rfl
theorem dX12_hourGoes_52 : decode cX12_hourGoes 52 = .ok (.bastore, 1) := yd_op_84 (i := 20) yd_by_cX12_hourGoes_1 rfl rfl
theorem dX12_hourGoes_53 : decode cX12_hourGoes 53 = .ok (.iinc 2 1, 3) := yd_op_132 (i := 21) (a := 2) (b := 1) yd_by_cX12_hourGoes_1 rfl rfl
theorem dX12_hourGoes_56 : decode cX12_hourGoes 56 = .ok (.goto (-45), 3) := yd_op_167 (i := 24) (a := 255) (b := 211) yd_by_cX12_hourGoes_1 rfl rfl
theorem dX12_hourGoes_59 : decode cX12_hourGoes 59 = .ok (.iconst 0, 1) := yd_op_3 (i := 27) yd_by_cX12_hourGoes_1 rfl rfl
theorem dX12_hourGoes_60 : decode cX12_hourGoes 60 = .ok (.istore_n 2, 1) := yd_op_61 (i := 28) yd_by_cX12_hourGoes_1 rfl rfl
theorem dX12_hourGoes_61 : decode cX12_hourGoes 61 = .ok (.iload_n 2, 1) := yd_op_28 (i := 29) yd_by_cX12_hourGoes_1 rfl rfl
theorem dX12_hourGoes_62 : decode cX12_hourGoes 62 = .ok (.aload_n 0, 1) := yd_op_42 (i := 30) yd_by_cX12_hourGoes_1 rfl rfl
theorem dX12_hourGoes_63 : decode cX12_hourGoes 63 = .ok (.invokevirtual 430, 3) := yd_op_182 (i := 31) (a := 1) (b := 174) yd_by_cX12_hourGoes_1 rfl rfl
theorem dX12_hourGoes_66 : decode cX12_hourGoes 66 = .ok (.if_icmp .ge 51, 3) := yd_op_162 (i := 34) (a := 0) (b := 51) yd_by_cX12_hourGoes_1 rfl rfl
theorem dX12_hourGoes_69 : decode cX12_hourGoes 69 = .ok (.aload_n 0, 1) := yd_op_42 (i := 37) yd_by_cX12_hourGoes_1 rfl rfl
set_option maxRecDepth 100000 in
theorem yd_by_cX12_hourGoes_2 : ydk cX12_hourGoes 70 [28, 182, 1, 177, 62, 42, 180, 0, 142, 29, 51, 154, 0, 6, 167, 0, 27, 42, 180, 0, 130, 4, 29, 96, 4, 79, 42, 89, 180, 1, 201, 4] = true := by decide +kernel
theorem dX12_hourGoes_70 : decode cX12_hourGoes 70 = .ok (.iload_n 2, 1) := yd_op_28 (i := 0) yd_by_cX12_hourGoes_2 rfl rfl
theorem dX12_hourGoes_71 : decode cX12_hourGoes 71 = .ok (.invokevirtual 433, 3) := yd_op_182 (i := 1) (a := 1) (b := 177) yd_by_cX12_hourGoes_2 rfl rfl
theorem dX12_hourGoes_74 : decode cX12_hourGoes 74 = .ok (.istore_n 3, 1) := yd_op_62 (i := 4) yd_by_cX12_hourGoes_2 rfl rfl
theorem dX12_hourGoes_75 : decode cX12_hourGoes 75 = .ok (.aload_n 0, 1) := yd_op_42 (i := 5) yd_by_cX12_hourGoes_2 rfl rfl
theorem dX12_hourGoes_76 : decode cX12_hourGoes 76 = .ok (.getfield 142, 3) := yd_op_180 (i := 6) (a := 0) (b := 142) yd_by_cX12_hourGoes_2 rfl rfl
theorem dX12_hourGoes_79 : decode cX12_hourGoes 79 = .ok (.iload_n 3, 1) := yd_op_29 (i := 9) yd_by_cX12_hourGoes_2 rfl rfl
theorem dX12_hourGoes_80 : decode cX12_hourGoes 80 = .ok (.baload, 1) := yd_op_51 (i := 10) yd_by_cX12_hourGoes_2 rfl rfl
theorem dX12_hourGoes_81 : decode cX12_hourGoes 81 = .ok (.ifCond .ne 6, 3) := yd_op_154 (i := 11) (a := 0) (b := 6) yd_by_cX12_hourGoes_2 rfl rfl
theorem dX12_hourGoes_84 : decode cX12_hourGoes 84 = .ok (.goto 27, 3) := yd_op_167 (i := 14) (a := 0) (b := 27) yd_by_cX12_hourGoes_2 rfl rfl
theorem dX12_hourGoes_87 : decode cX12_hourGoes 87 = .ok (.aload_n 0, 1) := yd_op_42 (i := 17) yd_by_cX12_hourGoes_2 rfl rfl
theorem dX12_hourGoes_88 : decode cX12_hourGoes 88 = .ok (.getfield 130, 3) := yd_op_180 (i := 18) (a := 0) (b := 130) yd_by_cX12_hourGoes_2 rfl rfl
theorem dX12_hourGoes_91 : decode cX12_hourGoes 91 = .ok (.iconst 1, 1) := yd_op_4 (i := 21) yd_by_cX12_hourGoes_2 rfl rfl
theorem dX12_hourGoes_92 : decode cX12_hourGoes 92 = .ok (.iload_n 3, 1) := yd_op_29 (i := 22) yd_by_cX12_hourGoes_2 rfl rfl
theorem dX12_hourGoes_93 : decode cX12_hourGoes 93 = .ok (.iadd, 1) := yd_op_96 (i := 23) yd_by_cX12_hourGoes_2 rfl rfl
theorem dX12_hourGoes_94 : decode cX12_hourGoes 94 = .ok (.iconst 1, 1) := yd_op_4 (i := 24) yd_by_cX12_hourGoes_2 rfl rfl
theorem dX12_hourGoes_95 : decode cX12_hourGoes 95 = .ok (.iastore, 1) := yd_op_79 (i := 25) yd_by_cX12_hourGoes_2 rfl rfl
theorem dX12_hourGoes_96 : decode cX12_hourGoes 96 = .ok (.aload_n 0, 1) := yd_op_42 (i := 26) yd_by_cX12_hourGoes_2 rfl rfl
theorem dX12_hourGoes_97 : decode cX12_hourGoes 97 = .ok (.dup, 1) := yd_op_89 (i := 27) yd_by_cX12_hourGoes_2 rfl rfl
theorem dX12_hourGoes_98 : decode cX12_hourGoes 98 = .ok (.getfield 457, 3) := yd_op_180 (i := 28) (a := 1) (b := 201) yd_by_cX12_hourGoes_2 rfl rfl
theorem dX12_hourGoes_101 : decode cX12_hourGoes 101 = .ok (.iconst 1, 1) := yd_op_4 (i := 31) yd_by_cX12_hourGoes_2 rfl rfl
set_option maxRecDepth 100000 in
theorem yd_by_cX12_hourGoes_3 : ydk cX12_hourGoes 102 [96, 181, 1, 201, 42, 29, 182, 1, 204, 132, 2, 1, 167, 255, 203, 3, 61, 28, 42, 182, 1, 129, 162, 0, 87, 16, 37, 6, 28, 104, 96, 4, 96] = true := by decide +kernel
theorem dX12_hourGoes_102 : decode cX12_hourGoes 102 = .ok (.iadd, 1) := yd_op_96 (i := 0) yd_by_cX12_hourGoes_3 rfl rfl
theorem dX12_hourGoes_103 : decode cX12_hourGoes 103 = .ok (.putfield 457, 3) := yd_op_181 (i := 1) (a := 1) (b := 201) yd_by_cX12_hourGoes_3 rfl rfl
theorem dX12_hourGoes_106 : decode cX12_hourGoes 106 = .ok (.aload_n 0, 1) := yd_op_42 (i := 4) yd_by_cX12_hourGoes_3 rfl rfl
theorem dX12_hourGoes_107 : decode cX12_hourGoes 107 = .ok (.iload_n 3, 1) := yd_op_29 (i := 5) yd_by_cX12_hourGoes_3 rfl rfl
theorem dX12_hourGoes_108 : decode cX12_hourGoes 108 = .ok (.invokevirtual 460, 3) := yd_op_182 (i := 6) (a := 1) (b := 204) yd_by_cX12_hourGoes_3 rfl rfl
theorem dX12_hourGoes_111 : decode cX12_hourGoes 111 = .ok (.iinc 2 1, 3) := yd_op_132 (i := 9) (a := 2) (b := 1) yd_by_cX12_hourGoes_3 rfl rfl
theorem dX12_hourGoes_114 : decode cX12_hourGoes 114 = .ok (.goto (-53), 3) := yd_op_167 (i := 12) (a := 255) (b := 203) yd_by_cX12_hourGoes_3 rfl rfl
theorem dX12_hourGoes_117 : decode cX12_hourGoes 117 = .ok (.iconst 0, 1) := yd_op_3 (i := 15) yd_by_cX12_hourGoes_3 rfl rfl
theorem dX12_hourGoes_118 : decode cX12_hourGoes 118 = .ok (.istore_n 2, 1) := yd_op_61 (i := 16) yd_by_cX12_hourGoes_3 rfl rfl
theorem dX12_hourGoes_119 : decode cX12_hourGoes 119 = .ok (.iload_n 2, 1) := yd_op_28 (i := 17) yd_by_cX12_hourGoes_3 rfl rfl
theorem dX12_hourGoes_120 : decode cX12_hourGoes 120 = .ok (.aload_n 0, 1) := yd_op_42 (i := 18) yd_by_cX12_hourGoes_3 rfl rfl
theorem dX12_hourGoes_121 : decode cX12_hourGoes 121 = .ok (.invokevirtual 385, 3) := yd_op_182 (i := 19) (a := 1) (b := 129) yd_by_cX12_hourGoes_3 rfl rfl
theorem dX12_hourGoes_124 : decode cX12_hourGoes 124 = .ok (.if_icmp .ge 87, 3) := yd_op_162 (i := 22) (a := 0) (b := 87) yd_by_cX12_hourGoes_3 rfl rfl
theorem dX12_hourGoes_127 : decode cX12_hourGoes 127 = .ok (.bipush 37, 2) := yd_op_16 (i := 25) (a := 37) yd_by_cX12_hourGoes_3 rfl rfl
theorem dX12_hourGoes_129 : decode cX12_hourGoes 129 = .ok (.iconst 3, 1) := yd_op_6 (i := 27) yd_by_cX12_hourGoes_3 rfl rfl
theorem dX12_hourGoes_130 : decode cX12_hourGoes 130 = .ok (.iload_n 2, 1) := yd_op_28 (i := 28) yd_by_cX12_hourGoes_3 rfl rfl
theorem dX12_hourGoes_131 : decode cX12_hourGoes 131 = .ok (.imul, 1) := yd_op_104 (i := 29) yd_by_cX12_hourGoes_3 rfl rfl
theorem dX12_hourGoes_132 : decode cX12_hourGoes 132 = .ok (.iadd, 1) := yd_op_96 (i := 30) yd_by_cX12_hourGoes_3 rfl rfl
theorem dX12_hourGoes_133 : decode cX12_hourGoes 133 = .ok (.iconst 1, 1) := yd_op_4 (i := 31) yd_by_cX12_hourGoes_3 rfl rfl
theorem dX12_hourGoes_134 : decode cX12_hourGoes 134 = .ok (.iadd, 1) := yd_op_96 (i := 32) yd_by_cX12_hourGoes_3 rfl rfl
set_option maxRecDepth 100000 in
theorem yd_by_cX12_hourGoes_4 : ydk cX12_hourGoes 135 [62, 27, 28, 122, 4, 126, 4, 160, 0, 36, 42, 180, 0, 130, 29, 42, 180, 0, 130, 29, 46, 16, 99, 160, 0, 8, 16, 99, 167, 0, 11, 42] = true := by decide +kernel
theorem dX12_hourGoes_135 : decode cX12_hourGoes 135 = .ok (.istore_n 3, 1) := yd_op_62 (i := 0) yd_by_cX12_hourGoes_4 rfl rfl
theorem dX12_hourGoes_136 : decode cX12_hourGoes 136 = .ok (.iload_n 1, 1) := yd_op_27 (i := 1) yd_by_cX12_hourGoes_4 rfl rfl
theorem dX12_hourGoes_137 : decode cX12_hourGoes 137 = .ok (.iload_n 2, 1) := yd_op_28 (i := 2) yd_by_cX12_hourGoes_4 rfl rfl
theorem dX12_hourGoes_138 : decode cX12_hourGoes 138 = .ok (.ishr, 1) := yd_op_122 (i := 3) yd_by_cX12_hourGoes_4 rfl rfl
theorem dX12_hourGoes_139 : decode cX12_hourGoes 139 = .ok (.iconst 1, 1) := yd_op_4 (i := 4) yd_by_cX12_hourGoes_4 rfl rfl
theorem dX12_hourGoes_140 : decode cX12_hourGoes 140 = .ok (.iand, 1) := yd_op_126 (i := 5) yd_by_cX12_hourGoes_4 rfl rfl
theorem dX12_hourGoes_141 : decode cX12_hourGoes 141 = .ok (.iconst 1, 1) := yd_op_4 (i := 6) yd_by_cX12_hourGoes_4 rfl rfl
theorem dX12_hourGoes_142 : decode cX12_hourGoes 142 = .ok (.if_icmp .ne 36, 3) := yd_op_160 (i := 7) (a := 0) (b := 36) yd_by_cX12_hourGoes_4 rfl rfl
theorem dX12_hourGoes_145 : decode cX12_hourGoes 145 = .ok (.aload_n 0, 1) := yd_op_42 (i := 10) yd_by_cX12_hourGoes_4 rfl rfl
theorem dX12_hourGoes_146 : decode cX12_hourGoes 146 = .ok (.getfield 130, 3) := yd_op_180 (i := 11) (a := 0) (b := 130) yd_by_cX12_hourGoes_4 rfl rfl
theorem dX12_hourGoes_149 : decode cX12_hourGoes 149 = .ok (.iload_n 3, 1) := yd_op_29 (i := 14) yd_by_cX12_hourGoes_4 rfl rfl
theorem dX12_hourGoes_150 : decode cX12_hourGoes 150 = .ok (.aload_n 0, 1) := yd_op_42 (i := 15) yd_by_cX12_hourGoes_4 rfl rfl
theorem dX12_hourGoes_151 : decode cX12_hourGoes 151 = .ok (.getfield 130, 3) := yd_op_180 (i := 16) (a := 0) (b := 130) yd_by_cX12_hourGoes_4 rfl rfl
theorem dX12_hourGoes_154 : decode cX12_hourGoes 154 = .ok (.iload_n 3, 1) := yd_op_29 (i := 19) yd_by_cX12_hourGoes_4 rfl rfl
theorem dX12_hourGoes_155 : decode cX12_hourGoes 155 = .ok (.iaload, 1) := yd_op_46 (i := 20) yd_by_cX12_hourGoes_4 rfl rfl
theorem dX12_hourGoes_156 : decode cX12_hourGoes 156 = .ok (.bipush 99, 2) := yd_op_16 (i := 21) (a := 99) yd_by_cX12_hourGoes_4 rfl rfl
theorem dX12_hourGoes_158 : decode cX12_hourGoes 158 = .ok (.if_icmp .ne 8, 3) := yd_op_160 (i := 23) (a := 0) (b := 8) yd_by_cX12_hourGoes_4 rfl rfl
theorem dX12_hourGoes_161 : decode cX12_hourGoes 161 = .ok (.bipush 99, 2) := yd_op_16 (i := 26) (a := 99) yd_by_cX12_hourGoes_4 rfl rfl
theorem dX12_hourGoes_163 : decode cX12_hourGoes 163 = .ok (.goto 11, 3) := yd_op_167 (i := 28) (a := 0) (b := 11) yd_by_cX12_hourGoes_4 rfl rfl
theorem dX12_hourGoes_166 : decode cX12_hourGoes 166 = .ok (.aload_n 0, 1) := yd_op_42 (i := 31) yd_by_cX12_hourGoes_4 rfl rfl
set_option maxRecDepth 100000 in
theorem yd_by_cX12_hourGoes_5 : ydk cX12_hourGoes 167 [180, 0, 130, 29, 46, 4, 96, 79, 167, 0, 30, 42, 180, 0, 130, 29, 42, 180, 0, 130, 29, 46, 154, 0, 7, 3, 167, 0, 11, 42, 180, 0, 130, 29] = true := by decide +kernel
theorem dX12_hourGoes_167 : decode cX12_hourGoes 167 = .ok (.getfield 130, 3) := yd_op_180 (i := 0) (a := 0) (b := 130) yd_by_cX12_hourGoes_5 rfl rfl
theorem dX12_hourGoes_170 : decode cX12_hourGoes 170 = .ok (.iload_n 3, 1) := yd_op_29 (i := 3) yd_by_cX12_hourGoes_5 rfl rfl
theorem dX12_hourGoes_171 : decode cX12_hourGoes 171 = .ok (.iaload, 1) := yd_op_46 (i := 4) yd_by_cX12_hourGoes_5 rfl rfl
theorem dX12_hourGoes_172 : decode cX12_hourGoes 172 = .ok (.iconst 1, 1) := yd_op_4 (i := 5) yd_by_cX12_hourGoes_5 rfl rfl
theorem dX12_hourGoes_173 : decode cX12_hourGoes 173 = .ok (.iadd, 1) := yd_op_96 (i := 6) yd_by_cX12_hourGoes_5 rfl rfl
theorem dX12_hourGoes_174 : decode cX12_hourGoes 174 = .ok (.iastore, 1) := yd_op_79 (i := 7) yd_by_cX12_hourGoes_5 rfl rfl
theorem dX12_hourGoes_175 : decode cX12_hourGoes 175 = .ok (.goto 30, 3) := yd_op_167 (i := 8) (a := 0) (b := 30) yd_by_cX12_hourGoes_5 rfl rfl
theorem dX12_hourGoes_178 : decode cX12_hourGoes 178 = .ok (.aload_n 0, 1) := yd_op_42 (i := 11) yd_by_cX12_hourGoes_5 rfl rfl
theorem dX12_hourGoes_179 : decode cX12_hourGoes 179 = .ok (.getfield 130, 3) := yd_op_180 (i := 12) (a := 0) (b := 130) yd_by_cX12_hourGoes_5 rfl rfl
theorem dX12_hourGoes_182 : decode cX12_hourGoes 182 = .ok (.iload_n 3, 1) := yd_op_29 (i := 15) yd_by_cX12_hourGoes_5 rfl rfl
theorem dX12_hourGoes_183 : decode cX12_hourGoes 183 = .ok (.aload_n 0, 1) := yd_op_42 (i := 16) yd_by_cX12_hourGoes_5 rfl rfl
theorem dX12_hourGoes_184 : decode cX12_hourGoes 184 = .ok (.getfield 130, 3) := yd_op_180 (i := 17) (a := 0) (b := 130) yd_by_cX12_hourGoes_5 rfl rfl
theorem dX12_hourGoes_187 : decode cX12_hourGoes 187 = .ok (.iload_n 3, 1) := yd_op_29 (i := 20) yd_by_cX12_hourGoes_5 rfl rfl
theorem dX12_hourGoes_188 : decode cX12_hourGoes 188 = .ok (.iaload, 1) := yd_op_46 (i := 21) yd_by_cX12_hourGoes_5 rfl rfl
theorem dX12_hourGoes_189 : decode cX12_hourGoes 189 = .ok (.ifCond .ne 7, 3) := yd_op_154 (i := 22) (a := 0) (b := 7) yd_by_cX12_hourGoes_5 rfl rfl
theorem dX12_hourGoes_192 : decode cX12_hourGoes 192 = .ok (.iconst 0, 1) := yd_op_3 (i := 25) yd_by_cX12_hourGoes_5 rfl rfl
theorem dX12_hourGoes_193 : decode cX12_hourGoes 193 = .ok (.goto 11, 3) := yd_op_167 (i := 26) (a := 0) (b := 11) yd_by_cX12_hourGoes_5 rfl rfl
theorem dX12_hourGoes_196 : decode cX12_hourGoes 196 = .ok (.aload_n 0, 1) := yd_op_42 (i := 29) yd_by_cX12_hourGoes_5 rfl rfl
theorem dX12_hourGoes_197 : decode cX12_hourGoes 197 = .ok (.getfield 130, 3) := yd_op_180 (i := 30) (a := 0) (b := 130) yd_by_cX12_hourGoes_5 rfl rfl
theorem dX12_hourGoes_200 : decode cX12_hourGoes 200 = .ok (.iload_n 3, 1) := yd_op_29 (i := 33) yd_by_cX12_hourGoes_5 rfl rfl
set_option maxRecDepth 100000 in
theorem yd_by_cX12_hourGoes_6 : ydk cX12_hourGoes 201 [46, 4, 100, 79, 132, 2, 1, 167, 255, 167, 42, 180, 0, 130, 3, 92, 46, 4, 96, 79, 177] = true := by decide +kernel
theorem dX12_hourGoes_201 : decode cX12_hourGoes 201 = .ok (.iaload, 1) := yd_op_46 (i := 0) yd_by_cX12_hourGoes_6 rfl rfl
theorem dX12_hourGoes_202 : decode cX12_hourGoes 202 = .ok (.iconst 1, 1) := yd_op_4 (i := 1) yd_by_cX12_hourGoes_6 rfl rfl
theorem dX12_hourGoes_203 : decode cX12_hourGoes 203 = .ok (.isub, 1) := yd_op_100 (i := 2) yd_by_cX12_hourGoes_6 rfl rfl
theorem dX12_hourGoes_204 : decode cX12_hourGoes 204 = .ok (.iastore, 1) := yd_op_79 (i := 3) yd_by_cX12_hourGoes_6 rfl rfl
theorem dX12_hourGoes_205 : decode cX12_hourGoes 205 = .ok (.iinc 2 1, 3) := yd_op_132 (i := 4) (a := 2) (b := 1) yd_by_cX12_hourGoes_6 rfl rfl
theorem dX12_hourGoes_208 : decode cX12_hourGoes 208 = .ok (.goto (-89), 3) := yd_op_167 (i := 7) (a := 255) (b := 167) yd_by_cX12_hourGoes_6 rfl rfl
theorem dX12_hourGoes_211 : decode cX12_hourGoes 211 = .ok (.aload_n 0, 1) := yd_op_42 (i := 10) yd_by_cX12_hourGoes_6 rfl rfl
theorem dX12_hourGoes_212 : decode cX12_hourGoes 212 = .ok (.getfield 130, 3) := yd_op_180 (i := 11) (a := 0) (b := 130) yd_by_cX12_hourGoes_6 rfl rfl
theorem dX12_hourGoes_215 : decode cX12_hourGoes 215 = .ok (.iconst 0, 1) := yd_op_3 (i := 14) yd_by_cX12_hourGoes_6 rfl rfl
theorem dX12_hourGoes_216 : decode cX12_hourGoes 216 = .ok (.dup2, 1) := yd_op_92 (i := 15) yd_by_cX12_hourGoes_6 rfl rfl
theorem dX12_hourGoes_217 : decode cX12_hourGoes 217 = .ok (.iaload, 1) := yd_op_46 (i := 16) yd_by_cX12_hourGoes_6 rfl rfl
theorem dX12_hourGoes_218 : decode cX12_hourGoes 218 = .ok (.iconst 1, 1) := yd_op_4 (i := 17) yd_by_cX12_hourGoes_6 rfl rfl
theorem dX12_hourGoes_219 : decode cX12_hourGoes 219 = .ok (.iadd, 1) := yd_op_96 (i := 18) yd_by_cX12_hourGoes_6 rfl rfl
theorem dX12_hourGoes_220 : decode cX12_hourGoes 220 = .ok (.iastore, 1) := yd_op_79 (i := 19) yd_by_cX12_hourGoes_6 rfl rfl
theorem dX12_hourGoes_221 : decode cX12_hourGoes 221 = .ok (.return_, 1) := yd_op_177 (i := 20) yd_by_cX12_hourGoes_6 rfl rfl
set_option maxRecDepth 100000 in
theorem yd_by_cX12_hoursGo_0 : ydk cX12_hoursGo 0 [3, 61, 28, 27, 162, 0, 13, 42, 182, 1, 207, 132, 2, 1, 167, 255, 244, 177] = true := by decide +kernel
theorem dX12_hoursGo_0 : decode cX12_hoursGo 0 = .ok (.iconst 0, 1) := yd_op_3 (i := 0) yd_by_cX12_hoursGo_0 rfl rfl
theorem dX12_hoursGo_1 : decode cX12_hoursGo 1 = .ok (.istore_n 2, 1) := yd_op_61 (i := 1) yd_by_cX12_hoursGo_0 rfl rfl
theorem dX12_hoursGo_2 : decode cX12_hoursGo 2 = .ok (.iload_n 2, 1) := yd_op_28 (i := 2) yd_by_cX12_hoursGo_0 rfl rfl
theorem dX12_hoursGo_3 : decode cX12_hoursGo 3 = .ok (.iload_n 1, 1) := yd_op_27 (i := 3) yd_by_cX12_hoursGo_0 rfl rfl
theorem dX12_hoursGo_4 : decode cX12_hoursGo 4 = .ok (.if_icmp .ge 13, 3) := yd_op_162 (i := 4) (a := 0) (b := 13) yd_by_cX12_hoursGo_0 rfl rfl
theorem dX12_hoursGo_7 : decode cX12_hoursGo 7 = .ok (.aload_n 0, 1) := yd_op_42 (i := 7) yd_by_cX12_hoursGo_0 rfl rfl
theorem dX12_hoursGo_8 : decode cX12_hoursGo 8 = .ok (.invokevirtual 463, 3) := yd_op_182 (i := 8) (a := 1) (b := 207) yd_by_cX12_hoursGo_0 rfl rfl
theorem dX12_hoursGo_11 : decode cX12_hoursGo 11 = .ok (.iinc 2 1, 3) := yd_op_132 (i := 11) (a := 2) (b := 1) yd_by_cX12_hoursGo_0 rfl rfl
theorem dX12_hoursGo_14 : decode cX12_hoursGo 14 = .ok (.goto (-12), 3) := yd_op_167 (i := 14) (a := 255) (b := 244) yd_by_cX12_hoursGo_0 rfl rfl
theorem dX12_hoursGo_17 : decode cX12_hoursGo 17 = .ok (.return_, 1) := yd_op_177 (i := 17) yd_by_cX12_hoursGo_0 rfl rfl
set_option maxRecDepth 100000 in
theorem yd_by_cX12_putsAside_0 : ydk cX12_putsAside 0 [42, 4, 181, 1, 192, 3, 60, 27, 16, 67, 162, 0, 21, 42, 180, 0, 133, 27, 42, 180, 0, 130, 27, 46, 79, 132, 1, 1, 167, 255, 235, 42, 3] = true := by decide +kernel
theorem dX12_putsAside_0 : decode cX12_putsAside 0 = .ok (.aload_n 0, 1) := yd_op_42 (i := 0) yd_by_cX12_putsAside_0 rfl rfl
theorem dX12_putsAside_1 : decode cX12_putsAside 1 = .ok (.iconst 1, 1) := yd_op_4 (i := 1) yd_by_cX12_putsAside_0 rfl rfl
theorem dX12_putsAside_2 : decode cX12_putsAside 2 = .ok (.putfield 448, 3) := yd_op_181 (i := 2) (a := 1) (b := 192) yd_by_cX12_putsAside_0 rfl rfl
theorem dX12_putsAside_5 : decode cX12_putsAside 5 = .ok (.iconst 0, 1) := yd_op_3 (i := 5) yd_by_cX12_putsAside_0 rfl rfl
theorem dX12_putsAside_6 : decode cX12_putsAside 6 = .ok (.istore_n 1, 1) := yd_op_60 (i := 6) yd_by_cX12_putsAside_0 rfl rfl
theorem dX12_putsAside_7 : decode cX12_putsAside 7 = .ok (.iload_n 1, 1) := yd_op_27 (i := 7) yd_by_cX12_putsAside_0 rfl rfl
theorem dX12_putsAside_8 : decode cX12_putsAside 8 = .ok (.bipush 67, 2) := yd_op_16 (i := 8) (a := 67) yd_by_cX12_putsAside_0 rfl rfl
theorem dX12_putsAside_10 : decode cX12_putsAside 10 = .ok (.if_icmp .ge 21, 3) := yd_op_162 (i := 10) (a := 0) (b := 21) yd_by_cX12_putsAside_0 rfl rfl
theorem dX12_putsAside_13 : decode cX12_putsAside 13 = .ok (.aload_n 0, 1) := yd_op_42 (i := 13) yd_by_cX12_putsAside_0 rfl rfl
theorem dX12_putsAside_14 : decode cX12_putsAside 14 = .ok (.getfield 133, 3) := yd_op_180 (i := 14) (a := 0) (b := 133) yd_by_cX12_putsAside_0 rfl rfl
theorem dX12_putsAside_17 : decode cX12_putsAside 17 = .ok (.iload_n 1, 1) := yd_op_27 (i := 17) yd_by_cX12_putsAside_0 rfl rfl
theorem dX12_putsAside_18 : decode cX12_putsAside 18 = .ok (.aload_n 0, 1) := yd_op_42 (i := 18) yd_by_cX12_putsAside_0 rfl rfl
theorem dX12_putsAside_19 : decode cX12_putsAside 19 = .ok (.getfield 130, 3) := yd_op_180 (i := 19) (a := 0) (b := 130) yd_by_cX12_putsAside_0 rfl rfl
theorem dX12_putsAside_22 : decode cX12_putsAside 22 = .ok (.iload_n 1, 1) := yd_op_27 (i := 22) yd_by_cX12_putsAside_0 rfl rfl
theorem dX12_putsAside_23 : decode cX12_putsAside 23 = .ok (.iaload, 1) := yd_op_46 (i := 23) yd_by_cX12_putsAside_0 rfl rfl
theorem dX12_putsAside_24 : decode cX12_putsAside 24 = .ok (.iastore, 1) := yd_op_79 (i := 24) yd_by_cX12_putsAside_0 rfl rfl
theorem dX12_putsAside_25 : decode cX12_putsAside 25 = .ok (.iinc 1 1, 3) := yd_op_132 (i := 25) (a := 1) (b := 1) yd_by_cX12_putsAside_0 rfl rfl
theorem dX12_putsAside_28 : decode cX12_putsAside 28 = .ok (.goto (-21), 3) := yd_op_167 (i := 28) (a := 255) (b := 235) yd_by_cX12_putsAside_0 rfl rfl
theorem dX12_putsAside_31 : decode cX12_putsAside 31 = .ok (.aload_n 0, 1) := yd_op_42 (i := 31) yd_by_cX12_putsAside_0 rfl rfl
theorem dX12_putsAside_32 : decode cX12_putsAside 32 = .ok (.iconst 0, 1) := yd_op_3 (i := 32) yd_by_cX12_putsAside_0 rfl rfl
set_option maxRecDepth 100000 in
theorem yd_by_cX12_putsAside_1 : ydk cX12_putsAside 33 [181, 1, 201, 177] = true := by decide +kernel
theorem dX12_putsAside_33 : decode cX12_putsAside 33 = .ok (.putfield 457, 3) := yd_op_181 (i := 0) (a := 1) (b := 201) yd_by_cX12_putsAside_1 rfl rfl
theorem dX12_putsAside_36 : decode cX12_putsAside 36 = .ok (.return_, 1) := yd_op_177 (i := 3) yd_by_cX12_putsAside_1 rfl rfl
set_option maxRecDepth 100000 in
theorem yd_by_cX12_triesAnew_0 : ydk cX12_triesAnew 0 [3, 60, 27, 16, 67, 162, 0, 21, 42, 180, 0, 130, 27, 42, 180, 0, 133, 27, 46, 79, 132, 1, 1, 167, 255, 235, 42, 3, 181, 1, 201, 177] = true := by decide +kernel
theorem dX12_triesAnew_0 : decode cX12_triesAnew 0 = .ok (.iconst 0, 1) := yd_op_3 (i := 0) yd_by_cX12_triesAnew_0 rfl rfl
theorem dX12_triesAnew_1 : decode cX12_triesAnew 1 = .ok (.istore_n 1, 1) := yd_op_60 (i := 1) yd_by_cX12_triesAnew_0 rfl rfl
theorem dX12_triesAnew_2 : decode cX12_triesAnew 2 = .ok (.iload_n 1, 1) := yd_op_27 (i := 2) yd_by_cX12_triesAnew_0 rfl rfl
theorem dX12_triesAnew_3 : decode cX12_triesAnew 3 = .ok (.bipush 67, 2) := yd_op_16 (i := 3) (a := 67) yd_by_cX12_triesAnew_0 rfl rfl
theorem dX12_triesAnew_5 : decode cX12_triesAnew 5 = .ok (.if_icmp .ge 21, 3) := yd_op_162 (i := 5) (a := 0) (b := 21) yd_by_cX12_triesAnew_0 rfl rfl
theorem dX12_triesAnew_8 : decode cX12_triesAnew 8 = .ok (.aload_n 0, 1) := yd_op_42 (i := 8) yd_by_cX12_triesAnew_0 rfl rfl
theorem dX12_triesAnew_9 : decode cX12_triesAnew 9 = .ok (.getfield 130, 3) := yd_op_180 (i := 9) (a := 0) (b := 130) yd_by_cX12_triesAnew_0 rfl rfl
theorem dX12_triesAnew_12 : decode cX12_triesAnew 12 = .ok (.iload_n 1, 1) := yd_op_27 (i := 12) yd_by_cX12_triesAnew_0 rfl rfl
theorem dX12_triesAnew_13 : decode cX12_triesAnew 13 = .ok (.aload_n 0, 1) := yd_op_42 (i := 13) yd_by_cX12_triesAnew_0 rfl rfl
theorem dX12_triesAnew_14 : decode cX12_triesAnew 14 = .ok (.getfield 133, 3) := yd_op_180 (i := 14) (a := 0) (b := 133) yd_by_cX12_triesAnew_0 rfl rfl
theorem dX12_triesAnew_17 : decode cX12_triesAnew 17 = .ok (.iload_n 1, 1) := yd_op_27 (i := 17) yd_by_cX12_triesAnew_0 rfl rfl
theorem dX12_triesAnew_18 : decode cX12_triesAnew 18 = .ok (.iaload, 1) := yd_op_46 (i := 18) yd_by_cX12_triesAnew_0 rfl rfl
theorem dX12_triesAnew_19 : decode cX12_triesAnew 19 = .ok (.iastore, 1) := yd_op_79 (i := 19) yd_by_cX12_triesAnew_0 rfl rfl
theorem dX12_triesAnew_20 : decode cX12_triesAnew 20 = .ok (.iinc 1 1, 3) := yd_op_132 (i := 20) (a := 1) (b := 1) yd_by_cX12_triesAnew_0 rfl rfl
theorem dX12_triesAnew_23 : decode cX12_triesAnew 23 = .ok (.goto (-21), 3) := yd_op_167 (i := 23) (a := 255) (b := 235) yd_by_cX12_triesAnew_0 rfl rfl
theorem dX12_triesAnew_26 : decode cX12_triesAnew 26 = .ok (.aload_n 0, 1) := yd_op_42 (i := 26) yd_by_cX12_triesAnew_0 rfl rfl
theorem dX12_triesAnew_27 : decode cX12_triesAnew 27 = .ok (.iconst 0, 1) := yd_op_3 (i := 27) yd_by_cX12_triesAnew_0 rfl rfl
theorem dX12_triesAnew_28 : decode cX12_triesAnew 28 = .ok (.putfield 457, 3) := yd_op_181 (i := 28) (a := 1) (b := 201) yd_by_cX12_triesAnew_0 rfl rfl
theorem dX12_triesAnew_31 : decode cX12_triesAnew 31 = .ok (.return_, 1) := yd_op_177 (i := 31) yd_by_cX12_triesAnew_0 rfl rfl
set_option maxRecDepth 100000 in
theorem yd_by_cX12_takesBack_0 : ydk cX12_takesBack 0 [3, 60, 27, 16, 67, 162, 0, 21, 42, 180, 0, 130, 27, 42, 180, 0, 133, 27, 46, 79, 132, 1, 1, 167, 255, 235, 42, 3, 181, 1, 192, 177] = true := by decide +kernel
theorem dX12_takesBack_0 : decode cX12_takesBack 0 = .ok (.iconst 0, 1) := yd_op_3 (i := 0) yd_by_cX12_takesBack_0 rfl rfl
theorem dX12_takesBack_1 : decode cX12_takesBack 1 = .ok (.istore_n 1, 1) := yd_op_60 (i := 1) yd_by_cX12_takesBack_0 rfl rfl
theorem dX12_takesBack_2 : decode cX12_takesBack 2 = .ok (.iload_n 1, 1) := yd_op_27 (i := 2) yd_by_cX12_takesBack_0 rfl rfl
theorem dX12_takesBack_3 : decode cX12_takesBack 3 = .ok (.bipush 67, 2) := yd_op_16 (i := 3) (a := 67) yd_by_cX12_takesBack_0 rfl rfl
theorem dX12_takesBack_5 : decode cX12_takesBack 5 = .ok (.if_icmp .ge 21, 3) := yd_op_162 (i := 5) (a := 0) (b := 21) yd_by_cX12_takesBack_0 rfl rfl
theorem dX12_takesBack_8 : decode cX12_takesBack 8 = .ok (.aload_n 0, 1) := yd_op_42 (i := 8) yd_by_cX12_takesBack_0 rfl rfl
theorem dX12_takesBack_9 : decode cX12_takesBack 9 = .ok (.getfield 130, 3) := yd_op_180 (i := 9) (a := 0) (b := 130) yd_by_cX12_takesBack_0 rfl rfl
theorem dX12_takesBack_12 : decode cX12_takesBack 12 = .ok (.iload_n 1, 1) := yd_op_27 (i := 12) yd_by_cX12_takesBack_0 rfl rfl
theorem dX12_takesBack_13 : decode cX12_takesBack 13 = .ok (.aload_n 0, 1) := yd_op_42 (i := 13) yd_by_cX12_takesBack_0 rfl rfl
theorem dX12_takesBack_14 : decode cX12_takesBack 14 = .ok (.getfield 133, 3) := yd_op_180 (i := 14) (a := 0) (b := 133) yd_by_cX12_takesBack_0 rfl rfl
theorem dX12_takesBack_17 : decode cX12_takesBack 17 = .ok (.iload_n 1, 1) := yd_op_27 (i := 17) yd_by_cX12_takesBack_0 rfl rfl
theorem dX12_takesBack_18 : decode cX12_takesBack 18 = .ok (.iaload, 1) := yd_op_46 (i := 18) yd_by_cX12_takesBack_0 rfl rfl
theorem dX12_takesBack_19 : decode cX12_takesBack 19 = .ok (.iastore, 1) := yd_op_79 (i := 19) yd_by_cX12_takesBack_0 rfl rfl
theorem dX12_takesBack_20 : decode cX12_takesBack 20 = .ok (.iinc 1 1, 3) := yd_op_132 (i := 20) (a := 1) (b := 1) yd_by_cX12_takesBack_0 rfl rfl
theorem dX12_takesBack_23 : decode cX12_takesBack 23 = .ok (.goto (-21), 3) := yd_op_167 (i := 23) (a := 255) (b := 235) yd_by_cX12_takesBack_0 rfl rfl
theorem dX12_takesBack_26 : decode cX12_takesBack 26 = .ok (.aload_n 0, 1) := yd_op_42 (i := 26) yd_by_cX12_takesBack_0 rfl rfl
theorem dX12_takesBack_27 : decode cX12_takesBack 27 = .ok (.iconst 0, 1) := yd_op_3 (i := 27) yd_by_cX12_takesBack_0 rfl rfl
theorem dX12_takesBack_28 : decode cX12_takesBack 28 = .ok (.putfield 448, 3) := yd_op_181 (i := 28) (a := 1) (b := 192) yd_by_cX12_takesBack_0 rfl rfl
theorem dX12_takesBack_31 : decode cX12_takesBack 31 = .ok (.return_, 1) := yd_op_177 (i := 31) yd_by_cX12_takesBack_0 rfl rfl
set_option maxRecDepth 100000 in
theorem yd_by_cX12_isAhead_0 : ydk cX12_isAhead 0 [42, 180, 1, 119, 153, 0, 33, 27, 133, 28, 133, 29, 133, 184, 1, 33, 153, 0, 21, 42, 180, 0, 130, 3, 46, 27, 96, 17, 3, 231, 163, 0, 7, 4] = true := by decide +kernel
theorem dX12_isAhead_0 : decode cX12_isAhead 0 = .ok (.aload_n 0, 1) := yd_op_42 (i := 0) yd_by_cX12_isAhead_0 rfl rfl
theorem dX12_isAhead_1 : decode cX12_isAhead 1 = .ok (.getfield 375, 3) := yd_op_180 (i := 1) (a := 1) (b := 119) yd_by_cX12_isAhead_0 rfl rfl
theorem dX12_isAhead_4 : decode cX12_isAhead 4 = .ok (.ifCond .eq 33, 3) := yd_op_153 (i := 4) (a := 0) (b := 33) yd_by_cX12_isAhead_0 rfl rfl
theorem dX12_isAhead_7 : decode cX12_isAhead 7 = .ok (.iload_n 1, 1) := yd_op_27 (i := 7) yd_by_cX12_isAhead_0 rfl rfl
theorem dX12_isAhead_8 : decode cX12_isAhead 8 = .ok (.i2l, 1) := yd_op_133 (i := 8) yd_by_cX12_isAhead_0 rfl rfl
theorem dX12_isAhead_9 : decode cX12_isAhead 9 = .ok (.iload_n 2, 1) := yd_op_28 (i := 9) yd_by_cX12_isAhead_0 rfl rfl
theorem dX12_isAhead_10 : decode cX12_isAhead 10 = .ok (.i2l, 1) := yd_op_133 (i := 10) yd_by_cX12_isAhead_0 rfl rfl
theorem dX12_isAhead_11 : decode cX12_isAhead 11 = .ok (.iload_n 3, 1) := yd_op_29 (i := 11) yd_by_cX12_isAhead_0 rfl rfl
theorem dX12_isAhead_12 : decode cX12_isAhead 12 = .ok (.i2l, 1) := yd_op_133 (i := 12) yd_by_cX12_isAhead_0 rfl rfl
theorem dX12_isAhead_13 : decode cX12_isAhead 13 = .ok (.invokestatic 289, 3) := yd_op_184 (i := 13) (a := 1) (b := 33) yd_by_cX12_isAhead_0 rfl rfl
theorem dX12_isAhead_16 : decode cX12_isAhead 16 = .ok (.ifCond .eq 21, 3) := yd_op_153 (i := 16) (a := 0) (b := 21) yd_by_cX12_isAhead_0 rfl rfl
theorem dX12_isAhead_19 : decode cX12_isAhead 19 = .ok (.aload_n 0, 1) := yd_op_42 (i := 19) yd_by_cX12_isAhead_0 rfl rfl
theorem dX12_isAhead_20 : decode cX12_isAhead 20 = .ok (.getfield 130, 3) := yd_op_180 (i := 20) (a := 0) (b := 130) yd_by_cX12_isAhead_0 rfl rfl
theorem dX12_isAhead_23 : decode cX12_isAhead 23 = .ok (.iconst 0, 1) := yd_op_3 (i := 23) yd_by_cX12_isAhead_0 rfl rfl
theorem dX12_isAhead_24 : decode cX12_isAhead 24 = .ok (.iaload, 1) := yd_op_46 (i := 24) yd_by_cX12_isAhead_0 rfl rfl
theorem dX12_isAhead_25 : decode cX12_isAhead 25 = .ok (.iload_n 1, 1) := yd_op_27 (i := 25) yd_by_cX12_isAhead_0 rfl rfl
theorem dX12_isAhead_26 : decode cX12_isAhead 26 = .ok (.iadd, 1) := yd_op_96 (i := 26) yd_by_cX12_isAhead_0 rfl rfl
theorem dX12_isAhead_27 : decode cX12_isAhead 27 = .ok (.sipush 999, 3) := yd_op_17 (i := 27) (a := 3) (b := 231) yd_by_cX12_isAhead_0 rfl rfl
theorem dX12_isAhead_30 : decode cX12_isAhead 30 = .ok (.if_icmp .gt 7, 3) := yd_op_163 (i := 30) (a := 0) (b := 7) yd_by_cX12_isAhead_0 rfl rfl
theorem dX12_isAhead_33 : decode cX12_isAhead 33 = .ok (.iconst 1, 1) := yd_op_4 (i := 33) yd_by_cX12_isAhead_0 rfl rfl
set_option maxRecDepth 100000 in
theorem yd_by_cX12_isAhead_1 : ydk cX12_isAhead 34 [167, 0, 4, 3, 172] = true := by decide +kernel
theorem dX12_isAhead_34 : decode cX12_isAhead 34 = .ok (.goto 4, 3) := yd_op_167 (i := 0) (a := 0) (b := 4) yd_by_cX12_isAhead_1 rfl rfl
theorem dX12_isAhead_37 : decode cX12_isAhead 37 = .ok (.iconst 0, 1) := yd_op_3 (i := 3) yd_by_cX12_isAhead_1 rfl rfl
theorem dX12_isAhead_38 : decode cX12_isAhead 38 = .ok (.ireturn, 1) := yd_op_172 (i := 4) yd_by_cX12_isAhead_1 rfl rfl
set_option maxRecDepth 100000 in
theorem yd_by_cX12_bits_0 : ydk cX12_bits 0 [3, 60, 26, 61, 28, 153, 0, 15, 132, 1, 1, 28, 28, 4, 100, 126, 61, 167, 255, 243, 27, 172] = true := by decide +kernel
theorem dX12_bits_0 : decode cX12_bits 0 = .ok (.iconst 0, 1) := yd_op_3 (i := 0) yd_by_cX12_bits_0 rfl rfl
theorem dX12_bits_1 : decode cX12_bits 1 = .ok (.istore_n 1, 1) := yd_op_60 (i := 1) yd_by_cX12_bits_0 rfl rfl
theorem dX12_bits_2 : decode cX12_bits 2 = .ok (.iload_n 0, 1) := yd_op_26 (i := 2) yd_by_cX12_bits_0 rfl rfl
theorem dX12_bits_3 : decode cX12_bits 3 = .ok (.istore_n 2, 1) := yd_op_61 (i := 3) yd_by_cX12_bits_0 rfl rfl
theorem dX12_bits_4 : decode cX12_bits 4 = .ok (.iload_n 2, 1) := yd_op_28 (i := 4) yd_by_cX12_bits_0 rfl rfl
theorem dX12_bits_5 : decode cX12_bits 5 = .ok (.ifCond .eq 15, 3) := yd_op_153 (i := 5) (a := 0) (b := 15) yd_by_cX12_bits_0 rfl rfl
theorem dX12_bits_8 : decode cX12_bits 8 = .ok (.iinc 1 1, 3) := yd_op_132 (i := 8) (a := 1) (b := 1) yd_by_cX12_bits_0 rfl rfl
theorem dX12_bits_11 : decode cX12_bits 11 = .ok (.iload_n 2, 1) := yd_op_28 (i := 11) yd_by_cX12_bits_0 rfl rfl
theorem dX12_bits_12 : decode cX12_bits 12 = .ok (.iload_n 2, 1) := yd_op_28 (i := 12) yd_by_cX12_bits_0 rfl rfl
theorem dX12_bits_13 : decode cX12_bits 13 = .ok (.iconst 1, 1) := yd_op_4 (i := 13) yd_by_cX12_bits_0 rfl rfl
theorem dX12_bits_14 : decode cX12_bits 14 = .ok (.isub, 1) := yd_op_100 (i := 14) yd_by_cX12_bits_0 rfl rfl
theorem dX12_bits_15 : decode cX12_bits 15 = .ok (.iand, 1) := yd_op_126 (i := 15) yd_by_cX12_bits_0 rfl rfl
theorem dX12_bits_16 : decode cX12_bits 16 = .ok (.istore_n 2, 1) := yd_op_61 (i := 16) yd_by_cX12_bits_0 rfl rfl
theorem dX12_bits_17 : decode cX12_bits 17 = .ok (.goto (-13), 3) := yd_op_167 (i := 17) (a := 255) (b := 243) yd_by_cX12_bits_0 rfl rfl
theorem dX12_bits_20 : decode cX12_bits 20 = .ok (.iload_n 1, 1) := yd_op_27 (i := 20) yd_by_cX12_bits_0 rfl rfl
theorem dX12_bits_21 : decode cX12_bits 21 = .ok (.ireturn, 1) := yd_op_172 (i := 21) yd_by_cX12_bits_0 rfl rfl
set_option maxRecDepth 100000 in
theorem yd_by_cX12_awake_0 : ydk cX12_awake 0 [3, 60, 3, 61, 28, 42, 182, 1, 129, 162, 0, 23, 42, 28, 182, 1, 156, 154, 0, 9, 27, 4, 28, 120, 128, 60, 132, 2, 1, 167, 255, 231] = true := by decide +kernel
theorem dX12_awake_0 : decode cX12_awake 0 = .ok (.iconst 0, 1) := yd_op_3 (i := 0) yd_by_cX12_awake_0 rfl rfl
theorem dX12_awake_1 : decode cX12_awake 1 = .ok (.istore_n 1, 1) := yd_op_60 (i := 1) yd_by_cX12_awake_0 rfl rfl
theorem dX12_awake_2 : decode cX12_awake 2 = .ok (.iconst 0, 1) := yd_op_3 (i := 2) yd_by_cX12_awake_0 rfl rfl
theorem dX12_awake_3 : decode cX12_awake 3 = .ok (.istore_n 2, 1) := yd_op_61 (i := 3) yd_by_cX12_awake_0 rfl rfl
theorem dX12_awake_4 : decode cX12_awake 4 = .ok (.iload_n 2, 1) := yd_op_28 (i := 4) yd_by_cX12_awake_0 rfl rfl
theorem dX12_awake_5 : decode cX12_awake 5 = .ok (.aload_n 0, 1) := yd_op_42 (i := 5) yd_by_cX12_awake_0 rfl rfl
theorem dX12_awake_6 : decode cX12_awake 6 = .ok (.invokevirtual 385, 3) := yd_op_182 (i := 6) (a := 1) (b := 129) yd_by_cX12_awake_0 rfl rfl
theorem dX12_awake_9 : decode cX12_awake 9 = .ok (.if_icmp .ge 23, 3) := yd_op_162 (i := 9) (a := 0) (b := 23) yd_by_cX12_awake_0 rfl rfl
theorem dX12_awake_12 : decode cX12_awake 12 = .ok (.aload_n 0, 1) := yd_op_42 (i := 12) yd_by_cX12_awake_0 rfl rfl
theorem dX12_awake_13 : decode cX12_awake 13 = .ok (.iload_n 2, 1) := yd_op_28 (i := 13) yd_by_cX12_awake_0 rfl rfl
theorem dX12_awake_14 : decode cX12_awake 14 = .ok (.invokevirtual 412, 3) := yd_op_182 (i := 14) (a := 1) (b := 156) yd_by_cX12_awake_0 rfl rfl
theorem dX12_awake_17 : decode cX12_awake 17 = .ok (.ifCond .ne 9, 3) := yd_op_154 (i := 17) (a := 0) (b := 9) yd_by_cX12_awake_0 rfl rfl
theorem dX12_awake_20 : decode cX12_awake 20 = .ok (.iload_n 1, 1) := yd_op_27 (i := 20) yd_by_cX12_awake_0 rfl rfl
theorem dX12_awake_21 : decode cX12_awake 21 = .ok (.iconst 1, 1) := yd_op_4 (i := 21) yd_by_cX12_awake_0 rfl rfl
theorem dX12_awake_22 : decode cX12_awake 22 = .ok (.iload_n 2, 1) := yd_op_28 (i := 22) yd_by_cX12_awake_0 rfl rfl
theorem dX12_awake_23 : decode cX12_awake 23 = .ok (.ishl, 1) := yd_op_120 (i := 23) yd_by_cX12_awake_0 rfl rfl
theorem dX12_awake_24 : decode cX12_awake 24 = .ok (.ior, 1) := yd_op_128 (i := 24) yd_by_cX12_awake_0 rfl rfl
theorem dX12_awake_25 : decode cX12_awake 25 = .ok (.istore_n 1, 1) := yd_op_60 (i := 25) yd_by_cX12_awake_0 rfl rfl
theorem dX12_awake_26 : decode cX12_awake 26 = .ok (.iinc 2 1, 3) := yd_op_132 (i := 26) (a := 2) (b := 1) yd_by_cX12_awake_0 rfl rfl
theorem dX12_awake_29 : decode cX12_awake 29 = .ok (.goto (-25), 3) := yd_op_167 (i := 29) (a := 255) (b := 231) yd_by_cX12_awake_0 rfl rfl
set_option maxRecDepth 100000 in
theorem yd_by_cX12_awake_1 : ydk cX12_awake 32 [27, 172] = true := by decide +kernel
theorem dX12_awake_32 : decode cX12_awake 32 = .ok (.iload_n 1, 1) := yd_op_27 (i := 0) yd_by_cX12_awake_1 rfl rfl
theorem dX12_awake_33 : decode cX12_awake 33 = .ok (.ireturn, 1) := yd_op_172 (i := 1) yd_by_cX12_awake_1 rfl rfl
theorem dX12_has_1 : decode cX12_has 1 = .ok (.tableswitch 120 0 9 #[55, 55, 64, 69, 76, 81, 89, 102, 110, 115], 55) := by decide +kernel
set_option maxRecDepth 100000 in
theorem yd_by_cX12_has_0 : ydk cX12_has 0 [27, 170, 0, 0, 0, 0, 0, 120, 0, 0, 0, 0, 0, 0, 0, 9, 0, 0, 0, 55, 0, 0, 0, 55, 0, 0, 0, 64, 0, 0, 0, 69, 0, 0, 0, 76, 0, 0, 0, 81, 0, 0, 0, 89, 0, 0, 0, 102, 0, 0, 0, 110, 0, 0, 0, 115, 42, 180, 0, 102, 6, 27, 96, 46, 172, 42, 182, 1, 129, 172, 42, 180, 0, 130, 3, 46, 172, 42, 182, 1, 210, 172, 42] = true := by decide +kernel
theorem dX12_has_0 : decode cX12_has 0 = .ok (.iload_n 1, 1) := yd_op_27 (i := 0) yd_by_cX12_has_0 rfl rfl
theorem dX12_has_56 : decode cX12_has 56 = .ok (.aload_n 0, 1) := yd_op_42 (i := 56) yd_by_cX12_has_0 rfl rfl
theorem dX12_has_57 : decode cX12_has 57 = .ok (.getfield 102, 3) := yd_op_180 (i := 57) (a := 0) (b := 102) yd_by_cX12_has_0 rfl rfl
theorem dX12_has_60 : decode cX12_has 60 = .ok (.iconst 3, 1) := yd_op_6 (i := 60) yd_by_cX12_has_0 rfl rfl
theorem dX12_has_61 : decode cX12_has 61 = .ok (.iload_n 1, 1) := yd_op_27 (i := 61) yd_by_cX12_has_0 rfl rfl
theorem dX12_has_62 : decode cX12_has 62 = .ok (.iadd, 1) := yd_op_96 (i := 62) yd_by_cX12_has_0 rfl rfl
theorem dX12_has_63 : decode cX12_has 63 = .ok (.iaload, 1) := yd_op_46 (i := 63) yd_by_cX12_has_0 rfl rfl
theorem dX12_has_64 : decode cX12_has 64 = .ok (.ireturn, 1) := yd_op_172 (i := 64) yd_by_cX12_has_0 rfl rfl
theorem dX12_has_65 : decode cX12_has 65 = .ok (.aload_n 0, 1) := yd_op_42 (i := 65) yd_by_cX12_has_0 rfl rfl
theorem dX12_has_66 : decode cX12_has 66 = .ok (.invokevirtual 385, 3) := yd_op_182 (i := 66) (a := 1) (b := 129) yd_by_cX12_has_0 rfl rfl
theorem dX12_has_69 : decode cX12_has 69 = .ok (.ireturn, 1) := yd_op_172 (i := 69) yd_by_cX12_has_0 rfl rfl
theorem dX12_has_70 : decode cX12_has 70 = .ok (.aload_n 0, 1) := yd_op_42 (i := 70) yd_by_cX12_has_0 rfl rfl
theorem dX12_has_71 : decode cX12_has 71 = .ok (.getfield 130, 3) := yd_op_180 (i := 71) (a := 0) (b := 130) yd_by_cX12_has_0 rfl rfl
theorem dX12_has_74 : decode cX12_has 74 = .ok (.iconst 0, 1) := yd_op_3 (i := 74) yd_by_cX12_has_0 rfl rfl
theorem dX12_has_75 : decode cX12_has 75 = .ok (.iaload, 1) := yd_op_46 (i := 75) yd_by_cX12_has_0 rfl rfl
theorem dX12_has_76 : decode cX12_has 76 = .ok (.ireturn, 1) := yd_op_172 (i := 76) yd_by_cX12_has_0 rfl rfl
theorem dX12_has_77 : decode cX12_has 77 = .ok (.aload_n 0, 1) := yd_op_42 (i := 77) yd_by_cX12_has_0 rfl rfl
theorem dX12_has_78 : decode cX12_has 78 = .ok (.invokevirtual 466, 3) := yd_op_182 (i := 78) (a := 1) (b := 210) yd_by_cX12_has_0 rfl rfl
theorem dX12_has_81 : decode cX12_has 81 = .ok (.ireturn, 1) := yd_op_172 (i := 81) yd_by_cX12_has_0 rfl rfl
theorem dX12_has_82 : decode cX12_has 82 = .ok (.aload_n 0, 1) := yd_op_42 (i := 82) yd_by_cX12_has_0 rfl rfl
set_option maxRecDepth 100000 in
theorem yd_by_cX12_has_1 : ydk cX12_has 83 [182, 1, 195, 184, 1, 213, 172, 42, 182, 1, 129, 42, 182, 1, 216, 184, 1, 213, 100, 172, 42, 180, 0, 130, 16, 67, 46, 172, 42, 180, 1, 126, 172, 42, 180, 1, 123] = true := by decide +kernel
theorem dX12_has_83 : decode cX12_has 83 = .ok (.invokevirtual 451, 3) := yd_op_182 (i := 0) (a := 1) (b := 195) yd_by_cX12_has_1 rfl rfl
theorem dX12_has_86 : decode cX12_has 86 = .ok (.invokestatic 469, 3) := yd_op_184 (i := 3) (a := 1) (b := 213) yd_by_cX12_has_1 rfl rfl
theorem dX12_has_89 : decode cX12_has 89 = .ok (.ireturn, 1) := yd_op_172 (i := 6) yd_by_cX12_has_1 rfl rfl
theorem dX12_has_90 : decode cX12_has 90 = .ok (.aload_n 0, 1) := yd_op_42 (i := 7) yd_by_cX12_has_1 rfl rfl
theorem dX12_has_91 : decode cX12_has 91 = .ok (.invokevirtual 385, 3) := yd_op_182 (i := 8) (a := 1) (b := 129) yd_by_cX12_has_1 rfl rfl
theorem dX12_has_94 : decode cX12_has 94 = .ok (.aload_n 0, 1) := yd_op_42 (i := 11) yd_by_cX12_has_1 rfl rfl
theorem dX12_has_95 : decode cX12_has 95 = .ok (.invokevirtual 472, 3) := yd_op_182 (i := 12) (a := 1) (b := 216) yd_by_cX12_has_1 rfl rfl
theorem dX12_has_98 : decode cX12_has 98 = .ok (.invokestatic 469, 3) := yd_op_184 (i := 15) (a := 1) (b := 213) yd_by_cX12_has_1 rfl rfl
theorem dX12_has_101 : decode cX12_has 101 = .ok (.isub, 1) := yd_op_100 (i := 18) yd_by_cX12_has_1 rfl rfl
theorem dX12_has_102 : decode cX12_has 102 = .ok (.ireturn, 1) := yd_op_172 (i := 19) yd_by_cX12_has_1 rfl rfl
theorem dX12_has_103 : decode cX12_has 103 = .ok (.aload_n 0, 1) := yd_op_42 (i := 20) yd_by_cX12_has_1 rfl rfl
theorem dX12_has_104 : decode cX12_has 104 = .ok (.getfield 130, 3) := yd_op_180 (i := 21) (a := 0) (b := 130) yd_by_cX12_has_1 rfl rfl
theorem dX12_has_107 : decode cX12_has 107 = .ok (.bipush 67, 2) := yd_op_16 (i := 24) (a := 67) yd_by_cX12_has_1 rfl rfl
theorem dX12_has_109 : decode cX12_has 109 = .ok (.iaload, 1) := yd_op_46 (i := 26) yd_by_cX12_has_1 rfl rfl
theorem dX12_has_110 : decode cX12_has 110 = .ok (.ireturn, 1) := yd_op_172 (i := 27) yd_by_cX12_has_1 rfl rfl
theorem dX12_has_111 : decode cX12_has 111 = .ok (.aload_n 0, 1) := yd_op_42 (i := 28) yd_by_cX12_has_1 rfl rfl
theorem dX12_has_112 : decode cX12_has 112 = .ok (.getfield 382, 3) := yd_op_180 (i := 29) (a := 1) (b := 126) yd_by_cX12_has_1 rfl rfl
theorem dX12_has_115 : decode cX12_has 115 = .ok (.ireturn, 1) := yd_op_172 (i := 32) yd_by_cX12_has_1 rfl rfl
theorem dX12_has_116 : decode cX12_has 116 = .ok (.aload_n 0, 1) := yd_op_42 (i := 33) yd_by_cX12_has_1 rfl rfl
theorem dX12_has_117 : decode cX12_has 117 = .ok (.getfield 379, 3) := yd_op_180 (i := 34) (a := 1) (b := 123) yd_by_cX12_has_1 rfl rfl
set_option maxRecDepth 100000 in
theorem yd_by_cX12_has_2 : ydk cX12_has 120 [172, 2, 172] = true := by decide +kernel
theorem dX12_has_120 : decode cX12_has 120 = .ok (.ireturn, 1) := yd_op_172 (i := 0) yd_by_cX12_has_2 rfl rfl
theorem dX12_has_121 : decode cX12_has 121 = .ok (.iconst (-1), 1) := yd_op_2 (i := 1) yd_by_cX12_has_2 rfl rfl
theorem dX12_has_122 : decode cX12_has 122 = .ok (.ireturn, 1) := yd_op_172 (i := 2) yd_by_cX12_has_2 rfl rfl
set_option maxRecDepth 100000 in
theorem yd_by_cX12_letter_0 : ydk cX12_letter 0 [42, 27, 182, 1, 219, 153, 0, 15, 28, 133, 9, 20, 1, 53, 184, 1, 33, 154, 0, 5, 2, 172, 42, 180, 0, 108, 16, 10, 27, 96, 47, 66, 3] = true := by decide +kernel
theorem dX12_letter_0 : decode cX12_letter 0 = .ok (.aload_n 0, 1) := yd_op_42 (i := 0) yd_by_cX12_letter_0 rfl rfl
theorem dX12_letter_1 : decode cX12_letter 1 = .ok (.iload_n 1, 1) := yd_op_27 (i := 1) yd_by_cX12_letter_0 rfl rfl
theorem dX12_letter_2 : decode cX12_letter 2 = .ok (.invokevirtual 475, 3) := yd_op_182 (i := 2) (a := 1) (b := 219) yd_by_cX12_letter_0 rfl rfl
theorem dX12_letter_5 : decode cX12_letter 5 = .ok (.ifCond .eq 15, 3) := yd_op_153 (i := 5) (a := 0) (b := 15) yd_by_cX12_letter_0 rfl rfl
theorem dX12_letter_8 : decode cX12_letter 8 = .ok (.iload_n 2, 1) := yd_op_28 (i := 8) yd_by_cX12_letter_0 rfl rfl
theorem dX12_letter_9 : decode cX12_letter 9 = .ok (.i2l, 1) := yd_op_133 (i := 9) yd_by_cX12_letter_0 rfl rfl
theorem dX12_letter_10 : decode cX12_letter 10 = .ok (.lconst 0, 1) := yd_op_9 (i := 10) yd_by_cX12_letter_0 rfl rfl
theorem dX12_letter_11 : decode cX12_letter 11 = .ok (.ldc2_w 309, 3) := yd_op_20 (i := 11) (a := 1) (b := 53) yd_by_cX12_letter_0 rfl rfl
theorem dX12_letter_14 : decode cX12_letter 14 = .ok (.invokestatic 289, 3) := yd_op_184 (i := 14) (a := 1) (b := 33) yd_by_cX12_letter_0 rfl rfl
theorem dX12_letter_17 : decode cX12_letter 17 = .ok (.ifCond .ne 5, 3) := yd_op_154 (i := 17) (a := 0) (b := 5) yd_by_cX12_letter_0 rfl rfl
theorem dX12_letter_20 : decode cX12_letter 20 = .ok (.iconst (-1), 1) := yd_op_2 (i := 20) yd_by_cX12_letter_0 rfl rfl
theorem dX12_letter_21 : decode cX12_letter 21 = .ok (.ireturn, 1) := yd_op_172 (i := 21) yd_by_cX12_letter_0 rfl rfl
theorem dX12_letter_22 : decode cX12_letter 22 = .ok (.aload_n 0, 1) := yd_op_42 (i := 22) yd_by_cX12_letter_0 rfl rfl
theorem dX12_letter_23 : decode cX12_letter 23 = .ok (.getfield 108, 3) := yd_op_180 (i := 23) (a := 0) (b := 108) yd_by_cX12_letter_0 rfl rfl
theorem dX12_letter_26 : decode cX12_letter 26 = .ok (.bipush 10, 2) := yd_op_16 (i := 26) (a := 10) yd_by_cX12_letter_0 rfl rfl
theorem dX12_letter_28 : decode cX12_letter 28 = .ok (.iload_n 1, 1) := yd_op_27 (i := 28) yd_by_cX12_letter_0 rfl rfl
theorem dX12_letter_29 : decode cX12_letter 29 = .ok (.iadd, 1) := yd_op_96 (i := 29) yd_by_cX12_letter_0 rfl rfl
theorem dX12_letter_30 : decode cX12_letter 30 = .ok (.laload, 1) := yd_op_47 (i := 30) yd_by_cX12_letter_0 rfl rfl
theorem dX12_letter_31 : decode cX12_letter 31 = .ok (.lstore_n 3, 1) := yd_op_66 (i := 31) yd_by_cX12_letter_0 rfl rfl
theorem dX12_letter_32 : decode cX12_letter 32 = .ok (.iconst 0, 1) := yd_op_3 (i := 32) yd_by_cX12_letter_0 rfl rfl
set_option maxRecDepth 100000 in
theorem yd_by_cX12_letter_1 : ydk cX12_letter 33 [54, 5, 33, 55, 6, 22, 6, 9, 148, 158, 0, 17, 132, 5, 1, 22, 6, 20, 1, 44, 109, 55, 6, 167, 255, 238, 28, 21, 5, 161, 0, 5, 3, 172, 21, 5, 4] = true := by decide +kernel
theorem dX12_letter_33 : decode cX12_letter 33 = .ok (.istore 5, 2) := yd_op_54 (i := 0) (a := 5) yd_by_cX12_letter_1 rfl rfl
theorem dX12_letter_35 : decode cX12_letter 35 = .ok (.lload_n 3, 1) := yd_op_33 (i := 2) yd_by_cX12_letter_1 rfl rfl
theorem dX12_letter_36 : decode cX12_letter 36 = .ok (.lstore 6, 2) := yd_op_55 (i := 3) (a := 6) yd_by_cX12_letter_1 rfl rfl
theorem dX12_letter_38 : decode cX12_letter 38 = .ok (.lload 6, 2) := yd_op_22 (i := 5) (a := 6) yd_by_cX12_letter_1 rfl rfl
theorem dX12_letter_40 : decode cX12_letter 40 = .ok (.lconst 0, 1) := yd_op_9 (i := 7) yd_by_cX12_letter_1 rfl rfl
theorem dX12_letter_41 : decode cX12_letter 41 = .ok (.lcmp, 1) := yd_op_148 (i := 8) yd_by_cX12_letter_1 rfl rfl
theorem dX12_letter_42 : decode cX12_letter 42 = .ok (.ifCond .le 17, 3) := yd_op_158 (i := 9) (a := 0) (b := 17) yd_by_cX12_letter_1 rfl rfl
theorem dX12_letter_45 : decode cX12_letter 45 = .ok (.iinc 5 1, 3) := yd_op_132 (i := 12) (a := 5) (b := 1) yd_by_cX12_letter_1 rfl rfl
theorem dX12_letter_48 : decode cX12_letter 48 = .ok (.lload 6, 2) := yd_op_22 (i := 15) (a := 6) yd_by_cX12_letter_1 rfl rfl
theorem dX12_letter_50 : decode cX12_letter 50 = .ok (.ldc2_w 300, 3) := yd_op_20 (i := 17) (a := 1) (b := 44) yd_by_cX12_letter_1 rfl rfl
theorem dX12_letter_53 : decode cX12_letter 53 = .ok (.ldiv, 1) := yd_op_109 (i := 20) yd_by_cX12_letter_1 rfl rfl
theorem dX12_letter_54 : decode cX12_letter 54 = .ok (.lstore 6, 2) := yd_op_55 (i := 21) (a := 6) yd_by_cX12_letter_1 rfl rfl
theorem dX12_letter_56 : decode cX12_letter 56 = .ok (.goto (-18), 3) := yd_op_167 (i := 23) (a := 255) (b := 238) yd_by_cX12_letter_1 rfl rfl
theorem dX12_letter_59 : decode cX12_letter 59 = .ok (.iload_n 2, 1) := yd_op_28 (i := 26) yd_by_cX12_letter_1 rfl rfl
theorem dX12_letter_60 : decode cX12_letter 60 = .ok (.iload 5, 2) := yd_op_21 (i := 27) (a := 5) yd_by_cX12_letter_1 rfl rfl
theorem dX12_letter_62 : decode cX12_letter 62 = .ok (.if_icmp .lt 5, 3) := yd_op_161 (i := 29) (a := 0) (b := 5) yd_by_cX12_letter_1 rfl rfl
theorem dX12_letter_65 : decode cX12_letter 65 = .ok (.iconst 0, 1) := yd_op_3 (i := 32) yd_by_cX12_letter_1 rfl rfl
theorem dX12_letter_66 : decode cX12_letter 66 = .ok (.ireturn, 1) := yd_op_172 (i := 33) yd_by_cX12_letter_1 rfl rfl
theorem dX12_letter_67 : decode cX12_letter 67 = .ok (.iload 5, 2) := yd_op_21 (i := 34) (a := 5) yd_by_cX12_letter_1 rfl rfl
theorem dX12_letter_69 : decode cX12_letter 69 = .ok (.iconst 1, 1) := yd_op_4 (i := 36) yd_by_cX12_letter_1 rfl rfl
set_option maxRecDepth 100000 in
theorem yd_by_cX12_letter_2 : ydk cX12_letter 70 [100, 54, 6, 21, 6, 28, 164, 0, 15, 33, 20, 1, 44, 109, 66, 132, 6, 255, 167, 255, 241, 33, 20, 1, 44, 113, 136, 172] = true := by decide +kernel
theorem dX12_letter_70 : decode cX12_letter 70 = .ok (.isub, 1) := yd_op_100 (i := 0) yd_by_cX12_letter_2 rfl rfl
theorem dX12_letter_71 : decode cX12_letter 71 = .ok (.istore 6, 2) := yd_op_54 (i := 1) (a := 6) yd_by_cX12_letter_2 rfl rfl
theorem dX12_letter_73 : decode cX12_letter 73 = .ok (.iload 6, 2) := yd_op_21 (i := 3) (a := 6) yd_by_cX12_letter_2 rfl rfl
theorem dX12_letter_75 : decode cX12_letter 75 = .ok (.iload_n 2, 1) := yd_op_28 (i := 5) yd_by_cX12_letter_2 rfl rfl
theorem dX12_letter_76 : decode cX12_letter 76 = .ok (.if_icmp .le 15, 3) := yd_op_164 (i := 6) (a := 0) (b := 15) yd_by_cX12_letter_2 rfl rfl
theorem dX12_letter_79 : decode cX12_letter 79 = .ok (.lload_n 3, 1) := yd_op_33 (i := 9) yd_by_cX12_letter_2 rfl rfl
theorem dX12_letter_80 : decode cX12_letter 80 = .ok (.ldc2_w 300, 3) := yd_op_20 (i := 10) (a := 1) (b := 44) yd_by_cX12_letter_2 rfl rfl
theorem dX12_letter_83 : decode cX12_letter 83 = .ok (.ldiv, 1) := yd_op_109 (i := 13) yd_by_cX12_letter_2 rfl rfl
theorem dX12_letter_84 : decode cX12_letter 84 = .ok (.lstore_n 3, 1) := yd_op_66 (i := 14) yd_by_cX12_letter_2 rfl rfl
theorem dX12_letter_85 : decode cX12_letter 85 = .ok (.iinc 6 (-1), 3) := yd_op_132 (i := 15) (a := 6) (b := 255) yd_by_cX12_letter_2 rfl rfl
theorem dX12_letter_88 : decode cX12_letter 88 = .ok (.goto (-15), 3) := yd_op_167 (i := 18) (a := 255) (b := 241) yd_by_cX12_letter_2 rfl rfl
theorem dX12_letter_91 : decode cX12_letter 91 = .ok (.lload_n 3, 1) := yd_op_33 (i := 21) yd_by_cX12_letter_2 rfl rfl
theorem dX12_letter_92 : decode cX12_letter 92 = .ok (.ldc2_w 300, 3) := yd_op_20 (i := 22) (a := 1) (b := 44) yd_by_cX12_letter_2 rfl rfl
theorem dX12_letter_95 : decode cX12_letter 95 = .ok (.lrem, 1) := yd_op_113 (i := 25) yd_by_cX12_letter_2 rfl rfl
theorem dX12_letter_96 : decode cX12_letter 96 = .ok (.l2i, 1) := yd_op_136 (i := 26) yd_by_cX12_letter_2 rfl rfl
theorem dX12_letter_97 : decode cX12_letter 97 = .ok (.ireturn, 1) := yd_op_172 (i := 27) yd_by_cX12_letter_2 rfl rfl
theorem dX12_cell_21 : decode cX12_cell 21 = .ok (.tableswitch 72 0 3 #[31, 42, 57, 65], 31) := by decide +kernel
set_option maxRecDepth 100000 in
theorem yd_by_cX12_cell_0 : ydk cX12_cell 0 [42, 27, 28, 182, 1, 222, 54, 4, 21, 4, 2, 160, 0, 5, 2, 172, 42, 182, 1, 198, 29, 170, 0, 0, 0, 0, 0, 72, 0, 0, 0, 0, 0, 0, 0, 3, 0, 0, 0, 31, 0, 0, 0, 42, 0, 0, 0, 57, 0, 0, 0, 65, 42, 180, 0, 112, 16, 36, 21, 4, 96, 46, 172] = true := by decide +kernel
theorem dX12_cell_0 : decode cX12_cell 0 = .ok (.aload_n 0, 1) := yd_op_42 (i := 0) yd_by_cX12_cell_0 rfl rfl
theorem dX12_cell_1 : decode cX12_cell 1 = .ok (.iload_n 1, 1) := yd_op_27 (i := 1) yd_by_cX12_cell_0 rfl rfl
theorem dX12_cell_2 : decode cX12_cell 2 = .ok (.iload_n 2, 1) := yd_op_28 (i := 2) yd_by_cX12_cell_0 rfl rfl
theorem dX12_cell_3 : decode cX12_cell 3 = .ok (.invokevirtual 478, 3) := yd_op_182 (i := 3) (a := 1) (b := 222) yd_by_cX12_cell_0 rfl rfl
theorem dX12_cell_6 : decode cX12_cell 6 = .ok (.istore 4, 2) := yd_op_54 (i := 6) (a := 4) yd_by_cX12_cell_0 rfl rfl
theorem dX12_cell_8 : decode cX12_cell 8 = .ok (.iload 4, 2) := yd_op_21 (i := 8) (a := 4) yd_by_cX12_cell_0 rfl rfl
theorem dX12_cell_10 : decode cX12_cell 10 = .ok (.iconst (-1), 1) := yd_op_2 (i := 10) yd_by_cX12_cell_0 rfl rfl
theorem dX12_cell_11 : decode cX12_cell 11 = .ok (.if_icmp .ne 5, 3) := yd_op_160 (i := 11) (a := 0) (b := 5) yd_by_cX12_cell_0 rfl rfl
theorem dX12_cell_14 : decode cX12_cell 14 = .ok (.iconst (-1), 1) := yd_op_2 (i := 14) yd_by_cX12_cell_0 rfl rfl
theorem dX12_cell_15 : decode cX12_cell 15 = .ok (.ireturn, 1) := yd_op_172 (i := 15) yd_by_cX12_cell_0 rfl rfl
theorem dX12_cell_16 : decode cX12_cell 16 = .ok (.aload_n 0, 1) := yd_op_42 (i := 16) yd_by_cX12_cell_0 rfl rfl
theorem dX12_cell_17 : decode cX12_cell 17 = .ok (.invokevirtual 454, 3) := yd_op_182 (i := 17) (a := 1) (b := 198) yd_by_cX12_cell_0 rfl rfl
theorem dX12_cell_20 : decode cX12_cell 20 = .ok (.iload_n 3, 1) := yd_op_29 (i := 20) yd_by_cX12_cell_0 rfl rfl
theorem dX12_cell_52 : decode cX12_cell 52 = .ok (.aload_n 0, 1) := yd_op_42 (i := 52) yd_by_cX12_cell_0 rfl rfl
theorem dX12_cell_53 : decode cX12_cell 53 = .ok (.getfield 112, 3) := yd_op_180 (i := 53) (a := 0) (b := 112) yd_by_cX12_cell_0 rfl rfl
theorem dX12_cell_56 : decode cX12_cell 56 = .ok (.bipush 36, 2) := yd_op_16 (i := 56) (a := 36) yd_by_cX12_cell_0 rfl rfl
theorem dX12_cell_58 : decode cX12_cell 58 = .ok (.iload 4, 2) := yd_op_21 (i := 58) (a := 4) yd_by_cX12_cell_0 rfl rfl
theorem dX12_cell_60 : decode cX12_cell 60 = .ok (.iadd, 1) := yd_op_96 (i := 60) yd_by_cX12_cell_0 rfl rfl
theorem dX12_cell_61 : decode cX12_cell 61 = .ok (.iaload, 1) := yd_op_46 (i := 61) yd_by_cX12_cell_0 rfl rfl
theorem dX12_cell_62 : decode cX12_cell 62 = .ok (.ireturn, 1) := yd_op_172 (i := 62) yd_by_cX12_cell_0 rfl rfl
set_option maxRecDepth 100000 in
theorem yd_by_cX12_cell_1 : ydk cX12_cell 63 [42, 21, 4, 182, 1, 180, 153, 0, 7, 4, 167, 0, 4, 3, 172, 42, 180, 0, 136, 21, 4, 46, 172, 42, 21, 4, 182, 1, 225, 172, 2, 172] = true := by decide +kernel
theorem dX12_cell_63 : decode cX12_cell 63 = .ok (.aload_n 0, 1) := yd_op_42 (i := 0) yd_by_cX12_cell_1 rfl rfl
theorem dX12_cell_64 : decode cX12_cell 64 = .ok (.iload 4, 2) := yd_op_21 (i := 1) (a := 4) yd_by_cX12_cell_1 rfl rfl
theorem dX12_cell_66 : decode cX12_cell 66 = .ok (.invokevirtual 436, 3) := yd_op_182 (i := 3) (a := 1) (b := 180) yd_by_cX12_cell_1 rfl rfl
theorem dX12_cell_69 : decode cX12_cell 69 = .ok (.ifCond .eq 7, 3) := yd_op_153 (i := 6) (a := 0) (b := 7) yd_by_cX12_cell_1 rfl rfl
theorem dX12_cell_72 : decode cX12_cell 72 = .ok (.iconst 1, 1) := yd_op_4 (i := 9) yd_by_cX12_cell_1 rfl rfl
theorem dX12_cell_73 : decode cX12_cell 73 = .ok (.goto 4, 3) := yd_op_167 (i := 10) (a := 0) (b := 4) yd_by_cX12_cell_1 rfl rfl
theorem dX12_cell_76 : decode cX12_cell 76 = .ok (.iconst 0, 1) := yd_op_3 (i := 13) yd_by_cX12_cell_1 rfl rfl
theorem dX12_cell_77 : decode cX12_cell 77 = .ok (.ireturn, 1) := yd_op_172 (i := 14) yd_by_cX12_cell_1 rfl rfl
theorem dX12_cell_78 : decode cX12_cell 78 = .ok (.aload_n 0, 1) := yd_op_42 (i := 15) yd_by_cX12_cell_1 rfl rfl
theorem dX12_cell_79 : decode cX12_cell 79 = .ok (.getfield 136, 3) := yd_op_180 (i := 16) (a := 0) (b := 136) yd_by_cX12_cell_1 rfl rfl
theorem dX12_cell_82 : decode cX12_cell 82 = .ok (.iload 4, 2) := yd_op_21 (i := 19) (a := 4) yd_by_cX12_cell_1 rfl rfl
theorem dX12_cell_84 : decode cX12_cell 84 = .ok (.iaload, 1) := yd_op_46 (i := 21) yd_by_cX12_cell_1 rfl rfl
theorem dX12_cell_85 : decode cX12_cell 85 = .ok (.ireturn, 1) := yd_op_172 (i := 22) yd_by_cX12_cell_1 rfl rfl
theorem dX12_cell_86 : decode cX12_cell 86 = .ok (.aload_n 0, 1) := yd_op_42 (i := 23) yd_by_cX12_cell_1 rfl rfl
theorem dX12_cell_87 : decode cX12_cell 87 = .ok (.iload 4, 2) := yd_op_21 (i := 24) (a := 4) yd_by_cX12_cell_1 rfl rfl
theorem dX12_cell_89 : decode cX12_cell 89 = .ok (.invokevirtual 481, 3) := yd_op_182 (i := 26) (a := 1) (b := 225) yd_by_cX12_cell_1 rfl rfl
theorem dX12_cell_92 : decode cX12_cell 92 = .ok (.ireturn, 1) := yd_op_172 (i := 29) yd_by_cX12_cell_1 rfl rfl
theorem dX12_cell_93 : decode cX12_cell 93 = .ok (.iconst (-1), 1) := yd_op_2 (i := 30) yd_by_cX12_cell_1 rfl rfl
theorem dX12_cell_94 : decode cX12_cell 94 = .ok (.ireturn, 1) := yd_op_172 (i := 31) yd_by_cX12_cell_1 rfl rfl
set_option maxRecDepth 100000 in
theorem yd_by_cX12_slack_0 : ydk cX12_slack 0 [42, 27, 28, 182, 1, 222, 62, 29, 2, 160, 0, 7, 20, 1, 228, 173, 42, 182, 1, 198, 42, 42, 182, 1, 195, 29, 182, 1, 189, 133, 173] = true := by decide +kernel
theorem dX12_slack_0 : decode cX12_slack 0 = .ok (.aload_n 0, 1) := yd_op_42 (i := 0) yd_by_cX12_slack_0 rfl rfl
theorem dX12_slack_1 : decode cX12_slack 1 = .ok (.iload_n 1, 1) := yd_op_27 (i := 1) yd_by_cX12_slack_0 rfl rfl
theorem dX12_slack_2 : decode cX12_slack 2 = .ok (.iload_n 2, 1) := yd_op_28 (i := 2) yd_by_cX12_slack_0 rfl rfl
theorem dX12_slack_3 : decode cX12_slack 3 = .ok (.invokevirtual 478, 3) := yd_op_182 (i := 3) (a := 1) (b := 222) yd_by_cX12_slack_0 rfl rfl
theorem dX12_slack_6 : decode cX12_slack 6 = .ok (.istore_n 3, 1) := yd_op_62 (i := 6) yd_by_cX12_slack_0 rfl rfl
theorem dX12_slack_7 : decode cX12_slack 7 = .ok (.iload_n 3, 1) := yd_op_29 (i := 7) yd_by_cX12_slack_0 rfl rfl
theorem dX12_slack_8 : decode cX12_slack 8 = .ok (.iconst (-1), 1) := yd_op_2 (i := 8) yd_by_cX12_slack_0 rfl rfl
theorem dX12_slack_9 : decode cX12_slack 9 = .ok (.if_icmp .ne 7, 3) := yd_op_160 (i := 9) (a := 0) (b := 7) yd_by_cX12_slack_0 rfl rfl
theorem dX12_slack_12 : decode cX12_slack 12 = .ok (.ldc2_w 484, 3) := yd_op_20 (i := 12) (a := 1) (b := 228) yd_by_cX12_slack_0 rfl rfl
theorem dX12_slack_15 : decode cX12_slack 15 = .ok (.lreturn, 1) := yd_op_173 (i := 15) yd_by_cX12_slack_0 rfl rfl
theorem dX12_slack_16 : decode cX12_slack 16 = .ok (.aload_n 0, 1) := yd_op_42 (i := 16) yd_by_cX12_slack_0 rfl rfl
theorem dX12_slack_17 : decode cX12_slack 17 = .ok (.invokevirtual 454, 3) := yd_op_182 (i := 17) (a := 1) (b := 198) yd_by_cX12_slack_0 rfl rfl
theorem dX12_slack_20 : decode cX12_slack 20 = .ok (.aload_n 0, 1) := yd_op_42 (i := 20) yd_by_cX12_slack_0 rfl rfl
theorem dX12_slack_21 : decode cX12_slack 21 = .ok (.aload_n 0, 1) := yd_op_42 (i := 21) yd_by_cX12_slack_0 rfl rfl
theorem dX12_slack_22 : decode cX12_slack 22 = .ok (.invokevirtual 451, 3) := yd_op_182 (i := 22) (a := 1) (b := 195) yd_by_cX12_slack_0 rfl rfl
theorem dX12_slack_25 : decode cX12_slack 25 = .ok (.iload_n 3, 1) := yd_op_29 (i := 25) yd_by_cX12_slack_0 rfl rfl
theorem dX12_slack_26 : decode cX12_slack 26 = .ok (.invokevirtual 445, 3) := yd_op_182 (i := 26) (a := 1) (b := 189) yd_by_cX12_slack_0 rfl rfl
theorem dX12_slack_29 : decode cX12_slack 29 = .ok (.i2l, 1) := yd_op_133 (i := 29) yd_by_cX12_slack_0 rfl rfl
theorem dX12_slack_30 : decode cX12_slack 30 = .ok (.lreturn, 1) := yd_op_173 (i := 30) yd_by_cX12_slack_0 rfl rfl
theorem dX12_person_11 : decode cX12_person 11 = .ok (.tableswitch 90 0 5 #[37, 46, 55, 61, 67, 76], 37) := by decide +kernel
set_option maxRecDepth 100000 in
theorem yd_by_cX12_person_0 : ydk cX12_person 0 [42, 27, 182, 1, 219, 154, 0, 5, 2, 172, 28, 170, 0, 0, 0, 90, 0, 0, 0, 0, 0, 0, 0, 5, 0, 0, 0, 37, 0, 0, 0, 46, 0, 0, 0, 55, 0, 0, 0, 61, 0, 0, 0, 67, 0, 0, 0, 76, 42, 27, 182, 1, 135, 16, 6, 112, 172, 42, 27, 182, 1, 135, 16, 6, 108, 172, 42] = true := by decide +kernel
theorem dX12_person_0 : decode cX12_person 0 = .ok (.aload_n 0, 1) := yd_op_42 (i := 0) yd_by_cX12_person_0 rfl rfl
theorem dX12_person_1 : decode cX12_person 1 = .ok (.iload_n 1, 1) := yd_op_27 (i := 1) yd_by_cX12_person_0 rfl rfl
theorem dX12_person_2 : decode cX12_person 2 = .ok (.invokevirtual 475, 3) := yd_op_182 (i := 2) (a := 1) (b := 219) yd_by_cX12_person_0 rfl rfl
theorem dX12_person_5 : decode cX12_person 5 = .ok (.ifCond .ne 5, 3) := yd_op_154 (i := 5) (a := 0) (b := 5) yd_by_cX12_person_0 rfl rfl
theorem dX12_person_8 : decode cX12_person 8 = .ok (.iconst (-1), 1) := yd_op_2 (i := 8) yd_by_cX12_person_0 rfl rfl
theorem dX12_person_9 : decode cX12_person 9 = .ok (.ireturn, 1) := yd_op_172 (i := 9) yd_by_cX12_person_0 rfl rfl
theorem dX12_person_10 : decode cX12_person 10 = .ok (.iload_n 2, 1) := yd_op_28 (i := 10) yd_by_cX12_person_0 rfl rfl
theorem dX12_person_48 : decode cX12_person 48 = .ok (.aload_n 0, 1) := yd_op_42 (i := 48) yd_by_cX12_person_0 rfl rfl
theorem dX12_person_49 : decode cX12_person 49 = .ok (.iload_n 1, 1) := yd_op_27 (i := 49) yd_by_cX12_person_0 rfl rfl
theorem dX12_person_50 : decode cX12_person 50 = .ok (.invokevirtual 391, 3) := yd_op_182 (i := 50) (a := 1) (b := 135) yd_by_cX12_person_0 rfl rfl
theorem dX12_person_53 : decode cX12_person 53 = .ok (.bipush 6, 2) := yd_op_16 (i := 53) (a := 6) yd_by_cX12_person_0 rfl rfl
theorem dX12_person_55 : decode cX12_person 55 = .ok (.irem, 1) := yd_op_112 (i := 55) yd_by_cX12_person_0 rfl rfl
theorem dX12_person_56 : decode cX12_person 56 = .ok (.ireturn, 1) := yd_op_172 (i := 56) yd_by_cX12_person_0 rfl rfl
theorem dX12_person_57 : decode cX12_person 57 = .ok (.aload_n 0, 1) := yd_op_42 (i := 57) yd_by_cX12_person_0 rfl rfl
theorem dX12_person_58 : decode cX12_person 58 = .ok (.iload_n 1, 1) := yd_op_27 (i := 58) yd_by_cX12_person_0 rfl rfl
theorem dX12_person_59 : decode cX12_person 59 = .ok (.invokevirtual 391, 3) := yd_op_182 (i := 59) (a := 1) (b := 135) yd_by_cX12_person_0 rfl rfl
theorem dX12_person_62 : decode cX12_person 62 = .ok (.bipush 6, 2) := yd_op_16 (i := 62) (a := 6) yd_by_cX12_person_0 rfl rfl
theorem dX12_person_64 : decode cX12_person 64 = .ok (.idiv, 1) := yd_op_108 (i := 64) yd_by_cX12_person_0 rfl rfl
theorem dX12_person_65 : decode cX12_person 65 = .ok (.ireturn, 1) := yd_op_172 (i := 65) yd_by_cX12_person_0 rfl rfl
theorem dX12_person_66 : decode cX12_person 66 = .ok (.aload_n 0, 1) := yd_op_42 (i := 66) yd_by_cX12_person_0 rfl rfl
set_option maxRecDepth 100000 in
theorem yd_by_cX12_person_1 : ydk cX12_person 67 [27, 182, 1, 162, 172, 42, 27, 182, 1, 230, 172, 42, 182, 1, 195, 27, 122, 4, 126, 172, 42, 27, 182, 1, 156, 153, 0, 7, 4, 167, 0, 4] = true := by decide +kernel
theorem dX12_person_67 : decode cX12_person 67 = .ok (.iload_n 1, 1) := yd_op_27 (i := 0) yd_by_cX12_person_1 rfl rfl
theorem dX12_person_68 : decode cX12_person 68 = .ok (.invokevirtual 418, 3) := yd_op_182 (i := 1) (a := 1) (b := 162) yd_by_cX12_person_1 rfl rfl
theorem dX12_person_71 : decode cX12_person 71 = .ok (.ireturn, 1) := yd_op_172 (i := 4) yd_by_cX12_person_1 rfl rfl
theorem dX12_person_72 : decode cX12_person 72 = .ok (.aload_n 0, 1) := yd_op_42 (i := 5) yd_by_cX12_person_1 rfl rfl
theorem dX12_person_73 : decode cX12_person 73 = .ok (.iload_n 1, 1) := yd_op_27 (i := 6) yd_by_cX12_person_1 rfl rfl
theorem dX12_person_74 : decode cX12_person 74 = .ok (.invokevirtual 486, 3) := yd_op_182 (i := 7) (a := 1) (b := 230) yd_by_cX12_person_1 rfl rfl
theorem dX12_person_77 : decode cX12_person 77 = .ok (.ireturn, 1) := yd_op_172 (i := 10) yd_by_cX12_person_1 rfl rfl
theorem dX12_person_78 : decode cX12_person 78 = .ok (.aload_n 0, 1) := yd_op_42 (i := 11) yd_by_cX12_person_1 rfl rfl
theorem dX12_person_79 : decode cX12_person 79 = .ok (.invokevirtual 451, 3) := yd_op_182 (i := 12) (a := 1) (b := 195) yd_by_cX12_person_1 rfl rfl
theorem dX12_person_82 : decode cX12_person 82 = .ok (.iload_n 1, 1) := yd_op_27 (i := 15) yd_by_cX12_person_1 rfl rfl
theorem dX12_person_83 : decode cX12_person 83 = .ok (.ishr, 1) := yd_op_122 (i := 16) yd_by_cX12_person_1 rfl rfl
theorem dX12_person_84 : decode cX12_person 84 = .ok (.iconst 1, 1) := yd_op_4 (i := 17) yd_by_cX12_person_1 rfl rfl
theorem dX12_person_85 : decode cX12_person 85 = .ok (.iand, 1) := yd_op_126 (i := 18) yd_by_cX12_person_1 rfl rfl
theorem dX12_person_86 : decode cX12_person 86 = .ok (.ireturn, 1) := yd_op_172 (i := 19) yd_by_cX12_person_1 rfl rfl
theorem dX12_person_87 : decode cX12_person 87 = .ok (.aload_n 0, 1) := yd_op_42 (i := 20) yd_by_cX12_person_1 rfl rfl
theorem dX12_person_88 : decode cX12_person 88 = .ok (.iload_n 1, 1) := yd_op_27 (i := 21) yd_by_cX12_person_1 rfl rfl
theorem dX12_person_89 : decode cX12_person 89 = .ok (.invokevirtual 412, 3) := yd_op_182 (i := 22) (a := 1) (b := 156) yd_by_cX12_person_1 rfl rfl
theorem dX12_person_92 : decode cX12_person 92 = .ok (.ifCond .eq 7, 3) := yd_op_153 (i := 25) (a := 0) (b := 7) yd_by_cX12_person_1 rfl rfl
theorem dX12_person_95 : decode cX12_person 95 = .ok (.iconst 1, 1) := yd_op_4 (i := 28) yd_by_cX12_person_1 rfl rfl
theorem dX12_person_96 : decode cX12_person 96 = .ok (.goto 4, 3) := yd_op_167 (i := 29) (a := 0) (b := 4) yd_by_cX12_person_1 rfl rfl
set_option maxRecDepth 100000 in
theorem yd_by_cX12_person_2 : ydk cX12_person 99 [3, 172, 2, 172] = true := by decide +kernel
theorem dX12_person_99 : decode cX12_person 99 = .ok (.iconst 0, 1) := yd_op_3 (i := 0) yd_by_cX12_person_2 rfl rfl
theorem dX12_person_100 : decode cX12_person 100 = .ok (.ireturn, 1) := yd_op_172 (i := 1) yd_by_cX12_person_2 rfl rfl
theorem dX12_person_101 : decode cX12_person 101 = .ok (.iconst (-1), 1) := yd_op_2 (i := 2) yd_by_cX12_person_2 rfl rfl
theorem dX12_person_102 : decode cX12_person 102 = .ok (.ireturn, 1) := yd_op_172 (i := 3) yd_by_cX12_person_2 rfl rfl
set_option maxRecDepth 100000 in
theorem yd_by_cX12_lifts_0 : ydk cX12_lifts 0 [42, 28, 29, 182, 1, 222, 54, 4, 42, 27, 182, 1, 219, 153, 0, 24, 21, 4, 2, 159, 0, 18, 42, 27, 42, 27, 182, 1, 135, 21, 4, 182, 1, 165, 167, 0, 4] = true := by decide +kernel
theorem dX12_lifts_0 : decode cX12_lifts 0 = .ok (.aload_n 0, 1) := yd_op_42 (i := 0) yd_by_cX12_lifts_0 rfl rfl
theorem dX12_lifts_1 : decode cX12_lifts 1 = .ok (.iload_n 2, 1) := yd_op_28 (i := 1) yd_by_cX12_lifts_0 rfl rfl
theorem dX12_lifts_2 : decode cX12_lifts 2 = .ok (.iload_n 3, 1) := yd_op_29 (i := 2) yd_by_cX12_lifts_0 rfl rfl
theorem dX12_lifts_3 : decode cX12_lifts 3 = .ok (.invokevirtual 478, 3) := yd_op_182 (i := 3) (a := 1) (b := 222) yd_by_cX12_lifts_0 rfl rfl
theorem dX12_lifts_6 : decode cX12_lifts 6 = .ok (.istore 4, 2) := yd_op_54 (i := 6) (a := 4) yd_by_cX12_lifts_0 rfl rfl
theorem dX12_lifts_8 : decode cX12_lifts 8 = .ok (.aload_n 0, 1) := yd_op_42 (i := 8) yd_by_cX12_lifts_0 rfl rfl
theorem dX12_lifts_9 : decode cX12_lifts 9 = .ok (.iload_n 1, 1) := yd_op_27 (i := 9) yd_by_cX12_lifts_0 rfl rfl
theorem dX12_lifts_10 : decode cX12_lifts 10 = .ok (.invokevirtual 475, 3) := yd_op_182 (i := 10) (a := 1) (b := 219) yd_by_cX12_lifts_0 rfl rfl
theorem dX12_lifts_13 : decode cX12_lifts 13 = .ok (.ifCond .eq 24, 3) := yd_op_153 (i := 13) (a := 0) (b := 24) yd_by_cX12_lifts_0 rfl rfl
theorem dX12_lifts_16 : decode cX12_lifts 16 = .ok (.iload 4, 2) := yd_op_21 (i := 16) (a := 4) yd_by_cX12_lifts_0 rfl rfl
theorem dX12_lifts_18 : decode cX12_lifts 18 = .ok (.iconst (-1), 1) := yd_op_2 (i := 18) yd_by_cX12_lifts_0 rfl rfl
theorem dX12_lifts_19 : decode cX12_lifts 19 = .ok (.if_icmp .eq 18, 3) := yd_op_159 (i := 19) (a := 0) (b := 18) yd_by_cX12_lifts_0 rfl rfl
theorem dX12_lifts_22 : decode cX12_lifts 22 = .ok (.aload_n 0, 1) := yd_op_42 (i := 22) yd_by_cX12_lifts_0 rfl rfl
theorem dX12_lifts_23 : decode cX12_lifts 23 = .ok (.iload_n 1, 1) := yd_op_27 (i := 23) yd_by_cX12_lifts_0 rfl rfl
theorem dX12_lifts_24 : decode cX12_lifts 24 = .ok (.aload_n 0, 1) := yd_op_42 (i := 24) yd_by_cX12_lifts_0 rfl rfl
theorem dX12_lifts_25 : decode cX12_lifts 25 = .ok (.iload_n 1, 1) := yd_op_27 (i := 25) yd_by_cX12_lifts_0 rfl rfl
theorem dX12_lifts_26 : decode cX12_lifts 26 = .ok (.invokevirtual 391, 3) := yd_op_182 (i := 26) (a := 1) (b := 135) yd_by_cX12_lifts_0 rfl rfl
theorem dX12_lifts_29 : decode cX12_lifts 29 = .ok (.iload 4, 2) := yd_op_21 (i := 29) (a := 4) yd_by_cX12_lifts_0 rfl rfl
theorem dX12_lifts_31 : decode cX12_lifts 31 = .ok (.invokevirtual 421, 3) := yd_op_182 (i := 31) (a := 1) (b := 165) yd_by_cX12_lifts_0 rfl rfl
theorem dX12_lifts_34 : decode cX12_lifts 34 = .ok (.goto 4, 3) := yd_op_167 (i := 34) (a := 0) (b := 4) yd_by_cX12_lifts_0 rfl rfl
set_option maxRecDepth 100000 in
theorem yd_by_cX12_lifts_1 : ydk cX12_lifts 37 [2, 172] = true := by decide +kernel
theorem dX12_lifts_37 : decode cX12_lifts 37 = .ok (.iconst (-1), 1) := yd_op_2 (i := 0) yd_by_cX12_lifts_1 rfl rfl
theorem dX12_lifts_38 : decode cX12_lifts 38 = .ok (.ireturn, 1) := yd_op_172 (i := 1) yd_by_cX12_lifts_1 rfl rfl
set_option maxRecDepth 100000 in
theorem yd_by_cX12_kept_0 : ydk cX12_kept 0 [27, 133, 9, 42, 180, 0, 130, 16, 67, 46, 4, 100, 133, 184, 1, 33, 153, 0, 31, 28, 133, 9, 20, 1, 233, 184, 1, 33, 153, 0, 19, 42, 180, 0, 130] = true := by decide +kernel
theorem dX12_kept_0 : decode cX12_kept 0 = .ok (.iload_n 1, 1) := yd_op_27 (i := 0) yd_by_cX12_kept_0 rfl rfl
theorem dX12_kept_1 : decode cX12_kept 1 = .ok (.i2l, 1) := yd_op_133 (i := 1) yd_by_cX12_kept_0 rfl rfl
theorem dX12_kept_2 : decode cX12_kept 2 = .ok (.lconst 0, 1) := yd_op_9 (i := 2) yd_by_cX12_kept_0 rfl rfl
theorem dX12_kept_3 : decode cX12_kept 3 = .ok (.aload_n 0, 1) := yd_op_42 (i := 3) yd_by_cX12_kept_0 rfl rfl
theorem dX12_kept_4 : decode cX12_kept 4 = .ok (.getfield 130, 3) := yd_op_180 (i := 4) (a := 0) (b := 130) yd_by_cX12_kept_0 rfl rfl
theorem dX12_kept_7 : decode cX12_kept 7 = .ok (.bipush 67, 2) := yd_op_16 (i := 7) (a := 67) yd_by_cX12_kept_0 rfl rfl
theorem dX12_kept_9 : decode cX12_kept 9 = .ok (.iaload, 1) := yd_op_46 (i := 9) yd_by_cX12_kept_0 rfl rfl
theorem dX12_kept_10 : decode cX12_kept 10 = .ok (.iconst 1, 1) := yd_op_4 (i := 10) yd_by_cX12_kept_0 rfl rfl
theorem dX12_kept_11 : decode cX12_kept 11 = .ok (.isub, 1) := yd_op_100 (i := 11) yd_by_cX12_kept_0 rfl rfl
theorem dX12_kept_12 : decode cX12_kept 12 = .ok (.i2l, 1) := yd_op_133 (i := 12) yd_by_cX12_kept_0 rfl rfl
theorem dX12_kept_13 : decode cX12_kept 13 = .ok (.invokestatic 289, 3) := yd_op_184 (i := 13) (a := 1) (b := 33) yd_by_cX12_kept_0 rfl rfl
theorem dX12_kept_16 : decode cX12_kept 16 = .ok (.ifCond .eq 31, 3) := yd_op_153 (i := 16) (a := 0) (b := 31) yd_by_cX12_kept_0 rfl rfl
theorem dX12_kept_19 : decode cX12_kept 19 = .ok (.iload_n 2, 1) := yd_op_28 (i := 19) yd_by_cX12_kept_0 rfl rfl
theorem dX12_kept_20 : decode cX12_kept 20 = .ok (.i2l, 1) := yd_op_133 (i := 20) yd_by_cX12_kept_0 rfl rfl
theorem dX12_kept_21 : decode cX12_kept 21 = .ok (.lconst 0, 1) := yd_op_9 (i := 21) yd_by_cX12_kept_0 rfl rfl
theorem dX12_kept_22 : decode cX12_kept 22 = .ok (.ldc2_w 489, 3) := yd_op_20 (i := 22) (a := 1) (b := 233) yd_by_cX12_kept_0 rfl rfl
theorem dX12_kept_25 : decode cX12_kept 25 = .ok (.invokestatic 289, 3) := yd_op_184 (i := 25) (a := 1) (b := 33) yd_by_cX12_kept_0 rfl rfl
theorem dX12_kept_28 : decode cX12_kept 28 = .ok (.ifCond .eq 19, 3) := yd_op_153 (i := 28) (a := 0) (b := 19) yd_by_cX12_kept_0 rfl rfl
theorem dX12_kept_31 : decode cX12_kept 31 = .ok (.aload_n 0, 1) := yd_op_42 (i := 31) yd_by_cX12_kept_0 rfl rfl
theorem dX12_kept_32 : decode cX12_kept 32 = .ok (.getfield 130, 3) := yd_op_180 (i := 32) (a := 0) (b := 130) yd_by_cX12_kept_0 rfl rfl
set_option maxRecDepth 100000 in
theorem yd_by_cX12_kept_1 : ydk cX12_kept 35 [16, 68, 6, 27, 104, 96, 28, 96, 46, 167, 0, 4, 2, 172] = true := by decide +kernel
theorem dX12_kept_35 : decode cX12_kept 35 = .ok (.bipush 68, 2) := yd_op_16 (i := 0) (a := 68) yd_by_cX12_kept_1 rfl rfl
theorem dX12_kept_37 : decode cX12_kept 37 = .ok (.iconst 3, 1) := yd_op_6 (i := 2) yd_by_cX12_kept_1 rfl rfl
theorem dX12_kept_38 : decode cX12_kept 38 = .ok (.iload_n 1, 1) := yd_op_27 (i := 3) yd_by_cX12_kept_1 rfl rfl
theorem dX12_kept_39 : decode cX12_kept 39 = .ok (.imul, 1) := yd_op_104 (i := 4) yd_by_cX12_kept_1 rfl rfl
theorem dX12_kept_40 : decode cX12_kept 40 = .ok (.iadd, 1) := yd_op_96 (i := 5) yd_by_cX12_kept_1 rfl rfl
theorem dX12_kept_41 : decode cX12_kept 41 = .ok (.iload_n 2, 1) := yd_op_28 (i := 6) yd_by_cX12_kept_1 rfl rfl
theorem dX12_kept_42 : decode cX12_kept 42 = .ok (.iadd, 1) := yd_op_96 (i := 7) yd_by_cX12_kept_1 rfl rfl
theorem dX12_kept_43 : decode cX12_kept 43 = .ok (.iaload, 1) := yd_op_46 (i := 8) yd_by_cX12_kept_1 rfl rfl
theorem dX12_kept_44 : decode cX12_kept 44 = .ok (.goto 4, 3) := yd_op_167 (i := 9) (a := 0) (b := 4) yd_by_cX12_kept_1 rfl rfl
theorem dX12_kept_47 : decode cX12_kept 47 = .ok (.iconst (-1), 1) := yd_op_2 (i := 12) yd_by_cX12_kept_1 rfl rfl
theorem dX12_kept_48 : decode cX12_kept 48 = .ok (.ireturn, 1) := yd_op_172 (i := 13) yd_by_cX12_kept_1 rfl rfl
set_option maxRecDepth 100000 in
theorem yd_by_cX12_tiredAll_0 : ydk cX12_tiredAll 0 [3, 60, 3, 61, 28, 42, 182, 1, 129, 162, 0, 17, 27, 42, 28, 182, 1, 230, 96, 60, 132, 2, 1, 167, 255, 237, 27, 172] = true := by decide +kernel
theorem dX12_tiredAll_0 : decode cX12_tiredAll 0 = .ok (.iconst 0, 1) := yd_op_3 (i := 0) yd_by_cX12_tiredAll_0 rfl rfl
theorem dX12_tiredAll_1 : decode cX12_tiredAll 1 = .ok (.istore_n 1, 1) := yd_op_60 (i := 1) yd_by_cX12_tiredAll_0 rfl rfl
theorem dX12_tiredAll_2 : decode cX12_tiredAll 2 = .ok (.iconst 0, 1) := yd_op_3 (i := 2) yd_by_cX12_tiredAll_0 rfl rfl
theorem dX12_tiredAll_3 : decode cX12_tiredAll 3 = .ok (.istore_n 2, 1) := yd_op_61 (i := 3) yd_by_cX12_tiredAll_0 rfl rfl
theorem dX12_tiredAll_4 : decode cX12_tiredAll 4 = .ok (.iload_n 2, 1) := yd_op_28 (i := 4) yd_by_cX12_tiredAll_0 rfl rfl
theorem dX12_tiredAll_5 : decode cX12_tiredAll 5 = .ok (.aload_n 0, 1) := yd_op_42 (i := 5) yd_by_cX12_tiredAll_0 rfl rfl
theorem dX12_tiredAll_6 : decode cX12_tiredAll 6 = .ok (.invokevirtual 385, 3) := yd_op_182 (i := 6) (a := 1) (b := 129) yd_by_cX12_tiredAll_0 rfl rfl
theorem dX12_tiredAll_9 : decode cX12_tiredAll 9 = .ok (.if_icmp .ge 17, 3) := yd_op_162 (i := 9) (a := 0) (b := 17) yd_by_cX12_tiredAll_0 rfl rfl
theorem dX12_tiredAll_12 : decode cX12_tiredAll 12 = .ok (.iload_n 1, 1) := yd_op_27 (i := 12) yd_by_cX12_tiredAll_0 rfl rfl
theorem dX12_tiredAll_13 : decode cX12_tiredAll 13 = .ok (.aload_n 0, 1) := yd_op_42 (i := 13) yd_by_cX12_tiredAll_0 rfl rfl
theorem dX12_tiredAll_14 : decode cX12_tiredAll 14 = .ok (.iload_n 2, 1) := yd_op_28 (i := 14) yd_by_cX12_tiredAll_0 rfl rfl
theorem dX12_tiredAll_15 : decode cX12_tiredAll 15 = .ok (.invokevirtual 486, 3) := yd_op_182 (i := 15) (a := 1) (b := 230) yd_by_cX12_tiredAll_0 rfl rfl
theorem dX12_tiredAll_18 : decode cX12_tiredAll 18 = .ok (.iadd, 1) := yd_op_96 (i := 18) yd_by_cX12_tiredAll_0 rfl rfl
theorem dX12_tiredAll_19 : decode cX12_tiredAll 19 = .ok (.istore_n 1, 1) := yd_op_60 (i := 19) yd_by_cX12_tiredAll_0 rfl rfl
theorem dX12_tiredAll_20 : decode cX12_tiredAll 20 = .ok (.iinc 2 1, 3) := yd_op_132 (i := 20) (a := 2) (b := 1) yd_by_cX12_tiredAll_0 rfl rfl
theorem dX12_tiredAll_23 : decode cX12_tiredAll 23 = .ok (.goto (-19), 3) := yd_op_167 (i := 23) (a := 255) (b := 237) yd_by_cX12_tiredAll_0 rfl rfl
theorem dX12_tiredAll_26 : decode cX12_tiredAll 26 = .ok (.iload_n 1, 1) := yd_op_27 (i := 26) yd_by_cX12_tiredAll_0 rfl rfl
theorem dX12_tiredAll_27 : decode cX12_tiredAll 27 = .ok (.ireturn, 1) := yd_op_172 (i := 27) yd_by_cX12_tiredAll_0 rfl rfl
set_option maxRecDepth 100000 in
theorem yd_by_cX12_later_0 : ydk cX12_later 0 [42, 27, 3, 16, 60, 182, 1, 235, 153, 0, 15, 28, 133, 9, 20, 1, 233, 184, 1, 33, 154, 0, 5, 2, 172, 42, 182, 1, 239, 42, 27, 182, 1, 242, 28] = true := by decide +kernel
theorem dX12_later_0 : decode cX12_later 0 = .ok (.aload_n 0, 1) := yd_op_42 (i := 0) yd_by_cX12_later_0 rfl rfl
theorem dX12_later_1 : decode cX12_later 1 = .ok (.iload_n 1, 1) := yd_op_27 (i := 1) yd_by_cX12_later_0 rfl rfl
theorem dX12_later_2 : decode cX12_later 2 = .ok (.iconst 0, 1) := yd_op_3 (i := 2) yd_by_cX12_later_0 rfl rfl
theorem dX12_later_3 : decode cX12_later 3 = .ok (.bipush 60, 2) := yd_op_16 (i := 3) (a := 60) yd_by_cX12_later_0 rfl rfl
theorem dX12_later_5 : decode cX12_later 5 = .ok (.invokevirtual 491, 3) := yd_op_182 (i := 5) (a := 1) (b := 235) yd_by_cX12_later_0 rfl rfl
theorem dX12_later_8 : decode cX12_later 8 = .ok (.ifCond .eq 15, 3) := yd_op_153 (i := 8) (a := 0) (b := 15) yd_by_cX12_later_0 rfl rfl
theorem dX12_later_11 : decode cX12_later 11 = .ok (.iload_n 2, 1) := yd_op_28 (i := 11) yd_by_cX12_later_0 rfl rfl
theorem dX12_later_12 : decode cX12_later 12 = .ok (.i2l, 1) := yd_op_133 (i := 12) yd_by_cX12_later_0 rfl rfl
theorem dX12_later_13 : decode cX12_later 13 = .ok (.lconst 0, 1) := yd_op_9 (i := 13) yd_by_cX12_later_0 rfl rfl
theorem dX12_later_14 : decode cX12_later 14 = .ok (.ldc2_w 489, 3) := yd_op_20 (i := 14) (a := 1) (b := 233) yd_by_cX12_later_0 rfl rfl
theorem dX12_later_17 : decode cX12_later 17 = .ok (.invokestatic 289, 3) := yd_op_184 (i := 17) (a := 1) (b := 33) yd_by_cX12_later_0 rfl rfl
theorem dX12_later_20 : decode cX12_later 20 = .ok (.ifCond .ne 5, 3) := yd_op_154 (i := 20) (a := 0) (b := 5) yd_by_cX12_later_0 rfl rfl
theorem dX12_later_23 : decode cX12_later 23 = .ok (.iconst (-1), 1) := yd_op_2 (i := 23) yd_by_cX12_later_0 rfl rfl
theorem dX12_later_24 : decode cX12_later 24 = .ok (.ireturn, 1) := yd_op_172 (i := 24) yd_by_cX12_later_0 rfl rfl
theorem dX12_later_25 : decode cX12_later 25 = .ok (.aload_n 0, 1) := yd_op_42 (i := 25) yd_by_cX12_later_0 rfl rfl
theorem dX12_later_26 : decode cX12_later 26 = .ok (.invokevirtual 495, 3) := yd_op_182 (i := 26) (a := 1) (b := 239) yd_by_cX12_later_0 rfl rfl
theorem dX12_later_29 : decode cX12_later 29 = .ok (.aload_n 0, 1) := yd_op_42 (i := 29) yd_by_cX12_later_0 rfl rfl
theorem dX12_later_30 : decode cX12_later 30 = .ok (.iload_n 1, 1) := yd_op_27 (i := 30) yd_by_cX12_later_0 rfl rfl
theorem dX12_later_31 : decode cX12_later 31 = .ok (.invokevirtual 498, 3) := yd_op_182 (i := 31) (a := 1) (b := 242) yd_by_cX12_later_0 rfl rfl
theorem dX12_later_34 : decode cX12_later 34 = .ok (.iload_n 2, 1) := yd_op_28 (i := 34) yd_by_cX12_later_0 rfl rfl
set_option maxRecDepth 100000 in
theorem yd_by_cX12_later_1 : ydk cX12_later 35 [154, 0, 10, 42, 182, 1, 210, 167, 0, 19, 28, 4, 160, 0, 10, 42, 182, 1, 195, 167, 0, 7, 42, 182, 1, 245, 62, 42, 182, 1, 248, 29, 172] = true := by decide +kernel
theorem dX12_later_35 : decode cX12_later 35 = .ok (.ifCond .ne 10, 3) := yd_op_154 (i := 0) (a := 0) (b := 10) yd_by_cX12_later_1 rfl rfl
theorem dX12_later_38 : decode cX12_later 38 = .ok (.aload_n 0, 1) := yd_op_42 (i := 3) yd_by_cX12_later_1 rfl rfl
theorem dX12_later_39 : decode cX12_later 39 = .ok (.invokevirtual 466, 3) := yd_op_182 (i := 4) (a := 1) (b := 210) yd_by_cX12_later_1 rfl rfl
theorem dX12_later_42 : decode cX12_later 42 = .ok (.goto 19, 3) := yd_op_167 (i := 7) (a := 0) (b := 19) yd_by_cX12_later_1 rfl rfl
theorem dX12_later_45 : decode cX12_later 45 = .ok (.iload_n 2, 1) := yd_op_28 (i := 10) yd_by_cX12_later_1 rfl rfl
theorem dX12_later_46 : decode cX12_later 46 = .ok (.iconst 1, 1) := yd_op_4 (i := 11) yd_by_cX12_later_1 rfl rfl
theorem dX12_later_47 : decode cX12_later 47 = .ok (.if_icmp .ne 10, 3) := yd_op_160 (i := 12) (a := 0) (b := 10) yd_by_cX12_later_1 rfl rfl
theorem dX12_later_50 : decode cX12_later 50 = .ok (.aload_n 0, 1) := yd_op_42 (i := 15) yd_by_cX12_later_1 rfl rfl
theorem dX12_later_51 : decode cX12_later 51 = .ok (.invokevirtual 451, 3) := yd_op_182 (i := 16) (a := 1) (b := 195) yd_by_cX12_later_1 rfl rfl
theorem dX12_later_54 : decode cX12_later 54 = .ok (.goto 7, 3) := yd_op_167 (i := 19) (a := 0) (b := 7) yd_by_cX12_later_1 rfl rfl
theorem dX12_later_57 : decode cX12_later 57 = .ok (.aload_n 0, 1) := yd_op_42 (i := 22) yd_by_cX12_later_1 rfl rfl
theorem dX12_later_58 : decode cX12_later 58 = .ok (.invokevirtual 501, 3) := yd_op_182 (i := 23) (a := 1) (b := 245) yd_by_cX12_later_1 rfl rfl
theorem dX12_later_61 : decode cX12_later 61 = .ok (.istore_n 3, 1) := yd_op_62 (i := 26) yd_by_cX12_later_1 rfl rfl
theorem dX12_later_62 : decode cX12_later 62 = .ok (.aload_n 0, 1) := yd_op_42 (i := 27) yd_by_cX12_later_1 rfl rfl
theorem dX12_later_63 : decode cX12_later 63 = .ok (.invokevirtual 504, 3) := yd_op_182 (i := 28) (a := 1) (b := 248) yd_by_cX12_later_1 rfl rfl
theorem dX12_later_66 : decode cX12_later 66 = .ok (.iload_n 3, 1) := yd_op_29 (i := 31) yd_by_cX12_later_1 rfl rfl
theorem dX12_later_67 : decode cX12_later 67 = .ok (.ireturn, 1) := yd_op_172 (i := 32) yd_by_cX12_later_1 rfl rfl
set_option maxRecDepth 100000 in
theorem yd_by_cX12_next_0 : ydk cX12_next 0 [42, 180, 1, 119, 154, 0, 5, 2, 172, 2, 60, 42, 182, 1, 239, 4, 61, 28, 16, 60, 163, 0, 39, 27, 2, 160, 0, 34, 42, 180, 0, 130, 3] = true := by decide +kernel
theorem dX12_next_0 : decode cX12_next 0 = .ok (.aload_n 0, 1) := yd_op_42 (i := 0) yd_by_cX12_next_0 rfl rfl
theorem dX12_next_1 : decode cX12_next 1 = .ok (.getfield 375, 3) := yd_op_180 (i := 1) (a := 1) (b := 119) yd_by_cX12_next_0 rfl rfl
theorem dX12_next_4 : decode cX12_next 4 = .ok (.ifCond .ne 5, 3) := yd_op_154 (i := 4) (a := 0) (b := 5) yd_by_cX12_next_0 rfl rfl
theorem dX12_next_7 : decode cX12_next 7 = .ok (.iconst (-1), 1) := yd_op_2 (i := 7) yd_by_cX12_next_0 rfl rfl
theorem dX12_next_8 : decode cX12_next 8 = .ok (.ireturn, 1) := yd_op_172 (i := 8) yd_by_cX12_next_0 rfl rfl
theorem dX12_next_9 : decode cX12_next 9 = .ok (.iconst (-1), 1) := yd_op_2 (i := 9) yd_by_cX12_next_0 rfl rfl
theorem dX12_next_10 : decode cX12_next 10 = .ok (.istore_n 1, 1) := yd_op_60 (i := 10) yd_by_cX12_next_0 rfl rfl
theorem dX12_next_11 : decode cX12_next 11 = .ok (.aload_n 0, 1) := yd_op_42 (i := 11) yd_by_cX12_next_0 rfl rfl
theorem dX12_next_12 : decode cX12_next 12 = .ok (.invokevirtual 495, 3) := yd_op_182 (i := 12) (a := 1) (b := 239) yd_by_cX12_next_0 rfl rfl
theorem dX12_next_15 : decode cX12_next 15 = .ok (.iconst 1, 1) := yd_op_4 (i := 15) yd_by_cX12_next_0 rfl rfl
theorem dX12_next_16 : decode cX12_next 16 = .ok (.istore_n 2, 1) := yd_op_61 (i := 16) yd_by_cX12_next_0 rfl rfl
theorem dX12_next_17 : decode cX12_next 17 = .ok (.iload_n 2, 1) := yd_op_28 (i := 17) yd_by_cX12_next_0 rfl rfl
theorem dX12_next_18 : decode cX12_next 18 = .ok (.bipush 60, 2) := yd_op_16 (i := 18) (a := 60) yd_by_cX12_next_0 rfl rfl
theorem dX12_next_20 : decode cX12_next 20 = .ok (.if_icmp .gt 39, 3) := yd_op_163 (i := 20) (a := 0) (b := 39) yd_by_cX12_next_0 rfl rfl
theorem dX12_next_23 : decode cX12_next 23 = .ok (.iload_n 1, 1) := yd_op_27 (i := 23) yd_by_cX12_next_0 rfl rfl
theorem dX12_next_24 : decode cX12_next 24 = .ok (.iconst (-1), 1) := yd_op_2 (i := 24) yd_by_cX12_next_0 rfl rfl
theorem dX12_next_25 : decode cX12_next 25 = .ok (.if_icmp .ne 34, 3) := yd_op_160 (i := 25) (a := 0) (b := 34) yd_by_cX12_next_0 rfl rfl
theorem dX12_next_28 : decode cX12_next 28 = .ok (.aload_n 0, 1) := yd_op_42 (i := 28) yd_by_cX12_next_0 rfl rfl
theorem dX12_next_29 : decode cX12_next 29 = .ok (.getfield 130, 3) := yd_op_180 (i := 29) (a := 0) (b := 130) yd_by_cX12_next_0 rfl rfl
theorem dX12_next_32 : decode cX12_next 32 = .ok (.iconst 0, 1) := yd_op_3 (i := 32) yd_by_cX12_next_0 rfl rfl
set_option maxRecDepth 100000 in
theorem yd_by_cX12_next_1 : ydk cX12_next 33 [46, 17, 3, 231, 162, 0, 22, 42, 182, 1, 207, 42, 180, 1, 201, 158, 0, 5, 28, 60, 132, 2, 1, 167, 255, 217, 42, 182, 1, 248, 27, 172] = true := by decide +kernel
theorem dX12_next_33 : decode cX12_next 33 = .ok (.iaload, 1) := yd_op_46 (i := 0) yd_by_cX12_next_1 rfl rfl
theorem dX12_next_34 : decode cX12_next 34 = .ok (.sipush 999, 3) := yd_op_17 (i := 1) (a := 3) (b := 231) yd_by_cX12_next_1 rfl rfl
theorem dX12_next_37 : decode cX12_next 37 = .ok (.if_icmp .ge 22, 3) := yd_op_162 (i := 4) (a := 0) (b := 22) yd_by_cX12_next_1 rfl rfl
theorem dX12_next_40 : decode cX12_next 40 = .ok (.aload_n 0, 1) := yd_op_42 (i := 7) yd_by_cX12_next_1 rfl rfl
theorem dX12_next_41 : decode cX12_next 41 = .ok (.invokevirtual 463, 3) := yd_op_182 (i := 8) (a := 1) (b := 207) yd_by_cX12_next_1 rfl rfl
theorem dX12_next_44 : decode cX12_next 44 = .ok (.aload_n 0, 1) := yd_op_42 (i := 11) yd_by_cX12_next_1 rfl rfl
theorem dX12_next_45 : decode cX12_next 45 = .ok (.getfield 457, 3) := yd_op_180 (i := 12) (a := 1) (b := 201) yd_by_cX12_next_1 rfl rfl
theorem dX12_next_48 : decode cX12_next 48 = .ok (.ifCond .le 5, 3) := yd_op_158 (i := 15) (a := 0) (b := 5) yd_by_cX12_next_1 rfl rfl
theorem dX12_next_51 : decode cX12_next 51 = .ok (.iload_n 2, 1) := yd_op_28 (i := 18) yd_by_cX12_next_1 rfl rfl
theorem dX12_next_52 : decode cX12_next 52 = .ok (.istore_n 1, 1) := yd_op_60 (i := 19) yd_by_cX12_next_1 rfl rfl
theorem dX12_next_53 : decode cX12_next 53 = .ok (.iinc 2 1, 3) := yd_op_132 (i := 20) (a := 2) (b := 1) yd_by_cX12_next_1 rfl rfl
theorem dX12_next_56 : decode cX12_next 56 = .ok (.goto (-39), 3) := yd_op_167 (i := 23) (a := 255) (b := 217) yd_by_cX12_next_1 rfl rfl
theorem dX12_next_59 : decode cX12_next 59 = .ok (.aload_n 0, 1) := yd_op_42 (i := 26) yd_by_cX12_next_1 rfl rfl
theorem dX12_next_60 : decode cX12_next 60 = .ok (.invokevirtual 504, 3) := yd_op_182 (i := 27) (a := 1) (b := 248) yd_by_cX12_next_1 rfl rfl
theorem dX12_next_63 : decode cX12_next 63 = .ok (.iload_n 1, 1) := yd_op_27 (i := 30) yd_by_cX12_next_1 rfl rfl
theorem dX12_next_64 : decode cX12_next 64 = .ok (.ireturn, 1) := yd_op_172 (i := 31) yd_by_cX12_next_1 rfl rfl
set_option maxRecDepth 100000 in
theorem yd_by_cX12_lasts_0 : ydk cX12_lasts 0 [42, 27, 4, 16, 30, 182, 1, 235, 154, 0, 5, 2, 172, 2, 61, 42, 182, 1, 239, 3, 62, 29, 16, 99, 163, 0, 58, 28, 2, 160, 0, 53] = true := by decide +kernel
theorem dX12_lasts_0 : decode cX12_lasts 0 = .ok (.aload_n 0, 1) := yd_op_42 (i := 0) yd_by_cX12_lasts_0 rfl rfl
theorem dX12_lasts_1 : decode cX12_lasts 1 = .ok (.iload_n 1, 1) := yd_op_27 (i := 1) yd_by_cX12_lasts_0 rfl rfl
theorem dX12_lasts_2 : decode cX12_lasts 2 = .ok (.iconst 1, 1) := yd_op_4 (i := 2) yd_by_cX12_lasts_0 rfl rfl
theorem dX12_lasts_3 : decode cX12_lasts 3 = .ok (.bipush 30, 2) := yd_op_16 (i := 3) (a := 30) yd_by_cX12_lasts_0 rfl rfl
theorem dX12_lasts_5 : decode cX12_lasts 5 = .ok (.invokevirtual 491, 3) := yd_op_182 (i := 5) (a := 1) (b := 235) yd_by_cX12_lasts_0 rfl rfl
theorem dX12_lasts_8 : decode cX12_lasts 8 = .ok (.ifCond .ne 5, 3) := yd_op_154 (i := 8) (a := 0) (b := 5) yd_by_cX12_lasts_0 rfl rfl
theorem dX12_lasts_11 : decode cX12_lasts 11 = .ok (.iconst (-1), 1) := yd_op_2 (i := 11) yd_by_cX12_lasts_0 rfl rfl
theorem dX12_lasts_12 : decode cX12_lasts 12 = .ok (.ireturn, 1) := yd_op_172 (i := 12) yd_by_cX12_lasts_0 rfl rfl
theorem dX12_lasts_13 : decode cX12_lasts 13 = .ok (.iconst (-1), 1) := yd_op_2 (i := 13) yd_by_cX12_lasts_0 rfl rfl
theorem dX12_lasts_14 : decode cX12_lasts 14 = .ok (.istore_n 2, 1) := yd_op_61 (i := 14) yd_by_cX12_lasts_0 rfl rfl
theorem dX12_lasts_15 : decode cX12_lasts 15 = .ok (.aload_n 0, 1) := yd_op_42 (i := 15) yd_by_cX12_lasts_0 rfl rfl
theorem dX12_lasts_16 : decode cX12_lasts 16 = .ok (.invokevirtual 495, 3) := yd_op_182 (i := 16) (a := 1) (b := 239) yd_by_cX12_lasts_0 rfl rfl
theorem dX12_lasts_19 : decode cX12_lasts 19 = .ok (.iconst 0, 1) := yd_op_3 (i := 19) yd_by_cX12_lasts_0 rfl rfl
theorem dX12_lasts_20 : decode cX12_lasts 20 = .ok (.istore_n 3, 1) := yd_op_62 (i := 20) yd_by_cX12_lasts_0 rfl rfl
theorem dX12_lasts_21 : decode cX12_lasts 21 = .ok (.iload_n 3, 1) := yd_op_29 (i := 21) yd_by_cX12_lasts_0 rfl rfl
theorem dX12_lasts_22 : decode cX12_lasts 22 = .ok (.bipush 99, 2) := yd_op_16 (i := 22) (a := 99) yd_by_cX12_lasts_0 rfl rfl
theorem dX12_lasts_24 : decode cX12_lasts 24 = .ok (.if_icmp .gt 58, 3) := yd_op_163 (i := 24) (a := 0) (b := 58) yd_by_cX12_lasts_0 rfl rfl
theorem dX12_lasts_27 : decode cX12_lasts 27 = .ok (.iload_n 2, 1) := yd_op_28 (i := 27) yd_by_cX12_lasts_0 rfl rfl
theorem dX12_lasts_28 : decode cX12_lasts 28 = .ok (.iconst (-1), 1) := yd_op_2 (i := 28) yd_by_cX12_lasts_0 rfl rfl
theorem dX12_lasts_29 : decode cX12_lasts 29 = .ok (.if_icmp .ne 53, 3) := yd_op_160 (i := 29) (a := 0) (b := 53) yd_by_cX12_lasts_0 rfl rfl
set_option maxRecDepth 100000 in
theorem yd_by_cX12_lasts_1 : ydk cX12_lasts 32 [42, 29, 181, 1, 132, 3, 54, 4, 21, 4, 27, 162, 0, 20, 42, 180, 1, 201, 154, 0, 13, 42, 182, 1, 207, 132, 4, 1, 167, 255, 236, 42, 180, 1, 201, 154, 0, 5, 29, 61] = true := by decide +kernel
theorem dX12_lasts_32 : decode cX12_lasts 32 = .ok (.aload_n 0, 1) := yd_op_42 (i := 0) yd_by_cX12_lasts_1 rfl rfl
theorem dX12_lasts_33 : decode cX12_lasts 33 = .ok (.iload_n 3, 1) := yd_op_29 (i := 1) yd_by_cX12_lasts_1 rfl rfl
theorem dX12_lasts_34 : decode cX12_lasts 34 = .ok (.putfield 388, 3) := yd_op_181 (i := 2) (a := 1) (b := 132) yd_by_cX12_lasts_1 rfl rfl
theorem dX12_lasts_37 : decode cX12_lasts 37 = .ok (.iconst 0, 1) := yd_op_3 (i := 5) yd_by_cX12_lasts_1 rfl rfl
theorem dX12_lasts_38 : decode cX12_lasts 38 = .ok (.istore 4, 2) := yd_op_54 (i := 6) (a := 4) yd_by_cX12_lasts_1 rfl rfl
theorem dX12_lasts_40 : decode cX12_lasts 40 = .ok (.iload 4, 2) := yd_op_21 (i := 8) (a := 4) yd_by_cX12_lasts_1 rfl rfl
theorem dX12_lasts_42 : decode cX12_lasts 42 = .ok (.iload_n 1, 1) := yd_op_27 (i := 10) yd_by_cX12_lasts_1 rfl rfl
theorem dX12_lasts_43 : decode cX12_lasts 43 = .ok (.if_icmp .ge 20, 3) := yd_op_162 (i := 11) (a := 0) (b := 20) yd_by_cX12_lasts_1 rfl rfl
theorem dX12_lasts_46 : decode cX12_lasts 46 = .ok (.aload_n 0, 1) := yd_op_42 (i := 14) yd_by_cX12_lasts_1 rfl rfl
theorem dX12_lasts_47 : decode cX12_lasts 47 = .ok (.getfield 457, 3) := yd_op_180 (i := 15) (a := 1) (b := 201) yd_by_cX12_lasts_1 rfl rfl
theorem dX12_lasts_50 : decode cX12_lasts 50 = .ok (.ifCond .ne 13, 3) := yd_op_154 (i := 18) (a := 0) (b := 13) yd_by_cX12_lasts_1 rfl rfl
theorem dX12_lasts_53 : decode cX12_lasts 53 = .ok (.aload_n 0, 1) := yd_op_42 (i := 21) yd_by_cX12_lasts_1 rfl rfl
theorem dX12_lasts_54 : decode cX12_lasts 54 = .ok (.invokevirtual 463, 3) := yd_op_182 (i := 22) (a := 1) (b := 207) yd_by_cX12_lasts_1 rfl rfl
theorem dX12_lasts_57 : decode cX12_lasts 57 = .ok (.iinc 4 1, 3) := yd_op_132 (i := 25) (a := 4) (b := 1) yd_by_cX12_lasts_1 rfl rfl
theorem dX12_lasts_60 : decode cX12_lasts 60 = .ok (.goto (-20), 3) := yd_op_167 (i := 28) (a := 255) (b := 236) yd_by_cX12_lasts_1 rfl rfl
theorem dX12_lasts_63 : decode cX12_lasts 63 = .ok (.aload_n 0, 1) := yd_op_42 (i := 31) yd_by_cX12_lasts_1 rfl rfl
theorem dX12_lasts_64 : decode cX12_lasts 64 = .ok (.getfield 457, 3) := yd_op_180 (i := 32) (a := 1) (b := 201) yd_by_cX12_lasts_1 rfl rfl
theorem dX12_lasts_67 : decode cX12_lasts 67 = .ok (.ifCond .ne 5, 3) := yd_op_154 (i := 35) (a := 0) (b := 5) yd_by_cX12_lasts_1 rfl rfl
theorem dX12_lasts_70 : decode cX12_lasts 70 = .ok (.iload_n 3, 1) := yd_op_29 (i := 38) yd_by_cX12_lasts_1 rfl rfl
theorem dX12_lasts_71 : decode cX12_lasts 71 = .ok (.istore_n 2, 1) := yd_op_61 (i := 39) yd_by_cX12_lasts_1 rfl rfl
set_option maxRecDepth 100000 in
theorem yd_by_cX12_lasts_2 : ydk cX12_lasts 72 [42, 182, 1, 251, 132, 3, 1, 167, 255, 198, 42, 3, 181, 1, 132, 42, 182, 1, 248, 28, 172] = true := by decide +kernel
theorem dX12_lasts_72 : decode cX12_lasts 72 = .ok (.aload_n 0, 1) := yd_op_42 (i := 0) yd_by_cX12_lasts_2 rfl rfl
theorem dX12_lasts_73 : decode cX12_lasts 73 = .ok (.invokevirtual 507, 3) := yd_op_182 (i := 1) (a := 1) (b := 251) yd_by_cX12_lasts_2 rfl rfl
theorem dX12_lasts_76 : decode cX12_lasts 76 = .ok (.iinc 3 1, 3) := yd_op_132 (i := 4) (a := 3) (b := 1) yd_by_cX12_lasts_2 rfl rfl
theorem dX12_lasts_79 : decode cX12_lasts 79 = .ok (.goto (-58), 3) := yd_op_167 (i := 7) (a := 255) (b := 198) yd_by_cX12_lasts_2 rfl rfl
theorem dX12_lasts_82 : decode cX12_lasts 82 = .ok (.aload_n 0, 1) := yd_op_42 (i := 10) yd_by_cX12_lasts_2 rfl rfl
theorem dX12_lasts_83 : decode cX12_lasts 83 = .ok (.iconst 0, 1) := yd_op_3 (i := 11) yd_by_cX12_lasts_2 rfl rfl
theorem dX12_lasts_84 : decode cX12_lasts 84 = .ok (.putfield 388, 3) := yd_op_181 (i := 12) (a := 1) (b := 132) yd_by_cX12_lasts_2 rfl rfl
theorem dX12_lasts_87 : decode cX12_lasts 87 = .ok (.aload_n 0, 1) := yd_op_42 (i := 15) yd_by_cX12_lasts_2 rfl rfl
theorem dX12_lasts_88 : decode cX12_lasts 88 = .ok (.invokevirtual 504, 3) := yd_op_182 (i := 16) (a := 1) (b := 248) yd_by_cX12_lasts_2 rfl rfl
theorem dX12_lasts_91 : decode cX12_lasts 91 = .ok (.iload_n 2, 1) := yd_op_28 (i := 19) yd_by_cX12_lasts_2 rfl rfl
theorem dX12_lasts_92 : decode cX12_lasts 92 = .ok (.ireturn, 1) := yd_op_172 (i := 20) yd_by_cX12_lasts_2 rfl rfl
set_option maxRecDepth 100000 in
theorem yd_by_cX12_free_0 : ydk cX12_free 0 [42, 180, 1, 119, 154, 0, 5, 3, 172, 42, 182, 1, 198, 42, 182, 1, 195, 60, 42, 27, 182, 1, 254, 61, 3, 62, 3, 54, 4, 21, 4, 42] = true := by decide +kernel
theorem dX12_free_0 : decode cX12_free 0 = .ok (.aload_n 0, 1) := yd_op_42 (i := 0) yd_by_cX12_free_0 rfl rfl
theorem dX12_free_1 : decode cX12_free 1 = .ok (.getfield 375, 3) := yd_op_180 (i := 1) (a := 1) (b := 119) yd_by_cX12_free_0 rfl rfl
theorem dX12_free_4 : decode cX12_free 4 = .ok (.ifCond .ne 5, 3) := yd_op_154 (i := 4) (a := 0) (b := 5) yd_by_cX12_free_0 rfl rfl
theorem dX12_free_7 : decode cX12_free 7 = .ok (.iconst 0, 1) := yd_op_3 (i := 7) yd_by_cX12_free_0 rfl rfl
theorem dX12_free_8 : decode cX12_free 8 = .ok (.ireturn, 1) := yd_op_172 (i := 8) yd_by_cX12_free_0 rfl rfl
theorem dX12_free_9 : decode cX12_free 9 = .ok (.aload_n 0, 1) := yd_op_42 (i := 9) yd_by_cX12_free_0 rfl rfl
theorem dX12_free_10 : decode cX12_free 10 = .ok (.invokevirtual 454, 3) := yd_op_182 (i := 10) (a := 1) (b := 198) yd_by_cX12_free_0 rfl rfl
theorem dX12_free_13 : decode cX12_free 13 = .ok (.aload_n 0, 1) := yd_op_42 (i := 13) yd_by_cX12_free_0 rfl rfl
theorem dX12_free_14 : decode cX12_free 14 = .ok (.invokevirtual 451, 3) := yd_op_182 (i := 14) (a := 1) (b := 195) yd_by_cX12_free_0 rfl rfl
theorem dX12_free_17 : decode cX12_free 17 = .ok (.istore_n 1, 1) := yd_op_60 (i := 17) yd_by_cX12_free_0 rfl rfl
theorem dX12_free_18 : decode cX12_free 18 = .ok (.aload_n 0, 1) := yd_op_42 (i := 18) yd_by_cX12_free_0 rfl rfl
theorem dX12_free_19 : decode cX12_free 19 = .ok (.iload_n 1, 1) := yd_op_27 (i := 19) yd_by_cX12_free_0 rfl rfl
theorem dX12_free_20 : decode cX12_free 20 = .ok (.invokevirtual 510, 3) := yd_op_182 (i := 20) (a := 1) (b := 254) yd_by_cX12_free_0 rfl rfl
theorem dX12_free_23 : decode cX12_free 23 = .ok (.istore_n 2, 1) := yd_op_61 (i := 23) yd_by_cX12_free_0 rfl rfl
theorem dX12_free_24 : decode cX12_free 24 = .ok (.iconst 0, 1) := yd_op_3 (i := 24) yd_by_cX12_free_0 rfl rfl
theorem dX12_free_25 : decode cX12_free 25 = .ok (.istore_n 3, 1) := yd_op_62 (i := 25) yd_by_cX12_free_0 rfl rfl
theorem dX12_free_26 : decode cX12_free 26 = .ok (.iconst 0, 1) := yd_op_3 (i := 26) yd_by_cX12_free_0 rfl rfl
theorem dX12_free_27 : decode cX12_free 27 = .ok (.istore 4, 2) := yd_op_54 (i := 27) (a := 4) yd_by_cX12_free_0 rfl rfl
theorem dX12_free_29 : decode cX12_free 29 = .ok (.iload 4, 2) := yd_op_21 (i := 29) (a := 4) yd_by_cX12_free_0 rfl rfl
theorem dX12_free_31 : decode cX12_free 31 = .ok (.aload_n 0, 1) := yd_op_42 (i := 31) yd_by_cX12_free_0 rfl rfl
set_option maxRecDepth 100000 in
theorem yd_by_cX12_free_1 : ydk cX12_free 32 [182, 1, 129, 162, 0, 42, 27, 21, 4, 122, 4, 126, 4, 160, 0, 26, 42, 27, 4, 21, 4, 120, 2, 130, 126, 182, 1, 254, 28, 160, 0, 10] = true := by decide +kernel
theorem dX12_free_32 : decode cX12_free 32 = .ok (.invokevirtual 385, 3) := yd_op_182 (i := 0) (a := 1) (b := 129) yd_by_cX12_free_1 rfl rfl
theorem dX12_free_35 : decode cX12_free 35 = .ok (.if_icmp .ge 42, 3) := yd_op_162 (i := 3) (a := 0) (b := 42) yd_by_cX12_free_1 rfl rfl
theorem dX12_free_38 : decode cX12_free 38 = .ok (.iload_n 1, 1) := yd_op_27 (i := 6) yd_by_cX12_free_1 rfl rfl
theorem dX12_free_39 : decode cX12_free 39 = .ok (.iload 4, 2) := yd_op_21 (i := 7) (a := 4) yd_by_cX12_free_1 rfl rfl
theorem dX12_free_41 : decode cX12_free 41 = .ok (.ishr, 1) := yd_op_122 (i := 9) yd_by_cX12_free_1 rfl rfl
theorem dX12_free_42 : decode cX12_free 42 = .ok (.iconst 1, 1) := yd_op_4 (i := 10) yd_by_cX12_free_1 rfl rfl
theorem dX12_free_43 : decode cX12_free 43 = .ok (.iand, 1) := yd_op_126 (i := 11) yd_by_cX12_free_1 rfl rfl
theorem dX12_free_44 : decode cX12_free 44 = .ok (.iconst 1, 1) := yd_op_4 (i := 12) yd_by_cX12_free_1 rfl rfl
theorem dX12_free_45 : decode cX12_free 45 = .ok (.if_icmp .ne 26, 3) := yd_op_160 (i := 13) (a := 0) (b := 26) yd_by_cX12_free_1 rfl rfl
theorem dX12_free_48 : decode cX12_free 48 = .ok (.aload_n 0, 1) := yd_op_42 (i := 16) yd_by_cX12_free_1 rfl rfl
theorem dX12_free_49 : decode cX12_free 49 = .ok (.iload_n 1, 1) := yd_op_27 (i := 17) yd_by_cX12_free_1 rfl rfl
theorem dX12_free_50 : decode cX12_free 50 = .ok (.iconst 1, 1) := yd_op_4 (i := 18) yd_by_cX12_free_1 rfl rfl
theorem dX12_free_51 : decode cX12_free 51 = .ok (.iload 4, 2) := yd_op_21 (i := 19) (a := 4) yd_by_cX12_free_1 rfl rfl
theorem dX12_free_53 : decode cX12_free 53 = .ok (.ishl, 1) := yd_op_120 (i := 21) yd_by_cX12_free_1 rfl rfl
theorem dX12_free_54 : decode cX12_free 54 = .ok (.iconst (-1), 1) := yd_op_2 (i := 22) yd_by_cX12_free_1 rfl rfl
theorem dX12_free_55 : decode cX12_free 55 = .ok (.ixor, 1) := yd_op_130 (i := 23) yd_by_cX12_free_1 rfl rfl
theorem dX12_free_56 : decode cX12_free 56 = .ok (.iand, 1) := yd_op_126 (i := 24) yd_by_cX12_free_1 rfl rfl
theorem dX12_free_57 : decode cX12_free 57 = .ok (.invokevirtual 510, 3) := yd_op_182 (i := 25) (a := 1) (b := 254) yd_by_cX12_free_1 rfl rfl
theorem dX12_free_60 : decode cX12_free 60 = .ok (.iload_n 2, 1) := yd_op_28 (i := 28) yd_by_cX12_free_1 rfl rfl
theorem dX12_free_61 : decode cX12_free 61 = .ok (.if_icmp .ne 10, 3) := yd_op_160 (i := 29) (a := 0) (b := 10) yd_by_cX12_free_1 rfl rfl
set_option maxRecDepth 100000 in
theorem yd_by_cX12_free_2 : ydk cX12_free 64 [29, 4, 21, 4, 120, 128, 62, 132, 4, 1, 167, 255, 211, 29, 172] = true := by decide +kernel
theorem dX12_free_64 : decode cX12_free 64 = .ok (.iload_n 3, 1) := yd_op_29 (i := 0) yd_by_cX12_free_2 rfl rfl
theorem dX12_free_65 : decode cX12_free 65 = .ok (.iconst 1, 1) := yd_op_4 (i := 1) yd_by_cX12_free_2 rfl rfl
theorem dX12_free_66 : decode cX12_free 66 = .ok (.iload 4, 2) := yd_op_21 (i := 2) (a := 4) yd_by_cX12_free_2 rfl rfl
theorem dX12_free_68 : decode cX12_free 68 = .ok (.ishl, 1) := yd_op_120 (i := 4) yd_by_cX12_free_2 rfl rfl
theorem dX12_free_69 : decode cX12_free 69 = .ok (.ior, 1) := yd_op_128 (i := 5) yd_by_cX12_free_2 rfl rfl
theorem dX12_free_70 : decode cX12_free 70 = .ok (.istore_n 3, 1) := yd_op_62 (i := 6) yd_by_cX12_free_2 rfl rfl
theorem dX12_free_71 : decode cX12_free 71 = .ok (.iinc 4 1, 3) := yd_op_132 (i := 7) (a := 4) (b := 1) yd_by_cX12_free_2 rfl rfl
theorem dX12_free_74 : decode cX12_free 74 = .ok (.goto (-45), 3) := yd_op_167 (i := 10) (a := 255) (b := 211) yd_by_cX12_free_2 rfl rfl
theorem dX12_free_77 : decode cX12_free 77 = .ok (.iload_n 3, 1) := yd_op_29 (i := 13) yd_by_cX12_free_2 rfl rfl
theorem dX12_free_78 : decode cX12_free 78 = .ok (.ireturn, 1) := yd_op_172 (i := 14) yd_by_cX12_free_2 rfl rfl
set_option maxRecDepth 100000 in
theorem yd_by_cX12_needed_0 : ydk cX12_needed 0 [42, 180, 1, 119, 154, 0, 5, 2, 172, 42, 182, 1, 198, 42, 182, 1, 216, 60, 2, 61, 3, 62, 29, 4, 42, 182, 1, 129, 120, 162, 0, 43] = true := by decide +kernel
theorem dX12_needed_0 : decode cX12_needed 0 = .ok (.aload_n 0, 1) := yd_op_42 (i := 0) yd_by_cX12_needed_0 rfl rfl
theorem dX12_needed_1 : decode cX12_needed 1 = .ok (.getfield 375, 3) := yd_op_180 (i := 1) (a := 1) (b := 119) yd_by_cX12_needed_0 rfl rfl
theorem dX12_needed_4 : decode cX12_needed 4 = .ok (.ifCond .ne 5, 3) := yd_op_154 (i := 4) (a := 0) (b := 5) yd_by_cX12_needed_0 rfl rfl
theorem dX12_needed_7 : decode cX12_needed 7 = .ok (.iconst (-1), 1) := yd_op_2 (i := 7) yd_by_cX12_needed_0 rfl rfl
theorem dX12_needed_8 : decode cX12_needed 8 = .ok (.ireturn, 1) := yd_op_172 (i := 8) yd_by_cX12_needed_0 rfl rfl
theorem dX12_needed_9 : decode cX12_needed 9 = .ok (.aload_n 0, 1) := yd_op_42 (i := 9) yd_by_cX12_needed_0 rfl rfl
theorem dX12_needed_10 : decode cX12_needed 10 = .ok (.invokevirtual 454, 3) := yd_op_182 (i := 10) (a := 1) (b := 198) yd_by_cX12_needed_0 rfl rfl
theorem dX12_needed_13 : decode cX12_needed 13 = .ok (.aload_n 0, 1) := yd_op_42 (i := 13) yd_by_cX12_needed_0 rfl rfl
theorem dX12_needed_14 : decode cX12_needed 14 = .ok (.invokevirtual 472, 3) := yd_op_182 (i := 14) (a := 1) (b := 216) yd_by_cX12_needed_0 rfl rfl
theorem dX12_needed_17 : decode cX12_needed 17 = .ok (.istore_n 1, 1) := yd_op_60 (i := 17) yd_by_cX12_needed_0 rfl rfl
theorem dX12_needed_18 : decode cX12_needed 18 = .ok (.iconst (-1), 1) := yd_op_2 (i := 18) yd_by_cX12_needed_0 rfl rfl
theorem dX12_needed_19 : decode cX12_needed 19 = .ok (.istore_n 2, 1) := yd_op_61 (i := 19) yd_by_cX12_needed_0 rfl rfl
theorem dX12_needed_20 : decode cX12_needed 20 = .ok (.iconst 0, 1) := yd_op_3 (i := 20) yd_by_cX12_needed_0 rfl rfl
theorem dX12_needed_21 : decode cX12_needed 21 = .ok (.istore_n 3, 1) := yd_op_62 (i := 21) yd_by_cX12_needed_0 rfl rfl
theorem dX12_needed_22 : decode cX12_needed 22 = .ok (.iload_n 3, 1) := yd_op_29 (i := 22) yd_by_cX12_needed_0 rfl rfl
theorem dX12_needed_23 : decode cX12_needed 23 = .ok (.iconst 1, 1) := yd_op_4 (i := 23) yd_by_cX12_needed_0 rfl rfl
theorem dX12_needed_24 : decode cX12_needed 24 = .ok (.aload_n 0, 1) := yd_op_42 (i := 24) yd_by_cX12_needed_0 rfl rfl
theorem dX12_needed_25 : decode cX12_needed 25 = .ok (.invokevirtual 385, 3) := yd_op_182 (i := 25) (a := 1) (b := 129) yd_by_cX12_needed_0 rfl rfl
theorem dX12_needed_28 : decode cX12_needed 28 = .ok (.ishl, 1) := yd_op_120 (i := 28) yd_by_cX12_needed_0 rfl rfl
theorem dX12_needed_29 : decode cX12_needed 29 = .ok (.if_icmp .ge 43, 3) := yd_op_162 (i := 29) (a := 0) (b := 43) yd_by_cX12_needed_0 rfl rfl
set_option maxRecDepth 100000 in
theorem yd_by_cX12_needed_1 : ydk cX12_needed 32 [29, 27, 2, 130, 126, 154, 0, 29, 28, 2, 159, 0, 14, 29, 184, 1, 213, 28, 184, 1, 213, 162, 0, 13, 42, 29, 182, 1, 254, 154, 0, 5, 29, 61] = true := by decide +kernel
theorem dX12_needed_32 : decode cX12_needed 32 = .ok (.iload_n 3, 1) := yd_op_29 (i := 0) yd_by_cX12_needed_1 rfl rfl
theorem dX12_needed_33 : decode cX12_needed 33 = .ok (.iload_n 1, 1) := yd_op_27 (i := 1) yd_by_cX12_needed_1 rfl rfl
theorem dX12_needed_34 : decode cX12_needed 34 = .ok (.iconst (-1), 1) := yd_op_2 (i := 2) yd_by_cX12_needed_1 rfl rfl
theorem dX12_needed_35 : decode cX12_needed 35 = .ok (.ixor, 1) := yd_op_130 (i := 3) yd_by_cX12_needed_1 rfl rfl
theorem dX12_needed_36 : decode cX12_needed 36 = .ok (.iand, 1) := yd_op_126 (i := 4) yd_by_cX12_needed_1 rfl rfl
theorem dX12_needed_37 : decode cX12_needed 37 = .ok (.ifCond .ne 29, 3) := yd_op_154 (i := 5) (a := 0) (b := 29) yd_by_cX12_needed_1 rfl rfl
theorem dX12_needed_40 : decode cX12_needed 40 = .ok (.iload_n 2, 1) := yd_op_28 (i := 8) yd_by_cX12_needed_1 rfl rfl
theorem dX12_needed_41 : decode cX12_needed 41 = .ok (.iconst (-1), 1) := yd_op_2 (i := 9) yd_by_cX12_needed_1 rfl rfl
theorem dX12_needed_42 : decode cX12_needed 42 = .ok (.if_icmp .eq 14, 3) := yd_op_159 (i := 10) (a := 0) (b := 14) yd_by_cX12_needed_1 rfl rfl
theorem dX12_needed_45 : decode cX12_needed 45 = .ok (.iload_n 3, 1) := yd_op_29 (i := 13) yd_by_cX12_needed_1 rfl rfl
theorem dX12_needed_46 : decode cX12_needed 46 = .ok (.invokestatic 469, 3) := yd_op_184 (i := 14) (a := 1) (b := 213) yd_by_cX12_needed_1 rfl rfl
theorem dX12_needed_49 : decode cX12_needed 49 = .ok (.iload_n 2, 1) := yd_op_28 (i := 17) yd_by_cX12_needed_1 rfl rfl
theorem dX12_needed_50 : decode cX12_needed 50 = .ok (.invokestatic 469, 3) := yd_op_184 (i := 18) (a := 1) (b := 213) yd_by_cX12_needed_1 rfl rfl
theorem dX12_needed_53 : decode cX12_needed 53 = .ok (.if_icmp .ge 13, 3) := yd_op_162 (i := 21) (a := 0) (b := 13) yd_by_cX12_needed_1 rfl rfl
theorem dX12_needed_56 : decode cX12_needed 56 = .ok (.aload_n 0, 1) := yd_op_42 (i := 24) yd_by_cX12_needed_1 rfl rfl
theorem dX12_needed_57 : decode cX12_needed 57 = .ok (.iload_n 3, 1) := yd_op_29 (i := 25) yd_by_cX12_needed_1 rfl rfl
theorem dX12_needed_58 : decode cX12_needed 58 = .ok (.invokevirtual 510, 3) := yd_op_182 (i := 26) (a := 1) (b := 254) yd_by_cX12_needed_1 rfl rfl
theorem dX12_needed_61 : decode cX12_needed 61 = .ok (.ifCond .ne 5, 3) := yd_op_154 (i := 29) (a := 0) (b := 5) yd_by_cX12_needed_1 rfl rfl
theorem dX12_needed_64 : decode cX12_needed 64 = .ok (.iload_n 3, 1) := yd_op_29 (i := 32) yd_by_cX12_needed_1 rfl rfl
theorem dX12_needed_65 : decode cX12_needed 65 = .ok (.istore_n 2, 1) := yd_op_61 (i := 33) yd_by_cX12_needed_1 rfl rfl
set_option maxRecDepth 100000 in
theorem yd_by_cX12_needed_2 : ydk cX12_needed 66 [132, 3, 1, 167, 255, 209, 28, 172] = true := by decide +kernel
theorem dX12_needed_66 : decode cX12_needed 66 = .ok (.iinc 3 1, 3) := yd_op_132 (i := 0) (a := 3) (b := 1) yd_by_cX12_needed_2 rfl rfl
theorem dX12_needed_69 : decode cX12_needed 69 = .ok (.goto (-47), 3) := yd_op_167 (i := 3) (a := 255) (b := 209) yd_by_cX12_needed_2 rfl rfl
theorem dX12_needed_72 : decode cX12_needed 72 = .ok (.iload_n 2, 1) := yd_op_28 (i := 6) yd_by_cX12_needed_2 rfl rfl
theorem dX12_needed_73 : decode cX12_needed 73 = .ok (.ireturn, 1) := yd_op_172 (i := 7) yd_by_cX12_needed_2 rfl rfl
set_option maxRecDepth 100000 in
theorem yd_by_cX12_standsTry_0 : ydk cX12_standsTry 0 [42, 3, 181, 2, 1, 42, 2, 181, 2, 4, 3, 54, 4, 3, 54, 5, 21, 5, 42, 182, 1, 174, 162, 0, 85, 42, 21, 5, 182, 1, 177, 54, 6, 42, 21, 6] = true := by decide +kernel
theorem dX12_standsTry_0 : decode cX12_standsTry 0 = .ok (.aload_n 0, 1) := yd_op_42 (i := 0) yd_by_cX12_standsTry_0 rfl rfl
theorem dX12_standsTry_1 : decode cX12_standsTry 1 = .ok (.iconst 0, 1) := yd_op_3 (i := 1) yd_by_cX12_standsTry_0 rfl rfl
theorem dX12_standsTry_2 : decode cX12_standsTry 2 = .ok (.putfield 513, 3) := yd_op_181 (i := 2) (a := 2) (b := 1) yd_by_cX12_standsTry_0 rfl rfl
theorem dX12_standsTry_5 : decode cX12_standsTry 5 = .ok (.aload_n 0, 1) := yd_op_42 (i := 5) yd_by_cX12_standsTry_0 rfl rfl
theorem dX12_standsTry_6 : decode cX12_standsTry 6 = .ok (.iconst (-1), 1) := yd_op_2 (i := 6) yd_by_cX12_standsTry_0 rfl rfl
theorem dX12_standsTry_7 : decode cX12_standsTry 7 = .ok (.putfield 516, 3) := yd_op_181 (i := 7) (a := 2) (b := 4) yd_by_cX12_standsTry_0 rfl rfl
theorem dX12_standsTry_10 : decode cX12_standsTry 10 = .ok (.iconst 0, 1) := yd_op_3 (i := 10) yd_by_cX12_standsTry_0 rfl rfl
theorem dX12_standsTry_11 : decode cX12_standsTry 11 = .ok (.istore 4, 2) := yd_op_54 (i := 11) (a := 4) yd_by_cX12_standsTry_0 rfl rfl
theorem dX12_standsTry_13 : decode cX12_standsTry 13 = .ok (.iconst 0, 1) := yd_op_3 (i := 13) yd_by_cX12_standsTry_0 rfl rfl
theorem dX12_standsTry_14 : decode cX12_standsTry 14 = .ok (.istore 5, 2) := yd_op_54 (i := 14) (a := 5) yd_by_cX12_standsTry_0 rfl rfl
theorem dX12_standsTry_16 : decode cX12_standsTry 16 = .ok (.iload 5, 2) := yd_op_21 (i := 16) (a := 5) yd_by_cX12_standsTry_0 rfl rfl
theorem dX12_standsTry_18 : decode cX12_standsTry 18 = .ok (.aload_n 0, 1) := yd_op_42 (i := 18) yd_by_cX12_standsTry_0 rfl rfl
theorem dX12_standsTry_19 : decode cX12_standsTry 19 = .ok (.invokevirtual 430, 3) := yd_op_182 (i := 19) (a := 1) (b := 174) yd_by_cX12_standsTry_0 rfl rfl
theorem dX12_standsTry_22 : decode cX12_standsTry 22 = .ok (.if_icmp .ge 85, 3) := yd_op_162 (i := 22) (a := 0) (b := 85) yd_by_cX12_standsTry_0 rfl rfl
theorem dX12_standsTry_25 : decode cX12_standsTry 25 = .ok (.aload_n 0, 1) := yd_op_42 (i := 25) yd_by_cX12_standsTry_0 rfl rfl
theorem dX12_standsTry_26 : decode cX12_standsTry 26 = .ok (.iload 5, 2) := yd_op_21 (i := 26) (a := 5) yd_by_cX12_standsTry_0 rfl rfl
theorem dX12_standsTry_28 : decode cX12_standsTry 28 = .ok (.invokevirtual 433, 3) := yd_op_182 (i := 28) (a := 1) (b := 177) yd_by_cX12_standsTry_0 rfl rfl
theorem dX12_standsTry_31 : decode cX12_standsTry 31 = .ok (.istore 6, 2) := yd_op_54 (i := 31) (a := 6) yd_by_cX12_standsTry_0 rfl rfl
theorem dX12_standsTry_33 : decode cX12_standsTry 33 = .ok (.aload_n 0, 1) := yd_op_42 (i := 33) yd_by_cX12_standsTry_0 rfl rfl
theorem dX12_standsTry_34 : decode cX12_standsTry 34 = .ok (.iload 6, 2) := yd_op_21 (i := 34) (a := 6) yd_by_cX12_standsTry_0 rfl rfl
set_option maxRecDepth 100000 in
theorem yd_by_cX12_standsTry_1 : ydk cX12_standsTry 36 [182, 1, 180, 153, 0, 6, 167, 0, 59, 42, 29, 21, 6, 182, 1, 189, 42, 27, 28, 21, 6, 182, 1, 165, 96, 54, 7, 21, 7, 156, 0, 13, 42, 89, 180, 2, 1, 4] = true := by decide +kernel
theorem dX12_standsTry_36 : decode cX12_standsTry 36 = .ok (.invokevirtual 436, 3) := yd_op_182 (i := 0) (a := 1) (b := 180) yd_by_cX12_standsTry_1 rfl rfl
theorem dX12_standsTry_39 : decode cX12_standsTry 39 = .ok (.ifCond .eq 6, 3) := yd_op_153 (i := 3) (a := 0) (b := 6) yd_by_cX12_standsTry_1 rfl rfl
theorem dX12_standsTry_42 : decode cX12_standsTry 42 = .ok (.goto 59, 3) := yd_op_167 (i := 6) (a := 0) (b := 59) yd_by_cX12_standsTry_1 rfl rfl
theorem dX12_standsTry_45 : decode cX12_standsTry 45 = .ok (.aload_n 0, 1) := yd_op_42 (i := 9) yd_by_cX12_standsTry_1 rfl rfl
theorem dX12_standsTry_46 : decode cX12_standsTry 46 = .ok (.iload_n 3, 1) := yd_op_29 (i := 10) yd_by_cX12_standsTry_1 rfl rfl
theorem dX12_standsTry_47 : decode cX12_standsTry 47 = .ok (.iload 6, 2) := yd_op_21 (i := 11) (a := 6) yd_by_cX12_standsTry_1 rfl rfl
theorem dX12_standsTry_49 : decode cX12_standsTry 49 = .ok (.invokevirtual 445, 3) := yd_op_182 (i := 13) (a := 1) (b := 189) yd_by_cX12_standsTry_1 rfl rfl
theorem dX12_standsTry_52 : decode cX12_standsTry 52 = .ok (.aload_n 0, 1) := yd_op_42 (i := 16) yd_by_cX12_standsTry_1 rfl rfl
theorem dX12_standsTry_53 : decode cX12_standsTry 53 = .ok (.iload_n 1, 1) := yd_op_27 (i := 17) yd_by_cX12_standsTry_1 rfl rfl
theorem dX12_standsTry_54 : decode cX12_standsTry 54 = .ok (.iload_n 2, 1) := yd_op_28 (i := 18) yd_by_cX12_standsTry_1 rfl rfl
theorem dX12_standsTry_55 : decode cX12_standsTry 55 = .ok (.iload 6, 2) := yd_op_21 (i := 19) (a := 6) yd_by_cX12_standsTry_1 rfl rfl
theorem dX12_standsTry_57 : decode cX12_standsTry 57 = .ok (.invokevirtual 421, 3) := yd_op_182 (i := 21) (a := 1) (b := 165) yd_by_cX12_standsTry_1 rfl rfl
theorem dX12_standsTry_60 : decode cX12_standsTry 60 = .ok (.iadd, 1) := yd_op_96 (i := 24) yd_by_cX12_standsTry_1 rfl rfl
theorem dX12_standsTry_61 : decode cX12_standsTry 61 = .ok (.istore 7, 2) := yd_op_54 (i := 25) (a := 7) yd_by_cX12_standsTry_1 rfl rfl
theorem dX12_standsTry_63 : decode cX12_standsTry 63 = .ok (.iload 7, 2) := yd_op_21 (i := 27) (a := 7) yd_by_cX12_standsTry_1 rfl rfl
theorem dX12_standsTry_65 : decode cX12_standsTry 65 = .ok (.ifCond .ge 13, 3) := yd_op_156 (i := 29) (a := 0) (b := 13) yd_by_cX12_standsTry_1 rfl rfl
theorem dX12_standsTry_68 : decode cX12_standsTry 68 = .ok (.aload_n 0, 1) := yd_op_42 (i := 32) yd_by_cX12_standsTry_1 rfl rfl
theorem dX12_standsTry_69 : decode cX12_standsTry 69 = .ok (.dup, 1) := yd_op_89 (i := 33) yd_by_cX12_standsTry_1 rfl rfl
theorem dX12_standsTry_70 : decode cX12_standsTry 70 = .ok (.getfield 513, 3) := yd_op_180 (i := 34) (a := 2) (b := 1) yd_by_cX12_standsTry_1 rfl rfl
theorem dX12_standsTry_73 : decode cX12_standsTry 73 = .ok (.iconst 1, 1) := yd_op_4 (i := 37) yd_by_cX12_standsTry_1 rfl rfl
set_option maxRecDepth 100000 in
theorem yd_by_cX12_standsTry_2 : ydk cX12_standsTry 74 [96, 181, 2, 1, 21, 4, 153, 0, 12, 21, 7, 42, 180, 2, 4, 162, 0, 9, 42, 21, 7, 181, 2, 4, 4, 54, 4, 132, 5, 1, 167, 255, 168, 177] = true := by decide +kernel
theorem dX12_standsTry_74 : decode cX12_standsTry 74 = .ok (.iadd, 1) := yd_op_96 (i := 0) yd_by_cX12_standsTry_2 rfl rfl
theorem dX12_standsTry_75 : decode cX12_standsTry 75 = .ok (.putfield 513, 3) := yd_op_181 (i := 1) (a := 2) (b := 1) yd_by_cX12_standsTry_2 rfl rfl
theorem dX12_standsTry_78 : decode cX12_standsTry 78 = .ok (.iload 4, 2) := yd_op_21 (i := 4) (a := 4) yd_by_cX12_standsTry_2 rfl rfl
theorem dX12_standsTry_80 : decode cX12_standsTry 80 = .ok (.ifCond .eq 12, 3) := yd_op_153 (i := 6) (a := 0) (b := 12) yd_by_cX12_standsTry_2 rfl rfl
theorem dX12_standsTry_83 : decode cX12_standsTry 83 = .ok (.iload 7, 2) := yd_op_21 (i := 9) (a := 7) yd_by_cX12_standsTry_2 rfl rfl
theorem dX12_standsTry_85 : decode cX12_standsTry 85 = .ok (.aload_n 0, 1) := yd_op_42 (i := 11) yd_by_cX12_standsTry_2 rfl rfl
theorem dX12_standsTry_86 : decode cX12_standsTry 86 = .ok (.getfield 516, 3) := yd_op_180 (i := 12) (a := 2) (b := 4) yd_by_cX12_standsTry_2 rfl rfl
theorem dX12_standsTry_89 : decode cX12_standsTry 89 = .ok (.if_icmp .ge 9, 3) := yd_op_162 (i := 15) (a := 0) (b := 9) yd_by_cX12_standsTry_2 rfl rfl
theorem dX12_standsTry_92 : decode cX12_standsTry 92 = .ok (.aload_n 0, 1) := yd_op_42 (i := 18) yd_by_cX12_standsTry_2 rfl rfl
theorem dX12_standsTry_93 : decode cX12_standsTry 93 = .ok (.iload 7, 2) := yd_op_21 (i := 19) (a := 7) yd_by_cX12_standsTry_2 rfl rfl
theorem dX12_standsTry_95 : decode cX12_standsTry 95 = .ok (.putfield 516, 3) := yd_op_181 (i := 21) (a := 2) (b := 4) yd_by_cX12_standsTry_2 rfl rfl
theorem dX12_standsTry_98 : decode cX12_standsTry 98 = .ok (.iconst 1, 1) := yd_op_4 (i := 24) yd_by_cX12_standsTry_2 rfl rfl
theorem dX12_standsTry_99 : decode cX12_standsTry 99 = .ok (.istore 4, 2) := yd_op_54 (i := 25) (a := 4) yd_by_cX12_standsTry_2 rfl rfl
theorem dX12_standsTry_101 : decode cX12_standsTry 101 = .ok (.iinc 5 1, 3) := yd_op_132 (i := 27) (a := 5) (b := 1) yd_by_cX12_standsTry_2 rfl rfl
theorem dX12_standsTry_104 : decode cX12_standsTry 104 = .ok (.goto (-88), 3) := yd_op_167 (i := 30) (a := 255) (b := 168) yd_by_cX12_standsTry_2 rfl rfl
theorem dX12_standsTry_107 : decode cX12_standsTry 107 = .ok (.return_, 1) := yd_op_177 (i := 33) yd_by_cX12_standsTry_2 rfl rfl
set_option maxRecDepth 100000 in
theorem yd_by_cX12_stand_0 : ydk cX12_stand 0 [42, 27, 182, 1, 219, 153, 0, 23, 42, 27, 182, 1, 156, 154, 0, 15, 28, 133, 9, 20, 1, 233, 184, 1, 33, 154, 0, 5, 2, 172, 42, 182, 1, 198, 42, 182, 1, 195] = true := by decide +kernel
theorem dX12_stand_0 : decode cX12_stand 0 = .ok (.aload_n 0, 1) := yd_op_42 (i := 0) yd_by_cX12_stand_0 rfl rfl
theorem dX12_stand_1 : decode cX12_stand 1 = .ok (.iload_n 1, 1) := yd_op_27 (i := 1) yd_by_cX12_stand_0 rfl rfl
theorem dX12_stand_2 : decode cX12_stand 2 = .ok (.invokevirtual 475, 3) := yd_op_182 (i := 2) (a := 1) (b := 219) yd_by_cX12_stand_0 rfl rfl
theorem dX12_stand_5 : decode cX12_stand 5 = .ok (.ifCond .eq 23, 3) := yd_op_153 (i := 5) (a := 0) (b := 23) yd_by_cX12_stand_0 rfl rfl
theorem dX12_stand_8 : decode cX12_stand 8 = .ok (.aload_n 0, 1) := yd_op_42 (i := 8) yd_by_cX12_stand_0 rfl rfl
theorem dX12_stand_9 : decode cX12_stand 9 = .ok (.iload_n 1, 1) := yd_op_27 (i := 9) yd_by_cX12_stand_0 rfl rfl
theorem dX12_stand_10 : decode cX12_stand 10 = .ok (.invokevirtual 412, 3) := yd_op_182 (i := 10) (a := 1) (b := 156) yd_by_cX12_stand_0 rfl rfl
theorem dX12_stand_13 : decode cX12_stand 13 = .ok (.ifCond .ne 15, 3) := yd_op_154 (i := 13) (a := 0) (b := 15) yd_by_cX12_stand_0 rfl rfl
theorem dX12_stand_16 : decode cX12_stand 16 = .ok (.iload_n 2, 1) := yd_op_28 (i := 16) yd_by_cX12_stand_0 rfl rfl
theorem dX12_stand_17 : decode cX12_stand 17 = .ok (.i2l, 1) := yd_op_133 (i := 17) yd_by_cX12_stand_0 rfl rfl
theorem dX12_stand_18 : decode cX12_stand 18 = .ok (.lconst 0, 1) := yd_op_9 (i := 18) yd_by_cX12_stand_0 rfl rfl
theorem dX12_stand_19 : decode cX12_stand 19 = .ok (.ldc2_w 489, 3) := yd_op_20 (i := 19) (a := 1) (b := 233) yd_by_cX12_stand_0 rfl rfl
theorem dX12_stand_22 : decode cX12_stand 22 = .ok (.invokestatic 289, 3) := yd_op_184 (i := 22) (a := 1) (b := 33) yd_by_cX12_stand_0 rfl rfl
theorem dX12_stand_25 : decode cX12_stand 25 = .ok (.ifCond .ne 5, 3) := yd_op_154 (i := 25) (a := 0) (b := 5) yd_by_cX12_stand_0 rfl rfl
theorem dX12_stand_28 : decode cX12_stand 28 = .ok (.iconst (-1), 1) := yd_op_2 (i := 28) yd_by_cX12_stand_0 rfl rfl
theorem dX12_stand_29 : decode cX12_stand 29 = .ok (.ireturn, 1) := yd_op_172 (i := 29) yd_by_cX12_stand_0 rfl rfl
theorem dX12_stand_30 : decode cX12_stand 30 = .ok (.aload_n 0, 1) := yd_op_42 (i := 30) yd_by_cX12_stand_0 rfl rfl
theorem dX12_stand_31 : decode cX12_stand 31 = .ok (.invokevirtual 454, 3) := yd_op_182 (i := 31) (a := 1) (b := 198) yd_by_cX12_stand_0 rfl rfl
theorem dX12_stand_34 : decode cX12_stand 34 = .ok (.aload_n 0, 1) := yd_op_42 (i := 34) yd_by_cX12_stand_0 rfl rfl
theorem dX12_stand_35 : decode cX12_stand 35 = .ok (.invokevirtual 451, 3) := yd_op_182 (i := 35) (a := 1) (b := 195) yd_by_cX12_stand_0 rfl rfl
set_option maxRecDepth 100000 in
theorem yd_by_cX12_stand_1 : ydk cX12_stand 38 [4, 27, 120, 2, 130, 126, 62, 2, 54, 4, 3, 54, 5, 3, 54, 6, 3, 54, 7, 21, 7, 42, 182, 1, 174, 162, 0, 100, 42] = true := by decide +kernel
theorem dX12_stand_38 : decode cX12_stand 38 = .ok (.iconst 1, 1) := yd_op_4 (i := 0) yd_by_cX12_stand_1 rfl rfl
theorem dX12_stand_39 : decode cX12_stand 39 = .ok (.iload_n 1, 1) := yd_op_27 (i := 1) yd_by_cX12_stand_1 rfl rfl
theorem dX12_stand_40 : decode cX12_stand 40 = .ok (.ishl, 1) := yd_op_120 (i := 2) yd_by_cX12_stand_1 rfl rfl
theorem dX12_stand_41 : decode cX12_stand 41 = .ok (.iconst (-1), 1) := yd_op_2 (i := 3) yd_by_cX12_stand_1 rfl rfl
theorem dX12_stand_42 : decode cX12_stand 42 = .ok (.ixor, 1) := yd_op_130 (i := 4) yd_by_cX12_stand_1 rfl rfl
theorem dX12_stand_43 : decode cX12_stand 43 = .ok (.iand, 1) := yd_op_126 (i := 5) yd_by_cX12_stand_1 rfl rfl
theorem dX12_stand_44 : decode cX12_stand 44 = .ok (.istore_n 3, 1) := yd_op_62 (i := 6) yd_by_cX12_stand_1 rfl rfl
theorem dX12_stand_45 : decode cX12_stand 45 = .ok (.iconst (-1), 1) := yd_op_2 (i := 7) yd_by_cX12_stand_1 rfl rfl
theorem dX12_stand_46 : decode cX12_stand 46 = .ok (.istore 4, 2) := yd_op_54 (i := 8) (a := 4) yd_by_cX12_stand_1 rfl rfl
theorem dX12_stand_48 : decode cX12_stand 48 = .ok (.iconst 0, 1) := yd_op_3 (i := 10) yd_by_cX12_stand_1 rfl rfl
theorem dX12_stand_49 : decode cX12_stand 49 = .ok (.istore 5, 2) := yd_op_54 (i := 11) (a := 5) yd_by_cX12_stand_1 rfl rfl
theorem dX12_stand_51 : decode cX12_stand 51 = .ok (.iconst 0, 1) := yd_op_3 (i := 13) yd_by_cX12_stand_1 rfl rfl
theorem dX12_stand_52 : decode cX12_stand 52 = .ok (.istore 6, 2) := yd_op_54 (i := 14) (a := 6) yd_by_cX12_stand_1 rfl rfl
theorem dX12_stand_54 : decode cX12_stand 54 = .ok (.iconst 0, 1) := yd_op_3 (i := 16) yd_by_cX12_stand_1 rfl rfl
theorem dX12_stand_55 : decode cX12_stand 55 = .ok (.istore 7, 2) := yd_op_54 (i := 17) (a := 7) yd_by_cX12_stand_1 rfl rfl
theorem dX12_stand_57 : decode cX12_stand 57 = .ok (.iload 7, 2) := yd_op_21 (i := 19) (a := 7) yd_by_cX12_stand_1 rfl rfl
theorem dX12_stand_59 : decode cX12_stand 59 = .ok (.aload_n 0, 1) := yd_op_42 (i := 21) yd_by_cX12_stand_1 rfl rfl
theorem dX12_stand_60 : decode cX12_stand 60 = .ok (.invokevirtual 430, 3) := yd_op_182 (i := 22) (a := 1) (b := 174) yd_by_cX12_stand_1 rfl rfl
theorem dX12_stand_63 : decode cX12_stand 63 = .ok (.if_icmp .ge 100, 3) := yd_op_162 (i := 25) (a := 0) (b := 100) yd_by_cX12_stand_1 rfl rfl
theorem dX12_stand_66 : decode cX12_stand 66 = .ok (.aload_n 0, 1) := yd_op_42 (i := 28) yd_by_cX12_stand_1 rfl rfl
set_option maxRecDepth 100000 in
theorem yd_by_cX12_stand_2 : ydk cX12_stand 67 [21, 7, 182, 1, 177, 54, 8, 42, 21, 8, 182, 1, 225, 54, 9, 21, 9, 2, 159, 0, 12, 21, 9, 27, 159, 0, 6, 167, 0, 63, 42, 27, 21, 8, 29, 182, 2, 7, 21, 4] = true := by decide +kernel
theorem dX12_stand_67 : decode cX12_stand 67 = .ok (.iload 7, 2) := yd_op_21 (i := 0) (a := 7) yd_by_cX12_stand_2 rfl rfl
theorem dX12_stand_69 : decode cX12_stand 69 = .ok (.invokevirtual 433, 3) := yd_op_182 (i := 2) (a := 1) (b := 177) yd_by_cX12_stand_2 rfl rfl
theorem dX12_stand_72 : decode cX12_stand 72 = .ok (.istore 8, 2) := yd_op_54 (i := 5) (a := 8) yd_by_cX12_stand_2 rfl rfl
theorem dX12_stand_74 : decode cX12_stand 74 = .ok (.aload_n 0, 1) := yd_op_42 (i := 7) yd_by_cX12_stand_2 rfl rfl
theorem dX12_stand_75 : decode cX12_stand 75 = .ok (.iload 8, 2) := yd_op_21 (i := 8) (a := 8) yd_by_cX12_stand_2 rfl rfl
theorem dX12_stand_77 : decode cX12_stand 77 = .ok (.invokevirtual 481, 3) := yd_op_182 (i := 10) (a := 1) (b := 225) yd_by_cX12_stand_2 rfl rfl
theorem dX12_stand_80 : decode cX12_stand 80 = .ok (.istore 9, 2) := yd_op_54 (i := 13) (a := 9) yd_by_cX12_stand_2 rfl rfl
theorem dX12_stand_82 : decode cX12_stand 82 = .ok (.iload 9, 2) := yd_op_21 (i := 15) (a := 9) yd_by_cX12_stand_2 rfl rfl
theorem dX12_stand_84 : decode cX12_stand 84 = .ok (.iconst (-1), 1) := yd_op_2 (i := 17) yd_by_cX12_stand_2 rfl rfl
theorem dX12_stand_85 : decode cX12_stand 85 = .ok (.if_icmp .eq 12, 3) := yd_op_159 (i := 18) (a := 0) (b := 12) yd_by_cX12_stand_2 rfl rfl
theorem dX12_stand_88 : decode cX12_stand 88 = .ok (.iload 9, 2) := yd_op_21 (i := 21) (a := 9) yd_by_cX12_stand_2 rfl rfl
theorem dX12_stand_90 : decode cX12_stand 90 = .ok (.iload_n 1, 1) := yd_op_27 (i := 23) yd_by_cX12_stand_2 rfl rfl
theorem dX12_stand_91 : decode cX12_stand 91 = .ok (.if_icmp .eq 6, 3) := yd_op_159 (i := 24) (a := 0) (b := 6) yd_by_cX12_stand_2 rfl rfl
theorem dX12_stand_94 : decode cX12_stand 94 = .ok (.goto 63, 3) := yd_op_167 (i := 27) (a := 0) (b := 63) yd_by_cX12_stand_2 rfl rfl
theorem dX12_stand_97 : decode cX12_stand 97 = .ok (.aload_n 0, 1) := yd_op_42 (i := 30) yd_by_cX12_stand_2 rfl rfl
theorem dX12_stand_98 : decode cX12_stand 98 = .ok (.iload_n 1, 1) := yd_op_27 (i := 31) yd_by_cX12_stand_2 rfl rfl
theorem dX12_stand_99 : decode cX12_stand 99 = .ok (.iload 8, 2) := yd_op_21 (i := 32) (a := 8) yd_by_cX12_stand_2 rfl rfl
theorem dX12_stand_101 : decode cX12_stand 101 = .ok (.iload_n 3, 1) := yd_op_29 (i := 34) yd_by_cX12_stand_2 rfl rfl
theorem dX12_stand_102 : decode cX12_stand 102 = .ok (.invokevirtual 519, 3) := yd_op_182 (i := 35) (a := 2) (b := 7) yd_by_cX12_stand_2 rfl rfl
theorem dX12_stand_105 : decode cX12_stand 105 = .ok (.iload 4, 2) := yd_op_21 (i := 38) (a := 4) yd_by_cX12_stand_2 rfl rfl
set_option maxRecDepth 100000 in
theorem yd_by_cX12_stand_3 : ydk cX12_stand 107 [2, 159, 0, 33, 42, 180, 2, 1, 21, 5, 163, 0, 40, 42, 180, 2, 1, 21, 5, 160, 0, 15, 42, 180, 2, 4, 21, 6, 163, 0, 6, 167, 0, 19, 21, 8, 54, 4, 42, 180, 2, 1, 54, 5] = true := by decide +kernel
theorem dX12_stand_107 : decode cX12_stand 107 = .ok (.iconst (-1), 1) := yd_op_2 (i := 0) yd_by_cX12_stand_3 rfl rfl
theorem dX12_stand_108 : decode cX12_stand 108 = .ok (.if_icmp .eq 33, 3) := yd_op_159 (i := 1) (a := 0) (b := 33) yd_by_cX12_stand_3 rfl rfl
theorem dX12_stand_111 : decode cX12_stand 111 = .ok (.aload_n 0, 1) := yd_op_42 (i := 4) yd_by_cX12_stand_3 rfl rfl
theorem dX12_stand_112 : decode cX12_stand 112 = .ok (.getfield 513, 3) := yd_op_180 (i := 5) (a := 2) (b := 1) yd_by_cX12_stand_3 rfl rfl
theorem dX12_stand_115 : decode cX12_stand 115 = .ok (.iload 5, 2) := yd_op_21 (i := 8) (a := 5) yd_by_cX12_stand_3 rfl rfl
theorem dX12_stand_117 : decode cX12_stand 117 = .ok (.if_icmp .gt 40, 3) := yd_op_163 (i := 10) (a := 0) (b := 40) yd_by_cX12_stand_3 rfl rfl
theorem dX12_stand_120 : decode cX12_stand 120 = .ok (.aload_n 0, 1) := yd_op_42 (i := 13) yd_by_cX12_stand_3 rfl rfl
theorem dX12_stand_121 : decode cX12_stand 121 = .ok (.getfield 513, 3) := yd_op_180 (i := 14) (a := 2) (b := 1) yd_by_cX12_stand_3 rfl rfl
theorem dX12_stand_124 : decode cX12_stand 124 = .ok (.iload 5, 2) := yd_op_21 (i := 17) (a := 5) yd_by_cX12_stand_3 rfl rfl
theorem dX12_stand_126 : decode cX12_stand 126 = .ok (.if_icmp .ne 15, 3) := yd_op_160 (i := 19) (a := 0) (b := 15) yd_by_cX12_stand_3 rfl rfl
theorem dX12_stand_129 : decode cX12_stand 129 = .ok (.aload_n 0, 1) := yd_op_42 (i := 22) yd_by_cX12_stand_3 rfl rfl
theorem dX12_stand_130 : decode cX12_stand 130 = .ok (.getfield 516, 3) := yd_op_180 (i := 23) (a := 2) (b := 4) yd_by_cX12_stand_3 rfl rfl
theorem dX12_stand_133 : decode cX12_stand 133 = .ok (.iload 6, 2) := yd_op_21 (i := 26) (a := 6) yd_by_cX12_stand_3 rfl rfl
theorem dX12_stand_135 : decode cX12_stand 135 = .ok (.if_icmp .gt 6, 3) := yd_op_163 (i := 28) (a := 0) (b := 6) yd_by_cX12_stand_3 rfl rfl
theorem dX12_stand_138 : decode cX12_stand 138 = .ok (.goto 19, 3) := yd_op_167 (i := 31) (a := 0) (b := 19) yd_by_cX12_stand_3 rfl rfl
theorem dX12_stand_141 : decode cX12_stand 141 = .ok (.iload 8, 2) := yd_op_21 (i := 34) (a := 8) yd_by_cX12_stand_3 rfl rfl
theorem dX12_stand_143 : decode cX12_stand 143 = .ok (.istore 4, 2) := yd_op_54 (i := 36) (a := 4) yd_by_cX12_stand_3 rfl rfl
theorem dX12_stand_145 : decode cX12_stand 145 = .ok (.aload_n 0, 1) := yd_op_42 (i := 38) yd_by_cX12_stand_3 rfl rfl
theorem dX12_stand_146 : decode cX12_stand 146 = .ok (.getfield 513, 3) := yd_op_180 (i := 39) (a := 2) (b := 1) yd_by_cX12_stand_3 rfl rfl
theorem dX12_stand_149 : decode cX12_stand 149 = .ok (.istore 5, 2) := yd_op_54 (i := 42) (a := 5) yd_by_cX12_stand_3 rfl rfl
set_option maxRecDepth 100000 in
theorem yd_by_cX12_stand_4 : ydk cX12_stand 151 [42, 180, 2, 4, 54, 6, 132, 7, 1, 167, 255, 153, 28, 154, 0, 11, 21, 4, 16, 6, 112, 167, 0, 18, 28, 4, 160, 0, 11, 21, 4, 16, 6, 108, 167, 0, 5, 21, 5, 172] = true := by decide +kernel
theorem dX12_stand_151 : decode cX12_stand 151 = .ok (.aload_n 0, 1) := yd_op_42 (i := 0) yd_by_cX12_stand_4 rfl rfl
theorem dX12_stand_152 : decode cX12_stand 152 = .ok (.getfield 516, 3) := yd_op_180 (i := 1) (a := 2) (b := 4) yd_by_cX12_stand_4 rfl rfl
theorem dX12_stand_155 : decode cX12_stand 155 = .ok (.istore 6, 2) := yd_op_54 (i := 4) (a := 6) yd_by_cX12_stand_4 rfl rfl
theorem dX12_stand_157 : decode cX12_stand 157 = .ok (.iinc 7 1, 3) := yd_op_132 (i := 6) (a := 7) (b := 1) yd_by_cX12_stand_4 rfl rfl
theorem dX12_stand_160 : decode cX12_stand 160 = .ok (.goto (-103), 3) := yd_op_167 (i := 9) (a := 255) (b := 153) yd_by_cX12_stand_4 rfl rfl
theorem dX12_stand_163 : decode cX12_stand 163 = .ok (.iload_n 2, 1) := yd_op_28 (i := 12) yd_by_cX12_stand_4 rfl rfl
theorem dX12_stand_164 : decode cX12_stand 164 = .ok (.ifCond .ne 11, 3) := yd_op_154 (i := 13) (a := 0) (b := 11) yd_by_cX12_stand_4 rfl rfl
theorem dX12_stand_167 : decode cX12_stand 167 = .ok (.iload 4, 2) := yd_op_21 (i := 16) (a := 4) yd_by_cX12_stand_4 rfl rfl
theorem dX12_stand_169 : decode cX12_stand 169 = .ok (.bipush 6, 2) := yd_op_16 (i := 18) (a := 6) yd_by_cX12_stand_4 rfl rfl
theorem dX12_stand_171 : decode cX12_stand 171 = .ok (.irem, 1) := yd_op_112 (i := 20) yd_by_cX12_stand_4 rfl rfl
theorem dX12_stand_172 : decode cX12_stand 172 = .ok (.goto 18, 3) := yd_op_167 (i := 21) (a := 0) (b := 18) yd_by_cX12_stand_4 rfl rfl
theorem dX12_stand_175 : decode cX12_stand 175 = .ok (.iload_n 2, 1) := yd_op_28 (i := 24) yd_by_cX12_stand_4 rfl rfl
theorem dX12_stand_176 : decode cX12_stand 176 = .ok (.iconst 1, 1) := yd_op_4 (i := 25) yd_by_cX12_stand_4 rfl rfl
theorem dX12_stand_177 : decode cX12_stand 177 = .ok (.if_icmp .ne 11, 3) := yd_op_160 (i := 26) (a := 0) (b := 11) yd_by_cX12_stand_4 rfl rfl
theorem dX12_stand_180 : decode cX12_stand 180 = .ok (.iload 4, 2) := yd_op_21 (i := 29) (a := 4) yd_by_cX12_stand_4 rfl rfl
theorem dX12_stand_182 : decode cX12_stand 182 = .ok (.bipush 6, 2) := yd_op_16 (i := 31) (a := 6) yd_by_cX12_stand_4 rfl rfl
theorem dX12_stand_184 : decode cX12_stand 184 = .ok (.idiv, 1) := yd_op_108 (i := 33) yd_by_cX12_stand_4 rfl rfl
theorem dX12_stand_185 : decode cX12_stand 185 = .ok (.goto 5, 3) := yd_op_167 (i := 34) (a := 0) (b := 5) yd_by_cX12_stand_4 rfl rfl
theorem dX12_stand_188 : decode cX12_stand 188 = .ok (.iload 5, 2) := yd_op_21 (i := 37) (a := 5) yd_by_cX12_stand_4 rfl rfl
theorem dX12_stand_190 : decode cX12_stand 190 = .ok (.ireturn, 1) := yd_op_172 (i := 39) yd_by_cX12_stand_4 rfl rfl
set_option maxRecDepth 100000 in
theorem yd_by_cX12_weak_0 : ydk cX12_weak 0 [42, 180, 1, 119, 153, 0, 13, 27, 133, 9, 10, 184, 1, 33, 154, 0, 5, 2, 172, 42, 182, 1, 198, 42, 182, 1, 195, 61, 2, 62, 3, 54, 4] = true := by decide +kernel
theorem dX12_weak_0 : decode cX12_weak 0 = .ok (.aload_n 0, 1) := yd_op_42 (i := 0) yd_by_cX12_weak_0 rfl rfl
theorem dX12_weak_1 : decode cX12_weak 1 = .ok (.getfield 375, 3) := yd_op_180 (i := 1) (a := 1) (b := 119) yd_by_cX12_weak_0 rfl rfl
theorem dX12_weak_4 : decode cX12_weak 4 = .ok (.ifCond .eq 13, 3) := yd_op_153 (i := 4) (a := 0) (b := 13) yd_by_cX12_weak_0 rfl rfl
theorem dX12_weak_7 : decode cX12_weak 7 = .ok (.iload_n 1, 1) := yd_op_27 (i := 7) yd_by_cX12_weak_0 rfl rfl
theorem dX12_weak_8 : decode cX12_weak 8 = .ok (.i2l, 1) := yd_op_133 (i := 8) yd_by_cX12_weak_0 rfl rfl
theorem dX12_weak_9 : decode cX12_weak 9 = .ok (.lconst 0, 1) := yd_op_9 (i := 9) yd_by_cX12_weak_0 rfl rfl
theorem dX12_weak_10 : decode cX12_weak 10 = .ok (.lconst 1, 1) := yd_op_10 (i := 10) yd_by_cX12_weak_0 rfl rfl
theorem dX12_weak_11 : decode cX12_weak 11 = .ok (.invokestatic 289, 3) := yd_op_184 (i := 11) (a := 1) (b := 33) yd_by_cX12_weak_0 rfl rfl
theorem dX12_weak_14 : decode cX12_weak 14 = .ok (.ifCond .ne 5, 3) := yd_op_154 (i := 14) (a := 0) (b := 5) yd_by_cX12_weak_0 rfl rfl
theorem dX12_weak_17 : decode cX12_weak 17 = .ok (.iconst (-1), 1) := yd_op_2 (i := 17) yd_by_cX12_weak_0 rfl rfl
theorem dX12_weak_18 : decode cX12_weak 18 = .ok (.ireturn, 1) := yd_op_172 (i := 18) yd_by_cX12_weak_0 rfl rfl
theorem dX12_weak_19 : decode cX12_weak 19 = .ok (.aload_n 0, 1) := yd_op_42 (i := 19) yd_by_cX12_weak_0 rfl rfl
theorem dX12_weak_20 : decode cX12_weak 20 = .ok (.invokevirtual 454, 3) := yd_op_182 (i := 20) (a := 1) (b := 198) yd_by_cX12_weak_0 rfl rfl
theorem dX12_weak_23 : decode cX12_weak 23 = .ok (.aload_n 0, 1) := yd_op_42 (i := 23) yd_by_cX12_weak_0 rfl rfl
theorem dX12_weak_24 : decode cX12_weak 24 = .ok (.invokevirtual 451, 3) := yd_op_182 (i := 24) (a := 1) (b := 195) yd_by_cX12_weak_0 rfl rfl
theorem dX12_weak_27 : decode cX12_weak 27 = .ok (.istore_n 2, 1) := yd_op_61 (i := 27) yd_by_cX12_weak_0 rfl rfl
theorem dX12_weak_28 : decode cX12_weak 28 = .ok (.iconst (-1), 1) := yd_op_2 (i := 28) yd_by_cX12_weak_0 rfl rfl
theorem dX12_weak_29 : decode cX12_weak 29 = .ok (.istore_n 3, 1) := yd_op_62 (i := 29) yd_by_cX12_weak_0 rfl rfl
theorem dX12_weak_30 : decode cX12_weak 30 = .ok (.iconst 0, 1) := yd_op_3 (i := 30) yd_by_cX12_weak_0 rfl rfl
theorem dX12_weak_31 : decode cX12_weak 31 = .ok (.istore 4, 2) := yd_op_54 (i := 31) (a := 4) yd_by_cX12_weak_0 rfl rfl
set_option maxRecDepth 100000 in
theorem yd_by_cX12_weak_1 : ydk cX12_weak 33 [21, 4, 42, 182, 1, 174, 162, 0, 50, 42, 21, 4, 182, 1, 177, 54, 5, 42, 21, 5, 182, 1, 180, 154, 0, 27, 29, 2, 159, 0, 19, 42, 28, 21, 5, 182, 1, 189, 42] = true := by decide +kernel
theorem dX12_weak_33 : decode cX12_weak 33 = .ok (.iload 4, 2) := yd_op_21 (i := 0) (a := 4) yd_by_cX12_weak_1 rfl rfl
theorem dX12_weak_35 : decode cX12_weak 35 = .ok (.aload_n 0, 1) := yd_op_42 (i := 2) yd_by_cX12_weak_1 rfl rfl
theorem dX12_weak_36 : decode cX12_weak 36 = .ok (.invokevirtual 430, 3) := yd_op_182 (i := 3) (a := 1) (b := 174) yd_by_cX12_weak_1 rfl rfl
theorem dX12_weak_39 : decode cX12_weak 39 = .ok (.if_icmp .ge 50, 3) := yd_op_162 (i := 6) (a := 0) (b := 50) yd_by_cX12_weak_1 rfl rfl
theorem dX12_weak_42 : decode cX12_weak 42 = .ok (.aload_n 0, 1) := yd_op_42 (i := 9) yd_by_cX12_weak_1 rfl rfl
theorem dX12_weak_43 : decode cX12_weak 43 = .ok (.iload 4, 2) := yd_op_21 (i := 10) (a := 4) yd_by_cX12_weak_1 rfl rfl
theorem dX12_weak_45 : decode cX12_weak 45 = .ok (.invokevirtual 433, 3) := yd_op_182 (i := 12) (a := 1) (b := 177) yd_by_cX12_weak_1 rfl rfl
theorem dX12_weak_48 : decode cX12_weak 48 = .ok (.istore 5, 2) := yd_op_54 (i := 15) (a := 5) yd_by_cX12_weak_1 rfl rfl
theorem dX12_weak_50 : decode cX12_weak 50 = .ok (.aload_n 0, 1) := yd_op_42 (i := 17) yd_by_cX12_weak_1 rfl rfl
theorem dX12_weak_51 : decode cX12_weak 51 = .ok (.iload 5, 2) := yd_op_21 (i := 18) (a := 5) yd_by_cX12_weak_1 rfl rfl
theorem dX12_weak_53 : decode cX12_weak 53 = .ok (.invokevirtual 436, 3) := yd_op_182 (i := 20) (a := 1) (b := 180) yd_by_cX12_weak_1 rfl rfl
theorem dX12_weak_56 : decode cX12_weak 56 = .ok (.ifCond .ne 27, 3) := yd_op_154 (i := 23) (a := 0) (b := 27) yd_by_cX12_weak_1 rfl rfl
theorem dX12_weak_59 : decode cX12_weak 59 = .ok (.iload_n 3, 1) := yd_op_29 (i := 26) yd_by_cX12_weak_1 rfl rfl
theorem dX12_weak_60 : decode cX12_weak 60 = .ok (.iconst (-1), 1) := yd_op_2 (i := 27) yd_by_cX12_weak_1 rfl rfl
theorem dX12_weak_61 : decode cX12_weak 61 = .ok (.if_icmp .eq 19, 3) := yd_op_159 (i := 28) (a := 0) (b := 19) yd_by_cX12_weak_1 rfl rfl
theorem dX12_weak_64 : decode cX12_weak 64 = .ok (.aload_n 0, 1) := yd_op_42 (i := 31) yd_by_cX12_weak_1 rfl rfl
theorem dX12_weak_65 : decode cX12_weak 65 = .ok (.iload_n 2, 1) := yd_op_28 (i := 32) yd_by_cX12_weak_1 rfl rfl
theorem dX12_weak_66 : decode cX12_weak 66 = .ok (.iload 5, 2) := yd_op_21 (i := 33) (a := 5) yd_by_cX12_weak_1 rfl rfl
theorem dX12_weak_68 : decode cX12_weak 68 = .ok (.invokevirtual 445, 3) := yd_op_182 (i := 35) (a := 1) (b := 189) yd_by_cX12_weak_1 rfl rfl
theorem dX12_weak_71 : decode cX12_weak 71 = .ok (.aload_n 0, 1) := yd_op_42 (i := 38) yd_by_cX12_weak_1 rfl rfl
set_option maxRecDepth 100000 in
theorem yd_by_cX12_weak_2 : ydk cX12_weak 72 [28, 29, 182, 1, 189, 162, 0, 6, 21, 5, 62, 132, 4, 1, 167, 255, 203, 29, 2, 160, 0, 7, 2, 167, 0, 18, 27, 154, 0, 10, 29, 16, 6, 112, 167, 0, 7, 29] = true := by decide +kernel
theorem dX12_weak_72 : decode cX12_weak 72 = .ok (.iload_n 2, 1) := yd_op_28 (i := 0) yd_by_cX12_weak_2 rfl rfl
theorem dX12_weak_73 : decode cX12_weak 73 = .ok (.iload_n 3, 1) := yd_op_29 (i := 1) yd_by_cX12_weak_2 rfl rfl
theorem dX12_weak_74 : decode cX12_weak 74 = .ok (.invokevirtual 445, 3) := yd_op_182 (i := 2) (a := 1) (b := 189) yd_by_cX12_weak_2 rfl rfl
theorem dX12_weak_77 : decode cX12_weak 77 = .ok (.if_icmp .ge 6, 3) := yd_op_162 (i := 5) (a := 0) (b := 6) yd_by_cX12_weak_2 rfl rfl
theorem dX12_weak_80 : decode cX12_weak 80 = .ok (.iload 5, 2) := yd_op_21 (i := 8) (a := 5) yd_by_cX12_weak_2 rfl rfl
theorem dX12_weak_82 : decode cX12_weak 82 = .ok (.istore_n 3, 1) := yd_op_62 (i := 10) yd_by_cX12_weak_2 rfl rfl
theorem dX12_weak_83 : decode cX12_weak 83 = .ok (.iinc 4 1, 3) := yd_op_132 (i := 11) (a := 4) (b := 1) yd_by_cX12_weak_2 rfl rfl
theorem dX12_weak_86 : decode cX12_weak 86 = .ok (.goto (-53), 3) := yd_op_167 (i := 14) (a := 255) (b := 203) yd_by_cX12_weak_2 rfl rfl
theorem dX12_weak_89 : decode cX12_weak 89 = .ok (.iload_n 3, 1) := yd_op_29 (i := 17) yd_by_cX12_weak_2 rfl rfl
theorem dX12_weak_90 : decode cX12_weak 90 = .ok (.iconst (-1), 1) := yd_op_2 (i := 18) yd_by_cX12_weak_2 rfl rfl
theorem dX12_weak_91 : decode cX12_weak 91 = .ok (.if_icmp .ne 7, 3) := yd_op_160 (i := 19) (a := 0) (b := 7) yd_by_cX12_weak_2 rfl rfl
theorem dX12_weak_94 : decode cX12_weak 94 = .ok (.iconst (-1), 1) := yd_op_2 (i := 22) yd_by_cX12_weak_2 rfl rfl
theorem dX12_weak_95 : decode cX12_weak 95 = .ok (.goto 18, 3) := yd_op_167 (i := 23) (a := 0) (b := 18) yd_by_cX12_weak_2 rfl rfl
theorem dX12_weak_98 : decode cX12_weak 98 = .ok (.iload_n 1, 1) := yd_op_27 (i := 26) yd_by_cX12_weak_2 rfl rfl
theorem dX12_weak_99 : decode cX12_weak 99 = .ok (.ifCond .ne 10, 3) := yd_op_154 (i := 27) (a := 0) (b := 10) yd_by_cX12_weak_2 rfl rfl
theorem dX12_weak_102 : decode cX12_weak 102 = .ok (.iload_n 3, 1) := yd_op_29 (i := 30) yd_by_cX12_weak_2 rfl rfl
theorem dX12_weak_103 : decode cX12_weak 103 = .ok (.bipush 6, 2) := yd_op_16 (i := 31) (a := 6) yd_by_cX12_weak_2 rfl rfl
theorem dX12_weak_105 : decode cX12_weak 105 = .ok (.irem, 1) := yd_op_112 (i := 33) yd_by_cX12_weak_2 rfl rfl
theorem dX12_weak_106 : decode cX12_weak 106 = .ok (.goto 7, 3) := yd_op_167 (i := 34) (a := 0) (b := 7) yd_by_cX12_weak_2 rfl rfl
theorem dX12_weak_109 : decode cX12_weak 109 = .ok (.iload_n 3, 1) := yd_op_29 (i := 37) yd_by_cX12_weak_2 rfl rfl
set_option maxRecDepth 100000 in
theorem yd_by_cX12_weak_3 : ydk cX12_weak 110 [16, 6, 108, 172] = true := by decide +kernel
theorem dX12_weak_110 : decode cX12_weak 110 = .ok (.bipush 6, 2) := yd_op_16 (i := 0) (a := 6) yd_by_cX12_weak_3 rfl rfl
theorem dX12_weak_112 : decode cX12_weak 112 = .ok (.idiv, 1) := yd_op_108 (i := 2) yd_by_cX12_weak_3 rfl rfl
theorem dX12_weak_113 : decode cX12_weak 113 = .ok (.ireturn, 1) := yd_op_172 (i := 3) yd_by_cX12_weak_3 rfl rfl
set_option maxRecDepth 100000 in
theorem yd_by_cX12_mends_0 : ydk cX12_mends 0 [42, 27, 4, 16, 30, 182, 1, 235, 153, 0, 15, 28, 133, 9, 20, 1, 233, 184, 1, 33, 154, 0, 5, 2, 172, 2, 62, 3, 54, 4, 42, 182, 1, 239] = true := by decide +kernel
theorem dX12_mends_0 : decode cX12_mends 0 = .ok (.aload_n 0, 1) := yd_op_42 (i := 0) yd_by_cX12_mends_0 rfl rfl
theorem dX12_mends_1 : decode cX12_mends 1 = .ok (.iload_n 1, 1) := yd_op_27 (i := 1) yd_by_cX12_mends_0 rfl rfl
theorem dX12_mends_2 : decode cX12_mends 2 = .ok (.iconst 1, 1) := yd_op_4 (i := 2) yd_by_cX12_mends_0 rfl rfl
theorem dX12_mends_3 : decode cX12_mends 3 = .ok (.bipush 30, 2) := yd_op_16 (i := 3) (a := 30) yd_by_cX12_mends_0 rfl rfl
theorem dX12_mends_5 : decode cX12_mends 5 = .ok (.invokevirtual 491, 3) := yd_op_182 (i := 5) (a := 1) (b := 235) yd_by_cX12_mends_0 rfl rfl
theorem dX12_mends_8 : decode cX12_mends 8 = .ok (.ifCond .eq 15, 3) := yd_op_153 (i := 8) (a := 0) (b := 15) yd_by_cX12_mends_0 rfl rfl
theorem dX12_mends_11 : decode cX12_mends 11 = .ok (.iload_n 2, 1) := yd_op_28 (i := 11) yd_by_cX12_mends_0 rfl rfl
theorem dX12_mends_12 : decode cX12_mends 12 = .ok (.i2l, 1) := yd_op_133 (i := 12) yd_by_cX12_mends_0 rfl rfl
theorem dX12_mends_13 : decode cX12_mends 13 = .ok (.lconst 0, 1) := yd_op_9 (i := 13) yd_by_cX12_mends_0 rfl rfl
theorem dX12_mends_14 : decode cX12_mends 14 = .ok (.ldc2_w 489, 3) := yd_op_20 (i := 14) (a := 1) (b := 233) yd_by_cX12_mends_0 rfl rfl
theorem dX12_mends_17 : decode cX12_mends 17 = .ok (.invokestatic 289, 3) := yd_op_184 (i := 17) (a := 1) (b := 33) yd_by_cX12_mends_0 rfl rfl
theorem dX12_mends_20 : decode cX12_mends 20 = .ok (.ifCond .ne 5, 3) := yd_op_154 (i := 20) (a := 0) (b := 5) yd_by_cX12_mends_0 rfl rfl
theorem dX12_mends_23 : decode cX12_mends 23 = .ok (.iconst (-1), 1) := yd_op_2 (i := 23) yd_by_cX12_mends_0 rfl rfl
theorem dX12_mends_24 : decode cX12_mends 24 = .ok (.ireturn, 1) := yd_op_172 (i := 24) yd_by_cX12_mends_0 rfl rfl
theorem dX12_mends_25 : decode cX12_mends 25 = .ok (.iconst (-1), 1) := yd_op_2 (i := 25) yd_by_cX12_mends_0 rfl rfl
theorem dX12_mends_26 : decode cX12_mends 26 = .ok (.istore_n 3, 1) := yd_op_62 (i := 26) yd_by_cX12_mends_0 rfl rfl
theorem dX12_mends_27 : decode cX12_mends 27 = .ok (.iconst 0, 1) := yd_op_3 (i := 27) yd_by_cX12_mends_0 rfl rfl
theorem dX12_mends_28 : decode cX12_mends 28 = .ok (.istore 4, 2) := yd_op_54 (i := 28) (a := 4) yd_by_cX12_mends_0 rfl rfl
theorem dX12_mends_30 : decode cX12_mends 30 = .ok (.aload_n 0, 1) := yd_op_42 (i := 30) yd_by_cX12_mends_0 rfl rfl
theorem dX12_mends_31 : decode cX12_mends 31 = .ok (.invokevirtual 495, 3) := yd_op_182 (i := 31) (a := 1) (b := 239) yd_by_cX12_mends_0 rfl rfl
set_option maxRecDepth 100000 in
theorem yd_by_cX12_mends_1 : ydk cX12_mends 34 [3, 54, 5, 21, 5, 42, 182, 1, 174, 162, 0, 76, 42, 21, 5, 182, 1, 177, 54, 6, 42, 21, 6, 182, 1, 180, 154, 0, 6, 167, 0, 50, 42, 180, 0, 130, 4, 21, 6, 96] = true := by decide +kernel
theorem dX12_mends_34 : decode cX12_mends 34 = .ok (.iconst 0, 1) := yd_op_3 (i := 0) yd_by_cX12_mends_1 rfl rfl
theorem dX12_mends_35 : decode cX12_mends 35 = .ok (.istore 5, 2) := yd_op_54 (i := 1) (a := 5) yd_by_cX12_mends_1 rfl rfl
theorem dX12_mends_37 : decode cX12_mends 37 = .ok (.iload 5, 2) := yd_op_21 (i := 3) (a := 5) yd_by_cX12_mends_1 rfl rfl
theorem dX12_mends_39 : decode cX12_mends 39 = .ok (.aload_n 0, 1) := yd_op_42 (i := 5) yd_by_cX12_mends_1 rfl rfl
theorem dX12_mends_40 : decode cX12_mends 40 = .ok (.invokevirtual 430, 3) := yd_op_182 (i := 6) (a := 1) (b := 174) yd_by_cX12_mends_1 rfl rfl
theorem dX12_mends_43 : decode cX12_mends 43 = .ok (.if_icmp .ge 76, 3) := yd_op_162 (i := 9) (a := 0) (b := 76) yd_by_cX12_mends_1 rfl rfl
theorem dX12_mends_46 : decode cX12_mends 46 = .ok (.aload_n 0, 1) := yd_op_42 (i := 12) yd_by_cX12_mends_1 rfl rfl
theorem dX12_mends_47 : decode cX12_mends 47 = .ok (.iload 5, 2) := yd_op_21 (i := 13) (a := 5) yd_by_cX12_mends_1 rfl rfl
theorem dX12_mends_49 : decode cX12_mends 49 = .ok (.invokevirtual 433, 3) := yd_op_182 (i := 15) (a := 1) (b := 177) yd_by_cX12_mends_1 rfl rfl
theorem dX12_mends_52 : decode cX12_mends 52 = .ok (.istore 6, 2) := yd_op_54 (i := 18) (a := 6) yd_by_cX12_mends_1 rfl rfl
theorem dX12_mends_54 : decode cX12_mends 54 = .ok (.aload_n 0, 1) := yd_op_42 (i := 20) yd_by_cX12_mends_1 rfl rfl
theorem dX12_mends_55 : decode cX12_mends 55 = .ok (.iload 6, 2) := yd_op_21 (i := 21) (a := 6) yd_by_cX12_mends_1 rfl rfl
theorem dX12_mends_57 : decode cX12_mends 57 = .ok (.invokevirtual 436, 3) := yd_op_182 (i := 23) (a := 1) (b := 180) yd_by_cX12_mends_1 rfl rfl
theorem dX12_mends_60 : decode cX12_mends 60 = .ok (.ifCond .ne 6, 3) := yd_op_154 (i := 26) (a := 0) (b := 6) yd_by_cX12_mends_1 rfl rfl
theorem dX12_mends_63 : decode cX12_mends 63 = .ok (.goto 50, 3) := yd_op_167 (i := 29) (a := 0) (b := 50) yd_by_cX12_mends_1 rfl rfl
theorem dX12_mends_66 : decode cX12_mends 66 = .ok (.aload_n 0, 1) := yd_op_42 (i := 32) yd_by_cX12_mends_1 rfl rfl
theorem dX12_mends_67 : decode cX12_mends 67 = .ok (.getfield 130, 3) := yd_op_180 (i := 33) (a := 0) (b := 130) yd_by_cX12_mends_1 rfl rfl
theorem dX12_mends_70 : decode cX12_mends 70 = .ok (.iconst 1, 1) := yd_op_4 (i := 36) yd_by_cX12_mends_1 rfl rfl
theorem dX12_mends_71 : decode cX12_mends 71 = .ok (.iload 6, 2) := yd_op_21 (i := 37) (a := 6) yd_by_cX12_mends_1 rfl rfl
theorem dX12_mends_73 : decode cX12_mends 73 = .ok (.iadd, 1) := yd_op_96 (i := 39) yd_by_cX12_mends_1 rfl rfl
set_option maxRecDepth 100000 in
theorem yd_by_cX12_mends_2 : ydk cX12_mends 74 [3, 79, 42, 27, 182, 1, 242, 42, 182, 1, 210, 54, 7, 42, 182, 1, 251, 29, 2, 159, 0, 13, 21, 7, 21, 4, 161, 0, 6, 167, 0, 10, 21, 6, 62, 21, 7] = true := by decide +kernel
theorem dX12_mends_74 : decode cX12_mends 74 = .ok (.iconst 0, 1) := yd_op_3 (i := 0) yd_by_cX12_mends_2 rfl rfl
theorem dX12_mends_75 : decode cX12_mends 75 = .ok (.iastore, 1) := yd_op_79 (i := 1) yd_by_cX12_mends_2 rfl rfl
theorem dX12_mends_76 : decode cX12_mends 76 = .ok (.aload_n 0, 1) := yd_op_42 (i := 2) yd_by_cX12_mends_2 rfl rfl
theorem dX12_mends_77 : decode cX12_mends 77 = .ok (.iload_n 1, 1) := yd_op_27 (i := 3) yd_by_cX12_mends_2 rfl rfl
theorem dX12_mends_78 : decode cX12_mends 78 = .ok (.invokevirtual 498, 3) := yd_op_182 (i := 4) (a := 1) (b := 242) yd_by_cX12_mends_2 rfl rfl
theorem dX12_mends_81 : decode cX12_mends 81 = .ok (.aload_n 0, 1) := yd_op_42 (i := 7) yd_by_cX12_mends_2 rfl rfl
theorem dX12_mends_82 : decode cX12_mends 82 = .ok (.invokevirtual 466, 3) := yd_op_182 (i := 8) (a := 1) (b := 210) yd_by_cX12_mends_2 rfl rfl
theorem dX12_mends_85 : decode cX12_mends 85 = .ok (.istore 7, 2) := yd_op_54 (i := 11) (a := 7) yd_by_cX12_mends_2 rfl rfl
theorem dX12_mends_87 : decode cX12_mends 87 = .ok (.aload_n 0, 1) := yd_op_42 (i := 13) yd_by_cX12_mends_2 rfl rfl
theorem dX12_mends_88 : decode cX12_mends 88 = .ok (.invokevirtual 507, 3) := yd_op_182 (i := 14) (a := 1) (b := 251) yd_by_cX12_mends_2 rfl rfl
theorem dX12_mends_91 : decode cX12_mends 91 = .ok (.iload_n 3, 1) := yd_op_29 (i := 17) yd_by_cX12_mends_2 rfl rfl
theorem dX12_mends_92 : decode cX12_mends 92 = .ok (.iconst (-1), 1) := yd_op_2 (i := 18) yd_by_cX12_mends_2 rfl rfl
theorem dX12_mends_93 : decode cX12_mends 93 = .ok (.if_icmp .eq 13, 3) := yd_op_159 (i := 19) (a := 0) (b := 13) yd_by_cX12_mends_2 rfl rfl
theorem dX12_mends_96 : decode cX12_mends 96 = .ok (.iload 7, 2) := yd_op_21 (i := 22) (a := 7) yd_by_cX12_mends_2 rfl rfl
theorem dX12_mends_98 : decode cX12_mends 98 = .ok (.iload 4, 2) := yd_op_21 (i := 24) (a := 4) yd_by_cX12_mends_2 rfl rfl
theorem dX12_mends_100 : decode cX12_mends 100 = .ok (.if_icmp .lt 6, 3) := yd_op_161 (i := 26) (a := 0) (b := 6) yd_by_cX12_mends_2 rfl rfl
theorem dX12_mends_103 : decode cX12_mends 103 = .ok (.goto 10, 3) := yd_op_167 (i := 29) (a := 0) (b := 10) yd_by_cX12_mends_2 rfl rfl
theorem dX12_mends_106 : decode cX12_mends 106 = .ok (.iload 6, 2) := yd_op_21 (i := 32) (a := 6) yd_by_cX12_mends_2 rfl rfl
theorem dX12_mends_108 : decode cX12_mends 108 = .ok (.istore_n 3, 1) := yd_op_62 (i := 34) yd_by_cX12_mends_2 rfl rfl
theorem dX12_mends_109 : decode cX12_mends 109 = .ok (.iload 7, 2) := yd_op_21 (i := 35) (a := 7) yd_by_cX12_mends_2 rfl rfl
set_option maxRecDepth 100000 in
theorem yd_by_cX12_mends_3 : ydk cX12_mends 111 [54, 4, 132, 5, 1, 167, 255, 177, 42, 182, 1, 248, 29, 2, 160, 0, 7, 2, 167, 0, 28, 28, 154, 0, 10, 29, 16, 6, 112, 167, 0, 17, 28, 4, 160, 0, 10, 29] = true := by decide +kernel
theorem dX12_mends_111 : decode cX12_mends 111 = .ok (.istore 4, 2) := yd_op_54 (i := 0) (a := 4) yd_by_cX12_mends_3 rfl rfl
theorem dX12_mends_113 : decode cX12_mends 113 = .ok (.iinc 5 1, 3) := yd_op_132 (i := 2) (a := 5) (b := 1) yd_by_cX12_mends_3 rfl rfl
theorem dX12_mends_116 : decode cX12_mends 116 = .ok (.goto (-79), 3) := yd_op_167 (i := 5) (a := 255) (b := 177) yd_by_cX12_mends_3 rfl rfl
theorem dX12_mends_119 : decode cX12_mends 119 = .ok (.aload_n 0, 1) := yd_op_42 (i := 8) yd_by_cX12_mends_3 rfl rfl
theorem dX12_mends_120 : decode cX12_mends 120 = .ok (.invokevirtual 504, 3) := yd_op_182 (i := 9) (a := 1) (b := 248) yd_by_cX12_mends_3 rfl rfl
theorem dX12_mends_123 : decode cX12_mends 123 = .ok (.iload_n 3, 1) := yd_op_29 (i := 12) yd_by_cX12_mends_3 rfl rfl
theorem dX12_mends_124 : decode cX12_mends 124 = .ok (.iconst (-1), 1) := yd_op_2 (i := 13) yd_by_cX12_mends_3 rfl rfl
theorem dX12_mends_125 : decode cX12_mends 125 = .ok (.if_icmp .ne 7, 3) := yd_op_160 (i := 14) (a := 0) (b := 7) yd_by_cX12_mends_3 rfl rfl
theorem dX12_mends_128 : decode cX12_mends 128 = .ok (.iconst (-1), 1) := yd_op_2 (i := 17) yd_by_cX12_mends_3 rfl rfl
theorem dX12_mends_129 : decode cX12_mends 129 = .ok (.goto 28, 3) := yd_op_167 (i := 18) (a := 0) (b := 28) yd_by_cX12_mends_3 rfl rfl
theorem dX12_mends_132 : decode cX12_mends 132 = .ok (.iload_n 2, 1) := yd_op_28 (i := 21) yd_by_cX12_mends_3 rfl rfl
theorem dX12_mends_133 : decode cX12_mends 133 = .ok (.ifCond .ne 10, 3) := yd_op_154 (i := 22) (a := 0) (b := 10) yd_by_cX12_mends_3 rfl rfl
theorem dX12_mends_136 : decode cX12_mends 136 = .ok (.iload_n 3, 1) := yd_op_29 (i := 25) yd_by_cX12_mends_3 rfl rfl
theorem dX12_mends_137 : decode cX12_mends 137 = .ok (.bipush 6, 2) := yd_op_16 (i := 26) (a := 6) yd_by_cX12_mends_3 rfl rfl
theorem dX12_mends_139 : decode cX12_mends 139 = .ok (.irem, 1) := yd_op_112 (i := 28) yd_by_cX12_mends_3 rfl rfl
theorem dX12_mends_140 : decode cX12_mends 140 = .ok (.goto 17, 3) := yd_op_167 (i := 29) (a := 0) (b := 17) yd_by_cX12_mends_3 rfl rfl
theorem dX12_mends_143 : decode cX12_mends 143 = .ok (.iload_n 2, 1) := yd_op_28 (i := 32) yd_by_cX12_mends_3 rfl rfl
theorem dX12_mends_144 : decode cX12_mends 144 = .ok (.iconst 1, 1) := yd_op_4 (i := 33) yd_by_cX12_mends_3 rfl rfl
theorem dX12_mends_145 : decode cX12_mends 145 = .ok (.if_icmp .ne 10, 3) := yd_op_160 (i := 34) (a := 0) (b := 10) yd_by_cX12_mends_3 rfl rfl
theorem dX12_mends_148 : decode cX12_mends 148 = .ok (.iload_n 3, 1) := yd_op_29 (i := 37) yd_by_cX12_mends_3 rfl rfl
set_option maxRecDepth 100000 in
theorem yd_by_cX12_mends_4 : ydk cX12_mends 149 [16, 6, 108, 167, 0, 5, 21, 4, 172] = true := by decide +kernel
theorem dX12_mends_149 : decode cX12_mends 149 = .ok (.bipush 6, 2) := yd_op_16 (i := 0) (a := 6) yd_by_cX12_mends_4 rfl rfl
theorem dX12_mends_151 : decode cX12_mends 151 = .ok (.idiv, 1) := yd_op_108 (i := 2) yd_by_cX12_mends_4 rfl rfl
theorem dX12_mends_152 : decode cX12_mends 152 = .ok (.goto 5, 3) := yd_op_167 (i := 3) (a := 0) (b := 5) yd_by_cX12_mends_4 rfl rfl
theorem dX12_mends_155 : decode cX12_mends 155 = .ok (.iload 4, 2) := yd_op_21 (i := 6) (a := 4) yd_by_cX12_mends_4 rfl rfl
theorem dX12_mends_157 : decode cX12_mends 157 = .ok (.ireturn, 1) := yd_op_172 (i := 8) yd_by_cX12_mends_4 rfl rfl
set_option maxRecDepth 100000 in
theorem yd_by_cX12_refuses_0 : ydk cX12_refuses 0 [42, 180, 0, 17, 27, 92, 46, 4, 96, 79, 2, 172] = true := by decide +kernel
theorem dX12_refuses_0 : decode cX12_refuses 0 = .ok (.aload_n 0, 1) := yd_op_42 (i := 0) yd_by_cX12_refuses_0 rfl rfl
theorem dX12_refuses_1 : decode cX12_refuses 1 = .ok (.getfield 17, 3) := yd_op_180 (i := 1) (a := 0) (b := 17) yd_by_cX12_refuses_0 rfl rfl
theorem dX12_refuses_4 : decode cX12_refuses 4 = .ok (.iload_n 1, 1) := yd_op_27 (i := 4) yd_by_cX12_refuses_0 rfl rfl
theorem dX12_refuses_5 : decode cX12_refuses 5 = .ok (.dup2, 1) := yd_op_92 (i := 5) yd_by_cX12_refuses_0 rfl rfl
theorem dX12_refuses_6 : decode cX12_refuses 6 = .ok (.iaload, 1) := yd_op_46 (i := 6) yd_by_cX12_refuses_0 rfl rfl
theorem dX12_refuses_7 : decode cX12_refuses 7 = .ok (.iconst 1, 1) := yd_op_4 (i := 7) yd_by_cX12_refuses_0 rfl rfl
theorem dX12_refuses_8 : decode cX12_refuses 8 = .ok (.iadd, 1) := yd_op_96 (i := 8) yd_by_cX12_refuses_0 rfl rfl
theorem dX12_refuses_9 : decode cX12_refuses 9 = .ok (.iastore, 1) := yd_op_79 (i := 9) yd_by_cX12_refuses_0 rfl rfl
theorem dX12_refuses_10 : decode cX12_refuses 10 = .ok (.iconst (-1), 1) := yd_op_2 (i := 10) yd_by_cX12_refuses_0 rfl rfl
theorem dX12_refuses_11 : decode cX12_refuses 11 = .ok (.ireturn, 1) := yd_op_172 (i := 11) yd_by_cX12_refuses_0 rfl rfl
set_option maxRecDepth 100000 in
theorem yd_by_cX12_sound_0 : ydk cX12_sound 0 [42, 180, 0, 243, 60, 42, 3, 181, 0, 243, 42, 180, 1, 119, 153, 0, 25, 27, 158, 0, 21, 27, 7, 112, 154, 0, 15, 27, 7, 108, 16, 12, 163, 0, 7] = true := by decide +kernel
theorem dX12_sound_0 : decode cX12_sound 0 = .ok (.aload_n 0, 1) := yd_op_42 (i := 0) yd_by_cX12_sound_0 rfl rfl
theorem dX12_sound_1 : decode cX12_sound 1 = .ok (.getfield 243, 3) := yd_op_180 (i := 1) (a := 0) (b := 243) yd_by_cX12_sound_0 rfl rfl
theorem dX12_sound_4 : decode cX12_sound 4 = .ok (.istore_n 1, 1) := yd_op_60 (i := 4) yd_by_cX12_sound_0 rfl rfl
theorem dX12_sound_5 : decode cX12_sound 5 = .ok (.aload_n 0, 1) := yd_op_42 (i := 5) yd_by_cX12_sound_0 rfl rfl
theorem dX12_sound_6 : decode cX12_sound 6 = .ok (.iconst 0, 1) := yd_op_3 (i := 6) yd_by_cX12_sound_0 rfl rfl
theorem dX12_sound_7 : decode cX12_sound 7 = .ok (.putfield 243, 3) := yd_op_181 (i := 7) (a := 0) (b := 243) yd_by_cX12_sound_0 rfl rfl
theorem dX12_sound_10 : decode cX12_sound 10 = .ok (.aload_n 0, 1) := yd_op_42 (i := 10) yd_by_cX12_sound_0 rfl rfl
theorem dX12_sound_11 : decode cX12_sound 11 = .ok (.getfield 375, 3) := yd_op_180 (i := 11) (a := 1) (b := 119) yd_by_cX12_sound_0 rfl rfl
theorem dX12_sound_14 : decode cX12_sound 14 = .ok (.ifCond .eq 25, 3) := yd_op_153 (i := 14) (a := 0) (b := 25) yd_by_cX12_sound_0 rfl rfl
theorem dX12_sound_17 : decode cX12_sound 17 = .ok (.iload_n 1, 1) := yd_op_27 (i := 17) yd_by_cX12_sound_0 rfl rfl
theorem dX12_sound_18 : decode cX12_sound 18 = .ok (.ifCond .le 21, 3) := yd_op_158 (i := 18) (a := 0) (b := 21) yd_by_cX12_sound_0 rfl rfl
theorem dX12_sound_21 : decode cX12_sound 21 = .ok (.iload_n 1, 1) := yd_op_27 (i := 21) yd_by_cX12_sound_0 rfl rfl
theorem dX12_sound_22 : decode cX12_sound 22 = .ok (.iconst 4, 1) := yd_op_7 (i := 22) yd_by_cX12_sound_0 rfl rfl
theorem dX12_sound_23 : decode cX12_sound 23 = .ok (.irem, 1) := yd_op_112 (i := 23) yd_by_cX12_sound_0 rfl rfl
theorem dX12_sound_24 : decode cX12_sound 24 = .ok (.ifCond .ne 15, 3) := yd_op_154 (i := 24) (a := 0) (b := 15) yd_by_cX12_sound_0 rfl rfl
theorem dX12_sound_27 : decode cX12_sound 27 = .ok (.iload_n 1, 1) := yd_op_27 (i := 27) yd_by_cX12_sound_0 rfl rfl
theorem dX12_sound_28 : decode cX12_sound 28 = .ok (.iconst 4, 1) := yd_op_7 (i := 28) yd_by_cX12_sound_0 rfl rfl
theorem dX12_sound_29 : decode cX12_sound 29 = .ok (.idiv, 1) := yd_op_108 (i := 29) yd_by_cX12_sound_0 rfl rfl
theorem dX12_sound_30 : decode cX12_sound 30 = .ok (.bipush 12, 2) := yd_op_16 (i := 30) (a := 12) yd_by_cX12_sound_0 rfl rfl
theorem dX12_sound_32 : decode cX12_sound 32 = .ok (.if_icmp .gt 7, 3) := yd_op_163 (i := 32) (a := 0) (b := 7) yd_by_cX12_sound_0 rfl rfl
set_option maxRecDepth 100000 in
theorem yd_by_cX12_sound_1 : ydk cX12_sound 35 [4, 167, 0, 4, 3, 61, 3, 62, 29, 27, 162, 0, 41, 28, 153, 0, 37, 42, 42, 180, 0, 7, 29, 46, 42, 180, 0, 7, 29, 4] = true := by decide +kernel
theorem dX12_sound_35 : decode cX12_sound 35 = .ok (.iconst 1, 1) := yd_op_4 (i := 0) yd_by_cX12_sound_1 rfl rfl
theorem dX12_sound_36 : decode cX12_sound 36 = .ok (.goto 4, 3) := yd_op_167 (i := 1) (a := 0) (b := 4) yd_by_cX12_sound_1 rfl rfl
theorem dX12_sound_39 : decode cX12_sound 39 = .ok (.iconst 0, 1) := yd_op_3 (i := 4) yd_by_cX12_sound_1 rfl rfl
theorem dX12_sound_40 : decode cX12_sound 40 = .ok (.istore_n 2, 1) := yd_op_61 (i := 5) yd_by_cX12_sound_1 rfl rfl
theorem dX12_sound_41 : decode cX12_sound 41 = .ok (.iconst 0, 1) := yd_op_3 (i := 6) yd_by_cX12_sound_1 rfl rfl
theorem dX12_sound_42 : decode cX12_sound 42 = .ok (.istore_n 3, 1) := yd_op_62 (i := 7) yd_by_cX12_sound_1 rfl rfl
theorem dX12_sound_43 : decode cX12_sound 43 = .ok (.iload_n 3, 1) := yd_op_29 (i := 8) yd_by_cX12_sound_1 rfl rfl
theorem dX12_sound_44 : decode cX12_sound 44 = .ok (.iload_n 1, 1) := yd_op_27 (i := 9) yd_by_cX12_sound_1 rfl rfl
theorem dX12_sound_45 : decode cX12_sound 45 = .ok (.if_icmp .ge 41, 3) := yd_op_162 (i := 10) (a := 0) (b := 41) yd_by_cX12_sound_1 rfl rfl
theorem dX12_sound_48 : decode cX12_sound 48 = .ok (.iload_n 2, 1) := yd_op_28 (i := 13) yd_by_cX12_sound_1 rfl rfl
theorem dX12_sound_49 : decode cX12_sound 49 = .ok (.ifCond .eq 37, 3) := yd_op_153 (i := 14) (a := 0) (b := 37) yd_by_cX12_sound_1 rfl rfl
theorem dX12_sound_52 : decode cX12_sound 52 = .ok (.aload_n 0, 1) := yd_op_42 (i := 17) yd_by_cX12_sound_1 rfl rfl
theorem dX12_sound_53 : decode cX12_sound 53 = .ok (.aload_n 0, 1) := yd_op_42 (i := 18) yd_by_cX12_sound_1 rfl rfl
theorem dX12_sound_54 : decode cX12_sound 54 = .ok (.getfield 7, 3) := yd_op_180 (i := 19) (a := 0) (b := 7) yd_by_cX12_sound_1 rfl rfl
theorem dX12_sound_57 : decode cX12_sound 57 = .ok (.iload_n 3, 1) := yd_op_29 (i := 22) yd_by_cX12_sound_1 rfl rfl
theorem dX12_sound_58 : decode cX12_sound 58 = .ok (.iaload, 1) := yd_op_46 (i := 23) yd_by_cX12_sound_1 rfl rfl
theorem dX12_sound_59 : decode cX12_sound 59 = .ok (.aload_n 0, 1) := yd_op_42 (i := 24) yd_by_cX12_sound_1 rfl rfl
theorem dX12_sound_60 : decode cX12_sound 60 = .ok (.getfield 7, 3) := yd_op_180 (i := 25) (a := 0) (b := 7) yd_by_cX12_sound_1 rfl rfl
theorem dX12_sound_63 : decode cX12_sound 63 = .ok (.iload_n 3, 1) := yd_op_29 (i := 28) yd_by_cX12_sound_1 rfl rfl
theorem dX12_sound_64 : decode cX12_sound 64 = .ok (.iconst 1, 1) := yd_op_4 (i := 29) yd_by_cX12_sound_1 rfl rfl
set_option maxRecDepth 100000 in
theorem yd_by_cX12_sound_2 : ydk cX12_sound 65 [96, 46, 182, 1, 222, 2, 159, 0, 7, 4, 167, 0, 4, 3, 61, 132, 3, 4, 167, 255, 216, 28, 154, 0, 9, 42, 4, 182, 2, 11, 172, 42, 27, 7] = true := by decide +kernel
theorem dX12_sound_65 : decode cX12_sound 65 = .ok (.iadd, 1) := yd_op_96 (i := 0) yd_by_cX12_sound_2 rfl rfl
theorem dX12_sound_66 : decode cX12_sound 66 = .ok (.iaload, 1) := yd_op_46 (i := 1) yd_by_cX12_sound_2 rfl rfl
theorem dX12_sound_67 : decode cX12_sound 67 = .ok (.invokevirtual 478, 3) := yd_op_182 (i := 2) (a := 1) (b := 222) yd_by_cX12_sound_2 rfl rfl
theorem dX12_sound_70 : decode cX12_sound 70 = .ok (.iconst (-1), 1) := yd_op_2 (i := 5) yd_by_cX12_sound_2 rfl rfl
theorem dX12_sound_71 : decode cX12_sound 71 = .ok (.if_icmp .eq 7, 3) := yd_op_159 (i := 6) (a := 0) (b := 7) yd_by_cX12_sound_2 rfl rfl
theorem dX12_sound_74 : decode cX12_sound 74 = .ok (.iconst 1, 1) := yd_op_4 (i := 9) yd_by_cX12_sound_2 rfl rfl
theorem dX12_sound_75 : decode cX12_sound 75 = .ok (.goto 4, 3) := yd_op_167 (i := 10) (a := 0) (b := 4) yd_by_cX12_sound_2 rfl rfl
theorem dX12_sound_78 : decode cX12_sound 78 = .ok (.iconst 0, 1) := yd_op_3 (i := 13) yd_by_cX12_sound_2 rfl rfl
theorem dX12_sound_79 : decode cX12_sound 79 = .ok (.istore_n 2, 1) := yd_op_61 (i := 14) yd_by_cX12_sound_2 rfl rfl
theorem dX12_sound_80 : decode cX12_sound 80 = .ok (.iinc 3 4, 3) := yd_op_132 (i := 15) (a := 3) (b := 4) yd_by_cX12_sound_2 rfl rfl
theorem dX12_sound_83 : decode cX12_sound 83 = .ok (.goto (-40), 3) := yd_op_167 (i := 18) (a := 255) (b := 216) yd_by_cX12_sound_2 rfl rfl
theorem dX12_sound_86 : decode cX12_sound 86 = .ok (.iload_n 2, 1) := yd_op_28 (i := 21) yd_by_cX12_sound_2 rfl rfl
theorem dX12_sound_87 : decode cX12_sound 87 = .ok (.ifCond .ne 9, 3) := yd_op_154 (i := 22) (a := 0) (b := 9) yd_by_cX12_sound_2 rfl rfl
theorem dX12_sound_90 : decode cX12_sound 90 = .ok (.aload_n 0, 1) := yd_op_42 (i := 25) yd_by_cX12_sound_2 rfl rfl
theorem dX12_sound_91 : decode cX12_sound 91 = .ok (.iconst 1, 1) := yd_op_4 (i := 26) yd_by_cX12_sound_2 rfl rfl
theorem dX12_sound_92 : decode cX12_sound 92 = .ok (.invokevirtual 523, 3) := yd_op_182 (i := 27) (a := 2) (b := 11) yd_by_cX12_sound_2 rfl rfl
theorem dX12_sound_95 : decode cX12_sound 95 = .ok (.ireturn, 1) := yd_op_172 (i := 30) yd_by_cX12_sound_2 rfl rfl
theorem dX12_sound_96 : decode cX12_sound 96 = .ok (.aload_n 0, 1) := yd_op_42 (i := 31) yd_by_cX12_sound_2 rfl rfl
theorem dX12_sound_97 : decode cX12_sound 97 = .ok (.iload_n 1, 1) := yd_op_27 (i := 32) yd_by_cX12_sound_2 rfl rfl
theorem dX12_sound_98 : decode cX12_sound 98 = .ok (.iconst 4, 1) := yd_op_7 (i := 33) yd_by_cX12_sound_2 rfl rfl
set_option maxRecDepth 100000 in
theorem yd_by_cX12_sound_3 : ydk cX12_sound 99 [108, 181, 1, 126, 3, 62, 29, 42, 180, 1, 126, 162, 0, 78, 42, 180, 0, 146, 5, 29, 104, 42, 42, 180, 0, 7, 7, 29, 104, 46] = true := by decide +kernel
theorem dX12_sound_99 : decode cX12_sound 99 = .ok (.idiv, 1) := yd_op_108 (i := 0) yd_by_cX12_sound_3 rfl rfl
theorem dX12_sound_100 : decode cX12_sound 100 = .ok (.putfield 382, 3) := yd_op_181 (i := 1) (a := 1) (b := 126) yd_by_cX12_sound_3 rfl rfl
theorem dX12_sound_103 : decode cX12_sound 103 = .ok (.iconst 0, 1) := yd_op_3 (i := 4) yd_by_cX12_sound_3 rfl rfl
theorem dX12_sound_104 : decode cX12_sound 104 = .ok (.istore_n 3, 1) := yd_op_62 (i := 5) yd_by_cX12_sound_3 rfl rfl
theorem dX12_sound_105 : decode cX12_sound 105 = .ok (.iload_n 3, 1) := yd_op_29 (i := 6) yd_by_cX12_sound_3 rfl rfl
theorem dX12_sound_106 : decode cX12_sound 106 = .ok (.aload_n 0, 1) := yd_op_42 (i := 7) yd_by_cX12_sound_3 rfl rfl
theorem dX12_sound_107 : decode cX12_sound 107 = .ok (.getfield 382, 3) := yd_op_180 (i := 8) (a := 1) (b := 126) yd_by_cX12_sound_3 rfl rfl
theorem dX12_sound_110 : decode cX12_sound 110 = .ok (.if_icmp .ge 78, 3) := yd_op_162 (i := 11) (a := 0) (b := 78) yd_by_cX12_sound_3 rfl rfl
theorem dX12_sound_113 : decode cX12_sound 113 = .ok (.aload_n 0, 1) := yd_op_42 (i := 14) yd_by_cX12_sound_3 rfl rfl
theorem dX12_sound_114 : decode cX12_sound 114 = .ok (.getfield 146, 3) := yd_op_180 (i := 15) (a := 0) (b := 146) yd_by_cX12_sound_3 rfl rfl
theorem dX12_sound_117 : decode cX12_sound 117 = .ok (.iconst 2, 1) := yd_op_5 (i := 18) yd_by_cX12_sound_3 rfl rfl
theorem dX12_sound_118 : decode cX12_sound 118 = .ok (.iload_n 3, 1) := yd_op_29 (i := 19) yd_by_cX12_sound_3 rfl rfl
theorem dX12_sound_119 : decode cX12_sound 119 = .ok (.imul, 1) := yd_op_104 (i := 20) yd_by_cX12_sound_3 rfl rfl
theorem dX12_sound_120 : decode cX12_sound 120 = .ok (.aload_n 0, 1) := yd_op_42 (i := 21) yd_by_cX12_sound_3 rfl rfl
theorem dX12_sound_121 : decode cX12_sound 121 = .ok (.aload_n 0, 1) := yd_op_42 (i := 22) yd_by_cX12_sound_3 rfl rfl
theorem dX12_sound_122 : decode cX12_sound 122 = .ok (.getfield 7, 3) := yd_op_180 (i := 23) (a := 0) (b := 7) yd_by_cX12_sound_3 rfl rfl
theorem dX12_sound_125 : decode cX12_sound 125 = .ok (.iconst 4, 1) := yd_op_7 (i := 26) yd_by_cX12_sound_3 rfl rfl
theorem dX12_sound_126 : decode cX12_sound 126 = .ok (.iload_n 3, 1) := yd_op_29 (i := 27) yd_by_cX12_sound_3 rfl rfl
theorem dX12_sound_127 : decode cX12_sound 127 = .ok (.imul, 1) := yd_op_104 (i := 28) yd_by_cX12_sound_3 rfl rfl
theorem dX12_sound_128 : decode cX12_sound 128 = .ok (.iaload, 1) := yd_op_46 (i := 29) yd_by_cX12_sound_3 rfl rfl
set_option maxRecDepth 100000 in
theorem yd_by_cX12_sound_4 : ydk cX12_sound 129 [42, 180, 0, 7, 7, 29, 104, 4, 96, 46, 182, 1, 222, 79, 42, 180, 0, 146, 5, 29, 104, 4, 96, 17, 1, 0, 42, 180, 0, 7] = true := by decide +kernel
theorem dX12_sound_129 : decode cX12_sound 129 = .ok (.aload_n 0, 1) := yd_op_42 (i := 0) yd_by_cX12_sound_4 rfl rfl
theorem dX12_sound_130 : decode cX12_sound 130 = .ok (.getfield 7, 3) := yd_op_180 (i := 1) (a := 0) (b := 7) yd_by_cX12_sound_4 rfl rfl
theorem dX12_sound_133 : decode cX12_sound 133 = .ok (.iconst 4, 1) := yd_op_7 (i := 4) yd_by_cX12_sound_4 rfl rfl
theorem dX12_sound_134 : decode cX12_sound 134 = .ok (.iload_n 3, 1) := yd_op_29 (i := 5) yd_by_cX12_sound_4 rfl rfl
theorem dX12_sound_135 : decode cX12_sound 135 = .ok (.imul, 1) := yd_op_104 (i := 6) yd_by_cX12_sound_4 rfl rfl
theorem dX12_sound_136 : decode cX12_sound 136 = .ok (.iconst 1, 1) := yd_op_4 (i := 7) yd_by_cX12_sound_4 rfl rfl
theorem dX12_sound_137 : decode cX12_sound 137 = .ok (.iadd, 1) := yd_op_96 (i := 8) yd_by_cX12_sound_4 rfl rfl
theorem dX12_sound_138 : decode cX12_sound 138 = .ok (.iaload, 1) := yd_op_46 (i := 9) yd_by_cX12_sound_4 rfl rfl
theorem dX12_sound_139 : decode cX12_sound 139 = .ok (.invokevirtual 478, 3) := yd_op_182 (i := 10) (a := 1) (b := 222) yd_by_cX12_sound_4 rfl rfl
theorem dX12_sound_142 : decode cX12_sound 142 = .ok (.iastore, 1) := yd_op_79 (i := 13) yd_by_cX12_sound_4 rfl rfl
theorem dX12_sound_143 : decode cX12_sound 143 = .ok (.aload_n 0, 1) := yd_op_42 (i := 14) yd_by_cX12_sound_4 rfl rfl
theorem dX12_sound_144 : decode cX12_sound 144 = .ok (.getfield 146, 3) := yd_op_180 (i := 15) (a := 0) (b := 146) yd_by_cX12_sound_4 rfl rfl
theorem dX12_sound_147 : decode cX12_sound 147 = .ok (.iconst 2, 1) := yd_op_5 (i := 18) yd_by_cX12_sound_4 rfl rfl
theorem dX12_sound_148 : decode cX12_sound 148 = .ok (.iload_n 3, 1) := yd_op_29 (i := 19) yd_by_cX12_sound_4 rfl rfl
theorem dX12_sound_149 : decode cX12_sound 149 = .ok (.imul, 1) := yd_op_104 (i := 20) yd_by_cX12_sound_4 rfl rfl
theorem dX12_sound_150 : decode cX12_sound 150 = .ok (.iconst 1, 1) := yd_op_4 (i := 21) yd_by_cX12_sound_4 rfl rfl
theorem dX12_sound_151 : decode cX12_sound 151 = .ok (.iadd, 1) := yd_op_96 (i := 22) yd_by_cX12_sound_4 rfl rfl
theorem dX12_sound_152 : decode cX12_sound 152 = .ok (.sipush 256, 3) := yd_op_17 (i := 23) (a := 1) (b := 0) yd_by_cX12_sound_4 rfl rfl
theorem dX12_sound_155 : decode cX12_sound 155 = .ok (.aload_n 0, 1) := yd_op_42 (i := 26) yd_by_cX12_sound_4 rfl rfl
theorem dX12_sound_156 : decode cX12_sound 156 = .ok (.getfield 7, 3) := yd_op_180 (i := 27) (a := 0) (b := 7) yd_by_cX12_sound_4 rfl rfl
set_option maxRecDepth 100000 in
theorem yd_by_cX12_sound_5 : ydk cX12_sound 159 [7, 29, 104, 5, 96, 46, 104, 42, 180, 0, 7, 7, 29, 104, 6, 96, 46, 96, 17, 1, 244, 100, 79, 132, 3, 1] = true := by decide +kernel
theorem dX12_sound_159 : decode cX12_sound 159 = .ok (.iconst 4, 1) := yd_op_7 (i := 0) yd_by_cX12_sound_5 rfl rfl
theorem dX12_sound_160 : decode cX12_sound 160 = .ok (.iload_n 3, 1) := yd_op_29 (i := 1) yd_by_cX12_sound_5 rfl rfl
theorem dX12_sound_161 : decode cX12_sound 161 = .ok (.imul, 1) := yd_op_104 (i := 2) yd_by_cX12_sound_5 rfl rfl
theorem dX12_sound_162 : decode cX12_sound 162 = .ok (.iconst 2, 1) := yd_op_5 (i := 3) yd_by_cX12_sound_5 rfl rfl
theorem dX12_sound_163 : decode cX12_sound 163 = .ok (.iadd, 1) := yd_op_96 (i := 4) yd_by_cX12_sound_5 rfl rfl
theorem dX12_sound_164 : decode cX12_sound 164 = .ok (.iaload, 1) := yd_op_46 (i := 5) yd_by_cX12_sound_5 rfl rfl
theorem dX12_sound_165 : decode cX12_sound 165 = .ok (.imul, 1) := yd_op_104 (i := 6) yd_by_cX12_sound_5 rfl rfl
theorem dX12_sound_166 : decode cX12_sound 166 = .ok (.aload_n 0, 1) := yd_op_42 (i := 7) yd_by_cX12_sound_5 rfl rfl
theorem dX12_sound_167 : decode cX12_sound 167 = .ok (.getfield 7, 3) := yd_op_180 (i := 8) (a := 0) (b := 7) yd_by_cX12_sound_5 rfl rfl
theorem dX12_sound_170 : decode cX12_sound 170 = .ok (.iconst 4, 1) := yd_op_7 (i := 11) yd_by_cX12_sound_5 rfl rfl
theorem dX12_sound_171 : decode cX12_sound 171 = .ok (.iload_n 3, 1) := yd_op_29 (i := 12) yd_by_cX12_sound_5 rfl rfl
theorem dX12_sound_172 : decode cX12_sound 172 = .ok (.imul, 1) := yd_op_104 (i := 13) yd_by_cX12_sound_5 rfl rfl
theorem dX12_sound_173 : decode cX12_sound 173 = .ok (.iconst 3, 1) := yd_op_6 (i := 14) yd_by_cX12_sound_5 rfl rfl
theorem dX12_sound_174 : decode cX12_sound 174 = .ok (.iadd, 1) := yd_op_96 (i := 15) yd_by_cX12_sound_5 rfl rfl
theorem dX12_sound_175 : decode cX12_sound 175 = .ok (.iaload, 1) := yd_op_46 (i := 16) yd_by_cX12_sound_5 rfl rfl
theorem dX12_sound_176 : decode cX12_sound 176 = .ok (.iadd, 1) := yd_op_96 (i := 17) yd_by_cX12_sound_5 rfl rfl
theorem dX12_sound_177 : decode cX12_sound 177 = .ok (.sipush 500, 3) := yd_op_17 (i := 18) (a := 1) (b := 244) yd_by_cX12_sound_5 rfl rfl
theorem dX12_sound_180 : decode cX12_sound 180 = .ok (.isub, 1) := yd_op_100 (i := 21) yd_by_cX12_sound_5 rfl rfl
theorem dX12_sound_181 : decode cX12_sound 181 = .ok (.iastore, 1) := yd_op_79 (i := 22) yd_by_cX12_sound_5 rfl rfl
theorem dX12_sound_182 : decode cX12_sound 182 = .ok (.iinc 3 1, 3) := yd_op_132 (i := 23) (a := 3) (b := 1) yd_by_cX12_sound_5 rfl rfl
set_option maxRecDepth 100000 in
theorem yd_by_cX12_sound_6 : ydk cX12_sound 185 [167, 255, 176, 42, 180, 1, 126, 172] = true := by decide +kernel
theorem dX12_sound_185 : decode cX12_sound 185 = .ok (.goto (-80), 3) := yd_op_167 (i := 0) (a := 255) (b := 176) yd_by_cX12_sound_6 rfl rfl
theorem dX12_sound_188 : decode cX12_sound 188 = .ok (.aload_n 0, 1) := yd_op_42 (i := 3) yd_by_cX12_sound_6 rfl rfl
theorem dX12_sound_189 : decode cX12_sound 189 = .ok (.getfield 382, 3) := yd_op_180 (i := 4) (a := 1) (b := 126) yd_by_cX12_sound_6 rfl rfl
theorem dX12_sound_192 : decode cX12_sound 192 = .ok (.ireturn, 1) := yd_op_172 (i := 7) yd_by_cX12_sound_6 rfl rfl
set_option maxRecDepth 100000 in
theorem yd_by_cX12_isAsHeard_0 : ydk cX12_isAsHeard 0 [3, 61, 28, 42, 180, 1, 126, 162, 0, 37, 42, 27, 42, 180, 0, 146, 5, 28, 104, 46, 182, 1, 189, 42, 180, 0, 146, 5, 28, 104] = true := by decide +kernel
theorem dX12_isAsHeard_0 : decode cX12_isAsHeard 0 = .ok (.iconst 0, 1) := yd_op_3 (i := 0) yd_by_cX12_isAsHeard_0 rfl rfl
theorem dX12_isAsHeard_1 : decode cX12_isAsHeard 1 = .ok (.istore_n 2, 1) := yd_op_61 (i := 1) yd_by_cX12_isAsHeard_0 rfl rfl
theorem dX12_isAsHeard_2 : decode cX12_isAsHeard 2 = .ok (.iload_n 2, 1) := yd_op_28 (i := 2) yd_by_cX12_isAsHeard_0 rfl rfl
theorem dX12_isAsHeard_3 : decode cX12_isAsHeard 3 = .ok (.aload_n 0, 1) := yd_op_42 (i := 3) yd_by_cX12_isAsHeard_0 rfl rfl
theorem dX12_isAsHeard_4 : decode cX12_isAsHeard 4 = .ok (.getfield 382, 3) := yd_op_180 (i := 4) (a := 1) (b := 126) yd_by_cX12_isAsHeard_0 rfl rfl
theorem dX12_isAsHeard_7 : decode cX12_isAsHeard 7 = .ok (.if_icmp .ge 37, 3) := yd_op_162 (i := 7) (a := 0) (b := 37) yd_by_cX12_isAsHeard_0 rfl rfl
theorem dX12_isAsHeard_10 : decode cX12_isAsHeard 10 = .ok (.aload_n 0, 1) := yd_op_42 (i := 10) yd_by_cX12_isAsHeard_0 rfl rfl
theorem dX12_isAsHeard_11 : decode cX12_isAsHeard 11 = .ok (.iload_n 1, 1) := yd_op_27 (i := 11) yd_by_cX12_isAsHeard_0 rfl rfl
theorem dX12_isAsHeard_12 : decode cX12_isAsHeard 12 = .ok (.aload_n 0, 1) := yd_op_42 (i := 12) yd_by_cX12_isAsHeard_0 rfl rfl
theorem dX12_isAsHeard_13 : decode cX12_isAsHeard 13 = .ok (.getfield 146, 3) := yd_op_180 (i := 13) (a := 0) (b := 146) yd_by_cX12_isAsHeard_0 rfl rfl
theorem dX12_isAsHeard_16 : decode cX12_isAsHeard 16 = .ok (.iconst 2, 1) := yd_op_5 (i := 16) yd_by_cX12_isAsHeard_0 rfl rfl
theorem dX12_isAsHeard_17 : decode cX12_isAsHeard 17 = .ok (.iload_n 2, 1) := yd_op_28 (i := 17) yd_by_cX12_isAsHeard_0 rfl rfl
theorem dX12_isAsHeard_18 : decode cX12_isAsHeard 18 = .ok (.imul, 1) := yd_op_104 (i := 18) yd_by_cX12_isAsHeard_0 rfl rfl
theorem dX12_isAsHeard_19 : decode cX12_isAsHeard 19 = .ok (.iaload, 1) := yd_op_46 (i := 19) yd_by_cX12_isAsHeard_0 rfl rfl
theorem dX12_isAsHeard_20 : decode cX12_isAsHeard 20 = .ok (.invokevirtual 445, 3) := yd_op_182 (i := 20) (a := 1) (b := 189) yd_by_cX12_isAsHeard_0 rfl rfl
theorem dX12_isAsHeard_23 : decode cX12_isAsHeard 23 = .ok (.aload_n 0, 1) := yd_op_42 (i := 23) yd_by_cX12_isAsHeard_0 rfl rfl
theorem dX12_isAsHeard_24 : decode cX12_isAsHeard 24 = .ok (.getfield 146, 3) := yd_op_180 (i := 24) (a := 0) (b := 146) yd_by_cX12_isAsHeard_0 rfl rfl
theorem dX12_isAsHeard_27 : decode cX12_isAsHeard 27 = .ok (.iconst 2, 1) := yd_op_5 (i := 27) yd_by_cX12_isAsHeard_0 rfl rfl
theorem dX12_isAsHeard_28 : decode cX12_isAsHeard 28 = .ok (.iload_n 2, 1) := yd_op_28 (i := 28) yd_by_cX12_isAsHeard_0 rfl rfl
theorem dX12_isAsHeard_29 : decode cX12_isAsHeard 29 = .ok (.imul, 1) := yd_op_104 (i := 29) yd_by_cX12_isAsHeard_0 rfl rfl
set_option maxRecDepth 100000 in
theorem yd_by_cX12_isAsHeard_1 : ydk cX12_isAsHeard 30 [4, 96, 46, 159, 0, 5, 3, 172, 132, 2, 1, 167, 255, 217, 4, 172] = true := by decide +kernel
theorem dX12_isAsHeard_30 : decode cX12_isAsHeard 30 = .ok (.iconst 1, 1) := yd_op_4 (i := 0) yd_by_cX12_isAsHeard_1 rfl rfl
theorem dX12_isAsHeard_31 : decode cX12_isAsHeard 31 = .ok (.iadd, 1) := yd_op_96 (i := 1) yd_by_cX12_isAsHeard_1 rfl rfl
theorem dX12_isAsHeard_32 : decode cX12_isAsHeard 32 = .ok (.iaload, 1) := yd_op_46 (i := 2) yd_by_cX12_isAsHeard_1 rfl rfl
theorem dX12_isAsHeard_33 : decode cX12_isAsHeard 33 = .ok (.if_icmp .eq 5, 3) := yd_op_159 (i := 3) (a := 0) (b := 5) yd_by_cX12_isAsHeard_1 rfl rfl
theorem dX12_isAsHeard_36 : decode cX12_isAsHeard 36 = .ok (.iconst 0, 1) := yd_op_3 (i := 6) yd_by_cX12_isAsHeard_1 rfl rfl
theorem dX12_isAsHeard_37 : decode cX12_isAsHeard 37 = .ok (.ireturn, 1) := yd_op_172 (i := 7) yd_by_cX12_isAsHeard_1 rfl rfl
theorem dX12_isAsHeard_38 : decode cX12_isAsHeard 38 = .ok (.iinc 2 1, 3) := yd_op_132 (i := 8) (a := 2) (b := 1) yd_by_cX12_isAsHeard_1 rfl rfl
theorem dX12_isAsHeard_41 : decode cX12_isAsHeard 41 = .ok (.goto (-39), 3) := yd_op_167 (i := 11) (a := 255) (b := 217) yd_by_cX12_isAsHeard_1 rfl rfl
theorem dX12_isAsHeard_44 : decode cX12_isAsHeard 44 = .ok (.iconst 1, 1) := yd_op_4 (i := 14) yd_by_cX12_isAsHeard_1 rfl rfl
theorem dX12_isAsHeard_45 : decode cX12_isAsHeard 45 = .ok (.ireturn, 1) := yd_op_172 (i := 15) yd_by_cX12_isAsHeard_1 rfl rfl
set_option maxRecDepth 100000 in
theorem yd_by_cX12_laysSets_0 : ydk cX12_laysSets 0 [42, 182, 1, 198, 42, 182, 1, 216, 60, 42, 3, 181, 2, 14, 3, 61, 28, 4, 42, 182, 1, 129, 120, 162, 0, 48, 28, 27, 2, 130] = true := by decide +kernel
theorem dX12_laysSets_0 : decode cX12_laysSets 0 = .ok (.aload_n 0, 1) := yd_op_42 (i := 0) yd_by_cX12_laysSets_0 rfl rfl
theorem dX12_laysSets_1 : decode cX12_laysSets 1 = .ok (.invokevirtual 454, 3) := yd_op_182 (i := 1) (a := 1) (b := 198) yd_by_cX12_laysSets_0 rfl rfl
theorem dX12_laysSets_4 : decode cX12_laysSets 4 = .ok (.aload_n 0, 1) := yd_op_42 (i := 4) yd_by_cX12_laysSets_0 rfl rfl
theorem dX12_laysSets_5 : decode cX12_laysSets 5 = .ok (.invokevirtual 472, 3) := yd_op_182 (i := 5) (a := 1) (b := 216) yd_by_cX12_laysSets_0 rfl rfl
theorem dX12_laysSets_8 : decode cX12_laysSets 8 = .ok (.istore_n 1, 1) := yd_op_60 (i := 8) yd_by_cX12_laysSets_0 rfl rfl
theorem dX12_laysSets_9 : decode cX12_laysSets 9 = .ok (.aload_n 0, 1) := yd_op_42 (i := 9) yd_by_cX12_laysSets_0 rfl rfl
theorem dX12_laysSets_10 : decode cX12_laysSets 10 = .ok (.iconst 0, 1) := yd_op_3 (i := 10) yd_by_cX12_laysSets_0 rfl rfl
theorem dX12_laysSets_11 : decode cX12_laysSets 11 = .ok (.putfield 526, 3) := yd_op_181 (i := 11) (a := 2) (b := 14) yd_by_cX12_laysSets_0 rfl rfl
theorem dX12_laysSets_14 : decode cX12_laysSets 14 = .ok (.iconst 0, 1) := yd_op_3 (i := 14) yd_by_cX12_laysSets_0 rfl rfl
theorem dX12_laysSets_15 : decode cX12_laysSets 15 = .ok (.istore_n 2, 1) := yd_op_61 (i := 15) yd_by_cX12_laysSets_0 rfl rfl
theorem dX12_laysSets_16 : decode cX12_laysSets 16 = .ok (.iload_n 2, 1) := yd_op_28 (i := 16) yd_by_cX12_laysSets_0 rfl rfl
theorem dX12_laysSets_17 : decode cX12_laysSets 17 = .ok (.iconst 1, 1) := yd_op_4 (i := 17) yd_by_cX12_laysSets_0 rfl rfl
theorem dX12_laysSets_18 : decode cX12_laysSets 18 = .ok (.aload_n 0, 1) := yd_op_42 (i := 18) yd_by_cX12_laysSets_0 rfl rfl
theorem dX12_laysSets_19 : decode cX12_laysSets 19 = .ok (.invokevirtual 385, 3) := yd_op_182 (i := 19) (a := 1) (b := 129) yd_by_cX12_laysSets_0 rfl rfl
theorem dX12_laysSets_22 : decode cX12_laysSets 22 = .ok (.ishl, 1) := yd_op_120 (i := 22) yd_by_cX12_laysSets_0 rfl rfl
theorem dX12_laysSets_23 : decode cX12_laysSets 23 = .ok (.if_icmp .ge 48, 3) := yd_op_162 (i := 23) (a := 0) (b := 48) yd_by_cX12_laysSets_0 rfl rfl
theorem dX12_laysSets_26 : decode cX12_laysSets 26 = .ok (.iload_n 2, 1) := yd_op_28 (i := 26) yd_by_cX12_laysSets_0 rfl rfl
theorem dX12_laysSets_27 : decode cX12_laysSets 27 = .ok (.iload_n 1, 1) := yd_op_27 (i := 27) yd_by_cX12_laysSets_0 rfl rfl
theorem dX12_laysSets_28 : decode cX12_laysSets 28 = .ok (.iconst (-1), 1) := yd_op_2 (i := 28) yd_by_cX12_laysSets_0 rfl rfl
theorem dX12_laysSets_29 : decode cX12_laysSets 29 = .ok (.ixor, 1) := yd_op_130 (i := 29) yd_by_cX12_laysSets_0 rfl rfl
set_option maxRecDepth 100000 in
theorem yd_by_cX12_laysSets_1 : ydk cX12_laysSets 30 [126, 154, 0, 34, 42, 28, 182, 2, 17, 154, 0, 6, 167, 0, 23, 42, 180, 0, 149, 42, 180, 2, 14, 28, 79, 42, 89, 180, 2, 14, 4, 96, 181, 2, 14, 132, 2, 1] = true := by decide +kernel
theorem dX12_laysSets_30 : decode cX12_laysSets 30 = .ok (.iand, 1) := yd_op_126 (i := 0) yd_by_cX12_laysSets_1 rfl rfl
theorem dX12_laysSets_31 : decode cX12_laysSets 31 = .ok (.ifCond .ne 34, 3) := yd_op_154 (i := 1) (a := 0) (b := 34) yd_by_cX12_laysSets_1 rfl rfl
theorem dX12_laysSets_34 : decode cX12_laysSets 34 = .ok (.aload_n 0, 1) := yd_op_42 (i := 4) yd_by_cX12_laysSets_1 rfl rfl
theorem dX12_laysSets_35 : decode cX12_laysSets 35 = .ok (.iload_n 2, 1) := yd_op_28 (i := 5) yd_by_cX12_laysSets_1 rfl rfl
theorem dX12_laysSets_36 : decode cX12_laysSets 36 = .ok (.invokevirtual 529, 3) := yd_op_182 (i := 6) (a := 2) (b := 17) yd_by_cX12_laysSets_1 rfl rfl
theorem dX12_laysSets_39 : decode cX12_laysSets 39 = .ok (.ifCond .ne 6, 3) := yd_op_154 (i := 9) (a := 0) (b := 6) yd_by_cX12_laysSets_1 rfl rfl
theorem dX12_laysSets_42 : decode cX12_laysSets 42 = .ok (.goto 23, 3) := yd_op_167 (i := 12) (a := 0) (b := 23) yd_by_cX12_laysSets_1 rfl rfl
theorem dX12_laysSets_45 : decode cX12_laysSets 45 = .ok (.aload_n 0, 1) := yd_op_42 (i := 15) yd_by_cX12_laysSets_1 rfl rfl
theorem dX12_laysSets_46 : decode cX12_laysSets 46 = .ok (.getfield 149, 3) := yd_op_180 (i := 16) (a := 0) (b := 149) yd_by_cX12_laysSets_1 rfl rfl
theorem dX12_laysSets_49 : decode cX12_laysSets 49 = .ok (.aload_n 0, 1) := yd_op_42 (i := 19) yd_by_cX12_laysSets_1 rfl rfl
theorem dX12_laysSets_50 : decode cX12_laysSets 50 = .ok (.getfield 526, 3) := yd_op_180 (i := 20) (a := 2) (b := 14) yd_by_cX12_laysSets_1 rfl rfl
theorem dX12_laysSets_53 : decode cX12_laysSets 53 = .ok (.iload_n 2, 1) := yd_op_28 (i := 23) yd_by_cX12_laysSets_1 rfl rfl
theorem dX12_laysSets_54 : decode cX12_laysSets 54 = .ok (.iastore, 1) := yd_op_79 (i := 24) yd_by_cX12_laysSets_1 rfl rfl
theorem dX12_laysSets_55 : decode cX12_laysSets 55 = .ok (.aload_n 0, 1) := yd_op_42 (i := 25) yd_by_cX12_laysSets_1 rfl rfl
theorem dX12_laysSets_56 : decode cX12_laysSets 56 = .ok (.dup, 1) := yd_op_89 (i := 26) yd_by_cX12_laysSets_1 rfl rfl
theorem dX12_laysSets_57 : decode cX12_laysSets 57 = .ok (.getfield 526, 3) := yd_op_180 (i := 27) (a := 2) (b := 14) yd_by_cX12_laysSets_1 rfl rfl
theorem dX12_laysSets_60 : decode cX12_laysSets 60 = .ok (.iconst 1, 1) := yd_op_4 (i := 30) yd_by_cX12_laysSets_1 rfl rfl
theorem dX12_laysSets_61 : decode cX12_laysSets 61 = .ok (.iadd, 1) := yd_op_96 (i := 31) yd_by_cX12_laysSets_1 rfl rfl
theorem dX12_laysSets_62 : decode cX12_laysSets 62 = .ok (.putfield 526, 3) := yd_op_181 (i := 32) (a := 2) (b := 14) yd_by_cX12_laysSets_1 rfl rfl
theorem dX12_laysSets_65 : decode cX12_laysSets 65 = .ok (.iinc 2 1, 3) := yd_op_132 (i := 35) (a := 2) (b := 1) yd_by_cX12_laysSets_1 rfl rfl
set_option maxRecDepth 100000 in
theorem yd_by_cX12_laysSets_2 : ydk cX12_laysSets 68 [167, 255, 204, 177] = true := by decide +kernel
theorem dX12_laysSets_68 : decode cX12_laysSets 68 = .ok (.goto (-52), 3) := yd_op_167 (i := 0) (a := 255) (b := 204) yd_by_cX12_laysSets_2 rfl rfl
theorem dX12_laysSets_71 : decode cX12_laysSets 71 = .ok (.return_, 1) := yd_op_177 (i := 3) yd_by_cX12_laysSets_2 rfl rfl
set_option maxRecDepth 100000 in
theorem yd_by_cX12_who_0 : ydk cX12_who 0 [42, 180, 1, 119, 153, 0, 15, 27, 133, 9, 20, 1, 233, 184, 1, 33, 154, 0, 5, 2, 172, 42, 182, 2, 20, 4, 42, 182, 1, 129, 120, 4, 100, 61] = true := by decide +kernel
theorem dX12_who_0 : decode cX12_who 0 = .ok (.aload_n 0, 1) := yd_op_42 (i := 0) yd_by_cX12_who_0 rfl rfl
theorem dX12_who_1 : decode cX12_who 1 = .ok (.getfield 375, 3) := yd_op_180 (i := 1) (a := 1) (b := 119) yd_by_cX12_who_0 rfl rfl
theorem dX12_who_4 : decode cX12_who 4 = .ok (.ifCond .eq 15, 3) := yd_op_153 (i := 4) (a := 0) (b := 15) yd_by_cX12_who_0 rfl rfl
theorem dX12_who_7 : decode cX12_who 7 = .ok (.iload_n 1, 1) := yd_op_27 (i := 7) yd_by_cX12_who_0 rfl rfl
theorem dX12_who_8 : decode cX12_who 8 = .ok (.i2l, 1) := yd_op_133 (i := 8) yd_by_cX12_who_0 rfl rfl
theorem dX12_who_9 : decode cX12_who 9 = .ok (.lconst 0, 1) := yd_op_9 (i := 9) yd_by_cX12_who_0 rfl rfl
theorem dX12_who_10 : decode cX12_who 10 = .ok (.ldc2_w 489, 3) := yd_op_20 (i := 10) (a := 1) (b := 233) yd_by_cX12_who_0 rfl rfl
theorem dX12_who_13 : decode cX12_who 13 = .ok (.invokestatic 289, 3) := yd_op_184 (i := 13) (a := 1) (b := 33) yd_by_cX12_who_0 rfl rfl
theorem dX12_who_16 : decode cX12_who 16 = .ok (.ifCond .ne 5, 3) := yd_op_154 (i := 16) (a := 0) (b := 5) yd_by_cX12_who_0 rfl rfl
theorem dX12_who_19 : decode cX12_who 19 = .ok (.iconst (-1), 1) := yd_op_2 (i := 19) yd_by_cX12_who_0 rfl rfl
theorem dX12_who_20 : decode cX12_who 20 = .ok (.ireturn, 1) := yd_op_172 (i := 20) yd_by_cX12_who_0 rfl rfl
theorem dX12_who_21 : decode cX12_who 21 = .ok (.aload_n 0, 1) := yd_op_42 (i := 21) yd_by_cX12_who_0 rfl rfl
theorem dX12_who_22 : decode cX12_who 22 = .ok (.invokevirtual 532, 3) := yd_op_182 (i := 22) (a := 2) (b := 20) yd_by_cX12_who_0 rfl rfl
theorem dX12_who_25 : decode cX12_who 25 = .ok (.iconst 1, 1) := yd_op_4 (i := 25) yd_by_cX12_who_0 rfl rfl
theorem dX12_who_26 : decode cX12_who 26 = .ok (.aload_n 0, 1) := yd_op_42 (i := 26) yd_by_cX12_who_0 rfl rfl
theorem dX12_who_27 : decode cX12_who 27 = .ok (.invokevirtual 385, 3) := yd_op_182 (i := 27) (a := 1) (b := 129) yd_by_cX12_who_0 rfl rfl
theorem dX12_who_30 : decode cX12_who 30 = .ok (.ishl, 1) := yd_op_120 (i := 30) yd_by_cX12_who_0 rfl rfl
theorem dX12_who_31 : decode cX12_who 31 = .ok (.iconst 1, 1) := yd_op_4 (i := 31) yd_by_cX12_who_0 rfl rfl
theorem dX12_who_32 : decode cX12_who 32 = .ok (.isub, 1) := yd_op_100 (i := 32) yd_by_cX12_who_0 rfl rfl
theorem dX12_who_33 : decode cX12_who 33 = .ok (.istore_n 2, 1) := yd_op_61 (i := 33) yd_by_cX12_who_0 rfl rfl
set_option maxRecDepth 100000 in
theorem yd_by_cX12_who_1 : ydk cX12_who 34 [3, 62, 3, 54, 4, 21, 4, 42, 180, 2, 14, 162, 0, 29, 28, 42, 180, 0, 149, 21, 4, 46, 126, 61, 29, 42, 180, 0, 149, 21, 4, 46] = true := by decide +kernel
theorem dX12_who_34 : decode cX12_who 34 = .ok (.iconst 0, 1) := yd_op_3 (i := 0) yd_by_cX12_who_1 rfl rfl
theorem dX12_who_35 : decode cX12_who 35 = .ok (.istore_n 3, 1) := yd_op_62 (i := 1) yd_by_cX12_who_1 rfl rfl
theorem dX12_who_36 : decode cX12_who 36 = .ok (.iconst 0, 1) := yd_op_3 (i := 2) yd_by_cX12_who_1 rfl rfl
theorem dX12_who_37 : decode cX12_who 37 = .ok (.istore 4, 2) := yd_op_54 (i := 3) (a := 4) yd_by_cX12_who_1 rfl rfl
theorem dX12_who_39 : decode cX12_who 39 = .ok (.iload 4, 2) := yd_op_21 (i := 5) (a := 4) yd_by_cX12_who_1 rfl rfl
theorem dX12_who_41 : decode cX12_who 41 = .ok (.aload_n 0, 1) := yd_op_42 (i := 7) yd_by_cX12_who_1 rfl rfl
theorem dX12_who_42 : decode cX12_who 42 = .ok (.getfield 526, 3) := yd_op_180 (i := 8) (a := 2) (b := 14) yd_by_cX12_who_1 rfl rfl
theorem dX12_who_45 : decode cX12_who 45 = .ok (.if_icmp .ge 29, 3) := yd_op_162 (i := 11) (a := 0) (b := 29) yd_by_cX12_who_1 rfl rfl
theorem dX12_who_48 : decode cX12_who 48 = .ok (.iload_n 2, 1) := yd_op_28 (i := 14) yd_by_cX12_who_1 rfl rfl
theorem dX12_who_49 : decode cX12_who 49 = .ok (.aload_n 0, 1) := yd_op_42 (i := 15) yd_by_cX12_who_1 rfl rfl
theorem dX12_who_50 : decode cX12_who 50 = .ok (.getfield 149, 3) := yd_op_180 (i := 16) (a := 0) (b := 149) yd_by_cX12_who_1 rfl rfl
theorem dX12_who_53 : decode cX12_who 53 = .ok (.iload 4, 2) := yd_op_21 (i := 19) (a := 4) yd_by_cX12_who_1 rfl rfl
theorem dX12_who_55 : decode cX12_who 55 = .ok (.iaload, 1) := yd_op_46 (i := 21) yd_by_cX12_who_1 rfl rfl
theorem dX12_who_56 : decode cX12_who 56 = .ok (.iand, 1) := yd_op_126 (i := 22) yd_by_cX12_who_1 rfl rfl
theorem dX12_who_57 : decode cX12_who 57 = .ok (.istore_n 2, 1) := yd_op_61 (i := 23) yd_by_cX12_who_1 rfl rfl
theorem dX12_who_58 : decode cX12_who 58 = .ok (.iload_n 3, 1) := yd_op_29 (i := 24) yd_by_cX12_who_1 rfl rfl
theorem dX12_who_59 : decode cX12_who 59 = .ok (.aload_n 0, 1) := yd_op_42 (i := 25) yd_by_cX12_who_1 rfl rfl
theorem dX12_who_60 : decode cX12_who 60 = .ok (.getfield 149, 3) := yd_op_180 (i := 26) (a := 0) (b := 149) yd_by_cX12_who_1 rfl rfl
theorem dX12_who_63 : decode cX12_who 63 = .ok (.iload 4, 2) := yd_op_21 (i := 29) (a := 4) yd_by_cX12_who_1 rfl rfl
theorem dX12_who_65 : decode cX12_who 65 = .ok (.iaload, 1) := yd_op_46 (i := 31) yd_by_cX12_who_1 rfl rfl
set_option maxRecDepth 100000 in
theorem yd_by_cX12_who_2 : ydk cX12_who 66 [128, 62, 132, 4, 1, 167, 255, 224, 27, 154, 0, 10, 42, 180, 2, 14, 167, 0, 24, 27, 4, 160, 0, 18, 42, 180, 2, 14, 154, 0, 7, 3, 167, 0, 8, 28, 167, 0, 4, 29] = true := by decide +kernel
theorem dX12_who_66 : decode cX12_who 66 = .ok (.ior, 1) := yd_op_128 (i := 0) yd_by_cX12_who_2 rfl rfl
theorem dX12_who_67 : decode cX12_who 67 = .ok (.istore_n 3, 1) := yd_op_62 (i := 1) yd_by_cX12_who_2 rfl rfl
theorem dX12_who_68 : decode cX12_who 68 = .ok (.iinc 4 1, 3) := yd_op_132 (i := 2) (a := 4) (b := 1) yd_by_cX12_who_2 rfl rfl
theorem dX12_who_71 : decode cX12_who 71 = .ok (.goto (-32), 3) := yd_op_167 (i := 5) (a := 255) (b := 224) yd_by_cX12_who_2 rfl rfl
theorem dX12_who_74 : decode cX12_who 74 = .ok (.iload_n 1, 1) := yd_op_27 (i := 8) yd_by_cX12_who_2 rfl rfl
theorem dX12_who_75 : decode cX12_who 75 = .ok (.ifCond .ne 10, 3) := yd_op_154 (i := 9) (a := 0) (b := 10) yd_by_cX12_who_2 rfl rfl
theorem dX12_who_78 : decode cX12_who 78 = .ok (.aload_n 0, 1) := yd_op_42 (i := 12) yd_by_cX12_who_2 rfl rfl
theorem dX12_who_79 : decode cX12_who 79 = .ok (.getfield 526, 3) := yd_op_180 (i := 13) (a := 2) (b := 14) yd_by_cX12_who_2 rfl rfl
theorem dX12_who_82 : decode cX12_who 82 = .ok (.goto 24, 3) := yd_op_167 (i := 16) (a := 0) (b := 24) yd_by_cX12_who_2 rfl rfl
theorem dX12_who_85 : decode cX12_who 85 = .ok (.iload_n 1, 1) := yd_op_27 (i := 19) yd_by_cX12_who_2 rfl rfl
theorem dX12_who_86 : decode cX12_who 86 = .ok (.iconst 1, 1) := yd_op_4 (i := 20) yd_by_cX12_who_2 rfl rfl
theorem dX12_who_87 : decode cX12_who 87 = .ok (.if_icmp .ne 18, 3) := yd_op_160 (i := 21) (a := 0) (b := 18) yd_by_cX12_who_2 rfl rfl
theorem dX12_who_90 : decode cX12_who 90 = .ok (.aload_n 0, 1) := yd_op_42 (i := 24) yd_by_cX12_who_2 rfl rfl
theorem dX12_who_91 : decode cX12_who 91 = .ok (.getfield 526, 3) := yd_op_180 (i := 25) (a := 2) (b := 14) yd_by_cX12_who_2 rfl rfl
theorem dX12_who_94 : decode cX12_who 94 = .ok (.ifCond .ne 7, 3) := yd_op_154 (i := 28) (a := 0) (b := 7) yd_by_cX12_who_2 rfl rfl
theorem dX12_who_97 : decode cX12_who 97 = .ok (.iconst 0, 1) := yd_op_3 (i := 31) yd_by_cX12_who_2 rfl rfl
theorem dX12_who_98 : decode cX12_who 98 = .ok (.goto 8, 3) := yd_op_167 (i := 32) (a := 0) (b := 8) yd_by_cX12_who_2 rfl rfl
theorem dX12_who_101 : decode cX12_who 101 = .ok (.iload_n 2, 1) := yd_op_28 (i := 35) yd_by_cX12_who_2 rfl rfl
theorem dX12_who_102 : decode cX12_who 102 = .ok (.goto 4, 3) := yd_op_167 (i := 36) (a := 0) (b := 4) yd_by_cX12_who_2 rfl rfl
theorem dX12_who_105 : decode cX12_who 105 = .ok (.iload_n 3, 1) := yd_op_29 (i := 39) yd_by_cX12_who_2 rfl rfl
set_option maxRecDepth 100000 in
theorem yd_by_cX12_who_3 : ydk cX12_who 106 [172] = true := by decide +kernel
theorem dX12_who_106 : decode cX12_who 106 = .ok (.ireturn, 1) := yd_op_172 (i := 0) yd_by_cX12_who_3 rfl rfl
set_option maxRecDepth 100000 in
theorem yd_by_cX12_mostAlike_0 : ydk cX12_mostAlike 0 [3, 61, 3, 62, 29, 17, 3, 232, 162, 0, 16, 42, 180, 0, 152, 29, 3, 79, 132, 3, 1, 167, 255, 239, 3, 62, 29, 42, 180, 2, 14, 162, 0, 52] = true := by decide +kernel
theorem dX12_mostAlike_0 : decode cX12_mostAlike 0 = .ok (.iconst 0, 1) := yd_op_3 (i := 0) yd_by_cX12_mostAlike_0 rfl rfl
theorem dX12_mostAlike_1 : decode cX12_mostAlike 1 = .ok (.istore_n 2, 1) := yd_op_61 (i := 1) yd_by_cX12_mostAlike_0 rfl rfl
theorem dX12_mostAlike_2 : decode cX12_mostAlike 2 = .ok (.iconst 0, 1) := yd_op_3 (i := 2) yd_by_cX12_mostAlike_0 rfl rfl
theorem dX12_mostAlike_3 : decode cX12_mostAlike 3 = .ok (.istore_n 3, 1) := yd_op_62 (i := 3) yd_by_cX12_mostAlike_0 rfl rfl
theorem dX12_mostAlike_4 : decode cX12_mostAlike 4 = .ok (.iload_n 3, 1) := yd_op_29 (i := 4) yd_by_cX12_mostAlike_0 rfl rfl
theorem dX12_mostAlike_5 : decode cX12_mostAlike 5 = .ok (.sipush 1000, 3) := yd_op_17 (i := 5) (a := 3) (b := 232) yd_by_cX12_mostAlike_0 rfl rfl
theorem dX12_mostAlike_8 : decode cX12_mostAlike 8 = .ok (.if_icmp .ge 16, 3) := yd_op_162 (i := 8) (a := 0) (b := 16) yd_by_cX12_mostAlike_0 rfl rfl
theorem dX12_mostAlike_11 : decode cX12_mostAlike 11 = .ok (.aload_n 0, 1) := yd_op_42 (i := 11) yd_by_cX12_mostAlike_0 rfl rfl
theorem dX12_mostAlike_12 : decode cX12_mostAlike 12 = .ok (.getfield 152, 3) := yd_op_180 (i := 12) (a := 0) (b := 152) yd_by_cX12_mostAlike_0 rfl rfl
theorem dX12_mostAlike_15 : decode cX12_mostAlike 15 = .ok (.iload_n 3, 1) := yd_op_29 (i := 15) yd_by_cX12_mostAlike_0 rfl rfl
theorem dX12_mostAlike_16 : decode cX12_mostAlike 16 = .ok (.iconst 0, 1) := yd_op_3 (i := 16) yd_by_cX12_mostAlike_0 rfl rfl
theorem dX12_mostAlike_17 : decode cX12_mostAlike 17 = .ok (.iastore, 1) := yd_op_79 (i := 17) yd_by_cX12_mostAlike_0 rfl rfl
theorem dX12_mostAlike_18 : decode cX12_mostAlike 18 = .ok (.iinc 3 1, 3) := yd_op_132 (i := 18) (a := 3) (b := 1) yd_by_cX12_mostAlike_0 rfl rfl
theorem dX12_mostAlike_21 : decode cX12_mostAlike 21 = .ok (.goto (-17), 3) := yd_op_167 (i := 21) (a := 255) (b := 239) yd_by_cX12_mostAlike_0 rfl rfl
theorem dX12_mostAlike_24 : decode cX12_mostAlike 24 = .ok (.iconst 0, 1) := yd_op_3 (i := 24) yd_by_cX12_mostAlike_0 rfl rfl
theorem dX12_mostAlike_25 : decode cX12_mostAlike 25 = .ok (.istore_n 3, 1) := yd_op_62 (i := 25) yd_by_cX12_mostAlike_0 rfl rfl
theorem dX12_mostAlike_26 : decode cX12_mostAlike 26 = .ok (.iload_n 3, 1) := yd_op_29 (i := 26) yd_by_cX12_mostAlike_0 rfl rfl
theorem dX12_mostAlike_27 : decode cX12_mostAlike 27 = .ok (.aload_n 0, 1) := yd_op_42 (i := 27) yd_by_cX12_mostAlike_0 rfl rfl
theorem dX12_mostAlike_28 : decode cX12_mostAlike 28 = .ok (.getfield 526, 3) := yd_op_180 (i := 28) (a := 2) (b := 14) yd_by_cX12_mostAlike_0 rfl rfl
theorem dX12_mostAlike_31 : decode cX12_mostAlike 31 = .ok (.if_icmp .ge 52, 3) := yd_op_162 (i := 31) (a := 0) (b := 52) yd_by_cX12_mostAlike_0 rfl rfl
set_option maxRecDepth 100000 in
theorem yd_by_cX12_mostAlike_1 : ydk cX12_mostAlike 34 [42, 42, 180, 0, 149, 29, 46, 27, 182, 1, 186, 54, 4, 42, 180, 0, 152, 21, 4, 92, 46, 4, 96, 79, 42, 180, 0, 152, 21, 4, 46] = true := by decide +kernel
theorem dX12_mostAlike_34 : decode cX12_mostAlike 34 = .ok (.aload_n 0, 1) := yd_op_42 (i := 0) yd_by_cX12_mostAlike_1 rfl rfl
theorem dX12_mostAlike_35 : decode cX12_mostAlike 35 = .ok (.aload_n 0, 1) := yd_op_42 (i := 1) yd_by_cX12_mostAlike_1 rfl rfl
theorem dX12_mostAlike_36 : decode cX12_mostAlike 36 = .ok (.getfield 149, 3) := yd_op_180 (i := 2) (a := 0) (b := 149) yd_by_cX12_mostAlike_1 rfl rfl
theorem dX12_mostAlike_39 : decode cX12_mostAlike 39 = .ok (.iload_n 3, 1) := yd_op_29 (i := 5) yd_by_cX12_mostAlike_1 rfl rfl
theorem dX12_mostAlike_40 : decode cX12_mostAlike 40 = .ok (.iaload, 1) := yd_op_46 (i := 6) yd_by_cX12_mostAlike_1 rfl rfl
theorem dX12_mostAlike_41 : decode cX12_mostAlike 41 = .ok (.iload_n 1, 1) := yd_op_27 (i := 7) yd_by_cX12_mostAlike_1 rfl rfl
theorem dX12_mostAlike_42 : decode cX12_mostAlike 42 = .ok (.invokevirtual 442, 3) := yd_op_182 (i := 8) (a := 1) (b := 186) yd_by_cX12_mostAlike_1 rfl rfl
theorem dX12_mostAlike_45 : decode cX12_mostAlike 45 = .ok (.istore 4, 2) := yd_op_54 (i := 11) (a := 4) yd_by_cX12_mostAlike_1 rfl rfl
theorem dX12_mostAlike_47 : decode cX12_mostAlike 47 = .ok (.aload_n 0, 1) := yd_op_42 (i := 13) yd_by_cX12_mostAlike_1 rfl rfl
theorem dX12_mostAlike_48 : decode cX12_mostAlike 48 = .ok (.getfield 152, 3) := yd_op_180 (i := 14) (a := 0) (b := 152) yd_by_cX12_mostAlike_1 rfl rfl
theorem dX12_mostAlike_51 : decode cX12_mostAlike 51 = .ok (.iload 4, 2) := yd_op_21 (i := 17) (a := 4) yd_by_cX12_mostAlike_1 rfl rfl
theorem dX12_mostAlike_53 : decode cX12_mostAlike 53 = .ok (.dup2, 1) := yd_op_92 (i := 19) yd_by_cX12_mostAlike_1 rfl rfl
theorem dX12_mostAlike_54 : decode cX12_mostAlike 54 = .ok (.iaload, 1) := yd_op_46 (i := 20) yd_by_cX12_mostAlike_1 rfl rfl
theorem dX12_mostAlike_55 : decode cX12_mostAlike 55 = .ok (.iconst 1, 1) := yd_op_4 (i := 21) yd_by_cX12_mostAlike_1 rfl rfl
theorem dX12_mostAlike_56 : decode cX12_mostAlike 56 = .ok (.iadd, 1) := yd_op_96 (i := 22) yd_by_cX12_mostAlike_1 rfl rfl
theorem dX12_mostAlike_57 : decode cX12_mostAlike 57 = .ok (.iastore, 1) := yd_op_79 (i := 23) yd_by_cX12_mostAlike_1 rfl rfl
theorem dX12_mostAlike_58 : decode cX12_mostAlike 58 = .ok (.aload_n 0, 1) := yd_op_42 (i := 24) yd_by_cX12_mostAlike_1 rfl rfl
theorem dX12_mostAlike_59 : decode cX12_mostAlike 59 = .ok (.getfield 152, 3) := yd_op_180 (i := 25) (a := 0) (b := 152) yd_by_cX12_mostAlike_1 rfl rfl
theorem dX12_mostAlike_62 : decode cX12_mostAlike 62 = .ok (.iload 4, 2) := yd_op_21 (i := 28) (a := 4) yd_by_cX12_mostAlike_1 rfl rfl
theorem dX12_mostAlike_64 : decode cX12_mostAlike 64 = .ok (.iaload, 1) := yd_op_46 (i := 30) yd_by_cX12_mostAlike_1 rfl rfl
set_option maxRecDepth 100000 in
theorem yd_by_cX12_mostAlike_2 : ydk cX12_mostAlike 65 [28, 164, 0, 11, 42, 180, 0, 152, 21, 4, 46, 61, 132, 3, 1, 167, 255, 202, 28, 172] = true := by decide +kernel
theorem dX12_mostAlike_65 : decode cX12_mostAlike 65 = .ok (.iload_n 2, 1) := yd_op_28 (i := 0) yd_by_cX12_mostAlike_2 rfl rfl
theorem dX12_mostAlike_66 : decode cX12_mostAlike 66 = .ok (.if_icmp .le 11, 3) := yd_op_164 (i := 1) (a := 0) (b := 11) yd_by_cX12_mostAlike_2 rfl rfl
theorem dX12_mostAlike_69 : decode cX12_mostAlike 69 = .ok (.aload_n 0, 1) := yd_op_42 (i := 4) yd_by_cX12_mostAlike_2 rfl rfl
theorem dX12_mostAlike_70 : decode cX12_mostAlike 70 = .ok (.getfield 152, 3) := yd_op_180 (i := 5) (a := 0) (b := 152) yd_by_cX12_mostAlike_2 rfl rfl
theorem dX12_mostAlike_73 : decode cX12_mostAlike 73 = .ok (.iload 4, 2) := yd_op_21 (i := 8) (a := 4) yd_by_cX12_mostAlike_2 rfl rfl
theorem dX12_mostAlike_75 : decode cX12_mostAlike 75 = .ok (.iaload, 1) := yd_op_46 (i := 10) yd_by_cX12_mostAlike_2 rfl rfl
theorem dX12_mostAlike_76 : decode cX12_mostAlike 76 = .ok (.istore_n 2, 1) := yd_op_61 (i := 11) yd_by_cX12_mostAlike_2 rfl rfl
theorem dX12_mostAlike_77 : decode cX12_mostAlike 77 = .ok (.iinc 3 1, 3) := yd_op_132 (i := 12) (a := 3) (b := 1) yd_by_cX12_mostAlike_2 rfl rfl
theorem dX12_mostAlike_80 : decode cX12_mostAlike 80 = .ok (.goto (-54), 3) := yd_op_167 (i := 15) (a := 255) (b := 202) yd_by_cX12_mostAlike_2 rfl rfl
theorem dX12_mostAlike_83 : decode cX12_mostAlike 83 = .ok (.iload_n 2, 1) := yd_op_28 (i := 18) yd_by_cX12_mostAlike_2 rfl rfl
theorem dX12_mostAlike_84 : decode cX12_mostAlike 84 = .ok (.ireturn, 1) := yd_op_172 (i := 19) yd_by_cX12_mostAlike_2 rfl rfl
set_option maxRecDepth 100000 in
theorem yd_by_cX12_knock_0 : ydk cX12_knock 0 [42, 180, 1, 119, 153, 0, 15, 27, 133, 9, 20, 1, 233, 184, 1, 33, 154, 0, 5, 2, 172, 42, 182, 2, 20, 2, 61, 3, 62, 3, 54, 4, 21, 4] = true := by decide +kernel
theorem dX12_knock_0 : decode cX12_knock 0 = .ok (.aload_n 0, 1) := yd_op_42 (i := 0) yd_by_cX12_knock_0 rfl rfl
theorem dX12_knock_1 : decode cX12_knock 1 = .ok (.getfield 375, 3) := yd_op_180 (i := 1) (a := 1) (b := 119) yd_by_cX12_knock_0 rfl rfl
theorem dX12_knock_4 : decode cX12_knock 4 = .ok (.ifCond .eq 15, 3) := yd_op_153 (i := 4) (a := 0) (b := 15) yd_by_cX12_knock_0 rfl rfl
theorem dX12_knock_7 : decode cX12_knock 7 = .ok (.iload_n 1, 1) := yd_op_27 (i := 7) yd_by_cX12_knock_0 rfl rfl
theorem dX12_knock_8 : decode cX12_knock 8 = .ok (.i2l, 1) := yd_op_133 (i := 8) yd_by_cX12_knock_0 rfl rfl
theorem dX12_knock_9 : decode cX12_knock 9 = .ok (.lconst 0, 1) := yd_op_9 (i := 9) yd_by_cX12_knock_0 rfl rfl
theorem dX12_knock_10 : decode cX12_knock 10 = .ok (.ldc2_w 489, 3) := yd_op_20 (i := 10) (a := 1) (b := 233) yd_by_cX12_knock_0 rfl rfl
theorem dX12_knock_13 : decode cX12_knock 13 = .ok (.invokestatic 289, 3) := yd_op_184 (i := 13) (a := 1) (b := 33) yd_by_cX12_knock_0 rfl rfl
theorem dX12_knock_16 : decode cX12_knock 16 = .ok (.ifCond .ne 5, 3) := yd_op_154 (i := 16) (a := 0) (b := 5) yd_by_cX12_knock_0 rfl rfl
theorem dX12_knock_19 : decode cX12_knock 19 = .ok (.iconst (-1), 1) := yd_op_2 (i := 19) yd_by_cX12_knock_0 rfl rfl
theorem dX12_knock_20 : decode cX12_knock 20 = .ok (.ireturn, 1) := yd_op_172 (i := 20) yd_by_cX12_knock_0 rfl rfl
theorem dX12_knock_21 : decode cX12_knock 21 = .ok (.aload_n 0, 1) := yd_op_42 (i := 21) yd_by_cX12_knock_0 rfl rfl
theorem dX12_knock_22 : decode cX12_knock 22 = .ok (.invokevirtual 532, 3) := yd_op_182 (i := 22) (a := 2) (b := 20) yd_by_cX12_knock_0 rfl rfl
theorem dX12_knock_25 : decode cX12_knock 25 = .ok (.iconst (-1), 1) := yd_op_2 (i := 25) yd_by_cX12_knock_0 rfl rfl
theorem dX12_knock_26 : decode cX12_knock 26 = .ok (.istore_n 2, 1) := yd_op_61 (i := 26) yd_by_cX12_knock_0 rfl rfl
theorem dX12_knock_27 : decode cX12_knock 27 = .ok (.iconst 0, 1) := yd_op_3 (i := 27) yd_by_cX12_knock_0 rfl rfl
theorem dX12_knock_28 : decode cX12_knock 28 = .ok (.istore_n 3, 1) := yd_op_62 (i := 28) yd_by_cX12_knock_0 rfl rfl
theorem dX12_knock_29 : decode cX12_knock 29 = .ok (.iconst 0, 1) := yd_op_3 (i := 29) yd_by_cX12_knock_0 rfl rfl
theorem dX12_knock_30 : decode cX12_knock 30 = .ok (.istore 4, 2) := yd_op_54 (i := 30) (a := 4) yd_by_cX12_knock_0 rfl rfl
theorem dX12_knock_32 : decode cX12_knock 32 = .ok (.iload 4, 2) := yd_op_21 (i := 32) (a := 4) yd_by_cX12_knock_0 rfl rfl
set_option maxRecDepth 100000 in
theorem yd_by_cX12_knock_1 : ydk cX12_knock 34 [42, 182, 1, 174, 162, 0, 64, 42, 180, 2, 14, 158, 0, 57, 42, 21, 4, 182, 1, 177, 54, 5, 42, 21, 5, 182, 1, 180, 153, 0, 6, 167, 0, 31, 42, 21, 5, 182, 2, 23, 54, 6, 28] = true := by decide +kernel
theorem dX12_knock_34 : decode cX12_knock 34 = .ok (.aload_n 0, 1) := yd_op_42 (i := 0) yd_by_cX12_knock_1 rfl rfl
theorem dX12_knock_35 : decode cX12_knock 35 = .ok (.invokevirtual 430, 3) := yd_op_182 (i := 1) (a := 1) (b := 174) yd_by_cX12_knock_1 rfl rfl
theorem dX12_knock_38 : decode cX12_knock 38 = .ok (.if_icmp .ge 64, 3) := yd_op_162 (i := 4) (a := 0) (b := 64) yd_by_cX12_knock_1 rfl rfl
theorem dX12_knock_41 : decode cX12_knock 41 = .ok (.aload_n 0, 1) := yd_op_42 (i := 7) yd_by_cX12_knock_1 rfl rfl
theorem dX12_knock_42 : decode cX12_knock 42 = .ok (.getfield 526, 3) := yd_op_180 (i := 8) (a := 2) (b := 14) yd_by_cX12_knock_1 rfl rfl
theorem dX12_knock_45 : decode cX12_knock 45 = .ok (.ifCond .le 57, 3) := yd_op_158 (i := 11) (a := 0) (b := 57) yd_by_cX12_knock_1 rfl rfl
theorem dX12_knock_48 : decode cX12_knock 48 = .ok (.aload_n 0, 1) := yd_op_42 (i := 14) yd_by_cX12_knock_1 rfl rfl
theorem dX12_knock_49 : decode cX12_knock 49 = .ok (.iload 4, 2) := yd_op_21 (i := 15) (a := 4) yd_by_cX12_knock_1 rfl rfl
theorem dX12_knock_51 : decode cX12_knock 51 = .ok (.invokevirtual 433, 3) := yd_op_182 (i := 17) (a := 1) (b := 177) yd_by_cX12_knock_1 rfl rfl
theorem dX12_knock_54 : decode cX12_knock 54 = .ok (.istore 5, 2) := yd_op_54 (i := 20) (a := 5) yd_by_cX12_knock_1 rfl rfl
theorem dX12_knock_56 : decode cX12_knock 56 = .ok (.aload_n 0, 1) := yd_op_42 (i := 22) yd_by_cX12_knock_1 rfl rfl
theorem dX12_knock_57 : decode cX12_knock 57 = .ok (.iload 5, 2) := yd_op_21 (i := 23) (a := 5) yd_by_cX12_knock_1 rfl rfl
theorem dX12_knock_59 : decode cX12_knock 59 = .ok (.invokevirtual 436, 3) := yd_op_182 (i := 25) (a := 1) (b := 180) yd_by_cX12_knock_1 rfl rfl
theorem dX12_knock_62 : decode cX12_knock 62 = .ok (.ifCond .eq 6, 3) := yd_op_153 (i := 28) (a := 0) (b := 6) yd_by_cX12_knock_1 rfl rfl
theorem dX12_knock_65 : decode cX12_knock 65 = .ok (.goto 31, 3) := yd_op_167 (i := 31) (a := 0) (b := 31) yd_by_cX12_knock_1 rfl rfl
theorem dX12_knock_68 : decode cX12_knock 68 = .ok (.aload_n 0, 1) := yd_op_42 (i := 34) yd_by_cX12_knock_1 rfl rfl
theorem dX12_knock_69 : decode cX12_knock 69 = .ok (.iload 5, 2) := yd_op_21 (i := 35) (a := 5) yd_by_cX12_knock_1 rfl rfl
theorem dX12_knock_71 : decode cX12_knock 71 = .ok (.invokevirtual 535, 3) := yd_op_182 (i := 37) (a := 2) (b := 23) yd_by_cX12_knock_1 rfl rfl
theorem dX12_knock_74 : decode cX12_knock 74 = .ok (.istore 6, 2) := yd_op_54 (i := 40) (a := 6) yd_by_cX12_knock_1 rfl rfl
theorem dX12_knock_76 : decode cX12_knock 76 = .ok (.iload_n 2, 1) := yd_op_28 (i := 42) yd_by_cX12_knock_1 rfl rfl
set_option maxRecDepth 100000 in
theorem yd_by_cX12_knock_2 : ydk cX12_knock 77 [2, 159, 0, 12, 21, 6, 29, 161, 0, 6, 167, 0, 9, 21, 5, 61, 21, 6, 62, 132, 4, 1, 167, 255, 189, 28, 2, 160, 0, 7, 2, 167, 0, 27, 27, 154, 0, 10, 28] = true := by decide +kernel
theorem dX12_knock_77 : decode cX12_knock 77 = .ok (.iconst (-1), 1) := yd_op_2 (i := 0) yd_by_cX12_knock_2 rfl rfl
theorem dX12_knock_78 : decode cX12_knock 78 = .ok (.if_icmp .eq 12, 3) := yd_op_159 (i := 1) (a := 0) (b := 12) yd_by_cX12_knock_2 rfl rfl
theorem dX12_knock_81 : decode cX12_knock 81 = .ok (.iload 6, 2) := yd_op_21 (i := 4) (a := 6) yd_by_cX12_knock_2 rfl rfl
theorem dX12_knock_83 : decode cX12_knock 83 = .ok (.iload_n 3, 1) := yd_op_29 (i := 6) yd_by_cX12_knock_2 rfl rfl
theorem dX12_knock_84 : decode cX12_knock 84 = .ok (.if_icmp .lt 6, 3) := yd_op_161 (i := 7) (a := 0) (b := 6) yd_by_cX12_knock_2 rfl rfl
theorem dX12_knock_87 : decode cX12_knock 87 = .ok (.goto 9, 3) := yd_op_167 (i := 10) (a := 0) (b := 9) yd_by_cX12_knock_2 rfl rfl
theorem dX12_knock_90 : decode cX12_knock 90 = .ok (.iload 5, 2) := yd_op_21 (i := 13) (a := 5) yd_by_cX12_knock_2 rfl rfl
theorem dX12_knock_92 : decode cX12_knock 92 = .ok (.istore_n 2, 1) := yd_op_61 (i := 15) yd_by_cX12_knock_2 rfl rfl
theorem dX12_knock_93 : decode cX12_knock 93 = .ok (.iload 6, 2) := yd_op_21 (i := 16) (a := 6) yd_by_cX12_knock_2 rfl rfl
theorem dX12_knock_95 : decode cX12_knock 95 = .ok (.istore_n 3, 1) := yd_op_62 (i := 18) yd_by_cX12_knock_2 rfl rfl
theorem dX12_knock_96 : decode cX12_knock 96 = .ok (.iinc 4 1, 3) := yd_op_132 (i := 19) (a := 4) (b := 1) yd_by_cX12_knock_2 rfl rfl
theorem dX12_knock_99 : decode cX12_knock 99 = .ok (.goto (-67), 3) := yd_op_167 (i := 22) (a := 255) (b := 189) yd_by_cX12_knock_2 rfl rfl
theorem dX12_knock_102 : decode cX12_knock 102 = .ok (.iload_n 2, 1) := yd_op_28 (i := 25) yd_by_cX12_knock_2 rfl rfl
theorem dX12_knock_103 : decode cX12_knock 103 = .ok (.iconst (-1), 1) := yd_op_2 (i := 26) yd_by_cX12_knock_2 rfl rfl
theorem dX12_knock_104 : decode cX12_knock 104 = .ok (.if_icmp .ne 7, 3) := yd_op_160 (i := 27) (a := 0) (b := 7) yd_by_cX12_knock_2 rfl rfl
theorem dX12_knock_107 : decode cX12_knock 107 = .ok (.iconst (-1), 1) := yd_op_2 (i := 30) yd_by_cX12_knock_2 rfl rfl
theorem dX12_knock_108 : decode cX12_knock 108 = .ok (.goto 27, 3) := yd_op_167 (i := 31) (a := 0) (b := 27) yd_by_cX12_knock_2 rfl rfl
theorem dX12_knock_111 : decode cX12_knock 111 = .ok (.iload_n 1, 1) := yd_op_27 (i := 34) yd_by_cX12_knock_2 rfl rfl
theorem dX12_knock_112 : decode cX12_knock 112 = .ok (.ifCond .ne 10, 3) := yd_op_154 (i := 35) (a := 0) (b := 10) yd_by_cX12_knock_2 rfl rfl
theorem dX12_knock_115 : decode cX12_knock 115 = .ok (.iload_n 2, 1) := yd_op_28 (i := 38) yd_by_cX12_knock_2 rfl rfl
set_option maxRecDepth 100000 in
theorem yd_by_cX12_knock_3 : ydk cX12_knock 116 [16, 6, 112, 167, 0, 16, 27, 4, 160, 0, 10, 28, 16, 6, 108, 167, 0, 4, 29, 172] = true := by decide +kernel
theorem dX12_knock_116 : decode cX12_knock 116 = .ok (.bipush 6, 2) := yd_op_16 (i := 0) (a := 6) yd_by_cX12_knock_3 rfl rfl
theorem dX12_knock_118 : decode cX12_knock 118 = .ok (.irem, 1) := yd_op_112 (i := 2) yd_by_cX12_knock_3 rfl rfl
theorem dX12_knock_119 : decode cX12_knock 119 = .ok (.goto 16, 3) := yd_op_167 (i := 3) (a := 0) (b := 16) yd_by_cX12_knock_3 rfl rfl
theorem dX12_knock_122 : decode cX12_knock 122 = .ok (.iload_n 1, 1) := yd_op_27 (i := 6) yd_by_cX12_knock_3 rfl rfl
theorem dX12_knock_123 : decode cX12_knock 123 = .ok (.iconst 1, 1) := yd_op_4 (i := 7) yd_by_cX12_knock_3 rfl rfl
theorem dX12_knock_124 : decode cX12_knock 124 = .ok (.if_icmp .ne 10, 3) := yd_op_160 (i := 8) (a := 0) (b := 10) yd_by_cX12_knock_3 rfl rfl
theorem dX12_knock_127 : decode cX12_knock 127 = .ok (.iload_n 2, 1) := yd_op_28 (i := 11) yd_by_cX12_knock_3 rfl rfl
theorem dX12_knock_128 : decode cX12_knock 128 = .ok (.bipush 6, 2) := yd_op_16 (i := 12) (a := 6) yd_by_cX12_knock_3 rfl rfl
theorem dX12_knock_130 : decode cX12_knock 130 = .ok (.idiv, 1) := yd_op_108 (i := 14) yd_by_cX12_knock_3 rfl rfl
theorem dX12_knock_131 : decode cX12_knock 131 = .ok (.goto 4, 3) := yd_op_167 (i := 15) (a := 0) (b := 4) yd_by_cX12_knock_3 rfl rfl
theorem dX12_knock_134 : decode cX12_knock 134 = .ok (.iload_n 3, 1) := yd_op_29 (i := 18) yd_by_cX12_knock_3 rfl rfl
theorem dX12_knock_135 : decode cX12_knock 135 = .ok (.ireturn, 1) := yd_op_172 (i := 19) yd_by_cX12_knock_3 rfl rfl
set_option maxRecDepth 100000 in
theorem yd_by_cX12_keeps_0 : ydk cX12_keeps 0 [42, 42, 180, 2, 26, 4, 96, 16, 20, 112, 181, 2, 26, 3, 60, 27, 17, 0, 188, 162, 0, 30, 42, 180, 0, 155, 17, 0, 188, 42, 180, 2, 26, 104, 27] = true := by decide +kernel
theorem dX12_keeps_0 : decode cX12_keeps 0 = .ok (.aload_n 0, 1) := yd_op_42 (i := 0) yd_by_cX12_keeps_0 rfl rfl
theorem dX12_keeps_1 : decode cX12_keeps 1 = .ok (.aload_n 0, 1) := yd_op_42 (i := 1) yd_by_cX12_keeps_0 rfl rfl
theorem dX12_keeps_2 : decode cX12_keeps 2 = .ok (.getfield 538, 3) := yd_op_180 (i := 2) (a := 2) (b := 26) yd_by_cX12_keeps_0 rfl rfl
theorem dX12_keeps_5 : decode cX12_keeps 5 = .ok (.iconst 1, 1) := yd_op_4 (i := 5) yd_by_cX12_keeps_0 rfl rfl
theorem dX12_keeps_6 : decode cX12_keeps 6 = .ok (.iadd, 1) := yd_op_96 (i := 6) yd_by_cX12_keeps_0 rfl rfl
theorem dX12_keeps_7 : decode cX12_keeps 7 = .ok (.bipush 20, 2) := yd_op_16 (i := 7) (a := 20) yd_by_cX12_keeps_0 rfl rfl
theorem dX12_keeps_9 : decode cX12_keeps 9 = .ok (.irem, 1) := yd_op_112 (i := 9) yd_by_cX12_keeps_0 rfl rfl
theorem dX12_keeps_10 : decode cX12_keeps 10 = .ok (.putfield 538, 3) := yd_op_181 (i := 10) (a := 2) (b := 26) yd_by_cX12_keeps_0 rfl rfl
theorem dX12_keeps_13 : decode cX12_keeps 13 = .ok (.iconst 0, 1) := yd_op_3 (i := 13) yd_by_cX12_keeps_0 rfl rfl
theorem dX12_keeps_14 : decode cX12_keeps 14 = .ok (.istore_n 1, 1) := yd_op_60 (i := 14) yd_by_cX12_keeps_0 rfl rfl
theorem dX12_keeps_15 : decode cX12_keeps 15 = .ok (.iload_n 1, 1) := yd_op_27 (i := 15) yd_by_cX12_keeps_0 rfl rfl
theorem dX12_keeps_16 : decode cX12_keeps 16 = .ok (.sipush 188, 3) := yd_op_17 (i := 16) (a := 0) (b := 188) yd_by_cX12_keeps_0 rfl rfl
theorem dX12_keeps_19 : decode cX12_keeps 19 = .ok (.if_icmp .ge 30, 3) := yd_op_162 (i := 19) (a := 0) (b := 30) yd_by_cX12_keeps_0 rfl rfl
theorem dX12_keeps_22 : decode cX12_keeps 22 = .ok (.aload_n 0, 1) := yd_op_42 (i := 22) yd_by_cX12_keeps_0 rfl rfl
theorem dX12_keeps_23 : decode cX12_keeps 23 = .ok (.getfield 155, 3) := yd_op_180 (i := 23) (a := 0) (b := 155) yd_by_cX12_keeps_0 rfl rfl
theorem dX12_keeps_26 : decode cX12_keeps 26 = .ok (.sipush 188, 3) := yd_op_17 (i := 26) (a := 0) (b := 188) yd_by_cX12_keeps_0 rfl rfl
theorem dX12_keeps_29 : decode cX12_keeps 29 = .ok (.aload_n 0, 1) := yd_op_42 (i := 29) yd_by_cX12_keeps_0 rfl rfl
theorem dX12_keeps_30 : decode cX12_keeps 30 = .ok (.getfield 538, 3) := yd_op_180 (i := 30) (a := 2) (b := 26) yd_by_cX12_keeps_0 rfl rfl
theorem dX12_keeps_33 : decode cX12_keeps 33 = .ok (.imul, 1) := yd_op_104 (i := 33) yd_by_cX12_keeps_0 rfl rfl
theorem dX12_keeps_34 : decode cX12_keeps 34 = .ok (.iload_n 1, 1) := yd_op_27 (i := 34) yd_by_cX12_keeps_0 rfl rfl
set_option maxRecDepth 100000 in
theorem yd_by_cX12_keeps_1 : ydk cX12_keeps 35 [96, 42, 180, 0, 130, 27, 46, 79, 132, 1, 1, 167, 255, 225, 42, 180, 1, 123, 16, 20, 162, 0, 13, 42, 89, 180, 1, 123, 4, 96, 181, 1, 123, 177] = true := by decide +kernel
theorem dX12_keeps_35 : decode cX12_keeps 35 = .ok (.iadd, 1) := yd_op_96 (i := 0) yd_by_cX12_keeps_1 rfl rfl
theorem dX12_keeps_36 : decode cX12_keeps 36 = .ok (.aload_n 0, 1) := yd_op_42 (i := 1) yd_by_cX12_keeps_1 rfl rfl
theorem dX12_keeps_37 : decode cX12_keeps 37 = .ok (.getfield 130, 3) := yd_op_180 (i := 2) (a := 0) (b := 130) yd_by_cX12_keeps_1 rfl rfl
theorem dX12_keeps_40 : decode cX12_keeps 40 = .ok (.iload_n 1, 1) := yd_op_27 (i := 5) yd_by_cX12_keeps_1 rfl rfl
theorem dX12_keeps_41 : decode cX12_keeps 41 = .ok (.iaload, 1) := yd_op_46 (i := 6) yd_by_cX12_keeps_1 rfl rfl
theorem dX12_keeps_42 : decode cX12_keeps 42 = .ok (.iastore, 1) := yd_op_79 (i := 7) yd_by_cX12_keeps_1 rfl rfl
theorem dX12_keeps_43 : decode cX12_keeps 43 = .ok (.iinc 1 1, 3) := yd_op_132 (i := 8) (a := 1) (b := 1) yd_by_cX12_keeps_1 rfl rfl
theorem dX12_keeps_46 : decode cX12_keeps 46 = .ok (.goto (-31), 3) := yd_op_167 (i := 11) (a := 255) (b := 225) yd_by_cX12_keeps_1 rfl rfl
theorem dX12_keeps_49 : decode cX12_keeps 49 = .ok (.aload_n 0, 1) := yd_op_42 (i := 14) yd_by_cX12_keeps_1 rfl rfl
theorem dX12_keeps_50 : decode cX12_keeps 50 = .ok (.getfield 379, 3) := yd_op_180 (i := 15) (a := 1) (b := 123) yd_by_cX12_keeps_1 rfl rfl
theorem dX12_keeps_53 : decode cX12_keeps 53 = .ok (.bipush 20, 2) := yd_op_16 (i := 18) (a := 20) yd_by_cX12_keeps_1 rfl rfl
theorem dX12_keeps_55 : decode cX12_keeps 55 = .ok (.if_icmp .ge 13, 3) := yd_op_162 (i := 20) (a := 0) (b := 13) yd_by_cX12_keeps_1 rfl rfl
theorem dX12_keeps_58 : decode cX12_keeps 58 = .ok (.aload_n 0, 1) := yd_op_42 (i := 23) yd_by_cX12_keeps_1 rfl rfl
theorem dX12_keeps_59 : decode cX12_keeps 59 = .ok (.dup, 1) := yd_op_89 (i := 24) yd_by_cX12_keeps_1 rfl rfl
theorem dX12_keeps_60 : decode cX12_keeps 60 = .ok (.getfield 379, 3) := yd_op_180 (i := 25) (a := 1) (b := 123) yd_by_cX12_keeps_1 rfl rfl
theorem dX12_keeps_63 : decode cX12_keeps 63 = .ok (.iconst 1, 1) := yd_op_4 (i := 28) yd_by_cX12_keeps_1 rfl rfl
theorem dX12_keeps_64 : decode cX12_keeps 64 = .ok (.iadd, 1) := yd_op_96 (i := 29) yd_by_cX12_keeps_1 rfl rfl
theorem dX12_keeps_65 : decode cX12_keeps 65 = .ok (.putfield 379, 3) := yd_op_181 (i := 30) (a := 1) (b := 123) yd_by_cX12_keeps_1 rfl rfl
theorem dX12_keeps_68 : decode cX12_keeps 68 = .ok (.return_, 1) := yd_op_177 (i := 33) yd_by_cX12_keeps_1 rfl rfl
set_option maxRecDepth 100000 in
theorem yd_by_cX12_undo_0 : ydk cX12_undo 0 [42, 180, 1, 123, 154, 0, 15, 42, 180, 0, 17, 7, 92, 46, 4, 96, 79, 3, 172, 3, 60, 27, 17, 0, 188, 162, 0, 30, 42, 180, 0, 130] = true := by decide +kernel
theorem dX12_undo_0 : decode cX12_undo 0 = .ok (.aload_n 0, 1) := yd_op_42 (i := 0) yd_by_cX12_undo_0 rfl rfl
theorem dX12_undo_1 : decode cX12_undo 1 = .ok (.getfield 379, 3) := yd_op_180 (i := 1) (a := 1) (b := 123) yd_by_cX12_undo_0 rfl rfl
theorem dX12_undo_4 : decode cX12_undo 4 = .ok (.ifCond .ne 15, 3) := yd_op_154 (i := 4) (a := 0) (b := 15) yd_by_cX12_undo_0 rfl rfl
theorem dX12_undo_7 : decode cX12_undo 7 = .ok (.aload_n 0, 1) := yd_op_42 (i := 7) yd_by_cX12_undo_0 rfl rfl
theorem dX12_undo_8 : decode cX12_undo 8 = .ok (.getfield 17, 3) := yd_op_180 (i := 8) (a := 0) (b := 17) yd_by_cX12_undo_0 rfl rfl
theorem dX12_undo_11 : decode cX12_undo 11 = .ok (.iconst 4, 1) := yd_op_7 (i := 11) yd_by_cX12_undo_0 rfl rfl
theorem dX12_undo_12 : decode cX12_undo 12 = .ok (.dup2, 1) := yd_op_92 (i := 12) yd_by_cX12_undo_0 rfl rfl
theorem dX12_undo_13 : decode cX12_undo 13 = .ok (.iaload, 1) := yd_op_46 (i := 13) yd_by_cX12_undo_0 rfl rfl
theorem dX12_undo_14 : decode cX12_undo 14 = .ok (.iconst 1, 1) := yd_op_4 (i := 14) yd_by_cX12_undo_0 rfl rfl
theorem dX12_undo_15 : decode cX12_undo 15 = .ok (.iadd, 1) := yd_op_96 (i := 15) yd_by_cX12_undo_0 rfl rfl
theorem dX12_undo_16 : decode cX12_undo 16 = .ok (.iastore, 1) := yd_op_79 (i := 16) yd_by_cX12_undo_0 rfl rfl
theorem dX12_undo_17 : decode cX12_undo 17 = .ok (.iconst 0, 1) := yd_op_3 (i := 17) yd_by_cX12_undo_0 rfl rfl
theorem dX12_undo_18 : decode cX12_undo 18 = .ok (.ireturn, 1) := yd_op_172 (i := 18) yd_by_cX12_undo_0 rfl rfl
theorem dX12_undo_19 : decode cX12_undo 19 = .ok (.iconst 0, 1) := yd_op_3 (i := 19) yd_by_cX12_undo_0 rfl rfl
theorem dX12_undo_20 : decode cX12_undo 20 = .ok (.istore_n 1, 1) := yd_op_60 (i := 20) yd_by_cX12_undo_0 rfl rfl
theorem dX12_undo_21 : decode cX12_undo 21 = .ok (.iload_n 1, 1) := yd_op_27 (i := 21) yd_by_cX12_undo_0 rfl rfl
theorem dX12_undo_22 : decode cX12_undo 22 = .ok (.sipush 188, 3) := yd_op_17 (i := 22) (a := 0) (b := 188) yd_by_cX12_undo_0 rfl rfl
theorem dX12_undo_25 : decode cX12_undo 25 = .ok (.if_icmp .ge 30, 3) := yd_op_162 (i := 25) (a := 0) (b := 30) yd_by_cX12_undo_0 rfl rfl
theorem dX12_undo_28 : decode cX12_undo 28 = .ok (.aload_n 0, 1) := yd_op_42 (i := 28) yd_by_cX12_undo_0 rfl rfl
theorem dX12_undo_29 : decode cX12_undo 29 = .ok (.getfield 130, 3) := yd_op_180 (i := 29) (a := 0) (b := 130) yd_by_cX12_undo_0 rfl rfl
set_option maxRecDepth 100000 in
theorem yd_by_cX12_undo_1 : ydk cX12_undo 32 [27, 42, 180, 0, 155, 17, 0, 188, 42, 180, 2, 26, 104, 27, 96, 46, 79, 132, 1, 1, 167, 255, 225, 42, 42, 180, 2, 26, 16, 20, 96, 4, 100] = true := by decide +kernel
theorem dX12_undo_32 : decode cX12_undo 32 = .ok (.iload_n 1, 1) := yd_op_27 (i := 0) yd_by_cX12_undo_1 rfl rfl
theorem dX12_undo_33 : decode cX12_undo 33 = .ok (.aload_n 0, 1) := yd_op_42 (i := 1) yd_by_cX12_undo_1 rfl rfl
theorem dX12_undo_34 : decode cX12_undo 34 = .ok (.getfield 155, 3) := yd_op_180 (i := 2) (a := 0) (b := 155) yd_by_cX12_undo_1 rfl rfl
theorem dX12_undo_37 : decode cX12_undo 37 = .ok (.sipush 188, 3) := yd_op_17 (i := 5) (a := 0) (b := 188) yd_by_cX12_undo_1 rfl rfl
theorem dX12_undo_40 : decode cX12_undo 40 = .ok (.aload_n 0, 1) := yd_op_42 (i := 8) yd_by_cX12_undo_1 rfl rfl
theorem dX12_undo_41 : decode cX12_undo 41 = .ok (.getfield 538, 3) := yd_op_180 (i := 9) (a := 2) (b := 26) yd_by_cX12_undo_1 rfl rfl
theorem dX12_undo_44 : decode cX12_undo 44 = .ok (.imul, 1) := yd_op_104 (i := 12) yd_by_cX12_undo_1 rfl rfl
theorem dX12_undo_45 : decode cX12_undo 45 = .ok (.iload_n 1, 1) := yd_op_27 (i := 13) yd_by_cX12_undo_1 rfl rfl
theorem dX12_undo_46 : decode cX12_undo 46 = .ok (.iadd, 1) := yd_op_96 (i := 14) yd_by_cX12_undo_1 rfl rfl
theorem dX12_undo_47 : decode cX12_undo 47 = .ok (.iaload, 1) := yd_op_46 (i := 15) yd_by_cX12_undo_1 rfl rfl
theorem dX12_undo_48 : decode cX12_undo 48 = .ok (.iastore, 1) := yd_op_79 (i := 16) yd_by_cX12_undo_1 rfl rfl
theorem dX12_undo_49 : decode cX12_undo 49 = .ok (.iinc 1 1, 3) := yd_op_132 (i := 17) (a := 1) (b := 1) yd_by_cX12_undo_1 rfl rfl
theorem dX12_undo_52 : decode cX12_undo 52 = .ok (.goto (-31), 3) := yd_op_167 (i := 20) (a := 255) (b := 225) yd_by_cX12_undo_1 rfl rfl
theorem dX12_undo_55 : decode cX12_undo 55 = .ok (.aload_n 0, 1) := yd_op_42 (i := 23) yd_by_cX12_undo_1 rfl rfl
theorem dX12_undo_56 : decode cX12_undo 56 = .ok (.aload_n 0, 1) := yd_op_42 (i := 24) yd_by_cX12_undo_1 rfl rfl
theorem dX12_undo_57 : decode cX12_undo 57 = .ok (.getfield 538, 3) := yd_op_180 (i := 25) (a := 2) (b := 26) yd_by_cX12_undo_1 rfl rfl
theorem dX12_undo_60 : decode cX12_undo 60 = .ok (.bipush 20, 2) := yd_op_16 (i := 28) (a := 20) yd_by_cX12_undo_1 rfl rfl
theorem dX12_undo_62 : decode cX12_undo 62 = .ok (.iadd, 1) := yd_op_96 (i := 30) yd_by_cX12_undo_1 rfl rfl
theorem dX12_undo_63 : decode cX12_undo 63 = .ok (.iconst 1, 1) := yd_op_4 (i := 31) yd_by_cX12_undo_1 rfl rfl
theorem dX12_undo_64 : decode cX12_undo 64 = .ok (.isub, 1) := yd_op_100 (i := 32) yd_by_cX12_undo_1 rfl rfl
set_option maxRecDepth 100000 in
theorem yd_by_cX12_undo_2 : ydk cX12_undo 65 [16, 20, 112, 181, 2, 26, 42, 89, 180, 1, 123, 4, 100, 181, 1, 123, 4, 172] = true := by decide +kernel
theorem dX12_undo_65 : decode cX12_undo 65 = .ok (.bipush 20, 2) := yd_op_16 (i := 0) (a := 20) yd_by_cX12_undo_2 rfl rfl
theorem dX12_undo_67 : decode cX12_undo 67 = .ok (.irem, 1) := yd_op_112 (i := 2) yd_by_cX12_undo_2 rfl rfl
theorem dX12_undo_68 : decode cX12_undo 68 = .ok (.putfield 538, 3) := yd_op_181 (i := 3) (a := 2) (b := 26) yd_by_cX12_undo_2 rfl rfl
theorem dX12_undo_71 : decode cX12_undo 71 = .ok (.aload_n 0, 1) := yd_op_42 (i := 6) yd_by_cX12_undo_2 rfl rfl
theorem dX12_undo_72 : decode cX12_undo 72 = .ok (.dup, 1) := yd_op_89 (i := 7) yd_by_cX12_undo_2 rfl rfl
theorem dX12_undo_73 : decode cX12_undo 73 = .ok (.getfield 379, 3) := yd_op_180 (i := 8) (a := 1) (b := 123) yd_by_cX12_undo_2 rfl rfl
theorem dX12_undo_76 : decode cX12_undo 76 = .ok (.iconst 1, 1) := yd_op_4 (i := 11) yd_by_cX12_undo_2 rfl rfl
theorem dX12_undo_77 : decode cX12_undo 77 = .ok (.isub, 1) := yd_op_100 (i := 12) yd_by_cX12_undo_2 rfl rfl
theorem dX12_undo_78 : decode cX12_undo 78 = .ok (.putfield 379, 3) := yd_op_181 (i := 13) (a := 1) (b := 123) yd_by_cX12_undo_2 rfl rfl
theorem dX12_undo_81 : decode cX12_undo 81 = .ok (.iconst 1, 1) := yd_op_4 (i := 16) yd_by_cX12_undo_2 rfl rfl
theorem dX12_undo_82 : decode cX12_undo 82 = .ok (.ireturn, 1) := yd_op_172 (i := 17) yd_by_cX12_undo_2 rfl rfl
set_option maxRecDepth 100000 in
theorem yd_by_cX12_isRefused_0 : ydk cX12_isRefused 0 [42, 180, 0, 17, 5, 92, 46, 4, 96, 79, 3, 172] = true := by decide +kernel
theorem dX12_isRefused_0 : decode cX12_isRefused 0 = .ok (.aload_n 0, 1) := yd_op_42 (i := 0) yd_by_cX12_isRefused_0 rfl rfl
theorem dX12_isRefused_1 : decode cX12_isRefused 1 = .ok (.getfield 17, 3) := yd_op_180 (i := 1) (a := 0) (b := 17) yd_by_cX12_isRefused_0 rfl rfl
theorem dX12_isRefused_4 : decode cX12_isRefused 4 = .ok (.iconst 2, 1) := yd_op_5 (i := 4) yd_by_cX12_isRefused_0 rfl rfl
theorem dX12_isRefused_5 : decode cX12_isRefused 5 = .ok (.dup2, 1) := yd_op_92 (i := 5) yd_by_cX12_isRefused_0 rfl rfl
theorem dX12_isRefused_6 : decode cX12_isRefused 6 = .ok (.iaload, 1) := yd_op_46 (i := 6) yd_by_cX12_isRefused_0 rfl rfl
theorem dX12_isRefused_7 : decode cX12_isRefused 7 = .ok (.iconst 1, 1) := yd_op_4 (i := 7) yd_by_cX12_isRefused_0 rfl rfl
theorem dX12_isRefused_8 : decode cX12_isRefused 8 = .ok (.iadd, 1) := yd_op_96 (i := 8) yd_by_cX12_isRefused_0 rfl rfl
theorem dX12_isRefused_9 : decode cX12_isRefused 9 = .ok (.iastore, 1) := yd_op_79 (i := 9) yd_by_cX12_isRefused_0 rfl rfl
theorem dX12_isRefused_10 : decode cX12_isRefused 10 = .ok (.iconst 0, 1) := yd_op_3 (i := 10) yd_by_cX12_isRefused_0 rfl rfl
theorem dX12_isRefused_11 : decode cX12_isRefused 11 = .ok (.ireturn, 1) := yd_op_172 (i := 11) yd_by_cX12_isRefused_0 rfl rfl
set_option maxRecDepth 100000 in
theorem yd_by_cX12_rest_0 : ydk cX12_rest 0 [42, 27, 182, 1, 219, 153, 0, 30, 28, 133, 9, 10, 184, 1, 33, 153, 0, 20, 42, 180, 0, 130, 16, 37, 6, 27, 104, 96, 5, 96, 46] = true := by decide +kernel
theorem dX12_rest_0 : decode cX12_rest 0 = .ok (.aload_n 0, 1) := yd_op_42 (i := 0) yd_by_cX12_rest_0 rfl rfl
theorem dX12_rest_1 : decode cX12_rest 1 = .ok (.iload_n 1, 1) := yd_op_27 (i := 1) yd_by_cX12_rest_0 rfl rfl
theorem dX12_rest_2 : decode cX12_rest 2 = .ok (.invokevirtual 475, 3) := yd_op_182 (i := 2) (a := 1) (b := 219) yd_by_cX12_rest_0 rfl rfl
theorem dX12_rest_5 : decode cX12_rest 5 = .ok (.ifCond .eq 30, 3) := yd_op_153 (i := 5) (a := 0) (b := 30) yd_by_cX12_rest_0 rfl rfl
theorem dX12_rest_8 : decode cX12_rest 8 = .ok (.iload_n 2, 1) := yd_op_28 (i := 8) yd_by_cX12_rest_0 rfl rfl
theorem dX12_rest_9 : decode cX12_rest 9 = .ok (.i2l, 1) := yd_op_133 (i := 9) yd_by_cX12_rest_0 rfl rfl
theorem dX12_rest_10 : decode cX12_rest 10 = .ok (.lconst 0, 1) := yd_op_9 (i := 10) yd_by_cX12_rest_0 rfl rfl
theorem dX12_rest_11 : decode cX12_rest 11 = .ok (.lconst 1, 1) := yd_op_10 (i := 11) yd_by_cX12_rest_0 rfl rfl
theorem dX12_rest_12 : decode cX12_rest 12 = .ok (.invokestatic 289, 3) := yd_op_184 (i := 12) (a := 1) (b := 33) yd_by_cX12_rest_0 rfl rfl
theorem dX12_rest_15 : decode cX12_rest 15 = .ok (.ifCond .eq 20, 3) := yd_op_153 (i := 15) (a := 0) (b := 20) yd_by_cX12_rest_0 rfl rfl
theorem dX12_rest_18 : decode cX12_rest 18 = .ok (.aload_n 0, 1) := yd_op_42 (i := 18) yd_by_cX12_rest_0 rfl rfl
theorem dX12_rest_19 : decode cX12_rest 19 = .ok (.getfield 130, 3) := yd_op_180 (i := 19) (a := 0) (b := 130) yd_by_cX12_rest_0 rfl rfl
theorem dX12_rest_22 : decode cX12_rest 22 = .ok (.bipush 37, 2) := yd_op_16 (i := 22) (a := 37) yd_by_cX12_rest_0 rfl rfl
theorem dX12_rest_24 : decode cX12_rest 24 = .ok (.iconst 3, 1) := yd_op_6 (i := 24) yd_by_cX12_rest_0 rfl rfl
theorem dX12_rest_25 : decode cX12_rest 25 = .ok (.iload_n 1, 1) := yd_op_27 (i := 25) yd_by_cX12_rest_0 rfl rfl
theorem dX12_rest_26 : decode cX12_rest 26 = .ok (.imul, 1) := yd_op_104 (i := 26) yd_by_cX12_rest_0 rfl rfl
theorem dX12_rest_27 : decode cX12_rest 27 = .ok (.iadd, 1) := yd_op_96 (i := 27) yd_by_cX12_rest_0 rfl rfl
theorem dX12_rest_28 : decode cX12_rest 28 = .ok (.iconst 2, 1) := yd_op_5 (i := 28) yd_by_cX12_rest_0 rfl rfl
theorem dX12_rest_29 : decode cX12_rest 29 = .ok (.iadd, 1) := yd_op_96 (i := 29) yd_by_cX12_rest_0 rfl rfl
theorem dX12_rest_30 : decode cX12_rest 30 = .ok (.iaload, 1) := yd_op_46 (i := 30) yd_by_cX12_rest_0 rfl rfl
set_option maxRecDepth 100000 in
theorem yd_by_cX12_rest_1 : ydk cX12_rest 31 [28, 160, 0, 8, 42, 182, 2, 29, 172, 42, 182, 2, 32, 42, 180, 0, 130, 16, 37, 6, 27, 104, 96, 5, 96, 28, 79, 4, 172] = true := by decide +kernel
theorem dX12_rest_31 : decode cX12_rest 31 = .ok (.iload_n 2, 1) := yd_op_28 (i := 0) yd_by_cX12_rest_1 rfl rfl
theorem dX12_rest_32 : decode cX12_rest 32 = .ok (.if_icmp .ne 8, 3) := yd_op_160 (i := 1) (a := 0) (b := 8) yd_by_cX12_rest_1 rfl rfl
theorem dX12_rest_35 : decode cX12_rest 35 = .ok (.aload_n 0, 1) := yd_op_42 (i := 4) yd_by_cX12_rest_1 rfl rfl
theorem dX12_rest_36 : decode cX12_rest 36 = .ok (.invokevirtual 541, 3) := yd_op_182 (i := 5) (a := 2) (b := 29) yd_by_cX12_rest_1 rfl rfl
theorem dX12_rest_39 : decode cX12_rest 39 = .ok (.ireturn, 1) := yd_op_172 (i := 8) yd_by_cX12_rest_1 rfl rfl
theorem dX12_rest_40 : decode cX12_rest 40 = .ok (.aload_n 0, 1) := yd_op_42 (i := 9) yd_by_cX12_rest_1 rfl rfl
theorem dX12_rest_41 : decode cX12_rest 41 = .ok (.invokevirtual 544, 3) := yd_op_182 (i := 10) (a := 2) (b := 32) yd_by_cX12_rest_1 rfl rfl
theorem dX12_rest_44 : decode cX12_rest 44 = .ok (.aload_n 0, 1) := yd_op_42 (i := 13) yd_by_cX12_rest_1 rfl rfl
theorem dX12_rest_45 : decode cX12_rest 45 = .ok (.getfield 130, 3) := yd_op_180 (i := 14) (a := 0) (b := 130) yd_by_cX12_rest_1 rfl rfl
theorem dX12_rest_48 : decode cX12_rest 48 = .ok (.bipush 37, 2) := yd_op_16 (i := 17) (a := 37) yd_by_cX12_rest_1 rfl rfl
theorem dX12_rest_50 : decode cX12_rest 50 = .ok (.iconst 3, 1) := yd_op_6 (i := 19) yd_by_cX12_rest_1 rfl rfl
theorem dX12_rest_51 : decode cX12_rest 51 = .ok (.iload_n 1, 1) := yd_op_27 (i := 20) yd_by_cX12_rest_1 rfl rfl
theorem dX12_rest_52 : decode cX12_rest 52 = .ok (.imul, 1) := yd_op_104 (i := 21) yd_by_cX12_rest_1 rfl rfl
theorem dX12_rest_53 : decode cX12_rest 53 = .ok (.iadd, 1) := yd_op_96 (i := 22) yd_by_cX12_rest_1 rfl rfl
theorem dX12_rest_54 : decode cX12_rest 54 = .ok (.iconst 2, 1) := yd_op_5 (i := 23) yd_by_cX12_rest_1 rfl rfl
theorem dX12_rest_55 : decode cX12_rest 55 = .ok (.iadd, 1) := yd_op_96 (i := 24) yd_by_cX12_rest_1 rfl rfl
theorem dX12_rest_56 : decode cX12_rest 56 = .ok (.iload_n 2, 1) := yd_op_28 (i := 25) yd_by_cX12_rest_1 rfl rfl
theorem dX12_rest_57 : decode cX12_rest 57 = .ok (.iastore, 1) := yd_op_79 (i := 26) yd_by_cX12_rest_1 rfl rfl
theorem dX12_rest_58 : decode cX12_rest 58 = .ok (.iconst 1, 1) := yd_op_4 (i := 27) yd_by_cX12_rest_1 rfl rfl
theorem dX12_rest_59 : decode cX12_rest 59 = .ok (.ireturn, 1) := yd_op_172 (i := 28) yd_by_cX12_rest_1 rfl rfl
set_option maxRecDepth 100000 in
theorem yd_by_cX12_go_0 : ydk cX12_go 0 [42, 28, 29, 182, 1, 222, 54, 4, 42, 27, 182, 1, 219, 153, 0, 19, 21, 4, 2, 159, 0, 13, 42, 21, 4, 182, 1, 225, 2, 159, 0, 8, 42, 182, 2, 29, 172] = true := by decide +kernel
theorem dX12_go_0 : decode cX12_go 0 = .ok (.aload_n 0, 1) := yd_op_42 (i := 0) yd_by_cX12_go_0 rfl rfl
theorem dX12_go_1 : decode cX12_go 1 = .ok (.iload_n 2, 1) := yd_op_28 (i := 1) yd_by_cX12_go_0 rfl rfl
theorem dX12_go_2 : decode cX12_go 2 = .ok (.iload_n 3, 1) := yd_op_29 (i := 2) yd_by_cX12_go_0 rfl rfl
theorem dX12_go_3 : decode cX12_go 3 = .ok (.invokevirtual 478, 3) := yd_op_182 (i := 3) (a := 1) (b := 222) yd_by_cX12_go_0 rfl rfl
theorem dX12_go_6 : decode cX12_go 6 = .ok (.istore 4, 2) := yd_op_54 (i := 6) (a := 4) yd_by_cX12_go_0 rfl rfl
theorem dX12_go_8 : decode cX12_go 8 = .ok (.aload_n 0, 1) := yd_op_42 (i := 8) yd_by_cX12_go_0 rfl rfl
theorem dX12_go_9 : decode cX12_go 9 = .ok (.iload_n 1, 1) := yd_op_27 (i := 9) yd_by_cX12_go_0 rfl rfl
theorem dX12_go_10 : decode cX12_go 10 = .ok (.invokevirtual 475, 3) := yd_op_182 (i := 10) (a := 1) (b := 219) yd_by_cX12_go_0 rfl rfl
theorem dX12_go_13 : decode cX12_go 13 = .ok (.ifCond .eq 19, 3) := yd_op_153 (i := 13) (a := 0) (b := 19) yd_by_cX12_go_0 rfl rfl
theorem dX12_go_16 : decode cX12_go 16 = .ok (.iload 4, 2) := yd_op_21 (i := 16) (a := 4) yd_by_cX12_go_0 rfl rfl
theorem dX12_go_18 : decode cX12_go 18 = .ok (.iconst (-1), 1) := yd_op_2 (i := 18) yd_by_cX12_go_0 rfl rfl
theorem dX12_go_19 : decode cX12_go 19 = .ok (.if_icmp .eq 13, 3) := yd_op_159 (i := 19) (a := 0) (b := 13) yd_by_cX12_go_0 rfl rfl
theorem dX12_go_22 : decode cX12_go 22 = .ok (.aload_n 0, 1) := yd_op_42 (i := 22) yd_by_cX12_go_0 rfl rfl
theorem dX12_go_23 : decode cX12_go 23 = .ok (.iload 4, 2) := yd_op_21 (i := 23) (a := 4) yd_by_cX12_go_0 rfl rfl
theorem dX12_go_25 : decode cX12_go 25 = .ok (.invokevirtual 481, 3) := yd_op_182 (i := 25) (a := 1) (b := 225) yd_by_cX12_go_0 rfl rfl
theorem dX12_go_28 : decode cX12_go 28 = .ok (.iconst (-1), 1) := yd_op_2 (i := 28) yd_by_cX12_go_0 rfl rfl
theorem dX12_go_29 : decode cX12_go 29 = .ok (.if_icmp .eq 8, 3) := yd_op_159 (i := 29) (a := 0) (b := 8) yd_by_cX12_go_0 rfl rfl
theorem dX12_go_32 : decode cX12_go 32 = .ok (.aload_n 0, 1) := yd_op_42 (i := 32) yd_by_cX12_go_0 rfl rfl
theorem dX12_go_33 : decode cX12_go 33 = .ok (.invokevirtual 541, 3) := yd_op_182 (i := 33) (a := 2) (b := 29) yd_by_cX12_go_0 rfl rfl
theorem dX12_go_36 : decode cX12_go 36 = .ok (.ireturn, 1) := yd_op_172 (i := 36) yd_by_cX12_go_0 rfl rfl
set_option maxRecDepth 100000 in
theorem yd_by_cX12_go_1 : ydk cX12_go 37 [42, 182, 2, 32, 42, 180, 0, 130, 16, 37, 6, 27, 104, 96, 21, 4, 79, 4, 172] = true := by decide +kernel
theorem dX12_go_37 : decode cX12_go 37 = .ok (.aload_n 0, 1) := yd_op_42 (i := 0) yd_by_cX12_go_1 rfl rfl
theorem dX12_go_38 : decode cX12_go 38 = .ok (.invokevirtual 544, 3) := yd_op_182 (i := 1) (a := 2) (b := 32) yd_by_cX12_go_1 rfl rfl
theorem dX12_go_41 : decode cX12_go 41 = .ok (.aload_n 0, 1) := yd_op_42 (i := 4) yd_by_cX12_go_1 rfl rfl
theorem dX12_go_42 : decode cX12_go 42 = .ok (.getfield 130, 3) := yd_op_180 (i := 5) (a := 0) (b := 130) yd_by_cX12_go_1 rfl rfl
theorem dX12_go_45 : decode cX12_go 45 = .ok (.bipush 37, 2) := yd_op_16 (i := 8) (a := 37) yd_by_cX12_go_1 rfl rfl
theorem dX12_go_47 : decode cX12_go 47 = .ok (.iconst 3, 1) := yd_op_6 (i := 10) yd_by_cX12_go_1 rfl rfl
theorem dX12_go_48 : decode cX12_go 48 = .ok (.iload_n 1, 1) := yd_op_27 (i := 11) yd_by_cX12_go_1 rfl rfl
theorem dX12_go_49 : decode cX12_go 49 = .ok (.imul, 1) := yd_op_104 (i := 12) yd_by_cX12_go_1 rfl rfl
theorem dX12_go_50 : decode cX12_go 50 = .ok (.iadd, 1) := yd_op_96 (i := 13) yd_by_cX12_go_1 rfl rfl
theorem dX12_go_51 : decode cX12_go 51 = .ok (.iload 4, 2) := yd_op_21 (i := 14) (a := 4) yd_by_cX12_go_1 rfl rfl
theorem dX12_go_53 : decode cX12_go 53 = .ok (.iastore, 1) := yd_op_79 (i := 16) yd_by_cX12_go_1 rfl rfl
theorem dX12_go_54 : decode cX12_go 54 = .ok (.iconst 1, 1) := yd_op_4 (i := 17) yd_by_cX12_go_1 rfl rfl
theorem dX12_go_55 : decode cX12_go 55 = .ok (.ireturn, 1) := yd_op_172 (i := 18) yd_by_cX12_go_1 rfl rfl
set_option maxRecDepth 100000 in
theorem yd_by_cX12_mend_0 : ydk cX12_mend 0 [42, 27, 28, 182, 1, 222, 62, 29, 2, 159, 0, 11, 42, 29, 182, 1, 180, 154, 0, 8, 42, 182, 2, 29, 172, 42, 182, 2, 32, 42, 180, 0, 130, 4] = true := by decide +kernel
theorem dX12_mend_0 : decode cX12_mend 0 = .ok (.aload_n 0, 1) := yd_op_42 (i := 0) yd_by_cX12_mend_0 rfl rfl
theorem dX12_mend_1 : decode cX12_mend 1 = .ok (.iload_n 1, 1) := yd_op_27 (i := 1) yd_by_cX12_mend_0 rfl rfl
theorem dX12_mend_2 : decode cX12_mend 2 = .ok (.iload_n 2, 1) := yd_op_28 (i := 2) yd_by_cX12_mend_0 rfl rfl
theorem dX12_mend_3 : decode cX12_mend 3 = .ok (.invokevirtual 478, 3) := yd_op_182 (i := 3) (a := 1) (b := 222) yd_by_cX12_mend_0 rfl rfl
theorem dX12_mend_6 : decode cX12_mend 6 = .ok (.istore_n 3, 1) := yd_op_62 (i := 6) yd_by_cX12_mend_0 rfl rfl
theorem dX12_mend_7 : decode cX12_mend 7 = .ok (.iload_n 3, 1) := yd_op_29 (i := 7) yd_by_cX12_mend_0 rfl rfl
theorem dX12_mend_8 : decode cX12_mend 8 = .ok (.iconst (-1), 1) := yd_op_2 (i := 8) yd_by_cX12_mend_0 rfl rfl
theorem dX12_mend_9 : decode cX12_mend 9 = .ok (.if_icmp .eq 11, 3) := yd_op_159 (i := 9) (a := 0) (b := 11) yd_by_cX12_mend_0 rfl rfl
theorem dX12_mend_12 : decode cX12_mend 12 = .ok (.aload_n 0, 1) := yd_op_42 (i := 12) yd_by_cX12_mend_0 rfl rfl
theorem dX12_mend_13 : decode cX12_mend 13 = .ok (.iload_n 3, 1) := yd_op_29 (i := 13) yd_by_cX12_mend_0 rfl rfl
theorem dX12_mend_14 : decode cX12_mend 14 = .ok (.invokevirtual 436, 3) := yd_op_182 (i := 14) (a := 1) (b := 180) yd_by_cX12_mend_0 rfl rfl
theorem dX12_mend_17 : decode cX12_mend 17 = .ok (.ifCond .ne 8, 3) := yd_op_154 (i := 17) (a := 0) (b := 8) yd_by_cX12_mend_0 rfl rfl
theorem dX12_mend_20 : decode cX12_mend 20 = .ok (.aload_n 0, 1) := yd_op_42 (i := 20) yd_by_cX12_mend_0 rfl rfl
theorem dX12_mend_21 : decode cX12_mend 21 = .ok (.invokevirtual 541, 3) := yd_op_182 (i := 21) (a := 2) (b := 29) yd_by_cX12_mend_0 rfl rfl
theorem dX12_mend_24 : decode cX12_mend 24 = .ok (.ireturn, 1) := yd_op_172 (i := 24) yd_by_cX12_mend_0 rfl rfl
theorem dX12_mend_25 : decode cX12_mend 25 = .ok (.aload_n 0, 1) := yd_op_42 (i := 25) yd_by_cX12_mend_0 rfl rfl
theorem dX12_mend_26 : decode cX12_mend 26 = .ok (.invokevirtual 544, 3) := yd_op_182 (i := 26) (a := 2) (b := 32) yd_by_cX12_mend_0 rfl rfl
theorem dX12_mend_29 : decode cX12_mend 29 = .ok (.aload_n 0, 1) := yd_op_42 (i := 29) yd_by_cX12_mend_0 rfl rfl
theorem dX12_mend_30 : decode cX12_mend 30 = .ok (.getfield 130, 3) := yd_op_180 (i := 30) (a := 0) (b := 130) yd_by_cX12_mend_0 rfl rfl
theorem dX12_mend_33 : decode cX12_mend 33 = .ok (.iconst 1, 1) := yd_op_4 (i := 33) yd_by_cX12_mend_0 rfl rfl
set_option maxRecDepth 100000 in
theorem yd_by_cX12_mend_1 : ydk cX12_mend 34 [29, 96, 3, 79, 4, 172] = true := by decide +kernel
theorem dX12_mend_34 : decode cX12_mend 34 = .ok (.iload_n 3, 1) := yd_op_29 (i := 0) yd_by_cX12_mend_1 rfl rfl
theorem dX12_mend_35 : decode cX12_mend 35 = .ok (.iadd, 1) := yd_op_96 (i := 1) yd_by_cX12_mend_1 rfl rfl
theorem dX12_mend_36 : decode cX12_mend 36 = .ok (.iconst 0, 1) := yd_op_3 (i := 2) yd_by_cX12_mend_1 rfl rfl
theorem dX12_mend_37 : decode cX12_mend 37 = .ok (.iastore, 1) := yd_op_79 (i := 3) yd_by_cX12_mend_1 rfl rfl
theorem dX12_mend_38 : decode cX12_mend 38 = .ok (.iconst 1, 1) := yd_op_4 (i := 4) yd_by_cX12_mend_1 rfl rfl
theorem dX12_mend_39 : decode cX12_mend 39 = .ok (.ireturn, 1) := yd_op_172 (i := 5) yd_by_cX12_mend_1 rfl rfl
set_option maxRecDepth 100000 in
theorem yd_by_cX12_hours_0 : ydk cX12_hours 0 [42, 27, 4, 16, 100, 182, 1, 235, 154, 0, 9, 42, 6, 182, 2, 11, 172, 42, 182, 2, 32, 42, 3, 181, 1, 201, 42, 27, 182, 1, 242, 42, 180, 1, 201] = true := by decide +kernel
theorem dX12_hours_0 : decode cX12_hours 0 = .ok (.aload_n 0, 1) := yd_op_42 (i := 0) yd_by_cX12_hours_0 rfl rfl
theorem dX12_hours_1 : decode cX12_hours 1 = .ok (.iload_n 1, 1) := yd_op_27 (i := 1) yd_by_cX12_hours_0 rfl rfl
theorem dX12_hours_2 : decode cX12_hours 2 = .ok (.iconst 1, 1) := yd_op_4 (i := 2) yd_by_cX12_hours_0 rfl rfl
theorem dX12_hours_3 : decode cX12_hours 3 = .ok (.bipush 100, 2) := yd_op_16 (i := 3) (a := 100) yd_by_cX12_hours_0 rfl rfl
theorem dX12_hours_5 : decode cX12_hours 5 = .ok (.invokevirtual 491, 3) := yd_op_182 (i := 5) (a := 1) (b := 235) yd_by_cX12_hours_0 rfl rfl
theorem dX12_hours_8 : decode cX12_hours 8 = .ok (.ifCond .ne 9, 3) := yd_op_154 (i := 8) (a := 0) (b := 9) yd_by_cX12_hours_0 rfl rfl
theorem dX12_hours_11 : decode cX12_hours 11 = .ok (.aload_n 0, 1) := yd_op_42 (i := 11) yd_by_cX12_hours_0 rfl rfl
theorem dX12_hours_12 : decode cX12_hours 12 = .ok (.iconst 3, 1) := yd_op_6 (i := 12) yd_by_cX12_hours_0 rfl rfl
theorem dX12_hours_13 : decode cX12_hours 13 = .ok (.invokevirtual 523, 3) := yd_op_182 (i := 13) (a := 2) (b := 11) yd_by_cX12_hours_0 rfl rfl
theorem dX12_hours_16 : decode cX12_hours 16 = .ok (.ireturn, 1) := yd_op_172 (i := 16) yd_by_cX12_hours_0 rfl rfl
theorem dX12_hours_17 : decode cX12_hours 17 = .ok (.aload_n 0, 1) := yd_op_42 (i := 17) yd_by_cX12_hours_0 rfl rfl
theorem dX12_hours_18 : decode cX12_hours 18 = .ok (.invokevirtual 544, 3) := yd_op_182 (i := 18) (a := 2) (b := 32) yd_by_cX12_hours_0 rfl rfl
theorem dX12_hours_21 : decode cX12_hours 21 = .ok (.aload_n 0, 1) := yd_op_42 (i := 21) yd_by_cX12_hours_0 rfl rfl
theorem dX12_hours_22 : decode cX12_hours 22 = .ok (.iconst 0, 1) := yd_op_3 (i := 22) yd_by_cX12_hours_0 rfl rfl
theorem dX12_hours_23 : decode cX12_hours 23 = .ok (.putfield 457, 3) := yd_op_181 (i := 23) (a := 1) (b := 201) yd_by_cX12_hours_0 rfl rfl
theorem dX12_hours_26 : decode cX12_hours 26 = .ok (.aload_n 0, 1) := yd_op_42 (i := 26) yd_by_cX12_hours_0 rfl rfl
theorem dX12_hours_27 : decode cX12_hours 27 = .ok (.iload_n 1, 1) := yd_op_27 (i := 27) yd_by_cX12_hours_0 rfl rfl
theorem dX12_hours_28 : decode cX12_hours 28 = .ok (.invokevirtual 498, 3) := yd_op_182 (i := 28) (a := 1) (b := 242) yd_by_cX12_hours_0 rfl rfl
theorem dX12_hours_31 : decode cX12_hours 31 = .ok (.aload_n 0, 1) := yd_op_42 (i := 31) yd_by_cX12_hours_0 rfl rfl
theorem dX12_hours_32 : decode cX12_hours 32 = .ok (.getfield 457, 3) := yd_op_180 (i := 32) (a := 1) (b := 201) yd_by_cX12_hours_0 rfl rfl
set_option maxRecDepth 100000 in
theorem yd_by_cX12_hours_1 : ydk cX12_hours 35 [172] = true := by decide +kernel
theorem dX12_hours_35 : decode cX12_hours 35 = .ok (.ireturn, 1) := yd_op_172 (i := 0) yd_by_cX12_hours_1 rfl rfl
set_option maxRecDepth 100000 in
theorem yd_by_cX12_seed_0 : ydk cX12_seed 0 [27, 156, 0, 15, 42, 180, 0, 17, 8, 92, 46, 4, 96, 79, 3, 172, 42, 27, 133, 181, 0, 158, 4, 172] = true := by decide +kernel
theorem dX12_seed_0 : decode cX12_seed 0 = .ok (.iload_n 1, 1) := yd_op_27 (i := 0) yd_by_cX12_seed_0 rfl rfl
theorem dX12_seed_1 : decode cX12_seed 1 = .ok (.ifCond .ge 15, 3) := yd_op_156 (i := 1) (a := 0) (b := 15) yd_by_cX12_seed_0 rfl rfl
theorem dX12_seed_4 : decode cX12_seed 4 = .ok (.aload_n 0, 1) := yd_op_42 (i := 4) yd_by_cX12_seed_0 rfl rfl
theorem dX12_seed_5 : decode cX12_seed 5 = .ok (.getfield 17, 3) := yd_op_180 (i := 5) (a := 0) (b := 17) yd_by_cX12_seed_0 rfl rfl
theorem dX12_seed_8 : decode cX12_seed 8 = .ok (.iconst 5, 1) := yd_op_8 (i := 8) yd_by_cX12_seed_0 rfl rfl
theorem dX12_seed_9 : decode cX12_seed 9 = .ok (.dup2, 1) := yd_op_92 (i := 9) yd_by_cX12_seed_0 rfl rfl
theorem dX12_seed_10 : decode cX12_seed 10 = .ok (.iaload, 1) := yd_op_46 (i := 10) yd_by_cX12_seed_0 rfl rfl
theorem dX12_seed_11 : decode cX12_seed 11 = .ok (.iconst 1, 1) := yd_op_4 (i := 11) yd_by_cX12_seed_0 rfl rfl
theorem dX12_seed_12 : decode cX12_seed 12 = .ok (.iadd, 1) := yd_op_96 (i := 12) yd_by_cX12_seed_0 rfl rfl
theorem dX12_seed_13 : decode cX12_seed 13 = .ok (.iastore, 1) := yd_op_79 (i := 13) yd_by_cX12_seed_0 rfl rfl
theorem dX12_seed_14 : decode cX12_seed 14 = .ok (.iconst 0, 1) := yd_op_3 (i := 14) yd_by_cX12_seed_0 rfl rfl
theorem dX12_seed_15 : decode cX12_seed 15 = .ok (.ireturn, 1) := yd_op_172 (i := 15) yd_by_cX12_seed_0 rfl rfl
theorem dX12_seed_16 : decode cX12_seed 16 = .ok (.aload_n 0, 1) := yd_op_42 (i := 16) yd_by_cX12_seed_0 rfl rfl
theorem dX12_seed_17 : decode cX12_seed 17 = .ok (.iload_n 1, 1) := yd_op_27 (i := 17) yd_by_cX12_seed_0 rfl rfl
theorem dX12_seed_18 : decode cX12_seed 18 = .ok (.i2l, 1) := yd_op_133 (i := 18) yd_by_cX12_seed_0 rfl rfl
theorem dX12_seed_19 : decode cX12_seed 19 = .ok (.putfield 158, 3) := yd_op_181 (i := 19) (a := 0) (b := 158) yd_by_cX12_seed_0 rfl rfl
theorem dX12_seed_22 : decode cX12_seed 22 = .ok (.iconst 1, 1) := yd_op_4 (i := 22) yd_by_cX12_seed_0 rfl rfl
theorem dX12_seed_23 : decode cX12_seed 23 = .ok (.ireturn, 1) := yd_op_172 (i := 23) yd_by_cX12_seed_0 rfl rfl
set_option maxRecDepth 100000 in
theorem yd_by_cX12_drawOf_0 : ydk cX12_drawOf 0 [42, 20, 2, 35, 42, 180, 0, 158, 105, 20, 2, 37, 97, 20, 2, 39, 113, 181, 0, 158, 42, 180, 0, 158, 20, 2, 41, 109, 27, 133, 113, 136, 172] = true := by decide +kernel
theorem dX12_drawOf_0 : decode cX12_drawOf 0 = .ok (.aload_n 0, 1) := yd_op_42 (i := 0) yd_by_cX12_drawOf_0 rfl rfl
theorem dX12_drawOf_1 : decode cX12_drawOf 1 = .ok (.ldc2_w 547, 3) := yd_op_20 (i := 1) (a := 2) (b := 35) yd_by_cX12_drawOf_0 rfl rfl
theorem dX12_drawOf_4 : decode cX12_drawOf 4 = .ok (.aload_n 0, 1) := yd_op_42 (i := 4) yd_by_cX12_drawOf_0 rfl rfl
theorem dX12_drawOf_5 : decode cX12_drawOf 5 = .ok (.getfield 158, 3) := yd_op_180 (i := 5) (a := 0) (b := 158) yd_by_cX12_drawOf_0 rfl rfl
theorem dX12_drawOf_8 : decode cX12_drawOf 8 = .ok (.lmul, 1) := yd_op_105 (i := 8) yd_by_cX12_drawOf_0 rfl rfl
theorem dX12_drawOf_9 : decode cX12_drawOf 9 = .ok (.ldc2_w 549, 3) := yd_op_20 (i := 9) (a := 2) (b := 37) yd_by_cX12_drawOf_0 rfl rfl
theorem dX12_drawOf_12 : decode cX12_drawOf 12 = .ok (.ladd, 1) := yd_op_97 (i := 12) yd_by_cX12_drawOf_0 rfl rfl
theorem dX12_drawOf_13 : decode cX12_drawOf 13 = .ok (.ldc2_w 551, 3) := yd_op_20 (i := 13) (a := 2) (b := 39) yd_by_cX12_drawOf_0 rfl rfl
theorem dX12_drawOf_16 : decode cX12_drawOf 16 = .ok (.lrem, 1) := yd_op_113 (i := 16) yd_by_cX12_drawOf_0 rfl rfl
theorem dX12_drawOf_17 : decode cX12_drawOf 17 = .ok (.putfield 158, 3) := yd_op_181 (i := 17) (a := 0) (b := 158) yd_by_cX12_drawOf_0 rfl rfl
theorem dX12_drawOf_20 : decode cX12_drawOf 20 = .ok (.aload_n 0, 1) := yd_op_42 (i := 20) yd_by_cX12_drawOf_0 rfl rfl
theorem dX12_drawOf_21 : decode cX12_drawOf 21 = .ok (.getfield 158, 3) := yd_op_180 (i := 21) (a := 0) (b := 158) yd_by_cX12_drawOf_0 rfl rfl
theorem dX12_drawOf_24 : decode cX12_drawOf 24 = .ok (.ldc2_w 553, 3) := yd_op_20 (i := 24) (a := 2) (b := 41) yd_by_cX12_drawOf_0 rfl rfl
theorem dX12_drawOf_27 : decode cX12_drawOf 27 = .ok (.ldiv, 1) := yd_op_109 (i := 27) yd_by_cX12_drawOf_0 rfl rfl
theorem dX12_drawOf_28 : decode cX12_drawOf 28 = .ok (.iload_n 1, 1) := yd_op_27 (i := 28) yd_by_cX12_drawOf_0 rfl rfl
theorem dX12_drawOf_29 : decode cX12_drawOf 29 = .ok (.i2l, 1) := yd_op_133 (i := 29) yd_by_cX12_drawOf_0 rfl rfl
theorem dX12_drawOf_30 : decode cX12_drawOf 30 = .ok (.lrem, 1) := yd_op_113 (i := 30) yd_by_cX12_drawOf_0 rfl rfl
theorem dX12_drawOf_31 : decode cX12_drawOf 31 = .ok (.l2i, 1) := yd_op_136 (i := 31) yd_by_cX12_drawOf_0 rfl rfl
theorem dX12_drawOf_32 : decode cX12_drawOf 32 = .ok (.ireturn, 1) := yd_op_172 (i := 32) yd_by_cX12_drawOf_0 rfl rfl
set_option maxRecDepth 100000 in
theorem yd_by_cX12_chance_0 : ydk cX12_chance 0 [42, 27, 4, 16, 100, 182, 1, 235, 154, 0, 9, 42, 6, 182, 2, 11, 172, 42, 182, 2, 32, 3, 61, 3, 62, 29, 27, 162, 0, 52, 42] = true := by decide +kernel
theorem dX12_chance_0 : decode cX12_chance 0 = .ok (.aload_n 0, 1) := yd_op_42 (i := 0) yd_by_cX12_chance_0 rfl rfl
theorem dX12_chance_1 : decode cX12_chance 1 = .ok (.iload_n 1, 1) := yd_op_27 (i := 1) yd_by_cX12_chance_0 rfl rfl
theorem dX12_chance_2 : decode cX12_chance 2 = .ok (.iconst 1, 1) := yd_op_4 (i := 2) yd_by_cX12_chance_0 rfl rfl
theorem dX12_chance_3 : decode cX12_chance 3 = .ok (.bipush 100, 2) := yd_op_16 (i := 3) (a := 100) yd_by_cX12_chance_0 rfl rfl
theorem dX12_chance_5 : decode cX12_chance 5 = .ok (.invokevirtual 491, 3) := yd_op_182 (i := 5) (a := 1) (b := 235) yd_by_cX12_chance_0 rfl rfl
theorem dX12_chance_8 : decode cX12_chance 8 = .ok (.ifCond .ne 9, 3) := yd_op_154 (i := 8) (a := 0) (b := 9) yd_by_cX12_chance_0 rfl rfl
theorem dX12_chance_11 : decode cX12_chance 11 = .ok (.aload_n 0, 1) := yd_op_42 (i := 11) yd_by_cX12_chance_0 rfl rfl
theorem dX12_chance_12 : decode cX12_chance 12 = .ok (.iconst 3, 1) := yd_op_6 (i := 12) yd_by_cX12_chance_0 rfl rfl
theorem dX12_chance_13 : decode cX12_chance 13 = .ok (.invokevirtual 523, 3) := yd_op_182 (i := 13) (a := 2) (b := 11) yd_by_cX12_chance_0 rfl rfl
theorem dX12_chance_16 : decode cX12_chance 16 = .ok (.ireturn, 1) := yd_op_172 (i := 16) yd_by_cX12_chance_0 rfl rfl
theorem dX12_chance_17 : decode cX12_chance 17 = .ok (.aload_n 0, 1) := yd_op_42 (i := 17) yd_by_cX12_chance_0 rfl rfl
theorem dX12_chance_18 : decode cX12_chance 18 = .ok (.invokevirtual 544, 3) := yd_op_182 (i := 18) (a := 2) (b := 32) yd_by_cX12_chance_0 rfl rfl
theorem dX12_chance_21 : decode cX12_chance 21 = .ok (.iconst 0, 1) := yd_op_3 (i := 21) yd_by_cX12_chance_0 rfl rfl
theorem dX12_chance_22 : decode cX12_chance 22 = .ok (.istore_n 2, 1) := yd_op_61 (i := 22) yd_by_cX12_chance_0 rfl rfl
theorem dX12_chance_23 : decode cX12_chance 23 = .ok (.iconst 0, 1) := yd_op_3 (i := 23) yd_by_cX12_chance_0 rfl rfl
theorem dX12_chance_24 : decode cX12_chance 24 = .ok (.istore_n 3, 1) := yd_op_62 (i := 24) yd_by_cX12_chance_0 rfl rfl
theorem dX12_chance_25 : decode cX12_chance 25 = .ok (.iload_n 3, 1) := yd_op_29 (i := 25) yd_by_cX12_chance_0 rfl rfl
theorem dX12_chance_26 : decode cX12_chance 26 = .ok (.iload_n 1, 1) := yd_op_27 (i := 26) yd_by_cX12_chance_0 rfl rfl
theorem dX12_chance_27 : decode cX12_chance 27 = .ok (.if_icmp .ge 52, 3) := yd_op_162 (i := 27) (a := 0) (b := 52) yd_by_cX12_chance_0 rfl rfl
theorem dX12_chance_30 : decode cX12_chance 30 = .ok (.aload_n 0, 1) := yd_op_42 (i := 30) yd_by_cX12_chance_0 rfl rfl
set_option maxRecDepth 100000 in
theorem yd_by_cX12_chance_1 : ydk cX12_chance 31 [16, 100, 182, 2, 43, 42, 180, 0, 118, 8, 46, 162, 0, 22, 42, 42, 42, 42, 182, 1, 174, 182, 2, 43, 182, 1, 177, 181, 0, 139, 132, 2, 1, 42, 182, 1, 207, 42, 2] = true := by decide +kernel
theorem dX12_chance_31 : decode cX12_chance 31 = .ok (.bipush 100, 2) := yd_op_16 (i := 0) (a := 100) yd_by_cX12_chance_1 rfl rfl
theorem dX12_chance_33 : decode cX12_chance 33 = .ok (.invokevirtual 555, 3) := yd_op_182 (i := 2) (a := 2) (b := 43) yd_by_cX12_chance_1 rfl rfl
theorem dX12_chance_36 : decode cX12_chance 36 = .ok (.aload_n 0, 1) := yd_op_42 (i := 5) yd_by_cX12_chance_1 rfl rfl
theorem dX12_chance_37 : decode cX12_chance 37 = .ok (.getfield 118, 3) := yd_op_180 (i := 6) (a := 0) (b := 118) yd_by_cX12_chance_1 rfl rfl
theorem dX12_chance_40 : decode cX12_chance 40 = .ok (.iconst 5, 1) := yd_op_8 (i := 9) yd_by_cX12_chance_1 rfl rfl
theorem dX12_chance_41 : decode cX12_chance 41 = .ok (.iaload, 1) := yd_op_46 (i := 10) yd_by_cX12_chance_1 rfl rfl
theorem dX12_chance_42 : decode cX12_chance 42 = .ok (.if_icmp .ge 22, 3) := yd_op_162 (i := 11) (a := 0) (b := 22) yd_by_cX12_chance_1 rfl rfl
theorem dX12_chance_45 : decode cX12_chance 45 = .ok (.aload_n 0, 1) := yd_op_42 (i := 14) yd_by_cX12_chance_1 rfl rfl
theorem dX12_chance_46 : decode cX12_chance 46 = .ok (.aload_n 0, 1) := yd_op_42 (i := 15) yd_by_cX12_chance_1 rfl rfl
theorem dX12_chance_47 : decode cX12_chance 47 = .ok (.aload_n 0, 1) := yd_op_42 (i := 16) yd_by_cX12_chance_1 rfl rfl
theorem dX12_chance_48 : decode cX12_chance 48 = .ok (.aload_n 0, 1) := yd_op_42 (i := 17) yd_by_cX12_chance_1 rfl rfl
theorem dX12_chance_49 : decode cX12_chance 49 = .ok (.invokevirtual 430, 3) := yd_op_182 (i := 18) (a := 1) (b := 174) yd_by_cX12_chance_1 rfl rfl
theorem dX12_chance_52 : decode cX12_chance 52 = .ok (.invokevirtual 555, 3) := yd_op_182 (i := 21) (a := 2) (b := 43) yd_by_cX12_chance_1 rfl rfl
theorem dX12_chance_55 : decode cX12_chance 55 = .ok (.invokevirtual 433, 3) := yd_op_182 (i := 24) (a := 1) (b := 177) yd_by_cX12_chance_1 rfl rfl
theorem dX12_chance_58 : decode cX12_chance 58 = .ok (.putfield 139, 3) := yd_op_181 (i := 27) (a := 0) (b := 139) yd_by_cX12_chance_1 rfl rfl
theorem dX12_chance_61 : decode cX12_chance 61 = .ok (.iinc 2 1, 3) := yd_op_132 (i := 30) (a := 2) (b := 1) yd_by_cX12_chance_1 rfl rfl
theorem dX12_chance_64 : decode cX12_chance 64 = .ok (.aload_n 0, 1) := yd_op_42 (i := 33) yd_by_cX12_chance_1 rfl rfl
theorem dX12_chance_65 : decode cX12_chance 65 = .ok (.invokevirtual 463, 3) := yd_op_182 (i := 34) (a := 1) (b := 207) yd_by_cX12_chance_1 rfl rfl
theorem dX12_chance_68 : decode cX12_chance 68 = .ok (.aload_n 0, 1) := yd_op_42 (i := 37) yd_by_cX12_chance_1 rfl rfl
theorem dX12_chance_69 : decode cX12_chance 69 = .ok (.iconst (-1), 1) := yd_op_2 (i := 38) yd_by_cX12_chance_1 rfl rfl
set_option maxRecDepth 100000 in
theorem yd_by_cX12_chance_2 : ydk cX12_chance 70 [181, 0, 139, 132, 3, 1, 167, 255, 205, 28, 172] = true := by decide +kernel
theorem dX12_chance_70 : decode cX12_chance 70 = .ok (.putfield 139, 3) := yd_op_181 (i := 0) (a := 0) (b := 139) yd_by_cX12_chance_2 rfl rfl
theorem dX12_chance_73 : decode cX12_chance 73 = .ok (.iinc 3 1, 3) := yd_op_132 (i := 3) (a := 3) (b := 1) yd_by_cX12_chance_2 rfl rfl
theorem dX12_chance_76 : decode cX12_chance 76 = .ok (.goto (-51), 3) := yd_op_167 (i := 6) (a := 255) (b := 205) yd_by_cX12_chance_2 rfl rfl
theorem dX12_chance_79 : decode cX12_chance 79 = .ok (.iload_n 2, 1) := yd_op_28 (i := 9) yd_by_cX12_chance_2 rfl rfl
theorem dX12_chance_80 : decode cX12_chance 80 = .ok (.ireturn, 1) := yd_op_172 (i := 10) yd_by_cX12_chance_2 rfl rfl
set_option maxRecDepth 100000 in
theorem yd_by_cX12_qCode_0 : ydk cX12_qCode 0 [42, 180, 0, 231, 42, 180, 1, 74, 27, 79, 42, 89, 180, 1, 74, 4, 96, 181, 1, 74, 177] = true := by decide +kernel
theorem dX12_qCode_0 : decode cX12_qCode 0 = .ok (.aload_n 0, 1) := yd_op_42 (i := 0) yd_by_cX12_qCode_0 rfl rfl
theorem dX12_qCode_1 : decode cX12_qCode 1 = .ok (.getfield 231, 3) := yd_op_180 (i := 1) (a := 0) (b := 231) yd_by_cX12_qCode_0 rfl rfl
theorem dX12_qCode_4 : decode cX12_qCode 4 = .ok (.aload_n 0, 1) := yd_op_42 (i := 4) yd_by_cX12_qCode_0 rfl rfl
theorem dX12_qCode_5 : decode cX12_qCode 5 = .ok (.getfield 330, 3) := yd_op_180 (i := 5) (a := 1) (b := 74) yd_by_cX12_qCode_0 rfl rfl
theorem dX12_qCode_8 : decode cX12_qCode 8 = .ok (.iload_n 1, 1) := yd_op_27 (i := 8) yd_by_cX12_qCode_0 rfl rfl
theorem dX12_qCode_9 : decode cX12_qCode 9 = .ok (.iastore, 1) := yd_op_79 (i := 9) yd_by_cX12_qCode_0 rfl rfl
theorem dX12_qCode_10 : decode cX12_qCode 10 = .ok (.aload_n 0, 1) := yd_op_42 (i := 10) yd_by_cX12_qCode_0 rfl rfl
theorem dX12_qCode_11 : decode cX12_qCode 11 = .ok (.dup, 1) := yd_op_89 (i := 11) yd_by_cX12_qCode_0 rfl rfl
theorem dX12_qCode_12 : decode cX12_qCode 12 = .ok (.getfield 330, 3) := yd_op_180 (i := 12) (a := 1) (b := 74) yd_by_cX12_qCode_0 rfl rfl
theorem dX12_qCode_15 : decode cX12_qCode 15 = .ok (.iconst 1, 1) := yd_op_4 (i := 15) yd_by_cX12_qCode_0 rfl rfl
theorem dX12_qCode_16 : decode cX12_qCode 16 = .ok (.iadd, 1) := yd_op_96 (i := 16) yd_by_cX12_qCode_0 rfl rfl
theorem dX12_qCode_17 : decode cX12_qCode 17 = .ok (.putfield 330, 3) := yd_op_181 (i := 17) (a := 1) (b := 74) yd_by_cX12_qCode_0 rfl rfl
theorem dX12_qCode_20 : decode cX12_qCode 20 = .ok (.return_, 1) := yd_op_177 (i := 20) yd_by_cX12_qCode_0 rfl rfl
set_option maxRecDepth 100000 in
theorem yd_by_cX12_qOpens_0 : ydk cX12_qOpens 0 [42, 180, 0, 246, 153, 0, 4, 177, 42, 180, 1, 80, 16, 6, 160, 0, 10, 42, 7, 28, 182, 1, 20, 177, 42, 89, 180, 1, 80, 4, 96, 181, 1, 80, 42] = true := by decide +kernel
theorem dX12_qOpens_0 : decode cX12_qOpens 0 = .ok (.aload_n 0, 1) := yd_op_42 (i := 0) yd_by_cX12_qOpens_0 rfl rfl
theorem dX12_qOpens_1 : decode cX12_qOpens 1 = .ok (.getfield 246, 3) := yd_op_180 (i := 1) (a := 0) (b := 246) yd_by_cX12_qOpens_0 rfl rfl
theorem dX12_qOpens_4 : decode cX12_qOpens 4 = .ok (.ifCond .eq 4, 3) := yd_op_153 (i := 4) (a := 0) (b := 4) yd_by_cX12_qOpens_0 rfl rfl
theorem dX12_qOpens_7 : decode cX12_qOpens 7 = .ok (.return_, 1) := yd_op_177 (i := 7) yd_by_cX12_qOpens_0 rfl rfl
theorem dX12_qOpens_8 : decode cX12_qOpens 8 = .ok (.aload_n 0, 1) := yd_op_42 (i := 8) yd_by_cX12_qOpens_0 rfl rfl
theorem dX12_qOpens_9 : decode cX12_qOpens 9 = .ok (.getfield 336, 3) := yd_op_180 (i := 9) (a := 1) (b := 80) yd_by_cX12_qOpens_0 rfl rfl
theorem dX12_qOpens_12 : decode cX12_qOpens 12 = .ok (.bipush 6, 2) := yd_op_16 (i := 12) (a := 6) yd_by_cX12_qOpens_0 rfl rfl
theorem dX12_qOpens_14 : decode cX12_qOpens 14 = .ok (.if_icmp .ne 10, 3) := yd_op_160 (i := 14) (a := 0) (b := 10) yd_by_cX12_qOpens_0 rfl rfl
theorem dX12_qOpens_17 : decode cX12_qOpens 17 = .ok (.aload_n 0, 1) := yd_op_42 (i := 17) yd_by_cX12_qOpens_0 rfl rfl
theorem dX12_qOpens_18 : decode cX12_qOpens 18 = .ok (.iconst 4, 1) := yd_op_7 (i := 18) yd_by_cX12_qOpens_0 rfl rfl
theorem dX12_qOpens_19 : decode cX12_qOpens 19 = .ok (.iload_n 2, 1) := yd_op_28 (i := 19) yd_by_cX12_qOpens_0 rfl rfl
theorem dX12_qOpens_20 : decode cX12_qOpens 20 = .ok (.invokevirtual 276, 3) := yd_op_182 (i := 20) (a := 1) (b := 20) yd_by_cX12_qOpens_0 rfl rfl
theorem dX12_qOpens_23 : decode cX12_qOpens 23 = .ok (.return_, 1) := yd_op_177 (i := 23) yd_by_cX12_qOpens_0 rfl rfl
theorem dX12_qOpens_24 : decode cX12_qOpens 24 = .ok (.aload_n 0, 1) := yd_op_42 (i := 24) yd_by_cX12_qOpens_0 rfl rfl
theorem dX12_qOpens_25 : decode cX12_qOpens 25 = .ok (.dup, 1) := yd_op_89 (i := 25) yd_by_cX12_qOpens_0 rfl rfl
theorem dX12_qOpens_26 : decode cX12_qOpens 26 = .ok (.getfield 336, 3) := yd_op_180 (i := 26) (a := 1) (b := 80) yd_by_cX12_qOpens_0 rfl rfl
theorem dX12_qOpens_29 : decode cX12_qOpens 29 = .ok (.iconst 1, 1) := yd_op_4 (i := 29) yd_by_cX12_qOpens_0 rfl rfl
theorem dX12_qOpens_30 : decode cX12_qOpens 30 = .ok (.iadd, 1) := yd_op_96 (i := 30) yd_by_cX12_qOpens_0 rfl rfl
theorem dX12_qOpens_31 : decode cX12_qOpens 31 = .ok (.putfield 336, 3) := yd_op_181 (i := 31) (a := 1) (b := 80) yd_by_cX12_qOpens_0 rfl rfl
theorem dX12_qOpens_34 : decode cX12_qOpens 34 = .ok (.aload_n 0, 1) := yd_op_42 (i := 34) yd_by_cX12_qOpens_0 rfl rfl
set_option maxRecDepth 100000 in
theorem yd_by_cX12_qOpens_1 : ydk cX12_qOpens 35 [180, 0, 234, 42, 180, 1, 77, 27, 79, 42, 89, 180, 1, 77, 4, 96, 181, 1, 77, 177] = true := by decide +kernel
theorem dX12_qOpens_35 : decode cX12_qOpens 35 = .ok (.getfield 234, 3) := yd_op_180 (i := 0) (a := 0) (b := 234) yd_by_cX12_qOpens_1 rfl rfl
theorem dX12_qOpens_38 : decode cX12_qOpens 38 = .ok (.aload_n 0, 1) := yd_op_42 (i := 3) yd_by_cX12_qOpens_1 rfl rfl
theorem dX12_qOpens_39 : decode cX12_qOpens 39 = .ok (.getfield 333, 3) := yd_op_180 (i := 4) (a := 1) (b := 77) yd_by_cX12_qOpens_1 rfl rfl
theorem dX12_qOpens_42 : decode cX12_qOpens 42 = .ok (.iload_n 1, 1) := yd_op_27 (i := 7) yd_by_cX12_qOpens_1 rfl rfl
theorem dX12_qOpens_43 : decode cX12_qOpens 43 = .ok (.iastore, 1) := yd_op_79 (i := 8) yd_by_cX12_qOpens_1 rfl rfl
theorem dX12_qOpens_44 : decode cX12_qOpens 44 = .ok (.aload_n 0, 1) := yd_op_42 (i := 9) yd_by_cX12_qOpens_1 rfl rfl
theorem dX12_qOpens_45 : decode cX12_qOpens 45 = .ok (.dup, 1) := yd_op_89 (i := 10) yd_by_cX12_qOpens_1 rfl rfl
theorem dX12_qOpens_46 : decode cX12_qOpens 46 = .ok (.getfield 333, 3) := yd_op_180 (i := 11) (a := 1) (b := 77) yd_by_cX12_qOpens_1 rfl rfl
theorem dX12_qOpens_49 : decode cX12_qOpens 49 = .ok (.iconst 1, 1) := yd_op_4 (i := 14) yd_by_cX12_qOpens_1 rfl rfl
theorem dX12_qOpens_50 : decode cX12_qOpens 50 = .ok (.iadd, 1) := yd_op_96 (i := 15) yd_by_cX12_qOpens_1 rfl rfl
theorem dX12_qOpens_51 : decode cX12_qOpens 51 = .ok (.putfield 333, 3) := yd_op_181 (i := 16) (a := 1) (b := 77) yd_by_cX12_qOpens_1 rfl rfl
theorem dX12_qOpens_54 : decode cX12_qOpens 54 = .ok (.return_, 1) := yd_op_177 (i := 19) yd_by_cX12_qOpens_1 rfl rfl
set_option maxRecDepth 100000 in
theorem yd_by_cX12_qIsOn_0 : ydk cX12_qIsOn 0 [42, 180, 1, 77, 158, 0, 22, 42, 180, 0, 234, 42, 180, 1, 77, 4, 100, 46, 27, 160, 0, 7, 4, 167, 0, 4, 3, 172] = true := by decide +kernel
theorem dX12_qIsOn_0 : decode cX12_qIsOn 0 = .ok (.aload_n 0, 1) := yd_op_42 (i := 0) yd_by_cX12_qIsOn_0 rfl rfl
theorem dX12_qIsOn_1 : decode cX12_qIsOn 1 = .ok (.getfield 333, 3) := yd_op_180 (i := 1) (a := 1) (b := 77) yd_by_cX12_qIsOn_0 rfl rfl
theorem dX12_qIsOn_4 : decode cX12_qIsOn 4 = .ok (.ifCond .le 22, 3) := yd_op_158 (i := 4) (a := 0) (b := 22) yd_by_cX12_qIsOn_0 rfl rfl
theorem dX12_qIsOn_7 : decode cX12_qIsOn 7 = .ok (.aload_n 0, 1) := yd_op_42 (i := 7) yd_by_cX12_qIsOn_0 rfl rfl
theorem dX12_qIsOn_8 : decode cX12_qIsOn 8 = .ok (.getfield 234, 3) := yd_op_180 (i := 8) (a := 0) (b := 234) yd_by_cX12_qIsOn_0 rfl rfl
theorem dX12_qIsOn_11 : decode cX12_qIsOn 11 = .ok (.aload_n 0, 1) := yd_op_42 (i := 11) yd_by_cX12_qIsOn_0 rfl rfl
theorem dX12_qIsOn_12 : decode cX12_qIsOn 12 = .ok (.getfield 333, 3) := yd_op_180 (i := 12) (a := 1) (b := 77) yd_by_cX12_qIsOn_0 rfl rfl
theorem dX12_qIsOn_15 : decode cX12_qIsOn 15 = .ok (.iconst 1, 1) := yd_op_4 (i := 15) yd_by_cX12_qIsOn_0 rfl rfl
theorem dX12_qIsOn_16 : decode cX12_qIsOn 16 = .ok (.isub, 1) := yd_op_100 (i := 16) yd_by_cX12_qIsOn_0 rfl rfl
theorem dX12_qIsOn_17 : decode cX12_qIsOn 17 = .ok (.iaload, 1) := yd_op_46 (i := 17) yd_by_cX12_qIsOn_0 rfl rfl
theorem dX12_qIsOn_18 : decode cX12_qIsOn 18 = .ok (.iload_n 1, 1) := yd_op_27 (i := 18) yd_by_cX12_qIsOn_0 rfl rfl
theorem dX12_qIsOn_19 : decode cX12_qIsOn 19 = .ok (.if_icmp .ne 7, 3) := yd_op_160 (i := 19) (a := 0) (b := 7) yd_by_cX12_qIsOn_0 rfl rfl
theorem dX12_qIsOn_22 : decode cX12_qIsOn 22 = .ok (.iconst 1, 1) := yd_op_4 (i := 22) yd_by_cX12_qIsOn_0 rfl rfl
theorem dX12_qIsOn_23 : decode cX12_qIsOn 23 = .ok (.goto 4, 3) := yd_op_167 (i := 23) (a := 0) (b := 4) yd_by_cX12_qIsOn_0 rfl rfl
theorem dX12_qIsOn_26 : decode cX12_qIsOn 26 = .ok (.iconst 0, 1) := yd_op_3 (i := 26) yd_by_cX12_qIsOn_0 rfl rfl
theorem dX12_qIsOn_27 : decode cX12_qIsOn 27 = .ok (.ireturn, 1) := yd_op_172 (i := 27) yd_by_cX12_qIsOn_0 rfl rfl
set_option maxRecDepth 100000 in
theorem yd_by_cX12_qDrops_0 : ydk cX12_qDrops 0 [42, 89, 180, 1, 77, 4, 100, 181, 1, 77, 42, 42, 180, 0, 234, 42, 180, 1, 77, 46, 182, 2, 46, 177] = true := by decide +kernel
theorem dX12_qDrops_0 : decode cX12_qDrops 0 = .ok (.aload_n 0, 1) := yd_op_42 (i := 0) yd_by_cX12_qDrops_0 rfl rfl
theorem dX12_qDrops_1 : decode cX12_qDrops 1 = .ok (.dup, 1) := yd_op_89 (i := 1) yd_by_cX12_qDrops_0 rfl rfl
theorem dX12_qDrops_2 : decode cX12_qDrops 2 = .ok (.getfield 333, 3) := yd_op_180 (i := 2) (a := 1) (b := 77) yd_by_cX12_qDrops_0 rfl rfl
theorem dX12_qDrops_5 : decode cX12_qDrops 5 = .ok (.iconst 1, 1) := yd_op_4 (i := 5) yd_by_cX12_qDrops_0 rfl rfl
theorem dX12_qDrops_6 : decode cX12_qDrops 6 = .ok (.isub, 1) := yd_op_100 (i := 6) yd_by_cX12_qDrops_0 rfl rfl
theorem dX12_qDrops_7 : decode cX12_qDrops 7 = .ok (.putfield 333, 3) := yd_op_181 (i := 7) (a := 1) (b := 77) yd_by_cX12_qDrops_0 rfl rfl
theorem dX12_qDrops_10 : decode cX12_qDrops 10 = .ok (.aload_n 0, 1) := yd_op_42 (i := 10) yd_by_cX12_qDrops_0 rfl rfl
theorem dX12_qDrops_11 : decode cX12_qDrops 11 = .ok (.aload_n 0, 1) := yd_op_42 (i := 11) yd_by_cX12_qDrops_0 rfl rfl
theorem dX12_qDrops_12 : decode cX12_qDrops 12 = .ok (.getfield 234, 3) := yd_op_180 (i := 12) (a := 0) (b := 234) yd_by_cX12_qDrops_0 rfl rfl
theorem dX12_qDrops_15 : decode cX12_qDrops 15 = .ok (.aload_n 0, 1) := yd_op_42 (i := 15) yd_by_cX12_qDrops_0 rfl rfl
theorem dX12_qDrops_16 : decode cX12_qDrops 16 = .ok (.getfield 333, 3) := yd_op_180 (i := 16) (a := 1) (b := 77) yd_by_cX12_qDrops_0 rfl rfl
theorem dX12_qDrops_19 : decode cX12_qDrops 19 = .ok (.iaload, 1) := yd_op_46 (i := 19) yd_by_cX12_qDrops_0 rfl rfl
theorem dX12_qDrops_20 : decode cX12_qDrops 20 = .ok (.invokevirtual 558, 3) := yd_op_182 (i := 20) (a := 2) (b := 46) yd_by_cX12_qDrops_0 rfl rfl
theorem dX12_qDrops_23 : decode cX12_qDrops 23 = .ok (.return_, 1) := yd_op_177 (i := 23) yd_by_cX12_qDrops_0 rfl rfl
set_option maxRecDepth 100000 in
theorem yd_by_cX12_qIsBracket_0 : ydk cX12_qIsBracket 0 [26, 16, 20, 161, 0, 13, 26, 16, 24, 163, 0, 7, 4, 167, 0, 4, 3, 172] = true := by decide +kernel
theorem dX12_qIsBracket_0 : decode cX12_qIsBracket 0 = .ok (.iload_n 0, 1) := yd_op_26 (i := 0) yd_by_cX12_qIsBracket_0 rfl rfl
theorem dX12_qIsBracket_1 : decode cX12_qIsBracket 1 = .ok (.bipush 20, 2) := yd_op_16 (i := 1) (a := 20) yd_by_cX12_qIsBracket_0 rfl rfl
theorem dX12_qIsBracket_3 : decode cX12_qIsBracket 3 = .ok (.if_icmp .lt 13, 3) := yd_op_161 (i := 3) (a := 0) (b := 13) yd_by_cX12_qIsBracket_0 rfl rfl
theorem dX12_qIsBracket_6 : decode cX12_qIsBracket 6 = .ok (.iload_n 0, 1) := yd_op_26 (i := 6) yd_by_cX12_qIsBracket_0 rfl rfl
theorem dX12_qIsBracket_7 : decode cX12_qIsBracket 7 = .ok (.bipush 24, 2) := yd_op_16 (i := 7) (a := 24) yd_by_cX12_qIsBracket_0 rfl rfl
theorem dX12_qIsBracket_9 : decode cX12_qIsBracket 9 = .ok (.if_icmp .gt 7, 3) := yd_op_163 (i := 9) (a := 0) (b := 7) yd_by_cX12_qIsBracket_0 rfl rfl
theorem dX12_qIsBracket_12 : decode cX12_qIsBracket 12 = .ok (.iconst 1, 1) := yd_op_4 (i := 12) yd_by_cX12_qIsBracket_0 rfl rfl
theorem dX12_qIsBracket_13 : decode cX12_qIsBracket 13 = .ok (.goto 4, 3) := yd_op_167 (i := 13) (a := 0) (b := 4) yd_by_cX12_qIsBracket_0 rfl rfl
theorem dX12_qIsBracket_16 : decode cX12_qIsBracket 16 = .ok (.iconst 0, 1) := yd_op_3 (i := 16) yd_by_cX12_qIsBracket_0 rfl rfl
theorem dX12_qIsBracket_17 : decode cX12_qIsBracket 17 = .ok (.ireturn, 1) := yd_op_172 (i := 17) yd_by_cX12_qIsBracket_0 rfl rfl
set_option maxRecDepth 100000 in
theorem yd_by_cX12_qBracket_0 : ydk cX12_qBracket 0 [42, 180, 1, 77, 4, 100, 60, 27, 42, 180, 1, 83, 161, 0, 21, 42, 180, 0, 234, 27, 46, 184, 2, 49, 154, 0, 9, 132, 1, 255, 167, 255, 233, 27, 42, 180, 1, 83] = true := by decide +kernel
theorem dX12_qBracket_0 : decode cX12_qBracket 0 = .ok (.aload_n 0, 1) := yd_op_42 (i := 0) yd_by_cX12_qBracket_0 rfl rfl
theorem dX12_qBracket_1 : decode cX12_qBracket 1 = .ok (.getfield 333, 3) := yd_op_180 (i := 1) (a := 1) (b := 77) yd_by_cX12_qBracket_0 rfl rfl
theorem dX12_qBracket_4 : decode cX12_qBracket 4 = .ok (.iconst 1, 1) := yd_op_4 (i := 4) yd_by_cX12_qBracket_0 rfl rfl
theorem dX12_qBracket_5 : decode cX12_qBracket 5 = .ok (.isub, 1) := yd_op_100 (i := 5) yd_by_cX12_qBracket_0 rfl rfl
theorem dX12_qBracket_6 : decode cX12_qBracket 6 = .ok (.istore_n 1, 1) := yd_op_60 (i := 6) yd_by_cX12_qBracket_0 rfl rfl
theorem dX12_qBracket_7 : decode cX12_qBracket 7 = .ok (.iload_n 1, 1) := yd_op_27 (i := 7) yd_by_cX12_qBracket_0 rfl rfl
theorem dX12_qBracket_8 : decode cX12_qBracket 8 = .ok (.aload_n 0, 1) := yd_op_42 (i := 8) yd_by_cX12_qBracket_0 rfl rfl
theorem dX12_qBracket_9 : decode cX12_qBracket 9 = .ok (.getfield 339, 3) := yd_op_180 (i := 9) (a := 1) (b := 83) yd_by_cX12_qBracket_0 rfl rfl
theorem dX12_qBracket_12 : decode cX12_qBracket 12 = .ok (.if_icmp .lt 21, 3) := yd_op_161 (i := 12) (a := 0) (b := 21) yd_by_cX12_qBracket_0 rfl rfl
theorem dX12_qBracket_15 : decode cX12_qBracket 15 = .ok (.aload_n 0, 1) := yd_op_42 (i := 15) yd_by_cX12_qBracket_0 rfl rfl
theorem dX12_qBracket_16 : decode cX12_qBracket 16 = .ok (.getfield 234, 3) := yd_op_180 (i := 16) (a := 0) (b := 234) yd_by_cX12_qBracket_0 rfl rfl
theorem dX12_qBracket_19 : decode cX12_qBracket 19 = .ok (.iload_n 1, 1) := yd_op_27 (i := 19) yd_by_cX12_qBracket_0 rfl rfl
theorem dX12_qBracket_20 : decode cX12_qBracket 20 = .ok (.iaload, 1) := yd_op_46 (i := 20) yd_by_cX12_qBracket_0 rfl rfl
theorem dX12_qBracket_21 : decode cX12_qBracket 21 = .ok (.invokestatic 561, 3) := yd_op_184 (i := 21) (a := 2) (b := 49) yd_by_cX12_qBracket_0 rfl rfl
theorem dX12_qBracket_24 : decode cX12_qBracket 24 = .ok (.ifCond .ne 9, 3) := yd_op_154 (i := 24) (a := 0) (b := 9) yd_by_cX12_qBracket_0 rfl rfl
theorem dX12_qBracket_27 : decode cX12_qBracket 27 = .ok (.iinc 1 (-1), 3) := yd_op_132 (i := 27) (a := 1) (b := 255) yd_by_cX12_qBracket_0 rfl rfl
theorem dX12_qBracket_30 : decode cX12_qBracket 30 = .ok (.goto (-23), 3) := yd_op_167 (i := 30) (a := 255) (b := 233) yd_by_cX12_qBracket_0 rfl rfl
theorem dX12_qBracket_33 : decode cX12_qBracket 33 = .ok (.iload_n 1, 1) := yd_op_27 (i := 33) yd_by_cX12_qBracket_0 rfl rfl
theorem dX12_qBracket_34 : decode cX12_qBracket 34 = .ok (.aload_n 0, 1) := yd_op_42 (i := 34) yd_by_cX12_qBracket_0 rfl rfl
theorem dX12_qBracket_35 : decode cX12_qBracket 35 = .ok (.getfield 339, 3) := yd_op_180 (i := 35) (a := 1) (b := 83) yd_by_cX12_qBracket_0 rfl rfl
set_option maxRecDepth 100000 in
theorem yd_by_cX12_qBracket_1 : ydk cX12_qBracket 38 [161, 0, 12, 42, 180, 0, 234, 27, 46, 167, 0, 4, 2, 172] = true := by decide +kernel
theorem dX12_qBracket_38 : decode cX12_qBracket 38 = .ok (.if_icmp .lt 12, 3) := yd_op_161 (i := 0) (a := 0) (b := 12) yd_by_cX12_qBracket_1 rfl rfl
theorem dX12_qBracket_41 : decode cX12_qBracket 41 = .ok (.aload_n 0, 1) := yd_op_42 (i := 3) yd_by_cX12_qBracket_1 rfl rfl
theorem dX12_qBracket_42 : decode cX12_qBracket 42 = .ok (.getfield 234, 3) := yd_op_180 (i := 4) (a := 0) (b := 234) yd_by_cX12_qBracket_1 rfl rfl
theorem dX12_qBracket_45 : decode cX12_qBracket 45 = .ok (.iload_n 1, 1) := yd_op_27 (i := 7) yd_by_cX12_qBracket_1 rfl rfl
theorem dX12_qBracket_46 : decode cX12_qBracket 46 = .ok (.iaload, 1) := yd_op_46 (i := 8) yd_by_cX12_qBracket_1 rfl rfl
theorem dX12_qBracket_47 : decode cX12_qBracket 47 = .ok (.goto 4, 3) := yd_op_167 (i := 9) (a := 0) (b := 4) yd_by_cX12_qBracket_1 rfl rfl
theorem dX12_qBracket_50 : decode cX12_qBracket 50 = .ok (.iconst (-1), 1) := yd_op_2 (i := 12) yd_by_cX12_qBracket_1 rfl rfl
theorem dX12_qBracket_51 : decode cX12_qBracket 51 = .ok (.ireturn, 1) := yd_op_172 (i := 13) yd_by_cX12_qBracket_1 rfl rfl
set_option maxRecDepth 100000 in
theorem yd_by_cX12_qDropsToBracket_0 : ydk cX12_qDropsToBracket 0 [42, 180, 1, 77, 42, 180, 1, 83, 164, 0, 27, 42, 180, 0, 234, 42, 180, 1, 77, 4, 100, 46, 184, 2, 49, 154, 0, 10, 42, 182, 2, 52, 167, 255, 224, 177] = true := by decide +kernel
theorem dX12_qDropsToBracket_0 : decode cX12_qDropsToBracket 0 = .ok (.aload_n 0, 1) := yd_op_42 (i := 0) yd_by_cX12_qDropsToBracket_0 rfl rfl
theorem dX12_qDropsToBracket_1 : decode cX12_qDropsToBracket 1 = .ok (.getfield 333, 3) := yd_op_180 (i := 1) (a := 1) (b := 77) yd_by_cX12_qDropsToBracket_0 rfl rfl
theorem dX12_qDropsToBracket_4 : decode cX12_qDropsToBracket 4 = .ok (.aload_n 0, 1) := yd_op_42 (i := 4) yd_by_cX12_qDropsToBracket_0 rfl rfl
theorem dX12_qDropsToBracket_5 : decode cX12_qDropsToBracket 5 = .ok (.getfield 339, 3) := yd_op_180 (i := 5) (a := 1) (b := 83) yd_by_cX12_qDropsToBracket_0 rfl rfl
theorem dX12_qDropsToBracket_8 : decode cX12_qDropsToBracket 8 = .ok (.if_icmp .le 27, 3) := yd_op_164 (i := 8) (a := 0) (b := 27) yd_by_cX12_qDropsToBracket_0 rfl rfl
theorem dX12_qDropsToBracket_11 : decode cX12_qDropsToBracket 11 = .ok (.aload_n 0, 1) := yd_op_42 (i := 11) yd_by_cX12_qDropsToBracket_0 rfl rfl
theorem dX12_qDropsToBracket_12 : decode cX12_qDropsToBracket 12 = .ok (.getfield 234, 3) := yd_op_180 (i := 12) (a := 0) (b := 234) yd_by_cX12_qDropsToBracket_0 rfl rfl
theorem dX12_qDropsToBracket_15 : decode cX12_qDropsToBracket 15 = .ok (.aload_n 0, 1) := yd_op_42 (i := 15) yd_by_cX12_qDropsToBracket_0 rfl rfl
theorem dX12_qDropsToBracket_16 : decode cX12_qDropsToBracket 16 = .ok (.getfield 333, 3) := yd_op_180 (i := 16) (a := 1) (b := 77) yd_by_cX12_qDropsToBracket_0 rfl rfl
theorem dX12_qDropsToBracket_19 : decode cX12_qDropsToBracket 19 = .ok (.iconst 1, 1) := yd_op_4 (i := 19) yd_by_cX12_qDropsToBracket_0 rfl rfl
theorem dX12_qDropsToBracket_20 : decode cX12_qDropsToBracket 20 = .ok (.isub, 1) := yd_op_100 (i := 20) yd_by_cX12_qDropsToBracket_0 rfl rfl
theorem dX12_qDropsToBracket_21 : decode cX12_qDropsToBracket 21 = .ok (.iaload, 1) := yd_op_46 (i := 21) yd_by_cX12_qDropsToBracket_0 rfl rfl
theorem dX12_qDropsToBracket_22 : decode cX12_qDropsToBracket 22 = .ok (.invokestatic 561, 3) := yd_op_184 (i := 22) (a := 2) (b := 49) yd_by_cX12_qDropsToBracket_0 rfl rfl
theorem dX12_qDropsToBracket_25 : decode cX12_qDropsToBracket 25 = .ok (.ifCond .ne 10, 3) := yd_op_154 (i := 25) (a := 0) (b := 10) yd_by_cX12_qDropsToBracket_0 rfl rfl
theorem dX12_qDropsToBracket_28 : decode cX12_qDropsToBracket 28 = .ok (.aload_n 0, 1) := yd_op_42 (i := 28) yd_by_cX12_qDropsToBracket_0 rfl rfl
theorem dX12_qDropsToBracket_29 : decode cX12_qDropsToBracket 29 = .ok (.invokevirtual 564, 3) := yd_op_182 (i := 29) (a := 2) (b := 52) yd_by_cX12_qDropsToBracket_0 rfl rfl
theorem dX12_qDropsToBracket_32 : decode cX12_qDropsToBracket 32 = .ok (.goto (-32), 3) := yd_op_167 (i := 32) (a := 255) (b := 224) yd_by_cX12_qDropsToBracket_0 rfl rfl
theorem dX12_qDropsToBracket_35 : decode cX12_qDropsToBracket 35 = .ok (.return_, 1) := yd_op_177 (i := 35) yd_by_cX12_qDropsToBracket_0 rfl rfl
set_option maxRecDepth 100000 in
theorem yd_by_cX12_qWordHere_0 : ydk cX12_qWordHere 0 [42, 42, 180, 0, 198, 182, 1, 13, 153, 0, 5, 3, 172, 42, 42, 180, 0, 201, 182, 1, 13, 153, 0, 5, 4, 172, 42, 42, 180, 0, 204, 182, 1, 13, 153, 0, 5, 5] = true := by decide +kernel
theorem dX12_qWordHere_0 : decode cX12_qWordHere 0 = .ok (.aload_n 0, 1) := yd_op_42 (i := 0) yd_by_cX12_qWordHere_0 rfl rfl
theorem dX12_qWordHere_1 : decode cX12_qWordHere 1 = .ok (.aload_n 0, 1) := yd_op_42 (i := 1) yd_by_cX12_qWordHere_0 rfl rfl
theorem dX12_qWordHere_2 : decode cX12_qWordHere 2 = .ok (.getfield 198, 3) := yd_op_180 (i := 2) (a := 0) (b := 198) yd_by_cX12_qWordHere_0 rfl rfl
theorem dX12_qWordHere_5 : decode cX12_qWordHere 5 = .ok (.invokevirtual 269, 3) := yd_op_182 (i := 5) (a := 1) (b := 13) yd_by_cX12_qWordHere_0 rfl rfl
theorem dX12_qWordHere_8 : decode cX12_qWordHere 8 = .ok (.ifCond .eq 5, 3) := yd_op_153 (i := 8) (a := 0) (b := 5) yd_by_cX12_qWordHere_0 rfl rfl
theorem dX12_qWordHere_11 : decode cX12_qWordHere 11 = .ok (.iconst 0, 1) := yd_op_3 (i := 11) yd_by_cX12_qWordHere_0 rfl rfl
theorem dX12_qWordHere_12 : decode cX12_qWordHere 12 = .ok (.ireturn, 1) := yd_op_172 (i := 12) yd_by_cX12_qWordHere_0 rfl rfl
theorem dX12_qWordHere_13 : decode cX12_qWordHere 13 = .ok (.aload_n 0, 1) := yd_op_42 (i := 13) yd_by_cX12_qWordHere_0 rfl rfl
theorem dX12_qWordHere_14 : decode cX12_qWordHere 14 = .ok (.aload_n 0, 1) := yd_op_42 (i := 14) yd_by_cX12_qWordHere_0 rfl rfl
theorem dX12_qWordHere_15 : decode cX12_qWordHere 15 = .ok (.getfield 201, 3) := yd_op_180 (i := 15) (a := 0) (b := 201) yd_by_cX12_qWordHere_0 rfl rfl
theorem dX12_qWordHere_18 : decode cX12_qWordHere 18 = .ok (.invokevirtual 269, 3) := yd_op_182 (i := 18) (a := 1) (b := 13) yd_by_cX12_qWordHere_0 rfl rfl
theorem dX12_qWordHere_21 : decode cX12_qWordHere 21 = .ok (.ifCond .eq 5, 3) := yd_op_153 (i := 21) (a := 0) (b := 5) yd_by_cX12_qWordHere_0 rfl rfl
theorem dX12_qWordHere_24 : decode cX12_qWordHere 24 = .ok (.iconst 1, 1) := yd_op_4 (i := 24) yd_by_cX12_qWordHere_0 rfl rfl
theorem dX12_qWordHere_25 : decode cX12_qWordHere 25 = .ok (.ireturn, 1) := yd_op_172 (i := 25) yd_by_cX12_qWordHere_0 rfl rfl
theorem dX12_qWordHere_26 : decode cX12_qWordHere 26 = .ok (.aload_n 0, 1) := yd_op_42 (i := 26) yd_by_cX12_qWordHere_0 rfl rfl
theorem dX12_qWordHere_27 : decode cX12_qWordHere 27 = .ok (.aload_n 0, 1) := yd_op_42 (i := 27) yd_by_cX12_qWordHere_0 rfl rfl
theorem dX12_qWordHere_28 : decode cX12_qWordHere 28 = .ok (.getfield 204, 3) := yd_op_180 (i := 28) (a := 0) (b := 204) yd_by_cX12_qWordHere_0 rfl rfl
theorem dX12_qWordHere_31 : decode cX12_qWordHere 31 = .ok (.invokevirtual 269, 3) := yd_op_182 (i := 31) (a := 1) (b := 13) yd_by_cX12_qWordHere_0 rfl rfl
theorem dX12_qWordHere_34 : decode cX12_qWordHere 34 = .ok (.ifCond .eq 5, 3) := yd_op_153 (i := 34) (a := 0) (b := 5) yd_by_cX12_qWordHere_0 rfl rfl
theorem dX12_qWordHere_37 : decode cX12_qWordHere 37 = .ok (.iconst 2, 1) := yd_op_5 (i := 37) yd_by_cX12_qWordHere_0 rfl rfl
set_option maxRecDepth 100000 in
theorem yd_by_cX12_qWordHere_1 : ydk cX12_qWordHere 38 [172, 42, 42, 180, 0, 207, 182, 1, 13, 153, 0, 5, 6, 172, 42, 42, 180, 0, 210, 182, 1, 13, 153, 0, 5, 7, 172, 42, 42, 180, 0, 213, 182, 1, 13, 153, 0, 5] = true := by decide +kernel
theorem dX12_qWordHere_38 : decode cX12_qWordHere 38 = .ok (.ireturn, 1) := yd_op_172 (i := 0) yd_by_cX12_qWordHere_1 rfl rfl
theorem dX12_qWordHere_39 : decode cX12_qWordHere 39 = .ok (.aload_n 0, 1) := yd_op_42 (i := 1) yd_by_cX12_qWordHere_1 rfl rfl
theorem dX12_qWordHere_40 : decode cX12_qWordHere 40 = .ok (.aload_n 0, 1) := yd_op_42 (i := 2) yd_by_cX12_qWordHere_1 rfl rfl
theorem dX12_qWordHere_41 : decode cX12_qWordHere 41 = .ok (.getfield 207, 3) := yd_op_180 (i := 3) (a := 0) (b := 207) yd_by_cX12_qWordHere_1 rfl rfl
theorem dX12_qWordHere_44 : decode cX12_qWordHere 44 = .ok (.invokevirtual 269, 3) := yd_op_182 (i := 6) (a := 1) (b := 13) yd_by_cX12_qWordHere_1 rfl rfl
theorem dX12_qWordHere_47 : decode cX12_qWordHere 47 = .ok (.ifCond .eq 5, 3) := yd_op_153 (i := 9) (a := 0) (b := 5) yd_by_cX12_qWordHere_1 rfl rfl
theorem dX12_qWordHere_50 : decode cX12_qWordHere 50 = .ok (.iconst 3, 1) := yd_op_6 (i := 12) yd_by_cX12_qWordHere_1 rfl rfl
theorem dX12_qWordHere_51 : decode cX12_qWordHere 51 = .ok (.ireturn, 1) := yd_op_172 (i := 13) yd_by_cX12_qWordHere_1 rfl rfl
theorem dX12_qWordHere_52 : decode cX12_qWordHere 52 = .ok (.aload_n 0, 1) := yd_op_42 (i := 14) yd_by_cX12_qWordHere_1 rfl rfl
theorem dX12_qWordHere_53 : decode cX12_qWordHere 53 = .ok (.aload_n 0, 1) := yd_op_42 (i := 15) yd_by_cX12_qWordHere_1 rfl rfl
theorem dX12_qWordHere_54 : decode cX12_qWordHere 54 = .ok (.getfield 210, 3) := yd_op_180 (i := 16) (a := 0) (b := 210) yd_by_cX12_qWordHere_1 rfl rfl
theorem dX12_qWordHere_57 : decode cX12_qWordHere 57 = .ok (.invokevirtual 269, 3) := yd_op_182 (i := 19) (a := 1) (b := 13) yd_by_cX12_qWordHere_1 rfl rfl
theorem dX12_qWordHere_60 : decode cX12_qWordHere 60 = .ok (.ifCond .eq 5, 3) := yd_op_153 (i := 22) (a := 0) (b := 5) yd_by_cX12_qWordHere_1 rfl rfl
theorem dX12_qWordHere_63 : decode cX12_qWordHere 63 = .ok (.iconst 4, 1) := yd_op_7 (i := 25) yd_by_cX12_qWordHere_1 rfl rfl
theorem dX12_qWordHere_64 : decode cX12_qWordHere 64 = .ok (.ireturn, 1) := yd_op_172 (i := 26) yd_by_cX12_qWordHere_1 rfl rfl
theorem dX12_qWordHere_65 : decode cX12_qWordHere 65 = .ok (.aload_n 0, 1) := yd_op_42 (i := 27) yd_by_cX12_qWordHere_1 rfl rfl
theorem dX12_qWordHere_66 : decode cX12_qWordHere 66 = .ok (.aload_n 0, 1) := yd_op_42 (i := 28) yd_by_cX12_qWordHere_1 rfl rfl
theorem dX12_qWordHere_67 : decode cX12_qWordHere 67 = .ok (.getfield 213, 3) := yd_op_180 (i := 29) (a := 0) (b := 213) yd_by_cX12_qWordHere_1 rfl rfl
theorem dX12_qWordHere_70 : decode cX12_qWordHere 70 = .ok (.invokevirtual 269, 3) := yd_op_182 (i := 32) (a := 1) (b := 13) yd_by_cX12_qWordHere_1 rfl rfl
theorem dX12_qWordHere_73 : decode cX12_qWordHere 73 = .ok (.ifCond .eq 5, 3) := yd_op_153 (i := 35) (a := 0) (b := 5) yd_by_cX12_qWordHere_1 rfl rfl
set_option maxRecDepth 100000 in
theorem yd_by_cX12_qWordHere_2 : ydk cX12_qWordHere 76 [8, 172, 42, 42, 180, 0, 216, 182, 1, 13, 153, 0, 6, 16, 6, 172, 42, 42, 180, 0, 219, 182, 1, 13, 153, 0, 6, 16, 7, 172, 42, 42, 180, 0, 222, 182, 1, 13] = true := by decide +kernel
theorem dX12_qWordHere_76 : decode cX12_qWordHere 76 = .ok (.iconst 5, 1) := yd_op_8 (i := 0) yd_by_cX12_qWordHere_2 rfl rfl
theorem dX12_qWordHere_77 : decode cX12_qWordHere 77 = .ok (.ireturn, 1) := yd_op_172 (i := 1) yd_by_cX12_qWordHere_2 rfl rfl
theorem dX12_qWordHere_78 : decode cX12_qWordHere 78 = .ok (.aload_n 0, 1) := yd_op_42 (i := 2) yd_by_cX12_qWordHere_2 rfl rfl
theorem dX12_qWordHere_79 : decode cX12_qWordHere 79 = .ok (.aload_n 0, 1) := yd_op_42 (i := 3) yd_by_cX12_qWordHere_2 rfl rfl
theorem dX12_qWordHere_80 : decode cX12_qWordHere 80 = .ok (.getfield 216, 3) := yd_op_180 (i := 4) (a := 0) (b := 216) yd_by_cX12_qWordHere_2 rfl rfl
theorem dX12_qWordHere_83 : decode cX12_qWordHere 83 = .ok (.invokevirtual 269, 3) := yd_op_182 (i := 7) (a := 1) (b := 13) yd_by_cX12_qWordHere_2 rfl rfl
theorem dX12_qWordHere_86 : decode cX12_qWordHere 86 = .ok (.ifCond .eq 6, 3) := yd_op_153 (i := 10) (a := 0) (b := 6) yd_by_cX12_qWordHere_2 rfl rfl
theorem dX12_qWordHere_89 : decode cX12_qWordHere 89 = .ok (.bipush 6, 2) := yd_op_16 (i := 13) (a := 6) yd_by_cX12_qWordHere_2 rfl rfl
theorem dX12_qWordHere_91 : decode cX12_qWordHere 91 = .ok (.ireturn, 1) := yd_op_172 (i := 15) yd_by_cX12_qWordHere_2 rfl rfl
theorem dX12_qWordHere_92 : decode cX12_qWordHere 92 = .ok (.aload_n 0, 1) := yd_op_42 (i := 16) yd_by_cX12_qWordHere_2 rfl rfl
theorem dX12_qWordHere_93 : decode cX12_qWordHere 93 = .ok (.aload_n 0, 1) := yd_op_42 (i := 17) yd_by_cX12_qWordHere_2 rfl rfl
theorem dX12_qWordHere_94 : decode cX12_qWordHere 94 = .ok (.getfield 219, 3) := yd_op_180 (i := 18) (a := 0) (b := 219) yd_by_cX12_qWordHere_2 rfl rfl
theorem dX12_qWordHere_97 : decode cX12_qWordHere 97 = .ok (.invokevirtual 269, 3) := yd_op_182 (i := 21) (a := 1) (b := 13) yd_by_cX12_qWordHere_2 rfl rfl
theorem dX12_qWordHere_100 : decode cX12_qWordHere 100 = .ok (.ifCond .eq 6, 3) := yd_op_153 (i := 24) (a := 0) (b := 6) yd_by_cX12_qWordHere_2 rfl rfl
theorem dX12_qWordHere_103 : decode cX12_qWordHere 103 = .ok (.bipush 7, 2) := yd_op_16 (i := 27) (a := 7) yd_by_cX12_qWordHere_2 rfl rfl
theorem dX12_qWordHere_105 : decode cX12_qWordHere 105 = .ok (.ireturn, 1) := yd_op_172 (i := 29) yd_by_cX12_qWordHere_2 rfl rfl
theorem dX12_qWordHere_106 : decode cX12_qWordHere 106 = .ok (.aload_n 0, 1) := yd_op_42 (i := 30) yd_by_cX12_qWordHere_2 rfl rfl
theorem dX12_qWordHere_107 : decode cX12_qWordHere 107 = .ok (.aload_n 0, 1) := yd_op_42 (i := 31) yd_by_cX12_qWordHere_2 rfl rfl
theorem dX12_qWordHere_108 : decode cX12_qWordHere 108 = .ok (.getfield 222, 3) := yd_op_180 (i := 32) (a := 0) (b := 222) yd_by_cX12_qWordHere_2 rfl rfl
theorem dX12_qWordHere_111 : decode cX12_qWordHere 111 = .ok (.invokevirtual 269, 3) := yd_op_182 (i := 35) (a := 1) (b := 13) yd_by_cX12_qWordHere_2 rfl rfl
set_option maxRecDepth 100000 in
theorem yd_by_cX12_qWordHere_3 : ydk cX12_qWordHere 114 [153, 0, 6, 16, 8, 172, 42, 42, 180, 0, 225, 182, 1, 13, 153, 0, 6, 16, 9, 172, 42, 42, 180, 0, 228, 182, 1, 13, 153, 0, 6, 16, 10, 172, 2, 172] = true := by decide +kernel
theorem dX12_qWordHere_114 : decode cX12_qWordHere 114 = .ok (.ifCond .eq 6, 3) := yd_op_153 (i := 0) (a := 0) (b := 6) yd_by_cX12_qWordHere_3 rfl rfl
theorem dX12_qWordHere_117 : decode cX12_qWordHere 117 = .ok (.bipush 8, 2) := yd_op_16 (i := 3) (a := 8) yd_by_cX12_qWordHere_3 rfl rfl
theorem dX12_qWordHere_119 : decode cX12_qWordHere 119 = .ok (.ireturn, 1) := yd_op_172 (i := 5) yd_by_cX12_qWordHere_3 rfl rfl
theorem dX12_qWordHere_120 : decode cX12_qWordHere 120 = .ok (.aload_n 0, 1) := yd_op_42 (i := 6) yd_by_cX12_qWordHere_3 rfl rfl
theorem dX12_qWordHere_121 : decode cX12_qWordHere 121 = .ok (.aload_n 0, 1) := yd_op_42 (i := 7) yd_by_cX12_qWordHere_3 rfl rfl
theorem dX12_qWordHere_122 : decode cX12_qWordHere 122 = .ok (.getfield 225, 3) := yd_op_180 (i := 8) (a := 0) (b := 225) yd_by_cX12_qWordHere_3 rfl rfl
theorem dX12_qWordHere_125 : decode cX12_qWordHere 125 = .ok (.invokevirtual 269, 3) := yd_op_182 (i := 11) (a := 1) (b := 13) yd_by_cX12_qWordHere_3 rfl rfl
theorem dX12_qWordHere_128 : decode cX12_qWordHere 128 = .ok (.ifCond .eq 6, 3) := yd_op_153 (i := 14) (a := 0) (b := 6) yd_by_cX12_qWordHere_3 rfl rfl
theorem dX12_qWordHere_131 : decode cX12_qWordHere 131 = .ok (.bipush 9, 2) := yd_op_16 (i := 17) (a := 9) yd_by_cX12_qWordHere_3 rfl rfl
theorem dX12_qWordHere_133 : decode cX12_qWordHere 133 = .ok (.ireturn, 1) := yd_op_172 (i := 19) yd_by_cX12_qWordHere_3 rfl rfl
theorem dX12_qWordHere_134 : decode cX12_qWordHere 134 = .ok (.aload_n 0, 1) := yd_op_42 (i := 20) yd_by_cX12_qWordHere_3 rfl rfl
theorem dX12_qWordHere_135 : decode cX12_qWordHere 135 = .ok (.aload_n 0, 1) := yd_op_42 (i := 21) yd_by_cX12_qWordHere_3 rfl rfl
theorem dX12_qWordHere_136 : decode cX12_qWordHere 136 = .ok (.getfield 228, 3) := yd_op_180 (i := 22) (a := 0) (b := 228) yd_by_cX12_qWordHere_3 rfl rfl
theorem dX12_qWordHere_139 : decode cX12_qWordHere 139 = .ok (.invokevirtual 269, 3) := yd_op_182 (i := 25) (a := 1) (b := 13) yd_by_cX12_qWordHere_3 rfl rfl
theorem dX12_qWordHere_142 : decode cX12_qWordHere 142 = .ok (.ifCond .eq 6, 3) := yd_op_153 (i := 28) (a := 0) (b := 6) yd_by_cX12_qWordHere_3 rfl rfl
theorem dX12_qWordHere_145 : decode cX12_qWordHere 145 = .ok (.bipush 10, 2) := yd_op_16 (i := 31) (a := 10) yd_by_cX12_qWordHere_3 rfl rfl
theorem dX12_qWordHere_147 : decode cX12_qWordHere 147 = .ok (.ireturn, 1) := yd_op_172 (i := 33) yd_by_cX12_qWordHere_3 rfl rfl
theorem dX12_qWordHere_148 : decode cX12_qWordHere 148 = .ok (.iconst (-1), 1) := yd_op_2 (i := 34) yd_by_cX12_qWordHere_3 rfl rfl
theorem dX12_qWordHere_149 : decode cX12_qWordHere 149 = .ok (.ireturn, 1) := yd_op_172 (i := 35) yd_by_cX12_qWordHere_3 rfl rfl
set_option maxRecDepth 100000 in
theorem yd_by_cX12_qWordOf_0 : ydk cX12_qWordOf 0 [42, 182, 2, 55, 62, 29, 27, 161, 0, 20, 29, 28, 162, 0, 15, 42, 29, 182, 2, 58, 153, 0, 7, 29, 167, 0, 4, 2, 172] = true := by decide +kernel
theorem dX12_qWordOf_0 : decode cX12_qWordOf 0 = .ok (.aload_n 0, 1) := yd_op_42 (i := 0) yd_by_cX12_qWordOf_0 rfl rfl
theorem dX12_qWordOf_1 : decode cX12_qWordOf 1 = .ok (.invokevirtual 567, 3) := yd_op_182 (i := 1) (a := 2) (b := 55) yd_by_cX12_qWordOf_0 rfl rfl
theorem dX12_qWordOf_4 : decode cX12_qWordOf 4 = .ok (.istore_n 3, 1) := yd_op_62 (i := 4) yd_by_cX12_qWordOf_0 rfl rfl
theorem dX12_qWordOf_5 : decode cX12_qWordOf 5 = .ok (.iload_n 3, 1) := yd_op_29 (i := 5) yd_by_cX12_qWordOf_0 rfl rfl
theorem dX12_qWordOf_6 : decode cX12_qWordOf 6 = .ok (.iload_n 1, 1) := yd_op_27 (i := 6) yd_by_cX12_qWordOf_0 rfl rfl
theorem dX12_qWordOf_7 : decode cX12_qWordOf 7 = .ok (.if_icmp .lt 20, 3) := yd_op_161 (i := 7) (a := 0) (b := 20) yd_by_cX12_qWordOf_0 rfl rfl
theorem dX12_qWordOf_10 : decode cX12_qWordOf 10 = .ok (.iload_n 3, 1) := yd_op_29 (i := 10) yd_by_cX12_qWordOf_0 rfl rfl
theorem dX12_qWordOf_11 : decode cX12_qWordOf 11 = .ok (.iload_n 2, 1) := yd_op_28 (i := 11) yd_by_cX12_qWordOf_0 rfl rfl
theorem dX12_qWordOf_12 : decode cX12_qWordOf 12 = .ok (.if_icmp .ge 15, 3) := yd_op_162 (i := 12) (a := 0) (b := 15) yd_by_cX12_qWordOf_0 rfl rfl
theorem dX12_qWordOf_15 : decode cX12_qWordOf 15 = .ok (.aload_n 0, 1) := yd_op_42 (i := 15) yd_by_cX12_qWordOf_0 rfl rfl
theorem dX12_qWordOf_16 : decode cX12_qWordOf 16 = .ok (.iload_n 3, 1) := yd_op_29 (i := 16) yd_by_cX12_qWordOf_0 rfl rfl
theorem dX12_qWordOf_17 : decode cX12_qWordOf 17 = .ok (.invokevirtual 570, 3) := yd_op_182 (i := 17) (a := 2) (b := 58) yd_by_cX12_qWordOf_0 rfl rfl
theorem dX12_qWordOf_20 : decode cX12_qWordOf 20 = .ok (.ifCond .eq 7, 3) := yd_op_153 (i := 20) (a := 0) (b := 7) yd_by_cX12_qWordOf_0 rfl rfl
theorem dX12_qWordOf_23 : decode cX12_qWordOf 23 = .ok (.iload_n 3, 1) := yd_op_29 (i := 23) yd_by_cX12_qWordOf_0 rfl rfl
theorem dX12_qWordOf_24 : decode cX12_qWordOf 24 = .ok (.goto 4, 3) := yd_op_167 (i := 24) (a := 0) (b := 4) yd_by_cX12_qWordOf_0 rfl rfl
theorem dX12_qWordOf_27 : decode cX12_qWordOf 27 = .ok (.iconst (-1), 1) := yd_op_2 (i := 27) yd_by_cX12_qWordOf_0 rfl rfl
theorem dX12_qWordOf_28 : decode cX12_qWordOf 28 = .ok (.ireturn, 1) := yd_op_172 (i := 28) yd_by_cX12_qWordOf_0 rfl rfl
theorem dX12_qAsksWord_1 : decode cX12_qAsksWord 1 = .ok (.tableswitch 165 0 9 #[55, 66, 77, 88, 99, 110, 121, 132, 143, 154], 55) := by decide +kernel
set_option maxRecDepth 100000 in
theorem yd_by_cX12_qAsksWord_0 : ydk cX12_qAsksWord 0 [27, 170, 0, 0, 0, 0, 0, 165, 0, 0, 0, 0, 0, 0, 0, 9, 0, 0, 0, 55, 0, 0, 0, 66, 0, 0, 0, 77, 0, 0, 0, 88, 0, 0, 0, 99, 0, 0, 0, 110, 0, 0, 0, 121, 0, 0, 0, 132, 0, 0, 0, 143, 0, 0, 0, 154, 42, 42, 180, 0, 198, 182, 1, 55, 167, 0, 110, 42, 42, 180, 0, 201, 182, 1, 55, 167, 0, 99, 42, 42, 180, 0, 204, 182, 1, 55, 167, 0, 88, 42, 42, 180, 0, 207, 182, 1, 55] = true := by decide +kernel
theorem dX12_qAsksWord_0 : decode cX12_qAsksWord 0 = .ok (.iload_n 1, 1) := yd_op_27 (i := 0) yd_by_cX12_qAsksWord_0 rfl rfl
theorem dX12_qAsksWord_56 : decode cX12_qAsksWord 56 = .ok (.aload_n 0, 1) := yd_op_42 (i := 56) yd_by_cX12_qAsksWord_0 rfl rfl
theorem dX12_qAsksWord_57 : decode cX12_qAsksWord 57 = .ok (.aload_n 0, 1) := yd_op_42 (i := 57) yd_by_cX12_qAsksWord_0 rfl rfl
theorem dX12_qAsksWord_58 : decode cX12_qAsksWord 58 = .ok (.getfield 198, 3) := yd_op_180 (i := 58) (a := 0) (b := 198) yd_by_cX12_qAsksWord_0 rfl rfl
theorem dX12_qAsksWord_61 : decode cX12_qAsksWord 61 = .ok (.invokevirtual 311, 3) := yd_op_182 (i := 61) (a := 1) (b := 55) yd_by_cX12_qAsksWord_0 rfl rfl
theorem dX12_qAsksWord_64 : decode cX12_qAsksWord 64 = .ok (.goto 110, 3) := yd_op_167 (i := 64) (a := 0) (b := 110) yd_by_cX12_qAsksWord_0 rfl rfl
theorem dX12_qAsksWord_67 : decode cX12_qAsksWord 67 = .ok (.aload_n 0, 1) := yd_op_42 (i := 67) yd_by_cX12_qAsksWord_0 rfl rfl
theorem dX12_qAsksWord_68 : decode cX12_qAsksWord 68 = .ok (.aload_n 0, 1) := yd_op_42 (i := 68) yd_by_cX12_qAsksWord_0 rfl rfl
theorem dX12_qAsksWord_69 : decode cX12_qAsksWord 69 = .ok (.getfield 201, 3) := yd_op_180 (i := 69) (a := 0) (b := 201) yd_by_cX12_qAsksWord_0 rfl rfl
theorem dX12_qAsksWord_72 : decode cX12_qAsksWord 72 = .ok (.invokevirtual 311, 3) := yd_op_182 (i := 72) (a := 1) (b := 55) yd_by_cX12_qAsksWord_0 rfl rfl
theorem dX12_qAsksWord_75 : decode cX12_qAsksWord 75 = .ok (.goto 99, 3) := yd_op_167 (i := 75) (a := 0) (b := 99) yd_by_cX12_qAsksWord_0 rfl rfl
theorem dX12_qAsksWord_78 : decode cX12_qAsksWord 78 = .ok (.aload_n 0, 1) := yd_op_42 (i := 78) yd_by_cX12_qAsksWord_0 rfl rfl
theorem dX12_qAsksWord_79 : decode cX12_qAsksWord 79 = .ok (.aload_n 0, 1) := yd_op_42 (i := 79) yd_by_cX12_qAsksWord_0 rfl rfl
theorem dX12_qAsksWord_80 : decode cX12_qAsksWord 80 = .ok (.getfield 204, 3) := yd_op_180 (i := 80) (a := 0) (b := 204) yd_by_cX12_qAsksWord_0 rfl rfl
theorem dX12_qAsksWord_83 : decode cX12_qAsksWord 83 = .ok (.invokevirtual 311, 3) := yd_op_182 (i := 83) (a := 1) (b := 55) yd_by_cX12_qAsksWord_0 rfl rfl
theorem dX12_qAsksWord_86 : decode cX12_qAsksWord 86 = .ok (.goto 88, 3) := yd_op_167 (i := 86) (a := 0) (b := 88) yd_by_cX12_qAsksWord_0 rfl rfl
theorem dX12_qAsksWord_89 : decode cX12_qAsksWord 89 = .ok (.aload_n 0, 1) := yd_op_42 (i := 89) yd_by_cX12_qAsksWord_0 rfl rfl
theorem dX12_qAsksWord_90 : decode cX12_qAsksWord 90 = .ok (.aload_n 0, 1) := yd_op_42 (i := 90) yd_by_cX12_qAsksWord_0 rfl rfl
theorem dX12_qAsksWord_91 : decode cX12_qAsksWord 91 = .ok (.getfield 207, 3) := yd_op_180 (i := 91) (a := 0) (b := 207) yd_by_cX12_qAsksWord_0 rfl rfl
theorem dX12_qAsksWord_94 : decode cX12_qAsksWord 94 = .ok (.invokevirtual 311, 3) := yd_op_182 (i := 94) (a := 1) (b := 55) yd_by_cX12_qAsksWord_0 rfl rfl
set_option maxRecDepth 100000 in
theorem yd_by_cX12_qAsksWord_1 : ydk cX12_qAsksWord 97 [167, 0, 77, 42, 42, 180, 0, 210, 182, 1, 55, 167, 0, 66, 42, 42, 180, 0, 213, 182, 1, 55, 167, 0, 55, 42, 42, 180, 0, 216, 182, 1, 55, 167, 0, 44, 42, 42, 180, 0, 219, 182, 1, 55] = true := by decide +kernel
theorem dX12_qAsksWord_97 : decode cX12_qAsksWord 97 = .ok (.goto 77, 3) := yd_op_167 (i := 0) (a := 0) (b := 77) yd_by_cX12_qAsksWord_1 rfl rfl
theorem dX12_qAsksWord_100 : decode cX12_qAsksWord 100 = .ok (.aload_n 0, 1) := yd_op_42 (i := 3) yd_by_cX12_qAsksWord_1 rfl rfl
theorem dX12_qAsksWord_101 : decode cX12_qAsksWord 101 = .ok (.aload_n 0, 1) := yd_op_42 (i := 4) yd_by_cX12_qAsksWord_1 rfl rfl
theorem dX12_qAsksWord_102 : decode cX12_qAsksWord 102 = .ok (.getfield 210, 3) := yd_op_180 (i := 5) (a := 0) (b := 210) yd_by_cX12_qAsksWord_1 rfl rfl
theorem dX12_qAsksWord_105 : decode cX12_qAsksWord 105 = .ok (.invokevirtual 311, 3) := yd_op_182 (i := 8) (a := 1) (b := 55) yd_by_cX12_qAsksWord_1 rfl rfl
theorem dX12_qAsksWord_108 : decode cX12_qAsksWord 108 = .ok (.goto 66, 3) := yd_op_167 (i := 11) (a := 0) (b := 66) yd_by_cX12_qAsksWord_1 rfl rfl
theorem dX12_qAsksWord_111 : decode cX12_qAsksWord 111 = .ok (.aload_n 0, 1) := yd_op_42 (i := 14) yd_by_cX12_qAsksWord_1 rfl rfl
theorem dX12_qAsksWord_112 : decode cX12_qAsksWord 112 = .ok (.aload_n 0, 1) := yd_op_42 (i := 15) yd_by_cX12_qAsksWord_1 rfl rfl
theorem dX12_qAsksWord_113 : decode cX12_qAsksWord 113 = .ok (.getfield 213, 3) := yd_op_180 (i := 16) (a := 0) (b := 213) yd_by_cX12_qAsksWord_1 rfl rfl
theorem dX12_qAsksWord_116 : decode cX12_qAsksWord 116 = .ok (.invokevirtual 311, 3) := yd_op_182 (i := 19) (a := 1) (b := 55) yd_by_cX12_qAsksWord_1 rfl rfl
theorem dX12_qAsksWord_119 : decode cX12_qAsksWord 119 = .ok (.goto 55, 3) := yd_op_167 (i := 22) (a := 0) (b := 55) yd_by_cX12_qAsksWord_1 rfl rfl
theorem dX12_qAsksWord_122 : decode cX12_qAsksWord 122 = .ok (.aload_n 0, 1) := yd_op_42 (i := 25) yd_by_cX12_qAsksWord_1 rfl rfl
theorem dX12_qAsksWord_123 : decode cX12_qAsksWord 123 = .ok (.aload_n 0, 1) := yd_op_42 (i := 26) yd_by_cX12_qAsksWord_1 rfl rfl
theorem dX12_qAsksWord_124 : decode cX12_qAsksWord 124 = .ok (.getfield 216, 3) := yd_op_180 (i := 27) (a := 0) (b := 216) yd_by_cX12_qAsksWord_1 rfl rfl
theorem dX12_qAsksWord_127 : decode cX12_qAsksWord 127 = .ok (.invokevirtual 311, 3) := yd_op_182 (i := 30) (a := 1) (b := 55) yd_by_cX12_qAsksWord_1 rfl rfl
theorem dX12_qAsksWord_130 : decode cX12_qAsksWord 130 = .ok (.goto 44, 3) := yd_op_167 (i := 33) (a := 0) (b := 44) yd_by_cX12_qAsksWord_1 rfl rfl
theorem dX12_qAsksWord_133 : decode cX12_qAsksWord 133 = .ok (.aload_n 0, 1) := yd_op_42 (i := 36) yd_by_cX12_qAsksWord_1 rfl rfl
theorem dX12_qAsksWord_134 : decode cX12_qAsksWord 134 = .ok (.aload_n 0, 1) := yd_op_42 (i := 37) yd_by_cX12_qAsksWord_1 rfl rfl
theorem dX12_qAsksWord_135 : decode cX12_qAsksWord 135 = .ok (.getfield 219, 3) := yd_op_180 (i := 38) (a := 0) (b := 219) yd_by_cX12_qAsksWord_1 rfl rfl
theorem dX12_qAsksWord_138 : decode cX12_qAsksWord 138 = .ok (.invokevirtual 311, 3) := yd_op_182 (i := 41) (a := 1) (b := 55) yd_by_cX12_qAsksWord_1 rfl rfl
set_option maxRecDepth 100000 in
theorem yd_by_cX12_qAsksWord_2 : ydk cX12_qAsksWord 141 [167, 0, 33, 42, 42, 180, 0, 222, 182, 1, 55, 167, 0, 22, 42, 42, 180, 0, 225, 182, 1, 55, 167, 0, 11, 42, 42, 180, 0, 228, 182, 1, 55, 177] = true := by decide +kernel
theorem dX12_qAsksWord_141 : decode cX12_qAsksWord 141 = .ok (.goto 33, 3) := yd_op_167 (i := 0) (a := 0) (b := 33) yd_by_cX12_qAsksWord_2 rfl rfl
theorem dX12_qAsksWord_144 : decode cX12_qAsksWord 144 = .ok (.aload_n 0, 1) := yd_op_42 (i := 3) yd_by_cX12_qAsksWord_2 rfl rfl
theorem dX12_qAsksWord_145 : decode cX12_qAsksWord 145 = .ok (.aload_n 0, 1) := yd_op_42 (i := 4) yd_by_cX12_qAsksWord_2 rfl rfl
theorem dX12_qAsksWord_146 : decode cX12_qAsksWord 146 = .ok (.getfield 222, 3) := yd_op_180 (i := 5) (a := 0) (b := 222) yd_by_cX12_qAsksWord_2 rfl rfl
theorem dX12_qAsksWord_149 : decode cX12_qAsksWord 149 = .ok (.invokevirtual 311, 3) := yd_op_182 (i := 8) (a := 1) (b := 55) yd_by_cX12_qAsksWord_2 rfl rfl
theorem dX12_qAsksWord_152 : decode cX12_qAsksWord 152 = .ok (.goto 22, 3) := yd_op_167 (i := 11) (a := 0) (b := 22) yd_by_cX12_qAsksWord_2 rfl rfl
theorem dX12_qAsksWord_155 : decode cX12_qAsksWord 155 = .ok (.aload_n 0, 1) := yd_op_42 (i := 14) yd_by_cX12_qAsksWord_2 rfl rfl
theorem dX12_qAsksWord_156 : decode cX12_qAsksWord 156 = .ok (.aload_n 0, 1) := yd_op_42 (i := 15) yd_by_cX12_qAsksWord_2 rfl rfl
theorem dX12_qAsksWord_157 : decode cX12_qAsksWord 157 = .ok (.getfield 225, 3) := yd_op_180 (i := 16) (a := 0) (b := 225) yd_by_cX12_qAsksWord_2 rfl rfl
theorem dX12_qAsksWord_160 : decode cX12_qAsksWord 160 = .ok (.invokevirtual 311, 3) := yd_op_182 (i := 19) (a := 1) (b := 55) yd_by_cX12_qAsksWord_2 rfl rfl
theorem dX12_qAsksWord_163 : decode cX12_qAsksWord 163 = .ok (.goto 11, 3) := yd_op_167 (i := 22) (a := 0) (b := 11) yd_by_cX12_qAsksWord_2 rfl rfl
theorem dX12_qAsksWord_166 : decode cX12_qAsksWord 166 = .ok (.aload_n 0, 1) := yd_op_42 (i := 25) yd_by_cX12_qAsksWord_2 rfl rfl
theorem dX12_qAsksWord_167 : decode cX12_qAsksWord 167 = .ok (.aload_n 0, 1) := yd_op_42 (i := 26) yd_by_cX12_qAsksWord_2 rfl rfl
theorem dX12_qAsksWord_168 : decode cX12_qAsksWord 168 = .ok (.getfield 228, 3) := yd_op_180 (i := 27) (a := 0) (b := 228) yd_by_cX12_qAsksWord_2 rfl rfl
theorem dX12_qAsksWord_171 : decode cX12_qAsksWord 171 = .ok (.invokevirtual 311, 3) := yd_op_182 (i := 30) (a := 1) (b := 55) yd_by_cX12_qAsksWord_2 rfl rfl
theorem dX12_qAsksWord_174 : decode cX12_qAsksWord 174 = .ok (.return_, 1) := yd_op_177 (i := 33) yd_by_cX12_qAsksWord_2 rfl rfl
set_option maxRecDepth 100000 in
theorem yd_by_cX12_qEndsPart_0 : ydk cX12_qEndsPart 0 [42, 180, 0, 246, 154, 0, 47, 42, 180, 1, 77, 42, 180, 1, 83, 164, 0, 36, 42, 180, 0, 234, 42, 180, 1, 77, 4, 100, 46, 16, 60, 161, 0, 20, 42, 89, 180, 1, 80] = true := by decide +kernel
theorem dX12_qEndsPart_0 : decode cX12_qEndsPart 0 = .ok (.aload_n 0, 1) := yd_op_42 (i := 0) yd_by_cX12_qEndsPart_0 rfl rfl
theorem dX12_qEndsPart_1 : decode cX12_qEndsPart 1 = .ok (.getfield 246, 3) := yd_op_180 (i := 1) (a := 0) (b := 246) yd_by_cX12_qEndsPart_0 rfl rfl
theorem dX12_qEndsPart_4 : decode cX12_qEndsPart 4 = .ok (.ifCond .ne 47, 3) := yd_op_154 (i := 4) (a := 0) (b := 47) yd_by_cX12_qEndsPart_0 rfl rfl
theorem dX12_qEndsPart_7 : decode cX12_qEndsPart 7 = .ok (.aload_n 0, 1) := yd_op_42 (i := 7) yd_by_cX12_qEndsPart_0 rfl rfl
theorem dX12_qEndsPart_8 : decode cX12_qEndsPart 8 = .ok (.getfield 333, 3) := yd_op_180 (i := 8) (a := 1) (b := 77) yd_by_cX12_qEndsPart_0 rfl rfl
theorem dX12_qEndsPart_11 : decode cX12_qEndsPart 11 = .ok (.aload_n 0, 1) := yd_op_42 (i := 11) yd_by_cX12_qEndsPart_0 rfl rfl
theorem dX12_qEndsPart_12 : decode cX12_qEndsPart 12 = .ok (.getfield 339, 3) := yd_op_180 (i := 12) (a := 1) (b := 83) yd_by_cX12_qEndsPart_0 rfl rfl
theorem dX12_qEndsPart_15 : decode cX12_qEndsPart 15 = .ok (.if_icmp .le 36, 3) := yd_op_164 (i := 15) (a := 0) (b := 36) yd_by_cX12_qEndsPart_0 rfl rfl
theorem dX12_qEndsPart_18 : decode cX12_qEndsPart 18 = .ok (.aload_n 0, 1) := yd_op_42 (i := 18) yd_by_cX12_qEndsPart_0 rfl rfl
theorem dX12_qEndsPart_19 : decode cX12_qEndsPart 19 = .ok (.getfield 234, 3) := yd_op_180 (i := 19) (a := 0) (b := 234) yd_by_cX12_qEndsPart_0 rfl rfl
theorem dX12_qEndsPart_22 : decode cX12_qEndsPart 22 = .ok (.aload_n 0, 1) := yd_op_42 (i := 22) yd_by_cX12_qEndsPart_0 rfl rfl
theorem dX12_qEndsPart_23 : decode cX12_qEndsPart 23 = .ok (.getfield 333, 3) := yd_op_180 (i := 23) (a := 1) (b := 77) yd_by_cX12_qEndsPart_0 rfl rfl
theorem dX12_qEndsPart_26 : decode cX12_qEndsPart 26 = .ok (.iconst 1, 1) := yd_op_4 (i := 26) yd_by_cX12_qEndsPart_0 rfl rfl
theorem dX12_qEndsPart_27 : decode cX12_qEndsPart 27 = .ok (.isub, 1) := yd_op_100 (i := 27) yd_by_cX12_qEndsPart_0 rfl rfl
theorem dX12_qEndsPart_28 : decode cX12_qEndsPart 28 = .ok (.iaload, 1) := yd_op_46 (i := 28) yd_by_cX12_qEndsPart_0 rfl rfl
theorem dX12_qEndsPart_29 : decode cX12_qEndsPart 29 = .ok (.bipush 60, 2) := yd_op_16 (i := 29) (a := 60) yd_by_cX12_qEndsPart_0 rfl rfl
theorem dX12_qEndsPart_31 : decode cX12_qEndsPart 31 = .ok (.if_icmp .lt 20, 3) := yd_op_161 (i := 31) (a := 0) (b := 20) yd_by_cX12_qEndsPart_0 rfl rfl
theorem dX12_qEndsPart_34 : decode cX12_qEndsPart 34 = .ok (.aload_n 0, 1) := yd_op_42 (i := 34) yd_by_cX12_qEndsPart_0 rfl rfl
theorem dX12_qEndsPart_35 : decode cX12_qEndsPart 35 = .ok (.dup, 1) := yd_op_89 (i := 35) yd_by_cX12_qEndsPart_0 rfl rfl
theorem dX12_qEndsPart_36 : decode cX12_qEndsPart 36 = .ok (.getfield 336, 3) := yd_op_180 (i := 36) (a := 1) (b := 80) yd_by_cX12_qEndsPart_0 rfl rfl
set_option maxRecDepth 100000 in
theorem yd_by_cX12_qEndsPart_1 : ydk cX12_qEndsPart 39 [4, 100, 181, 1, 80, 42, 182, 2, 52, 167, 255, 208, 177] = true := by decide +kernel
theorem dX12_qEndsPart_39 : decode cX12_qEndsPart 39 = .ok (.iconst 1, 1) := yd_op_4 (i := 0) yd_by_cX12_qEndsPart_1 rfl rfl
theorem dX12_qEndsPart_40 : decode cX12_qEndsPart 40 = .ok (.isub, 1) := yd_op_100 (i := 1) yd_by_cX12_qEndsPart_1 rfl rfl
theorem dX12_qEndsPart_41 : decode cX12_qEndsPart 41 = .ok (.putfield 336, 3) := yd_op_181 (i := 2) (a := 1) (b := 80) yd_by_cX12_qEndsPart_1 rfl rfl
theorem dX12_qEndsPart_44 : decode cX12_qEndsPart 44 = .ok (.aload_n 0, 1) := yd_op_42 (i := 5) yd_by_cX12_qEndsPart_1 rfl rfl
theorem dX12_qEndsPart_45 : decode cX12_qEndsPart 45 = .ok (.invokevirtual 564, 3) := yd_op_182 (i := 6) (a := 2) (b := 52) yd_by_cX12_qEndsPart_1 rfl rfl
theorem dX12_qEndsPart_48 : decode cX12_qEndsPart 48 = .ok (.goto (-48), 3) := yd_op_167 (i := 9) (a := 255) (b := 208) yd_by_cX12_qEndsPart_1 rfl rfl
theorem dX12_qEndsPart_51 : decode cX12_qEndsPart 51 = .ok (.return_, 1) := yd_op_177 (i := 12) yd_by_cX12_qEndsPart_1 rfl rfl
set_option maxRecDepth 100000 in
theorem yd_by_cX12_qPartTold_0 : ydk cX12_qPartTold 0 [4, 60, 27, 153, 0, 183, 42, 180, 0, 246, 154, 0, 176, 42, 182, 1, 2, 61, 42, 16, 10, 16, 11, 182, 2, 61, 62, 28, 16, 40, 160, 0, 26, 42, 16, 20] = true := by decide +kernel
theorem dX12_qPartTold_0 : decode cX12_qPartTold 0 = .ok (.iconst 1, 1) := yd_op_4 (i := 0) yd_by_cX12_qPartTold_0 rfl rfl
theorem dX12_qPartTold_1 : decode cX12_qPartTold 1 = .ok (.istore_n 1, 1) := yd_op_60 (i := 1) yd_by_cX12_qPartTold_0 rfl rfl
theorem dX12_qPartTold_2 : decode cX12_qPartTold 2 = .ok (.iload_n 1, 1) := yd_op_27 (i := 2) yd_by_cX12_qPartTold_0 rfl rfl
theorem dX12_qPartTold_3 : decode cX12_qPartTold 3 = .ok (.ifCond .eq 183, 3) := yd_op_153 (i := 3) (a := 0) (b := 183) yd_by_cX12_qPartTold_0 rfl rfl
theorem dX12_qPartTold_6 : decode cX12_qPartTold 6 = .ok (.aload_n 0, 1) := yd_op_42 (i := 6) yd_by_cX12_qPartTold_0 rfl rfl
theorem dX12_qPartTold_7 : decode cX12_qPartTold 7 = .ok (.getfield 246, 3) := yd_op_180 (i := 7) (a := 0) (b := 246) yd_by_cX12_qPartTold_0 rfl rfl
theorem dX12_qPartTold_10 : decode cX12_qPartTold 10 = .ok (.ifCond .ne 176, 3) := yd_op_154 (i := 10) (a := 0) (b := 176) yd_by_cX12_qPartTold_0 rfl rfl
theorem dX12_qPartTold_13 : decode cX12_qPartTold 13 = .ok (.aload_n 0, 1) := yd_op_42 (i := 13) yd_by_cX12_qPartTold_0 rfl rfl
theorem dX12_qPartTold_14 : decode cX12_qPartTold 14 = .ok (.invokevirtual 258, 3) := yd_op_182 (i := 14) (a := 1) (b := 2) yd_by_cX12_qPartTold_0 rfl rfl
theorem dX12_qPartTold_17 : decode cX12_qPartTold 17 = .ok (.istore_n 2, 1) := yd_op_61 (i := 17) yd_by_cX12_qPartTold_0 rfl rfl
theorem dX12_qPartTold_18 : decode cX12_qPartTold 18 = .ok (.aload_n 0, 1) := yd_op_42 (i := 18) yd_by_cX12_qPartTold_0 rfl rfl
theorem dX12_qPartTold_19 : decode cX12_qPartTold 19 = .ok (.bipush 10, 2) := yd_op_16 (i := 19) (a := 10) yd_by_cX12_qPartTold_0 rfl rfl
theorem dX12_qPartTold_21 : decode cX12_qPartTold 21 = .ok (.bipush 11, 2) := yd_op_16 (i := 21) (a := 11) yd_by_cX12_qPartTold_0 rfl rfl
theorem dX12_qPartTold_23 : decode cX12_qPartTold 23 = .ok (.invokevirtual 573, 3) := yd_op_182 (i := 23) (a := 2) (b := 61) yd_by_cX12_qPartTold_0 rfl rfl
theorem dX12_qPartTold_26 : decode cX12_qPartTold 26 = .ok (.istore_n 3, 1) := yd_op_62 (i := 26) yd_by_cX12_qPartTold_0 rfl rfl
theorem dX12_qPartTold_27 : decode cX12_qPartTold 27 = .ok (.iload_n 2, 1) := yd_op_28 (i := 27) yd_by_cX12_qPartTold_0 rfl rfl
theorem dX12_qPartTold_28 : decode cX12_qPartTold 28 = .ok (.bipush 40, 2) := yd_op_16 (i := 28) (a := 40) yd_by_cX12_qPartTold_0 rfl rfl
theorem dX12_qPartTold_30 : decode cX12_qPartTold 30 = .ok (.if_icmp .ne 26, 3) := yd_op_160 (i := 30) (a := 0) (b := 26) yd_by_cX12_qPartTold_0 rfl rfl
theorem dX12_qPartTold_33 : decode cX12_qPartTold 33 = .ok (.aload_n 0, 1) := yd_op_42 (i := 33) yd_by_cX12_qPartTold_0 rfl rfl
theorem dX12_qPartTold_34 : decode cX12_qPartTold 34 = .ok (.bipush 20, 2) := yd_op_16 (i := 34) (a := 20) yd_by_cX12_qPartTold_0 rfl rfl
set_option maxRecDepth 100000 in
theorem yd_by_cX12_qPartTold_1 : ydk cX12_qPartTold 36 [42, 180, 0, 252, 182, 2, 64, 42, 89, 180, 0, 252, 4, 96, 181, 0, 252, 167, 0, 130, 42, 42, 180, 0, 192, 182, 1, 13, 154, 0, 14, 42, 42, 180, 0, 195, 182, 1, 13, 153, 0, 78] = true := by decide +kernel
theorem dX12_qPartTold_36 : decode cX12_qPartTold 36 = .ok (.aload_n 0, 1) := yd_op_42 (i := 0) yd_by_cX12_qPartTold_1 rfl rfl
theorem dX12_qPartTold_37 : decode cX12_qPartTold 37 = .ok (.getfield 252, 3) := yd_op_180 (i := 1) (a := 0) (b := 252) yd_by_cX12_qPartTold_1 rfl rfl
theorem dX12_qPartTold_40 : decode cX12_qPartTold 40 = .ok (.invokevirtual 576, 3) := yd_op_182 (i := 4) (a := 2) (b := 64) yd_by_cX12_qPartTold_1 rfl rfl
theorem dX12_qPartTold_43 : decode cX12_qPartTold 43 = .ok (.aload_n 0, 1) := yd_op_42 (i := 7) yd_by_cX12_qPartTold_1 rfl rfl
theorem dX12_qPartTold_44 : decode cX12_qPartTold 44 = .ok (.dup, 1) := yd_op_89 (i := 8) yd_by_cX12_qPartTold_1 rfl rfl
theorem dX12_qPartTold_45 : decode cX12_qPartTold 45 = .ok (.getfield 252, 3) := yd_op_180 (i := 9) (a := 0) (b := 252) yd_by_cX12_qPartTold_1 rfl rfl
theorem dX12_qPartTold_48 : decode cX12_qPartTold 48 = .ok (.iconst 1, 1) := yd_op_4 (i := 12) yd_by_cX12_qPartTold_1 rfl rfl
theorem dX12_qPartTold_49 : decode cX12_qPartTold 49 = .ok (.iadd, 1) := yd_op_96 (i := 13) yd_by_cX12_qPartTold_1 rfl rfl
theorem dX12_qPartTold_50 : decode cX12_qPartTold 50 = .ok (.putfield 252, 3) := yd_op_181 (i := 14) (a := 0) (b := 252) yd_by_cX12_qPartTold_1 rfl rfl
theorem dX12_qPartTold_53 : decode cX12_qPartTold 53 = .ok (.goto 130, 3) := yd_op_167 (i := 17) (a := 0) (b := 130) yd_by_cX12_qPartTold_1 rfl rfl
theorem dX12_qPartTold_56 : decode cX12_qPartTold 56 = .ok (.aload_n 0, 1) := yd_op_42 (i := 20) yd_by_cX12_qPartTold_1 rfl rfl
theorem dX12_qPartTold_57 : decode cX12_qPartTold 57 = .ok (.aload_n 0, 1) := yd_op_42 (i := 21) yd_by_cX12_qPartTold_1 rfl rfl
theorem dX12_qPartTold_58 : decode cX12_qPartTold 58 = .ok (.getfield 192, 3) := yd_op_180 (i := 22) (a := 0) (b := 192) yd_by_cX12_qPartTold_1 rfl rfl
theorem dX12_qPartTold_61 : decode cX12_qPartTold 61 = .ok (.invokevirtual 269, 3) := yd_op_182 (i := 25) (a := 1) (b := 13) yd_by_cX12_qPartTold_1 rfl rfl
theorem dX12_qPartTold_64 : decode cX12_qPartTold 64 = .ok (.ifCond .ne 14, 3) := yd_op_154 (i := 28) (a := 0) (b := 14) yd_by_cX12_qPartTold_1 rfl rfl
theorem dX12_qPartTold_67 : decode cX12_qPartTold 67 = .ok (.aload_n 0, 1) := yd_op_42 (i := 31) yd_by_cX12_qPartTold_1 rfl rfl
theorem dX12_qPartTold_68 : decode cX12_qPartTold 68 = .ok (.aload_n 0, 1) := yd_op_42 (i := 32) yd_by_cX12_qPartTold_1 rfl rfl
theorem dX12_qPartTold_69 : decode cX12_qPartTold 69 = .ok (.getfield 195, 3) := yd_op_180 (i := 33) (a := 0) (b := 195) yd_by_cX12_qPartTold_1 rfl rfl
theorem dX12_qPartTold_72 : decode cX12_qPartTold 72 = .ok (.invokevirtual 269, 3) := yd_op_182 (i := 36) (a := 1) (b := 13) yd_by_cX12_qPartTold_1 rfl rfl
theorem dX12_qPartTold_75 : decode cX12_qPartTold 75 = .ok (.ifCond .eq 78, 3) := yd_op_153 (i := 39) (a := 0) (b := 78) yd_by_cX12_qPartTold_1 rfl rfl
set_option maxRecDepth 100000 in
theorem yd_by_cX12_qPartTold_2 : ydk cX12_qPartTold 78 [42, 42, 180, 0, 192, 182, 1, 17, 54, 4, 21, 4, 154, 0, 11, 42, 42, 180, 0, 195, 182, 1, 55, 42, 182, 1, 2, 16, 40, 160, 0, 10, 42, 180, 0, 252, 167, 0, 4, 2, 54, 5] = true := by decide +kernel
theorem dX12_qPartTold_78 : decode cX12_qPartTold 78 = .ok (.aload_n 0, 1) := yd_op_42 (i := 0) yd_by_cX12_qPartTold_2 rfl rfl
theorem dX12_qPartTold_79 : decode cX12_qPartTold 79 = .ok (.aload_n 0, 1) := yd_op_42 (i := 1) yd_by_cX12_qPartTold_2 rfl rfl
theorem dX12_qPartTold_80 : decode cX12_qPartTold 80 = .ok (.getfield 192, 3) := yd_op_180 (i := 2) (a := 0) (b := 192) yd_by_cX12_qPartTold_2 rfl rfl
theorem dX12_qPartTold_83 : decode cX12_qPartTold 83 = .ok (.invokevirtual 273, 3) := yd_op_182 (i := 5) (a := 1) (b := 17) yd_by_cX12_qPartTold_2 rfl rfl
theorem dX12_qPartTold_86 : decode cX12_qPartTold 86 = .ok (.istore 4, 2) := yd_op_54 (i := 8) (a := 4) yd_by_cX12_qPartTold_2 rfl rfl
theorem dX12_qPartTold_88 : decode cX12_qPartTold 88 = .ok (.iload 4, 2) := yd_op_21 (i := 10) (a := 4) yd_by_cX12_qPartTold_2 rfl rfl
theorem dX12_qPartTold_90 : decode cX12_qPartTold 90 = .ok (.ifCond .ne 11, 3) := yd_op_154 (i := 12) (a := 0) (b := 11) yd_by_cX12_qPartTold_2 rfl rfl
theorem dX12_qPartTold_93 : decode cX12_qPartTold 93 = .ok (.aload_n 0, 1) := yd_op_42 (i := 15) yd_by_cX12_qPartTold_2 rfl rfl
theorem dX12_qPartTold_94 : decode cX12_qPartTold 94 = .ok (.aload_n 0, 1) := yd_op_42 (i := 16) yd_by_cX12_qPartTold_2 rfl rfl
theorem dX12_qPartTold_95 : decode cX12_qPartTold 95 = .ok (.getfield 195, 3) := yd_op_180 (i := 17) (a := 0) (b := 195) yd_by_cX12_qPartTold_2 rfl rfl
theorem dX12_qPartTold_98 : decode cX12_qPartTold 98 = .ok (.invokevirtual 311, 3) := yd_op_182 (i := 20) (a := 1) (b := 55) yd_by_cX12_qPartTold_2 rfl rfl
theorem dX12_qPartTold_101 : decode cX12_qPartTold 101 = .ok (.aload_n 0, 1) := yd_op_42 (i := 23) yd_by_cX12_qPartTold_2 rfl rfl
theorem dX12_qPartTold_102 : decode cX12_qPartTold 102 = .ok (.invokevirtual 258, 3) := yd_op_182 (i := 24) (a := 1) (b := 2) yd_by_cX12_qPartTold_2 rfl rfl
theorem dX12_qPartTold_105 : decode cX12_qPartTold 105 = .ok (.bipush 40, 2) := yd_op_16 (i := 27) (a := 40) yd_by_cX12_qPartTold_2 rfl rfl
theorem dX12_qPartTold_107 : decode cX12_qPartTold 107 = .ok (.if_icmp .ne 10, 3) := yd_op_160 (i := 29) (a := 0) (b := 10) yd_by_cX12_qPartTold_2 rfl rfl
theorem dX12_qPartTold_110 : decode cX12_qPartTold 110 = .ok (.aload_n 0, 1) := yd_op_42 (i := 32) yd_by_cX12_qPartTold_2 rfl rfl
theorem dX12_qPartTold_111 : decode cX12_qPartTold 111 = .ok (.getfield 252, 3) := yd_op_180 (i := 33) (a := 0) (b := 252) yd_by_cX12_qPartTold_2 rfl rfl
theorem dX12_qPartTold_114 : decode cX12_qPartTold 114 = .ok (.goto 4, 3) := yd_op_167 (i := 36) (a := 0) (b := 4) yd_by_cX12_qPartTold_2 rfl rfl
theorem dX12_qPartTold_117 : decode cX12_qPartTold 117 = .ok (.iconst (-1), 1) := yd_op_2 (i := 39) yd_by_cX12_qPartTold_2 rfl rfl
theorem dX12_qPartTold_118 : decode cX12_qPartTold 118 = .ok (.istore 5, 2) := yd_op_54 (i := 40) (a := 5) yd_by_cX12_qPartTold_2 rfl rfl
set_option maxRecDepth 100000 in
theorem yd_by_cX12_qPartTold_3 : ydk cX12_qPartTold 120 [21, 5, 2, 159, 0, 21, 42, 21, 4, 153, 0, 8, 16, 21, 167, 0, 5, 16, 22, 21, 5, 182, 2, 64, 42, 16, 40, 182, 1, 63, 167, 0, 33, 29, 2, 159, 0, 26, 42, 16, 60] = true := by decide +kernel
theorem dX12_qPartTold_120 : decode cX12_qPartTold 120 = .ok (.iload 5, 2) := yd_op_21 (i := 0) (a := 5) yd_by_cX12_qPartTold_3 rfl rfl
theorem dX12_qPartTold_122 : decode cX12_qPartTold 122 = .ok (.iconst (-1), 1) := yd_op_2 (i := 2) yd_by_cX12_qPartTold_3 rfl rfl
theorem dX12_qPartTold_123 : decode cX12_qPartTold 123 = .ok (.if_icmp .eq 21, 3) := yd_op_159 (i := 3) (a := 0) (b := 21) yd_by_cX12_qPartTold_3 rfl rfl
theorem dX12_qPartTold_126 : decode cX12_qPartTold 126 = .ok (.aload_n 0, 1) := yd_op_42 (i := 6) yd_by_cX12_qPartTold_3 rfl rfl
theorem dX12_qPartTold_127 : decode cX12_qPartTold 127 = .ok (.iload 4, 2) := yd_op_21 (i := 7) (a := 4) yd_by_cX12_qPartTold_3 rfl rfl
theorem dX12_qPartTold_129 : decode cX12_qPartTold 129 = .ok (.ifCond .eq 8, 3) := yd_op_153 (i := 9) (a := 0) (b := 8) yd_by_cX12_qPartTold_3 rfl rfl
theorem dX12_qPartTold_132 : decode cX12_qPartTold 132 = .ok (.bipush 21, 2) := yd_op_16 (i := 12) (a := 21) yd_by_cX12_qPartTold_3 rfl rfl
theorem dX12_qPartTold_134 : decode cX12_qPartTold 134 = .ok (.goto 5, 3) := yd_op_167 (i := 14) (a := 0) (b := 5) yd_by_cX12_qPartTold_3 rfl rfl
theorem dX12_qPartTold_137 : decode cX12_qPartTold 137 = .ok (.bipush 22, 2) := yd_op_16 (i := 17) (a := 22) yd_by_cX12_qPartTold_3 rfl rfl
theorem dX12_qPartTold_139 : decode cX12_qPartTold 139 = .ok (.iload 5, 2) := yd_op_21 (i := 19) (a := 5) yd_by_cX12_qPartTold_3 rfl rfl
theorem dX12_qPartTold_141 : decode cX12_qPartTold 141 = .ok (.invokevirtual 576, 3) := yd_op_182 (i := 21) (a := 2) (b := 64) yd_by_cX12_qPartTold_3 rfl rfl
theorem dX12_qPartTold_144 : decode cX12_qPartTold 144 = .ok (.aload_n 0, 1) := yd_op_42 (i := 24) yd_by_cX12_qPartTold_3 rfl rfl
theorem dX12_qPartTold_145 : decode cX12_qPartTold 145 = .ok (.bipush 40, 2) := yd_op_16 (i := 25) (a := 40) yd_by_cX12_qPartTold_3 rfl rfl
theorem dX12_qPartTold_147 : decode cX12_qPartTold 147 = .ok (.invokevirtual 319, 3) := yd_op_182 (i := 27) (a := 1) (b := 63) yd_by_cX12_qPartTold_3 rfl rfl
theorem dX12_qPartTold_150 : decode cX12_qPartTold 150 = .ok (.goto 33, 3) := yd_op_167 (i := 30) (a := 0) (b := 33) yd_by_cX12_qPartTold_3 rfl rfl
theorem dX12_qPartTold_153 : decode cX12_qPartTold 153 = .ok (.iload_n 3, 1) := yd_op_29 (i := 33) yd_by_cX12_qPartTold_3 rfl rfl
theorem dX12_qPartTold_154 : decode cX12_qPartTold 154 = .ok (.iconst (-1), 1) := yd_op_2 (i := 34) yd_by_cX12_qPartTold_3 rfl rfl
theorem dX12_qPartTold_155 : decode cX12_qPartTold 155 = .ok (.if_icmp .eq 26, 3) := yd_op_159 (i := 35) (a := 0) (b := 26) yd_by_cX12_qPartTold_3 rfl rfl
theorem dX12_qPartTold_158 : decode cX12_qPartTold 158 = .ok (.aload_n 0, 1) := yd_op_42 (i := 38) yd_by_cX12_qPartTold_3 rfl rfl
theorem dX12_qPartTold_159 : decode cX12_qPartTold 159 = .ok (.bipush 60, 2) := yd_op_16 (i := 39) (a := 60) yd_by_cX12_qPartTold_3 rfl rfl
set_option maxRecDepth 100000 in
theorem yd_by_cX12_qPartTold_4 : ydk cX12_qPartTold 161 [29, 96, 16, 10, 100, 42, 180, 0, 252, 182, 2, 64, 42, 29, 182, 2, 67, 167, 0, 5, 3, 60, 167, 255, 75, 42, 180, 0, 246, 153, 0, 4, 177, 42, 3] = true := by decide +kernel
theorem dX12_qPartTold_161 : decode cX12_qPartTold 161 = .ok (.iload_n 3, 1) := yd_op_29 (i := 0) yd_by_cX12_qPartTold_4 rfl rfl
theorem dX12_qPartTold_162 : decode cX12_qPartTold 162 = .ok (.iadd, 1) := yd_op_96 (i := 1) yd_by_cX12_qPartTold_4 rfl rfl
theorem dX12_qPartTold_163 : decode cX12_qPartTold 163 = .ok (.bipush 10, 2) := yd_op_16 (i := 2) (a := 10) yd_by_cX12_qPartTold_4 rfl rfl
theorem dX12_qPartTold_165 : decode cX12_qPartTold 165 = .ok (.isub, 1) := yd_op_100 (i := 4) yd_by_cX12_qPartTold_4 rfl rfl
theorem dX12_qPartTold_166 : decode cX12_qPartTold 166 = .ok (.aload_n 0, 1) := yd_op_42 (i := 5) yd_by_cX12_qPartTold_4 rfl rfl
theorem dX12_qPartTold_167 : decode cX12_qPartTold 167 = .ok (.getfield 252, 3) := yd_op_180 (i := 6) (a := 0) (b := 252) yd_by_cX12_qPartTold_4 rfl rfl
theorem dX12_qPartTold_170 : decode cX12_qPartTold 170 = .ok (.invokevirtual 576, 3) := yd_op_182 (i := 9) (a := 2) (b := 64) yd_by_cX12_qPartTold_4 rfl rfl
theorem dX12_qPartTold_173 : decode cX12_qPartTold 173 = .ok (.aload_n 0, 1) := yd_op_42 (i := 12) yd_by_cX12_qPartTold_4 rfl rfl
theorem dX12_qPartTold_174 : decode cX12_qPartTold 174 = .ok (.iload_n 3, 1) := yd_op_29 (i := 13) yd_by_cX12_qPartTold_4 rfl rfl
theorem dX12_qPartTold_175 : decode cX12_qPartTold 175 = .ok (.invokevirtual 579, 3) := yd_op_182 (i := 14) (a := 2) (b := 67) yd_by_cX12_qPartTold_4 rfl rfl
theorem dX12_qPartTold_178 : decode cX12_qPartTold 178 = .ok (.goto 5, 3) := yd_op_167 (i := 17) (a := 0) (b := 5) yd_by_cX12_qPartTold_4 rfl rfl
theorem dX12_qPartTold_181 : decode cX12_qPartTold 181 = .ok (.iconst 0, 1) := yd_op_3 (i := 20) yd_by_cX12_qPartTold_4 rfl rfl
theorem dX12_qPartTold_182 : decode cX12_qPartTold 182 = .ok (.istore_n 1, 1) := yd_op_60 (i := 21) yd_by_cX12_qPartTold_4 rfl rfl
theorem dX12_qPartTold_183 : decode cX12_qPartTold 183 = .ok (.goto (-181), 3) := yd_op_167 (i := 22) (a := 255) (b := 75) yd_by_cX12_qPartTold_4 rfl rfl
theorem dX12_qPartTold_186 : decode cX12_qPartTold 186 = .ok (.aload_n 0, 1) := yd_op_42 (i := 25) yd_by_cX12_qPartTold_4 rfl rfl
theorem dX12_qPartTold_187 : decode cX12_qPartTold 187 = .ok (.getfield 246, 3) := yd_op_180 (i := 26) (a := 0) (b := 246) yd_by_cX12_qPartTold_4 rfl rfl
theorem dX12_qPartTold_190 : decode cX12_qPartTold 190 = .ok (.ifCond .eq 4, 3) := yd_op_153 (i := 29) (a := 0) (b := 4) yd_by_cX12_qPartTold_4 rfl rfl
theorem dX12_qPartTold_193 : decode cX12_qPartTold 193 = .ok (.return_, 1) := yd_op_177 (i := 32) yd_by_cX12_qPartTold_4 rfl rfl
theorem dX12_qPartTold_194 : decode cX12_qPartTold 194 = .ok (.aload_n 0, 1) := yd_op_42 (i := 33) yd_by_cX12_qPartTold_4 rfl rfl
theorem dX12_qPartTold_195 : decode cX12_qPartTold 195 = .ok (.iconst 0, 1) := yd_op_3 (i := 34) yd_by_cX12_qPartTold_4 rfl rfl
set_option maxRecDepth 100000 in
theorem yd_by_cX12_qPartTold_5 : ydk cX12_qPartTold 196 [16, 10, 182, 2, 61, 61, 28, 2, 159, 0, 8, 42, 28, 182, 2, 67, 42, 28, 2, 159, 0, 10, 16, 40, 28, 96, 167, 0, 15, 17, 3, 232, 42, 3] = true := by decide +kernel
theorem dX12_qPartTold_196 : decode cX12_qPartTold 196 = .ok (.bipush 10, 2) := yd_op_16 (i := 0) (a := 10) yd_by_cX12_qPartTold_5 rfl rfl
theorem dX12_qPartTold_198 : decode cX12_qPartTold 198 = .ok (.invokevirtual 573, 3) := yd_op_182 (i := 2) (a := 2) (b := 61) yd_by_cX12_qPartTold_5 rfl rfl
theorem dX12_qPartTold_201 : decode cX12_qPartTold 201 = .ok (.istore_n 2, 1) := yd_op_61 (i := 5) yd_by_cX12_qPartTold_5 rfl rfl
theorem dX12_qPartTold_202 : decode cX12_qPartTold 202 = .ok (.iload_n 2, 1) := yd_op_28 (i := 6) yd_by_cX12_qPartTold_5 rfl rfl
theorem dX12_qPartTold_203 : decode cX12_qPartTold 203 = .ok (.iconst (-1), 1) := yd_op_2 (i := 7) yd_by_cX12_qPartTold_5 rfl rfl
theorem dX12_qPartTold_204 : decode cX12_qPartTold 204 = .ok (.if_icmp .eq 8, 3) := yd_op_159 (i := 8) (a := 0) (b := 8) yd_by_cX12_qPartTold_5 rfl rfl
theorem dX12_qPartTold_207 : decode cX12_qPartTold 207 = .ok (.aload_n 0, 1) := yd_op_42 (i := 11) yd_by_cX12_qPartTold_5 rfl rfl
theorem dX12_qPartTold_208 : decode cX12_qPartTold 208 = .ok (.iload_n 2, 1) := yd_op_28 (i := 12) yd_by_cX12_qPartTold_5 rfl rfl
theorem dX12_qPartTold_209 : decode cX12_qPartTold 209 = .ok (.invokevirtual 579, 3) := yd_op_182 (i := 13) (a := 2) (b := 67) yd_by_cX12_qPartTold_5 rfl rfl
theorem dX12_qPartTold_212 : decode cX12_qPartTold 212 = .ok (.aload_n 0, 1) := yd_op_42 (i := 16) yd_by_cX12_qPartTold_5 rfl rfl
theorem dX12_qPartTold_213 : decode cX12_qPartTold 213 = .ok (.iload_n 2, 1) := yd_op_28 (i := 17) yd_by_cX12_qPartTold_5 rfl rfl
theorem dX12_qPartTold_214 : decode cX12_qPartTold 214 = .ok (.iconst (-1), 1) := yd_op_2 (i := 18) yd_by_cX12_qPartTold_5 rfl rfl
theorem dX12_qPartTold_215 : decode cX12_qPartTold 215 = .ok (.if_icmp .eq 10, 3) := yd_op_159 (i := 19) (a := 0) (b := 10) yd_by_cX12_qPartTold_5 rfl rfl
theorem dX12_qPartTold_218 : decode cX12_qPartTold 218 = .ok (.bipush 40, 2) := yd_op_16 (i := 22) (a := 40) yd_by_cX12_qPartTold_5 rfl rfl
theorem dX12_qPartTold_220 : decode cX12_qPartTold 220 = .ok (.iload_n 2, 1) := yd_op_28 (i := 24) yd_by_cX12_qPartTold_5 rfl rfl
theorem dX12_qPartTold_221 : decode cX12_qPartTold 221 = .ok (.iadd, 1) := yd_op_96 (i := 25) yd_by_cX12_qPartTold_5 rfl rfl
theorem dX12_qPartTold_222 : decode cX12_qPartTold 222 = .ok (.goto 15, 3) := yd_op_167 (i := 26) (a := 0) (b := 15) yd_by_cX12_qPartTold_5 rfl rfl
theorem dX12_qPartTold_225 : decode cX12_qPartTold 225 = .ok (.sipush 1000, 3) := yd_op_17 (i := 29) (a := 3) (b := 232) yd_by_cX12_qPartTold_5 rfl rfl
theorem dX12_qPartTold_228 : decode cX12_qPartTold 228 = .ok (.aload_n 0, 1) := yd_op_42 (i := 32) yd_by_cX12_qPartTold_5 rfl rfl
theorem dX12_qPartTold_229 : decode cX12_qPartTold 229 = .ok (.iconst 0, 1) := yd_op_3 (i := 33) yd_by_cX12_qPartTold_5 rfl rfl
set_option maxRecDepth 100000 in
theorem yd_by_cX12_qPartTold_6 : ydk cX12_qPartTold 230 [17, 39, 15, 182, 1, 59, 96, 182, 2, 46, 42, 182, 2, 70, 177] = true := by decide +kernel
theorem dX12_qPartTold_230 : decode cX12_qPartTold 230 = .ok (.sipush 9999, 3) := yd_op_17 (i := 0) (a := 39) (b := 15) yd_by_cX12_qPartTold_6 rfl rfl
theorem dX12_qPartTold_233 : decode cX12_qPartTold 233 = .ok (.invokevirtual 315, 3) := yd_op_182 (i := 3) (a := 1) (b := 59) yd_by_cX12_qPartTold_6 rfl rfl
theorem dX12_qPartTold_236 : decode cX12_qPartTold 236 = .ok (.iadd, 1) := yd_op_96 (i := 6) yd_by_cX12_qPartTold_6 rfl rfl
theorem dX12_qPartTold_237 : decode cX12_qPartTold 237 = .ok (.invokevirtual 558, 3) := yd_op_182 (i := 7) (a := 2) (b := 46) yd_by_cX12_qPartTold_6 rfl rfl
theorem dX12_qPartTold_240 : decode cX12_qPartTold 240 = .ok (.aload_n 0, 1) := yd_op_42 (i := 10) yd_by_cX12_qPartTold_6 rfl rfl
theorem dX12_qPartTold_241 : decode cX12_qPartTold 241 = .ok (.invokevirtual 582, 3) := yd_op_182 (i := 11) (a := 2) (b := 70) yd_by_cX12_qPartTold_6 rfl rfl
theorem dX12_qPartTold_244 : decode cX12_qPartTold 244 = .ok (.return_, 1) := yd_op_177 (i := 14) yd_by_cX12_qPartTold_6 rfl rfl
set_option maxRecDepth 100000 in
theorem yd_by_cX12_qGoesOn_0 : ydk cX12_qGoesOn 0 [42, 180, 0, 246, 154, 0, 118, 42, 182, 1, 2, 16, 41, 160, 0, 109, 42, 182, 2, 73, 16, 20, 159, 0, 21, 42, 182, 2, 73, 16, 23, 159, 0, 12, 42, 182, 2, 73, 16, 24, 160, 0, 82, 42] = true := by decide +kernel
theorem dX12_qGoesOn_0 : decode cX12_qGoesOn 0 = .ok (.aload_n 0, 1) := yd_op_42 (i := 0) yd_by_cX12_qGoesOn_0 rfl rfl
theorem dX12_qGoesOn_1 : decode cX12_qGoesOn 1 = .ok (.getfield 246, 3) := yd_op_180 (i := 1) (a := 0) (b := 246) yd_by_cX12_qGoesOn_0 rfl rfl
theorem dX12_qGoesOn_4 : decode cX12_qGoesOn 4 = .ok (.ifCond .ne 118, 3) := yd_op_154 (i := 4) (a := 0) (b := 118) yd_by_cX12_qGoesOn_0 rfl rfl
theorem dX12_qGoesOn_7 : decode cX12_qGoesOn 7 = .ok (.aload_n 0, 1) := yd_op_42 (i := 7) yd_by_cX12_qGoesOn_0 rfl rfl
theorem dX12_qGoesOn_8 : decode cX12_qGoesOn 8 = .ok (.invokevirtual 258, 3) := yd_op_182 (i := 8) (a := 1) (b := 2) yd_by_cX12_qGoesOn_0 rfl rfl
theorem dX12_qGoesOn_11 : decode cX12_qGoesOn 11 = .ok (.bipush 41, 2) := yd_op_16 (i := 11) (a := 41) yd_by_cX12_qGoesOn_0 rfl rfl
theorem dX12_qGoesOn_13 : decode cX12_qGoesOn 13 = .ok (.if_icmp .ne 109, 3) := yd_op_160 (i := 13) (a := 0) (b := 109) yd_by_cX12_qGoesOn_0 rfl rfl
theorem dX12_qGoesOn_16 : decode cX12_qGoesOn 16 = .ok (.aload_n 0, 1) := yd_op_42 (i := 16) yd_by_cX12_qGoesOn_0 rfl rfl
theorem dX12_qGoesOn_17 : decode cX12_qGoesOn 17 = .ok (.invokevirtual 585, 3) := yd_op_182 (i := 17) (a := 2) (b := 73) yd_by_cX12_qGoesOn_0 rfl rfl
theorem dX12_qGoesOn_20 : decode cX12_qGoesOn 20 = .ok (.bipush 20, 2) := yd_op_16 (i := 20) (a := 20) yd_by_cX12_qGoesOn_0 rfl rfl
theorem dX12_qGoesOn_22 : decode cX12_qGoesOn 22 = .ok (.if_icmp .eq 21, 3) := yd_op_159 (i := 22) (a := 0) (b := 21) yd_by_cX12_qGoesOn_0 rfl rfl
theorem dX12_qGoesOn_25 : decode cX12_qGoesOn 25 = .ok (.aload_n 0, 1) := yd_op_42 (i := 25) yd_by_cX12_qGoesOn_0 rfl rfl
theorem dX12_qGoesOn_26 : decode cX12_qGoesOn 26 = .ok (.invokevirtual 585, 3) := yd_op_182 (i := 26) (a := 2) (b := 73) yd_by_cX12_qGoesOn_0 rfl rfl
theorem dX12_qGoesOn_29 : decode cX12_qGoesOn 29 = .ok (.bipush 23, 2) := yd_op_16 (i := 29) (a := 23) yd_by_cX12_qGoesOn_0 rfl rfl
theorem dX12_qGoesOn_31 : decode cX12_qGoesOn 31 = .ok (.if_icmp .eq 12, 3) := yd_op_159 (i := 31) (a := 0) (b := 12) yd_by_cX12_qGoesOn_0 rfl rfl
theorem dX12_qGoesOn_34 : decode cX12_qGoesOn 34 = .ok (.aload_n 0, 1) := yd_op_42 (i := 34) yd_by_cX12_qGoesOn_0 rfl rfl
theorem dX12_qGoesOn_35 : decode cX12_qGoesOn 35 = .ok (.invokevirtual 585, 3) := yd_op_182 (i := 35) (a := 2) (b := 73) yd_by_cX12_qGoesOn_0 rfl rfl
theorem dX12_qGoesOn_38 : decode cX12_qGoesOn 38 = .ok (.bipush 24, 2) := yd_op_16 (i := 38) (a := 24) yd_by_cX12_qGoesOn_0 rfl rfl
theorem dX12_qGoesOn_40 : decode cX12_qGoesOn 40 = .ok (.if_icmp .ne 82, 3) := yd_op_160 (i := 40) (a := 0) (b := 82) yd_by_cX12_qGoesOn_0 rfl rfl
theorem dX12_qGoesOn_43 : decode cX12_qGoesOn 43 = .ok (.aload_n 0, 1) := yd_op_42 (i := 43) yd_by_cX12_qGoesOn_0 rfl rfl
set_option maxRecDepth 100000 in
theorem yd_by_cX12_qGoesOn_1 : ydk cX12_qGoesOn 44 [89, 180, 0, 252, 4, 96, 181, 0, 252, 42, 182, 2, 76, 42, 89, 180, 1, 77, 4, 100, 181, 1, 77, 42, 89, 180, 1, 80, 4, 100, 181, 1, 80, 42] = true := by decide +kernel
theorem dX12_qGoesOn_44 : decode cX12_qGoesOn 44 = .ok (.dup, 1) := yd_op_89 (i := 0) yd_by_cX12_qGoesOn_1 rfl rfl
theorem dX12_qGoesOn_45 : decode cX12_qGoesOn 45 = .ok (.getfield 252, 3) := yd_op_180 (i := 1) (a := 0) (b := 252) yd_by_cX12_qGoesOn_1 rfl rfl
theorem dX12_qGoesOn_48 : decode cX12_qGoesOn 48 = .ok (.iconst 1, 1) := yd_op_4 (i := 4) yd_by_cX12_qGoesOn_1 rfl rfl
theorem dX12_qGoesOn_49 : decode cX12_qGoesOn 49 = .ok (.iadd, 1) := yd_op_96 (i := 5) yd_by_cX12_qGoesOn_1 rfl rfl
theorem dX12_qGoesOn_50 : decode cX12_qGoesOn 50 = .ok (.putfield 252, 3) := yd_op_181 (i := 6) (a := 0) (b := 252) yd_by_cX12_qGoesOn_1 rfl rfl
theorem dX12_qGoesOn_53 : decode cX12_qGoesOn 53 = .ok (.aload_n 0, 1) := yd_op_42 (i := 9) yd_by_cX12_qGoesOn_1 rfl rfl
theorem dX12_qGoesOn_54 : decode cX12_qGoesOn 54 = .ok (.invokevirtual 588, 3) := yd_op_182 (i := 10) (a := 2) (b := 76) yd_by_cX12_qGoesOn_1 rfl rfl
theorem dX12_qGoesOn_57 : decode cX12_qGoesOn 57 = .ok (.aload_n 0, 1) := yd_op_42 (i := 13) yd_by_cX12_qGoesOn_1 rfl rfl
theorem dX12_qGoesOn_58 : decode cX12_qGoesOn 58 = .ok (.dup, 1) := yd_op_89 (i := 14) yd_by_cX12_qGoesOn_1 rfl rfl
theorem dX12_qGoesOn_59 : decode cX12_qGoesOn 59 = .ok (.getfield 333, 3) := yd_op_180 (i := 15) (a := 1) (b := 77) yd_by_cX12_qGoesOn_1 rfl rfl
theorem dX12_qGoesOn_62 : decode cX12_qGoesOn 62 = .ok (.iconst 1, 1) := yd_op_4 (i := 18) yd_by_cX12_qGoesOn_1 rfl rfl
theorem dX12_qGoesOn_63 : decode cX12_qGoesOn 63 = .ok (.isub, 1) := yd_op_100 (i := 19) yd_by_cX12_qGoesOn_1 rfl rfl
theorem dX12_qGoesOn_64 : decode cX12_qGoesOn 64 = .ok (.putfield 333, 3) := yd_op_181 (i := 20) (a := 1) (b := 77) yd_by_cX12_qGoesOn_1 rfl rfl
theorem dX12_qGoesOn_67 : decode cX12_qGoesOn 67 = .ok (.aload_n 0, 1) := yd_op_42 (i := 23) yd_by_cX12_qGoesOn_1 rfl rfl
theorem dX12_qGoesOn_68 : decode cX12_qGoesOn 68 = .ok (.dup, 1) := yd_op_89 (i := 24) yd_by_cX12_qGoesOn_1 rfl rfl
theorem dX12_qGoesOn_69 : decode cX12_qGoesOn 69 = .ok (.getfield 336, 3) := yd_op_180 (i := 25) (a := 1) (b := 80) yd_by_cX12_qGoesOn_1 rfl rfl
theorem dX12_qGoesOn_72 : decode cX12_qGoesOn 72 = .ok (.iconst 1, 1) := yd_op_4 (i := 28) yd_by_cX12_qGoesOn_1 rfl rfl
theorem dX12_qGoesOn_73 : decode cX12_qGoesOn 73 = .ok (.isub, 1) := yd_op_100 (i := 29) yd_by_cX12_qGoesOn_1 rfl rfl
theorem dX12_qGoesOn_74 : decode cX12_qGoesOn 74 = .ok (.putfield 336, 3) := yd_op_181 (i := 30) (a := 1) (b := 80) yd_by_cX12_qGoesOn_1 rfl rfl
theorem dX12_qGoesOn_77 : decode cX12_qGoesOn 77 = .ok (.aload_n 0, 1) := yd_op_42 (i := 33) yd_by_cX12_qGoesOn_1 rfl rfl
set_option maxRecDepth 100000 in
theorem yd_by_cX12_qGoesOn_2 : ydk cX12_qGoesOn 78 [180, 0, 234, 42, 180, 1, 77, 46, 16, 20, 159, 0, 27, 42, 42, 180, 0, 234, 42, 180, 1, 77, 46, 16, 23, 160, 0, 7, 8, 167, 0, 5, 16, 6, 182, 2, 46, 42, 182, 2, 70] = true := by decide +kernel
theorem dX12_qGoesOn_78 : decode cX12_qGoesOn 78 = .ok (.getfield 234, 3) := yd_op_180 (i := 0) (a := 0) (b := 234) yd_by_cX12_qGoesOn_2 rfl rfl
theorem dX12_qGoesOn_81 : decode cX12_qGoesOn 81 = .ok (.aload_n 0, 1) := yd_op_42 (i := 3) yd_by_cX12_qGoesOn_2 rfl rfl
theorem dX12_qGoesOn_82 : decode cX12_qGoesOn 82 = .ok (.getfield 333, 3) := yd_op_180 (i := 4) (a := 1) (b := 77) yd_by_cX12_qGoesOn_2 rfl rfl
theorem dX12_qGoesOn_85 : decode cX12_qGoesOn 85 = .ok (.iaload, 1) := yd_op_46 (i := 7) yd_by_cX12_qGoesOn_2 rfl rfl
theorem dX12_qGoesOn_86 : decode cX12_qGoesOn 86 = .ok (.bipush 20, 2) := yd_op_16 (i := 8) (a := 20) yd_by_cX12_qGoesOn_2 rfl rfl
theorem dX12_qGoesOn_88 : decode cX12_qGoesOn 88 = .ok (.if_icmp .eq 27, 3) := yd_op_159 (i := 10) (a := 0) (b := 27) yd_by_cX12_qGoesOn_2 rfl rfl
theorem dX12_qGoesOn_91 : decode cX12_qGoesOn 91 = .ok (.aload_n 0, 1) := yd_op_42 (i := 13) yd_by_cX12_qGoesOn_2 rfl rfl
theorem dX12_qGoesOn_92 : decode cX12_qGoesOn 92 = .ok (.aload_n 0, 1) := yd_op_42 (i := 14) yd_by_cX12_qGoesOn_2 rfl rfl
theorem dX12_qGoesOn_93 : decode cX12_qGoesOn 93 = .ok (.getfield 234, 3) := yd_op_180 (i := 15) (a := 0) (b := 234) yd_by_cX12_qGoesOn_2 rfl rfl
theorem dX12_qGoesOn_96 : decode cX12_qGoesOn 96 = .ok (.aload_n 0, 1) := yd_op_42 (i := 18) yd_by_cX12_qGoesOn_2 rfl rfl
theorem dX12_qGoesOn_97 : decode cX12_qGoesOn 97 = .ok (.getfield 333, 3) := yd_op_180 (i := 19) (a := 1) (b := 77) yd_by_cX12_qGoesOn_2 rfl rfl
theorem dX12_qGoesOn_100 : decode cX12_qGoesOn 100 = .ok (.iaload, 1) := yd_op_46 (i := 22) yd_by_cX12_qGoesOn_2 rfl rfl
theorem dX12_qGoesOn_101 : decode cX12_qGoesOn 101 = .ok (.bipush 23, 2) := yd_op_16 (i := 23) (a := 23) yd_by_cX12_qGoesOn_2 rfl rfl
theorem dX12_qGoesOn_103 : decode cX12_qGoesOn 103 = .ok (.if_icmp .ne 7, 3) := yd_op_160 (i := 25) (a := 0) (b := 7) yd_by_cX12_qGoesOn_2 rfl rfl
theorem dX12_qGoesOn_106 : decode cX12_qGoesOn 106 = .ok (.iconst 5, 1) := yd_op_8 (i := 28) yd_by_cX12_qGoesOn_2 rfl rfl
theorem dX12_qGoesOn_107 : decode cX12_qGoesOn 107 = .ok (.goto 5, 3) := yd_op_167 (i := 29) (a := 0) (b := 5) yd_by_cX12_qGoesOn_2 rfl rfl
theorem dX12_qGoesOn_110 : decode cX12_qGoesOn 110 = .ok (.bipush 6, 2) := yd_op_16 (i := 32) (a := 6) yd_by_cX12_qGoesOn_2 rfl rfl
theorem dX12_qGoesOn_112 : decode cX12_qGoesOn 112 = .ok (.invokevirtual 558, 3) := yd_op_182 (i := 34) (a := 2) (b := 46) yd_by_cX12_qGoesOn_2 rfl rfl
theorem dX12_qGoesOn_115 : decode cX12_qGoesOn 115 = .ok (.aload_n 0, 1) := yd_op_42 (i := 37) yd_by_cX12_qGoesOn_2 rfl rfl
theorem dX12_qGoesOn_116 : decode cX12_qGoesOn 116 = .ok (.invokevirtual 582, 3) := yd_op_182 (i := 38) (a := 2) (b := 70) yd_by_cX12_qGoesOn_2 rfl rfl
set_option maxRecDepth 100000 in
theorem yd_by_cX12_qGoesOn_3 : ydk cX12_qGoesOn 119 [167, 255, 137, 42, 16, 42, 182, 1, 24, 154, 0, 12, 42, 16, 47, 182, 1, 24, 153, 0, 70, 42, 180, 0, 7, 42, 180, 0, 252, 4, 100, 46, 16, 42, 160, 0, 7, 6, 167, 0, 4] = true := by decide +kernel
theorem dX12_qGoesOn_119 : decode cX12_qGoesOn 119 = .ok (.goto (-119), 3) := yd_op_167 (i := 0) (a := 255) (b := 137) yd_by_cX12_qGoesOn_3 rfl rfl
theorem dX12_qGoesOn_122 : decode cX12_qGoesOn 122 = .ok (.aload_n 0, 1) := yd_op_42 (i := 3) yd_by_cX12_qGoesOn_3 rfl rfl
theorem dX12_qGoesOn_123 : decode cX12_qGoesOn 123 = .ok (.bipush 42, 2) := yd_op_16 (i := 4) (a := 42) yd_by_cX12_qGoesOn_3 rfl rfl
theorem dX12_qGoesOn_125 : decode cX12_qGoesOn 125 = .ok (.invokevirtual 280, 3) := yd_op_182 (i := 6) (a := 1) (b := 24) yd_by_cX12_qGoesOn_3 rfl rfl
theorem dX12_qGoesOn_128 : decode cX12_qGoesOn 128 = .ok (.ifCond .ne 12, 3) := yd_op_154 (i := 9) (a := 0) (b := 12) yd_by_cX12_qGoesOn_3 rfl rfl
theorem dX12_qGoesOn_131 : decode cX12_qGoesOn 131 = .ok (.aload_n 0, 1) := yd_op_42 (i := 12) yd_by_cX12_qGoesOn_3 rfl rfl
theorem dX12_qGoesOn_132 : decode cX12_qGoesOn 132 = .ok (.bipush 47, 2) := yd_op_16 (i := 13) (a := 47) yd_by_cX12_qGoesOn_3 rfl rfl
theorem dX12_qGoesOn_134 : decode cX12_qGoesOn 134 = .ok (.invokevirtual 280, 3) := yd_op_182 (i := 15) (a := 1) (b := 24) yd_by_cX12_qGoesOn_3 rfl rfl
theorem dX12_qGoesOn_137 : decode cX12_qGoesOn 137 = .ok (.ifCond .eq 70, 3) := yd_op_153 (i := 18) (a := 0) (b := 70) yd_by_cX12_qGoesOn_3 rfl rfl
theorem dX12_qGoesOn_140 : decode cX12_qGoesOn 140 = .ok (.aload_n 0, 1) := yd_op_42 (i := 21) yd_by_cX12_qGoesOn_3 rfl rfl
theorem dX12_qGoesOn_141 : decode cX12_qGoesOn 141 = .ok (.getfield 7, 3) := yd_op_180 (i := 22) (a := 0) (b := 7) yd_by_cX12_qGoesOn_3 rfl rfl
theorem dX12_qGoesOn_144 : decode cX12_qGoesOn 144 = .ok (.aload_n 0, 1) := yd_op_42 (i := 25) yd_by_cX12_qGoesOn_3 rfl rfl
theorem dX12_qGoesOn_145 : decode cX12_qGoesOn 145 = .ok (.getfield 252, 3) := yd_op_180 (i := 26) (a := 0) (b := 252) yd_by_cX12_qGoesOn_3 rfl rfl
theorem dX12_qGoesOn_148 : decode cX12_qGoesOn 148 = .ok (.iconst 1, 1) := yd_op_4 (i := 29) yd_by_cX12_qGoesOn_3 rfl rfl
theorem dX12_qGoesOn_149 : decode cX12_qGoesOn 149 = .ok (.isub, 1) := yd_op_100 (i := 30) yd_by_cX12_qGoesOn_3 rfl rfl
theorem dX12_qGoesOn_150 : decode cX12_qGoesOn 150 = .ok (.iaload, 1) := yd_op_46 (i := 31) yd_by_cX12_qGoesOn_3 rfl rfl
theorem dX12_qGoesOn_151 : decode cX12_qGoesOn 151 = .ok (.bipush 42, 2) := yd_op_16 (i := 32) (a := 42) yd_by_cX12_qGoesOn_3 rfl rfl
theorem dX12_qGoesOn_153 : decode cX12_qGoesOn 153 = .ok (.if_icmp .ne 7, 3) := yd_op_160 (i := 34) (a := 0) (b := 7) yd_by_cX12_qGoesOn_3 rfl rfl
theorem dX12_qGoesOn_156 : decode cX12_qGoesOn 156 = .ok (.iconst 3, 1) := yd_op_6 (i := 37) yd_by_cX12_qGoesOn_3 rfl rfl
theorem dX12_qGoesOn_157 : decode cX12_qGoesOn 157 = .ok (.goto 4, 3) := yd_op_167 (i := 38) (a := 0) (b := 4) yd_by_cX12_qGoesOn_3 rfl rfl
set_option maxRecDepth 100000 in
theorem yd_by_cX12_qGoesOn_4 : ydk cX12_qGoesOn 160 [7, 60, 42, 6, 182, 2, 79, 154, 0, 11, 42, 7, 182, 2, 79, 153, 0, 10, 42, 182, 2, 52, 167, 255, 236, 42, 180, 0, 234, 42, 180, 1, 77, 27, 79, 42] = true := by decide +kernel
theorem dX12_qGoesOn_160 : decode cX12_qGoesOn 160 = .ok (.iconst 4, 1) := yd_op_7 (i := 0) yd_by_cX12_qGoesOn_4 rfl rfl
theorem dX12_qGoesOn_161 : decode cX12_qGoesOn 161 = .ok (.istore_n 1, 1) := yd_op_60 (i := 1) yd_by_cX12_qGoesOn_4 rfl rfl
theorem dX12_qGoesOn_162 : decode cX12_qGoesOn 162 = .ok (.aload_n 0, 1) := yd_op_42 (i := 2) yd_by_cX12_qGoesOn_4 rfl rfl
theorem dX12_qGoesOn_163 : decode cX12_qGoesOn 163 = .ok (.iconst 3, 1) := yd_op_6 (i := 3) yd_by_cX12_qGoesOn_4 rfl rfl
theorem dX12_qGoesOn_164 : decode cX12_qGoesOn 164 = .ok (.invokevirtual 591, 3) := yd_op_182 (i := 4) (a := 2) (b := 79) yd_by_cX12_qGoesOn_4 rfl rfl
theorem dX12_qGoesOn_167 : decode cX12_qGoesOn 167 = .ok (.ifCond .ne 11, 3) := yd_op_154 (i := 7) (a := 0) (b := 11) yd_by_cX12_qGoesOn_4 rfl rfl
theorem dX12_qGoesOn_170 : decode cX12_qGoesOn 170 = .ok (.aload_n 0, 1) := yd_op_42 (i := 10) yd_by_cX12_qGoesOn_4 rfl rfl
theorem dX12_qGoesOn_171 : decode cX12_qGoesOn 171 = .ok (.iconst 4, 1) := yd_op_7 (i := 11) yd_by_cX12_qGoesOn_4 rfl rfl
theorem dX12_qGoesOn_172 : decode cX12_qGoesOn 172 = .ok (.invokevirtual 591, 3) := yd_op_182 (i := 12) (a := 2) (b := 79) yd_by_cX12_qGoesOn_4 rfl rfl
theorem dX12_qGoesOn_175 : decode cX12_qGoesOn 175 = .ok (.ifCond .eq 10, 3) := yd_op_153 (i := 15) (a := 0) (b := 10) yd_by_cX12_qGoesOn_4 rfl rfl
theorem dX12_qGoesOn_178 : decode cX12_qGoesOn 178 = .ok (.aload_n 0, 1) := yd_op_42 (i := 18) yd_by_cX12_qGoesOn_4 rfl rfl
theorem dX12_qGoesOn_179 : decode cX12_qGoesOn 179 = .ok (.invokevirtual 564, 3) := yd_op_182 (i := 19) (a := 2) (b := 52) yd_by_cX12_qGoesOn_4 rfl rfl
theorem dX12_qGoesOn_182 : decode cX12_qGoesOn 182 = .ok (.goto (-20), 3) := yd_op_167 (i := 22) (a := 255) (b := 236) yd_by_cX12_qGoesOn_4 rfl rfl
theorem dX12_qGoesOn_185 : decode cX12_qGoesOn 185 = .ok (.aload_n 0, 1) := yd_op_42 (i := 25) yd_by_cX12_qGoesOn_4 rfl rfl
theorem dX12_qGoesOn_186 : decode cX12_qGoesOn 186 = .ok (.getfield 234, 3) := yd_op_180 (i := 26) (a := 0) (b := 234) yd_by_cX12_qGoesOn_4 rfl rfl
theorem dX12_qGoesOn_189 : decode cX12_qGoesOn 189 = .ok (.aload_n 0, 1) := yd_op_42 (i := 29) yd_by_cX12_qGoesOn_4 rfl rfl
theorem dX12_qGoesOn_190 : decode cX12_qGoesOn 190 = .ok (.getfield 333, 3) := yd_op_180 (i := 30) (a := 1) (b := 77) yd_by_cX12_qGoesOn_4 rfl rfl
theorem dX12_qGoesOn_193 : decode cX12_qGoesOn 193 = .ok (.iload_n 1, 1) := yd_op_27 (i := 33) yd_by_cX12_qGoesOn_4 rfl rfl
theorem dX12_qGoesOn_194 : decode cX12_qGoesOn 194 = .ok (.iastore, 1) := yd_op_79 (i := 34) yd_by_cX12_qGoesOn_4 rfl rfl
theorem dX12_qGoesOn_195 : decode cX12_qGoesOn 195 = .ok (.aload_n 0, 1) := yd_op_42 (i := 35) yd_by_cX12_qGoesOn_4 rfl rfl
set_option maxRecDepth 100000 in
theorem yd_by_cX12_qGoesOn_5 : ydk cX12_qGoesOn 196 [89, 180, 1, 77, 4, 96, 181, 1, 77, 4, 172, 42, 16, 43, 182, 1, 24, 154, 0, 12, 42, 16, 45, 182, 1, 24, 153, 0, 86, 42, 180, 0, 7, 42, 180, 0, 252, 4] = true := by decide +kernel
theorem dX12_qGoesOn_196 : decode cX12_qGoesOn 196 = .ok (.dup, 1) := yd_op_89 (i := 0) yd_by_cX12_qGoesOn_5 rfl rfl
theorem dX12_qGoesOn_197 : decode cX12_qGoesOn 197 = .ok (.getfield 333, 3) := yd_op_180 (i := 1) (a := 1) (b := 77) yd_by_cX12_qGoesOn_5 rfl rfl
theorem dX12_qGoesOn_200 : decode cX12_qGoesOn 200 = .ok (.iconst 1, 1) := yd_op_4 (i := 4) yd_by_cX12_qGoesOn_5 rfl rfl
theorem dX12_qGoesOn_201 : decode cX12_qGoesOn 201 = .ok (.iadd, 1) := yd_op_96 (i := 5) yd_by_cX12_qGoesOn_5 rfl rfl
theorem dX12_qGoesOn_202 : decode cX12_qGoesOn 202 = .ok (.putfield 333, 3) := yd_op_181 (i := 6) (a := 1) (b := 77) yd_by_cX12_qGoesOn_5 rfl rfl
theorem dX12_qGoesOn_205 : decode cX12_qGoesOn 205 = .ok (.iconst 1, 1) := yd_op_4 (i := 9) yd_by_cX12_qGoesOn_5 rfl rfl
theorem dX12_qGoesOn_206 : decode cX12_qGoesOn 206 = .ok (.ireturn, 1) := yd_op_172 (i := 10) yd_by_cX12_qGoesOn_5 rfl rfl
theorem dX12_qGoesOn_207 : decode cX12_qGoesOn 207 = .ok (.aload_n 0, 1) := yd_op_42 (i := 11) yd_by_cX12_qGoesOn_5 rfl rfl
theorem dX12_qGoesOn_208 : decode cX12_qGoesOn 208 = .ok (.bipush 43, 2) := yd_op_16 (i := 12) (a := 43) yd_by_cX12_qGoesOn_5 rfl rfl
theorem dX12_qGoesOn_210 : decode cX12_qGoesOn 210 = .ok (.invokevirtual 280, 3) := yd_op_182 (i := 14) (a := 1) (b := 24) yd_by_cX12_qGoesOn_5 rfl rfl
theorem dX12_qGoesOn_213 : decode cX12_qGoesOn 213 = .ok (.ifCond .ne 12, 3) := yd_op_154 (i := 17) (a := 0) (b := 12) yd_by_cX12_qGoesOn_5 rfl rfl
theorem dX12_qGoesOn_216 : decode cX12_qGoesOn 216 = .ok (.aload_n 0, 1) := yd_op_42 (i := 20) yd_by_cX12_qGoesOn_5 rfl rfl
theorem dX12_qGoesOn_217 : decode cX12_qGoesOn 217 = .ok (.bipush 45, 2) := yd_op_16 (i := 21) (a := 45) yd_by_cX12_qGoesOn_5 rfl rfl
theorem dX12_qGoesOn_219 : decode cX12_qGoesOn 219 = .ok (.invokevirtual 280, 3) := yd_op_182 (i := 23) (a := 1) (b := 24) yd_by_cX12_qGoesOn_5 rfl rfl
theorem dX12_qGoesOn_222 : decode cX12_qGoesOn 222 = .ok (.ifCond .eq 86, 3) := yd_op_153 (i := 26) (a := 0) (b := 86) yd_by_cX12_qGoesOn_5 rfl rfl
theorem dX12_qGoesOn_225 : decode cX12_qGoesOn 225 = .ok (.aload_n 0, 1) := yd_op_42 (i := 29) yd_by_cX12_qGoesOn_5 rfl rfl
theorem dX12_qGoesOn_226 : decode cX12_qGoesOn 226 = .ok (.getfield 7, 3) := yd_op_180 (i := 30) (a := 0) (b := 7) yd_by_cX12_qGoesOn_5 rfl rfl
theorem dX12_qGoesOn_229 : decode cX12_qGoesOn 229 = .ok (.aload_n 0, 1) := yd_op_42 (i := 33) yd_by_cX12_qGoesOn_5 rfl rfl
theorem dX12_qGoesOn_230 : decode cX12_qGoesOn 230 = .ok (.getfield 252, 3) := yd_op_180 (i := 34) (a := 0) (b := 252) yd_by_cX12_qGoesOn_5 rfl rfl
theorem dX12_qGoesOn_233 : decode cX12_qGoesOn 233 = .ok (.iconst 1, 1) := yd_op_4 (i := 37) yd_by_cX12_qGoesOn_5 rfl rfl
set_option maxRecDepth 100000 in
theorem yd_by_cX12_qGoesOn_6 : ydk cX12_qGoesOn 234 [100, 46, 16, 43, 160, 0, 7, 4, 167, 0, 4, 5, 60, 42, 6, 182, 2, 79, 154, 0, 27, 42, 7, 182, 2, 79, 154, 0, 19, 42, 4, 182, 2, 79, 154, 0, 11] = true := by decide +kernel
theorem dX12_qGoesOn_234 : decode cX12_qGoesOn 234 = .ok (.isub, 1) := yd_op_100 (i := 0) yd_by_cX12_qGoesOn_6 rfl rfl
theorem dX12_qGoesOn_235 : decode cX12_qGoesOn 235 = .ok (.iaload, 1) := yd_op_46 (i := 1) yd_by_cX12_qGoesOn_6 rfl rfl
theorem dX12_qGoesOn_236 : decode cX12_qGoesOn 236 = .ok (.bipush 43, 2) := yd_op_16 (i := 2) (a := 43) yd_by_cX12_qGoesOn_6 rfl rfl
theorem dX12_qGoesOn_238 : decode cX12_qGoesOn 238 = .ok (.if_icmp .ne 7, 3) := yd_op_160 (i := 4) (a := 0) (b := 7) yd_by_cX12_qGoesOn_6 rfl rfl
theorem dX12_qGoesOn_241 : decode cX12_qGoesOn 241 = .ok (.iconst 1, 1) := yd_op_4 (i := 7) yd_by_cX12_qGoesOn_6 rfl rfl
theorem dX12_qGoesOn_242 : decode cX12_qGoesOn 242 = .ok (.goto 4, 3) := yd_op_167 (i := 8) (a := 0) (b := 4) yd_by_cX12_qGoesOn_6 rfl rfl
theorem dX12_qGoesOn_245 : decode cX12_qGoesOn 245 = .ok (.iconst 2, 1) := yd_op_5 (i := 11) yd_by_cX12_qGoesOn_6 rfl rfl
theorem dX12_qGoesOn_246 : decode cX12_qGoesOn 246 = .ok (.istore_n 1, 1) := yd_op_60 (i := 12) yd_by_cX12_qGoesOn_6 rfl rfl
theorem dX12_qGoesOn_247 : decode cX12_qGoesOn 247 = .ok (.aload_n 0, 1) := yd_op_42 (i := 13) yd_by_cX12_qGoesOn_6 rfl rfl
theorem dX12_qGoesOn_248 : decode cX12_qGoesOn 248 = .ok (.iconst 3, 1) := yd_op_6 (i := 14) yd_by_cX12_qGoesOn_6 rfl rfl
theorem dX12_qGoesOn_249 : decode cX12_qGoesOn 249 = .ok (.invokevirtual 591, 3) := yd_op_182 (i := 15) (a := 2) (b := 79) yd_by_cX12_qGoesOn_6 rfl rfl
theorem dX12_qGoesOn_252 : decode cX12_qGoesOn 252 = .ok (.ifCond .ne 27, 3) := yd_op_154 (i := 18) (a := 0) (b := 27) yd_by_cX12_qGoesOn_6 rfl rfl
theorem dX12_qGoesOn_255 : decode cX12_qGoesOn 255 = .ok (.aload_n 0, 1) := yd_op_42 (i := 21) yd_by_cX12_qGoesOn_6 rfl rfl
theorem dX12_qGoesOn_256 : decode cX12_qGoesOn 256 = .ok (.iconst 4, 1) := yd_op_7 (i := 22) yd_by_cX12_qGoesOn_6 rfl rfl
theorem dX12_qGoesOn_257 : decode cX12_qGoesOn 257 = .ok (.invokevirtual 591, 3) := yd_op_182 (i := 23) (a := 2) (b := 79) yd_by_cX12_qGoesOn_6 rfl rfl
theorem dX12_qGoesOn_260 : decode cX12_qGoesOn 260 = .ok (.ifCond .ne 19, 3) := yd_op_154 (i := 26) (a := 0) (b := 19) yd_by_cX12_qGoesOn_6 rfl rfl
theorem dX12_qGoesOn_263 : decode cX12_qGoesOn 263 = .ok (.aload_n 0, 1) := yd_op_42 (i := 29) yd_by_cX12_qGoesOn_6 rfl rfl
theorem dX12_qGoesOn_264 : decode cX12_qGoesOn 264 = .ok (.iconst 1, 1) := yd_op_4 (i := 30) yd_by_cX12_qGoesOn_6 rfl rfl
theorem dX12_qGoesOn_265 : decode cX12_qGoesOn 265 = .ok (.invokevirtual 591, 3) := yd_op_182 (i := 31) (a := 2) (b := 79) yd_by_cX12_qGoesOn_6 rfl rfl
theorem dX12_qGoesOn_268 : decode cX12_qGoesOn 268 = .ok (.ifCond .ne 11, 3) := yd_op_154 (i := 34) (a := 0) (b := 11) yd_by_cX12_qGoesOn_6 rfl rfl
set_option maxRecDepth 100000 in
theorem yd_by_cX12_qGoesOn_7 : ydk cX12_qGoesOn 271 [42, 5, 182, 2, 79, 153, 0, 10, 42, 182, 2, 52, 167, 255, 220, 42, 180, 0, 234, 42, 180, 1, 77, 27, 79, 42, 89, 180, 1, 77, 4, 96, 181, 1, 77, 4] = true := by decide +kernel
theorem dX12_qGoesOn_271 : decode cX12_qGoesOn 271 = .ok (.aload_n 0, 1) := yd_op_42 (i := 0) yd_by_cX12_qGoesOn_7 rfl rfl
theorem dX12_qGoesOn_272 : decode cX12_qGoesOn 272 = .ok (.iconst 2, 1) := yd_op_5 (i := 1) yd_by_cX12_qGoesOn_7 rfl rfl
theorem dX12_qGoesOn_273 : decode cX12_qGoesOn 273 = .ok (.invokevirtual 591, 3) := yd_op_182 (i := 2) (a := 2) (b := 79) yd_by_cX12_qGoesOn_7 rfl rfl
theorem dX12_qGoesOn_276 : decode cX12_qGoesOn 276 = .ok (.ifCond .eq 10, 3) := yd_op_153 (i := 5) (a := 0) (b := 10) yd_by_cX12_qGoesOn_7 rfl rfl
theorem dX12_qGoesOn_279 : decode cX12_qGoesOn 279 = .ok (.aload_n 0, 1) := yd_op_42 (i := 8) yd_by_cX12_qGoesOn_7 rfl rfl
theorem dX12_qGoesOn_280 : decode cX12_qGoesOn 280 = .ok (.invokevirtual 564, 3) := yd_op_182 (i := 9) (a := 2) (b := 52) yd_by_cX12_qGoesOn_7 rfl rfl
theorem dX12_qGoesOn_283 : decode cX12_qGoesOn 283 = .ok (.goto (-36), 3) := yd_op_167 (i := 12) (a := 255) (b := 220) yd_by_cX12_qGoesOn_7 rfl rfl
theorem dX12_qGoesOn_286 : decode cX12_qGoesOn 286 = .ok (.aload_n 0, 1) := yd_op_42 (i := 15) yd_by_cX12_qGoesOn_7 rfl rfl
theorem dX12_qGoesOn_287 : decode cX12_qGoesOn 287 = .ok (.getfield 234, 3) := yd_op_180 (i := 16) (a := 0) (b := 234) yd_by_cX12_qGoesOn_7 rfl rfl
theorem dX12_qGoesOn_290 : decode cX12_qGoesOn 290 = .ok (.aload_n 0, 1) := yd_op_42 (i := 19) yd_by_cX12_qGoesOn_7 rfl rfl
theorem dX12_qGoesOn_291 : decode cX12_qGoesOn 291 = .ok (.getfield 333, 3) := yd_op_180 (i := 20) (a := 1) (b := 77) yd_by_cX12_qGoesOn_7 rfl rfl
theorem dX12_qGoesOn_294 : decode cX12_qGoesOn 294 = .ok (.iload_n 1, 1) := yd_op_27 (i := 23) yd_by_cX12_qGoesOn_7 rfl rfl
theorem dX12_qGoesOn_295 : decode cX12_qGoesOn 295 = .ok (.iastore, 1) := yd_op_79 (i := 24) yd_by_cX12_qGoesOn_7 rfl rfl
theorem dX12_qGoesOn_296 : decode cX12_qGoesOn 296 = .ok (.aload_n 0, 1) := yd_op_42 (i := 25) yd_by_cX12_qGoesOn_7 rfl rfl
theorem dX12_qGoesOn_297 : decode cX12_qGoesOn 297 = .ok (.dup, 1) := yd_op_89 (i := 26) yd_by_cX12_qGoesOn_7 rfl rfl
theorem dX12_qGoesOn_298 : decode cX12_qGoesOn 298 = .ok (.getfield 333, 3) := yd_op_180 (i := 27) (a := 1) (b := 77) yd_by_cX12_qGoesOn_7 rfl rfl
theorem dX12_qGoesOn_301 : decode cX12_qGoesOn 301 = .ok (.iconst 1, 1) := yd_op_4 (i := 30) yd_by_cX12_qGoesOn_7 rfl rfl
theorem dX12_qGoesOn_302 : decode cX12_qGoesOn 302 = .ok (.iadd, 1) := yd_op_96 (i := 31) yd_by_cX12_qGoesOn_7 rfl rfl
theorem dX12_qGoesOn_303 : decode cX12_qGoesOn 303 = .ok (.putfield 333, 3) := yd_op_181 (i := 32) (a := 1) (b := 77) yd_by_cX12_qGoesOn_7 rfl rfl
theorem dX12_qGoesOn_306 : decode cX12_qGoesOn 306 = .ok (.iconst 1, 1) := yd_op_4 (i := 35) yd_by_cX12_qGoesOn_7 rfl rfl
set_option maxRecDepth 100000 in
theorem yd_by_cX12_qGoesOn_8 : ydk cX12_qGoesOn 307 [172, 42, 182, 2, 73, 16, 21, 159, 0, 12, 42, 182, 2, 73, 16, 22, 160, 0, 39, 42, 16, 44, 182, 1, 63, 42, 180, 0, 246, 153, 0, 5, 3, 172, 42, 182, 2, 76, 42] = true := by decide +kernel
theorem dX12_qGoesOn_307 : decode cX12_qGoesOn 307 = .ok (.ireturn, 1) := yd_op_172 (i := 0) yd_by_cX12_qGoesOn_8 rfl rfl
theorem dX12_qGoesOn_308 : decode cX12_qGoesOn 308 = .ok (.aload_n 0, 1) := yd_op_42 (i := 1) yd_by_cX12_qGoesOn_8 rfl rfl
theorem dX12_qGoesOn_309 : decode cX12_qGoesOn 309 = .ok (.invokevirtual 585, 3) := yd_op_182 (i := 2) (a := 2) (b := 73) yd_by_cX12_qGoesOn_8 rfl rfl
theorem dX12_qGoesOn_312 : decode cX12_qGoesOn 312 = .ok (.bipush 21, 2) := yd_op_16 (i := 5) (a := 21) yd_by_cX12_qGoesOn_8 rfl rfl
theorem dX12_qGoesOn_314 : decode cX12_qGoesOn 314 = .ok (.if_icmp .eq 12, 3) := yd_op_159 (i := 7) (a := 0) (b := 12) yd_by_cX12_qGoesOn_8 rfl rfl
theorem dX12_qGoesOn_317 : decode cX12_qGoesOn 317 = .ok (.aload_n 0, 1) := yd_op_42 (i := 10) yd_by_cX12_qGoesOn_8 rfl rfl
theorem dX12_qGoesOn_318 : decode cX12_qGoesOn 318 = .ok (.invokevirtual 585, 3) := yd_op_182 (i := 11) (a := 2) (b := 73) yd_by_cX12_qGoesOn_8 rfl rfl
theorem dX12_qGoesOn_321 : decode cX12_qGoesOn 321 = .ok (.bipush 22, 2) := yd_op_16 (i := 14) (a := 22) yd_by_cX12_qGoesOn_8 rfl rfl
theorem dX12_qGoesOn_323 : decode cX12_qGoesOn 323 = .ok (.if_icmp .ne 39, 3) := yd_op_160 (i := 16) (a := 0) (b := 39) yd_by_cX12_qGoesOn_8 rfl rfl
theorem dX12_qGoesOn_326 : decode cX12_qGoesOn 326 = .ok (.aload_n 0, 1) := yd_op_42 (i := 19) yd_by_cX12_qGoesOn_8 rfl rfl
theorem dX12_qGoesOn_327 : decode cX12_qGoesOn 327 = .ok (.bipush 44, 2) := yd_op_16 (i := 20) (a := 44) yd_by_cX12_qGoesOn_8 rfl rfl
theorem dX12_qGoesOn_329 : decode cX12_qGoesOn 329 = .ok (.invokevirtual 319, 3) := yd_op_182 (i := 22) (a := 1) (b := 63) yd_by_cX12_qGoesOn_8 rfl rfl
theorem dX12_qGoesOn_332 : decode cX12_qGoesOn 332 = .ok (.aload_n 0, 1) := yd_op_42 (i := 25) yd_by_cX12_qGoesOn_8 rfl rfl
theorem dX12_qGoesOn_333 : decode cX12_qGoesOn 333 = .ok (.getfield 246, 3) := yd_op_180 (i := 26) (a := 0) (b := 246) yd_by_cX12_qGoesOn_8 rfl rfl
theorem dX12_qGoesOn_336 : decode cX12_qGoesOn 336 = .ok (.ifCond .eq 5, 3) := yd_op_153 (i := 29) (a := 0) (b := 5) yd_by_cX12_qGoesOn_8 rfl rfl
theorem dX12_qGoesOn_339 : decode cX12_qGoesOn 339 = .ok (.iconst 0, 1) := yd_op_3 (i := 32) yd_by_cX12_qGoesOn_8 rfl rfl
theorem dX12_qGoesOn_340 : decode cX12_qGoesOn 340 = .ok (.ireturn, 1) := yd_op_172 (i := 33) yd_by_cX12_qGoesOn_8 rfl rfl
theorem dX12_qGoesOn_341 : decode cX12_qGoesOn 341 = .ok (.aload_n 0, 1) := yd_op_42 (i := 34) yd_by_cX12_qGoesOn_8 rfl rfl
theorem dX12_qGoesOn_342 : decode cX12_qGoesOn 342 = .ok (.invokevirtual 588, 3) := yd_op_182 (i := 35) (a := 2) (b := 76) yd_by_cX12_qGoesOn_8 rfl rfl
theorem dX12_qGoesOn_345 : decode cX12_qGoesOn 345 = .ok (.aload_n 0, 1) := yd_op_42 (i := 38) yd_by_cX12_qGoesOn_8 rfl rfl
set_option maxRecDepth 100000 in
theorem yd_by_cX12_qGoesOn_9 : ydk cX12_qGoesOn 346 [180, 0, 234, 42, 180, 1, 77, 4, 100, 92, 46, 5, 96, 79, 4, 172, 42, 182, 2, 73, 2, 159, 0, 19, 42, 180, 0, 246, 154, 0, 12, 42] = true := by decide +kernel
theorem dX12_qGoesOn_346 : decode cX12_qGoesOn 346 = .ok (.getfield 234, 3) := yd_op_180 (i := 0) (a := 0) (b := 234) yd_by_cX12_qGoesOn_9 rfl rfl
theorem dX12_qGoesOn_349 : decode cX12_qGoesOn 349 = .ok (.aload_n 0, 1) := yd_op_42 (i := 3) yd_by_cX12_qGoesOn_9 rfl rfl
theorem dX12_qGoesOn_350 : decode cX12_qGoesOn 350 = .ok (.getfield 333, 3) := yd_op_180 (i := 4) (a := 1) (b := 77) yd_by_cX12_qGoesOn_9 rfl rfl
theorem dX12_qGoesOn_353 : decode cX12_qGoesOn 353 = .ok (.iconst 1, 1) := yd_op_4 (i := 7) yd_by_cX12_qGoesOn_9 rfl rfl
theorem dX12_qGoesOn_354 : decode cX12_qGoesOn 354 = .ok (.isub, 1) := yd_op_100 (i := 8) yd_by_cX12_qGoesOn_9 rfl rfl
theorem dX12_qGoesOn_355 : decode cX12_qGoesOn 355 = .ok (.dup2, 1) := yd_op_92 (i := 9) yd_by_cX12_qGoesOn_9 rfl rfl
theorem dX12_qGoesOn_356 : decode cX12_qGoesOn 356 = .ok (.iaload, 1) := yd_op_46 (i := 10) yd_by_cX12_qGoesOn_9 rfl rfl
theorem dX12_qGoesOn_357 : decode cX12_qGoesOn 357 = .ok (.iconst 2, 1) := yd_op_5 (i := 11) yd_by_cX12_qGoesOn_9 rfl rfl
theorem dX12_qGoesOn_358 : decode cX12_qGoesOn 358 = .ok (.iadd, 1) := yd_op_96 (i := 12) yd_by_cX12_qGoesOn_9 rfl rfl
theorem dX12_qGoesOn_359 : decode cX12_qGoesOn 359 = .ok (.iastore, 1) := yd_op_79 (i := 13) yd_by_cX12_qGoesOn_9 rfl rfl
theorem dX12_qGoesOn_360 : decode cX12_qGoesOn 360 = .ok (.iconst 1, 1) := yd_op_4 (i := 14) yd_by_cX12_qGoesOn_9 rfl rfl
theorem dX12_qGoesOn_361 : decode cX12_qGoesOn 361 = .ok (.ireturn, 1) := yd_op_172 (i := 15) yd_by_cX12_qGoesOn_9 rfl rfl
theorem dX12_qGoesOn_362 : decode cX12_qGoesOn 362 = .ok (.aload_n 0, 1) := yd_op_42 (i := 16) yd_by_cX12_qGoesOn_9 rfl rfl
theorem dX12_qGoesOn_363 : decode cX12_qGoesOn 363 = .ok (.invokevirtual 585, 3) := yd_op_182 (i := 17) (a := 2) (b := 73) yd_by_cX12_qGoesOn_9 rfl rfl
theorem dX12_qGoesOn_366 : decode cX12_qGoesOn 366 = .ok (.iconst (-1), 1) := yd_op_2 (i := 20) yd_by_cX12_qGoesOn_9 rfl rfl
theorem dX12_qGoesOn_367 : decode cX12_qGoesOn 367 = .ok (.if_icmp .eq 19, 3) := yd_op_159 (i := 21) (a := 0) (b := 19) yd_by_cX12_qGoesOn_9 rfl rfl
theorem dX12_qGoesOn_370 : decode cX12_qGoesOn 370 = .ok (.aload_n 0, 1) := yd_op_42 (i := 24) yd_by_cX12_qGoesOn_9 rfl rfl
theorem dX12_qGoesOn_371 : decode cX12_qGoesOn 371 = .ok (.getfield 246, 3) := yd_op_180 (i := 25) (a := 0) (b := 246) yd_by_cX12_qGoesOn_9 rfl rfl
theorem dX12_qGoesOn_374 : decode cX12_qGoesOn 374 = .ok (.ifCond .ne 12, 3) := yd_op_154 (i := 28) (a := 0) (b := 12) yd_by_cX12_qGoesOn_9 rfl rfl
theorem dX12_qGoesOn_377 : decode cX12_qGoesOn 377 = .ok (.aload_n 0, 1) := yd_op_42 (i := 31) yd_by_cX12_qGoesOn_9 rfl rfl
set_option maxRecDepth 100000 in
theorem yd_by_cX12_qGoesOn_10 : ydk cX12_qGoesOn 378 [4, 42, 180, 0, 252, 182, 1, 20, 3, 172] = true := by decide +kernel
theorem dX12_qGoesOn_378 : decode cX12_qGoesOn 378 = .ok (.iconst 1, 1) := yd_op_4 (i := 0) yd_by_cX12_qGoesOn_10 rfl rfl
theorem dX12_qGoesOn_379 : decode cX12_qGoesOn 379 = .ok (.aload_n 0, 1) := yd_op_42 (i := 1) yd_by_cX12_qGoesOn_10 rfl rfl
theorem dX12_qGoesOn_380 : decode cX12_qGoesOn 380 = .ok (.getfield 252, 3) := yd_op_180 (i := 2) (a := 0) (b := 252) yd_by_cX12_qGoesOn_10 rfl rfl
theorem dX12_qGoesOn_383 : decode cX12_qGoesOn 383 = .ok (.invokevirtual 276, 3) := yd_op_182 (i := 5) (a := 1) (b := 20) yd_by_cX12_qGoesOn_10 rfl rfl
theorem dX12_qGoesOn_386 : decode cX12_qGoesOn 386 = .ok (.iconst 0, 1) := yd_op_3 (i := 8) yd_by_cX12_qGoesOn_10 rfl rfl
theorem dX12_qGoesOn_387 : decode cX12_qGoesOn 387 = .ok (.ireturn, 1) := yd_op_172 (i := 9) yd_by_cX12_qGoesOn_10 rfl rfl
set_option maxRecDepth 100000 in
theorem yd_by_cX12_qSums_0 : ydk cX12_qSums 0 [42, 180, 1, 83, 60, 42, 42, 180, 1, 77, 181, 1, 83, 4, 61, 28, 153, 0, 37, 42, 180, 0, 246, 154, 0, 30, 42, 182, 2, 82, 42, 180, 0, 246, 154, 0, 14, 42] = true := by decide +kernel
theorem dX12_qSums_0 : decode cX12_qSums 0 = .ok (.aload_n 0, 1) := yd_op_42 (i := 0) yd_by_cX12_qSums_0 rfl rfl
theorem dX12_qSums_1 : decode cX12_qSums 1 = .ok (.getfield 339, 3) := yd_op_180 (i := 1) (a := 1) (b := 83) yd_by_cX12_qSums_0 rfl rfl
theorem dX12_qSums_4 : decode cX12_qSums 4 = .ok (.istore_n 1, 1) := yd_op_60 (i := 4) yd_by_cX12_qSums_0 rfl rfl
theorem dX12_qSums_5 : decode cX12_qSums 5 = .ok (.aload_n 0, 1) := yd_op_42 (i := 5) yd_by_cX12_qSums_0 rfl rfl
theorem dX12_qSums_6 : decode cX12_qSums 6 = .ok (.aload_n 0, 1) := yd_op_42 (i := 6) yd_by_cX12_qSums_0 rfl rfl
theorem dX12_qSums_7 : decode cX12_qSums 7 = .ok (.getfield 333, 3) := yd_op_180 (i := 7) (a := 1) (b := 77) yd_by_cX12_qSums_0 rfl rfl
theorem dX12_qSums_10 : decode cX12_qSums 10 = .ok (.putfield 339, 3) := yd_op_181 (i := 10) (a := 1) (b := 83) yd_by_cX12_qSums_0 rfl rfl
theorem dX12_qSums_13 : decode cX12_qSums 13 = .ok (.iconst 1, 1) := yd_op_4 (i := 13) yd_by_cX12_qSums_0 rfl rfl
theorem dX12_qSums_14 : decode cX12_qSums 14 = .ok (.istore_n 2, 1) := yd_op_61 (i := 14) yd_by_cX12_qSums_0 rfl rfl
theorem dX12_qSums_15 : decode cX12_qSums 15 = .ok (.iload_n 2, 1) := yd_op_28 (i := 15) yd_by_cX12_qSums_0 rfl rfl
theorem dX12_qSums_16 : decode cX12_qSums 16 = .ok (.ifCond .eq 37, 3) := yd_op_153 (i := 16) (a := 0) (b := 37) yd_by_cX12_qSums_0 rfl rfl
theorem dX12_qSums_19 : decode cX12_qSums 19 = .ok (.aload_n 0, 1) := yd_op_42 (i := 19) yd_by_cX12_qSums_0 rfl rfl
theorem dX12_qSums_20 : decode cX12_qSums 20 = .ok (.getfield 246, 3) := yd_op_180 (i := 20) (a := 0) (b := 246) yd_by_cX12_qSums_0 rfl rfl
theorem dX12_qSums_23 : decode cX12_qSums 23 = .ok (.ifCond .ne 30, 3) := yd_op_154 (i := 23) (a := 0) (b := 30) yd_by_cX12_qSums_0 rfl rfl
theorem dX12_qSums_26 : decode cX12_qSums 26 = .ok (.aload_n 0, 1) := yd_op_42 (i := 26) yd_by_cX12_qSums_0 rfl rfl
theorem dX12_qSums_27 : decode cX12_qSums 27 = .ok (.invokevirtual 594, 3) := yd_op_182 (i := 27) (a := 2) (b := 82) yd_by_cX12_qSums_0 rfl rfl
theorem dX12_qSums_30 : decode cX12_qSums 30 = .ok (.aload_n 0, 1) := yd_op_42 (i := 30) yd_by_cX12_qSums_0 rfl rfl
theorem dX12_qSums_31 : decode cX12_qSums 31 = .ok (.getfield 246, 3) := yd_op_180 (i := 31) (a := 0) (b := 246) yd_by_cX12_qSums_0 rfl rfl
theorem dX12_qSums_34 : decode cX12_qSums 34 = .ok (.ifCond .ne 14, 3) := yd_op_154 (i := 34) (a := 0) (b := 14) yd_by_cX12_qSums_0 rfl rfl
theorem dX12_qSums_37 : decode cX12_qSums 37 = .ok (.aload_n 0, 1) := yd_op_42 (i := 37) yd_by_cX12_qSums_0 rfl rfl
set_option maxRecDepth 100000 in
theorem yd_by_cX12_qSums_1 : ydk cX12_qSums 38 [182, 2, 85, 153, 0, 7, 4, 167, 0, 4, 3, 61, 167, 255, 221, 42, 180, 0, 246, 154, 0, 21, 42, 180, 1, 77, 42, 180, 1, 83, 164, 0, 10, 42, 182, 2, 52, 167, 255, 234, 42, 27] = true := by decide +kernel
theorem dX12_qSums_38 : decode cX12_qSums 38 = .ok (.invokevirtual 597, 3) := yd_op_182 (i := 0) (a := 2) (b := 85) yd_by_cX12_qSums_1 rfl rfl
theorem dX12_qSums_41 : decode cX12_qSums 41 = .ok (.ifCond .eq 7, 3) := yd_op_153 (i := 3) (a := 0) (b := 7) yd_by_cX12_qSums_1 rfl rfl
theorem dX12_qSums_44 : decode cX12_qSums 44 = .ok (.iconst 1, 1) := yd_op_4 (i := 6) yd_by_cX12_qSums_1 rfl rfl
theorem dX12_qSums_45 : decode cX12_qSums 45 = .ok (.goto 4, 3) := yd_op_167 (i := 7) (a := 0) (b := 4) yd_by_cX12_qSums_1 rfl rfl
theorem dX12_qSums_48 : decode cX12_qSums 48 = .ok (.iconst 0, 1) := yd_op_3 (i := 10) yd_by_cX12_qSums_1 rfl rfl
theorem dX12_qSums_49 : decode cX12_qSums 49 = .ok (.istore_n 2, 1) := yd_op_61 (i := 11) yd_by_cX12_qSums_1 rfl rfl
theorem dX12_qSums_50 : decode cX12_qSums 50 = .ok (.goto (-35), 3) := yd_op_167 (i := 12) (a := 255) (b := 221) yd_by_cX12_qSums_1 rfl rfl
theorem dX12_qSums_53 : decode cX12_qSums 53 = .ok (.aload_n 0, 1) := yd_op_42 (i := 15) yd_by_cX12_qSums_1 rfl rfl
theorem dX12_qSums_54 : decode cX12_qSums 54 = .ok (.getfield 246, 3) := yd_op_180 (i := 16) (a := 0) (b := 246) yd_by_cX12_qSums_1 rfl rfl
theorem dX12_qSums_57 : decode cX12_qSums 57 = .ok (.ifCond .ne 21, 3) := yd_op_154 (i := 19) (a := 0) (b := 21) yd_by_cX12_qSums_1 rfl rfl
theorem dX12_qSums_60 : decode cX12_qSums 60 = .ok (.aload_n 0, 1) := yd_op_42 (i := 22) yd_by_cX12_qSums_1 rfl rfl
theorem dX12_qSums_61 : decode cX12_qSums 61 = .ok (.getfield 333, 3) := yd_op_180 (i := 23) (a := 1) (b := 77) yd_by_cX12_qSums_1 rfl rfl
theorem dX12_qSums_64 : decode cX12_qSums 64 = .ok (.aload_n 0, 1) := yd_op_42 (i := 26) yd_by_cX12_qSums_1 rfl rfl
theorem dX12_qSums_65 : decode cX12_qSums 65 = .ok (.getfield 339, 3) := yd_op_180 (i := 27) (a := 1) (b := 83) yd_by_cX12_qSums_1 rfl rfl
theorem dX12_qSums_68 : decode cX12_qSums 68 = .ok (.if_icmp .le 10, 3) := yd_op_164 (i := 30) (a := 0) (b := 10) yd_by_cX12_qSums_1 rfl rfl
theorem dX12_qSums_71 : decode cX12_qSums 71 = .ok (.aload_n 0, 1) := yd_op_42 (i := 33) yd_by_cX12_qSums_1 rfl rfl
theorem dX12_qSums_72 : decode cX12_qSums 72 = .ok (.invokevirtual 564, 3) := yd_op_182 (i := 34) (a := 2) (b := 52) yd_by_cX12_qSums_1 rfl rfl
theorem dX12_qSums_75 : decode cX12_qSums 75 = .ok (.goto (-22), 3) := yd_op_167 (i := 37) (a := 255) (b := 234) yd_by_cX12_qSums_1 rfl rfl
theorem dX12_qSums_78 : decode cX12_qSums 78 = .ok (.aload_n 0, 1) := yd_op_42 (i := 40) yd_by_cX12_qSums_1 rfl rfl
theorem dX12_qSums_79 : decode cX12_qSums 79 = .ok (.iload_n 1, 1) := yd_op_27 (i := 41) yd_by_cX12_qSums_1 rfl rfl
set_option maxRecDepth 100000 in
theorem yd_by_cX12_qSums_2 : ydk cX12_qSums 80 [181, 1, 83, 177] = true := by decide +kernel
theorem dX12_qSums_80 : decode cX12_qSums 80 = .ok (.putfield 339, 3) := yd_op_181 (i := 0) (a := 1) (b := 83) yd_by_cX12_qSums_2 rfl rfl
theorem dX12_qSums_83 : decode cX12_qSums 83 = .ok (.return_, 1) := yd_op_177 (i := 3) yd_by_cX12_qSums_2 rfl rfl
set_option maxRecDepth 100000 in
theorem yd_by_cX12_qFact_0 : ydk cX12_qFact 0 [42, 42, 180, 0, 189, 182, 1, 17, 153, 0, 10, 42, 16, 13, 182, 2, 46, 177, 42, 182, 1, 89, 42, 180, 0, 246, 153, 0, 4, 177, 42, 182, 1, 2, 60, 27, 16, 60] = true := by decide +kernel
theorem dX12_qFact_0 : decode cX12_qFact 0 = .ok (.aload_n 0, 1) := yd_op_42 (i := 0) yd_by_cX12_qFact_0 rfl rfl
theorem dX12_qFact_1 : decode cX12_qFact 1 = .ok (.aload_n 0, 1) := yd_op_42 (i := 1) yd_by_cX12_qFact_0 rfl rfl
theorem dX12_qFact_2 : decode cX12_qFact 2 = .ok (.getfield 189, 3) := yd_op_180 (i := 2) (a := 0) (b := 189) yd_by_cX12_qFact_0 rfl rfl
theorem dX12_qFact_5 : decode cX12_qFact 5 = .ok (.invokevirtual 273, 3) := yd_op_182 (i := 5) (a := 1) (b := 17) yd_by_cX12_qFact_0 rfl rfl
theorem dX12_qFact_8 : decode cX12_qFact 8 = .ok (.ifCond .eq 10, 3) := yd_op_153 (i := 8) (a := 0) (b := 10) yd_by_cX12_qFact_0 rfl rfl
theorem dX12_qFact_11 : decode cX12_qFact 11 = .ok (.aload_n 0, 1) := yd_op_42 (i := 11) yd_by_cX12_qFact_0 rfl rfl
theorem dX12_qFact_12 : decode cX12_qFact 12 = .ok (.bipush 13, 2) := yd_op_16 (i := 12) (a := 13) yd_by_cX12_qFact_0 rfl rfl
theorem dX12_qFact_14 : decode cX12_qFact 14 = .ok (.invokevirtual 558, 3) := yd_op_182 (i := 14) (a := 2) (b := 46) yd_by_cX12_qFact_0 rfl rfl
theorem dX12_qFact_17 : decode cX12_qFact 17 = .ok (.return_, 1) := yd_op_177 (i := 17) yd_by_cX12_qFact_0 rfl rfl
theorem dX12_qFact_18 : decode cX12_qFact 18 = .ok (.aload_n 0, 1) := yd_op_42 (i := 18) yd_by_cX12_qFact_0 rfl rfl
theorem dX12_qFact_19 : decode cX12_qFact 19 = .ok (.invokevirtual 345, 3) := yd_op_182 (i := 19) (a := 1) (b := 89) yd_by_cX12_qFact_0 rfl rfl
theorem dX12_qFact_22 : decode cX12_qFact 22 = .ok (.aload_n 0, 1) := yd_op_42 (i := 22) yd_by_cX12_qFact_0 rfl rfl
theorem dX12_qFact_23 : decode cX12_qFact 23 = .ok (.getfield 246, 3) := yd_op_180 (i := 23) (a := 0) (b := 246) yd_by_cX12_qFact_0 rfl rfl
theorem dX12_qFact_26 : decode cX12_qFact 26 = .ok (.ifCond .eq 4, 3) := yd_op_153 (i := 26) (a := 0) (b := 4) yd_by_cX12_qFact_0 rfl rfl
theorem dX12_qFact_29 : decode cX12_qFact 29 = .ok (.return_, 1) := yd_op_177 (i := 29) yd_by_cX12_qFact_0 rfl rfl
theorem dX12_qFact_30 : decode cX12_qFact 30 = .ok (.aload_n 0, 1) := yd_op_42 (i := 30) yd_by_cX12_qFact_0 rfl rfl
theorem dX12_qFact_31 : decode cX12_qFact 31 = .ok (.invokevirtual 258, 3) := yd_op_182 (i := 31) (a := 1) (b := 2) yd_by_cX12_qFact_0 rfl rfl
theorem dX12_qFact_34 : decode cX12_qFact 34 = .ok (.istore_n 1, 1) := yd_op_60 (i := 34) yd_by_cX12_qFact_0 rfl rfl
theorem dX12_qFact_35 : decode cX12_qFact 35 = .ok (.iload_n 1, 1) := yd_op_27 (i := 35) yd_by_cX12_qFact_0 rfl rfl
theorem dX12_qFact_36 : decode cX12_qFact 36 = .ok (.bipush 60, 2) := yd_op_16 (i := 36) (a := 60) yd_by_cX12_qFact_0 rfl rfl
set_option maxRecDepth 100000 in
theorem yd_by_cX12_qFact_1 : ydk cX12_qFact 38 [159, 0, 25, 27, 16, 62, 159, 0, 19, 27, 16, 61, 159, 0, 13, 42, 4, 42, 180, 0, 252, 182, 1, 20, 177, 42, 89, 180, 0, 252, 4, 96, 181, 0, 252, 42] = true := by decide +kernel
theorem dX12_qFact_38 : decode cX12_qFact 38 = .ok (.if_icmp .eq 25, 3) := yd_op_159 (i := 0) (a := 0) (b := 25) yd_by_cX12_qFact_1 rfl rfl
theorem dX12_qFact_41 : decode cX12_qFact 41 = .ok (.iload_n 1, 1) := yd_op_27 (i := 3) yd_by_cX12_qFact_1 rfl rfl
theorem dX12_qFact_42 : decode cX12_qFact 42 = .ok (.bipush 62, 2) := yd_op_16 (i := 4) (a := 62) yd_by_cX12_qFact_1 rfl rfl
theorem dX12_qFact_44 : decode cX12_qFact 44 = .ok (.if_icmp .eq 19, 3) := yd_op_159 (i := 6) (a := 0) (b := 19) yd_by_cX12_qFact_1 rfl rfl
theorem dX12_qFact_47 : decode cX12_qFact 47 = .ok (.iload_n 1, 1) := yd_op_27 (i := 9) yd_by_cX12_qFact_1 rfl rfl
theorem dX12_qFact_48 : decode cX12_qFact 48 = .ok (.bipush 61, 2) := yd_op_16 (i := 10) (a := 61) yd_by_cX12_qFact_1 rfl rfl
theorem dX12_qFact_50 : decode cX12_qFact 50 = .ok (.if_icmp .eq 13, 3) := yd_op_159 (i := 12) (a := 0) (b := 13) yd_by_cX12_qFact_1 rfl rfl
theorem dX12_qFact_53 : decode cX12_qFact 53 = .ok (.aload_n 0, 1) := yd_op_42 (i := 15) yd_by_cX12_qFact_1 rfl rfl
theorem dX12_qFact_54 : decode cX12_qFact 54 = .ok (.iconst 1, 1) := yd_op_4 (i := 16) yd_by_cX12_qFact_1 rfl rfl
theorem dX12_qFact_55 : decode cX12_qFact 55 = .ok (.aload_n 0, 1) := yd_op_42 (i := 17) yd_by_cX12_qFact_1 rfl rfl
theorem dX12_qFact_56 : decode cX12_qFact 56 = .ok (.getfield 252, 3) := yd_op_180 (i := 18) (a := 0) (b := 252) yd_by_cX12_qFact_1 rfl rfl
theorem dX12_qFact_59 : decode cX12_qFact 59 = .ok (.invokevirtual 276, 3) := yd_op_182 (i := 21) (a := 1) (b := 20) yd_by_cX12_qFact_1 rfl rfl
theorem dX12_qFact_62 : decode cX12_qFact 62 = .ok (.return_, 1) := yd_op_177 (i := 24) yd_by_cX12_qFact_1 rfl rfl
theorem dX12_qFact_63 : decode cX12_qFact 63 = .ok (.aload_n 0, 1) := yd_op_42 (i := 25) yd_by_cX12_qFact_1 rfl rfl
theorem dX12_qFact_64 : decode cX12_qFact 64 = .ok (.dup, 1) := yd_op_89 (i := 26) yd_by_cX12_qFact_1 rfl rfl
theorem dX12_qFact_65 : decode cX12_qFact 65 = .ok (.getfield 252, 3) := yd_op_180 (i := 27) (a := 0) (b := 252) yd_by_cX12_qFact_1 rfl rfl
theorem dX12_qFact_68 : decode cX12_qFact 68 = .ok (.iconst 1, 1) := yd_op_4 (i := 30) yd_by_cX12_qFact_1 rfl rfl
theorem dX12_qFact_69 : decode cX12_qFact 69 = .ok (.iadd, 1) := yd_op_96 (i := 31) yd_by_cX12_qFact_1 rfl rfl
theorem dX12_qFact_70 : decode cX12_qFact 70 = .ok (.putfield 252, 3) := yd_op_181 (i := 32) (a := 0) (b := 252) yd_by_cX12_qFact_1 rfl rfl
theorem dX12_qFact_73 : decode cX12_qFact 73 = .ok (.aload_n 0, 1) := yd_op_42 (i := 35) yd_by_cX12_qFact_1 rfl rfl
set_option maxRecDepth 100000 in
theorem yd_by_cX12_qFact_2 : ydk cX12_qFact 74 [182, 1, 89, 42, 27, 16, 60, 160, 0, 8, 16, 7, 167, 0, 16, 27, 16, 62, 160, 0, 8, 16, 8, 167, 0, 5, 16, 9, 182, 2, 46, 177] = true := by decide +kernel
theorem dX12_qFact_74 : decode cX12_qFact 74 = .ok (.invokevirtual 345, 3) := yd_op_182 (i := 0) (a := 1) (b := 89) yd_by_cX12_qFact_2 rfl rfl
theorem dX12_qFact_77 : decode cX12_qFact 77 = .ok (.aload_n 0, 1) := yd_op_42 (i := 3) yd_by_cX12_qFact_2 rfl rfl
theorem dX12_qFact_78 : decode cX12_qFact 78 = .ok (.iload_n 1, 1) := yd_op_27 (i := 4) yd_by_cX12_qFact_2 rfl rfl
theorem dX12_qFact_79 : decode cX12_qFact 79 = .ok (.bipush 60, 2) := yd_op_16 (i := 5) (a := 60) yd_by_cX12_qFact_2 rfl rfl
theorem dX12_qFact_81 : decode cX12_qFact 81 = .ok (.if_icmp .ne 8, 3) := yd_op_160 (i := 7) (a := 0) (b := 8) yd_by_cX12_qFact_2 rfl rfl
theorem dX12_qFact_84 : decode cX12_qFact 84 = .ok (.bipush 7, 2) := yd_op_16 (i := 10) (a := 7) yd_by_cX12_qFact_2 rfl rfl
theorem dX12_qFact_86 : decode cX12_qFact 86 = .ok (.goto 16, 3) := yd_op_167 (i := 12) (a := 0) (b := 16) yd_by_cX12_qFact_2 rfl rfl
theorem dX12_qFact_89 : decode cX12_qFact 89 = .ok (.iload_n 1, 1) := yd_op_27 (i := 15) yd_by_cX12_qFact_2 rfl rfl
theorem dX12_qFact_90 : decode cX12_qFact 90 = .ok (.bipush 62, 2) := yd_op_16 (i := 16) (a := 62) yd_by_cX12_qFact_2 rfl rfl
theorem dX12_qFact_92 : decode cX12_qFact 92 = .ok (.if_icmp .ne 8, 3) := yd_op_160 (i := 18) (a := 0) (b := 8) yd_by_cX12_qFact_2 rfl rfl
theorem dX12_qFact_95 : decode cX12_qFact 95 = .ok (.bipush 8, 2) := yd_op_16 (i := 21) (a := 8) yd_by_cX12_qFact_2 rfl rfl
theorem dX12_qFact_97 : decode cX12_qFact 97 = .ok (.goto 5, 3) := yd_op_167 (i := 23) (a := 0) (b := 5) yd_by_cX12_qFact_2 rfl rfl
theorem dX12_qFact_100 : decode cX12_qFact 100 = .ok (.bipush 9, 2) := yd_op_16 (i := 26) (a := 9) yd_by_cX12_qFact_2 rfl rfl
theorem dX12_qFact_102 : decode cX12_qFact 102 = .ok (.invokevirtual 558, 3) := yd_op_182 (i := 28) (a := 2) (b := 46) yd_by_cX12_qFact_2 rfl rfl
theorem dX12_qFact_105 : decode cX12_qFact 105 = .ok (.return_, 1) := yd_op_177 (i := 31) yd_by_cX12_qFact_2 rfl rfl
set_option maxRecDepth 100000 in
theorem yd_by_cX12_qHasSquare_0 : ydk cX12_qHasSquare 0 [3, 60, 27, 42, 180, 1, 77, 162, 0, 22, 42, 180, 0, 234, 27, 46, 16, 25, 160, 0, 5, 4, 172, 132, 1, 1, 167, 255, 232, 3, 172] = true := by decide +kernel
theorem dX12_qHasSquare_0 : decode cX12_qHasSquare 0 = .ok (.iconst 0, 1) := yd_op_3 (i := 0) yd_by_cX12_qHasSquare_0 rfl rfl
theorem dX12_qHasSquare_1 : decode cX12_qHasSquare 1 = .ok (.istore_n 1, 1) := yd_op_60 (i := 1) yd_by_cX12_qHasSquare_0 rfl rfl
theorem dX12_qHasSquare_2 : decode cX12_qHasSquare 2 = .ok (.iload_n 1, 1) := yd_op_27 (i := 2) yd_by_cX12_qHasSquare_0 rfl rfl
theorem dX12_qHasSquare_3 : decode cX12_qHasSquare 3 = .ok (.aload_n 0, 1) := yd_op_42 (i := 3) yd_by_cX12_qHasSquare_0 rfl rfl
theorem dX12_qHasSquare_4 : decode cX12_qHasSquare 4 = .ok (.getfield 333, 3) := yd_op_180 (i := 4) (a := 1) (b := 77) yd_by_cX12_qHasSquare_0 rfl rfl
theorem dX12_qHasSquare_7 : decode cX12_qHasSquare 7 = .ok (.if_icmp .ge 22, 3) := yd_op_162 (i := 7) (a := 0) (b := 22) yd_by_cX12_qHasSquare_0 rfl rfl
theorem dX12_qHasSquare_10 : decode cX12_qHasSquare 10 = .ok (.aload_n 0, 1) := yd_op_42 (i := 10) yd_by_cX12_qHasSquare_0 rfl rfl
theorem dX12_qHasSquare_11 : decode cX12_qHasSquare 11 = .ok (.getfield 234, 3) := yd_op_180 (i := 11) (a := 0) (b := 234) yd_by_cX12_qHasSquare_0 rfl rfl
theorem dX12_qHasSquare_14 : decode cX12_qHasSquare 14 = .ok (.iload_n 1, 1) := yd_op_27 (i := 14) yd_by_cX12_qHasSquare_0 rfl rfl
theorem dX12_qHasSquare_15 : decode cX12_qHasSquare 15 = .ok (.iaload, 1) := yd_op_46 (i := 15) yd_by_cX12_qHasSquare_0 rfl rfl
theorem dX12_qHasSquare_16 : decode cX12_qHasSquare 16 = .ok (.bipush 25, 2) := yd_op_16 (i := 16) (a := 25) yd_by_cX12_qHasSquare_0 rfl rfl
theorem dX12_qHasSquare_18 : decode cX12_qHasSquare 18 = .ok (.if_icmp .ne 5, 3) := yd_op_160 (i := 18) (a := 0) (b := 5) yd_by_cX12_qHasSquare_0 rfl rfl
theorem dX12_qHasSquare_21 : decode cX12_qHasSquare 21 = .ok (.iconst 1, 1) := yd_op_4 (i := 21) yd_by_cX12_qHasSquare_0 rfl rfl
theorem dX12_qHasSquare_22 : decode cX12_qHasSquare 22 = .ok (.ireturn, 1) := yd_op_172 (i := 22) yd_by_cX12_qHasSquare_0 rfl rfl
theorem dX12_qHasSquare_23 : decode cX12_qHasSquare 23 = .ok (.iinc 1 1, 3) := yd_op_132 (i := 23) (a := 1) (b := 1) yd_by_cX12_qHasSquare_0 rfl rfl
theorem dX12_qHasSquare_26 : decode cX12_qHasSquare 26 = .ok (.goto (-24), 3) := yd_op_167 (i := 26) (a := 255) (b := 232) yd_by_cX12_qHasSquare_0 rfl rfl
theorem dX12_qHasSquare_29 : decode cX12_qHasSquare 29 = .ok (.iconst 0, 1) := yd_op_3 (i := 29) yd_by_cX12_qHasSquare_0 rfl rfl
theorem dX12_qHasSquare_30 : decode cX12_qHasSquare 30 = .ok (.ireturn, 1) := yd_op_172 (i := 30) yd_by_cX12_qHasSquare_0 rfl rfl
set_option maxRecDepth 100000 in
theorem yd_by_cX12_qDropsNots_0 : ydk cX12_qDropsNots 0 [42, 180, 0, 246, 154, 0, 29, 42, 16, 12, 182, 2, 79, 153, 0, 20, 42, 89, 180, 1, 80, 4, 100, 181, 1, 80, 42, 182, 2, 52, 167, 255, 226, 177] = true := by decide +kernel
theorem dX12_qDropsNots_0 : decode cX12_qDropsNots 0 = .ok (.aload_n 0, 1) := yd_op_42 (i := 0) yd_by_cX12_qDropsNots_0 rfl rfl
theorem dX12_qDropsNots_1 : decode cX12_qDropsNots 1 = .ok (.getfield 246, 3) := yd_op_180 (i := 1) (a := 0) (b := 246) yd_by_cX12_qDropsNots_0 rfl rfl
theorem dX12_qDropsNots_4 : decode cX12_qDropsNots 4 = .ok (.ifCond .ne 29, 3) := yd_op_154 (i := 4) (a := 0) (b := 29) yd_by_cX12_qDropsNots_0 rfl rfl
theorem dX12_qDropsNots_7 : decode cX12_qDropsNots 7 = .ok (.aload_n 0, 1) := yd_op_42 (i := 7) yd_by_cX12_qDropsNots_0 rfl rfl
theorem dX12_qDropsNots_8 : decode cX12_qDropsNots 8 = .ok (.bipush 12, 2) := yd_op_16 (i := 8) (a := 12) yd_by_cX12_qDropsNots_0 rfl rfl
theorem dX12_qDropsNots_10 : decode cX12_qDropsNots 10 = .ok (.invokevirtual 591, 3) := yd_op_182 (i := 10) (a := 2) (b := 79) yd_by_cX12_qDropsNots_0 rfl rfl
theorem dX12_qDropsNots_13 : decode cX12_qDropsNots 13 = .ok (.ifCond .eq 20, 3) := yd_op_153 (i := 13) (a := 0) (b := 20) yd_by_cX12_qDropsNots_0 rfl rfl
theorem dX12_qDropsNots_16 : decode cX12_qDropsNots 16 = .ok (.aload_n 0, 1) := yd_op_42 (i := 16) yd_by_cX12_qDropsNots_0 rfl rfl
theorem dX12_qDropsNots_17 : decode cX12_qDropsNots 17 = .ok (.dup, 1) := yd_op_89 (i := 17) yd_by_cX12_qDropsNots_0 rfl rfl
theorem dX12_qDropsNots_18 : decode cX12_qDropsNots 18 = .ok (.getfield 336, 3) := yd_op_180 (i := 18) (a := 1) (b := 80) yd_by_cX12_qDropsNots_0 rfl rfl
theorem dX12_qDropsNots_21 : decode cX12_qDropsNots 21 = .ok (.iconst 1, 1) := yd_op_4 (i := 21) yd_by_cX12_qDropsNots_0 rfl rfl
theorem dX12_qDropsNots_22 : decode cX12_qDropsNots 22 = .ok (.isub, 1) := yd_op_100 (i := 22) yd_by_cX12_qDropsNots_0 rfl rfl
theorem dX12_qDropsNots_23 : decode cX12_qDropsNots 23 = .ok (.putfield 336, 3) := yd_op_181 (i := 23) (a := 1) (b := 80) yd_by_cX12_qDropsNots_0 rfl rfl
theorem dX12_qDropsNots_26 : decode cX12_qDropsNots 26 = .ok (.aload_n 0, 1) := yd_op_42 (i := 26) yd_by_cX12_qDropsNots_0 rfl rfl
theorem dX12_qDropsNots_27 : decode cX12_qDropsNots 27 = .ok (.invokevirtual 564, 3) := yd_op_182 (i := 27) (a := 2) (b := 52) yd_by_cX12_qDropsNots_0 rfl rfl
theorem dX12_qDropsNots_30 : decode cX12_qDropsNots 30 = .ok (.goto (-30), 3) := yd_op_167 (i := 30) (a := 255) (b := 226) yd_by_cX12_qDropsNots_0 rfl rfl
theorem dX12_qDropsNots_33 : decode cX12_qDropsNots 33 = .ok (.return_, 1) := yd_op_177 (i := 33) yd_by_cX12_qDropsNots_0 rfl rfl
set_option maxRecDepth 100000 in
theorem yd_by_cX12_qTest_0 : ydk cX12_qTest 0 [4, 60, 27, 153, 0, 107, 42, 180, 0, 246, 154, 0, 100, 42, 182, 1, 2, 61, 28, 16, 91, 160, 0, 26, 42, 16, 25, 42, 180, 0, 252, 182, 2, 64, 42, 89] = true := by decide +kernel
theorem dX12_qTest_0 : decode cX12_qTest 0 = .ok (.iconst 1, 1) := yd_op_4 (i := 0) yd_by_cX12_qTest_0 rfl rfl
theorem dX12_qTest_1 : decode cX12_qTest 1 = .ok (.istore_n 1, 1) := yd_op_60 (i := 1) yd_by_cX12_qTest_0 rfl rfl
theorem dX12_qTest_2 : decode cX12_qTest 2 = .ok (.iload_n 1, 1) := yd_op_27 (i := 2) yd_by_cX12_qTest_0 rfl rfl
theorem dX12_qTest_3 : decode cX12_qTest 3 = .ok (.ifCond .eq 107, 3) := yd_op_153 (i := 3) (a := 0) (b := 107) yd_by_cX12_qTest_0 rfl rfl
theorem dX12_qTest_6 : decode cX12_qTest 6 = .ok (.aload_n 0, 1) := yd_op_42 (i := 6) yd_by_cX12_qTest_0 rfl rfl
theorem dX12_qTest_7 : decode cX12_qTest 7 = .ok (.getfield 246, 3) := yd_op_180 (i := 7) (a := 0) (b := 246) yd_by_cX12_qTest_0 rfl rfl
theorem dX12_qTest_10 : decode cX12_qTest 10 = .ok (.ifCond .ne 100, 3) := yd_op_154 (i := 10) (a := 0) (b := 100) yd_by_cX12_qTest_0 rfl rfl
theorem dX12_qTest_13 : decode cX12_qTest 13 = .ok (.aload_n 0, 1) := yd_op_42 (i := 13) yd_by_cX12_qTest_0 rfl rfl
theorem dX12_qTest_14 : decode cX12_qTest 14 = .ok (.invokevirtual 258, 3) := yd_op_182 (i := 14) (a := 1) (b := 2) yd_by_cX12_qTest_0 rfl rfl
theorem dX12_qTest_17 : decode cX12_qTest 17 = .ok (.istore_n 2, 1) := yd_op_61 (i := 17) yd_by_cX12_qTest_0 rfl rfl
theorem dX12_qTest_18 : decode cX12_qTest 18 = .ok (.iload_n 2, 1) := yd_op_28 (i := 18) yd_by_cX12_qTest_0 rfl rfl
theorem dX12_qTest_19 : decode cX12_qTest 19 = .ok (.bipush 91, 2) := yd_op_16 (i := 19) (a := 91) yd_by_cX12_qTest_0 rfl rfl
theorem dX12_qTest_21 : decode cX12_qTest 21 = .ok (.if_icmp .ne 26, 3) := yd_op_160 (i := 21) (a := 0) (b := 26) yd_by_cX12_qTest_0 rfl rfl
theorem dX12_qTest_24 : decode cX12_qTest 24 = .ok (.aload_n 0, 1) := yd_op_42 (i := 24) yd_by_cX12_qTest_0 rfl rfl
theorem dX12_qTest_25 : decode cX12_qTest 25 = .ok (.bipush 25, 2) := yd_op_16 (i := 25) (a := 25) yd_by_cX12_qTest_0 rfl rfl
theorem dX12_qTest_27 : decode cX12_qTest 27 = .ok (.aload_n 0, 1) := yd_op_42 (i := 27) yd_by_cX12_qTest_0 rfl rfl
theorem dX12_qTest_28 : decode cX12_qTest 28 = .ok (.getfield 252, 3) := yd_op_180 (i := 28) (a := 0) (b := 252) yd_by_cX12_qTest_0 rfl rfl
theorem dX12_qTest_31 : decode cX12_qTest 31 = .ok (.invokevirtual 576, 3) := yd_op_182 (i := 31) (a := 2) (b := 64) yd_by_cX12_qTest_0 rfl rfl
theorem dX12_qTest_34 : decode cX12_qTest 34 = .ok (.aload_n 0, 1) := yd_op_42 (i := 34) yd_by_cX12_qTest_0 rfl rfl
theorem dX12_qTest_35 : decode cX12_qTest 35 = .ok (.dup, 1) := yd_op_89 (i := 35) yd_by_cX12_qTest_0 rfl rfl
set_option maxRecDepth 100000 in
theorem yd_by_cX12_qTest_1 : ydk cX12_qTest 36 [180, 0, 252, 4, 96, 181, 0, 252, 167, 255, 214, 42, 42, 180, 0, 180, 182, 1, 13, 153, 0, 24, 42, 16, 12, 42, 180, 0, 252, 182, 2, 64, 42, 42, 180, 0, 180, 182, 1, 55, 167, 255, 182] = true := by decide +kernel
theorem dX12_qTest_36 : decode cX12_qTest 36 = .ok (.getfield 252, 3) := yd_op_180 (i := 0) (a := 0) (b := 252) yd_by_cX12_qTest_1 rfl rfl
theorem dX12_qTest_39 : decode cX12_qTest 39 = .ok (.iconst 1, 1) := yd_op_4 (i := 3) yd_by_cX12_qTest_1 rfl rfl
theorem dX12_qTest_40 : decode cX12_qTest 40 = .ok (.iadd, 1) := yd_op_96 (i := 4) yd_by_cX12_qTest_1 rfl rfl
theorem dX12_qTest_41 : decode cX12_qTest 41 = .ok (.putfield 252, 3) := yd_op_181 (i := 5) (a := 0) (b := 252) yd_by_cX12_qTest_1 rfl rfl
theorem dX12_qTest_44 : decode cX12_qTest 44 = .ok (.goto (-42), 3) := yd_op_167 (i := 8) (a := 255) (b := 214) yd_by_cX12_qTest_1 rfl rfl
theorem dX12_qTest_47 : decode cX12_qTest 47 = .ok (.aload_n 0, 1) := yd_op_42 (i := 11) yd_by_cX12_qTest_1 rfl rfl
theorem dX12_qTest_48 : decode cX12_qTest 48 = .ok (.aload_n 0, 1) := yd_op_42 (i := 12) yd_by_cX12_qTest_1 rfl rfl
theorem dX12_qTest_49 : decode cX12_qTest 49 = .ok (.getfield 180, 3) := yd_op_180 (i := 13) (a := 0) (b := 180) yd_by_cX12_qTest_1 rfl rfl
theorem dX12_qTest_52 : decode cX12_qTest 52 = .ok (.invokevirtual 269, 3) := yd_op_182 (i := 16) (a := 1) (b := 13) yd_by_cX12_qTest_1 rfl rfl
theorem dX12_qTest_55 : decode cX12_qTest 55 = .ok (.ifCond .eq 24, 3) := yd_op_153 (i := 19) (a := 0) (b := 24) yd_by_cX12_qTest_1 rfl rfl
theorem dX12_qTest_58 : decode cX12_qTest 58 = .ok (.aload_n 0, 1) := yd_op_42 (i := 22) yd_by_cX12_qTest_1 rfl rfl
theorem dX12_qTest_59 : decode cX12_qTest 59 = .ok (.bipush 12, 2) := yd_op_16 (i := 23) (a := 12) yd_by_cX12_qTest_1 rfl rfl
theorem dX12_qTest_61 : decode cX12_qTest 61 = .ok (.aload_n 0, 1) := yd_op_42 (i := 25) yd_by_cX12_qTest_1 rfl rfl
theorem dX12_qTest_62 : decode cX12_qTest 62 = .ok (.getfield 252, 3) := yd_op_180 (i := 26) (a := 0) (b := 252) yd_by_cX12_qTest_1 rfl rfl
theorem dX12_qTest_65 : decode cX12_qTest 65 = .ok (.invokevirtual 576, 3) := yd_op_182 (i := 29) (a := 2) (b := 64) yd_by_cX12_qTest_1 rfl rfl
theorem dX12_qTest_68 : decode cX12_qTest 68 = .ok (.aload_n 0, 1) := yd_op_42 (i := 32) yd_by_cX12_qTest_1 rfl rfl
theorem dX12_qTest_69 : decode cX12_qTest 69 = .ok (.aload_n 0, 1) := yd_op_42 (i := 33) yd_by_cX12_qTest_1 rfl rfl
theorem dX12_qTest_70 : decode cX12_qTest 70 = .ok (.getfield 180, 3) := yd_op_180 (i := 34) (a := 0) (b := 180) yd_by_cX12_qTest_1 rfl rfl
theorem dX12_qTest_73 : decode cX12_qTest 73 = .ok (.invokevirtual 311, 3) := yd_op_182 (i := 37) (a := 1) (b := 55) yd_by_cX12_qTest_1 rfl rfl
theorem dX12_qTest_76 : decode cX12_qTest 76 = .ok (.goto (-74), 3) := yd_op_167 (i := 40) (a := 255) (b := 182) yd_by_cX12_qTest_1 rfl rfl
set_option maxRecDepth 100000 in
theorem yd_by_cX12_qTest_2 : ydk cX12_qTest 79 [42, 182, 2, 88, 42, 182, 2, 91, 42, 180, 0, 246, 154, 0, 14, 42, 182, 2, 94, 153, 0, 7, 4, 167, 0, 4, 3, 60, 167, 255, 151, 42, 180, 0, 246, 154, 0, 17, 42, 180, 1, 77] = true := by decide +kernel
theorem dX12_qTest_79 : decode cX12_qTest 79 = .ok (.aload_n 0, 1) := yd_op_42 (i := 0) yd_by_cX12_qTest_2 rfl rfl
theorem dX12_qTest_80 : decode cX12_qTest 80 = .ok (.invokevirtual 600, 3) := yd_op_182 (i := 1) (a := 2) (b := 88) yd_by_cX12_qTest_2 rfl rfl
theorem dX12_qTest_83 : decode cX12_qTest 83 = .ok (.aload_n 0, 1) := yd_op_42 (i := 4) yd_by_cX12_qTest_2 rfl rfl
theorem dX12_qTest_84 : decode cX12_qTest 84 = .ok (.invokevirtual 603, 3) := yd_op_182 (i := 5) (a := 2) (b := 91) yd_by_cX12_qTest_2 rfl rfl
theorem dX12_qTest_87 : decode cX12_qTest 87 = .ok (.aload_n 0, 1) := yd_op_42 (i := 8) yd_by_cX12_qTest_2 rfl rfl
theorem dX12_qTest_88 : decode cX12_qTest 88 = .ok (.getfield 246, 3) := yd_op_180 (i := 9) (a := 0) (b := 246) yd_by_cX12_qTest_2 rfl rfl
theorem dX12_qTest_91 : decode cX12_qTest 91 = .ok (.ifCond .ne 14, 3) := yd_op_154 (i := 12) (a := 0) (b := 14) yd_by_cX12_qTest_2 rfl rfl
theorem dX12_qTest_94 : decode cX12_qTest 94 = .ok (.aload_n 0, 1) := yd_op_42 (i := 15) yd_by_cX12_qTest_2 rfl rfl
theorem dX12_qTest_95 : decode cX12_qTest 95 = .ok (.invokevirtual 606, 3) := yd_op_182 (i := 16) (a := 2) (b := 94) yd_by_cX12_qTest_2 rfl rfl
theorem dX12_qTest_98 : decode cX12_qTest 98 = .ok (.ifCond .eq 7, 3) := yd_op_153 (i := 19) (a := 0) (b := 7) yd_by_cX12_qTest_2 rfl rfl
theorem dX12_qTest_101 : decode cX12_qTest 101 = .ok (.iconst 1, 1) := yd_op_4 (i := 22) yd_by_cX12_qTest_2 rfl rfl
theorem dX12_qTest_102 : decode cX12_qTest 102 = .ok (.goto 4, 3) := yd_op_167 (i := 23) (a := 0) (b := 4) yd_by_cX12_qTest_2 rfl rfl
theorem dX12_qTest_105 : decode cX12_qTest 105 = .ok (.iconst 0, 1) := yd_op_3 (i := 26) yd_by_cX12_qTest_2 rfl rfl
theorem dX12_qTest_106 : decode cX12_qTest 106 = .ok (.istore_n 1, 1) := yd_op_60 (i := 27) yd_by_cX12_qTest_2 rfl rfl
theorem dX12_qTest_107 : decode cX12_qTest 107 = .ok (.goto (-105), 3) := yd_op_167 (i := 28) (a := 255) (b := 151) yd_by_cX12_qTest_2 rfl rfl
theorem dX12_qTest_110 : decode cX12_qTest 110 = .ok (.aload_n 0, 1) := yd_op_42 (i := 31) yd_by_cX12_qTest_2 rfl rfl
theorem dX12_qTest_111 : decode cX12_qTest 111 = .ok (.getfield 246, 3) := yd_op_180 (i := 32) (a := 0) (b := 246) yd_by_cX12_qTest_2 rfl rfl
theorem dX12_qTest_114 : decode cX12_qTest 114 = .ok (.ifCond .ne 17, 3) := yd_op_154 (i := 35) (a := 0) (b := 17) yd_by_cX12_qTest_2 rfl rfl
theorem dX12_qTest_117 : decode cX12_qTest 117 = .ok (.aload_n 0, 1) := yd_op_42 (i := 38) yd_by_cX12_qTest_2 rfl rfl
theorem dX12_qTest_118 : decode cX12_qTest 118 = .ok (.getfield 333, 3) := yd_op_180 (i := 39) (a := 1) (b := 77) yd_by_cX12_qTest_2 rfl rfl
set_option maxRecDepth 100000 in
theorem yd_by_cX12_qTest_3 : ydk cX12_qTest 121 [158, 0, 10, 42, 182, 2, 52, 167, 255, 238, 177] = true := by decide +kernel
theorem dX12_qTest_121 : decode cX12_qTest 121 = .ok (.ifCond .le 10, 3) := yd_op_158 (i := 0) (a := 0) (b := 10) yd_by_cX12_qTest_3 rfl rfl
theorem dX12_qTest_124 : decode cX12_qTest 124 = .ok (.aload_n 0, 1) := yd_op_42 (i := 3) yd_by_cX12_qTest_3 rfl rfl
theorem dX12_qTest_125 : decode cX12_qTest 125 = .ok (.invokevirtual 564, 3) := yd_op_182 (i := 4) (a := 2) (b := 52) yd_by_cX12_qTest_3 rfl rfl
theorem dX12_qTest_128 : decode cX12_qTest 128 = .ok (.goto (-18), 3) := yd_op_167 (i := 7) (a := 255) (b := 238) yd_by_cX12_qTest_3 rfl rfl
theorem dX12_qTest_131 : decode cX12_qTest 131 = .ok (.return_, 1) := yd_op_177 (i := 10) yd_by_cX12_qTest_3 rfl rfl
set_option maxRecDepth 100000 in
theorem yd_by_cX12_qGoesOnTest_0 : ydk cX12_qGoesOnTest 0 [42, 180, 0, 246, 154, 0, 72, 42, 182, 1, 2, 16, 93, 160, 0, 63, 42, 182, 2, 97, 153, 0, 56, 42, 89, 180, 0, 252, 4, 96, 181, 0, 252, 42, 16, 25, 182, 2, 79, 154, 0, 10] = true := by decide +kernel
theorem dX12_qGoesOnTest_0 : decode cX12_qGoesOnTest 0 = .ok (.aload_n 0, 1) := yd_op_42 (i := 0) yd_by_cX12_qGoesOnTest_0 rfl rfl
theorem dX12_qGoesOnTest_1 : decode cX12_qGoesOnTest 1 = .ok (.getfield 246, 3) := yd_op_180 (i := 1) (a := 0) (b := 246) yd_by_cX12_qGoesOnTest_0 rfl rfl
theorem dX12_qGoesOnTest_4 : decode cX12_qGoesOnTest 4 = .ok (.ifCond .ne 72, 3) := yd_op_154 (i := 4) (a := 0) (b := 72) yd_by_cX12_qGoesOnTest_0 rfl rfl
theorem dX12_qGoesOnTest_7 : decode cX12_qGoesOnTest 7 = .ok (.aload_n 0, 1) := yd_op_42 (i := 7) yd_by_cX12_qGoesOnTest_0 rfl rfl
theorem dX12_qGoesOnTest_8 : decode cX12_qGoesOnTest 8 = .ok (.invokevirtual 258, 3) := yd_op_182 (i := 8) (a := 1) (b := 2) yd_by_cX12_qGoesOnTest_0 rfl rfl
theorem dX12_qGoesOnTest_11 : decode cX12_qGoesOnTest 11 = .ok (.bipush 93, 2) := yd_op_16 (i := 11) (a := 93) yd_by_cX12_qGoesOnTest_0 rfl rfl
theorem dX12_qGoesOnTest_13 : decode cX12_qGoesOnTest 13 = .ok (.if_icmp .ne 63, 3) := yd_op_160 (i := 13) (a := 0) (b := 63) yd_by_cX12_qGoesOnTest_0 rfl rfl
theorem dX12_qGoesOnTest_16 : decode cX12_qGoesOnTest 16 = .ok (.aload_n 0, 1) := yd_op_42 (i := 16) yd_by_cX12_qGoesOnTest_0 rfl rfl
theorem dX12_qGoesOnTest_17 : decode cX12_qGoesOnTest 17 = .ok (.invokevirtual 609, 3) := yd_op_182 (i := 17) (a := 2) (b := 97) yd_by_cX12_qGoesOnTest_0 rfl rfl
theorem dX12_qGoesOnTest_20 : decode cX12_qGoesOnTest 20 = .ok (.ifCond .eq 56, 3) := yd_op_153 (i := 20) (a := 0) (b := 56) yd_by_cX12_qGoesOnTest_0 rfl rfl
theorem dX12_qGoesOnTest_23 : decode cX12_qGoesOnTest 23 = .ok (.aload_n 0, 1) := yd_op_42 (i := 23) yd_by_cX12_qGoesOnTest_0 rfl rfl
theorem dX12_qGoesOnTest_24 : decode cX12_qGoesOnTest 24 = .ok (.dup, 1) := yd_op_89 (i := 24) yd_by_cX12_qGoesOnTest_0 rfl rfl
theorem dX12_qGoesOnTest_25 : decode cX12_qGoesOnTest 25 = .ok (.getfield 252, 3) := yd_op_180 (i := 25) (a := 0) (b := 252) yd_by_cX12_qGoesOnTest_0 rfl rfl
theorem dX12_qGoesOnTest_28 : decode cX12_qGoesOnTest 28 = .ok (.iconst 1, 1) := yd_op_4 (i := 28) yd_by_cX12_qGoesOnTest_0 rfl rfl
theorem dX12_qGoesOnTest_29 : decode cX12_qGoesOnTest 29 = .ok (.iadd, 1) := yd_op_96 (i := 29) yd_by_cX12_qGoesOnTest_0 rfl rfl
theorem dX12_qGoesOnTest_30 : decode cX12_qGoesOnTest 30 = .ok (.putfield 252, 3) := yd_op_181 (i := 30) (a := 0) (b := 252) yd_by_cX12_qGoesOnTest_0 rfl rfl
theorem dX12_qGoesOnTest_33 : decode cX12_qGoesOnTest 33 = .ok (.aload_n 0, 1) := yd_op_42 (i := 33) yd_by_cX12_qGoesOnTest_0 rfl rfl
theorem dX12_qGoesOnTest_34 : decode cX12_qGoesOnTest 34 = .ok (.bipush 25, 2) := yd_op_16 (i := 34) (a := 25) yd_by_cX12_qGoesOnTest_0 rfl rfl
theorem dX12_qGoesOnTest_36 : decode cX12_qGoesOnTest 36 = .ok (.invokevirtual 591, 3) := yd_op_182 (i := 36) (a := 2) (b := 79) yd_by_cX12_qGoesOnTest_0 rfl rfl
theorem dX12_qGoesOnTest_39 : decode cX12_qGoesOnTest 39 = .ok (.ifCond .ne 10, 3) := yd_op_154 (i := 39) (a := 0) (b := 10) yd_by_cX12_qGoesOnTest_0 rfl rfl
set_option maxRecDepth 100000 in
theorem yd_by_cX12_qGoesOnTest_1 : ydk cX12_qGoesOnTest 42 [42, 182, 2, 52, 167, 255, 243, 42, 89, 180, 1, 77, 4, 100, 181, 1, 77, 42, 89, 180, 1, 80, 4, 100, 181, 1, 80, 42, 182, 2, 91, 167, 255, 183, 42, 42] = true := by decide +kernel
theorem dX12_qGoesOnTest_42 : decode cX12_qGoesOnTest 42 = .ok (.aload_n 0, 1) := yd_op_42 (i := 0) yd_by_cX12_qGoesOnTest_1 rfl rfl
theorem dX12_qGoesOnTest_43 : decode cX12_qGoesOnTest 43 = .ok (.invokevirtual 564, 3) := yd_op_182 (i := 1) (a := 2) (b := 52) yd_by_cX12_qGoesOnTest_1 rfl rfl
theorem dX12_qGoesOnTest_46 : decode cX12_qGoesOnTest 46 = .ok (.goto (-13), 3) := yd_op_167 (i := 4) (a := 255) (b := 243) yd_by_cX12_qGoesOnTest_1 rfl rfl
theorem dX12_qGoesOnTest_49 : decode cX12_qGoesOnTest 49 = .ok (.aload_n 0, 1) := yd_op_42 (i := 7) yd_by_cX12_qGoesOnTest_1 rfl rfl
theorem dX12_qGoesOnTest_50 : decode cX12_qGoesOnTest 50 = .ok (.dup, 1) := yd_op_89 (i := 8) yd_by_cX12_qGoesOnTest_1 rfl rfl
theorem dX12_qGoesOnTest_51 : decode cX12_qGoesOnTest 51 = .ok (.getfield 333, 3) := yd_op_180 (i := 9) (a := 1) (b := 77) yd_by_cX12_qGoesOnTest_1 rfl rfl
theorem dX12_qGoesOnTest_54 : decode cX12_qGoesOnTest 54 = .ok (.iconst 1, 1) := yd_op_4 (i := 12) yd_by_cX12_qGoesOnTest_1 rfl rfl
theorem dX12_qGoesOnTest_55 : decode cX12_qGoesOnTest 55 = .ok (.isub, 1) := yd_op_100 (i := 13) yd_by_cX12_qGoesOnTest_1 rfl rfl
theorem dX12_qGoesOnTest_56 : decode cX12_qGoesOnTest 56 = .ok (.putfield 333, 3) := yd_op_181 (i := 14) (a := 1) (b := 77) yd_by_cX12_qGoesOnTest_1 rfl rfl
theorem dX12_qGoesOnTest_59 : decode cX12_qGoesOnTest 59 = .ok (.aload_n 0, 1) := yd_op_42 (i := 17) yd_by_cX12_qGoesOnTest_1 rfl rfl
theorem dX12_qGoesOnTest_60 : decode cX12_qGoesOnTest 60 = .ok (.dup, 1) := yd_op_89 (i := 18) yd_by_cX12_qGoesOnTest_1 rfl rfl
theorem dX12_qGoesOnTest_61 : decode cX12_qGoesOnTest 61 = .ok (.getfield 336, 3) := yd_op_180 (i := 19) (a := 1) (b := 80) yd_by_cX12_qGoesOnTest_1 rfl rfl
theorem dX12_qGoesOnTest_64 : decode cX12_qGoesOnTest 64 = .ok (.iconst 1, 1) := yd_op_4 (i := 22) yd_by_cX12_qGoesOnTest_1 rfl rfl
theorem dX12_qGoesOnTest_65 : decode cX12_qGoesOnTest 65 = .ok (.isub, 1) := yd_op_100 (i := 23) yd_by_cX12_qGoesOnTest_1 rfl rfl
theorem dX12_qGoesOnTest_66 : decode cX12_qGoesOnTest 66 = .ok (.putfield 336, 3) := yd_op_181 (i := 24) (a := 1) (b := 80) yd_by_cX12_qGoesOnTest_1 rfl rfl
theorem dX12_qGoesOnTest_69 : decode cX12_qGoesOnTest 69 = .ok (.aload_n 0, 1) := yd_op_42 (i := 27) yd_by_cX12_qGoesOnTest_1 rfl rfl
theorem dX12_qGoesOnTest_70 : decode cX12_qGoesOnTest 70 = .ok (.invokevirtual 603, 3) := yd_op_182 (i := 28) (a := 2) (b := 91) yd_by_cX12_qGoesOnTest_1 rfl rfl
theorem dX12_qGoesOnTest_73 : decode cX12_qGoesOnTest 73 = .ok (.goto (-73), 3) := yd_op_167 (i := 31) (a := 255) (b := 183) yd_by_cX12_qGoesOnTest_1 rfl rfl
theorem dX12_qGoesOnTest_76 : decode cX12_qGoesOnTest 76 = .ok (.aload_n 0, 1) := yd_op_42 (i := 34) yd_by_cX12_qGoesOnTest_1 rfl rfl
theorem dX12_qGoesOnTest_77 : decode cX12_qGoesOnTest 77 = .ok (.aload_n 0, 1) := yd_op_42 (i := 35) yd_by_cX12_qGoesOnTest_1 rfl rfl
set_option maxRecDepth 100000 in
theorem yd_by_cX12_qGoesOnTest_2 : ydk cX12_qGoesOnTest 78 [180, 0, 183, 182, 1, 17, 153, 0, 42, 42, 16, 10, 182, 2, 79, 153, 0, 10, 42, 182, 2, 52, 167, 255, 243, 42, 180, 0, 234, 42, 180, 1, 77, 16, 10, 79, 42, 89, 180, 1, 77, 4] = true := by decide +kernel
theorem dX12_qGoesOnTest_78 : decode cX12_qGoesOnTest 78 = .ok (.getfield 183, 3) := yd_op_180 (i := 0) (a := 0) (b := 183) yd_by_cX12_qGoesOnTest_2 rfl rfl
theorem dX12_qGoesOnTest_81 : decode cX12_qGoesOnTest 81 = .ok (.invokevirtual 273, 3) := yd_op_182 (i := 3) (a := 1) (b := 17) yd_by_cX12_qGoesOnTest_2 rfl rfl
theorem dX12_qGoesOnTest_84 : decode cX12_qGoesOnTest 84 = .ok (.ifCond .eq 42, 3) := yd_op_153 (i := 6) (a := 0) (b := 42) yd_by_cX12_qGoesOnTest_2 rfl rfl
theorem dX12_qGoesOnTest_87 : decode cX12_qGoesOnTest 87 = .ok (.aload_n 0, 1) := yd_op_42 (i := 9) yd_by_cX12_qGoesOnTest_2 rfl rfl
theorem dX12_qGoesOnTest_88 : decode cX12_qGoesOnTest 88 = .ok (.bipush 10, 2) := yd_op_16 (i := 10) (a := 10) yd_by_cX12_qGoesOnTest_2 rfl rfl
theorem dX12_qGoesOnTest_90 : decode cX12_qGoesOnTest 90 = .ok (.invokevirtual 591, 3) := yd_op_182 (i := 12) (a := 2) (b := 79) yd_by_cX12_qGoesOnTest_2 rfl rfl
theorem dX12_qGoesOnTest_93 : decode cX12_qGoesOnTest 93 = .ok (.ifCond .eq 10, 3) := yd_op_153 (i := 15) (a := 0) (b := 10) yd_by_cX12_qGoesOnTest_2 rfl rfl
theorem dX12_qGoesOnTest_96 : decode cX12_qGoesOnTest 96 = .ok (.aload_n 0, 1) := yd_op_42 (i := 18) yd_by_cX12_qGoesOnTest_2 rfl rfl
theorem dX12_qGoesOnTest_97 : decode cX12_qGoesOnTest 97 = .ok (.invokevirtual 564, 3) := yd_op_182 (i := 19) (a := 2) (b := 52) yd_by_cX12_qGoesOnTest_2 rfl rfl
theorem dX12_qGoesOnTest_100 : decode cX12_qGoesOnTest 100 = .ok (.goto (-13), 3) := yd_op_167 (i := 22) (a := 255) (b := 243) yd_by_cX12_qGoesOnTest_2 rfl rfl
theorem dX12_qGoesOnTest_103 : decode cX12_qGoesOnTest 103 = .ok (.aload_n 0, 1) := yd_op_42 (i := 25) yd_by_cX12_qGoesOnTest_2 rfl rfl
theorem dX12_qGoesOnTest_104 : decode cX12_qGoesOnTest 104 = .ok (.getfield 234, 3) := yd_op_180 (i := 26) (a := 0) (b := 234) yd_by_cX12_qGoesOnTest_2 rfl rfl
theorem dX12_qGoesOnTest_107 : decode cX12_qGoesOnTest 107 = .ok (.aload_n 0, 1) := yd_op_42 (i := 29) yd_by_cX12_qGoesOnTest_2 rfl rfl
theorem dX12_qGoesOnTest_108 : decode cX12_qGoesOnTest 108 = .ok (.getfield 333, 3) := yd_op_180 (i := 30) (a := 1) (b := 77) yd_by_cX12_qGoesOnTest_2 rfl rfl
theorem dX12_qGoesOnTest_111 : decode cX12_qGoesOnTest 111 = .ok (.bipush 10, 2) := yd_op_16 (i := 33) (a := 10) yd_by_cX12_qGoesOnTest_2 rfl rfl
theorem dX12_qGoesOnTest_113 : decode cX12_qGoesOnTest 113 = .ok (.iastore, 1) := yd_op_79 (i := 35) yd_by_cX12_qGoesOnTest_2 rfl rfl
theorem dX12_qGoesOnTest_114 : decode cX12_qGoesOnTest 114 = .ok (.aload_n 0, 1) := yd_op_42 (i := 36) yd_by_cX12_qGoesOnTest_2 rfl rfl
theorem dX12_qGoesOnTest_115 : decode cX12_qGoesOnTest 115 = .ok (.dup, 1) := yd_op_89 (i := 37) yd_by_cX12_qGoesOnTest_2 rfl rfl
theorem dX12_qGoesOnTest_116 : decode cX12_qGoesOnTest 116 = .ok (.getfield 333, 3) := yd_op_180 (i := 38) (a := 1) (b := 77) yd_by_cX12_qGoesOnTest_2 rfl rfl
theorem dX12_qGoesOnTest_119 : decode cX12_qGoesOnTest 119 = .ok (.iconst 1, 1) := yd_op_4 (i := 41) yd_by_cX12_qGoesOnTest_2 rfl rfl
set_option maxRecDepth 100000 in
theorem yd_by_cX12_qGoesOnTest_3 : ydk cX12_qGoesOnTest 120 [96, 181, 1, 77, 4, 172, 42, 42, 180, 0, 186, 182, 1, 17, 153, 0, 51, 42, 16, 10, 182, 2, 79, 154, 0, 12, 42, 16, 11, 182, 2, 79, 153, 0, 10, 42, 182, 2, 52, 167, 255, 234] = true := by decide +kernel
theorem dX12_qGoesOnTest_120 : decode cX12_qGoesOnTest 120 = .ok (.iadd, 1) := yd_op_96 (i := 0) yd_by_cX12_qGoesOnTest_3 rfl rfl
theorem dX12_qGoesOnTest_121 : decode cX12_qGoesOnTest 121 = .ok (.putfield 333, 3) := yd_op_181 (i := 1) (a := 1) (b := 77) yd_by_cX12_qGoesOnTest_3 rfl rfl
theorem dX12_qGoesOnTest_124 : decode cX12_qGoesOnTest 124 = .ok (.iconst 1, 1) := yd_op_4 (i := 4) yd_by_cX12_qGoesOnTest_3 rfl rfl
theorem dX12_qGoesOnTest_125 : decode cX12_qGoesOnTest 125 = .ok (.ireturn, 1) := yd_op_172 (i := 5) yd_by_cX12_qGoesOnTest_3 rfl rfl
theorem dX12_qGoesOnTest_126 : decode cX12_qGoesOnTest 126 = .ok (.aload_n 0, 1) := yd_op_42 (i := 6) yd_by_cX12_qGoesOnTest_3 rfl rfl
theorem dX12_qGoesOnTest_127 : decode cX12_qGoesOnTest 127 = .ok (.aload_n 0, 1) := yd_op_42 (i := 7) yd_by_cX12_qGoesOnTest_3 rfl rfl
theorem dX12_qGoesOnTest_128 : decode cX12_qGoesOnTest 128 = .ok (.getfield 186, 3) := yd_op_180 (i := 8) (a := 0) (b := 186) yd_by_cX12_qGoesOnTest_3 rfl rfl
theorem dX12_qGoesOnTest_131 : decode cX12_qGoesOnTest 131 = .ok (.invokevirtual 273, 3) := yd_op_182 (i := 11) (a := 1) (b := 17) yd_by_cX12_qGoesOnTest_3 rfl rfl
theorem dX12_qGoesOnTest_134 : decode cX12_qGoesOnTest 134 = .ok (.ifCond .eq 51, 3) := yd_op_153 (i := 14) (a := 0) (b := 51) yd_by_cX12_qGoesOnTest_3 rfl rfl
theorem dX12_qGoesOnTest_137 : decode cX12_qGoesOnTest 137 = .ok (.aload_n 0, 1) := yd_op_42 (i := 17) yd_by_cX12_qGoesOnTest_3 rfl rfl
theorem dX12_qGoesOnTest_138 : decode cX12_qGoesOnTest 138 = .ok (.bipush 10, 2) := yd_op_16 (i := 18) (a := 10) yd_by_cX12_qGoesOnTest_3 rfl rfl
theorem dX12_qGoesOnTest_140 : decode cX12_qGoesOnTest 140 = .ok (.invokevirtual 591, 3) := yd_op_182 (i := 20) (a := 2) (b := 79) yd_by_cX12_qGoesOnTest_3 rfl rfl
theorem dX12_qGoesOnTest_143 : decode cX12_qGoesOnTest 143 = .ok (.ifCond .ne 12, 3) := yd_op_154 (i := 23) (a := 0) (b := 12) yd_by_cX12_qGoesOnTest_3 rfl rfl
theorem dX12_qGoesOnTest_146 : decode cX12_qGoesOnTest 146 = .ok (.aload_n 0, 1) := yd_op_42 (i := 26) yd_by_cX12_qGoesOnTest_3 rfl rfl
theorem dX12_qGoesOnTest_147 : decode cX12_qGoesOnTest 147 = .ok (.bipush 11, 2) := yd_op_16 (i := 27) (a := 11) yd_by_cX12_qGoesOnTest_3 rfl rfl
theorem dX12_qGoesOnTest_149 : decode cX12_qGoesOnTest 149 = .ok (.invokevirtual 591, 3) := yd_op_182 (i := 29) (a := 2) (b := 79) yd_by_cX12_qGoesOnTest_3 rfl rfl
theorem dX12_qGoesOnTest_152 : decode cX12_qGoesOnTest 152 = .ok (.ifCond .eq 10, 3) := yd_op_153 (i := 32) (a := 0) (b := 10) yd_by_cX12_qGoesOnTest_3 rfl rfl
theorem dX12_qGoesOnTest_155 : decode cX12_qGoesOnTest 155 = .ok (.aload_n 0, 1) := yd_op_42 (i := 35) yd_by_cX12_qGoesOnTest_3 rfl rfl
theorem dX12_qGoesOnTest_156 : decode cX12_qGoesOnTest 156 = .ok (.invokevirtual 564, 3) := yd_op_182 (i := 36) (a := 2) (b := 52) yd_by_cX12_qGoesOnTest_3 rfl rfl
theorem dX12_qGoesOnTest_159 : decode cX12_qGoesOnTest 159 = .ok (.goto (-22), 3) := yd_op_167 (i := 39) (a := 255) (b := 234) yd_by_cX12_qGoesOnTest_3 rfl rfl
set_option maxRecDepth 100000 in
theorem yd_by_cX12_qGoesOnTest_4 : ydk cX12_qGoesOnTest 162 [42, 180, 0, 234, 42, 180, 1, 77, 16, 11, 79, 42, 89, 180, 1, 77, 4, 96, 181, 1, 77, 4, 172, 42, 180, 0, 246, 154, 0, 19, 42, 182, 2, 97, 153, 0, 12] = true := by decide +kernel
theorem dX12_qGoesOnTest_162 : decode cX12_qGoesOnTest 162 = .ok (.aload_n 0, 1) := yd_op_42 (i := 0) yd_by_cX12_qGoesOnTest_4 rfl rfl
theorem dX12_qGoesOnTest_163 : decode cX12_qGoesOnTest 163 = .ok (.getfield 234, 3) := yd_op_180 (i := 1) (a := 0) (b := 234) yd_by_cX12_qGoesOnTest_4 rfl rfl
theorem dX12_qGoesOnTest_166 : decode cX12_qGoesOnTest 166 = .ok (.aload_n 0, 1) := yd_op_42 (i := 4) yd_by_cX12_qGoesOnTest_4 rfl rfl
theorem dX12_qGoesOnTest_167 : decode cX12_qGoesOnTest 167 = .ok (.getfield 333, 3) := yd_op_180 (i := 5) (a := 1) (b := 77) yd_by_cX12_qGoesOnTest_4 rfl rfl
theorem dX12_qGoesOnTest_170 : decode cX12_qGoesOnTest 170 = .ok (.bipush 11, 2) := yd_op_16 (i := 8) (a := 11) yd_by_cX12_qGoesOnTest_4 rfl rfl
theorem dX12_qGoesOnTest_172 : decode cX12_qGoesOnTest 172 = .ok (.iastore, 1) := yd_op_79 (i := 10) yd_by_cX12_qGoesOnTest_4 rfl rfl
theorem dX12_qGoesOnTest_173 : decode cX12_qGoesOnTest 173 = .ok (.aload_n 0, 1) := yd_op_42 (i := 11) yd_by_cX12_qGoesOnTest_4 rfl rfl
theorem dX12_qGoesOnTest_174 : decode cX12_qGoesOnTest 174 = .ok (.dup, 1) := yd_op_89 (i := 12) yd_by_cX12_qGoesOnTest_4 rfl rfl
theorem dX12_qGoesOnTest_175 : decode cX12_qGoesOnTest 175 = .ok (.getfield 333, 3) := yd_op_180 (i := 13) (a := 1) (b := 77) yd_by_cX12_qGoesOnTest_4 rfl rfl
theorem dX12_qGoesOnTest_178 : decode cX12_qGoesOnTest 178 = .ok (.iconst 1, 1) := yd_op_4 (i := 16) yd_by_cX12_qGoesOnTest_4 rfl rfl
theorem dX12_qGoesOnTest_179 : decode cX12_qGoesOnTest 179 = .ok (.iadd, 1) := yd_op_96 (i := 17) yd_by_cX12_qGoesOnTest_4 rfl rfl
theorem dX12_qGoesOnTest_180 : decode cX12_qGoesOnTest 180 = .ok (.putfield 333, 3) := yd_op_181 (i := 18) (a := 1) (b := 77) yd_by_cX12_qGoesOnTest_4 rfl rfl
theorem dX12_qGoesOnTest_183 : decode cX12_qGoesOnTest 183 = .ok (.iconst 1, 1) := yd_op_4 (i := 21) yd_by_cX12_qGoesOnTest_4 rfl rfl
theorem dX12_qGoesOnTest_184 : decode cX12_qGoesOnTest 184 = .ok (.ireturn, 1) := yd_op_172 (i := 22) yd_by_cX12_qGoesOnTest_4 rfl rfl
theorem dX12_qGoesOnTest_185 : decode cX12_qGoesOnTest 185 = .ok (.aload_n 0, 1) := yd_op_42 (i := 23) yd_by_cX12_qGoesOnTest_4 rfl rfl
theorem dX12_qGoesOnTest_186 : decode cX12_qGoesOnTest 186 = .ok (.getfield 246, 3) := yd_op_180 (i := 24) (a := 0) (b := 246) yd_by_cX12_qGoesOnTest_4 rfl rfl
theorem dX12_qGoesOnTest_189 : decode cX12_qGoesOnTest 189 = .ok (.ifCond .ne 19, 3) := yd_op_154 (i := 27) (a := 0) (b := 19) yd_by_cX12_qGoesOnTest_4 rfl rfl
theorem dX12_qGoesOnTest_192 : decode cX12_qGoesOnTest 192 = .ok (.aload_n 0, 1) := yd_op_42 (i := 30) yd_by_cX12_qGoesOnTest_4 rfl rfl
theorem dX12_qGoesOnTest_193 : decode cX12_qGoesOnTest 193 = .ok (.invokevirtual 609, 3) := yd_op_182 (i := 31) (a := 2) (b := 97) yd_by_cX12_qGoesOnTest_4 rfl rfl
theorem dX12_qGoesOnTest_196 : decode cX12_qGoesOnTest 196 = .ok (.ifCond .eq 12, 3) := yd_op_153 (i := 34) (a := 0) (b := 12) yd_by_cX12_qGoesOnTest_4 rfl rfl
set_option maxRecDepth 100000 in
theorem yd_by_cX12_qGoesOnTest_5 : ydk cX12_qGoesOnTest 199 [42, 4, 42, 180, 0, 252, 182, 1, 20, 3, 172] = true := by decide +kernel
theorem dX12_qGoesOnTest_199 : decode cX12_qGoesOnTest 199 = .ok (.aload_n 0, 1) := yd_op_42 (i := 0) yd_by_cX12_qGoesOnTest_5 rfl rfl
theorem dX12_qGoesOnTest_200 : decode cX12_qGoesOnTest 200 = .ok (.iconst 1, 1) := yd_op_4 (i := 1) yd_by_cX12_qGoesOnTest_5 rfl rfl
theorem dX12_qGoesOnTest_201 : decode cX12_qGoesOnTest 201 = .ok (.aload_n 0, 1) := yd_op_42 (i := 2) yd_by_cX12_qGoesOnTest_5 rfl rfl
theorem dX12_qGoesOnTest_202 : decode cX12_qGoesOnTest 202 = .ok (.getfield 252, 3) := yd_op_180 (i := 3) (a := 0) (b := 252) yd_by_cX12_qGoesOnTest_5 rfl rfl
theorem dX12_qGoesOnTest_205 : decode cX12_qGoesOnTest 205 = .ok (.invokevirtual 276, 3) := yd_op_182 (i := 6) (a := 1) (b := 20) yd_by_cX12_qGoesOnTest_5 rfl rfl
theorem dX12_qGoesOnTest_208 : decode cX12_qGoesOnTest 208 = .ok (.iconst 0, 1) := yd_op_3 (i := 9) yd_by_cX12_qGoesOnTest_5 rfl rfl
theorem dX12_qGoesOnTest_209 : decode cX12_qGoesOnTest 209 = .ok (.ireturn, 1) := yd_op_172 (i := 10) yd_by_cX12_qGoesOnTest_5 rfl rfl
set_option maxRecDepth 100000 in
theorem yd_by_cX12_qClip_0 : ydk cX12_qClip 0 [30, 20, 2, 100, 148, 158, 0, 9, 20, 2, 100, 167, 0, 18, 30, 20, 2, 102, 148, 156, 0, 9, 20, 2, 102, 167, 0, 4, 30, 173] = true := by decide +kernel
theorem dX12_qClip_0 : decode cX12_qClip 0 = .ok (.lload_n 0, 1) := yd_op_30 (i := 0) yd_by_cX12_qClip_0 rfl rfl
theorem dX12_qClip_1 : decode cX12_qClip 1 = .ok (.ldc2_w 612, 3) := yd_op_20 (i := 1) (a := 2) (b := 100) yd_by_cX12_qClip_0 rfl rfl
theorem dX12_qClip_4 : decode cX12_qClip 4 = .ok (.lcmp, 1) := yd_op_148 (i := 4) yd_by_cX12_qClip_0 rfl rfl
theorem dX12_qClip_5 : decode cX12_qClip 5 = .ok (.ifCond .le 9, 3) := yd_op_158 (i := 5) (a := 0) (b := 9) yd_by_cX12_qClip_0 rfl rfl
theorem dX12_qClip_8 : decode cX12_qClip 8 = .ok (.ldc2_w 612, 3) := yd_op_20 (i := 8) (a := 2) (b := 100) yd_by_cX12_qClip_0 rfl rfl
theorem dX12_qClip_11 : decode cX12_qClip 11 = .ok (.goto 18, 3) := yd_op_167 (i := 11) (a := 0) (b := 18) yd_by_cX12_qClip_0 rfl rfl
theorem dX12_qClip_14 : decode cX12_qClip 14 = .ok (.lload_n 0, 1) := yd_op_30 (i := 14) yd_by_cX12_qClip_0 rfl rfl
theorem dX12_qClip_15 : decode cX12_qClip 15 = .ok (.ldc2_w 614, 3) := yd_op_20 (i := 15) (a := 2) (b := 102) yd_by_cX12_qClip_0 rfl rfl
theorem dX12_qClip_18 : decode cX12_qClip 18 = .ok (.lcmp, 1) := yd_op_148 (i := 18) yd_by_cX12_qClip_0 rfl rfl
theorem dX12_qClip_19 : decode cX12_qClip 19 = .ok (.ifCond .ge 9, 3) := yd_op_156 (i := 19) (a := 0) (b := 9) yd_by_cX12_qClip_0 rfl rfl
theorem dX12_qClip_22 : decode cX12_qClip 22 = .ok (.ldc2_w 614, 3) := yd_op_20 (i := 22) (a := 2) (b := 102) yd_by_cX12_qClip_0 rfl rfl
theorem dX12_qClip_25 : decode cX12_qClip 25 = .ok (.goto 4, 3) := yd_op_167 (i := 25) (a := 0) (b := 4) yd_by_cX12_qClip_0 rfl rfl
theorem dX12_qClip_28 : decode cX12_qClip 28 = .ok (.lload_n 0, 1) := yd_op_30 (i := 28) yd_by_cX12_qClip_0 rfl rfl
theorem dX12_qClip_29 : decode cX12_qClip 29 = .ok (.lreturn, 1) := yd_op_173 (i := 29) yd_by_cX12_qClip_0 rfl rfl
set_option maxRecDepth 100000 in
theorem yd_by_cX12_qFloor_0 : ydk cX12_qFloor 0 [32, 9, 148, 154, 0, 5, 9, 173, 30, 32, 109, 55, 4, 30, 32, 113, 9, 148, 153, 0, 35, 30, 9, 148, 156, 0, 7] = true := by decide +kernel
theorem dX12_qFloor_0 : decode cX12_qFloor 0 = .ok (.lload_n 2, 1) := yd_op_32 (i := 0) yd_by_cX12_qFloor_0 rfl rfl
theorem dX12_qFloor_1 : decode cX12_qFloor 1 = .ok (.lconst 0, 1) := yd_op_9 (i := 1) yd_by_cX12_qFloor_0 rfl rfl
theorem dX12_qFloor_2 : decode cX12_qFloor 2 = .ok (.lcmp, 1) := yd_op_148 (i := 2) yd_by_cX12_qFloor_0 rfl rfl
theorem dX12_qFloor_3 : decode cX12_qFloor 3 = .ok (.ifCond .ne 5, 3) := yd_op_154 (i := 3) (a := 0) (b := 5) yd_by_cX12_qFloor_0 rfl rfl
theorem dX12_qFloor_6 : decode cX12_qFloor 6 = .ok (.lconst 0, 1) := yd_op_9 (i := 6) yd_by_cX12_qFloor_0 rfl rfl
theorem dX12_qFloor_7 : decode cX12_qFloor 7 = .ok (.lreturn, 1) := yd_op_173 (i := 7) yd_by_cX12_qFloor_0 rfl rfl
theorem dX12_qFloor_8 : decode cX12_qFloor 8 = .ok (.lload_n 0, 1) := yd_op_30 (i := 8) yd_by_cX12_qFloor_0 rfl rfl
theorem dX12_qFloor_9 : decode cX12_qFloor 9 = .ok (.lload_n 2, 1) := yd_op_32 (i := 9) yd_by_cX12_qFloor_0 rfl rfl
theorem dX12_qFloor_10 : decode cX12_qFloor 10 = .ok (.ldiv, 1) := yd_op_109 (i := 10) yd_by_cX12_qFloor_0 rfl rfl
theorem dX12_qFloor_11 : decode cX12_qFloor 11 = .ok (.lstore 4, 2) := yd_op_55 (i := 11) (a := 4) yd_by_cX12_qFloor_0 rfl rfl
theorem dX12_qFloor_13 : decode cX12_qFloor 13 = .ok (.lload_n 0, 1) := yd_op_30 (i := 13) yd_by_cX12_qFloor_0 rfl rfl
theorem dX12_qFloor_14 : decode cX12_qFloor 14 = .ok (.lload_n 2, 1) := yd_op_32 (i := 14) yd_by_cX12_qFloor_0 rfl rfl
theorem dX12_qFloor_15 : decode cX12_qFloor 15 = .ok (.lrem, 1) := yd_op_113 (i := 15) yd_by_cX12_qFloor_0 rfl rfl
theorem dX12_qFloor_16 : decode cX12_qFloor 16 = .ok (.lconst 0, 1) := yd_op_9 (i := 16) yd_by_cX12_qFloor_0 rfl rfl
theorem dX12_qFloor_17 : decode cX12_qFloor 17 = .ok (.lcmp, 1) := yd_op_148 (i := 17) yd_by_cX12_qFloor_0 rfl rfl
theorem dX12_qFloor_18 : decode cX12_qFloor 18 = .ok (.ifCond .eq 35, 3) := yd_op_153 (i := 18) (a := 0) (b := 35) yd_by_cX12_qFloor_0 rfl rfl
theorem dX12_qFloor_21 : decode cX12_qFloor 21 = .ok (.lload_n 0, 1) := yd_op_30 (i := 21) yd_by_cX12_qFloor_0 rfl rfl
theorem dX12_qFloor_22 : decode cX12_qFloor 22 = .ok (.lconst 0, 1) := yd_op_9 (i := 22) yd_by_cX12_qFloor_0 rfl rfl
theorem dX12_qFloor_23 : decode cX12_qFloor 23 = .ok (.lcmp, 1) := yd_op_148 (i := 23) yd_by_cX12_qFloor_0 rfl rfl
theorem dX12_qFloor_24 : decode cX12_qFloor 24 = .ok (.ifCond .ge 7, 3) := yd_op_156 (i := 24) (a := 0) (b := 7) yd_by_cX12_qFloor_0 rfl rfl
set_option maxRecDepth 100000 in
theorem yd_by_cX12_qFloor_1 : ydk cX12_qFloor 27 [4, 167, 0, 4, 3, 32, 9, 148, 156, 0, 7, 4, 167, 0, 4, 3, 159, 0, 10, 22, 4, 10, 101, 167, 0, 5, 22, 4, 173] = true := by decide +kernel
theorem dX12_qFloor_27 : decode cX12_qFloor 27 = .ok (.iconst 1, 1) := yd_op_4 (i := 0) yd_by_cX12_qFloor_1 rfl rfl
theorem dX12_qFloor_28 : decode cX12_qFloor 28 = .ok (.goto 4, 3) := yd_op_167 (i := 1) (a := 0) (b := 4) yd_by_cX12_qFloor_1 rfl rfl
theorem dX12_qFloor_31 : decode cX12_qFloor 31 = .ok (.iconst 0, 1) := yd_op_3 (i := 4) yd_by_cX12_qFloor_1 rfl rfl
theorem dX12_qFloor_32 : decode cX12_qFloor 32 = .ok (.lload_n 2, 1) := yd_op_32 (i := 5) yd_by_cX12_qFloor_1 rfl rfl
theorem dX12_qFloor_33 : decode cX12_qFloor 33 = .ok (.lconst 0, 1) := yd_op_9 (i := 6) yd_by_cX12_qFloor_1 rfl rfl
theorem dX12_qFloor_34 : decode cX12_qFloor 34 = .ok (.lcmp, 1) := yd_op_148 (i := 7) yd_by_cX12_qFloor_1 rfl rfl
theorem dX12_qFloor_35 : decode cX12_qFloor 35 = .ok (.ifCond .ge 7, 3) := yd_op_156 (i := 8) (a := 0) (b := 7) yd_by_cX12_qFloor_1 rfl rfl
theorem dX12_qFloor_38 : decode cX12_qFloor 38 = .ok (.iconst 1, 1) := yd_op_4 (i := 11) yd_by_cX12_qFloor_1 rfl rfl
theorem dX12_qFloor_39 : decode cX12_qFloor 39 = .ok (.goto 4, 3) := yd_op_167 (i := 12) (a := 0) (b := 4) yd_by_cX12_qFloor_1 rfl rfl
theorem dX12_qFloor_42 : decode cX12_qFloor 42 = .ok (.iconst 0, 1) := yd_op_3 (i := 15) yd_by_cX12_qFloor_1 rfl rfl
theorem dX12_qFloor_43 : decode cX12_qFloor 43 = .ok (.if_icmp .eq 10, 3) := yd_op_159 (i := 16) (a := 0) (b := 10) yd_by_cX12_qFloor_1 rfl rfl
theorem dX12_qFloor_46 : decode cX12_qFloor 46 = .ok (.lload 4, 2) := yd_op_22 (i := 19) (a := 4) yd_by_cX12_qFloor_1 rfl rfl
theorem dX12_qFloor_48 : decode cX12_qFloor 48 = .ok (.lconst 1, 1) := yd_op_10 (i := 21) yd_by_cX12_qFloor_1 rfl rfl
theorem dX12_qFloor_49 : decode cX12_qFloor 49 = .ok (.lsub, 1) := yd_op_101 (i := 22) yd_by_cX12_qFloor_1 rfl rfl
theorem dX12_qFloor_50 : decode cX12_qFloor 50 = .ok (.goto 5, 3) := yd_op_167 (i := 23) (a := 0) (b := 5) yd_by_cX12_qFloor_1 rfl rfl
theorem dX12_qFloor_53 : decode cX12_qFloor 53 = .ok (.lload 4, 2) := yd_op_22 (i := 26) (a := 4) yd_by_cX12_qFloor_1 rfl rfl
theorem dX12_qFloor_55 : decode cX12_qFloor 55 = .ok (.lreturn, 1) := yd_op_173 (i := 28) yd_by_cX12_qFloor_1 rfl rfl
set_option maxRecDepth 100000 in
theorem yd_by_cX12_qPuts_0 : ydk cX12_qPuts 0 [42, 180, 0, 237, 42, 180, 1, 142, 31, 80, 42, 89, 180, 1, 142, 4, 96, 181, 1, 142, 177] = true := by decide +kernel
theorem dX12_qPuts_0 : decode cX12_qPuts 0 = .ok (.aload_n 0, 1) := yd_op_42 (i := 0) yd_by_cX12_qPuts_0 rfl rfl
theorem dX12_qPuts_1 : decode cX12_qPuts 1 = .ok (.getfield 237, 3) := yd_op_180 (i := 1) (a := 0) (b := 237) yd_by_cX12_qPuts_0 rfl rfl
theorem dX12_qPuts_4 : decode cX12_qPuts 4 = .ok (.aload_n 0, 1) := yd_op_42 (i := 4) yd_by_cX12_qPuts_0 rfl rfl
theorem dX12_qPuts_5 : decode cX12_qPuts 5 = .ok (.getfield 398, 3) := yd_op_180 (i := 5) (a := 1) (b := 142) yd_by_cX12_qPuts_0 rfl rfl
theorem dX12_qPuts_8 : decode cX12_qPuts 8 = .ok (.lload_n 1, 1) := yd_op_31 (i := 8) yd_by_cX12_qPuts_0 rfl rfl
theorem dX12_qPuts_9 : decode cX12_qPuts 9 = .ok (.lastore, 1) := yd_op_80 (i := 9) yd_by_cX12_qPuts_0 rfl rfl
theorem dX12_qPuts_10 : decode cX12_qPuts 10 = .ok (.aload_n 0, 1) := yd_op_42 (i := 10) yd_by_cX12_qPuts_0 rfl rfl
theorem dX12_qPuts_11 : decode cX12_qPuts 11 = .ok (.dup, 1) := yd_op_89 (i := 11) yd_by_cX12_qPuts_0 rfl rfl
theorem dX12_qPuts_12 : decode cX12_qPuts 12 = .ok (.getfield 398, 3) := yd_op_180 (i := 12) (a := 1) (b := 142) yd_by_cX12_qPuts_0 rfl rfl
theorem dX12_qPuts_15 : decode cX12_qPuts 15 = .ok (.iconst 1, 1) := yd_op_4 (i := 15) yd_by_cX12_qPuts_0 rfl rfl
theorem dX12_qPuts_16 : decode cX12_qPuts 16 = .ok (.iadd, 1) := yd_op_96 (i := 16) yd_by_cX12_qPuts_0 rfl rfl
theorem dX12_qPuts_17 : decode cX12_qPuts 17 = .ok (.putfield 398, 3) := yd_op_181 (i := 17) (a := 1) (b := 142) yd_by_cX12_qPuts_0 rfl rfl
theorem dX12_qPuts_20 : decode cX12_qPuts 20 = .ok (.return_, 1) := yd_op_177 (i := 20) yd_by_cX12_qPuts_0 rfl rfl
theorem dX12_qJoins_36 : decode cX12_qJoins 36 = .ok (.tableswitch 219 1 10 #[56, 70, 84, 98, 111, 131, 151, 170, 189, 208], 56) := by decide +kernel
set_option maxRecDepth 100000 in
theorem yd_by_cX12_qJoins_0 : ydk cX12_qJoins 0 [42, 180, 0, 237, 42, 180, 1, 142, 4, 100, 47, 65, 42, 180, 0, 237, 42, 180, 1, 142, 5, 100, 47, 55, 4, 42, 89, 180, 1, 142, 5] = true := by decide +kernel
theorem dX12_qJoins_0 : decode cX12_qJoins 0 = .ok (.aload_n 0, 1) := yd_op_42 (i := 0) yd_by_cX12_qJoins_0 rfl rfl
theorem dX12_qJoins_1 : decode cX12_qJoins 1 = .ok (.getfield 237, 3) := yd_op_180 (i := 1) (a := 0) (b := 237) yd_by_cX12_qJoins_0 rfl rfl
theorem dX12_qJoins_4 : decode cX12_qJoins 4 = .ok (.aload_n 0, 1) := yd_op_42 (i := 4) yd_by_cX12_qJoins_0 rfl rfl
theorem dX12_qJoins_5 : decode cX12_qJoins 5 = .ok (.getfield 398, 3) := yd_op_180 (i := 5) (a := 1) (b := 142) yd_by_cX12_qJoins_0 rfl rfl
theorem dX12_qJoins_8 : decode cX12_qJoins 8 = .ok (.iconst 1, 1) := yd_op_4 (i := 8) yd_by_cX12_qJoins_0 rfl rfl
theorem dX12_qJoins_9 : decode cX12_qJoins 9 = .ok (.isub, 1) := yd_op_100 (i := 9) yd_by_cX12_qJoins_0 rfl rfl
theorem dX12_qJoins_10 : decode cX12_qJoins 10 = .ok (.laload, 1) := yd_op_47 (i := 10) yd_by_cX12_qJoins_0 rfl rfl
theorem dX12_qJoins_11 : decode cX12_qJoins 11 = .ok (.lstore_n 2, 1) := yd_op_65 (i := 11) yd_by_cX12_qJoins_0 rfl rfl
theorem dX12_qJoins_12 : decode cX12_qJoins 12 = .ok (.aload_n 0, 1) := yd_op_42 (i := 12) yd_by_cX12_qJoins_0 rfl rfl
theorem dX12_qJoins_13 : decode cX12_qJoins 13 = .ok (.getfield 237, 3) := yd_op_180 (i := 13) (a := 0) (b := 237) yd_by_cX12_qJoins_0 rfl rfl
theorem dX12_qJoins_16 : decode cX12_qJoins 16 = .ok (.aload_n 0, 1) := yd_op_42 (i := 16) yd_by_cX12_qJoins_0 rfl rfl
theorem dX12_qJoins_17 : decode cX12_qJoins 17 = .ok (.getfield 398, 3) := yd_op_180 (i := 17) (a := 1) (b := 142) yd_by_cX12_qJoins_0 rfl rfl
theorem dX12_qJoins_20 : decode cX12_qJoins 20 = .ok (.iconst 2, 1) := yd_op_5 (i := 20) yd_by_cX12_qJoins_0 rfl rfl
theorem dX12_qJoins_21 : decode cX12_qJoins 21 = .ok (.isub, 1) := yd_op_100 (i := 21) yd_by_cX12_qJoins_0 rfl rfl
theorem dX12_qJoins_22 : decode cX12_qJoins 22 = .ok (.laload, 1) := yd_op_47 (i := 22) yd_by_cX12_qJoins_0 rfl rfl
theorem dX12_qJoins_23 : decode cX12_qJoins 23 = .ok (.lstore 4, 2) := yd_op_55 (i := 23) (a := 4) yd_by_cX12_qJoins_0 rfl rfl
theorem dX12_qJoins_25 : decode cX12_qJoins 25 = .ok (.aload_n 0, 1) := yd_op_42 (i := 25) yd_by_cX12_qJoins_0 rfl rfl
theorem dX12_qJoins_26 : decode cX12_qJoins 26 = .ok (.dup, 1) := yd_op_89 (i := 26) yd_by_cX12_qJoins_0 rfl rfl
theorem dX12_qJoins_27 : decode cX12_qJoins 27 = .ok (.getfield 398, 3) := yd_op_180 (i := 27) (a := 1) (b := 142) yd_by_cX12_qJoins_0 rfl rfl
theorem dX12_qJoins_30 : decode cX12_qJoins 30 = .ok (.iconst 2, 1) := yd_op_5 (i := 30) yd_by_cX12_qJoins_0 rfl rfl
set_option maxRecDepth 100000 in
theorem yd_by_cX12_qJoins_1 : ydk cX12_qJoins 31 [100, 181, 1, 142, 27, 170, 0, 0, 0, 0, 0, 0, 219, 0, 0, 0, 1, 0, 0, 0, 10, 0, 0, 0, 56, 0, 0, 0, 70, 0, 0, 0, 84, 0, 0, 0, 98, 0, 0, 0, 111, 0, 0, 0, 131, 0, 0, 0, 151, 0, 0, 0, 170, 0, 0, 0, 189, 0, 0, 0, 208, 42, 22, 4, 32, 97, 184, 2, 104, 182, 1, 145, 167, 0, 170, 42, 22, 4, 32, 101, 184, 2, 104, 182, 1, 145, 167, 0, 156, 42, 22, 4, 32] = true := by decide +kernel
theorem dX12_qJoins_31 : decode cX12_qJoins 31 = .ok (.isub, 1) := yd_op_100 (i := 0) yd_by_cX12_qJoins_1 rfl rfl
theorem dX12_qJoins_32 : decode cX12_qJoins 32 = .ok (.putfield 398, 3) := yd_op_181 (i := 1) (a := 1) (b := 142) yd_by_cX12_qJoins_1 rfl rfl
theorem dX12_qJoins_35 : decode cX12_qJoins 35 = .ok (.iload_n 1, 1) := yd_op_27 (i := 4) yd_by_cX12_qJoins_1 rfl rfl
theorem dX12_qJoins_92 : decode cX12_qJoins 92 = .ok (.aload_n 0, 1) := yd_op_42 (i := 61) yd_by_cX12_qJoins_1 rfl rfl
theorem dX12_qJoins_93 : decode cX12_qJoins 93 = .ok (.lload 4, 2) := yd_op_22 (i := 62) (a := 4) yd_by_cX12_qJoins_1 rfl rfl
theorem dX12_qJoins_95 : decode cX12_qJoins 95 = .ok (.lload_n 2, 1) := yd_op_32 (i := 64) yd_by_cX12_qJoins_1 rfl rfl
theorem dX12_qJoins_96 : decode cX12_qJoins 96 = .ok (.ladd, 1) := yd_op_97 (i := 65) yd_by_cX12_qJoins_1 rfl rfl
theorem dX12_qJoins_97 : decode cX12_qJoins 97 = .ok (.invokestatic 616, 3) := yd_op_184 (i := 66) (a := 2) (b := 104) yd_by_cX12_qJoins_1 rfl rfl
theorem dX12_qJoins_100 : decode cX12_qJoins 100 = .ok (.invokevirtual 401, 3) := yd_op_182 (i := 69) (a := 1) (b := 145) yd_by_cX12_qJoins_1 rfl rfl
theorem dX12_qJoins_103 : decode cX12_qJoins 103 = .ok (.goto 170, 3) := yd_op_167 (i := 72) (a := 0) (b := 170) yd_by_cX12_qJoins_1 rfl rfl
theorem dX12_qJoins_106 : decode cX12_qJoins 106 = .ok (.aload_n 0, 1) := yd_op_42 (i := 75) yd_by_cX12_qJoins_1 rfl rfl
theorem dX12_qJoins_107 : decode cX12_qJoins 107 = .ok (.lload 4, 2) := yd_op_22 (i := 76) (a := 4) yd_by_cX12_qJoins_1 rfl rfl
theorem dX12_qJoins_109 : decode cX12_qJoins 109 = .ok (.lload_n 2, 1) := yd_op_32 (i := 78) yd_by_cX12_qJoins_1 rfl rfl
theorem dX12_qJoins_110 : decode cX12_qJoins 110 = .ok (.lsub, 1) := yd_op_101 (i := 79) yd_by_cX12_qJoins_1 rfl rfl
theorem dX12_qJoins_111 : decode cX12_qJoins 111 = .ok (.invokestatic 616, 3) := yd_op_184 (i := 80) (a := 2) (b := 104) yd_by_cX12_qJoins_1 rfl rfl
theorem dX12_qJoins_114 : decode cX12_qJoins 114 = .ok (.invokevirtual 401, 3) := yd_op_182 (i := 83) (a := 1) (b := 145) yd_by_cX12_qJoins_1 rfl rfl
theorem dX12_qJoins_117 : decode cX12_qJoins 117 = .ok (.goto 156, 3) := yd_op_167 (i := 86) (a := 0) (b := 156) yd_by_cX12_qJoins_1 rfl rfl
theorem dX12_qJoins_120 : decode cX12_qJoins 120 = .ok (.aload_n 0, 1) := yd_op_42 (i := 89) yd_by_cX12_qJoins_1 rfl rfl
theorem dX12_qJoins_121 : decode cX12_qJoins 121 = .ok (.lload 4, 2) := yd_op_22 (i := 90) (a := 4) yd_by_cX12_qJoins_1 rfl rfl
theorem dX12_qJoins_123 : decode cX12_qJoins 123 = .ok (.lload_n 2, 1) := yd_op_32 (i := 92) yd_by_cX12_qJoins_1 rfl rfl
set_option maxRecDepth 100000 in
theorem yd_by_cX12_qJoins_2 : ydk cX12_qJoins 124 [105, 184, 2, 104, 182, 1, 145, 167, 0, 142, 42, 22, 4, 32, 184, 2, 108, 182, 1, 145, 167, 0, 129, 42, 22, 4, 32, 148, 156, 0, 8, 22, 4, 167, 0, 4, 32, 182, 1, 145, 167, 0, 109] = true := by decide +kernel
theorem dX12_qJoins_124 : decode cX12_qJoins 124 = .ok (.lmul, 1) := yd_op_105 (i := 0) yd_by_cX12_qJoins_2 rfl rfl
theorem dX12_qJoins_125 : decode cX12_qJoins 125 = .ok (.invokestatic 616, 3) := yd_op_184 (i := 1) (a := 2) (b := 104) yd_by_cX12_qJoins_2 rfl rfl
theorem dX12_qJoins_128 : decode cX12_qJoins 128 = .ok (.invokevirtual 401, 3) := yd_op_182 (i := 4) (a := 1) (b := 145) yd_by_cX12_qJoins_2 rfl rfl
theorem dX12_qJoins_131 : decode cX12_qJoins 131 = .ok (.goto 142, 3) := yd_op_167 (i := 7) (a := 0) (b := 142) yd_by_cX12_qJoins_2 rfl rfl
theorem dX12_qJoins_134 : decode cX12_qJoins 134 = .ok (.aload_n 0, 1) := yd_op_42 (i := 10) yd_by_cX12_qJoins_2 rfl rfl
theorem dX12_qJoins_135 : decode cX12_qJoins 135 = .ok (.lload 4, 2) := yd_op_22 (i := 11) (a := 4) yd_by_cX12_qJoins_2 rfl rfl
theorem dX12_qJoins_137 : decode cX12_qJoins 137 = .ok (.lload_n 2, 1) := yd_op_32 (i := 13) yd_by_cX12_qJoins_2 rfl rfl
theorem dX12_qJoins_138 : decode cX12_qJoins 138 = .ok (.invokestatic 620, 3) := yd_op_184 (i := 14) (a := 2) (b := 108) yd_by_cX12_qJoins_2 rfl rfl
theorem dX12_qJoins_141 : decode cX12_qJoins 141 = .ok (.invokevirtual 401, 3) := yd_op_182 (i := 17) (a := 1) (b := 145) yd_by_cX12_qJoins_2 rfl rfl
theorem dX12_qJoins_144 : decode cX12_qJoins 144 = .ok (.goto 129, 3) := yd_op_167 (i := 20) (a := 0) (b := 129) yd_by_cX12_qJoins_2 rfl rfl
theorem dX12_qJoins_147 : decode cX12_qJoins 147 = .ok (.aload_n 0, 1) := yd_op_42 (i := 23) yd_by_cX12_qJoins_2 rfl rfl
theorem dX12_qJoins_148 : decode cX12_qJoins 148 = .ok (.lload 4, 2) := yd_op_22 (i := 24) (a := 4) yd_by_cX12_qJoins_2 rfl rfl
theorem dX12_qJoins_150 : decode cX12_qJoins 150 = .ok (.lload_n 2, 1) := yd_op_32 (i := 26) yd_by_cX12_qJoins_2 rfl rfl
theorem dX12_qJoins_151 : decode cX12_qJoins 151 = .ok (.lcmp, 1) := yd_op_148 (i := 27) yd_by_cX12_qJoins_2 rfl rfl
theorem dX12_qJoins_152 : decode cX12_qJoins 152 = .ok (.ifCond .ge 8, 3) := yd_op_156 (i := 28) (a := 0) (b := 8) yd_by_cX12_qJoins_2 rfl rfl
theorem dX12_qJoins_155 : decode cX12_qJoins 155 = .ok (.lload 4, 2) := yd_op_22 (i := 31) (a := 4) yd_by_cX12_qJoins_2 rfl rfl
theorem dX12_qJoins_157 : decode cX12_qJoins 157 = .ok (.goto 4, 3) := yd_op_167 (i := 33) (a := 0) (b := 4) yd_by_cX12_qJoins_2 rfl rfl
theorem dX12_qJoins_160 : decode cX12_qJoins 160 = .ok (.lload_n 2, 1) := yd_op_32 (i := 36) yd_by_cX12_qJoins_2 rfl rfl
theorem dX12_qJoins_161 : decode cX12_qJoins 161 = .ok (.invokevirtual 401, 3) := yd_op_182 (i := 37) (a := 1) (b := 145) yd_by_cX12_qJoins_2 rfl rfl
theorem dX12_qJoins_164 : decode cX12_qJoins 164 = .ok (.goto 109, 3) := yd_op_167 (i := 40) (a := 0) (b := 109) yd_by_cX12_qJoins_2 rfl rfl
set_option maxRecDepth 100000 in
theorem yd_by_cX12_qJoins_3 : ydk cX12_qJoins 167 [42, 22, 4, 32, 148, 158, 0, 8, 22, 4, 167, 0, 4, 32, 182, 1, 145, 167, 0, 89, 42, 22, 4, 32, 148, 156, 0, 7, 10, 167, 0, 4, 9, 182, 1, 145, 167, 0, 70] = true := by decide +kernel
theorem dX12_qJoins_167 : decode cX12_qJoins 167 = .ok (.aload_n 0, 1) := yd_op_42 (i := 0) yd_by_cX12_qJoins_3 rfl rfl
theorem dX12_qJoins_168 : decode cX12_qJoins 168 = .ok (.lload 4, 2) := yd_op_22 (i := 1) (a := 4) yd_by_cX12_qJoins_3 rfl rfl
theorem dX12_qJoins_170 : decode cX12_qJoins 170 = .ok (.lload_n 2, 1) := yd_op_32 (i := 3) yd_by_cX12_qJoins_3 rfl rfl
theorem dX12_qJoins_171 : decode cX12_qJoins 171 = .ok (.lcmp, 1) := yd_op_148 (i := 4) yd_by_cX12_qJoins_3 rfl rfl
theorem dX12_qJoins_172 : decode cX12_qJoins 172 = .ok (.ifCond .le 8, 3) := yd_op_158 (i := 5) (a := 0) (b := 8) yd_by_cX12_qJoins_3 rfl rfl
theorem dX12_qJoins_175 : decode cX12_qJoins 175 = .ok (.lload 4, 2) := yd_op_22 (i := 8) (a := 4) yd_by_cX12_qJoins_3 rfl rfl
theorem dX12_qJoins_177 : decode cX12_qJoins 177 = .ok (.goto 4, 3) := yd_op_167 (i := 10) (a := 0) (b := 4) yd_by_cX12_qJoins_3 rfl rfl
theorem dX12_qJoins_180 : decode cX12_qJoins 180 = .ok (.lload_n 2, 1) := yd_op_32 (i := 13) yd_by_cX12_qJoins_3 rfl rfl
theorem dX12_qJoins_181 : decode cX12_qJoins 181 = .ok (.invokevirtual 401, 3) := yd_op_182 (i := 14) (a := 1) (b := 145) yd_by_cX12_qJoins_3 rfl rfl
theorem dX12_qJoins_184 : decode cX12_qJoins 184 = .ok (.goto 89, 3) := yd_op_167 (i := 17) (a := 0) (b := 89) yd_by_cX12_qJoins_3 rfl rfl
theorem dX12_qJoins_187 : decode cX12_qJoins 187 = .ok (.aload_n 0, 1) := yd_op_42 (i := 20) yd_by_cX12_qJoins_3 rfl rfl
theorem dX12_qJoins_188 : decode cX12_qJoins 188 = .ok (.lload 4, 2) := yd_op_22 (i := 21) (a := 4) yd_by_cX12_qJoins_3 rfl rfl
theorem dX12_qJoins_190 : decode cX12_qJoins 190 = .ok (.lload_n 2, 1) := yd_op_32 (i := 23) yd_by_cX12_qJoins_3 rfl rfl
theorem dX12_qJoins_191 : decode cX12_qJoins 191 = .ok (.lcmp, 1) := yd_op_148 (i := 24) yd_by_cX12_qJoins_3 rfl rfl
theorem dX12_qJoins_192 : decode cX12_qJoins 192 = .ok (.ifCond .ge 7, 3) := yd_op_156 (i := 25) (a := 0) (b := 7) yd_by_cX12_qJoins_3 rfl rfl
theorem dX12_qJoins_195 : decode cX12_qJoins 195 = .ok (.lconst 1, 1) := yd_op_10 (i := 28) yd_by_cX12_qJoins_3 rfl rfl
theorem dX12_qJoins_196 : decode cX12_qJoins 196 = .ok (.goto 4, 3) := yd_op_167 (i := 29) (a := 0) (b := 4) yd_by_cX12_qJoins_3 rfl rfl
theorem dX12_qJoins_199 : decode cX12_qJoins 199 = .ok (.lconst 0, 1) := yd_op_9 (i := 32) yd_by_cX12_qJoins_3 rfl rfl
theorem dX12_qJoins_200 : decode cX12_qJoins 200 = .ok (.invokevirtual 401, 3) := yd_op_182 (i := 33) (a := 1) (b := 145) yd_by_cX12_qJoins_3 rfl rfl
theorem dX12_qJoins_203 : decode cX12_qJoins 203 = .ok (.goto 70, 3) := yd_op_167 (i := 36) (a := 0) (b := 70) yd_by_cX12_qJoins_3 rfl rfl
set_option maxRecDepth 100000 in
theorem yd_by_cX12_qJoins_4 : ydk cX12_qJoins 206 [42, 22, 4, 32, 148, 158, 0, 7, 10, 167, 0, 4, 9, 182, 1, 145, 167, 0, 51, 42, 22, 4, 32, 148, 154, 0, 7, 10, 167, 0, 4, 9, 182, 1, 145, 167, 0, 32] = true := by decide +kernel
theorem dX12_qJoins_206 : decode cX12_qJoins 206 = .ok (.aload_n 0, 1) := yd_op_42 (i := 0) yd_by_cX12_qJoins_4 rfl rfl
theorem dX12_qJoins_207 : decode cX12_qJoins 207 = .ok (.lload 4, 2) := yd_op_22 (i := 1) (a := 4) yd_by_cX12_qJoins_4 rfl rfl
theorem dX12_qJoins_209 : decode cX12_qJoins 209 = .ok (.lload_n 2, 1) := yd_op_32 (i := 3) yd_by_cX12_qJoins_4 rfl rfl
theorem dX12_qJoins_210 : decode cX12_qJoins 210 = .ok (.lcmp, 1) := yd_op_148 (i := 4) yd_by_cX12_qJoins_4 rfl rfl
theorem dX12_qJoins_211 : decode cX12_qJoins 211 = .ok (.ifCond .le 7, 3) := yd_op_158 (i := 5) (a := 0) (b := 7) yd_by_cX12_qJoins_4 rfl rfl
theorem dX12_qJoins_214 : decode cX12_qJoins 214 = .ok (.lconst 1, 1) := yd_op_10 (i := 8) yd_by_cX12_qJoins_4 rfl rfl
theorem dX12_qJoins_215 : decode cX12_qJoins 215 = .ok (.goto 4, 3) := yd_op_167 (i := 9) (a := 0) (b := 4) yd_by_cX12_qJoins_4 rfl rfl
theorem dX12_qJoins_218 : decode cX12_qJoins 218 = .ok (.lconst 0, 1) := yd_op_9 (i := 12) yd_by_cX12_qJoins_4 rfl rfl
theorem dX12_qJoins_219 : decode cX12_qJoins 219 = .ok (.invokevirtual 401, 3) := yd_op_182 (i := 13) (a := 1) (b := 145) yd_by_cX12_qJoins_4 rfl rfl
theorem dX12_qJoins_222 : decode cX12_qJoins 222 = .ok (.goto 51, 3) := yd_op_167 (i := 16) (a := 0) (b := 51) yd_by_cX12_qJoins_4 rfl rfl
theorem dX12_qJoins_225 : decode cX12_qJoins 225 = .ok (.aload_n 0, 1) := yd_op_42 (i := 19) yd_by_cX12_qJoins_4 rfl rfl
theorem dX12_qJoins_226 : decode cX12_qJoins 226 = .ok (.lload 4, 2) := yd_op_22 (i := 20) (a := 4) yd_by_cX12_qJoins_4 rfl rfl
theorem dX12_qJoins_228 : decode cX12_qJoins 228 = .ok (.lload_n 2, 1) := yd_op_32 (i := 22) yd_by_cX12_qJoins_4 rfl rfl
theorem dX12_qJoins_229 : decode cX12_qJoins 229 = .ok (.lcmp, 1) := yd_op_148 (i := 23) yd_by_cX12_qJoins_4 rfl rfl
theorem dX12_qJoins_230 : decode cX12_qJoins 230 = .ok (.ifCond .ne 7, 3) := yd_op_154 (i := 24) (a := 0) (b := 7) yd_by_cX12_qJoins_4 rfl rfl
theorem dX12_qJoins_233 : decode cX12_qJoins 233 = .ok (.lconst 1, 1) := yd_op_10 (i := 27) yd_by_cX12_qJoins_4 rfl rfl
theorem dX12_qJoins_234 : decode cX12_qJoins 234 = .ok (.goto 4, 3) := yd_op_167 (i := 28) (a := 0) (b := 4) yd_by_cX12_qJoins_4 rfl rfl
theorem dX12_qJoins_237 : decode cX12_qJoins 237 = .ok (.lconst 0, 1) := yd_op_9 (i := 31) yd_by_cX12_qJoins_4 rfl rfl
theorem dX12_qJoins_238 : decode cX12_qJoins 238 = .ok (.invokevirtual 401, 3) := yd_op_182 (i := 32) (a := 1) (b := 145) yd_by_cX12_qJoins_4 rfl rfl
theorem dX12_qJoins_241 : decode cX12_qJoins 241 = .ok (.goto 32, 3) := yd_op_167 (i := 35) (a := 0) (b := 32) yd_by_cX12_qJoins_4 rfl rfl
set_option maxRecDepth 100000 in
theorem yd_by_cX12_qJoins_5 : ydk cX12_qJoins 244 [42, 22, 4, 32, 105, 182, 1, 145, 167, 0, 21, 42, 22, 4, 32, 97, 9, 148, 158, 0, 7, 10, 167, 0, 4, 9, 182, 1, 145, 177] = true := by decide +kernel
theorem dX12_qJoins_244 : decode cX12_qJoins 244 = .ok (.aload_n 0, 1) := yd_op_42 (i := 0) yd_by_cX12_qJoins_5 rfl rfl
theorem dX12_qJoins_245 : decode cX12_qJoins 245 = .ok (.lload 4, 2) := yd_op_22 (i := 1) (a := 4) yd_by_cX12_qJoins_5 rfl rfl
theorem dX12_qJoins_247 : decode cX12_qJoins 247 = .ok (.lload_n 2, 1) := yd_op_32 (i := 3) yd_by_cX12_qJoins_5 rfl rfl
theorem dX12_qJoins_248 : decode cX12_qJoins 248 = .ok (.lmul, 1) := yd_op_105 (i := 4) yd_by_cX12_qJoins_5 rfl rfl
theorem dX12_qJoins_249 : decode cX12_qJoins 249 = .ok (.invokevirtual 401, 3) := yd_op_182 (i := 5) (a := 1) (b := 145) yd_by_cX12_qJoins_5 rfl rfl
theorem dX12_qJoins_252 : decode cX12_qJoins 252 = .ok (.goto 21, 3) := yd_op_167 (i := 8) (a := 0) (b := 21) yd_by_cX12_qJoins_5 rfl rfl
theorem dX12_qJoins_255 : decode cX12_qJoins 255 = .ok (.aload_n 0, 1) := yd_op_42 (i := 11) yd_by_cX12_qJoins_5 rfl rfl
theorem dX12_qJoins_256 : decode cX12_qJoins 256 = .ok (.lload 4, 2) := yd_op_22 (i := 12) (a := 4) yd_by_cX12_qJoins_5 rfl rfl
theorem dX12_qJoins_258 : decode cX12_qJoins 258 = .ok (.lload_n 2, 1) := yd_op_32 (i := 14) yd_by_cX12_qJoins_5 rfl rfl
theorem dX12_qJoins_259 : decode cX12_qJoins 259 = .ok (.ladd, 1) := yd_op_97 (i := 15) yd_by_cX12_qJoins_5 rfl rfl
theorem dX12_qJoins_260 : decode cX12_qJoins 260 = .ok (.lconst 0, 1) := yd_op_9 (i := 16) yd_by_cX12_qJoins_5 rfl rfl
theorem dX12_qJoins_261 : decode cX12_qJoins 261 = .ok (.lcmp, 1) := yd_op_148 (i := 17) yd_by_cX12_qJoins_5 rfl rfl
theorem dX12_qJoins_262 : decode cX12_qJoins 262 = .ok (.ifCond .le 7, 3) := yd_op_158 (i := 18) (a := 0) (b := 7) yd_by_cX12_qJoins_5 rfl rfl
theorem dX12_qJoins_265 : decode cX12_qJoins 265 = .ok (.lconst 1, 1) := yd_op_10 (i := 21) yd_by_cX12_qJoins_5 rfl rfl
theorem dX12_qJoins_266 : decode cX12_qJoins 266 = .ok (.goto 4, 3) := yd_op_167 (i := 22) (a := 0) (b := 4) yd_by_cX12_qJoins_5 rfl rfl
theorem dX12_qJoins_269 : decode cX12_qJoins 269 = .ok (.lconst 0, 1) := yd_op_9 (i := 25) yd_by_cX12_qJoins_5 rfl rfl
theorem dX12_qJoins_270 : decode cX12_qJoins 270 = .ok (.invokevirtual 401, 3) := yd_op_182 (i := 26) (a := 1) (b := 145) yd_by_cX12_qJoins_5 rfl rfl
theorem dX12_qJoins_273 : decode cX12_qJoins 273 = .ok (.return_, 1) := yd_op_177 (i := 29) yd_by_cX12_qJoins_5 rfl rfl
theorem dX12_qPartOf_1 : decode cX12_qPartOf 1 = .ok (.tableswitch 115 0 8 #[51, 59, 65, 71, 78, 85, 92, 95, 105], 51) := by decide +kernel
set_option maxRecDepth 100000 in
theorem yd_by_cX12_qPartOf_0 : ydk cX12_qPartOf 0 [27, 170, 0, 0, 0, 0, 0, 115, 0, 0, 0, 0, 0, 0, 0, 8, 0, 0, 0, 51, 0, 0, 0, 59, 0, 0, 0, 65, 0, 0, 0, 71, 0, 0, 0, 78, 0, 0, 0, 85, 0, 0, 0, 92, 0, 0, 0, 95, 0, 0, 0, 105, 42, 180, 0, 130, 3, 46, 133, 173, 42, 182, 1, 210, 133, 173, 42, 180, 1, 169, 133, 173, 42, 28, 182, 1, 162, 133, 173] = true := by decide +kernel
theorem dX12_qPartOf_0 : decode cX12_qPartOf 0 = .ok (.iload_n 1, 1) := yd_op_27 (i := 0) yd_by_cX12_qPartOf_0 rfl rfl
theorem dX12_qPartOf_52 : decode cX12_qPartOf 52 = .ok (.aload_n 0, 1) := yd_op_42 (i := 52) yd_by_cX12_qPartOf_0 rfl rfl
theorem dX12_qPartOf_53 : decode cX12_qPartOf 53 = .ok (.getfield 130, 3) := yd_op_180 (i := 53) (a := 0) (b := 130) yd_by_cX12_qPartOf_0 rfl rfl
theorem dX12_qPartOf_56 : decode cX12_qPartOf 56 = .ok (.iconst 0, 1) := yd_op_3 (i := 56) yd_by_cX12_qPartOf_0 rfl rfl
theorem dX12_qPartOf_57 : decode cX12_qPartOf 57 = .ok (.iaload, 1) := yd_op_46 (i := 57) yd_by_cX12_qPartOf_0 rfl rfl
theorem dX12_qPartOf_58 : decode cX12_qPartOf 58 = .ok (.i2l, 1) := yd_op_133 (i := 58) yd_by_cX12_qPartOf_0 rfl rfl
theorem dX12_qPartOf_59 : decode cX12_qPartOf 59 = .ok (.lreturn, 1) := yd_op_173 (i := 59) yd_by_cX12_qPartOf_0 rfl rfl
theorem dX12_qPartOf_60 : decode cX12_qPartOf 60 = .ok (.aload_n 0, 1) := yd_op_42 (i := 60) yd_by_cX12_qPartOf_0 rfl rfl
theorem dX12_qPartOf_61 : decode cX12_qPartOf 61 = .ok (.invokevirtual 466, 3) := yd_op_182 (i := 61) (a := 1) (b := 210) yd_by_cX12_qPartOf_0 rfl rfl
theorem dX12_qPartOf_64 : decode cX12_qPartOf 64 = .ok (.i2l, 1) := yd_op_133 (i := 64) yd_by_cX12_qPartOf_0 rfl rfl
theorem dX12_qPartOf_65 : decode cX12_qPartOf 65 = .ok (.lreturn, 1) := yd_op_173 (i := 65) yd_by_cX12_qPartOf_0 rfl rfl
theorem dX12_qPartOf_66 : decode cX12_qPartOf 66 = .ok (.aload_n 0, 1) := yd_op_42 (i := 66) yd_by_cX12_qPartOf_0 rfl rfl
theorem dX12_qPartOf_67 : decode cX12_qPartOf 67 = .ok (.getfield 425, 3) := yd_op_180 (i := 67) (a := 1) (b := 169) yd_by_cX12_qPartOf_0 rfl rfl
theorem dX12_qPartOf_70 : decode cX12_qPartOf 70 = .ok (.i2l, 1) := yd_op_133 (i := 70) yd_by_cX12_qPartOf_0 rfl rfl
theorem dX12_qPartOf_71 : decode cX12_qPartOf 71 = .ok (.lreturn, 1) := yd_op_173 (i := 71) yd_by_cX12_qPartOf_0 rfl rfl
theorem dX12_qPartOf_72 : decode cX12_qPartOf 72 = .ok (.aload_n 0, 1) := yd_op_42 (i := 72) yd_by_cX12_qPartOf_0 rfl rfl
theorem dX12_qPartOf_73 : decode cX12_qPartOf 73 = .ok (.iload_n 2, 1) := yd_op_28 (i := 73) yd_by_cX12_qPartOf_0 rfl rfl
theorem dX12_qPartOf_74 : decode cX12_qPartOf 74 = .ok (.invokevirtual 418, 3) := yd_op_182 (i := 74) (a := 1) (b := 162) yd_by_cX12_qPartOf_0 rfl rfl
theorem dX12_qPartOf_77 : decode cX12_qPartOf 77 = .ok (.i2l, 1) := yd_op_133 (i := 77) yd_by_cX12_qPartOf_0 rfl rfl
theorem dX12_qPartOf_78 : decode cX12_qPartOf 78 = .ok (.lreturn, 1) := yd_op_173 (i := 78) yd_by_cX12_qPartOf_0 rfl rfl
set_option maxRecDepth 100000 in
theorem yd_by_cX12_qPartOf_1 : ydk cX12_qPartOf 79 [42, 28, 182, 1, 230, 133, 173, 42, 28, 182, 2, 112, 133, 173, 28, 133, 173, 42, 28, 182, 1, 135, 16, 6, 112, 133, 173] = true := by decide +kernel
theorem dX12_qPartOf_79 : decode cX12_qPartOf 79 = .ok (.aload_n 0, 1) := yd_op_42 (i := 0) yd_by_cX12_qPartOf_1 rfl rfl
theorem dX12_qPartOf_80 : decode cX12_qPartOf 80 = .ok (.iload_n 2, 1) := yd_op_28 (i := 1) yd_by_cX12_qPartOf_1 rfl rfl
theorem dX12_qPartOf_81 : decode cX12_qPartOf 81 = .ok (.invokevirtual 486, 3) := yd_op_182 (i := 2) (a := 1) (b := 230) yd_by_cX12_qPartOf_1 rfl rfl
theorem dX12_qPartOf_84 : decode cX12_qPartOf 84 = .ok (.i2l, 1) := yd_op_133 (i := 5) yd_by_cX12_qPartOf_1 rfl rfl
theorem dX12_qPartOf_85 : decode cX12_qPartOf 85 = .ok (.lreturn, 1) := yd_op_173 (i := 6) yd_by_cX12_qPartOf_1 rfl rfl
theorem dX12_qPartOf_86 : decode cX12_qPartOf 86 = .ok (.aload_n 0, 1) := yd_op_42 (i := 7) yd_by_cX12_qPartOf_1 rfl rfl
theorem dX12_qPartOf_87 : decode cX12_qPartOf 87 = .ok (.iload_n 2, 1) := yd_op_28 (i := 8) yd_by_cX12_qPartOf_1 rfl rfl
theorem dX12_qPartOf_88 : decode cX12_qPartOf 88 = .ok (.invokevirtual 624, 3) := yd_op_182 (i := 9) (a := 2) (b := 112) yd_by_cX12_qPartOf_1 rfl rfl
theorem dX12_qPartOf_91 : decode cX12_qPartOf 91 = .ok (.i2l, 1) := yd_op_133 (i := 12) yd_by_cX12_qPartOf_1 rfl rfl
theorem dX12_qPartOf_92 : decode cX12_qPartOf 92 = .ok (.lreturn, 1) := yd_op_173 (i := 13) yd_by_cX12_qPartOf_1 rfl rfl
theorem dX12_qPartOf_93 : decode cX12_qPartOf 93 = .ok (.iload_n 2, 1) := yd_op_28 (i := 14) yd_by_cX12_qPartOf_1 rfl rfl
theorem dX12_qPartOf_94 : decode cX12_qPartOf 94 = .ok (.i2l, 1) := yd_op_133 (i := 15) yd_by_cX12_qPartOf_1 rfl rfl
theorem dX12_qPartOf_95 : decode cX12_qPartOf 95 = .ok (.lreturn, 1) := yd_op_173 (i := 16) yd_by_cX12_qPartOf_1 rfl rfl
theorem dX12_qPartOf_96 : decode cX12_qPartOf 96 = .ok (.aload_n 0, 1) := yd_op_42 (i := 17) yd_by_cX12_qPartOf_1 rfl rfl
theorem dX12_qPartOf_97 : decode cX12_qPartOf 97 = .ok (.iload_n 2, 1) := yd_op_28 (i := 18) yd_by_cX12_qPartOf_1 rfl rfl
theorem dX12_qPartOf_98 : decode cX12_qPartOf 98 = .ok (.invokevirtual 391, 3) := yd_op_182 (i := 19) (a := 1) (b := 135) yd_by_cX12_qPartOf_1 rfl rfl
theorem dX12_qPartOf_101 : decode cX12_qPartOf 101 = .ok (.bipush 6, 2) := yd_op_16 (i := 22) (a := 6) yd_by_cX12_qPartOf_1 rfl rfl
theorem dX12_qPartOf_103 : decode cX12_qPartOf 103 = .ok (.irem, 1) := yd_op_112 (i := 24) yd_by_cX12_qPartOf_1 rfl rfl
theorem dX12_qPartOf_104 : decode cX12_qPartOf 104 = .ok (.i2l, 1) := yd_op_133 (i := 25) yd_by_cX12_qPartOf_1 rfl rfl
theorem dX12_qPartOf_105 : decode cX12_qPartOf 105 = .ok (.lreturn, 1) := yd_op_173 (i := 26) yd_by_cX12_qPartOf_1 rfl rfl
set_option maxRecDepth 100000 in
theorem yd_by_cX12_qPartOf_2 : ydk cX12_qPartOf 106 [42, 28, 182, 1, 135, 16, 6, 108, 133, 173, 42, 180, 2, 115, 28, 122, 4, 126, 133, 173] = true := by decide +kernel
theorem dX12_qPartOf_106 : decode cX12_qPartOf 106 = .ok (.aload_n 0, 1) := yd_op_42 (i := 0) yd_by_cX12_qPartOf_2 rfl rfl
theorem dX12_qPartOf_107 : decode cX12_qPartOf 107 = .ok (.iload_n 2, 1) := yd_op_28 (i := 1) yd_by_cX12_qPartOf_2 rfl rfl
theorem dX12_qPartOf_108 : decode cX12_qPartOf 108 = .ok (.invokevirtual 391, 3) := yd_op_182 (i := 2) (a := 1) (b := 135) yd_by_cX12_qPartOf_2 rfl rfl
theorem dX12_qPartOf_111 : decode cX12_qPartOf 111 = .ok (.bipush 6, 2) := yd_op_16 (i := 5) (a := 6) yd_by_cX12_qPartOf_2 rfl rfl
theorem dX12_qPartOf_113 : decode cX12_qPartOf 113 = .ok (.idiv, 1) := yd_op_108 (i := 7) yd_by_cX12_qPartOf_2 rfl rfl
theorem dX12_qPartOf_114 : decode cX12_qPartOf 114 = .ok (.i2l, 1) := yd_op_133 (i := 8) yd_by_cX12_qPartOf_2 rfl rfl
theorem dX12_qPartOf_115 : decode cX12_qPartOf 115 = .ok (.lreturn, 1) := yd_op_173 (i := 9) yd_by_cX12_qPartOf_2 rfl rfl
theorem dX12_qPartOf_116 : decode cX12_qPartOf 116 = .ok (.aload_n 0, 1) := yd_op_42 (i := 10) yd_by_cX12_qPartOf_2 rfl rfl
theorem dX12_qPartOf_117 : decode cX12_qPartOf 117 = .ok (.getfield 627, 3) := yd_op_180 (i := 11) (a := 2) (b := 115) yd_by_cX12_qPartOf_2 rfl rfl
theorem dX12_qPartOf_120 : decode cX12_qPartOf 120 = .ok (.iload_n 2, 1) := yd_op_28 (i := 14) yd_by_cX12_qPartOf_2 rfl rfl
theorem dX12_qPartOf_121 : decode cX12_qPartOf 121 = .ok (.ishr, 1) := yd_op_122 (i := 15) yd_by_cX12_qPartOf_2 rfl rfl
theorem dX12_qPartOf_122 : decode cX12_qPartOf 122 = .ok (.iconst 1, 1) := yd_op_4 (i := 16) yd_by_cX12_qPartOf_2 rfl rfl
theorem dX12_qPartOf_123 : decode cX12_qPartOf 123 = .ok (.iand, 1) := yd_op_126 (i := 17) yd_by_cX12_qPartOf_2 rfl rfl
theorem dX12_qPartOf_124 : decode cX12_qPartOf 124 = .ok (.i2l, 1) := yd_op_133 (i := 18) yd_by_cX12_qPartOf_2 rfl rfl
theorem dX12_qPartOf_125 : decode cX12_qPartOf 125 = .ok (.lreturn, 1) := yd_op_173 (i := 19) yd_by_cX12_qPartOf_2 rfl rfl
theorem dX12_qOf_1 : decode cX12_qOf 1 = .ok (.lookupswitch 11 #[], 11) := by decide +kernel
set_option maxRecDepth 100000 in
theorem yd_by_cX12_qOf_0 : ydk cX12_qOf 0 [27, 171, 0, 0, 0, 0, 0, 11, 0, 0, 0, 0, 32, 9, 42, 182, 1, 129, 4, 100, 133, 184, 1, 33, 153, 0, 22, 42, 21, 4, 182, 1, 135, 42, 32, 136, 182, 1, 135, 184, 1, 139, 133, 167, 0, 4] = true := by decide +kernel
theorem dX12_qOf_0 : decode cX12_qOf 0 = .ok (.iload_n 1, 1) := yd_op_27 (i := 0) yd_by_cX12_qOf_0 rfl rfl
theorem dX12_qOf_12 : decode cX12_qOf 12 = .ok (.lload_n 2, 1) := yd_op_32 (i := 12) yd_by_cX12_qOf_0 rfl rfl
theorem dX12_qOf_13 : decode cX12_qOf 13 = .ok (.lconst 0, 1) := yd_op_9 (i := 13) yd_by_cX12_qOf_0 rfl rfl
theorem dX12_qOf_14 : decode cX12_qOf 14 = .ok (.aload_n 0, 1) := yd_op_42 (i := 14) yd_by_cX12_qOf_0 rfl rfl
theorem dX12_qOf_15 : decode cX12_qOf 15 = .ok (.invokevirtual 385, 3) := yd_op_182 (i := 15) (a := 1) (b := 129) yd_by_cX12_qOf_0 rfl rfl
theorem dX12_qOf_18 : decode cX12_qOf 18 = .ok (.iconst 1, 1) := yd_op_4 (i := 18) yd_by_cX12_qOf_0 rfl rfl
theorem dX12_qOf_19 : decode cX12_qOf 19 = .ok (.isub, 1) := yd_op_100 (i := 19) yd_by_cX12_qOf_0 rfl rfl
theorem dX12_qOf_20 : decode cX12_qOf 20 = .ok (.i2l, 1) := yd_op_133 (i := 20) yd_by_cX12_qOf_0 rfl rfl
theorem dX12_qOf_21 : decode cX12_qOf 21 = .ok (.invokestatic 289, 3) := yd_op_184 (i := 21) (a := 1) (b := 33) yd_by_cX12_qOf_0 rfl rfl
theorem dX12_qOf_24 : decode cX12_qOf 24 = .ok (.ifCond .eq 22, 3) := yd_op_153 (i := 24) (a := 0) (b := 22) yd_by_cX12_qOf_0 rfl rfl
theorem dX12_qOf_27 : decode cX12_qOf 27 = .ok (.aload_n 0, 1) := yd_op_42 (i := 27) yd_by_cX12_qOf_0 rfl rfl
theorem dX12_qOf_28 : decode cX12_qOf 28 = .ok (.iload 4, 2) := yd_op_21 (i := 28) (a := 4) yd_by_cX12_qOf_0 rfl rfl
theorem dX12_qOf_30 : decode cX12_qOf 30 = .ok (.invokevirtual 391, 3) := yd_op_182 (i := 30) (a := 1) (b := 135) yd_by_cX12_qOf_0 rfl rfl
theorem dX12_qOf_33 : decode cX12_qOf 33 = .ok (.aload_n 0, 1) := yd_op_42 (i := 33) yd_by_cX12_qOf_0 rfl rfl
theorem dX12_qOf_34 : decode cX12_qOf 34 = .ok (.lload_n 2, 1) := yd_op_32 (i := 34) yd_by_cX12_qOf_0 rfl rfl
theorem dX12_qOf_35 : decode cX12_qOf 35 = .ok (.l2i, 1) := yd_op_136 (i := 35) yd_by_cX12_qOf_0 rfl rfl
theorem dX12_qOf_36 : decode cX12_qOf 36 = .ok (.invokevirtual 391, 3) := yd_op_182 (i := 36) (a := 1) (b := 135) yd_by_cX12_qOf_0 rfl rfl
theorem dX12_qOf_39 : decode cX12_qOf 39 = .ok (.invokestatic 395, 3) := yd_op_184 (i := 39) (a := 1) (b := 139) yd_by_cX12_qOf_0 rfl rfl
theorem dX12_qOf_42 : decode cX12_qOf 42 = .ok (.i2l, 1) := yd_op_133 (i := 42) yd_by_cX12_qOf_0 rfl rfl
theorem dX12_qOf_43 : decode cX12_qOf 43 = .ok (.goto 4, 3) := yd_op_167 (i := 43) (a := 0) (b := 4) yd_by_cX12_qOf_0 rfl rfl
set_option maxRecDepth 100000 in
theorem yd_by_cX12_qOf_1 : ydk cX12_qOf 46 [9, 173] = true := by decide +kernel
theorem dX12_qOf_46 : decode cX12_qOf 46 = .ok (.lconst 0, 1) := yd_op_9 (i := 0) yd_by_cX12_qOf_1 rfl rfl
theorem dX12_qOf_47 : decode cX12_qOf 47 = .ok (.lreturn, 1) := yd_op_173 (i := 1) yd_by_cX12_qOf_1 rfl rfl
set_option maxRecDepth 100000 in
theorem yd_by_cX12_qTold_0 : ydk cX12_qTold 0 [42, 3, 181, 1, 142, 3, 61, 28, 42, 180, 1, 74, 162, 0, 156, 42, 180, 0, 231, 28, 46, 62, 29, 17, 3, 232, 161, 0, 16, 42, 29, 17, 3, 232] = true := by decide +kernel
theorem dX12_qTold_0 : decode cX12_qTold 0 = .ok (.aload_n 0, 1) := yd_op_42 (i := 0) yd_by_cX12_qTold_0 rfl rfl
theorem dX12_qTold_1 : decode cX12_qTold 1 = .ok (.iconst 0, 1) := yd_op_3 (i := 1) yd_by_cX12_qTold_0 rfl rfl
theorem dX12_qTold_2 : decode cX12_qTold 2 = .ok (.putfield 398, 3) := yd_op_181 (i := 2) (a := 1) (b := 142) yd_by_cX12_qTold_0 rfl rfl
theorem dX12_qTold_5 : decode cX12_qTold 5 = .ok (.iconst 0, 1) := yd_op_3 (i := 5) yd_by_cX12_qTold_0 rfl rfl
theorem dX12_qTold_6 : decode cX12_qTold 6 = .ok (.istore_n 2, 1) := yd_op_61 (i := 6) yd_by_cX12_qTold_0 rfl rfl
theorem dX12_qTold_7 : decode cX12_qTold 7 = .ok (.iload_n 2, 1) := yd_op_28 (i := 7) yd_by_cX12_qTold_0 rfl rfl
theorem dX12_qTold_8 : decode cX12_qTold 8 = .ok (.aload_n 0, 1) := yd_op_42 (i := 8) yd_by_cX12_qTold_0 rfl rfl
theorem dX12_qTold_9 : decode cX12_qTold 9 = .ok (.getfield 330, 3) := yd_op_180 (i := 9) (a := 1) (b := 74) yd_by_cX12_qTold_0 rfl rfl
theorem dX12_qTold_12 : decode cX12_qTold 12 = .ok (.if_icmp .ge 156, 3) := yd_op_162 (i := 12) (a := 0) (b := 156) yd_by_cX12_qTold_0 rfl rfl
theorem dX12_qTold_15 : decode cX12_qTold 15 = .ok (.aload_n 0, 1) := yd_op_42 (i := 15) yd_by_cX12_qTold_0 rfl rfl
theorem dX12_qTold_16 : decode cX12_qTold 16 = .ok (.getfield 231, 3) := yd_op_180 (i := 16) (a := 0) (b := 231) yd_by_cX12_qTold_0 rfl rfl
theorem dX12_qTold_19 : decode cX12_qTold 19 = .ok (.iload_n 2, 1) := yd_op_28 (i := 19) yd_by_cX12_qTold_0 rfl rfl
theorem dX12_qTold_20 : decode cX12_qTold 20 = .ok (.iaload, 1) := yd_op_46 (i := 20) yd_by_cX12_qTold_0 rfl rfl
theorem dX12_qTold_21 : decode cX12_qTold 21 = .ok (.istore_n 3, 1) := yd_op_62 (i := 21) yd_by_cX12_qTold_0 rfl rfl
theorem dX12_qTold_22 : decode cX12_qTold 22 = .ok (.iload_n 3, 1) := yd_op_29 (i := 22) yd_by_cX12_qTold_0 rfl rfl
theorem dX12_qTold_23 : decode cX12_qTold 23 = .ok (.sipush 1000, 3) := yd_op_17 (i := 23) (a := 3) (b := 232) yd_by_cX12_qTold_0 rfl rfl
theorem dX12_qTold_26 : decode cX12_qTold 26 = .ok (.if_icmp .lt 16, 3) := yd_op_161 (i := 26) (a := 0) (b := 16) yd_by_cX12_qTold_0 rfl rfl
theorem dX12_qTold_29 : decode cX12_qTold 29 = .ok (.aload_n 0, 1) := yd_op_42 (i := 29) yd_by_cX12_qTold_0 rfl rfl
theorem dX12_qTold_30 : decode cX12_qTold 30 = .ok (.iload_n 3, 1) := yd_op_29 (i := 30) yd_by_cX12_qTold_0 rfl rfl
theorem dX12_qTold_31 : decode cX12_qTold 31 = .ok (.sipush 1000, 3) := yd_op_17 (i := 31) (a := 3) (b := 232) yd_by_cX12_qTold_0 rfl rfl
set_option maxRecDepth 100000 in
theorem yd_by_cX12_qTold_1 : ydk cX12_qTold 34 [100, 133, 182, 1, 145, 167, 0, 123, 29, 16, 60, 161, 0, 40, 42, 180, 0, 237, 42, 180, 1, 142, 4, 100, 42, 29, 16, 60, 100, 42, 180, 0, 237, 42] = true := by decide +kernel
theorem dX12_qTold_34 : decode cX12_qTold 34 = .ok (.isub, 1) := yd_op_100 (i := 0) yd_by_cX12_qTold_1 rfl rfl
theorem dX12_qTold_35 : decode cX12_qTold 35 = .ok (.i2l, 1) := yd_op_133 (i := 1) yd_by_cX12_qTold_1 rfl rfl
theorem dX12_qTold_36 : decode cX12_qTold 36 = .ok (.invokevirtual 401, 3) := yd_op_182 (i := 2) (a := 1) (b := 145) yd_by_cX12_qTold_1 rfl rfl
theorem dX12_qTold_39 : decode cX12_qTold 39 = .ok (.goto 123, 3) := yd_op_167 (i := 5) (a := 0) (b := 123) yd_by_cX12_qTold_1 rfl rfl
theorem dX12_qTold_42 : decode cX12_qTold 42 = .ok (.iload_n 3, 1) := yd_op_29 (i := 8) yd_by_cX12_qTold_1 rfl rfl
theorem dX12_qTold_43 : decode cX12_qTold 43 = .ok (.bipush 60, 2) := yd_op_16 (i := 9) (a := 60) yd_by_cX12_qTold_1 rfl rfl
theorem dX12_qTold_45 : decode cX12_qTold 45 = .ok (.if_icmp .lt 40, 3) := yd_op_161 (i := 11) (a := 0) (b := 40) yd_by_cX12_qTold_1 rfl rfl
theorem dX12_qTold_48 : decode cX12_qTold 48 = .ok (.aload_n 0, 1) := yd_op_42 (i := 14) yd_by_cX12_qTold_1 rfl rfl
theorem dX12_qTold_49 : decode cX12_qTold 49 = .ok (.getfield 237, 3) := yd_op_180 (i := 15) (a := 0) (b := 237) yd_by_cX12_qTold_1 rfl rfl
theorem dX12_qTold_52 : decode cX12_qTold 52 = .ok (.aload_n 0, 1) := yd_op_42 (i := 18) yd_by_cX12_qTold_1 rfl rfl
theorem dX12_qTold_53 : decode cX12_qTold 53 = .ok (.getfield 398, 3) := yd_op_180 (i := 19) (a := 1) (b := 142) yd_by_cX12_qTold_1 rfl rfl
theorem dX12_qTold_56 : decode cX12_qTold 56 = .ok (.iconst 1, 1) := yd_op_4 (i := 22) yd_by_cX12_qTold_1 rfl rfl
theorem dX12_qTold_57 : decode cX12_qTold 57 = .ok (.isub, 1) := yd_op_100 (i := 23) yd_by_cX12_qTold_1 rfl rfl
theorem dX12_qTold_58 : decode cX12_qTold 58 = .ok (.aload_n 0, 1) := yd_op_42 (i := 24) yd_by_cX12_qTold_1 rfl rfl
theorem dX12_qTold_59 : decode cX12_qTold 59 = .ok (.iload_n 3, 1) := yd_op_29 (i := 25) yd_by_cX12_qTold_1 rfl rfl
theorem dX12_qTold_60 : decode cX12_qTold 60 = .ok (.bipush 60, 2) := yd_op_16 (i := 26) (a := 60) yd_by_cX12_qTold_1 rfl rfl
theorem dX12_qTold_62 : decode cX12_qTold 62 = .ok (.isub, 1) := yd_op_100 (i := 28) yd_by_cX12_qTold_1 rfl rfl
theorem dX12_qTold_63 : decode cX12_qTold 63 = .ok (.aload_n 0, 1) := yd_op_42 (i := 29) yd_by_cX12_qTold_1 rfl rfl
theorem dX12_qTold_64 : decode cX12_qTold 64 = .ok (.getfield 237, 3) := yd_op_180 (i := 30) (a := 0) (b := 237) yd_by_cX12_qTold_1 rfl rfl
theorem dX12_qTold_67 : decode cX12_qTold 67 = .ok (.aload_n 0, 1) := yd_op_42 (i := 33) yd_by_cX12_qTold_1 rfl rfl
set_option maxRecDepth 100000 in
theorem yd_by_cX12_qTold_2 : ydk cX12_qTold 68 [180, 1, 142, 4, 100, 47, 27, 182, 2, 118, 184, 2, 104, 80, 167, 0, 80, 29, 16, 40, 161, 0, 22, 42, 42, 29, 16, 40, 100, 27, 182, 1, 149, 184, 2, 104] = true := by decide +kernel
theorem dX12_qTold_68 : decode cX12_qTold 68 = .ok (.getfield 398, 3) := yd_op_180 (i := 0) (a := 1) (b := 142) yd_by_cX12_qTold_2 rfl rfl
theorem dX12_qTold_71 : decode cX12_qTold 71 = .ok (.iconst 1, 1) := yd_op_4 (i := 3) yd_by_cX12_qTold_2 rfl rfl
theorem dX12_qTold_72 : decode cX12_qTold 72 = .ok (.isub, 1) := yd_op_100 (i := 4) yd_by_cX12_qTold_2 rfl rfl
theorem dX12_qTold_73 : decode cX12_qTold 73 = .ok (.laload, 1) := yd_op_47 (i := 5) yd_by_cX12_qTold_2 rfl rfl
theorem dX12_qTold_74 : decode cX12_qTold 74 = .ok (.iload_n 1, 1) := yd_op_27 (i := 6) yd_by_cX12_qTold_2 rfl rfl
theorem dX12_qTold_75 : decode cX12_qTold 75 = .ok (.invokevirtual 630, 3) := yd_op_182 (i := 7) (a := 2) (b := 118) yd_by_cX12_qTold_2 rfl rfl
theorem dX12_qTold_78 : decode cX12_qTold 78 = .ok (.invokestatic 616, 3) := yd_op_184 (i := 10) (a := 2) (b := 104) yd_by_cX12_qTold_2 rfl rfl
theorem dX12_qTold_81 : decode cX12_qTold 81 = .ok (.lastore, 1) := yd_op_80 (i := 13) yd_by_cX12_qTold_2 rfl rfl
theorem dX12_qTold_82 : decode cX12_qTold 82 = .ok (.goto 80, 3) := yd_op_167 (i := 14) (a := 0) (b := 80) yd_by_cX12_qTold_2 rfl rfl
theorem dX12_qTold_85 : decode cX12_qTold 85 = .ok (.iload_n 3, 1) := yd_op_29 (i := 17) yd_by_cX12_qTold_2 rfl rfl
theorem dX12_qTold_86 : decode cX12_qTold 86 = .ok (.bipush 40, 2) := yd_op_16 (i := 18) (a := 40) yd_by_cX12_qTold_2 rfl rfl
theorem dX12_qTold_88 : decode cX12_qTold 88 = .ok (.if_icmp .lt 22, 3) := yd_op_161 (i := 20) (a := 0) (b := 22) yd_by_cX12_qTold_2 rfl rfl
theorem dX12_qTold_91 : decode cX12_qTold 91 = .ok (.aload_n 0, 1) := yd_op_42 (i := 23) yd_by_cX12_qTold_2 rfl rfl
theorem dX12_qTold_92 : decode cX12_qTold 92 = .ok (.aload_n 0, 1) := yd_op_42 (i := 24) yd_by_cX12_qTold_2 rfl rfl
theorem dX12_qTold_93 : decode cX12_qTold 93 = .ok (.iload_n 3, 1) := yd_op_29 (i := 25) yd_by_cX12_qTold_2 rfl rfl
theorem dX12_qTold_94 : decode cX12_qTold 94 = .ok (.bipush 40, 2) := yd_op_16 (i := 26) (a := 40) yd_by_cX12_qTold_2 rfl rfl
theorem dX12_qTold_96 : decode cX12_qTold 96 = .ok (.isub, 1) := yd_op_100 (i := 28) yd_by_cX12_qTold_2 rfl rfl
theorem dX12_qTold_97 : decode cX12_qTold 97 = .ok (.iload_n 1, 1) := yd_op_27 (i := 29) yd_by_cX12_qTold_2 rfl rfl
theorem dX12_qTold_98 : decode cX12_qTold 98 = .ok (.invokevirtual 405, 3) := yd_op_182 (i := 30) (a := 1) (b := 149) yd_by_cX12_qTold_2 rfl rfl
theorem dX12_qTold_101 : decode cX12_qTold 101 = .ok (.invokestatic 616, 3) := yd_op_184 (i := 33) (a := 2) (b := 104) yd_by_cX12_qTold_2 rfl rfl
set_option maxRecDepth 100000 in
theorem yd_by_cX12_qTold_3 : ydk cX12_qTold 104 [182, 1, 145, 167, 0, 55, 29, 16, 13, 160, 0, 11, 42, 10, 182, 1, 145, 167, 0, 41, 29, 16, 12, 160, 0, 30, 42, 180, 0, 237, 42, 180, 1, 142, 4, 100, 10, 42] = true := by decide +kernel
theorem dX12_qTold_104 : decode cX12_qTold 104 = .ok (.invokevirtual 401, 3) := yd_op_182 (i := 0) (a := 1) (b := 145) yd_by_cX12_qTold_3 rfl rfl
theorem dX12_qTold_107 : decode cX12_qTold 107 = .ok (.goto 55, 3) := yd_op_167 (i := 3) (a := 0) (b := 55) yd_by_cX12_qTold_3 rfl rfl
theorem dX12_qTold_110 : decode cX12_qTold 110 = .ok (.iload_n 3, 1) := yd_op_29 (i := 6) yd_by_cX12_qTold_3 rfl rfl
theorem dX12_qTold_111 : decode cX12_qTold 111 = .ok (.bipush 13, 2) := yd_op_16 (i := 7) (a := 13) yd_by_cX12_qTold_3 rfl rfl
theorem dX12_qTold_113 : decode cX12_qTold 113 = .ok (.if_icmp .ne 11, 3) := yd_op_160 (i := 9) (a := 0) (b := 11) yd_by_cX12_qTold_3 rfl rfl
theorem dX12_qTold_116 : decode cX12_qTold 116 = .ok (.aload_n 0, 1) := yd_op_42 (i := 12) yd_by_cX12_qTold_3 rfl rfl
theorem dX12_qTold_117 : decode cX12_qTold 117 = .ok (.lconst 1, 1) := yd_op_10 (i := 13) yd_by_cX12_qTold_3 rfl rfl
theorem dX12_qTold_118 : decode cX12_qTold 118 = .ok (.invokevirtual 401, 3) := yd_op_182 (i := 14) (a := 1) (b := 145) yd_by_cX12_qTold_3 rfl rfl
theorem dX12_qTold_121 : decode cX12_qTold 121 = .ok (.goto 41, 3) := yd_op_167 (i := 17) (a := 0) (b := 41) yd_by_cX12_qTold_3 rfl rfl
theorem dX12_qTold_124 : decode cX12_qTold 124 = .ok (.iload_n 3, 1) := yd_op_29 (i := 20) yd_by_cX12_qTold_3 rfl rfl
theorem dX12_qTold_125 : decode cX12_qTold 125 = .ok (.bipush 12, 2) := yd_op_16 (i := 21) (a := 12) yd_by_cX12_qTold_3 rfl rfl
theorem dX12_qTold_127 : decode cX12_qTold 127 = .ok (.if_icmp .ne 30, 3) := yd_op_160 (i := 23) (a := 0) (b := 30) yd_by_cX12_qTold_3 rfl rfl
theorem dX12_qTold_130 : decode cX12_qTold 130 = .ok (.aload_n 0, 1) := yd_op_42 (i := 26) yd_by_cX12_qTold_3 rfl rfl
theorem dX12_qTold_131 : decode cX12_qTold 131 = .ok (.getfield 237, 3) := yd_op_180 (i := 27) (a := 0) (b := 237) yd_by_cX12_qTold_3 rfl rfl
theorem dX12_qTold_134 : decode cX12_qTold 134 = .ok (.aload_n 0, 1) := yd_op_42 (i := 30) yd_by_cX12_qTold_3 rfl rfl
theorem dX12_qTold_135 : decode cX12_qTold 135 = .ok (.getfield 398, 3) := yd_op_180 (i := 31) (a := 1) (b := 142) yd_by_cX12_qTold_3 rfl rfl
theorem dX12_qTold_138 : decode cX12_qTold 138 = .ok (.iconst 1, 1) := yd_op_4 (i := 34) yd_by_cX12_qTold_3 rfl rfl
theorem dX12_qTold_139 : decode cX12_qTold 139 = .ok (.isub, 1) := yd_op_100 (i := 35) yd_by_cX12_qTold_3 rfl rfl
theorem dX12_qTold_140 : decode cX12_qTold 140 = .ok (.lconst 1, 1) := yd_op_10 (i := 36) yd_by_cX12_qTold_3 rfl rfl
theorem dX12_qTold_141 : decode cX12_qTold 141 = .ok (.aload_n 0, 1) := yd_op_42 (i := 37) yd_by_cX12_qTold_3 rfl rfl
set_option maxRecDepth 100000 in
theorem yd_by_cX12_qTold_4 : ydk cX12_qTold 142 [180, 0, 237, 42, 180, 1, 142, 4, 100, 47, 101, 80, 167, 0, 8, 42, 29, 182, 1, 153, 132, 2, 1, 167, 255, 98, 42, 180, 0, 237, 3, 47, 173] = true := by decide +kernel
theorem dX12_qTold_142 : decode cX12_qTold 142 = .ok (.getfield 237, 3) := yd_op_180 (i := 0) (a := 0) (b := 237) yd_by_cX12_qTold_4 rfl rfl
theorem dX12_qTold_145 : decode cX12_qTold 145 = .ok (.aload_n 0, 1) := yd_op_42 (i := 3) yd_by_cX12_qTold_4 rfl rfl
theorem dX12_qTold_146 : decode cX12_qTold 146 = .ok (.getfield 398, 3) := yd_op_180 (i := 4) (a := 1) (b := 142) yd_by_cX12_qTold_4 rfl rfl
theorem dX12_qTold_149 : decode cX12_qTold 149 = .ok (.iconst 1, 1) := yd_op_4 (i := 7) yd_by_cX12_qTold_4 rfl rfl
theorem dX12_qTold_150 : decode cX12_qTold 150 = .ok (.isub, 1) := yd_op_100 (i := 8) yd_by_cX12_qTold_4 rfl rfl
theorem dX12_qTold_151 : decode cX12_qTold 151 = .ok (.laload, 1) := yd_op_47 (i := 9) yd_by_cX12_qTold_4 rfl rfl
theorem dX12_qTold_152 : decode cX12_qTold 152 = .ok (.lsub, 1) := yd_op_101 (i := 10) yd_by_cX12_qTold_4 rfl rfl
theorem dX12_qTold_153 : decode cX12_qTold 153 = .ok (.lastore, 1) := yd_op_80 (i := 11) yd_by_cX12_qTold_4 rfl rfl
theorem dX12_qTold_154 : decode cX12_qTold 154 = .ok (.goto 8, 3) := yd_op_167 (i := 12) (a := 0) (b := 8) yd_by_cX12_qTold_4 rfl rfl
theorem dX12_qTold_157 : decode cX12_qTold 157 = .ok (.aload_n 0, 1) := yd_op_42 (i := 15) yd_by_cX12_qTold_4 rfl rfl
theorem dX12_qTold_158 : decode cX12_qTold 158 = .ok (.iload_n 3, 1) := yd_op_29 (i := 16) yd_by_cX12_qTold_4 rfl rfl
theorem dX12_qTold_159 : decode cX12_qTold 159 = .ok (.invokevirtual 409, 3) := yd_op_182 (i := 17) (a := 1) (b := 153) yd_by_cX12_qTold_4 rfl rfl
theorem dX12_qTold_162 : decode cX12_qTold 162 = .ok (.iinc 2 1, 3) := yd_op_132 (i := 20) (a := 2) (b := 1) yd_by_cX12_qTold_4 rfl rfl
theorem dX12_qTold_165 : decode cX12_qTold 165 = .ok (.goto (-158), 3) := yd_op_167 (i := 23) (a := 255) (b := 98) yd_by_cX12_qTold_4 rfl rfl
theorem dX12_qTold_168 : decode cX12_qTold 168 = .ok (.aload_n 0, 1) := yd_op_42 (i := 26) yd_by_cX12_qTold_4 rfl rfl
theorem dX12_qTold_169 : decode cX12_qTold 169 = .ok (.getfield 237, 3) := yd_op_180 (i := 27) (a := 0) (b := 237) yd_by_cX12_qTold_4 rfl rfl
theorem dX12_qTold_172 : decode cX12_qTold 172 = .ok (.iconst 0, 1) := yd_op_3 (i := 30) yd_by_cX12_qTold_4 rfl rfl
theorem dX12_qTold_173 : decode cX12_qTold 173 = .ok (.laload, 1) := yd_op_47 (i := 31) yd_by_cX12_qTold_4 rfl rfl
theorem dX12_qTold_174 : decode cX12_qTold 174 = .ok (.lreturn, 1) := yd_op_173 (i := 32) yd_by_cX12_qTold_4 rfl rfl
set_option maxRecDepth 100000 in
theorem yd_by_cX12_qKind_0 : ydk cX12_qKind 0 [42, 42, 180, 0, 162, 182, 1, 17, 153, 0, 7, 3, 167, 0, 64, 42, 42, 180, 0, 165, 182, 1, 17, 153, 0, 7, 4, 167, 0, 49, 42, 42, 180, 0, 168, 182, 1, 17, 153, 0, 7, 5] = true := by decide +kernel
theorem dX12_qKind_0 : decode cX12_qKind 0 = .ok (.aload_n 0, 1) := yd_op_42 (i := 0) yd_by_cX12_qKind_0 rfl rfl
theorem dX12_qKind_1 : decode cX12_qKind 1 = .ok (.aload_n 0, 1) := yd_op_42 (i := 1) yd_by_cX12_qKind_0 rfl rfl
theorem dX12_qKind_2 : decode cX12_qKind 2 = .ok (.getfield 162, 3) := yd_op_180 (i := 2) (a := 0) (b := 162) yd_by_cX12_qKind_0 rfl rfl
theorem dX12_qKind_5 : decode cX12_qKind 5 = .ok (.invokevirtual 273, 3) := yd_op_182 (i := 5) (a := 1) (b := 17) yd_by_cX12_qKind_0 rfl rfl
theorem dX12_qKind_8 : decode cX12_qKind 8 = .ok (.ifCond .eq 7, 3) := yd_op_153 (i := 8) (a := 0) (b := 7) yd_by_cX12_qKind_0 rfl rfl
theorem dX12_qKind_11 : decode cX12_qKind 11 = .ok (.iconst 0, 1) := yd_op_3 (i := 11) yd_by_cX12_qKind_0 rfl rfl
theorem dX12_qKind_12 : decode cX12_qKind 12 = .ok (.goto 64, 3) := yd_op_167 (i := 12) (a := 0) (b := 64) yd_by_cX12_qKind_0 rfl rfl
theorem dX12_qKind_15 : decode cX12_qKind 15 = .ok (.aload_n 0, 1) := yd_op_42 (i := 15) yd_by_cX12_qKind_0 rfl rfl
theorem dX12_qKind_16 : decode cX12_qKind 16 = .ok (.aload_n 0, 1) := yd_op_42 (i := 16) yd_by_cX12_qKind_0 rfl rfl
theorem dX12_qKind_17 : decode cX12_qKind 17 = .ok (.getfield 165, 3) := yd_op_180 (i := 17) (a := 0) (b := 165) yd_by_cX12_qKind_0 rfl rfl
theorem dX12_qKind_20 : decode cX12_qKind 20 = .ok (.invokevirtual 273, 3) := yd_op_182 (i := 20) (a := 1) (b := 17) yd_by_cX12_qKind_0 rfl rfl
theorem dX12_qKind_23 : decode cX12_qKind 23 = .ok (.ifCond .eq 7, 3) := yd_op_153 (i := 23) (a := 0) (b := 7) yd_by_cX12_qKind_0 rfl rfl
theorem dX12_qKind_26 : decode cX12_qKind 26 = .ok (.iconst 1, 1) := yd_op_4 (i := 26) yd_by_cX12_qKind_0 rfl rfl
theorem dX12_qKind_27 : decode cX12_qKind 27 = .ok (.goto 49, 3) := yd_op_167 (i := 27) (a := 0) (b := 49) yd_by_cX12_qKind_0 rfl rfl
theorem dX12_qKind_30 : decode cX12_qKind 30 = .ok (.aload_n 0, 1) := yd_op_42 (i := 30) yd_by_cX12_qKind_0 rfl rfl
theorem dX12_qKind_31 : decode cX12_qKind 31 = .ok (.aload_n 0, 1) := yd_op_42 (i := 31) yd_by_cX12_qKind_0 rfl rfl
theorem dX12_qKind_32 : decode cX12_qKind 32 = .ok (.getfield 168, 3) := yd_op_180 (i := 32) (a := 0) (b := 168) yd_by_cX12_qKind_0 rfl rfl
theorem dX12_qKind_35 : decode cX12_qKind 35 = .ok (.invokevirtual 273, 3) := yd_op_182 (i := 35) (a := 1) (b := 17) yd_by_cX12_qKind_0 rfl rfl
theorem dX12_qKind_38 : decode cX12_qKind 38 = .ok (.ifCond .eq 7, 3) := yd_op_153 (i := 38) (a := 0) (b := 7) yd_by_cX12_qKind_0 rfl rfl
theorem dX12_qKind_41 : decode cX12_qKind 41 = .ok (.iconst 2, 1) := yd_op_5 (i := 41) yd_by_cX12_qKind_0 rfl rfl
set_option maxRecDepth 100000 in
theorem yd_by_cX12_qKind_1 : ydk cX12_qKind 42 [167, 0, 34, 42, 42, 180, 0, 171, 182, 1, 17, 153, 0, 7, 6, 167, 0, 19, 42, 42, 180, 0, 174, 182, 1, 17, 153, 0, 7, 7, 167, 0, 4, 8, 60, 27, 8, 160, 0, 11] = true := by decide +kernel
theorem dX12_qKind_42 : decode cX12_qKind 42 = .ok (.goto 34, 3) := yd_op_167 (i := 0) (a := 0) (b := 34) yd_by_cX12_qKind_1 rfl rfl
theorem dX12_qKind_45 : decode cX12_qKind 45 = .ok (.aload_n 0, 1) := yd_op_42 (i := 3) yd_by_cX12_qKind_1 rfl rfl
theorem dX12_qKind_46 : decode cX12_qKind 46 = .ok (.aload_n 0, 1) := yd_op_42 (i := 4) yd_by_cX12_qKind_1 rfl rfl
theorem dX12_qKind_47 : decode cX12_qKind 47 = .ok (.getfield 171, 3) := yd_op_180 (i := 5) (a := 0) (b := 171) yd_by_cX12_qKind_1 rfl rfl
theorem dX12_qKind_50 : decode cX12_qKind 50 = .ok (.invokevirtual 273, 3) := yd_op_182 (i := 8) (a := 1) (b := 17) yd_by_cX12_qKind_1 rfl rfl
theorem dX12_qKind_53 : decode cX12_qKind 53 = .ok (.ifCond .eq 7, 3) := yd_op_153 (i := 11) (a := 0) (b := 7) yd_by_cX12_qKind_1 rfl rfl
theorem dX12_qKind_56 : decode cX12_qKind 56 = .ok (.iconst 3, 1) := yd_op_6 (i := 14) yd_by_cX12_qKind_1 rfl rfl
theorem dX12_qKind_57 : decode cX12_qKind 57 = .ok (.goto 19, 3) := yd_op_167 (i := 15) (a := 0) (b := 19) yd_by_cX12_qKind_1 rfl rfl
theorem dX12_qKind_60 : decode cX12_qKind 60 = .ok (.aload_n 0, 1) := yd_op_42 (i := 18) yd_by_cX12_qKind_1 rfl rfl
theorem dX12_qKind_61 : decode cX12_qKind 61 = .ok (.aload_n 0, 1) := yd_op_42 (i := 19) yd_by_cX12_qKind_1 rfl rfl
theorem dX12_qKind_62 : decode cX12_qKind 62 = .ok (.getfield 174, 3) := yd_op_180 (i := 20) (a := 0) (b := 174) yd_by_cX12_qKind_1 rfl rfl
theorem dX12_qKind_65 : decode cX12_qKind 65 = .ok (.invokevirtual 273, 3) := yd_op_182 (i := 23) (a := 1) (b := 17) yd_by_cX12_qKind_1 rfl rfl
theorem dX12_qKind_68 : decode cX12_qKind 68 = .ok (.ifCond .eq 7, 3) := yd_op_153 (i := 26) (a := 0) (b := 7) yd_by_cX12_qKind_1 rfl rfl
theorem dX12_qKind_71 : decode cX12_qKind 71 = .ok (.iconst 4, 1) := yd_op_7 (i := 29) yd_by_cX12_qKind_1 rfl rfl
theorem dX12_qKind_72 : decode cX12_qKind 72 = .ok (.goto 4, 3) := yd_op_167 (i := 30) (a := 0) (b := 4) yd_by_cX12_qKind_1 rfl rfl
theorem dX12_qKind_75 : decode cX12_qKind 75 = .ok (.iconst 5, 1) := yd_op_8 (i := 33) yd_by_cX12_qKind_1 rfl rfl
theorem dX12_qKind_76 : decode cX12_qKind 76 = .ok (.istore_n 1, 1) := yd_op_60 (i := 34) yd_by_cX12_qKind_1 rfl rfl
theorem dX12_qKind_77 : decode cX12_qKind 77 = .ok (.iload_n 1, 1) := yd_op_27 (i := 35) yd_by_cX12_qKind_1 rfl rfl
theorem dX12_qKind_78 : decode cX12_qKind 78 = .ok (.iconst 5, 1) := yd_op_8 (i := 36) yd_by_cX12_qKind_1 rfl rfl
theorem dX12_qKind_79 : decode cX12_qKind 79 = .ok (.if_icmp .ne 11, 3) := yd_op_160 (i := 37) (a := 0) (b := 11) yd_by_cX12_qKind_1 rfl rfl
set_option maxRecDepth 100000 in
theorem yd_by_cX12_qKind_2 : ydk cX12_qKind 82 [42, 42, 180, 0, 177, 182, 1, 55, 27, 172] = true := by decide +kernel
theorem dX12_qKind_82 : decode cX12_qKind 82 = .ok (.aload_n 0, 1) := yd_op_42 (i := 0) yd_by_cX12_qKind_2 rfl rfl
theorem dX12_qKind_83 : decode cX12_qKind 83 = .ok (.aload_n 0, 1) := yd_op_42 (i := 1) yd_by_cX12_qKind_2 rfl rfl
theorem dX12_qKind_84 : decode cX12_qKind 84 = .ok (.getfield 177, 3) := yd_op_180 (i := 2) (a := 0) (b := 177) yd_by_cX12_qKind_2 rfl rfl
theorem dX12_qKind_87 : decode cX12_qKind 87 = .ok (.invokevirtual 311, 3) := yd_op_182 (i := 5) (a := 1) (b := 55) yd_by_cX12_qKind_2 rfl rfl
theorem dX12_qKind_90 : decode cX12_qKind 90 = .ok (.iload_n 1, 1) := yd_op_27 (i := 8) yd_by_cX12_qKind_2 rfl rfl
theorem dX12_qKind_91 : decode cX12_qKind 91 = .ok (.ireturn, 1) := yd_op_172 (i := 9) yd_by_cX12_qKind_2 rfl rfl
set_option maxRecDepth 100000 in
theorem yd_by_cX12_qTakes_0 : ydk cX12_qTakes 0 [27, 6, 162, 0, 13, 32, 10, 148, 154, 0, 7, 4, 167, 0, 4, 3, 54, 5, 27, 154, 0, 19, 21, 5, 153, 0, 14, 42, 180, 2, 122, 20, 2, 125, 148, 153, 0, 13] = true := by decide +kernel
theorem dX12_qTakes_0 : decode cX12_qTakes 0 = .ok (.iload_n 1, 1) := yd_op_27 (i := 0) yd_by_cX12_qTakes_0 rfl rfl
theorem dX12_qTakes_1 : decode cX12_qTakes 1 = .ok (.iconst 3, 1) := yd_op_6 (i := 1) yd_by_cX12_qTakes_0 rfl rfl
theorem dX12_qTakes_2 : decode cX12_qTakes 2 = .ok (.if_icmp .ge 13, 3) := yd_op_162 (i := 2) (a := 0) (b := 13) yd_by_cX12_qTakes_0 rfl rfl
theorem dX12_qTakes_5 : decode cX12_qTakes 5 = .ok (.lload_n 2, 1) := yd_op_32 (i := 5) yd_by_cX12_qTakes_0 rfl rfl
theorem dX12_qTakes_6 : decode cX12_qTakes 6 = .ok (.lconst 1, 1) := yd_op_10 (i := 6) yd_by_cX12_qTakes_0 rfl rfl
theorem dX12_qTakes_7 : decode cX12_qTakes 7 = .ok (.lcmp, 1) := yd_op_148 (i := 7) yd_by_cX12_qTakes_0 rfl rfl
theorem dX12_qTakes_8 : decode cX12_qTakes 8 = .ok (.ifCond .ne 7, 3) := yd_op_154 (i := 8) (a := 0) (b := 7) yd_by_cX12_qTakes_0 rfl rfl
theorem dX12_qTakes_11 : decode cX12_qTakes 11 = .ok (.iconst 1, 1) := yd_op_4 (i := 11) yd_by_cX12_qTakes_0 rfl rfl
theorem dX12_qTakes_12 : decode cX12_qTakes 12 = .ok (.goto 4, 3) := yd_op_167 (i := 12) (a := 0) (b := 4) yd_by_cX12_qTakes_0 rfl rfl
theorem dX12_qTakes_15 : decode cX12_qTakes 15 = .ok (.iconst 0, 1) := yd_op_3 (i := 15) yd_by_cX12_qTakes_0 rfl rfl
theorem dX12_qTakes_16 : decode cX12_qTakes 16 = .ok (.istore 5, 2) := yd_op_54 (i := 16) (a := 5) yd_by_cX12_qTakes_0 rfl rfl
theorem dX12_qTakes_18 : decode cX12_qTakes 18 = .ok (.iload_n 1, 1) := yd_op_27 (i := 18) yd_by_cX12_qTakes_0 rfl rfl
theorem dX12_qTakes_19 : decode cX12_qTakes 19 = .ok (.ifCond .ne 19, 3) := yd_op_154 (i := 19) (a := 0) (b := 19) yd_by_cX12_qTakes_0 rfl rfl
theorem dX12_qTakes_22 : decode cX12_qTakes 22 = .ok (.iload 5, 2) := yd_op_21 (i := 22) (a := 5) yd_by_cX12_qTakes_0 rfl rfl
theorem dX12_qTakes_24 : decode cX12_qTakes 24 = .ok (.ifCond .eq 14, 3) := yd_op_153 (i := 24) (a := 0) (b := 14) yd_by_cX12_qTakes_0 rfl rfl
theorem dX12_qTakes_27 : decode cX12_qTakes 27 = .ok (.aload_n 0, 1) := yd_op_42 (i := 27) yd_by_cX12_qTakes_0 rfl rfl
theorem dX12_qTakes_28 : decode cX12_qTakes 28 = .ok (.getfield 634, 3) := yd_op_180 (i := 28) (a := 2) (b := 122) yd_by_cX12_qTakes_0 rfl rfl
theorem dX12_qTakes_31 : decode cX12_qTakes 31 = .ok (.ldc2_w 637, 3) := yd_op_20 (i := 31) (a := 2) (b := 125) yd_by_cX12_qTakes_0 rfl rfl
theorem dX12_qTakes_34 : decode cX12_qTakes 34 = .ok (.lcmp, 1) := yd_op_148 (i := 34) yd_by_cX12_qTakes_0 rfl rfl
theorem dX12_qTakes_35 : decode cX12_qTakes 35 = .ok (.ifCond .eq 13, 3) := yd_op_153 (i := 35) (a := 0) (b := 13) yd_by_cX12_qTakes_0 rfl rfl
set_option maxRecDepth 100000 in
theorem yd_by_cX12_qTakes_1 : ydk cX12_qTakes 38 [27, 4, 160, 0, 15, 21, 5, 153, 0, 10, 42, 21, 4, 133, 181, 2, 122, 27, 5, 160, 0, 18, 21, 5, 153, 0, 13, 42, 89, 180, 2, 122, 10, 97, 181, 2, 122] = true := by decide +kernel
theorem dX12_qTakes_38 : decode cX12_qTakes 38 = .ok (.iload_n 1, 1) := yd_op_27 (i := 0) yd_by_cX12_qTakes_1 rfl rfl
theorem dX12_qTakes_39 : decode cX12_qTakes 39 = .ok (.iconst 1, 1) := yd_op_4 (i := 1) yd_by_cX12_qTakes_1 rfl rfl
theorem dX12_qTakes_40 : decode cX12_qTakes 40 = .ok (.if_icmp .ne 15, 3) := yd_op_160 (i := 2) (a := 0) (b := 15) yd_by_cX12_qTakes_1 rfl rfl
theorem dX12_qTakes_43 : decode cX12_qTakes 43 = .ok (.iload 5, 2) := yd_op_21 (i := 5) (a := 5) yd_by_cX12_qTakes_1 rfl rfl
theorem dX12_qTakes_45 : decode cX12_qTakes 45 = .ok (.ifCond .eq 10, 3) := yd_op_153 (i := 7) (a := 0) (b := 10) yd_by_cX12_qTakes_1 rfl rfl
theorem dX12_qTakes_48 : decode cX12_qTakes 48 = .ok (.aload_n 0, 1) := yd_op_42 (i := 10) yd_by_cX12_qTakes_1 rfl rfl
theorem dX12_qTakes_49 : decode cX12_qTakes 49 = .ok (.iload 4, 2) := yd_op_21 (i := 11) (a := 4) yd_by_cX12_qTakes_1 rfl rfl
theorem dX12_qTakes_51 : decode cX12_qTakes 51 = .ok (.i2l, 1) := yd_op_133 (i := 13) yd_by_cX12_qTakes_1 rfl rfl
theorem dX12_qTakes_52 : decode cX12_qTakes 52 = .ok (.putfield 634, 3) := yd_op_181 (i := 14) (a := 2) (b := 122) yd_by_cX12_qTakes_1 rfl rfl
theorem dX12_qTakes_55 : decode cX12_qTakes 55 = .ok (.iload_n 1, 1) := yd_op_27 (i := 17) yd_by_cX12_qTakes_1 rfl rfl
theorem dX12_qTakes_56 : decode cX12_qTakes 56 = .ok (.iconst 2, 1) := yd_op_5 (i := 18) yd_by_cX12_qTakes_1 rfl rfl
theorem dX12_qTakes_57 : decode cX12_qTakes 57 = .ok (.if_icmp .ne 18, 3) := yd_op_160 (i := 19) (a := 0) (b := 18) yd_by_cX12_qTakes_1 rfl rfl
theorem dX12_qTakes_60 : decode cX12_qTakes 60 = .ok (.iload 5, 2) := yd_op_21 (i := 22) (a := 5) yd_by_cX12_qTakes_1 rfl rfl
theorem dX12_qTakes_62 : decode cX12_qTakes 62 = .ok (.ifCond .eq 13, 3) := yd_op_153 (i := 24) (a := 0) (b := 13) yd_by_cX12_qTakes_1 rfl rfl
theorem dX12_qTakes_65 : decode cX12_qTakes 65 = .ok (.aload_n 0, 1) := yd_op_42 (i := 27) yd_by_cX12_qTakes_1 rfl rfl
theorem dX12_qTakes_66 : decode cX12_qTakes 66 = .ok (.dup, 1) := yd_op_89 (i := 28) yd_by_cX12_qTakes_1 rfl rfl
theorem dX12_qTakes_67 : decode cX12_qTakes 67 = .ok (.getfield 634, 3) := yd_op_180 (i := 29) (a := 2) (b := 122) yd_by_cX12_qTakes_1 rfl rfl
theorem dX12_qTakes_70 : decode cX12_qTakes 70 = .ok (.lconst 1, 1) := yd_op_10 (i := 32) yd_by_cX12_qTakes_1 rfl rfl
theorem dX12_qTakes_71 : decode cX12_qTakes 71 = .ok (.ladd, 1) := yd_op_97 (i := 33) yd_by_cX12_qTakes_1 rfl rfl
theorem dX12_qTakes_72 : decode cX12_qTakes 72 = .ok (.putfield 634, 3) := yd_op_181 (i := 34) (a := 2) (b := 122) yd_by_cX12_qTakes_1 rfl rfl
set_option maxRecDepth 100000 in
theorem yd_by_cX12_qTakes_2 : ydk cX12_qTakes 75 [27, 6, 160, 0, 13, 42, 89, 180, 2, 122, 32, 97, 181, 2, 122, 27, 6, 164, 0, 41, 42, 180, 2, 127, 154, 0, 29, 27, 7, 160, 0, 15, 32, 42] = true := by decide +kernel
theorem dX12_qTakes_75 : decode cX12_qTakes 75 = .ok (.iload_n 1, 1) := yd_op_27 (i := 0) yd_by_cX12_qTakes_2 rfl rfl
theorem dX12_qTakes_76 : decode cX12_qTakes 76 = .ok (.iconst 3, 1) := yd_op_6 (i := 1) yd_by_cX12_qTakes_2 rfl rfl
theorem dX12_qTakes_77 : decode cX12_qTakes 77 = .ok (.if_icmp .ne 13, 3) := yd_op_160 (i := 2) (a := 0) (b := 13) yd_by_cX12_qTakes_2 rfl rfl
theorem dX12_qTakes_80 : decode cX12_qTakes 80 = .ok (.aload_n 0, 1) := yd_op_42 (i := 5) yd_by_cX12_qTakes_2 rfl rfl
theorem dX12_qTakes_81 : decode cX12_qTakes 81 = .ok (.dup, 1) := yd_op_89 (i := 6) yd_by_cX12_qTakes_2 rfl rfl
theorem dX12_qTakes_82 : decode cX12_qTakes 82 = .ok (.getfield 634, 3) := yd_op_180 (i := 7) (a := 2) (b := 122) yd_by_cX12_qTakes_2 rfl rfl
theorem dX12_qTakes_85 : decode cX12_qTakes 85 = .ok (.lload_n 2, 1) := yd_op_32 (i := 10) yd_by_cX12_qTakes_2 rfl rfl
theorem dX12_qTakes_86 : decode cX12_qTakes 86 = .ok (.ladd, 1) := yd_op_97 (i := 11) yd_by_cX12_qTakes_2 rfl rfl
theorem dX12_qTakes_87 : decode cX12_qTakes 87 = .ok (.putfield 634, 3) := yd_op_181 (i := 12) (a := 2) (b := 122) yd_by_cX12_qTakes_2 rfl rfl
theorem dX12_qTakes_90 : decode cX12_qTakes 90 = .ok (.iload_n 1, 1) := yd_op_27 (i := 15) yd_by_cX12_qTakes_2 rfl rfl
theorem dX12_qTakes_91 : decode cX12_qTakes 91 = .ok (.iconst 3, 1) := yd_op_6 (i := 16) yd_by_cX12_qTakes_2 rfl rfl
theorem dX12_qTakes_92 : decode cX12_qTakes 92 = .ok (.if_icmp .le 41, 3) := yd_op_164 (i := 17) (a := 0) (b := 41) yd_by_cX12_qTakes_2 rfl rfl
theorem dX12_qTakes_95 : decode cX12_qTakes 95 = .ok (.aload_n 0, 1) := yd_op_42 (i := 20) yd_by_cX12_qTakes_2 rfl rfl
theorem dX12_qTakes_96 : decode cX12_qTakes 96 = .ok (.getfield 639, 3) := yd_op_180 (i := 21) (a := 2) (b := 127) yd_by_cX12_qTakes_2 rfl rfl
theorem dX12_qTakes_99 : decode cX12_qTakes 99 = .ok (.ifCond .ne 29, 3) := yd_op_154 (i := 24) (a := 0) (b := 29) yd_by_cX12_qTakes_2 rfl rfl
theorem dX12_qTakes_102 : decode cX12_qTakes 102 = .ok (.iload_n 1, 1) := yd_op_27 (i := 27) yd_by_cX12_qTakes_2 rfl rfl
theorem dX12_qTakes_103 : decode cX12_qTakes 103 = .ok (.iconst 4, 1) := yd_op_7 (i := 28) yd_by_cX12_qTakes_2 rfl rfl
theorem dX12_qTakes_104 : decode cX12_qTakes 104 = .ok (.if_icmp .ne 15, 3) := yd_op_160 (i := 29) (a := 0) (b := 15) yd_by_cX12_qTakes_2 rfl rfl
theorem dX12_qTakes_107 : decode cX12_qTakes 107 = .ok (.lload_n 2, 1) := yd_op_32 (i := 32) yd_by_cX12_qTakes_2 rfl rfl
theorem dX12_qTakes_108 : decode cX12_qTakes 108 = .ok (.aload_n 0, 1) := yd_op_42 (i := 33) yd_by_cX12_qTakes_2 rfl rfl
set_option maxRecDepth 100000 in
theorem yd_by_cX12_qTakes_3 : ydk cX12_qTakes 109 [180, 2, 122, 148, 158, 0, 20, 167, 0, 12, 32, 42, 180, 2, 122, 148, 156, 0, 8, 42, 32, 181, 2, 122, 42, 3, 181, 2, 127, 177] = true := by decide +kernel
theorem dX12_qTakes_109 : decode cX12_qTakes 109 = .ok (.getfield 634, 3) := yd_op_180 (i := 0) (a := 2) (b := 122) yd_by_cX12_qTakes_3 rfl rfl
theorem dX12_qTakes_112 : decode cX12_qTakes 112 = .ok (.lcmp, 1) := yd_op_148 (i := 3) yd_by_cX12_qTakes_3 rfl rfl
theorem dX12_qTakes_113 : decode cX12_qTakes 113 = .ok (.ifCond .le 20, 3) := yd_op_158 (i := 4) (a := 0) (b := 20) yd_by_cX12_qTakes_3 rfl rfl
theorem dX12_qTakes_116 : decode cX12_qTakes 116 = .ok (.goto 12, 3) := yd_op_167 (i := 7) (a := 0) (b := 12) yd_by_cX12_qTakes_3 rfl rfl
theorem dX12_qTakes_119 : decode cX12_qTakes 119 = .ok (.lload_n 2, 1) := yd_op_32 (i := 10) yd_by_cX12_qTakes_3 rfl rfl
theorem dX12_qTakes_120 : decode cX12_qTakes 120 = .ok (.aload_n 0, 1) := yd_op_42 (i := 11) yd_by_cX12_qTakes_3 rfl rfl
theorem dX12_qTakes_121 : decode cX12_qTakes 121 = .ok (.getfield 634, 3) := yd_op_180 (i := 12) (a := 2) (b := 122) yd_by_cX12_qTakes_3 rfl rfl
theorem dX12_qTakes_124 : decode cX12_qTakes 124 = .ok (.lcmp, 1) := yd_op_148 (i := 15) yd_by_cX12_qTakes_3 rfl rfl
theorem dX12_qTakes_125 : decode cX12_qTakes 125 = .ok (.ifCond .ge 8, 3) := yd_op_156 (i := 16) (a := 0) (b := 8) yd_by_cX12_qTakes_3 rfl rfl
theorem dX12_qTakes_128 : decode cX12_qTakes 128 = .ok (.aload_n 0, 1) := yd_op_42 (i := 19) yd_by_cX12_qTakes_3 rfl rfl
theorem dX12_qTakes_129 : decode cX12_qTakes 129 = .ok (.lload_n 2, 1) := yd_op_32 (i := 20) yd_by_cX12_qTakes_3 rfl rfl
theorem dX12_qTakes_130 : decode cX12_qTakes 130 = .ok (.putfield 634, 3) := yd_op_181 (i := 21) (a := 2) (b := 122) yd_by_cX12_qTakes_3 rfl rfl
theorem dX12_qTakes_133 : decode cX12_qTakes 133 = .ok (.aload_n 0, 1) := yd_op_42 (i := 24) yd_by_cX12_qTakes_3 rfl rfl
theorem dX12_qTakes_134 : decode cX12_qTakes 134 = .ok (.iconst 0, 1) := yd_op_3 (i := 25) yd_by_cX12_qTakes_3 rfl rfl
theorem dX12_qTakes_135 : decode cX12_qTakes 135 = .ok (.putfield 639, 3) := yd_op_181 (i := 26) (a := 2) (b := 127) yd_by_cX12_qTakes_3 rfl rfl
theorem dX12_qTakes_138 : decode cX12_qTakes 138 = .ok (.return_, 1) := yd_op_177 (i := 29) yd_by_cX12_qTakes_3 rfl rfl
set_option maxRecDepth 100000 in
theorem yd_by_cX12_ask_0 : ydk cX12_ask 0 [42, 180, 1, 119, 154, 0, 12, 42, 3, 181, 0, 243, 20, 1, 228, 173, 42, 42, 180, 0, 243, 181, 0, 255, 42, 3, 181, 0, 243, 42, 3, 181, 0, 252, 42, 2] = true := by decide +kernel
theorem dX12_ask_0 : decode cX12_ask 0 = .ok (.aload_n 0, 1) := yd_op_42 (i := 0) yd_by_cX12_ask_0 rfl rfl
theorem dX12_ask_1 : decode cX12_ask 1 = .ok (.getfield 375, 3) := yd_op_180 (i := 1) (a := 1) (b := 119) yd_by_cX12_ask_0 rfl rfl
theorem dX12_ask_4 : decode cX12_ask 4 = .ok (.ifCond .ne 12, 3) := yd_op_154 (i := 4) (a := 0) (b := 12) yd_by_cX12_ask_0 rfl rfl
theorem dX12_ask_7 : decode cX12_ask 7 = .ok (.aload_n 0, 1) := yd_op_42 (i := 7) yd_by_cX12_ask_0 rfl rfl
theorem dX12_ask_8 : decode cX12_ask 8 = .ok (.iconst 0, 1) := yd_op_3 (i := 8) yd_by_cX12_ask_0 rfl rfl
theorem dX12_ask_9 : decode cX12_ask 9 = .ok (.putfield 243, 3) := yd_op_181 (i := 9) (a := 0) (b := 243) yd_by_cX12_ask_0 rfl rfl
theorem dX12_ask_12 : decode cX12_ask 12 = .ok (.ldc2_w 484, 3) := yd_op_20 (i := 12) (a := 1) (b := 228) yd_by_cX12_ask_0 rfl rfl
theorem dX12_ask_15 : decode cX12_ask 15 = .ok (.lreturn, 1) := yd_op_173 (i := 15) yd_by_cX12_ask_0 rfl rfl
theorem dX12_ask_16 : decode cX12_ask 16 = .ok (.aload_n 0, 1) := yd_op_42 (i := 16) yd_by_cX12_ask_0 rfl rfl
theorem dX12_ask_17 : decode cX12_ask 17 = .ok (.aload_n 0, 1) := yd_op_42 (i := 17) yd_by_cX12_ask_0 rfl rfl
theorem dX12_ask_18 : decode cX12_ask 18 = .ok (.getfield 243, 3) := yd_op_180 (i := 18) (a := 0) (b := 243) yd_by_cX12_ask_0 rfl rfl
theorem dX12_ask_21 : decode cX12_ask 21 = .ok (.putfield 255, 3) := yd_op_181 (i := 21) (a := 0) (b := 255) yd_by_cX12_ask_0 rfl rfl
theorem dX12_ask_24 : decode cX12_ask 24 = .ok (.aload_n 0, 1) := yd_op_42 (i := 24) yd_by_cX12_ask_0 rfl rfl
theorem dX12_ask_25 : decode cX12_ask 25 = .ok (.iconst 0, 1) := yd_op_3 (i := 25) yd_by_cX12_ask_0 rfl rfl
theorem dX12_ask_26 : decode cX12_ask 26 = .ok (.putfield 243, 3) := yd_op_181 (i := 26) (a := 0) (b := 243) yd_by_cX12_ask_0 rfl rfl
theorem dX12_ask_29 : decode cX12_ask 29 = .ok (.aload_n 0, 1) := yd_op_42 (i := 29) yd_by_cX12_ask_0 rfl rfl
theorem dX12_ask_30 : decode cX12_ask 30 = .ok (.iconst 0, 1) := yd_op_3 (i := 30) yd_by_cX12_ask_0 rfl rfl
theorem dX12_ask_31 : decode cX12_ask 31 = .ok (.putfield 252, 3) := yd_op_181 (i := 31) (a := 0) (b := 252) yd_by_cX12_ask_0 rfl rfl
theorem dX12_ask_34 : decode cX12_ask 34 = .ok (.aload_n 0, 1) := yd_op_42 (i := 34) yd_by_cX12_ask_0 rfl rfl
theorem dX12_ask_35 : decode cX12_ask 35 = .ok (.iconst (-1), 1) := yd_op_2 (i := 35) yd_by_cX12_ask_0 rfl rfl
set_option maxRecDepth 100000 in
theorem yd_by_cX12_ask_1 : ydk cX12_ask 36 [181, 1, 10, 42, 3, 181, 0, 246, 42, 2, 181, 0, 249, 42, 5, 181, 1, 48, 42, 3, 181, 1, 74, 42, 3, 181, 1, 77, 42, 3, 181, 1, 80, 42] = true := by decide +kernel
theorem dX12_ask_36 : decode cX12_ask 36 = .ok (.putfield 266, 3) := yd_op_181 (i := 0) (a := 1) (b := 10) yd_by_cX12_ask_1 rfl rfl
theorem dX12_ask_39 : decode cX12_ask 39 = .ok (.aload_n 0, 1) := yd_op_42 (i := 3) yd_by_cX12_ask_1 rfl rfl
theorem dX12_ask_40 : decode cX12_ask 40 = .ok (.iconst 0, 1) := yd_op_3 (i := 4) yd_by_cX12_ask_1 rfl rfl
theorem dX12_ask_41 : decode cX12_ask 41 = .ok (.putfield 246, 3) := yd_op_181 (i := 5) (a := 0) (b := 246) yd_by_cX12_ask_1 rfl rfl
theorem dX12_ask_44 : decode cX12_ask 44 = .ok (.aload_n 0, 1) := yd_op_42 (i := 8) yd_by_cX12_ask_1 rfl rfl
theorem dX12_ask_45 : decode cX12_ask 45 = .ok (.iconst (-1), 1) := yd_op_2 (i := 9) yd_by_cX12_ask_1 rfl rfl
theorem dX12_ask_46 : decode cX12_ask 46 = .ok (.putfield 249, 3) := yd_op_181 (i := 10) (a := 0) (b := 249) yd_by_cX12_ask_1 rfl rfl
theorem dX12_ask_49 : decode cX12_ask 49 = .ok (.aload_n 0, 1) := yd_op_42 (i := 13) yd_by_cX12_ask_1 rfl rfl
theorem dX12_ask_50 : decode cX12_ask 50 = .ok (.iconst 2, 1) := yd_op_5 (i := 14) yd_by_cX12_ask_1 rfl rfl
theorem dX12_ask_51 : decode cX12_ask 51 = .ok (.putfield 304, 3) := yd_op_181 (i := 15) (a := 1) (b := 48) yd_by_cX12_ask_1 rfl rfl
theorem dX12_ask_54 : decode cX12_ask 54 = .ok (.aload_n 0, 1) := yd_op_42 (i := 18) yd_by_cX12_ask_1 rfl rfl
theorem dX12_ask_55 : decode cX12_ask 55 = .ok (.iconst 0, 1) := yd_op_3 (i := 19) yd_by_cX12_ask_1 rfl rfl
theorem dX12_ask_56 : decode cX12_ask 56 = .ok (.putfield 330, 3) := yd_op_181 (i := 20) (a := 1) (b := 74) yd_by_cX12_ask_1 rfl rfl
theorem dX12_ask_59 : decode cX12_ask 59 = .ok (.aload_n 0, 1) := yd_op_42 (i := 23) yd_by_cX12_ask_1 rfl rfl
theorem dX12_ask_60 : decode cX12_ask 60 = .ok (.iconst 0, 1) := yd_op_3 (i := 24) yd_by_cX12_ask_1 rfl rfl
theorem dX12_ask_61 : decode cX12_ask 61 = .ok (.putfield 333, 3) := yd_op_181 (i := 25) (a := 1) (b := 77) yd_by_cX12_ask_1 rfl rfl
theorem dX12_ask_64 : decode cX12_ask 64 = .ok (.aload_n 0, 1) := yd_op_42 (i := 28) yd_by_cX12_ask_1 rfl rfl
theorem dX12_ask_65 : decode cX12_ask 65 = .ok (.iconst 0, 1) := yd_op_3 (i := 29) yd_by_cX12_ask_1 rfl rfl
theorem dX12_ask_66 : decode cX12_ask 66 = .ok (.putfield 336, 3) := yd_op_181 (i := 30) (a := 1) (b := 80) yd_by_cX12_ask_1 rfl rfl
theorem dX12_ask_69 : decode cX12_ask 69 = .ok (.aload_n 0, 1) := yd_op_42 (i := 33) yd_by_cX12_ask_1 rfl rfl
set_option maxRecDepth 100000 in
theorem yd_by_cX12_ask_2 : ydk cX12_ask 70 [3, 181, 1, 83, 42, 182, 2, 130, 60, 42, 180, 0, 246, 154, 0, 15, 27, 6, 162, 0, 10, 42, 182, 1, 86, 167, 0, 14, 42, 180, 0, 246, 154, 0, 7, 42, 182, 1, 89, 42] = true := by decide +kernel
theorem dX12_ask_70 : decode cX12_ask 70 = .ok (.iconst 0, 1) := yd_op_3 (i := 0) yd_by_cX12_ask_2 rfl rfl
theorem dX12_ask_71 : decode cX12_ask 71 = .ok (.putfield 339, 3) := yd_op_181 (i := 1) (a := 1) (b := 83) yd_by_cX12_ask_2 rfl rfl
theorem dX12_ask_74 : decode cX12_ask 74 = .ok (.aload_n 0, 1) := yd_op_42 (i := 4) yd_by_cX12_ask_2 rfl rfl
theorem dX12_ask_75 : decode cX12_ask 75 = .ok (.invokevirtual 642, 3) := yd_op_182 (i := 5) (a := 2) (b := 130) yd_by_cX12_ask_2 rfl rfl
theorem dX12_ask_78 : decode cX12_ask 78 = .ok (.istore_n 1, 1) := yd_op_60 (i := 8) yd_by_cX12_ask_2 rfl rfl
theorem dX12_ask_79 : decode cX12_ask 79 = .ok (.aload_n 0, 1) := yd_op_42 (i := 9) yd_by_cX12_ask_2 rfl rfl
theorem dX12_ask_80 : decode cX12_ask 80 = .ok (.getfield 246, 3) := yd_op_180 (i := 10) (a := 0) (b := 246) yd_by_cX12_ask_2 rfl rfl
theorem dX12_ask_83 : decode cX12_ask 83 = .ok (.ifCond .ne 15, 3) := yd_op_154 (i := 13) (a := 0) (b := 15) yd_by_cX12_ask_2 rfl rfl
theorem dX12_ask_86 : decode cX12_ask 86 = .ok (.iload_n 1, 1) := yd_op_27 (i := 16) yd_by_cX12_ask_2 rfl rfl
theorem dX12_ask_87 : decode cX12_ask 87 = .ok (.iconst 3, 1) := yd_op_6 (i := 17) yd_by_cX12_ask_2 rfl rfl
theorem dX12_ask_88 : decode cX12_ask 88 = .ok (.if_icmp .ge 10, 3) := yd_op_162 (i := 18) (a := 0) (b := 10) yd_by_cX12_ask_2 rfl rfl
theorem dX12_ask_91 : decode cX12_ask 91 = .ok (.aload_n 0, 1) := yd_op_42 (i := 21) yd_by_cX12_ask_2 rfl rfl
theorem dX12_ask_92 : decode cX12_ask 92 = .ok (.invokevirtual 342, 3) := yd_op_182 (i := 22) (a := 1) (b := 86) yd_by_cX12_ask_2 rfl rfl
theorem dX12_ask_95 : decode cX12_ask 95 = .ok (.goto 14, 3) := yd_op_167 (i := 25) (a := 0) (b := 14) yd_by_cX12_ask_2 rfl rfl
theorem dX12_ask_98 : decode cX12_ask 98 = .ok (.aload_n 0, 1) := yd_op_42 (i := 28) yd_by_cX12_ask_2 rfl rfl
theorem dX12_ask_99 : decode cX12_ask 99 = .ok (.getfield 246, 3) := yd_op_180 (i := 29) (a := 0) (b := 246) yd_by_cX12_ask_2 rfl rfl
theorem dX12_ask_102 : decode cX12_ask 102 = .ok (.ifCond .ne 7, 3) := yd_op_154 (i := 32) (a := 0) (b := 7) yd_by_cX12_ask_2 rfl rfl
theorem dX12_ask_105 : decode cX12_ask 105 = .ok (.aload_n 0, 1) := yd_op_42 (i := 35) yd_by_cX12_ask_2 rfl rfl
theorem dX12_ask_106 : decode cX12_ask 106 = .ok (.invokevirtual 345, 3) := yd_op_182 (i := 36) (a := 1) (b := 89) yd_by_cX12_ask_2 rfl rfl
theorem dX12_ask_109 : decode cX12_ask 109 = .ok (.aload_n 0, 1) := yd_op_42 (i := 39) yd_by_cX12_ask_2 rfl rfl
set_option maxRecDepth 100000 in
theorem yd_by_cX12_ask_3 : ydk cX12_ask 110 [180, 0, 246, 154, 0, 20, 42, 182, 1, 2, 2, 159, 0, 12, 42, 4, 42, 180, 0, 252, 182, 1, 20, 42, 42, 180, 0, 246, 181, 1, 113, 42, 42, 180, 0, 249, 181, 0, 13, 42] = true := by decide +kernel
theorem dX12_ask_110 : decode cX12_ask 110 = .ok (.getfield 246, 3) := yd_op_180 (i := 0) (a := 0) (b := 246) yd_by_cX12_ask_3 rfl rfl
theorem dX12_ask_113 : decode cX12_ask 113 = .ok (.ifCond .ne 20, 3) := yd_op_154 (i := 3) (a := 0) (b := 20) yd_by_cX12_ask_3 rfl rfl
theorem dX12_ask_116 : decode cX12_ask 116 = .ok (.aload_n 0, 1) := yd_op_42 (i := 6) yd_by_cX12_ask_3 rfl rfl
theorem dX12_ask_117 : decode cX12_ask 117 = .ok (.invokevirtual 258, 3) := yd_op_182 (i := 7) (a := 1) (b := 2) yd_by_cX12_ask_3 rfl rfl
theorem dX12_ask_120 : decode cX12_ask 120 = .ok (.iconst (-1), 1) := yd_op_2 (i := 10) yd_by_cX12_ask_3 rfl rfl
theorem dX12_ask_121 : decode cX12_ask 121 = .ok (.if_icmp .eq 12, 3) := yd_op_159 (i := 11) (a := 0) (b := 12) yd_by_cX12_ask_3 rfl rfl
theorem dX12_ask_124 : decode cX12_ask 124 = .ok (.aload_n 0, 1) := yd_op_42 (i := 14) yd_by_cX12_ask_3 rfl rfl
theorem dX12_ask_125 : decode cX12_ask 125 = .ok (.iconst 1, 1) := yd_op_4 (i := 15) yd_by_cX12_ask_3 rfl rfl
theorem dX12_ask_126 : decode cX12_ask 126 = .ok (.aload_n 0, 1) := yd_op_42 (i := 16) yd_by_cX12_ask_3 rfl rfl
theorem dX12_ask_127 : decode cX12_ask 127 = .ok (.getfield 252, 3) := yd_op_180 (i := 17) (a := 0) (b := 252) yd_by_cX12_ask_3 rfl rfl
theorem dX12_ask_130 : decode cX12_ask 130 = .ok (.invokevirtual 276, 3) := yd_op_182 (i := 20) (a := 1) (b := 20) yd_by_cX12_ask_3 rfl rfl
theorem dX12_ask_133 : decode cX12_ask 133 = .ok (.aload_n 0, 1) := yd_op_42 (i := 23) yd_by_cX12_ask_3 rfl rfl
theorem dX12_ask_134 : decode cX12_ask 134 = .ok (.aload_n 0, 1) := yd_op_42 (i := 24) yd_by_cX12_ask_3 rfl rfl
theorem dX12_ask_135 : decode cX12_ask 135 = .ok (.getfield 246, 3) := yd_op_180 (i := 25) (a := 0) (b := 246) yd_by_cX12_ask_3 rfl rfl
theorem dX12_ask_138 : decode cX12_ask 138 = .ok (.putfield 369, 3) := yd_op_181 (i := 28) (a := 1) (b := 113) yd_by_cX12_ask_3 rfl rfl
theorem dX12_ask_141 : decode cX12_ask 141 = .ok (.aload_n 0, 1) := yd_op_42 (i := 31) yd_by_cX12_ask_3 rfl rfl
theorem dX12_ask_142 : decode cX12_ask 142 = .ok (.aload_n 0, 1) := yd_op_42 (i := 32) yd_by_cX12_ask_3 rfl rfl
theorem dX12_ask_143 : decode cX12_ask 143 = .ok (.getfield 249, 3) := yd_op_180 (i := 33) (a := 0) (b := 249) yd_by_cX12_ask_3 rfl rfl
theorem dX12_ask_146 : decode cX12_ask 146 = .ok (.putfield 13, 3) := yd_op_181 (i := 36) (a := 0) (b := 13) yd_by_cX12_ask_3 rfl rfl
theorem dX12_ask_149 : decode cX12_ask 149 = .ok (.aload_n 0, 1) := yd_op_42 (i := 39) yd_by_cX12_ask_3 rfl rfl
set_option maxRecDepth 100000 in
theorem yd_by_cX12_ask_4 : ydk cX12_ask 150 [180, 0, 246, 153, 0, 7, 20, 1, 228, 173, 42, 27, 5, 162, 0, 9, 20, 2, 125, 167, 0, 4, 9, 181, 2, 122, 42, 4, 181, 2, 127, 42, 42, 182, 1, 195, 181, 2, 115, 42] = true := by decide +kernel
theorem dX12_ask_150 : decode cX12_ask 150 = .ok (.getfield 246, 3) := yd_op_180 (i := 0) (a := 0) (b := 246) yd_by_cX12_ask_4 rfl rfl
theorem dX12_ask_153 : decode cX12_ask 153 = .ok (.ifCond .eq 7, 3) := yd_op_153 (i := 3) (a := 0) (b := 7) yd_by_cX12_ask_4 rfl rfl
theorem dX12_ask_156 : decode cX12_ask 156 = .ok (.ldc2_w 484, 3) := yd_op_20 (i := 6) (a := 1) (b := 228) yd_by_cX12_ask_4 rfl rfl
theorem dX12_ask_159 : decode cX12_ask 159 = .ok (.lreturn, 1) := yd_op_173 (i := 9) yd_by_cX12_ask_4 rfl rfl
theorem dX12_ask_160 : decode cX12_ask 160 = .ok (.aload_n 0, 1) := yd_op_42 (i := 10) yd_by_cX12_ask_4 rfl rfl
theorem dX12_ask_161 : decode cX12_ask 161 = .ok (.iload_n 1, 1) := yd_op_27 (i := 11) yd_by_cX12_ask_4 rfl rfl
theorem dX12_ask_162 : decode cX12_ask 162 = .ok (.iconst 2, 1) := yd_op_5 (i := 12) yd_by_cX12_ask_4 rfl rfl
theorem dX12_ask_163 : decode cX12_ask 163 = .ok (.if_icmp .ge 9, 3) := yd_op_162 (i := 13) (a := 0) (b := 9) yd_by_cX12_ask_4 rfl rfl
theorem dX12_ask_166 : decode cX12_ask 166 = .ok (.ldc2_w 637, 3) := yd_op_20 (i := 16) (a := 2) (b := 125) yd_by_cX12_ask_4 rfl rfl
theorem dX12_ask_169 : decode cX12_ask 169 = .ok (.goto 4, 3) := yd_op_167 (i := 19) (a := 0) (b := 4) yd_by_cX12_ask_4 rfl rfl
theorem dX12_ask_172 : decode cX12_ask 172 = .ok (.lconst 0, 1) := yd_op_9 (i := 22) yd_by_cX12_ask_4 rfl rfl
theorem dX12_ask_173 : decode cX12_ask 173 = .ok (.putfield 634, 3) := yd_op_181 (i := 23) (a := 2) (b := 122) yd_by_cX12_ask_4 rfl rfl
theorem dX12_ask_176 : decode cX12_ask 176 = .ok (.aload_n 0, 1) := yd_op_42 (i := 26) yd_by_cX12_ask_4 rfl rfl
theorem dX12_ask_177 : decode cX12_ask 177 = .ok (.iconst 1, 1) := yd_op_4 (i := 27) yd_by_cX12_ask_4 rfl rfl
theorem dX12_ask_178 : decode cX12_ask 178 = .ok (.putfield 639, 3) := yd_op_181 (i := 28) (a := 2) (b := 127) yd_by_cX12_ask_4 rfl rfl
theorem dX12_ask_181 : decode cX12_ask 181 = .ok (.aload_n 0, 1) := yd_op_42 (i := 31) yd_by_cX12_ask_4 rfl rfl
theorem dX12_ask_182 : decode cX12_ask 182 = .ok (.aload_n 0, 1) := yd_op_42 (i := 32) yd_by_cX12_ask_4 rfl rfl
theorem dX12_ask_183 : decode cX12_ask 183 = .ok (.invokevirtual 451, 3) := yd_op_182 (i := 33) (a := 1) (b := 195) yd_by_cX12_ask_4 rfl rfl
theorem dX12_ask_186 : decode cX12_ask 186 = .ok (.putfield 627, 3) := yd_op_181 (i := 36) (a := 2) (b := 115) yd_by_cX12_ask_4 rfl rfl
theorem dX12_ask_189 : decode cX12_ask 189 = .ok (.aload_n 0, 1) := yd_op_42 (i := 39) yd_by_cX12_ask_4 rfl rfl
set_option maxRecDepth 100000 in
theorem yd_by_cX12_ask_5 : ydk cX12_ask 190 [5, 181, 1, 48, 3, 61, 28, 42, 182, 1, 129, 162, 0, 20, 42, 27, 42, 28, 182, 2, 133, 28, 182, 2, 137, 132, 2, 1, 167, 255, 234, 42, 180, 2, 122, 173] = true := by decide +kernel
theorem dX12_ask_190 : decode cX12_ask 190 = .ok (.iconst 2, 1) := yd_op_5 (i := 0) yd_by_cX12_ask_5 rfl rfl
theorem dX12_ask_191 : decode cX12_ask 191 = .ok (.putfield 304, 3) := yd_op_181 (i := 1) (a := 1) (b := 48) yd_by_cX12_ask_5 rfl rfl
theorem dX12_ask_194 : decode cX12_ask 194 = .ok (.iconst 0, 1) := yd_op_3 (i := 4) yd_by_cX12_ask_5 rfl rfl
theorem dX12_ask_195 : decode cX12_ask 195 = .ok (.istore_n 2, 1) := yd_op_61 (i := 5) yd_by_cX12_ask_5 rfl rfl
theorem dX12_ask_196 : decode cX12_ask 196 = .ok (.iload_n 2, 1) := yd_op_28 (i := 6) yd_by_cX12_ask_5 rfl rfl
theorem dX12_ask_197 : decode cX12_ask 197 = .ok (.aload_n 0, 1) := yd_op_42 (i := 7) yd_by_cX12_ask_5 rfl rfl
theorem dX12_ask_198 : decode cX12_ask 198 = .ok (.invokevirtual 385, 3) := yd_op_182 (i := 8) (a := 1) (b := 129) yd_by_cX12_ask_5 rfl rfl
theorem dX12_ask_201 : decode cX12_ask 201 = .ok (.if_icmp .ge 20, 3) := yd_op_162 (i := 11) (a := 0) (b := 20) yd_by_cX12_ask_5 rfl rfl
theorem dX12_ask_204 : decode cX12_ask 204 = .ok (.aload_n 0, 1) := yd_op_42 (i := 14) yd_by_cX12_ask_5 rfl rfl
theorem dX12_ask_205 : decode cX12_ask 205 = .ok (.iload_n 1, 1) := yd_op_27 (i := 15) yd_by_cX12_ask_5 rfl rfl
theorem dX12_ask_206 : decode cX12_ask 206 = .ok (.aload_n 0, 1) := yd_op_42 (i := 16) yd_by_cX12_ask_5 rfl rfl
theorem dX12_ask_207 : decode cX12_ask 207 = .ok (.iload_n 2, 1) := yd_op_28 (i := 17) yd_by_cX12_ask_5 rfl rfl
theorem dX12_ask_208 : decode cX12_ask 208 = .ok (.invokevirtual 645, 3) := yd_op_182 (i := 18) (a := 2) (b := 133) yd_by_cX12_ask_5 rfl rfl
theorem dX12_ask_211 : decode cX12_ask 211 = .ok (.iload_n 2, 1) := yd_op_28 (i := 21) yd_by_cX12_ask_5 rfl rfl
theorem dX12_ask_212 : decode cX12_ask 212 = .ok (.invokevirtual 649, 3) := yd_op_182 (i := 22) (a := 2) (b := 137) yd_by_cX12_ask_5 rfl rfl
theorem dX12_ask_215 : decode cX12_ask 215 = .ok (.iinc 2 1, 3) := yd_op_132 (i := 25) (a := 2) (b := 1) yd_by_cX12_ask_5 rfl rfl
theorem dX12_ask_218 : decode cX12_ask 218 = .ok (.goto (-22), 3) := yd_op_167 (i := 28) (a := 255) (b := 234) yd_by_cX12_ask_5 rfl rfl
theorem dX12_ask_221 : decode cX12_ask 221 = .ok (.aload_n 0, 1) := yd_op_42 (i := 31) yd_by_cX12_ask_5 rfl rfl
theorem dX12_ask_222 : decode cX12_ask 222 = .ok (.getfield 634, 3) := yd_op_180 (i := 32) (a := 2) (b := 122) yd_by_cX12_ask_5 rfl rfl
theorem dX12_ask_225 : decode cX12_ask 225 = .ok (.lreturn, 1) := yd_op_173 (i := 35) yd_by_cX12_ask_5 rfl rfl
set_option maxRecDepth 100000 in
theorem yd_by_cX12_checked_0 : ydk cX12_checked 0 [16, 127, 61, 3, 62, 29, 27, 162, 0, 21, 6, 28, 104, 42, 29, 46, 96, 17, 0, 251, 112, 61, 132, 3, 1, 167, 255, 236, 28] = true := by decide +kernel
theorem dX12_checked_0 : decode cX12_checked 0 = .ok (.bipush 127, 2) := yd_op_16 (i := 0) (a := 127) yd_by_cX12_checked_0 rfl rfl
theorem dX12_checked_2 : decode cX12_checked 2 = .ok (.istore_n 2, 1) := yd_op_61 (i := 2) yd_by_cX12_checked_0 rfl rfl
theorem dX12_checked_3 : decode cX12_checked 3 = .ok (.iconst 0, 1) := yd_op_3 (i := 3) yd_by_cX12_checked_0 rfl rfl
theorem dX12_checked_4 : decode cX12_checked 4 = .ok (.istore_n 3, 1) := yd_op_62 (i := 4) yd_by_cX12_checked_0 rfl rfl
theorem dX12_checked_5 : decode cX12_checked 5 = .ok (.iload_n 3, 1) := yd_op_29 (i := 5) yd_by_cX12_checked_0 rfl rfl
theorem dX12_checked_6 : decode cX12_checked 6 = .ok (.iload_n 1, 1) := yd_op_27 (i := 6) yd_by_cX12_checked_0 rfl rfl
theorem dX12_checked_7 : decode cX12_checked 7 = .ok (.if_icmp .ge 21, 3) := yd_op_162 (i := 7) (a := 0) (b := 21) yd_by_cX12_checked_0 rfl rfl
theorem dX12_checked_10 : decode cX12_checked 10 = .ok (.iconst 3, 1) := yd_op_6 (i := 10) yd_by_cX12_checked_0 rfl rfl
theorem dX12_checked_11 : decode cX12_checked 11 = .ok (.iload_n 2, 1) := yd_op_28 (i := 11) yd_by_cX12_checked_0 rfl rfl
theorem dX12_checked_12 : decode cX12_checked 12 = .ok (.imul, 1) := yd_op_104 (i := 12) yd_by_cX12_checked_0 rfl rfl
theorem dX12_checked_13 : decode cX12_checked 13 = .ok (.aload_n 0, 1) := yd_op_42 (i := 13) yd_by_cX12_checked_0 rfl rfl
theorem dX12_checked_14 : decode cX12_checked 14 = .ok (.iload_n 3, 1) := yd_op_29 (i := 14) yd_by_cX12_checked_0 rfl rfl
theorem dX12_checked_15 : decode cX12_checked 15 = .ok (.iaload, 1) := yd_op_46 (i := 15) yd_by_cX12_checked_0 rfl rfl
theorem dX12_checked_16 : decode cX12_checked 16 = .ok (.iadd, 1) := yd_op_96 (i := 16) yd_by_cX12_checked_0 rfl rfl
theorem dX12_checked_17 : decode cX12_checked 17 = .ok (.sipush 251, 3) := yd_op_17 (i := 17) (a := 0) (b := 251) yd_by_cX12_checked_0 rfl rfl
theorem dX12_checked_20 : decode cX12_checked 20 = .ok (.irem, 1) := yd_op_112 (i := 20) yd_by_cX12_checked_0 rfl rfl
theorem dX12_checked_21 : decode cX12_checked 21 = .ok (.istore_n 2, 1) := yd_op_61 (i := 21) yd_by_cX12_checked_0 rfl rfl
theorem dX12_checked_22 : decode cX12_checked 22 = .ok (.iinc 3 1, 3) := yd_op_132 (i := 22) (a := 3) (b := 1) yd_by_cX12_checked_0 rfl rfl
theorem dX12_checked_25 : decode cX12_checked 25 = .ok (.goto (-20), 3) := yd_op_167 (i := 25) (a := 255) (b := 236) yd_by_cX12_checked_0 rfl rfl
theorem dX12_checked_28 : decode cX12_checked 28 = .ok (.iload_n 2, 1) := yd_op_28 (i := 28) yd_by_cX12_checked_0 rfl rfl
set_option maxRecDepth 100000 in
theorem yd_by_cX12_checked_1 : ydk cX12_checked 29 [172] = true := by decide +kernel
theorem dX12_checked_29 : decode cX12_checked 29 = .ok (.ireturn, 1) := yd_op_172 (i := 0) yd_by_cX12_checked_1 rfl rfl
set_option maxRecDepth 100000 in
theorem yd_by_cX12_writes_0 : ydk cX12_writes 0 [42, 180, 0, 240, 42, 180, 2, 141, 27, 79, 42, 89, 180, 2, 141, 4, 96, 181, 2, 141, 177] = true := by decide +kernel
theorem dX12_writes_0 : decode cX12_writes 0 = .ok (.aload_n 0, 1) := yd_op_42 (i := 0) yd_by_cX12_writes_0 rfl rfl
theorem dX12_writes_1 : decode cX12_writes 1 = .ok (.getfield 240, 3) := yd_op_180 (i := 1) (a := 0) (b := 240) yd_by_cX12_writes_0 rfl rfl
theorem dX12_writes_4 : decode cX12_writes 4 = .ok (.aload_n 0, 1) := yd_op_42 (i := 4) yd_by_cX12_writes_0 rfl rfl
theorem dX12_writes_5 : decode cX12_writes 5 = .ok (.getfield 653, 3) := yd_op_180 (i := 5) (a := 2) (b := 141) yd_by_cX12_writes_0 rfl rfl
theorem dX12_writes_8 : decode cX12_writes 8 = .ok (.iload_n 1, 1) := yd_op_27 (i := 8) yd_by_cX12_writes_0 rfl rfl
theorem dX12_writes_9 : decode cX12_writes 9 = .ok (.iastore, 1) := yd_op_79 (i := 9) yd_by_cX12_writes_0 rfl rfl
theorem dX12_writes_10 : decode cX12_writes 10 = .ok (.aload_n 0, 1) := yd_op_42 (i := 10) yd_by_cX12_writes_0 rfl rfl
theorem dX12_writes_11 : decode cX12_writes 11 = .ok (.dup, 1) := yd_op_89 (i := 11) yd_by_cX12_writes_0 rfl rfl
theorem dX12_writes_12 : decode cX12_writes 12 = .ok (.getfield 653, 3) := yd_op_180 (i := 12) (a := 2) (b := 141) yd_by_cX12_writes_0 rfl rfl
theorem dX12_writes_15 : decode cX12_writes 15 = .ok (.iconst 1, 1) := yd_op_4 (i := 15) yd_by_cX12_writes_0 rfl rfl
theorem dX12_writes_16 : decode cX12_writes 16 = .ok (.iadd, 1) := yd_op_96 (i := 16) yd_by_cX12_writes_0 rfl rfl
theorem dX12_writes_17 : decode cX12_writes 17 = .ok (.putfield 653, 3) := yd_op_181 (i := 17) (a := 2) (b := 141) yd_by_cX12_writes_0 rfl rfl
theorem dX12_writes_20 : decode cX12_writes 20 = .ok (.return_, 1) := yd_op_177 (i := 20) yd_by_cX12_writes_0 rfl rfl
set_option maxRecDepth 100000 in
theorem yd_by_cX12_image_0 : ydk cX12_image 0 [42, 3, 181, 2, 141, 42, 42, 180, 0, 130, 3, 46, 17, 1, 0, 108, 182, 2, 144, 42, 42, 180, 0, 130, 3, 46, 17, 1, 0, 112, 182, 2, 144, 3] = true := by decide +kernel
theorem dX12_image_0 : decode cX12_image 0 = .ok (.aload_n 0, 1) := yd_op_42 (i := 0) yd_by_cX12_image_0 rfl rfl
theorem dX12_image_1 : decode cX12_image 1 = .ok (.iconst 0, 1) := yd_op_3 (i := 1) yd_by_cX12_image_0 rfl rfl
theorem dX12_image_2 : decode cX12_image 2 = .ok (.putfield 653, 3) := yd_op_181 (i := 2) (a := 2) (b := 141) yd_by_cX12_image_0 rfl rfl
theorem dX12_image_5 : decode cX12_image 5 = .ok (.aload_n 0, 1) := yd_op_42 (i := 5) yd_by_cX12_image_0 rfl rfl
theorem dX12_image_6 : decode cX12_image 6 = .ok (.aload_n 0, 1) := yd_op_42 (i := 6) yd_by_cX12_image_0 rfl rfl
theorem dX12_image_7 : decode cX12_image 7 = .ok (.getfield 130, 3) := yd_op_180 (i := 7) (a := 0) (b := 130) yd_by_cX12_image_0 rfl rfl
theorem dX12_image_10 : decode cX12_image 10 = .ok (.iconst 0, 1) := yd_op_3 (i := 10) yd_by_cX12_image_0 rfl rfl
theorem dX12_image_11 : decode cX12_image 11 = .ok (.iaload, 1) := yd_op_46 (i := 11) yd_by_cX12_image_0 rfl rfl
theorem dX12_image_12 : decode cX12_image 12 = .ok (.sipush 256, 3) := yd_op_17 (i := 12) (a := 1) (b := 0) yd_by_cX12_image_0 rfl rfl
theorem dX12_image_15 : decode cX12_image 15 = .ok (.idiv, 1) := yd_op_108 (i := 15) yd_by_cX12_image_0 rfl rfl
theorem dX12_image_16 : decode cX12_image 16 = .ok (.invokevirtual 656, 3) := yd_op_182 (i := 16) (a := 2) (b := 144) yd_by_cX12_image_0 rfl rfl
theorem dX12_image_19 : decode cX12_image 19 = .ok (.aload_n 0, 1) := yd_op_42 (i := 19) yd_by_cX12_image_0 rfl rfl
theorem dX12_image_20 : decode cX12_image 20 = .ok (.aload_n 0, 1) := yd_op_42 (i := 20) yd_by_cX12_image_0 rfl rfl
theorem dX12_image_21 : decode cX12_image 21 = .ok (.getfield 130, 3) := yd_op_180 (i := 21) (a := 0) (b := 130) yd_by_cX12_image_0 rfl rfl
theorem dX12_image_24 : decode cX12_image 24 = .ok (.iconst 0, 1) := yd_op_3 (i := 24) yd_by_cX12_image_0 rfl rfl
theorem dX12_image_25 : decode cX12_image 25 = .ok (.iaload, 1) := yd_op_46 (i := 25) yd_by_cX12_image_0 rfl rfl
theorem dX12_image_26 : decode cX12_image 26 = .ok (.sipush 256, 3) := yd_op_17 (i := 26) (a := 1) (b := 0) yd_by_cX12_image_0 rfl rfl
theorem dX12_image_29 : decode cX12_image 29 = .ok (.irem, 1) := yd_op_112 (i := 29) yd_by_cX12_image_0 rfl rfl
theorem dX12_image_30 : decode cX12_image 30 = .ok (.invokevirtual 656, 3) := yd_op_182 (i := 30) (a := 2) (b := 144) yd_by_cX12_image_0 rfl rfl
theorem dX12_image_33 : decode cX12_image 33 = .ok (.iconst 0, 1) := yd_op_3 (i := 33) yd_by_cX12_image_0 rfl rfl
set_option maxRecDepth 100000 in
theorem yd_by_cX12_image_1 : ydk cX12_image 34 [60, 27, 42, 182, 1, 174, 162, 0, 25, 42, 42, 180, 0, 130, 4, 42, 27, 182, 1, 177, 96, 46, 182, 2, 144, 132, 1, 1, 167, 255, 229, 3, 60, 27] = true := by decide +kernel
theorem dX12_image_34 : decode cX12_image 34 = .ok (.istore_n 1, 1) := yd_op_60 (i := 0) yd_by_cX12_image_1 rfl rfl
theorem dX12_image_35 : decode cX12_image 35 = .ok (.iload_n 1, 1) := yd_op_27 (i := 1) yd_by_cX12_image_1 rfl rfl
theorem dX12_image_36 : decode cX12_image 36 = .ok (.aload_n 0, 1) := yd_op_42 (i := 2) yd_by_cX12_image_1 rfl rfl
theorem dX12_image_37 : decode cX12_image 37 = .ok (.invokevirtual 430, 3) := yd_op_182 (i := 3) (a := 1) (b := 174) yd_by_cX12_image_1 rfl rfl
theorem dX12_image_40 : decode cX12_image 40 = .ok (.if_icmp .ge 25, 3) := yd_op_162 (i := 6) (a := 0) (b := 25) yd_by_cX12_image_1 rfl rfl
theorem dX12_image_43 : decode cX12_image 43 = .ok (.aload_n 0, 1) := yd_op_42 (i := 9) yd_by_cX12_image_1 rfl rfl
theorem dX12_image_44 : decode cX12_image 44 = .ok (.aload_n 0, 1) := yd_op_42 (i := 10) yd_by_cX12_image_1 rfl rfl
theorem dX12_image_45 : decode cX12_image 45 = .ok (.getfield 130, 3) := yd_op_180 (i := 11) (a := 0) (b := 130) yd_by_cX12_image_1 rfl rfl
theorem dX12_image_48 : decode cX12_image 48 = .ok (.iconst 1, 1) := yd_op_4 (i := 14) yd_by_cX12_image_1 rfl rfl
theorem dX12_image_49 : decode cX12_image 49 = .ok (.aload_n 0, 1) := yd_op_42 (i := 15) yd_by_cX12_image_1 rfl rfl
theorem dX12_image_50 : decode cX12_image 50 = .ok (.iload_n 1, 1) := yd_op_27 (i := 16) yd_by_cX12_image_1 rfl rfl
theorem dX12_image_51 : decode cX12_image 51 = .ok (.invokevirtual 433, 3) := yd_op_182 (i := 17) (a := 1) (b := 177) yd_by_cX12_image_1 rfl rfl
theorem dX12_image_54 : decode cX12_image 54 = .ok (.iadd, 1) := yd_op_96 (i := 20) yd_by_cX12_image_1 rfl rfl
theorem dX12_image_55 : decode cX12_image 55 = .ok (.iaload, 1) := yd_op_46 (i := 21) yd_by_cX12_image_1 rfl rfl
theorem dX12_image_56 : decode cX12_image 56 = .ok (.invokevirtual 656, 3) := yd_op_182 (i := 22) (a := 2) (b := 144) yd_by_cX12_image_1 rfl rfl
theorem dX12_image_59 : decode cX12_image 59 = .ok (.iinc 1 1, 3) := yd_op_132 (i := 25) (a := 1) (b := 1) yd_by_cX12_image_1 rfl rfl
theorem dX12_image_62 : decode cX12_image 62 = .ok (.goto (-27), 3) := yd_op_167 (i := 28) (a := 255) (b := 229) yd_by_cX12_image_1 rfl rfl
theorem dX12_image_65 : decode cX12_image 65 = .ok (.iconst 0, 1) := yd_op_3 (i := 31) yd_by_cX12_image_1 rfl rfl
theorem dX12_image_66 : decode cX12_image 66 = .ok (.istore_n 1, 1) := yd_op_60 (i := 32) yd_by_cX12_image_1 rfl rfl
theorem dX12_image_67 : decode cX12_image 67 = .ok (.iload_n 1, 1) := yd_op_27 (i := 33) yd_by_cX12_image_1 rfl rfl
set_option maxRecDepth 100000 in
theorem yd_by_cX12_image_2 : ydk cX12_image 68 [42, 182, 1, 129, 162, 0, 59, 42, 42, 27, 182, 1, 135, 16, 6, 112, 182, 2, 144, 42, 42, 27, 182, 1, 135, 16, 6, 108, 182, 2, 144, 42, 42, 27] = true := by decide +kernel
theorem dX12_image_68 : decode cX12_image 68 = .ok (.aload_n 0, 1) := yd_op_42 (i := 0) yd_by_cX12_image_2 rfl rfl
theorem dX12_image_69 : decode cX12_image 69 = .ok (.invokevirtual 385, 3) := yd_op_182 (i := 1) (a := 1) (b := 129) yd_by_cX12_image_2 rfl rfl
theorem dX12_image_72 : decode cX12_image 72 = .ok (.if_icmp .ge 59, 3) := yd_op_162 (i := 4) (a := 0) (b := 59) yd_by_cX12_image_2 rfl rfl
theorem dX12_image_75 : decode cX12_image 75 = .ok (.aload_n 0, 1) := yd_op_42 (i := 7) yd_by_cX12_image_2 rfl rfl
theorem dX12_image_76 : decode cX12_image 76 = .ok (.aload_n 0, 1) := yd_op_42 (i := 8) yd_by_cX12_image_2 rfl rfl
theorem dX12_image_77 : decode cX12_image 77 = .ok (.iload_n 1, 1) := yd_op_27 (i := 9) yd_by_cX12_image_2 rfl rfl
theorem dX12_image_78 : decode cX12_image 78 = .ok (.invokevirtual 391, 3) := yd_op_182 (i := 10) (a := 1) (b := 135) yd_by_cX12_image_2 rfl rfl
theorem dX12_image_81 : decode cX12_image 81 = .ok (.bipush 6, 2) := yd_op_16 (i := 13) (a := 6) yd_by_cX12_image_2 rfl rfl
theorem dX12_image_83 : decode cX12_image 83 = .ok (.irem, 1) := yd_op_112 (i := 15) yd_by_cX12_image_2 rfl rfl
theorem dX12_image_84 : decode cX12_image 84 = .ok (.invokevirtual 656, 3) := yd_op_182 (i := 16) (a := 2) (b := 144) yd_by_cX12_image_2 rfl rfl
theorem dX12_image_87 : decode cX12_image 87 = .ok (.aload_n 0, 1) := yd_op_42 (i := 19) yd_by_cX12_image_2 rfl rfl
theorem dX12_image_88 : decode cX12_image 88 = .ok (.aload_n 0, 1) := yd_op_42 (i := 20) yd_by_cX12_image_2 rfl rfl
theorem dX12_image_89 : decode cX12_image 89 = .ok (.iload_n 1, 1) := yd_op_27 (i := 21) yd_by_cX12_image_2 rfl rfl
theorem dX12_image_90 : decode cX12_image 90 = .ok (.invokevirtual 391, 3) := yd_op_182 (i := 22) (a := 1) (b := 135) yd_by_cX12_image_2 rfl rfl
theorem dX12_image_93 : decode cX12_image 93 = .ok (.bipush 6, 2) := yd_op_16 (i := 25) (a := 6) yd_by_cX12_image_2 rfl rfl
theorem dX12_image_95 : decode cX12_image 95 = .ok (.idiv, 1) := yd_op_108 (i := 27) yd_by_cX12_image_2 rfl rfl
theorem dX12_image_96 : decode cX12_image 96 = .ok (.invokevirtual 656, 3) := yd_op_182 (i := 28) (a := 2) (b := 144) yd_by_cX12_image_2 rfl rfl
theorem dX12_image_99 : decode cX12_image 99 = .ok (.aload_n 0, 1) := yd_op_42 (i := 31) yd_by_cX12_image_2 rfl rfl
theorem dX12_image_100 : decode cX12_image 100 = .ok (.aload_n 0, 1) := yd_op_42 (i := 32) yd_by_cX12_image_2 rfl rfl
theorem dX12_image_101 : decode cX12_image 101 = .ok (.iload_n 1, 1) := yd_op_27 (i := 33) yd_by_cX12_image_2 rfl rfl
set_option maxRecDepth 100000 in
theorem yd_by_cX12_image_3 : ydk cX12_image 102 [182, 1, 230, 182, 2, 144, 42, 42, 27, 182, 1, 156, 153, 0, 7, 4, 167, 0, 4, 3, 182, 2, 144, 132, 1, 1, 167, 255, 195, 42, 42, 180, 0, 240, 42, 180, 2, 141, 184, 2, 147, 182, 2, 144] = true := by decide +kernel
theorem dX12_image_102 : decode cX12_image 102 = .ok (.invokevirtual 486, 3) := yd_op_182 (i := 0) (a := 1) (b := 230) yd_by_cX12_image_3 rfl rfl
theorem dX12_image_105 : decode cX12_image 105 = .ok (.invokevirtual 656, 3) := yd_op_182 (i := 3) (a := 2) (b := 144) yd_by_cX12_image_3 rfl rfl
theorem dX12_image_108 : decode cX12_image 108 = .ok (.aload_n 0, 1) := yd_op_42 (i := 6) yd_by_cX12_image_3 rfl rfl
theorem dX12_image_109 : decode cX12_image 109 = .ok (.aload_n 0, 1) := yd_op_42 (i := 7) yd_by_cX12_image_3 rfl rfl
theorem dX12_image_110 : decode cX12_image 110 = .ok (.iload_n 1, 1) := yd_op_27 (i := 8) yd_by_cX12_image_3 rfl rfl
theorem dX12_image_111 : decode cX12_image 111 = .ok (.invokevirtual 412, 3) := yd_op_182 (i := 9) (a := 1) (b := 156) yd_by_cX12_image_3 rfl rfl
theorem dX12_image_114 : decode cX12_image 114 = .ok (.ifCond .eq 7, 3) := yd_op_153 (i := 12) (a := 0) (b := 7) yd_by_cX12_image_3 rfl rfl
theorem dX12_image_117 : decode cX12_image 117 = .ok (.iconst 1, 1) := yd_op_4 (i := 15) yd_by_cX12_image_3 rfl rfl
theorem dX12_image_118 : decode cX12_image 118 = .ok (.goto 4, 3) := yd_op_167 (i := 16) (a := 0) (b := 4) yd_by_cX12_image_3 rfl rfl
theorem dX12_image_121 : decode cX12_image 121 = .ok (.iconst 0, 1) := yd_op_3 (i := 19) yd_by_cX12_image_3 rfl rfl
theorem dX12_image_122 : decode cX12_image 122 = .ok (.invokevirtual 656, 3) := yd_op_182 (i := 20) (a := 2) (b := 144) yd_by_cX12_image_3 rfl rfl
theorem dX12_image_125 : decode cX12_image 125 = .ok (.iinc 1 1, 3) := yd_op_132 (i := 23) (a := 1) (b := 1) yd_by_cX12_image_3 rfl rfl
theorem dX12_image_128 : decode cX12_image 128 = .ok (.goto (-61), 3) := yd_op_167 (i := 26) (a := 255) (b := 195) yd_by_cX12_image_3 rfl rfl
theorem dX12_image_131 : decode cX12_image 131 = .ok (.aload_n 0, 1) := yd_op_42 (i := 29) yd_by_cX12_image_3 rfl rfl
theorem dX12_image_132 : decode cX12_image 132 = .ok (.aload_n 0, 1) := yd_op_42 (i := 30) yd_by_cX12_image_3 rfl rfl
theorem dX12_image_133 : decode cX12_image 133 = .ok (.getfield 240, 3) := yd_op_180 (i := 31) (a := 0) (b := 240) yd_by_cX12_image_3 rfl rfl
theorem dX12_image_136 : decode cX12_image 136 = .ok (.aload_n 0, 1) := yd_op_42 (i := 34) yd_by_cX12_image_3 rfl rfl
theorem dX12_image_137 : decode cX12_image 137 = .ok (.getfield 653, 3) := yd_op_180 (i := 35) (a := 2) (b := 141) yd_by_cX12_image_3 rfl rfl
theorem dX12_image_140 : decode cX12_image 140 = .ok (.invokestatic 659, 3) := yd_op_184 (i := 38) (a := 2) (b := 147) yd_by_cX12_image_3 rfl rfl
theorem dX12_image_143 : decode cX12_image 143 = .ok (.invokevirtual 656, 3) := yd_op_182 (i := 41) (a := 2) (b := 144) yd_by_cX12_image_3 rfl rfl
set_option maxRecDepth 100000 in
theorem yd_by_cX12_image_4 : ydk cX12_image 146 [42, 180, 2, 141, 172] = true := by decide +kernel
theorem dX12_image_146 : decode cX12_image 146 = .ok (.aload_n 0, 1) := yd_op_42 (i := 0) yd_by_cX12_image_4 rfl rfl
theorem dX12_image_147 : decode cX12_image 147 = .ok (.getfield 653, 3) := yd_op_180 (i := 1) (a := 2) (b := 141) yd_by_cX12_image_4 rfl rfl
theorem dX12_image_150 : decode cX12_image 150 = .ok (.ireturn, 1) := yd_op_172 (i := 4) yd_by_cX12_image_4 rfl rfl
set_option maxRecDepth 100000 in
theorem yd_by_cX12_octet_0 : ydk cX12_octet 0 [27, 155, 0, 20, 27, 42, 180, 2, 141, 162, 0, 12, 42, 180, 0, 240, 27, 46, 167, 0, 4, 2, 172] = true := by decide +kernel
theorem dX12_octet_0 : decode cX12_octet 0 = .ok (.iload_n 1, 1) := yd_op_27 (i := 0) yd_by_cX12_octet_0 rfl rfl
theorem dX12_octet_1 : decode cX12_octet 1 = .ok (.ifCond .lt 20, 3) := yd_op_155 (i := 1) (a := 0) (b := 20) yd_by_cX12_octet_0 rfl rfl
theorem dX12_octet_4 : decode cX12_octet 4 = .ok (.iload_n 1, 1) := yd_op_27 (i := 4) yd_by_cX12_octet_0 rfl rfl
theorem dX12_octet_5 : decode cX12_octet 5 = .ok (.aload_n 0, 1) := yd_op_42 (i := 5) yd_by_cX12_octet_0 rfl rfl
theorem dX12_octet_6 : decode cX12_octet 6 = .ok (.getfield 653, 3) := yd_op_180 (i := 6) (a := 2) (b := 141) yd_by_cX12_octet_0 rfl rfl
theorem dX12_octet_9 : decode cX12_octet 9 = .ok (.if_icmp .ge 12, 3) := yd_op_162 (i := 9) (a := 0) (b := 12) yd_by_cX12_octet_0 rfl rfl
theorem dX12_octet_12 : decode cX12_octet 12 = .ok (.aload_n 0, 1) := yd_op_42 (i := 12) yd_by_cX12_octet_0 rfl rfl
theorem dX12_octet_13 : decode cX12_octet 13 = .ok (.getfield 240, 3) := yd_op_180 (i := 13) (a := 0) (b := 240) yd_by_cX12_octet_0 rfl rfl
theorem dX12_octet_16 : decode cX12_octet 16 = .ok (.iload_n 1, 1) := yd_op_27 (i := 16) yd_by_cX12_octet_0 rfl rfl
theorem dX12_octet_17 : decode cX12_octet 17 = .ok (.iaload, 1) := yd_op_46 (i := 17) yd_by_cX12_octet_0 rfl rfl
theorem dX12_octet_18 : decode cX12_octet 18 = .ok (.goto 4, 3) := yd_op_167 (i := 18) (a := 0) (b := 4) yd_by_cX12_octet_0 rfl rfl
theorem dX12_octet_21 : decode cX12_octet 21 = .ok (.iconst (-1), 1) := yd_op_2 (i := 21) yd_by_cX12_octet_0 rfl rfl
theorem dX12_octet_22 : decode cX12_octet 22 = .ok (.ireturn, 1) := yd_op_172 (i := 22) yd_by_cX12_octet_0 rfl rfl
set_option maxRecDepth 100000 in
theorem yd_by_cX12_isPersonTold_0 : ydk cX12_isPersonTold 0 [27, 7, 28, 104, 96, 62, 42, 42, 180, 0, 7, 29, 46, 42, 180, 0, 7, 29, 4, 96, 46, 182, 1, 222, 2, 159, 0, 28] = true := by decide +kernel
theorem dX12_isPersonTold_0 : decode cX12_isPersonTold 0 = .ok (.iload_n 1, 1) := yd_op_27 (i := 0) yd_by_cX12_isPersonTold_0 rfl rfl
theorem dX12_isPersonTold_1 : decode cX12_isPersonTold 1 = .ok (.iconst 4, 1) := yd_op_7 (i := 1) yd_by_cX12_isPersonTold_0 rfl rfl
theorem dX12_isPersonTold_2 : decode cX12_isPersonTold 2 = .ok (.iload_n 2, 1) := yd_op_28 (i := 2) yd_by_cX12_isPersonTold_0 rfl rfl
theorem dX12_isPersonTold_3 : decode cX12_isPersonTold 3 = .ok (.imul, 1) := yd_op_104 (i := 3) yd_by_cX12_isPersonTold_0 rfl rfl
theorem dX12_isPersonTold_4 : decode cX12_isPersonTold 4 = .ok (.iadd, 1) := yd_op_96 (i := 4) yd_by_cX12_isPersonTold_0 rfl rfl
theorem dX12_isPersonTold_5 : decode cX12_isPersonTold 5 = .ok (.istore_n 3, 1) := yd_op_62 (i := 5) yd_by_cX12_isPersonTold_0 rfl rfl
theorem dX12_isPersonTold_6 : decode cX12_isPersonTold 6 = .ok (.aload_n 0, 1) := yd_op_42 (i := 6) yd_by_cX12_isPersonTold_0 rfl rfl
theorem dX12_isPersonTold_7 : decode cX12_isPersonTold 7 = .ok (.aload_n 0, 1) := yd_op_42 (i := 7) yd_by_cX12_isPersonTold_0 rfl rfl
theorem dX12_isPersonTold_8 : decode cX12_isPersonTold 8 = .ok (.getfield 7, 3) := yd_op_180 (i := 8) (a := 0) (b := 7) yd_by_cX12_isPersonTold_0 rfl rfl
theorem dX12_isPersonTold_11 : decode cX12_isPersonTold 11 = .ok (.iload_n 3, 1) := yd_op_29 (i := 11) yd_by_cX12_isPersonTold_0 rfl rfl
theorem dX12_isPersonTold_12 : decode cX12_isPersonTold 12 = .ok (.iaload, 1) := yd_op_46 (i := 12) yd_by_cX12_isPersonTold_0 rfl rfl
theorem dX12_isPersonTold_13 : decode cX12_isPersonTold 13 = .ok (.aload_n 0, 1) := yd_op_42 (i := 13) yd_by_cX12_isPersonTold_0 rfl rfl
theorem dX12_isPersonTold_14 : decode cX12_isPersonTold 14 = .ok (.getfield 7, 3) := yd_op_180 (i := 14) (a := 0) (b := 7) yd_by_cX12_isPersonTold_0 rfl rfl
theorem dX12_isPersonTold_17 : decode cX12_isPersonTold 17 = .ok (.iload_n 3, 1) := yd_op_29 (i := 17) yd_by_cX12_isPersonTold_0 rfl rfl
theorem dX12_isPersonTold_18 : decode cX12_isPersonTold 18 = .ok (.iconst 1, 1) := yd_op_4 (i := 18) yd_by_cX12_isPersonTold_0 rfl rfl
theorem dX12_isPersonTold_19 : decode cX12_isPersonTold 19 = .ok (.iadd, 1) := yd_op_96 (i := 19) yd_by_cX12_isPersonTold_0 rfl rfl
theorem dX12_isPersonTold_20 : decode cX12_isPersonTold 20 = .ok (.iaload, 1) := yd_op_46 (i := 20) yd_by_cX12_isPersonTold_0 rfl rfl
theorem dX12_isPersonTold_21 : decode cX12_isPersonTold 21 = .ok (.invokevirtual 478, 3) := yd_op_182 (i := 21) (a := 1) (b := 222) yd_by_cX12_isPersonTold_0 rfl rfl
theorem dX12_isPersonTold_24 : decode cX12_isPersonTold 24 = .ok (.iconst (-1), 1) := yd_op_2 (i := 24) yd_by_cX12_isPersonTold_0 rfl rfl
theorem dX12_isPersonTold_25 : decode cX12_isPersonTold 25 = .ok (.if_icmp .eq 28, 3) := yd_op_159 (i := 25) (a := 0) (b := 28) yd_by_cX12_isPersonTold_0 rfl rfl
set_option maxRecDepth 100000 in
theorem yd_by_cX12_isPersonTold_1 : ydk cX12_isPersonTold 28 [42, 180, 0, 7, 29, 5, 96, 46, 16, 99, 163, 0, 15, 42, 180, 0, 7, 29, 6, 96, 46, 4, 164, 0, 5, 3, 172, 27, 54, 4] = true := by decide +kernel
theorem dX12_isPersonTold_28 : decode cX12_isPersonTold 28 = .ok (.aload_n 0, 1) := yd_op_42 (i := 0) yd_by_cX12_isPersonTold_1 rfl rfl
theorem dX12_isPersonTold_29 : decode cX12_isPersonTold 29 = .ok (.getfield 7, 3) := yd_op_180 (i := 1) (a := 0) (b := 7) yd_by_cX12_isPersonTold_1 rfl rfl
theorem dX12_isPersonTold_32 : decode cX12_isPersonTold 32 = .ok (.iload_n 3, 1) := yd_op_29 (i := 4) yd_by_cX12_isPersonTold_1 rfl rfl
theorem dX12_isPersonTold_33 : decode cX12_isPersonTold 33 = .ok (.iconst 2, 1) := yd_op_5 (i := 5) yd_by_cX12_isPersonTold_1 rfl rfl
theorem dX12_isPersonTold_34 : decode cX12_isPersonTold 34 = .ok (.iadd, 1) := yd_op_96 (i := 6) yd_by_cX12_isPersonTold_1 rfl rfl
theorem dX12_isPersonTold_35 : decode cX12_isPersonTold 35 = .ok (.iaload, 1) := yd_op_46 (i := 7) yd_by_cX12_isPersonTold_1 rfl rfl
theorem dX12_isPersonTold_36 : decode cX12_isPersonTold 36 = .ok (.bipush 99, 2) := yd_op_16 (i := 8) (a := 99) yd_by_cX12_isPersonTold_1 rfl rfl
theorem dX12_isPersonTold_38 : decode cX12_isPersonTold 38 = .ok (.if_icmp .gt 15, 3) := yd_op_163 (i := 10) (a := 0) (b := 15) yd_by_cX12_isPersonTold_1 rfl rfl
theorem dX12_isPersonTold_41 : decode cX12_isPersonTold 41 = .ok (.aload_n 0, 1) := yd_op_42 (i := 13) yd_by_cX12_isPersonTold_1 rfl rfl
theorem dX12_isPersonTold_42 : decode cX12_isPersonTold 42 = .ok (.getfield 7, 3) := yd_op_180 (i := 14) (a := 0) (b := 7) yd_by_cX12_isPersonTold_1 rfl rfl
theorem dX12_isPersonTold_45 : decode cX12_isPersonTold 45 = .ok (.iload_n 3, 1) := yd_op_29 (i := 17) yd_by_cX12_isPersonTold_1 rfl rfl
theorem dX12_isPersonTold_46 : decode cX12_isPersonTold 46 = .ok (.iconst 3, 1) := yd_op_6 (i := 18) yd_by_cX12_isPersonTold_1 rfl rfl
theorem dX12_isPersonTold_47 : decode cX12_isPersonTold 47 = .ok (.iadd, 1) := yd_op_96 (i := 19) yd_by_cX12_isPersonTold_1 rfl rfl
theorem dX12_isPersonTold_48 : decode cX12_isPersonTold 48 = .ok (.iaload, 1) := yd_op_46 (i := 20) yd_by_cX12_isPersonTold_1 rfl rfl
theorem dX12_isPersonTold_49 : decode cX12_isPersonTold 49 = .ok (.iconst 1, 1) := yd_op_4 (i := 21) yd_by_cX12_isPersonTold_1 rfl rfl
theorem dX12_isPersonTold_50 : decode cX12_isPersonTold 50 = .ok (.if_icmp .le 5, 3) := yd_op_164 (i := 22) (a := 0) (b := 5) yd_by_cX12_isPersonTold_1 rfl rfl
theorem dX12_isPersonTold_53 : decode cX12_isPersonTold 53 = .ok (.iconst 0, 1) := yd_op_3 (i := 25) yd_by_cX12_isPersonTold_1 rfl rfl
theorem dX12_isPersonTold_54 : decode cX12_isPersonTold 54 = .ok (.ireturn, 1) := yd_op_172 (i := 26) yd_by_cX12_isPersonTold_1 rfl rfl
theorem dX12_isPersonTold_55 : decode cX12_isPersonTold 55 = .ok (.iload_n 1, 1) := yd_op_27 (i := 27) yd_by_cX12_isPersonTold_1 rfl rfl
theorem dX12_isPersonTold_56 : decode cX12_isPersonTold 56 = .ok (.istore 4, 2) := yd_op_54 (i := 28) (a := 4) yd_by_cX12_isPersonTold_1 rfl rfl
set_option maxRecDepth 100000 in
theorem yd_by_cX12_isPersonTold_2 : ydk cX12_isPersonTold 58 [21, 4, 29, 162, 0, 47, 42, 180, 0, 7, 21, 4, 46, 42, 180, 0, 7, 29, 46, 160, 0, 25, 42, 180, 0, 7, 21, 4, 4, 96, 46, 42, 180, 0, 7] = true := by decide +kernel
theorem dX12_isPersonTold_58 : decode cX12_isPersonTold 58 = .ok (.iload 4, 2) := yd_op_21 (i := 0) (a := 4) yd_by_cX12_isPersonTold_2 rfl rfl
theorem dX12_isPersonTold_60 : decode cX12_isPersonTold 60 = .ok (.iload_n 3, 1) := yd_op_29 (i := 2) yd_by_cX12_isPersonTold_2 rfl rfl
theorem dX12_isPersonTold_61 : decode cX12_isPersonTold 61 = .ok (.if_icmp .ge 47, 3) := yd_op_162 (i := 3) (a := 0) (b := 47) yd_by_cX12_isPersonTold_2 rfl rfl
theorem dX12_isPersonTold_64 : decode cX12_isPersonTold 64 = .ok (.aload_n 0, 1) := yd_op_42 (i := 6) yd_by_cX12_isPersonTold_2 rfl rfl
theorem dX12_isPersonTold_65 : decode cX12_isPersonTold 65 = .ok (.getfield 7, 3) := yd_op_180 (i := 7) (a := 0) (b := 7) yd_by_cX12_isPersonTold_2 rfl rfl
theorem dX12_isPersonTold_68 : decode cX12_isPersonTold 68 = .ok (.iload 4, 2) := yd_op_21 (i := 10) (a := 4) yd_by_cX12_isPersonTold_2 rfl rfl
theorem dX12_isPersonTold_70 : decode cX12_isPersonTold 70 = .ok (.iaload, 1) := yd_op_46 (i := 12) yd_by_cX12_isPersonTold_2 rfl rfl
theorem dX12_isPersonTold_71 : decode cX12_isPersonTold 71 = .ok (.aload_n 0, 1) := yd_op_42 (i := 13) yd_by_cX12_isPersonTold_2 rfl rfl
theorem dX12_isPersonTold_72 : decode cX12_isPersonTold 72 = .ok (.getfield 7, 3) := yd_op_180 (i := 14) (a := 0) (b := 7) yd_by_cX12_isPersonTold_2 rfl rfl
theorem dX12_isPersonTold_75 : decode cX12_isPersonTold 75 = .ok (.iload_n 3, 1) := yd_op_29 (i := 17) yd_by_cX12_isPersonTold_2 rfl rfl
theorem dX12_isPersonTold_76 : decode cX12_isPersonTold 76 = .ok (.iaload, 1) := yd_op_46 (i := 18) yd_by_cX12_isPersonTold_2 rfl rfl
theorem dX12_isPersonTold_77 : decode cX12_isPersonTold 77 = .ok (.if_icmp .ne 25, 3) := yd_op_160 (i := 19) (a := 0) (b := 25) yd_by_cX12_isPersonTold_2 rfl rfl
theorem dX12_isPersonTold_80 : decode cX12_isPersonTold 80 = .ok (.aload_n 0, 1) := yd_op_42 (i := 22) yd_by_cX12_isPersonTold_2 rfl rfl
theorem dX12_isPersonTold_81 : decode cX12_isPersonTold 81 = .ok (.getfield 7, 3) := yd_op_180 (i := 23) (a := 0) (b := 7) yd_by_cX12_isPersonTold_2 rfl rfl
theorem dX12_isPersonTold_84 : decode cX12_isPersonTold 84 = .ok (.iload 4, 2) := yd_op_21 (i := 26) (a := 4) yd_by_cX12_isPersonTold_2 rfl rfl
theorem dX12_isPersonTold_86 : decode cX12_isPersonTold 86 = .ok (.iconst 1, 1) := yd_op_4 (i := 28) yd_by_cX12_isPersonTold_2 rfl rfl
theorem dX12_isPersonTold_87 : decode cX12_isPersonTold 87 = .ok (.iadd, 1) := yd_op_96 (i := 29) yd_by_cX12_isPersonTold_2 rfl rfl
theorem dX12_isPersonTold_88 : decode cX12_isPersonTold 88 = .ok (.iaload, 1) := yd_op_46 (i := 30) yd_by_cX12_isPersonTold_2 rfl rfl
theorem dX12_isPersonTold_89 : decode cX12_isPersonTold 89 = .ok (.aload_n 0, 1) := yd_op_42 (i := 31) yd_by_cX12_isPersonTold_2 rfl rfl
theorem dX12_isPersonTold_90 : decode cX12_isPersonTold 90 = .ok (.getfield 7, 3) := yd_op_180 (i := 32) (a := 0) (b := 7) yd_by_cX12_isPersonTold_2 rfl rfl
set_option maxRecDepth 100000 in
theorem yd_by_cX12_isPersonTold_3 : ydk cX12_isPersonTold 93 [29, 4, 96, 46, 160, 0, 5, 3, 172, 132, 4, 4, 167, 255, 209, 4, 172] = true := by decide +kernel
theorem dX12_isPersonTold_93 : decode cX12_isPersonTold 93 = .ok (.iload_n 3, 1) := yd_op_29 (i := 0) yd_by_cX12_isPersonTold_3 rfl rfl
theorem dX12_isPersonTold_94 : decode cX12_isPersonTold 94 = .ok (.iconst 1, 1) := yd_op_4 (i := 1) yd_by_cX12_isPersonTold_3 rfl rfl
theorem dX12_isPersonTold_95 : decode cX12_isPersonTold 95 = .ok (.iadd, 1) := yd_op_96 (i := 2) yd_by_cX12_isPersonTold_3 rfl rfl
theorem dX12_isPersonTold_96 : decode cX12_isPersonTold 96 = .ok (.iaload, 1) := yd_op_46 (i := 3) yd_by_cX12_isPersonTold_3 rfl rfl
theorem dX12_isPersonTold_97 : decode cX12_isPersonTold 97 = .ok (.if_icmp .ne 5, 3) := yd_op_160 (i := 4) (a := 0) (b := 5) yd_by_cX12_isPersonTold_3 rfl rfl
theorem dX12_isPersonTold_100 : decode cX12_isPersonTold 100 = .ok (.iconst 0, 1) := yd_op_3 (i := 7) yd_by_cX12_isPersonTold_3 rfl rfl
theorem dX12_isPersonTold_101 : decode cX12_isPersonTold 101 = .ok (.ireturn, 1) := yd_op_172 (i := 8) yd_by_cX12_isPersonTold_3 rfl rfl
theorem dX12_isPersonTold_102 : decode cX12_isPersonTold 102 = .ok (.iinc 4 4, 3) := yd_op_132 (i := 9) (a := 4) (b := 4) yd_by_cX12_isPersonTold_3 rfl rfl
theorem dX12_isPersonTold_105 : decode cX12_isPersonTold 105 = .ok (.goto (-47), 3) := yd_op_167 (i := 12) (a := 255) (b := 209) yd_by_cX12_isPersonTold_3 rfl rfl
theorem dX12_isPersonTold_108 : decode cX12_isPersonTold 108 = .ok (.iconst 1, 1) := yd_op_4 (i := 15) yd_by_cX12_isPersonTold_3 rfl rfl
theorem dX12_isPersonTold_109 : decode cX12_isPersonTold 109 = .ok (.ireturn, 1) := yd_op_172 (i := 16) yd_by_cX12_isPersonTold_3 rfl rfl
set_option maxRecDepth 100000 in
theorem yd_by_cX12_isImage_0 : ydk cX12_isImage 0 [5, 42, 182, 1, 174, 96, 61, 42, 180, 1, 119, 153, 0, 61, 27, 28, 7, 42, 182, 1, 129, 104, 96, 4, 96, 160, 0, 47, 42, 180, 0, 7] = true := by decide +kernel
theorem dX12_isImage_0 : decode cX12_isImage 0 = .ok (.iconst 2, 1) := yd_op_5 (i := 0) yd_by_cX12_isImage_0 rfl rfl
theorem dX12_isImage_1 : decode cX12_isImage 1 = .ok (.aload_n 0, 1) := yd_op_42 (i := 1) yd_by_cX12_isImage_0 rfl rfl
theorem dX12_isImage_2 : decode cX12_isImage 2 = .ok (.invokevirtual 430, 3) := yd_op_182 (i := 2) (a := 1) (b := 174) yd_by_cX12_isImage_0 rfl rfl
theorem dX12_isImage_5 : decode cX12_isImage 5 = .ok (.iadd, 1) := yd_op_96 (i := 5) yd_by_cX12_isImage_0 rfl rfl
theorem dX12_isImage_6 : decode cX12_isImage 6 = .ok (.istore_n 2, 1) := yd_op_61 (i := 6) yd_by_cX12_isImage_0 rfl rfl
theorem dX12_isImage_7 : decode cX12_isImage 7 = .ok (.aload_n 0, 1) := yd_op_42 (i := 7) yd_by_cX12_isImage_0 rfl rfl
theorem dX12_isImage_8 : decode cX12_isImage 8 = .ok (.getfield 375, 3) := yd_op_180 (i := 8) (a := 1) (b := 119) yd_by_cX12_isImage_0 rfl rfl
theorem dX12_isImage_11 : decode cX12_isImage 11 = .ok (.ifCond .eq 61, 3) := yd_op_153 (i := 11) (a := 0) (b := 61) yd_by_cX12_isImage_0 rfl rfl
theorem dX12_isImage_14 : decode cX12_isImage 14 = .ok (.iload_n 1, 1) := yd_op_27 (i := 14) yd_by_cX12_isImage_0 rfl rfl
theorem dX12_isImage_15 : decode cX12_isImage 15 = .ok (.iload_n 2, 1) := yd_op_28 (i := 15) yd_by_cX12_isImage_0 rfl rfl
theorem dX12_isImage_16 : decode cX12_isImage 16 = .ok (.iconst 4, 1) := yd_op_7 (i := 16) yd_by_cX12_isImage_0 rfl rfl
theorem dX12_isImage_17 : decode cX12_isImage 17 = .ok (.aload_n 0, 1) := yd_op_42 (i := 17) yd_by_cX12_isImage_0 rfl rfl
theorem dX12_isImage_18 : decode cX12_isImage 18 = .ok (.invokevirtual 385, 3) := yd_op_182 (i := 18) (a := 1) (b := 129) yd_by_cX12_isImage_0 rfl rfl
theorem dX12_isImage_21 : decode cX12_isImage 21 = .ok (.imul, 1) := yd_op_104 (i := 21) yd_by_cX12_isImage_0 rfl rfl
theorem dX12_isImage_22 : decode cX12_isImage 22 = .ok (.iadd, 1) := yd_op_96 (i := 22) yd_by_cX12_isImage_0 rfl rfl
theorem dX12_isImage_23 : decode cX12_isImage 23 = .ok (.iconst 1, 1) := yd_op_4 (i := 23) yd_by_cX12_isImage_0 rfl rfl
theorem dX12_isImage_24 : decode cX12_isImage 24 = .ok (.iadd, 1) := yd_op_96 (i := 24) yd_by_cX12_isImage_0 rfl rfl
theorem dX12_isImage_25 : decode cX12_isImage 25 = .ok (.if_icmp .ne 47, 3) := yd_op_160 (i := 25) (a := 0) (b := 47) yd_by_cX12_isImage_0 rfl rfl
theorem dX12_isImage_28 : decode cX12_isImage 28 = .ok (.aload_n 0, 1) := yd_op_42 (i := 28) yd_by_cX12_isImage_0 rfl rfl
theorem dX12_isImage_29 : decode cX12_isImage 29 = .ok (.getfield 7, 3) := yd_op_180 (i := 29) (a := 0) (b := 7) yd_by_cX12_isImage_0 rfl rfl
set_option maxRecDepth 100000 in
theorem yd_by_cX12_isImage_1 : ydk cX12_isImage 32 [27, 4, 100, 46, 42, 180, 0, 7, 27, 4, 100, 184, 2, 147, 160, 0, 26, 17, 1, 0, 42, 180, 0, 7, 3, 46, 104, 42, 180, 0, 7, 4] = true := by decide +kernel
theorem dX12_isImage_32 : decode cX12_isImage 32 = .ok (.iload_n 1, 1) := yd_op_27 (i := 0) yd_by_cX12_isImage_1 rfl rfl
theorem dX12_isImage_33 : decode cX12_isImage 33 = .ok (.iconst 1, 1) := yd_op_4 (i := 1) yd_by_cX12_isImage_1 rfl rfl
theorem dX12_isImage_34 : decode cX12_isImage 34 = .ok (.isub, 1) := yd_op_100 (i := 2) yd_by_cX12_isImage_1 rfl rfl
theorem dX12_isImage_35 : decode cX12_isImage 35 = .ok (.iaload, 1) := yd_op_46 (i := 3) yd_by_cX12_isImage_1 rfl rfl
theorem dX12_isImage_36 : decode cX12_isImage 36 = .ok (.aload_n 0, 1) := yd_op_42 (i := 4) yd_by_cX12_isImage_1 rfl rfl
theorem dX12_isImage_37 : decode cX12_isImage 37 = .ok (.getfield 7, 3) := yd_op_180 (i := 5) (a := 0) (b := 7) yd_by_cX12_isImage_1 rfl rfl
theorem dX12_isImage_40 : decode cX12_isImage 40 = .ok (.iload_n 1, 1) := yd_op_27 (i := 8) yd_by_cX12_isImage_1 rfl rfl
theorem dX12_isImage_41 : decode cX12_isImage 41 = .ok (.iconst 1, 1) := yd_op_4 (i := 9) yd_by_cX12_isImage_1 rfl rfl
theorem dX12_isImage_42 : decode cX12_isImage 42 = .ok (.isub, 1) := yd_op_100 (i := 10) yd_by_cX12_isImage_1 rfl rfl
theorem dX12_isImage_43 : decode cX12_isImage 43 = .ok (.invokestatic 659, 3) := yd_op_184 (i := 11) (a := 2) (b := 147) yd_by_cX12_isImage_1 rfl rfl
theorem dX12_isImage_46 : decode cX12_isImage 46 = .ok (.if_icmp .ne 26, 3) := yd_op_160 (i := 14) (a := 0) (b := 26) yd_by_cX12_isImage_1 rfl rfl
theorem dX12_isImage_49 : decode cX12_isImage 49 = .ok (.sipush 256, 3) := yd_op_17 (i := 17) (a := 1) (b := 0) yd_by_cX12_isImage_1 rfl rfl
theorem dX12_isImage_52 : decode cX12_isImage 52 = .ok (.aload_n 0, 1) := yd_op_42 (i := 20) yd_by_cX12_isImage_1 rfl rfl
theorem dX12_isImage_53 : decode cX12_isImage 53 = .ok (.getfield 7, 3) := yd_op_180 (i := 21) (a := 0) (b := 7) yd_by_cX12_isImage_1 rfl rfl
theorem dX12_isImage_56 : decode cX12_isImage 56 = .ok (.iconst 0, 1) := yd_op_3 (i := 24) yd_by_cX12_isImage_1 rfl rfl
theorem dX12_isImage_57 : decode cX12_isImage 57 = .ok (.iaload, 1) := yd_op_46 (i := 25) yd_by_cX12_isImage_1 rfl rfl
theorem dX12_isImage_58 : decode cX12_isImage 58 = .ok (.imul, 1) := yd_op_104 (i := 26) yd_by_cX12_isImage_1 rfl rfl
theorem dX12_isImage_59 : decode cX12_isImage 59 = .ok (.aload_n 0, 1) := yd_op_42 (i := 27) yd_by_cX12_isImage_1 rfl rfl
theorem dX12_isImage_60 : decode cX12_isImage 60 = .ok (.getfield 7, 3) := yd_op_180 (i := 28) (a := 0) (b := 7) yd_by_cX12_isImage_1 rfl rfl
theorem dX12_isImage_63 : decode cX12_isImage 63 = .ok (.iconst 1, 1) := yd_op_4 (i := 31) yd_by_cX12_isImage_1 rfl rfl
set_option maxRecDepth 100000 in
theorem yd_by_cX12_isImage_2 : ydk cX12_isImage 64 [46, 96, 17, 3, 231, 164, 0, 5, 3, 172, 5, 62, 29, 28, 162, 0, 21, 42, 180, 0, 7, 29, 46, 4, 164, 0, 5, 3, 172, 132, 3, 1] = true := by decide +kernel
theorem dX12_isImage_64 : decode cX12_isImage 64 = .ok (.iaload, 1) := yd_op_46 (i := 0) yd_by_cX12_isImage_2 rfl rfl
theorem dX12_isImage_65 : decode cX12_isImage 65 = .ok (.iadd, 1) := yd_op_96 (i := 1) yd_by_cX12_isImage_2 rfl rfl
theorem dX12_isImage_66 : decode cX12_isImage 66 = .ok (.sipush 999, 3) := yd_op_17 (i := 2) (a := 3) (b := 231) yd_by_cX12_isImage_2 rfl rfl
theorem dX12_isImage_69 : decode cX12_isImage 69 = .ok (.if_icmp .le 5, 3) := yd_op_164 (i := 5) (a := 0) (b := 5) yd_by_cX12_isImage_2 rfl rfl
theorem dX12_isImage_72 : decode cX12_isImage 72 = .ok (.iconst 0, 1) := yd_op_3 (i := 8) yd_by_cX12_isImage_2 rfl rfl
theorem dX12_isImage_73 : decode cX12_isImage 73 = .ok (.ireturn, 1) := yd_op_172 (i := 9) yd_by_cX12_isImage_2 rfl rfl
theorem dX12_isImage_74 : decode cX12_isImage 74 = .ok (.iconst 2, 1) := yd_op_5 (i := 10) yd_by_cX12_isImage_2 rfl rfl
theorem dX12_isImage_75 : decode cX12_isImage 75 = .ok (.istore_n 3, 1) := yd_op_62 (i := 11) yd_by_cX12_isImage_2 rfl rfl
theorem dX12_isImage_76 : decode cX12_isImage 76 = .ok (.iload_n 3, 1) := yd_op_29 (i := 12) yd_by_cX12_isImage_2 rfl rfl
theorem dX12_isImage_77 : decode cX12_isImage 77 = .ok (.iload_n 2, 1) := yd_op_28 (i := 13) yd_by_cX12_isImage_2 rfl rfl
theorem dX12_isImage_78 : decode cX12_isImage 78 = .ok (.if_icmp .ge 21, 3) := yd_op_162 (i := 14) (a := 0) (b := 21) yd_by_cX12_isImage_2 rfl rfl
theorem dX12_isImage_81 : decode cX12_isImage 81 = .ok (.aload_n 0, 1) := yd_op_42 (i := 17) yd_by_cX12_isImage_2 rfl rfl
theorem dX12_isImage_82 : decode cX12_isImage 82 = .ok (.getfield 7, 3) := yd_op_180 (i := 18) (a := 0) (b := 7) yd_by_cX12_isImage_2 rfl rfl
theorem dX12_isImage_85 : decode cX12_isImage 85 = .ok (.iload_n 3, 1) := yd_op_29 (i := 21) yd_by_cX12_isImage_2 rfl rfl
theorem dX12_isImage_86 : decode cX12_isImage 86 = .ok (.iaload, 1) := yd_op_46 (i := 22) yd_by_cX12_isImage_2 rfl rfl
theorem dX12_isImage_87 : decode cX12_isImage 87 = .ok (.iconst 1, 1) := yd_op_4 (i := 23) yd_by_cX12_isImage_2 rfl rfl
theorem dX12_isImage_88 : decode cX12_isImage 88 = .ok (.if_icmp .le 5, 3) := yd_op_164 (i := 24) (a := 0) (b := 5) yd_by_cX12_isImage_2 rfl rfl
theorem dX12_isImage_91 : decode cX12_isImage 91 = .ok (.iconst 0, 1) := yd_op_3 (i := 27) yd_by_cX12_isImage_2 rfl rfl
theorem dX12_isImage_92 : decode cX12_isImage 92 = .ok (.ireturn, 1) := yd_op_172 (i := 28) yd_by_cX12_isImage_2 rfl rfl
theorem dX12_isImage_93 : decode cX12_isImage 93 = .ok (.iinc 3 1, 3) := yd_op_132 (i := 29) (a := 3) (b := 1) yd_by_cX12_isImage_2 rfl rfl
set_option maxRecDepth 100000 in
theorem yd_by_cX12_isImage_3 : ydk cX12_isImage 96 [167, 255, 236, 3, 62, 29, 42, 182, 1, 129, 162, 0, 20, 42, 28, 29, 182, 2, 151, 154, 0, 5, 3, 172, 132, 3, 1, 167, 255, 234, 4, 172] = true := by decide +kernel
theorem dX12_isImage_96 : decode cX12_isImage 96 = .ok (.goto (-20), 3) := yd_op_167 (i := 0) (a := 255) (b := 236) yd_by_cX12_isImage_3 rfl rfl
theorem dX12_isImage_99 : decode cX12_isImage 99 = .ok (.iconst 0, 1) := yd_op_3 (i := 3) yd_by_cX12_isImage_3 rfl rfl
theorem dX12_isImage_100 : decode cX12_isImage 100 = .ok (.istore_n 3, 1) := yd_op_62 (i := 4) yd_by_cX12_isImage_3 rfl rfl
theorem dX12_isImage_101 : decode cX12_isImage 101 = .ok (.iload_n 3, 1) := yd_op_29 (i := 5) yd_by_cX12_isImage_3 rfl rfl
theorem dX12_isImage_102 : decode cX12_isImage 102 = .ok (.aload_n 0, 1) := yd_op_42 (i := 6) yd_by_cX12_isImage_3 rfl rfl
theorem dX12_isImage_103 : decode cX12_isImage 103 = .ok (.invokevirtual 385, 3) := yd_op_182 (i := 7) (a := 1) (b := 129) yd_by_cX12_isImage_3 rfl rfl
theorem dX12_isImage_106 : decode cX12_isImage 106 = .ok (.if_icmp .ge 20, 3) := yd_op_162 (i := 10) (a := 0) (b := 20) yd_by_cX12_isImage_3 rfl rfl
theorem dX12_isImage_109 : decode cX12_isImage 109 = .ok (.aload_n 0, 1) := yd_op_42 (i := 13) yd_by_cX12_isImage_3 rfl rfl
theorem dX12_isImage_110 : decode cX12_isImage 110 = .ok (.iload_n 2, 1) := yd_op_28 (i := 14) yd_by_cX12_isImage_3 rfl rfl
theorem dX12_isImage_111 : decode cX12_isImage 111 = .ok (.iload_n 3, 1) := yd_op_29 (i := 15) yd_by_cX12_isImage_3 rfl rfl
theorem dX12_isImage_112 : decode cX12_isImage 112 = .ok (.invokevirtual 663, 3) := yd_op_182 (i := 16) (a := 2) (b := 151) yd_by_cX12_isImage_3 rfl rfl
theorem dX12_isImage_115 : decode cX12_isImage 115 = .ok (.ifCond .ne 5, 3) := yd_op_154 (i := 19) (a := 0) (b := 5) yd_by_cX12_isImage_3 rfl rfl
theorem dX12_isImage_118 : decode cX12_isImage 118 = .ok (.iconst 0, 1) := yd_op_3 (i := 22) yd_by_cX12_isImage_3 rfl rfl
theorem dX12_isImage_119 : decode cX12_isImage 119 = .ok (.ireturn, 1) := yd_op_172 (i := 23) yd_by_cX12_isImage_3 rfl rfl
theorem dX12_isImage_120 : decode cX12_isImage 120 = .ok (.iinc 3 1, 3) := yd_op_132 (i := 24) (a := 3) (b := 1) yd_by_cX12_isImage_3 rfl rfl
theorem dX12_isImage_123 : decode cX12_isImage 123 = .ok (.goto (-22), 3) := yd_op_167 (i := 27) (a := 255) (b := 234) yd_by_cX12_isImage_3 rfl rfl
theorem dX12_isImage_126 : decode cX12_isImage 126 = .ok (.iconst 1, 1) := yd_op_4 (i := 30) yd_by_cX12_isImage_3 rfl rfl
theorem dX12_isImage_127 : decode cX12_isImage 127 = .ok (.ireturn, 1) := yd_op_172 (i := 31) yd_by_cX12_isImage_3 rfl rfl
set_option maxRecDepth 100000 in
theorem yd_by_cX12_on_0 : ydk cX12_on 0 [42, 180, 0, 243, 60, 42, 3, 181, 0, 243, 42, 27, 182, 2, 155, 154, 0, 15, 42, 180, 0, 17, 8, 92, 46, 4, 96, 79, 3, 172] = true := by decide +kernel
theorem dX12_on_0 : decode cX12_on 0 = .ok (.aload_n 0, 1) := yd_op_42 (i := 0) yd_by_cX12_on_0 rfl rfl
theorem dX12_on_1 : decode cX12_on 1 = .ok (.getfield 243, 3) := yd_op_180 (i := 1) (a := 0) (b := 243) yd_by_cX12_on_0 rfl rfl
theorem dX12_on_4 : decode cX12_on 4 = .ok (.istore_n 1, 1) := yd_op_60 (i := 4) yd_by_cX12_on_0 rfl rfl
theorem dX12_on_5 : decode cX12_on 5 = .ok (.aload_n 0, 1) := yd_op_42 (i := 5) yd_by_cX12_on_0 rfl rfl
theorem dX12_on_6 : decode cX12_on 6 = .ok (.iconst 0, 1) := yd_op_3 (i := 6) yd_by_cX12_on_0 rfl rfl
theorem dX12_on_7 : decode cX12_on 7 = .ok (.putfield 243, 3) := yd_op_181 (i := 7) (a := 0) (b := 243) yd_by_cX12_on_0 rfl rfl
theorem dX12_on_10 : decode cX12_on 10 = .ok (.aload_n 0, 1) := yd_op_42 (i := 10) yd_by_cX12_on_0 rfl rfl
theorem dX12_on_11 : decode cX12_on 11 = .ok (.iload_n 1, 1) := yd_op_27 (i := 11) yd_by_cX12_on_0 rfl rfl
theorem dX12_on_12 : decode cX12_on 12 = .ok (.invokevirtual 667, 3) := yd_op_182 (i := 12) (a := 2) (b := 155) yd_by_cX12_on_0 rfl rfl
theorem dX12_on_15 : decode cX12_on 15 = .ok (.ifCond .ne 15, 3) := yd_op_154 (i := 15) (a := 0) (b := 15) yd_by_cX12_on_0 rfl rfl
theorem dX12_on_18 : decode cX12_on 18 = .ok (.aload_n 0, 1) := yd_op_42 (i := 18) yd_by_cX12_on_0 rfl rfl
theorem dX12_on_19 : decode cX12_on 19 = .ok (.getfield 17, 3) := yd_op_180 (i := 19) (a := 0) (b := 17) yd_by_cX12_on_0 rfl rfl
theorem dX12_on_22 : decode cX12_on 22 = .ok (.iconst 5, 1) := yd_op_8 (i := 22) yd_by_cX12_on_0 rfl rfl
theorem dX12_on_23 : decode cX12_on 23 = .ok (.dup2, 1) := yd_op_92 (i := 23) yd_by_cX12_on_0 rfl rfl
theorem dX12_on_24 : decode cX12_on 24 = .ok (.iaload, 1) := yd_op_46 (i := 24) yd_by_cX12_on_0 rfl rfl
theorem dX12_on_25 : decode cX12_on 25 = .ok (.iconst 1, 1) := yd_op_4 (i := 25) yd_by_cX12_on_0 rfl rfl
theorem dX12_on_26 : decode cX12_on 26 = .ok (.iadd, 1) := yd_op_96 (i := 26) yd_by_cX12_on_0 rfl rfl
theorem dX12_on_27 : decode cX12_on 27 = .ok (.iastore, 1) := yd_op_79 (i := 27) yd_by_cX12_on_0 rfl rfl
theorem dX12_on_28 : decode cX12_on 28 = .ok (.iconst 0, 1) := yd_op_3 (i := 28) yd_by_cX12_on_0 rfl rfl
theorem dX12_on_29 : decode cX12_on 29 = .ok (.ireturn, 1) := yd_op_172 (i := 29) yd_by_cX12_on_0 rfl rfl
set_option maxRecDepth 100000 in
theorem yd_by_cX12_on_1 : ydk cX12_on 30 [5, 42, 182, 1, 174, 96, 61, 42, 180, 0, 130, 3, 17, 1, 0, 42, 180, 0, 7, 3, 46, 104, 42, 180, 0, 7, 4, 46, 96, 79] = true := by decide +kernel
theorem dX12_on_30 : decode cX12_on 30 = .ok (.iconst 2, 1) := yd_op_5 (i := 0) yd_by_cX12_on_1 rfl rfl
theorem dX12_on_31 : decode cX12_on 31 = .ok (.aload_n 0, 1) := yd_op_42 (i := 1) yd_by_cX12_on_1 rfl rfl
theorem dX12_on_32 : decode cX12_on 32 = .ok (.invokevirtual 430, 3) := yd_op_182 (i := 2) (a := 1) (b := 174) yd_by_cX12_on_1 rfl rfl
theorem dX12_on_35 : decode cX12_on 35 = .ok (.iadd, 1) := yd_op_96 (i := 5) yd_by_cX12_on_1 rfl rfl
theorem dX12_on_36 : decode cX12_on 36 = .ok (.istore_n 2, 1) := yd_op_61 (i := 6) yd_by_cX12_on_1 rfl rfl
theorem dX12_on_37 : decode cX12_on 37 = .ok (.aload_n 0, 1) := yd_op_42 (i := 7) yd_by_cX12_on_1 rfl rfl
theorem dX12_on_38 : decode cX12_on 38 = .ok (.getfield 130, 3) := yd_op_180 (i := 8) (a := 0) (b := 130) yd_by_cX12_on_1 rfl rfl
theorem dX12_on_41 : decode cX12_on 41 = .ok (.iconst 0, 1) := yd_op_3 (i := 11) yd_by_cX12_on_1 rfl rfl
theorem dX12_on_42 : decode cX12_on 42 = .ok (.sipush 256, 3) := yd_op_17 (i := 12) (a := 1) (b := 0) yd_by_cX12_on_1 rfl rfl
theorem dX12_on_45 : decode cX12_on 45 = .ok (.aload_n 0, 1) := yd_op_42 (i := 15) yd_by_cX12_on_1 rfl rfl
theorem dX12_on_46 : decode cX12_on 46 = .ok (.getfield 7, 3) := yd_op_180 (i := 16) (a := 0) (b := 7) yd_by_cX12_on_1 rfl rfl
theorem dX12_on_49 : decode cX12_on 49 = .ok (.iconst 0, 1) := yd_op_3 (i := 19) yd_by_cX12_on_1 rfl rfl
theorem dX12_on_50 : decode cX12_on 50 = .ok (.iaload, 1) := yd_op_46 (i := 20) yd_by_cX12_on_1 rfl rfl
theorem dX12_on_51 : decode cX12_on 51 = .ok (.imul, 1) := yd_op_104 (i := 21) yd_by_cX12_on_1 rfl rfl
theorem dX12_on_52 : decode cX12_on 52 = .ok (.aload_n 0, 1) := yd_op_42 (i := 22) yd_by_cX12_on_1 rfl rfl
theorem dX12_on_53 : decode cX12_on 53 = .ok (.getfield 7, 3) := yd_op_180 (i := 23) (a := 0) (b := 7) yd_by_cX12_on_1 rfl rfl
theorem dX12_on_56 : decode cX12_on 56 = .ok (.iconst 1, 1) := yd_op_4 (i := 26) yd_by_cX12_on_1 rfl rfl
theorem dX12_on_57 : decode cX12_on 57 = .ok (.iaload, 1) := yd_op_46 (i := 27) yd_by_cX12_on_1 rfl rfl
theorem dX12_on_58 : decode cX12_on 58 = .ok (.iadd, 1) := yd_op_96 (i := 28) yd_by_cX12_on_1 rfl rfl
theorem dX12_on_59 : decode cX12_on 59 = .ok (.iastore, 1) := yd_op_79 (i := 29) yd_by_cX12_on_1 rfl rfl
set_option maxRecDepth 100000 in
theorem yd_by_cX12_on_2 : ydk cX12_on 60 [3, 62, 29, 42, 182, 1, 174, 162, 0, 29, 42, 180, 0, 130, 4, 42, 29, 182, 1, 177, 96, 42, 180, 0, 7, 5, 29, 96, 46, 79] = true := by decide +kernel
theorem dX12_on_60 : decode cX12_on 60 = .ok (.iconst 0, 1) := yd_op_3 (i := 0) yd_by_cX12_on_2 rfl rfl
theorem dX12_on_61 : decode cX12_on 61 = .ok (.istore_n 3, 1) := yd_op_62 (i := 1) yd_by_cX12_on_2 rfl rfl
theorem dX12_on_62 : decode cX12_on 62 = .ok (.iload_n 3, 1) := yd_op_29 (i := 2) yd_by_cX12_on_2 rfl rfl
theorem dX12_on_63 : decode cX12_on 63 = .ok (.aload_n 0, 1) := yd_op_42 (i := 3) yd_by_cX12_on_2 rfl rfl
theorem dX12_on_64 : decode cX12_on 64 = .ok (.invokevirtual 430, 3) := yd_op_182 (i := 4) (a := 1) (b := 174) yd_by_cX12_on_2 rfl rfl
theorem dX12_on_67 : decode cX12_on 67 = .ok (.if_icmp .ge 29, 3) := yd_op_162 (i := 7) (a := 0) (b := 29) yd_by_cX12_on_2 rfl rfl
theorem dX12_on_70 : decode cX12_on 70 = .ok (.aload_n 0, 1) := yd_op_42 (i := 10) yd_by_cX12_on_2 rfl rfl
theorem dX12_on_71 : decode cX12_on 71 = .ok (.getfield 130, 3) := yd_op_180 (i := 11) (a := 0) (b := 130) yd_by_cX12_on_2 rfl rfl
theorem dX12_on_74 : decode cX12_on 74 = .ok (.iconst 1, 1) := yd_op_4 (i := 14) yd_by_cX12_on_2 rfl rfl
theorem dX12_on_75 : decode cX12_on 75 = .ok (.aload_n 0, 1) := yd_op_42 (i := 15) yd_by_cX12_on_2 rfl rfl
theorem dX12_on_76 : decode cX12_on 76 = .ok (.iload_n 3, 1) := yd_op_29 (i := 16) yd_by_cX12_on_2 rfl rfl
theorem dX12_on_77 : decode cX12_on 77 = .ok (.invokevirtual 433, 3) := yd_op_182 (i := 17) (a := 1) (b := 177) yd_by_cX12_on_2 rfl rfl
theorem dX12_on_80 : decode cX12_on 80 = .ok (.iadd, 1) := yd_op_96 (i := 20) yd_by_cX12_on_2 rfl rfl
theorem dX12_on_81 : decode cX12_on 81 = .ok (.aload_n 0, 1) := yd_op_42 (i := 21) yd_by_cX12_on_2 rfl rfl
theorem dX12_on_82 : decode cX12_on 82 = .ok (.getfield 7, 3) := yd_op_180 (i := 22) (a := 0) (b := 7) yd_by_cX12_on_2 rfl rfl
theorem dX12_on_85 : decode cX12_on 85 = .ok (.iconst 2, 1) := yd_op_5 (i := 25) yd_by_cX12_on_2 rfl rfl
theorem dX12_on_86 : decode cX12_on 86 = .ok (.iload_n 3, 1) := yd_op_29 (i := 26) yd_by_cX12_on_2 rfl rfl
theorem dX12_on_87 : decode cX12_on 87 = .ok (.iadd, 1) := yd_op_96 (i := 27) yd_by_cX12_on_2 rfl rfl
theorem dX12_on_88 : decode cX12_on 88 = .ok (.iaload, 1) := yd_op_46 (i := 28) yd_by_cX12_on_2 rfl rfl
theorem dX12_on_89 : decode cX12_on 89 = .ok (.iastore, 1) := yd_op_79 (i := 29) yd_by_cX12_on_2 rfl rfl
set_option maxRecDepth 100000 in
theorem yd_by_cX12_on_3 : ydk cX12_on 90 [132, 3, 1, 167, 255, 225, 3, 62, 29, 42, 182, 1, 129, 162, 0, 91, 28, 7, 29, 104, 96, 54, 4, 42, 180, 0, 130, 16, 37, 6, 29, 104] = true := by decide +kernel
theorem dX12_on_90 : decode cX12_on 90 = .ok (.iinc 3 1, 3) := yd_op_132 (i := 0) (a := 3) (b := 1) yd_by_cX12_on_3 rfl rfl
theorem dX12_on_93 : decode cX12_on 93 = .ok (.goto (-31), 3) := yd_op_167 (i := 3) (a := 255) (b := 225) yd_by_cX12_on_3 rfl rfl
theorem dX12_on_96 : decode cX12_on 96 = .ok (.iconst 0, 1) := yd_op_3 (i := 6) yd_by_cX12_on_3 rfl rfl
theorem dX12_on_97 : decode cX12_on 97 = .ok (.istore_n 3, 1) := yd_op_62 (i := 7) yd_by_cX12_on_3 rfl rfl
theorem dX12_on_98 : decode cX12_on 98 = .ok (.iload_n 3, 1) := yd_op_29 (i := 8) yd_by_cX12_on_3 rfl rfl
theorem dX12_on_99 : decode cX12_on 99 = .ok (.aload_n 0, 1) := yd_op_42 (i := 9) yd_by_cX12_on_3 rfl rfl
theorem dX12_on_100 : decode cX12_on 100 = .ok (.invokevirtual 385, 3) := yd_op_182 (i := 10) (a := 1) (b := 129) yd_by_cX12_on_3 rfl rfl
theorem dX12_on_103 : decode cX12_on 103 = .ok (.if_icmp .ge 91, 3) := yd_op_162 (i := 13) (a := 0) (b := 91) yd_by_cX12_on_3 rfl rfl
theorem dX12_on_106 : decode cX12_on 106 = .ok (.iload_n 2, 1) := yd_op_28 (i := 16) yd_by_cX12_on_3 rfl rfl
theorem dX12_on_107 : decode cX12_on 107 = .ok (.iconst 4, 1) := yd_op_7 (i := 17) yd_by_cX12_on_3 rfl rfl
theorem dX12_on_108 : decode cX12_on 108 = .ok (.iload_n 3, 1) := yd_op_29 (i := 18) yd_by_cX12_on_3 rfl rfl
theorem dX12_on_109 : decode cX12_on 109 = .ok (.imul, 1) := yd_op_104 (i := 19) yd_by_cX12_on_3 rfl rfl
theorem dX12_on_110 : decode cX12_on 110 = .ok (.iadd, 1) := yd_op_96 (i := 20) yd_by_cX12_on_3 rfl rfl
theorem dX12_on_111 : decode cX12_on 111 = .ok (.istore 4, 2) := yd_op_54 (i := 21) (a := 4) yd_by_cX12_on_3 rfl rfl
theorem dX12_on_113 : decode cX12_on 113 = .ok (.aload_n 0, 1) := yd_op_42 (i := 23) yd_by_cX12_on_3 rfl rfl
theorem dX12_on_114 : decode cX12_on 114 = .ok (.getfield 130, 3) := yd_op_180 (i := 24) (a := 0) (b := 130) yd_by_cX12_on_3 rfl rfl
theorem dX12_on_117 : decode cX12_on 117 = .ok (.bipush 37, 2) := yd_op_16 (i := 27) (a := 37) yd_by_cX12_on_3 rfl rfl
theorem dX12_on_119 : decode cX12_on 119 = .ok (.iconst 3, 1) := yd_op_6 (i := 29) yd_by_cX12_on_3 rfl rfl
theorem dX12_on_120 : decode cX12_on 120 = .ok (.iload_n 3, 1) := yd_op_29 (i := 30) yd_by_cX12_on_3 rfl rfl
theorem dX12_on_121 : decode cX12_on 121 = .ok (.imul, 1) := yd_op_104 (i := 31) yd_by_cX12_on_3 rfl rfl
set_option maxRecDepth 100000 in
theorem yd_by_cX12_on_4 : ydk cX12_on 122 [96, 42, 180, 0, 7, 21, 4, 46, 16, 6, 42, 180, 0, 7, 21, 4, 4, 96, 46, 104, 96, 79, 42, 180, 0, 130, 16, 37, 6, 29] = true := by decide +kernel
theorem dX12_on_122 : decode cX12_on 122 = .ok (.iadd, 1) := yd_op_96 (i := 0) yd_by_cX12_on_4 rfl rfl
theorem dX12_on_123 : decode cX12_on 123 = .ok (.aload_n 0, 1) := yd_op_42 (i := 1) yd_by_cX12_on_4 rfl rfl
theorem dX12_on_124 : decode cX12_on 124 = .ok (.getfield 7, 3) := yd_op_180 (i := 2) (a := 0) (b := 7) yd_by_cX12_on_4 rfl rfl
theorem dX12_on_127 : decode cX12_on 127 = .ok (.iload 4, 2) := yd_op_21 (i := 5) (a := 4) yd_by_cX12_on_4 rfl rfl
theorem dX12_on_129 : decode cX12_on 129 = .ok (.iaload, 1) := yd_op_46 (i := 7) yd_by_cX12_on_4 rfl rfl
theorem dX12_on_130 : decode cX12_on 130 = .ok (.bipush 6, 2) := yd_op_16 (i := 8) (a := 6) yd_by_cX12_on_4 rfl rfl
theorem dX12_on_132 : decode cX12_on 132 = .ok (.aload_n 0, 1) := yd_op_42 (i := 10) yd_by_cX12_on_4 rfl rfl
theorem dX12_on_133 : decode cX12_on 133 = .ok (.getfield 7, 3) := yd_op_180 (i := 11) (a := 0) (b := 7) yd_by_cX12_on_4 rfl rfl
theorem dX12_on_136 : decode cX12_on 136 = .ok (.iload 4, 2) := yd_op_21 (i := 14) (a := 4) yd_by_cX12_on_4 rfl rfl
theorem dX12_on_138 : decode cX12_on 138 = .ok (.iconst 1, 1) := yd_op_4 (i := 16) yd_by_cX12_on_4 rfl rfl
theorem dX12_on_139 : decode cX12_on 139 = .ok (.iadd, 1) := yd_op_96 (i := 17) yd_by_cX12_on_4 rfl rfl
theorem dX12_on_140 : decode cX12_on 140 = .ok (.iaload, 1) := yd_op_46 (i := 18) yd_by_cX12_on_4 rfl rfl
theorem dX12_on_141 : decode cX12_on 141 = .ok (.imul, 1) := yd_op_104 (i := 19) yd_by_cX12_on_4 rfl rfl
theorem dX12_on_142 : decode cX12_on 142 = .ok (.iadd, 1) := yd_op_96 (i := 20) yd_by_cX12_on_4 rfl rfl
theorem dX12_on_143 : decode cX12_on 143 = .ok (.iastore, 1) := yd_op_79 (i := 21) yd_by_cX12_on_4 rfl rfl
theorem dX12_on_144 : decode cX12_on 144 = .ok (.aload_n 0, 1) := yd_op_42 (i := 22) yd_by_cX12_on_4 rfl rfl
theorem dX12_on_145 : decode cX12_on 145 = .ok (.getfield 130, 3) := yd_op_180 (i := 23) (a := 0) (b := 130) yd_by_cX12_on_4 rfl rfl
theorem dX12_on_148 : decode cX12_on 148 = .ok (.bipush 37, 2) := yd_op_16 (i := 26) (a := 37) yd_by_cX12_on_4 rfl rfl
theorem dX12_on_150 : decode cX12_on 150 = .ok (.iconst 3, 1) := yd_op_6 (i := 28) yd_by_cX12_on_4 rfl rfl
theorem dX12_on_151 : decode cX12_on 151 = .ok (.iload_n 3, 1) := yd_op_29 (i := 29) yd_by_cX12_on_4 rfl rfl
set_option maxRecDepth 100000 in
theorem yd_by_cX12_on_5 : ydk cX12_on 152 [104, 96, 4, 96, 42, 180, 0, 7, 21, 4, 5, 96, 46, 79, 42, 180, 0, 130, 16, 37, 6, 29, 104, 96, 5, 96] = true := by decide +kernel
theorem dX12_on_152 : decode cX12_on 152 = .ok (.imul, 1) := yd_op_104 (i := 0) yd_by_cX12_on_5 rfl rfl
theorem dX12_on_153 : decode cX12_on 153 = .ok (.iadd, 1) := yd_op_96 (i := 1) yd_by_cX12_on_5 rfl rfl
theorem dX12_on_154 : decode cX12_on 154 = .ok (.iconst 1, 1) := yd_op_4 (i := 2) yd_by_cX12_on_5 rfl rfl
theorem dX12_on_155 : decode cX12_on 155 = .ok (.iadd, 1) := yd_op_96 (i := 3) yd_by_cX12_on_5 rfl rfl
theorem dX12_on_156 : decode cX12_on 156 = .ok (.aload_n 0, 1) := yd_op_42 (i := 4) yd_by_cX12_on_5 rfl rfl
theorem dX12_on_157 : decode cX12_on 157 = .ok (.getfield 7, 3) := yd_op_180 (i := 5) (a := 0) (b := 7) yd_by_cX12_on_5 rfl rfl
theorem dX12_on_160 : decode cX12_on 160 = .ok (.iload 4, 2) := yd_op_21 (i := 8) (a := 4) yd_by_cX12_on_5 rfl rfl
theorem dX12_on_162 : decode cX12_on 162 = .ok (.iconst 2, 1) := yd_op_5 (i := 10) yd_by_cX12_on_5 rfl rfl
theorem dX12_on_163 : decode cX12_on 163 = .ok (.iadd, 1) := yd_op_96 (i := 11) yd_by_cX12_on_5 rfl rfl
theorem dX12_on_164 : decode cX12_on 164 = .ok (.iaload, 1) := yd_op_46 (i := 12) yd_by_cX12_on_5 rfl rfl
theorem dX12_on_165 : decode cX12_on 165 = .ok (.iastore, 1) := yd_op_79 (i := 13) yd_by_cX12_on_5 rfl rfl
theorem dX12_on_166 : decode cX12_on 166 = .ok (.aload_n 0, 1) := yd_op_42 (i := 14) yd_by_cX12_on_5 rfl rfl
theorem dX12_on_167 : decode cX12_on 167 = .ok (.getfield 130, 3) := yd_op_180 (i := 15) (a := 0) (b := 130) yd_by_cX12_on_5 rfl rfl
theorem dX12_on_170 : decode cX12_on 170 = .ok (.bipush 37, 2) := yd_op_16 (i := 18) (a := 37) yd_by_cX12_on_5 rfl rfl
theorem dX12_on_172 : decode cX12_on 172 = .ok (.iconst 3, 1) := yd_op_6 (i := 20) yd_by_cX12_on_5 rfl rfl
theorem dX12_on_173 : decode cX12_on 173 = .ok (.iload_n 3, 1) := yd_op_29 (i := 21) yd_by_cX12_on_5 rfl rfl
theorem dX12_on_174 : decode cX12_on 174 = .ok (.imul, 1) := yd_op_104 (i := 22) yd_by_cX12_on_5 rfl rfl
theorem dX12_on_175 : decode cX12_on 175 = .ok (.iadd, 1) := yd_op_96 (i := 23) yd_by_cX12_on_5 rfl rfl
theorem dX12_on_176 : decode cX12_on 176 = .ok (.iconst 2, 1) := yd_op_5 (i := 24) yd_by_cX12_on_5 rfl rfl
theorem dX12_on_177 : decode cX12_on 177 = .ok (.iadd, 1) := yd_op_96 (i := 25) yd_by_cX12_on_5 rfl rfl
set_option maxRecDepth 100000 in
theorem yd_by_cX12_on_6 : ydk cX12_on 178 [42, 180, 0, 7, 21, 4, 6, 96, 46, 79, 132, 3, 1, 167, 255, 163, 42, 180, 0, 130, 16, 67, 3, 79, 42, 3, 181, 1, 123, 4, 172] = true := by decide +kernel
theorem dX12_on_178 : decode cX12_on 178 = .ok (.aload_n 0, 1) := yd_op_42 (i := 0) yd_by_cX12_on_6 rfl rfl
theorem dX12_on_179 : decode cX12_on 179 = .ok (.getfield 7, 3) := yd_op_180 (i := 1) (a := 0) (b := 7) yd_by_cX12_on_6 rfl rfl
theorem dX12_on_182 : decode cX12_on 182 = .ok (.iload 4, 2) := yd_op_21 (i := 4) (a := 4) yd_by_cX12_on_6 rfl rfl
theorem dX12_on_184 : decode cX12_on 184 = .ok (.iconst 3, 1) := yd_op_6 (i := 6) yd_by_cX12_on_6 rfl rfl
theorem dX12_on_185 : decode cX12_on 185 = .ok (.iadd, 1) := yd_op_96 (i := 7) yd_by_cX12_on_6 rfl rfl
theorem dX12_on_186 : decode cX12_on 186 = .ok (.iaload, 1) := yd_op_46 (i := 8) yd_by_cX12_on_6 rfl rfl
theorem dX12_on_187 : decode cX12_on 187 = .ok (.iastore, 1) := yd_op_79 (i := 9) yd_by_cX12_on_6 rfl rfl
theorem dX12_on_188 : decode cX12_on 188 = .ok (.iinc 3 1, 3) := yd_op_132 (i := 10) (a := 3) (b := 1) yd_by_cX12_on_6 rfl rfl
theorem dX12_on_191 : decode cX12_on 191 = .ok (.goto (-93), 3) := yd_op_167 (i := 13) (a := 255) (b := 163) yd_by_cX12_on_6 rfl rfl
theorem dX12_on_194 : decode cX12_on 194 = .ok (.aload_n 0, 1) := yd_op_42 (i := 16) yd_by_cX12_on_6 rfl rfl
theorem dX12_on_195 : decode cX12_on 195 = .ok (.getfield 130, 3) := yd_op_180 (i := 17) (a := 0) (b := 130) yd_by_cX12_on_6 rfl rfl
theorem dX12_on_198 : decode cX12_on 198 = .ok (.bipush 67, 2) := yd_op_16 (i := 20) (a := 67) yd_by_cX12_on_6 rfl rfl
theorem dX12_on_200 : decode cX12_on 200 = .ok (.iconst 0, 1) := yd_op_3 (i := 22) yd_by_cX12_on_6 rfl rfl
theorem dX12_on_201 : decode cX12_on 201 = .ok (.iastore, 1) := yd_op_79 (i := 23) yd_by_cX12_on_6 rfl rfl
theorem dX12_on_202 : decode cX12_on 202 = .ok (.aload_n 0, 1) := yd_op_42 (i := 24) yd_by_cX12_on_6 rfl rfl
theorem dX12_on_203 : decode cX12_on 203 = .ok (.iconst 0, 1) := yd_op_3 (i := 25) yd_by_cX12_on_6 rfl rfl
theorem dX12_on_204 : decode cX12_on 204 = .ok (.putfield 379, 3) := yd_op_181 (i := 26) (a := 1) (b := 123) yd_by_cX12_on_6 rfl rfl
theorem dX12_on_207 : decode cX12_on 207 = .ok (.iconst 1, 1) := yd_op_4 (i := 29) yd_by_cX12_on_6 rfl rfl
theorem dX12_on_208 : decode cX12_on 208 = .ok (.ireturn, 1) := yd_op_172 (i := 30) yd_by_cX12_on_6 rfl rfl
set_option maxRecDepth 100000 in
theorem yd_by_cX12_status_0 : ydk cX12_status 0 [27, 133, 9, 20, 1, 53, 184, 1, 33, 153, 0, 12, 42, 180, 0, 17, 27, 46, 167, 0, 4, 2, 172] = true := by decide +kernel
theorem dX12_status_0 : decode cX12_status 0 = .ok (.iload_n 1, 1) := yd_op_27 (i := 0) yd_by_cX12_status_0 rfl rfl
theorem dX12_status_1 : decode cX12_status 1 = .ok (.i2l, 1) := yd_op_133 (i := 1) yd_by_cX12_status_0 rfl rfl
theorem dX12_status_2 : decode cX12_status 2 = .ok (.lconst 0, 1) := yd_op_9 (i := 2) yd_by_cX12_status_0 rfl rfl
theorem dX12_status_3 : decode cX12_status 3 = .ok (.ldc2_w 309, 3) := yd_op_20 (i := 3) (a := 1) (b := 53) yd_by_cX12_status_0 rfl rfl
theorem dX12_status_6 : decode cX12_status 6 = .ok (.invokestatic 289, 3) := yd_op_184 (i := 6) (a := 1) (b := 33) yd_by_cX12_status_0 rfl rfl
theorem dX12_status_9 : decode cX12_status 9 = .ok (.ifCond .eq 12, 3) := yd_op_153 (i := 9) (a := 0) (b := 12) yd_by_cX12_status_0 rfl rfl
theorem dX12_status_12 : decode cX12_status 12 = .ok (.aload_n 0, 1) := yd_op_42 (i := 12) yd_by_cX12_status_0 rfl rfl
theorem dX12_status_13 : decode cX12_status 13 = .ok (.getfield 17, 3) := yd_op_180 (i := 13) (a := 0) (b := 17) yd_by_cX12_status_0 rfl rfl
theorem dX12_status_16 : decode cX12_status 16 = .ok (.iload_n 1, 1) := yd_op_27 (i := 16) yd_by_cX12_status_0 rfl rfl
theorem dX12_status_17 : decode cX12_status 17 = .ok (.iaload, 1) := yd_op_46 (i := 17) yd_by_cX12_status_0 rfl rfl
theorem dX12_status_18 : decode cX12_status 18 = .ok (.goto 4, 3) := yd_op_167 (i := 18) (a := 0) (b := 4) yd_by_cX12_status_0 rfl rfl
theorem dX12_status_21 : decode cX12_status 21 = .ok (.iconst (-1), 1) := yd_op_2 (i := 21) yd_by_cX12_status_0 rfl rfl
theorem dX12_status_22 : decode cX12_status 22 = .ok (.ireturn, 1) := yd_op_172 (i := 22) yd_by_cX12_status_0 rfl rfl
