theorem yd_op_188_5 {c : ByteArray} {pc n i : Nat} {l : List Nat} (h : ydk c n l = true) (hi : (l.drop i).take 2 = [188, 5]) (hp : n + i = pc) : decode c pc = .ok (.newarray .char, 2) := yd_fb rfl (yd_g h hi hp 0 _ rfl) (yd_g h hi hp 1 _ rfl) rfl rfl
theorem yd_op_85 {c : ByteArray} {pc n i : Nat} {l : List Nat} (h : ydk c n l = true) (hi : (l.drop i).take 1 = [85]) (hp : n + i = pc) : decode c pc = .ok (.castore, 1) := yd_f0 rfl (yd_g h hi hp 0 _ rfl) rfl
theorem yd_op_188_11 {c : ByteArray} {pc n i : Nat} {l : List Nat} (h : ydk c n l = true) (hi : (l.drop i).take 2 = [188, 11]) (hp : n + i = pc) : decode c pc = .ok (.newarray .long, 2) := yd_fb rfl (yd_g h hi hp 0 _ rfl) (yd_g h hi hp 1 _ rfl) rfl rfl
set_option maxRecDepth 100000 in
theorem yd_by_cX12_init_0 : ydk cX12_init 0 [42, 183, 0, 1, 42, 17, 6, 64, 188, 10, 181, 0, 7, 42, 2, 181, 0, 13, 42, 16, 6, 188, 10, 181, 0, 17, 42, 7, 188, 5, 89, 3, 16, 112, 85] = true := by decide +kernel
theorem dX12_init_0 : decode cX12_init 0 = .ok (.aload_n 0, 1) := yd_op_42 (i := 0) yd_by_cX12_init_0 rfl rfl
theorem dX12_init_1 : decode cX12_init 1 = .ok (.invokespecial 1, 3) := yd_op_183 (i := 1) (a := 0) (b := 1) yd_by_cX12_init_0 rfl rfl
theorem dX12_init_4 : decode cX12_init 4 = .ok (.aload_n 0, 1) := yd_op_42 (i := 4) yd_by_cX12_init_0 rfl rfl
theorem dX12_init_5 : decode cX12_init 5 = .ok (.sipush 1600, 3) := yd_op_17 (i := 5) (a := 6) (b := 64) yd_by_cX12_init_0 rfl rfl
theorem dX12_init_8 : decode cX12_init 8 = .ok (.newarray .int, 2) := yd_op_188_10 (i := 8) yd_by_cX12_init_0 rfl rfl
theorem dX12_init_10 : decode cX12_init 10 = .ok (.putfield 7, 3) := yd_op_181 (i := 10) (a := 0) (b := 7) yd_by_cX12_init_0 rfl rfl
theorem dX12_init_13 : decode cX12_init 13 = .ok (.aload_n 0, 1) := yd_op_42 (i := 13) yd_by_cX12_init_0 rfl rfl
theorem dX12_init_14 : decode cX12_init 14 = .ok (.iconst (-1), 1) := yd_op_2 (i := 14) yd_by_cX12_init_0 rfl rfl
theorem dX12_init_15 : decode cX12_init 15 = .ok (.putfield 13, 3) := yd_op_181 (i := 15) (a := 0) (b := 13) yd_by_cX12_init_0 rfl rfl
theorem dX12_init_18 : decode cX12_init 18 = .ok (.aload_n 0, 1) := yd_op_42 (i := 18) yd_by_cX12_init_0 rfl rfl
theorem dX12_init_19 : decode cX12_init 19 = .ok (.bipush 6, 2) := yd_op_16 (i := 19) (a := 6) yd_by_cX12_init_0 rfl rfl
theorem dX12_init_21 : decode cX12_init 21 = .ok (.newarray .int, 2) := yd_op_188_10 (i := 21) yd_by_cX12_init_0 rfl rfl
theorem dX12_init_23 : decode cX12_init 23 = .ok (.putfield 17, 3) := yd_op_181 (i := 23) (a := 0) (b := 17) yd_by_cX12_init_0 rfl rfl
theorem dX12_init_26 : decode cX12_init 26 = .ok (.aload_n 0, 1) := yd_op_42 (i := 26) yd_by_cX12_init_0 rfl rfl
theorem dX12_init_27 : decode cX12_init 27 = .ok (.iconst 4, 1) := yd_op_7 (i := 27) yd_by_cX12_init_0 rfl rfl
theorem dX12_init_28 : decode cX12_init 28 = .ok (.newarray .char, 2) := yd_op_188_5 (i := 28) yd_by_cX12_init_0 rfl rfl
theorem dX12_init_30 : decode cX12_init 30 = .ok (.dup, 1) := yd_op_89 (i := 30) yd_by_cX12_init_0 rfl rfl
theorem dX12_init_31 : decode cX12_init 31 = .ok (.iconst 0, 1) := yd_op_3 (i := 31) yd_by_cX12_init_0 rfl rfl
theorem dX12_init_32 : decode cX12_init 32 = .ok (.bipush 112, 2) := yd_op_16 (i := 32) (a := 112) yd_by_cX12_init_0 rfl rfl
theorem dX12_init_34 : decode cX12_init 34 = .ok (.castore, 1) := yd_op_85 (i := 34) yd_by_cX12_init_0 rfl rfl
set_option maxRecDepth 100000 in
theorem yd_by_cX12_init_1 : ydk cX12_init 35 [89, 4, 16, 97, 85, 89, 5, 16, 110, 85, 89, 6, 16, 101, 85, 181, 0, 20, 42, 5, 188, 5, 89, 3, 16, 98, 85] = true := by decide +kernel
theorem dX12_init_35 : decode cX12_init 35 = .ok (.dup, 1) := yd_op_89 (i := 0) yd_by_cX12_init_1 rfl rfl
theorem dX12_init_36 : decode cX12_init 36 = .ok (.iconst 1, 1) := yd_op_4 (i := 1) yd_by_cX12_init_1 rfl rfl
theorem dX12_init_37 : decode cX12_init 37 = .ok (.bipush 97, 2) := yd_op_16 (i := 2) (a := 97) yd_by_cX12_init_1 rfl rfl
theorem dX12_init_39 : decode cX12_init 39 = .ok (.castore, 1) := yd_op_85 (i := 4) yd_by_cX12_init_1 rfl rfl
theorem dX12_init_40 : decode cX12_init 40 = .ok (.dup, 1) := yd_op_89 (i := 5) yd_by_cX12_init_1 rfl rfl
theorem dX12_init_41 : decode cX12_init 41 = .ok (.iconst 2, 1) := yd_op_5 (i := 6) yd_by_cX12_init_1 rfl rfl
theorem dX12_init_42 : decode cX12_init 42 = .ok (.bipush 110, 2) := yd_op_16 (i := 7) (a := 110) yd_by_cX12_init_1 rfl rfl
theorem dX12_init_44 : decode cX12_init 44 = .ok (.castore, 1) := yd_op_85 (i := 9) yd_by_cX12_init_1 rfl rfl
theorem dX12_init_45 : decode cX12_init 45 = .ok (.dup, 1) := yd_op_89 (i := 10) yd_by_cX12_init_1 rfl rfl
theorem dX12_init_46 : decode cX12_init 46 = .ok (.iconst 3, 1) := yd_op_6 (i := 11) yd_by_cX12_init_1 rfl rfl
theorem dX12_init_47 : decode cX12_init 47 = .ok (.bipush 101, 2) := yd_op_16 (i := 12) (a := 101) yd_by_cX12_init_1 rfl rfl
theorem dX12_init_49 : decode cX12_init 49 = .ok (.castore, 1) := yd_op_85 (i := 14) yd_by_cX12_init_1 rfl rfl
theorem dX12_init_50 : decode cX12_init 50 = .ok (.putfield 20, 3) := yd_op_181 (i := 15) (a := 0) (b := 20) yd_by_cX12_init_1 rfl rfl
theorem dX12_init_53 : decode cX12_init 53 = .ok (.aload_n 0, 1) := yd_op_42 (i := 18) yd_by_cX12_init_1 rfl rfl
theorem dX12_init_54 : decode cX12_init 54 = .ok (.iconst 2, 1) := yd_op_5 (i := 19) yd_by_cX12_init_1 rfl rfl
theorem dX12_init_55 : decode cX12_init 55 = .ok (.newarray .char, 2) := yd_op_188_5 (i := 20) yd_by_cX12_init_1 rfl rfl
theorem dX12_init_57 : decode cX12_init 57 = .ok (.dup, 1) := yd_op_89 (i := 22) yd_by_cX12_init_1 rfl rfl
theorem dX12_init_58 : decode cX12_init 58 = .ok (.iconst 0, 1) := yd_op_3 (i := 23) yd_by_cX12_init_1 rfl rfl
theorem dX12_init_59 : decode cX12_init 59 = .ok (.bipush 98, 2) := yd_op_16 (i := 24) (a := 98) yd_by_cX12_init_1 rfl rfl
theorem dX12_init_61 : decode cX12_init 61 = .ok (.castore, 1) := yd_op_85 (i := 26) yd_by_cX12_init_1 rfl rfl
set_option maxRecDepth 100000 in
theorem yd_by_cX12_init_2 : ydk cX12_init 62 [89, 4, 16, 121, 85, 181, 0, 24, 42, 8, 188, 5, 89, 3, 16, 116, 85, 89, 4, 16, 111, 85, 89, 5, 16, 117, 85] = true := by decide +kernel
theorem dX12_init_62 : decode cX12_init 62 = .ok (.dup, 1) := yd_op_89 (i := 0) yd_by_cX12_init_2 rfl rfl
theorem dX12_init_63 : decode cX12_init 63 = .ok (.iconst 1, 1) := yd_op_4 (i := 1) yd_by_cX12_init_2 rfl rfl
theorem dX12_init_64 : decode cX12_init 64 = .ok (.bipush 121, 2) := yd_op_16 (i := 2) (a := 121) yd_by_cX12_init_2 rfl rfl
theorem dX12_init_66 : decode cX12_init 66 = .ok (.castore, 1) := yd_op_85 (i := 4) yd_by_cX12_init_2 rfl rfl
theorem dX12_init_67 : decode cX12_init 67 = .ok (.putfield 24, 3) := yd_op_181 (i := 5) (a := 0) (b := 24) yd_by_cX12_init_2 rfl rfl
theorem dX12_init_70 : decode cX12_init 70 = .ok (.aload_n 0, 1) := yd_op_42 (i := 8) yd_by_cX12_init_2 rfl rfl
theorem dX12_init_71 : decode cX12_init 71 = .ok (.iconst 5, 1) := yd_op_8 (i := 9) yd_by_cX12_init_2 rfl rfl
theorem dX12_init_72 : decode cX12_init 72 = .ok (.newarray .char, 2) := yd_op_188_5 (i := 10) yd_by_cX12_init_2 rfl rfl
theorem dX12_init_74 : decode cX12_init 74 = .ok (.dup, 1) := yd_op_89 (i := 12) yd_by_cX12_init_2 rfl rfl
theorem dX12_init_75 : decode cX12_init 75 = .ok (.iconst 0, 1) := yd_op_3 (i := 13) yd_by_cX12_init_2 rfl rfl
theorem dX12_init_76 : decode cX12_init 76 = .ok (.bipush 116, 2) := yd_op_16 (i := 14) (a := 116) yd_by_cX12_init_2 rfl rfl
theorem dX12_init_78 : decode cX12_init 78 = .ok (.castore, 1) := yd_op_85 (i := 16) yd_by_cX12_init_2 rfl rfl
theorem dX12_init_79 : decode cX12_init 79 = .ok (.dup, 1) := yd_op_89 (i := 17) yd_by_cX12_init_2 rfl rfl
theorem dX12_init_80 : decode cX12_init 80 = .ok (.iconst 1, 1) := yd_op_4 (i := 18) yd_by_cX12_init_2 rfl rfl
theorem dX12_init_81 : decode cX12_init 81 = .ok (.bipush 111, 2) := yd_op_16 (i := 19) (a := 111) yd_by_cX12_init_2 rfl rfl
theorem dX12_init_83 : decode cX12_init 83 = .ok (.castore, 1) := yd_op_85 (i := 21) yd_by_cX12_init_2 rfl rfl
theorem dX12_init_84 : decode cX12_init 84 = .ok (.dup, 1) := yd_op_89 (i := 22) yd_by_cX12_init_2 rfl rfl
theorem dX12_init_85 : decode cX12_init 85 = .ok (.iconst 2, 1) := yd_op_5 (i := 23) yd_by_cX12_init_2 rfl rfl
theorem dX12_init_86 : decode cX12_init 86 = .ok (.bipush 117, 2) := yd_op_16 (i := 24) (a := 117) yd_by_cX12_init_2 rfl rfl
theorem dX12_init_88 : decode cX12_init 88 = .ok (.castore, 1) := yd_op_85 (i := 26) yd_by_cX12_init_2 rfl rfl
set_option maxRecDepth 100000 in
theorem yd_by_cX12_init_3 : ydk cX12_init 89 [89, 6, 16, 103, 85, 89, 7, 16, 104, 85, 181, 0, 27, 42, 8, 188, 5, 89, 3, 16, 104, 85, 89, 4, 16, 101, 85] = true := by decide +kernel
theorem dX12_init_89 : decode cX12_init 89 = .ok (.dup, 1) := yd_op_89 (i := 0) yd_by_cX12_init_3 rfl rfl
theorem dX12_init_90 : decode cX12_init 90 = .ok (.iconst 3, 1) := yd_op_6 (i := 1) yd_by_cX12_init_3 rfl rfl
theorem dX12_init_91 : decode cX12_init 91 = .ok (.bipush 103, 2) := yd_op_16 (i := 2) (a := 103) yd_by_cX12_init_3 rfl rfl
theorem dX12_init_93 : decode cX12_init 93 = .ok (.castore, 1) := yd_op_85 (i := 4) yd_by_cX12_init_3 rfl rfl
theorem dX12_init_94 : decode cX12_init 94 = .ok (.dup, 1) := yd_op_89 (i := 5) yd_by_cX12_init_3 rfl rfl
theorem dX12_init_95 : decode cX12_init 95 = .ok (.iconst 4, 1) := yd_op_7 (i := 6) yd_by_cX12_init_3 rfl rfl
theorem dX12_init_96 : decode cX12_init 96 = .ok (.bipush 104, 2) := yd_op_16 (i := 7) (a := 104) yd_by_cX12_init_3 rfl rfl
theorem dX12_init_98 : decode cX12_init 98 = .ok (.castore, 1) := yd_op_85 (i := 9) yd_by_cX12_init_3 rfl rfl
theorem dX12_init_99 : decode cX12_init 99 = .ok (.putfield 27, 3) := yd_op_181 (i := 10) (a := 0) (b := 27) yd_by_cX12_init_3 rfl rfl
theorem dX12_init_102 : decode cX12_init 102 = .ok (.aload_n 0, 1) := yd_op_42 (i := 13) yd_by_cX12_init_3 rfl rfl
theorem dX12_init_103 : decode cX12_init 103 = .ok (.iconst 5, 1) := yd_op_8 (i := 14) yd_by_cX12_init_3 rfl rfl
theorem dX12_init_104 : decode cX12_init 104 = .ok (.newarray .char, 2) := yd_op_188_5 (i := 15) yd_by_cX12_init_3 rfl rfl
theorem dX12_init_106 : decode cX12_init 106 = .ok (.dup, 1) := yd_op_89 (i := 17) yd_by_cX12_init_3 rfl rfl
theorem dX12_init_107 : decode cX12_init 107 = .ok (.iconst 0, 1) := yd_op_3 (i := 18) yd_by_cX12_init_3 rfl rfl
theorem dX12_init_108 : decode cX12_init 108 = .ok (.bipush 104, 2) := yd_op_16 (i := 19) (a := 104) yd_by_cX12_init_3 rfl rfl
theorem dX12_init_110 : decode cX12_init 110 = .ok (.castore, 1) := yd_op_85 (i := 21) yd_by_cX12_init_3 rfl rfl
theorem dX12_init_111 : decode cX12_init 111 = .ok (.dup, 1) := yd_op_89 (i := 22) yd_by_cX12_init_3 rfl rfl
theorem dX12_init_112 : decode cX12_init 112 = .ok (.iconst 1, 1) := yd_op_4 (i := 23) yd_by_cX12_init_3 rfl rfl
theorem dX12_init_113 : decode cX12_init 113 = .ok (.bipush 101, 2) := yd_op_16 (i := 24) (a := 101) yd_by_cX12_init_3 rfl rfl
theorem dX12_init_115 : decode cX12_init 115 = .ok (.castore, 1) := yd_op_85 (i := 26) yd_by_cX12_init_3 rfl rfl
set_option maxRecDepth 100000 in
theorem yd_by_cX12_init_4 : ydk cX12_init 116 [89, 5, 16, 97, 85, 89, 6, 16, 118, 85, 89, 7, 16, 121, 85, 181, 0, 30, 42, 7, 188, 5, 89, 3, 16, 112, 85] = true := by decide +kernel
theorem dX12_init_116 : decode cX12_init 116 = .ok (.dup, 1) := yd_op_89 (i := 0) yd_by_cX12_init_4 rfl rfl
theorem dX12_init_117 : decode cX12_init 117 = .ok (.iconst 2, 1) := yd_op_5 (i := 1) yd_by_cX12_init_4 rfl rfl
theorem dX12_init_118 : decode cX12_init 118 = .ok (.bipush 97, 2) := yd_op_16 (i := 2) (a := 97) yd_by_cX12_init_4 rfl rfl
theorem dX12_init_120 : decode cX12_init 120 = .ok (.castore, 1) := yd_op_85 (i := 4) yd_by_cX12_init_4 rfl rfl
theorem dX12_init_121 : decode cX12_init 121 = .ok (.dup, 1) := yd_op_89 (i := 5) yd_by_cX12_init_4 rfl rfl
theorem dX12_init_122 : decode cX12_init 122 = .ok (.iconst 3, 1) := yd_op_6 (i := 6) yd_by_cX12_init_4 rfl rfl
theorem dX12_init_123 : decode cX12_init 123 = .ok (.bipush 118, 2) := yd_op_16 (i := 7) (a := 118) yd_by_cX12_init_4 rfl rfl
theorem dX12_init_125 : decode cX12_init 125 = .ok (.castore, 1) := yd_op_85 (i := 9) yd_by_cX12_init_4 rfl rfl
theorem dX12_init_126 : decode cX12_init 126 = .ok (.dup, 1) := yd_op_89 (i := 10) yd_by_cX12_init_4 rfl rfl
theorem dX12_init_127 : decode cX12_init 127 = .ok (.iconst 4, 1) := yd_op_7 (i := 11) yd_by_cX12_init_4 rfl rfl
theorem dX12_init_128 : decode cX12_init 128 = .ok (.bipush 121, 2) := yd_op_16 (i := 12) (a := 121) yd_by_cX12_init_4 rfl rfl
theorem dX12_init_130 : decode cX12_init 130 = .ok (.castore, 1) := yd_op_85 (i := 14) yd_by_cX12_init_4 rfl rfl
theorem dX12_init_131 : decode cX12_init 131 = .ok (.putfield 30, 3) := yd_op_181 (i := 15) (a := 0) (b := 30) yd_by_cX12_init_4 rfl rfl
theorem dX12_init_134 : decode cX12_init 134 = .ok (.aload_n 0, 1) := yd_op_42 (i := 18) yd_by_cX12_init_4 rfl rfl
theorem dX12_init_135 : decode cX12_init 135 = .ok (.iconst 4, 1) := yd_op_7 (i := 19) yd_by_cX12_init_4 rfl rfl
theorem dX12_init_136 : decode cX12_init 136 = .ok (.newarray .char, 2) := yd_op_188_5 (i := 20) yd_by_cX12_init_4 rfl rfl
theorem dX12_init_138 : decode cX12_init 138 = .ok (.dup, 1) := yd_op_89 (i := 22) yd_by_cX12_init_4 rfl rfl
theorem dX12_init_139 : decode cX12_init 139 = .ok (.iconst 0, 1) := yd_op_3 (i := 23) yd_by_cX12_init_4 rfl rfl
theorem dX12_init_140 : decode cX12_init 140 = .ok (.bipush 112, 2) := yd_op_16 (i := 24) (a := 112) yd_by_cX12_init_4 rfl rfl
theorem dX12_init_142 : decode cX12_init 142 = .ok (.castore, 1) := yd_op_85 (i := 26) yd_by_cX12_init_4 rfl rfl
set_option maxRecDepth 100000 in
theorem yd_by_cX12_init_5 : ydk cX12_init 143 [89, 4, 16, 111, 85, 89, 5, 16, 108, 85, 89, 6, 16, 101, 85, 181, 0, 33, 42, 5, 188, 5, 89, 3, 16, 97, 85] = true := by decide +kernel
theorem dX12_init_143 : decode cX12_init 143 = .ok (.dup, 1) := yd_op_89 (i := 0) yd_by_cX12_init_5 rfl rfl
theorem dX12_init_144 : decode cX12_init 144 = .ok (.iconst 1, 1) := yd_op_4 (i := 1) yd_by_cX12_init_5 rfl rfl
theorem dX12_init_145 : decode cX12_init 145 = .ok (.bipush 111, 2) := yd_op_16 (i := 2) (a := 111) yd_by_cX12_init_5 rfl rfl
theorem dX12_init_147 : decode cX12_init 147 = .ok (.castore, 1) := yd_op_85 (i := 4) yd_by_cX12_init_5 rfl rfl
theorem dX12_init_148 : decode cX12_init 148 = .ok (.dup, 1) := yd_op_89 (i := 5) yd_by_cX12_init_5 rfl rfl
theorem dX12_init_149 : decode cX12_init 149 = .ok (.iconst 2, 1) := yd_op_5 (i := 6) yd_by_cX12_init_5 rfl rfl
theorem dX12_init_150 : decode cX12_init 150 = .ok (.bipush 108, 2) := yd_op_16 (i := 7) (a := 108) yd_by_cX12_init_5 rfl rfl
theorem dX12_init_152 : decode cX12_init 152 = .ok (.castore, 1) := yd_op_85 (i := 9) yd_by_cX12_init_5 rfl rfl
theorem dX12_init_153 : decode cX12_init 153 = .ok (.dup, 1) := yd_op_89 (i := 10) yd_by_cX12_init_5 rfl rfl
theorem dX12_init_154 : decode cX12_init 154 = .ok (.iconst 3, 1) := yd_op_6 (i := 11) yd_by_cX12_init_5 rfl rfl
theorem dX12_init_155 : decode cX12_init 155 = .ok (.bipush 101, 2) := yd_op_16 (i := 12) (a := 101) yd_by_cX12_init_5 rfl rfl
theorem dX12_init_157 : decode cX12_init 157 = .ok (.castore, 1) := yd_op_85 (i := 14) yd_by_cX12_init_5 rfl rfl
theorem dX12_init_158 : decode cX12_init 158 = .ok (.putfield 33, 3) := yd_op_181 (i := 15) (a := 0) (b := 33) yd_by_cX12_init_5 rfl rfl
theorem dX12_init_161 : decode cX12_init 161 = .ok (.aload_n 0, 1) := yd_op_42 (i := 18) yd_by_cX12_init_5 rfl rfl
theorem dX12_init_162 : decode cX12_init 162 = .ok (.iconst 2, 1) := yd_op_5 (i := 19) yd_by_cX12_init_5 rfl rfl
theorem dX12_init_163 : decode cX12_init 163 = .ok (.newarray .char, 2) := yd_op_188_5 (i := 20) yd_by_cX12_init_5 rfl rfl
theorem dX12_init_165 : decode cX12_init 165 = .ok (.dup, 1) := yd_op_89 (i := 22) yd_by_cX12_init_5 rfl rfl
theorem dX12_init_166 : decode cX12_init 166 = .ok (.iconst 0, 1) := yd_op_3 (i := 23) yd_by_cX12_init_5 rfl rfl
theorem dX12_init_167 : decode cX12_init 167 = .ok (.bipush 97, 2) := yd_op_16 (i := 24) (a := 97) yd_by_cX12_init_5 rfl rfl
theorem dX12_init_169 : decode cX12_init 169 = .ok (.castore, 1) := yd_op_85 (i := 26) yd_by_cX12_init_5 rfl rfl
set_option maxRecDepth 100000 in
theorem yd_by_cX12_init_6 : ydk cX12_init 170 [89, 4, 16, 116, 85, 181, 0, 36, 42, 8, 188, 5, 89, 3, 16, 108, 85, 89, 4, 16, 105, 85, 89, 5, 16, 102, 85] = true := by decide +kernel
theorem dX12_init_170 : decode cX12_init 170 = .ok (.dup, 1) := yd_op_89 (i := 0) yd_by_cX12_init_6 rfl rfl
theorem dX12_init_171 : decode cX12_init 171 = .ok (.iconst 1, 1) := yd_op_4 (i := 1) yd_by_cX12_init_6 rfl rfl
theorem dX12_init_172 : decode cX12_init 172 = .ok (.bipush 116, 2) := yd_op_16 (i := 2) (a := 116) yd_by_cX12_init_6 rfl rfl
theorem dX12_init_174 : decode cX12_init 174 = .ok (.castore, 1) := yd_op_85 (i := 4) yd_by_cX12_init_6 rfl rfl
theorem dX12_init_175 : decode cX12_init 175 = .ok (.putfield 36, 3) := yd_op_181 (i := 5) (a := 0) (b := 36) yd_by_cX12_init_6 rfl rfl
theorem dX12_init_178 : decode cX12_init 178 = .ok (.aload_n 0, 1) := yd_op_42 (i := 8) yd_by_cX12_init_6 rfl rfl
theorem dX12_init_179 : decode cX12_init 179 = .ok (.iconst 5, 1) := yd_op_8 (i := 9) yd_by_cX12_init_6 rfl rfl
theorem dX12_init_180 : decode cX12_init 180 = .ok (.newarray .char, 2) := yd_op_188_5 (i := 10) yd_by_cX12_init_6 rfl rfl
theorem dX12_init_182 : decode cX12_init 182 = .ok (.dup, 1) := yd_op_89 (i := 12) yd_by_cX12_init_6 rfl rfl
theorem dX12_init_183 : decode cX12_init 183 = .ok (.iconst 0, 1) := yd_op_3 (i := 13) yd_by_cX12_init_6 rfl rfl
theorem dX12_init_184 : decode cX12_init 184 = .ok (.bipush 108, 2) := yd_op_16 (i := 14) (a := 108) yd_by_cX12_init_6 rfl rfl
theorem dX12_init_186 : decode cX12_init 186 = .ok (.castore, 1) := yd_op_85 (i := 16) yd_by_cX12_init_6 rfl rfl
theorem dX12_init_187 : decode cX12_init 187 = .ok (.dup, 1) := yd_op_89 (i := 17) yd_by_cX12_init_6 rfl rfl
theorem dX12_init_188 : decode cX12_init 188 = .ok (.iconst 1, 1) := yd_op_4 (i := 18) yd_by_cX12_init_6 rfl rfl
theorem dX12_init_189 : decode cX12_init 189 = .ok (.bipush 105, 2) := yd_op_16 (i := 19) (a := 105) yd_by_cX12_init_6 rfl rfl
theorem dX12_init_191 : decode cX12_init 191 = .ok (.castore, 1) := yd_op_85 (i := 21) yd_by_cX12_init_6 rfl rfl
theorem dX12_init_192 : decode cX12_init 192 = .ok (.dup, 1) := yd_op_89 (i := 22) yd_by_cX12_init_6 rfl rfl
theorem dX12_init_193 : decode cX12_init 193 = .ok (.iconst 2, 1) := yd_op_5 (i := 23) yd_by_cX12_init_6 rfl rfl
theorem dX12_init_194 : decode cX12_init 194 = .ok (.bipush 102, 2) := yd_op_16 (i := 24) (a := 102) yd_by_cX12_init_6 rfl rfl
theorem dX12_init_196 : decode cX12_init 196 = .ok (.castore, 1) := yd_op_85 (i := 26) yd_by_cX12_init_6 rfl rfl
set_option maxRecDepth 100000 in
theorem yd_by_cX12_init_7 : ydk cX12_init 197 [89, 6, 16, 116, 85, 89, 7, 16, 115, 85, 181, 0, 39, 42, 7, 188, 5, 89, 3, 16, 97, 85, 89, 4, 16, 100, 85] = true := by decide +kernel
theorem dX12_init_197 : decode cX12_init 197 = .ok (.dup, 1) := yd_op_89 (i := 0) yd_by_cX12_init_7 rfl rfl
theorem dX12_init_198 : decode cX12_init 198 = .ok (.iconst 3, 1) := yd_op_6 (i := 1) yd_by_cX12_init_7 rfl rfl
theorem dX12_init_199 : decode cX12_init 199 = .ok (.bipush 116, 2) := yd_op_16 (i := 2) (a := 116) yd_by_cX12_init_7 rfl rfl
theorem dX12_init_201 : decode cX12_init 201 = .ok (.castore, 1) := yd_op_85 (i := 4) yd_by_cX12_init_7 rfl rfl
theorem dX12_init_202 : decode cX12_init 202 = .ok (.dup, 1) := yd_op_89 (i := 5) yd_by_cX12_init_7 rfl rfl
theorem dX12_init_203 : decode cX12_init 203 = .ok (.iconst 4, 1) := yd_op_7 (i := 6) yd_by_cX12_init_7 rfl rfl
theorem dX12_init_204 : decode cX12_init 204 = .ok (.bipush 115, 2) := yd_op_16 (i := 7) (a := 115) yd_by_cX12_init_7 rfl rfl
theorem dX12_init_206 : decode cX12_init 206 = .ok (.castore, 1) := yd_op_85 (i := 9) yd_by_cX12_init_7 rfl rfl
theorem dX12_init_207 : decode cX12_init 207 = .ok (.putfield 39, 3) := yd_op_181 (i := 10) (a := 0) (b := 39) yd_by_cX12_init_7 rfl rfl
theorem dX12_init_210 : decode cX12_init 210 = .ok (.aload_n 0, 1) := yd_op_42 (i := 13) yd_by_cX12_init_7 rfl rfl
theorem dX12_init_211 : decode cX12_init 211 = .ok (.iconst 4, 1) := yd_op_7 (i := 14) yd_by_cX12_init_7 rfl rfl
theorem dX12_init_212 : decode cX12_init 212 = .ok (.newarray .char, 2) := yd_op_188_5 (i := 15) yd_by_cX12_init_7 rfl rfl
theorem dX12_init_214 : decode cX12_init 214 = .ok (.dup, 1) := yd_op_89 (i := 17) yd_by_cX12_init_7 rfl rfl
theorem dX12_init_215 : decode cX12_init 215 = .ok (.iconst 0, 1) := yd_op_3 (i := 18) yd_by_cX12_init_7 rfl rfl
theorem dX12_init_216 : decode cX12_init 216 = .ok (.bipush 97, 2) := yd_op_16 (i := 19) (a := 97) yd_by_cX12_init_7 rfl rfl
theorem dX12_init_218 : decode cX12_init 218 = .ok (.castore, 1) := yd_op_85 (i := 21) yd_by_cX12_init_7 rfl rfl
theorem dX12_init_219 : decode cX12_init 219 = .ok (.dup, 1) := yd_op_89 (i := 22) yd_by_cX12_init_7 rfl rfl
theorem dX12_init_220 : decode cX12_init 220 = .ok (.iconst 1, 1) := yd_op_4 (i := 23) yd_by_cX12_init_7 rfl rfl
theorem dX12_init_221 : decode cX12_init 221 = .ok (.bipush 100, 2) := yd_op_16 (i := 24) (a := 100) yd_by_cX12_init_7 rfl rfl
theorem dX12_init_223 : decode cX12_init 223 = .ok (.castore, 1) := yd_op_85 (i := 26) yd_by_cX12_init_7 rfl rfl
set_option maxRecDepth 100000 in
theorem yd_by_cX12_init_8 : ydk cX12_init 224 [89, 5, 16, 100, 85, 89, 6, 16, 115, 85, 181, 0, 42, 42, 8, 188, 5, 89, 3, 16, 104, 85, 89, 4, 16, 111, 85] = true := by decide +kernel
theorem dX12_init_224 : decode cX12_init 224 = .ok (.dup, 1) := yd_op_89 (i := 0) yd_by_cX12_init_8 rfl rfl
theorem dX12_init_225 : decode cX12_init 225 = .ok (.iconst 2, 1) := yd_op_5 (i := 1) yd_by_cX12_init_8 rfl rfl
theorem dX12_init_226 : decode cX12_init 226 = .ok (.bipush 100, 2) := yd_op_16 (i := 2) (a := 100) yd_by_cX12_init_8 rfl rfl
theorem dX12_init_228 : decode cX12_init 228 = .ok (.castore, 1) := yd_op_85 (i := 4) yd_by_cX12_init_8 rfl rfl
theorem dX12_init_229 : decode cX12_init 229 = .ok (.dup, 1) := yd_op_89 (i := 5) yd_by_cX12_init_8 rfl rfl
theorem dX12_init_230 : decode cX12_init 230 = .ok (.iconst 3, 1) := yd_op_6 (i := 6) yd_by_cX12_init_8 rfl rfl
theorem dX12_init_231 : decode cX12_init 231 = .ok (.bipush 115, 2) := yd_op_16 (i := 7) (a := 115) yd_by_cX12_init_8 rfl rfl
theorem dX12_init_233 : decode cX12_init 233 = .ok (.castore, 1) := yd_op_85 (i := 9) yd_by_cX12_init_8 rfl rfl
theorem dX12_init_234 : decode cX12_init 234 = .ok (.putfield 42, 3) := yd_op_181 (i := 10) (a := 0) (b := 42) yd_by_cX12_init_8 rfl rfl
theorem dX12_init_237 : decode cX12_init 237 = .ok (.aload_n 0, 1) := yd_op_42 (i := 13) yd_by_cX12_init_8 rfl rfl
theorem dX12_init_238 : decode cX12_init 238 = .ok (.iconst 5, 1) := yd_op_8 (i := 14) yd_by_cX12_init_8 rfl rfl
theorem dX12_init_239 : decode cX12_init 239 = .ok (.newarray .char, 2) := yd_op_188_5 (i := 15) yd_by_cX12_init_8 rfl rfl
theorem dX12_init_241 : decode cX12_init 241 = .ok (.dup, 1) := yd_op_89 (i := 17) yd_by_cX12_init_8 rfl rfl
theorem dX12_init_242 : decode cX12_init 242 = .ok (.iconst 0, 1) := yd_op_3 (i := 18) yd_by_cX12_init_8 rfl rfl
theorem dX12_init_243 : decode cX12_init 243 = .ok (.bipush 104, 2) := yd_op_16 (i := 19) (a := 104) yd_by_cX12_init_8 rfl rfl
theorem dX12_init_245 : decode cX12_init 245 = .ok (.castore, 1) := yd_op_85 (i := 21) yd_by_cX12_init_8 rfl rfl
theorem dX12_init_246 : decode cX12_init 246 = .ok (.dup, 1) := yd_op_89 (i := 22) yd_by_cX12_init_8 rfl rfl
theorem dX12_init_247 : decode cX12_init 247 = .ok (.iconst 1, 1) := yd_op_4 (i := 23) yd_by_cX12_init_8 rfl rfl
theorem dX12_init_248 : decode cX12_init 248 = .ok (.bipush 111, 2) := yd_op_16 (i := 24) (a := 111) yd_by_cX12_init_8 rfl rfl
theorem dX12_init_250 : decode cX12_init 250 = .ok (.castore, 1) := yd_op_85 (i := 26) yd_by_cX12_init_8 rfl rfl
set_option maxRecDepth 100000 in
theorem yd_by_cX12_init_9 : ydk cX12_init 251 [89, 5, 16, 108, 85, 89, 6, 16, 100, 85, 89, 7, 16, 115, 85, 181, 0, 45, 42, 8, 188, 5, 89, 3, 16, 102, 85] = true := by decide +kernel
theorem dX12_init_251 : decode cX12_init 251 = .ok (.dup, 1) := yd_op_89 (i := 0) yd_by_cX12_init_9 rfl rfl
theorem dX12_init_252 : decode cX12_init 252 = .ok (.iconst 2, 1) := yd_op_5 (i := 1) yd_by_cX12_init_9 rfl rfl
theorem dX12_init_253 : decode cX12_init 253 = .ok (.bipush 108, 2) := yd_op_16 (i := 2) (a := 108) yd_by_cX12_init_9 rfl rfl
theorem dX12_init_255 : decode cX12_init 255 = .ok (.castore, 1) := yd_op_85 (i := 4) yd_by_cX12_init_9 rfl rfl
theorem dX12_init_256 : decode cX12_init 256 = .ok (.dup, 1) := yd_op_89 (i := 5) yd_by_cX12_init_9 rfl rfl
theorem dX12_init_257 : decode cX12_init 257 = .ok (.iconst 3, 1) := yd_op_6 (i := 6) yd_by_cX12_init_9 rfl rfl
theorem dX12_init_258 : decode cX12_init 258 = .ok (.bipush 100, 2) := yd_op_16 (i := 7) (a := 100) yd_by_cX12_init_9 rfl rfl
theorem dX12_init_260 : decode cX12_init 260 = .ok (.castore, 1) := yd_op_85 (i := 9) yd_by_cX12_init_9 rfl rfl
theorem dX12_init_261 : decode cX12_init 261 = .ok (.dup, 1) := yd_op_89 (i := 10) yd_by_cX12_init_9 rfl rfl
theorem dX12_init_262 : decode cX12_init 262 = .ok (.iconst 4, 1) := yd_op_7 (i := 11) yd_by_cX12_init_9 rfl rfl
theorem dX12_init_263 : decode cX12_init 263 = .ok (.bipush 115, 2) := yd_op_16 (i := 12) (a := 115) yd_by_cX12_init_9 rfl rfl
theorem dX12_init_265 : decode cX12_init 265 = .ok (.castore, 1) := yd_op_85 (i := 14) yd_by_cX12_init_9 rfl rfl
theorem dX12_init_266 : decode cX12_init 266 = .ok (.putfield 45, 3) := yd_op_181 (i := 15) (a := 0) (b := 45) yd_by_cX12_init_9 rfl rfl
theorem dX12_init_269 : decode cX12_init 269 = .ok (.aload_n 0, 1) := yd_op_42 (i := 18) yd_by_cX12_init_9 rfl rfl
theorem dX12_init_270 : decode cX12_init 270 = .ok (.iconst 5, 1) := yd_op_8 (i := 19) yd_by_cX12_init_9 rfl rfl
theorem dX12_init_271 : decode cX12_init 271 = .ok (.newarray .char, 2) := yd_op_188_5 (i := 20) yd_by_cX12_init_9 rfl rfl
theorem dX12_init_273 : decode cX12_init 273 = .ok (.dup, 1) := yd_op_89 (i := 22) yd_by_cX12_init_9 rfl rfl
theorem dX12_init_274 : decode cX12_init 274 = .ok (.iconst 0, 1) := yd_op_3 (i := 23) yd_by_cX12_init_9 rfl rfl
theorem dX12_init_275 : decode cX12_init 275 = .ok (.bipush 102, 2) := yd_op_16 (i := 24) (a := 102) yd_by_cX12_init_9 rfl rfl
theorem dX12_init_277 : decode cX12_init 277 = .ok (.castore, 1) := yd_op_85 (i := 26) yd_by_cX12_init_9 rfl rfl
set_option maxRecDepth 100000 in
theorem yd_by_cX12_init_10 : ydk cX12_init 278 [89, 4, 16, 97, 85, 89, 5, 16, 100, 85, 89, 6, 16, 101, 85, 89, 7, 16, 115, 85, 181, 0, 48, 42, 8, 188, 5] = true := by decide +kernel
theorem dX12_init_278 : decode cX12_init 278 = .ok (.dup, 1) := yd_op_89 (i := 0) yd_by_cX12_init_10 rfl rfl
theorem dX12_init_279 : decode cX12_init 279 = .ok (.iconst 1, 1) := yd_op_4 (i := 1) yd_by_cX12_init_10 rfl rfl
theorem dX12_init_280 : decode cX12_init 280 = .ok (.bipush 97, 2) := yd_op_16 (i := 2) (a := 97) yd_by_cX12_init_10 rfl rfl
theorem dX12_init_282 : decode cX12_init 282 = .ok (.castore, 1) := yd_op_85 (i := 4) yd_by_cX12_init_10 rfl rfl
theorem dX12_init_283 : decode cX12_init 283 = .ok (.dup, 1) := yd_op_89 (i := 5) yd_by_cX12_init_10 rfl rfl
theorem dX12_init_284 : decode cX12_init 284 = .ok (.iconst 2, 1) := yd_op_5 (i := 6) yd_by_cX12_init_10 rfl rfl
theorem dX12_init_285 : decode cX12_init 285 = .ok (.bipush 100, 2) := yd_op_16 (i := 7) (a := 100) yd_by_cX12_init_10 rfl rfl
theorem dX12_init_287 : decode cX12_init 287 = .ok (.castore, 1) := yd_op_85 (i := 9) yd_by_cX12_init_10 rfl rfl
theorem dX12_init_288 : decode cX12_init 288 = .ok (.dup, 1) := yd_op_89 (i := 10) yd_by_cX12_init_10 rfl rfl
theorem dX12_init_289 : decode cX12_init 289 = .ok (.iconst 3, 1) := yd_op_6 (i := 11) yd_by_cX12_init_10 rfl rfl
theorem dX12_init_290 : decode cX12_init 290 = .ok (.bipush 101, 2) := yd_op_16 (i := 12) (a := 101) yd_by_cX12_init_10 rfl rfl
theorem dX12_init_292 : decode cX12_init 292 = .ok (.castore, 1) := yd_op_85 (i := 14) yd_by_cX12_init_10 rfl rfl
theorem dX12_init_293 : decode cX12_init 293 = .ok (.dup, 1) := yd_op_89 (i := 15) yd_by_cX12_init_10 rfl rfl
theorem dX12_init_294 : decode cX12_init 294 = .ok (.iconst 4, 1) := yd_op_7 (i := 16) yd_by_cX12_init_10 rfl rfl
theorem dX12_init_295 : decode cX12_init 295 = .ok (.bipush 115, 2) := yd_op_16 (i := 17) (a := 115) yd_by_cX12_init_10 rfl rfl
theorem dX12_init_297 : decode cX12_init 297 = .ok (.castore, 1) := yd_op_85 (i := 19) yd_by_cX12_init_10 rfl rfl
theorem dX12_init_298 : decode cX12_init 298 = .ok (.putfield 48, 3) := yd_op_181 (i := 20) (a := 0) (b := 48) yd_by_cX12_init_10 rfl rfl
theorem dX12_init_301 : decode cX12_init 301 = .ok (.aload_n 0, 1) := yd_op_42 (i := 23) yd_by_cX12_init_10 rfl rfl
theorem dX12_init_302 : decode cX12_init 302 = .ok (.iconst 5, 1) := yd_op_8 (i := 24) yd_by_cX12_init_10 rfl rfl
theorem dX12_init_303 : decode cX12_init 303 = .ok (.newarray .char, 2) := yd_op_188_5 (i := 25) yd_by_cX12_init_10 rfl rfl
set_option maxRecDepth 100000 in
theorem yd_by_cX12_init_11 : ydk cX12_init 305 [89, 3, 16, 115, 85, 89, 4, 16, 116, 85, 89, 5, 16, 111, 85, 89, 6, 16, 110, 85, 89, 7, 16, 101, 85] = true := by decide +kernel
theorem dX12_init_305 : decode cX12_init 305 = .ok (.dup, 1) := yd_op_89 (i := 0) yd_by_cX12_init_11 rfl rfl
theorem dX12_init_306 : decode cX12_init 306 = .ok (.iconst 0, 1) := yd_op_3 (i := 1) yd_by_cX12_init_11 rfl rfl
theorem dX12_init_307 : decode cX12_init 307 = .ok (.bipush 115, 2) := yd_op_16 (i := 2) (a := 115) yd_by_cX12_init_11 rfl rfl
theorem dX12_init_309 : decode cX12_init 309 = .ok (.castore, 1) := yd_op_85 (i := 4) yd_by_cX12_init_11 rfl rfl
theorem dX12_init_310 : decode cX12_init 310 = .ok (.dup, 1) := yd_op_89 (i := 5) yd_by_cX12_init_11 rfl rfl
theorem dX12_init_311 : decode cX12_init 311 = .ok (.iconst 1, 1) := yd_op_4 (i := 6) yd_by_cX12_init_11 rfl rfl
theorem dX12_init_312 : decode cX12_init 312 = .ok (.bipush 116, 2) := yd_op_16 (i := 7) (a := 116) yd_by_cX12_init_11 rfl rfl
theorem dX12_init_314 : decode cX12_init 314 = .ok (.castore, 1) := yd_op_85 (i := 9) yd_by_cX12_init_11 rfl rfl
theorem dX12_init_315 : decode cX12_init 315 = .ok (.dup, 1) := yd_op_89 (i := 10) yd_by_cX12_init_11 rfl rfl
theorem dX12_init_316 : decode cX12_init 316 = .ok (.iconst 2, 1) := yd_op_5 (i := 11) yd_by_cX12_init_11 rfl rfl
theorem dX12_init_317 : decode cX12_init 317 = .ok (.bipush 111, 2) := yd_op_16 (i := 12) (a := 111) yd_by_cX12_init_11 rfl rfl
theorem dX12_init_319 : decode cX12_init 319 = .ok (.castore, 1) := yd_op_85 (i := 14) yd_by_cX12_init_11 rfl rfl
theorem dX12_init_320 : decode cX12_init 320 = .ok (.dup, 1) := yd_op_89 (i := 15) yd_by_cX12_init_11 rfl rfl
theorem dX12_init_321 : decode cX12_init 321 = .ok (.iconst 3, 1) := yd_op_6 (i := 16) yd_by_cX12_init_11 rfl rfl
theorem dX12_init_322 : decode cX12_init 322 = .ok (.bipush 110, 2) := yd_op_16 (i := 17) (a := 110) yd_by_cX12_init_11 rfl rfl
theorem dX12_init_324 : decode cX12_init 324 = .ok (.castore, 1) := yd_op_85 (i := 19) yd_by_cX12_init_11 rfl rfl
theorem dX12_init_325 : decode cX12_init 325 = .ok (.dup, 1) := yd_op_89 (i := 20) yd_by_cX12_init_11 rfl rfl
theorem dX12_init_326 : decode cX12_init 326 = .ok (.iconst 4, 1) := yd_op_7 (i := 21) yd_by_cX12_init_11 rfl rfl
theorem dX12_init_327 : decode cX12_init 327 = .ok (.bipush 101, 2) := yd_op_16 (i := 22) (a := 101) yd_by_cX12_init_11 rfl rfl
theorem dX12_init_329 : decode cX12_init 329 = .ok (.castore, 1) := yd_op_85 (i := 24) yd_by_cX12_init_11 rfl rfl
set_option maxRecDepth 100000 in
theorem yd_by_cX12_init_12 : ydk cX12_init 330 [181, 0, 51, 42, 7, 188, 5, 89, 3, 16, 104, 85, 89, 4, 16, 97, 85, 89, 5, 16, 105, 85, 89, 6, 16, 108, 85] = true := by decide +kernel
theorem dX12_init_330 : decode cX12_init 330 = .ok (.putfield 51, 3) := yd_op_181 (i := 0) (a := 0) (b := 51) yd_by_cX12_init_12 rfl rfl
theorem dX12_init_333 : decode cX12_init 333 = .ok (.aload_n 0, 1) := yd_op_42 (i := 3) yd_by_cX12_init_12 rfl rfl
theorem dX12_init_334 : decode cX12_init 334 = .ok (.iconst 4, 1) := yd_op_7 (i := 4) yd_by_cX12_init_12 rfl rfl
theorem dX12_init_335 : decode cX12_init 335 = .ok (.newarray .char, 2) := yd_op_188_5 (i := 5) yd_by_cX12_init_12 rfl rfl
theorem dX12_init_337 : decode cX12_init 337 = .ok (.dup, 1) := yd_op_89 (i := 7) yd_by_cX12_init_12 rfl rfl
theorem dX12_init_338 : decode cX12_init 338 = .ok (.iconst 0, 1) := yd_op_3 (i := 8) yd_by_cX12_init_12 rfl rfl
theorem dX12_init_339 : decode cX12_init 339 = .ok (.bipush 104, 2) := yd_op_16 (i := 9) (a := 104) yd_by_cX12_init_12 rfl rfl
theorem dX12_init_341 : decode cX12_init 341 = .ok (.castore, 1) := yd_op_85 (i := 11) yd_by_cX12_init_12 rfl rfl
theorem dX12_init_342 : decode cX12_init 342 = .ok (.dup, 1) := yd_op_89 (i := 12) yd_by_cX12_init_12 rfl rfl
theorem dX12_init_343 : decode cX12_init 343 = .ok (.iconst 1, 1) := yd_op_4 (i := 13) yd_by_cX12_init_12 rfl rfl
theorem dX12_init_344 : decode cX12_init 344 = .ok (.bipush 97, 2) := yd_op_16 (i := 14) (a := 97) yd_by_cX12_init_12 rfl rfl
theorem dX12_init_346 : decode cX12_init 346 = .ok (.castore, 1) := yd_op_85 (i := 16) yd_by_cX12_init_12 rfl rfl
theorem dX12_init_347 : decode cX12_init 347 = .ok (.dup, 1) := yd_op_89 (i := 17) yd_by_cX12_init_12 rfl rfl
theorem dX12_init_348 : decode cX12_init 348 = .ok (.iconst 2, 1) := yd_op_5 (i := 18) yd_by_cX12_init_12 rfl rfl
theorem dX12_init_349 : decode cX12_init 349 = .ok (.bipush 105, 2) := yd_op_16 (i := 19) (a := 105) yd_by_cX12_init_12 rfl rfl
theorem dX12_init_351 : decode cX12_init 351 = .ok (.castore, 1) := yd_op_85 (i := 21) yd_by_cX12_init_12 rfl rfl
theorem dX12_init_352 : decode cX12_init 352 = .ok (.dup, 1) := yd_op_89 (i := 22) yd_by_cX12_init_12 rfl rfl
theorem dX12_init_353 : decode cX12_init 353 = .ok (.iconst 3, 1) := yd_op_6 (i := 23) yd_by_cX12_init_12 rfl rfl
theorem dX12_init_354 : decode cX12_init 354 = .ok (.bipush 108, 2) := yd_op_16 (i := 24) (a := 108) yd_by_cX12_init_12 rfl rfl
theorem dX12_init_356 : decode cX12_init 356 = .ok (.castore, 1) := yd_op_85 (i := 26) yd_by_cX12_init_12 rfl rfl
set_option maxRecDepth 100000 in
theorem yd_by_cX12_init_13 : ydk cX12_init 357 [181, 0, 54, 42, 7, 188, 5, 89, 3, 16, 104, 85, 89, 4, 16, 111, 85, 89, 5, 16, 117, 85, 89, 6, 16, 114, 85] = true := by decide +kernel
theorem dX12_init_357 : decode cX12_init 357 = .ok (.putfield 54, 3) := yd_op_181 (i := 0) (a := 0) (b := 54) yd_by_cX12_init_13 rfl rfl
theorem dX12_init_360 : decode cX12_init 360 = .ok (.aload_n 0, 1) := yd_op_42 (i := 3) yd_by_cX12_init_13 rfl rfl
theorem dX12_init_361 : decode cX12_init 361 = .ok (.iconst 4, 1) := yd_op_7 (i := 4) yd_by_cX12_init_13 rfl rfl
theorem dX12_init_362 : decode cX12_init 362 = .ok (.newarray .char, 2) := yd_op_188_5 (i := 5) yd_by_cX12_init_13 rfl rfl
theorem dX12_init_364 : decode cX12_init 364 = .ok (.dup, 1) := yd_op_89 (i := 7) yd_by_cX12_init_13 rfl rfl
theorem dX12_init_365 : decode cX12_init 365 = .ok (.iconst 0, 1) := yd_op_3 (i := 8) yd_by_cX12_init_13 rfl rfl
theorem dX12_init_366 : decode cX12_init 366 = .ok (.bipush 104, 2) := yd_op_16 (i := 9) (a := 104) yd_by_cX12_init_13 rfl rfl
theorem dX12_init_368 : decode cX12_init 368 = .ok (.castore, 1) := yd_op_85 (i := 11) yd_by_cX12_init_13 rfl rfl
theorem dX12_init_369 : decode cX12_init 369 = .ok (.dup, 1) := yd_op_89 (i := 12) yd_by_cX12_init_13 rfl rfl
theorem dX12_init_370 : decode cX12_init 370 = .ok (.iconst 1, 1) := yd_op_4 (i := 13) yd_by_cX12_init_13 rfl rfl
theorem dX12_init_371 : decode cX12_init 371 = .ok (.bipush 111, 2) := yd_op_16 (i := 14) (a := 111) yd_by_cX12_init_13 rfl rfl
theorem dX12_init_373 : decode cX12_init 373 = .ok (.castore, 1) := yd_op_85 (i := 16) yd_by_cX12_init_13 rfl rfl
theorem dX12_init_374 : decode cX12_init 374 = .ok (.dup, 1) := yd_op_89 (i := 17) yd_by_cX12_init_13 rfl rfl
theorem dX12_init_375 : decode cX12_init 375 = .ok (.iconst 2, 1) := yd_op_5 (i := 18) yd_by_cX12_init_13 rfl rfl
theorem dX12_init_376 : decode cX12_init 376 = .ok (.bipush 117, 2) := yd_op_16 (i := 19) (a := 117) yd_by_cX12_init_13 rfl rfl
theorem dX12_init_378 : decode cX12_init 378 = .ok (.castore, 1) := yd_op_85 (i := 21) yd_by_cX12_init_13 rfl rfl
theorem dX12_init_379 : decode cX12_init 379 = .ok (.dup, 1) := yd_op_89 (i := 22) yd_by_cX12_init_13 rfl rfl
theorem dX12_init_380 : decode cX12_init 380 = .ok (.iconst 3, 1) := yd_op_6 (i := 23) yd_by_cX12_init_13 rfl rfl
theorem dX12_init_381 : decode cX12_init 381 = .ok (.bipush 114, 2) := yd_op_16 (i := 24) (a := 114) yd_by_cX12_init_13 rfl rfl
theorem dX12_init_383 : decode cX12_init 383 = .ok (.castore, 1) := yd_op_85 (i := 26) yd_by_cX12_init_13 rfl rfl
set_option maxRecDepth 100000 in
theorem yd_by_cX12_init_14 : ydk cX12_init 384 [181, 0, 57, 42, 16, 6, 188, 5, 89, 3, 16, 99, 85, 89, 4, 16, 114, 85, 89, 5, 16, 97, 85, 89, 6, 16, 99, 85] = true := by decide +kernel
theorem dX12_init_384 : decode cX12_init 384 = .ok (.putfield 57, 3) := yd_op_181 (i := 0) (a := 0) (b := 57) yd_by_cX12_init_14 rfl rfl
theorem dX12_init_387 : decode cX12_init 387 = .ok (.aload_n 0, 1) := yd_op_42 (i := 3) yd_by_cX12_init_14 rfl rfl
theorem dX12_init_388 : decode cX12_init 388 = .ok (.bipush 6, 2) := yd_op_16 (i := 4) (a := 6) yd_by_cX12_init_14 rfl rfl
theorem dX12_init_390 : decode cX12_init 390 = .ok (.newarray .char, 2) := yd_op_188_5 (i := 6) yd_by_cX12_init_14 rfl rfl
theorem dX12_init_392 : decode cX12_init 392 = .ok (.dup, 1) := yd_op_89 (i := 8) yd_by_cX12_init_14 rfl rfl
theorem dX12_init_393 : decode cX12_init 393 = .ok (.iconst 0, 1) := yd_op_3 (i := 9) yd_by_cX12_init_14 rfl rfl
theorem dX12_init_394 : decode cX12_init 394 = .ok (.bipush 99, 2) := yd_op_16 (i := 10) (a := 99) yd_by_cX12_init_14 rfl rfl
theorem dX12_init_396 : decode cX12_init 396 = .ok (.castore, 1) := yd_op_85 (i := 12) yd_by_cX12_init_14 rfl rfl
theorem dX12_init_397 : decode cX12_init 397 = .ok (.dup, 1) := yd_op_89 (i := 13) yd_by_cX12_init_14 rfl rfl
theorem dX12_init_398 : decode cX12_init 398 = .ok (.iconst 1, 1) := yd_op_4 (i := 14) yd_by_cX12_init_14 rfl rfl
theorem dX12_init_399 : decode cX12_init 399 = .ok (.bipush 114, 2) := yd_op_16 (i := 15) (a := 114) yd_by_cX12_init_14 rfl rfl
theorem dX12_init_401 : decode cX12_init 401 = .ok (.castore, 1) := yd_op_85 (i := 17) yd_by_cX12_init_14 rfl rfl
theorem dX12_init_402 : decode cX12_init 402 = .ok (.dup, 1) := yd_op_89 (i := 18) yd_by_cX12_init_14 rfl rfl
theorem dX12_init_403 : decode cX12_init 403 = .ok (.iconst 2, 1) := yd_op_5 (i := 19) yd_by_cX12_init_14 rfl rfl
theorem dX12_init_404 : decode cX12_init 404 = .ok (.bipush 97, 2) := yd_op_16 (i := 20) (a := 97) yd_by_cX12_init_14 rfl rfl
theorem dX12_init_406 : decode cX12_init 406 = .ok (.castore, 1) := yd_op_85 (i := 22) yd_by_cX12_init_14 rfl rfl
theorem dX12_init_407 : decode cX12_init 407 = .ok (.dup, 1) := yd_op_89 (i := 23) yd_by_cX12_init_14 rfl rfl
theorem dX12_init_408 : decode cX12_init 408 = .ok (.iconst 3, 1) := yd_op_6 (i := 24) yd_by_cX12_init_14 rfl rfl
theorem dX12_init_409 : decode cX12_init 409 = .ok (.bipush 99, 2) := yd_op_16 (i := 25) (a := 99) yd_by_cX12_init_14 rfl rfl
theorem dX12_init_411 : decode cX12_init 411 = .ok (.castore, 1) := yd_op_85 (i := 27) yd_by_cX12_init_14 rfl rfl
set_option maxRecDepth 100000 in
theorem yd_by_cX12_init_15 : ydk cX12_init 412 [89, 7, 16, 107, 85, 89, 8, 16, 115, 85, 181, 0, 60, 42, 16, 6, 188, 5, 89, 3, 16, 119, 85, 89, 4, 16, 101, 85] = true := by decide +kernel
theorem dX12_init_412 : decode cX12_init 412 = .ok (.dup, 1) := yd_op_89 (i := 0) yd_by_cX12_init_15 rfl rfl
theorem dX12_init_413 : decode cX12_init 413 = .ok (.iconst 4, 1) := yd_op_7 (i := 1) yd_by_cX12_init_15 rfl rfl
theorem dX12_init_414 : decode cX12_init 414 = .ok (.bipush 107, 2) := yd_op_16 (i := 2) (a := 107) yd_by_cX12_init_15 rfl rfl
theorem dX12_init_416 : decode cX12_init 416 = .ok (.castore, 1) := yd_op_85 (i := 4) yd_by_cX12_init_15 rfl rfl
theorem dX12_init_417 : decode cX12_init 417 = .ok (.dup, 1) := yd_op_89 (i := 5) yd_by_cX12_init_15 rfl rfl
theorem dX12_init_418 : decode cX12_init 418 = .ok (.iconst 5, 1) := yd_op_8 (i := 6) yd_by_cX12_init_15 rfl rfl
theorem dX12_init_419 : decode cX12_init 419 = .ok (.bipush 115, 2) := yd_op_16 (i := 7) (a := 115) yd_by_cX12_init_15 rfl rfl
theorem dX12_init_421 : decode cX12_init 421 = .ok (.castore, 1) := yd_op_85 (i := 9) yd_by_cX12_init_15 rfl rfl
theorem dX12_init_422 : decode cX12_init 422 = .ok (.putfield 60, 3) := yd_op_181 (i := 10) (a := 0) (b := 60) yd_by_cX12_init_15 rfl rfl
theorem dX12_init_425 : decode cX12_init 425 = .ok (.aload_n 0, 1) := yd_op_42 (i := 13) yd_by_cX12_init_15 rfl rfl
theorem dX12_init_426 : decode cX12_init 426 = .ok (.bipush 6, 2) := yd_op_16 (i := 14) (a := 6) yd_by_cX12_init_15 rfl rfl
theorem dX12_init_428 : decode cX12_init 428 = .ok (.newarray .char, 2) := yd_op_188_5 (i := 16) yd_by_cX12_init_15 rfl rfl
theorem dX12_init_430 : decode cX12_init 430 = .ok (.dup, 1) := yd_op_89 (i := 18) yd_by_cX12_init_15 rfl rfl
theorem dX12_init_431 : decode cX12_init 431 = .ok (.iconst 0, 1) := yd_op_3 (i := 19) yd_by_cX12_init_15 rfl rfl
theorem dX12_init_432 : decode cX12_init 432 = .ok (.bipush 119, 2) := yd_op_16 (i := 20) (a := 119) yd_by_cX12_init_15 rfl rfl
theorem dX12_init_434 : decode cX12_init 434 = .ok (.castore, 1) := yd_op_85 (i := 22) yd_by_cX12_init_15 rfl rfl
theorem dX12_init_435 : decode cX12_init 435 = .ok (.dup, 1) := yd_op_89 (i := 23) yd_by_cX12_init_15 rfl rfl
theorem dX12_init_436 : decode cX12_init 436 = .ok (.iconst 1, 1) := yd_op_4 (i := 24) yd_by_cX12_init_15 rfl rfl
theorem dX12_init_437 : decode cX12_init 437 = .ok (.bipush 101, 2) := yd_op_16 (i := 25) (a := 101) yd_by_cX12_init_15 rfl rfl
theorem dX12_init_439 : decode cX12_init 439 = .ok (.castore, 1) := yd_op_85 (i := 27) yd_by_cX12_init_15 rfl rfl
set_option maxRecDepth 100000 in
theorem yd_by_cX12_init_16 : ydk cX12_init 440 [89, 5, 16, 105, 85, 89, 6, 16, 103, 85, 89, 7, 16, 104, 85, 89, 8, 16, 116, 85, 181, 0, 63, 42, 8, 188, 5] = true := by decide +kernel
theorem dX12_init_440 : decode cX12_init 440 = .ok (.dup, 1) := yd_op_89 (i := 0) yd_by_cX12_init_16 rfl rfl
theorem dX12_init_441 : decode cX12_init 441 = .ok (.iconst 2, 1) := yd_op_5 (i := 1) yd_by_cX12_init_16 rfl rfl
theorem dX12_init_442 : decode cX12_init 442 = .ok (.bipush 105, 2) := yd_op_16 (i := 2) (a := 105) yd_by_cX12_init_16 rfl rfl
theorem dX12_init_444 : decode cX12_init 444 = .ok (.castore, 1) := yd_op_85 (i := 4) yd_by_cX12_init_16 rfl rfl
theorem dX12_init_445 : decode cX12_init 445 = .ok (.dup, 1) := yd_op_89 (i := 5) yd_by_cX12_init_16 rfl rfl
theorem dX12_init_446 : decode cX12_init 446 = .ok (.iconst 3, 1) := yd_op_6 (i := 6) yd_by_cX12_init_16 rfl rfl
theorem dX12_init_447 : decode cX12_init 447 = .ok (.bipush 103, 2) := yd_op_16 (i := 7) (a := 103) yd_by_cX12_init_16 rfl rfl
theorem dX12_init_449 : decode cX12_init 449 = .ok (.castore, 1) := yd_op_85 (i := 9) yd_by_cX12_init_16 rfl rfl
theorem dX12_init_450 : decode cX12_init 450 = .ok (.dup, 1) := yd_op_89 (i := 10) yd_by_cX12_init_16 rfl rfl
theorem dX12_init_451 : decode cX12_init 451 = .ok (.iconst 4, 1) := yd_op_7 (i := 11) yd_by_cX12_init_16 rfl rfl
theorem dX12_init_452 : decode cX12_init 452 = .ok (.bipush 104, 2) := yd_op_16 (i := 12) (a := 104) yd_by_cX12_init_16 rfl rfl
theorem dX12_init_454 : decode cX12_init 454 = .ok (.castore, 1) := yd_op_85 (i := 14) yd_by_cX12_init_16 rfl rfl
theorem dX12_init_455 : decode cX12_init 455 = .ok (.dup, 1) := yd_op_89 (i := 15) yd_by_cX12_init_16 rfl rfl
theorem dX12_init_456 : decode cX12_init 456 = .ok (.iconst 5, 1) := yd_op_8 (i := 16) yd_by_cX12_init_16 rfl rfl
theorem dX12_init_457 : decode cX12_init 457 = .ok (.bipush 116, 2) := yd_op_16 (i := 17) (a := 116) yd_by_cX12_init_16 rfl rfl
theorem dX12_init_459 : decode cX12_init 459 = .ok (.castore, 1) := yd_op_85 (i := 19) yd_by_cX12_init_16 rfl rfl
theorem dX12_init_460 : decode cX12_init 460 = .ok (.putfield 63, 3) := yd_op_181 (i := 20) (a := 0) (b := 63) yd_by_cX12_init_16 rfl rfl
theorem dX12_init_463 : decode cX12_init 463 = .ok (.aload_n 0, 1) := yd_op_42 (i := 23) yd_by_cX12_init_16 rfl rfl
theorem dX12_init_464 : decode cX12_init 464 = .ok (.iconst 5, 1) := yd_op_8 (i := 24) yd_by_cX12_init_16 rfl rfl
theorem dX12_init_465 : decode cX12_init 465 = .ok (.newarray .char, 2) := yd_op_188_5 (i := 25) yd_by_cX12_init_16 rfl rfl
set_option maxRecDepth 100000 in
theorem yd_by_cX12_init_17 : ydk cX12_init 467 [89, 3, 16, 116, 85, 89, 4, 16, 105, 85, 89, 5, 16, 114, 85, 89, 6, 16, 101, 85, 89, 7, 16, 100, 85] = true := by decide +kernel
theorem dX12_init_467 : decode cX12_init 467 = .ok (.dup, 1) := yd_op_89 (i := 0) yd_by_cX12_init_17 rfl rfl
theorem dX12_init_468 : decode cX12_init 468 = .ok (.iconst 0, 1) := yd_op_3 (i := 1) yd_by_cX12_init_17 rfl rfl
theorem dX12_init_469 : decode cX12_init 469 = .ok (.bipush 116, 2) := yd_op_16 (i := 2) (a := 116) yd_by_cX12_init_17 rfl rfl
theorem dX12_init_471 : decode cX12_init 471 = .ok (.castore, 1) := yd_op_85 (i := 4) yd_by_cX12_init_17 rfl rfl
theorem dX12_init_472 : decode cX12_init 472 = .ok (.dup, 1) := yd_op_89 (i := 5) yd_by_cX12_init_17 rfl rfl
theorem dX12_init_473 : decode cX12_init 473 = .ok (.iconst 1, 1) := yd_op_4 (i := 6) yd_by_cX12_init_17 rfl rfl
theorem dX12_init_474 : decode cX12_init 474 = .ok (.bipush 105, 2) := yd_op_16 (i := 7) (a := 105) yd_by_cX12_init_17 rfl rfl
theorem dX12_init_476 : decode cX12_init 476 = .ok (.castore, 1) := yd_op_85 (i := 9) yd_by_cX12_init_17 rfl rfl
theorem dX12_init_477 : decode cX12_init 477 = .ok (.dup, 1) := yd_op_89 (i := 10) yd_by_cX12_init_17 rfl rfl
theorem dX12_init_478 : decode cX12_init 478 = .ok (.iconst 2, 1) := yd_op_5 (i := 11) yd_by_cX12_init_17 rfl rfl
theorem dX12_init_479 : decode cX12_init 479 = .ok (.bipush 114, 2) := yd_op_16 (i := 12) (a := 114) yd_by_cX12_init_17 rfl rfl
theorem dX12_init_481 : decode cX12_init 481 = .ok (.castore, 1) := yd_op_85 (i := 14) yd_by_cX12_init_17 rfl rfl
theorem dX12_init_482 : decode cX12_init 482 = .ok (.dup, 1) := yd_op_89 (i := 15) yd_by_cX12_init_17 rfl rfl
theorem dX12_init_483 : decode cX12_init 483 = .ok (.iconst 3, 1) := yd_op_6 (i := 16) yd_by_cX12_init_17 rfl rfl
theorem dX12_init_484 : decode cX12_init 484 = .ok (.bipush 101, 2) := yd_op_16 (i := 17) (a := 101) yd_by_cX12_init_17 rfl rfl
theorem dX12_init_486 : decode cX12_init 486 = .ok (.castore, 1) := yd_op_85 (i := 19) yd_by_cX12_init_17 rfl rfl
theorem dX12_init_487 : decode cX12_init 487 = .ok (.dup, 1) := yd_op_89 (i := 20) yd_by_cX12_init_17 rfl rfl
theorem dX12_init_488 : decode cX12_init 488 = .ok (.iconst 4, 1) := yd_op_7 (i := 21) yd_by_cX12_init_17 rfl rfl
theorem dX12_init_489 : decode cX12_init 489 = .ok (.bipush 100, 2) := yd_op_16 (i := 22) (a := 100) yd_by_cX12_init_17 rfl rfl
theorem dX12_init_491 : decode cX12_init 491 = .ok (.castore, 1) := yd_op_85 (i := 24) yd_by_cX12_init_17 rfl rfl
set_option maxRecDepth 100000 in
theorem yd_by_cX12_init_18 : ydk cX12_init 492 [181, 0, 66, 42, 7, 188, 5, 89, 3, 16, 110, 85, 89, 4, 16, 101, 85, 89, 5, 16, 97, 85, 89, 6, 16, 114, 85] = true := by decide +kernel
theorem dX12_init_492 : decode cX12_init 492 = .ok (.putfield 66, 3) := yd_op_181 (i := 0) (a := 0) (b := 66) yd_by_cX12_init_18 rfl rfl
theorem dX12_init_495 : decode cX12_init 495 = .ok (.aload_n 0, 1) := yd_op_42 (i := 3) yd_by_cX12_init_18 rfl rfl
theorem dX12_init_496 : decode cX12_init 496 = .ok (.iconst 4, 1) := yd_op_7 (i := 4) yd_by_cX12_init_18 rfl rfl
theorem dX12_init_497 : decode cX12_init 497 = .ok (.newarray .char, 2) := yd_op_188_5 (i := 5) yd_by_cX12_init_18 rfl rfl
theorem dX12_init_499 : decode cX12_init 499 = .ok (.dup, 1) := yd_op_89 (i := 7) yd_by_cX12_init_18 rfl rfl
theorem dX12_init_500 : decode cX12_init 500 = .ok (.iconst 0, 1) := yd_op_3 (i := 8) yd_by_cX12_init_18 rfl rfl
theorem dX12_init_501 : decode cX12_init 501 = .ok (.bipush 110, 2) := yd_op_16 (i := 9) (a := 110) yd_by_cX12_init_18 rfl rfl
theorem dX12_init_503 : decode cX12_init 503 = .ok (.castore, 1) := yd_op_85 (i := 11) yd_by_cX12_init_18 rfl rfl
theorem dX12_init_504 : decode cX12_init 504 = .ok (.dup, 1) := yd_op_89 (i := 12) yd_by_cX12_init_18 rfl rfl
theorem dX12_init_505 : decode cX12_init 505 = .ok (.iconst 1, 1) := yd_op_4 (i := 13) yd_by_cX12_init_18 rfl rfl
theorem dX12_init_506 : decode cX12_init 506 = .ok (.bipush 101, 2) := yd_op_16 (i := 14) (a := 101) yd_by_cX12_init_18 rfl rfl
theorem dX12_init_508 : decode cX12_init 508 = .ok (.castore, 1) := yd_op_85 (i := 16) yd_by_cX12_init_18 rfl rfl
theorem dX12_init_509 : decode cX12_init 509 = .ok (.dup, 1) := yd_op_89 (i := 17) yd_by_cX12_init_18 rfl rfl
theorem dX12_init_510 : decode cX12_init 510 = .ok (.iconst 2, 1) := yd_op_5 (i := 18) yd_by_cX12_init_18 rfl rfl
theorem dX12_init_511 : decode cX12_init 511 = .ok (.bipush 97, 2) := yd_op_16 (i := 19) (a := 97) yd_by_cX12_init_18 rfl rfl
theorem dX12_init_513 : decode cX12_init 513 = .ok (.castore, 1) := yd_op_85 (i := 21) yd_by_cX12_init_18 rfl rfl
theorem dX12_init_514 : decode cX12_init 514 = .ok (.dup, 1) := yd_op_89 (i := 22) yd_by_cX12_init_18 rfl rfl
theorem dX12_init_515 : decode cX12_init 515 = .ok (.iconst 3, 1) := yd_op_6 (i := 23) yd_by_cX12_init_18 rfl rfl
theorem dX12_init_516 : decode cX12_init 516 = .ok (.bipush 114, 2) := yd_op_16 (i := 24) (a := 114) yd_by_cX12_init_18 rfl rfl
theorem dX12_init_518 : decode cX12_init 518 = .ok (.castore, 1) := yd_op_85 (i := 26) yd_by_cX12_init_18 rfl rfl
set_option maxRecDepth 100000 in
theorem yd_by_cX12_init_19 : ydk cX12_init 519 [181, 0, 69, 42, 16, 6, 188, 5, 89, 3, 16, 110, 85, 89, 4, 16, 117, 85, 89, 5, 16, 109, 85, 89, 6, 16, 98, 85] = true := by decide +kernel
theorem dX12_init_519 : decode cX12_init 519 = .ok (.putfield 69, 3) := yd_op_181 (i := 0) (a := 0) (b := 69) yd_by_cX12_init_19 rfl rfl
theorem dX12_init_522 : decode cX12_init 522 = .ok (.aload_n 0, 1) := yd_op_42 (i := 3) yd_by_cX12_init_19 rfl rfl
theorem dX12_init_523 : decode cX12_init 523 = .ok (.bipush 6, 2) := yd_op_16 (i := 4) (a := 6) yd_by_cX12_init_19 rfl rfl
theorem dX12_init_525 : decode cX12_init 525 = .ok (.newarray .char, 2) := yd_op_188_5 (i := 6) yd_by_cX12_init_19 rfl rfl
theorem dX12_init_527 : decode cX12_init 527 = .ok (.dup, 1) := yd_op_89 (i := 8) yd_by_cX12_init_19 rfl rfl
theorem dX12_init_528 : decode cX12_init 528 = .ok (.iconst 0, 1) := yd_op_3 (i := 9) yd_by_cX12_init_19 rfl rfl
theorem dX12_init_529 : decode cX12_init 529 = .ok (.bipush 110, 2) := yd_op_16 (i := 10) (a := 110) yd_by_cX12_init_19 rfl rfl
theorem dX12_init_531 : decode cX12_init 531 = .ok (.castore, 1) := yd_op_85 (i := 12) yd_by_cX12_init_19 rfl rfl
theorem dX12_init_532 : decode cX12_init 532 = .ok (.dup, 1) := yd_op_89 (i := 13) yd_by_cX12_init_19 rfl rfl
theorem dX12_init_533 : decode cX12_init 533 = .ok (.iconst 1, 1) := yd_op_4 (i := 14) yd_by_cX12_init_19 rfl rfl
theorem dX12_init_534 : decode cX12_init 534 = .ok (.bipush 117, 2) := yd_op_16 (i := 15) (a := 117) yd_by_cX12_init_19 rfl rfl
theorem dX12_init_536 : decode cX12_init 536 = .ok (.castore, 1) := yd_op_85 (i := 17) yd_by_cX12_init_19 rfl rfl
theorem dX12_init_537 : decode cX12_init 537 = .ok (.dup, 1) := yd_op_89 (i := 18) yd_by_cX12_init_19 rfl rfl
theorem dX12_init_538 : decode cX12_init 538 = .ok (.iconst 2, 1) := yd_op_5 (i := 19) yd_by_cX12_init_19 rfl rfl
theorem dX12_init_539 : decode cX12_init 539 = .ok (.bipush 109, 2) := yd_op_16 (i := 20) (a := 109) yd_by_cX12_init_19 rfl rfl
theorem dX12_init_541 : decode cX12_init 541 = .ok (.castore, 1) := yd_op_85 (i := 22) yd_by_cX12_init_19 rfl rfl
theorem dX12_init_542 : decode cX12_init 542 = .ok (.dup, 1) := yd_op_89 (i := 23) yd_by_cX12_init_19 rfl rfl
theorem dX12_init_543 : decode cX12_init 543 = .ok (.iconst 3, 1) := yd_op_6 (i := 24) yd_by_cX12_init_19 rfl rfl
theorem dX12_init_544 : decode cX12_init 544 = .ok (.bipush 98, 2) := yd_op_16 (i := 25) (a := 98) yd_by_cX12_init_19 rfl rfl
theorem dX12_init_546 : decode cX12_init 546 = .ok (.castore, 1) := yd_op_85 (i := 27) yd_by_cX12_init_19 rfl rfl
set_option maxRecDepth 100000 in
theorem yd_by_cX12_init_20 : ydk cX12_init 547 [89, 7, 16, 101, 85, 89, 8, 16, 114, 85, 181, 0, 72, 42, 16, 6, 188, 5, 89, 3, 16, 99, 85, 89, 4, 16, 111, 85] = true := by decide +kernel
theorem dX12_init_547 : decode cX12_init 547 = .ok (.dup, 1) := yd_op_89 (i := 0) yd_by_cX12_init_20 rfl rfl
theorem dX12_init_548 : decode cX12_init 548 = .ok (.iconst 4, 1) := yd_op_7 (i := 1) yd_by_cX12_init_20 rfl rfl
theorem dX12_init_549 : decode cX12_init 549 = .ok (.bipush 101, 2) := yd_op_16 (i := 2) (a := 101) yd_by_cX12_init_20 rfl rfl
theorem dX12_init_551 : decode cX12_init 551 = .ok (.castore, 1) := yd_op_85 (i := 4) yd_by_cX12_init_20 rfl rfl
theorem dX12_init_552 : decode cX12_init 552 = .ok (.dup, 1) := yd_op_89 (i := 5) yd_by_cX12_init_20 rfl rfl
theorem dX12_init_553 : decode cX12_init 553 = .ok (.iconst 5, 1) := yd_op_8 (i := 6) yd_by_cX12_init_20 rfl rfl
theorem dX12_init_554 : decode cX12_init 554 = .ok (.bipush 114, 2) := yd_op_16 (i := 7) (a := 114) yd_by_cX12_init_20 rfl rfl
theorem dX12_init_556 : decode cX12_init 556 = .ok (.castore, 1) := yd_op_85 (i := 9) yd_by_cX12_init_20 rfl rfl
theorem dX12_init_557 : decode cX12_init 557 = .ok (.putfield 72, 3) := yd_op_181 (i := 10) (a := 0) (b := 72) yd_by_cX12_init_20 rfl rfl
theorem dX12_init_560 : decode cX12_init 560 = .ok (.aload_n 0, 1) := yd_op_42 (i := 13) yd_by_cX12_init_20 rfl rfl
theorem dX12_init_561 : decode cX12_init 561 = .ok (.bipush 6, 2) := yd_op_16 (i := 14) (a := 6) yd_by_cX12_init_20 rfl rfl
theorem dX12_init_563 : decode cX12_init 563 = .ok (.newarray .char, 2) := yd_op_188_5 (i := 16) yd_by_cX12_init_20 rfl rfl
theorem dX12_init_565 : decode cX12_init 565 = .ok (.dup, 1) := yd_op_89 (i := 18) yd_by_cX12_init_20 rfl rfl
theorem dX12_init_566 : decode cX12_init 566 = .ok (.iconst 0, 1) := yd_op_3 (i := 19) yd_by_cX12_init_20 rfl rfl
theorem dX12_init_567 : decode cX12_init 567 = .ok (.bipush 99, 2) := yd_op_16 (i := 20) (a := 99) yd_by_cX12_init_20 rfl rfl
theorem dX12_init_569 : decode cX12_init 569 = .ok (.castore, 1) := yd_op_85 (i := 22) yd_by_cX12_init_20 rfl rfl
theorem dX12_init_570 : decode cX12_init 570 = .ok (.dup, 1) := yd_op_89 (i := 23) yd_by_cX12_init_20 rfl rfl
theorem dX12_init_571 : decode cX12_init 571 = .ok (.iconst 1, 1) := yd_op_4 (i := 24) yd_by_cX12_init_20 rfl rfl
theorem dX12_init_572 : decode cX12_init 572 = .ok (.bipush 111, 2) := yd_op_16 (i := 25) (a := 111) yd_by_cX12_init_20 rfl rfl
theorem dX12_init_574 : decode cX12_init 574 = .ok (.castore, 1) := yd_op_85 (i := 27) yd_by_cX12_init_20 rfl rfl
set_option maxRecDepth 100000 in
theorem yd_by_cX12_init_21 : ydk cX12_init 575 [89, 5, 16, 108, 85, 89, 6, 16, 117, 85, 89, 7, 16, 109, 85, 89, 8, 16, 110, 85, 181, 0, 75, 42, 6, 188, 5] = true := by decide +kernel
theorem dX12_init_575 : decode cX12_init 575 = .ok (.dup, 1) := yd_op_89 (i := 0) yd_by_cX12_init_21 rfl rfl
theorem dX12_init_576 : decode cX12_init 576 = .ok (.iconst 2, 1) := yd_op_5 (i := 1) yd_by_cX12_init_21 rfl rfl
theorem dX12_init_577 : decode cX12_init 577 = .ok (.bipush 108, 2) := yd_op_16 (i := 2) (a := 108) yd_by_cX12_init_21 rfl rfl
theorem dX12_init_579 : decode cX12_init 579 = .ok (.castore, 1) := yd_op_85 (i := 4) yd_by_cX12_init_21 rfl rfl
theorem dX12_init_580 : decode cX12_init 580 = .ok (.dup, 1) := yd_op_89 (i := 5) yd_by_cX12_init_21 rfl rfl
theorem dX12_init_581 : decode cX12_init 581 = .ok (.iconst 3, 1) := yd_op_6 (i := 6) yd_by_cX12_init_21 rfl rfl
theorem dX12_init_582 : decode cX12_init 582 = .ok (.bipush 117, 2) := yd_op_16 (i := 7) (a := 117) yd_by_cX12_init_21 rfl rfl
theorem dX12_init_584 : decode cX12_init 584 = .ok (.castore, 1) := yd_op_85 (i := 9) yd_by_cX12_init_21 rfl rfl
theorem dX12_init_585 : decode cX12_init 585 = .ok (.dup, 1) := yd_op_89 (i := 10) yd_by_cX12_init_21 rfl rfl
theorem dX12_init_586 : decode cX12_init 586 = .ok (.iconst 4, 1) := yd_op_7 (i := 11) yd_by_cX12_init_21 rfl rfl
theorem dX12_init_587 : decode cX12_init 587 = .ok (.bipush 109, 2) := yd_op_16 (i := 12) (a := 109) yd_by_cX12_init_21 rfl rfl
theorem dX12_init_589 : decode cX12_init 589 = .ok (.castore, 1) := yd_op_85 (i := 14) yd_by_cX12_init_21 rfl rfl
theorem dX12_init_590 : decode cX12_init 590 = .ok (.dup, 1) := yd_op_89 (i := 15) yd_by_cX12_init_21 rfl rfl
theorem dX12_init_591 : decode cX12_init 591 = .ok (.iconst 5, 1) := yd_op_8 (i := 16) yd_by_cX12_init_21 rfl rfl
theorem dX12_init_592 : decode cX12_init 592 = .ok (.bipush 110, 2) := yd_op_16 (i := 17) (a := 110) yd_by_cX12_init_21 rfl rfl
theorem dX12_init_594 : decode cX12_init 594 = .ok (.castore, 1) := yd_op_85 (i := 19) yd_by_cX12_init_21 rfl rfl
theorem dX12_init_595 : decode cX12_init 595 = .ok (.putfield 75, 3) := yd_op_181 (i := 20) (a := 0) (b := 75) yd_by_cX12_init_21 rfl rfl
theorem dX12_init_598 : decode cX12_init 598 = .ok (.aload_n 0, 1) := yd_op_42 (i := 23) yd_by_cX12_init_21 rfl rfl
theorem dX12_init_599 : decode cX12_init 599 = .ok (.iconst 3, 1) := yd_op_6 (i := 24) yd_by_cX12_init_21 rfl rfl
theorem dX12_init_600 : decode cX12_init 600 = .ok (.newarray .char, 2) := yd_op_188_5 (i := 25) yd_by_cX12_init_21 rfl rfl
set_option maxRecDepth 100000 in
theorem yd_by_cX12_init_22 : ydk cX12_init 602 [89, 3, 16, 114, 85, 89, 4, 16, 111, 85, 89, 5, 16, 119, 85, 181, 0, 78, 42, 6, 188, 5, 89, 3, 16, 102, 85] = true := by decide +kernel
theorem dX12_init_602 : decode cX12_init 602 = .ok (.dup, 1) := yd_op_89 (i := 0) yd_by_cX12_init_22 rfl rfl
theorem dX12_init_603 : decode cX12_init 603 = .ok (.iconst 0, 1) := yd_op_3 (i := 1) yd_by_cX12_init_22 rfl rfl
theorem dX12_init_604 : decode cX12_init 604 = .ok (.bipush 114, 2) := yd_op_16 (i := 2) (a := 114) yd_by_cX12_init_22 rfl rfl
theorem dX12_init_606 : decode cX12_init 606 = .ok (.castore, 1) := yd_op_85 (i := 4) yd_by_cX12_init_22 rfl rfl
theorem dX12_init_607 : decode cX12_init 607 = .ok (.dup, 1) := yd_op_89 (i := 5) yd_by_cX12_init_22 rfl rfl
theorem dX12_init_608 : decode cX12_init 608 = .ok (.iconst 1, 1) := yd_op_4 (i := 6) yd_by_cX12_init_22 rfl rfl
theorem dX12_init_609 : decode cX12_init 609 = .ok (.bipush 111, 2) := yd_op_16 (i := 7) (a := 111) yd_by_cX12_init_22 rfl rfl
theorem dX12_init_611 : decode cX12_init 611 = .ok (.castore, 1) := yd_op_85 (i := 9) yd_by_cX12_init_22 rfl rfl
theorem dX12_init_612 : decode cX12_init 612 = .ok (.dup, 1) := yd_op_89 (i := 10) yd_by_cX12_init_22 rfl rfl
theorem dX12_init_613 : decode cX12_init 613 = .ok (.iconst 2, 1) := yd_op_5 (i := 11) yd_by_cX12_init_22 rfl rfl
theorem dX12_init_614 : decode cX12_init 614 = .ok (.bipush 119, 2) := yd_op_16 (i := 12) (a := 119) yd_by_cX12_init_22 rfl rfl
theorem dX12_init_616 : decode cX12_init 616 = .ok (.castore, 1) := yd_op_85 (i := 14) yd_by_cX12_init_22 rfl rfl
theorem dX12_init_617 : decode cX12_init 617 = .ok (.putfield 78, 3) := yd_op_181 (i := 15) (a := 0) (b := 78) yd_by_cX12_init_22 rfl rfl
theorem dX12_init_620 : decode cX12_init 620 = .ok (.aload_n 0, 1) := yd_op_42 (i := 18) yd_by_cX12_init_22 rfl rfl
theorem dX12_init_621 : decode cX12_init 621 = .ok (.iconst 3, 1) := yd_op_6 (i := 19) yd_by_cX12_init_22 rfl rfl
theorem dX12_init_622 : decode cX12_init 622 = .ok (.newarray .char, 2) := yd_op_188_5 (i := 20) yd_by_cX12_init_22 rfl rfl
theorem dX12_init_624 : decode cX12_init 624 = .ok (.dup, 1) := yd_op_89 (i := 22) yd_by_cX12_init_22 rfl rfl
theorem dX12_init_625 : decode cX12_init 625 = .ok (.iconst 0, 1) := yd_op_3 (i := 23) yd_by_cX12_init_22 rfl rfl
theorem dX12_init_626 : decode cX12_init 626 = .ok (.bipush 102, 2) := yd_op_16 (i := 24) (a := 102) yd_by_cX12_init_22 rfl rfl
theorem dX12_init_628 : decode cX12_init 628 = .ok (.castore, 1) := yd_op_85 (i := 26) yd_by_cX12_init_22 rfl rfl
set_option maxRecDepth 100000 in
theorem yd_by_cX12_init_23 : ydk cX12_init 629 [89, 4, 16, 97, 85, 89, 5, 16, 114, 85, 181, 0, 81, 42, 5, 188, 5, 89, 3, 16, 111, 85, 89, 4, 16, 114, 85] = true := by decide +kernel
theorem dX12_init_629 : decode cX12_init 629 = .ok (.dup, 1) := yd_op_89 (i := 0) yd_by_cX12_init_23 rfl rfl
theorem dX12_init_630 : decode cX12_init 630 = .ok (.iconst 1, 1) := yd_op_4 (i := 1) yd_by_cX12_init_23 rfl rfl
theorem dX12_init_631 : decode cX12_init 631 = .ok (.bipush 97, 2) := yd_op_16 (i := 2) (a := 97) yd_by_cX12_init_23 rfl rfl
theorem dX12_init_633 : decode cX12_init 633 = .ok (.castore, 1) := yd_op_85 (i := 4) yd_by_cX12_init_23 rfl rfl
theorem dX12_init_634 : decode cX12_init 634 = .ok (.dup, 1) := yd_op_89 (i := 5) yd_by_cX12_init_23 rfl rfl
theorem dX12_init_635 : decode cX12_init 635 = .ok (.iconst 2, 1) := yd_op_5 (i := 6) yd_by_cX12_init_23 rfl rfl
theorem dX12_init_636 : decode cX12_init 636 = .ok (.bipush 114, 2) := yd_op_16 (i := 7) (a := 114) yd_by_cX12_init_23 rfl rfl
theorem dX12_init_638 : decode cX12_init 638 = .ok (.castore, 1) := yd_op_85 (i := 9) yd_by_cX12_init_23 rfl rfl
theorem dX12_init_639 : decode cX12_init 639 = .ok (.putfield 81, 3) := yd_op_181 (i := 10) (a := 0) (b := 81) yd_by_cX12_init_23 rfl rfl
theorem dX12_init_642 : decode cX12_init 642 = .ok (.aload_n 0, 1) := yd_op_42 (i := 13) yd_by_cX12_init_23 rfl rfl
theorem dX12_init_643 : decode cX12_init 643 = .ok (.iconst 2, 1) := yd_op_5 (i := 14) yd_by_cX12_init_23 rfl rfl
theorem dX12_init_644 : decode cX12_init 644 = .ok (.newarray .char, 2) := yd_op_188_5 (i := 15) yd_by_cX12_init_23 rfl rfl
theorem dX12_init_646 : decode cX12_init 646 = .ok (.dup, 1) := yd_op_89 (i := 17) yd_by_cX12_init_23 rfl rfl
theorem dX12_init_647 : decode cX12_init 647 = .ok (.iconst 0, 1) := yd_op_3 (i := 18) yd_by_cX12_init_23 rfl rfl
theorem dX12_init_648 : decode cX12_init 648 = .ok (.bipush 111, 2) := yd_op_16 (i := 19) (a := 111) yd_by_cX12_init_23 rfl rfl
theorem dX12_init_650 : decode cX12_init 650 = .ok (.castore, 1) := yd_op_85 (i := 21) yd_by_cX12_init_23 rfl rfl
theorem dX12_init_651 : decode cX12_init 651 = .ok (.dup, 1) := yd_op_89 (i := 22) yd_by_cX12_init_23 rfl rfl
theorem dX12_init_652 : decode cX12_init 652 = .ok (.iconst 1, 1) := yd_op_4 (i := 23) yd_by_cX12_init_23 rfl rfl
theorem dX12_init_653 : decode cX12_init 653 = .ok (.bipush 114, 2) := yd_op_16 (i := 24) (a := 114) yd_by_cX12_init_23 rfl rfl
theorem dX12_init_655 : decode cX12_init 655 = .ok (.castore, 1) := yd_op_85 (i := 26) yd_by_cX12_init_23 rfl rfl
set_option maxRecDepth 100000 in
theorem yd_by_cX12_init_24 : ydk cX12_init 656 [181, 0, 84, 42, 6, 188, 5, 89, 3, 16, 97, 85, 89, 4, 16, 110, 85, 89, 5, 16, 100, 85, 181, 0, 87, 42, 6, 188, 5] = true := by decide +kernel
theorem dX12_init_656 : decode cX12_init 656 = .ok (.putfield 84, 3) := yd_op_181 (i := 0) (a := 0) (b := 84) yd_by_cX12_init_24 rfl rfl
theorem dX12_init_659 : decode cX12_init 659 = .ok (.aload_n 0, 1) := yd_op_42 (i := 3) yd_by_cX12_init_24 rfl rfl
theorem dX12_init_660 : decode cX12_init 660 = .ok (.iconst 3, 1) := yd_op_6 (i := 4) yd_by_cX12_init_24 rfl rfl
theorem dX12_init_661 : decode cX12_init 661 = .ok (.newarray .char, 2) := yd_op_188_5 (i := 5) yd_by_cX12_init_24 rfl rfl
theorem dX12_init_663 : decode cX12_init 663 = .ok (.dup, 1) := yd_op_89 (i := 7) yd_by_cX12_init_24 rfl rfl
theorem dX12_init_664 : decode cX12_init 664 = .ok (.iconst 0, 1) := yd_op_3 (i := 8) yd_by_cX12_init_24 rfl rfl
theorem dX12_init_665 : decode cX12_init 665 = .ok (.bipush 97, 2) := yd_op_16 (i := 9) (a := 97) yd_by_cX12_init_24 rfl rfl
theorem dX12_init_667 : decode cX12_init 667 = .ok (.castore, 1) := yd_op_85 (i := 11) yd_by_cX12_init_24 rfl rfl
theorem dX12_init_668 : decode cX12_init 668 = .ok (.dup, 1) := yd_op_89 (i := 12) yd_by_cX12_init_24 rfl rfl
theorem dX12_init_669 : decode cX12_init 669 = .ok (.iconst 1, 1) := yd_op_4 (i := 13) yd_by_cX12_init_24 rfl rfl
theorem dX12_init_670 : decode cX12_init 670 = .ok (.bipush 110, 2) := yd_op_16 (i := 14) (a := 110) yd_by_cX12_init_24 rfl rfl
theorem dX12_init_672 : decode cX12_init 672 = .ok (.castore, 1) := yd_op_85 (i := 16) yd_by_cX12_init_24 rfl rfl
theorem dX12_init_673 : decode cX12_init 673 = .ok (.dup, 1) := yd_op_89 (i := 17) yd_by_cX12_init_24 rfl rfl
theorem dX12_init_674 : decode cX12_init 674 = .ok (.iconst 2, 1) := yd_op_5 (i := 18) yd_by_cX12_init_24 rfl rfl
theorem dX12_init_675 : decode cX12_init 675 = .ok (.bipush 100, 2) := yd_op_16 (i := 19) (a := 100) yd_by_cX12_init_24 rfl rfl
theorem dX12_init_677 : decode cX12_init 677 = .ok (.castore, 1) := yd_op_85 (i := 21) yd_by_cX12_init_24 rfl rfl
theorem dX12_init_678 : decode cX12_init 678 = .ok (.putfield 87, 3) := yd_op_181 (i := 22) (a := 0) (b := 87) yd_by_cX12_init_24 rfl rfl
theorem dX12_init_681 : decode cX12_init 681 = .ok (.aload_n 0, 1) := yd_op_42 (i := 25) yd_by_cX12_init_24 rfl rfl
theorem dX12_init_682 : decode cX12_init 682 = .ok (.iconst 3, 1) := yd_op_6 (i := 26) yd_by_cX12_init_24 rfl rfl
theorem dX12_init_683 : decode cX12_init 683 = .ok (.newarray .char, 2) := yd_op_188_5 (i := 27) yd_by_cX12_init_24 rfl rfl
set_option maxRecDepth 100000 in
theorem yd_by_cX12_init_25 : ydk cX12_init 685 [89, 3, 16, 110, 85, 89, 4, 16, 111, 85, 89, 5, 16, 116, 85, 181, 0, 90, 42, 6, 188, 5, 89, 3, 16, 97, 85] = true := by decide +kernel
theorem dX12_init_685 : decode cX12_init 685 = .ok (.dup, 1) := yd_op_89 (i := 0) yd_by_cX12_init_25 rfl rfl
theorem dX12_init_686 : decode cX12_init 686 = .ok (.iconst 0, 1) := yd_op_3 (i := 1) yd_by_cX12_init_25 rfl rfl
theorem dX12_init_687 : decode cX12_init 687 = .ok (.bipush 110, 2) := yd_op_16 (i := 2) (a := 110) yd_by_cX12_init_25 rfl rfl
theorem dX12_init_689 : decode cX12_init 689 = .ok (.castore, 1) := yd_op_85 (i := 4) yd_by_cX12_init_25 rfl rfl
theorem dX12_init_690 : decode cX12_init 690 = .ok (.dup, 1) := yd_op_89 (i := 5) yd_by_cX12_init_25 rfl rfl
theorem dX12_init_691 : decode cX12_init 691 = .ok (.iconst 1, 1) := yd_op_4 (i := 6) yd_by_cX12_init_25 rfl rfl
theorem dX12_init_692 : decode cX12_init 692 = .ok (.bipush 111, 2) := yd_op_16 (i := 7) (a := 111) yd_by_cX12_init_25 rfl rfl
theorem dX12_init_694 : decode cX12_init 694 = .ok (.castore, 1) := yd_op_85 (i := 9) yd_by_cX12_init_25 rfl rfl
theorem dX12_init_695 : decode cX12_init 695 = .ok (.dup, 1) := yd_op_89 (i := 10) yd_by_cX12_init_25 rfl rfl
theorem dX12_init_696 : decode cX12_init 696 = .ok (.iconst 2, 1) := yd_op_5 (i := 11) yd_by_cX12_init_25 rfl rfl
theorem dX12_init_697 : decode cX12_init 697 = .ok (.bipush 116, 2) := yd_op_16 (i := 12) (a := 116) yd_by_cX12_init_25 rfl rfl
theorem dX12_init_699 : decode cX12_init 699 = .ok (.castore, 1) := yd_op_85 (i := 14) yd_by_cX12_init_25 rfl rfl
theorem dX12_init_700 : decode cX12_init 700 = .ok (.putfield 90, 3) := yd_op_181 (i := 15) (a := 0) (b := 90) yd_by_cX12_init_25 rfl rfl
theorem dX12_init_703 : decode cX12_init 703 = .ok (.aload_n 0, 1) := yd_op_42 (i := 18) yd_by_cX12_init_25 rfl rfl
theorem dX12_init_704 : decode cX12_init 704 = .ok (.iconst 3, 1) := yd_op_6 (i := 19) yd_by_cX12_init_25 rfl rfl
theorem dX12_init_705 : decode cX12_init 705 = .ok (.newarray .char, 2) := yd_op_188_5 (i := 20) yd_by_cX12_init_25 rfl rfl
theorem dX12_init_707 : decode cX12_init 707 = .ok (.dup, 1) := yd_op_89 (i := 22) yd_by_cX12_init_25 rfl rfl
theorem dX12_init_708 : decode cX12_init 708 = .ok (.iconst 0, 1) := yd_op_3 (i := 23) yd_by_cX12_init_25 rfl rfl
theorem dX12_init_709 : decode cX12_init 709 = .ok (.bipush 97, 2) := yd_op_16 (i := 24) (a := 97) yd_by_cX12_init_25 rfl rfl
theorem dX12_init_711 : decode cX12_init 711 = .ok (.castore, 1) := yd_op_85 (i := 26) yd_by_cX12_init_25 rfl rfl
set_option maxRecDepth 100000 in
theorem yd_by_cX12_init_26 : ydk cX12_init 712 [89, 4, 16, 108, 85, 89, 5, 16, 108, 85, 181, 0, 93, 42, 6, 188, 5, 89, 3, 16, 109, 85, 89, 4, 16, 105, 85] = true := by decide +kernel
theorem dX12_init_712 : decode cX12_init 712 = .ok (.dup, 1) := yd_op_89 (i := 0) yd_by_cX12_init_26 rfl rfl
theorem dX12_init_713 : decode cX12_init 713 = .ok (.iconst 1, 1) := yd_op_4 (i := 1) yd_by_cX12_init_26 rfl rfl
theorem dX12_init_714 : decode cX12_init 714 = .ok (.bipush 108, 2) := yd_op_16 (i := 2) (a := 108) yd_by_cX12_init_26 rfl rfl
theorem dX12_init_716 : decode cX12_init 716 = .ok (.castore, 1) := yd_op_85 (i := 4) yd_by_cX12_init_26 rfl rfl
theorem dX12_init_717 : decode cX12_init 717 = .ok (.dup, 1) := yd_op_89 (i := 5) yd_by_cX12_init_26 rfl rfl
theorem dX12_init_718 : decode cX12_init 718 = .ok (.iconst 2, 1) := yd_op_5 (i := 6) yd_by_cX12_init_26 rfl rfl
theorem dX12_init_719 : decode cX12_init 719 = .ok (.bipush 108, 2) := yd_op_16 (i := 7) (a := 108) yd_by_cX12_init_26 rfl rfl
theorem dX12_init_721 : decode cX12_init 721 = .ok (.castore, 1) := yd_op_85 (i := 9) yd_by_cX12_init_26 rfl rfl
theorem dX12_init_722 : decode cX12_init 722 = .ok (.putfield 93, 3) := yd_op_181 (i := 10) (a := 0) (b := 93) yd_by_cX12_init_26 rfl rfl
theorem dX12_init_725 : decode cX12_init 725 = .ok (.aload_n 0, 1) := yd_op_42 (i := 13) yd_by_cX12_init_26 rfl rfl
theorem dX12_init_726 : decode cX12_init 726 = .ok (.iconst 3, 1) := yd_op_6 (i := 14) yd_by_cX12_init_26 rfl rfl
theorem dX12_init_727 : decode cX12_init 727 = .ok (.newarray .char, 2) := yd_op_188_5 (i := 15) yd_by_cX12_init_26 rfl rfl
theorem dX12_init_729 : decode cX12_init 729 = .ok (.dup, 1) := yd_op_89 (i := 17) yd_by_cX12_init_26 rfl rfl
theorem dX12_init_730 : decode cX12_init 730 = .ok (.iconst 0, 1) := yd_op_3 (i := 18) yd_by_cX12_init_26 rfl rfl
theorem dX12_init_731 : decode cX12_init 731 = .ok (.bipush 109, 2) := yd_op_16 (i := 19) (a := 109) yd_by_cX12_init_26 rfl rfl
theorem dX12_init_733 : decode cX12_init 733 = .ok (.castore, 1) := yd_op_85 (i := 21) yd_by_cX12_init_26 rfl rfl
theorem dX12_init_734 : decode cX12_init 734 = .ok (.dup, 1) := yd_op_89 (i := 22) yd_by_cX12_init_26 rfl rfl
theorem dX12_init_735 : decode cX12_init 735 = .ok (.iconst 1, 1) := yd_op_4 (i := 23) yd_by_cX12_init_26 rfl rfl
theorem dX12_init_736 : decode cX12_init 736 = .ok (.bipush 105, 2) := yd_op_16 (i := 24) (a := 105) yd_by_cX12_init_26 rfl rfl
theorem dX12_init_738 : decode cX12_init 738 = .ok (.castore, 1) := yd_op_85 (i := 26) yd_by_cX12_init_26 rfl rfl
set_option maxRecDepth 100000 in
theorem yd_by_cX12_init_27 : ydk cX12_init 739 [89, 5, 16, 110, 85, 181, 0, 96, 42, 6, 188, 5, 89, 3, 16, 109, 85, 89, 4, 16, 97, 85, 89, 5, 16, 120, 85] = true := by decide +kernel
theorem dX12_init_739 : decode cX12_init 739 = .ok (.dup, 1) := yd_op_89 (i := 0) yd_by_cX12_init_27 rfl rfl
theorem dX12_init_740 : decode cX12_init 740 = .ok (.iconst 2, 1) := yd_op_5 (i := 1) yd_by_cX12_init_27 rfl rfl
theorem dX12_init_741 : decode cX12_init 741 = .ok (.bipush 110, 2) := yd_op_16 (i := 2) (a := 110) yd_by_cX12_init_27 rfl rfl
theorem dX12_init_743 : decode cX12_init 743 = .ok (.castore, 1) := yd_op_85 (i := 4) yd_by_cX12_init_27 rfl rfl
theorem dX12_init_744 : decode cX12_init 744 = .ok (.putfield 96, 3) := yd_op_181 (i := 5) (a := 0) (b := 96) yd_by_cX12_init_27 rfl rfl
theorem dX12_init_747 : decode cX12_init 747 = .ok (.aload_n 0, 1) := yd_op_42 (i := 8) yd_by_cX12_init_27 rfl rfl
theorem dX12_init_748 : decode cX12_init 748 = .ok (.iconst 3, 1) := yd_op_6 (i := 9) yd_by_cX12_init_27 rfl rfl
theorem dX12_init_749 : decode cX12_init 749 = .ok (.newarray .char, 2) := yd_op_188_5 (i := 10) yd_by_cX12_init_27 rfl rfl
theorem dX12_init_751 : decode cX12_init 751 = .ok (.dup, 1) := yd_op_89 (i := 12) yd_by_cX12_init_27 rfl rfl
theorem dX12_init_752 : decode cX12_init 752 = .ok (.iconst 0, 1) := yd_op_3 (i := 13) yd_by_cX12_init_27 rfl rfl
theorem dX12_init_753 : decode cX12_init 753 = .ok (.bipush 109, 2) := yd_op_16 (i := 14) (a := 109) yd_by_cX12_init_27 rfl rfl
theorem dX12_init_755 : decode cX12_init 755 = .ok (.castore, 1) := yd_op_85 (i := 16) yd_by_cX12_init_27 rfl rfl
theorem dX12_init_756 : decode cX12_init 756 = .ok (.dup, 1) := yd_op_89 (i := 17) yd_by_cX12_init_27 rfl rfl
theorem dX12_init_757 : decode cX12_init 757 = .ok (.iconst 1, 1) := yd_op_4 (i := 18) yd_by_cX12_init_27 rfl rfl
theorem dX12_init_758 : decode cX12_init 758 = .ok (.bipush 97, 2) := yd_op_16 (i := 19) (a := 97) yd_by_cX12_init_27 rfl rfl
theorem dX12_init_760 : decode cX12_init 760 = .ok (.castore, 1) := yd_op_85 (i := 21) yd_by_cX12_init_27 rfl rfl
theorem dX12_init_761 : decode cX12_init 761 = .ok (.dup, 1) := yd_op_89 (i := 22) yd_by_cX12_init_27 rfl rfl
theorem dX12_init_762 : decode cX12_init 762 = .ok (.iconst 2, 1) := yd_op_5 (i := 23) yd_by_cX12_init_27 rfl rfl
theorem dX12_init_763 : decode cX12_init 763 = .ok (.bipush 120, 2) := yd_op_16 (i := 24) (a := 120) yd_by_cX12_init_27 rfl rfl
theorem dX12_init_765 : decode cX12_init 765 = .ok (.castore, 1) := yd_op_85 (i := 26) yd_by_cX12_init_27 rfl rfl
set_option maxRecDepth 100000 in
theorem yd_by_cX12_init_28 : ydk cX12_init 766 [181, 0, 99, 42, 16, 6, 188, 10, 181, 0, 102, 42, 5, 188, 10, 181, 0, 105, 42, 16, 20, 188, 11, 181, 0, 108, 42, 16, 72, 188, 10, 181, 0, 112, 42, 16, 40, 188, 10] = true := by decide +kernel
theorem dX12_init_766 : decode cX12_init 766 = .ok (.putfield 99, 3) := yd_op_181 (i := 0) (a := 0) (b := 99) yd_by_cX12_init_28 rfl rfl
theorem dX12_init_769 : decode cX12_init 769 = .ok (.aload_n 0, 1) := yd_op_42 (i := 3) yd_by_cX12_init_28 rfl rfl
theorem dX12_init_770 : decode cX12_init 770 = .ok (.bipush 6, 2) := yd_op_16 (i := 4) (a := 6) yd_by_cX12_init_28 rfl rfl
theorem dX12_init_772 : decode cX12_init 772 = .ok (.newarray .int, 2) := yd_op_188_10 (i := 6) yd_by_cX12_init_28 rfl rfl
theorem dX12_init_774 : decode cX12_init 774 = .ok (.putfield 102, 3) := yd_op_181 (i := 8) (a := 0) (b := 102) yd_by_cX12_init_28 rfl rfl
theorem dX12_init_777 : decode cX12_init 777 = .ok (.aload_n 0, 1) := yd_op_42 (i := 11) yd_by_cX12_init_28 rfl rfl
theorem dX12_init_778 : decode cX12_init 778 = .ok (.iconst 2, 1) := yd_op_5 (i := 12) yd_by_cX12_init_28 rfl rfl
theorem dX12_init_779 : decode cX12_init 779 = .ok (.newarray .int, 2) := yd_op_188_10 (i := 13) yd_by_cX12_init_28 rfl rfl
theorem dX12_init_781 : decode cX12_init 781 = .ok (.putfield 105, 3) := yd_op_181 (i := 15) (a := 0) (b := 105) yd_by_cX12_init_28 rfl rfl
theorem dX12_init_784 : decode cX12_init 784 = .ok (.aload_n 0, 1) := yd_op_42 (i := 18) yd_by_cX12_init_28 rfl rfl
theorem dX12_init_785 : decode cX12_init 785 = .ok (.bipush 20, 2) := yd_op_16 (i := 19) (a := 20) yd_by_cX12_init_28 rfl rfl
theorem dX12_init_787 : decode cX12_init 787 = .ok (.newarray .long, 2) := yd_op_188_11 (i := 21) yd_by_cX12_init_28 rfl rfl
theorem dX12_init_789 : decode cX12_init 789 = .ok (.putfield 108, 3) := yd_op_181 (i := 23) (a := 0) (b := 108) yd_by_cX12_init_28 rfl rfl
theorem dX12_init_792 : decode cX12_init 792 = .ok (.aload_n 0, 1) := yd_op_42 (i := 26) yd_by_cX12_init_28 rfl rfl
theorem dX12_init_793 : decode cX12_init 793 = .ok (.bipush 72, 2) := yd_op_16 (i := 27) (a := 72) yd_by_cX12_init_28 rfl rfl
theorem dX12_init_795 : decode cX12_init 795 = .ok (.newarray .int, 2) := yd_op_188_10 (i := 29) yd_by_cX12_init_28 rfl rfl
theorem dX12_init_797 : decode cX12_init 797 = .ok (.putfield 112, 3) := yd_op_181 (i := 31) (a := 0) (b := 112) yd_by_cX12_init_28 rfl rfl
theorem dX12_init_800 : decode cX12_init 800 = .ok (.aload_n 0, 1) := yd_op_42 (i := 34) yd_by_cX12_init_28 rfl rfl
theorem dX12_init_801 : decode cX12_init 801 = .ok (.bipush 40, 2) := yd_op_16 (i := 35) (a := 40) yd_by_cX12_init_28 rfl rfl
theorem dX12_init_803 : decode cX12_init 803 = .ok (.newarray .int, 2) := yd_op_188_10 (i := 37) yd_by_cX12_init_28 rfl rfl
set_option maxRecDepth 100000 in
theorem yd_by_cX12_init_29 : ydk cX12_init 805 [181, 0, 115, 42, 16, 6, 188, 10, 89, 3, 6, 79, 89, 4, 16, 20, 79, 89, 5, 3, 79, 89, 6, 6, 79] = true := by decide +kernel
theorem dX12_init_805 : decode cX12_init 805 = .ok (.putfield 115, 3) := yd_op_181 (i := 0) (a := 0) (b := 115) yd_by_cX12_init_29 rfl rfl
theorem dX12_init_808 : decode cX12_init 808 = .ok (.aload_n 0, 1) := yd_op_42 (i := 3) yd_by_cX12_init_29 rfl rfl
theorem dX12_init_809 : decode cX12_init 809 = .ok (.bipush 6, 2) := yd_op_16 (i := 4) (a := 6) yd_by_cX12_init_29 rfl rfl
theorem dX12_init_811 : decode cX12_init 811 = .ok (.newarray .int, 2) := yd_op_188_10 (i := 6) yd_by_cX12_init_29 rfl rfl
theorem dX12_init_813 : decode cX12_init 813 = .ok (.dup, 1) := yd_op_89 (i := 8) yd_by_cX12_init_29 rfl rfl
theorem dX12_init_814 : decode cX12_init 814 = .ok (.iconst 0, 1) := yd_op_3 (i := 9) yd_by_cX12_init_29 rfl rfl
theorem dX12_init_815 : decode cX12_init 815 = .ok (.iconst 3, 1) := yd_op_6 (i := 10) yd_by_cX12_init_29 rfl rfl
theorem dX12_init_816 : decode cX12_init 816 = .ok (.iastore, 1) := yd_op_79 (i := 11) yd_by_cX12_init_29 rfl rfl
theorem dX12_init_817 : decode cX12_init 817 = .ok (.dup, 1) := yd_op_89 (i := 12) yd_by_cX12_init_29 rfl rfl
theorem dX12_init_818 : decode cX12_init 818 = .ok (.iconst 1, 1) := yd_op_4 (i := 13) yd_by_cX12_init_29 rfl rfl
theorem dX12_init_819 : decode cX12_init 819 = .ok (.bipush 20, 2) := yd_op_16 (i := 14) (a := 20) yd_by_cX12_init_29 rfl rfl
theorem dX12_init_821 : decode cX12_init 821 = .ok (.iastore, 1) := yd_op_79 (i := 16) yd_by_cX12_init_29 rfl rfl
theorem dX12_init_822 : decode cX12_init 822 = .ok (.dup, 1) := yd_op_89 (i := 17) yd_by_cX12_init_29 rfl rfl
theorem dX12_init_823 : decode cX12_init 823 = .ok (.iconst 2, 1) := yd_op_5 (i := 18) yd_by_cX12_init_29 rfl rfl
theorem dX12_init_824 : decode cX12_init 824 = .ok (.iconst 0, 1) := yd_op_3 (i := 19) yd_by_cX12_init_29 rfl rfl
theorem dX12_init_825 : decode cX12_init 825 = .ok (.iastore, 1) := yd_op_79 (i := 20) yd_by_cX12_init_29 rfl rfl
theorem dX12_init_826 : decode cX12_init 826 = .ok (.dup, 1) := yd_op_89 (i := 21) yd_by_cX12_init_29 rfl rfl
theorem dX12_init_827 : decode cX12_init 827 = .ok (.iconst 3, 1) := yd_op_6 (i := 22) yd_by_cX12_init_29 rfl rfl
theorem dX12_init_828 : decode cX12_init 828 = .ok (.iconst 3, 1) := yd_op_6 (i := 23) yd_by_cX12_init_29 rfl rfl
theorem dX12_init_829 : decode cX12_init 829 = .ok (.iastore, 1) := yd_op_79 (i := 24) yd_by_cX12_init_29 rfl rfl
set_option maxRecDepth 100000 in
theorem yd_by_cX12_init_30 : ydk cX12_init 830 [89, 7, 16, 20, 79, 89, 8, 3, 79, 181, 0, 118, 42, 7, 188, 10, 89, 3, 2, 79, 89, 4, 2, 79] = true := by decide +kernel
theorem dX12_init_830 : decode cX12_init 830 = .ok (.dup, 1) := yd_op_89 (i := 0) yd_by_cX12_init_30 rfl rfl
theorem dX12_init_831 : decode cX12_init 831 = .ok (.iconst 4, 1) := yd_op_7 (i := 1) yd_by_cX12_init_30 rfl rfl
theorem dX12_init_832 : decode cX12_init 832 = .ok (.bipush 20, 2) := yd_op_16 (i := 2) (a := 20) yd_by_cX12_init_30 rfl rfl
theorem dX12_init_834 : decode cX12_init 834 = .ok (.iastore, 1) := yd_op_79 (i := 4) yd_by_cX12_init_30 rfl rfl
theorem dX12_init_835 : decode cX12_init 835 = .ok (.dup, 1) := yd_op_89 (i := 5) yd_by_cX12_init_30 rfl rfl
theorem dX12_init_836 : decode cX12_init 836 = .ok (.iconst 5, 1) := yd_op_8 (i := 6) yd_by_cX12_init_30 rfl rfl
theorem dX12_init_837 : decode cX12_init 837 = .ok (.iconst 0, 1) := yd_op_3 (i := 7) yd_by_cX12_init_30 rfl rfl
theorem dX12_init_838 : decode cX12_init 838 = .ok (.iastore, 1) := yd_op_79 (i := 8) yd_by_cX12_init_30 rfl rfl
theorem dX12_init_839 : decode cX12_init 839 = .ok (.putfield 118, 3) := yd_op_181 (i := 9) (a := 0) (b := 118) yd_by_cX12_init_30 rfl rfl
theorem dX12_init_842 : decode cX12_init 842 = .ok (.aload_n 0, 1) := yd_op_42 (i := 12) yd_by_cX12_init_30 rfl rfl
theorem dX12_init_843 : decode cX12_init 843 = .ok (.iconst 4, 1) := yd_op_7 (i := 13) yd_by_cX12_init_30 rfl rfl
theorem dX12_init_844 : decode cX12_init 844 = .ok (.newarray .int, 2) := yd_op_188_10 (i := 14) yd_by_cX12_init_30 rfl rfl
theorem dX12_init_846 : decode cX12_init 846 = .ok (.dup, 1) := yd_op_89 (i := 16) yd_by_cX12_init_30 rfl rfl
theorem dX12_init_847 : decode cX12_init 847 = .ok (.iconst 0, 1) := yd_op_3 (i := 17) yd_by_cX12_init_30 rfl rfl
theorem dX12_init_848 : decode cX12_init 848 = .ok (.iconst (-1), 1) := yd_op_2 (i := 18) yd_by_cX12_init_30 rfl rfl
theorem dX12_init_849 : decode cX12_init 849 = .ok (.iastore, 1) := yd_op_79 (i := 19) yd_by_cX12_init_30 rfl rfl
theorem dX12_init_850 : decode cX12_init 850 = .ok (.dup, 1) := yd_op_89 (i := 20) yd_by_cX12_init_30 rfl rfl
theorem dX12_init_851 : decode cX12_init 851 = .ok (.iconst 1, 1) := yd_op_4 (i := 21) yd_by_cX12_init_30 rfl rfl
theorem dX12_init_852 : decode cX12_init 852 = .ok (.iconst (-1), 1) := yd_op_2 (i := 22) yd_by_cX12_init_30 rfl rfl
theorem dX12_init_853 : decode cX12_init 853 = .ok (.iastore, 1) := yd_op_79 (i := 23) yd_by_cX12_init_30 rfl rfl
set_option maxRecDepth 100000 in
theorem yd_by_cX12_init_31 : ydk cX12_init 854 [89, 5, 2, 79, 89, 6, 2, 79, 181, 0, 121, 42, 7, 188, 10, 181, 0, 124, 42, 17, 12, 128, 188, 10, 181, 0, 127, 42, 17, 0, 188, 188, 10] = true := by decide +kernel
theorem dX12_init_854 : decode cX12_init 854 = .ok (.dup, 1) := yd_op_89 (i := 0) yd_by_cX12_init_31 rfl rfl
theorem dX12_init_855 : decode cX12_init 855 = .ok (.iconst 2, 1) := yd_op_5 (i := 1) yd_by_cX12_init_31 rfl rfl
theorem dX12_init_856 : decode cX12_init 856 = .ok (.iconst (-1), 1) := yd_op_2 (i := 2) yd_by_cX12_init_31 rfl rfl
theorem dX12_init_857 : decode cX12_init 857 = .ok (.iastore, 1) := yd_op_79 (i := 3) yd_by_cX12_init_31 rfl rfl
theorem dX12_init_858 : decode cX12_init 858 = .ok (.dup, 1) := yd_op_89 (i := 4) yd_by_cX12_init_31 rfl rfl
theorem dX12_init_859 : decode cX12_init 859 = .ok (.iconst 3, 1) := yd_op_6 (i := 5) yd_by_cX12_init_31 rfl rfl
theorem dX12_init_860 : decode cX12_init 860 = .ok (.iconst (-1), 1) := yd_op_2 (i := 6) yd_by_cX12_init_31 rfl rfl
theorem dX12_init_861 : decode cX12_init 861 = .ok (.iastore, 1) := yd_op_79 (i := 7) yd_by_cX12_init_31 rfl rfl
theorem dX12_init_862 : decode cX12_init 862 = .ok (.putfield 121, 3) := yd_op_181 (i := 8) (a := 0) (b := 121) yd_by_cX12_init_31 rfl rfl
theorem dX12_init_865 : decode cX12_init 865 = .ok (.aload_n 0, 1) := yd_op_42 (i := 11) yd_by_cX12_init_31 rfl rfl
theorem dX12_init_866 : decode cX12_init 866 = .ok (.iconst 4, 1) := yd_op_7 (i := 12) yd_by_cX12_init_31 rfl rfl
theorem dX12_init_867 : decode cX12_init 867 = .ok (.newarray .int, 2) := yd_op_188_10 (i := 13) yd_by_cX12_init_31 rfl rfl
theorem dX12_init_869 : decode cX12_init 869 = .ok (.putfield 124, 3) := yd_op_181 (i := 15) (a := 0) (b := 124) yd_by_cX12_init_31 rfl rfl
theorem dX12_init_872 : decode cX12_init 872 = .ok (.aload_n 0, 1) := yd_op_42 (i := 18) yd_by_cX12_init_31 rfl rfl
theorem dX12_init_873 : decode cX12_init 873 = .ok (.sipush 3200, 3) := yd_op_17 (i := 19) (a := 12) (b := 128) yd_by_cX12_init_31 rfl rfl
theorem dX12_init_876 : decode cX12_init 876 = .ok (.newarray .int, 2) := yd_op_188_10 (i := 22) yd_by_cX12_init_31 rfl rfl
theorem dX12_init_878 : decode cX12_init 878 = .ok (.putfield 127, 3) := yd_op_181 (i := 24) (a := 0) (b := 127) yd_by_cX12_init_31 rfl rfl
theorem dX12_init_881 : decode cX12_init 881 = .ok (.aload_n 0, 1) := yd_op_42 (i := 27) yd_by_cX12_init_31 rfl rfl
theorem dX12_init_882 : decode cX12_init 882 = .ok (.sipush 188, 3) := yd_op_17 (i := 28) (a := 0) (b := 188) yd_by_cX12_init_31 rfl rfl
theorem dX12_init_885 : decode cX12_init 885 = .ok (.newarray .int, 2) := yd_op_188_10 (i := 31) yd_by_cX12_init_31 rfl rfl
set_option maxRecDepth 100000 in
theorem yd_by_cX12_init_32 : ydk cX12_init 887 [181, 0, 130, 42, 16, 67, 188, 10, 181, 0, 133, 42, 16, 36, 188, 10, 181, 0, 136, 42, 2, 181, 0, 139, 42, 16, 36, 188, 4, 181, 0, 142, 42, 16, 24, 188, 10, 181, 0, 146] = true := by decide +kernel
theorem dX12_init_887 : decode cX12_init 887 = .ok (.putfield 130, 3) := yd_op_181 (i := 0) (a := 0) (b := 130) yd_by_cX12_init_32 rfl rfl
theorem dX12_init_890 : decode cX12_init 890 = .ok (.aload_n 0, 1) := yd_op_42 (i := 3) yd_by_cX12_init_32 rfl rfl
theorem dX12_init_891 : decode cX12_init 891 = .ok (.bipush 67, 2) := yd_op_16 (i := 4) (a := 67) yd_by_cX12_init_32 rfl rfl
theorem dX12_init_893 : decode cX12_init 893 = .ok (.newarray .int, 2) := yd_op_188_10 (i := 6) yd_by_cX12_init_32 rfl rfl
theorem dX12_init_895 : decode cX12_init 895 = .ok (.putfield 133, 3) := yd_op_181 (i := 8) (a := 0) (b := 133) yd_by_cX12_init_32 rfl rfl
theorem dX12_init_898 : decode cX12_init 898 = .ok (.aload_n 0, 1) := yd_op_42 (i := 11) yd_by_cX12_init_32 rfl rfl
theorem dX12_init_899 : decode cX12_init 899 = .ok (.bipush 36, 2) := yd_op_16 (i := 12) (a := 36) yd_by_cX12_init_32 rfl rfl
theorem dX12_init_901 : decode cX12_init 901 = .ok (.newarray .int, 2) := yd_op_188_10 (i := 14) yd_by_cX12_init_32 rfl rfl
theorem dX12_init_903 : decode cX12_init 903 = .ok (.putfield 136, 3) := yd_op_181 (i := 16) (a := 0) (b := 136) yd_by_cX12_init_32 rfl rfl
theorem dX12_init_906 : decode cX12_init 906 = .ok (.aload_n 0, 1) := yd_op_42 (i := 19) yd_by_cX12_init_32 rfl rfl
theorem dX12_init_907 : decode cX12_init 907 = .ok (.iconst (-1), 1) := yd_op_2 (i := 20) yd_by_cX12_init_32 rfl rfl
theorem dX12_init_908 : decode cX12_init 908 = .ok (.putfield 139, 3) := yd_op_181 (i := 21) (a := 0) (b := 139) yd_by_cX12_init_32 rfl rfl
theorem dX12_init_911 : decode cX12_init 911 = .ok (.aload_n 0, 1) := yd_op_42 (i := 24) yd_by_cX12_init_32 rfl rfl
theorem dX12_init_912 : decode cX12_init 912 = .ok (.bipush 36, 2) := yd_op_16 (i := 25) (a := 36) yd_by_cX12_init_32 rfl rfl
theorem dX12_init_914 : decode cX12_init 914 = .ok (.newarray .boolean, 2) := yd_op_188_4 (i := 27) yd_by_cX12_init_32 rfl rfl
theorem dX12_init_916 : decode cX12_init 916 = .ok (.putfield 142, 3) := yd_op_181 (i := 29) (a := 0) (b := 142) yd_by_cX12_init_32 rfl rfl
theorem dX12_init_919 : decode cX12_init 919 = .ok (.aload_n 0, 1) := yd_op_42 (i := 32) yd_by_cX12_init_32 rfl rfl
theorem dX12_init_920 : decode cX12_init 920 = .ok (.bipush 24, 2) := yd_op_16 (i := 33) (a := 24) yd_by_cX12_init_32 rfl rfl
theorem dX12_init_922 : decode cX12_init 922 = .ok (.newarray .int, 2) := yd_op_188_10 (i := 35) yd_by_cX12_init_32 rfl rfl
theorem dX12_init_924 : decode cX12_init 924 = .ok (.putfield 146, 3) := yd_op_181 (i := 37) (a := 0) (b := 146) yd_by_cX12_init_32 rfl rfl
set_option maxRecDepth 100000 in
theorem yd_by_cX12_init_33 : ydk cX12_init 927 [42, 17, 4, 0, 188, 10, 181, 0, 149, 42, 17, 3, 232, 188, 10, 181, 0, 152, 42, 17, 14, 176, 188, 10, 181, 0, 155, 42, 10, 181, 0, 158, 42, 8, 188, 5, 89, 3] = true := by decide +kernel
theorem dX12_init_927 : decode cX12_init 927 = .ok (.aload_n 0, 1) := yd_op_42 (i := 0) yd_by_cX12_init_33 rfl rfl
theorem dX12_init_928 : decode cX12_init 928 = .ok (.sipush 1024, 3) := yd_op_17 (i := 1) (a := 4) (b := 0) yd_by_cX12_init_33 rfl rfl
theorem dX12_init_931 : decode cX12_init 931 = .ok (.newarray .int, 2) := yd_op_188_10 (i := 4) yd_by_cX12_init_33 rfl rfl
theorem dX12_init_933 : decode cX12_init 933 = .ok (.putfield 149, 3) := yd_op_181 (i := 6) (a := 0) (b := 149) yd_by_cX12_init_33 rfl rfl
theorem dX12_init_936 : decode cX12_init 936 = .ok (.aload_n 0, 1) := yd_op_42 (i := 9) yd_by_cX12_init_33 rfl rfl
theorem dX12_init_937 : decode cX12_init 937 = .ok (.sipush 1000, 3) := yd_op_17 (i := 10) (a := 3) (b := 232) yd_by_cX12_init_33 rfl rfl
theorem dX12_init_940 : decode cX12_init 940 = .ok (.newarray .int, 2) := yd_op_188_10 (i := 13) yd_by_cX12_init_33 rfl rfl
theorem dX12_init_942 : decode cX12_init 942 = .ok (.putfield 152, 3) := yd_op_181 (i := 15) (a := 0) (b := 152) yd_by_cX12_init_33 rfl rfl
theorem dX12_init_945 : decode cX12_init 945 = .ok (.aload_n 0, 1) := yd_op_42 (i := 18) yd_by_cX12_init_33 rfl rfl
theorem dX12_init_946 : decode cX12_init 946 = .ok (.sipush 3760, 3) := yd_op_17 (i := 19) (a := 14) (b := 176) yd_by_cX12_init_33 rfl rfl
theorem dX12_init_949 : decode cX12_init 949 = .ok (.newarray .int, 2) := yd_op_188_10 (i := 22) yd_by_cX12_init_33 rfl rfl
theorem dX12_init_951 : decode cX12_init 951 = .ok (.putfield 155, 3) := yd_op_181 (i := 24) (a := 0) (b := 155) yd_by_cX12_init_33 rfl rfl
theorem dX12_init_954 : decode cX12_init 954 = .ok (.aload_n 0, 1) := yd_op_42 (i := 27) yd_by_cX12_init_33 rfl rfl
theorem dX12_init_955 : decode cX12_init 955 = .ok (.lconst 1, 1) := yd_op_10 (i := 28) yd_by_cX12_init_33 rfl rfl
theorem dX12_init_956 : decode cX12_init 956 = .ok (.putfield 158, 3) := yd_op_181 (i := 29) (a := 0) (b := 158) yd_by_cX12_init_33 rfl rfl
theorem dX12_init_959 : decode cX12_init 959 = .ok (.aload_n 0, 1) := yd_op_42 (i := 32) yd_by_cX12_init_33 rfl rfl
theorem dX12_init_960 : decode cX12_init 960 = .ok (.iconst 5, 1) := yd_op_8 (i := 33) yd_by_cX12_init_33 rfl rfl
theorem dX12_init_961 : decode cX12_init 961 = .ok (.newarray .char, 2) := yd_op_188_5 (i := 34) yd_by_cX12_init_33 rfl rfl
theorem dX12_init_963 : decode cX12_init 963 = .ok (.dup, 1) := yd_op_89 (i := 36) yd_by_cX12_init_33 rfl rfl
theorem dX12_init_964 : decode cX12_init 964 = .ok (.iconst 0, 1) := yd_op_3 (i := 37) yd_by_cX12_init_33 rfl rfl
set_option maxRecDepth 100000 in
theorem yd_by_cX12_init_34 : ydk cX12_init 965 [16, 102, 85, 89, 4, 16, 105, 85, 89, 5, 16, 114, 85, 89, 6, 16, 115, 85, 89, 7, 16, 116, 85, 181, 0, 162, 42] = true := by decide +kernel
theorem dX12_init_965 : decode cX12_init 965 = .ok (.bipush 102, 2) := yd_op_16 (i := 0) (a := 102) yd_by_cX12_init_34 rfl rfl
theorem dX12_init_967 : decode cX12_init 967 = .ok (.castore, 1) := yd_op_85 (i := 2) yd_by_cX12_init_34 rfl rfl
theorem dX12_init_968 : decode cX12_init 968 = .ok (.dup, 1) := yd_op_89 (i := 3) yd_by_cX12_init_34 rfl rfl
theorem dX12_init_969 : decode cX12_init 969 = .ok (.iconst 1, 1) := yd_op_4 (i := 4) yd_by_cX12_init_34 rfl rfl
theorem dX12_init_970 : decode cX12_init 970 = .ok (.bipush 105, 2) := yd_op_16 (i := 5) (a := 105) yd_by_cX12_init_34 rfl rfl
theorem dX12_init_972 : decode cX12_init 972 = .ok (.castore, 1) := yd_op_85 (i := 7) yd_by_cX12_init_34 rfl rfl
theorem dX12_init_973 : decode cX12_init 973 = .ok (.dup, 1) := yd_op_89 (i := 8) yd_by_cX12_init_34 rfl rfl
theorem dX12_init_974 : decode cX12_init 974 = .ok (.iconst 2, 1) := yd_op_5 (i := 9) yd_by_cX12_init_34 rfl rfl
theorem dX12_init_975 : decode cX12_init 975 = .ok (.bipush 114, 2) := yd_op_16 (i := 10) (a := 114) yd_by_cX12_init_34 rfl rfl
theorem dX12_init_977 : decode cX12_init 977 = .ok (.castore, 1) := yd_op_85 (i := 12) yd_by_cX12_init_34 rfl rfl
theorem dX12_init_978 : decode cX12_init 978 = .ok (.dup, 1) := yd_op_89 (i := 13) yd_by_cX12_init_34 rfl rfl
theorem dX12_init_979 : decode cX12_init 979 = .ok (.iconst 3, 1) := yd_op_6 (i := 14) yd_by_cX12_init_34 rfl rfl
theorem dX12_init_980 : decode cX12_init 980 = .ok (.bipush 115, 2) := yd_op_16 (i := 15) (a := 115) yd_by_cX12_init_34 rfl rfl
theorem dX12_init_982 : decode cX12_init 982 = .ok (.castore, 1) := yd_op_85 (i := 17) yd_by_cX12_init_34 rfl rfl
theorem dX12_init_983 : decode cX12_init 983 = .ok (.dup, 1) := yd_op_89 (i := 18) yd_by_cX12_init_34 rfl rfl
theorem dX12_init_984 : decode cX12_init 984 = .ok (.iconst 4, 1) := yd_op_7 (i := 19) yd_by_cX12_init_34 rfl rfl
theorem dX12_init_985 : decode cX12_init 985 = .ok (.bipush 116, 2) := yd_op_16 (i := 20) (a := 116) yd_by_cX12_init_34 rfl rfl
theorem dX12_init_987 : decode cX12_init 987 = .ok (.castore, 1) := yd_op_85 (i := 22) yd_by_cX12_init_34 rfl rfl
theorem dX12_init_988 : decode cX12_init 988 = .ok (.putfield 162, 3) := yd_op_181 (i := 23) (a := 0) (b := 162) yd_by_cX12_init_34 rfl rfl
theorem dX12_init_991 : decode cX12_init 991 = .ok (.aload_n 0, 1) := yd_op_42 (i := 26) yd_by_cX12_init_34 rfl rfl
set_option maxRecDepth 100000 in
theorem yd_by_cX12_init_35 : ydk cX12_init 992 [7, 188, 5, 89, 3, 16, 108, 85, 89, 4, 16, 97, 85, 89, 5, 16, 115, 85, 89, 6, 16, 116, 85, 181, 0, 165, 42] = true := by decide +kernel
theorem dX12_init_992 : decode cX12_init 992 = .ok (.iconst 4, 1) := yd_op_7 (i := 0) yd_by_cX12_init_35 rfl rfl
theorem dX12_init_993 : decode cX12_init 993 = .ok (.newarray .char, 2) := yd_op_188_5 (i := 1) yd_by_cX12_init_35 rfl rfl
theorem dX12_init_995 : decode cX12_init 995 = .ok (.dup, 1) := yd_op_89 (i := 3) yd_by_cX12_init_35 rfl rfl
theorem dX12_init_996 : decode cX12_init 996 = .ok (.iconst 0, 1) := yd_op_3 (i := 4) yd_by_cX12_init_35 rfl rfl
theorem dX12_init_997 : decode cX12_init 997 = .ok (.bipush 108, 2) := yd_op_16 (i := 5) (a := 108) yd_by_cX12_init_35 rfl rfl
theorem dX12_init_999 : decode cX12_init 999 = .ok (.castore, 1) := yd_op_85 (i := 7) yd_by_cX12_init_35 rfl rfl
theorem dX12_init_1000 : decode cX12_init 1000 = .ok (.dup, 1) := yd_op_89 (i := 8) yd_by_cX12_init_35 rfl rfl
theorem dX12_init_1001 : decode cX12_init 1001 = .ok (.iconst 1, 1) := yd_op_4 (i := 9) yd_by_cX12_init_35 rfl rfl
theorem dX12_init_1002 : decode cX12_init 1002 = .ok (.bipush 97, 2) := yd_op_16 (i := 10) (a := 97) yd_by_cX12_init_35 rfl rfl
theorem dX12_init_1004 : decode cX12_init 1004 = .ok (.castore, 1) := yd_op_85 (i := 12) yd_by_cX12_init_35 rfl rfl
theorem dX12_init_1005 : decode cX12_init 1005 = .ok (.dup, 1) := yd_op_89 (i := 13) yd_by_cX12_init_35 rfl rfl
theorem dX12_init_1006 : decode cX12_init 1006 = .ok (.iconst 2, 1) := yd_op_5 (i := 14) yd_by_cX12_init_35 rfl rfl
theorem dX12_init_1007 : decode cX12_init 1007 = .ok (.bipush 115, 2) := yd_op_16 (i := 15) (a := 115) yd_by_cX12_init_35 rfl rfl
theorem dX12_init_1009 : decode cX12_init 1009 = .ok (.castore, 1) := yd_op_85 (i := 17) yd_by_cX12_init_35 rfl rfl
theorem dX12_init_1010 : decode cX12_init 1010 = .ok (.dup, 1) := yd_op_89 (i := 18) yd_by_cX12_init_35 rfl rfl
theorem dX12_init_1011 : decode cX12_init 1011 = .ok (.iconst 3, 1) := yd_op_6 (i := 19) yd_by_cX12_init_35 rfl rfl
theorem dX12_init_1012 : decode cX12_init 1012 = .ok (.bipush 116, 2) := yd_op_16 (i := 20) (a := 116) yd_by_cX12_init_35 rfl rfl
theorem dX12_init_1014 : decode cX12_init 1014 = .ok (.castore, 1) := yd_op_85 (i := 22) yd_by_cX12_init_35 rfl rfl
theorem dX12_init_1015 : decode cX12_init 1015 = .ok (.putfield 165, 3) := yd_op_181 (i := 23) (a := 0) (b := 165) yd_by_cX12_init_35 rfl rfl
theorem dX12_init_1018 : decode cX12_init 1018 = .ok (.aload_n 0, 1) := yd_op_42 (i := 26) yd_by_cX12_init_35 rfl rfl
set_option maxRecDepth 100000 in
theorem yd_by_cX12_init_36 : ydk cX12_init 1019 [8, 188, 5, 89, 3, 16, 111, 85, 89, 4, 16, 102, 85, 89, 5, 16, 116, 85, 89, 6, 16, 101, 85, 89, 7] = true := by decide +kernel
theorem dX12_init_1019 : decode cX12_init 1019 = .ok (.iconst 5, 1) := yd_op_8 (i := 0) yd_by_cX12_init_36 rfl rfl
theorem dX12_init_1020 : decode cX12_init 1020 = .ok (.newarray .char, 2) := yd_op_188_5 (i := 1) yd_by_cX12_init_36 rfl rfl
theorem dX12_init_1022 : decode cX12_init 1022 = .ok (.dup, 1) := yd_op_89 (i := 3) yd_by_cX12_init_36 rfl rfl
theorem dX12_init_1023 : decode cX12_init 1023 = .ok (.iconst 0, 1) := yd_op_3 (i := 4) yd_by_cX12_init_36 rfl rfl
theorem dX12_init_1024 : decode cX12_init 1024 = .ok (.bipush 111, 2) := yd_op_16 (i := 5) (a := 111) yd_by_cX12_init_36 rfl rfl
theorem dX12_init_1026 : decode cX12_init 1026 = .ok (.castore, 1) := yd_op_85 (i := 7) yd_by_cX12_init_36 rfl rfl
theorem dX12_init_1027 : decode cX12_init 1027 = .ok (.dup, 1) := yd_op_89 (i := 8) yd_by_cX12_init_36 rfl rfl
theorem dX12_init_1028 : decode cX12_init 1028 = .ok (.iconst 1, 1) := yd_op_4 (i := 9) yd_by_cX12_init_36 rfl rfl
theorem dX12_init_1029 : decode cX12_init 1029 = .ok (.bipush 102, 2) := yd_op_16 (i := 10) (a := 102) yd_by_cX12_init_36 rfl rfl
theorem dX12_init_1031 : decode cX12_init 1031 = .ok (.castore, 1) := yd_op_85 (i := 12) yd_by_cX12_init_36 rfl rfl
theorem dX12_init_1032 : decode cX12_init 1032 = .ok (.dup, 1) := yd_op_89 (i := 13) yd_by_cX12_init_36 rfl rfl
theorem dX12_init_1033 : decode cX12_init 1033 = .ok (.iconst 2, 1) := yd_op_5 (i := 14) yd_by_cX12_init_36 rfl rfl
theorem dX12_init_1034 : decode cX12_init 1034 = .ok (.bipush 116, 2) := yd_op_16 (i := 15) (a := 116) yd_by_cX12_init_36 rfl rfl
theorem dX12_init_1036 : decode cX12_init 1036 = .ok (.castore, 1) := yd_op_85 (i := 17) yd_by_cX12_init_36 rfl rfl
theorem dX12_init_1037 : decode cX12_init 1037 = .ok (.dup, 1) := yd_op_89 (i := 18) yd_by_cX12_init_36 rfl rfl
theorem dX12_init_1038 : decode cX12_init 1038 = .ok (.iconst 3, 1) := yd_op_6 (i := 19) yd_by_cX12_init_36 rfl rfl
theorem dX12_init_1039 : decode cX12_init 1039 = .ok (.bipush 101, 2) := yd_op_16 (i := 20) (a := 101) yd_by_cX12_init_36 rfl rfl
theorem dX12_init_1041 : decode cX12_init 1041 = .ok (.castore, 1) := yd_op_85 (i := 22) yd_by_cX12_init_36 rfl rfl
theorem dX12_init_1042 : decode cX12_init 1042 = .ok (.dup, 1) := yd_op_89 (i := 23) yd_by_cX12_init_36 rfl rfl
theorem dX12_init_1043 : decode cX12_init 1043 = .ok (.iconst 4, 1) := yd_op_7 (i := 24) yd_by_cX12_init_36 rfl rfl
set_option maxRecDepth 100000 in
theorem yd_by_cX12_init_37 : ydk cX12_init 1044 [16, 110, 85, 181, 0, 168, 42, 8, 188, 5, 89, 3, 16, 116, 85, 89, 4, 16, 111, 85, 89, 5, 16, 116, 85, 89, 6] = true := by decide +kernel
theorem dX12_init_1044 : decode cX12_init 1044 = .ok (.bipush 110, 2) := yd_op_16 (i := 0) (a := 110) yd_by_cX12_init_37 rfl rfl
theorem dX12_init_1046 : decode cX12_init 1046 = .ok (.castore, 1) := yd_op_85 (i := 2) yd_by_cX12_init_37 rfl rfl
theorem dX12_init_1047 : decode cX12_init 1047 = .ok (.putfield 168, 3) := yd_op_181 (i := 3) (a := 0) (b := 168) yd_by_cX12_init_37 rfl rfl
theorem dX12_init_1050 : decode cX12_init 1050 = .ok (.aload_n 0, 1) := yd_op_42 (i := 6) yd_by_cX12_init_37 rfl rfl
theorem dX12_init_1051 : decode cX12_init 1051 = .ok (.iconst 5, 1) := yd_op_8 (i := 7) yd_by_cX12_init_37 rfl rfl
theorem dX12_init_1052 : decode cX12_init 1052 = .ok (.newarray .char, 2) := yd_op_188_5 (i := 8) yd_by_cX12_init_37 rfl rfl
theorem dX12_init_1054 : decode cX12_init 1054 = .ok (.dup, 1) := yd_op_89 (i := 10) yd_by_cX12_init_37 rfl rfl
theorem dX12_init_1055 : decode cX12_init 1055 = .ok (.iconst 0, 1) := yd_op_3 (i := 11) yd_by_cX12_init_37 rfl rfl
theorem dX12_init_1056 : decode cX12_init 1056 = .ok (.bipush 116, 2) := yd_op_16 (i := 12) (a := 116) yd_by_cX12_init_37 rfl rfl
theorem dX12_init_1058 : decode cX12_init 1058 = .ok (.castore, 1) := yd_op_85 (i := 14) yd_by_cX12_init_37 rfl rfl
theorem dX12_init_1059 : decode cX12_init 1059 = .ok (.dup, 1) := yd_op_89 (i := 15) yd_by_cX12_init_37 rfl rfl
theorem dX12_init_1060 : decode cX12_init 1060 = .ok (.iconst 1, 1) := yd_op_4 (i := 16) yd_by_cX12_init_37 rfl rfl
theorem dX12_init_1061 : decode cX12_init 1061 = .ok (.bipush 111, 2) := yd_op_16 (i := 17) (a := 111) yd_by_cX12_init_37 rfl rfl
theorem dX12_init_1063 : decode cX12_init 1063 = .ok (.castore, 1) := yd_op_85 (i := 19) yd_by_cX12_init_37 rfl rfl
theorem dX12_init_1064 : decode cX12_init 1064 = .ok (.dup, 1) := yd_op_89 (i := 20) yd_by_cX12_init_37 rfl rfl
theorem dX12_init_1065 : decode cX12_init 1065 = .ok (.iconst 2, 1) := yd_op_5 (i := 21) yd_by_cX12_init_37 rfl rfl
theorem dX12_init_1066 : decode cX12_init 1066 = .ok (.bipush 116, 2) := yd_op_16 (i := 22) (a := 116) yd_by_cX12_init_37 rfl rfl
theorem dX12_init_1068 : decode cX12_init 1068 = .ok (.castore, 1) := yd_op_85 (i := 24) yd_by_cX12_init_37 rfl rfl
theorem dX12_init_1069 : decode cX12_init 1069 = .ok (.dup, 1) := yd_op_89 (i := 25) yd_by_cX12_init_37 rfl rfl
theorem dX12_init_1070 : decode cX12_init 1070 = .ok (.iconst 3, 1) := yd_op_6 (i := 26) yd_by_cX12_init_37 rfl rfl
set_option maxRecDepth 100000 in
theorem yd_by_cX12_init_38 : ydk cX12_init 1071 [16, 97, 85, 89, 7, 16, 108, 85, 181, 0, 171, 42, 7, 188, 5, 89, 3, 16, 109, 85, 89, 4, 16, 111, 85, 89, 5] = true := by decide +kernel
theorem dX12_init_1071 : decode cX12_init 1071 = .ok (.bipush 97, 2) := yd_op_16 (i := 0) (a := 97) yd_by_cX12_init_38 rfl rfl
theorem dX12_init_1073 : decode cX12_init 1073 = .ok (.castore, 1) := yd_op_85 (i := 2) yd_by_cX12_init_38 rfl rfl
theorem dX12_init_1074 : decode cX12_init 1074 = .ok (.dup, 1) := yd_op_89 (i := 3) yd_by_cX12_init_38 rfl rfl
theorem dX12_init_1075 : decode cX12_init 1075 = .ok (.iconst 4, 1) := yd_op_7 (i := 4) yd_by_cX12_init_38 rfl rfl
theorem dX12_init_1076 : decode cX12_init 1076 = .ok (.bipush 108, 2) := yd_op_16 (i := 5) (a := 108) yd_by_cX12_init_38 rfl rfl
theorem dX12_init_1078 : decode cX12_init 1078 = .ok (.castore, 1) := yd_op_85 (i := 7) yd_by_cX12_init_38 rfl rfl
theorem dX12_init_1079 : decode cX12_init 1079 = .ok (.putfield 171, 3) := yd_op_181 (i := 8) (a := 0) (b := 171) yd_by_cX12_init_38 rfl rfl
theorem dX12_init_1082 : decode cX12_init 1082 = .ok (.aload_n 0, 1) := yd_op_42 (i := 11) yd_by_cX12_init_38 rfl rfl
theorem dX12_init_1083 : decode cX12_init 1083 = .ok (.iconst 4, 1) := yd_op_7 (i := 12) yd_by_cX12_init_38 rfl rfl
theorem dX12_init_1084 : decode cX12_init 1084 = .ok (.newarray .char, 2) := yd_op_188_5 (i := 13) yd_by_cX12_init_38 rfl rfl
theorem dX12_init_1086 : decode cX12_init 1086 = .ok (.dup, 1) := yd_op_89 (i := 15) yd_by_cX12_init_38 rfl rfl
theorem dX12_init_1087 : decode cX12_init 1087 = .ok (.iconst 0, 1) := yd_op_3 (i := 16) yd_by_cX12_init_38 rfl rfl
theorem dX12_init_1088 : decode cX12_init 1088 = .ok (.bipush 109, 2) := yd_op_16 (i := 17) (a := 109) yd_by_cX12_init_38 rfl rfl
theorem dX12_init_1090 : decode cX12_init 1090 = .ok (.castore, 1) := yd_op_85 (i := 19) yd_by_cX12_init_38 rfl rfl
theorem dX12_init_1091 : decode cX12_init 1091 = .ok (.dup, 1) := yd_op_89 (i := 20) yd_by_cX12_init_38 rfl rfl
theorem dX12_init_1092 : decode cX12_init 1092 = .ok (.iconst 1, 1) := yd_op_4 (i := 21) yd_by_cX12_init_38 rfl rfl
theorem dX12_init_1093 : decode cX12_init 1093 = .ok (.bipush 111, 2) := yd_op_16 (i := 22) (a := 111) yd_by_cX12_init_38 rfl rfl
theorem dX12_init_1095 : decode cX12_init 1095 = .ok (.castore, 1) := yd_op_85 (i := 24) yd_by_cX12_init_38 rfl rfl
theorem dX12_init_1096 : decode cX12_init 1096 = .ok (.dup, 1) := yd_op_89 (i := 25) yd_by_cX12_init_38 rfl rfl
theorem dX12_init_1097 : decode cX12_init 1097 = .ok (.iconst 2, 1) := yd_op_5 (i := 26) yd_by_cX12_init_38 rfl rfl
set_option maxRecDepth 100000 in
theorem yd_by_cX12_init_39 : ydk cX12_init 1098 [16, 115, 85, 89, 6, 16, 116, 85, 181, 0, 174, 42, 8, 188, 5, 89, 3, 16, 108, 85, 89, 4, 16, 101, 85, 89, 5] = true := by decide +kernel
theorem dX12_init_1098 : decode cX12_init 1098 = .ok (.bipush 115, 2) := yd_op_16 (i := 0) (a := 115) yd_by_cX12_init_39 rfl rfl
theorem dX12_init_1100 : decode cX12_init 1100 = .ok (.castore, 1) := yd_op_85 (i := 2) yd_by_cX12_init_39 rfl rfl
theorem dX12_init_1101 : decode cX12_init 1101 = .ok (.dup, 1) := yd_op_89 (i := 3) yd_by_cX12_init_39 rfl rfl
theorem dX12_init_1102 : decode cX12_init 1102 = .ok (.iconst 3, 1) := yd_op_6 (i := 4) yd_by_cX12_init_39 rfl rfl
theorem dX12_init_1103 : decode cX12_init 1103 = .ok (.bipush 116, 2) := yd_op_16 (i := 5) (a := 116) yd_by_cX12_init_39 rfl rfl
theorem dX12_init_1105 : decode cX12_init 1105 = .ok (.castore, 1) := yd_op_85 (i := 7) yd_by_cX12_init_39 rfl rfl
theorem dX12_init_1106 : decode cX12_init 1106 = .ok (.putfield 174, 3) := yd_op_181 (i := 8) (a := 0) (b := 174) yd_by_cX12_init_39 rfl rfl
theorem dX12_init_1109 : decode cX12_init 1109 = .ok (.aload_n 0, 1) := yd_op_42 (i := 11) yd_by_cX12_init_39 rfl rfl
theorem dX12_init_1110 : decode cX12_init 1110 = .ok (.iconst 5, 1) := yd_op_8 (i := 12) yd_by_cX12_init_39 rfl rfl
theorem dX12_init_1111 : decode cX12_init 1111 = .ok (.newarray .char, 2) := yd_op_188_5 (i := 13) yd_by_cX12_init_39 rfl rfl
theorem dX12_init_1113 : decode cX12_init 1113 = .ok (.dup, 1) := yd_op_89 (i := 15) yd_by_cX12_init_39 rfl rfl
theorem dX12_init_1114 : decode cX12_init 1114 = .ok (.iconst 0, 1) := yd_op_3 (i := 16) yd_by_cX12_init_39 rfl rfl
theorem dX12_init_1115 : decode cX12_init 1115 = .ok (.bipush 108, 2) := yd_op_16 (i := 17) (a := 108) yd_by_cX12_init_39 rfl rfl
theorem dX12_init_1117 : decode cX12_init 1117 = .ok (.castore, 1) := yd_op_85 (i := 19) yd_by_cX12_init_39 rfl rfl
theorem dX12_init_1118 : decode cX12_init 1118 = .ok (.dup, 1) := yd_op_89 (i := 20) yd_by_cX12_init_39 rfl rfl
theorem dX12_init_1119 : decode cX12_init 1119 = .ok (.iconst 1, 1) := yd_op_4 (i := 21) yd_by_cX12_init_39 rfl rfl
theorem dX12_init_1120 : decode cX12_init 1120 = .ok (.bipush 101, 2) := yd_op_16 (i := 22) (a := 101) yd_by_cX12_init_39 rfl rfl
theorem dX12_init_1122 : decode cX12_init 1122 = .ok (.castore, 1) := yd_op_85 (i := 24) yd_by_cX12_init_39 rfl rfl
theorem dX12_init_1123 : decode cX12_init 1123 = .ok (.dup, 1) := yd_op_89 (i := 25) yd_by_cX12_init_39 rfl rfl
theorem dX12_init_1124 : decode cX12_init 1124 = .ok (.iconst 2, 1) := yd_op_5 (i := 26) yd_by_cX12_init_39 rfl rfl
set_option maxRecDepth 100000 in
theorem yd_by_cX12_init_40 : ydk cX12_init 1125 [16, 97, 85, 89, 6, 16, 115, 85, 89, 7, 16, 116, 85, 181, 0, 177, 42, 6, 188, 5, 89, 3, 16, 110, 85, 89, 4] = true := by decide +kernel
theorem dX12_init_1125 : decode cX12_init 1125 = .ok (.bipush 97, 2) := yd_op_16 (i := 0) (a := 97) yd_by_cX12_init_40 rfl rfl
theorem dX12_init_1127 : decode cX12_init 1127 = .ok (.castore, 1) := yd_op_85 (i := 2) yd_by_cX12_init_40 rfl rfl
theorem dX12_init_1128 : decode cX12_init 1128 = .ok (.dup, 1) := yd_op_89 (i := 3) yd_by_cX12_init_40 rfl rfl
theorem dX12_init_1129 : decode cX12_init 1129 = .ok (.iconst 3, 1) := yd_op_6 (i := 4) yd_by_cX12_init_40 rfl rfl
theorem dX12_init_1130 : decode cX12_init 1130 = .ok (.bipush 115, 2) := yd_op_16 (i := 5) (a := 115) yd_by_cX12_init_40 rfl rfl
theorem dX12_init_1132 : decode cX12_init 1132 = .ok (.castore, 1) := yd_op_85 (i := 7) yd_by_cX12_init_40 rfl rfl
theorem dX12_init_1133 : decode cX12_init 1133 = .ok (.dup, 1) := yd_op_89 (i := 8) yd_by_cX12_init_40 rfl rfl
theorem dX12_init_1134 : decode cX12_init 1134 = .ok (.iconst 4, 1) := yd_op_7 (i := 9) yd_by_cX12_init_40 rfl rfl
theorem dX12_init_1135 : decode cX12_init 1135 = .ok (.bipush 116, 2) := yd_op_16 (i := 10) (a := 116) yd_by_cX12_init_40 rfl rfl
theorem dX12_init_1137 : decode cX12_init 1137 = .ok (.castore, 1) := yd_op_85 (i := 12) yd_by_cX12_init_40 rfl rfl
theorem dX12_init_1138 : decode cX12_init 1138 = .ok (.putfield 177, 3) := yd_op_181 (i := 13) (a := 0) (b := 177) yd_by_cX12_init_40 rfl rfl
theorem dX12_init_1141 : decode cX12_init 1141 = .ok (.aload_n 0, 1) := yd_op_42 (i := 16) yd_by_cX12_init_40 rfl rfl
theorem dX12_init_1142 : decode cX12_init 1142 = .ok (.iconst 3, 1) := yd_op_6 (i := 17) yd_by_cX12_init_40 rfl rfl
theorem dX12_init_1143 : decode cX12_init 1143 = .ok (.newarray .char, 2) := yd_op_188_5 (i := 18) yd_by_cX12_init_40 rfl rfl
theorem dX12_init_1145 : decode cX12_init 1145 = .ok (.dup, 1) := yd_op_89 (i := 20) yd_by_cX12_init_40 rfl rfl
theorem dX12_init_1146 : decode cX12_init 1146 = .ok (.iconst 0, 1) := yd_op_3 (i := 21) yd_by_cX12_init_40 rfl rfl
theorem dX12_init_1147 : decode cX12_init 1147 = .ok (.bipush 110, 2) := yd_op_16 (i := 22) (a := 110) yd_by_cX12_init_40 rfl rfl
theorem dX12_init_1149 : decode cX12_init 1149 = .ok (.castore, 1) := yd_op_85 (i := 24) yd_by_cX12_init_40 rfl rfl
theorem dX12_init_1150 : decode cX12_init 1150 = .ok (.dup, 1) := yd_op_89 (i := 25) yd_by_cX12_init_40 rfl rfl
theorem dX12_init_1151 : decode cX12_init 1151 = .ok (.iconst 1, 1) := yd_op_4 (i := 26) yd_by_cX12_init_40 rfl rfl
set_option maxRecDepth 100000 in
theorem yd_by_cX12_init_41 : ydk cX12_init 1152 [16, 111, 85, 89, 5, 16, 116, 85, 181, 0, 180, 42, 6, 188, 5, 89, 3, 16, 97, 85, 89, 4, 16, 110, 85, 89, 5] = true := by decide +kernel
theorem dX12_init_1152 : decode cX12_init 1152 = .ok (.bipush 111, 2) := yd_op_16 (i := 0) (a := 111) yd_by_cX12_init_41 rfl rfl
theorem dX12_init_1154 : decode cX12_init 1154 = .ok (.castore, 1) := yd_op_85 (i := 2) yd_by_cX12_init_41 rfl rfl
theorem dX12_init_1155 : decode cX12_init 1155 = .ok (.dup, 1) := yd_op_89 (i := 3) yd_by_cX12_init_41 rfl rfl
theorem dX12_init_1156 : decode cX12_init 1156 = .ok (.iconst 2, 1) := yd_op_5 (i := 4) yd_by_cX12_init_41 rfl rfl
theorem dX12_init_1157 : decode cX12_init 1157 = .ok (.bipush 116, 2) := yd_op_16 (i := 5) (a := 116) yd_by_cX12_init_41 rfl rfl
theorem dX12_init_1159 : decode cX12_init 1159 = .ok (.castore, 1) := yd_op_85 (i := 7) yd_by_cX12_init_41 rfl rfl
theorem dX12_init_1160 : decode cX12_init 1160 = .ok (.putfield 180, 3) := yd_op_181 (i := 8) (a := 0) (b := 180) yd_by_cX12_init_41 rfl rfl
theorem dX12_init_1163 : decode cX12_init 1163 = .ok (.aload_n 0, 1) := yd_op_42 (i := 11) yd_by_cX12_init_41 rfl rfl
theorem dX12_init_1164 : decode cX12_init 1164 = .ok (.iconst 3, 1) := yd_op_6 (i := 12) yd_by_cX12_init_41 rfl rfl
theorem dX12_init_1165 : decode cX12_init 1165 = .ok (.newarray .char, 2) := yd_op_188_5 (i := 13) yd_by_cX12_init_41 rfl rfl
theorem dX12_init_1167 : decode cX12_init 1167 = .ok (.dup, 1) := yd_op_89 (i := 15) yd_by_cX12_init_41 rfl rfl
theorem dX12_init_1168 : decode cX12_init 1168 = .ok (.iconst 0, 1) := yd_op_3 (i := 16) yd_by_cX12_init_41 rfl rfl
theorem dX12_init_1169 : decode cX12_init 1169 = .ok (.bipush 97, 2) := yd_op_16 (i := 17) (a := 97) yd_by_cX12_init_41 rfl rfl
theorem dX12_init_1171 : decode cX12_init 1171 = .ok (.castore, 1) := yd_op_85 (i := 19) yd_by_cX12_init_41 rfl rfl
theorem dX12_init_1172 : decode cX12_init 1172 = .ok (.dup, 1) := yd_op_89 (i := 20) yd_by_cX12_init_41 rfl rfl
theorem dX12_init_1173 : decode cX12_init 1173 = .ok (.iconst 1, 1) := yd_op_4 (i := 21) yd_by_cX12_init_41 rfl rfl
theorem dX12_init_1174 : decode cX12_init 1174 = .ok (.bipush 110, 2) := yd_op_16 (i := 22) (a := 110) yd_by_cX12_init_41 rfl rfl
theorem dX12_init_1176 : decode cX12_init 1176 = .ok (.castore, 1) := yd_op_85 (i := 24) yd_by_cX12_init_41 rfl rfl
theorem dX12_init_1177 : decode cX12_init 1177 = .ok (.dup, 1) := yd_op_89 (i := 25) yd_by_cX12_init_41 rfl rfl
theorem dX12_init_1178 : decode cX12_init 1178 = .ok (.iconst 2, 1) := yd_op_5 (i := 26) yd_by_cX12_init_41 rfl rfl
set_option maxRecDepth 100000 in
theorem yd_by_cX12_init_42 : ydk cX12_init 1179 [16, 100, 85, 181, 0, 183, 42, 5, 188, 5, 89, 3, 16, 111, 85, 89, 4, 16, 114, 85, 181, 0, 186, 42, 6, 188, 5, 89, 3] = true := by decide +kernel
theorem dX12_init_1179 : decode cX12_init 1179 = .ok (.bipush 100, 2) := yd_op_16 (i := 0) (a := 100) yd_by_cX12_init_42 rfl rfl
theorem dX12_init_1181 : decode cX12_init 1181 = .ok (.castore, 1) := yd_op_85 (i := 2) yd_by_cX12_init_42 rfl rfl
theorem dX12_init_1182 : decode cX12_init 1182 = .ok (.putfield 183, 3) := yd_op_181 (i := 3) (a := 0) (b := 183) yd_by_cX12_init_42 rfl rfl
theorem dX12_init_1185 : decode cX12_init 1185 = .ok (.aload_n 0, 1) := yd_op_42 (i := 6) yd_by_cX12_init_42 rfl rfl
theorem dX12_init_1186 : decode cX12_init 1186 = .ok (.iconst 2, 1) := yd_op_5 (i := 7) yd_by_cX12_init_42 rfl rfl
theorem dX12_init_1187 : decode cX12_init 1187 = .ok (.newarray .char, 2) := yd_op_188_5 (i := 8) yd_by_cX12_init_42 rfl rfl
theorem dX12_init_1189 : decode cX12_init 1189 = .ok (.dup, 1) := yd_op_89 (i := 10) yd_by_cX12_init_42 rfl rfl
theorem dX12_init_1190 : decode cX12_init 1190 = .ok (.iconst 0, 1) := yd_op_3 (i := 11) yd_by_cX12_init_42 rfl rfl
theorem dX12_init_1191 : decode cX12_init 1191 = .ok (.bipush 111, 2) := yd_op_16 (i := 12) (a := 111) yd_by_cX12_init_42 rfl rfl
theorem dX12_init_1193 : decode cX12_init 1193 = .ok (.castore, 1) := yd_op_85 (i := 14) yd_by_cX12_init_42 rfl rfl
theorem dX12_init_1194 : decode cX12_init 1194 = .ok (.dup, 1) := yd_op_89 (i := 15) yd_by_cX12_init_42 rfl rfl
theorem dX12_init_1195 : decode cX12_init 1195 = .ok (.iconst 1, 1) := yd_op_4 (i := 16) yd_by_cX12_init_42 rfl rfl
theorem dX12_init_1196 : decode cX12_init 1196 = .ok (.bipush 114, 2) := yd_op_16 (i := 17) (a := 114) yd_by_cX12_init_42 rfl rfl
theorem dX12_init_1198 : decode cX12_init 1198 = .ok (.castore, 1) := yd_op_85 (i := 19) yd_by_cX12_init_42 rfl rfl
theorem dX12_init_1199 : decode cX12_init 1199 = .ok (.putfield 186, 3) := yd_op_181 (i := 20) (a := 0) (b := 186) yd_by_cX12_init_42 rfl rfl
theorem dX12_init_1202 : decode cX12_init 1202 = .ok (.aload_n 0, 1) := yd_op_42 (i := 23) yd_by_cX12_init_42 rfl rfl
theorem dX12_init_1203 : decode cX12_init 1203 = .ok (.iconst 3, 1) := yd_op_6 (i := 24) yd_by_cX12_init_42 rfl rfl
theorem dX12_init_1204 : decode cX12_init 1204 = .ok (.newarray .char, 2) := yd_op_188_5 (i := 25) yd_by_cX12_init_42 rfl rfl
theorem dX12_init_1206 : decode cX12_init 1206 = .ok (.dup, 1) := yd_op_89 (i := 27) yd_by_cX12_init_42 rfl rfl
theorem dX12_init_1207 : decode cX12_init 1207 = .ok (.iconst 0, 1) := yd_op_3 (i := 28) yd_by_cX12_init_42 rfl rfl
set_option maxRecDepth 100000 in
theorem yd_by_cX12_init_43 : ydk cX12_init 1208 [16, 97, 85, 89, 4, 16, 108, 85, 89, 5, 16, 108, 85, 181, 0, 189, 42, 6, 188, 5, 89, 3, 16, 109, 85, 89, 4] = true := by decide +kernel
theorem dX12_init_1208 : decode cX12_init 1208 = .ok (.bipush 97, 2) := yd_op_16 (i := 0) (a := 97) yd_by_cX12_init_43 rfl rfl
theorem dX12_init_1210 : decode cX12_init 1210 = .ok (.castore, 1) := yd_op_85 (i := 2) yd_by_cX12_init_43 rfl rfl
theorem dX12_init_1211 : decode cX12_init 1211 = .ok (.dup, 1) := yd_op_89 (i := 3) yd_by_cX12_init_43 rfl rfl
theorem dX12_init_1212 : decode cX12_init 1212 = .ok (.iconst 1, 1) := yd_op_4 (i := 4) yd_by_cX12_init_43 rfl rfl
theorem dX12_init_1213 : decode cX12_init 1213 = .ok (.bipush 108, 2) := yd_op_16 (i := 5) (a := 108) yd_by_cX12_init_43 rfl rfl
theorem dX12_init_1215 : decode cX12_init 1215 = .ok (.castore, 1) := yd_op_85 (i := 7) yd_by_cX12_init_43 rfl rfl
theorem dX12_init_1216 : decode cX12_init 1216 = .ok (.dup, 1) := yd_op_89 (i := 8) yd_by_cX12_init_43 rfl rfl
theorem dX12_init_1217 : decode cX12_init 1217 = .ok (.iconst 2, 1) := yd_op_5 (i := 9) yd_by_cX12_init_43 rfl rfl
theorem dX12_init_1218 : decode cX12_init 1218 = .ok (.bipush 108, 2) := yd_op_16 (i := 10) (a := 108) yd_by_cX12_init_43 rfl rfl
theorem dX12_init_1220 : decode cX12_init 1220 = .ok (.castore, 1) := yd_op_85 (i := 12) yd_by_cX12_init_43 rfl rfl
theorem dX12_init_1221 : decode cX12_init 1221 = .ok (.putfield 189, 3) := yd_op_181 (i := 13) (a := 0) (b := 189) yd_by_cX12_init_43 rfl rfl
theorem dX12_init_1224 : decode cX12_init 1224 = .ok (.aload_n 0, 1) := yd_op_42 (i := 16) yd_by_cX12_init_43 rfl rfl
theorem dX12_init_1225 : decode cX12_init 1225 = .ok (.iconst 3, 1) := yd_op_6 (i := 17) yd_by_cX12_init_43 rfl rfl
theorem dX12_init_1226 : decode cX12_init 1226 = .ok (.newarray .char, 2) := yd_op_188_5 (i := 18) yd_by_cX12_init_43 rfl rfl
theorem dX12_init_1228 : decode cX12_init 1228 = .ok (.dup, 1) := yd_op_89 (i := 20) yd_by_cX12_init_43 rfl rfl
theorem dX12_init_1229 : decode cX12_init 1229 = .ok (.iconst 0, 1) := yd_op_3 (i := 21) yd_by_cX12_init_43 rfl rfl
theorem dX12_init_1230 : decode cX12_init 1230 = .ok (.bipush 109, 2) := yd_op_16 (i := 22) (a := 109) yd_by_cX12_init_43 rfl rfl
theorem dX12_init_1232 : decode cX12_init 1232 = .ok (.castore, 1) := yd_op_85 (i := 24) yd_by_cX12_init_43 rfl rfl
theorem dX12_init_1233 : decode cX12_init 1233 = .ok (.dup, 1) := yd_op_89 (i := 25) yd_by_cX12_init_43 rfl rfl
theorem dX12_init_1234 : decode cX12_init 1234 = .ok (.iconst 1, 1) := yd_op_4 (i := 26) yd_by_cX12_init_43 rfl rfl
set_option maxRecDepth 100000 in
theorem yd_by_cX12_init_44 : ydk cX12_init 1235 [16, 105, 85, 89, 5, 16, 110, 85, 181, 0, 192, 42, 6, 188, 5, 89, 3, 16, 109, 85, 89, 4, 16, 97, 85, 89, 5] = true := by decide +kernel
theorem dX12_init_1235 : decode cX12_init 1235 = .ok (.bipush 105, 2) := yd_op_16 (i := 0) (a := 105) yd_by_cX12_init_44 rfl rfl
theorem dX12_init_1237 : decode cX12_init 1237 = .ok (.castore, 1) := yd_op_85 (i := 2) yd_by_cX12_init_44 rfl rfl
theorem dX12_init_1238 : decode cX12_init 1238 = .ok (.dup, 1) := yd_op_89 (i := 3) yd_by_cX12_init_44 rfl rfl
theorem dX12_init_1239 : decode cX12_init 1239 = .ok (.iconst 2, 1) := yd_op_5 (i := 4) yd_by_cX12_init_44 rfl rfl
theorem dX12_init_1240 : decode cX12_init 1240 = .ok (.bipush 110, 2) := yd_op_16 (i := 5) (a := 110) yd_by_cX12_init_44 rfl rfl
theorem dX12_init_1242 : decode cX12_init 1242 = .ok (.castore, 1) := yd_op_85 (i := 7) yd_by_cX12_init_44 rfl rfl
theorem dX12_init_1243 : decode cX12_init 1243 = .ok (.putfield 192, 3) := yd_op_181 (i := 8) (a := 0) (b := 192) yd_by_cX12_init_44 rfl rfl
theorem dX12_init_1246 : decode cX12_init 1246 = .ok (.aload_n 0, 1) := yd_op_42 (i := 11) yd_by_cX12_init_44 rfl rfl
theorem dX12_init_1247 : decode cX12_init 1247 = .ok (.iconst 3, 1) := yd_op_6 (i := 12) yd_by_cX12_init_44 rfl rfl
theorem dX12_init_1248 : decode cX12_init 1248 = .ok (.newarray .char, 2) := yd_op_188_5 (i := 13) yd_by_cX12_init_44 rfl rfl
theorem dX12_init_1250 : decode cX12_init 1250 = .ok (.dup, 1) := yd_op_89 (i := 15) yd_by_cX12_init_44 rfl rfl
theorem dX12_init_1251 : decode cX12_init 1251 = .ok (.iconst 0, 1) := yd_op_3 (i := 16) yd_by_cX12_init_44 rfl rfl
theorem dX12_init_1252 : decode cX12_init 1252 = .ok (.bipush 109, 2) := yd_op_16 (i := 17) (a := 109) yd_by_cX12_init_44 rfl rfl
theorem dX12_init_1254 : decode cX12_init 1254 = .ok (.castore, 1) := yd_op_85 (i := 19) yd_by_cX12_init_44 rfl rfl
theorem dX12_init_1255 : decode cX12_init 1255 = .ok (.dup, 1) := yd_op_89 (i := 20) yd_by_cX12_init_44 rfl rfl
theorem dX12_init_1256 : decode cX12_init 1256 = .ok (.iconst 1, 1) := yd_op_4 (i := 21) yd_by_cX12_init_44 rfl rfl
theorem dX12_init_1257 : decode cX12_init 1257 = .ok (.bipush 97, 2) := yd_op_16 (i := 22) (a := 97) yd_by_cX12_init_44 rfl rfl
theorem dX12_init_1259 : decode cX12_init 1259 = .ok (.castore, 1) := yd_op_85 (i := 24) yd_by_cX12_init_44 rfl rfl
theorem dX12_init_1260 : decode cX12_init 1260 = .ok (.dup, 1) := yd_op_89 (i := 25) yd_by_cX12_init_44 rfl rfl
theorem dX12_init_1261 : decode cX12_init 1261 = .ok (.iconst 2, 1) := yd_op_5 (i := 26) yd_by_cX12_init_44 rfl rfl
set_option maxRecDepth 100000 in
theorem yd_by_cX12_init_45 : ydk cX12_init 1262 [16, 120, 85, 181, 0, 195, 42, 7, 188, 5, 89, 3, 16, 104, 85, 89, 4, 16, 111, 85, 89, 5, 16, 117, 85, 89, 6] = true := by decide +kernel
theorem dX12_init_1262 : decode cX12_init 1262 = .ok (.bipush 120, 2) := yd_op_16 (i := 0) (a := 120) yd_by_cX12_init_45 rfl rfl
theorem dX12_init_1264 : decode cX12_init 1264 = .ok (.castore, 1) := yd_op_85 (i := 2) yd_by_cX12_init_45 rfl rfl
theorem dX12_init_1265 : decode cX12_init 1265 = .ok (.putfield 195, 3) := yd_op_181 (i := 3) (a := 0) (b := 195) yd_by_cX12_init_45 rfl rfl
theorem dX12_init_1268 : decode cX12_init 1268 = .ok (.aload_n 0, 1) := yd_op_42 (i := 6) yd_by_cX12_init_45 rfl rfl
theorem dX12_init_1269 : decode cX12_init 1269 = .ok (.iconst 4, 1) := yd_op_7 (i := 7) yd_by_cX12_init_45 rfl rfl
theorem dX12_init_1270 : decode cX12_init 1270 = .ok (.newarray .char, 2) := yd_op_188_5 (i := 8) yd_by_cX12_init_45 rfl rfl
theorem dX12_init_1272 : decode cX12_init 1272 = .ok (.dup, 1) := yd_op_89 (i := 10) yd_by_cX12_init_45 rfl rfl
theorem dX12_init_1273 : decode cX12_init 1273 = .ok (.iconst 0, 1) := yd_op_3 (i := 11) yd_by_cX12_init_45 rfl rfl
theorem dX12_init_1274 : decode cX12_init 1274 = .ok (.bipush 104, 2) := yd_op_16 (i := 12) (a := 104) yd_by_cX12_init_45 rfl rfl
theorem dX12_init_1276 : decode cX12_init 1276 = .ok (.castore, 1) := yd_op_85 (i := 14) yd_by_cX12_init_45 rfl rfl
theorem dX12_init_1277 : decode cX12_init 1277 = .ok (.dup, 1) := yd_op_89 (i := 15) yd_by_cX12_init_45 rfl rfl
theorem dX12_init_1278 : decode cX12_init 1278 = .ok (.iconst 1, 1) := yd_op_4 (i := 16) yd_by_cX12_init_45 rfl rfl
theorem dX12_init_1279 : decode cX12_init 1279 = .ok (.bipush 111, 2) := yd_op_16 (i := 17) (a := 111) yd_by_cX12_init_45 rfl rfl
theorem dX12_init_1281 : decode cX12_init 1281 = .ok (.castore, 1) := yd_op_85 (i := 19) yd_by_cX12_init_45 rfl rfl
theorem dX12_init_1282 : decode cX12_init 1282 = .ok (.dup, 1) := yd_op_89 (i := 20) yd_by_cX12_init_45 rfl rfl
theorem dX12_init_1283 : decode cX12_init 1283 = .ok (.iconst 2, 1) := yd_op_5 (i := 21) yd_by_cX12_init_45 rfl rfl
theorem dX12_init_1284 : decode cX12_init 1284 = .ok (.bipush 117, 2) := yd_op_16 (i := 22) (a := 117) yd_by_cX12_init_45 rfl rfl
theorem dX12_init_1286 : decode cX12_init 1286 = .ok (.castore, 1) := yd_op_85 (i := 24) yd_by_cX12_init_45 rfl rfl
theorem dX12_init_1287 : decode cX12_init 1287 = .ok (.dup, 1) := yd_op_89 (i := 25) yd_by_cX12_init_45 rfl rfl
theorem dX12_init_1288 : decode cX12_init 1288 = .ok (.iconst 3, 1) := yd_op_6 (i := 26) yd_by_cX12_init_45 rfl rfl
set_option maxRecDepth 100000 in
theorem yd_by_cX12_init_46 : ydk cX12_init 1289 [16, 114, 85, 181, 0, 198, 42, 16, 6, 188, 5, 89, 3, 16, 99, 85, 89, 4, 16, 114, 85, 89, 5, 16, 97, 85, 89, 6] = true := by decide +kernel
theorem dX12_init_1289 : decode cX12_init 1289 = .ok (.bipush 114, 2) := yd_op_16 (i := 0) (a := 114) yd_by_cX12_init_46 rfl rfl
theorem dX12_init_1291 : decode cX12_init 1291 = .ok (.castore, 1) := yd_op_85 (i := 2) yd_by_cX12_init_46 rfl rfl
theorem dX12_init_1292 : decode cX12_init 1292 = .ok (.putfield 198, 3) := yd_op_181 (i := 3) (a := 0) (b := 198) yd_by_cX12_init_46 rfl rfl
theorem dX12_init_1295 : decode cX12_init 1295 = .ok (.aload_n 0, 1) := yd_op_42 (i := 6) yd_by_cX12_init_46 rfl rfl
theorem dX12_init_1296 : decode cX12_init 1296 = .ok (.bipush 6, 2) := yd_op_16 (i := 7) (a := 6) yd_by_cX12_init_46 rfl rfl
theorem dX12_init_1298 : decode cX12_init 1298 = .ok (.newarray .char, 2) := yd_op_188_5 (i := 9) yd_by_cX12_init_46 rfl rfl
theorem dX12_init_1300 : decode cX12_init 1300 = .ok (.dup, 1) := yd_op_89 (i := 11) yd_by_cX12_init_46 rfl rfl
theorem dX12_init_1301 : decode cX12_init 1301 = .ok (.iconst 0, 1) := yd_op_3 (i := 12) yd_by_cX12_init_46 rfl rfl
theorem dX12_init_1302 : decode cX12_init 1302 = .ok (.bipush 99, 2) := yd_op_16 (i := 13) (a := 99) yd_by_cX12_init_46 rfl rfl
theorem dX12_init_1304 : decode cX12_init 1304 = .ok (.castore, 1) := yd_op_85 (i := 15) yd_by_cX12_init_46 rfl rfl
theorem dX12_init_1305 : decode cX12_init 1305 = .ok (.dup, 1) := yd_op_89 (i := 16) yd_by_cX12_init_46 rfl rfl
theorem dX12_init_1306 : decode cX12_init 1306 = .ok (.iconst 1, 1) := yd_op_4 (i := 17) yd_by_cX12_init_46 rfl rfl
theorem dX12_init_1307 : decode cX12_init 1307 = .ok (.bipush 114, 2) := yd_op_16 (i := 18) (a := 114) yd_by_cX12_init_46 rfl rfl
theorem dX12_init_1309 : decode cX12_init 1309 = .ok (.castore, 1) := yd_op_85 (i := 20) yd_by_cX12_init_46 rfl rfl
theorem dX12_init_1310 : decode cX12_init 1310 = .ok (.dup, 1) := yd_op_89 (i := 21) yd_by_cX12_init_46 rfl rfl
theorem dX12_init_1311 : decode cX12_init 1311 = .ok (.iconst 2, 1) := yd_op_5 (i := 22) yd_by_cX12_init_46 rfl rfl
theorem dX12_init_1312 : decode cX12_init 1312 = .ok (.bipush 97, 2) := yd_op_16 (i := 23) (a := 97) yd_by_cX12_init_46 rfl rfl
theorem dX12_init_1314 : decode cX12_init 1314 = .ok (.castore, 1) := yd_op_85 (i := 25) yd_by_cX12_init_46 rfl rfl
theorem dX12_init_1315 : decode cX12_init 1315 = .ok (.dup, 1) := yd_op_89 (i := 26) yd_by_cX12_init_46 rfl rfl
theorem dX12_init_1316 : decode cX12_init 1316 = .ok (.iconst 3, 1) := yd_op_6 (i := 27) yd_by_cX12_init_46 rfl rfl
set_option maxRecDepth 100000 in
theorem yd_by_cX12_init_47 : ydk cX12_init 1317 [16, 99, 85, 89, 7, 16, 107, 85, 89, 8, 16, 115, 85, 181, 0, 201, 42, 16, 6, 188, 5, 89, 3, 16, 119, 85, 89, 4] = true := by decide +kernel
theorem dX12_init_1317 : decode cX12_init 1317 = .ok (.bipush 99, 2) := yd_op_16 (i := 0) (a := 99) yd_by_cX12_init_47 rfl rfl
theorem dX12_init_1319 : decode cX12_init 1319 = .ok (.castore, 1) := yd_op_85 (i := 2) yd_by_cX12_init_47 rfl rfl
theorem dX12_init_1320 : decode cX12_init 1320 = .ok (.dup, 1) := yd_op_89 (i := 3) yd_by_cX12_init_47 rfl rfl
theorem dX12_init_1321 : decode cX12_init 1321 = .ok (.iconst 4, 1) := yd_op_7 (i := 4) yd_by_cX12_init_47 rfl rfl
theorem dX12_init_1322 : decode cX12_init 1322 = .ok (.bipush 107, 2) := yd_op_16 (i := 5) (a := 107) yd_by_cX12_init_47 rfl rfl
theorem dX12_init_1324 : decode cX12_init 1324 = .ok (.castore, 1) := yd_op_85 (i := 7) yd_by_cX12_init_47 rfl rfl
theorem dX12_init_1325 : decode cX12_init 1325 = .ok (.dup, 1) := yd_op_89 (i := 8) yd_by_cX12_init_47 rfl rfl
theorem dX12_init_1326 : decode cX12_init 1326 = .ok (.iconst 5, 1) := yd_op_8 (i := 9) yd_by_cX12_init_47 rfl rfl
theorem dX12_init_1327 : decode cX12_init 1327 = .ok (.bipush 115, 2) := yd_op_16 (i := 10) (a := 115) yd_by_cX12_init_47 rfl rfl
theorem dX12_init_1329 : decode cX12_init 1329 = .ok (.castore, 1) := yd_op_85 (i := 12) yd_by_cX12_init_47 rfl rfl
theorem dX12_init_1330 : decode cX12_init 1330 = .ok (.putfield 201, 3) := yd_op_181 (i := 13) (a := 0) (b := 201) yd_by_cX12_init_47 rfl rfl
theorem dX12_init_1333 : decode cX12_init 1333 = .ok (.aload_n 0, 1) := yd_op_42 (i := 16) yd_by_cX12_init_47 rfl rfl
theorem dX12_init_1334 : decode cX12_init 1334 = .ok (.bipush 6, 2) := yd_op_16 (i := 17) (a := 6) yd_by_cX12_init_47 rfl rfl
theorem dX12_init_1336 : decode cX12_init 1336 = .ok (.newarray .char, 2) := yd_op_188_5 (i := 19) yd_by_cX12_init_47 rfl rfl
theorem dX12_init_1338 : decode cX12_init 1338 = .ok (.dup, 1) := yd_op_89 (i := 21) yd_by_cX12_init_47 rfl rfl
theorem dX12_init_1339 : decode cX12_init 1339 = .ok (.iconst 0, 1) := yd_op_3 (i := 22) yd_by_cX12_init_47 rfl rfl
theorem dX12_init_1340 : decode cX12_init 1340 = .ok (.bipush 119, 2) := yd_op_16 (i := 23) (a := 119) yd_by_cX12_init_47 rfl rfl
theorem dX12_init_1342 : decode cX12_init 1342 = .ok (.castore, 1) := yd_op_85 (i := 25) yd_by_cX12_init_47 rfl rfl
theorem dX12_init_1343 : decode cX12_init 1343 = .ok (.dup, 1) := yd_op_89 (i := 26) yd_by_cX12_init_47 rfl rfl
theorem dX12_init_1344 : decode cX12_init 1344 = .ok (.iconst 1, 1) := yd_op_4 (i := 27) yd_by_cX12_init_47 rfl rfl
set_option maxRecDepth 100000 in
theorem yd_by_cX12_init_48 : ydk cX12_init 1345 [16, 101, 85, 89, 5, 16, 105, 85, 89, 6, 16, 103, 85, 89, 7, 16, 104, 85, 89, 8, 16, 116, 85, 181, 0, 204, 42] = true := by decide +kernel
theorem dX12_init_1345 : decode cX12_init 1345 = .ok (.bipush 101, 2) := yd_op_16 (i := 0) (a := 101) yd_by_cX12_init_48 rfl rfl
theorem dX12_init_1347 : decode cX12_init 1347 = .ok (.castore, 1) := yd_op_85 (i := 2) yd_by_cX12_init_48 rfl rfl
theorem dX12_init_1348 : decode cX12_init 1348 = .ok (.dup, 1) := yd_op_89 (i := 3) yd_by_cX12_init_48 rfl rfl
theorem dX12_init_1349 : decode cX12_init 1349 = .ok (.iconst 2, 1) := yd_op_5 (i := 4) yd_by_cX12_init_48 rfl rfl
theorem dX12_init_1350 : decode cX12_init 1350 = .ok (.bipush 105, 2) := yd_op_16 (i := 5) (a := 105) yd_by_cX12_init_48 rfl rfl
theorem dX12_init_1352 : decode cX12_init 1352 = .ok (.castore, 1) := yd_op_85 (i := 7) yd_by_cX12_init_48 rfl rfl
theorem dX12_init_1353 : decode cX12_init 1353 = .ok (.dup, 1) := yd_op_89 (i := 8) yd_by_cX12_init_48 rfl rfl
theorem dX12_init_1354 : decode cX12_init 1354 = .ok (.iconst 3, 1) := yd_op_6 (i := 9) yd_by_cX12_init_48 rfl rfl
theorem dX12_init_1355 : decode cX12_init 1355 = .ok (.bipush 103, 2) := yd_op_16 (i := 10) (a := 103) yd_by_cX12_init_48 rfl rfl
theorem dX12_init_1357 : decode cX12_init 1357 = .ok (.castore, 1) := yd_op_85 (i := 12) yd_by_cX12_init_48 rfl rfl
theorem dX12_init_1358 : decode cX12_init 1358 = .ok (.dup, 1) := yd_op_89 (i := 13) yd_by_cX12_init_48 rfl rfl
theorem dX12_init_1359 : decode cX12_init 1359 = .ok (.iconst 4, 1) := yd_op_7 (i := 14) yd_by_cX12_init_48 rfl rfl
theorem dX12_init_1360 : decode cX12_init 1360 = .ok (.bipush 104, 2) := yd_op_16 (i := 15) (a := 104) yd_by_cX12_init_48 rfl rfl
theorem dX12_init_1362 : decode cX12_init 1362 = .ok (.castore, 1) := yd_op_85 (i := 17) yd_by_cX12_init_48 rfl rfl
theorem dX12_init_1363 : decode cX12_init 1363 = .ok (.dup, 1) := yd_op_89 (i := 18) yd_by_cX12_init_48 rfl rfl
theorem dX12_init_1364 : decode cX12_init 1364 = .ok (.iconst 5, 1) := yd_op_8 (i := 19) yd_by_cX12_init_48 rfl rfl
theorem dX12_init_1365 : decode cX12_init 1365 = .ok (.bipush 116, 2) := yd_op_16 (i := 20) (a := 116) yd_by_cX12_init_48 rfl rfl
theorem dX12_init_1367 : decode cX12_init 1367 = .ok (.castore, 1) := yd_op_85 (i := 22) yd_by_cX12_init_48 rfl rfl
theorem dX12_init_1368 : decode cX12_init 1368 = .ok (.putfield 204, 3) := yd_op_181 (i := 23) (a := 0) (b := 204) yd_by_cX12_init_48 rfl rfl
theorem dX12_init_1371 : decode cX12_init 1371 = .ok (.aload_n 0, 1) := yd_op_42 (i := 26) yd_by_cX12_init_48 rfl rfl
set_option maxRecDepth 100000 in
theorem yd_by_cX12_init_49 : ydk cX12_init 1372 [8, 188, 5, 89, 3, 16, 108, 85, 89, 4, 16, 105, 85, 89, 5, 16, 102, 85, 89, 6, 16, 116, 85, 89, 7] = true := by decide +kernel
theorem dX12_init_1372 : decode cX12_init 1372 = .ok (.iconst 5, 1) := yd_op_8 (i := 0) yd_by_cX12_init_49 rfl rfl
theorem dX12_init_1373 : decode cX12_init 1373 = .ok (.newarray .char, 2) := yd_op_188_5 (i := 1) yd_by_cX12_init_49 rfl rfl
theorem dX12_init_1375 : decode cX12_init 1375 = .ok (.dup, 1) := yd_op_89 (i := 3) yd_by_cX12_init_49 rfl rfl
theorem dX12_init_1376 : decode cX12_init 1376 = .ok (.iconst 0, 1) := yd_op_3 (i := 4) yd_by_cX12_init_49 rfl rfl
theorem dX12_init_1377 : decode cX12_init 1377 = .ok (.bipush 108, 2) := yd_op_16 (i := 5) (a := 108) yd_by_cX12_init_49 rfl rfl
theorem dX12_init_1379 : decode cX12_init 1379 = .ok (.castore, 1) := yd_op_85 (i := 7) yd_by_cX12_init_49 rfl rfl
theorem dX12_init_1380 : decode cX12_init 1380 = .ok (.dup, 1) := yd_op_89 (i := 8) yd_by_cX12_init_49 rfl rfl
theorem dX12_init_1381 : decode cX12_init 1381 = .ok (.iconst 1, 1) := yd_op_4 (i := 9) yd_by_cX12_init_49 rfl rfl
theorem dX12_init_1382 : decode cX12_init 1382 = .ok (.bipush 105, 2) := yd_op_16 (i := 10) (a := 105) yd_by_cX12_init_49 rfl rfl
theorem dX12_init_1384 : decode cX12_init 1384 = .ok (.castore, 1) := yd_op_85 (i := 12) yd_by_cX12_init_49 rfl rfl
theorem dX12_init_1385 : decode cX12_init 1385 = .ok (.dup, 1) := yd_op_89 (i := 13) yd_by_cX12_init_49 rfl rfl
theorem dX12_init_1386 : decode cX12_init 1386 = .ok (.iconst 2, 1) := yd_op_5 (i := 14) yd_by_cX12_init_49 rfl rfl
theorem dX12_init_1387 : decode cX12_init 1387 = .ok (.bipush 102, 2) := yd_op_16 (i := 15) (a := 102) yd_by_cX12_init_49 rfl rfl
theorem dX12_init_1389 : decode cX12_init 1389 = .ok (.castore, 1) := yd_op_85 (i := 17) yd_by_cX12_init_49 rfl rfl
theorem dX12_init_1390 : decode cX12_init 1390 = .ok (.dup, 1) := yd_op_89 (i := 18) yd_by_cX12_init_49 rfl rfl
theorem dX12_init_1391 : decode cX12_init 1391 = .ok (.iconst 3, 1) := yd_op_6 (i := 19) yd_by_cX12_init_49 rfl rfl
theorem dX12_init_1392 : decode cX12_init 1392 = .ok (.bipush 116, 2) := yd_op_16 (i := 20) (a := 116) yd_by_cX12_init_49 rfl rfl
theorem dX12_init_1394 : decode cX12_init 1394 = .ok (.castore, 1) := yd_op_85 (i := 22) yd_by_cX12_init_49 rfl rfl
theorem dX12_init_1395 : decode cX12_init 1395 = .ok (.dup, 1) := yd_op_89 (i := 23) yd_by_cX12_init_49 rfl rfl
theorem dX12_init_1396 : decode cX12_init 1396 = .ok (.iconst 4, 1) := yd_op_7 (i := 24) yd_by_cX12_init_49 rfl rfl
set_option maxRecDepth 100000 in
theorem yd_by_cX12_init_50 : ydk cX12_init 1397 [16, 115, 85, 181, 0, 207, 42, 8, 188, 5, 89, 3, 16, 116, 85, 89, 4, 16, 105, 85, 89, 5, 16, 114, 85, 89, 6] = true := by decide +kernel
theorem dX12_init_1397 : decode cX12_init 1397 = .ok (.bipush 115, 2) := yd_op_16 (i := 0) (a := 115) yd_by_cX12_init_50 rfl rfl
theorem dX12_init_1399 : decode cX12_init 1399 = .ok (.castore, 1) := yd_op_85 (i := 2) yd_by_cX12_init_50 rfl rfl
theorem dX12_init_1400 : decode cX12_init 1400 = .ok (.putfield 207, 3) := yd_op_181 (i := 3) (a := 0) (b := 207) yd_by_cX12_init_50 rfl rfl
theorem dX12_init_1403 : decode cX12_init 1403 = .ok (.aload_n 0, 1) := yd_op_42 (i := 6) yd_by_cX12_init_50 rfl rfl
theorem dX12_init_1404 : decode cX12_init 1404 = .ok (.iconst 5, 1) := yd_op_8 (i := 7) yd_by_cX12_init_50 rfl rfl
theorem dX12_init_1405 : decode cX12_init 1405 = .ok (.newarray .char, 2) := yd_op_188_5 (i := 8) yd_by_cX12_init_50 rfl rfl
theorem dX12_init_1407 : decode cX12_init 1407 = .ok (.dup, 1) := yd_op_89 (i := 10) yd_by_cX12_init_50 rfl rfl
theorem dX12_init_1408 : decode cX12_init 1408 = .ok (.iconst 0, 1) := yd_op_3 (i := 11) yd_by_cX12_init_50 rfl rfl
theorem dX12_init_1409 : decode cX12_init 1409 = .ok (.bipush 116, 2) := yd_op_16 (i := 12) (a := 116) yd_by_cX12_init_50 rfl rfl
theorem dX12_init_1411 : decode cX12_init 1411 = .ok (.castore, 1) := yd_op_85 (i := 14) yd_by_cX12_init_50 rfl rfl
theorem dX12_init_1412 : decode cX12_init 1412 = .ok (.dup, 1) := yd_op_89 (i := 15) yd_by_cX12_init_50 rfl rfl
theorem dX12_init_1413 : decode cX12_init 1413 = .ok (.iconst 1, 1) := yd_op_4 (i := 16) yd_by_cX12_init_50 rfl rfl
theorem dX12_init_1414 : decode cX12_init 1414 = .ok (.bipush 105, 2) := yd_op_16 (i := 17) (a := 105) yd_by_cX12_init_50 rfl rfl
theorem dX12_init_1416 : decode cX12_init 1416 = .ok (.castore, 1) := yd_op_85 (i := 19) yd_by_cX12_init_50 rfl rfl
theorem dX12_init_1417 : decode cX12_init 1417 = .ok (.dup, 1) := yd_op_89 (i := 20) yd_by_cX12_init_50 rfl rfl
theorem dX12_init_1418 : decode cX12_init 1418 = .ok (.iconst 2, 1) := yd_op_5 (i := 21) yd_by_cX12_init_50 rfl rfl
theorem dX12_init_1419 : decode cX12_init 1419 = .ok (.bipush 114, 2) := yd_op_16 (i := 22) (a := 114) yd_by_cX12_init_50 rfl rfl
theorem dX12_init_1421 : decode cX12_init 1421 = .ok (.castore, 1) := yd_op_85 (i := 24) yd_by_cX12_init_50 rfl rfl
theorem dX12_init_1422 : decode cX12_init 1422 = .ok (.dup, 1) := yd_op_89 (i := 25) yd_by_cX12_init_50 rfl rfl
theorem dX12_init_1423 : decode cX12_init 1423 = .ok (.iconst 3, 1) := yd_op_6 (i := 26) yd_by_cX12_init_50 rfl rfl
set_option maxRecDepth 100000 in
theorem yd_by_cX12_init_51 : ydk cX12_init 1424 [16, 101, 85, 89, 7, 16, 100, 85, 181, 0, 210, 42, 7, 188, 5, 89, 3, 16, 110, 85, 89, 4, 16, 101, 85, 89, 5] = true := by decide +kernel
theorem dX12_init_1424 : decode cX12_init 1424 = .ok (.bipush 101, 2) := yd_op_16 (i := 0) (a := 101) yd_by_cX12_init_51 rfl rfl
theorem dX12_init_1426 : decode cX12_init 1426 = .ok (.castore, 1) := yd_op_85 (i := 2) yd_by_cX12_init_51 rfl rfl
theorem dX12_init_1427 : decode cX12_init 1427 = .ok (.dup, 1) := yd_op_89 (i := 3) yd_by_cX12_init_51 rfl rfl
theorem dX12_init_1428 : decode cX12_init 1428 = .ok (.iconst 4, 1) := yd_op_7 (i := 4) yd_by_cX12_init_51 rfl rfl
theorem dX12_init_1429 : decode cX12_init 1429 = .ok (.bipush 100, 2) := yd_op_16 (i := 5) (a := 100) yd_by_cX12_init_51 rfl rfl
theorem dX12_init_1431 : decode cX12_init 1431 = .ok (.castore, 1) := yd_op_85 (i := 7) yd_by_cX12_init_51 rfl rfl
theorem dX12_init_1432 : decode cX12_init 1432 = .ok (.putfield 210, 3) := yd_op_181 (i := 8) (a := 0) (b := 210) yd_by_cX12_init_51 rfl rfl
theorem dX12_init_1435 : decode cX12_init 1435 = .ok (.aload_n 0, 1) := yd_op_42 (i := 11) yd_by_cX12_init_51 rfl rfl
theorem dX12_init_1436 : decode cX12_init 1436 = .ok (.iconst 4, 1) := yd_op_7 (i := 12) yd_by_cX12_init_51 rfl rfl
theorem dX12_init_1437 : decode cX12_init 1437 = .ok (.newarray .char, 2) := yd_op_188_5 (i := 13) yd_by_cX12_init_51 rfl rfl
theorem dX12_init_1439 : decode cX12_init 1439 = .ok (.dup, 1) := yd_op_89 (i := 15) yd_by_cX12_init_51 rfl rfl
theorem dX12_init_1440 : decode cX12_init 1440 = .ok (.iconst 0, 1) := yd_op_3 (i := 16) yd_by_cX12_init_51 rfl rfl
theorem dX12_init_1441 : decode cX12_init 1441 = .ok (.bipush 110, 2) := yd_op_16 (i := 17) (a := 110) yd_by_cX12_init_51 rfl rfl
theorem dX12_init_1443 : decode cX12_init 1443 = .ok (.castore, 1) := yd_op_85 (i := 19) yd_by_cX12_init_51 rfl rfl
theorem dX12_init_1444 : decode cX12_init 1444 = .ok (.dup, 1) := yd_op_89 (i := 20) yd_by_cX12_init_51 rfl rfl
theorem dX12_init_1445 : decode cX12_init 1445 = .ok (.iconst 1, 1) := yd_op_4 (i := 21) yd_by_cX12_init_51 rfl rfl
theorem dX12_init_1446 : decode cX12_init 1446 = .ok (.bipush 101, 2) := yd_op_16 (i := 22) (a := 101) yd_by_cX12_init_51 rfl rfl
theorem dX12_init_1448 : decode cX12_init 1448 = .ok (.castore, 1) := yd_op_85 (i := 24) yd_by_cX12_init_51 rfl rfl
theorem dX12_init_1449 : decode cX12_init 1449 = .ok (.dup, 1) := yd_op_89 (i := 25) yd_by_cX12_init_51 rfl rfl
theorem dX12_init_1450 : decode cX12_init 1450 = .ok (.iconst 2, 1) := yd_op_5 (i := 26) yd_by_cX12_init_51 rfl rfl
set_option maxRecDepth 100000 in
theorem yd_by_cX12_init_52 : ydk cX12_init 1451 [16, 97, 85, 89, 6, 16, 114, 85, 181, 0, 213, 42, 16, 6, 188, 5, 89, 3, 16, 110, 85, 89, 4, 16, 117, 85, 89, 5] = true := by decide +kernel
theorem dX12_init_1451 : decode cX12_init 1451 = .ok (.bipush 97, 2) := yd_op_16 (i := 0) (a := 97) yd_by_cX12_init_52 rfl rfl
theorem dX12_init_1453 : decode cX12_init 1453 = .ok (.castore, 1) := yd_op_85 (i := 2) yd_by_cX12_init_52 rfl rfl
theorem dX12_init_1454 : decode cX12_init 1454 = .ok (.dup, 1) := yd_op_89 (i := 3) yd_by_cX12_init_52 rfl rfl
theorem dX12_init_1455 : decode cX12_init 1455 = .ok (.iconst 3, 1) := yd_op_6 (i := 4) yd_by_cX12_init_52 rfl rfl
theorem dX12_init_1456 : decode cX12_init 1456 = .ok (.bipush 114, 2) := yd_op_16 (i := 5) (a := 114) yd_by_cX12_init_52 rfl rfl
theorem dX12_init_1458 : decode cX12_init 1458 = .ok (.castore, 1) := yd_op_85 (i := 7) yd_by_cX12_init_52 rfl rfl
theorem dX12_init_1459 : decode cX12_init 1459 = .ok (.putfield 213, 3) := yd_op_181 (i := 8) (a := 0) (b := 213) yd_by_cX12_init_52 rfl rfl
theorem dX12_init_1462 : decode cX12_init 1462 = .ok (.aload_n 0, 1) := yd_op_42 (i := 11) yd_by_cX12_init_52 rfl rfl
theorem dX12_init_1463 : decode cX12_init 1463 = .ok (.bipush 6, 2) := yd_op_16 (i := 12) (a := 6) yd_by_cX12_init_52 rfl rfl
theorem dX12_init_1465 : decode cX12_init 1465 = .ok (.newarray .char, 2) := yd_op_188_5 (i := 14) yd_by_cX12_init_52 rfl rfl
theorem dX12_init_1467 : decode cX12_init 1467 = .ok (.dup, 1) := yd_op_89 (i := 16) yd_by_cX12_init_52 rfl rfl
theorem dX12_init_1468 : decode cX12_init 1468 = .ok (.iconst 0, 1) := yd_op_3 (i := 17) yd_by_cX12_init_52 rfl rfl
theorem dX12_init_1469 : decode cX12_init 1469 = .ok (.bipush 110, 2) := yd_op_16 (i := 18) (a := 110) yd_by_cX12_init_52 rfl rfl
theorem dX12_init_1471 : decode cX12_init 1471 = .ok (.castore, 1) := yd_op_85 (i := 20) yd_by_cX12_init_52 rfl rfl
theorem dX12_init_1472 : decode cX12_init 1472 = .ok (.dup, 1) := yd_op_89 (i := 21) yd_by_cX12_init_52 rfl rfl
theorem dX12_init_1473 : decode cX12_init 1473 = .ok (.iconst 1, 1) := yd_op_4 (i := 22) yd_by_cX12_init_52 rfl rfl
theorem dX12_init_1474 : decode cX12_init 1474 = .ok (.bipush 117, 2) := yd_op_16 (i := 23) (a := 117) yd_by_cX12_init_52 rfl rfl
theorem dX12_init_1476 : decode cX12_init 1476 = .ok (.castore, 1) := yd_op_85 (i := 25) yd_by_cX12_init_52 rfl rfl
theorem dX12_init_1477 : decode cX12_init 1477 = .ok (.dup, 1) := yd_op_89 (i := 26) yd_by_cX12_init_52 rfl rfl
theorem dX12_init_1478 : decode cX12_init 1478 = .ok (.iconst 2, 1) := yd_op_5 (i := 27) yd_by_cX12_init_52 rfl rfl
set_option maxRecDepth 100000 in
theorem yd_by_cX12_init_53 : ydk cX12_init 1479 [16, 109, 85, 89, 6, 16, 98, 85, 89, 7, 16, 101, 85, 89, 8, 16, 114, 85, 181, 0, 216, 42, 16, 6, 188, 5, 89, 3] = true := by decide +kernel
theorem dX12_init_1479 : decode cX12_init 1479 = .ok (.bipush 109, 2) := yd_op_16 (i := 0) (a := 109) yd_by_cX12_init_53 rfl rfl
theorem dX12_init_1481 : decode cX12_init 1481 = .ok (.castore, 1) := yd_op_85 (i := 2) yd_by_cX12_init_53 rfl rfl
theorem dX12_init_1482 : decode cX12_init 1482 = .ok (.dup, 1) := yd_op_89 (i := 3) yd_by_cX12_init_53 rfl rfl
theorem dX12_init_1483 : decode cX12_init 1483 = .ok (.iconst 3, 1) := yd_op_6 (i := 4) yd_by_cX12_init_53 rfl rfl
theorem dX12_init_1484 : decode cX12_init 1484 = .ok (.bipush 98, 2) := yd_op_16 (i := 5) (a := 98) yd_by_cX12_init_53 rfl rfl
theorem dX12_init_1486 : decode cX12_init 1486 = .ok (.castore, 1) := yd_op_85 (i := 7) yd_by_cX12_init_53 rfl rfl
theorem dX12_init_1487 : decode cX12_init 1487 = .ok (.dup, 1) := yd_op_89 (i := 8) yd_by_cX12_init_53 rfl rfl
theorem dX12_init_1488 : decode cX12_init 1488 = .ok (.iconst 4, 1) := yd_op_7 (i := 9) yd_by_cX12_init_53 rfl rfl
theorem dX12_init_1489 : decode cX12_init 1489 = .ok (.bipush 101, 2) := yd_op_16 (i := 10) (a := 101) yd_by_cX12_init_53 rfl rfl
theorem dX12_init_1491 : decode cX12_init 1491 = .ok (.castore, 1) := yd_op_85 (i := 12) yd_by_cX12_init_53 rfl rfl
theorem dX12_init_1492 : decode cX12_init 1492 = .ok (.dup, 1) := yd_op_89 (i := 13) yd_by_cX12_init_53 rfl rfl
theorem dX12_init_1493 : decode cX12_init 1493 = .ok (.iconst 5, 1) := yd_op_8 (i := 14) yd_by_cX12_init_53 rfl rfl
theorem dX12_init_1494 : decode cX12_init 1494 = .ok (.bipush 114, 2) := yd_op_16 (i := 15) (a := 114) yd_by_cX12_init_53 rfl rfl
theorem dX12_init_1496 : decode cX12_init 1496 = .ok (.castore, 1) := yd_op_85 (i := 17) yd_by_cX12_init_53 rfl rfl
theorem dX12_init_1497 : decode cX12_init 1497 = .ok (.putfield 216, 3) := yd_op_181 (i := 18) (a := 0) (b := 216) yd_by_cX12_init_53 rfl rfl
theorem dX12_init_1500 : decode cX12_init 1500 = .ok (.aload_n 0, 1) := yd_op_42 (i := 21) yd_by_cX12_init_53 rfl rfl
theorem dX12_init_1501 : decode cX12_init 1501 = .ok (.bipush 6, 2) := yd_op_16 (i := 22) (a := 6) yd_by_cX12_init_53 rfl rfl
theorem dX12_init_1503 : decode cX12_init 1503 = .ok (.newarray .char, 2) := yd_op_188_5 (i := 24) yd_by_cX12_init_53 rfl rfl
theorem dX12_init_1505 : decode cX12_init 1505 = .ok (.dup, 1) := yd_op_89 (i := 26) yd_by_cX12_init_53 rfl rfl
theorem dX12_init_1506 : decode cX12_init 1506 = .ok (.iconst 0, 1) := yd_op_3 (i := 27) yd_by_cX12_init_53 rfl rfl
set_option maxRecDepth 100000 in
theorem yd_by_cX12_init_54 : ydk cX12_init 1507 [16, 99, 85, 89, 4, 16, 111, 85, 89, 5, 16, 108, 85, 89, 6, 16, 117, 85, 89, 7, 16, 109, 85, 89, 8] = true := by decide +kernel
theorem dX12_init_1507 : decode cX12_init 1507 = .ok (.bipush 99, 2) := yd_op_16 (i := 0) (a := 99) yd_by_cX12_init_54 rfl rfl
theorem dX12_init_1509 : decode cX12_init 1509 = .ok (.castore, 1) := yd_op_85 (i := 2) yd_by_cX12_init_54 rfl rfl
theorem dX12_init_1510 : decode cX12_init 1510 = .ok (.dup, 1) := yd_op_89 (i := 3) yd_by_cX12_init_54 rfl rfl
theorem dX12_init_1511 : decode cX12_init 1511 = .ok (.iconst 1, 1) := yd_op_4 (i := 4) yd_by_cX12_init_54 rfl rfl
theorem dX12_init_1512 : decode cX12_init 1512 = .ok (.bipush 111, 2) := yd_op_16 (i := 5) (a := 111) yd_by_cX12_init_54 rfl rfl
theorem dX12_init_1514 : decode cX12_init 1514 = .ok (.castore, 1) := yd_op_85 (i := 7) yd_by_cX12_init_54 rfl rfl
theorem dX12_init_1515 : decode cX12_init 1515 = .ok (.dup, 1) := yd_op_89 (i := 8) yd_by_cX12_init_54 rfl rfl
theorem dX12_init_1516 : decode cX12_init 1516 = .ok (.iconst 2, 1) := yd_op_5 (i := 9) yd_by_cX12_init_54 rfl rfl
theorem dX12_init_1517 : decode cX12_init 1517 = .ok (.bipush 108, 2) := yd_op_16 (i := 10) (a := 108) yd_by_cX12_init_54 rfl rfl
theorem dX12_init_1519 : decode cX12_init 1519 = .ok (.castore, 1) := yd_op_85 (i := 12) yd_by_cX12_init_54 rfl rfl
theorem dX12_init_1520 : decode cX12_init 1520 = .ok (.dup, 1) := yd_op_89 (i := 13) yd_by_cX12_init_54 rfl rfl
theorem dX12_init_1521 : decode cX12_init 1521 = .ok (.iconst 3, 1) := yd_op_6 (i := 14) yd_by_cX12_init_54 rfl rfl
theorem dX12_init_1522 : decode cX12_init 1522 = .ok (.bipush 117, 2) := yd_op_16 (i := 15) (a := 117) yd_by_cX12_init_54 rfl rfl
theorem dX12_init_1524 : decode cX12_init 1524 = .ok (.castore, 1) := yd_op_85 (i := 17) yd_by_cX12_init_54 rfl rfl
theorem dX12_init_1525 : decode cX12_init 1525 = .ok (.dup, 1) := yd_op_89 (i := 18) yd_by_cX12_init_54 rfl rfl
theorem dX12_init_1526 : decode cX12_init 1526 = .ok (.iconst 4, 1) := yd_op_7 (i := 19) yd_by_cX12_init_54 rfl rfl
theorem dX12_init_1527 : decode cX12_init 1527 = .ok (.bipush 109, 2) := yd_op_16 (i := 20) (a := 109) yd_by_cX12_init_54 rfl rfl
theorem dX12_init_1529 : decode cX12_init 1529 = .ok (.castore, 1) := yd_op_85 (i := 22) yd_by_cX12_init_54 rfl rfl
theorem dX12_init_1530 : decode cX12_init 1530 = .ok (.dup, 1) := yd_op_89 (i := 23) yd_by_cX12_init_54 rfl rfl
theorem dX12_init_1531 : decode cX12_init 1531 = .ok (.iconst 5, 1) := yd_op_8 (i := 24) yd_by_cX12_init_54 rfl rfl
set_option maxRecDepth 100000 in
theorem yd_by_cX12_init_55 : ydk cX12_init 1532 [16, 110, 85, 181, 0, 219, 42, 6, 188, 5, 89, 3, 16, 114, 85, 89, 4, 16, 111, 85, 89, 5, 16, 119, 85, 181, 0, 222, 42] = true := by decide +kernel
theorem dX12_init_1532 : decode cX12_init 1532 = .ok (.bipush 110, 2) := yd_op_16 (i := 0) (a := 110) yd_by_cX12_init_55 rfl rfl
theorem dX12_init_1534 : decode cX12_init 1534 = .ok (.castore, 1) := yd_op_85 (i := 2) yd_by_cX12_init_55 rfl rfl
theorem dX12_init_1535 : decode cX12_init 1535 = .ok (.putfield 219, 3) := yd_op_181 (i := 3) (a := 0) (b := 219) yd_by_cX12_init_55 rfl rfl
theorem dX12_init_1538 : decode cX12_init 1538 = .ok (.aload_n 0, 1) := yd_op_42 (i := 6) yd_by_cX12_init_55 rfl rfl
theorem dX12_init_1539 : decode cX12_init 1539 = .ok (.iconst 3, 1) := yd_op_6 (i := 7) yd_by_cX12_init_55 rfl rfl
theorem dX12_init_1540 : decode cX12_init 1540 = .ok (.newarray .char, 2) := yd_op_188_5 (i := 8) yd_by_cX12_init_55 rfl rfl
theorem dX12_init_1542 : decode cX12_init 1542 = .ok (.dup, 1) := yd_op_89 (i := 10) yd_by_cX12_init_55 rfl rfl
theorem dX12_init_1543 : decode cX12_init 1543 = .ok (.iconst 0, 1) := yd_op_3 (i := 11) yd_by_cX12_init_55 rfl rfl
theorem dX12_init_1544 : decode cX12_init 1544 = .ok (.bipush 114, 2) := yd_op_16 (i := 12) (a := 114) yd_by_cX12_init_55 rfl rfl
theorem dX12_init_1546 : decode cX12_init 1546 = .ok (.castore, 1) := yd_op_85 (i := 14) yd_by_cX12_init_55 rfl rfl
theorem dX12_init_1547 : decode cX12_init 1547 = .ok (.dup, 1) := yd_op_89 (i := 15) yd_by_cX12_init_55 rfl rfl
theorem dX12_init_1548 : decode cX12_init 1548 = .ok (.iconst 1, 1) := yd_op_4 (i := 16) yd_by_cX12_init_55 rfl rfl
theorem dX12_init_1549 : decode cX12_init 1549 = .ok (.bipush 111, 2) := yd_op_16 (i := 17) (a := 111) yd_by_cX12_init_55 rfl rfl
theorem dX12_init_1551 : decode cX12_init 1551 = .ok (.castore, 1) := yd_op_85 (i := 19) yd_by_cX12_init_55 rfl rfl
theorem dX12_init_1552 : decode cX12_init 1552 = .ok (.dup, 1) := yd_op_89 (i := 20) yd_by_cX12_init_55 rfl rfl
theorem dX12_init_1553 : decode cX12_init 1553 = .ok (.iconst 2, 1) := yd_op_5 (i := 21) yd_by_cX12_init_55 rfl rfl
theorem dX12_init_1554 : decode cX12_init 1554 = .ok (.bipush 119, 2) := yd_op_16 (i := 22) (a := 119) yd_by_cX12_init_55 rfl rfl
theorem dX12_init_1556 : decode cX12_init 1556 = .ok (.castore, 1) := yd_op_85 (i := 24) yd_by_cX12_init_55 rfl rfl
theorem dX12_init_1557 : decode cX12_init 1557 = .ok (.putfield 222, 3) := yd_op_181 (i := 25) (a := 0) (b := 222) yd_by_cX12_init_55 rfl rfl
theorem dX12_init_1560 : decode cX12_init 1560 = .ok (.aload_n 0, 1) := yd_op_42 (i := 28) yd_by_cX12_init_55 rfl rfl
set_option maxRecDepth 100000 in
theorem yd_by_cX12_init_56 : ydk cX12_init 1561 [8, 188, 5, 89, 3, 16, 104, 85, 89, 4, 16, 111, 85, 89, 5, 16, 108, 85, 89, 6, 16, 100, 85, 89, 7] = true := by decide +kernel
theorem dX12_init_1561 : decode cX12_init 1561 = .ok (.iconst 5, 1) := yd_op_8 (i := 0) yd_by_cX12_init_56 rfl rfl
theorem dX12_init_1562 : decode cX12_init 1562 = .ok (.newarray .char, 2) := yd_op_188_5 (i := 1) yd_by_cX12_init_56 rfl rfl
theorem dX12_init_1564 : decode cX12_init 1564 = .ok (.dup, 1) := yd_op_89 (i := 3) yd_by_cX12_init_56 rfl rfl
theorem dX12_init_1565 : decode cX12_init 1565 = .ok (.iconst 0, 1) := yd_op_3 (i := 4) yd_by_cX12_init_56 rfl rfl
theorem dX12_init_1566 : decode cX12_init 1566 = .ok (.bipush 104, 2) := yd_op_16 (i := 5) (a := 104) yd_by_cX12_init_56 rfl rfl
theorem dX12_init_1568 : decode cX12_init 1568 = .ok (.castore, 1) := yd_op_85 (i := 7) yd_by_cX12_init_56 rfl rfl
theorem dX12_init_1569 : decode cX12_init 1569 = .ok (.dup, 1) := yd_op_89 (i := 8) yd_by_cX12_init_56 rfl rfl
theorem dX12_init_1570 : decode cX12_init 1570 = .ok (.iconst 1, 1) := yd_op_4 (i := 9) yd_by_cX12_init_56 rfl rfl
theorem dX12_init_1571 : decode cX12_init 1571 = .ok (.bipush 111, 2) := yd_op_16 (i := 10) (a := 111) yd_by_cX12_init_56 rfl rfl
theorem dX12_init_1573 : decode cX12_init 1573 = .ok (.castore, 1) := yd_op_85 (i := 12) yd_by_cX12_init_56 rfl rfl
theorem dX12_init_1574 : decode cX12_init 1574 = .ok (.dup, 1) := yd_op_89 (i := 13) yd_by_cX12_init_56 rfl rfl
theorem dX12_init_1575 : decode cX12_init 1575 = .ok (.iconst 2, 1) := yd_op_5 (i := 14) yd_by_cX12_init_56 rfl rfl
theorem dX12_init_1576 : decode cX12_init 1576 = .ok (.bipush 108, 2) := yd_op_16 (i := 15) (a := 108) yd_by_cX12_init_56 rfl rfl
theorem dX12_init_1578 : decode cX12_init 1578 = .ok (.castore, 1) := yd_op_85 (i := 17) yd_by_cX12_init_56 rfl rfl
theorem dX12_init_1579 : decode cX12_init 1579 = .ok (.dup, 1) := yd_op_89 (i := 18) yd_by_cX12_init_56 rfl rfl
theorem dX12_init_1580 : decode cX12_init 1580 = .ok (.iconst 3, 1) := yd_op_6 (i := 19) yd_by_cX12_init_56 rfl rfl
theorem dX12_init_1581 : decode cX12_init 1581 = .ok (.bipush 100, 2) := yd_op_16 (i := 20) (a := 100) yd_by_cX12_init_56 rfl rfl
theorem dX12_init_1583 : decode cX12_init 1583 = .ok (.castore, 1) := yd_op_85 (i := 22) yd_by_cX12_init_56 rfl rfl
theorem dX12_init_1584 : decode cX12_init 1584 = .ok (.dup, 1) := yd_op_89 (i := 23) yd_by_cX12_init_56 rfl rfl
theorem dX12_init_1585 : decode cX12_init 1585 = .ok (.iconst 4, 1) := yd_op_7 (i := 24) yd_by_cX12_init_56 rfl rfl
set_option maxRecDepth 100000 in
theorem yd_by_cX12_init_57 : ydk cX12_init 1586 [16, 115, 85, 181, 0, 225, 42, 6, 188, 5, 89, 3, 16, 102, 85, 89, 4, 16, 97, 85, 89, 5, 16, 114, 85, 181, 0, 228, 42] = true := by decide +kernel
theorem dX12_init_1586 : decode cX12_init 1586 = .ok (.bipush 115, 2) := yd_op_16 (i := 0) (a := 115) yd_by_cX12_init_57 rfl rfl
theorem dX12_init_1588 : decode cX12_init 1588 = .ok (.castore, 1) := yd_op_85 (i := 2) yd_by_cX12_init_57 rfl rfl
theorem dX12_init_1589 : decode cX12_init 1589 = .ok (.putfield 225, 3) := yd_op_181 (i := 3) (a := 0) (b := 225) yd_by_cX12_init_57 rfl rfl
theorem dX12_init_1592 : decode cX12_init 1592 = .ok (.aload_n 0, 1) := yd_op_42 (i := 6) yd_by_cX12_init_57 rfl rfl
theorem dX12_init_1593 : decode cX12_init 1593 = .ok (.iconst 3, 1) := yd_op_6 (i := 7) yd_by_cX12_init_57 rfl rfl
theorem dX12_init_1594 : decode cX12_init 1594 = .ok (.newarray .char, 2) := yd_op_188_5 (i := 8) yd_by_cX12_init_57 rfl rfl
theorem dX12_init_1596 : decode cX12_init 1596 = .ok (.dup, 1) := yd_op_89 (i := 10) yd_by_cX12_init_57 rfl rfl
theorem dX12_init_1597 : decode cX12_init 1597 = .ok (.iconst 0, 1) := yd_op_3 (i := 11) yd_by_cX12_init_57 rfl rfl
theorem dX12_init_1598 : decode cX12_init 1598 = .ok (.bipush 102, 2) := yd_op_16 (i := 12) (a := 102) yd_by_cX12_init_57 rfl rfl
theorem dX12_init_1600 : decode cX12_init 1600 = .ok (.castore, 1) := yd_op_85 (i := 14) yd_by_cX12_init_57 rfl rfl
theorem dX12_init_1601 : decode cX12_init 1601 = .ok (.dup, 1) := yd_op_89 (i := 15) yd_by_cX12_init_57 rfl rfl
theorem dX12_init_1602 : decode cX12_init 1602 = .ok (.iconst 1, 1) := yd_op_4 (i := 16) yd_by_cX12_init_57 rfl rfl
theorem dX12_init_1603 : decode cX12_init 1603 = .ok (.bipush 97, 2) := yd_op_16 (i := 17) (a := 97) yd_by_cX12_init_57 rfl rfl
theorem dX12_init_1605 : decode cX12_init 1605 = .ok (.castore, 1) := yd_op_85 (i := 19) yd_by_cX12_init_57 rfl rfl
theorem dX12_init_1606 : decode cX12_init 1606 = .ok (.dup, 1) := yd_op_89 (i := 20) yd_by_cX12_init_57 rfl rfl
theorem dX12_init_1607 : decode cX12_init 1607 = .ok (.iconst 2, 1) := yd_op_5 (i := 21) yd_by_cX12_init_57 rfl rfl
theorem dX12_init_1608 : decode cX12_init 1608 = .ok (.bipush 114, 2) := yd_op_16 (i := 22) (a := 114) yd_by_cX12_init_57 rfl rfl
theorem dX12_init_1610 : decode cX12_init 1610 = .ok (.castore, 1) := yd_op_85 (i := 24) yd_by_cX12_init_57 rfl rfl
theorem dX12_init_1611 : decode cX12_init 1611 = .ok (.putfield 228, 3) := yd_op_181 (i := 25) (a := 0) (b := 228) yd_by_cX12_init_57 rfl rfl
theorem dX12_init_1614 : decode cX12_init 1614 = .ok (.aload_n 0, 1) := yd_op_42 (i := 28) yd_by_cX12_init_57 rfl rfl
set_option maxRecDepth 100000 in
theorem yd_by_cX12_init_58 : ydk cX12_init 1615 [17, 6, 164, 188, 10, 181, 0, 231, 42, 17, 6, 164, 188, 10, 181, 0, 234, 42, 17, 6, 164, 188, 11, 181, 0, 237, 42, 16, 79, 188, 10, 181, 0, 240, 177] = true := by decide +kernel
theorem dX12_init_1615 : decode cX12_init 1615 = .ok (.sipush 1700, 3) := yd_op_17 (i := 0) (a := 6) (b := 164) yd_by_cX12_init_58 rfl rfl
theorem dX12_init_1618 : decode cX12_init 1618 = .ok (.newarray .int, 2) := yd_op_188_10 (i := 3) yd_by_cX12_init_58 rfl rfl
theorem dX12_init_1620 : decode cX12_init 1620 = .ok (.putfield 231, 3) := yd_op_181 (i := 5) (a := 0) (b := 231) yd_by_cX12_init_58 rfl rfl
theorem dX12_init_1623 : decode cX12_init 1623 = .ok (.aload_n 0, 1) := yd_op_42 (i := 8) yd_by_cX12_init_58 rfl rfl
theorem dX12_init_1624 : decode cX12_init 1624 = .ok (.sipush 1700, 3) := yd_op_17 (i := 9) (a := 6) (b := 164) yd_by_cX12_init_58 rfl rfl
theorem dX12_init_1627 : decode cX12_init 1627 = .ok (.newarray .int, 2) := yd_op_188_10 (i := 12) yd_by_cX12_init_58 rfl rfl
theorem dX12_init_1629 : decode cX12_init 1629 = .ok (.putfield 234, 3) := yd_op_181 (i := 14) (a := 0) (b := 234) yd_by_cX12_init_58 rfl rfl
theorem dX12_init_1632 : decode cX12_init 1632 = .ok (.aload_n 0, 1) := yd_op_42 (i := 17) yd_by_cX12_init_58 rfl rfl
theorem dX12_init_1633 : decode cX12_init 1633 = .ok (.sipush 1700, 3) := yd_op_17 (i := 18) (a := 6) (b := 164) yd_by_cX12_init_58 rfl rfl
theorem dX12_init_1636 : decode cX12_init 1636 = .ok (.newarray .long, 2) := yd_op_188_11 (i := 21) yd_by_cX12_init_58 rfl rfl
theorem dX12_init_1638 : decode cX12_init 1638 = .ok (.putfield 237, 3) := yd_op_181 (i := 23) (a := 0) (b := 237) yd_by_cX12_init_58 rfl rfl
theorem dX12_init_1641 : decode cX12_init 1641 = .ok (.aload_n 0, 1) := yd_op_42 (i := 26) yd_by_cX12_init_58 rfl rfl
theorem dX12_init_1642 : decode cX12_init 1642 = .ok (.bipush 79, 2) := yd_op_16 (i := 27) (a := 79) yd_by_cX12_init_58 rfl rfl
theorem dX12_init_1644 : decode cX12_init 1644 = .ok (.newarray .int, 2) := yd_op_188_10 (i := 29) yd_by_cX12_init_58 rfl rfl
theorem dX12_init_1646 : decode cX12_init 1646 = .ok (.putfield 240, 3) := yd_op_181 (i := 31) (a := 0) (b := 240) yd_by_cX12_init_58 rfl rfl
theorem dX12_init_1649 : decode cX12_init 1649 = .ok (.return_, 1) := yd_op_177 (i := 34) yd_by_cX12_init_58 rfl rfl
