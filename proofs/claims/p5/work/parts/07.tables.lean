abbrev zcl : List vw_C := [(RX0, TX0, 4), (RX1, TX1, 3), (RX2, TX2, 3), (RX3, TX3, 17), (RX4, TX4, 2), (RX5, TX5, 9), (RX6, TX6, 14), (RX7, TX7, 7), (RX8, TX8, 3), (RX9, TX9, 2), (RX10, TX10, 8), (RX11, TX11, 17), (RX12, TX12, 108)]
def zft (c : Nat) : Nat → FieldType := match c with
  | 0 => tyX0
  | 1 => tyX1
  | 2 => tyX2
  | 3 => tyX3
  | 4 => tyX4
  | 5 => tyX5
  | 6 => tyX6
  | 7 => tyX7
  | 8 => tyX8
  | 9 => tyX9
  | 10 => tyX10
  | 11 => tyX11
  | _ => tyX12
def zrsl : List (Nat ⊕ (Nat × Nat)) := [.inr (0, 0), .inl 11, .inl 9, .inr (1, 1600), .inl 9, .inr (1, 80), .inl 4, .inr (0, 1600), .inl 3, .inr (0, 36), .inr (0, 10), .inr (0, 10), .inr (0, 10), .inr (0, 10), .inl 5, .inr (0, 33), .inr (0, 1601), .inr (0, 1601), .inr (0, 1601), .inr (0, 1601), .inl 1, .inl 8, .inl 10, .inr (0, 10), .inr (0, 10), .inr (0, 10), .inr (0, 40), .inl 2, .inr (5, 20), .inl 7, .inr (2, 1024), .inr (0, 1024), .inr (0, 991), .inr (0, 12), .inr (0, 12), .inl 6, .inl 0, .inr (0, 33), .inr (0, 40), .inr (0, 10), .inr (0, 360), .inr (0, 10), .inr (0, 36), .inr (0, 36), .inr (0, 36), .inr (0, 6), .inl 12, .inr (0, 1600), .inr (0, 6), .inr (3, 4), .inr (3, 2), .inr (3, 5), .inr (3, 5), .inr (3, 4), .inr (3, 2), .inr (3, 5), .inr (3, 4), .inr (3, 5), .inr (3, 5), .inr (3, 5), .inr (3, 4), .inr (3, 4), .inr (3, 6), .inr (3, 6), .inr (3, 5), .inr (3, 4), .inr (3, 6), .inr (3, 6), .inr (3, 3), .inr (3, 3), .inr (3, 2), .inr (3, 3), .inr (3, 3), .inr (3, 3), .inr (3, 3), .inr (3, 3), .inr (0, 6), .inr (0, 2), .inr (4, 20), .inr (0, 72), .inr (0, 40), .inr (0, 6), .inr (0, 4), .inr (0, 4), .inr (0, 3200), .inr (0, 188), .inr (0, 67), .inr (0, 36), .inr (2, 36), .inr (0, 24), .inr (0, 1024), .inr (0, 1000), .inr (0, 3760), .inr (3, 5), .inr (3, 4), .inr (3, 5), .inr (3, 5), .inr (3, 4), .inr (3, 5), .inr (3, 3), .inr (3, 3), .inr (3, 2), .inr (3, 3), .inr (3, 3), .inr (3, 3), .inr (3, 4), .inr (3, 6), .inr (3, 6), .inr (3, 5), .inr (3, 5), .inr (3, 4), .inr (3, 6), .inr (3, 6), .inr (3, 3), .inr (3, 5), .inr (3, 3), .inr (0, 1700), .inr (0, 1700), .inr (4, 1700), .inr (0, 79)]
def zrs (r : Nat) : Nat ⊕ (Nat × Nat) := zrsl.getD r (.inr (0, 0))
abbrev zNC : Nat := 238
abbrev zNK : Nat := 164
def zrol : List Nat := [1, 2, 3, 4, 5, 6, 7, 8, 9, 10, 11, 12, 13, 6, 7, 6, 7, 8, 9, 10, 11, 12, 13, 6, 7, 6, 7, 14, 15, 16, 17, 18, 19, 20, 21, 22, 23, 24, 25, 26, 22, 23, 24, 25, 26, 27, 28, 22, 23, 24, 25, 26, 22, 23, 24, 25, 26, 22, 23, 24, 25, 26, 22, 23, 24, 25, 26, 22, 23, 24, 25, 26, 22, 23, 24, 25, 26, 22, 23, 24, 25, 26, 22, 23, 24, 25, 26, 22, 23, 24, 25, 26, 22, 23, 24, 25, 26, 22, 23, 24, 25, 26, 22, 23, 24, 25, 26, 22, 23, 24, 25, 26, 22, 23, 24, 25, 26, 22, 23, 24, 25, 26, 22, 23, 24, 25, 26, 22, 23, 24, 25, 26, 22, 23, 24, 25, 26, 22, 23, 24, 25, 26, 22, 23, 24, 25, 26, 29, 30, 31, 32, 33, 34, 35, 36, 37, 38, 39, 40, 41, 42, 43, 44, 45, 46, 47, 48, 49, 50, 51, 52, 53, 54, 55, 56, 57, 58, 59, 60, 61, 62, 63, 64, 65, 66, 67, 68, 69, 70, 71, 72, 73, 74, 75, 76, 77, 78, 79, 80, 81, 82, 83, 84, 85, 86, 87, 88, 89, 90, 91, 92, 93, 94, 95, 96, 97, 98, 99, 100, 101, 102, 103, 104, 105, 106, 107, 108, 109, 110, 111, 112, 113, 114, 115, 116, 117, 118, 119]
def zro (k : Nat) : Nat := zrol.getD k 0
theorem zro_lt {k r : Nat} (h : zro k = r) (hr : r ≠ 0) : k < zNC := by
  rcases Nat.lt_or_ge k zNC with q | q
  · exact q
  · exact absurd (h.symm.trans (by unfold zro; rw [List.getD_eq_getElem?_getD, List.getElem?_eq_none (show zrol.length ≤ k from q)]; rfl)) hr
theorem zc_0 : zro 0 = 1 := rfl
theorem zc_1 : zro 1 = 2 := rfl
theorem zc_2 : zro 2 = 3 := rfl
theorem zc_3 : zro 3 = 4 := rfl
theorem zc_4 : zro 4 = 5 := rfl
theorem zc_5 : zro 5 = 6 := rfl
theorem zc_6 : zro 6 = 7 := rfl
theorem zc_7 : zro 7 = 8 := rfl
theorem zc_8 : zro 8 = 9 := rfl
theorem zc_9 : zro 9 = 10 := rfl
theorem zc_10 : zro 10 = 11 := rfl
theorem zc_11 : zro 11 = 12 := rfl
theorem zc_12 : zro 12 = 13 := rfl
theorem zc_13 : zro 13 = 6 := rfl
theorem zc_14 : zro 14 = 7 := rfl
theorem zc_15 : zro 15 = 6 := rfl
theorem zc_16 : zro 16 = 7 := rfl
theorem zc_17 : zro 17 = 8 := rfl
theorem zc_18 : zro 18 = 9 := rfl
theorem zc_19 : zro 19 = 10 := rfl
theorem zc_20 : zro 20 = 11 := rfl
theorem zc_21 : zro 21 = 12 := rfl
theorem zc_22 : zro 22 = 13 := rfl
theorem zc_23 : zro 23 = 6 := rfl
theorem zc_24 : zro 24 = 7 := rfl
theorem zc_25 : zro 25 = 6 := rfl
theorem zc_26 : zro 26 = 7 := rfl
theorem zc_27 : zro 27 = 14 := rfl
theorem zc_28 : zro 28 = 15 := rfl
theorem zc_29 : zro 29 = 16 := rfl
theorem zc_30 : zro 30 = 17 := rfl
theorem zc_31 : zro 31 = 18 := rfl
theorem zc_32 : zro 32 = 19 := rfl
theorem zc_33 : zro 33 = 20 := rfl
theorem zc_34 : zro 34 = 21 := rfl
theorem zc_35 : zro 35 = 22 := rfl
theorem zc_36 : zro 36 = 23 := rfl
theorem zc_37 : zro 37 = 24 := rfl
theorem zc_38 : zro 38 = 25 := rfl
theorem zc_39 : zro 39 = 26 := rfl
theorem zc_40 : zro 40 = 22 := rfl
theorem zc_41 : zro 41 = 23 := rfl
theorem zc_42 : zro 42 = 24 := rfl
theorem zc_43 : zro 43 = 25 := rfl
theorem zc_44 : zro 44 = 26 := rfl
theorem zc_45 : zro 45 = 27 := rfl
theorem zc_46 : zro 46 = 28 := rfl
theorem zc_47 : zro 47 = 22 := rfl
theorem zc_48 : zro 48 = 23 := rfl
theorem zc_49 : zro 49 = 24 := rfl
theorem zc_50 : zro 50 = 25 := rfl
theorem zc_51 : zro 51 = 26 := rfl
theorem zc_52 : zro 52 = 22 := rfl
theorem zc_53 : zro 53 = 23 := rfl
theorem zc_54 : zro 54 = 24 := rfl
theorem zc_55 : zro 55 = 25 := rfl
theorem zc_56 : zro 56 = 26 := rfl
theorem zc_57 : zro 57 = 22 := rfl
theorem zc_58 : zro 58 = 23 := rfl
theorem zc_59 : zro 59 = 24 := rfl
theorem zc_60 : zro 60 = 25 := rfl
theorem zc_61 : zro 61 = 26 := rfl
theorem zc_62 : zro 62 = 22 := rfl
theorem zc_63 : zro 63 = 23 := rfl
theorem zc_64 : zro 64 = 24 := rfl
theorem zc_65 : zro 65 = 25 := rfl
theorem zc_66 : zro 66 = 26 := rfl
theorem zc_67 : zro 67 = 22 := rfl
theorem zc_68 : zro 68 = 23 := rfl
theorem zc_69 : zro 69 = 24 := rfl
theorem zc_70 : zro 70 = 25 := rfl
theorem zc_71 : zro 71 = 26 := rfl
theorem zc_72 : zro 72 = 22 := rfl
theorem zc_73 : zro 73 = 23 := rfl
theorem zc_74 : zro 74 = 24 := rfl
theorem zc_75 : zro 75 = 25 := rfl
theorem zc_76 : zro 76 = 26 := rfl
theorem zc_77 : zro 77 = 22 := rfl
theorem zc_78 : zro 78 = 23 := rfl
theorem zc_79 : zro 79 = 24 := rfl
theorem zc_80 : zro 80 = 25 := rfl
theorem zc_81 : zro 81 = 26 := rfl
theorem zc_82 : zro 82 = 22 := rfl
theorem zc_83 : zro 83 = 23 := rfl
theorem zc_84 : zro 84 = 24 := rfl
theorem zc_85 : zro 85 = 25 := rfl
theorem zc_86 : zro 86 = 26 := rfl
theorem zc_87 : zro 87 = 22 := rfl
theorem zc_88 : zro 88 = 23 := rfl
theorem zc_89 : zro 89 = 24 := rfl
theorem zc_90 : zro 90 = 25 := rfl
theorem zc_91 : zro 91 = 26 := rfl
theorem zc_92 : zro 92 = 22 := rfl
theorem zc_93 : zro 93 = 23 := rfl
theorem zc_94 : zro 94 = 24 := rfl
theorem zc_95 : zro 95 = 25 := rfl
theorem zc_96 : zro 96 = 26 := rfl
theorem zc_97 : zro 97 = 22 := rfl
theorem zc_98 : zro 98 = 23 := rfl
theorem zc_99 : zro 99 = 24 := rfl
theorem zc_100 : zro 100 = 25 := rfl
theorem zc_101 : zro 101 = 26 := rfl
theorem zc_102 : zro 102 = 22 := rfl
theorem zc_103 : zro 103 = 23 := rfl
theorem zc_104 : zro 104 = 24 := rfl
theorem zc_105 : zro 105 = 25 := rfl
theorem zc_106 : zro 106 = 26 := rfl
theorem zc_107 : zro 107 = 22 := rfl
theorem zc_108 : zro 108 = 23 := rfl
theorem zc_109 : zro 109 = 24 := rfl
theorem zc_110 : zro 110 = 25 := rfl
theorem zc_111 : zro 111 = 26 := rfl
theorem zc_112 : zro 112 = 22 := rfl
theorem zc_113 : zro 113 = 23 := rfl
theorem zc_114 : zro 114 = 24 := rfl
theorem zc_115 : zro 115 = 25 := rfl
theorem zc_116 : zro 116 = 26 := rfl
theorem zc_117 : zro 117 = 22 := rfl
theorem zc_118 : zro 118 = 23 := rfl
theorem zc_119 : zro 119 = 24 := rfl
theorem zc_120 : zro 120 = 25 := rfl
theorem zc_121 : zro 121 = 26 := rfl
theorem zc_122 : zro 122 = 22 := rfl
theorem zc_123 : zro 123 = 23 := rfl
theorem zc_124 : zro 124 = 24 := rfl
theorem zc_125 : zro 125 = 25 := rfl
theorem zc_126 : zro 126 = 26 := rfl
theorem zc_127 : zro 127 = 22 := rfl
theorem zc_128 : zro 128 = 23 := rfl
theorem zc_129 : zro 129 = 24 := rfl
theorem zc_130 : zro 130 = 25 := rfl
theorem zc_131 : zro 131 = 26 := rfl
theorem zc_132 : zro 132 = 22 := rfl
theorem zc_133 : zro 133 = 23 := rfl
theorem zc_134 : zro 134 = 24 := rfl
theorem zc_135 : zro 135 = 25 := rfl
theorem zc_136 : zro 136 = 26 := rfl
theorem zc_137 : zro 137 = 22 := rfl
theorem zc_138 : zro 138 = 23 := rfl
theorem zc_139 : zro 139 = 24 := rfl
theorem zc_140 : zro 140 = 25 := rfl
theorem zc_141 : zro 141 = 26 := rfl
theorem zc_142 : zro 142 = 22 := rfl
theorem zc_143 : zro 143 = 23 := rfl
theorem zc_144 : zro 144 = 24 := rfl
theorem zc_145 : zro 145 = 25 := rfl
theorem zc_146 : zro 146 = 26 := rfl
theorem zc_147 : zro 147 = 29 := rfl
theorem zc_148 : zro 148 = 30 := rfl
theorem zc_149 : zro 149 = 31 := rfl
theorem zc_150 : zro 150 = 32 := rfl
theorem zc_151 : zro 151 = 33 := rfl
theorem zc_152 : zro 152 = 34 := rfl
theorem zc_153 : zro 153 = 35 := rfl
theorem zc_154 : zro 154 = 36 := rfl
theorem zc_155 : zro 155 = 37 := rfl
theorem zc_156 : zro 156 = 38 := rfl
theorem zc_157 : zro 157 = 39 := rfl
theorem zc_158 : zro 158 = 40 := rfl
theorem zc_159 : zro 159 = 41 := rfl
theorem zc_160 : zro 160 = 42 := rfl
theorem zc_161 : zro 161 = 43 := rfl
theorem zc_162 : zro 162 = 44 := rfl
theorem zc_163 : zro 163 = 45 := rfl
theorem zc_164 : zro 164 = 46 := rfl
theorem zc_165 : zro 165 = 47 := rfl
theorem zc_166 : zro 166 = 48 := rfl
theorem zc_167 : zro 167 = 49 := rfl
theorem zc_168 : zro 168 = 50 := rfl
theorem zc_169 : zro 169 = 51 := rfl
theorem zc_170 : zro 170 = 52 := rfl
theorem zc_171 : zro 171 = 53 := rfl
theorem zc_172 : zro 172 = 54 := rfl
theorem zc_173 : zro 173 = 55 := rfl
theorem zc_174 : zro 174 = 56 := rfl
theorem zc_175 : zro 175 = 57 := rfl
theorem zc_176 : zro 176 = 58 := rfl
theorem zc_177 : zro 177 = 59 := rfl
theorem zc_178 : zro 178 = 60 := rfl
theorem zc_179 : zro 179 = 61 := rfl
theorem zc_180 : zro 180 = 62 := rfl
theorem zc_181 : zro 181 = 63 := rfl
theorem zc_182 : zro 182 = 64 := rfl
theorem zc_183 : zro 183 = 65 := rfl
theorem zc_184 : zro 184 = 66 := rfl
theorem zc_185 : zro 185 = 67 := rfl
theorem zc_186 : zro 186 = 68 := rfl
theorem zc_187 : zro 187 = 69 := rfl
theorem zc_188 : zro 188 = 70 := rfl
theorem zc_189 : zro 189 = 71 := rfl
theorem zc_190 : zro 190 = 72 := rfl
theorem zc_191 : zro 191 = 73 := rfl
theorem zc_192 : zro 192 = 74 := rfl
theorem zc_193 : zro 193 = 75 := rfl
theorem zc_194 : zro 194 = 76 := rfl
theorem zc_195 : zro 195 = 77 := rfl
theorem zc_196 : zro 196 = 78 := rfl
theorem zc_197 : zro 197 = 79 := rfl
theorem zc_198 : zro 198 = 80 := rfl
theorem zc_199 : zro 199 = 81 := rfl
theorem zc_200 : zro 200 = 82 := rfl
theorem zc_201 : zro 201 = 83 := rfl
theorem zc_202 : zro 202 = 84 := rfl
theorem zc_203 : zro 203 = 85 := rfl
theorem zc_204 : zro 204 = 86 := rfl
theorem zc_205 : zro 205 = 87 := rfl
theorem zc_206 : zro 206 = 88 := rfl
theorem zc_207 : zro 207 = 89 := rfl
theorem zc_208 : zro 208 = 90 := rfl
theorem zc_209 : zro 209 = 91 := rfl
theorem zc_210 : zro 210 = 92 := rfl
theorem zc_211 : zro 211 = 93 := rfl
theorem zc_212 : zro 212 = 94 := rfl
theorem zc_213 : zro 213 = 95 := rfl
theorem zc_214 : zro 214 = 96 := rfl
theorem zc_215 : zro 215 = 97 := rfl
theorem zc_216 : zro 216 = 98 := rfl
theorem zc_217 : zro 217 = 99 := rfl
theorem zc_218 : zro 218 = 100 := rfl
theorem zc_219 : zro 219 = 101 := rfl
theorem zc_220 : zro 220 = 102 := rfl
theorem zc_221 : zro 221 = 103 := rfl
theorem zc_222 : zro 222 = 104 := rfl
theorem zc_223 : zro 223 = 105 := rfl
theorem zc_224 : zro 224 = 106 := rfl
theorem zc_225 : zro 225 = 107 := rfl
theorem zc_226 : zro 226 = 108 := rfl
theorem zc_227 : zro 227 = 109 := rfl
theorem zc_228 : zro 228 = 110 := rfl
theorem zc_229 : zro 229 = 111 := rfl
theorem zc_230 : zro 230 = 112 := rfl
theorem zc_231 : zro 231 = 113 := rfl
theorem zc_232 : zro 232 = 114 := rfl
theorem zc_233 : zro 233 = 115 := rfl
theorem zc_234 : zro 234 = 116 := rfl
theorem zc_235 : zro 235 = 117 := rfl
theorem zc_236 : zro 236 = 118 := rfl
theorem zc_237 : zro 237 = 119 := rfl
theorem zs_1 : zrs 1 = .inl 11 := rfl
theorem zs_2 : zrs 2 = .inl 9 := rfl
theorem zs_3 : zrs 3 = .inr (1, 1600) := rfl
theorem zs_4 : zrs 4 = .inl 9 := rfl
theorem zs_5 : zrs 5 = .inr (1, 80) := rfl
theorem zs_6 : zrs 6 = .inl 4 := rfl
theorem zs_7 : zrs 7 = .inr (0, 1600) := rfl
theorem zs_8 : zrs 8 = .inl 3 := rfl
theorem zs_9 : zrs 9 = .inr (0, 36) := rfl
theorem zs_10 : zrs 10 = .inr (0, 10) := rfl
theorem zs_11 : zrs 11 = .inr (0, 10) := rfl
theorem zs_12 : zrs 12 = .inr (0, 10) := rfl
theorem zs_13 : zrs 13 = .inr (0, 10) := rfl
theorem zs_14 : zrs 14 = .inl 5 := rfl
theorem zs_15 : zrs 15 = .inr (0, 33) := rfl
theorem zs_16 : zrs 16 = .inr (0, 1601) := rfl
theorem zs_17 : zrs 17 = .inr (0, 1601) := rfl
theorem zs_18 : zrs 18 = .inr (0, 1601) := rfl
theorem zs_19 : zrs 19 = .inr (0, 1601) := rfl
theorem zs_20 : zrs 20 = .inl 1 := rfl
theorem zs_21 : zrs 21 = .inl 8 := rfl
theorem zs_22 : zrs 22 = .inl 10 := rfl
theorem zs_23 : zrs 23 = .inr (0, 10) := rfl
theorem zs_24 : zrs 24 = .inr (0, 10) := rfl
theorem zs_25 : zrs 25 = .inr (0, 10) := rfl
theorem zs_26 : zrs 26 = .inr (0, 40) := rfl
theorem zs_27 : zrs 27 = .inl 2 := rfl
theorem zs_28 : zrs 28 = .inr (5, 20) := rfl
theorem zs_29 : zrs 29 = .inl 7 := rfl
theorem zs_30 : zrs 30 = .inr (2, 1024) := rfl
theorem zs_31 : zrs 31 = .inr (0, 1024) := rfl
theorem zs_32 : zrs 32 = .inr (0, 991) := rfl
theorem zs_33 : zrs 33 = .inr (0, 12) := rfl
theorem zs_34 : zrs 34 = .inr (0, 12) := rfl
theorem zs_35 : zrs 35 = .inl 6 := rfl
theorem zs_36 : zrs 36 = .inl 0 := rfl
theorem zs_37 : zrs 37 = .inr (0, 33) := rfl
theorem zs_38 : zrs 38 = .inr (0, 40) := rfl
theorem zs_39 : zrs 39 = .inr (0, 10) := rfl
theorem zs_40 : zrs 40 = .inr (0, 360) := rfl
theorem zs_41 : zrs 41 = .inr (0, 10) := rfl
theorem zs_42 : zrs 42 = .inr (0, 36) := rfl
theorem zs_43 : zrs 43 = .inr (0, 36) := rfl
theorem zs_44 : zrs 44 = .inr (0, 36) := rfl
theorem zs_45 : zrs 45 = .inr (0, 6) := rfl
theorem zs_46 : zrs 46 = .inl 12 := rfl
theorem zs_47 : zrs 47 = .inr (0, 1600) := rfl
theorem zs_48 : zrs 48 = .inr (0, 6) := rfl
theorem zs_49 : zrs 49 = .inr (3, 4) := rfl
theorem zs_50 : zrs 50 = .inr (3, 2) := rfl
theorem zs_51 : zrs 51 = .inr (3, 5) := rfl
theorem zs_52 : zrs 52 = .inr (3, 5) := rfl
theorem zs_53 : zrs 53 = .inr (3, 4) := rfl
theorem zs_54 : zrs 54 = .inr (3, 2) := rfl
theorem zs_55 : zrs 55 = .inr (3, 5) := rfl
theorem zs_56 : zrs 56 = .inr (3, 4) := rfl
theorem zs_57 : zrs 57 = .inr (3, 5) := rfl
theorem zs_58 : zrs 58 = .inr (3, 5) := rfl
theorem zs_59 : zrs 59 = .inr (3, 5) := rfl
theorem zs_60 : zrs 60 = .inr (3, 4) := rfl
theorem zs_61 : zrs 61 = .inr (3, 4) := rfl
theorem zs_62 : zrs 62 = .inr (3, 6) := rfl
theorem zs_63 : zrs 63 = .inr (3, 6) := rfl
theorem zs_64 : zrs 64 = .inr (3, 5) := rfl
theorem zs_65 : zrs 65 = .inr (3, 4) := rfl
theorem zs_66 : zrs 66 = .inr (3, 6) := rfl
theorem zs_67 : zrs 67 = .inr (3, 6) := rfl
theorem zs_68 : zrs 68 = .inr (3, 3) := rfl
theorem zs_69 : zrs 69 = .inr (3, 3) := rfl
theorem zs_70 : zrs 70 = .inr (3, 2) := rfl
theorem zs_71 : zrs 71 = .inr (3, 3) := rfl
theorem zs_72 : zrs 72 = .inr (3, 3) := rfl
theorem zs_73 : zrs 73 = .inr (3, 3) := rfl
theorem zs_74 : zrs 74 = .inr (3, 3) := rfl
theorem zs_75 : zrs 75 = .inr (3, 3) := rfl
theorem zs_76 : zrs 76 = .inr (0, 6) := rfl
theorem zs_77 : zrs 77 = .inr (0, 2) := rfl
theorem zs_78 : zrs 78 = .inr (4, 20) := rfl
theorem zs_79 : zrs 79 = .inr (0, 72) := rfl
theorem zs_80 : zrs 80 = .inr (0, 40) := rfl
theorem zs_81 : zrs 81 = .inr (0, 6) := rfl
theorem zs_82 : zrs 82 = .inr (0, 4) := rfl
theorem zs_83 : zrs 83 = .inr (0, 4) := rfl
theorem zs_84 : zrs 84 = .inr (0, 3200) := rfl
theorem zs_85 : zrs 85 = .inr (0, 188) := rfl
theorem zs_86 : zrs 86 = .inr (0, 67) := rfl
theorem zs_87 : zrs 87 = .inr (0, 36) := rfl
theorem zs_88 : zrs 88 = .inr (2, 36) := rfl
theorem zs_89 : zrs 89 = .inr (0, 24) := rfl
theorem zs_90 : zrs 90 = .inr (0, 1024) := rfl
theorem zs_91 : zrs 91 = .inr (0, 1000) := rfl
theorem zs_92 : zrs 92 = .inr (0, 3760) := rfl
theorem zs_93 : zrs 93 = .inr (3, 5) := rfl
theorem zs_94 : zrs 94 = .inr (3, 4) := rfl
theorem zs_95 : zrs 95 = .inr (3, 5) := rfl
theorem zs_96 : zrs 96 = .inr (3, 5) := rfl
theorem zs_97 : zrs 97 = .inr (3, 4) := rfl
theorem zs_98 : zrs 98 = .inr (3, 5) := rfl
theorem zs_99 : zrs 99 = .inr (3, 3) := rfl
theorem zs_100 : zrs 100 = .inr (3, 3) := rfl
theorem zs_101 : zrs 101 = .inr (3, 2) := rfl
theorem zs_102 : zrs 102 = .inr (3, 3) := rfl
theorem zs_103 : zrs 103 = .inr (3, 3) := rfl
theorem zs_104 : zrs 104 = .inr (3, 3) := rfl
theorem zs_105 : zrs 105 = .inr (3, 4) := rfl
theorem zs_106 : zrs 106 = .inr (3, 6) := rfl
theorem zs_107 : zrs 107 = .inr (3, 6) := rfl
theorem zs_108 : zrs 108 = .inr (3, 5) := rfl
theorem zs_109 : zrs 109 = .inr (3, 5) := rfl
theorem zs_110 : zrs 110 = .inr (3, 4) := rfl
theorem zs_111 : zrs 111 = .inr (3, 6) := rfl
theorem zs_112 : zrs 112 = .inr (3, 6) := rfl
theorem zs_113 : zrs 113 = .inr (3, 3) := rfl
theorem zs_114 : zrs 114 = .inr (3, 5) := rfl
theorem zs_115 : zrs 115 = .inr (3, 3) := rfl
theorem zs_116 : zrs 116 = .inr (0, 1700) := rfl
theorem zs_117 : zrs 117 = .inr (0, 1700) := rfl
theorem zs_118 : zrs 118 = .inr (4, 1700) := rfl
theorem zs_119 : zrs 119 = .inr (0, 79) := rfl
def zP1 (k j : Nat) (v : Int) : Prop := match j with
  | 0 => v = ((k + 1 : Nat) : Int)
  | 1 => v = ((k + 3 : Nat) : Int)
  | 2 => v = ((k + 5 : Nat) : Int)
  | 3 => ∃ q : Nat, v = (q : Int) ∧ zro q = 8
  | 4 => ∃ q : Nat, v = (q : Int) ∧ zro q = 8
  | 5 => v = ((k + 27 : Nat) : Int)
  | 6 => v = ((k + 33 : Nat) : Int)
  | 7 => v = ((k + 34 : Nat) : Int)
  | 8 => v = ((k + 35 : Nat) : Int)
  | 9 => v = ((k + 40 : Nat) : Int)
  | 10 => v = ((k + 45 : Nat) : Int)
  | 11 => v = ((k + 147 : Nat) : Int)
  | 12 => v = ((k + 153 : Nat) : Int)
  | 13 => v = ((k + 163 : Nat) : Int)
  | 14 => -2147483648 ≤ v ∧ v ≤ 2147483647
  | 15 => -2147483648 ≤ v ∧ v ≤ 2147483647
  | 16 => -2147483648 ≤ v ∧ v ≤ 2147483647
  | _ => True
def zP2 (k j : Nat) (v : Int) : Prop := match j with
  | 0 => v = ((k + 1 : Nat) : Int)
  | 1 => 0 ≤ v ∧ v ≤ 1600
  | _ => True
def zP3 (k j : Nat) (v : Int) : Prop := -128 ≤ v ∧ v ≤ 127
def zP4 (k j : Nat) (v : Int) : Prop := match j with
  | 0 => v = ((k + 1 : Nat) : Int)
  | 1 => 0 ≤ v ∧ v ≤ 80
  | _ => True
def zP5 (k j : Nat) (v : Int) : Prop := -128 ≤ v ∧ v ≤ 127
def zP6 (k j : Nat) (v : Int) : Prop := match j with
  | 0 => v = ((k + 1 : Nat) : Int)
  | 1 => 0 ≤ v ∧ v ≤ 1600
  | _ => True
def zP7 (k j : Nat) (v : Int) : Prop := -2147483648 ≤ v ∧ v ≤ 2147483647
def zP8 (k j : Nat) (v : Int) : Prop := match j with
  | 0 => v = ((k + 1 : Nat) : Int)
  | 1 => v = ((k + 2 : Nat) : Int)
  | 2 => v = ((k + 3 : Nat) : Int)
  | 3 => v = ((k + 4 : Nat) : Int)
  | 4 => v = ((k + 5 : Nat) : Int)
  | 5 => v = ((k + 6 : Nat) : Int)
  | 6 => v = ((k + 8 : Nat) : Int)
  | 7 => 0 ≤ v ∧ v ≤ 1
  | 8 => 0 ≤ v ∧ v ≤ 1
  | 9 => 0 ≤ v ∧ v ≤ 1
  | 10 => 0 ≤ v ∧ v ≤ 6
  | 11 => 0 ≤ v ∧ v ≤ 6
  | 12 => 0 ≤ v ∧ v ≤ 10
  | 13 => 0 ≤ v ∧ v ≤ 99
  | 14 => 0 ≤ v ∧ v ≤ 99
  | 15 => 0 ≤ v ∧ v ≤ 99
  | 16 => 0 ≤ v ∧ v ≤ 100
  | _ => True
def zP9 (k j : Nat) (v : Int) : Prop := 0 ≤ v ∧ v ≤ 99
def zP10 (k j : Nat) (v : Int) : Prop := -2147483648 ≤ v ∧ v ≤ 2147483647
def zP11 (k j : Nat) (v : Int) : Prop := 0 ≤ v ∧ v ≤ 5
def zP12 (k j : Nat) (v : Int) : Prop := 0 ≤ v ∧ v ≤ 5
def zP13 (k j : Nat) (v : Int) : Prop := 0 ≤ v ∧ v ≤ 99
def zP14 (k j : Nat) (v : Int) : Prop := match j with
  | 0 => v = ((k + 1 : Nat) : Int)
  | 1 => v = ((k + 2 : Nat) : Int)
  | 2 => v = ((k + 3 : Nat) : Int)
  | 3 => v = ((k + 4 : Nat) : Int)
  | 4 => v = ((k + 5 : Nat) : Int)
  | 5 => 0 ≤ v ∧ v ≤ 1601
  | 6 => 0 ≤ v ∧ v ≤ 1600
  | 7 => -2147483648 ≤ v ∧ v ≤ 2147483647
  | 8 => -2147483648 ≤ v ∧ v ≤ 2147483647
  | _ => True
def zP15 (k j : Nat) (v : Int) : Prop := -2147483648 ≤ v ∧ v ≤ 2147483647
def zP16 (k j : Nat) (v : Int) : Prop := 0 ≤ v ∧ v ≤ 6
def zP17 (k j : Nat) (v : Int) : Prop := 0 ≤ v ∧ v ≤ 10000
def zP18 (k j : Nat) (v : Int) : Prop := -2147483648 ≤ v ∧ v ≤ 2147483647
def zP19 (k j : Nat) (v : Int) : Prop := -1 ≤ v ∧ v ≤ 32
def zP20 (k j : Nat) (v : Int) : Prop := match j with
  | 0 => v = ((k - 6 : Nat) : Int)
  | 1 => ∃ q : Nat, v = (q : Int) ∧ zro q = 6
  | 2 => 0 ≤ v ∧ v ≤ 2
  | _ => True
def zP21 (k j : Nat) (v : Int) : Prop := match j with
  | 0 => v = ((k - 7 : Nat) : Int)
  | 1 => v = ((k - 1 : Nat) : Int)
  | 2 => ∃ q : Nat, v = (q : Int) ∧ zro q = 8
  | _ => True
def zP22 (k j : Nat) (v : Int) : Prop := match j with
  | 0 => v = ((k + 1 : Nat) : Int)
  | 1 => v = ((k + 2 : Nat) : Int)
  | 2 => v = ((k + 3 : Nat) : Int)
  | 3 => v = ((k + 4 : Nat) : Int)
  | 4 => 0 ≤ v ∧ v ≤ 40
  | 5 => -2147483648 ≤ v ∧ v ≤ 2147483647
  | 6 => -9223372036854775808 ≤ v ∧ v ≤ 9223372036854775807
  | 7 => -2147483648 ≤ v ∧ v ≤ 2147483647
  | _ => True
def zP23 (k j : Nat) (v : Int) : Prop := -1 ≤ v ∧ v ≤ 255
def zP24 (k j : Nat) (v : Int) : Prop := -1 ≤ v ∧ v ≤ 255
def zP25 (k j : Nat) (v : Int) : Prop := -1 ≤ v ∧ v ≤ 255
def zP26 (k j : Nat) (v : Int) : Prop := -2147483648 ≤ v ∧ v ≤ 2147483647
def zP27 (k j : Nat) (v : Int) : Prop := match j with
  | 0 => v = ((k + 1 : Nat) : Int)
  | 1 => 0 ≤ v ∧ v ≤ 19
  | 2 => 0 ≤ v ∧ v ≤ 20
  | _ => True
def zP28 (k j : Nat) (v : Int) : Prop := j < 20 → v = ((47 + 5 * j : Nat) : Int)
def zP29 (k j : Nat) (v : Int) : Prop := match j with
  | 0 => v = ((k + 1 : Nat) : Int)
  | 1 => v = ((k + 2 : Nat) : Int)
  | 2 => v = ((k + 3 : Nat) : Int)
  | 3 => v = ((k + 4 : Nat) : Int)
  | 4 => v = ((k + 5 : Nat) : Int)
  | 5 => 0 ≤ v ∧ v ≤ 12
  | 6 => 0 ≤ v ∧ v ≤ 1024
  | _ => True
def zP30 (k j : Nat) (v : Int) : Prop := 0 ≤ v ∧ v ≤ 1
def zP31 (k j : Nat) (v : Int) : Prop := -2147483648 ≤ v ∧ v ≤ 2147483647
def zP32 (k j : Nat) (v : Int) : Prop := -2147483648 ≤ v ∧ v ≤ 2147483647
def zP33 (k j : Nat) (v : Int) : Prop := 0 ≤ v ∧ v ≤ 35
def zP34 (k j : Nat) (v : Int) : Prop := -2147483648 ≤ v ∧ v ≤ 2147483647
def zP35 (k j : Nat) (v : Int) : Prop := match j with
  | 0 => v = ((k + 1 : Nat) : Int)
  | 1 => v = ((k + 5 : Nat) : Int)
  | 2 => v = ((k + 6 : Nat) : Int)
  | 3 => v = ((k + 7 : Nat) : Int)
  | 4 => v = ((k + 8 : Nat) : Int)
  | 5 => v = ((k + 9 : Nat) : Int)
  | 6 => ∃ q : Nat, v = (q : Int) ∧ zro q = 8
  | 7 => ∃ q : Nat, v = (q : Int) ∧ zro q = 22
  | 8 => 0 ≤ v ∧ v ≤ 99
  | 9 => -2147483648 ≤ v ∧ v ≤ 2147483647
  | 10 => -2147483648 ≤ v ∧ v ≤ 2147483647
  | 11 => -9223372036854775808 ≤ v ∧ v ≤ 9223372036854775807
  | 12 => -2147483648 ≤ v ∧ v ≤ 2147483647
  | 13 => -2147483648 ≤ v ∧ v ≤ 2147483647
  | _ => True
def zP36 (k j : Nat) (v : Int) : Prop := match j with
  | 0 => v = ((k + 1 : Nat) : Int)
  | 1 => v = ((k + 2 : Nat) : Int)
  | 2 => v = ((k + 3 : Nat) : Int)
  | 3 => 0 ≤ v ∧ v ≤ 10
  | _ => True
def zP37 (k j : Nat) (v : Int) : Prop := -2147483648 ≤ v ∧ v ≤ 2147483647
def zP38 (k j : Nat) (v : Int) : Prop := -2147483648 ≤ v ∧ v ≤ 2147483647
def zP39 (k j : Nat) (v : Int) : Prop := -2147483648 ≤ v ∧ v ≤ 2147483647
def zP40 (k j : Nat) (v : Int) : Prop := -2147483648 ≤ v ∧ v ≤ 2147483647
def zP41 (k j : Nat) (v : Int) : Prop := -2147483648 ≤ v ∧ v ≤ 2147483647
def zP42 (k j : Nat) (v : Int) : Prop := -2147483648 ≤ v ∧ v ≤ 2147483647
def zP43 (k j : Nat) (v : Int) : Prop := -2147483648 ≤ v ∧ v ≤ 2147483647
def zP44 (k j : Nat) (v : Int) : Prop := -2147483648 ≤ v ∧ v ≤ 2147483647
def zP45 (k j : Nat) (v : Int) : Prop := -2147483648 ≤ v ∧ v ≤ 2147483647
def zP46 (k j : Nat) (v : Int) : Prop := match j with
  | 0 => v = ((k + 1 : Nat) : Int)
  | 1 => 0 ≤ v ∧ v ≤ 1600
  | 2 => 0 ≤ v ∧ v ≤ 1600
  | 3 => 0 ≤ v ∧ v ≤ 1600
  | 4 => -1 ≤ v ∧ v ≤ 1600
  | 5 => -2147483648 ≤ v ∧ v ≤ 2147483647
  | 6 => -2147483648 ≤ v ∧ v ≤ 2147483647
  | 7 => -2147483648 ≤ v ∧ v ≤ 2147483647
  | 8 => -2147483648 ≤ v ∧ v ≤ 2147483647
  | 9 => v = ((k + 2 : Nat) : Int)
  | 10 => -2147483648 ≤ v ∧ v ≤ 2147483647
  | 11 => v = ((k + 3 : Nat) : Int)
  | 12 => v = ((k + 4 : Nat) : Int)
  | 13 => v = ((k + 5 : Nat) : Int)
  | 14 => v = ((k + 6 : Nat) : Int)
  | 15 => v = ((k + 7 : Nat) : Int)
  | 16 => v = ((k + 8 : Nat) : Int)
  | 17 => v = ((k + 9 : Nat) : Int)
  | 18 => v = ((k + 10 : Nat) : Int)
  | 19 => v = ((k + 11 : Nat) : Int)
  | 20 => v = ((k + 12 : Nat) : Int)
  | 21 => v = ((k + 13 : Nat) : Int)
  | 22 => v = ((k + 14 : Nat) : Int)
  | 23 => v = ((k + 15 : Nat) : Int)
  | 24 => v = ((k + 16 : Nat) : Int)
  | 25 => v = ((k + 17 : Nat) : Int)
  | 26 => v = ((k + 18 : Nat) : Int)
  | 27 => v = ((k + 19 : Nat) : Int)
  | 28 => v = ((k + 20 : Nat) : Int)
  | 29 => v = ((k + 21 : Nat) : Int)
  | 30 => v = ((k + 22 : Nat) : Int)
  | 31 => v = ((k + 23 : Nat) : Int)
  | 32 => v = ((k + 24 : Nat) : Int)
  | 33 => v = ((k + 25 : Nat) : Int)
  | 34 => v = ((k + 26 : Nat) : Int)
  | 35 => v = ((k + 27 : Nat) : Int)
  | 36 => v = ((k + 28 : Nat) : Int)
  | 37 => v = ((k + 29 : Nat) : Int)
  | 38 => -2147483648 ≤ v ∧ v ≤ 2147483647
  | 39 => v = ((k + 30 : Nat) : Int)
  | 40 => v = ((k + 31 : Nat) : Int)
  | 41 => v = ((k + 32 : Nat) : Int)
  | 42 => v = ((k + 33 : Nat) : Int)
  | 43 => v = ((k + 34 : Nat) : Int)
  | 44 => v = ((k + 35 : Nat) : Int)
  | 45 => v = ((k + 36 : Nat) : Int)
  | 46 => v = ((k + 37 : Nat) : Int)
  | 47 => v = ((k + 38 : Nat) : Int)
  | 48 => 0 ≤ v ∧ v ≤ 3200
  | 49 => -2147483648 ≤ v ∧ v ≤ 2147483647
  | 50 => 0 ≤ v ∧ v ≤ 1
  | 51 => 0 ≤ v ∧ v ≤ 2
  | 52 => v = ((k + 39 : Nat) : Int)
  | 53 => v = ((k + 40 : Nat) : Int)
  | 54 => 0 ≤ v ∧ v ≤ 99
  | 55 => -2147483648 ≤ v ∧ v ≤ 2147483647
  | 56 => -2147483648 ≤ v ∧ v ≤ 2147483647
  | 57 => v = ((k + 41 : Nat) : Int)
  | 58 => -1 ≤ v ∧ v ≤ 35
  | 59 => 0 ≤ v ∧ v ≤ 1
  | 60 => -2147483648 ≤ v ∧ v ≤ 2147483647
  | 61 => v = ((k + 42 : Nat) : Int)
  | 62 => -2147483648 ≤ v ∧ v ≤ 2147483647
  | 63 => -2147483648 ≤ v ∧ v ≤ 2147483647
  | 64 => 0 ≤ v ∧ v ≤ 12
  | 65 => v = ((k + 43 : Nat) : Int)
  | 66 => v = ((k + 44 : Nat) : Int)
  | 67 => 0 ≤ v ∧ v ≤ 1024
  | 68 => v = ((k + 45 : Nat) : Int)
  | 69 => v = ((k + 46 : Nat) : Int)
  | 70 => 0 ≤ v ∧ v ≤ 20
  | 71 => 0 ≤ v ∧ v ≤ 19
  | 72 => 0 ≤ v ∧ v ≤ 2147483647
  | 73 => v = ((k + 47 : Nat) : Int)
  | 74 => v = ((k + 48 : Nat) : Int)
  | 75 => v = ((k + 49 : Nat) : Int)
  | 76 => v = ((k + 50 : Nat) : Int)
  | 77 => v = ((k + 51 : Nat) : Int)
  | 78 => v = ((k + 52 : Nat) : Int)
  | 79 => v = ((k + 53 : Nat) : Int)
  | 80 => v = ((k + 54 : Nat) : Int)
  | 81 => v = ((k + 55 : Nat) : Int)
  | 82 => v = ((k + 56 : Nat) : Int)
  | 83 => v = ((k + 57 : Nat) : Int)
  | 84 => v = ((k + 58 : Nat) : Int)
  | 85 => v = ((k + 59 : Nat) : Int)
  | 86 => v = ((k + 60 : Nat) : Int)
  | 87 => v = ((k + 61 : Nat) : Int)
  | 88 => v = ((k + 62 : Nat) : Int)
  | 89 => v = ((k + 63 : Nat) : Int)
  | 90 => v = ((k + 64 : Nat) : Int)
  | 91 => v = ((k + 65 : Nat) : Int)
  | 92 => v = ((k + 66 : Nat) : Int)
  | 93 => v = ((k + 67 : Nat) : Int)
  | 94 => v = ((k + 68 : Nat) : Int)
  | 95 => v = ((k + 69 : Nat) : Int)
  | 96 => v = ((k + 70 : Nat) : Int)
  | 97 => 0 ≤ v ∧ v ≤ 1700
  | 98 => v = ((k + 71 : Nat) : Int)
  | 99 => 0 ≤ v ∧ v ≤ 1700
  | 100 => -2147483648 ≤ v ∧ v ≤ 2147483647
  | 101 => 0 ≤ v ∧ v ≤ 1700
  | 102 => v = ((k + 72 : Nat) : Int)
  | 103 => 0 ≤ v ∧ v ≤ 1700
  | 104 => -9223372036854775808 ≤ v ∧ v ≤ 9223372036854775807
  | 105 => 0 ≤ v ∧ v ≤ 1
  | 106 => v = ((k + 73 : Nat) : Int)
  | 107 => 0 ≤ v ∧ v ≤ 79
  | _ => True
def zP47 (k j : Nat) (v : Int) : Prop := 0 ≤ v ∧ v ≤ 255
def zP48 (k j : Nat) (v : Int) : Prop := -2147483648 ≤ v ∧ v ≤ 2147483647
def zP49 (k j : Nat) (v : Int) : Prop := 0 ≤ v ∧ v ≤ 65535
def zP50 (k j : Nat) (v : Int) : Prop := 0 ≤ v ∧ v ≤ 65535
def zP51 (k j : Nat) (v : Int) : Prop := 0 ≤ v ∧ v ≤ 65535
def zP52 (k j : Nat) (v : Int) : Prop := 0 ≤ v ∧ v ≤ 65535
def zP53 (k j : Nat) (v : Int) : Prop := 0 ≤ v ∧ v ≤ 65535
def zP54 (k j : Nat) (v : Int) : Prop := 0 ≤ v ∧ v ≤ 65535
def zP55 (k j : Nat) (v : Int) : Prop := 0 ≤ v ∧ v ≤ 65535
def zP56 (k j : Nat) (v : Int) : Prop := 0 ≤ v ∧ v ≤ 65535
def zP57 (k j : Nat) (v : Int) : Prop := 0 ≤ v ∧ v ≤ 65535
def zP58 (k j : Nat) (v : Int) : Prop := 0 ≤ v ∧ v ≤ 65535
def zP59 (k j : Nat) (v : Int) : Prop := 0 ≤ v ∧ v ≤ 65535
def zP60 (k j : Nat) (v : Int) : Prop := 0 ≤ v ∧ v ≤ 65535
def zP61 (k j : Nat) (v : Int) : Prop := 0 ≤ v ∧ v ≤ 65535
def zP62 (k j : Nat) (v : Int) : Prop := 0 ≤ v ∧ v ≤ 65535
def zP63 (k j : Nat) (v : Int) : Prop := 0 ≤ v ∧ v ≤ 65535
def zP64 (k j : Nat) (v : Int) : Prop := 0 ≤ v ∧ v ≤ 65535
def zP65 (k j : Nat) (v : Int) : Prop := 0 ≤ v ∧ v ≤ 65535
def zP66 (k j : Nat) (v : Int) : Prop := 0 ≤ v ∧ v ≤ 65535
def zP67 (k j : Nat) (v : Int) : Prop := 0 ≤ v ∧ v ≤ 65535
def zP68 (k j : Nat) (v : Int) : Prop := 0 ≤ v ∧ v ≤ 65535
def zP69 (k j : Nat) (v : Int) : Prop := 0 ≤ v ∧ v ≤ 65535
def zP70 (k j : Nat) (v : Int) : Prop := 0 ≤ v ∧ v ≤ 65535
def zP71 (k j : Nat) (v : Int) : Prop := 0 ≤ v ∧ v ≤ 65535
def zP72 (k j : Nat) (v : Int) : Prop := 0 ≤ v ∧ v ≤ 65535
def zP73 (k j : Nat) (v : Int) : Prop := 0 ≤ v ∧ v ≤ 65535
def zP74 (k j : Nat) (v : Int) : Prop := 0 ≤ v ∧ v ≤ 65535
def zP75 (k j : Nat) (v : Int) : Prop := 0 ≤ v ∧ v ≤ 65535
def zP76 (k j : Nat) (v : Int) : Prop := (-2147483648 ≤ v ∧ v ≤ 2147483647) ∧ (j = 3 ∨ j = 4 → 0 ≤ v ∧ v ≤ 6)
def zP77 (k j : Nat) (v : Int) : Prop := 0 ≤ v ∧ v ≤ 10
def zP78 (k j : Nat) (v : Int) : Prop := -9223372036854775808 ≤ v ∧ v ≤ 9223372036854775807
def zP79 (k j : Nat) (v : Int) : Prop := -2147483648 ≤ v ∧ v ≤ 2147483647
def zP80 (k j : Nat) (v : Int) : Prop := (0 ≤ v ∧ v ≤ 99) ∧ (j % 2 = 0 → v ≤ 35)
def zP81 (k j : Nat) (v : Int) : Prop := (-2147483648 ≤ v ∧ v ≤ 2147483647) ∧ (3 ≤ j → 0 ≤ v ∧ v ≤ 100)
def zP82 (k j : Nat) (v : Int) : Prop := -1 ≤ v ∧ v ≤ 1600
def zP83 (k j : Nat) (v : Int) : Prop := 0 ≤ v ∧ v ≤ 1600
def zP84 (k j : Nat) (v : Int) : Prop := -2147483648 ≤ v ∧ v ≤ 2147483647
def zP85 (k j : Nat) (v : Int) : Prop := ((-2147483648 ≤ v ∧ v ≤ 2147483647) ∧ (37 ≤ j ∧ j < 67 ∧ (j - 37) % 3 = 0 → 0 ≤ v ∧ v ≤ 35) ∧ (j = 67 → 0 ≤ v ∧ v ≤ 40))
def zP86 (k j : Nat) (v : Int) : Prop := ((-2147483648 ≤ v ∧ v ≤ 2147483647) ∧ (37 ≤ j ∧ j < 67 ∧ (j - 37) % 3 = 0 → 0 ≤ v ∧ v ≤ 35) ∧ (j = 67 → 0 ≤ v ∧ v ≤ 40))
def zP87 (k j : Nat) (v : Int) : Prop := -2147483648 ≤ v ∧ v ≤ 2147483647
def zP88 (k j : Nat) (v : Int) : Prop := 0 ≤ v ∧ v ≤ 1
def zP89 (k j : Nat) (v : Int) : Prop := (-2147483648 ≤ v ∧ v ≤ 2147483647) ∧ (j % 2 = 0 → 0 ≤ v ∧ v ≤ 35)
def zP90 (k j : Nat) (v : Int) : Prop := -2147483648 ≤ v ∧ v ≤ 2147483647
def zP91 (k j : Nat) (v : Int) : Prop := -2147483648 ≤ v ∧ v ≤ 2147483647
def zP92 (k j : Nat) (v : Int) : Prop := ((-2147483648 ≤ v ∧ v ≤ 2147483647) ∧ (37 ≤ (j % 188) ∧ (j % 188) < 67 ∧ ((j % 188) - 37) % 3 = 0 → 0 ≤ v ∧ v ≤ 35) ∧ ((j % 188) = 67 → 0 ≤ v ∧ v ≤ 40))
def zP93 (k j : Nat) (v : Int) : Prop := 0 ≤ v ∧ v ≤ 65535
def zP94 (k j : Nat) (v : Int) : Prop := 0 ≤ v ∧ v ≤ 65535
def zP95 (k j : Nat) (v : Int) : Prop := 0 ≤ v ∧ v ≤ 65535
def zP96 (k j : Nat) (v : Int) : Prop := 0 ≤ v ∧ v ≤ 65535
def zP97 (k j : Nat) (v : Int) : Prop := 0 ≤ v ∧ v ≤ 65535
def zP98 (k j : Nat) (v : Int) : Prop := 0 ≤ v ∧ v ≤ 65535
def zP99 (k j : Nat) (v : Int) : Prop := 0 ≤ v ∧ v ≤ 65535
def zP100 (k j : Nat) (v : Int) : Prop := 0 ≤ v ∧ v ≤ 65535
def zP101 (k j : Nat) (v : Int) : Prop := 0 ≤ v ∧ v ≤ 65535
def zP102 (k j : Nat) (v : Int) : Prop := 0 ≤ v ∧ v ≤ 65535
def zP103 (k j : Nat) (v : Int) : Prop := 0 ≤ v ∧ v ≤ 65535
def zP104 (k j : Nat) (v : Int) : Prop := 0 ≤ v ∧ v ≤ 65535
def zP105 (k j : Nat) (v : Int) : Prop := 0 ≤ v ∧ v ≤ 65535
def zP106 (k j : Nat) (v : Int) : Prop := 0 ≤ v ∧ v ≤ 65535
def zP107 (k j : Nat) (v : Int) : Prop := 0 ≤ v ∧ v ≤ 65535
def zP108 (k j : Nat) (v : Int) : Prop := 0 ≤ v ∧ v ≤ 65535
def zP109 (k j : Nat) (v : Int) : Prop := 0 ≤ v ∧ v ≤ 65535
def zP110 (k j : Nat) (v : Int) : Prop := 0 ≤ v ∧ v ≤ 65535
def zP111 (k j : Nat) (v : Int) : Prop := 0 ≤ v ∧ v ≤ 65535
def zP112 (k j : Nat) (v : Int) : Prop := 0 ≤ v ∧ v ≤ 65535
def zP113 (k j : Nat) (v : Int) : Prop := 0 ≤ v ∧ v ≤ 65535
def zP114 (k j : Nat) (v : Int) : Prop := 0 ≤ v ∧ v ≤ 65535
def zP115 (k j : Nat) (v : Int) : Prop := 0 ≤ v ∧ v ≤ 65535
def zP116 (k j : Nat) (v : Int) : Prop := -2147483648 ≤ v ∧ v ≤ 2147483647
def zP117 (k j : Nat) (v : Int) : Prop := -2147483648 ≤ v ∧ v ≤ 2147483647
def zP118 (k j : Nat) (v : Int) : Prop := -9223372036854775808 ≤ v ∧ v ≤ 9223372036854775807
def zP119 (k j : Nat) (v : Int) : Prop := -2147483648 ≤ v ∧ v ≤ 2147483647
def zPl : List (Nat → Nat → Int → Prop) := [fun _ _ _ => True, zP1, zP2, zP3, zP4, zP5, zP6, zP7, zP8, zP9, zP10, zP11, zP12, zP13, zP14, zP15, zP16, zP17, zP18, zP19, zP20, zP21, zP22, zP23, zP24, zP25, zP26, zP27, zP28, zP29, zP30, zP31, zP32, zP33, zP34, zP35, zP36, zP37, zP38, zP39, zP40, zP41, zP42, zP43, zP44, zP45, zP46, zP47, zP48, zP49, zP50, zP51, zP52, zP53, zP54, zP55, zP56, zP57, zP58, zP59, zP60, zP61, zP62, zP63, zP64, zP65, zP66, zP67, zP68, zP69, zP70, zP71, zP72, zP73, zP74, zP75, zP76, zP77, zP78, zP79, zP80, zP81, zP82, zP83, zP84, zP85, zP86, zP87, zP88, zP89, zP90, zP91, zP92, zP93, zP94, zP95, zP96, zP97, zP98, zP99, zP100, zP101, zP102, zP103, zP104, zP105, zP106, zP107, zP108, zP109, zP110, zP111, zP112, zP113, zP114, zP115, zP116, zP117, zP118, zP119]
def zP (r : Nat) : Nat → Nat → Int → Prop := zPl.getD r (fun _ _ _ => True)
def zInv (σ : zSto) : Prop := ∀ k j : Nat, zP (zro k) k j (σ k j)
theorem zInv_at {σ : zSto} {k r : Nat} (hI : zInv σ) (hk : zro k = r) (j : Nat) : zP r k j (σ k j) := hk ▸ hI k j
theorem zInv_set {σ : zSto} {k j r : Nat} {v : Int} (hI : zInv σ) (hk : zro k = r) (h : zP r k j v) : zInv (zset σ k j v) := by
  intro a b
  by_cases e : a = k ∧ b = j
  · obtain ⟨rfl, rfl⟩ := e
    rw [zset_s, hk]
    exact h
  · have : zset σ k j v a b = σ a b := by simp [zset, e]
    rw [this]
    exact hI a b
theorem zv_1_0 {σ : zSto} {k : Nat} (hI : zInv σ) (hk : zro k = 1) : σ k 0 = ((k + 1 : Nat) : Int) := zInv_at hI hk 0
theorem zv_1_1 {σ : zSto} {k : Nat} (hI : zInv σ) (hk : zro k = 1) : σ k 1 = ((k + 3 : Nat) : Int) := zInv_at hI hk 1
theorem zv_1_2 {σ : zSto} {k : Nat} (hI : zInv σ) (hk : zro k = 1) : σ k 2 = ((k + 5 : Nat) : Int) := zInv_at hI hk 2
theorem zv_1_3 {σ : zSto} {k : Nat} (hI : zInv σ) (hk : zro k = 1) : ∃ q : Nat, σ k 3 = (q : Int) ∧ zro q = 8 := zInv_at hI hk 3
theorem zp_1_3 {σ : zSto} {k : Nat} {v : Int} (hI : zInv σ) (hk : zro k = 1) (h : ∃ q : Nat, v = (q : Int) ∧ zro q = 8) : zInv (zset σ k 3 v) := zInv_set hI hk h
theorem zv_1_4 {σ : zSto} {k : Nat} (hI : zInv σ) (hk : zro k = 1) : ∃ q : Nat, σ k 4 = (q : Int) ∧ zro q = 8 := zInv_at hI hk 4
theorem zp_1_4 {σ : zSto} {k : Nat} {v : Int} (hI : zInv σ) (hk : zro k = 1) (h : ∃ q : Nat, v = (q : Int) ∧ zro q = 8) : zInv (zset σ k 4 v) := zInv_set hI hk h
theorem zv_1_5 {σ : zSto} {k : Nat} (hI : zInv σ) (hk : zro k = 1) : σ k 5 = ((k + 27 : Nat) : Int) := zInv_at hI hk 5
theorem zv_1_6 {σ : zSto} {k : Nat} (hI : zInv σ) (hk : zro k = 1) : σ k 6 = ((k + 33 : Nat) : Int) := zInv_at hI hk 6
theorem zv_1_7 {σ : zSto} {k : Nat} (hI : zInv σ) (hk : zro k = 1) : σ k 7 = ((k + 34 : Nat) : Int) := zInv_at hI hk 7
theorem zv_1_8 {σ : zSto} {k : Nat} (hI : zInv σ) (hk : zro k = 1) : σ k 8 = ((k + 35 : Nat) : Int) := zInv_at hI hk 8
theorem zv_1_9 {σ : zSto} {k : Nat} (hI : zInv σ) (hk : zro k = 1) : σ k 9 = ((k + 40 : Nat) : Int) := zInv_at hI hk 9
theorem zv_1_10 {σ : zSto} {k : Nat} (hI : zInv σ) (hk : zro k = 1) : σ k 10 = ((k + 45 : Nat) : Int) := zInv_at hI hk 10
theorem zv_1_11 {σ : zSto} {k : Nat} (hI : zInv σ) (hk : zro k = 1) : σ k 11 = ((k + 147 : Nat) : Int) := zInv_at hI hk 11
theorem zv_1_12 {σ : zSto} {k : Nat} (hI : zInv σ) (hk : zro k = 1) : σ k 12 = ((k + 153 : Nat) : Int) := zInv_at hI hk 12
theorem zv_1_13 {σ : zSto} {k : Nat} (hI : zInv σ) (hk : zro k = 1) : σ k 13 = ((k + 163 : Nat) : Int) := zInv_at hI hk 13
theorem zv_1_14 {σ : zSto} {k : Nat} (hI : zInv σ) (hk : zro k = 1) : -2147483648 ≤ σ k 14 ∧ σ k 14 ≤ 2147483647 := zInv_at hI hk 14
theorem zp_1_14 {σ : zSto} {k : Nat} {v : Int} (hI : zInv σ) (hk : zro k = 1) (h : -2147483648 ≤ v ∧ v ≤ 2147483647) : zInv (zset σ k 14 v) := zInv_set hI hk h
theorem zv_1_15 {σ : zSto} {k : Nat} (hI : zInv σ) (hk : zro k = 1) : -2147483648 ≤ σ k 15 ∧ σ k 15 ≤ 2147483647 := zInv_at hI hk 15
theorem zp_1_15 {σ : zSto} {k : Nat} {v : Int} (hI : zInv σ) (hk : zro k = 1) (h : -2147483648 ≤ v ∧ v ≤ 2147483647) : zInv (zset σ k 15 v) := zInv_set hI hk h
theorem zv_1_16 {σ : zSto} {k : Nat} (hI : zInv σ) (hk : zro k = 1) : -2147483648 ≤ σ k 16 ∧ σ k 16 ≤ 2147483647 := zInv_at hI hk 16
theorem zp_1_16 {σ : zSto} {k : Nat} {v : Int} (hI : zInv σ) (hk : zro k = 1) (h : -2147483648 ≤ v ∧ v ≤ 2147483647) : zInv (zset σ k 16 v) := zInv_set hI hk h
theorem zv_2_0 {σ : zSto} {k : Nat} (hI : zInv σ) (hk : zro k = 2) : σ k 0 = ((k + 1 : Nat) : Int) := zInv_at hI hk 0
theorem zv_2_1 {σ : zSto} {k : Nat} (hI : zInv σ) (hk : zro k = 2) : 0 ≤ σ k 1 ∧ σ k 1 ≤ 1600 := zInv_at hI hk 1
theorem zp_2_1 {σ : zSto} {k : Nat} {v : Int} (hI : zInv σ) (hk : zro k = 2) (h : 0 ≤ v ∧ v ≤ 1600) : zInv (zset σ k 1 v) := zInv_set hI hk h
theorem zv_3 {σ : zSto} {k : Nat} (hI : zInv σ) (hk : zro k = 3) (j : Nat) : -128 ≤ σ k j ∧ σ k j ≤ 127 := zInv_at hI hk j
theorem zp_3 {σ : zSto} {k : Nat} {v : Int} (hI : zInv σ) (hk : zro k = 3) (j : Nat) (h : -128 ≤ v ∧ v ≤ 127) : zInv (zset σ k j v) := zInv_set hI hk h
theorem zv_4_0 {σ : zSto} {k : Nat} (hI : zInv σ) (hk : zro k = 4) : σ k 0 = ((k + 1 : Nat) : Int) := zInv_at hI hk 0
theorem zv_4_1 {σ : zSto} {k : Nat} (hI : zInv σ) (hk : zro k = 4) : 0 ≤ σ k 1 ∧ σ k 1 ≤ 80 := zInv_at hI hk 1
theorem zp_4_1 {σ : zSto} {k : Nat} {v : Int} (hI : zInv σ) (hk : zro k = 4) (h : 0 ≤ v ∧ v ≤ 80) : zInv (zset σ k 1 v) := zInv_set hI hk h
theorem zv_5 {σ : zSto} {k : Nat} (hI : zInv σ) (hk : zro k = 5) (j : Nat) : -128 ≤ σ k j ∧ σ k j ≤ 127 := zInv_at hI hk j
theorem zp_5 {σ : zSto} {k : Nat} {v : Int} (hI : zInv σ) (hk : zro k = 5) (j : Nat) (h : -128 ≤ v ∧ v ≤ 127) : zInv (zset σ k j v) := zInv_set hI hk h
theorem zv_6_0 {σ : zSto} {k : Nat} (hI : zInv σ) (hk : zro k = 6) : σ k 0 = ((k + 1 : Nat) : Int) := zInv_at hI hk 0
theorem zv_6_1 {σ : zSto} {k : Nat} (hI : zInv σ) (hk : zro k = 6) : 0 ≤ σ k 1 ∧ σ k 1 ≤ 1600 := zInv_at hI hk 1
theorem zp_6_1 {σ : zSto} {k : Nat} {v : Int} (hI : zInv σ) (hk : zro k = 6) (h : 0 ≤ v ∧ v ≤ 1600) : zInv (zset σ k 1 v) := zInv_set hI hk h
theorem zv_7 {σ : zSto} {k : Nat} (hI : zInv σ) (hk : zro k = 7) (j : Nat) : -2147483648 ≤ σ k j ∧ σ k j ≤ 2147483647 := zInv_at hI hk j
theorem zp_7 {σ : zSto} {k : Nat} {v : Int} (hI : zInv σ) (hk : zro k = 7) (j : Nat) (h : -2147483648 ≤ v ∧ v ≤ 2147483647) : zInv (zset σ k j v) := zInv_set hI hk h
theorem zv_8_0 {σ : zSto} {k : Nat} (hI : zInv σ) (hk : zro k = 8) : σ k 0 = ((k + 1 : Nat) : Int) := zInv_at hI hk 0
theorem zv_8_1 {σ : zSto} {k : Nat} (hI : zInv σ) (hk : zro k = 8) : σ k 1 = ((k + 2 : Nat) : Int) := zInv_at hI hk 1
theorem zv_8_2 {σ : zSto} {k : Nat} (hI : zInv σ) (hk : zro k = 8) : σ k 2 = ((k + 3 : Nat) : Int) := zInv_at hI hk 2
theorem zv_8_3 {σ : zSto} {k : Nat} (hI : zInv σ) (hk : zro k = 8) : σ k 3 = ((k + 4 : Nat) : Int) := zInv_at hI hk 3
theorem zv_8_4 {σ : zSto} {k : Nat} (hI : zInv σ) (hk : zro k = 8) : σ k 4 = ((k + 5 : Nat) : Int) := zInv_at hI hk 4
theorem zv_8_5 {σ : zSto} {k : Nat} (hI : zInv σ) (hk : zro k = 8) : σ k 5 = ((k + 6 : Nat) : Int) := zInv_at hI hk 5
theorem zv_8_6 {σ : zSto} {k : Nat} (hI : zInv σ) (hk : zro k = 8) : σ k 6 = ((k + 8 : Nat) : Int) := zInv_at hI hk 6
theorem zv_8_7 {σ : zSto} {k : Nat} (hI : zInv σ) (hk : zro k = 8) : 0 ≤ σ k 7 ∧ σ k 7 ≤ 1 := zInv_at hI hk 7
theorem zp_8_7 {σ : zSto} {k : Nat} {v : Int} (hI : zInv σ) (hk : zro k = 8) (h : 0 ≤ v ∧ v ≤ 1) : zInv (zset σ k 7 v) := zInv_set hI hk h
theorem zv_8_8 {σ : zSto} {k : Nat} (hI : zInv σ) (hk : zro k = 8) : 0 ≤ σ k 8 ∧ σ k 8 ≤ 1 := zInv_at hI hk 8
theorem zp_8_8 {σ : zSto} {k : Nat} {v : Int} (hI : zInv σ) (hk : zro k = 8) (h : 0 ≤ v ∧ v ≤ 1) : zInv (zset σ k 8 v) := zInv_set hI hk h
theorem zv_8_9 {σ : zSto} {k : Nat} (hI : zInv σ) (hk : zro k = 8) : 0 ≤ σ k 9 ∧ σ k 9 ≤ 1 := zInv_at hI hk 9
theorem zp_8_9 {σ : zSto} {k : Nat} {v : Int} (hI : zInv σ) (hk : zro k = 8) (h : 0 ≤ v ∧ v ≤ 1) : zInv (zset σ k 9 v) := zInv_set hI hk h
theorem zv_8_10 {σ : zSto} {k : Nat} (hI : zInv σ) (hk : zro k = 8) : 0 ≤ σ k 10 ∧ σ k 10 ≤ 6 := zInv_at hI hk 10
theorem zp_8_10 {σ : zSto} {k : Nat} {v : Int} (hI : zInv σ) (hk : zro k = 8) (h : 0 ≤ v ∧ v ≤ 6) : zInv (zset σ k 10 v) := zInv_set hI hk h
theorem zv_8_11 {σ : zSto} {k : Nat} (hI : zInv σ) (hk : zro k = 8) : 0 ≤ σ k 11 ∧ σ k 11 ≤ 6 := zInv_at hI hk 11
theorem zp_8_11 {σ : zSto} {k : Nat} {v : Int} (hI : zInv σ) (hk : zro k = 8) (h : 0 ≤ v ∧ v ≤ 6) : zInv (zset σ k 11 v) := zInv_set hI hk h
theorem zv_8_12 {σ : zSto} {k : Nat} (hI : zInv σ) (hk : zro k = 8) : 0 ≤ σ k 12 ∧ σ k 12 ≤ 10 := zInv_at hI hk 12
theorem zp_8_12 {σ : zSto} {k : Nat} {v : Int} (hI : zInv σ) (hk : zro k = 8) (h : 0 ≤ v ∧ v ≤ 10) : zInv (zset σ k 12 v) := zInv_set hI hk h
theorem zv_8_13 {σ : zSto} {k : Nat} (hI : zInv σ) (hk : zro k = 8) : 0 ≤ σ k 13 ∧ σ k 13 ≤ 99 := zInv_at hI hk 13
theorem zp_8_13 {σ : zSto} {k : Nat} {v : Int} (hI : zInv σ) (hk : zro k = 8) (h : 0 ≤ v ∧ v ≤ 99) : zInv (zset σ k 13 v) := zInv_set hI hk h
theorem zv_8_14 {σ : zSto} {k : Nat} (hI : zInv σ) (hk : zro k = 8) : 0 ≤ σ k 14 ∧ σ k 14 ≤ 99 := zInv_at hI hk 14
theorem zp_8_14 {σ : zSto} {k : Nat} {v : Int} (hI : zInv σ) (hk : zro k = 8) (h : 0 ≤ v ∧ v ≤ 99) : zInv (zset σ k 14 v) := zInv_set hI hk h
theorem zv_8_15 {σ : zSto} {k : Nat} (hI : zInv σ) (hk : zro k = 8) : 0 ≤ σ k 15 ∧ σ k 15 ≤ 99 := zInv_at hI hk 15
theorem zp_8_15 {σ : zSto} {k : Nat} {v : Int} (hI : zInv σ) (hk : zro k = 8) (h : 0 ≤ v ∧ v ≤ 99) : zInv (zset σ k 15 v) := zInv_set hI hk h
theorem zv_8_16 {σ : zSto} {k : Nat} (hI : zInv σ) (hk : zro k = 8) : 0 ≤ σ k 16 ∧ σ k 16 ≤ 100 := zInv_at hI hk 16
theorem zp_8_16 {σ : zSto} {k : Nat} {v : Int} (hI : zInv σ) (hk : zro k = 8) (h : 0 ≤ v ∧ v ≤ 100) : zInv (zset σ k 16 v) := zInv_set hI hk h
theorem zv_9 {σ : zSto} {k : Nat} (hI : zInv σ) (hk : zro k = 9) (j : Nat) : 0 ≤ σ k j ∧ σ k j ≤ 99 := zInv_at hI hk j
theorem zp_9 {σ : zSto} {k : Nat} {v : Int} (hI : zInv σ) (hk : zro k = 9) (j : Nat) (h : 0 ≤ v ∧ v ≤ 99) : zInv (zset σ k j v) := zInv_set hI hk h
theorem zv_10 {σ : zSto} {k : Nat} (hI : zInv σ) (hk : zro k = 10) (j : Nat) : -2147483648 ≤ σ k j ∧ σ k j ≤ 2147483647 := zInv_at hI hk j
theorem zp_10 {σ : zSto} {k : Nat} {v : Int} (hI : zInv σ) (hk : zro k = 10) (j : Nat) (h : -2147483648 ≤ v ∧ v ≤ 2147483647) : zInv (zset σ k j v) := zInv_set hI hk h
theorem zv_11 {σ : zSto} {k : Nat} (hI : zInv σ) (hk : zro k = 11) (j : Nat) : 0 ≤ σ k j ∧ σ k j ≤ 5 := zInv_at hI hk j
theorem zp_11 {σ : zSto} {k : Nat} {v : Int} (hI : zInv σ) (hk : zro k = 11) (j : Nat) (h : 0 ≤ v ∧ v ≤ 5) : zInv (zset σ k j v) := zInv_set hI hk h
theorem zv_12 {σ : zSto} {k : Nat} (hI : zInv σ) (hk : zro k = 12) (j : Nat) : 0 ≤ σ k j ∧ σ k j ≤ 5 := zInv_at hI hk j
theorem zp_12 {σ : zSto} {k : Nat} {v : Int} (hI : zInv σ) (hk : zro k = 12) (j : Nat) (h : 0 ≤ v ∧ v ≤ 5) : zInv (zset σ k j v) := zInv_set hI hk h
theorem zv_13 {σ : zSto} {k : Nat} (hI : zInv σ) (hk : zro k = 13) (j : Nat) : 0 ≤ σ k j ∧ σ k j ≤ 99 := zInv_at hI hk j
theorem zp_13 {σ : zSto} {k : Nat} {v : Int} (hI : zInv σ) (hk : zro k = 13) (j : Nat) (h : 0 ≤ v ∧ v ≤ 99) : zInv (zset σ k j v) := zInv_set hI hk h
theorem zv_14_0 {σ : zSto} {k : Nat} (hI : zInv σ) (hk : zro k = 14) : σ k 0 = ((k + 1 : Nat) : Int) := zInv_at hI hk 0
theorem zv_14_1 {σ : zSto} {k : Nat} (hI : zInv σ) (hk : zro k = 14) : σ k 1 = ((k + 2 : Nat) : Int) := zInv_at hI hk 1
theorem zv_14_2 {σ : zSto} {k : Nat} (hI : zInv σ) (hk : zro k = 14) : σ k 2 = ((k + 3 : Nat) : Int) := zInv_at hI hk 2
theorem zv_14_3 {σ : zSto} {k : Nat} (hI : zInv σ) (hk : zro k = 14) : σ k 3 = ((k + 4 : Nat) : Int) := zInv_at hI hk 3
theorem zv_14_4 {σ : zSto} {k : Nat} (hI : zInv σ) (hk : zro k = 14) : σ k 4 = ((k + 5 : Nat) : Int) := zInv_at hI hk 4
theorem zv_14_5 {σ : zSto} {k : Nat} (hI : zInv σ) (hk : zro k = 14) : 0 ≤ σ k 5 ∧ σ k 5 ≤ 1601 := zInv_at hI hk 5
theorem zp_14_5 {σ : zSto} {k : Nat} {v : Int} (hI : zInv σ) (hk : zro k = 14) (h : 0 ≤ v ∧ v ≤ 1601) : zInv (zset σ k 5 v) := zInv_set hI hk h
theorem zv_14_6 {σ : zSto} {k : Nat} (hI : zInv σ) (hk : zro k = 14) : 0 ≤ σ k 6 ∧ σ k 6 ≤ 1600 := zInv_at hI hk 6
theorem zp_14_6 {σ : zSto} {k : Nat} {v : Int} (hI : zInv σ) (hk : zro k = 14) (h : 0 ≤ v ∧ v ≤ 1600) : zInv (zset σ k 6 v) := zInv_set hI hk h
theorem zv_14_7 {σ : zSto} {k : Nat} (hI : zInv σ) (hk : zro k = 14) : -2147483648 ≤ σ k 7 ∧ σ k 7 ≤ 2147483647 := zInv_at hI hk 7
theorem zp_14_7 {σ : zSto} {k : Nat} {v : Int} (hI : zInv σ) (hk : zro k = 14) (h : -2147483648 ≤ v ∧ v ≤ 2147483647) : zInv (zset σ k 7 v) := zInv_set hI hk h
theorem zv_14_8 {σ : zSto} {k : Nat} (hI : zInv σ) (hk : zro k = 14) : -2147483648 ≤ σ k 8 ∧ σ k 8 ≤ 2147483647 := zInv_at hI hk 8
theorem zp_14_8 {σ : zSto} {k : Nat} {v : Int} (hI : zInv σ) (hk : zro k = 14) (h : -2147483648 ≤ v ∧ v ≤ 2147483647) : zInv (zset σ k 8 v) := zInv_set hI hk h
theorem zv_15 {σ : zSto} {k : Nat} (hI : zInv σ) (hk : zro k = 15) (j : Nat) : -2147483648 ≤ σ k j ∧ σ k j ≤ 2147483647 := zInv_at hI hk j
theorem zp_15 {σ : zSto} {k : Nat} {v : Int} (hI : zInv σ) (hk : zro k = 15) (j : Nat) (h : -2147483648 ≤ v ∧ v ≤ 2147483647) : zInv (zset σ k j v) := zInv_set hI hk h
theorem zv_16 {σ : zSto} {k : Nat} (hI : zInv σ) (hk : zro k = 16) (j : Nat) : 0 ≤ σ k j ∧ σ k j ≤ 6 := zInv_at hI hk j
theorem zp_16 {σ : zSto} {k : Nat} {v : Int} (hI : zInv σ) (hk : zro k = 16) (j : Nat) (h : 0 ≤ v ∧ v ≤ 6) : zInv (zset σ k j v) := zInv_set hI hk h
theorem zv_17 {σ : zSto} {k : Nat} (hI : zInv σ) (hk : zro k = 17) (j : Nat) : 0 ≤ σ k j ∧ σ k j ≤ 10000 := zInv_at hI hk j
theorem zp_17 {σ : zSto} {k : Nat} {v : Int} (hI : zInv σ) (hk : zro k = 17) (j : Nat) (h : 0 ≤ v ∧ v ≤ 10000) : zInv (zset σ k j v) := zInv_set hI hk h
theorem zv_18 {σ : zSto} {k : Nat} (hI : zInv σ) (hk : zro k = 18) (j : Nat) : -2147483648 ≤ σ k j ∧ σ k j ≤ 2147483647 := zInv_at hI hk j
theorem zp_18 {σ : zSto} {k : Nat} {v : Int} (hI : zInv σ) (hk : zro k = 18) (j : Nat) (h : -2147483648 ≤ v ∧ v ≤ 2147483647) : zInv (zset σ k j v) := zInv_set hI hk h
theorem zv_19 {σ : zSto} {k : Nat} (hI : zInv σ) (hk : zro k = 19) (j : Nat) : -1 ≤ σ k j ∧ σ k j ≤ 32 := zInv_at hI hk j
theorem zp_19 {σ : zSto} {k : Nat} {v : Int} (hI : zInv σ) (hk : zro k = 19) (j : Nat) (h : -1 ≤ v ∧ v ≤ 32) : zInv (zset σ k j v) := zInv_set hI hk h
theorem zv_20_0 {σ : zSto} {k : Nat} (hI : zInv σ) (hk : zro k = 20) : σ k 0 = ((k - 6 : Nat) : Int) := zInv_at hI hk 0
theorem zv_20_1 {σ : zSto} {k : Nat} (hI : zInv σ) (hk : zro k = 20) : ∃ q : Nat, σ k 1 = (q : Int) ∧ zro q = 6 := zInv_at hI hk 1
theorem zp_20_1 {σ : zSto} {k : Nat} {v : Int} (hI : zInv σ) (hk : zro k = 20) (h : ∃ q : Nat, v = (q : Int) ∧ zro q = 6) : zInv (zset σ k 1 v) := zInv_set hI hk h
theorem zv_20_2 {σ : zSto} {k : Nat} (hI : zInv σ) (hk : zro k = 20) : 0 ≤ σ k 2 ∧ σ k 2 ≤ 2 := zInv_at hI hk 2
theorem zp_20_2 {σ : zSto} {k : Nat} {v : Int} (hI : zInv σ) (hk : zro k = 20) (h : 0 ≤ v ∧ v ≤ 2) : zInv (zset σ k 2 v) := zInv_set hI hk h
theorem zv_21_0 {σ : zSto} {k : Nat} (hI : zInv σ) (hk : zro k = 21) : σ k 0 = ((k - 7 : Nat) : Int) := zInv_at hI hk 0
theorem zv_21_1 {σ : zSto} {k : Nat} (hI : zInv σ) (hk : zro k = 21) : σ k 1 = ((k - 1 : Nat) : Int) := zInv_at hI hk 1
theorem zv_21_2 {σ : zSto} {k : Nat} (hI : zInv σ) (hk : zro k = 21) : ∃ q : Nat, σ k 2 = (q : Int) ∧ zro q = 8 := zInv_at hI hk 2
theorem zp_21_2 {σ : zSto} {k : Nat} {v : Int} (hI : zInv σ) (hk : zro k = 21) (h : ∃ q : Nat, v = (q : Int) ∧ zro q = 8) : zInv (zset σ k 2 v) := zInv_set hI hk h
theorem zv_22_0 {σ : zSto} {k : Nat} (hI : zInv σ) (hk : zro k = 22) : σ k 0 = ((k + 1 : Nat) : Int) := zInv_at hI hk 0
theorem zv_22_1 {σ : zSto} {k : Nat} (hI : zInv σ) (hk : zro k = 22) : σ k 1 = ((k + 2 : Nat) : Int) := zInv_at hI hk 1
theorem zv_22_2 {σ : zSto} {k : Nat} (hI : zInv σ) (hk : zro k = 22) : σ k 2 = ((k + 3 : Nat) : Int) := zInv_at hI hk 2
theorem zv_22_3 {σ : zSto} {k : Nat} (hI : zInv σ) (hk : zro k = 22) : σ k 3 = ((k + 4 : Nat) : Int) := zInv_at hI hk 3
theorem zv_22_4 {σ : zSto} {k : Nat} (hI : zInv σ) (hk : zro k = 22) : 0 ≤ σ k 4 ∧ σ k 4 ≤ 40 := zInv_at hI hk 4
theorem zp_22_4 {σ : zSto} {k : Nat} {v : Int} (hI : zInv σ) (hk : zro k = 22) (h : 0 ≤ v ∧ v ≤ 40) : zInv (zset σ k 4 v) := zInv_set hI hk h
theorem zv_22_5 {σ : zSto} {k : Nat} (hI : zInv σ) (hk : zro k = 22) : -2147483648 ≤ σ k 5 ∧ σ k 5 ≤ 2147483647 := zInv_at hI hk 5
theorem zp_22_5 {σ : zSto} {k : Nat} {v : Int} (hI : zInv σ) (hk : zro k = 22) (h : -2147483648 ≤ v ∧ v ≤ 2147483647) : zInv (zset σ k 5 v) := zInv_set hI hk h
theorem zv_22_6 {σ : zSto} {k : Nat} (hI : zInv σ) (hk : zro k = 22) : -9223372036854775808 ≤ σ k 6 ∧ σ k 6 ≤ 9223372036854775807 := zInv_at hI hk 6
theorem zp_22_6 {σ : zSto} {k : Nat} {v : Int} (hI : zInv σ) (hk : zro k = 22) (h : -9223372036854775808 ≤ v ∧ v ≤ 9223372036854775807) : zInv (zset σ k 6 v) := zInv_set hI hk h
theorem zv_22_7 {σ : zSto} {k : Nat} (hI : zInv σ) (hk : zro k = 22) : -2147483648 ≤ σ k 7 ∧ σ k 7 ≤ 2147483647 := zInv_at hI hk 7
theorem zp_22_7 {σ : zSto} {k : Nat} {v : Int} (hI : zInv σ) (hk : zro k = 22) (h : -2147483648 ≤ v ∧ v ≤ 2147483647) : zInv (zset σ k 7 v) := zInv_set hI hk h
theorem zv_23 {σ : zSto} {k : Nat} (hI : zInv σ) (hk : zro k = 23) (j : Nat) : -1 ≤ σ k j ∧ σ k j ≤ 255 := zInv_at hI hk j
theorem zp_23 {σ : zSto} {k : Nat} {v : Int} (hI : zInv σ) (hk : zro k = 23) (j : Nat) (h : -1 ≤ v ∧ v ≤ 255) : zInv (zset σ k j v) := zInv_set hI hk h
theorem zv_24 {σ : zSto} {k : Nat} (hI : zInv σ) (hk : zro k = 24) (j : Nat) : -1 ≤ σ k j ∧ σ k j ≤ 255 := zInv_at hI hk j
theorem zp_24 {σ : zSto} {k : Nat} {v : Int} (hI : zInv σ) (hk : zro k = 24) (j : Nat) (h : -1 ≤ v ∧ v ≤ 255) : zInv (zset σ k j v) := zInv_set hI hk h
theorem zv_25 {σ : zSto} {k : Nat} (hI : zInv σ) (hk : zro k = 25) (j : Nat) : -1 ≤ σ k j ∧ σ k j ≤ 255 := zInv_at hI hk j
theorem zp_25 {σ : zSto} {k : Nat} {v : Int} (hI : zInv σ) (hk : zro k = 25) (j : Nat) (h : -1 ≤ v ∧ v ≤ 255) : zInv (zset σ k j v) := zInv_set hI hk h
theorem zv_26 {σ : zSto} {k : Nat} (hI : zInv σ) (hk : zro k = 26) (j : Nat) : -2147483648 ≤ σ k j ∧ σ k j ≤ 2147483647 := zInv_at hI hk j
theorem zp_26 {σ : zSto} {k : Nat} {v : Int} (hI : zInv σ) (hk : zro k = 26) (j : Nat) (h : -2147483648 ≤ v ∧ v ≤ 2147483647) : zInv (zset σ k j v) := zInv_set hI hk h
theorem zv_27_0 {σ : zSto} {k : Nat} (hI : zInv σ) (hk : zro k = 27) : σ k 0 = ((k + 1 : Nat) : Int) := zInv_at hI hk 0
theorem zv_27_1 {σ : zSto} {k : Nat} (hI : zInv σ) (hk : zro k = 27) : 0 ≤ σ k 1 ∧ σ k 1 ≤ 19 := zInv_at hI hk 1
theorem zp_27_1 {σ : zSto} {k : Nat} {v : Int} (hI : zInv σ) (hk : zro k = 27) (h : 0 ≤ v ∧ v ≤ 19) : zInv (zset σ k 1 v) := zInv_set hI hk h
theorem zv_27_2 {σ : zSto} {k : Nat} (hI : zInv σ) (hk : zro k = 27) : 0 ≤ σ k 2 ∧ σ k 2 ≤ 20 := zInv_at hI hk 2
theorem zp_27_2 {σ : zSto} {k : Nat} {v : Int} (hI : zInv σ) (hk : zro k = 27) (h : 0 ≤ v ∧ v ≤ 20) : zInv (zset σ k 2 v) := zInv_set hI hk h
theorem zv_28 {σ : zSto} {k : Nat} (hI : zInv σ) (hk : zro k = 28) (j : Nat) (hj : j < 20) : σ k j = ((47 + 5 * j : Nat) : Int) := zInv_at hI hk j hj
theorem zv_29_0 {σ : zSto} {k : Nat} (hI : zInv σ) (hk : zro k = 29) : σ k 0 = ((k + 1 : Nat) : Int) := zInv_at hI hk 0
theorem zv_29_1 {σ : zSto} {k : Nat} (hI : zInv σ) (hk : zro k = 29) : σ k 1 = ((k + 2 : Nat) : Int) := zInv_at hI hk 1
theorem zv_29_2 {σ : zSto} {k : Nat} (hI : zInv σ) (hk : zro k = 29) : σ k 2 = ((k + 3 : Nat) : Int) := zInv_at hI hk 2
theorem zv_29_3 {σ : zSto} {k : Nat} (hI : zInv σ) (hk : zro k = 29) : σ k 3 = ((k + 4 : Nat) : Int) := zInv_at hI hk 3
theorem zv_29_4 {σ : zSto} {k : Nat} (hI : zInv σ) (hk : zro k = 29) : σ k 4 = ((k + 5 : Nat) : Int) := zInv_at hI hk 4
theorem zv_29_5 {σ : zSto} {k : Nat} (hI : zInv σ) (hk : zro k = 29) : 0 ≤ σ k 5 ∧ σ k 5 ≤ 12 := zInv_at hI hk 5
theorem zp_29_5 {σ : zSto} {k : Nat} {v : Int} (hI : zInv σ) (hk : zro k = 29) (h : 0 ≤ v ∧ v ≤ 12) : zInv (zset σ k 5 v) := zInv_set hI hk h
theorem zv_29_6 {σ : zSto} {k : Nat} (hI : zInv σ) (hk : zro k = 29) : 0 ≤ σ k 6 ∧ σ k 6 ≤ 1024 := zInv_at hI hk 6
theorem zp_29_6 {σ : zSto} {k : Nat} {v : Int} (hI : zInv σ) (hk : zro k = 29) (h : 0 ≤ v ∧ v ≤ 1024) : zInv (zset σ k 6 v) := zInv_set hI hk h
theorem zv_30 {σ : zSto} {k : Nat} (hI : zInv σ) (hk : zro k = 30) (j : Nat) : 0 ≤ σ k j ∧ σ k j ≤ 1 := zInv_at hI hk j
theorem zp_30 {σ : zSto} {k : Nat} {v : Int} (hI : zInv σ) (hk : zro k = 30) (j : Nat) (h : 0 ≤ v ∧ v ≤ 1) : zInv (zset σ k j v) := zInv_set hI hk h
theorem zv_31 {σ : zSto} {k : Nat} (hI : zInv σ) (hk : zro k = 31) (j : Nat) : -2147483648 ≤ σ k j ∧ σ k j ≤ 2147483647 := zInv_at hI hk j
theorem zp_31 {σ : zSto} {k : Nat} {v : Int} (hI : zInv σ) (hk : zro k = 31) (j : Nat) (h : -2147483648 ≤ v ∧ v ≤ 2147483647) : zInv (zset σ k j v) := zInv_set hI hk h
theorem zv_32 {σ : zSto} {k : Nat} (hI : zInv σ) (hk : zro k = 32) (j : Nat) : -2147483648 ≤ σ k j ∧ σ k j ≤ 2147483647 := zInv_at hI hk j
theorem zp_32 {σ : zSto} {k : Nat} {v : Int} (hI : zInv σ) (hk : zro k = 32) (j : Nat) (h : -2147483648 ≤ v ∧ v ≤ 2147483647) : zInv (zset σ k j v) := zInv_set hI hk h
theorem zv_33 {σ : zSto} {k : Nat} (hI : zInv σ) (hk : zro k = 33) (j : Nat) : 0 ≤ σ k j ∧ σ k j ≤ 35 := zInv_at hI hk j
theorem zp_33 {σ : zSto} {k : Nat} {v : Int} (hI : zInv σ) (hk : zro k = 33) (j : Nat) (h : 0 ≤ v ∧ v ≤ 35) : zInv (zset σ k j v) := zInv_set hI hk h
theorem zv_34 {σ : zSto} {k : Nat} (hI : zInv σ) (hk : zro k = 34) (j : Nat) : -2147483648 ≤ σ k j ∧ σ k j ≤ 2147483647 := zInv_at hI hk j
theorem zp_34 {σ : zSto} {k : Nat} {v : Int} (hI : zInv σ) (hk : zro k = 34) (j : Nat) (h : -2147483648 ≤ v ∧ v ≤ 2147483647) : zInv (zset σ k j v) := zInv_set hI hk h
theorem zv_35_0 {σ : zSto} {k : Nat} (hI : zInv σ) (hk : zro k = 35) : σ k 0 = ((k + 1 : Nat) : Int) := zInv_at hI hk 0
theorem zv_35_1 {σ : zSto} {k : Nat} (hI : zInv σ) (hk : zro k = 35) : σ k 1 = ((k + 5 : Nat) : Int) := zInv_at hI hk 1
theorem zv_35_2 {σ : zSto} {k : Nat} (hI : zInv σ) (hk : zro k = 35) : σ k 2 = ((k + 6 : Nat) : Int) := zInv_at hI hk 2
theorem zv_35_3 {σ : zSto} {k : Nat} (hI : zInv σ) (hk : zro k = 35) : σ k 3 = ((k + 7 : Nat) : Int) := zInv_at hI hk 3
theorem zv_35_4 {σ : zSto} {k : Nat} (hI : zInv σ) (hk : zro k = 35) : σ k 4 = ((k + 8 : Nat) : Int) := zInv_at hI hk 4
theorem zv_35_5 {σ : zSto} {k : Nat} (hI : zInv σ) (hk : zro k = 35) : σ k 5 = ((k + 9 : Nat) : Int) := zInv_at hI hk 5
theorem zv_35_6 {σ : zSto} {k : Nat} (hI : zInv σ) (hk : zro k = 35) : ∃ q : Nat, σ k 6 = (q : Int) ∧ zro q = 8 := zInv_at hI hk 6
theorem zp_35_6 {σ : zSto} {k : Nat} {v : Int} (hI : zInv σ) (hk : zro k = 35) (h : ∃ q : Nat, v = (q : Int) ∧ zro q = 8) : zInv (zset σ k 6 v) := zInv_set hI hk h
theorem zv_35_7 {σ : zSto} {k : Nat} (hI : zInv σ) (hk : zro k = 35) : ∃ q : Nat, σ k 7 = (q : Int) ∧ zro q = 22 := zInv_at hI hk 7
theorem zp_35_7 {σ : zSto} {k : Nat} {v : Int} (hI : zInv σ) (hk : zro k = 35) (h : ∃ q : Nat, v = (q : Int) ∧ zro q = 22) : zInv (zset σ k 7 v) := zInv_set hI hk h
theorem zv_35_8 {σ : zSto} {k : Nat} (hI : zInv σ) (hk : zro k = 35) : 0 ≤ σ k 8 ∧ σ k 8 ≤ 99 := zInv_at hI hk 8
theorem zp_35_8 {σ : zSto} {k : Nat} {v : Int} (hI : zInv σ) (hk : zro k = 35) (h : 0 ≤ v ∧ v ≤ 99) : zInv (zset σ k 8 v) := zInv_set hI hk h
theorem zv_35_9 {σ : zSto} {k : Nat} (hI : zInv σ) (hk : zro k = 35) : -2147483648 ≤ σ k 9 ∧ σ k 9 ≤ 2147483647 := zInv_at hI hk 9
theorem zp_35_9 {σ : zSto} {k : Nat} {v : Int} (hI : zInv σ) (hk : zro k = 35) (h : -2147483648 ≤ v ∧ v ≤ 2147483647) : zInv (zset σ k 9 v) := zInv_set hI hk h
theorem zv_35_10 {σ : zSto} {k : Nat} (hI : zInv σ) (hk : zro k = 35) : -2147483648 ≤ σ k 10 ∧ σ k 10 ≤ 2147483647 := zInv_at hI hk 10
theorem zp_35_10 {σ : zSto} {k : Nat} {v : Int} (hI : zInv σ) (hk : zro k = 35) (h : -2147483648 ≤ v ∧ v ≤ 2147483647) : zInv (zset σ k 10 v) := zInv_set hI hk h
theorem zv_35_11 {σ : zSto} {k : Nat} (hI : zInv σ) (hk : zro k = 35) : -9223372036854775808 ≤ σ k 11 ∧ σ k 11 ≤ 9223372036854775807 := zInv_at hI hk 11
theorem zp_35_11 {σ : zSto} {k : Nat} {v : Int} (hI : zInv σ) (hk : zro k = 35) (h : -9223372036854775808 ≤ v ∧ v ≤ 9223372036854775807) : zInv (zset σ k 11 v) := zInv_set hI hk h
theorem zv_35_12 {σ : zSto} {k : Nat} (hI : zInv σ) (hk : zro k = 35) : -2147483648 ≤ σ k 12 ∧ σ k 12 ≤ 2147483647 := zInv_at hI hk 12
theorem zp_35_12 {σ : zSto} {k : Nat} {v : Int} (hI : zInv σ) (hk : zro k = 35) (h : -2147483648 ≤ v ∧ v ≤ 2147483647) : zInv (zset σ k 12 v) := zInv_set hI hk h
theorem zv_35_13 {σ : zSto} {k : Nat} (hI : zInv σ) (hk : zro k = 35) : -2147483648 ≤ σ k 13 ∧ σ k 13 ≤ 2147483647 := zInv_at hI hk 13
theorem zp_35_13 {σ : zSto} {k : Nat} {v : Int} (hI : zInv σ) (hk : zro k = 35) (h : -2147483648 ≤ v ∧ v ≤ 2147483647) : zInv (zset σ k 13 v) := zInv_set hI hk h
theorem zv_36_0 {σ : zSto} {k : Nat} (hI : zInv σ) (hk : zro k = 36) : σ k 0 = ((k + 1 : Nat) : Int) := zInv_at hI hk 0
theorem zv_36_1 {σ : zSto} {k : Nat} (hI : zInv σ) (hk : zro k = 36) : σ k 1 = ((k + 2 : Nat) : Int) := zInv_at hI hk 1
theorem zv_36_2 {σ : zSto} {k : Nat} (hI : zInv σ) (hk : zro k = 36) : σ k 2 = ((k + 3 : Nat) : Int) := zInv_at hI hk 2
theorem zv_36_3 {σ : zSto} {k : Nat} (hI : zInv σ) (hk : zro k = 36) : 0 ≤ σ k 3 ∧ σ k 3 ≤ 10 := zInv_at hI hk 3
theorem zp_36_3 {σ : zSto} {k : Nat} {v : Int} (hI : zInv σ) (hk : zro k = 36) (h : 0 ≤ v ∧ v ≤ 10) : zInv (zset σ k 3 v) := zInv_set hI hk h
theorem zv_37 {σ : zSto} {k : Nat} (hI : zInv σ) (hk : zro k = 37) (j : Nat) : -2147483648 ≤ σ k j ∧ σ k j ≤ 2147483647 := zInv_at hI hk j
theorem zp_37 {σ : zSto} {k : Nat} {v : Int} (hI : zInv σ) (hk : zro k = 37) (j : Nat) (h : -2147483648 ≤ v ∧ v ≤ 2147483647) : zInv (zset σ k j v) := zInv_set hI hk h
theorem zv_38 {σ : zSto} {k : Nat} (hI : zInv σ) (hk : zro k = 38) (j : Nat) : -2147483648 ≤ σ k j ∧ σ k j ≤ 2147483647 := zInv_at hI hk j
theorem zp_38 {σ : zSto} {k : Nat} {v : Int} (hI : zInv σ) (hk : zro k = 38) (j : Nat) (h : -2147483648 ≤ v ∧ v ≤ 2147483647) : zInv (zset σ k j v) := zInv_set hI hk h
theorem zv_39 {σ : zSto} {k : Nat} (hI : zInv σ) (hk : zro k = 39) (j : Nat) : -2147483648 ≤ σ k j ∧ σ k j ≤ 2147483647 := zInv_at hI hk j
theorem zp_39 {σ : zSto} {k : Nat} {v : Int} (hI : zInv σ) (hk : zro k = 39) (j : Nat) (h : -2147483648 ≤ v ∧ v ≤ 2147483647) : zInv (zset σ k j v) := zInv_set hI hk h
theorem zv_40 {σ : zSto} {k : Nat} (hI : zInv σ) (hk : zro k = 40) (j : Nat) : -2147483648 ≤ σ k j ∧ σ k j ≤ 2147483647 := zInv_at hI hk j
theorem zp_40 {σ : zSto} {k : Nat} {v : Int} (hI : zInv σ) (hk : zro k = 40) (j : Nat) (h : -2147483648 ≤ v ∧ v ≤ 2147483647) : zInv (zset σ k j v) := zInv_set hI hk h
theorem zv_41 {σ : zSto} {k : Nat} (hI : zInv σ) (hk : zro k = 41) (j : Nat) : -2147483648 ≤ σ k j ∧ σ k j ≤ 2147483647 := zInv_at hI hk j
theorem zp_41 {σ : zSto} {k : Nat} {v : Int} (hI : zInv σ) (hk : zro k = 41) (j : Nat) (h : -2147483648 ≤ v ∧ v ≤ 2147483647) : zInv (zset σ k j v) := zInv_set hI hk h
theorem zv_42 {σ : zSto} {k : Nat} (hI : zInv σ) (hk : zro k = 42) (j : Nat) : -2147483648 ≤ σ k j ∧ σ k j ≤ 2147483647 := zInv_at hI hk j
theorem zp_42 {σ : zSto} {k : Nat} {v : Int} (hI : zInv σ) (hk : zro k = 42) (j : Nat) (h : -2147483648 ≤ v ∧ v ≤ 2147483647) : zInv (zset σ k j v) := zInv_set hI hk h
theorem zv_43 {σ : zSto} {k : Nat} (hI : zInv σ) (hk : zro k = 43) (j : Nat) : -2147483648 ≤ σ k j ∧ σ k j ≤ 2147483647 := zInv_at hI hk j
theorem zp_43 {σ : zSto} {k : Nat} {v : Int} (hI : zInv σ) (hk : zro k = 43) (j : Nat) (h : -2147483648 ≤ v ∧ v ≤ 2147483647) : zInv (zset σ k j v) := zInv_set hI hk h
theorem zv_44 {σ : zSto} {k : Nat} (hI : zInv σ) (hk : zro k = 44) (j : Nat) : -2147483648 ≤ σ k j ∧ σ k j ≤ 2147483647 := zInv_at hI hk j
theorem zp_44 {σ : zSto} {k : Nat} {v : Int} (hI : zInv σ) (hk : zro k = 44) (j : Nat) (h : -2147483648 ≤ v ∧ v ≤ 2147483647) : zInv (zset σ k j v) := zInv_set hI hk h
theorem zv_45 {σ : zSto} {k : Nat} (hI : zInv σ) (hk : zro k = 45) (j : Nat) : -2147483648 ≤ σ k j ∧ σ k j ≤ 2147483647 := zInv_at hI hk j
theorem zp_45 {σ : zSto} {k : Nat} {v : Int} (hI : zInv σ) (hk : zro k = 45) (j : Nat) (h : -2147483648 ≤ v ∧ v ≤ 2147483647) : zInv (zset σ k j v) := zInv_set hI hk h
theorem zv_46_0 {σ : zSto} {k : Nat} (hI : zInv σ) (hk : zro k = 46) : σ k 0 = ((k + 1 : Nat) : Int) := zInv_at hI hk 0
theorem zv_46_1 {σ : zSto} {k : Nat} (hI : zInv σ) (hk : zro k = 46) : 0 ≤ σ k 1 ∧ σ k 1 ≤ 1600 := zInv_at hI hk 1
theorem zp_46_1 {σ : zSto} {k : Nat} {v : Int} (hI : zInv σ) (hk : zro k = 46) (h : 0 ≤ v ∧ v ≤ 1600) : zInv (zset σ k 1 v) := zInv_set hI hk h
theorem zv_46_2 {σ : zSto} {k : Nat} (hI : zInv σ) (hk : zro k = 46) : 0 ≤ σ k 2 ∧ σ k 2 ≤ 1600 := zInv_at hI hk 2
theorem zp_46_2 {σ : zSto} {k : Nat} {v : Int} (hI : zInv σ) (hk : zro k = 46) (h : 0 ≤ v ∧ v ≤ 1600) : zInv (zset σ k 2 v) := zInv_set hI hk h
theorem zv_46_3 {σ : zSto} {k : Nat} (hI : zInv σ) (hk : zro k = 46) : 0 ≤ σ k 3 ∧ σ k 3 ≤ 1600 := zInv_at hI hk 3
theorem zp_46_3 {σ : zSto} {k : Nat} {v : Int} (hI : zInv σ) (hk : zro k = 46) (h : 0 ≤ v ∧ v ≤ 1600) : zInv (zset σ k 3 v) := zInv_set hI hk h
theorem zv_46_4 {σ : zSto} {k : Nat} (hI : zInv σ) (hk : zro k = 46) : -1 ≤ σ k 4 ∧ σ k 4 ≤ 1600 := zInv_at hI hk 4
theorem zp_46_4 {σ : zSto} {k : Nat} {v : Int} (hI : zInv σ) (hk : zro k = 46) (h : -1 ≤ v ∧ v ≤ 1600) : zInv (zset σ k 4 v) := zInv_set hI hk h
theorem zv_46_5 {σ : zSto} {k : Nat} (hI : zInv σ) (hk : zro k = 46) : -2147483648 ≤ σ k 5 ∧ σ k 5 ≤ 2147483647 := zInv_at hI hk 5
theorem zp_46_5 {σ : zSto} {k : Nat} {v : Int} (hI : zInv σ) (hk : zro k = 46) (h : -2147483648 ≤ v ∧ v ≤ 2147483647) : zInv (zset σ k 5 v) := zInv_set hI hk h
theorem zv_46_6 {σ : zSto} {k : Nat} (hI : zInv σ) (hk : zro k = 46) : -2147483648 ≤ σ k 6 ∧ σ k 6 ≤ 2147483647 := zInv_at hI hk 6
theorem zp_46_6 {σ : zSto} {k : Nat} {v : Int} (hI : zInv σ) (hk : zro k = 46) (h : -2147483648 ≤ v ∧ v ≤ 2147483647) : zInv (zset σ k 6 v) := zInv_set hI hk h
theorem zv_46_7 {σ : zSto} {k : Nat} (hI : zInv σ) (hk : zro k = 46) : -2147483648 ≤ σ k 7 ∧ σ k 7 ≤ 2147483647 := zInv_at hI hk 7
theorem zp_46_7 {σ : zSto} {k : Nat} {v : Int} (hI : zInv σ) (hk : zro k = 46) (h : -2147483648 ≤ v ∧ v ≤ 2147483647) : zInv (zset σ k 7 v) := zInv_set hI hk h
theorem zv_46_8 {σ : zSto} {k : Nat} (hI : zInv σ) (hk : zro k = 46) : -2147483648 ≤ σ k 8 ∧ σ k 8 ≤ 2147483647 := zInv_at hI hk 8
theorem zp_46_8 {σ : zSto} {k : Nat} {v : Int} (hI : zInv σ) (hk : zro k = 46) (h : -2147483648 ≤ v ∧ v ≤ 2147483647) : zInv (zset σ k 8 v) := zInv_set hI hk h
theorem zv_46_9 {σ : zSto} {k : Nat} (hI : zInv σ) (hk : zro k = 46) : σ k 9 = ((k + 2 : Nat) : Int) := zInv_at hI hk 9
theorem zv_46_10 {σ : zSto} {k : Nat} (hI : zInv σ) (hk : zro k = 46) : -2147483648 ≤ σ k 10 ∧ σ k 10 ≤ 2147483647 := zInv_at hI hk 10
theorem zp_46_10 {σ : zSto} {k : Nat} {v : Int} (hI : zInv σ) (hk : zro k = 46) (h : -2147483648 ≤ v ∧ v ≤ 2147483647) : zInv (zset σ k 10 v) := zInv_set hI hk h
theorem zv_46_11 {σ : zSto} {k : Nat} (hI : zInv σ) (hk : zro k = 46) : σ k 11 = ((k + 3 : Nat) : Int) := zInv_at hI hk 11
theorem zv_46_12 {σ : zSto} {k : Nat} (hI : zInv σ) (hk : zro k = 46) : σ k 12 = ((k + 4 : Nat) : Int) := zInv_at hI hk 12
theorem zv_46_13 {σ : zSto} {k : Nat} (hI : zInv σ) (hk : zro k = 46) : σ k 13 = ((k + 5 : Nat) : Int) := zInv_at hI hk 13
theorem zv_46_14 {σ : zSto} {k : Nat} (hI : zInv σ) (hk : zro k = 46) : σ k 14 = ((k + 6 : Nat) : Int) := zInv_at hI hk 14
theorem zv_46_15 {σ : zSto} {k : Nat} (hI : zInv σ) (hk : zro k = 46) : σ k 15 = ((k + 7 : Nat) : Int) := zInv_at hI hk 15
theorem zv_46_16 {σ : zSto} {k : Nat} (hI : zInv σ) (hk : zro k = 46) : σ k 16 = ((k + 8 : Nat) : Int) := zInv_at hI hk 16
theorem zv_46_17 {σ : zSto} {k : Nat} (hI : zInv σ) (hk : zro k = 46) : σ k 17 = ((k + 9 : Nat) : Int) := zInv_at hI hk 17
theorem zv_46_18 {σ : zSto} {k : Nat} (hI : zInv σ) (hk : zro k = 46) : σ k 18 = ((k + 10 : Nat) : Int) := zInv_at hI hk 18
theorem zv_46_19 {σ : zSto} {k : Nat} (hI : zInv σ) (hk : zro k = 46) : σ k 19 = ((k + 11 : Nat) : Int) := zInv_at hI hk 19
theorem zv_46_20 {σ : zSto} {k : Nat} (hI : zInv σ) (hk : zro k = 46) : σ k 20 = ((k + 12 : Nat) : Int) := zInv_at hI hk 20
theorem zv_46_21 {σ : zSto} {k : Nat} (hI : zInv σ) (hk : zro k = 46) : σ k 21 = ((k + 13 : Nat) : Int) := zInv_at hI hk 21
theorem zv_46_22 {σ : zSto} {k : Nat} (hI : zInv σ) (hk : zro k = 46) : σ k 22 = ((k + 14 : Nat) : Int) := zInv_at hI hk 22
theorem zv_46_23 {σ : zSto} {k : Nat} (hI : zInv σ) (hk : zro k = 46) : σ k 23 = ((k + 15 : Nat) : Int) := zInv_at hI hk 23
theorem zv_46_24 {σ : zSto} {k : Nat} (hI : zInv σ) (hk : zro k = 46) : σ k 24 = ((k + 16 : Nat) : Int) := zInv_at hI hk 24
theorem zv_46_25 {σ : zSto} {k : Nat} (hI : zInv σ) (hk : zro k = 46) : σ k 25 = ((k + 17 : Nat) : Int) := zInv_at hI hk 25
theorem zv_46_26 {σ : zSto} {k : Nat} (hI : zInv σ) (hk : zro k = 46) : σ k 26 = ((k + 18 : Nat) : Int) := zInv_at hI hk 26
theorem zv_46_27 {σ : zSto} {k : Nat} (hI : zInv σ) (hk : zro k = 46) : σ k 27 = ((k + 19 : Nat) : Int) := zInv_at hI hk 27
theorem zv_46_28 {σ : zSto} {k : Nat} (hI : zInv σ) (hk : zro k = 46) : σ k 28 = ((k + 20 : Nat) : Int) := zInv_at hI hk 28
theorem zv_46_29 {σ : zSto} {k : Nat} (hI : zInv σ) (hk : zro k = 46) : σ k 29 = ((k + 21 : Nat) : Int) := zInv_at hI hk 29
theorem zv_46_30 {σ : zSto} {k : Nat} (hI : zInv σ) (hk : zro k = 46) : σ k 30 = ((k + 22 : Nat) : Int) := zInv_at hI hk 30
theorem zv_46_31 {σ : zSto} {k : Nat} (hI : zInv σ) (hk : zro k = 46) : σ k 31 = ((k + 23 : Nat) : Int) := zInv_at hI hk 31
theorem zv_46_32 {σ : zSto} {k : Nat} (hI : zInv σ) (hk : zro k = 46) : σ k 32 = ((k + 24 : Nat) : Int) := zInv_at hI hk 32
theorem zv_46_33 {σ : zSto} {k : Nat} (hI : zInv σ) (hk : zro k = 46) : σ k 33 = ((k + 25 : Nat) : Int) := zInv_at hI hk 33
theorem zv_46_34 {σ : zSto} {k : Nat} (hI : zInv σ) (hk : zro k = 46) : σ k 34 = ((k + 26 : Nat) : Int) := zInv_at hI hk 34
theorem zv_46_35 {σ : zSto} {k : Nat} (hI : zInv σ) (hk : zro k = 46) : σ k 35 = ((k + 27 : Nat) : Int) := zInv_at hI hk 35
theorem zv_46_36 {σ : zSto} {k : Nat} (hI : zInv σ) (hk : zro k = 46) : σ k 36 = ((k + 28 : Nat) : Int) := zInv_at hI hk 36
theorem zv_46_37 {σ : zSto} {k : Nat} (hI : zInv σ) (hk : zro k = 46) : σ k 37 = ((k + 29 : Nat) : Int) := zInv_at hI hk 37
theorem zv_46_38 {σ : zSto} {k : Nat} (hI : zInv σ) (hk : zro k = 46) : -2147483648 ≤ σ k 38 ∧ σ k 38 ≤ 2147483647 := zInv_at hI hk 38
theorem zp_46_38 {σ : zSto} {k : Nat} {v : Int} (hI : zInv σ) (hk : zro k = 46) (h : -2147483648 ≤ v ∧ v ≤ 2147483647) : zInv (zset σ k 38 v) := zInv_set hI hk h
theorem zv_46_39 {σ : zSto} {k : Nat} (hI : zInv σ) (hk : zro k = 46) : σ k 39 = ((k + 30 : Nat) : Int) := zInv_at hI hk 39
theorem zv_46_40 {σ : zSto} {k : Nat} (hI : zInv σ) (hk : zro k = 46) : σ k 40 = ((k + 31 : Nat) : Int) := zInv_at hI hk 40
theorem zv_46_41 {σ : zSto} {k : Nat} (hI : zInv σ) (hk : zro k = 46) : σ k 41 = ((k + 32 : Nat) : Int) := zInv_at hI hk 41
theorem zv_46_42 {σ : zSto} {k : Nat} (hI : zInv σ) (hk : zro k = 46) : σ k 42 = ((k + 33 : Nat) : Int) := zInv_at hI hk 42
theorem zv_46_43 {σ : zSto} {k : Nat} (hI : zInv σ) (hk : zro k = 46) : σ k 43 = ((k + 34 : Nat) : Int) := zInv_at hI hk 43
theorem zv_46_44 {σ : zSto} {k : Nat} (hI : zInv σ) (hk : zro k = 46) : σ k 44 = ((k + 35 : Nat) : Int) := zInv_at hI hk 44
theorem zv_46_45 {σ : zSto} {k : Nat} (hI : zInv σ) (hk : zro k = 46) : σ k 45 = ((k + 36 : Nat) : Int) := zInv_at hI hk 45
theorem zv_46_46 {σ : zSto} {k : Nat} (hI : zInv σ) (hk : zro k = 46) : σ k 46 = ((k + 37 : Nat) : Int) := zInv_at hI hk 46
theorem zv_46_47 {σ : zSto} {k : Nat} (hI : zInv σ) (hk : zro k = 46) : σ k 47 = ((k + 38 : Nat) : Int) := zInv_at hI hk 47
theorem zv_46_48 {σ : zSto} {k : Nat} (hI : zInv σ) (hk : zro k = 46) : 0 ≤ σ k 48 ∧ σ k 48 ≤ 3200 := zInv_at hI hk 48
theorem zp_46_48 {σ : zSto} {k : Nat} {v : Int} (hI : zInv σ) (hk : zro k = 46) (h : 0 ≤ v ∧ v ≤ 3200) : zInv (zset σ k 48 v) := zInv_set hI hk h
theorem zv_46_49 {σ : zSto} {k : Nat} (hI : zInv σ) (hk : zro k = 46) : -2147483648 ≤ σ k 49 ∧ σ k 49 ≤ 2147483647 := zInv_at hI hk 49
theorem zp_46_49 {σ : zSto} {k : Nat} {v : Int} (hI : zInv σ) (hk : zro k = 46) (h : -2147483648 ≤ v ∧ v ≤ 2147483647) : zInv (zset σ k 49 v) := zInv_set hI hk h
theorem zv_46_50 {σ : zSto} {k : Nat} (hI : zInv σ) (hk : zro k = 46) : 0 ≤ σ k 50 ∧ σ k 50 ≤ 1 := zInv_at hI hk 50
theorem zp_46_50 {σ : zSto} {k : Nat} {v : Int} (hI : zInv σ) (hk : zro k = 46) (h : 0 ≤ v ∧ v ≤ 1) : zInv (zset σ k 50 v) := zInv_set hI hk h
theorem zv_46_51 {σ : zSto} {k : Nat} (hI : zInv σ) (hk : zro k = 46) : 0 ≤ σ k 51 ∧ σ k 51 ≤ 2 := zInv_at hI hk 51
theorem zp_46_51 {σ : zSto} {k : Nat} {v : Int} (hI : zInv σ) (hk : zro k = 46) (h : 0 ≤ v ∧ v ≤ 2) : zInv (zset σ k 51 v) := zInv_set hI hk h
theorem zv_46_52 {σ : zSto} {k : Nat} (hI : zInv σ) (hk : zro k = 46) : σ k 52 = ((k + 39 : Nat) : Int) := zInv_at hI hk 52
theorem zv_46_53 {σ : zSto} {k : Nat} (hI : zInv σ) (hk : zro k = 46) : σ k 53 = ((k + 40 : Nat) : Int) := zInv_at hI hk 53
theorem zv_46_54 {σ : zSto} {k : Nat} (hI : zInv σ) (hk : zro k = 46) : 0 ≤ σ k 54 ∧ σ k 54 ≤ 99 := zInv_at hI hk 54
theorem zp_46_54 {σ : zSto} {k : Nat} {v : Int} (hI : zInv σ) (hk : zro k = 46) (h : 0 ≤ v ∧ v ≤ 99) : zInv (zset σ k 54 v) := zInv_set hI hk h
theorem zv_46_55 {σ : zSto} {k : Nat} (hI : zInv σ) (hk : zro k = 46) : -2147483648 ≤ σ k 55 ∧ σ k 55 ≤ 2147483647 := zInv_at hI hk 55
theorem zp_46_55 {σ : zSto} {k : Nat} {v : Int} (hI : zInv σ) (hk : zro k = 46) (h : -2147483648 ≤ v ∧ v ≤ 2147483647) : zInv (zset σ k 55 v) := zInv_set hI hk h
theorem zv_46_56 {σ : zSto} {k : Nat} (hI : zInv σ) (hk : zro k = 46) : -2147483648 ≤ σ k 56 ∧ σ k 56 ≤ 2147483647 := zInv_at hI hk 56
theorem zp_46_56 {σ : zSto} {k : Nat} {v : Int} (hI : zInv σ) (hk : zro k = 46) (h : -2147483648 ≤ v ∧ v ≤ 2147483647) : zInv (zset σ k 56 v) := zInv_set hI hk h
theorem zv_46_57 {σ : zSto} {k : Nat} (hI : zInv σ) (hk : zro k = 46) : σ k 57 = ((k + 41 : Nat) : Int) := zInv_at hI hk 57
theorem zv_46_58 {σ : zSto} {k : Nat} (hI : zInv σ) (hk : zro k = 46) : -1 ≤ σ k 58 ∧ σ k 58 ≤ 35 := zInv_at hI hk 58
theorem zp_46_58 {σ : zSto} {k : Nat} {v : Int} (hI : zInv σ) (hk : zro k = 46) (h : -1 ≤ v ∧ v ≤ 35) : zInv (zset σ k 58 v) := zInv_set hI hk h
theorem zv_46_59 {σ : zSto} {k : Nat} (hI : zInv σ) (hk : zro k = 46) : 0 ≤ σ k 59 ∧ σ k 59 ≤ 1 := zInv_at hI hk 59
theorem zp_46_59 {σ : zSto} {k : Nat} {v : Int} (hI : zInv σ) (hk : zro k = 46) (h : 0 ≤ v ∧ v ≤ 1) : zInv (zset σ k 59 v) := zInv_set hI hk h
theorem zv_46_60 {σ : zSto} {k : Nat} (hI : zInv σ) (hk : zro k = 46) : -2147483648 ≤ σ k 60 ∧ σ k 60 ≤ 2147483647 := zInv_at hI hk 60
theorem zp_46_60 {σ : zSto} {k : Nat} {v : Int} (hI : zInv σ) (hk : zro k = 46) (h : -2147483648 ≤ v ∧ v ≤ 2147483647) : zInv (zset σ k 60 v) := zInv_set hI hk h
theorem zv_46_61 {σ : zSto} {k : Nat} (hI : zInv σ) (hk : zro k = 46) : σ k 61 = ((k + 42 : Nat) : Int) := zInv_at hI hk 61
theorem zv_46_62 {σ : zSto} {k : Nat} (hI : zInv σ) (hk : zro k = 46) : -2147483648 ≤ σ k 62 ∧ σ k 62 ≤ 2147483647 := zInv_at hI hk 62
theorem zp_46_62 {σ : zSto} {k : Nat} {v : Int} (hI : zInv σ) (hk : zro k = 46) (h : -2147483648 ≤ v ∧ v ≤ 2147483647) : zInv (zset σ k 62 v) := zInv_set hI hk h
theorem zv_46_63 {σ : zSto} {k : Nat} (hI : zInv σ) (hk : zro k = 46) : -2147483648 ≤ σ k 63 ∧ σ k 63 ≤ 2147483647 := zInv_at hI hk 63
theorem zp_46_63 {σ : zSto} {k : Nat} {v : Int} (hI : zInv σ) (hk : zro k = 46) (h : -2147483648 ≤ v ∧ v ≤ 2147483647) : zInv (zset σ k 63 v) := zInv_set hI hk h
theorem zv_46_64 {σ : zSto} {k : Nat} (hI : zInv σ) (hk : zro k = 46) : 0 ≤ σ k 64 ∧ σ k 64 ≤ 12 := zInv_at hI hk 64
theorem zp_46_64 {σ : zSto} {k : Nat} {v : Int} (hI : zInv σ) (hk : zro k = 46) (h : 0 ≤ v ∧ v ≤ 12) : zInv (zset σ k 64 v) := zInv_set hI hk h
theorem zv_46_65 {σ : zSto} {k : Nat} (hI : zInv σ) (hk : zro k = 46) : σ k 65 = ((k + 43 : Nat) : Int) := zInv_at hI hk 65
theorem zv_46_66 {σ : zSto} {k : Nat} (hI : zInv σ) (hk : zro k = 46) : σ k 66 = ((k + 44 : Nat) : Int) := zInv_at hI hk 66
theorem zv_46_67 {σ : zSto} {k : Nat} (hI : zInv σ) (hk : zro k = 46) : 0 ≤ σ k 67 ∧ σ k 67 ≤ 1024 := zInv_at hI hk 67
theorem zp_46_67 {σ : zSto} {k : Nat} {v : Int} (hI : zInv σ) (hk : zro k = 46) (h : 0 ≤ v ∧ v ≤ 1024) : zInv (zset σ k 67 v) := zInv_set hI hk h
theorem zv_46_68 {σ : zSto} {k : Nat} (hI : zInv σ) (hk : zro k = 46) : σ k 68 = ((k + 45 : Nat) : Int) := zInv_at hI hk 68
theorem zv_46_69 {σ : zSto} {k : Nat} (hI : zInv σ) (hk : zro k = 46) : σ k 69 = ((k + 46 : Nat) : Int) := zInv_at hI hk 69
theorem zv_46_70 {σ : zSto} {k : Nat} (hI : zInv σ) (hk : zro k = 46) : 0 ≤ σ k 70 ∧ σ k 70 ≤ 20 := zInv_at hI hk 70
theorem zp_46_70 {σ : zSto} {k : Nat} {v : Int} (hI : zInv σ) (hk : zro k = 46) (h : 0 ≤ v ∧ v ≤ 20) : zInv (zset σ k 70 v) := zInv_set hI hk h
theorem zv_46_71 {σ : zSto} {k : Nat} (hI : zInv σ) (hk : zro k = 46) : 0 ≤ σ k 71 ∧ σ k 71 ≤ 19 := zInv_at hI hk 71
theorem zp_46_71 {σ : zSto} {k : Nat} {v : Int} (hI : zInv σ) (hk : zro k = 46) (h : 0 ≤ v ∧ v ≤ 19) : zInv (zset σ k 71 v) := zInv_set hI hk h
theorem zv_46_72 {σ : zSto} {k : Nat} (hI : zInv σ) (hk : zro k = 46) : 0 ≤ σ k 72 ∧ σ k 72 ≤ 2147483647 := zInv_at hI hk 72
theorem zp_46_72 {σ : zSto} {k : Nat} {v : Int} (hI : zInv σ) (hk : zro k = 46) (h : 0 ≤ v ∧ v ≤ 2147483647) : zInv (zset σ k 72 v) := zInv_set hI hk h
theorem zv_46_73 {σ : zSto} {k : Nat} (hI : zInv σ) (hk : zro k = 46) : σ k 73 = ((k + 47 : Nat) : Int) := zInv_at hI hk 73
theorem zv_46_74 {σ : zSto} {k : Nat} (hI : zInv σ) (hk : zro k = 46) : σ k 74 = ((k + 48 : Nat) : Int) := zInv_at hI hk 74
theorem zv_46_75 {σ : zSto} {k : Nat} (hI : zInv σ) (hk : zro k = 46) : σ k 75 = ((k + 49 : Nat) : Int) := zInv_at hI hk 75
theorem zv_46_76 {σ : zSto} {k : Nat} (hI : zInv σ) (hk : zro k = 46) : σ k 76 = ((k + 50 : Nat) : Int) := zInv_at hI hk 76
theorem zv_46_77 {σ : zSto} {k : Nat} (hI : zInv σ) (hk : zro k = 46) : σ k 77 = ((k + 51 : Nat) : Int) := zInv_at hI hk 77
theorem zv_46_78 {σ : zSto} {k : Nat} (hI : zInv σ) (hk : zro k = 46) : σ k 78 = ((k + 52 : Nat) : Int) := zInv_at hI hk 78
theorem zv_46_79 {σ : zSto} {k : Nat} (hI : zInv σ) (hk : zro k = 46) : σ k 79 = ((k + 53 : Nat) : Int) := zInv_at hI hk 79
theorem zv_46_80 {σ : zSto} {k : Nat} (hI : zInv σ) (hk : zro k = 46) : σ k 80 = ((k + 54 : Nat) : Int) := zInv_at hI hk 80
theorem zv_46_81 {σ : zSto} {k : Nat} (hI : zInv σ) (hk : zro k = 46) : σ k 81 = ((k + 55 : Nat) : Int) := zInv_at hI hk 81
theorem zv_46_82 {σ : zSto} {k : Nat} (hI : zInv σ) (hk : zro k = 46) : σ k 82 = ((k + 56 : Nat) : Int) := zInv_at hI hk 82
theorem zv_46_83 {σ : zSto} {k : Nat} (hI : zInv σ) (hk : zro k = 46) : σ k 83 = ((k + 57 : Nat) : Int) := zInv_at hI hk 83
theorem zv_46_84 {σ : zSto} {k : Nat} (hI : zInv σ) (hk : zro k = 46) : σ k 84 = ((k + 58 : Nat) : Int) := zInv_at hI hk 84
theorem zv_46_85 {σ : zSto} {k : Nat} (hI : zInv σ) (hk : zro k = 46) : σ k 85 = ((k + 59 : Nat) : Int) := zInv_at hI hk 85
theorem zv_46_86 {σ : zSto} {k : Nat} (hI : zInv σ) (hk : zro k = 46) : σ k 86 = ((k + 60 : Nat) : Int) := zInv_at hI hk 86
theorem zv_46_87 {σ : zSto} {k : Nat} (hI : zInv σ) (hk : zro k = 46) : σ k 87 = ((k + 61 : Nat) : Int) := zInv_at hI hk 87
theorem zv_46_88 {σ : zSto} {k : Nat} (hI : zInv σ) (hk : zro k = 46) : σ k 88 = ((k + 62 : Nat) : Int) := zInv_at hI hk 88
theorem zv_46_89 {σ : zSto} {k : Nat} (hI : zInv σ) (hk : zro k = 46) : σ k 89 = ((k + 63 : Nat) : Int) := zInv_at hI hk 89
theorem zv_46_90 {σ : zSto} {k : Nat} (hI : zInv σ) (hk : zro k = 46) : σ k 90 = ((k + 64 : Nat) : Int) := zInv_at hI hk 90
theorem zv_46_91 {σ : zSto} {k : Nat} (hI : zInv σ) (hk : zro k = 46) : σ k 91 = ((k + 65 : Nat) : Int) := zInv_at hI hk 91
theorem zv_46_92 {σ : zSto} {k : Nat} (hI : zInv σ) (hk : zro k = 46) : σ k 92 = ((k + 66 : Nat) : Int) := zInv_at hI hk 92
theorem zv_46_93 {σ : zSto} {k : Nat} (hI : zInv σ) (hk : zro k = 46) : σ k 93 = ((k + 67 : Nat) : Int) := zInv_at hI hk 93
theorem zv_46_94 {σ : zSto} {k : Nat} (hI : zInv σ) (hk : zro k = 46) : σ k 94 = ((k + 68 : Nat) : Int) := zInv_at hI hk 94
theorem zv_46_95 {σ : zSto} {k : Nat} (hI : zInv σ) (hk : zro k = 46) : σ k 95 = ((k + 69 : Nat) : Int) := zInv_at hI hk 95
theorem zv_46_96 {σ : zSto} {k : Nat} (hI : zInv σ) (hk : zro k = 46) : σ k 96 = ((k + 70 : Nat) : Int) := zInv_at hI hk 96
theorem zv_46_97 {σ : zSto} {k : Nat} (hI : zInv σ) (hk : zro k = 46) : 0 ≤ σ k 97 ∧ σ k 97 ≤ 1700 := zInv_at hI hk 97
theorem zp_46_97 {σ : zSto} {k : Nat} {v : Int} (hI : zInv σ) (hk : zro k = 46) (h : 0 ≤ v ∧ v ≤ 1700) : zInv (zset σ k 97 v) := zInv_set hI hk h
theorem zv_46_98 {σ : zSto} {k : Nat} (hI : zInv σ) (hk : zro k = 46) : σ k 98 = ((k + 71 : Nat) : Int) := zInv_at hI hk 98
theorem zv_46_99 {σ : zSto} {k : Nat} (hI : zInv σ) (hk : zro k = 46) : 0 ≤ σ k 99 ∧ σ k 99 ≤ 1700 := zInv_at hI hk 99
theorem zp_46_99 {σ : zSto} {k : Nat} {v : Int} (hI : zInv σ) (hk : zro k = 46) (h : 0 ≤ v ∧ v ≤ 1700) : zInv (zset σ k 99 v) := zInv_set hI hk h
theorem zv_46_100 {σ : zSto} {k : Nat} (hI : zInv σ) (hk : zro k = 46) : -2147483648 ≤ σ k 100 ∧ σ k 100 ≤ 2147483647 := zInv_at hI hk 100
theorem zp_46_100 {σ : zSto} {k : Nat} {v : Int} (hI : zInv σ) (hk : zro k = 46) (h : -2147483648 ≤ v ∧ v ≤ 2147483647) : zInv (zset σ k 100 v) := zInv_set hI hk h
theorem zv_46_101 {σ : zSto} {k : Nat} (hI : zInv σ) (hk : zro k = 46) : 0 ≤ σ k 101 ∧ σ k 101 ≤ 1700 := zInv_at hI hk 101
theorem zp_46_101 {σ : zSto} {k : Nat} {v : Int} (hI : zInv σ) (hk : zro k = 46) (h : 0 ≤ v ∧ v ≤ 1700) : zInv (zset σ k 101 v) := zInv_set hI hk h
theorem zv_46_102 {σ : zSto} {k : Nat} (hI : zInv σ) (hk : zro k = 46) : σ k 102 = ((k + 72 : Nat) : Int) := zInv_at hI hk 102
theorem zv_46_103 {σ : zSto} {k : Nat} (hI : zInv σ) (hk : zro k = 46) : 0 ≤ σ k 103 ∧ σ k 103 ≤ 1700 := zInv_at hI hk 103
theorem zp_46_103 {σ : zSto} {k : Nat} {v : Int} (hI : zInv σ) (hk : zro k = 46) (h : 0 ≤ v ∧ v ≤ 1700) : zInv (zset σ k 103 v) := zInv_set hI hk h
theorem zv_46_104 {σ : zSto} {k : Nat} (hI : zInv σ) (hk : zro k = 46) : -9223372036854775808 ≤ σ k 104 ∧ σ k 104 ≤ 9223372036854775807 := zInv_at hI hk 104
theorem zp_46_104 {σ : zSto} {k : Nat} {v : Int} (hI : zInv σ) (hk : zro k = 46) (h : -9223372036854775808 ≤ v ∧ v ≤ 9223372036854775807) : zInv (zset σ k 104 v) := zInv_set hI hk h
theorem zv_46_105 {σ : zSto} {k : Nat} (hI : zInv σ) (hk : zro k = 46) : 0 ≤ σ k 105 ∧ σ k 105 ≤ 1 := zInv_at hI hk 105
theorem zp_46_105 {σ : zSto} {k : Nat} {v : Int} (hI : zInv σ) (hk : zro k = 46) (h : 0 ≤ v ∧ v ≤ 1) : zInv (zset σ k 105 v) := zInv_set hI hk h
theorem zv_46_106 {σ : zSto} {k : Nat} (hI : zInv σ) (hk : zro k = 46) : σ k 106 = ((k + 73 : Nat) : Int) := zInv_at hI hk 106
theorem zv_46_107 {σ : zSto} {k : Nat} (hI : zInv σ) (hk : zro k = 46) : 0 ≤ σ k 107 ∧ σ k 107 ≤ 79 := zInv_at hI hk 107
theorem zp_46_107 {σ : zSto} {k : Nat} {v : Int} (hI : zInv σ) (hk : zro k = 46) (h : 0 ≤ v ∧ v ≤ 79) : zInv (zset σ k 107 v) := zInv_set hI hk h
theorem zv_47 {σ : zSto} {k : Nat} (hI : zInv σ) (hk : zro k = 47) (j : Nat) : 0 ≤ σ k j ∧ σ k j ≤ 255 := zInv_at hI hk j
theorem zp_47 {σ : zSto} {k : Nat} {v : Int} (hI : zInv σ) (hk : zro k = 47) (j : Nat) (h : 0 ≤ v ∧ v ≤ 255) : zInv (zset σ k j v) := zInv_set hI hk h
theorem zv_48 {σ : zSto} {k : Nat} (hI : zInv σ) (hk : zro k = 48) (j : Nat) : -2147483648 ≤ σ k j ∧ σ k j ≤ 2147483647 := zInv_at hI hk j
theorem zp_48 {σ : zSto} {k : Nat} {v : Int} (hI : zInv σ) (hk : zro k = 48) (j : Nat) (h : -2147483648 ≤ v ∧ v ≤ 2147483647) : zInv (zset σ k j v) := zInv_set hI hk h
theorem zv_49 {σ : zSto} {k : Nat} (hI : zInv σ) (hk : zro k = 49) (j : Nat) : 0 ≤ σ k j ∧ σ k j ≤ 65535 := zInv_at hI hk j
theorem zp_49 {σ : zSto} {k : Nat} {v : Int} (hI : zInv σ) (hk : zro k = 49) (j : Nat) (h : 0 ≤ v ∧ v ≤ 65535) : zInv (zset σ k j v) := zInv_set hI hk h
theorem zv_50 {σ : zSto} {k : Nat} (hI : zInv σ) (hk : zro k = 50) (j : Nat) : 0 ≤ σ k j ∧ σ k j ≤ 65535 := zInv_at hI hk j
theorem zp_50 {σ : zSto} {k : Nat} {v : Int} (hI : zInv σ) (hk : zro k = 50) (j : Nat) (h : 0 ≤ v ∧ v ≤ 65535) : zInv (zset σ k j v) := zInv_set hI hk h
theorem zv_51 {σ : zSto} {k : Nat} (hI : zInv σ) (hk : zro k = 51) (j : Nat) : 0 ≤ σ k j ∧ σ k j ≤ 65535 := zInv_at hI hk j
theorem zp_51 {σ : zSto} {k : Nat} {v : Int} (hI : zInv σ) (hk : zro k = 51) (j : Nat) (h : 0 ≤ v ∧ v ≤ 65535) : zInv (zset σ k j v) := zInv_set hI hk h
theorem zv_52 {σ : zSto} {k : Nat} (hI : zInv σ) (hk : zro k = 52) (j : Nat) : 0 ≤ σ k j ∧ σ k j ≤ 65535 := zInv_at hI hk j
theorem zp_52 {σ : zSto} {k : Nat} {v : Int} (hI : zInv σ) (hk : zro k = 52) (j : Nat) (h : 0 ≤ v ∧ v ≤ 65535) : zInv (zset σ k j v) := zInv_set hI hk h
theorem zv_53 {σ : zSto} {k : Nat} (hI : zInv σ) (hk : zro k = 53) (j : Nat) : 0 ≤ σ k j ∧ σ k j ≤ 65535 := zInv_at hI hk j
theorem zp_53 {σ : zSto} {k : Nat} {v : Int} (hI : zInv σ) (hk : zro k = 53) (j : Nat) (h : 0 ≤ v ∧ v ≤ 65535) : zInv (zset σ k j v) := zInv_set hI hk h
theorem zv_54 {σ : zSto} {k : Nat} (hI : zInv σ) (hk : zro k = 54) (j : Nat) : 0 ≤ σ k j ∧ σ k j ≤ 65535 := zInv_at hI hk j
theorem zp_54 {σ : zSto} {k : Nat} {v : Int} (hI : zInv σ) (hk : zro k = 54) (j : Nat) (h : 0 ≤ v ∧ v ≤ 65535) : zInv (zset σ k j v) := zInv_set hI hk h
theorem zv_55 {σ : zSto} {k : Nat} (hI : zInv σ) (hk : zro k = 55) (j : Nat) : 0 ≤ σ k j ∧ σ k j ≤ 65535 := zInv_at hI hk j
theorem zp_55 {σ : zSto} {k : Nat} {v : Int} (hI : zInv σ) (hk : zro k = 55) (j : Nat) (h : 0 ≤ v ∧ v ≤ 65535) : zInv (zset σ k j v) := zInv_set hI hk h
theorem zv_56 {σ : zSto} {k : Nat} (hI : zInv σ) (hk : zro k = 56) (j : Nat) : 0 ≤ σ k j ∧ σ k j ≤ 65535 := zInv_at hI hk j
theorem zp_56 {σ : zSto} {k : Nat} {v : Int} (hI : zInv σ) (hk : zro k = 56) (j : Nat) (h : 0 ≤ v ∧ v ≤ 65535) : zInv (zset σ k j v) := zInv_set hI hk h
theorem zv_57 {σ : zSto} {k : Nat} (hI : zInv σ) (hk : zro k = 57) (j : Nat) : 0 ≤ σ k j ∧ σ k j ≤ 65535 := zInv_at hI hk j
theorem zp_57 {σ : zSto} {k : Nat} {v : Int} (hI : zInv σ) (hk : zro k = 57) (j : Nat) (h : 0 ≤ v ∧ v ≤ 65535) : zInv (zset σ k j v) := zInv_set hI hk h
theorem zv_58 {σ : zSto} {k : Nat} (hI : zInv σ) (hk : zro k = 58) (j : Nat) : 0 ≤ σ k j ∧ σ k j ≤ 65535 := zInv_at hI hk j
theorem zp_58 {σ : zSto} {k : Nat} {v : Int} (hI : zInv σ) (hk : zro k = 58) (j : Nat) (h : 0 ≤ v ∧ v ≤ 65535) : zInv (zset σ k j v) := zInv_set hI hk h
theorem zv_59 {σ : zSto} {k : Nat} (hI : zInv σ) (hk : zro k = 59) (j : Nat) : 0 ≤ σ k j ∧ σ k j ≤ 65535 := zInv_at hI hk j
theorem zp_59 {σ : zSto} {k : Nat} {v : Int} (hI : zInv σ) (hk : zro k = 59) (j : Nat) (h : 0 ≤ v ∧ v ≤ 65535) : zInv (zset σ k j v) := zInv_set hI hk h
theorem zv_60 {σ : zSto} {k : Nat} (hI : zInv σ) (hk : zro k = 60) (j : Nat) : 0 ≤ σ k j ∧ σ k j ≤ 65535 := zInv_at hI hk j
theorem zp_60 {σ : zSto} {k : Nat} {v : Int} (hI : zInv σ) (hk : zro k = 60) (j : Nat) (h : 0 ≤ v ∧ v ≤ 65535) : zInv (zset σ k j v) := zInv_set hI hk h
theorem zv_61 {σ : zSto} {k : Nat} (hI : zInv σ) (hk : zro k = 61) (j : Nat) : 0 ≤ σ k j ∧ σ k j ≤ 65535 := zInv_at hI hk j
theorem zp_61 {σ : zSto} {k : Nat} {v : Int} (hI : zInv σ) (hk : zro k = 61) (j : Nat) (h : 0 ≤ v ∧ v ≤ 65535) : zInv (zset σ k j v) := zInv_set hI hk h
theorem zv_62 {σ : zSto} {k : Nat} (hI : zInv σ) (hk : zro k = 62) (j : Nat) : 0 ≤ σ k j ∧ σ k j ≤ 65535 := zInv_at hI hk j
theorem zp_62 {σ : zSto} {k : Nat} {v : Int} (hI : zInv σ) (hk : zro k = 62) (j : Nat) (h : 0 ≤ v ∧ v ≤ 65535) : zInv (zset σ k j v) := zInv_set hI hk h
theorem zv_63 {σ : zSto} {k : Nat} (hI : zInv σ) (hk : zro k = 63) (j : Nat) : 0 ≤ σ k j ∧ σ k j ≤ 65535 := zInv_at hI hk j
theorem zp_63 {σ : zSto} {k : Nat} {v : Int} (hI : zInv σ) (hk : zro k = 63) (j : Nat) (h : 0 ≤ v ∧ v ≤ 65535) : zInv (zset σ k j v) := zInv_set hI hk h
theorem zv_64 {σ : zSto} {k : Nat} (hI : zInv σ) (hk : zro k = 64) (j : Nat) : 0 ≤ σ k j ∧ σ k j ≤ 65535 := zInv_at hI hk j
theorem zp_64 {σ : zSto} {k : Nat} {v : Int} (hI : zInv σ) (hk : zro k = 64) (j : Nat) (h : 0 ≤ v ∧ v ≤ 65535) : zInv (zset σ k j v) := zInv_set hI hk h
theorem zv_65 {σ : zSto} {k : Nat} (hI : zInv σ) (hk : zro k = 65) (j : Nat) : 0 ≤ σ k j ∧ σ k j ≤ 65535 := zInv_at hI hk j
theorem zp_65 {σ : zSto} {k : Nat} {v : Int} (hI : zInv σ) (hk : zro k = 65) (j : Nat) (h : 0 ≤ v ∧ v ≤ 65535) : zInv (zset σ k j v) := zInv_set hI hk h
theorem zv_66 {σ : zSto} {k : Nat} (hI : zInv σ) (hk : zro k = 66) (j : Nat) : 0 ≤ σ k j ∧ σ k j ≤ 65535 := zInv_at hI hk j
theorem zp_66 {σ : zSto} {k : Nat} {v : Int} (hI : zInv σ) (hk : zro k = 66) (j : Nat) (h : 0 ≤ v ∧ v ≤ 65535) : zInv (zset σ k j v) := zInv_set hI hk h
theorem zv_67 {σ : zSto} {k : Nat} (hI : zInv σ) (hk : zro k = 67) (j : Nat) : 0 ≤ σ k j ∧ σ k j ≤ 65535 := zInv_at hI hk j
theorem zp_67 {σ : zSto} {k : Nat} {v : Int} (hI : zInv σ) (hk : zro k = 67) (j : Nat) (h : 0 ≤ v ∧ v ≤ 65535) : zInv (zset σ k j v) := zInv_set hI hk h
theorem zv_68 {σ : zSto} {k : Nat} (hI : zInv σ) (hk : zro k = 68) (j : Nat) : 0 ≤ σ k j ∧ σ k j ≤ 65535 := zInv_at hI hk j
theorem zp_68 {σ : zSto} {k : Nat} {v : Int} (hI : zInv σ) (hk : zro k = 68) (j : Nat) (h : 0 ≤ v ∧ v ≤ 65535) : zInv (zset σ k j v) := zInv_set hI hk h
theorem zv_69 {σ : zSto} {k : Nat} (hI : zInv σ) (hk : zro k = 69) (j : Nat) : 0 ≤ σ k j ∧ σ k j ≤ 65535 := zInv_at hI hk j
theorem zp_69 {σ : zSto} {k : Nat} {v : Int} (hI : zInv σ) (hk : zro k = 69) (j : Nat) (h : 0 ≤ v ∧ v ≤ 65535) : zInv (zset σ k j v) := zInv_set hI hk h
theorem zv_70 {σ : zSto} {k : Nat} (hI : zInv σ) (hk : zro k = 70) (j : Nat) : 0 ≤ σ k j ∧ σ k j ≤ 65535 := zInv_at hI hk j
theorem zp_70 {σ : zSto} {k : Nat} {v : Int} (hI : zInv σ) (hk : zro k = 70) (j : Nat) (h : 0 ≤ v ∧ v ≤ 65535) : zInv (zset σ k j v) := zInv_set hI hk h
theorem zv_71 {σ : zSto} {k : Nat} (hI : zInv σ) (hk : zro k = 71) (j : Nat) : 0 ≤ σ k j ∧ σ k j ≤ 65535 := zInv_at hI hk j
theorem zp_71 {σ : zSto} {k : Nat} {v : Int} (hI : zInv σ) (hk : zro k = 71) (j : Nat) (h : 0 ≤ v ∧ v ≤ 65535) : zInv (zset σ k j v) := zInv_set hI hk h
theorem zv_72 {σ : zSto} {k : Nat} (hI : zInv σ) (hk : zro k = 72) (j : Nat) : 0 ≤ σ k j ∧ σ k j ≤ 65535 := zInv_at hI hk j
theorem zp_72 {σ : zSto} {k : Nat} {v : Int} (hI : zInv σ) (hk : zro k = 72) (j : Nat) (h : 0 ≤ v ∧ v ≤ 65535) : zInv (zset σ k j v) := zInv_set hI hk h
theorem zv_73 {σ : zSto} {k : Nat} (hI : zInv σ) (hk : zro k = 73) (j : Nat) : 0 ≤ σ k j ∧ σ k j ≤ 65535 := zInv_at hI hk j
theorem zp_73 {σ : zSto} {k : Nat} {v : Int} (hI : zInv σ) (hk : zro k = 73) (j : Nat) (h : 0 ≤ v ∧ v ≤ 65535) : zInv (zset σ k j v) := zInv_set hI hk h
theorem zv_74 {σ : zSto} {k : Nat} (hI : zInv σ) (hk : zro k = 74) (j : Nat) : 0 ≤ σ k j ∧ σ k j ≤ 65535 := zInv_at hI hk j
theorem zp_74 {σ : zSto} {k : Nat} {v : Int} (hI : zInv σ) (hk : zro k = 74) (j : Nat) (h : 0 ≤ v ∧ v ≤ 65535) : zInv (zset σ k j v) := zInv_set hI hk h
theorem zv_75 {σ : zSto} {k : Nat} (hI : zInv σ) (hk : zro k = 75) (j : Nat) : 0 ≤ σ k j ∧ σ k j ≤ 65535 := zInv_at hI hk j
theorem zp_75 {σ : zSto} {k : Nat} {v : Int} (hI : zInv σ) (hk : zro k = 75) (j : Nat) (h : 0 ≤ v ∧ v ≤ 65535) : zInv (zset σ k j v) := zInv_set hI hk h
theorem zv_76 {σ : zSto} {k : Nat} (hI : zInv σ) (hk : zro k = 76) (j : Nat) : (-2147483648 ≤ (σ k j) ∧ (σ k j) ≤ 2147483647) ∧ (j = 3 ∨ j = 4 → 0 ≤ (σ k j) ∧ (σ k j) ≤ 6) := zInv_at hI hk j
theorem zp_76 {σ : zSto} {k : Nat} {v : Int} (hI : zInv σ) (hk : zro k = 76) (j : Nat) (h : (-2147483648 ≤ v ∧ v ≤ 2147483647) ∧ (j = 3 ∨ j = 4 → 0 ≤ v ∧ v ≤ 6)) : zInv (zset σ k j v) := zInv_set hI hk h
theorem zv_77 {σ : zSto} {k : Nat} (hI : zInv σ) (hk : zro k = 77) (j : Nat) : 0 ≤ σ k j ∧ σ k j ≤ 10 := zInv_at hI hk j
theorem zp_77 {σ : zSto} {k : Nat} {v : Int} (hI : zInv σ) (hk : zro k = 77) (j : Nat) (h : 0 ≤ v ∧ v ≤ 10) : zInv (zset σ k j v) := zInv_set hI hk h
theorem zv_78 {σ : zSto} {k : Nat} (hI : zInv σ) (hk : zro k = 78) (j : Nat) : -9223372036854775808 ≤ σ k j ∧ σ k j ≤ 9223372036854775807 := zInv_at hI hk j
theorem zp_78 {σ : zSto} {k : Nat} {v : Int} (hI : zInv σ) (hk : zro k = 78) (j : Nat) (h : -9223372036854775808 ≤ v ∧ v ≤ 9223372036854775807) : zInv (zset σ k j v) := zInv_set hI hk h
theorem zv_79 {σ : zSto} {k : Nat} (hI : zInv σ) (hk : zro k = 79) (j : Nat) : -2147483648 ≤ σ k j ∧ σ k j ≤ 2147483647 := zInv_at hI hk j
theorem zp_79 {σ : zSto} {k : Nat} {v : Int} (hI : zInv σ) (hk : zro k = 79) (j : Nat) (h : -2147483648 ≤ v ∧ v ≤ 2147483647) : zInv (zset σ k j v) := zInv_set hI hk h
theorem zv_80 {σ : zSto} {k : Nat} (hI : zInv σ) (hk : zro k = 80) (j : Nat) : (0 ≤ (σ k j) ∧ (σ k j) ≤ 99) ∧ (j % 2 = 0 → (σ k j) ≤ 35) := zInv_at hI hk j
theorem zp_80 {σ : zSto} {k : Nat} {v : Int} (hI : zInv σ) (hk : zro k = 80) (j : Nat) (h : (0 ≤ v ∧ v ≤ 99) ∧ (j % 2 = 0 → v ≤ 35)) : zInv (zset σ k j v) := zInv_set hI hk h
theorem zv_81 {σ : zSto} {k : Nat} (hI : zInv σ) (hk : zro k = 81) (j : Nat) : (-2147483648 ≤ (σ k j) ∧ (σ k j) ≤ 2147483647) ∧ (3 ≤ j → 0 ≤ (σ k j) ∧ (σ k j) ≤ 100) := zInv_at hI hk j
theorem zp_81 {σ : zSto} {k : Nat} {v : Int} (hI : zInv σ) (hk : zro k = 81) (j : Nat) (h : (-2147483648 ≤ v ∧ v ≤ 2147483647) ∧ (3 ≤ j → 0 ≤ v ∧ v ≤ 100)) : zInv (zset σ k j v) := zInv_set hI hk h
theorem zv_82 {σ : zSto} {k : Nat} (hI : zInv σ) (hk : zro k = 82) (j : Nat) : -1 ≤ σ k j ∧ σ k j ≤ 1600 := zInv_at hI hk j
theorem zp_82 {σ : zSto} {k : Nat} {v : Int} (hI : zInv σ) (hk : zro k = 82) (j : Nat) (h : -1 ≤ v ∧ v ≤ 1600) : zInv (zset σ k j v) := zInv_set hI hk h
theorem zv_83 {σ : zSto} {k : Nat} (hI : zInv σ) (hk : zro k = 83) (j : Nat) : 0 ≤ σ k j ∧ σ k j ≤ 1600 := zInv_at hI hk j
theorem zp_83 {σ : zSto} {k : Nat} {v : Int} (hI : zInv σ) (hk : zro k = 83) (j : Nat) (h : 0 ≤ v ∧ v ≤ 1600) : zInv (zset σ k j v) := zInv_set hI hk h
theorem zv_84 {σ : zSto} {k : Nat} (hI : zInv σ) (hk : zro k = 84) (j : Nat) : -2147483648 ≤ σ k j ∧ σ k j ≤ 2147483647 := zInv_at hI hk j
theorem zp_84 {σ : zSto} {k : Nat} {v : Int} (hI : zInv σ) (hk : zro k = 84) (j : Nat) (h : -2147483648 ≤ v ∧ v ≤ 2147483647) : zInv (zset σ k j v) := zInv_set hI hk h
theorem zv_85 {σ : zSto} {k : Nat} (hI : zInv σ) (hk : zro k = 85) (j : Nat) : ((-2147483648 ≤ (σ k j) ∧ (σ k j) ≤ 2147483647) ∧ (37 ≤ j ∧ j < 67 ∧ (j - 37) % 3 = 0 → 0 ≤ (σ k j) ∧ (σ k j) ≤ 35) ∧ (j = 67 → 0 ≤ (σ k j) ∧ (σ k j) ≤ 40)) := zInv_at hI hk j
theorem zp_85 {σ : zSto} {k : Nat} {v : Int} (hI : zInv σ) (hk : zro k = 85) (j : Nat) (h : ((-2147483648 ≤ v ∧ v ≤ 2147483647) ∧ (37 ≤ j ∧ j < 67 ∧ (j - 37) % 3 = 0 → 0 ≤ v ∧ v ≤ 35) ∧ (j = 67 → 0 ≤ v ∧ v ≤ 40))) : zInv (zset σ k j v) := zInv_set hI hk h
theorem zv_86 {σ : zSto} {k : Nat} (hI : zInv σ) (hk : zro k = 86) (j : Nat) : ((-2147483648 ≤ (σ k j) ∧ (σ k j) ≤ 2147483647) ∧ (37 ≤ j ∧ j < 67 ∧ (j - 37) % 3 = 0 → 0 ≤ (σ k j) ∧ (σ k j) ≤ 35) ∧ (j = 67 → 0 ≤ (σ k j) ∧ (σ k j) ≤ 40)) := zInv_at hI hk j
theorem zp_86 {σ : zSto} {k : Nat} {v : Int} (hI : zInv σ) (hk : zro k = 86) (j : Nat) (h : ((-2147483648 ≤ v ∧ v ≤ 2147483647) ∧ (37 ≤ j ∧ j < 67 ∧ (j - 37) % 3 = 0 → 0 ≤ v ∧ v ≤ 35) ∧ (j = 67 → 0 ≤ v ∧ v ≤ 40))) : zInv (zset σ k j v) := zInv_set hI hk h
theorem zv_87 {σ : zSto} {k : Nat} (hI : zInv σ) (hk : zro k = 87) (j : Nat) : -2147483648 ≤ σ k j ∧ σ k j ≤ 2147483647 := zInv_at hI hk j
theorem zp_87 {σ : zSto} {k : Nat} {v : Int} (hI : zInv σ) (hk : zro k = 87) (j : Nat) (h : -2147483648 ≤ v ∧ v ≤ 2147483647) : zInv (zset σ k j v) := zInv_set hI hk h
theorem zv_88 {σ : zSto} {k : Nat} (hI : zInv σ) (hk : zro k = 88) (j : Nat) : 0 ≤ σ k j ∧ σ k j ≤ 1 := zInv_at hI hk j
theorem zp_88 {σ : zSto} {k : Nat} {v : Int} (hI : zInv σ) (hk : zro k = 88) (j : Nat) (h : 0 ≤ v ∧ v ≤ 1) : zInv (zset σ k j v) := zInv_set hI hk h
theorem zv_89 {σ : zSto} {k : Nat} (hI : zInv σ) (hk : zro k = 89) (j : Nat) : (-2147483648 ≤ (σ k j) ∧ (σ k j) ≤ 2147483647) ∧ (j % 2 = 0 → 0 ≤ (σ k j) ∧ (σ k j) ≤ 35) := zInv_at hI hk j
theorem zp_89 {σ : zSto} {k : Nat} {v : Int} (hI : zInv σ) (hk : zro k = 89) (j : Nat) (h : (-2147483648 ≤ v ∧ v ≤ 2147483647) ∧ (j % 2 = 0 → 0 ≤ v ∧ v ≤ 35)) : zInv (zset σ k j v) := zInv_set hI hk h
theorem zv_90 {σ : zSto} {k : Nat} (hI : zInv σ) (hk : zro k = 90) (j : Nat) : -2147483648 ≤ σ k j ∧ σ k j ≤ 2147483647 := zInv_at hI hk j
theorem zp_90 {σ : zSto} {k : Nat} {v : Int} (hI : zInv σ) (hk : zro k = 90) (j : Nat) (h : -2147483648 ≤ v ∧ v ≤ 2147483647) : zInv (zset σ k j v) := zInv_set hI hk h
theorem zv_91 {σ : zSto} {k : Nat} (hI : zInv σ) (hk : zro k = 91) (j : Nat) : -2147483648 ≤ σ k j ∧ σ k j ≤ 2147483647 := zInv_at hI hk j
theorem zp_91 {σ : zSto} {k : Nat} {v : Int} (hI : zInv σ) (hk : zro k = 91) (j : Nat) (h : -2147483648 ≤ v ∧ v ≤ 2147483647) : zInv (zset σ k j v) := zInv_set hI hk h
theorem zv_92 {σ : zSto} {k : Nat} (hI : zInv σ) (hk : zro k = 92) (j : Nat) : ((-2147483648 ≤ (σ k j) ∧ (σ k j) ≤ 2147483647) ∧ (37 ≤ (j % 188) ∧ (j % 188) < 67 ∧ ((j % 188) - 37) % 3 = 0 → 0 ≤ (σ k j) ∧ (σ k j) ≤ 35) ∧ ((j % 188) = 67 → 0 ≤ (σ k j) ∧ (σ k j) ≤ 40)) := zInv_at hI hk j
theorem zp_92 {σ : zSto} {k : Nat} {v : Int} (hI : zInv σ) (hk : zro k = 92) (j : Nat) (h : ((-2147483648 ≤ v ∧ v ≤ 2147483647) ∧ (37 ≤ (j % 188) ∧ (j % 188) < 67 ∧ ((j % 188) - 37) % 3 = 0 → 0 ≤ v ∧ v ≤ 35) ∧ ((j % 188) = 67 → 0 ≤ v ∧ v ≤ 40))) : zInv (zset σ k j v) := zInv_set hI hk h
theorem zv_93 {σ : zSto} {k : Nat} (hI : zInv σ) (hk : zro k = 93) (j : Nat) : 0 ≤ σ k j ∧ σ k j ≤ 65535 := zInv_at hI hk j
theorem zp_93 {σ : zSto} {k : Nat} {v : Int} (hI : zInv σ) (hk : zro k = 93) (j : Nat) (h : 0 ≤ v ∧ v ≤ 65535) : zInv (zset σ k j v) := zInv_set hI hk h
theorem zv_94 {σ : zSto} {k : Nat} (hI : zInv σ) (hk : zro k = 94) (j : Nat) : 0 ≤ σ k j ∧ σ k j ≤ 65535 := zInv_at hI hk j
theorem zp_94 {σ : zSto} {k : Nat} {v : Int} (hI : zInv σ) (hk : zro k = 94) (j : Nat) (h : 0 ≤ v ∧ v ≤ 65535) : zInv (zset σ k j v) := zInv_set hI hk h
theorem zv_95 {σ : zSto} {k : Nat} (hI : zInv σ) (hk : zro k = 95) (j : Nat) : 0 ≤ σ k j ∧ σ k j ≤ 65535 := zInv_at hI hk j
theorem zp_95 {σ : zSto} {k : Nat} {v : Int} (hI : zInv σ) (hk : zro k = 95) (j : Nat) (h : 0 ≤ v ∧ v ≤ 65535) : zInv (zset σ k j v) := zInv_set hI hk h
theorem zv_96 {σ : zSto} {k : Nat} (hI : zInv σ) (hk : zro k = 96) (j : Nat) : 0 ≤ σ k j ∧ σ k j ≤ 65535 := zInv_at hI hk j
theorem zp_96 {σ : zSto} {k : Nat} {v : Int} (hI : zInv σ) (hk : zro k = 96) (j : Nat) (h : 0 ≤ v ∧ v ≤ 65535) : zInv (zset σ k j v) := zInv_set hI hk h
theorem zv_97 {σ : zSto} {k : Nat} (hI : zInv σ) (hk : zro k = 97) (j : Nat) : 0 ≤ σ k j ∧ σ k j ≤ 65535 := zInv_at hI hk j
theorem zp_97 {σ : zSto} {k : Nat} {v : Int} (hI : zInv σ) (hk : zro k = 97) (j : Nat) (h : 0 ≤ v ∧ v ≤ 65535) : zInv (zset σ k j v) := zInv_set hI hk h
theorem zv_98 {σ : zSto} {k : Nat} (hI : zInv σ) (hk : zro k = 98) (j : Nat) : 0 ≤ σ k j ∧ σ k j ≤ 65535 := zInv_at hI hk j
theorem zp_98 {σ : zSto} {k : Nat} {v : Int} (hI : zInv σ) (hk : zro k = 98) (j : Nat) (h : 0 ≤ v ∧ v ≤ 65535) : zInv (zset σ k j v) := zInv_set hI hk h
theorem zv_99 {σ : zSto} {k : Nat} (hI : zInv σ) (hk : zro k = 99) (j : Nat) : 0 ≤ σ k j ∧ σ k j ≤ 65535 := zInv_at hI hk j
theorem zp_99 {σ : zSto} {k : Nat} {v : Int} (hI : zInv σ) (hk : zro k = 99) (j : Nat) (h : 0 ≤ v ∧ v ≤ 65535) : zInv (zset σ k j v) := zInv_set hI hk h
theorem zv_100 {σ : zSto} {k : Nat} (hI : zInv σ) (hk : zro k = 100) (j : Nat) : 0 ≤ σ k j ∧ σ k j ≤ 65535 := zInv_at hI hk j
theorem zp_100 {σ : zSto} {k : Nat} {v : Int} (hI : zInv σ) (hk : zro k = 100) (j : Nat) (h : 0 ≤ v ∧ v ≤ 65535) : zInv (zset σ k j v) := zInv_set hI hk h
theorem zv_101 {σ : zSto} {k : Nat} (hI : zInv σ) (hk : zro k = 101) (j : Nat) : 0 ≤ σ k j ∧ σ k j ≤ 65535 := zInv_at hI hk j
theorem zp_101 {σ : zSto} {k : Nat} {v : Int} (hI : zInv σ) (hk : zro k = 101) (j : Nat) (h : 0 ≤ v ∧ v ≤ 65535) : zInv (zset σ k j v) := zInv_set hI hk h
theorem zv_102 {σ : zSto} {k : Nat} (hI : zInv σ) (hk : zro k = 102) (j : Nat) : 0 ≤ σ k j ∧ σ k j ≤ 65535 := zInv_at hI hk j
theorem zp_102 {σ : zSto} {k : Nat} {v : Int} (hI : zInv σ) (hk : zro k = 102) (j : Nat) (h : 0 ≤ v ∧ v ≤ 65535) : zInv (zset σ k j v) := zInv_set hI hk h
theorem zv_103 {σ : zSto} {k : Nat} (hI : zInv σ) (hk : zro k = 103) (j : Nat) : 0 ≤ σ k j ∧ σ k j ≤ 65535 := zInv_at hI hk j
theorem zp_103 {σ : zSto} {k : Nat} {v : Int} (hI : zInv σ) (hk : zro k = 103) (j : Nat) (h : 0 ≤ v ∧ v ≤ 65535) : zInv (zset σ k j v) := zInv_set hI hk h
theorem zv_104 {σ : zSto} {k : Nat} (hI : zInv σ) (hk : zro k = 104) (j : Nat) : 0 ≤ σ k j ∧ σ k j ≤ 65535 := zInv_at hI hk j
theorem zp_104 {σ : zSto} {k : Nat} {v : Int} (hI : zInv σ) (hk : zro k = 104) (j : Nat) (h : 0 ≤ v ∧ v ≤ 65535) : zInv (zset σ k j v) := zInv_set hI hk h
theorem zv_105 {σ : zSto} {k : Nat} (hI : zInv σ) (hk : zro k = 105) (j : Nat) : 0 ≤ σ k j ∧ σ k j ≤ 65535 := zInv_at hI hk j
theorem zp_105 {σ : zSto} {k : Nat} {v : Int} (hI : zInv σ) (hk : zro k = 105) (j : Nat) (h : 0 ≤ v ∧ v ≤ 65535) : zInv (zset σ k j v) := zInv_set hI hk h
theorem zv_106 {σ : zSto} {k : Nat} (hI : zInv σ) (hk : zro k = 106) (j : Nat) : 0 ≤ σ k j ∧ σ k j ≤ 65535 := zInv_at hI hk j
theorem zp_106 {σ : zSto} {k : Nat} {v : Int} (hI : zInv σ) (hk : zro k = 106) (j : Nat) (h : 0 ≤ v ∧ v ≤ 65535) : zInv (zset σ k j v) := zInv_set hI hk h
theorem zv_107 {σ : zSto} {k : Nat} (hI : zInv σ) (hk : zro k = 107) (j : Nat) : 0 ≤ σ k j ∧ σ k j ≤ 65535 := zInv_at hI hk j
theorem zp_107 {σ : zSto} {k : Nat} {v : Int} (hI : zInv σ) (hk : zro k = 107) (j : Nat) (h : 0 ≤ v ∧ v ≤ 65535) : zInv (zset σ k j v) := zInv_set hI hk h
theorem zv_108 {σ : zSto} {k : Nat} (hI : zInv σ) (hk : zro k = 108) (j : Nat) : 0 ≤ σ k j ∧ σ k j ≤ 65535 := zInv_at hI hk j
theorem zp_108 {σ : zSto} {k : Nat} {v : Int} (hI : zInv σ) (hk : zro k = 108) (j : Nat) (h : 0 ≤ v ∧ v ≤ 65535) : zInv (zset σ k j v) := zInv_set hI hk h
theorem zv_109 {σ : zSto} {k : Nat} (hI : zInv σ) (hk : zro k = 109) (j : Nat) : 0 ≤ σ k j ∧ σ k j ≤ 65535 := zInv_at hI hk j
theorem zp_109 {σ : zSto} {k : Nat} {v : Int} (hI : zInv σ) (hk : zro k = 109) (j : Nat) (h : 0 ≤ v ∧ v ≤ 65535) : zInv (zset σ k j v) := zInv_set hI hk h
theorem zv_110 {σ : zSto} {k : Nat} (hI : zInv σ) (hk : zro k = 110) (j : Nat) : 0 ≤ σ k j ∧ σ k j ≤ 65535 := zInv_at hI hk j
theorem zp_110 {σ : zSto} {k : Nat} {v : Int} (hI : zInv σ) (hk : zro k = 110) (j : Nat) (h : 0 ≤ v ∧ v ≤ 65535) : zInv (zset σ k j v) := zInv_set hI hk h
theorem zv_111 {σ : zSto} {k : Nat} (hI : zInv σ) (hk : zro k = 111) (j : Nat) : 0 ≤ σ k j ∧ σ k j ≤ 65535 := zInv_at hI hk j
theorem zp_111 {σ : zSto} {k : Nat} {v : Int} (hI : zInv σ) (hk : zro k = 111) (j : Nat) (h : 0 ≤ v ∧ v ≤ 65535) : zInv (zset σ k j v) := zInv_set hI hk h
theorem zv_112 {σ : zSto} {k : Nat} (hI : zInv σ) (hk : zro k = 112) (j : Nat) : 0 ≤ σ k j ∧ σ k j ≤ 65535 := zInv_at hI hk j
theorem zp_112 {σ : zSto} {k : Nat} {v : Int} (hI : zInv σ) (hk : zro k = 112) (j : Nat) (h : 0 ≤ v ∧ v ≤ 65535) : zInv (zset σ k j v) := zInv_set hI hk h
theorem zv_113 {σ : zSto} {k : Nat} (hI : zInv σ) (hk : zro k = 113) (j : Nat) : 0 ≤ σ k j ∧ σ k j ≤ 65535 := zInv_at hI hk j
theorem zp_113 {σ : zSto} {k : Nat} {v : Int} (hI : zInv σ) (hk : zro k = 113) (j : Nat) (h : 0 ≤ v ∧ v ≤ 65535) : zInv (zset σ k j v) := zInv_set hI hk h
theorem zv_114 {σ : zSto} {k : Nat} (hI : zInv σ) (hk : zro k = 114) (j : Nat) : 0 ≤ σ k j ∧ σ k j ≤ 65535 := zInv_at hI hk j
theorem zp_114 {σ : zSto} {k : Nat} {v : Int} (hI : zInv σ) (hk : zro k = 114) (j : Nat) (h : 0 ≤ v ∧ v ≤ 65535) : zInv (zset σ k j v) := zInv_set hI hk h
theorem zv_115 {σ : zSto} {k : Nat} (hI : zInv σ) (hk : zro k = 115) (j : Nat) : 0 ≤ σ k j ∧ σ k j ≤ 65535 := zInv_at hI hk j
theorem zp_115 {σ : zSto} {k : Nat} {v : Int} (hI : zInv σ) (hk : zro k = 115) (j : Nat) (h : 0 ≤ v ∧ v ≤ 65535) : zInv (zset σ k j v) := zInv_set hI hk h
theorem zv_116 {σ : zSto} {k : Nat} (hI : zInv σ) (hk : zro k = 116) (j : Nat) : -2147483648 ≤ σ k j ∧ σ k j ≤ 2147483647 := zInv_at hI hk j
theorem zp_116 {σ : zSto} {k : Nat} {v : Int} (hI : zInv σ) (hk : zro k = 116) (j : Nat) (h : -2147483648 ≤ v ∧ v ≤ 2147483647) : zInv (zset σ k j v) := zInv_set hI hk h
theorem zv_117 {σ : zSto} {k : Nat} (hI : zInv σ) (hk : zro k = 117) (j : Nat) : -2147483648 ≤ σ k j ∧ σ k j ≤ 2147483647 := zInv_at hI hk j
theorem zp_117 {σ : zSto} {k : Nat} {v : Int} (hI : zInv σ) (hk : zro k = 117) (j : Nat) (h : -2147483648 ≤ v ∧ v ≤ 2147483647) : zInv (zset σ k j v) := zInv_set hI hk h
theorem zv_118 {σ : zSto} {k : Nat} (hI : zInv σ) (hk : zro k = 118) (j : Nat) : -9223372036854775808 ≤ σ k j ∧ σ k j ≤ 9223372036854775807 := zInv_at hI hk j
theorem zp_118 {σ : zSto} {k : Nat} {v : Int} (hI : zInv σ) (hk : zro k = 118) (j : Nat) (h : -9223372036854775808 ≤ v ∧ v ≤ 9223372036854775807) : zInv (zset σ k j v) := zInv_set hI hk h
theorem zv_119 {σ : zSto} {k : Nat} (hI : zInv σ) (hk : zro k = 119) (j : Nat) : -2147483648 ≤ σ k j ∧ σ k j ≤ 2147483647 := zInv_at hI hk j
theorem zp_119 {σ : zSto} {k : Nat} {v : Int} (hI : zInv σ) (hk : zro k = 119) (j : Nat) (h : -2147483648 ≤ v ∧ v ≤ 2147483647) : zInv (zset σ k j v) := zInv_set hI hk h
theorem zo_6_0 {k : Nat} (hk : zro k = 6) : zro (k + 1) = 7 := by
  have h : ∀ a, a < zNC → zro a = 6 → zro (a + 1) = 7 := by decide +kernel
  exact h k (zro_lt hk (by decide)) hk
theorem zo_8_0 {k : Nat} (hk : zro k = 8) : zro (k + 1) = 9 := by
  have h : ∀ a, a < zNC → zro a = 8 → zro (a + 1) = 9 := by decide +kernel
  exact h k (zro_lt hk (by decide)) hk
theorem zo_8_1 {k : Nat} (hk : zro k = 8) : zro (k + 2) = 10 := by
  have h : ∀ a, a < zNC → zro a = 8 → zro (a + 2) = 10 := by decide +kernel
  exact h k (zro_lt hk (by decide)) hk
theorem zo_8_2 {k : Nat} (hk : zro k = 8) : zro (k + 3) = 11 := by
  have h : ∀ a, a < zNC → zro a = 8 → zro (a + 3) = 11 := by decide +kernel
  exact h k (zro_lt hk (by decide)) hk
theorem zo_8_3 {k : Nat} (hk : zro k = 8) : zro (k + 4) = 12 := by
  have h : ∀ a, a < zNC → zro a = 8 → zro (a + 4) = 12 := by decide +kernel
  exact h k (zro_lt hk (by decide)) hk
theorem zo_8_4 {k : Nat} (hk : zro k = 8) : zro (k + 5) = 13 := by
  have h : ∀ a, a < zNC → zro a = 8 → zro (a + 5) = 13 := by decide +kernel
  exact h k (zro_lt hk (by decide)) hk
theorem zo_8_5 {k : Nat} (hk : zro k = 8) : zro (k + 6) = 6 := by
  have h : ∀ a, a < zNC → zro a = 8 → zro (a + 6) = 6 := by decide +kernel
  exact h k (zro_lt hk (by decide)) hk
theorem zo_8_6 {k : Nat} (hk : zro k = 8) : zro (k + 8) = 6 := by
  have h : ∀ a, a < zNC → zro a = 8 → zro (a + 8) = 6 := by decide +kernel
  exact h k (zro_lt hk (by decide)) hk
theorem zo_22_0 {k : Nat} (hk : zro k = 22) : zro (k + 1) = 23 := by
  have h : ∀ a, a < zNC → zro a = 22 → zro (a + 1) = 23 := by decide +kernel
  exact h k (zro_lt hk (by decide)) hk
theorem zo_22_1 {k : Nat} (hk : zro k = 22) : zro (k + 2) = 24 := by
  have h : ∀ a, a < zNC → zro a = 22 → zro (a + 2) = 24 := by decide +kernel
  exact h k (zro_lt hk (by decide)) hk
theorem zo_22_2 {k : Nat} (hk : zro k = 22) : zro (k + 3) = 25 := by
  have h : ∀ a, a < zNC → zro a = 22 → zro (a + 3) = 25 := by decide +kernel
  exact h k (zro_lt hk (by decide)) hk
theorem zo_22_3 {k : Nat} (hk : zro k = 22) : zro (k + 4) = 26 := by
  have h : ∀ a, a < zNC → zro a = 22 → zro (a + 4) = 26 := by decide +kernel
  exact h k (zro_lt hk (by decide)) hk
