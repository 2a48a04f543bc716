theorem yd_op_76 {c : ByteArray} {pc n i : Nat} {l : List Nat} (h : ydk c n l = true) (hi : (l.drop i).take 1 = [76]) (hp : n + i = pc) : decode c pc = .ok (.astore_n 1, 1) := yd_f0 rfl (yd_g h hi hp 0 _ rfl) rfl
theorem dL_law_33 : decode cL_law 33 = .ok (.tableswitch 1033 0 33 #[151, 214, 237, 250, 273, 296, 329, 372, 405, 438, 481, 514, 547, 560, 583, 596, 609, 642, 665, 698, 711, 734, 757, 790, 833, 866, 889, 912, 925, 948, 961, 974, 997, 1010], 151) := by decide +kernel
set_option maxRecDepth 100000 in
theorem yd_by_cL_law_0 : ydk cL_law 0 [187, 0, 7, 89, 183, 0, 9, 76, 187, 0, 10, 89, 183, 0, 12, 77, 3, 62, 29, 42, 190, 16, 6, 100, 163, 4, 24, 42, 29, 46, 16, 63] = true := by decide +kernel
theorem dL_law_0 : decode cL_law 0 = .ok (.new 7, 3) := yd_op_187 (i := 0) (a := 0) (b := 7) yd_by_cL_law_0 rfl rfl
theorem dL_law_3 : decode cL_law 3 = .ok (.dup, 1) := yd_op_89 (i := 3) yd_by_cL_law_0 rfl rfl
theorem dL_law_4 : decode cL_law 4 = .ok (.invokespecial 9, 3) := yd_op_183 (i := 4) (a := 0) (b := 9) yd_by_cL_law_0 rfl rfl
theorem dL_law_7 : decode cL_law 7 = .ok (.astore_n 1, 1) := yd_op_76 (i := 7) yd_by_cL_law_0 rfl rfl
theorem dL_law_8 : decode cL_law 8 = .ok (.new 10, 3) := yd_op_187 (i := 8) (a := 0) (b := 10) yd_by_cL_law_0 rfl rfl
theorem dL_law_11 : decode cL_law 11 = .ok (.dup, 1) := yd_op_89 (i := 11) yd_by_cL_law_0 rfl rfl
theorem dL_law_12 : decode cL_law 12 = .ok (.invokespecial 12, 3) := yd_op_183 (i := 12) (a := 0) (b := 12) yd_by_cL_law_0 rfl rfl
theorem dL_law_15 : decode cL_law 15 = .ok (.astore_n 2, 1) := yd_op_77 (i := 15) yd_by_cL_law_0 rfl rfl
theorem dL_law_16 : decode cL_law 16 = .ok (.iconst 0, 1) := yd_op_3 (i := 16) yd_by_cL_law_0 rfl rfl
theorem dL_law_17 : decode cL_law 17 = .ok (.istore_n 3, 1) := yd_op_62 (i := 17) yd_by_cL_law_0 rfl rfl
theorem dL_law_18 : decode cL_law 18 = .ok (.iload_n 3, 1) := yd_op_29 (i := 18) yd_by_cL_law_0 rfl rfl
theorem dL_law_19 : decode cL_law 19 = .ok (.aload_n 0, 1) := yd_op_42 (i := 19) yd_by_cL_law_0 rfl rfl
theorem dL_law_20 : decode cL_law 20 = .ok (.arraylength, 1) := yd_op_190 (i := 20) yd_by_cL_law_0 rfl rfl
theorem dL_law_21 : decode cL_law 21 = .ok (.bipush 6, 2) := yd_op_16 (i := 21) (a := 6) yd_by_cL_law_0 rfl rfl
theorem dL_law_23 : decode cL_law 23 = .ok (.isub, 1) := yd_op_100 (i := 23) yd_by_cL_law_0 rfl rfl
theorem dL_law_24 : decode cL_law 24 = .ok (.if_icmp .gt 1048, 3) := yd_op_163 (i := 24) (a := 4) (b := 24) yd_by_cL_law_0 rfl rfl
theorem dL_law_27 : decode cL_law 27 = .ok (.aload_n 0, 1) := yd_op_42 (i := 27) yd_by_cL_law_0 rfl rfl
theorem dL_law_28 : decode cL_law 28 = .ok (.iload_n 3, 1) := yd_op_29 (i := 28) yd_by_cL_law_0 rfl rfl
theorem dL_law_29 : decode cL_law 29 = .ok (.iaload, 1) := yd_op_46 (i := 29) yd_by_cL_law_0 rfl rfl
theorem dL_law_30 : decode cL_law 30 = .ok (.bipush 63, 2) := yd_op_16 (i := 30) (a := 63) yd_by_cL_law_0 rfl rfl
set_option maxRecDepth 100000 in
theorem yd_by_cL_law_1 : ydk cL_law 32 [126, 170, 0, 0, 0, 0, 4, 9, 0, 0, 0, 0, 0, 0, 0, 33, 0, 0, 0, 151, 0, 0, 0, 214, 0, 0, 0, 237, 0, 0, 0, 250, 0, 0, 1, 17, 0, 0, 1, 40, 0, 0, 1, 73, 0, 0, 1, 116, 0, 0, 1, 149, 0, 0, 1, 182, 0, 0, 1, 225, 0, 0, 2, 2, 0, 0, 2, 35, 0, 0, 2, 48, 0, 0, 2, 71, 0, 0, 2, 84, 0, 0, 2, 97, 0, 0, 2, 130, 0, 0, 2, 153, 0, 0, 2, 186, 0, 0, 2, 199, 0, 0, 2, 222, 0, 0, 2, 245, 0, 0, 3, 22, 0, 0, 3, 65, 0, 0, 3, 98, 0, 0, 3, 121, 0, 0, 3, 144, 0, 0, 3, 157, 0, 0, 3, 180, 0, 0, 3, 193, 0, 0, 3, 206, 0, 0, 3, 229, 0, 0, 3, 242, 43, 42, 29, 4, 96, 46, 42, 29, 5, 96, 46, 42, 29, 6, 96, 46, 42, 29, 7] = true := by decide +kernel
theorem dL_law_32 : decode cL_law 32 = .ok (.iand, 1) := yd_op_126 (i := 0) yd_by_cL_law_1 rfl rfl
theorem dL_law_184 : decode cL_law 184 = .ok (.aload_n 1, 1) := yd_op_43 (i := 152) yd_by_cL_law_1 rfl rfl
theorem dL_law_185 : decode cL_law 185 = .ok (.aload_n 0, 1) := yd_op_42 (i := 153) yd_by_cL_law_1 rfl rfl
theorem dL_law_186 : decode cL_law 186 = .ok (.iload_n 3, 1) := yd_op_29 (i := 154) yd_by_cL_law_1 rfl rfl
theorem dL_law_187 : decode cL_law 187 = .ok (.iconst 1, 1) := yd_op_4 (i := 155) yd_by_cL_law_1 rfl rfl
theorem dL_law_188 : decode cL_law 188 = .ok (.iadd, 1) := yd_op_96 (i := 156) yd_by_cL_law_1 rfl rfl
theorem dL_law_189 : decode cL_law 189 = .ok (.iaload, 1) := yd_op_46 (i := 157) yd_by_cL_law_1 rfl rfl
theorem dL_law_190 : decode cL_law 190 = .ok (.aload_n 0, 1) := yd_op_42 (i := 158) yd_by_cL_law_1 rfl rfl
theorem dL_law_191 : decode cL_law 191 = .ok (.iload_n 3, 1) := yd_op_29 (i := 159) yd_by_cL_law_1 rfl rfl
theorem dL_law_192 : decode cL_law 192 = .ok (.iconst 2, 1) := yd_op_5 (i := 160) yd_by_cL_law_1 rfl rfl
theorem dL_law_193 : decode cL_law 193 = .ok (.iadd, 1) := yd_op_96 (i := 161) yd_by_cL_law_1 rfl rfl
theorem dL_law_194 : decode cL_law 194 = .ok (.iaload, 1) := yd_op_46 (i := 162) yd_by_cL_law_1 rfl rfl
theorem dL_law_195 : decode cL_law 195 = .ok (.aload_n 0, 1) := yd_op_42 (i := 163) yd_by_cL_law_1 rfl rfl
theorem dL_law_196 : decode cL_law 196 = .ok (.iload_n 3, 1) := yd_op_29 (i := 164) yd_by_cL_law_1 rfl rfl
theorem dL_law_197 : decode cL_law 197 = .ok (.iconst 3, 1) := yd_op_6 (i := 165) yd_by_cL_law_1 rfl rfl
theorem dL_law_198 : decode cL_law 198 = .ok (.iadd, 1) := yd_op_96 (i := 166) yd_by_cL_law_1 rfl rfl
theorem dL_law_199 : decode cL_law 199 = .ok (.iaload, 1) := yd_op_46 (i := 167) yd_by_cL_law_1 rfl rfl
theorem dL_law_200 : decode cL_law 200 = .ok (.aload_n 0, 1) := yd_op_42 (i := 168) yd_by_cL_law_1 rfl rfl
theorem dL_law_201 : decode cL_law 201 = .ok (.iload_n 3, 1) := yd_op_29 (i := 169) yd_by_cL_law_1 rfl rfl
theorem dL_law_202 : decode cL_law 202 = .ok (.iconst 4, 1) := yd_op_7 (i := 170) yd_by_cL_law_1 rfl rfl
set_option maxRecDepth 100000 in
theorem yd_by_cL_law_2 : ydk cL_law 203 [96, 46, 42, 29, 8, 96, 46, 182, 0, 13, 87, 44, 42, 29, 4, 96, 46, 42, 29, 5, 96, 46] = true := by decide +kernel
theorem dL_law_203 : decode cL_law 203 = .ok (.iadd, 1) := yd_op_96 (i := 0) yd_by_cL_law_2 rfl rfl
theorem dL_law_204 : decode cL_law 204 = .ok (.iaload, 1) := yd_op_46 (i := 1) yd_by_cL_law_2 rfl rfl
theorem dL_law_205 : decode cL_law 205 = .ok (.aload_n 0, 1) := yd_op_42 (i := 2) yd_by_cL_law_2 rfl rfl
theorem dL_law_206 : decode cL_law 206 = .ok (.iload_n 3, 1) := yd_op_29 (i := 3) yd_by_cL_law_2 rfl rfl
theorem dL_law_207 : decode cL_law 207 = .ok (.iconst 5, 1) := yd_op_8 (i := 4) yd_by_cL_law_2 rfl rfl
theorem dL_law_208 : decode cL_law 208 = .ok (.iadd, 1) := yd_op_96 (i := 5) yd_by_cL_law_2 rfl rfl
theorem dL_law_209 : decode cL_law 209 = .ok (.iaload, 1) := yd_op_46 (i := 6) yd_by_cL_law_2 rfl rfl
theorem dL_law_210 : decode cL_law 210 = .ok (.invokevirtual 13, 3) := yd_op_182 (i := 7) (a := 0) (b := 13) yd_by_cL_law_2 rfl rfl
theorem dL_law_213 : decode cL_law 213 = .ok (.pop, 1) := yd_op_87 (i := 10) yd_by_cL_law_2 rfl rfl
theorem dL_law_214 : decode cL_law 214 = .ok (.aload_n 2, 1) := yd_op_44 (i := 11) yd_by_cL_law_2 rfl rfl
theorem dL_law_215 : decode cL_law 215 = .ok (.aload_n 0, 1) := yd_op_42 (i := 12) yd_by_cL_law_2 rfl rfl
theorem dL_law_216 : decode cL_law 216 = .ok (.iload_n 3, 1) := yd_op_29 (i := 13) yd_by_cL_law_2 rfl rfl
theorem dL_law_217 : decode cL_law 217 = .ok (.iconst 1, 1) := yd_op_4 (i := 14) yd_by_cL_law_2 rfl rfl
theorem dL_law_218 : decode cL_law 218 = .ok (.iadd, 1) := yd_op_96 (i := 15) yd_by_cL_law_2 rfl rfl
theorem dL_law_219 : decode cL_law 219 = .ok (.iaload, 1) := yd_op_46 (i := 16) yd_by_cL_law_2 rfl rfl
theorem dL_law_220 : decode cL_law 220 = .ok (.aload_n 0, 1) := yd_op_42 (i := 17) yd_by_cL_law_2 rfl rfl
theorem dL_law_221 : decode cL_law 221 = .ok (.iload_n 3, 1) := yd_op_29 (i := 18) yd_by_cL_law_2 rfl rfl
theorem dL_law_222 : decode cL_law 222 = .ok (.iconst 2, 1) := yd_op_5 (i := 19) yd_by_cL_law_2 rfl rfl
theorem dL_law_223 : decode cL_law 223 = .ok (.iadd, 1) := yd_op_96 (i := 20) yd_by_cL_law_2 rfl rfl
theorem dL_law_224 : decode cL_law 224 = .ok (.iaload, 1) := yd_op_46 (i := 21) yd_by_cL_law_2 rfl rfl
set_option maxRecDepth 100000 in
theorem yd_by_cL_law_3 : ydk cL_law 225 [42, 29, 6, 96, 46, 42, 29, 7, 96, 46, 42, 29, 8, 96, 46, 182, 0, 17, 87, 167, 3, 54, 43, 42] = true := by decide +kernel
theorem dL_law_225 : decode cL_law 225 = .ok (.aload_n 0, 1) := yd_op_42 (i := 0) yd_by_cL_law_3 rfl rfl
theorem dL_law_226 : decode cL_law 226 = .ok (.iload_n 3, 1) := yd_op_29 (i := 1) yd_by_cL_law_3 rfl rfl
theorem dL_law_227 : decode cL_law 227 = .ok (.iconst 3, 1) := yd_op_6 (i := 2) yd_by_cL_law_3 rfl rfl
theorem dL_law_228 : decode cL_law 228 = .ok (.iadd, 1) := yd_op_96 (i := 3) yd_by_cL_law_3 rfl rfl
theorem dL_law_229 : decode cL_law 229 = .ok (.iaload, 1) := yd_op_46 (i := 4) yd_by_cL_law_3 rfl rfl
theorem dL_law_230 : decode cL_law 230 = .ok (.aload_n 0, 1) := yd_op_42 (i := 5) yd_by_cL_law_3 rfl rfl
theorem dL_law_231 : decode cL_law 231 = .ok (.iload_n 3, 1) := yd_op_29 (i := 6) yd_by_cL_law_3 rfl rfl
theorem dL_law_232 : decode cL_law 232 = .ok (.iconst 4, 1) := yd_op_7 (i := 7) yd_by_cL_law_3 rfl rfl
theorem dL_law_233 : decode cL_law 233 = .ok (.iadd, 1) := yd_op_96 (i := 8) yd_by_cL_law_3 rfl rfl
theorem dL_law_234 : decode cL_law 234 = .ok (.iaload, 1) := yd_op_46 (i := 9) yd_by_cL_law_3 rfl rfl
theorem dL_law_235 : decode cL_law 235 = .ok (.aload_n 0, 1) := yd_op_42 (i := 10) yd_by_cL_law_3 rfl rfl
theorem dL_law_236 : decode cL_law 236 = .ok (.iload_n 3, 1) := yd_op_29 (i := 11) yd_by_cL_law_3 rfl rfl
theorem dL_law_237 : decode cL_law 237 = .ok (.iconst 5, 1) := yd_op_8 (i := 12) yd_by_cL_law_3 rfl rfl
theorem dL_law_238 : decode cL_law 238 = .ok (.iadd, 1) := yd_op_96 (i := 13) yd_by_cL_law_3 rfl rfl
theorem dL_law_239 : decode cL_law 239 = .ok (.iaload, 1) := yd_op_46 (i := 14) yd_by_cL_law_3 rfl rfl
theorem dL_law_240 : decode cL_law 240 = .ok (.invokevirtual 17, 3) := yd_op_182 (i := 15) (a := 0) (b := 17) yd_by_cL_law_3 rfl rfl
theorem dL_law_243 : decode cL_law 243 = .ok (.pop, 1) := yd_op_87 (i := 18) yd_by_cL_law_3 rfl rfl
theorem dL_law_244 : decode cL_law 244 = .ok (.goto 822, 3) := yd_op_167 (i := 19) (a := 3) (b := 54) yd_by_cL_law_3 rfl rfl
theorem dL_law_247 : decode cL_law 247 = .ok (.aload_n 1, 1) := yd_op_43 (i := 22) yd_by_cL_law_3 rfl rfl
theorem dL_law_248 : decode cL_law 248 = .ok (.aload_n 0, 1) := yd_op_42 (i := 23) yd_by_cL_law_3 rfl rfl
set_option maxRecDepth 100000 in
theorem yd_by_cL_law_4 : ydk cL_law 249 [29, 4, 96, 46, 182, 0, 18, 87, 44, 42, 29, 4, 96, 46, 182, 0, 22, 87, 167, 3, 31, 43, 182, 0, 23, 87, 44, 182, 0, 27] = true := by decide +kernel
theorem dL_law_249 : decode cL_law 249 = .ok (.iload_n 3, 1) := yd_op_29 (i := 0) yd_by_cL_law_4 rfl rfl
theorem dL_law_250 : decode cL_law 250 = .ok (.iconst 1, 1) := yd_op_4 (i := 1) yd_by_cL_law_4 rfl rfl
theorem dL_law_251 : decode cL_law 251 = .ok (.iadd, 1) := yd_op_96 (i := 2) yd_by_cL_law_4 rfl rfl
theorem dL_law_252 : decode cL_law 252 = .ok (.iaload, 1) := yd_op_46 (i := 3) yd_by_cL_law_4 rfl rfl
theorem dL_law_253 : decode cL_law 253 = .ok (.invokevirtual 18, 3) := yd_op_182 (i := 4) (a := 0) (b := 18) yd_by_cL_law_4 rfl rfl
theorem dL_law_256 : decode cL_law 256 = .ok (.pop, 1) := yd_op_87 (i := 7) yd_by_cL_law_4 rfl rfl
theorem dL_law_257 : decode cL_law 257 = .ok (.aload_n 2, 1) := yd_op_44 (i := 8) yd_by_cL_law_4 rfl rfl
theorem dL_law_258 : decode cL_law 258 = .ok (.aload_n 0, 1) := yd_op_42 (i := 9) yd_by_cL_law_4 rfl rfl
theorem dL_law_259 : decode cL_law 259 = .ok (.iload_n 3, 1) := yd_op_29 (i := 10) yd_by_cL_law_4 rfl rfl
theorem dL_law_260 : decode cL_law 260 = .ok (.iconst 1, 1) := yd_op_4 (i := 11) yd_by_cL_law_4 rfl rfl
theorem dL_law_261 : decode cL_law 261 = .ok (.iadd, 1) := yd_op_96 (i := 12) yd_by_cL_law_4 rfl rfl
theorem dL_law_262 : decode cL_law 262 = .ok (.iaload, 1) := yd_op_46 (i := 13) yd_by_cL_law_4 rfl rfl
theorem dL_law_263 : decode cL_law 263 = .ok (.invokevirtual 22, 3) := yd_op_182 (i := 14) (a := 0) (b := 22) yd_by_cL_law_4 rfl rfl
theorem dL_law_266 : decode cL_law 266 = .ok (.pop, 1) := yd_op_87 (i := 17) yd_by_cL_law_4 rfl rfl
theorem dL_law_267 : decode cL_law 267 = .ok (.goto 799, 3) := yd_op_167 (i := 18) (a := 3) (b := 31) yd_by_cL_law_4 rfl rfl
theorem dL_law_270 : decode cL_law 270 = .ok (.aload_n 1, 1) := yd_op_43 (i := 21) yd_by_cL_law_4 rfl rfl
theorem dL_law_271 : decode cL_law 271 = .ok (.invokevirtual 23, 3) := yd_op_182 (i := 22) (a := 0) (b := 23) yd_by_cL_law_4 rfl rfl
theorem dL_law_274 : decode cL_law 274 = .ok (.pop, 1) := yd_op_87 (i := 25) yd_by_cL_law_4 rfl rfl
theorem dL_law_275 : decode cL_law 275 = .ok (.aload_n 2, 1) := yd_op_44 (i := 26) yd_by_cL_law_4 rfl rfl
theorem dL_law_276 : decode cL_law 276 = .ok (.invokevirtual 27, 3) := yd_op_182 (i := 27) (a := 0) (b := 27) yd_by_cL_law_4 rfl rfl
set_option maxRecDepth 100000 in
theorem yd_by_cL_law_5 : ydk cL_law 279 [87, 167, 3, 18, 43, 42, 29, 4, 96, 46, 182, 0, 28, 44, 42, 29, 4, 96, 46, 182, 0, 32, 159, 2, 253, 3, 172, 43] = true := by decide +kernel
theorem dL_law_279 : decode cL_law 279 = .ok (.pop, 1) := yd_op_87 (i := 0) yd_by_cL_law_5 rfl rfl
theorem dL_law_280 : decode cL_law 280 = .ok (.goto 786, 3) := yd_op_167 (i := 1) (a := 3) (b := 18) yd_by_cL_law_5 rfl rfl
theorem dL_law_283 : decode cL_law 283 = .ok (.aload_n 1, 1) := yd_op_43 (i := 4) yd_by_cL_law_5 rfl rfl
theorem dL_law_284 : decode cL_law 284 = .ok (.aload_n 0, 1) := yd_op_42 (i := 5) yd_by_cL_law_5 rfl rfl
theorem dL_law_285 : decode cL_law 285 = .ok (.iload_n 3, 1) := yd_op_29 (i := 6) yd_by_cL_law_5 rfl rfl
theorem dL_law_286 : decode cL_law 286 = .ok (.iconst 1, 1) := yd_op_4 (i := 7) yd_by_cL_law_5 rfl rfl
theorem dL_law_287 : decode cL_law 287 = .ok (.iadd, 1) := yd_op_96 (i := 8) yd_by_cL_law_5 rfl rfl
theorem dL_law_288 : decode cL_law 288 = .ok (.iaload, 1) := yd_op_46 (i := 9) yd_by_cL_law_5 rfl rfl
theorem dL_law_289 : decode cL_law 289 = .ok (.invokevirtual 28, 3) := yd_op_182 (i := 10) (a := 0) (b := 28) yd_by_cL_law_5 rfl rfl
theorem dL_law_292 : decode cL_law 292 = .ok (.aload_n 2, 1) := yd_op_44 (i := 13) yd_by_cL_law_5 rfl rfl
theorem dL_law_293 : decode cL_law 293 = .ok (.aload_n 0, 1) := yd_op_42 (i := 14) yd_by_cL_law_5 rfl rfl
theorem dL_law_294 : decode cL_law 294 = .ok (.iload_n 3, 1) := yd_op_29 (i := 15) yd_by_cL_law_5 rfl rfl
theorem dL_law_295 : decode cL_law 295 = .ok (.iconst 1, 1) := yd_op_4 (i := 16) yd_by_cL_law_5 rfl rfl
theorem dL_law_296 : decode cL_law 296 = .ok (.iadd, 1) := yd_op_96 (i := 17) yd_by_cL_law_5 rfl rfl
theorem dL_law_297 : decode cL_law 297 = .ok (.iaload, 1) := yd_op_46 (i := 18) yd_by_cL_law_5 rfl rfl
theorem dL_law_298 : decode cL_law 298 = .ok (.invokevirtual 32, 3) := yd_op_182 (i := 19) (a := 0) (b := 32) yd_by_cL_law_5 rfl rfl
theorem dL_law_301 : decode cL_law 301 = .ok (.if_icmp .eq 765, 3) := yd_op_159 (i := 22) (a := 2) (b := 253) yd_by_cL_law_5 rfl rfl
theorem dL_law_304 : decode cL_law 304 = .ok (.iconst 0, 1) := yd_op_3 (i := 25) yd_by_cL_law_5 rfl rfl
theorem dL_law_305 : decode cL_law 305 = .ok (.ireturn, 1) := yd_op_172 (i := 26) yd_by_cL_law_5 rfl rfl
theorem dL_law_306 : decode cL_law 306 = .ok (.aload_n 1, 1) := yd_op_43 (i := 27) yd_by_cL_law_5 rfl rfl
set_option maxRecDepth 100000 in
theorem yd_by_cL_law_6 : ydk cL_law 307 [42, 29, 4, 96, 46, 182, 0, 33, 87, 44, 42, 29, 4, 96, 46, 182, 0, 36, 87, 167, 2, 228, 43, 42, 29, 4] = true := by decide +kernel
theorem dL_law_307 : decode cL_law 307 = .ok (.aload_n 0, 1) := yd_op_42 (i := 0) yd_by_cL_law_6 rfl rfl
theorem dL_law_308 : decode cL_law 308 = .ok (.iload_n 3, 1) := yd_op_29 (i := 1) yd_by_cL_law_6 rfl rfl
theorem dL_law_309 : decode cL_law 309 = .ok (.iconst 1, 1) := yd_op_4 (i := 2) yd_by_cL_law_6 rfl rfl
theorem dL_law_310 : decode cL_law 310 = .ok (.iadd, 1) := yd_op_96 (i := 3) yd_by_cL_law_6 rfl rfl
theorem dL_law_311 : decode cL_law 311 = .ok (.iaload, 1) := yd_op_46 (i := 4) yd_by_cL_law_6 rfl rfl
theorem dL_law_312 : decode cL_law 312 = .ok (.invokevirtual 33, 3) := yd_op_182 (i := 5) (a := 0) (b := 33) yd_by_cL_law_6 rfl rfl
theorem dL_law_315 : decode cL_law 315 = .ok (.pop, 1) := yd_op_87 (i := 8) yd_by_cL_law_6 rfl rfl
theorem dL_law_316 : decode cL_law 316 = .ok (.aload_n 2, 1) := yd_op_44 (i := 9) yd_by_cL_law_6 rfl rfl
theorem dL_law_317 : decode cL_law 317 = .ok (.aload_n 0, 1) := yd_op_42 (i := 10) yd_by_cL_law_6 rfl rfl
theorem dL_law_318 : decode cL_law 318 = .ok (.iload_n 3, 1) := yd_op_29 (i := 11) yd_by_cL_law_6 rfl rfl
theorem dL_law_319 : decode cL_law 319 = .ok (.iconst 1, 1) := yd_op_4 (i := 12) yd_by_cL_law_6 rfl rfl
theorem dL_law_320 : decode cL_law 320 = .ok (.iadd, 1) := yd_op_96 (i := 13) yd_by_cL_law_6 rfl rfl
theorem dL_law_321 : decode cL_law 321 = .ok (.iaload, 1) := yd_op_46 (i := 14) yd_by_cL_law_6 rfl rfl
theorem dL_law_322 : decode cL_law 322 = .ok (.invokevirtual 36, 3) := yd_op_182 (i := 15) (a := 0) (b := 36) yd_by_cL_law_6 rfl rfl
theorem dL_law_325 : decode cL_law 325 = .ok (.pop, 1) := yd_op_87 (i := 18) yd_by_cL_law_6 rfl rfl
theorem dL_law_326 : decode cL_law 326 = .ok (.goto 740, 3) := yd_op_167 (i := 19) (a := 2) (b := 228) yd_by_cL_law_6 rfl rfl
theorem dL_law_329 : decode cL_law 329 = .ok (.aload_n 1, 1) := yd_op_43 (i := 22) yd_by_cL_law_6 rfl rfl
theorem dL_law_330 : decode cL_law 330 = .ok (.aload_n 0, 1) := yd_op_42 (i := 23) yd_by_cL_law_6 rfl rfl
theorem dL_law_331 : decode cL_law 331 = .ok (.iload_n 3, 1) := yd_op_29 (i := 24) yd_by_cL_law_6 rfl rfl
theorem dL_law_332 : decode cL_law 332 = .ok (.iconst 1, 1) := yd_op_4 (i := 25) yd_by_cL_law_6 rfl rfl
set_option maxRecDepth 100000 in
theorem yd_by_cL_law_7 : ydk cL_law 333 [96, 46, 42, 29, 5, 96, 46, 182, 0, 37, 87, 44, 42, 29, 4, 96, 46, 42, 29, 5, 96, 46] = true := by decide +kernel
theorem dL_law_333 : decode cL_law 333 = .ok (.iadd, 1) := yd_op_96 (i := 0) yd_by_cL_law_7 rfl rfl
theorem dL_law_334 : decode cL_law 334 = .ok (.iaload, 1) := yd_op_46 (i := 1) yd_by_cL_law_7 rfl rfl
theorem dL_law_335 : decode cL_law 335 = .ok (.aload_n 0, 1) := yd_op_42 (i := 2) yd_by_cL_law_7 rfl rfl
theorem dL_law_336 : decode cL_law 336 = .ok (.iload_n 3, 1) := yd_op_29 (i := 3) yd_by_cL_law_7 rfl rfl
theorem dL_law_337 : decode cL_law 337 = .ok (.iconst 2, 1) := yd_op_5 (i := 4) yd_by_cL_law_7 rfl rfl
theorem dL_law_338 : decode cL_law 338 = .ok (.iadd, 1) := yd_op_96 (i := 5) yd_by_cL_law_7 rfl rfl
theorem dL_law_339 : decode cL_law 339 = .ok (.iaload, 1) := yd_op_46 (i := 6) yd_by_cL_law_7 rfl rfl
theorem dL_law_340 : decode cL_law 340 = .ok (.invokevirtual 37, 3) := yd_op_182 (i := 7) (a := 0) (b := 37) yd_by_cL_law_7 rfl rfl
theorem dL_law_343 : decode cL_law 343 = .ok (.pop, 1) := yd_op_87 (i := 10) yd_by_cL_law_7 rfl rfl
theorem dL_law_344 : decode cL_law 344 = .ok (.aload_n 2, 1) := yd_op_44 (i := 11) yd_by_cL_law_7 rfl rfl
theorem dL_law_345 : decode cL_law 345 = .ok (.aload_n 0, 1) := yd_op_42 (i := 12) yd_by_cL_law_7 rfl rfl
theorem dL_law_346 : decode cL_law 346 = .ok (.iload_n 3, 1) := yd_op_29 (i := 13) yd_by_cL_law_7 rfl rfl
theorem dL_law_347 : decode cL_law 347 = .ok (.iconst 1, 1) := yd_op_4 (i := 14) yd_by_cL_law_7 rfl rfl
theorem dL_law_348 : decode cL_law 348 = .ok (.iadd, 1) := yd_op_96 (i := 15) yd_by_cL_law_7 rfl rfl
theorem dL_law_349 : decode cL_law 349 = .ok (.iaload, 1) := yd_op_46 (i := 16) yd_by_cL_law_7 rfl rfl
theorem dL_law_350 : decode cL_law 350 = .ok (.aload_n 0, 1) := yd_op_42 (i := 17) yd_by_cL_law_7 rfl rfl
theorem dL_law_351 : decode cL_law 351 = .ok (.iload_n 3, 1) := yd_op_29 (i := 18) yd_by_cL_law_7 rfl rfl
theorem dL_law_352 : decode cL_law 352 = .ok (.iconst 2, 1) := yd_op_5 (i := 19) yd_by_cL_law_7 rfl rfl
theorem dL_law_353 : decode cL_law 353 = .ok (.iadd, 1) := yd_op_96 (i := 20) yd_by_cL_law_7 rfl rfl
theorem dL_law_354 : decode cL_law 354 = .ok (.iaload, 1) := yd_op_46 (i := 21) yd_by_cL_law_7 rfl rfl
set_option maxRecDepth 100000 in
theorem yd_by_cL_law_8 : ydk cL_law 355 [182, 0, 41, 87, 167, 2, 195, 43, 42, 29, 4, 96, 46, 42, 29, 5, 96, 46, 42, 29, 6, 96, 46, 182, 0, 42] = true := by decide +kernel
theorem dL_law_355 : decode cL_law 355 = .ok (.invokevirtual 41, 3) := yd_op_182 (i := 0) (a := 0) (b := 41) yd_by_cL_law_8 rfl rfl
theorem dL_law_358 : decode cL_law 358 = .ok (.pop, 1) := yd_op_87 (i := 3) yd_by_cL_law_8 rfl rfl
theorem dL_law_359 : decode cL_law 359 = .ok (.goto 707, 3) := yd_op_167 (i := 4) (a := 2) (b := 195) yd_by_cL_law_8 rfl rfl
theorem dL_law_362 : decode cL_law 362 = .ok (.aload_n 1, 1) := yd_op_43 (i := 7) yd_by_cL_law_8 rfl rfl
theorem dL_law_363 : decode cL_law 363 = .ok (.aload_n 0, 1) := yd_op_42 (i := 8) yd_by_cL_law_8 rfl rfl
theorem dL_law_364 : decode cL_law 364 = .ok (.iload_n 3, 1) := yd_op_29 (i := 9) yd_by_cL_law_8 rfl rfl
theorem dL_law_365 : decode cL_law 365 = .ok (.iconst 1, 1) := yd_op_4 (i := 10) yd_by_cL_law_8 rfl rfl
theorem dL_law_366 : decode cL_law 366 = .ok (.iadd, 1) := yd_op_96 (i := 11) yd_by_cL_law_8 rfl rfl
theorem dL_law_367 : decode cL_law 367 = .ok (.iaload, 1) := yd_op_46 (i := 12) yd_by_cL_law_8 rfl rfl
theorem dL_law_368 : decode cL_law 368 = .ok (.aload_n 0, 1) := yd_op_42 (i := 13) yd_by_cL_law_8 rfl rfl
theorem dL_law_369 : decode cL_law 369 = .ok (.iload_n 3, 1) := yd_op_29 (i := 14) yd_by_cL_law_8 rfl rfl
theorem dL_law_370 : decode cL_law 370 = .ok (.iconst 2, 1) := yd_op_5 (i := 15) yd_by_cL_law_8 rfl rfl
theorem dL_law_371 : decode cL_law 371 = .ok (.iadd, 1) := yd_op_96 (i := 16) yd_by_cL_law_8 rfl rfl
theorem dL_law_372 : decode cL_law 372 = .ok (.iaload, 1) := yd_op_46 (i := 17) yd_by_cL_law_8 rfl rfl
theorem dL_law_373 : decode cL_law 373 = .ok (.aload_n 0, 1) := yd_op_42 (i := 18) yd_by_cL_law_8 rfl rfl
theorem dL_law_374 : decode cL_law 374 = .ok (.iload_n 3, 1) := yd_op_29 (i := 19) yd_by_cL_law_8 rfl rfl
theorem dL_law_375 : decode cL_law 375 = .ok (.iconst 3, 1) := yd_op_6 (i := 20) yd_by_cL_law_8 rfl rfl
theorem dL_law_376 : decode cL_law 376 = .ok (.iadd, 1) := yd_op_96 (i := 21) yd_by_cL_law_8 rfl rfl
theorem dL_law_377 : decode cL_law 377 = .ok (.iaload, 1) := yd_op_46 (i := 22) yd_by_cL_law_8 rfl rfl
theorem dL_law_378 : decode cL_law 378 = .ok (.invokevirtual 42, 3) := yd_op_182 (i := 23) (a := 0) (b := 42) yd_by_cL_law_8 rfl rfl
set_option maxRecDepth 100000 in
theorem yd_by_cL_law_9 : ydk cL_law 381 [87, 44, 42, 29, 4, 96, 46, 42, 29, 5, 96, 46, 42, 29, 6, 96, 46, 182, 0, 46, 87, 167, 2, 152] = true := by decide +kernel
theorem dL_law_381 : decode cL_law 381 = .ok (.pop, 1) := yd_op_87 (i := 0) yd_by_cL_law_9 rfl rfl
theorem dL_law_382 : decode cL_law 382 = .ok (.aload_n 2, 1) := yd_op_44 (i := 1) yd_by_cL_law_9 rfl rfl
theorem dL_law_383 : decode cL_law 383 = .ok (.aload_n 0, 1) := yd_op_42 (i := 2) yd_by_cL_law_9 rfl rfl
theorem dL_law_384 : decode cL_law 384 = .ok (.iload_n 3, 1) := yd_op_29 (i := 3) yd_by_cL_law_9 rfl rfl
theorem dL_law_385 : decode cL_law 385 = .ok (.iconst 1, 1) := yd_op_4 (i := 4) yd_by_cL_law_9 rfl rfl
theorem dL_law_386 : decode cL_law 386 = .ok (.iadd, 1) := yd_op_96 (i := 5) yd_by_cL_law_9 rfl rfl
theorem dL_law_387 : decode cL_law 387 = .ok (.iaload, 1) := yd_op_46 (i := 6) yd_by_cL_law_9 rfl rfl
theorem dL_law_388 : decode cL_law 388 = .ok (.aload_n 0, 1) := yd_op_42 (i := 7) yd_by_cL_law_9 rfl rfl
theorem dL_law_389 : decode cL_law 389 = .ok (.iload_n 3, 1) := yd_op_29 (i := 8) yd_by_cL_law_9 rfl rfl
theorem dL_law_390 : decode cL_law 390 = .ok (.iconst 2, 1) := yd_op_5 (i := 9) yd_by_cL_law_9 rfl rfl
theorem dL_law_391 : decode cL_law 391 = .ok (.iadd, 1) := yd_op_96 (i := 10) yd_by_cL_law_9 rfl rfl
theorem dL_law_392 : decode cL_law 392 = .ok (.iaload, 1) := yd_op_46 (i := 11) yd_by_cL_law_9 rfl rfl
theorem dL_law_393 : decode cL_law 393 = .ok (.aload_n 0, 1) := yd_op_42 (i := 12) yd_by_cL_law_9 rfl rfl
theorem dL_law_394 : decode cL_law 394 = .ok (.iload_n 3, 1) := yd_op_29 (i := 13) yd_by_cL_law_9 rfl rfl
theorem dL_law_395 : decode cL_law 395 = .ok (.iconst 3, 1) := yd_op_6 (i := 14) yd_by_cL_law_9 rfl rfl
theorem dL_law_396 : decode cL_law 396 = .ok (.iadd, 1) := yd_op_96 (i := 15) yd_by_cL_law_9 rfl rfl
theorem dL_law_397 : decode cL_law 397 = .ok (.iaload, 1) := yd_op_46 (i := 16) yd_by_cL_law_9 rfl rfl
theorem dL_law_398 : decode cL_law 398 = .ok (.invokevirtual 46, 3) := yd_op_182 (i := 17) (a := 0) (b := 46) yd_by_cL_law_9 rfl rfl
theorem dL_law_401 : decode cL_law 401 = .ok (.pop, 1) := yd_op_87 (i := 20) yd_by_cL_law_9 rfl rfl
theorem dL_law_402 : decode cL_law 402 = .ok (.goto 664, 3) := yd_op_167 (i := 21) (a := 2) (b := 152) yd_by_cL_law_9 rfl rfl
set_option maxRecDepth 100000 in
theorem yd_by_cL_law_10 : ydk cL_law 405 [43, 42, 29, 4, 96, 46, 42, 29, 5, 96, 46, 182, 0, 47, 88, 44, 42, 29, 4, 96, 46, 42] = true := by decide +kernel
theorem dL_law_405 : decode cL_law 405 = .ok (.aload_n 1, 1) := yd_op_43 (i := 0) yd_by_cL_law_10 rfl rfl
theorem dL_law_406 : decode cL_law 406 = .ok (.aload_n 0, 1) := yd_op_42 (i := 1) yd_by_cL_law_10 rfl rfl
theorem dL_law_407 : decode cL_law 407 = .ok (.iload_n 3, 1) := yd_op_29 (i := 2) yd_by_cL_law_10 rfl rfl
theorem dL_law_408 : decode cL_law 408 = .ok (.iconst 1, 1) := yd_op_4 (i := 3) yd_by_cL_law_10 rfl rfl
theorem dL_law_409 : decode cL_law 409 = .ok (.iadd, 1) := yd_op_96 (i := 4) yd_by_cL_law_10 rfl rfl
theorem dL_law_410 : decode cL_law 410 = .ok (.iaload, 1) := yd_op_46 (i := 5) yd_by_cL_law_10 rfl rfl
theorem dL_law_411 : decode cL_law 411 = .ok (.aload_n 0, 1) := yd_op_42 (i := 6) yd_by_cL_law_10 rfl rfl
theorem dL_law_412 : decode cL_law 412 = .ok (.iload_n 3, 1) := yd_op_29 (i := 7) yd_by_cL_law_10 rfl rfl
theorem dL_law_413 : decode cL_law 413 = .ok (.iconst 2, 1) := yd_op_5 (i := 8) yd_by_cL_law_10 rfl rfl
theorem dL_law_414 : decode cL_law 414 = .ok (.iadd, 1) := yd_op_96 (i := 9) yd_by_cL_law_10 rfl rfl
theorem dL_law_415 : decode cL_law 415 = .ok (.iaload, 1) := yd_op_46 (i := 10) yd_by_cL_law_10 rfl rfl
theorem dL_law_416 : decode cL_law 416 = .ok (.invokevirtual 47, 3) := yd_op_182 (i := 11) (a := 0) (b := 47) yd_by_cL_law_10 rfl rfl
theorem dL_law_419 : decode cL_law 419 = .ok (.pop2, 1) := yd_op_88 (i := 14) yd_by_cL_law_10 rfl rfl
theorem dL_law_420 : decode cL_law 420 = .ok (.aload_n 2, 1) := yd_op_44 (i := 15) yd_by_cL_law_10 rfl rfl
theorem dL_law_421 : decode cL_law 421 = .ok (.aload_n 0, 1) := yd_op_42 (i := 16) yd_by_cL_law_10 rfl rfl
theorem dL_law_422 : decode cL_law 422 = .ok (.iload_n 3, 1) := yd_op_29 (i := 17) yd_by_cL_law_10 rfl rfl
theorem dL_law_423 : decode cL_law 423 = .ok (.iconst 1, 1) := yd_op_4 (i := 18) yd_by_cL_law_10 rfl rfl
theorem dL_law_424 : decode cL_law 424 = .ok (.iadd, 1) := yd_op_96 (i := 19) yd_by_cL_law_10 rfl rfl
theorem dL_law_425 : decode cL_law 425 = .ok (.iaload, 1) := yd_op_46 (i := 20) yd_by_cL_law_10 rfl rfl
theorem dL_law_426 : decode cL_law 426 = .ok (.aload_n 0, 1) := yd_op_42 (i := 21) yd_by_cL_law_10 rfl rfl
set_option maxRecDepth 100000 in
theorem yd_by_cL_law_11 : ydk cL_law 427 [29, 5, 96, 46, 182, 0, 51, 88, 167, 2, 119, 43, 42, 29, 4, 96, 46, 42, 29, 5, 96, 46, 182, 0, 52, 87] = true := by decide +kernel
theorem dL_law_427 : decode cL_law 427 = .ok (.iload_n 3, 1) := yd_op_29 (i := 0) yd_by_cL_law_11 rfl rfl
theorem dL_law_428 : decode cL_law 428 = .ok (.iconst 2, 1) := yd_op_5 (i := 1) yd_by_cL_law_11 rfl rfl
theorem dL_law_429 : decode cL_law 429 = .ok (.iadd, 1) := yd_op_96 (i := 2) yd_by_cL_law_11 rfl rfl
theorem dL_law_430 : decode cL_law 430 = .ok (.iaload, 1) := yd_op_46 (i := 3) yd_by_cL_law_11 rfl rfl
theorem dL_law_431 : decode cL_law 431 = .ok (.invokevirtual 51, 3) := yd_op_182 (i := 4) (a := 0) (b := 51) yd_by_cL_law_11 rfl rfl
theorem dL_law_434 : decode cL_law 434 = .ok (.pop2, 1) := yd_op_88 (i := 7) yd_by_cL_law_11 rfl rfl
theorem dL_law_435 : decode cL_law 435 = .ok (.goto 631, 3) := yd_op_167 (i := 8) (a := 2) (b := 119) yd_by_cL_law_11 rfl rfl
theorem dL_law_438 : decode cL_law 438 = .ok (.aload_n 1, 1) := yd_op_43 (i := 11) yd_by_cL_law_11 rfl rfl
theorem dL_law_439 : decode cL_law 439 = .ok (.aload_n 0, 1) := yd_op_42 (i := 12) yd_by_cL_law_11 rfl rfl
theorem dL_law_440 : decode cL_law 440 = .ok (.iload_n 3, 1) := yd_op_29 (i := 13) yd_by_cL_law_11 rfl rfl
theorem dL_law_441 : decode cL_law 441 = .ok (.iconst 1, 1) := yd_op_4 (i := 14) yd_by_cL_law_11 rfl rfl
theorem dL_law_442 : decode cL_law 442 = .ok (.iadd, 1) := yd_op_96 (i := 15) yd_by_cL_law_11 rfl rfl
theorem dL_law_443 : decode cL_law 443 = .ok (.iaload, 1) := yd_op_46 (i := 16) yd_by_cL_law_11 rfl rfl
theorem dL_law_444 : decode cL_law 444 = .ok (.aload_n 0, 1) := yd_op_42 (i := 17) yd_by_cL_law_11 rfl rfl
theorem dL_law_445 : decode cL_law 445 = .ok (.iload_n 3, 1) := yd_op_29 (i := 18) yd_by_cL_law_11 rfl rfl
theorem dL_law_446 : decode cL_law 446 = .ok (.iconst 2, 1) := yd_op_5 (i := 19) yd_by_cL_law_11 rfl rfl
theorem dL_law_447 : decode cL_law 447 = .ok (.iadd, 1) := yd_op_96 (i := 20) yd_by_cL_law_11 rfl rfl
theorem dL_law_448 : decode cL_law 448 = .ok (.iaload, 1) := yd_op_46 (i := 21) yd_by_cL_law_11 rfl rfl
theorem dL_law_449 : decode cL_law 449 = .ok (.invokevirtual 52, 3) := yd_op_182 (i := 22) (a := 0) (b := 52) yd_by_cL_law_11 rfl rfl
theorem dL_law_452 : decode cL_law 452 = .ok (.pop, 1) := yd_op_87 (i := 25) yd_by_cL_law_11 rfl rfl
set_option maxRecDepth 100000 in
theorem yd_by_cL_law_12 : ydk cL_law 453 [44, 42, 29, 4, 96, 46, 42, 29, 5, 96, 46, 182, 0, 55, 87, 167, 2, 86, 43, 42, 29, 4, 96, 46] = true := by decide +kernel
theorem dL_law_453 : decode cL_law 453 = .ok (.aload_n 2, 1) := yd_op_44 (i := 0) yd_by_cL_law_12 rfl rfl
theorem dL_law_454 : decode cL_law 454 = .ok (.aload_n 0, 1) := yd_op_42 (i := 1) yd_by_cL_law_12 rfl rfl
theorem dL_law_455 : decode cL_law 455 = .ok (.iload_n 3, 1) := yd_op_29 (i := 2) yd_by_cL_law_12 rfl rfl
theorem dL_law_456 : decode cL_law 456 = .ok (.iconst 1, 1) := yd_op_4 (i := 3) yd_by_cL_law_12 rfl rfl
theorem dL_law_457 : decode cL_law 457 = .ok (.iadd, 1) := yd_op_96 (i := 4) yd_by_cL_law_12 rfl rfl
theorem dL_law_458 : decode cL_law 458 = .ok (.iaload, 1) := yd_op_46 (i := 5) yd_by_cL_law_12 rfl rfl
theorem dL_law_459 : decode cL_law 459 = .ok (.aload_n 0, 1) := yd_op_42 (i := 6) yd_by_cL_law_12 rfl rfl
theorem dL_law_460 : decode cL_law 460 = .ok (.iload_n 3, 1) := yd_op_29 (i := 7) yd_by_cL_law_12 rfl rfl
theorem dL_law_461 : decode cL_law 461 = .ok (.iconst 2, 1) := yd_op_5 (i := 8) yd_by_cL_law_12 rfl rfl
theorem dL_law_462 : decode cL_law 462 = .ok (.iadd, 1) := yd_op_96 (i := 9) yd_by_cL_law_12 rfl rfl
theorem dL_law_463 : decode cL_law 463 = .ok (.iaload, 1) := yd_op_46 (i := 10) yd_by_cL_law_12 rfl rfl
theorem dL_law_464 : decode cL_law 464 = .ok (.invokevirtual 55, 3) := yd_op_182 (i := 11) (a := 0) (b := 55) yd_by_cL_law_12 rfl rfl
theorem dL_law_467 : decode cL_law 467 = .ok (.pop, 1) := yd_op_87 (i := 14) yd_by_cL_law_12 rfl rfl
theorem dL_law_468 : decode cL_law 468 = .ok (.goto 598, 3) := yd_op_167 (i := 15) (a := 2) (b := 86) yd_by_cL_law_12 rfl rfl
theorem dL_law_471 : decode cL_law 471 = .ok (.aload_n 1, 1) := yd_op_43 (i := 18) yd_by_cL_law_12 rfl rfl
theorem dL_law_472 : decode cL_law 472 = .ok (.aload_n 0, 1) := yd_op_42 (i := 19) yd_by_cL_law_12 rfl rfl
theorem dL_law_473 : decode cL_law 473 = .ok (.iload_n 3, 1) := yd_op_29 (i := 20) yd_by_cL_law_12 rfl rfl
theorem dL_law_474 : decode cL_law 474 = .ok (.iconst 1, 1) := yd_op_4 (i := 21) yd_by_cL_law_12 rfl rfl
theorem dL_law_475 : decode cL_law 475 = .ok (.iadd, 1) := yd_op_96 (i := 22) yd_by_cL_law_12 rfl rfl
theorem dL_law_476 : decode cL_law 476 = .ok (.iaload, 1) := yd_op_46 (i := 23) yd_by_cL_law_12 rfl rfl
set_option maxRecDepth 100000 in
theorem yd_by_cL_law_13 : ydk cL_law 477 [42, 29, 5, 96, 46, 42, 29, 6, 96, 46, 182, 0, 56, 87, 44, 42, 29, 4, 96, 46, 42, 29] = true := by decide +kernel
theorem dL_law_477 : decode cL_law 477 = .ok (.aload_n 0, 1) := yd_op_42 (i := 0) yd_by_cL_law_13 rfl rfl
theorem dL_law_478 : decode cL_law 478 = .ok (.iload_n 3, 1) := yd_op_29 (i := 1) yd_by_cL_law_13 rfl rfl
theorem dL_law_479 : decode cL_law 479 = .ok (.iconst 2, 1) := yd_op_5 (i := 2) yd_by_cL_law_13 rfl rfl
theorem dL_law_480 : decode cL_law 480 = .ok (.iadd, 1) := yd_op_96 (i := 3) yd_by_cL_law_13 rfl rfl
theorem dL_law_481 : decode cL_law 481 = .ok (.iaload, 1) := yd_op_46 (i := 4) yd_by_cL_law_13 rfl rfl
theorem dL_law_482 : decode cL_law 482 = .ok (.aload_n 0, 1) := yd_op_42 (i := 5) yd_by_cL_law_13 rfl rfl
theorem dL_law_483 : decode cL_law 483 = .ok (.iload_n 3, 1) := yd_op_29 (i := 6) yd_by_cL_law_13 rfl rfl
theorem dL_law_484 : decode cL_law 484 = .ok (.iconst 3, 1) := yd_op_6 (i := 7) yd_by_cL_law_13 rfl rfl
theorem dL_law_485 : decode cL_law 485 = .ok (.iadd, 1) := yd_op_96 (i := 8) yd_by_cL_law_13 rfl rfl
theorem dL_law_486 : decode cL_law 486 = .ok (.iaload, 1) := yd_op_46 (i := 9) yd_by_cL_law_13 rfl rfl
theorem dL_law_487 : decode cL_law 487 = .ok (.invokevirtual 56, 3) := yd_op_182 (i := 10) (a := 0) (b := 56) yd_by_cL_law_13 rfl rfl
theorem dL_law_490 : decode cL_law 490 = .ok (.pop, 1) := yd_op_87 (i := 13) yd_by_cL_law_13 rfl rfl
theorem dL_law_491 : decode cL_law 491 = .ok (.aload_n 2, 1) := yd_op_44 (i := 14) yd_by_cL_law_13 rfl rfl
theorem dL_law_492 : decode cL_law 492 = .ok (.aload_n 0, 1) := yd_op_42 (i := 15) yd_by_cL_law_13 rfl rfl
theorem dL_law_493 : decode cL_law 493 = .ok (.iload_n 3, 1) := yd_op_29 (i := 16) yd_by_cL_law_13 rfl rfl
theorem dL_law_494 : decode cL_law 494 = .ok (.iconst 1, 1) := yd_op_4 (i := 17) yd_by_cL_law_13 rfl rfl
theorem dL_law_495 : decode cL_law 495 = .ok (.iadd, 1) := yd_op_96 (i := 18) yd_by_cL_law_13 rfl rfl
theorem dL_law_496 : decode cL_law 496 = .ok (.iaload, 1) := yd_op_46 (i := 19) yd_by_cL_law_13 rfl rfl
theorem dL_law_497 : decode cL_law 497 = .ok (.aload_n 0, 1) := yd_op_42 (i := 20) yd_by_cL_law_13 rfl rfl
theorem dL_law_498 : decode cL_law 498 = .ok (.iload_n 3, 1) := yd_op_29 (i := 21) yd_by_cL_law_13 rfl rfl
set_option maxRecDepth 100000 in
theorem yd_by_cL_law_14 : ydk cL_law 499 [5, 96, 46, 42, 29, 6, 96, 46, 182, 0, 59, 87, 167, 2, 43, 43, 42, 29, 4, 96, 46, 42, 29, 5] = true := by decide +kernel
theorem dL_law_499 : decode cL_law 499 = .ok (.iconst 2, 1) := yd_op_5 (i := 0) yd_by_cL_law_14 rfl rfl
theorem dL_law_500 : decode cL_law 500 = .ok (.iadd, 1) := yd_op_96 (i := 1) yd_by_cL_law_14 rfl rfl
theorem dL_law_501 : decode cL_law 501 = .ok (.iaload, 1) := yd_op_46 (i := 2) yd_by_cL_law_14 rfl rfl
theorem dL_law_502 : decode cL_law 502 = .ok (.aload_n 0, 1) := yd_op_42 (i := 3) yd_by_cL_law_14 rfl rfl
theorem dL_law_503 : decode cL_law 503 = .ok (.iload_n 3, 1) := yd_op_29 (i := 4) yd_by_cL_law_14 rfl rfl
theorem dL_law_504 : decode cL_law 504 = .ok (.iconst 3, 1) := yd_op_6 (i := 5) yd_by_cL_law_14 rfl rfl
theorem dL_law_505 : decode cL_law 505 = .ok (.iadd, 1) := yd_op_96 (i := 6) yd_by_cL_law_14 rfl rfl
theorem dL_law_506 : decode cL_law 506 = .ok (.iaload, 1) := yd_op_46 (i := 7) yd_by_cL_law_14 rfl rfl
theorem dL_law_507 : decode cL_law 507 = .ok (.invokevirtual 59, 3) := yd_op_182 (i := 8) (a := 0) (b := 59) yd_by_cL_law_14 rfl rfl
theorem dL_law_510 : decode cL_law 510 = .ok (.pop, 1) := yd_op_87 (i := 11) yd_by_cL_law_14 rfl rfl
theorem dL_law_511 : decode cL_law 511 = .ok (.goto 555, 3) := yd_op_167 (i := 12) (a := 2) (b := 43) yd_by_cL_law_14 rfl rfl
theorem dL_law_514 : decode cL_law 514 = .ok (.aload_n 1, 1) := yd_op_43 (i := 15) yd_by_cL_law_14 rfl rfl
theorem dL_law_515 : decode cL_law 515 = .ok (.aload_n 0, 1) := yd_op_42 (i := 16) yd_by_cL_law_14 rfl rfl
theorem dL_law_516 : decode cL_law 516 = .ok (.iload_n 3, 1) := yd_op_29 (i := 17) yd_by_cL_law_14 rfl rfl
theorem dL_law_517 : decode cL_law 517 = .ok (.iconst 1, 1) := yd_op_4 (i := 18) yd_by_cL_law_14 rfl rfl
theorem dL_law_518 : decode cL_law 518 = .ok (.iadd, 1) := yd_op_96 (i := 19) yd_by_cL_law_14 rfl rfl
theorem dL_law_519 : decode cL_law 519 = .ok (.iaload, 1) := yd_op_46 (i := 20) yd_by_cL_law_14 rfl rfl
theorem dL_law_520 : decode cL_law 520 = .ok (.aload_n 0, 1) := yd_op_42 (i := 21) yd_by_cL_law_14 rfl rfl
theorem dL_law_521 : decode cL_law 521 = .ok (.iload_n 3, 1) := yd_op_29 (i := 22) yd_by_cL_law_14 rfl rfl
theorem dL_law_522 : decode cL_law 522 = .ok (.iconst 2, 1) := yd_op_5 (i := 23) yd_by_cL_law_14 rfl rfl
set_option maxRecDepth 100000 in
theorem yd_by_cL_law_15 : ydk cL_law 523 [96, 46, 182, 0, 60, 87, 44, 42, 29, 4, 96, 46, 42, 29, 5, 96, 46, 182, 0, 63, 87, 167, 2, 10, 43, 42] = true := by decide +kernel
theorem dL_law_523 : decode cL_law 523 = .ok (.iadd, 1) := yd_op_96 (i := 0) yd_by_cL_law_15 rfl rfl
theorem dL_law_524 : decode cL_law 524 = .ok (.iaload, 1) := yd_op_46 (i := 1) yd_by_cL_law_15 rfl rfl
theorem dL_law_525 : decode cL_law 525 = .ok (.invokevirtual 60, 3) := yd_op_182 (i := 2) (a := 0) (b := 60) yd_by_cL_law_15 rfl rfl
theorem dL_law_528 : decode cL_law 528 = .ok (.pop, 1) := yd_op_87 (i := 5) yd_by_cL_law_15 rfl rfl
theorem dL_law_529 : decode cL_law 529 = .ok (.aload_n 2, 1) := yd_op_44 (i := 6) yd_by_cL_law_15 rfl rfl
theorem dL_law_530 : decode cL_law 530 = .ok (.aload_n 0, 1) := yd_op_42 (i := 7) yd_by_cL_law_15 rfl rfl
theorem dL_law_531 : decode cL_law 531 = .ok (.iload_n 3, 1) := yd_op_29 (i := 8) yd_by_cL_law_15 rfl rfl
theorem dL_law_532 : decode cL_law 532 = .ok (.iconst 1, 1) := yd_op_4 (i := 9) yd_by_cL_law_15 rfl rfl
theorem dL_law_533 : decode cL_law 533 = .ok (.iadd, 1) := yd_op_96 (i := 10) yd_by_cL_law_15 rfl rfl
theorem dL_law_534 : decode cL_law 534 = .ok (.iaload, 1) := yd_op_46 (i := 11) yd_by_cL_law_15 rfl rfl
theorem dL_law_535 : decode cL_law 535 = .ok (.aload_n 0, 1) := yd_op_42 (i := 12) yd_by_cL_law_15 rfl rfl
theorem dL_law_536 : decode cL_law 536 = .ok (.iload_n 3, 1) := yd_op_29 (i := 13) yd_by_cL_law_15 rfl rfl
theorem dL_law_537 : decode cL_law 537 = .ok (.iconst 2, 1) := yd_op_5 (i := 14) yd_by_cL_law_15 rfl rfl
theorem dL_law_538 : decode cL_law 538 = .ok (.iadd, 1) := yd_op_96 (i := 15) yd_by_cL_law_15 rfl rfl
theorem dL_law_539 : decode cL_law 539 = .ok (.iaload, 1) := yd_op_46 (i := 16) yd_by_cL_law_15 rfl rfl
theorem dL_law_540 : decode cL_law 540 = .ok (.invokevirtual 63, 3) := yd_op_182 (i := 17) (a := 0) (b := 63) yd_by_cL_law_15 rfl rfl
theorem dL_law_543 : decode cL_law 543 = .ok (.pop, 1) := yd_op_87 (i := 20) yd_by_cL_law_15 rfl rfl
theorem dL_law_544 : decode cL_law 544 = .ok (.goto 522, 3) := yd_op_167 (i := 21) (a := 2) (b := 10) yd_by_cL_law_15 rfl rfl
theorem dL_law_547 : decode cL_law 547 = .ok (.aload_n 1, 1) := yd_op_43 (i := 24) yd_by_cL_law_15 rfl rfl
theorem dL_law_548 : decode cL_law 548 = .ok (.aload_n 0, 1) := yd_op_42 (i := 25) yd_by_cL_law_15 rfl rfl
set_option maxRecDepth 100000 in
theorem yd_by_cL_law_16 : ydk cL_law 549 [29, 4, 96, 46, 42, 29, 5, 96, 46, 182, 0, 64, 87, 44, 42, 29, 4, 96, 46, 42, 29, 5] = true := by decide +kernel
theorem dL_law_549 : decode cL_law 549 = .ok (.iload_n 3, 1) := yd_op_29 (i := 0) yd_by_cL_law_16 rfl rfl
theorem dL_law_550 : decode cL_law 550 = .ok (.iconst 1, 1) := yd_op_4 (i := 1) yd_by_cL_law_16 rfl rfl
theorem dL_law_551 : decode cL_law 551 = .ok (.iadd, 1) := yd_op_96 (i := 2) yd_by_cL_law_16 rfl rfl
theorem dL_law_552 : decode cL_law 552 = .ok (.iaload, 1) := yd_op_46 (i := 3) yd_by_cL_law_16 rfl rfl
theorem dL_law_553 : decode cL_law 553 = .ok (.aload_n 0, 1) := yd_op_42 (i := 4) yd_by_cL_law_16 rfl rfl
theorem dL_law_554 : decode cL_law 554 = .ok (.iload_n 3, 1) := yd_op_29 (i := 5) yd_by_cL_law_16 rfl rfl
theorem dL_law_555 : decode cL_law 555 = .ok (.iconst 2, 1) := yd_op_5 (i := 6) yd_by_cL_law_16 rfl rfl
theorem dL_law_556 : decode cL_law 556 = .ok (.iadd, 1) := yd_op_96 (i := 7) yd_by_cL_law_16 rfl rfl
theorem dL_law_557 : decode cL_law 557 = .ok (.iaload, 1) := yd_op_46 (i := 8) yd_by_cL_law_16 rfl rfl
theorem dL_law_558 : decode cL_law 558 = .ok (.invokevirtual 64, 3) := yd_op_182 (i := 9) (a := 0) (b := 64) yd_by_cL_law_16 rfl rfl
theorem dL_law_561 : decode cL_law 561 = .ok (.pop, 1) := yd_op_87 (i := 12) yd_by_cL_law_16 rfl rfl
theorem dL_law_562 : decode cL_law 562 = .ok (.aload_n 2, 1) := yd_op_44 (i := 13) yd_by_cL_law_16 rfl rfl
theorem dL_law_563 : decode cL_law 563 = .ok (.aload_n 0, 1) := yd_op_42 (i := 14) yd_by_cL_law_16 rfl rfl
theorem dL_law_564 : decode cL_law 564 = .ok (.iload_n 3, 1) := yd_op_29 (i := 15) yd_by_cL_law_16 rfl rfl
theorem dL_law_565 : decode cL_law 565 = .ok (.iconst 1, 1) := yd_op_4 (i := 16) yd_by_cL_law_16 rfl rfl
theorem dL_law_566 : decode cL_law 566 = .ok (.iadd, 1) := yd_op_96 (i := 17) yd_by_cL_law_16 rfl rfl
theorem dL_law_567 : decode cL_law 567 = .ok (.iaload, 1) := yd_op_46 (i := 18) yd_by_cL_law_16 rfl rfl
theorem dL_law_568 : decode cL_law 568 = .ok (.aload_n 0, 1) := yd_op_42 (i := 19) yd_by_cL_law_16 rfl rfl
theorem dL_law_569 : decode cL_law 569 = .ok (.iload_n 3, 1) := yd_op_29 (i := 20) yd_by_cL_law_16 rfl rfl
theorem dL_law_570 : decode cL_law 570 = .ok (.iconst 2, 1) := yd_op_5 (i := 21) yd_by_cL_law_16 rfl rfl
set_option maxRecDepth 100000 in
theorem yd_by_cL_law_17 : ydk cL_law 571 [96, 46, 182, 0, 67, 87, 167, 1, 233, 43, 182, 0, 68, 87, 44, 182, 0, 71, 87, 167, 1, 220, 43, 42, 29, 4, 96, 46, 182, 0, 72, 87] = true := by decide +kernel
theorem dL_law_571 : decode cL_law 571 = .ok (.iadd, 1) := yd_op_96 (i := 0) yd_by_cL_law_17 rfl rfl
theorem dL_law_572 : decode cL_law 572 = .ok (.iaload, 1) := yd_op_46 (i := 1) yd_by_cL_law_17 rfl rfl
theorem dL_law_573 : decode cL_law 573 = .ok (.invokevirtual 67, 3) := yd_op_182 (i := 2) (a := 0) (b := 67) yd_by_cL_law_17 rfl rfl
theorem dL_law_576 : decode cL_law 576 = .ok (.pop, 1) := yd_op_87 (i := 5) yd_by_cL_law_17 rfl rfl
theorem dL_law_577 : decode cL_law 577 = .ok (.goto 489, 3) := yd_op_167 (i := 6) (a := 1) (b := 233) yd_by_cL_law_17 rfl rfl
theorem dL_law_580 : decode cL_law 580 = .ok (.aload_n 1, 1) := yd_op_43 (i := 9) yd_by_cL_law_17 rfl rfl
theorem dL_law_581 : decode cL_law 581 = .ok (.invokevirtual 68, 3) := yd_op_182 (i := 10) (a := 0) (b := 68) yd_by_cL_law_17 rfl rfl
theorem dL_law_584 : decode cL_law 584 = .ok (.pop, 1) := yd_op_87 (i := 13) yd_by_cL_law_17 rfl rfl
theorem dL_law_585 : decode cL_law 585 = .ok (.aload_n 2, 1) := yd_op_44 (i := 14) yd_by_cL_law_17 rfl rfl
theorem dL_law_586 : decode cL_law 586 = .ok (.invokevirtual 71, 3) := yd_op_182 (i := 15) (a := 0) (b := 71) yd_by_cL_law_17 rfl rfl
theorem dL_law_589 : decode cL_law 589 = .ok (.pop, 1) := yd_op_87 (i := 18) yd_by_cL_law_17 rfl rfl
theorem dL_law_590 : decode cL_law 590 = .ok (.goto 476, 3) := yd_op_167 (i := 19) (a := 1) (b := 220) yd_by_cL_law_17 rfl rfl
theorem dL_law_593 : decode cL_law 593 = .ok (.aload_n 1, 1) := yd_op_43 (i := 22) yd_by_cL_law_17 rfl rfl
theorem dL_law_594 : decode cL_law 594 = .ok (.aload_n 0, 1) := yd_op_42 (i := 23) yd_by_cL_law_17 rfl rfl
theorem dL_law_595 : decode cL_law 595 = .ok (.iload_n 3, 1) := yd_op_29 (i := 24) yd_by_cL_law_17 rfl rfl
theorem dL_law_596 : decode cL_law 596 = .ok (.iconst 1, 1) := yd_op_4 (i := 25) yd_by_cL_law_17 rfl rfl
theorem dL_law_597 : decode cL_law 597 = .ok (.iadd, 1) := yd_op_96 (i := 26) yd_by_cL_law_17 rfl rfl
theorem dL_law_598 : decode cL_law 598 = .ok (.iaload, 1) := yd_op_46 (i := 27) yd_by_cL_law_17 rfl rfl
theorem dL_law_599 : decode cL_law 599 = .ok (.invokevirtual 72, 3) := yd_op_182 (i := 28) (a := 0) (b := 72) yd_by_cL_law_17 rfl rfl
theorem dL_law_602 : decode cL_law 602 = .ok (.pop, 1) := yd_op_87 (i := 31) yd_by_cL_law_17 rfl rfl
set_option maxRecDepth 100000 in
theorem yd_by_cL_law_18 : ydk cL_law 603 [44, 42, 29, 4, 96, 46, 182, 0, 75, 87, 167, 1, 197, 43, 182, 0, 76, 87, 44, 182, 0, 79, 87, 167, 1, 184, 43, 182, 0, 80, 87, 44] = true := by decide +kernel
theorem dL_law_603 : decode cL_law 603 = .ok (.aload_n 2, 1) := yd_op_44 (i := 0) yd_by_cL_law_18 rfl rfl
theorem dL_law_604 : decode cL_law 604 = .ok (.aload_n 0, 1) := yd_op_42 (i := 1) yd_by_cL_law_18 rfl rfl
theorem dL_law_605 : decode cL_law 605 = .ok (.iload_n 3, 1) := yd_op_29 (i := 2) yd_by_cL_law_18 rfl rfl
theorem dL_law_606 : decode cL_law 606 = .ok (.iconst 1, 1) := yd_op_4 (i := 3) yd_by_cL_law_18 rfl rfl
theorem dL_law_607 : decode cL_law 607 = .ok (.iadd, 1) := yd_op_96 (i := 4) yd_by_cL_law_18 rfl rfl
theorem dL_law_608 : decode cL_law 608 = .ok (.iaload, 1) := yd_op_46 (i := 5) yd_by_cL_law_18 rfl rfl
theorem dL_law_609 : decode cL_law 609 = .ok (.invokevirtual 75, 3) := yd_op_182 (i := 6) (a := 0) (b := 75) yd_by_cL_law_18 rfl rfl
theorem dL_law_612 : decode cL_law 612 = .ok (.pop, 1) := yd_op_87 (i := 9) yd_by_cL_law_18 rfl rfl
theorem dL_law_613 : decode cL_law 613 = .ok (.goto 453, 3) := yd_op_167 (i := 10) (a := 1) (b := 197) yd_by_cL_law_18 rfl rfl
theorem dL_law_616 : decode cL_law 616 = .ok (.aload_n 1, 1) := yd_op_43 (i := 13) yd_by_cL_law_18 rfl rfl
theorem dL_law_617 : decode cL_law 617 = .ok (.invokevirtual 76, 3) := yd_op_182 (i := 14) (a := 0) (b := 76) yd_by_cL_law_18 rfl rfl
theorem dL_law_620 : decode cL_law 620 = .ok (.pop, 1) := yd_op_87 (i := 17) yd_by_cL_law_18 rfl rfl
theorem dL_law_621 : decode cL_law 621 = .ok (.aload_n 2, 1) := yd_op_44 (i := 18) yd_by_cL_law_18 rfl rfl
theorem dL_law_622 : decode cL_law 622 = .ok (.invokevirtual 79, 3) := yd_op_182 (i := 19) (a := 0) (b := 79) yd_by_cL_law_18 rfl rfl
theorem dL_law_625 : decode cL_law 625 = .ok (.pop, 1) := yd_op_87 (i := 22) yd_by_cL_law_18 rfl rfl
theorem dL_law_626 : decode cL_law 626 = .ok (.goto 440, 3) := yd_op_167 (i := 23) (a := 1) (b := 184) yd_by_cL_law_18 rfl rfl
theorem dL_law_629 : decode cL_law 629 = .ok (.aload_n 1, 1) := yd_op_43 (i := 26) yd_by_cL_law_18 rfl rfl
theorem dL_law_630 : decode cL_law 630 = .ok (.invokevirtual 80, 3) := yd_op_182 (i := 27) (a := 0) (b := 80) yd_by_cL_law_18 rfl rfl
theorem dL_law_633 : decode cL_law 633 = .ok (.pop, 1) := yd_op_87 (i := 30) yd_by_cL_law_18 rfl rfl
theorem dL_law_634 : decode cL_law 634 = .ok (.aload_n 2, 1) := yd_op_44 (i := 31) yd_by_cL_law_18 rfl rfl
set_option maxRecDepth 100000 in
theorem yd_by_cL_law_19 : ydk cL_law 635 [182, 0, 83, 87, 167, 1, 171, 43, 42, 29, 4, 96, 46, 42, 29, 5, 96, 46, 182, 0, 84, 87, 44, 42, 29, 4] = true := by decide +kernel
theorem dL_law_635 : decode cL_law 635 = .ok (.invokevirtual 83, 3) := yd_op_182 (i := 0) (a := 0) (b := 83) yd_by_cL_law_19 rfl rfl
theorem dL_law_638 : decode cL_law 638 = .ok (.pop, 1) := yd_op_87 (i := 3) yd_by_cL_law_19 rfl rfl
theorem dL_law_639 : decode cL_law 639 = .ok (.goto 427, 3) := yd_op_167 (i := 4) (a := 1) (b := 171) yd_by_cL_law_19 rfl rfl
theorem dL_law_642 : decode cL_law 642 = .ok (.aload_n 1, 1) := yd_op_43 (i := 7) yd_by_cL_law_19 rfl rfl
theorem dL_law_643 : decode cL_law 643 = .ok (.aload_n 0, 1) := yd_op_42 (i := 8) yd_by_cL_law_19 rfl rfl
theorem dL_law_644 : decode cL_law 644 = .ok (.iload_n 3, 1) := yd_op_29 (i := 9) yd_by_cL_law_19 rfl rfl
theorem dL_law_645 : decode cL_law 645 = .ok (.iconst 1, 1) := yd_op_4 (i := 10) yd_by_cL_law_19 rfl rfl
theorem dL_law_646 : decode cL_law 646 = .ok (.iadd, 1) := yd_op_96 (i := 11) yd_by_cL_law_19 rfl rfl
theorem dL_law_647 : decode cL_law 647 = .ok (.iaload, 1) := yd_op_46 (i := 12) yd_by_cL_law_19 rfl rfl
theorem dL_law_648 : decode cL_law 648 = .ok (.aload_n 0, 1) := yd_op_42 (i := 13) yd_by_cL_law_19 rfl rfl
theorem dL_law_649 : decode cL_law 649 = .ok (.iload_n 3, 1) := yd_op_29 (i := 14) yd_by_cL_law_19 rfl rfl
theorem dL_law_650 : decode cL_law 650 = .ok (.iconst 2, 1) := yd_op_5 (i := 15) yd_by_cL_law_19 rfl rfl
theorem dL_law_651 : decode cL_law 651 = .ok (.iadd, 1) := yd_op_96 (i := 16) yd_by_cL_law_19 rfl rfl
theorem dL_law_652 : decode cL_law 652 = .ok (.iaload, 1) := yd_op_46 (i := 17) yd_by_cL_law_19 rfl rfl
theorem dL_law_653 : decode cL_law 653 = .ok (.invokevirtual 84, 3) := yd_op_182 (i := 18) (a := 0) (b := 84) yd_by_cL_law_19 rfl rfl
theorem dL_law_656 : decode cL_law 656 = .ok (.pop, 1) := yd_op_87 (i := 21) yd_by_cL_law_19 rfl rfl
theorem dL_law_657 : decode cL_law 657 = .ok (.aload_n 2, 1) := yd_op_44 (i := 22) yd_by_cL_law_19 rfl rfl
theorem dL_law_658 : decode cL_law 658 = .ok (.aload_n 0, 1) := yd_op_42 (i := 23) yd_by_cL_law_19 rfl rfl
theorem dL_law_659 : decode cL_law 659 = .ok (.iload_n 3, 1) := yd_op_29 (i := 24) yd_by_cL_law_19 rfl rfl
theorem dL_law_660 : decode cL_law 660 = .ok (.iconst 1, 1) := yd_op_4 (i := 25) yd_by_cL_law_19 rfl rfl
set_option maxRecDepth 100000 in
theorem yd_by_cL_law_20 : ydk cL_law 661 [96, 46, 42, 29, 5, 96, 46, 182, 0, 87, 87, 167, 1, 138, 43, 42, 29, 4, 96, 46, 182, 0, 88, 87, 44, 42] = true := by decide +kernel
theorem dL_law_661 : decode cL_law 661 = .ok (.iadd, 1) := yd_op_96 (i := 0) yd_by_cL_law_20 rfl rfl
theorem dL_law_662 : decode cL_law 662 = .ok (.iaload, 1) := yd_op_46 (i := 1) yd_by_cL_law_20 rfl rfl
theorem dL_law_663 : decode cL_law 663 = .ok (.aload_n 0, 1) := yd_op_42 (i := 2) yd_by_cL_law_20 rfl rfl
theorem dL_law_664 : decode cL_law 664 = .ok (.iload_n 3, 1) := yd_op_29 (i := 3) yd_by_cL_law_20 rfl rfl
theorem dL_law_665 : decode cL_law 665 = .ok (.iconst 2, 1) := yd_op_5 (i := 4) yd_by_cL_law_20 rfl rfl
theorem dL_law_666 : decode cL_law 666 = .ok (.iadd, 1) := yd_op_96 (i := 5) yd_by_cL_law_20 rfl rfl
theorem dL_law_667 : decode cL_law 667 = .ok (.iaload, 1) := yd_op_46 (i := 6) yd_by_cL_law_20 rfl rfl
theorem dL_law_668 : decode cL_law 668 = .ok (.invokevirtual 87, 3) := yd_op_182 (i := 7) (a := 0) (b := 87) yd_by_cL_law_20 rfl rfl
theorem dL_law_671 : decode cL_law 671 = .ok (.pop, 1) := yd_op_87 (i := 10) yd_by_cL_law_20 rfl rfl
theorem dL_law_672 : decode cL_law 672 = .ok (.goto 394, 3) := yd_op_167 (i := 11) (a := 1) (b := 138) yd_by_cL_law_20 rfl rfl
theorem dL_law_675 : decode cL_law 675 = .ok (.aload_n 1, 1) := yd_op_43 (i := 14) yd_by_cL_law_20 rfl rfl
theorem dL_law_676 : decode cL_law 676 = .ok (.aload_n 0, 1) := yd_op_42 (i := 15) yd_by_cL_law_20 rfl rfl
theorem dL_law_677 : decode cL_law 677 = .ok (.iload_n 3, 1) := yd_op_29 (i := 16) yd_by_cL_law_20 rfl rfl
theorem dL_law_678 : decode cL_law 678 = .ok (.iconst 1, 1) := yd_op_4 (i := 17) yd_by_cL_law_20 rfl rfl
theorem dL_law_679 : decode cL_law 679 = .ok (.iadd, 1) := yd_op_96 (i := 18) yd_by_cL_law_20 rfl rfl
theorem dL_law_680 : decode cL_law 680 = .ok (.iaload, 1) := yd_op_46 (i := 19) yd_by_cL_law_20 rfl rfl
theorem dL_law_681 : decode cL_law 681 = .ok (.invokevirtual 88, 3) := yd_op_182 (i := 20) (a := 0) (b := 88) yd_by_cL_law_20 rfl rfl
theorem dL_law_684 : decode cL_law 684 = .ok (.pop, 1) := yd_op_87 (i := 23) yd_by_cL_law_20 rfl rfl
theorem dL_law_685 : decode cL_law 685 = .ok (.aload_n 2, 1) := yd_op_44 (i := 24) yd_by_cL_law_20 rfl rfl
theorem dL_law_686 : decode cL_law 686 = .ok (.aload_n 0, 1) := yd_op_42 (i := 25) yd_by_cL_law_20 rfl rfl
set_option maxRecDepth 100000 in
theorem yd_by_cL_law_21 : ydk cL_law 687 [29, 4, 96, 46, 182, 0, 91, 87, 167, 1, 115, 43, 42, 29, 4, 96, 46, 42, 29, 5, 96, 46, 182, 0, 92, 87] = true := by decide +kernel
theorem dL_law_687 : decode cL_law 687 = .ok (.iload_n 3, 1) := yd_op_29 (i := 0) yd_by_cL_law_21 rfl rfl
theorem dL_law_688 : decode cL_law 688 = .ok (.iconst 1, 1) := yd_op_4 (i := 1) yd_by_cL_law_21 rfl rfl
theorem dL_law_689 : decode cL_law 689 = .ok (.iadd, 1) := yd_op_96 (i := 2) yd_by_cL_law_21 rfl rfl
theorem dL_law_690 : decode cL_law 690 = .ok (.iaload, 1) := yd_op_46 (i := 3) yd_by_cL_law_21 rfl rfl
theorem dL_law_691 : decode cL_law 691 = .ok (.invokevirtual 91, 3) := yd_op_182 (i := 4) (a := 0) (b := 91) yd_by_cL_law_21 rfl rfl
theorem dL_law_694 : decode cL_law 694 = .ok (.pop, 1) := yd_op_87 (i := 7) yd_by_cL_law_21 rfl rfl
theorem dL_law_695 : decode cL_law 695 = .ok (.goto 371, 3) := yd_op_167 (i := 8) (a := 1) (b := 115) yd_by_cL_law_21 rfl rfl
theorem dL_law_698 : decode cL_law 698 = .ok (.aload_n 1, 1) := yd_op_43 (i := 11) yd_by_cL_law_21 rfl rfl
theorem dL_law_699 : decode cL_law 699 = .ok (.aload_n 0, 1) := yd_op_42 (i := 12) yd_by_cL_law_21 rfl rfl
theorem dL_law_700 : decode cL_law 700 = .ok (.iload_n 3, 1) := yd_op_29 (i := 13) yd_by_cL_law_21 rfl rfl
theorem dL_law_701 : decode cL_law 701 = .ok (.iconst 1, 1) := yd_op_4 (i := 14) yd_by_cL_law_21 rfl rfl
theorem dL_law_702 : decode cL_law 702 = .ok (.iadd, 1) := yd_op_96 (i := 15) yd_by_cL_law_21 rfl rfl
theorem dL_law_703 : decode cL_law 703 = .ok (.iaload, 1) := yd_op_46 (i := 16) yd_by_cL_law_21 rfl rfl
theorem dL_law_704 : decode cL_law 704 = .ok (.aload_n 0, 1) := yd_op_42 (i := 17) yd_by_cL_law_21 rfl rfl
theorem dL_law_705 : decode cL_law 705 = .ok (.iload_n 3, 1) := yd_op_29 (i := 18) yd_by_cL_law_21 rfl rfl
theorem dL_law_706 : decode cL_law 706 = .ok (.iconst 2, 1) := yd_op_5 (i := 19) yd_by_cL_law_21 rfl rfl
theorem dL_law_707 : decode cL_law 707 = .ok (.iadd, 1) := yd_op_96 (i := 20) yd_by_cL_law_21 rfl rfl
theorem dL_law_708 : decode cL_law 708 = .ok (.iaload, 1) := yd_op_46 (i := 21) yd_by_cL_law_21 rfl rfl
theorem dL_law_709 : decode cL_law 709 = .ok (.invokevirtual 92, 3) := yd_op_182 (i := 22) (a := 0) (b := 92) yd_by_cL_law_21 rfl rfl
theorem dL_law_712 : decode cL_law 712 = .ok (.pop, 1) := yd_op_87 (i := 25) yd_by_cL_law_21 rfl rfl
set_option maxRecDepth 100000 in
theorem yd_by_cL_law_22 : ydk cL_law 713 [44, 42, 29, 4, 96, 46, 42, 29, 5, 96, 46, 182, 0, 95, 87, 167, 1, 82, 43, 182, 0, 96, 87, 44, 182, 0, 99, 87] = true := by decide +kernel
theorem dL_law_713 : decode cL_law 713 = .ok (.aload_n 2, 1) := yd_op_44 (i := 0) yd_by_cL_law_22 rfl rfl
theorem dL_law_714 : decode cL_law 714 = .ok (.aload_n 0, 1) := yd_op_42 (i := 1) yd_by_cL_law_22 rfl rfl
theorem dL_law_715 : decode cL_law 715 = .ok (.iload_n 3, 1) := yd_op_29 (i := 2) yd_by_cL_law_22 rfl rfl
theorem dL_law_716 : decode cL_law 716 = .ok (.iconst 1, 1) := yd_op_4 (i := 3) yd_by_cL_law_22 rfl rfl
theorem dL_law_717 : decode cL_law 717 = .ok (.iadd, 1) := yd_op_96 (i := 4) yd_by_cL_law_22 rfl rfl
theorem dL_law_718 : decode cL_law 718 = .ok (.iaload, 1) := yd_op_46 (i := 5) yd_by_cL_law_22 rfl rfl
theorem dL_law_719 : decode cL_law 719 = .ok (.aload_n 0, 1) := yd_op_42 (i := 6) yd_by_cL_law_22 rfl rfl
theorem dL_law_720 : decode cL_law 720 = .ok (.iload_n 3, 1) := yd_op_29 (i := 7) yd_by_cL_law_22 rfl rfl
theorem dL_law_721 : decode cL_law 721 = .ok (.iconst 2, 1) := yd_op_5 (i := 8) yd_by_cL_law_22 rfl rfl
theorem dL_law_722 : decode cL_law 722 = .ok (.iadd, 1) := yd_op_96 (i := 9) yd_by_cL_law_22 rfl rfl
theorem dL_law_723 : decode cL_law 723 = .ok (.iaload, 1) := yd_op_46 (i := 10) yd_by_cL_law_22 rfl rfl
theorem dL_law_724 : decode cL_law 724 = .ok (.invokevirtual 95, 3) := yd_op_182 (i := 11) (a := 0) (b := 95) yd_by_cL_law_22 rfl rfl
theorem dL_law_727 : decode cL_law 727 = .ok (.pop, 1) := yd_op_87 (i := 14) yd_by_cL_law_22 rfl rfl
theorem dL_law_728 : decode cL_law 728 = .ok (.goto 338, 3) := yd_op_167 (i := 15) (a := 1) (b := 82) yd_by_cL_law_22 rfl rfl
theorem dL_law_731 : decode cL_law 731 = .ok (.aload_n 1, 1) := yd_op_43 (i := 18) yd_by_cL_law_22 rfl rfl
theorem dL_law_732 : decode cL_law 732 = .ok (.invokevirtual 96, 3) := yd_op_182 (i := 19) (a := 0) (b := 96) yd_by_cL_law_22 rfl rfl
theorem dL_law_735 : decode cL_law 735 = .ok (.pop, 1) := yd_op_87 (i := 22) yd_by_cL_law_22 rfl rfl
theorem dL_law_736 : decode cL_law 736 = .ok (.aload_n 2, 1) := yd_op_44 (i := 23) yd_by_cL_law_22 rfl rfl
theorem dL_law_737 : decode cL_law 737 = .ok (.invokevirtual 99, 3) := yd_op_182 (i := 24) (a := 0) (b := 99) yd_by_cL_law_22 rfl rfl
theorem dL_law_740 : decode cL_law 740 = .ok (.pop, 1) := yd_op_87 (i := 27) yd_by_cL_law_22 rfl rfl
set_option maxRecDepth 100000 in
theorem yd_by_cL_law_23 : ydk cL_law 741 [167, 1, 69, 43, 42, 29, 4, 96, 46, 182, 0, 100, 87, 44, 42, 29, 4, 96, 46, 182, 0, 103, 87, 167, 1, 46, 43, 42] = true := by decide +kernel
theorem dL_law_741 : decode cL_law 741 = .ok (.goto 325, 3) := yd_op_167 (i := 0) (a := 1) (b := 69) yd_by_cL_law_23 rfl rfl
theorem dL_law_744 : decode cL_law 744 = .ok (.aload_n 1, 1) := yd_op_43 (i := 3) yd_by_cL_law_23 rfl rfl
theorem dL_law_745 : decode cL_law 745 = .ok (.aload_n 0, 1) := yd_op_42 (i := 4) yd_by_cL_law_23 rfl rfl
theorem dL_law_746 : decode cL_law 746 = .ok (.iload_n 3, 1) := yd_op_29 (i := 5) yd_by_cL_law_23 rfl rfl
theorem dL_law_747 : decode cL_law 747 = .ok (.iconst 1, 1) := yd_op_4 (i := 6) yd_by_cL_law_23 rfl rfl
theorem dL_law_748 : decode cL_law 748 = .ok (.iadd, 1) := yd_op_96 (i := 7) yd_by_cL_law_23 rfl rfl
theorem dL_law_749 : decode cL_law 749 = .ok (.iaload, 1) := yd_op_46 (i := 8) yd_by_cL_law_23 rfl rfl
theorem dL_law_750 : decode cL_law 750 = .ok (.invokevirtual 100, 3) := yd_op_182 (i := 9) (a := 0) (b := 100) yd_by_cL_law_23 rfl rfl
theorem dL_law_753 : decode cL_law 753 = .ok (.pop, 1) := yd_op_87 (i := 12) yd_by_cL_law_23 rfl rfl
theorem dL_law_754 : decode cL_law 754 = .ok (.aload_n 2, 1) := yd_op_44 (i := 13) yd_by_cL_law_23 rfl rfl
theorem dL_law_755 : decode cL_law 755 = .ok (.aload_n 0, 1) := yd_op_42 (i := 14) yd_by_cL_law_23 rfl rfl
theorem dL_law_756 : decode cL_law 756 = .ok (.iload_n 3, 1) := yd_op_29 (i := 15) yd_by_cL_law_23 rfl rfl
theorem dL_law_757 : decode cL_law 757 = .ok (.iconst 1, 1) := yd_op_4 (i := 16) yd_by_cL_law_23 rfl rfl
theorem dL_law_758 : decode cL_law 758 = .ok (.iadd, 1) := yd_op_96 (i := 17) yd_by_cL_law_23 rfl rfl
theorem dL_law_759 : decode cL_law 759 = .ok (.iaload, 1) := yd_op_46 (i := 18) yd_by_cL_law_23 rfl rfl
theorem dL_law_760 : decode cL_law 760 = .ok (.invokevirtual 103, 3) := yd_op_182 (i := 19) (a := 0) (b := 103) yd_by_cL_law_23 rfl rfl
theorem dL_law_763 : decode cL_law 763 = .ok (.pop, 1) := yd_op_87 (i := 22) yd_by_cL_law_23 rfl rfl
theorem dL_law_764 : decode cL_law 764 = .ok (.goto 302, 3) := yd_op_167 (i := 23) (a := 1) (b := 46) yd_by_cL_law_23 rfl rfl
theorem dL_law_767 : decode cL_law 767 = .ok (.aload_n 1, 1) := yd_op_43 (i := 26) yd_by_cL_law_23 rfl rfl
theorem dL_law_768 : decode cL_law 768 = .ok (.aload_n 0, 1) := yd_op_42 (i := 27) yd_by_cL_law_23 rfl rfl
set_option maxRecDepth 100000 in
theorem yd_by_cL_law_24 : ydk cL_law 769 [29, 4, 96, 46, 182, 0, 104, 87, 44, 42, 29, 4, 96, 46, 182, 0, 107, 87, 167, 1, 23, 43, 42, 29, 4, 96] = true := by decide +kernel
theorem dL_law_769 : decode cL_law 769 = .ok (.iload_n 3, 1) := yd_op_29 (i := 0) yd_by_cL_law_24 rfl rfl
theorem dL_law_770 : decode cL_law 770 = .ok (.iconst 1, 1) := yd_op_4 (i := 1) yd_by_cL_law_24 rfl rfl
theorem dL_law_771 : decode cL_law 771 = .ok (.iadd, 1) := yd_op_96 (i := 2) yd_by_cL_law_24 rfl rfl
theorem dL_law_772 : decode cL_law 772 = .ok (.iaload, 1) := yd_op_46 (i := 3) yd_by_cL_law_24 rfl rfl
theorem dL_law_773 : decode cL_law 773 = .ok (.invokevirtual 104, 3) := yd_op_182 (i := 4) (a := 0) (b := 104) yd_by_cL_law_24 rfl rfl
theorem dL_law_776 : decode cL_law 776 = .ok (.pop, 1) := yd_op_87 (i := 7) yd_by_cL_law_24 rfl rfl
theorem dL_law_777 : decode cL_law 777 = .ok (.aload_n 2, 1) := yd_op_44 (i := 8) yd_by_cL_law_24 rfl rfl
theorem dL_law_778 : decode cL_law 778 = .ok (.aload_n 0, 1) := yd_op_42 (i := 9) yd_by_cL_law_24 rfl rfl
theorem dL_law_779 : decode cL_law 779 = .ok (.iload_n 3, 1) := yd_op_29 (i := 10) yd_by_cL_law_24 rfl rfl
theorem dL_law_780 : decode cL_law 780 = .ok (.iconst 1, 1) := yd_op_4 (i := 11) yd_by_cL_law_24 rfl rfl
theorem dL_law_781 : decode cL_law 781 = .ok (.iadd, 1) := yd_op_96 (i := 12) yd_by_cL_law_24 rfl rfl
theorem dL_law_782 : decode cL_law 782 = .ok (.iaload, 1) := yd_op_46 (i := 13) yd_by_cL_law_24 rfl rfl
theorem dL_law_783 : decode cL_law 783 = .ok (.invokevirtual 107, 3) := yd_op_182 (i := 14) (a := 0) (b := 107) yd_by_cL_law_24 rfl rfl
theorem dL_law_786 : decode cL_law 786 = .ok (.pop, 1) := yd_op_87 (i := 17) yd_by_cL_law_24 rfl rfl
theorem dL_law_787 : decode cL_law 787 = .ok (.goto 279, 3) := yd_op_167 (i := 18) (a := 1) (b := 23) yd_by_cL_law_24 rfl rfl
theorem dL_law_790 : decode cL_law 790 = .ok (.aload_n 1, 1) := yd_op_43 (i := 21) yd_by_cL_law_24 rfl rfl
theorem dL_law_791 : decode cL_law 791 = .ok (.aload_n 0, 1) := yd_op_42 (i := 22) yd_by_cL_law_24 rfl rfl
theorem dL_law_792 : decode cL_law 792 = .ok (.iload_n 3, 1) := yd_op_29 (i := 23) yd_by_cL_law_24 rfl rfl
theorem dL_law_793 : decode cL_law 793 = .ok (.iconst 1, 1) := yd_op_4 (i := 24) yd_by_cL_law_24 rfl rfl
theorem dL_law_794 : decode cL_law 794 = .ok (.iadd, 1) := yd_op_96 (i := 25) yd_by_cL_law_24 rfl rfl
set_option maxRecDepth 100000 in
theorem yd_by_cL_law_25 : ydk cL_law 795 [46, 42, 29, 5, 96, 46, 182, 0, 108, 87, 44, 42, 29, 4, 96, 46, 42, 29, 5, 96, 46, 182, 0, 112] = true := by decide +kernel
theorem dL_law_795 : decode cL_law 795 = .ok (.iaload, 1) := yd_op_46 (i := 0) yd_by_cL_law_25 rfl rfl
theorem dL_law_796 : decode cL_law 796 = .ok (.aload_n 0, 1) := yd_op_42 (i := 1) yd_by_cL_law_25 rfl rfl
theorem dL_law_797 : decode cL_law 797 = .ok (.iload_n 3, 1) := yd_op_29 (i := 2) yd_by_cL_law_25 rfl rfl
theorem dL_law_798 : decode cL_law 798 = .ok (.iconst 2, 1) := yd_op_5 (i := 3) yd_by_cL_law_25 rfl rfl
theorem dL_law_799 : decode cL_law 799 = .ok (.iadd, 1) := yd_op_96 (i := 4) yd_by_cL_law_25 rfl rfl
theorem dL_law_800 : decode cL_law 800 = .ok (.iaload, 1) := yd_op_46 (i := 5) yd_by_cL_law_25 rfl rfl
theorem dL_law_801 : decode cL_law 801 = .ok (.invokevirtual 108, 3) := yd_op_182 (i := 6) (a := 0) (b := 108) yd_by_cL_law_25 rfl rfl
theorem dL_law_804 : decode cL_law 804 = .ok (.pop, 1) := yd_op_87 (i := 9) yd_by_cL_law_25 rfl rfl
theorem dL_law_805 : decode cL_law 805 = .ok (.aload_n 2, 1) := yd_op_44 (i := 10) yd_by_cL_law_25 rfl rfl
theorem dL_law_806 : decode cL_law 806 = .ok (.aload_n 0, 1) := yd_op_42 (i := 11) yd_by_cL_law_25 rfl rfl
theorem dL_law_807 : decode cL_law 807 = .ok (.iload_n 3, 1) := yd_op_29 (i := 12) yd_by_cL_law_25 rfl rfl
theorem dL_law_808 : decode cL_law 808 = .ok (.iconst 1, 1) := yd_op_4 (i := 13) yd_by_cL_law_25 rfl rfl
theorem dL_law_809 : decode cL_law 809 = .ok (.iadd, 1) := yd_op_96 (i := 14) yd_by_cL_law_25 rfl rfl
theorem dL_law_810 : decode cL_law 810 = .ok (.iaload, 1) := yd_op_46 (i := 15) yd_by_cL_law_25 rfl rfl
theorem dL_law_811 : decode cL_law 811 = .ok (.aload_n 0, 1) := yd_op_42 (i := 16) yd_by_cL_law_25 rfl rfl
theorem dL_law_812 : decode cL_law 812 = .ok (.iload_n 3, 1) := yd_op_29 (i := 17) yd_by_cL_law_25 rfl rfl
theorem dL_law_813 : decode cL_law 813 = .ok (.iconst 2, 1) := yd_op_5 (i := 18) yd_by_cL_law_25 rfl rfl
theorem dL_law_814 : decode cL_law 814 = .ok (.iadd, 1) := yd_op_96 (i := 19) yd_by_cL_law_25 rfl rfl
theorem dL_law_815 : decode cL_law 815 = .ok (.iaload, 1) := yd_op_46 (i := 20) yd_by_cL_law_25 rfl rfl
theorem dL_law_816 : decode cL_law 816 = .ok (.invokevirtual 112, 3) := yd_op_182 (i := 21) (a := 0) (b := 112) yd_by_cL_law_25 rfl rfl
set_option maxRecDepth 100000 in
theorem yd_by_cL_law_26 : ydk cL_law 819 [87, 167, 0, 246, 43, 42, 29, 4, 96, 46, 42, 29, 5, 96, 46, 42, 29, 6, 96, 46, 182, 0, 113, 87] = true := by decide +kernel
theorem dL_law_819 : decode cL_law 819 = .ok (.pop, 1) := yd_op_87 (i := 0) yd_by_cL_law_26 rfl rfl
theorem dL_law_820 : decode cL_law 820 = .ok (.goto 246, 3) := yd_op_167 (i := 1) (a := 0) (b := 246) yd_by_cL_law_26 rfl rfl
theorem dL_law_823 : decode cL_law 823 = .ok (.aload_n 1, 1) := yd_op_43 (i := 4) yd_by_cL_law_26 rfl rfl
theorem dL_law_824 : decode cL_law 824 = .ok (.aload_n 0, 1) := yd_op_42 (i := 5) yd_by_cL_law_26 rfl rfl
theorem dL_law_825 : decode cL_law 825 = .ok (.iload_n 3, 1) := yd_op_29 (i := 6) yd_by_cL_law_26 rfl rfl
theorem dL_law_826 : decode cL_law 826 = .ok (.iconst 1, 1) := yd_op_4 (i := 7) yd_by_cL_law_26 rfl rfl
theorem dL_law_827 : decode cL_law 827 = .ok (.iadd, 1) := yd_op_96 (i := 8) yd_by_cL_law_26 rfl rfl
theorem dL_law_828 : decode cL_law 828 = .ok (.iaload, 1) := yd_op_46 (i := 9) yd_by_cL_law_26 rfl rfl
theorem dL_law_829 : decode cL_law 829 = .ok (.aload_n 0, 1) := yd_op_42 (i := 10) yd_by_cL_law_26 rfl rfl
theorem dL_law_830 : decode cL_law 830 = .ok (.iload_n 3, 1) := yd_op_29 (i := 11) yd_by_cL_law_26 rfl rfl
theorem dL_law_831 : decode cL_law 831 = .ok (.iconst 2, 1) := yd_op_5 (i := 12) yd_by_cL_law_26 rfl rfl
theorem dL_law_832 : decode cL_law 832 = .ok (.iadd, 1) := yd_op_96 (i := 13) yd_by_cL_law_26 rfl rfl
theorem dL_law_833 : decode cL_law 833 = .ok (.iaload, 1) := yd_op_46 (i := 14) yd_by_cL_law_26 rfl rfl
theorem dL_law_834 : decode cL_law 834 = .ok (.aload_n 0, 1) := yd_op_42 (i := 15) yd_by_cL_law_26 rfl rfl
theorem dL_law_835 : decode cL_law 835 = .ok (.iload_n 3, 1) := yd_op_29 (i := 16) yd_by_cL_law_26 rfl rfl
theorem dL_law_836 : decode cL_law 836 = .ok (.iconst 3, 1) := yd_op_6 (i := 17) yd_by_cL_law_26 rfl rfl
theorem dL_law_837 : decode cL_law 837 = .ok (.iadd, 1) := yd_op_96 (i := 18) yd_by_cL_law_26 rfl rfl
theorem dL_law_838 : decode cL_law 838 = .ok (.iaload, 1) := yd_op_46 (i := 19) yd_by_cL_law_26 rfl rfl
theorem dL_law_839 : decode cL_law 839 = .ok (.invokevirtual 113, 3) := yd_op_182 (i := 20) (a := 0) (b := 113) yd_by_cL_law_26 rfl rfl
theorem dL_law_842 : decode cL_law 842 = .ok (.pop, 1) := yd_op_87 (i := 23) yd_by_cL_law_26 rfl rfl
set_option maxRecDepth 100000 in
theorem yd_by_cL_law_27 : ydk cL_law 843 [44, 42, 29, 4, 96, 46, 42, 29, 5, 96, 46, 42, 29, 6, 96, 46, 182, 0, 117, 87, 167, 0, 203, 43] = true := by decide +kernel
theorem dL_law_843 : decode cL_law 843 = .ok (.aload_n 2, 1) := yd_op_44 (i := 0) yd_by_cL_law_27 rfl rfl
theorem dL_law_844 : decode cL_law 844 = .ok (.aload_n 0, 1) := yd_op_42 (i := 1) yd_by_cL_law_27 rfl rfl
theorem dL_law_845 : decode cL_law 845 = .ok (.iload_n 3, 1) := yd_op_29 (i := 2) yd_by_cL_law_27 rfl rfl
theorem dL_law_846 : decode cL_law 846 = .ok (.iconst 1, 1) := yd_op_4 (i := 3) yd_by_cL_law_27 rfl rfl
theorem dL_law_847 : decode cL_law 847 = .ok (.iadd, 1) := yd_op_96 (i := 4) yd_by_cL_law_27 rfl rfl
theorem dL_law_848 : decode cL_law 848 = .ok (.iaload, 1) := yd_op_46 (i := 5) yd_by_cL_law_27 rfl rfl
theorem dL_law_849 : decode cL_law 849 = .ok (.aload_n 0, 1) := yd_op_42 (i := 6) yd_by_cL_law_27 rfl rfl
theorem dL_law_850 : decode cL_law 850 = .ok (.iload_n 3, 1) := yd_op_29 (i := 7) yd_by_cL_law_27 rfl rfl
theorem dL_law_851 : decode cL_law 851 = .ok (.iconst 2, 1) := yd_op_5 (i := 8) yd_by_cL_law_27 rfl rfl
theorem dL_law_852 : decode cL_law 852 = .ok (.iadd, 1) := yd_op_96 (i := 9) yd_by_cL_law_27 rfl rfl
theorem dL_law_853 : decode cL_law 853 = .ok (.iaload, 1) := yd_op_46 (i := 10) yd_by_cL_law_27 rfl rfl
theorem dL_law_854 : decode cL_law 854 = .ok (.aload_n 0, 1) := yd_op_42 (i := 11) yd_by_cL_law_27 rfl rfl
theorem dL_law_855 : decode cL_law 855 = .ok (.iload_n 3, 1) := yd_op_29 (i := 12) yd_by_cL_law_27 rfl rfl
theorem dL_law_856 : decode cL_law 856 = .ok (.iconst 3, 1) := yd_op_6 (i := 13) yd_by_cL_law_27 rfl rfl
theorem dL_law_857 : decode cL_law 857 = .ok (.iadd, 1) := yd_op_96 (i := 14) yd_by_cL_law_27 rfl rfl
theorem dL_law_858 : decode cL_law 858 = .ok (.iaload, 1) := yd_op_46 (i := 15) yd_by_cL_law_27 rfl rfl
theorem dL_law_859 : decode cL_law 859 = .ok (.invokevirtual 117, 3) := yd_op_182 (i := 16) (a := 0) (b := 117) yd_by_cL_law_27 rfl rfl
theorem dL_law_862 : decode cL_law 862 = .ok (.pop, 1) := yd_op_87 (i := 19) yd_by_cL_law_27 rfl rfl
theorem dL_law_863 : decode cL_law 863 = .ok (.goto 203, 3) := yd_op_167 (i := 20) (a := 0) (b := 203) yd_by_cL_law_27 rfl rfl
theorem dL_law_866 : decode cL_law 866 = .ok (.aload_n 1, 1) := yd_op_43 (i := 23) yd_by_cL_law_27 rfl rfl
set_option maxRecDepth 100000 in
theorem yd_by_cL_law_28 : ydk cL_law 867 [42, 29, 4, 96, 46, 42, 29, 5, 96, 46, 182, 0, 118, 87, 44, 42, 29, 4, 96, 46, 42, 29] = true := by decide +kernel
theorem dL_law_867 : decode cL_law 867 = .ok (.aload_n 0, 1) := yd_op_42 (i := 0) yd_by_cL_law_28 rfl rfl
theorem dL_law_868 : decode cL_law 868 = .ok (.iload_n 3, 1) := yd_op_29 (i := 1) yd_by_cL_law_28 rfl rfl
theorem dL_law_869 : decode cL_law 869 = .ok (.iconst 1, 1) := yd_op_4 (i := 2) yd_by_cL_law_28 rfl rfl
theorem dL_law_870 : decode cL_law 870 = .ok (.iadd, 1) := yd_op_96 (i := 3) yd_by_cL_law_28 rfl rfl
theorem dL_law_871 : decode cL_law 871 = .ok (.iaload, 1) := yd_op_46 (i := 4) yd_by_cL_law_28 rfl rfl
theorem dL_law_872 : decode cL_law 872 = .ok (.aload_n 0, 1) := yd_op_42 (i := 5) yd_by_cL_law_28 rfl rfl
theorem dL_law_873 : decode cL_law 873 = .ok (.iload_n 3, 1) := yd_op_29 (i := 6) yd_by_cL_law_28 rfl rfl
theorem dL_law_874 : decode cL_law 874 = .ok (.iconst 2, 1) := yd_op_5 (i := 7) yd_by_cL_law_28 rfl rfl
theorem dL_law_875 : decode cL_law 875 = .ok (.iadd, 1) := yd_op_96 (i := 8) yd_by_cL_law_28 rfl rfl
theorem dL_law_876 : decode cL_law 876 = .ok (.iaload, 1) := yd_op_46 (i := 9) yd_by_cL_law_28 rfl rfl
theorem dL_law_877 : decode cL_law 877 = .ok (.invokevirtual 118, 3) := yd_op_182 (i := 10) (a := 0) (b := 118) yd_by_cL_law_28 rfl rfl
theorem dL_law_880 : decode cL_law 880 = .ok (.pop, 1) := yd_op_87 (i := 13) yd_by_cL_law_28 rfl rfl
theorem dL_law_881 : decode cL_law 881 = .ok (.aload_n 2, 1) := yd_op_44 (i := 14) yd_by_cL_law_28 rfl rfl
theorem dL_law_882 : decode cL_law 882 = .ok (.aload_n 0, 1) := yd_op_42 (i := 15) yd_by_cL_law_28 rfl rfl
theorem dL_law_883 : decode cL_law 883 = .ok (.iload_n 3, 1) := yd_op_29 (i := 16) yd_by_cL_law_28 rfl rfl
theorem dL_law_884 : decode cL_law 884 = .ok (.iconst 1, 1) := yd_op_4 (i := 17) yd_by_cL_law_28 rfl rfl
theorem dL_law_885 : decode cL_law 885 = .ok (.iadd, 1) := yd_op_96 (i := 18) yd_by_cL_law_28 rfl rfl
theorem dL_law_886 : decode cL_law 886 = .ok (.iaload, 1) := yd_op_46 (i := 19) yd_by_cL_law_28 rfl rfl
theorem dL_law_887 : decode cL_law 887 = .ok (.aload_n 0, 1) := yd_op_42 (i := 20) yd_by_cL_law_28 rfl rfl
theorem dL_law_888 : decode cL_law 888 = .ok (.iload_n 3, 1) := yd_op_29 (i := 21) yd_by_cL_law_28 rfl rfl
set_option maxRecDepth 100000 in
theorem yd_by_cL_law_29 : ydk cL_law 889 [5, 96, 46, 182, 0, 121, 87, 167, 0, 170, 43, 42, 29, 4, 96, 46, 182, 0, 122, 87, 44, 42, 29, 4, 96, 46] = true := by decide +kernel
theorem dL_law_889 : decode cL_law 889 = .ok (.iconst 2, 1) := yd_op_5 (i := 0) yd_by_cL_law_29 rfl rfl
theorem dL_law_890 : decode cL_law 890 = .ok (.iadd, 1) := yd_op_96 (i := 1) yd_by_cL_law_29 rfl rfl
theorem dL_law_891 : decode cL_law 891 = .ok (.iaload, 1) := yd_op_46 (i := 2) yd_by_cL_law_29 rfl rfl
theorem dL_law_892 : decode cL_law 892 = .ok (.invokevirtual 121, 3) := yd_op_182 (i := 3) (a := 0) (b := 121) yd_by_cL_law_29 rfl rfl
theorem dL_law_895 : decode cL_law 895 = .ok (.pop, 1) := yd_op_87 (i := 6) yd_by_cL_law_29 rfl rfl
theorem dL_law_896 : decode cL_law 896 = .ok (.goto 170, 3) := yd_op_167 (i := 7) (a := 0) (b := 170) yd_by_cL_law_29 rfl rfl
theorem dL_law_899 : decode cL_law 899 = .ok (.aload_n 1, 1) := yd_op_43 (i := 10) yd_by_cL_law_29 rfl rfl
theorem dL_law_900 : decode cL_law 900 = .ok (.aload_n 0, 1) := yd_op_42 (i := 11) yd_by_cL_law_29 rfl rfl
theorem dL_law_901 : decode cL_law 901 = .ok (.iload_n 3, 1) := yd_op_29 (i := 12) yd_by_cL_law_29 rfl rfl
theorem dL_law_902 : decode cL_law 902 = .ok (.iconst 1, 1) := yd_op_4 (i := 13) yd_by_cL_law_29 rfl rfl
theorem dL_law_903 : decode cL_law 903 = .ok (.iadd, 1) := yd_op_96 (i := 14) yd_by_cL_law_29 rfl rfl
theorem dL_law_904 : decode cL_law 904 = .ok (.iaload, 1) := yd_op_46 (i := 15) yd_by_cL_law_29 rfl rfl
theorem dL_law_905 : decode cL_law 905 = .ok (.invokevirtual 122, 3) := yd_op_182 (i := 16) (a := 0) (b := 122) yd_by_cL_law_29 rfl rfl
theorem dL_law_908 : decode cL_law 908 = .ok (.pop, 1) := yd_op_87 (i := 19) yd_by_cL_law_29 rfl rfl
theorem dL_law_909 : decode cL_law 909 = .ok (.aload_n 2, 1) := yd_op_44 (i := 20) yd_by_cL_law_29 rfl rfl
theorem dL_law_910 : decode cL_law 910 = .ok (.aload_n 0, 1) := yd_op_42 (i := 21) yd_by_cL_law_29 rfl rfl
theorem dL_law_911 : decode cL_law 911 = .ok (.iload_n 3, 1) := yd_op_29 (i := 22) yd_by_cL_law_29 rfl rfl
theorem dL_law_912 : decode cL_law 912 = .ok (.iconst 1, 1) := yd_op_4 (i := 23) yd_by_cL_law_29 rfl rfl
theorem dL_law_913 : decode cL_law 913 = .ok (.iadd, 1) := yd_op_96 (i := 24) yd_by_cL_law_29 rfl rfl
theorem dL_law_914 : decode cL_law 914 = .ok (.iaload, 1) := yd_op_46 (i := 25) yd_by_cL_law_29 rfl rfl
set_option maxRecDepth 100000 in
theorem yd_by_cL_law_30 : ydk cL_law 915 [182, 0, 125, 87, 167, 0, 147, 43, 42, 29, 4, 96, 46, 182, 0, 126, 87, 44, 42, 29, 4, 96, 46, 182, 0, 129, 87, 167, 0, 124] = true := by decide +kernel
theorem dL_law_915 : decode cL_law 915 = .ok (.invokevirtual 125, 3) := yd_op_182 (i := 0) (a := 0) (b := 125) yd_by_cL_law_30 rfl rfl
theorem dL_law_918 : decode cL_law 918 = .ok (.pop, 1) := yd_op_87 (i := 3) yd_by_cL_law_30 rfl rfl
theorem dL_law_919 : decode cL_law 919 = .ok (.goto 147, 3) := yd_op_167 (i := 4) (a := 0) (b := 147) yd_by_cL_law_30 rfl rfl
theorem dL_law_922 : decode cL_law 922 = .ok (.aload_n 1, 1) := yd_op_43 (i := 7) yd_by_cL_law_30 rfl rfl
theorem dL_law_923 : decode cL_law 923 = .ok (.aload_n 0, 1) := yd_op_42 (i := 8) yd_by_cL_law_30 rfl rfl
theorem dL_law_924 : decode cL_law 924 = .ok (.iload_n 3, 1) := yd_op_29 (i := 9) yd_by_cL_law_30 rfl rfl
theorem dL_law_925 : decode cL_law 925 = .ok (.iconst 1, 1) := yd_op_4 (i := 10) yd_by_cL_law_30 rfl rfl
theorem dL_law_926 : decode cL_law 926 = .ok (.iadd, 1) := yd_op_96 (i := 11) yd_by_cL_law_30 rfl rfl
theorem dL_law_927 : decode cL_law 927 = .ok (.iaload, 1) := yd_op_46 (i := 12) yd_by_cL_law_30 rfl rfl
theorem dL_law_928 : decode cL_law 928 = .ok (.invokevirtual 126, 3) := yd_op_182 (i := 13) (a := 0) (b := 126) yd_by_cL_law_30 rfl rfl
theorem dL_law_931 : decode cL_law 931 = .ok (.pop, 1) := yd_op_87 (i := 16) yd_by_cL_law_30 rfl rfl
theorem dL_law_932 : decode cL_law 932 = .ok (.aload_n 2, 1) := yd_op_44 (i := 17) yd_by_cL_law_30 rfl rfl
theorem dL_law_933 : decode cL_law 933 = .ok (.aload_n 0, 1) := yd_op_42 (i := 18) yd_by_cL_law_30 rfl rfl
theorem dL_law_934 : decode cL_law 934 = .ok (.iload_n 3, 1) := yd_op_29 (i := 19) yd_by_cL_law_30 rfl rfl
theorem dL_law_935 : decode cL_law 935 = .ok (.iconst 1, 1) := yd_op_4 (i := 20) yd_by_cL_law_30 rfl rfl
theorem dL_law_936 : decode cL_law 936 = .ok (.iadd, 1) := yd_op_96 (i := 21) yd_by_cL_law_30 rfl rfl
theorem dL_law_937 : decode cL_law 937 = .ok (.iaload, 1) := yd_op_46 (i := 22) yd_by_cL_law_30 rfl rfl
theorem dL_law_938 : decode cL_law 938 = .ok (.invokevirtual 129, 3) := yd_op_182 (i := 23) (a := 0) (b := 129) yd_by_cL_law_30 rfl rfl
theorem dL_law_941 : decode cL_law 941 = .ok (.pop, 1) := yd_op_87 (i := 26) yd_by_cL_law_30 rfl rfl
theorem dL_law_942 : decode cL_law 942 = .ok (.goto 124, 3) := yd_op_167 (i := 27) (a := 0) (b := 124) yd_by_cL_law_30 rfl rfl
set_option maxRecDepth 100000 in
theorem yd_by_cL_law_31 : ydk cL_law 945 [43, 182, 0, 130, 87, 44, 182, 0, 134, 87, 167, 0, 111, 43, 42, 29, 4, 96, 46, 182, 0, 135, 87, 44, 42, 29, 4, 96] = true := by decide +kernel
theorem dL_law_945 : decode cL_law 945 = .ok (.aload_n 1, 1) := yd_op_43 (i := 0) yd_by_cL_law_31 rfl rfl
theorem dL_law_946 : decode cL_law 946 = .ok (.invokevirtual 130, 3) := yd_op_182 (i := 1) (a := 0) (b := 130) yd_by_cL_law_31 rfl rfl
theorem dL_law_949 : decode cL_law 949 = .ok (.pop, 1) := yd_op_87 (i := 4) yd_by_cL_law_31 rfl rfl
theorem dL_law_950 : decode cL_law 950 = .ok (.aload_n 2, 1) := yd_op_44 (i := 5) yd_by_cL_law_31 rfl rfl
theorem dL_law_951 : decode cL_law 951 = .ok (.invokevirtual 134, 3) := yd_op_182 (i := 6) (a := 0) (b := 134) yd_by_cL_law_31 rfl rfl
theorem dL_law_954 : decode cL_law 954 = .ok (.pop, 1) := yd_op_87 (i := 9) yd_by_cL_law_31 rfl rfl
theorem dL_law_955 : decode cL_law 955 = .ok (.goto 111, 3) := yd_op_167 (i := 10) (a := 0) (b := 111) yd_by_cL_law_31 rfl rfl
theorem dL_law_958 : decode cL_law 958 = .ok (.aload_n 1, 1) := yd_op_43 (i := 13) yd_by_cL_law_31 rfl rfl
theorem dL_law_959 : decode cL_law 959 = .ok (.aload_n 0, 1) := yd_op_42 (i := 14) yd_by_cL_law_31 rfl rfl
theorem dL_law_960 : decode cL_law 960 = .ok (.iload_n 3, 1) := yd_op_29 (i := 15) yd_by_cL_law_31 rfl rfl
theorem dL_law_961 : decode cL_law 961 = .ok (.iconst 1, 1) := yd_op_4 (i := 16) yd_by_cL_law_31 rfl rfl
theorem dL_law_962 : decode cL_law 962 = .ok (.iadd, 1) := yd_op_96 (i := 17) yd_by_cL_law_31 rfl rfl
theorem dL_law_963 : decode cL_law 963 = .ok (.iaload, 1) := yd_op_46 (i := 18) yd_by_cL_law_31 rfl rfl
theorem dL_law_964 : decode cL_law 964 = .ok (.invokevirtual 135, 3) := yd_op_182 (i := 19) (a := 0) (b := 135) yd_by_cL_law_31 rfl rfl
theorem dL_law_967 : decode cL_law 967 = .ok (.pop, 1) := yd_op_87 (i := 22) yd_by_cL_law_31 rfl rfl
theorem dL_law_968 : decode cL_law 968 = .ok (.aload_n 2, 1) := yd_op_44 (i := 23) yd_by_cL_law_31 rfl rfl
theorem dL_law_969 : decode cL_law 969 = .ok (.aload_n 0, 1) := yd_op_42 (i := 24) yd_by_cL_law_31 rfl rfl
theorem dL_law_970 : decode cL_law 970 = .ok (.iload_n 3, 1) := yd_op_29 (i := 25) yd_by_cL_law_31 rfl rfl
theorem dL_law_971 : decode cL_law 971 = .ok (.iconst 1, 1) := yd_op_4 (i := 26) yd_by_cL_law_31 rfl rfl
theorem dL_law_972 : decode cL_law 972 = .ok (.iadd, 1) := yd_op_96 (i := 27) yd_by_cL_law_31 rfl rfl
set_option maxRecDepth 100000 in
theorem yd_by_cL_law_32 : ydk cL_law 973 [46, 182, 0, 138, 87, 167, 0, 88, 43, 182, 0, 139, 88, 44, 182, 0, 143, 88, 167, 0, 75, 43, 182, 0, 144, 87, 44, 182, 0, 147, 87, 167, 0, 62, 43, 42] = true := by decide +kernel
theorem dL_law_973 : decode cL_law 973 = .ok (.iaload, 1) := yd_op_46 (i := 0) yd_by_cL_law_32 rfl rfl
theorem dL_law_974 : decode cL_law 974 = .ok (.invokevirtual 138, 3) := yd_op_182 (i := 1) (a := 0) (b := 138) yd_by_cL_law_32 rfl rfl
theorem dL_law_977 : decode cL_law 977 = .ok (.pop, 1) := yd_op_87 (i := 4) yd_by_cL_law_32 rfl rfl
theorem dL_law_978 : decode cL_law 978 = .ok (.goto 88, 3) := yd_op_167 (i := 5) (a := 0) (b := 88) yd_by_cL_law_32 rfl rfl
theorem dL_law_981 : decode cL_law 981 = .ok (.aload_n 1, 1) := yd_op_43 (i := 8) yd_by_cL_law_32 rfl rfl
theorem dL_law_982 : decode cL_law 982 = .ok (.invokevirtual 139, 3) := yd_op_182 (i := 9) (a := 0) (b := 139) yd_by_cL_law_32 rfl rfl
theorem dL_law_985 : decode cL_law 985 = .ok (.pop2, 1) := yd_op_88 (i := 12) yd_by_cL_law_32 rfl rfl
theorem dL_law_986 : decode cL_law 986 = .ok (.aload_n 2, 1) := yd_op_44 (i := 13) yd_by_cL_law_32 rfl rfl
theorem dL_law_987 : decode cL_law 987 = .ok (.invokevirtual 143, 3) := yd_op_182 (i := 14) (a := 0) (b := 143) yd_by_cL_law_32 rfl rfl
theorem dL_law_990 : decode cL_law 990 = .ok (.pop2, 1) := yd_op_88 (i := 17) yd_by_cL_law_32 rfl rfl
theorem dL_law_991 : decode cL_law 991 = .ok (.goto 75, 3) := yd_op_167 (i := 18) (a := 0) (b := 75) yd_by_cL_law_32 rfl rfl
theorem dL_law_994 : decode cL_law 994 = .ok (.aload_n 1, 1) := yd_op_43 (i := 21) yd_by_cL_law_32 rfl rfl
theorem dL_law_995 : decode cL_law 995 = .ok (.invokevirtual 144, 3) := yd_op_182 (i := 22) (a := 0) (b := 144) yd_by_cL_law_32 rfl rfl
theorem dL_law_998 : decode cL_law 998 = .ok (.pop, 1) := yd_op_87 (i := 25) yd_by_cL_law_32 rfl rfl
theorem dL_law_999 : decode cL_law 999 = .ok (.aload_n 2, 1) := yd_op_44 (i := 26) yd_by_cL_law_32 rfl rfl
theorem dL_law_1000 : decode cL_law 1000 = .ok (.invokevirtual 147, 3) := yd_op_182 (i := 27) (a := 0) (b := 147) yd_by_cL_law_32 rfl rfl
theorem dL_law_1003 : decode cL_law 1003 = .ok (.pop, 1) := yd_op_87 (i := 30) yd_by_cL_law_32 rfl rfl
theorem dL_law_1004 : decode cL_law 1004 = .ok (.goto 62, 3) := yd_op_167 (i := 31) (a := 0) (b := 62) yd_by_cL_law_32 rfl rfl
theorem dL_law_1007 : decode cL_law 1007 = .ok (.aload_n 1, 1) := yd_op_43 (i := 34) yd_by_cL_law_32 rfl rfl
theorem dL_law_1008 : decode cL_law 1008 = .ok (.aload_n 0, 1) := yd_op_42 (i := 35) yd_by_cL_law_32 rfl rfl
set_option maxRecDepth 100000 in
theorem yd_by_cL_law_33 : ydk cL_law 1009 [29, 4, 96, 46, 182, 0, 148, 87, 44, 42, 29, 4, 96, 46, 182, 0, 151, 87, 167, 0, 39, 43, 182, 0, 152, 87, 44, 182, 0, 155] = true := by decide +kernel
theorem dL_law_1009 : decode cL_law 1009 = .ok (.iload_n 3, 1) := yd_op_29 (i := 0) yd_by_cL_law_33 rfl rfl
theorem dL_law_1010 : decode cL_law 1010 = .ok (.iconst 1, 1) := yd_op_4 (i := 1) yd_by_cL_law_33 rfl rfl
theorem dL_law_1011 : decode cL_law 1011 = .ok (.iadd, 1) := yd_op_96 (i := 2) yd_by_cL_law_33 rfl rfl
theorem dL_law_1012 : decode cL_law 1012 = .ok (.iaload, 1) := yd_op_46 (i := 3) yd_by_cL_law_33 rfl rfl
theorem dL_law_1013 : decode cL_law 1013 = .ok (.invokevirtual 148, 3) := yd_op_182 (i := 4) (a := 0) (b := 148) yd_by_cL_law_33 rfl rfl
theorem dL_law_1016 : decode cL_law 1016 = .ok (.pop, 1) := yd_op_87 (i := 7) yd_by_cL_law_33 rfl rfl
theorem dL_law_1017 : decode cL_law 1017 = .ok (.aload_n 2, 1) := yd_op_44 (i := 8) yd_by_cL_law_33 rfl rfl
theorem dL_law_1018 : decode cL_law 1018 = .ok (.aload_n 0, 1) := yd_op_42 (i := 9) yd_by_cL_law_33 rfl rfl
theorem dL_law_1019 : decode cL_law 1019 = .ok (.iload_n 3, 1) := yd_op_29 (i := 10) yd_by_cL_law_33 rfl rfl
theorem dL_law_1020 : decode cL_law 1020 = .ok (.iconst 1, 1) := yd_op_4 (i := 11) yd_by_cL_law_33 rfl rfl
theorem dL_law_1021 : decode cL_law 1021 = .ok (.iadd, 1) := yd_op_96 (i := 12) yd_by_cL_law_33 rfl rfl
theorem dL_law_1022 : decode cL_law 1022 = .ok (.iaload, 1) := yd_op_46 (i := 13) yd_by_cL_law_33 rfl rfl
theorem dL_law_1023 : decode cL_law 1023 = .ok (.invokevirtual 151, 3) := yd_op_182 (i := 14) (a := 0) (b := 151) yd_by_cL_law_33 rfl rfl
theorem dL_law_1026 : decode cL_law 1026 = .ok (.pop, 1) := yd_op_87 (i := 17) yd_by_cL_law_33 rfl rfl
theorem dL_law_1027 : decode cL_law 1027 = .ok (.goto 39, 3) := yd_op_167 (i := 18) (a := 0) (b := 39) yd_by_cL_law_33 rfl rfl
theorem dL_law_1030 : decode cL_law 1030 = .ok (.aload_n 1, 1) := yd_op_43 (i := 21) yd_by_cL_law_33 rfl rfl
theorem dL_law_1031 : decode cL_law 1031 = .ok (.invokevirtual 152, 3) := yd_op_182 (i := 22) (a := 0) (b := 152) yd_by_cL_law_33 rfl rfl
theorem dL_law_1034 : decode cL_law 1034 = .ok (.pop, 1) := yd_op_87 (i := 25) yd_by_cL_law_33 rfl rfl
theorem dL_law_1035 : decode cL_law 1035 = .ok (.aload_n 2, 1) := yd_op_44 (i := 26) yd_by_cL_law_33 rfl rfl
theorem dL_law_1036 : decode cL_law 1036 = .ok (.invokevirtual 155, 3) := yd_op_182 (i := 27) (a := 0) (b := 155) yd_by_cL_law_33 rfl rfl
set_option maxRecDepth 100000 in
theorem yd_by_cL_law_34 : ydk cL_law 1039 [87, 167, 0, 26, 43, 42, 29, 4, 96, 46, 182, 0, 156, 87, 44, 42, 29, 4, 96, 46, 182, 0, 159, 87, 167, 0, 3, 132, 3, 6] = true := by decide +kernel
theorem dL_law_1039 : decode cL_law 1039 = .ok (.pop, 1) := yd_op_87 (i := 0) yd_by_cL_law_34 rfl rfl
theorem dL_law_1040 : decode cL_law 1040 = .ok (.goto 26, 3) := yd_op_167 (i := 1) (a := 0) (b := 26) yd_by_cL_law_34 rfl rfl
theorem dL_law_1043 : decode cL_law 1043 = .ok (.aload_n 1, 1) := yd_op_43 (i := 4) yd_by_cL_law_34 rfl rfl
theorem dL_law_1044 : decode cL_law 1044 = .ok (.aload_n 0, 1) := yd_op_42 (i := 5) yd_by_cL_law_34 rfl rfl
theorem dL_law_1045 : decode cL_law 1045 = .ok (.iload_n 3, 1) := yd_op_29 (i := 6) yd_by_cL_law_34 rfl rfl
theorem dL_law_1046 : decode cL_law 1046 = .ok (.iconst 1, 1) := yd_op_4 (i := 7) yd_by_cL_law_34 rfl rfl
theorem dL_law_1047 : decode cL_law 1047 = .ok (.iadd, 1) := yd_op_96 (i := 8) yd_by_cL_law_34 rfl rfl
theorem dL_law_1048 : decode cL_law 1048 = .ok (.iaload, 1) := yd_op_46 (i := 9) yd_by_cL_law_34 rfl rfl
theorem dL_law_1049 : decode cL_law 1049 = .ok (.invokevirtual 156, 3) := yd_op_182 (i := 10) (a := 0) (b := 156) yd_by_cL_law_34 rfl rfl
theorem dL_law_1052 : decode cL_law 1052 = .ok (.pop, 1) := yd_op_87 (i := 13) yd_by_cL_law_34 rfl rfl
theorem dL_law_1053 : decode cL_law 1053 = .ok (.aload_n 2, 1) := yd_op_44 (i := 14) yd_by_cL_law_34 rfl rfl
theorem dL_law_1054 : decode cL_law 1054 = .ok (.aload_n 0, 1) := yd_op_42 (i := 15) yd_by_cL_law_34 rfl rfl
theorem dL_law_1055 : decode cL_law 1055 = .ok (.iload_n 3, 1) := yd_op_29 (i := 16) yd_by_cL_law_34 rfl rfl
theorem dL_law_1056 : decode cL_law 1056 = .ok (.iconst 1, 1) := yd_op_4 (i := 17) yd_by_cL_law_34 rfl rfl
theorem dL_law_1057 : decode cL_law 1057 = .ok (.iadd, 1) := yd_op_96 (i := 18) yd_by_cL_law_34 rfl rfl
theorem dL_law_1058 : decode cL_law 1058 = .ok (.iaload, 1) := yd_op_46 (i := 19) yd_by_cL_law_34 rfl rfl
theorem dL_law_1059 : decode cL_law 1059 = .ok (.invokevirtual 159, 3) := yd_op_182 (i := 20) (a := 0) (b := 159) yd_by_cL_law_34 rfl rfl
theorem dL_law_1062 : decode cL_law 1062 = .ok (.pop, 1) := yd_op_87 (i := 23) yd_by_cL_law_34 rfl rfl
theorem dL_law_1063 : decode cL_law 1063 = .ok (.goto 3, 3) := yd_op_167 (i := 24) (a := 0) (b := 3) yd_by_cL_law_34 rfl rfl
theorem dL_law_1066 : decode cL_law 1066 = .ok (.iinc 3 6, 3) := yd_op_132 (i := 27) (a := 3) (b := 6) yd_by_cL_law_34 rfl rfl
set_option maxRecDepth 100000 in
theorem yd_by_cL_law_35 : ydk cL_law 1069 [167, 251, 229, 4, 172] = true := by decide +kernel
theorem dL_law_1069 : decode cL_law 1069 = .ok (.goto (-1051), 3) := yd_op_167 (i := 0) (a := 251) (b := 229) yd_by_cL_law_35 rfl rfl
theorem dL_law_1072 : decode cL_law 1072 = .ok (.iconst 1, 1) := yd_op_4 (i := 3) yd_by_cL_law_35 rfl rfl
theorem dL_law_1073 : decode cL_law 1073 = .ok (.ireturn, 1) := yd_op_172 (i := 4) yd_by_cL_law_35 rfl rfl
