def zLd : Nat := 40
theorem zlx {x i : Int} {L : Nat} (h0 : 0 ≤ x) (h1 : x + 6 ≤ (L : Int)) (hi : 0 ≤ i) (h6 : i < 6) : 0 ≤ x + i ∧ x + i < (L : Int) := ⟨by omega, by omega⟩
set_option maxHeartbeats 4000000 in
theorem zl_0 {X : zCX} {cs ss b L : Nat} {xs : Nat → Int32} {s0 : zSto} {x : Int} (hX : zok X cL_law RL zLd) (hs : va_X b L xs X.2.2.2.2.2.1 X.2.2.2.2.2.1.heap) (hbl : b < X.2.2.2.2.2.1.heap.size) (hE : X.1.1 = X.2.2.2.2.2.1.heap.size) (hL : L ≤ 3072) (h0 : 0 ≤ x) (h1 : x + 6 ≤ (L : Int)) (hrc : cs ≤ X.2.2.2.2.1.cells) (hrs : ss ≤ X.2.2.2.2.1.slots) (hI : zInv s0) (hW : zWF s0) (hS : s0 164 54 = 0) (hT : s0 1 1 = s0 164 1) (hY : yTi s0) (hZ : yTz s0) (hG : yFtq s0) (K : ∀ s : zSto, zInv s → zWF s → s 164 54 = 0 → s 1 1 = s 164 1 → yTi s → yTz s → yFtq s → zZ X zNC cs ss s 1066 [some (.ref b), some (.ref (X.1.1 + 0)), some (.ref (X.1.1 + 164)), some (.int (zI x))] []) : zZ X zNC cs ss s0 184 [some (.ref b), some (.ref (X.1.1 + 0)), some (.ref (X.1.1 + 164)), some (.int (zI x))] [] := by
  refine zt_aload_n (pc' := 185) hX dL_law_184 rfl rfl ?_
  refine zt_aload_n (pc' := 186) hX dL_law_185 rfl rfl ?_
  refine zt_iload_n (pc' := 187) hX dL_law_186 rfl rfl ?_
  refine zt_iconst (pc' := 188) hX dL_law_187 rfl ?_
  refine zt_iadd (pc' := 189) hX dL_law_188 rfl ?_
  refine zt_sld (pc' := 190) hX hs hbl hE dL_law_189 rfl hL (zlx h0 h1 (by decide) (by decide)) (fun v1 ev1 lv1 uv1 => ?_)
  refine zt_aload_n (pc' := 191) hX dL_law_190 rfl rfl ?_
  refine zt_iload_n (pc' := 192) hX dL_law_191 rfl rfl ?_
  refine zt_iconst (pc' := 193) hX dL_law_192 rfl ?_
  refine zt_iadd (pc' := 194) hX dL_law_193 rfl ?_
  refine zt_sld (pc' := 195) hX hs hbl hE dL_law_194 rfl hL (zlx h0 h1 (by decide) (by decide)) (fun v2 ev2 lv2 uv2 => ?_)
  refine zt_aload_n (pc' := 196) hX dL_law_195 rfl rfl ?_
  refine zt_iload_n (pc' := 197) hX dL_law_196 rfl rfl ?_
  refine zt_iconst (pc' := 198) hX dL_law_197 rfl ?_
  refine zt_iadd (pc' := 199) hX dL_law_198 rfl ?_
  refine zt_sld (pc' := 200) hX hs hbl hE dL_law_199 rfl hL (zlx h0 h1 (by decide) (by decide)) (fun v3 ev3 lv3 uv3 => ?_)
  refine zt_aload_n (pc' := 201) hX dL_law_200 rfl rfl ?_
  refine zt_iload_n (pc' := 202) hX dL_law_201 rfl rfl ?_
  refine zt_iconst (pc' := 203) hX dL_law_202 rfl ?_
  refine zt_iadd (pc' := 204) hX dL_law_203 rfl ?_
  refine zt_sld (pc' := 205) hX hs hbl hE dL_law_204 rfl hL (zlx h0 h1 (by decide) (by decide)) (fun v4 ev4 lv4 uv4 => ?_)
  refine zt_aload_n (pc' := 206) hX dL_law_205 rfl rfl ?_
  refine zt_iload_n (pc' := 207) hX dL_law_206 rfl rfl ?_
  refine zt_iconst (pc' := 208) hX dL_law_207 rfl ?_
  refine zt_iadd (pc' := 209) hX dL_law_208 rfl ?_
  refine zt_sld (pc' := 210) hX hs hbl hE dL_law_209 rfl hL (zlx h0 h1 (by decide) (by decide)) (fun v5 ev5 lv5 uv5 => ?_)
  refine zt_callV (pc' := 213) (k := 0) (As := [.int (zI v1), .int (zI v2), .int (zI v3), .int (zI v4), .int (zI v5)]) (rest := []) (q := (RX11, TX11, 17)) hX (yc_X11_feed _ _ s0 hI v1 ⟨lv1, uv1⟩ v2 ⟨lv2, uv2⟩ v3 ⟨lv3, uv3⟩ v4 ⟨lv4, uv4⟩ v5 ⟨lv5, uv5⟩) zm_yX11_feed dL_law_210 rfl zw_13_22 (by decide) zc_0 zs_1 rfl rfl rfl rfl (Nat.le_of_ble_eq_true rfl) (by decide) ⟨hrc, hrs⟩ (fun r6 s7 hr8 hp9 => ?_)
  obtain ⟨hI10, hF11, q12, q13, z14, z15⟩ := hp9
  have hF16 := zFC_on hF11
  have tm18 : s7 164 1 = s0 164 1 := congrFun (hF16.1 164 (by decide)) 1
  have hG20 := yFtq_C hF16 hG
  have hZ21 := yTz_C hF16 hZ
  have h17 := zLI_C hF16 hW hS
  refine zt_pop (pc' := 214) hX dL_law_213 rfl rfl ?_
  refine zt_aload_n (pc' := 215) hX dL_law_214 rfl rfl ?_
  refine zt_aload_n (pc' := 216) hX dL_law_215 rfl rfl ?_
  refine zt_iload_n (pc' := 217) hX dL_law_216 rfl rfl ?_
  refine zt_iconst (pc' := 218) hX dL_law_217 rfl ?_
  refine zt_iadd (pc' := 219) hX dL_law_218 rfl ?_
  refine zt_sld (pc' := 220) hX hs hbl hE dL_law_219 rfl hL (zlx h0 h1 (by decide) (by decide)) (fun v22 ev22 lv22 uv22 => ?_)
  refine zt_aload_n (pc' := 221) hX dL_law_220 rfl rfl ?_
  refine zt_iload_n (pc' := 222) hX dL_law_221 rfl rfl ?_
  refine zt_iconst (pc' := 223) hX dL_law_222 rfl ?_
  refine zt_iadd (pc' := 224) hX dL_law_223 rfl ?_
  refine zt_sld (pc' := 225) hX hs hbl hE dL_law_224 rfl hL (zlx h0 h1 (by decide) (by decide)) (fun v23 ev23 lv23 uv23 => ?_)
  refine zt_aload_n (pc' := 226) hX dL_law_225 rfl rfl ?_
  refine zt_iload_n (pc' := 227) hX dL_law_226 rfl rfl ?_
  refine zt_iconst (pc' := 228) hX dL_law_227 rfl ?_
  refine zt_iadd (pc' := 229) hX dL_law_228 rfl ?_
  refine zt_sld (pc' := 230) hX hs hbl hE dL_law_229 rfl hL (zlx h0 h1 (by decide) (by decide)) (fun v24 ev24 lv24 uv24 => ?_)
  refine zt_aload_n (pc' := 231) hX dL_law_230 rfl rfl ?_
  refine zt_iload_n (pc' := 232) hX dL_law_231 rfl rfl ?_
  refine zt_iconst (pc' := 233) hX dL_law_232 rfl ?_
  refine zt_iadd (pc' := 234) hX dL_law_233 rfl ?_
  refine zt_sld (pc' := 235) hX hs hbl hE dL_law_234 rfl hL (zlx h0 h1 (by decide) (by decide)) (fun v25 ev25 lv25 uv25 => ?_)
  refine zt_aload_n (pc' := 236) hX dL_law_235 rfl rfl ?_
  refine zt_iload_n (pc' := 237) hX dL_law_236 rfl rfl ?_
  refine zt_iconst (pc' := 238) hX dL_law_237 rfl ?_
  refine zt_iadd (pc' := 239) hX dL_law_238 rfl ?_
  refine zt_sld (pc' := 240) hX hs hbl hE dL_law_239 rfl hL (zlx h0 h1 (by decide) (by decide)) (fun v26 ev26 lv26 uv26 => ?_)
  refine zt_callV (pc' := 243) (k := 164) (As := [.int (zI v22), .int (zI v23), .int (zI v24), .int (zI v25), .int (zI v26)]) (rest := []) (q := (RX12, TX12, 108)) hX (yc_X12_feed _ _ s7 hI10 v22 ⟨lv22, uv22⟩ v23 ⟨lv23, uv23⟩ v24 ⟨lv24, uv24⟩ v25 ⟨lv25, uv25⟩ v26 ⟨lv26, uv26⟩) zm_yX12_feed dL_law_240 rfl zw_14_15 (by decide) zc_164 zs_46 rfl rfl rfl rfl (Nat.le_of_ble_eq_true rfl) (by decide) ⟨hrc, hrs⟩ (fun r27 s28 hr29 hp30 => ?_)
  obtain ⟨hI31, hF32, q33, q34, z35, z36⟩ := hp30
  have hF37 := zGT_on hF32
  have tc39 : s28 1 1 = s7 1 1 := congrFun (hF37.1 1 (by decide)) 1
  have efv22 : v22 = v1 := ev22.trans ev1.symm
  have efv23 : v23 = v2 := ev23.trans ev2.symm
  have efv24 : v24 = v3 := ev24.trans ev3.symm
  have efv25 : v25 = v4 := ev25.trans ev4.symm
  have efv26 : v26 = v5 := ev26.trans ev5.symm
  rw [efv22, efv23, efv24, efv25, efv26] at z36
  clear ev1 ev2 ev3 ev4 ev5 ev22 ev23 ev24 ev25 ev26
  have bz := (zv_46_1 hI zc_164).1
  have hY40 := yTi_F hF16 z15 hF37 z36 hT bz (by omega) hY
  have hZ41 := yTz_T hF37.1 hF37.2.1 hZ21
  have hG42 := yFtq_2 hF32 hG20
  have h38 := zLI_T hF37 h17.1 h17.2
  refine zt_pop (pc' := 244) hX dL_law_243 rfl rfl ?_
  refine zt_goto (tgt := 1066) hX dL_law_244 (by decide) ?_
  exact K s28 hI31 h38.1 h38.2 (by omega) hY40 hZ41 hG42
set_option maxHeartbeats 4000000 in
theorem zl_1 {X : zCX} {cs ss b L : Nat} {xs : Nat → Int32} {s0 : zSto} {x : Int} (hX : zok X cL_law RL zLd) (hs : va_X b L xs X.2.2.2.2.2.1 X.2.2.2.2.2.1.heap) (hbl : b < X.2.2.2.2.2.1.heap.size) (hE : X.1.1 = X.2.2.2.2.2.1.heap.size) (hL : L ≤ 3072) (h0 : 0 ≤ x) (h1 : x + 6 ≤ (L : Int)) (hrc : cs ≤ X.2.2.2.2.1.cells) (hrs : ss ≤ X.2.2.2.2.1.slots) (hI : zInv s0) (hW : zWF s0) (hS : s0 164 54 = 0) (hT : s0 1 1 = s0 164 1) (hY : yTi s0) (hZ : yTz s0) (hG : yFtq s0) (K : ∀ s : zSto, zInv s → zWF s → s 164 54 = 0 → s 1 1 = s 164 1 → yTi s → yTz s → yFtq s → zZ X zNC cs ss s 1066 [some (.ref b), some (.ref (X.1.1 + 0)), some (.ref (X.1.1 + 164)), some (.int (zI x))] []) : zZ X zNC cs ss s0 247 [some (.ref b), some (.ref (X.1.1 + 0)), some (.ref (X.1.1 + 164)), some (.int (zI x))] [] := by
  refine zt_aload_n (pc' := 248) hX dL_law_247 rfl rfl ?_
  refine zt_aload_n (pc' := 249) hX dL_law_248 rfl rfl ?_
  refine zt_iload_n (pc' := 250) hX dL_law_249 rfl rfl ?_
  refine zt_iconst (pc' := 251) hX dL_law_250 rfl ?_
  refine zt_iadd (pc' := 252) hX dL_law_251 rfl ?_
  refine zt_sld (pc' := 253) hX hs hbl hE dL_law_252 rfl hL (zlx h0 h1 (by decide) (by decide)) (fun v1 ev1 lv1 uv1 => ?_)
  refine zt_callV (pc' := 256) (k := 0) (As := [.int (zI v1)]) (rest := []) (q := (RX11, TX11, 17)) hX (zc_X11_end _ _ s0 hI v1 ⟨lv1, uv1⟩) zm_yX11_end dL_law_253 rfl zw_14_20 (by decide) zc_0 zs_1 rfl rfl rfl rfl (Nat.le_of_ble_eq_true rfl) (by decide) ⟨hrc, hrs⟩ (fun r2 s3 hr4 hp5 => ?_)
  obtain ⟨hI6, hF7, q8, q9, z10⟩ := hp5
  have tm12 : s3 164 1 = s0 164 1 := congrFun (hF7.1 164 (by decide)) 1
  have hY13 := yTi_B (zFB_D hF7) hY
  have hG14 := yFtq_C (zFC_of hF7) hG
  have hZ15 := yTz_C (zFC_of hF7) hZ
  have h11 := zLI_B (zFB_D hF7) hW hS
  refine zt_pop (pc' := 257) hX dL_law_256 rfl rfl ?_
  refine zt_aload_n (pc' := 258) hX dL_law_257 rfl rfl ?_
  refine zt_aload_n (pc' := 259) hX dL_law_258 rfl rfl ?_
  refine zt_iload_n (pc' := 260) hX dL_law_259 rfl rfl ?_
  refine zt_iconst (pc' := 261) hX dL_law_260 rfl ?_
  refine zt_iadd (pc' := 262) hX dL_law_261 rfl ?_
  refine zt_sld (pc' := 263) hX hs hbl hE dL_law_262 rfl hL (zlx h0 h1 (by decide) (by decide)) (fun v16 ev16 lv16 uv16 => ?_)
  refine zt_callV (pc' := 266) (k := 164) (As := [.int (zI v16)]) (rest := []) (q := (RX12, TX12, 108)) hX (zc_X12_end _ _ s3 hI6 v16 ⟨lv16, uv16⟩) zm_yX12_end dL_law_263 rfl zw_15_4 (by decide) zc_164 zs_46 rfl rfl rfl rfl (Nat.le_of_ble_eq_true rfl) (by decide) ⟨hrc, hrs⟩ (fun r17 s18 hr19 hp20 => ?_)
  obtain ⟨hI21, hF22, q23, q24, z25, z26, z27⟩ := hp20
  have tc29 : s18 1 1 = s3 1 1 := congrFun (hF22.1 1 (by decide)) 1
  have bz31 := (zv_46_1 hI6 zc_164).1
  have hY30 := yTi_N hF22.1 (by omega) hY13
  have hG32 := yFtq_N hF22.1 z26 z27 hG14
  have hZ33 := yTz_N hF22.1 hF22.2.1 hZ15
  have h28 := zLI_N hF22 h11.1 h11.2
  refine zt_pop (pc' := 267) hX dL_law_266 rfl rfl ?_
  refine zt_goto (tgt := 1066) hX dL_law_267 (by decide) ?_
  have eev16 : v16 = v1 := ev16.trans ev1.symm
  clear ev1 ev16
  exact K s18 hI21 h28.1 h28.2 (by omega) hY30 hZ33 hG32
set_option maxHeartbeats 4000000 in
theorem zl_2 {X : zCX} {cs ss b L : Nat} {xs : Nat → Int32} {s0 : zSto} {x : Int} (hX : zok X cL_law RL zLd) (hs : va_X b L xs X.2.2.2.2.2.1 X.2.2.2.2.2.1.heap) (hbl : b < X.2.2.2.2.2.1.heap.size) (hE : X.1.1 = X.2.2.2.2.2.1.heap.size) (hL : L ≤ 3072) (h0 : 0 ≤ x) (h1 : x + 6 ≤ (L : Int)) (hrc : cs ≤ X.2.2.2.2.1.cells) (hrs : ss ≤ X.2.2.2.2.1.slots) (hI : zInv s0) (hW : zWF s0) (hS : s0 164 54 = 0) (hT : s0 1 1 = s0 164 1) (hY : yTi s0) (hZ : yTz s0) (hG : yFtq s0) (K : ∀ s : zSto, zInv s → zWF s → s 164 54 = 0 → s 1 1 = s 164 1 → yTi s → yTz s → yFtq s → zZ X zNC cs ss s 1066 [some (.ref b), some (.ref (X.1.1 + 0)), some (.ref (X.1.1 + 164)), some (.int (zI x))] []) : zZ X zNC cs ss s0 270 [some (.ref b), some (.ref (X.1.1 + 0)), some (.ref (X.1.1 + 164)), some (.int (zI x))] [] := by
  refine zt_aload_n (pc' := 271) hX dL_law_270 rfl rfl ?_
  refine zt_callV (pc' := 274) (k := 0) (As := []) (rest := []) (q := (RX11, TX11, 17)) hX (we_X11_pane _ _ s0 hI hY.1 hZ) zm_yX11_pane dL_law_271 rfl zw_15_8 (by decide) zc_0 zs_1 rfl rfl rfl rfl (Nat.le_of_ble_eq_true rfl) (by decide) ⟨hrc, hrs⟩ (fun r1 s2 hr3 hp4 => ?_)
  obtain ⟨hI5, hF6, q7, q8, z9, z10, z11, z12, z13⟩ := hp4
  have tm15 : s2 164 1 = s0 164 1 := congrFun (hF6 164 (by decide)) 1
  have hY16 := yTi_B hF6 hY
  have h14 := zLI_B hF6 hW hS
  refine zt_pop (pc' := 275) hX dL_law_274 rfl rfl ?_
  refine zt_aload_n (pc' := 276) hX dL_law_275 rfl rfl ?_
  refine zt_callV (pc' := 279) (k := 164) (As := []) (rest := []) (q := (RX12, TX12, 108)) hX (we_X12_pane _ _ s2 hI5 h14.1 hY16.2.1) zm_yX12_pane dL_law_276 rfl zw_25_8 (by decide) zc_164 zs_46 rfl rfl rfl rfl (Nat.le_of_ble_eq_true rfl) (by decide) ⟨hrc, hrs⟩ (fun r17 s18 hr19 hp20 => ?_)
  obtain ⟨hI21, hF22, q23, q24, z25, z26, z27, z28, z29, z30⟩ := hp20
  have tc32 : s18 1 1 = s2 1 1 := congrFun (hF22 1 (by decide)) 1
  have bz34 := (zv_46_1 hI5 zc_164).1
  have hY33 := yTi_N hF22 (by omega) hY16
  have hG35 := yFtq_pane z12 z28 (yW_T hF6 hY hT) hF22
  have hZ36 := yTz_pane hZ hF6 z10 z28 (yW_T hF6 hY hT) hF22
  have h31 := zLI_P z25 z26 h14.2
  refine zt_pop (pc' := 280) hX dL_law_279 rfl rfl ?_
  refine zt_goto (tgt := 1066) hX dL_law_280 (by decide) ?_
  exact K s18 hI21 h31.1 h31.2 (by omega) hY33 hZ36 hG35
set_option maxHeartbeats 4000000 in
theorem zl_3 {X : zCX} {cs ss b L : Nat} {xs : Nat → Int32} {s0 : zSto} {x : Int} (hX : zok X cL_law RL zLd) (hs : va_X b L xs X.2.2.2.2.2.1 X.2.2.2.2.2.1.heap) (hbl : b < X.2.2.2.2.2.1.heap.size) (hE : X.1.1 = X.2.2.2.2.2.1.heap.size) (hL : L ≤ 3072) (h0 : 0 ≤ x) (h1 : x + 6 ≤ (L : Int)) (hrc : cs ≤ X.2.2.2.2.1.cells) (hrs : ss ≤ X.2.2.2.2.1.slots) (hI : zInv s0) (hW : zWF s0) (hS : s0 164 54 = 0) (hT : s0 1 1 = s0 164 1) (hY : yTi s0) (hZ : yTz s0) (hG : yFtq s0) (K : ∀ s : zSto, zInv s → zWF s → s 164 54 = 0 → s 1 1 = s 164 1 → yTi s → yTz s → yFtq s → zZ X zNC cs ss s 1066 [some (.ref b), some (.ref (X.1.1 + 0)), some (.ref (X.1.1 + 164)), some (.int (zI x))] []) : zZ X zNC cs ss s0 283 [some (.ref b), some (.ref (X.1.1 + 0)), some (.ref (X.1.1 + 164)), some (.int (zI x))] [] := by
  refine zt_aload_n (pc' := 284) hX dL_law_283 rfl rfl ?_
  refine zt_aload_n (pc' := 285) hX dL_law_284 rfl rfl ?_
  refine zt_iload_n (pc' := 286) hX dL_law_285 rfl rfl ?_
  refine zt_iconst (pc' := 287) hX dL_law_286 rfl ?_
  refine zt_iadd (pc' := 288) hX dL_law_287 rfl ?_
  refine zt_sld (pc' := 289) hX hs hbl hE dL_law_288 rfl hL (zlx h0 h1 (by decide) (by decide)) (fun v1 ev1 lv1 uv1 => ?_)
  refine zt_callV (pc' := 292) (k := 0) (As := [.int (zI v1)]) (rest := []) (q := (RX11, TX11, 17)) hX (yd_X11_fault _ _ s0 hI v1 ⟨lv1, uv1⟩) zm_yX11_fault dL_law_289 rfl zw_32_22 (by decide) zc_0 zs_1 rfl rfl rfl rfl (Nat.le_of_ble_eq_true rfl) (by decide) ⟨hrc, hrs⟩ (fun r2 s3 hr4 hp5 => ?_)
  obtain ⟨rfl, q6, q7, z8⟩ := hp5
  refine zt_aload_n (pc' := 293) hX dL_law_292 rfl rfl ?_
  refine zt_aload_n (pc' := 294) hX dL_law_293 rfl rfl ?_
  refine zt_iload_n (pc' := 295) hX dL_law_294 rfl rfl ?_
  refine zt_iconst (pc' := 296) hX dL_law_295 rfl ?_
  refine zt_iadd (pc' := 297) hX dL_law_296 rfl ?_
  refine zt_sld (pc' := 298) hX hs hbl hE dL_law_297 rfl hL (zlx h0 h1 (by decide) (by decide)) (fun v9 ev9 lv9 uv9 => ?_)
  refine zt_callV (pc' := 301) (k := 164) (As := [.int (zI v9)]) (rest := [.int (zI r2)]) (q := (RX12, TX12, 108)) hX (yd_X12_fault _ _ s0 hI v9 ⟨lv9, uv9⟩) zm_yX12_fault dL_law_298 rfl zw_33_2 (by decide) zc_164 zs_46 rfl rfl rfl rfl (Nat.le_of_ble_eq_true rfl) (by decide) ⟨hrc, hrs⟩ (fun r10 s11 hr12 hp13 => ?_)
  obtain ⟨rfl, q14, q15, z16⟩ := hp13
  have eev9 : v9 = v1 := ev9.trans ev1.symm
  clear ev1 ev9
  have eq : r2 = r10 := z8.trans (by rw [hG.1, hG.2, ← eev9]; exact z16.symm)
  refine zt_iceq (pc' := 304) (tgt := 1066) hX dL_law_301 rfl (by decide) ⟨by omega, by omega⟩ ⟨by omega, by omega⟩ (fun c => ?_) (fun c => absurd eq c)
  exact K s0 hI hW hS (by omega) hY hZ hG
set_option maxHeartbeats 4000000 in
theorem zl_4 {X : zCX} {cs ss b L : Nat} {xs : Nat → Int32} {s0 : zSto} {x : Int} (hX : zok X cL_law RL zLd) (hs : va_X b L xs X.2.2.2.2.2.1 X.2.2.2.2.2.1.heap) (hbl : b < X.2.2.2.2.2.1.heap.size) (hE : X.1.1 = X.2.2.2.2.2.1.heap.size) (hL : L ≤ 3072) (h0 : 0 ≤ x) (h1 : x + 6 ≤ (L : Int)) (hrc : cs ≤ X.2.2.2.2.1.cells) (hrs : ss ≤ X.2.2.2.2.1.slots) (hI : zInv s0) (hW : zWF s0) (hS : s0 164 54 = 0) (hT : s0 1 1 = s0 164 1) (hY : yTi s0) (hZ : yTz s0) (hG : yFtq s0) (K : ∀ s : zSto, zInv s → zWF s → s 164 54 = 0 → s 1 1 = s 164 1 → yTi s → yTz s → yFtq s → zZ X zNC cs ss s 1066 [some (.ref b), some (.ref (X.1.1 + 0)), some (.ref (X.1.1 + 164)), some (.int (zI x))] []) : zZ X zNC cs ss s0 306 [some (.ref b), some (.ref (X.1.1 + 0)), some (.ref (X.1.1 + 164)), some (.int (zI x))] [] := by
  refine zt_aload_n (pc' := 307) hX dL_law_306 rfl rfl ?_
  refine zt_aload_n (pc' := 308) hX dL_law_307 rfl rfl ?_
  refine zt_iload_n (pc' := 309) hX dL_law_308 rfl rfl ?_
  refine zt_iconst (pc' := 310) hX dL_law_309 rfl ?_
  refine zt_iadd (pc' := 311) hX dL_law_310 rfl ?_
  refine zt_sld (pc' := 312) hX hs hbl hE dL_law_311 rfl hL (zlx h0 h1 (by decide) (by decide)) (fun v1 ev1 lv1 uv1 => ?_)
  refine zt_callV (pc' := 315) (k := 0) (As := [.int (zI v1)]) (rest := []) (q := (RX11, TX11, 17)) hX (zc_X11_has _ _ s0 hI v1 ⟨lv1, uv1⟩) zm_yX11_has dL_law_312 rfl zw_33_6 (by decide) zc_0 zs_1 rfl rfl rfl rfl (Nat.le_of_ble_eq_true rfl) (by decide) ⟨hrc, hrs⟩ (fun r2 s3 hr4 hp5 => ?_)
  obtain ⟨hI6, hF7, q8, q9⟩ := hp5
  have tm11 : s3 164 1 = s0 164 1 := congrFun (hF7.1.1 164 (by decide)) 1
  have tc12 : s3 1 1 = s0 1 1 := hF7.2
  have hY13 := yTi_B (zFB_E hF7) hY
  have hG14 := yFtq_C (zFC_E hF7) hG
  have hZ15 := yTz_C (zFC_E hF7) hZ
  have h10 := zLI_B (zFB_E hF7) hW hS
  refine zt_pop (pc' := 316) hX dL_law_315 rfl rfl ?_
  refine zt_aload_n (pc' := 317) hX dL_law_316 rfl rfl ?_
  refine zt_aload_n (pc' := 318) hX dL_law_317 rfl rfl ?_
  refine zt_iload_n (pc' := 319) hX dL_law_318 rfl rfl ?_
  refine zt_iconst (pc' := 320) hX dL_law_319 rfl ?_
  refine zt_iadd (pc' := 321) hX dL_law_320 rfl ?_
  refine zt_sld (pc' := 322) hX hs hbl hE dL_law_321 rfl hL (zlx h0 h1 (by decide) (by decide)) (fun v16 ev16 lv16 uv16 => ?_)
  refine zt_callV (pc' := 325) (k := 164) (As := [.int (zI v16)]) (rest := []) (q := (RX12, TX12, 108)) hX (zc_X12_has _ _ s3 hI6 v16 ⟨lv16, uv16⟩ h10.1) zm_yX12_has dL_law_322 rfl zw_38_0 (by decide) zc_164 zs_46 rfl rfl rfl rfl (Nat.le_of_ble_eq_true rfl) (by decide) ⟨hrc, hrs⟩ (fun r17 s18 hr19 hp20 => ?_)
  obtain ⟨hI21, hF22, q23, q24⟩ := hp20
  have tc26 : s18 1 1 = s3 1 1 := congrFun (hF22.1.1 1 (by decide)) 1
  have tm27 : s18 164 1 = s3 164 1 := hF22.1.2.1
  have bz29 := (zv_46_1 hI6 zc_164).1
  have hY28 := yTi_N hF22.1.1 (by omega) hY13
  have hG30 := yFtq_M hF22.1 hG14
  have hZ31 := yTz_N hF22.1.1 hF22.2.1 hZ15
  have h25 := zLI_N (zGN_of hF22) h10.1 h10.2
  refine zt_pop (pc' := 326) hX dL_law_325 rfl rfl ?_
  refine zt_goto (tgt := 1066) hX dL_law_326 (by decide) ?_
  clear ev1 ev16
  exact K s18 hI21 h25.1 h25.2 (by omega) hY28 hZ31 hG30
set_option maxHeartbeats 4000000 in
theorem zl_5 {X : zCX} {cs ss b L : Nat} {xs : Nat → Int32} {s0 : zSto} {x : Int} (hX : zok X cL_law RL zLd) (hs : va_X b L xs X.2.2.2.2.2.1 X.2.2.2.2.2.1.heap) (hbl : b < X.2.2.2.2.2.1.heap.size) (hE : X.1.1 = X.2.2.2.2.2.1.heap.size) (hL : L ≤ 3072) (h0 : 0 ≤ x) (h1 : x + 6 ≤ (L : Int)) (hrc : cs ≤ X.2.2.2.2.1.cells) (hrs : ss ≤ X.2.2.2.2.1.slots) (hI : zInv s0) (hW : zWF s0) (hS : s0 164 54 = 0) (hT : s0 1 1 = s0 164 1) (hY : yTi s0) (hZ : yTz s0) (hG : yFtq s0) (K : ∀ s : zSto, zInv s → zWF s → s 164 54 = 0 → s 1 1 = s 164 1 → yTi s → yTz s → yFtq s → zZ X zNC cs ss s 1066 [some (.ref b), some (.ref (X.1.1 + 0)), some (.ref (X.1.1 + 164)), some (.int (zI x))] []) : zZ X zNC cs ss s0 329 [some (.ref b), some (.ref (X.1.1 + 0)), some (.ref (X.1.1 + 164)), some (.int (zI x))] [] := by
  refine zt_aload_n (pc' := 330) hX dL_law_329 rfl rfl ?_
  refine zt_aload_n (pc' := 331) hX dL_law_330 rfl rfl ?_
  refine zt_iload_n (pc' := 332) hX dL_law_331 rfl rfl ?_
  refine zt_iconst (pc' := 333) hX dL_law_332 rfl ?_
  refine zt_iadd (pc' := 334) hX dL_law_333 rfl ?_
  refine zt_sld (pc' := 335) hX hs hbl hE dL_law_334 rfl hL (zlx h0 h1 (by decide) (by decide)) (fun v1 ev1 lv1 uv1 => ?_)
  refine zt_aload_n (pc' := 336) hX dL_law_335 rfl rfl ?_
  refine zt_iload_n (pc' := 337) hX dL_law_336 rfl rfl ?_
  refine zt_iconst (pc' := 338) hX dL_law_337 rfl ?_
  refine zt_iadd (pc' := 339) hX dL_law_338 rfl ?_
  refine zt_sld (pc' := 340) hX hs hbl hE dL_law_339 rfl hL (zlx h0 h1 (by decide) (by decide)) (fun v2 ev2 lv2 uv2 => ?_)
  refine zt_callV (pc' := 343) (k := 0) (As := [.int (zI v1), .int (zI v2)]) (rest := []) (q := (RX11, TX11, 17)) hX (zc_X11_letter _ _ s0 hI v1 ⟨lv1, uv1⟩ v2 ⟨lv2, uv2⟩) zm_yX11_letter dL_law_340 rfl zw_41_2 (by decide) zc_0 zs_1 rfl rfl rfl rfl (Nat.le_of_ble_eq_true rfl) (by decide) ⟨hrc, hrs⟩ (fun r3 s4 hr5 hp6 => ?_)
  obtain ⟨rfl, q7, q8⟩ := hp6
  refine zt_pop (pc' := 344) hX dL_law_343 rfl rfl ?_
  refine zt_aload_n (pc' := 345) hX dL_law_344 rfl rfl ?_
  refine zt_aload_n (pc' := 346) hX dL_law_345 rfl rfl ?_
  refine zt_iload_n (pc' := 347) hX dL_law_346 rfl rfl ?_
  refine zt_iconst (pc' := 348) hX dL_law_347 rfl ?_
  refine zt_iadd (pc' := 349) hX dL_law_348 rfl ?_
  refine zt_sld (pc' := 350) hX hs hbl hE dL_law_349 rfl hL (zlx h0 h1 (by decide) (by decide)) (fun v9 ev9 lv9 uv9 => ?_)
  refine zt_aload_n (pc' := 351) hX dL_law_350 rfl rfl ?_
  refine zt_iload_n (pc' := 352) hX dL_law_351 rfl rfl ?_
  refine zt_iconst (pc' := 353) hX dL_law_352 rfl ?_
  refine zt_iadd (pc' := 354) hX dL_law_353 rfl ?_
  refine zt_sld (pc' := 355) hX hs hbl hE dL_law_354 rfl hL (zlx h0 h1 (by decide) (by decide)) (fun v10 ev10 lv10 uv10 => ?_)
  refine zt_callV (pc' := 358) (k := 164) (As := [.int (zI v9), .int (zI v10)]) (rest := []) (q := (RX12, TX12, 108)) hX (zc_X12_letter _ _ s0 hI v9 ⟨lv9, uv9⟩ v10 ⟨lv10, uv10⟩) zm_yX12_letter dL_law_355 rfl zw_41_12 (by decide) zc_164 zs_46 rfl rfl rfl rfl (Nat.le_of_ble_eq_true rfl) (by decide) ⟨hrc, hrs⟩ (fun r11 s12 hr13 hp14 => ?_)
  obtain ⟨rfl, q15, q16⟩ := hp14
  refine zt_pop (pc' := 359) hX dL_law_358 rfl rfl ?_
  refine zt_goto (tgt := 1066) hX dL_law_359 (by decide) ?_
  clear ev1 ev2 ev9 ev10
  exact K s0 hI hW hS (by omega) hY hZ hG
set_option maxHeartbeats 4000000 in
theorem zl_6 {X : zCX} {cs ss b L : Nat} {xs : Nat → Int32} {s0 : zSto} {x : Int} (hX : zok X cL_law RL zLd) (hs : va_X b L xs X.2.2.2.2.2.1 X.2.2.2.2.2.1.heap) (hbl : b < X.2.2.2.2.2.1.heap.size) (hE : X.1.1 = X.2.2.2.2.2.1.heap.size) (hL : L ≤ 3072) (h0 : 0 ≤ x) (h1 : x + 6 ≤ (L : Int)) (hrc : cs ≤ X.2.2.2.2.1.cells) (hrs : ss ≤ X.2.2.2.2.1.slots) (hI : zInv s0) (hW : zWF s0) (hS : s0 164 54 = 0) (hT : s0 1 1 = s0 164 1) (hY : yTi s0) (hZ : yTz s0) (hG : yFtq s0) (K : ∀ s : zSto, zInv s → zWF s → s 164 54 = 0 → s 1 1 = s 164 1 → yTi s → yTz s → yFtq s → zZ X zNC cs ss s 1066 [some (.ref b), some (.ref (X.1.1 + 0)), some (.ref (X.1.1 + 164)), some (.int (zI x))] []) : zZ X zNC cs ss s0 362 [some (.ref b), some (.ref (X.1.1 + 0)), some (.ref (X.1.1 + 164)), some (.int (zI x))] [] := by
  refine zt_aload_n (pc' := 363) hX dL_law_362 rfl rfl ?_
  refine zt_aload_n (pc' := 364) hX dL_law_363 rfl rfl ?_
  refine zt_iload_n (pc' := 365) hX dL_law_364 rfl rfl ?_
  refine zt_iconst (pc' := 366) hX dL_law_365 rfl ?_
  refine zt_iadd (pc' := 367) hX dL_law_366 rfl ?_
  refine zt_sld (pc' := 368) hX hs hbl hE dL_law_367 rfl hL (zlx h0 h1 (by decide) (by decide)) (fun v1 ev1 lv1 uv1 => ?_)
  refine zt_aload_n (pc' := 369) hX dL_law_368 rfl rfl ?_
  refine zt_iload_n (pc' := 370) hX dL_law_369 rfl rfl ?_
  refine zt_iconst (pc' := 371) hX dL_law_370 rfl ?_
  refine zt_iadd (pc' := 372) hX dL_law_371 rfl ?_
  refine zt_sld (pc' := 373) hX hs hbl hE dL_law_372 rfl hL (zlx h0 h1 (by decide) (by decide)) (fun v2 ev2 lv2 uv2 => ?_)
  refine zt_aload_n (pc' := 374) hX dL_law_373 rfl rfl ?_
  refine zt_iload_n (pc' := 375) hX dL_law_374 rfl rfl ?_
  refine zt_iconst (pc' := 376) hX dL_law_375 rfl ?_
  refine zt_iadd (pc' := 377) hX dL_law_376 rfl ?_
  refine zt_sld (pc' := 378) hX hs hbl hE dL_law_377 rfl hL (zlx h0 h1 (by decide) (by decide)) (fun v3 ev3 lv3 uv3 => ?_)
  refine zt_callV (pc' := 381) (k := 0) (As := [.int (zI v1), .int (zI v2), .int (zI v3)]) (rest := []) (q := (RX11, TX11, 17)) hX (zc_X11_cell _ _ s0 hI v1 ⟨lv1, uv1⟩ v2 ⟨lv2, uv2⟩ v3 ⟨lv3, uv3⟩) zm_yX11_cell dL_law_378 rfl zw_41_20 (by decide) zc_0 zs_1 rfl rfl rfl rfl (Nat.le_of_ble_eq_true rfl) (by decide) ⟨hrc, hrs⟩ (fun r4 s5 hr6 hp7 => ?_)
  obtain ⟨hI8, hF9, q10, q11⟩ := hp7
  have tm13 : s5 164 1 = s0 164 1 := congrFun (hF9.1.1 164 (by decide)) 1
  have tc14 : s5 1 1 = s0 1 1 := hF9.2
  have hY15 := yTi_B (zFB_E hF9) hY
  have hG16 := yFtq_C (zFC_E hF9) hG
  have hZ17 := yTz_C (zFC_E hF9) hZ
  have h12 := zLI_B (zFB_E hF9) hW hS
  refine zt_pop (pc' := 382) hX dL_law_381 rfl rfl ?_
  refine zt_aload_n (pc' := 383) hX dL_law_382 rfl rfl ?_
  refine zt_aload_n (pc' := 384) hX dL_law_383 rfl rfl ?_
  refine zt_iload_n (pc' := 385) hX dL_law_384 rfl rfl ?_
  refine zt_iconst (pc' := 386) hX dL_law_385 rfl ?_
  refine zt_iadd (pc' := 387) hX dL_law_386 rfl ?_
  refine zt_sld (pc' := 388) hX hs hbl hE dL_law_387 rfl hL (zlx h0 h1 (by decide) (by decide)) (fun v18 ev18 lv18 uv18 => ?_)
  refine zt_aload_n (pc' := 389) hX dL_law_388 rfl rfl ?_
  refine zt_iload_n (pc' := 390) hX dL_law_389 rfl rfl ?_
  refine zt_iconst (pc' := 391) hX dL_law_390 rfl ?_
  refine zt_iadd (pc' := 392) hX dL_law_391 rfl ?_
  refine zt_sld (pc' := 393) hX hs hbl hE dL_law_392 rfl hL (zlx h0 h1 (by decide) (by decide)) (fun v19 ev19 lv19 uv19 => ?_)
  refine zt_aload_n (pc' := 394) hX dL_law_393 rfl rfl ?_
  refine zt_iload_n (pc' := 395) hX dL_law_394 rfl rfl ?_
  refine zt_iconst (pc' := 396) hX dL_law_395 rfl ?_
  refine zt_iadd (pc' := 397) hX dL_law_396 rfl ?_
  refine zt_sld (pc' := 398) hX hs hbl hE dL_law_397 rfl hL (zlx h0 h1 (by decide) (by decide)) (fun v20 ev20 lv20 uv20 => ?_)
  refine zt_callV (pc' := 401) (k := 164) (As := [.int (zI v18), .int (zI v19), .int (zI v20)]) (rest := []) (q := (RX12, TX12, 108)) hX (zc_X12_cell _ _ s5 hI8 v18 ⟨lv18, uv18⟩ v19 ⟨lv19, uv19⟩ v20 ⟨lv20, uv20⟩ h12.1) zm_yX12_cell dL_law_398 rfl zw_44_7 (by decide) zc_164 zs_46 rfl rfl rfl rfl (Nat.le_of_ble_eq_true rfl) (by decide) ⟨hrc, hrs⟩ (fun r21 s22 hr23 hp24 => ?_)
  obtain ⟨hI25, hF26, q27, q28⟩ := hp24
  have tc30 : s22 1 1 = s5 1 1 := congrFun (hF26.1.1 1 (by decide)) 1
  have tm31 : s22 164 1 = s5 164 1 := hF26.1.2.1
  have bz33 := (zv_46_1 hI8 zc_164).1
  have hY32 := yTi_N hF26.1.1 (by omega) hY15
  have hG34 := yFtq_M hF26.1 hG16
  have hZ35 := yTz_N hF26.1.1 hF26.2.1 hZ17
  have h29 := zLI_N (zGN_of hF26) h12.1 h12.2
  refine zt_pop (pc' := 402) hX dL_law_401 rfl rfl ?_
  refine zt_goto (tgt := 1066) hX dL_law_402 (by decide) ?_
  clear ev1 ev2 ev3 ev18 ev19 ev20
  exact K s22 hI25 h29.1 h29.2 (by omega) hY32 hZ35 hG34
set_option maxHeartbeats 4000000 in
theorem zl_7 {X : zCX} {cs ss b L : Nat} {xs : Nat → Int32} {s0 : zSto} {x : Int} (hX : zok X cL_law RL zLd) (hs : va_X b L xs X.2.2.2.2.2.1 X.2.2.2.2.2.1.heap) (hbl : b < X.2.2.2.2.2.1.heap.size) (hE : X.1.1 = X.2.2.2.2.2.1.heap.size) (hL : L ≤ 3072) (h0 : 0 ≤ x) (h1 : x + 6 ≤ (L : Int)) (hrc : cs ≤ X.2.2.2.2.1.cells) (hrs : ss ≤ X.2.2.2.2.1.slots) (hI : zInv s0) (hW : zWF s0) (hS : s0 164 54 = 0) (hT : s0 1 1 = s0 164 1) (hY : yTi s0) (hZ : yTz s0) (hG : yFtq s0) (K : ∀ s : zSto, zInv s → zWF s → s 164 54 = 0 → s 1 1 = s 164 1 → yTi s → yTz s → yFtq s → zZ X zNC cs ss s 1066 [some (.ref b), some (.ref (X.1.1 + 0)), some (.ref (X.1.1 + 164)), some (.int (zI x))] []) : zZ X zNC cs ss s0 405 [some (.ref b), some (.ref (X.1.1 + 0)), some (.ref (X.1.1 + 164)), some (.int (zI x))] [] := by
  refine zt_aload_n (pc' := 406) hX dL_law_405 rfl rfl ?_
  refine zt_aload_n (pc' := 407) hX dL_law_406 rfl rfl ?_
  refine zt_iload_n (pc' := 408) hX dL_law_407 rfl rfl ?_
  refine zt_iconst (pc' := 409) hX dL_law_408 rfl ?_
  refine zt_iadd (pc' := 410) hX dL_law_409 rfl ?_
  refine zt_sld (pc' := 411) hX hs hbl hE dL_law_410 rfl hL (zlx h0 h1 (by decide) (by decide)) (fun v1 ev1 lv1 uv1 => ?_)
  refine zt_aload_n (pc' := 412) hX dL_law_411 rfl rfl ?_
  refine zt_iload_n (pc' := 413) hX dL_law_412 rfl rfl ?_
  refine zt_iconst (pc' := 414) hX dL_law_413 rfl ?_
  refine zt_iadd (pc' := 415) hX dL_law_414 rfl ?_
  refine zt_sld (pc' := 416) hX hs hbl hE dL_law_415 rfl hL (zlx h0 h1 (by decide) (by decide)) (fun v2 ev2 lv2 uv2 => ?_)
  refine zt_callV (pc' := 419) (k := 0) (As := [.int (zI v1), .int (zI v2)]) (rest := []) (q := (RX11, TX11, 17)) hX (zc_X11_slack _ _ s0 hI v1 ⟨lv1, uv1⟩ v2 ⟨lv2, uv2⟩) zm_yX11_slack dL_law_416 rfl zw_45_16 (by decide) zc_0 zs_1 rfl rfl rfl rfl (Nat.le_of_ble_eq_true rfl) (by decide) ⟨hrc, hrs⟩ (fun r3 s4 hr5 hp6 => ?_)
  obtain ⟨hI7, hF8, q9, q10⟩ := hp6
  have tm12 : s4 164 1 = s0 164 1 := congrFun (hF8.1.1 164 (by decide)) 1
  have tc13 : s4 1 1 = s0 1 1 := hF8.2
  have hY14 := yTi_B (zFB_E hF8) hY
  have hG15 := yFtq_C (zFC_E hF8) hG
  have hZ16 := yTz_C (zFC_E hF8) hZ
  have h11 := zLI_B (zFB_E hF8) hW hS
  refine zt_pop2l (pc' := 420) hX dL_law_419 rfl rfl ?_
  refine zt_aload_n (pc' := 421) hX dL_law_420 rfl rfl ?_
  refine zt_aload_n (pc' := 422) hX dL_law_421 rfl rfl ?_
  refine zt_iload_n (pc' := 423) hX dL_law_422 rfl rfl ?_
  refine zt_iconst (pc' := 424) hX dL_law_423 rfl ?_
  refine zt_iadd (pc' := 425) hX dL_law_424 rfl ?_
  refine zt_sld (pc' := 426) hX hs hbl hE dL_law_425 rfl hL (zlx h0 h1 (by decide) (by decide)) (fun v17 ev17 lv17 uv17 => ?_)
  refine zt_aload_n (pc' := 427) hX dL_law_426 rfl rfl ?_
  refine zt_iload_n (pc' := 428) hX dL_law_427 rfl rfl ?_
  refine zt_iconst (pc' := 429) hX dL_law_428 rfl ?_
  refine zt_iadd (pc' := 430) hX dL_law_429 rfl ?_
  refine zt_sld (pc' := 431) hX hs hbl hE dL_law_430 rfl hL (zlx h0 h1 (by decide) (by decide)) (fun v18 ev18 lv18 uv18 => ?_)
  refine zt_callV (pc' := 434) (k := 164) (As := [.int (zI v17), .int (zI v18)]) (rest := []) (q := (RX12, TX12, 108)) hX (zc_X12_slack _ _ s4 hI7 v17 ⟨lv17, uv17⟩ v18 ⟨lv18, uv18⟩ h11.1) zm_yX12_slack dL_law_431 rfl zw_45_22 (by decide) zc_164 zs_46 rfl rfl rfl rfl (Nat.le_of_ble_eq_true rfl) (by decide) ⟨hrc, hrs⟩ (fun r19 s20 hr21 hp22 => ?_)
  obtain ⟨hI23, hF24, q25, q26⟩ := hp22
  have tc28 : s20 1 1 = s4 1 1 := congrFun (hF24.1.1 1 (by decide)) 1
  have tm29 : s20 164 1 = s4 164 1 := hF24.1.2.1
  have bz31 := (zv_46_1 hI7 zc_164).1
  have hY30 := yTi_N hF24.1.1 (by omega) hY14
  have hG32 := yFtq_M hF24.1 hG15
  have hZ33 := yTz_N hF24.1.1 hF24.2.1 hZ16
  have h27 := zLI_N (zGN_of hF24) h11.1 h11.2
  refine zt_pop2l (pc' := 435) hX dL_law_434 rfl rfl ?_
  refine zt_goto (tgt := 1066) hX dL_law_435 (by decide) ?_
  clear ev1 ev2 ev17 ev18
  exact K s20 hI23 h27.1 h27.2 (by omega) hY30 hZ33 hG32
set_option maxHeartbeats 4000000 in
theorem zl_8 {X : zCX} {cs ss b L : Nat} {xs : Nat → Int32} {s0 : zSto} {x : Int} (hX : zok X cL_law RL zLd) (hs : va_X b L xs X.2.2.2.2.2.1 X.2.2.2.2.2.1.heap) (hbl : b < X.2.2.2.2.2.1.heap.size) (hE : X.1.1 = X.2.2.2.2.2.1.heap.size) (hL : L ≤ 3072) (h0 : 0 ≤ x) (h1 : x + 6 ≤ (L : Int)) (hrc : cs ≤ X.2.2.2.2.1.cells) (hrs : ss ≤ X.2.2.2.2.1.slots) (hI : zInv s0) (hW : zWF s0) (hS : s0 164 54 = 0) (hT : s0 1 1 = s0 164 1) (hY : yTi s0) (hZ : yTz s0) (hG : yFtq s0) (K : ∀ s : zSto, zInv s → zWF s → s 164 54 = 0 → s 1 1 = s 164 1 → yTi s → yTz s → yFtq s → zZ X zNC cs ss s 1066 [some (.ref b), some (.ref (X.1.1 + 0)), some (.ref (X.1.1 + 164)), some (.int (zI x))] []) : zZ X zNC cs ss s0 438 [some (.ref b), some (.ref (X.1.1 + 0)), some (.ref (X.1.1 + 164)), some (.int (zI x))] [] := by
  refine zt_aload_n (pc' := 439) hX dL_law_438 rfl rfl ?_
  refine zt_aload_n (pc' := 440) hX dL_law_439 rfl rfl ?_
  refine zt_iload_n (pc' := 441) hX dL_law_440 rfl rfl ?_
  refine zt_iconst (pc' := 442) hX dL_law_441 rfl ?_
  refine zt_iadd (pc' := 443) hX dL_law_442 rfl ?_
  refine zt_sld (pc' := 444) hX hs hbl hE dL_law_443 rfl hL (zlx h0 h1 (by decide) (by decide)) (fun v1 ev1 lv1 uv1 => ?_)
  refine zt_aload_n (pc' := 445) hX dL_law_444 rfl rfl ?_
  refine zt_iload_n (pc' := 446) hX dL_law_445 rfl rfl ?_
  refine zt_iconst (pc' := 447) hX dL_law_446 rfl ?_
  refine zt_iadd (pc' := 448) hX dL_law_447 rfl ?_
  refine zt_sld (pc' := 449) hX hs hbl hE dL_law_448 rfl hL (zlx h0 h1 (by decide) (by decide)) (fun v2 ev2 lv2 uv2 => ?_)
  refine zt_callV (pc' := 452) (k := 0) (As := [.int (zI v1), .int (zI v2)]) (rest := []) (q := (RX11, TX11, 17)) hX (zc_X11_person _ _ s0 hI v1 ⟨lv1, uv1⟩ v2 ⟨lv2, uv2⟩) zm_yX11_person dL_law_449 rfl zw_46_15 (by decide) zc_0 zs_1 rfl rfl rfl rfl (Nat.le_of_ble_eq_true rfl) (by decide) ⟨hrc, hrs⟩ (fun r3 s4 hr5 hp6 => ?_)
  obtain ⟨hI7, hF8, q9, q10⟩ := hp6
  have tm12 : s4 164 1 = s0 164 1 := congrFun (hF8.1.1 164 (by decide)) 1
  have tc13 : s4 1 1 = s0 1 1 := hF8.2
  have hY14 := yTi_B (zFB_E hF8) hY
  have hG15 := yFtq_C (zFC_E hF8) hG
  have hZ16 := yTz_C (zFC_E hF8) hZ
  have h11 := zLI_B (zFB_E hF8) hW hS
  refine zt_pop (pc' := 453) hX dL_law_452 rfl rfl ?_
  refine zt_aload_n (pc' := 454) hX dL_law_453 rfl rfl ?_
  refine zt_aload_n (pc' := 455) hX dL_law_454 rfl rfl ?_
  refine zt_iload_n (pc' := 456) hX dL_law_455 rfl rfl ?_
  refine zt_iconst (pc' := 457) hX dL_law_456 rfl ?_
  refine zt_iadd (pc' := 458) hX dL_law_457 rfl ?_
  refine zt_sld (pc' := 459) hX hs hbl hE dL_law_458 rfl hL (zlx h0 h1 (by decide) (by decide)) (fun v17 ev17 lv17 uv17 => ?_)
  refine zt_aload_n (pc' := 460) hX dL_law_459 rfl rfl ?_
  refine zt_iload_n (pc' := 461) hX dL_law_460 rfl rfl ?_
  refine zt_iconst (pc' := 462) hX dL_law_461 rfl ?_
  refine zt_iadd (pc' := 463) hX dL_law_462 rfl ?_
  refine zt_sld (pc' := 464) hX hs hbl hE dL_law_463 rfl hL (zlx h0 h1 (by decide) (by decide)) (fun v18 ev18 lv18 uv18 => ?_)
  refine zt_callV (pc' := 467) (k := 164) (As := [.int (zI v17), .int (zI v18)]) (rest := []) (q := (RX12, TX12, 108)) hX (zc_X12_person _ _ s4 hI7 v17 ⟨lv17, uv17⟩ v18 ⟨lv18, uv18⟩ h11.1) zm_yX12_person dL_law_464 rfl zw_46_23 (by decide) zc_164 zs_46 rfl rfl rfl rfl (Nat.le_of_ble_eq_true rfl) (by decide) ⟨hrc, hrs⟩ (fun r19 s20 hr21 hp22 => ?_)
  obtain ⟨hI23, hF24, q25, q26⟩ := hp22
  have tc28 : s20 1 1 = s4 1 1 := congrFun (hF24.1.1 1 (by decide)) 1
  have tm29 : s20 164 1 = s4 164 1 := hF24.1.2.1
  have bz31 := (zv_46_1 hI7 zc_164).1
  have hY30 := yTi_N hF24.1.1 (by omega) hY14
  have hG32 := yFtq_M hF24.1 hG15
  have hZ33 := yTz_N hF24.1.1 hF24.2.1 hZ16
  have h27 := zLI_N (zGN_of hF24) h11.1 h11.2
  refine zt_pop (pc' := 468) hX dL_law_467 rfl rfl ?_
  refine zt_goto (tgt := 1066) hX dL_law_468 (by decide) ?_
  clear ev1 ev2 ev17 ev18
  exact K s20 hI23 h27.1 h27.2 (by omega) hY30 hZ33 hG32
set_option maxHeartbeats 4000000 in
theorem zl_9 {X : zCX} {cs ss b L : Nat} {xs : Nat → Int32} {s0 : zSto} {x : Int} (hX : zok X cL_law RL zLd) (hs : va_X b L xs X.2.2.2.2.2.1 X.2.2.2.2.2.1.heap) (hbl : b < X.2.2.2.2.2.1.heap.size) (hE : X.1.1 = X.2.2.2.2.2.1.heap.size) (hL : L ≤ 3072) (h0 : 0 ≤ x) (h1 : x + 6 ≤ (L : Int)) (hrc : cs ≤ X.2.2.2.2.1.cells) (hrs : ss ≤ X.2.2.2.2.1.slots) (hI : zInv s0) (hW : zWF s0) (hS : s0 164 54 = 0) (hT : s0 1 1 = s0 164 1) (hY : yTi s0) (hZ : yTz s0) (hG : yFtq s0) (K : ∀ s : zSto, zInv s → zWF s → s 164 54 = 0 → s 1 1 = s 164 1 → yTi s → yTz s → yFtq s → zZ X zNC cs ss s 1066 [some (.ref b), some (.ref (X.1.1 + 0)), some (.ref (X.1.1 + 164)), some (.int (zI x))] []) : zZ X zNC cs ss s0 471 [some (.ref b), some (.ref (X.1.1 + 0)), some (.ref (X.1.1 + 164)), some (.int (zI x))] [] := by
  refine zt_aload_n (pc' := 472) hX dL_law_471 rfl rfl ?_
  refine zt_aload_n (pc' := 473) hX dL_law_472 rfl rfl ?_
  refine zt_iload_n (pc' := 474) hX dL_law_473 rfl rfl ?_
  refine zt_iconst (pc' := 475) hX dL_law_474 rfl ?_
  refine zt_iadd (pc' := 476) hX dL_law_475 rfl ?_
  refine zt_sld (pc' := 477) hX hs hbl hE dL_law_476 rfl hL (zlx h0 h1 (by decide) (by decide)) (fun v1 ev1 lv1 uv1 => ?_)
  refine zt_aload_n (pc' := 478) hX dL_law_477 rfl rfl ?_
  refine zt_iload_n (pc' := 479) hX dL_law_478 rfl rfl ?_
  refine zt_iconst (pc' := 480) hX dL_law_479 rfl ?_
  refine zt_iadd (pc' := 481) hX dL_law_480 rfl ?_
  refine zt_sld (pc' := 482) hX hs hbl hE dL_law_481 rfl hL (zlx h0 h1 (by decide) (by decide)) (fun v2 ev2 lv2 uv2 => ?_)
  refine zt_aload_n (pc' := 483) hX dL_law_482 rfl rfl ?_
  refine zt_iload_n (pc' := 484) hX dL_law_483 rfl rfl ?_
  refine zt_iconst (pc' := 485) hX dL_law_484 rfl ?_
  refine zt_iadd (pc' := 486) hX dL_law_485 rfl ?_
  refine zt_sld (pc' := 487) hX hs hbl hE dL_law_486 rfl hL (zlx h0 h1 (by decide) (by decide)) (fun v3 ev3 lv3 uv3 => ?_)
  refine zt_callV (pc' := 490) (k := 0) (As := [.int (zI v1), .int (zI v2), .int (zI v3)]) (rest := []) (q := (RX11, TX11, 17)) hX (zc_X11_lifts _ _ s0 hI v1 ⟨lv1, uv1⟩ v2 ⟨lv2, uv2⟩ v3 ⟨lv3, uv3⟩) zm_yX11_lifts dL_law_487 rfl zw_47_3 (by decide) zc_0 zs_1 rfl rfl rfl rfl (Nat.le_of_ble_eq_true rfl) (by decide) ⟨hrc, hrs⟩ (fun r4 s5 hr6 hp7 => ?_)
  obtain ⟨hI8, hF9, q10, q11⟩ := hp7
  have tm13 : s5 164 1 = s0 164 1 := congrFun (hF9.1.1 164 (by decide)) 1
  have tc14 : s5 1 1 = s0 1 1 := hF9.2
  have hY15 := yTi_B (zFB_E hF9) hY
  have hG16 := yFtq_C (zFC_E hF9) hG
  have hZ17 := yTz_C (zFC_E hF9) hZ
  have h12 := zLI_B (zFB_E hF9) hW hS
  refine zt_pop (pc' := 491) hX dL_law_490 rfl rfl ?_
  refine zt_aload_n (pc' := 492) hX dL_law_491 rfl rfl ?_
  refine zt_aload_n (pc' := 493) hX dL_law_492 rfl rfl ?_
  refine zt_iload_n (pc' := 494) hX dL_law_493 rfl rfl ?_
  refine zt_iconst (pc' := 495) hX dL_law_494 rfl ?_
  refine zt_iadd (pc' := 496) hX dL_law_495 rfl ?_
  refine zt_sld (pc' := 497) hX hs hbl hE dL_law_496 rfl hL (zlx h0 h1 (by decide) (by decide)) (fun v18 ev18 lv18 uv18 => ?_)
  refine zt_aload_n (pc' := 498) hX dL_law_497 rfl rfl ?_
  refine zt_iload_n (pc' := 499) hX dL_law_498 rfl rfl ?_
  refine zt_iconst (pc' := 500) hX dL_law_499 rfl ?_
  refine zt_iadd (pc' := 501) hX dL_law_500 rfl ?_
  refine zt_sld (pc' := 502) hX hs hbl hE dL_law_501 rfl hL (zlx h0 h1 (by decide) (by decide)) (fun v19 ev19 lv19 uv19 => ?_)
  refine zt_aload_n (pc' := 503) hX dL_law_502 rfl rfl ?_
  refine zt_iload_n (pc' := 504) hX dL_law_503 rfl rfl ?_
  refine zt_iconst (pc' := 505) hX dL_law_504 rfl ?_
  refine zt_iadd (pc' := 506) hX dL_law_505 rfl ?_
  refine zt_sld (pc' := 507) hX hs hbl hE dL_law_506 rfl hL (zlx h0 h1 (by decide) (by decide)) (fun v20 ev20 lv20 uv20 => ?_)
  refine zt_callV (pc' := 510) (k := 164) (As := [.int (zI v18), .int (zI v19), .int (zI v20)]) (rest := []) (q := (RX12, TX12, 108)) hX (zc_X12_lifts _ _ s5 hI8 v18 ⟨lv18, uv18⟩ v19 ⟨lv19, uv19⟩ v20 ⟨lv20, uv20⟩) zm_yX12_lifts dL_law_507 rfl zw_47_8 (by decide) zc_164 zs_46 rfl rfl rfl rfl (Nat.le_of_ble_eq_true rfl) (by decide) ⟨hrc, hrs⟩ (fun r21 s22 hr23 hp24 => ?_)
  obtain ⟨rfl, q25, q26⟩ := hp24
  refine zt_pop (pc' := 511) hX dL_law_510 rfl rfl ?_
  refine zt_goto (tgt := 1066) hX dL_law_511 (by decide) ?_
  clear ev1 ev2 ev3 ev18 ev19 ev20
  exact K s5 hI8 h12.1 h12.2 (by omega) hY15 hZ17 hG16
set_option maxHeartbeats 4000000 in
theorem zl_10 {X : zCX} {cs ss b L : Nat} {xs : Nat → Int32} {s0 : zSto} {x : Int} (hX : zok X cL_law RL zLd) (hs : va_X b L xs X.2.2.2.2.2.1 X.2.2.2.2.2.1.heap) (hbl : b < X.2.2.2.2.2.1.heap.size) (hE : X.1.1 = X.2.2.2.2.2.1.heap.size) (hL : L ≤ 3072) (h0 : 0 ≤ x) (h1 : x + 6 ≤ (L : Int)) (hrc : cs ≤ X.2.2.2.2.1.cells) (hrs : ss ≤ X.2.2.2.2.1.slots) (hI : zInv s0) (hW : zWF s0) (hS : s0 164 54 = 0) (hT : s0 1 1 = s0 164 1) (hY : yTi s0) (hZ : yTz s0) (hG : yFtq s0) (K : ∀ s : zSto, zInv s → zWF s → s 164 54 = 0 → s 1 1 = s 164 1 → yTi s → yTz s → yFtq s → zZ X zNC cs ss s 1066 [some (.ref b), some (.ref (X.1.1 + 0)), some (.ref (X.1.1 + 164)), some (.int (zI x))] []) : zZ X zNC cs ss s0 514 [some (.ref b), some (.ref (X.1.1 + 0)), some (.ref (X.1.1 + 164)), some (.int (zI x))] [] := by
  refine zt_aload_n (pc' := 515) hX dL_law_514 rfl rfl ?_
  refine zt_aload_n (pc' := 516) hX dL_law_515 rfl rfl ?_
  refine zt_iload_n (pc' := 517) hX dL_law_516 rfl rfl ?_
  refine zt_iconst (pc' := 518) hX dL_law_517 rfl ?_
  refine zt_iadd (pc' := 519) hX dL_law_518 rfl ?_
  refine zt_sld (pc' := 520) hX hs hbl hE dL_law_519 rfl hL (zlx h0 h1 (by decide) (by decide)) (fun v1 ev1 lv1 uv1 => ?_)
  refine zt_aload_n (pc' := 521) hX dL_law_520 rfl rfl ?_
  refine zt_iload_n (pc' := 522) hX dL_law_521 rfl rfl ?_
  refine zt_iconst (pc' := 523) hX dL_law_522 rfl ?_
  refine zt_iadd (pc' := 524) hX dL_law_523 rfl ?_
  refine zt_sld (pc' := 525) hX hs hbl hE dL_law_524 rfl hL (zlx h0 h1 (by decide) (by decide)) (fun v2 ev2 lv2 uv2 => ?_)
  refine zt_callV (pc' := 528) (k := 0) (As := [.int (zI v1), .int (zI v2)]) (rest := []) (q := (RX11, TX11, 17)) hX (zc_X11_kept _ _ s0 hI v1 ⟨lv1, uv1⟩ v2 ⟨lv2, uv2⟩) zm_yX11_kept dL_law_525 rfl zw_47_12 (by decide) zc_0 zs_1 rfl rfl rfl rfl (Nat.le_of_ble_eq_true rfl) (by decide) ⟨hrc, hrs⟩ (fun r3 s4 hr5 hp6 => ?_)
  obtain ⟨rfl, q7, q8⟩ := hp6
  refine zt_pop (pc' := 529) hX dL_law_528 rfl rfl ?_
  refine zt_aload_n (pc' := 530) hX dL_law_529 rfl rfl ?_
  refine zt_aload_n (pc' := 531) hX dL_law_530 rfl rfl ?_
  refine zt_iload_n (pc' := 532) hX dL_law_531 rfl rfl ?_
  refine zt_iconst (pc' := 533) hX dL_law_532 rfl ?_
  refine zt_iadd (pc' := 534) hX dL_law_533 rfl ?_
  refine zt_sld (pc' := 535) hX hs hbl hE dL_law_534 rfl hL (zlx h0 h1 (by decide) (by decide)) (fun v9 ev9 lv9 uv9 => ?_)
  refine zt_aload_n (pc' := 536) hX dL_law_535 rfl rfl ?_
  refine zt_iload_n (pc' := 537) hX dL_law_536 rfl rfl ?_
  refine zt_iconst (pc' := 538) hX dL_law_537 rfl ?_
  refine zt_iadd (pc' := 539) hX dL_law_538 rfl ?_
  refine zt_sld (pc' := 540) hX hs hbl hE dL_law_539 rfl hL (zlx h0 h1 (by decide) (by decide)) (fun v10 ev10 lv10 uv10 => ?_)
  refine zt_callV (pc' := 543) (k := 164) (As := [.int (zI v9), .int (zI v10)]) (rest := []) (q := (RX12, TX12, 108)) hX (zc_X12_kept _ _ s0 hI v9 ⟨lv9, uv9⟩ v10 ⟨lv10, uv10⟩) zm_yX12_kept dL_law_540 rfl zw_47_17 (by decide) zc_164 zs_46 rfl rfl rfl rfl (Nat.le_of_ble_eq_true rfl) (by decide) ⟨hrc, hrs⟩ (fun r11 s12 hr13 hp14 => ?_)
  obtain ⟨rfl, q15, q16⟩ := hp14
  refine zt_pop (pc' := 544) hX dL_law_543 rfl rfl ?_
  refine zt_goto (tgt := 1066) hX dL_law_544 (by decide) ?_
  clear ev1 ev2 ev9 ev10
  exact K s0 hI hW hS (by omega) hY hZ hG
set_option maxHeartbeats 4000000 in
theorem zl_11 {X : zCX} {cs ss b L : Nat} {xs : Nat → Int32} {s0 : zSto} {x : Int} (hX : zok X cL_law RL zLd) (hs : va_X b L xs X.2.2.2.2.2.1 X.2.2.2.2.2.1.heap) (hbl : b < X.2.2.2.2.2.1.heap.size) (hE : X.1.1 = X.2.2.2.2.2.1.heap.size) (hL : L ≤ 3072) (h0 : 0 ≤ x) (h1 : x + 6 ≤ (L : Int)) (hrc : cs ≤ X.2.2.2.2.1.cells) (hrs : ss ≤ X.2.2.2.2.1.slots) (hI : zInv s0) (hW : zWF s0) (hS : s0 164 54 = 0) (hT : s0 1 1 = s0 164 1) (hY : yTi s0) (hZ : yTz s0) (hG : yFtq s0) (K : ∀ s : zSto, zInv s → zWF s → s 164 54 = 0 → s 1 1 = s 164 1 → yTi s → yTz s → yFtq s → zZ X zNC cs ss s 1066 [some (.ref b), some (.ref (X.1.1 + 0)), some (.ref (X.1.1 + 164)), some (.int (zI x))] []) : zZ X zNC cs ss s0 547 [some (.ref b), some (.ref (X.1.1 + 0)), some (.ref (X.1.1 + 164)), some (.int (zI x))] [] := by
  refine zt_aload_n (pc' := 548) hX dL_law_547 rfl rfl ?_
  refine zt_aload_n (pc' := 549) hX dL_law_548 rfl rfl ?_
  refine zt_iload_n (pc' := 550) hX dL_law_549 rfl rfl ?_
  refine zt_iconst (pc' := 551) hX dL_law_550 rfl ?_
  refine zt_iadd (pc' := 552) hX dL_law_551 rfl ?_
  refine zt_sld (pc' := 553) hX hs hbl hE dL_law_552 rfl hL (zlx h0 h1 (by decide) (by decide)) (fun v1 ev1 lv1 uv1 => ?_)
  refine zt_aload_n (pc' := 554) hX dL_law_553 rfl rfl ?_
  refine zt_iload_n (pc' := 555) hX dL_law_554 rfl rfl ?_
  refine zt_iconst (pc' := 556) hX dL_law_555 rfl ?_
  refine zt_iadd (pc' := 557) hX dL_law_556 rfl ?_
  refine zt_sld (pc' := 558) hX hs hbl hE dL_law_557 rfl hL (zlx h0 h1 (by decide) (by decide)) (fun v2 ev2 lv2 uv2 => ?_)
  refine zt_callV (pc' := 561) (k := 0) (As := [.int (zI v1), .int (zI v2)]) (rest := []) (q := (RX11, TX11, 17)) hX (zc_X11_later _ _ s0 hI v1 ⟨lv1, uv1⟩ v2 ⟨lv2, uv2⟩) zm_yX11_later dL_law_558 rfl zw_47_22 (by decide) zc_0 zs_1 rfl rfl rfl rfl (Nat.le_of_ble_eq_true rfl) (by decide) ⟨hrc, hrs⟩ (fun r3 s4 hr5 hp6 => ?_)
  obtain ⟨hI7, hF8, q9, q10⟩ := hp6
  have tm12 : s4 164 1 = s0 164 1 := congrFun (hF8.1.1 164 (by decide)) 1
  have tc13 : s4 1 1 = s0 1 1 := hF8.2
  have hY14 := yTi_B (zFB_E hF8) hY
  have hG15 := yFtq_C (zFC_E hF8) hG
  have hZ16 := yTz_C (zFC_E hF8) hZ
  have h11 := zLI_B (zFB_E hF8) hW hS
  refine zt_pop (pc' := 562) hX dL_law_561 rfl rfl ?_
  refine zt_aload_n (pc' := 563) hX dL_law_562 rfl rfl ?_
  refine zt_aload_n (pc' := 564) hX dL_law_563 rfl rfl ?_
  refine zt_iload_n (pc' := 565) hX dL_law_564 rfl rfl ?_
  refine zt_iconst (pc' := 566) hX dL_law_565 rfl ?_
  refine zt_iadd (pc' := 567) hX dL_law_566 rfl ?_
  refine zt_sld (pc' := 568) hX hs hbl hE dL_law_567 rfl hL (zlx h0 h1 (by decide) (by decide)) (fun v17 ev17 lv17 uv17 => ?_)
  refine zt_aload_n (pc' := 569) hX dL_law_568 rfl rfl ?_
  refine zt_iload_n (pc' := 570) hX dL_law_569 rfl rfl ?_
  refine zt_iconst (pc' := 571) hX dL_law_570 rfl ?_
  refine zt_iadd (pc' := 572) hX dL_law_571 rfl ?_
  refine zt_sld (pc' := 573) hX hs hbl hE dL_law_572 rfl hL (zlx h0 h1 (by decide) (by decide)) (fun v18 ev18 lv18 uv18 => ?_)
  refine zt_callV (pc' := 576) (k := 164) (As := [.int (zI v17), .int (zI v18)]) (rest := []) (q := (RX12, TX12, 108)) hX (zc_X12_later _ _ s4 hI7 v17 ⟨lv17, uv17⟩ v18 ⟨lv18, uv18⟩ h11.1) zm_yX12_later dL_law_573 rfl zw_49_13 (by decide) zc_164 zs_46 rfl rfl rfl rfl (Nat.le_of_ble_eq_true rfl) (by decide) ⟨hrc, hrs⟩ (fun r19 s20 hr21 hp22 => ?_)
  obtain ⟨hI23, hF24, q25, q26⟩ := hp22
  have tc28 : s20 1 1 = s4 1 1 := congrFun (hF24.1.1 1 (by decide)) 1
  have tm29 : s20 164 1 = s4 164 1 := hF24.1.2.1
  have bz31 := (zv_46_1 hI7 zc_164).1
  have hY30 := yTi_N hF24.1.1 (by omega) hY14
  have hG32 := yFtq_M hF24.1 hG15
  have hZ33 := yTz_N hF24.1.1 hF24.2.1 hZ16
  have h27 := zLI_N (zGN_of hF24) h11.1 h11.2
  refine zt_pop (pc' := 577) hX dL_law_576 rfl rfl ?_
  refine zt_goto (tgt := 1066) hX dL_law_577 (by decide) ?_
  clear ev1 ev2 ev17 ev18
  exact K s20 hI23 h27.1 h27.2 (by omega) hY30 hZ33 hG32
set_option maxHeartbeats 4000000 in
theorem zl_12 {X : zCX} {cs ss b L : Nat} {xs : Nat → Int32} {s0 : zSto} {x : Int} (hX : zok X cL_law RL zLd) (hs : va_X b L xs X.2.2.2.2.2.1 X.2.2.2.2.2.1.heap) (hbl : b < X.2.2.2.2.2.1.heap.size) (hE : X.1.1 = X.2.2.2.2.2.1.heap.size) (hL : L ≤ 3072) (h0 : 0 ≤ x) (h1 : x + 6 ≤ (L : Int)) (hrc : cs ≤ X.2.2.2.2.1.cells) (hrs : ss ≤ X.2.2.2.2.1.slots) (hI : zInv s0) (hW : zWF s0) (hS : s0 164 54 = 0) (hT : s0 1 1 = s0 164 1) (hY : yTi s0) (hZ : yTz s0) (hG : yFtq s0) (K : ∀ s : zSto, zInv s → zWF s → s 164 54 = 0 → s 1 1 = s 164 1 → yTi s → yTz s → yFtq s → zZ X zNC cs ss s 1066 [some (.ref b), some (.ref (X.1.1 + 0)), some (.ref (X.1.1 + 164)), some (.int (zI x))] []) : zZ X zNC cs ss s0 580 [some (.ref b), some (.ref (X.1.1 + 0)), some (.ref (X.1.1 + 164)), some (.int (zI x))] [] := by
  refine zt_aload_n (pc' := 581) hX dL_law_580 rfl rfl ?_
  refine zt_callV (pc' := 584) (k := 0) (As := []) (rest := []) (q := (RX11, TX11, 17)) hX (zc_X11_next _ _ s0 hI) zm_yX11_next dL_law_581 rfl zw_50_23 (by decide) zc_0 zs_1 rfl rfl rfl rfl (Nat.le_of_ble_eq_true rfl) (by decide) ⟨hrc, hrs⟩ (fun r1 s2 hr3 hp4 => ?_)
  obtain ⟨hI5, hF6, q7, q8⟩ := hp4
  have tm10 : s2 164 1 = s0 164 1 := congrFun (hF6.1.1 164 (by decide)) 1
  have tc11 : s2 1 1 = s0 1 1 := hF6.2
  have hY12 := yTi_B (zFB_E hF6) hY
  have hG13 := yFtq_C (zFC_E hF6) hG
  have hZ14 := yTz_C (zFC_E hF6) hZ
  have h9 := zLI_B (zFB_E hF6) hW hS
  refine zt_pop (pc' := 585) hX dL_law_584 rfl rfl ?_
  refine zt_aload_n (pc' := 586) hX dL_law_585 rfl rfl ?_
  refine zt_callV (pc' := 589) (k := 164) (As := []) (rest := []) (q := (RX12, TX12, 108)) hX (zc_X12_next _ _ s2 hI5 h9.1) zm_yX12_next dL_law_586 rfl zw_51_4 (by decide) zc_164 zs_46 rfl rfl rfl rfl (Nat.le_of_ble_eq_true rfl) (by decide) ⟨hrc, hrs⟩ (fun r15 s16 hr17 hp18 => ?_)
  obtain ⟨hI19, hF20, q21, q22⟩ := hp18
  have tc24 : s16 1 1 = s2 1 1 := congrFun (hF20.1.1 1 (by decide)) 1
  have tm25 : s16 164 1 = s2 164 1 := hF20.1.2.1
  have bz27 := (zv_46_1 hI5 zc_164).1
  have hY26 := yTi_N hF20.1.1 (by omega) hY12
  have hG28 := yFtq_M hF20.1 hG13
  have hZ29 := yTz_N hF20.1.1 hF20.2.1 hZ14
  have h23 := zLI_N (zGN_of hF20) h9.1 h9.2
  refine zt_pop (pc' := 590) hX dL_law_589 rfl rfl ?_
  refine zt_goto (tgt := 1066) hX dL_law_590 (by decide) ?_
  exact K s16 hI19 h23.1 h23.2 (by omega) hY26 hZ29 hG28
set_option maxHeartbeats 4000000 in
theorem zl_13 {X : zCX} {cs ss b L : Nat} {xs : Nat → Int32} {s0 : zSto} {x : Int} (hX : zok X cL_law RL zLd) (hs : va_X b L xs X.2.2.2.2.2.1 X.2.2.2.2.2.1.heap) (hbl : b < X.2.2.2.2.2.1.heap.size) (hE : X.1.1 = X.2.2.2.2.2.1.heap.size) (hL : L ≤ 3072) (h0 : 0 ≤ x) (h1 : x + 6 ≤ (L : Int)) (hrc : cs ≤ X.2.2.2.2.1.cells) (hrs : ss ≤ X.2.2.2.2.1.slots) (hI : zInv s0) (hW : zWF s0) (hS : s0 164 54 = 0) (hT : s0 1 1 = s0 164 1) (hY : yTi s0) (hZ : yTz s0) (hG : yFtq s0) (K : ∀ s : zSto, zInv s → zWF s → s 164 54 = 0 → s 1 1 = s 164 1 → yTi s → yTz s → yFtq s → zZ X zNC cs ss s 1066 [some (.ref b), some (.ref (X.1.1 + 0)), some (.ref (X.1.1 + 164)), some (.int (zI x))] []) : zZ X zNC cs ss s0 593 [some (.ref b), some (.ref (X.1.1 + 0)), some (.ref (X.1.1 + 164)), some (.int (zI x))] [] := by
  refine zt_aload_n (pc' := 594) hX dL_law_593 rfl rfl ?_
  refine zt_aload_n (pc' := 595) hX dL_law_594 rfl rfl ?_
  refine zt_iload_n (pc' := 596) hX dL_law_595 rfl rfl ?_
  refine zt_iconst (pc' := 597) hX dL_law_596 rfl ?_
  refine zt_iadd (pc' := 598) hX dL_law_597 rfl ?_
  refine zt_sld (pc' := 599) hX hs hbl hE dL_law_598 rfl hL (zlx h0 h1 (by decide) (by decide)) (fun v1 ev1 lv1 uv1 => ?_)
  refine zt_callV (pc' := 602) (k := 0) (As := [.int (zI v1)]) (rest := []) (q := (RX11, TX11, 17)) hX (zc_X11_lasts _ _ s0 hI v1 ⟨lv1, uv1⟩) zm_yX11_lasts dL_law_599 rfl zw_51_8 (by decide) zc_0 zs_1 rfl rfl rfl rfl (Nat.le_of_ble_eq_true rfl) (by decide) ⟨hrc, hrs⟩ (fun r2 s3 hr4 hp5 => ?_)
  obtain ⟨hI6, hF7, q8, q9⟩ := hp5
  have tm11 : s3 164 1 = s0 164 1 := congrFun (hF7.1.1 164 (by decide)) 1
  have tc12 : s3 1 1 = s0 1 1 := hF7.2
  have hY13 := yTi_B (zFB_E hF7) hY
  have hG14 := yFtq_C (zFC_E hF7) hG
  have hZ15 := yTz_C (zFC_E hF7) hZ
  have h10 := zLI_B (zFB_E hF7) hW hS
  refine zt_pop (pc' := 603) hX dL_law_602 rfl rfl ?_
  refine zt_aload_n (pc' := 604) hX dL_law_603 rfl rfl ?_
  refine zt_aload_n (pc' := 605) hX dL_law_604 rfl rfl ?_
  refine zt_iload_n (pc' := 606) hX dL_law_605 rfl rfl ?_
  refine zt_iconst (pc' := 607) hX dL_law_606 rfl ?_
  refine zt_iadd (pc' := 608) hX dL_law_607 rfl ?_
  refine zt_sld (pc' := 609) hX hs hbl hE dL_law_608 rfl hL (zlx h0 h1 (by decide) (by decide)) (fun v16 ev16 lv16 uv16 => ?_)
  refine zt_callV (pc' := 612) (k := 164) (As := [.int (zI v16)]) (rest := []) (q := (RX12, TX12, 108)) hX (zc_X12_lasts _ _ s3 hI6 v16 ⟨lv16, uv16⟩ (h10.2) h10.1) zm_yX12_lasts dL_law_609 rfl zw_51_16 (by decide) zc_164 zs_46 rfl rfl rfl rfl (Nat.le_of_ble_eq_true rfl) (by decide) ⟨hrc, hrs⟩ (fun r17 s18 hr19 hp20 => ?_)
  obtain ⟨hI21, hF22, q23, q24, z25⟩ := hp20
  have tc27 : s18 1 1 = s3 1 1 := congrFun (hF22.1.1 1 (by decide)) 1
  have tm28 : s18 164 1 = s3 164 1 := hF22.1.2.1
  have bz30 := (zv_46_1 hI6 zc_164).1
  have hY29 := yTi_N hF22.1.1 (by omega) hY13
  have hG31 := yFtq_M hF22.1 hG14
  have hZ32 := yTz_N hF22.1.1 hF22.2 hZ15
  have h26 := zLI_L hF22 h10.1 z25
  refine zt_pop (pc' := 613) hX dL_law_612 rfl rfl ?_
  refine zt_goto (tgt := 1066) hX dL_law_613 (by decide) ?_
  clear ev1 ev16
  exact K s18 hI21 h26.1 h26.2 (by omega) hY29 hZ32 hG31
set_option maxHeartbeats 4000000 in
theorem zl_14 {X : zCX} {cs ss b L : Nat} {xs : Nat → Int32} {s0 : zSto} {x : Int} (hX : zok X cL_law RL zLd) (hs : va_X b L xs X.2.2.2.2.2.1 X.2.2.2.2.2.1.heap) (hbl : b < X.2.2.2.2.2.1.heap.size) (hE : X.1.1 = X.2.2.2.2.2.1.heap.size) (hL : L ≤ 3072) (h0 : 0 ≤ x) (h1 : x + 6 ≤ (L : Int)) (hrc : cs ≤ X.2.2.2.2.1.cells) (hrs : ss ≤ X.2.2.2.2.1.slots) (hI : zInv s0) (hW : zWF s0) (hS : s0 164 54 = 0) (hT : s0 1 1 = s0 164 1) (hY : yTi s0) (hZ : yTz s0) (hG : yFtq s0) (K : ∀ s : zSto, zInv s → zWF s → s 164 54 = 0 → s 1 1 = s 164 1 → yTi s → yTz s → yFtq s → zZ X zNC cs ss s 1066 [some (.ref b), some (.ref (X.1.1 + 0)), some (.ref (X.1.1 + 164)), some (.int (zI x))] []) : zZ X zNC cs ss s0 616 [some (.ref b), some (.ref (X.1.1 + 0)), some (.ref (X.1.1 + 164)), some (.int (zI x))] [] := by
  refine zt_aload_n (pc' := 617) hX dL_law_616 rfl rfl ?_
  refine zt_callV (pc' := 620) (k := 0) (As := []) (rest := []) (q := (RX11, TX11, 17)) hX (zc_X11_free _ _ s0 hI) zm_yX11_free dL_law_617 rfl zw_52_0 (by decide) zc_0 zs_1 rfl rfl rfl rfl (Nat.le_of_ble_eq_true rfl) (by decide) ⟨hrc, hrs⟩ (fun r1 s2 hr3 hp4 => ?_)
  obtain ⟨hI5, hF6, q7, q8⟩ := hp4
  have tm10 : s2 164 1 = s0 164 1 := congrFun (hF6.1.1 164 (by decide)) 1
  have tc11 : s2 1 1 = s0 1 1 := hF6.2
  have hY12 := yTi_B (zFB_E hF6) hY
  have hG13 := yFtq_C (zFC_E hF6) hG
  have hZ14 := yTz_C (zFC_E hF6) hZ
  have h9 := zLI_B (zFB_E hF6) hW hS
  refine zt_pop (pc' := 621) hX dL_law_620 rfl rfl ?_
  refine zt_aload_n (pc' := 622) hX dL_law_621 rfl rfl ?_
  refine zt_callV (pc' := 625) (k := 164) (As := []) (rest := []) (q := (RX12, TX12, 108)) hX (zc_X12_free _ _ s2 hI5 h9.1) zm_yX12_free dL_law_622 rfl zw_52_12 (by decide) zc_164 zs_46 rfl rfl rfl rfl (Nat.le_of_ble_eq_true rfl) (by decide) ⟨hrc, hrs⟩ (fun r15 s16 hr17 hp18 => ?_)
  obtain ⟨hI19, hF20, q21, q22⟩ := hp18
  have tc24 : s16 1 1 = s2 1 1 := congrFun (hF20.1.1 1 (by decide)) 1
  have tm25 : s16 164 1 = s2 164 1 := hF20.1.2.1
  have bz27 := (zv_46_1 hI5 zc_164).1
  have hY26 := yTi_N hF20.1.1 (by omega) hY12
  have hG28 := yFtq_M hF20.1 hG13
  have hZ29 := yTz_N hF20.1.1 hF20.2.1 hZ14
  have h23 := zLI_N (zGN_of hF20) h9.1 h9.2
  refine zt_pop (pc' := 626) hX dL_law_625 rfl rfl ?_
  refine zt_goto (tgt := 1066) hX dL_law_626 (by decide) ?_
  exact K s16 hI19 h23.1 h23.2 (by omega) hY26 hZ29 hG28
set_option maxHeartbeats 4000000 in
theorem zl_15 {X : zCX} {cs ss b L : Nat} {xs : Nat → Int32} {s0 : zSto} {x : Int} (hX : zok X cL_law RL zLd) (hs : va_X b L xs X.2.2.2.2.2.1 X.2.2.2.2.2.1.heap) (hbl : b < X.2.2.2.2.2.1.heap.size) (hE : X.1.1 = X.2.2.2.2.2.1.heap.size) (hL : L ≤ 3072) (h0 : 0 ≤ x) (h1 : x + 6 ≤ (L : Int)) (hrc : cs ≤ X.2.2.2.2.1.cells) (hrs : ss ≤ X.2.2.2.2.1.slots) (hI : zInv s0) (hW : zWF s0) (hS : s0 164 54 = 0) (hT : s0 1 1 = s0 164 1) (hY : yTi s0) (hZ : yTz s0) (hG : yFtq s0) (K : ∀ s : zSto, zInv s → zWF s → s 164 54 = 0 → s 1 1 = s 164 1 → yTi s → yTz s → yFtq s → zZ X zNC cs ss s 1066 [some (.ref b), some (.ref (X.1.1 + 0)), some (.ref (X.1.1 + 164)), some (.int (zI x))] []) : zZ X zNC cs ss s0 629 [some (.ref b), some (.ref (X.1.1 + 0)), some (.ref (X.1.1 + 164)), some (.int (zI x))] [] := by
  refine zt_aload_n (pc' := 630) hX dL_law_629 rfl rfl ?_
  refine zt_callV (pc' := 633) (k := 0) (As := []) (rest := []) (q := (RX11, TX11, 17)) hX (zc_X11_needed _ _ s0 hI) zm_yX11_needed dL_law_630 rfl zw_52_20 (by decide) zc_0 zs_1 rfl rfl rfl rfl (Nat.le_of_ble_eq_true rfl) (by decide) ⟨hrc, hrs⟩ (fun r1 s2 hr3 hp4 => ?_)
  obtain ⟨hI5, hF6, q7, q8⟩ := hp4
  have tm10 : s2 164 1 = s0 164 1 := congrFun (hF6.1.1 164 (by decide)) 1
  have tc11 : s2 1 1 = s0 1 1 := hF6.2
  have hY12 := yTi_B (zFB_E hF6) hY
  have hG13 := yFtq_C (zFC_E hF6) hG
  have hZ14 := yTz_C (zFC_E hF6) hZ
  have h9 := zLI_B (zFB_E hF6) hW hS
  refine zt_pop (pc' := 634) hX dL_law_633 rfl rfl ?_
  refine zt_aload_n (pc' := 635) hX dL_law_634 rfl rfl ?_
  refine zt_callV (pc' := 638) (k := 164) (As := []) (rest := []) (q := (RX12, TX12, 108)) hX (zc_X12_needed _ _ s2 hI5 h9.1) zm_yX12_needed dL_law_635 rfl zw_53_23 (by decide) zc_164 zs_46 rfl rfl rfl rfl (Nat.le_of_ble_eq_true rfl) (by decide) ⟨hrc, hrs⟩ (fun r15 s16 hr17 hp18 => ?_)
  obtain ⟨hI19, hF20, q21, q22⟩ := hp18
  have tc24 : s16 1 1 = s2 1 1 := congrFun (hF20.1.1 1 (by decide)) 1
  have tm25 : s16 164 1 = s2 164 1 := hF20.1.2.1
  have bz27 := (zv_46_1 hI5 zc_164).1
  have hY26 := yTi_N hF20.1.1 (by omega) hY12
  have hG28 := yFtq_M hF20.1 hG13
  have hZ29 := yTz_N hF20.1.1 hF20.2.1 hZ14
  have h23 := zLI_N (zGN_of hF20) h9.1 h9.2
  refine zt_pop (pc' := 639) hX dL_law_638 rfl rfl ?_
  refine zt_goto (tgt := 1066) hX dL_law_639 (by decide) ?_
  exact K s16 hI19 h23.1 h23.2 (by omega) hY26 hZ29 hG28
set_option maxHeartbeats 4000000 in
theorem zl_16 {X : zCX} {cs ss b L : Nat} {xs : Nat → Int32} {s0 : zSto} {x : Int} (hX : zok X cL_law RL zLd) (hs : va_X b L xs X.2.2.2.2.2.1 X.2.2.2.2.2.1.heap) (hbl : b < X.2.2.2.2.2.1.heap.size) (hE : X.1.1 = X.2.2.2.2.2.1.heap.size) (hL : L ≤ 3072) (h0 : 0 ≤ x) (h1 : x + 6 ≤ (L : Int)) (hrc : cs ≤ X.2.2.2.2.1.cells) (hrs : ss ≤ X.2.2.2.2.1.slots) (hI : zInv s0) (hW : zWF s0) (hS : s0 164 54 = 0) (hT : s0 1 1 = s0 164 1) (hY : yTi s0) (hZ : yTz s0) (hG : yFtq s0) (K : ∀ s : zSto, zInv s → zWF s → s 164 54 = 0 → s 1 1 = s 164 1 → yTi s → yTz s → yFtq s → zZ X zNC cs ss s 1066 [some (.ref b), some (.ref (X.1.1 + 0)), some (.ref (X.1.1 + 164)), some (.int (zI x))] []) : zZ X zNC cs ss s0 642 [some (.ref b), some (.ref (X.1.1 + 0)), some (.ref (X.1.1 + 164)), some (.int (zI x))] [] := by
  refine zt_aload_n (pc' := 643) hX dL_law_642 rfl rfl ?_
  refine zt_aload_n (pc' := 644) hX dL_law_643 rfl rfl ?_
  refine zt_iload_n (pc' := 645) hX dL_law_644 rfl rfl ?_
  refine zt_iconst (pc' := 646) hX dL_law_645 rfl ?_
  refine zt_iadd (pc' := 647) hX dL_law_646 rfl ?_
  refine zt_sld (pc' := 648) hX hs hbl hE dL_law_647 rfl hL (zlx h0 h1 (by decide) (by decide)) (fun v1 ev1 lv1 uv1 => ?_)
  refine zt_aload_n (pc' := 649) hX dL_law_648 rfl rfl ?_
  refine zt_iload_n (pc' := 650) hX dL_law_649 rfl rfl ?_
  refine zt_iconst (pc' := 651) hX dL_law_650 rfl ?_
  refine zt_iadd (pc' := 652) hX dL_law_651 rfl ?_
  refine zt_sld (pc' := 653) hX hs hbl hE dL_law_652 rfl hL (zlx h0 h1 (by decide) (by decide)) (fun v2 ev2 lv2 uv2 => ?_)
  refine zt_callV (pc' := 656) (k := 0) (As := [.int (zI v1), .int (zI v2)]) (rest := []) (q := (RX11, TX11, 17)) hX (zc_X11_stand _ _ s0 hI v1 ⟨lv1, uv1⟩ v2 ⟨lv2, uv2⟩) zm_yX11_stand dL_law_653 rfl zw_54_3 (by decide) zc_0 zs_1 rfl rfl rfl rfl (Nat.le_of_ble_eq_true rfl) (by decide) ⟨hrc, hrs⟩ (fun r3 s4 hr5 hp6 => ?_)
  obtain ⟨hI7, hF8, q9, q10⟩ := hp6
  have tm12 : s4 164 1 = s0 164 1 := congrFun (hF8.1.1 164 (by decide)) 1
  have tc13 : s4 1 1 = s0 1 1 := hF8.2
  have hY14 := yTi_B (zFB_E hF8) hY
  have hG15 := yFtq_C (zFC_E hF8) hG
  have hZ16 := yTz_C (zFC_E hF8) hZ
  have h11 := zLI_B (zFB_E hF8) hW hS
  refine zt_pop (pc' := 657) hX dL_law_656 rfl rfl ?_
  refine zt_aload_n (pc' := 658) hX dL_law_657 rfl rfl ?_
  refine zt_aload_n (pc' := 659) hX dL_law_658 rfl rfl ?_
  refine zt_iload_n (pc' := 660) hX dL_law_659 rfl rfl ?_
  refine zt_iconst (pc' := 661) hX dL_law_660 rfl ?_
  refine zt_iadd (pc' := 662) hX dL_law_661 rfl ?_
  refine zt_sld (pc' := 663) hX hs hbl hE dL_law_662 rfl hL (zlx h0 h1 (by decide) (by decide)) (fun v17 ev17 lv17 uv17 => ?_)
  refine zt_aload_n (pc' := 664) hX dL_law_663 rfl rfl ?_
  refine zt_iload_n (pc' := 665) hX dL_law_664 rfl rfl ?_
  refine zt_iconst (pc' := 666) hX dL_law_665 rfl ?_
  refine zt_iadd (pc' := 667) hX dL_law_666 rfl ?_
  refine zt_sld (pc' := 668) hX hs hbl hE dL_law_667 rfl hL (zlx h0 h1 (by decide) (by decide)) (fun v18 ev18 lv18 uv18 => ?_)
  refine zt_callV (pc' := 671) (k := 164) (As := [.int (zI v17), .int (zI v18)]) (rest := []) (q := (RX12, TX12, 108)) hX (zc_X12_stand _ _ s4 hI7 v17 ⟨lv17, uv17⟩ v18 ⟨lv18, uv18⟩ h11.1) zm_yX12_stand dL_law_668 rfl zw_55_0 (by decide) zc_164 zs_46 rfl rfl rfl rfl (Nat.le_of_ble_eq_true rfl) (by decide) ⟨hrc, hrs⟩ (fun r19 s20 hr21 hp22 => ?_)
  obtain ⟨hI23, hF24, q25, q26⟩ := hp22
  have tc28 : s20 1 1 = s4 1 1 := congrFun (hF24.1.1 1 (by decide)) 1
  have tm29 : s20 164 1 = s4 164 1 := hF24.1.2.1
  have bz31 := (zv_46_1 hI7 zc_164).1
  have hY30 := yTi_N hF24.1.1 (by omega) hY14
  have hG32 := yFtq_M hF24.1 hG15
  have hZ33 := yTz_N hF24.1.1 hF24.2.1 hZ16
  have h27 := zLI_N (zGN_of hF24) h11.1 h11.2
  refine zt_pop (pc' := 672) hX dL_law_671 rfl rfl ?_
  refine zt_goto (tgt := 1066) hX dL_law_672 (by decide) ?_
  clear ev1 ev2 ev17 ev18
  exact K s20 hI23 h27.1 h27.2 (by omega) hY30 hZ33 hG32
set_option maxHeartbeats 4000000 in
theorem zl_17 {X : zCX} {cs ss b L : Nat} {xs : Nat → Int32} {s0 : zSto} {x : Int} (hX : zok X cL_law RL zLd) (hs : va_X b L xs X.2.2.2.2.2.1 X.2.2.2.2.2.1.heap) (hbl : b < X.2.2.2.2.2.1.heap.size) (hE : X.1.1 = X.2.2.2.2.2.1.heap.size) (hL : L ≤ 3072) (h0 : 0 ≤ x) (h1 : x + 6 ≤ (L : Int)) (hrc : cs ≤ X.2.2.2.2.1.cells) (hrs : ss ≤ X.2.2.2.2.1.slots) (hI : zInv s0) (hW : zWF s0) (hS : s0 164 54 = 0) (hT : s0 1 1 = s0 164 1) (hY : yTi s0) (hZ : yTz s0) (hG : yFtq s0) (K : ∀ s : zSto, zInv s → zWF s → s 164 54 = 0 → s 1 1 = s 164 1 → yTi s → yTz s → yFtq s → zZ X zNC cs ss s 1066 [some (.ref b), some (.ref (X.1.1 + 0)), some (.ref (X.1.1 + 164)), some (.int (zI x))] []) : zZ X zNC cs ss s0 675 [some (.ref b), some (.ref (X.1.1 + 0)), some (.ref (X.1.1 + 164)), some (.int (zI x))] [] := by
  refine zt_aload_n (pc' := 676) hX dL_law_675 rfl rfl ?_
  refine zt_aload_n (pc' := 677) hX dL_law_676 rfl rfl ?_
  refine zt_iload_n (pc' := 678) hX dL_law_677 rfl rfl ?_
  refine zt_iconst (pc' := 679) hX dL_law_678 rfl ?_
  refine zt_iadd (pc' := 680) hX dL_law_679 rfl ?_
  refine zt_sld (pc' := 681) hX hs hbl hE dL_law_680 rfl hL (zlx h0 h1 (by decide) (by decide)) (fun v1 ev1 lv1 uv1 => ?_)
  refine zt_callV (pc' := 684) (k := 0) (As := [.int (zI v1)]) (rest := []) (q := (RX11, TX11, 17)) hX (zc_X11_weak _ _ s0 hI v1 ⟨lv1, uv1⟩) zm_yX11_weak dL_law_681 rfl zw_55_10 (by decide) zc_0 zs_1 rfl rfl rfl rfl (Nat.le_of_ble_eq_true rfl) (by decide) ⟨hrc, hrs⟩ (fun r2 s3 hr4 hp5 => ?_)
  obtain ⟨hI6, hF7, q8, q9⟩ := hp5
  have tm11 : s3 164 1 = s0 164 1 := congrFun (hF7.1.1 164 (by decide)) 1
  have tc12 : s3 1 1 = s0 1 1 := hF7.2
  have hY13 := yTi_B (zFB_E hF7) hY
  have hG14 := yFtq_C (zFC_E hF7) hG
  have hZ15 := yTz_C (zFC_E hF7) hZ
  have h10 := zLI_B (zFB_E hF7) hW hS
  refine zt_pop (pc' := 685) hX dL_law_684 rfl rfl ?_
  refine zt_aload_n (pc' := 686) hX dL_law_685 rfl rfl ?_
  refine zt_aload_n (pc' := 687) hX dL_law_686 rfl rfl ?_
  refine zt_iload_n (pc' := 688) hX dL_law_687 rfl rfl ?_
  refine zt_iconst (pc' := 689) hX dL_law_688 rfl ?_
  refine zt_iadd (pc' := 690) hX dL_law_689 rfl ?_
  refine zt_sld (pc' := 691) hX hs hbl hE dL_law_690 rfl hL (zlx h0 h1 (by decide) (by decide)) (fun v16 ev16 lv16 uv16 => ?_)
  refine zt_callV (pc' := 694) (k := 164) (As := [.int (zI v16)]) (rest := []) (q := (RX12, TX12, 108)) hX (zc_X12_weak _ _ s3 hI6 v16 ⟨lv16, uv16⟩ h10.1) zm_yX12_weak dL_law_691 rfl zw_55_18 (by decide) zc_164 zs_46 rfl rfl rfl rfl (Nat.le_of_ble_eq_true rfl) (by decide) ⟨hrc, hrs⟩ (fun r17 s18 hr19 hp20 => ?_)
  obtain ⟨hI21, hF22, q23, q24⟩ := hp20
  have tc26 : s18 1 1 = s3 1 1 := congrFun (hF22.1.1 1 (by decide)) 1
  have tm27 : s18 164 1 = s3 164 1 := hF22.1.2.1
  have bz29 := (zv_46_1 hI6 zc_164).1
  have hY28 := yTi_N hF22.1.1 (by omega) hY13
  have hG30 := yFtq_M hF22.1 hG14
  have hZ31 := yTz_N hF22.1.1 hF22.2.1 hZ15
  have h25 := zLI_N (zGN_of hF22) h10.1 h10.2
  refine zt_pop (pc' := 695) hX dL_law_694 rfl rfl ?_
  refine zt_goto (tgt := 1066) hX dL_law_695 (by decide) ?_
  clear ev1 ev16
  exact K s18 hI21 h25.1 h25.2 (by omega) hY28 hZ31 hG30
set_option maxHeartbeats 4000000 in
theorem zl_18 {X : zCX} {cs ss b L : Nat} {xs : Nat → Int32} {s0 : zSto} {x : Int} (hX : zok X cL_law RL zLd) (hs : va_X b L xs X.2.2.2.2.2.1 X.2.2.2.2.2.1.heap) (hbl : b < X.2.2.2.2.2.1.heap.size) (hE : X.1.1 = X.2.2.2.2.2.1.heap.size) (hL : L ≤ 3072) (h0 : 0 ≤ x) (h1 : x + 6 ≤ (L : Int)) (hrc : cs ≤ X.2.2.2.2.1.cells) (hrs : ss ≤ X.2.2.2.2.1.slots) (hI : zInv s0) (hW : zWF s0) (hS : s0 164 54 = 0) (hT : s0 1 1 = s0 164 1) (hY : yTi s0) (hZ : yTz s0) (hG : yFtq s0) (K : ∀ s : zSto, zInv s → zWF s → s 164 54 = 0 → s 1 1 = s 164 1 → yTi s → yTz s → yFtq s → zZ X zNC cs ss s 1066 [some (.ref b), some (.ref (X.1.1 + 0)), some (.ref (X.1.1 + 164)), some (.int (zI x))] []) : zZ X zNC cs ss s0 698 [some (.ref b), some (.ref (X.1.1 + 0)), some (.ref (X.1.1 + 164)), some (.int (zI x))] [] := by
  refine zt_aload_n (pc' := 699) hX dL_law_698 rfl rfl ?_
  refine zt_aload_n (pc' := 700) hX dL_law_699 rfl rfl ?_
  refine zt_iload_n (pc' := 701) hX dL_law_700 rfl rfl ?_
  refine zt_iconst (pc' := 702) hX dL_law_701 rfl ?_
  refine zt_iadd (pc' := 703) hX dL_law_702 rfl ?_
  refine zt_sld (pc' := 704) hX hs hbl hE dL_law_703 rfl hL (zlx h0 h1 (by decide) (by decide)) (fun v1 ev1 lv1 uv1 => ?_)
  refine zt_aload_n (pc' := 705) hX dL_law_704 rfl rfl ?_
  refine zt_iload_n (pc' := 706) hX dL_law_705 rfl rfl ?_
  refine zt_iconst (pc' := 707) hX dL_law_706 rfl ?_
  refine zt_iadd (pc' := 708) hX dL_law_707 rfl ?_
  refine zt_sld (pc' := 709) hX hs hbl hE dL_law_708 rfl hL (zlx h0 h1 (by decide) (by decide)) (fun v2 ev2 lv2 uv2 => ?_)
  refine zt_callV (pc' := 712) (k := 0) (As := [.int (zI v1), .int (zI v2)]) (rest := []) (q := (RX11, TX11, 17)) hX (zc_X11_mends _ _ s0 hI v1 ⟨lv1, uv1⟩ v2 ⟨lv2, uv2⟩) zm_yX11_mends dL_law_709 rfl zw_55_22 (by decide) zc_0 zs_1 rfl rfl rfl rfl (Nat.le_of_ble_eq_true rfl) (by decide) ⟨hrc, hrs⟩ (fun r3 s4 hr5 hp6 => ?_)
  obtain ⟨hI7, hF8, q9, q10⟩ := hp6
  have tm12 : s4 164 1 = s0 164 1 := congrFun (hF8.1.1 164 (by decide)) 1
  have tc13 : s4 1 1 = s0 1 1 := hF8.2
  have hY14 := yTi_B (zFB_E hF8) hY
  have hG15 := yFtq_C (zFC_E hF8) hG
  have hZ16 := yTz_C (zFC_E hF8) hZ
  have h11 := zLI_B (zFB_E hF8) hW hS
  refine zt_pop (pc' := 713) hX dL_law_712 rfl rfl ?_
  refine zt_aload_n (pc' := 714) hX dL_law_713 rfl rfl ?_
  refine zt_aload_n (pc' := 715) hX dL_law_714 rfl rfl ?_
  refine zt_iload_n (pc' := 716) hX dL_law_715 rfl rfl ?_
  refine zt_iconst (pc' := 717) hX dL_law_716 rfl ?_
  refine zt_iadd (pc' := 718) hX dL_law_717 rfl ?_
  refine zt_sld (pc' := 719) hX hs hbl hE dL_law_718 rfl hL (zlx h0 h1 (by decide) (by decide)) (fun v17 ev17 lv17 uv17 => ?_)
  refine zt_aload_n (pc' := 720) hX dL_law_719 rfl rfl ?_
  refine zt_iload_n (pc' := 721) hX dL_law_720 rfl rfl ?_
  refine zt_iconst (pc' := 722) hX dL_law_721 rfl ?_
  refine zt_iadd (pc' := 723) hX dL_law_722 rfl ?_
  refine zt_sld (pc' := 724) hX hs hbl hE dL_law_723 rfl hL (zlx h0 h1 (by decide) (by decide)) (fun v18 ev18 lv18 uv18 => ?_)
  refine zt_callV (pc' := 727) (k := 164) (As := [.int (zI v17), .int (zI v18)]) (rest := []) (q := (RX12, TX12, 108)) hX (zc_X12_mends _ _ s4 hI7 v17 ⟨lv17, uv17⟩ v18 ⟨lv18, uv18⟩ h11.1) zm_yX12_mends dL_law_724 rfl zw_56_9 (by decide) zc_164 zs_46 rfl rfl rfl rfl (Nat.le_of_ble_eq_true rfl) (by decide) ⟨hrc, hrs⟩ (fun r19 s20 hr21 hp22 => ?_)
  obtain ⟨hI23, hF24, q25, q26⟩ := hp22
  have tc28 : s20 1 1 = s4 1 1 := congrFun (hF24.1.1 1 (by decide)) 1
  have tm29 : s20 164 1 = s4 164 1 := hF24.1.2.1
  have bz31 := (zv_46_1 hI7 zc_164).1
  have hY30 := yTi_N hF24.1.1 (by omega) hY14
  have hG32 := yFtq_M hF24.1 hG15
  have hZ33 := yTz_N hF24.1.1 hF24.2.1 hZ16
  have h27 := zLI_N (zGN_of hF24) h11.1 h11.2
  refine zt_pop (pc' := 728) hX dL_law_727 rfl rfl ?_
  refine zt_goto (tgt := 1066) hX dL_law_728 (by decide) ?_
  clear ev1 ev2 ev17 ev18
  exact K s20 hI23 h27.1 h27.2 (by omega) hY30 hZ33 hG32
set_option maxHeartbeats 4000000 in
theorem zl_19 {X : zCX} {cs ss b L : Nat} {xs : Nat → Int32} {s0 : zSto} {x : Int} (hX : zok X cL_law RL zLd) (hs : va_X b L xs X.2.2.2.2.2.1 X.2.2.2.2.2.1.heap) (hbl : b < X.2.2.2.2.2.1.heap.size) (hE : X.1.1 = X.2.2.2.2.2.1.heap.size) (hL : L ≤ 3072) (h0 : 0 ≤ x) (h1 : x + 6 ≤ (L : Int)) (hrc : cs ≤ X.2.2.2.2.1.cells) (hrs : ss ≤ X.2.2.2.2.1.slots) (hI : zInv s0) (hW : zWF s0) (hS : s0 164 54 = 0) (hT : s0 1 1 = s0 164 1) (hY : yTi s0) (hZ : yTz s0) (hG : yFtq s0) (K : ∀ s : zSto, zInv s → zWF s → s 164 54 = 0 → s 1 1 = s 164 1 → yTi s → yTz s → yFtq s → zZ X zNC cs ss s 1066 [some (.ref b), some (.ref (X.1.1 + 0)), some (.ref (X.1.1 + 164)), some (.int (zI x))] []) : zZ X zNC cs ss s0 731 [some (.ref b), some (.ref (X.1.1 + 0)), some (.ref (X.1.1 + 164)), some (.int (zI x))] [] := by
  refine zt_aload_n (pc' := 732) hX dL_law_731 rfl rfl ?_
  refine zt_callV (pc' := 735) (k := 0) (As := []) (rest := []) (q := (RX11, TX11, 17)) hX (zc_X11_sound _ _ s0 hI) zm_yX11_sound dL_law_732 rfl zw_56_13 (by decide) zc_0 zs_1 rfl rfl rfl rfl (Nat.le_of_ble_eq_true rfl) (by decide) ⟨hrc, hrs⟩ (fun r1 s2 hr3 hp4 => ?_)
  obtain ⟨hI5, hF6, q7, q8, z9⟩ := hp4
  have tm11 : s2 164 1 = s0 164 1 := congrFun (hF6.1 164 (by decide)) 1
  have hY12 := yTi_B (zFB_D hF6) hY
  have hG13 := yFtq_C (zFC_of hF6) hG
  have hZ14 := yTz_C (zFC_of hF6) hZ
  have h10 := zLI_B (zFB_D hF6) hW hS
  refine zt_pop (pc' := 736) hX dL_law_735 rfl rfl ?_
  refine zt_aload_n (pc' := 737) hX dL_law_736 rfl rfl ?_
  refine zt_callV (pc' := 740) (k := 164) (As := []) (rest := []) (q := (RX12, TX12, 108)) hX (zc_X12_sound _ _ s2 hI5) zm_yX12_sound dL_law_737 rfl zw_57_6 (by decide) zc_164 zs_46 rfl rfl rfl rfl (Nat.le_of_ble_eq_true rfl) (by decide) ⟨hrc, hrs⟩ (fun r15 s16 hr17 hp18 => ?_)
  obtain ⟨hI19, hF20, q21, q22, z23, z24, z25⟩ := hp18
  have tc27 : s16 1 1 = s2 1 1 := congrFun (hF20.1 1 (by decide)) 1
  have bz29 := (zv_46_1 hI5 zc_164).1
  have hY28 := yTi_N hF20.1 (by omega) hY12
  have hG30 := yFtq_N hF20.1 z24 z25 hG13
  have hZ31 := yTz_N hF20.1 hF20.2.1 hZ14
  have h26 := zLI_N hF20 h10.1 h10.2
  refine zt_pop (pc' := 741) hX dL_law_740 rfl rfl ?_
  refine zt_goto (tgt := 1066) hX dL_law_741 (by decide) ?_
  exact K s16 hI19 h26.1 h26.2 (by omega) hY28 hZ31 hG30
set_option maxHeartbeats 4000000 in
theorem zl_20 {X : zCX} {cs ss b L : Nat} {xs : Nat → Int32} {s0 : zSto} {x : Int} (hX : zok X cL_law RL zLd) (hs : va_X b L xs X.2.2.2.2.2.1 X.2.2.2.2.2.1.heap) (hbl : b < X.2.2.2.2.2.1.heap.size) (hE : X.1.1 = X.2.2.2.2.2.1.heap.size) (hL : L ≤ 3072) (h0 : 0 ≤ x) (h1 : x + 6 ≤ (L : Int)) (hrc : cs ≤ X.2.2.2.2.1.cells) (hrs : ss ≤ X.2.2.2.2.1.slots) (hI : zInv s0) (hW : zWF s0) (hS : s0 164 54 = 0) (hT : s0 1 1 = s0 164 1) (hY : yTi s0) (hZ : yTz s0) (hG : yFtq s0) (K : ∀ s : zSto, zInv s → zWF s → s 164 54 = 0 → s 1 1 = s 164 1 → yTi s → yTz s → yFtq s → zZ X zNC cs ss s 1066 [some (.ref b), some (.ref (X.1.1 + 0)), some (.ref (X.1.1 + 164)), some (.int (zI x))] []) : zZ X zNC cs ss s0 744 [some (.ref b), some (.ref (X.1.1 + 0)), some (.ref (X.1.1 + 164)), some (.int (zI x))] [] := by
  refine zt_aload_n (pc' := 745) hX dL_law_744 rfl rfl ?_
  refine zt_aload_n (pc' := 746) hX dL_law_745 rfl rfl ?_
  refine zt_iload_n (pc' := 747) hX dL_law_746 rfl rfl ?_
  refine zt_iconst (pc' := 748) hX dL_law_747 rfl ?_
  refine zt_iadd (pc' := 749) hX dL_law_748 rfl ?_
  refine zt_sld (pc' := 750) hX hs hbl hE dL_law_749 rfl hL (zlx h0 h1 (by decide) (by decide)) (fun v1 ev1 lv1 uv1 => ?_)
  refine zt_callV (pc' := 753) (k := 0) (As := [.int (zI v1)]) (rest := []) (q := (RX11, TX11, 17)) hX (zc_X11_who _ _ s0 hI v1 ⟨lv1, uv1⟩) zm_yX11_who dL_law_750 rfl zw_57_14 (by decide) zc_0 zs_1 rfl rfl rfl rfl (Nat.le_of_ble_eq_true rfl) (by decide) ⟨hrc, hrs⟩ (fun r2 s3 hr4 hp5 => ?_)
  obtain ⟨hI6, hF7, q8, q9⟩ := hp5
  have tm11 : s3 164 1 = s0 164 1 := congrFun (hF7.1.1 164 (by decide)) 1
  have tc12 : s3 1 1 = s0 1 1 := hF7.2
  have hY13 := yTi_B (zFB_E hF7) hY
  have hG14 := yFtq_C (zFC_E hF7) hG
  have hZ15 := yTz_C (zFC_E hF7) hZ
  have h10 := zLI_B (zFB_E hF7) hW hS
  refine zt_pop (pc' := 754) hX dL_law_753 rfl rfl ?_
  refine zt_aload_n (pc' := 755) hX dL_law_754 rfl rfl ?_
  refine zt_aload_n (pc' := 756) hX dL_law_755 rfl rfl ?_
  refine zt_iload_n (pc' := 757) hX dL_law_756 rfl rfl ?_
  refine zt_iconst (pc' := 758) hX dL_law_757 rfl ?_
  refine zt_iadd (pc' := 759) hX dL_law_758 rfl ?_
  refine zt_sld (pc' := 760) hX hs hbl hE dL_law_759 rfl hL (zlx h0 h1 (by decide) (by decide)) (fun v16 ev16 lv16 uv16 => ?_)
  refine zt_callV (pc' := 763) (k := 164) (As := [.int (zI v16)]) (rest := []) (q := (RX12, TX12, 108)) hX (zc_X12_who _ _ s3 hI6 v16 ⟨lv16, uv16⟩ h10.1) zm_yX12_who dL_law_760 rfl zw_58_10 (by decide) zc_164 zs_46 rfl rfl rfl rfl (Nat.le_of_ble_eq_true rfl) (by decide) ⟨hrc, hrs⟩ (fun r17 s18 hr19 hp20 => ?_)
  obtain ⟨hI21, hF22, q23, q24⟩ := hp20
  have tc26 : s18 1 1 = s3 1 1 := congrFun (hF22.1.1 1 (by decide)) 1
  have tm27 : s18 164 1 = s3 164 1 := hF22.1.2.1
  have bz29 := (zv_46_1 hI6 zc_164).1
  have hY28 := yTi_N hF22.1.1 (by omega) hY13
  have hG30 := yFtq_M hF22.1 hG14
  have hZ31 := yTz_N hF22.1.1 hF22.2.1 hZ15
  have h25 := zLI_N (zGN_of hF22) h10.1 h10.2
  refine zt_pop (pc' := 764) hX dL_law_763 rfl rfl ?_
  refine zt_goto (tgt := 1066) hX dL_law_764 (by decide) ?_
  clear ev1 ev16
  exact K s18 hI21 h25.1 h25.2 (by omega) hY28 hZ31 hG30
set_option maxHeartbeats 4000000 in
theorem zl_21 {X : zCX} {cs ss b L : Nat} {xs : Nat → Int32} {s0 : zSto} {x : Int} (hX : zok X cL_law RL zLd) (hs : va_X b L xs X.2.2.2.2.2.1 X.2.2.2.2.2.1.heap) (hbl : b < X.2.2.2.2.2.1.heap.size) (hE : X.1.1 = X.2.2.2.2.2.1.heap.size) (hL : L ≤ 3072) (h0 : 0 ≤ x) (h1 : x + 6 ≤ (L : Int)) (hrc : cs ≤ X.2.2.2.2.1.cells) (hrs : ss ≤ X.2.2.2.2.1.slots) (hI : zInv s0) (hW : zWF s0) (hS : s0 164 54 = 0) (hT : s0 1 1 = s0 164 1) (hY : yTi s0) (hZ : yTz s0) (hG : yFtq s0) (K : ∀ s : zSto, zInv s → zWF s → s 164 54 = 0 → s 1 1 = s 164 1 → yTi s → yTz s → yFtq s → zZ X zNC cs ss s 1066 [some (.ref b), some (.ref (X.1.1 + 0)), some (.ref (X.1.1 + 164)), some (.int (zI x))] []) : zZ X zNC cs ss s0 767 [some (.ref b), some (.ref (X.1.1 + 0)), some (.ref (X.1.1 + 164)), some (.int (zI x))] [] := by
  refine zt_aload_n (pc' := 768) hX dL_law_767 rfl rfl ?_
  refine zt_aload_n (pc' := 769) hX dL_law_768 rfl rfl ?_
  refine zt_iload_n (pc' := 770) hX dL_law_769 rfl rfl ?_
  refine zt_iconst (pc' := 771) hX dL_law_770 rfl ?_
  refine zt_iadd (pc' := 772) hX dL_law_771 rfl ?_
  refine zt_sld (pc' := 773) hX hs hbl hE dL_law_772 rfl hL (zlx h0 h1 (by decide) (by decide)) (fun v1 ev1 lv1 uv1 => ?_)
  refine zt_callV (pc' := 776) (k := 0) (As := [.int (zI v1)]) (rest := []) (q := (RX11, TX11, 17)) hX (zc_X11_knock _ _ s0 hI v1 ⟨lv1, uv1⟩) zm_yX11_knock dL_law_773 rfl zw_58_23 (by decide) zc_0 zs_1 rfl rfl rfl rfl (Nat.le_of_ble_eq_true rfl) (by decide) ⟨hrc, hrs⟩ (fun r2 s3 hr4 hp5 => ?_)
  obtain ⟨hI6, hF7, q8, q9⟩ := hp5
  have tm11 : s3 164 1 = s0 164 1 := congrFun (hF7.1.1 164 (by decide)) 1
  have tc12 : s3 1 1 = s0 1 1 := hF7.2
  have hY13 := yTi_B (zFB_E hF7) hY
  have hG14 := yFtq_C (zFC_E hF7) hG
  have hZ15 := yTz_C (zFC_E hF7) hZ
  have h10 := zLI_B (zFB_E hF7) hW hS
  refine zt_pop (pc' := 777) hX dL_law_776 rfl rfl ?_
  refine zt_aload_n (pc' := 778) hX dL_law_777 rfl rfl ?_
  refine zt_aload_n (pc' := 779) hX dL_law_778 rfl rfl ?_
  refine zt_iload_n (pc' := 780) hX dL_law_779 rfl rfl ?_
  refine zt_iconst (pc' := 781) hX dL_law_780 rfl ?_
  refine zt_iadd (pc' := 782) hX dL_law_781 rfl ?_
  refine zt_sld (pc' := 783) hX hs hbl hE dL_law_782 rfl hL (zlx h0 h1 (by decide) (by decide)) (fun v16 ev16 lv16 uv16 => ?_)
  refine zt_callV (pc' := 786) (k := 164) (As := [.int (zI v16)]) (rest := []) (q := (RX12, TX12, 108)) hX (zc_X12_knock _ _ s3 hI6 v16 ⟨lv16, uv16⟩ (h10.2) h10.1) zm_yX12_knock dL_law_783 rfl zw_59_13 (by decide) zc_164 zs_46 rfl rfl rfl rfl (Nat.le_of_ble_eq_true rfl) (by decide) ⟨hrc, hrs⟩ (fun r17 s18 hr19 hp20 => ?_)
  obtain ⟨hI21, hF22, q23, q24⟩ := hp20
  have tc26 : s18 1 1 = s3 1 1 := congrFun (hF22.1.1 1 (by decide)) 1
  have tm27 : s18 164 1 = s3 164 1 := hF22.1.2.1
  have bz29 := (zv_46_1 hI6 zc_164).1
  have hY28 := yTi_N hF22.1.1 (by omega) hY13
  have hG30 := yFtq_M hF22.1 hG14
  have hZ31 := yTz_N hF22.1.1 hF22.2.1 hZ15
  have h25 := zLI_N (zGN_of hF22) h10.1 h10.2
  refine zt_pop (pc' := 787) hX dL_law_786 rfl rfl ?_
  refine zt_goto (tgt := 1066) hX dL_law_787 (by decide) ?_
  clear ev1 ev16
  exact K s18 hI21 h25.1 h25.2 (by omega) hY28 hZ31 hG30
set_option maxHeartbeats 4000000 in
theorem zl_22 {X : zCX} {cs ss b L : Nat} {xs : Nat → Int32} {s0 : zSto} {x : Int} (hX : zok X cL_law RL zLd) (hs : va_X b L xs X.2.2.2.2.2.1 X.2.2.2.2.2.1.heap) (hbl : b < X.2.2.2.2.2.1.heap.size) (hE : X.1.1 = X.2.2.2.2.2.1.heap.size) (hL : L ≤ 3072) (h0 : 0 ≤ x) (h1 : x + 6 ≤ (L : Int)) (hrc : cs ≤ X.2.2.2.2.1.cells) (hrs : ss ≤ X.2.2.2.2.1.slots) (hI : zInv s0) (hW : zWF s0) (hS : s0 164 54 = 0) (hT : s0 1 1 = s0 164 1) (hY : yTi s0) (hZ : yTz s0) (hG : yFtq s0) (K : ∀ s : zSto, zInv s → zWF s → s 164 54 = 0 → s 1 1 = s 164 1 → yTi s → yTz s → yFtq s → zZ X zNC cs ss s 1066 [some (.ref b), some (.ref (X.1.1 + 0)), some (.ref (X.1.1 + 164)), some (.int (zI x))] []) : zZ X zNC cs ss s0 790 [some (.ref b), some (.ref (X.1.1 + 0)), some (.ref (X.1.1 + 164)), some (.int (zI x))] [] := by
  refine zt_aload_n (pc' := 791) hX dL_law_790 rfl rfl ?_
  refine zt_aload_n (pc' := 792) hX dL_law_791 rfl rfl ?_
  refine zt_iload_n (pc' := 793) hX dL_law_792 rfl rfl ?_
  refine zt_iconst (pc' := 794) hX dL_law_793 rfl ?_
  refine zt_iadd (pc' := 795) hX dL_law_794 rfl ?_
  refine zt_sld (pc' := 796) hX hs hbl hE dL_law_795 rfl hL (zlx h0 h1 (by decide) (by decide)) (fun v1 ev1 lv1 uv1 => ?_)
  refine zt_aload_n (pc' := 797) hX dL_law_796 rfl rfl ?_
  refine zt_iload_n (pc' := 798) hX dL_law_797 rfl rfl ?_
  refine zt_iconst (pc' := 799) hX dL_law_798 rfl ?_
  refine zt_iadd (pc' := 800) hX dL_law_799 rfl ?_
  refine zt_sld (pc' := 801) hX hs hbl hE dL_law_800 rfl hL (zlx h0 h1 (by decide) (by decide)) (fun v2 ev2 lv2 uv2 => ?_)
  refine zt_callV (pc' := 804) (k := 0) (As := [.int (zI v1), .int (zI v2)]) (rest := []) (q := (RX11, TX11, 17)) hX (zc_X11_rest _ _ s0 hI v1 ⟨lv1, uv1⟩ v2 ⟨lv2, uv2⟩) zm_yX11_rest dL_law_801 rfl zw_59_21 (by decide) zc_0 zs_1 rfl rfl rfl rfl (Nat.le_of_ble_eq_true rfl) (by decide) ⟨hrc, hrs⟩ (fun r3 s4 hr5 hp6 => ?_)
  obtain ⟨hI7, hF8, q9, q10⟩ := hp6
  have tm12 : s4 164 1 = s0 164 1 := congrFun (hF8.1.1 164 (by decide)) 1
  have tc13 : s4 1 1 = s0 1 1 := hF8.2
  have hY14 := yTi_B (zFB_E hF8) hY
  have hG15 := yFtq_C (zFC_E hF8) hG
  have hZ16 := yTz_C (zFC_E hF8) hZ
  have h11 := zLI_B (zFB_E hF8) hW hS
  refine zt_pop (pc' := 805) hX dL_law_804 rfl rfl ?_
  refine zt_aload_n (pc' := 806) hX dL_law_805 rfl rfl ?_
  refine zt_aload_n (pc' := 807) hX dL_law_806 rfl rfl ?_
  refine zt_iload_n (pc' := 808) hX dL_law_807 rfl rfl ?_
  refine zt_iconst (pc' := 809) hX dL_law_808 rfl ?_
  refine zt_iadd (pc' := 810) hX dL_law_809 rfl ?_
  refine zt_sld (pc' := 811) hX hs hbl hE dL_law_810 rfl hL (zlx h0 h1 (by decide) (by decide)) (fun v17 ev17 lv17 uv17 => ?_)
  refine zt_aload_n (pc' := 812) hX dL_law_811 rfl rfl ?_
  refine zt_iload_n (pc' := 813) hX dL_law_812 rfl rfl ?_
  refine zt_iconst (pc' := 814) hX dL_law_813 rfl ?_
  refine zt_iadd (pc' := 815) hX dL_law_814 rfl ?_
  refine zt_sld (pc' := 816) hX hs hbl hE dL_law_815 rfl hL (zlx h0 h1 (by decide) (by decide)) (fun v18 ev18 lv18 uv18 => ?_)
  refine zt_callV (pc' := 819) (k := 164) (As := [.int (zI v17), .int (zI v18)]) (rest := []) (q := (RX12, TX12, 108)) hX (zc_X12_rest _ _ s4 hI7 v17 ⟨lv17, uv17⟩ v18 ⟨lv18, uv18⟩) zm_yX12_rest dL_law_816 rfl zw_60_15 (by decide) zc_164 zs_46 rfl rfl rfl rfl (Nat.le_of_ble_eq_true rfl) (by decide) ⟨hrc, hrs⟩ (fun r19 s20 hr21 hp22 => ?_)
  obtain ⟨hI23, hF24, q25, q26⟩ := hp22
  have tc28 : s20 1 1 = s4 1 1 := congrFun (hF24.1.1 1 (by decide)) 1
  have tm29 : s20 164 1 = s4 164 1 := hF24.1.2.1
  have bz31 := (zv_46_1 hI7 zc_164).1
  have hY30 := yTi_N hF24.1.1 (by omega) hY14
  have hG32 := yFtq_M hF24.1 hG15
  have hZ33 := yTz_N hF24.1.1 hF24.2.1 hZ16
  have h27 := zLI_N (zGN_of hF24) h11.1 h11.2
  refine zt_pop (pc' := 820) hX dL_law_819 rfl rfl ?_
  refine zt_goto (tgt := 1066) hX dL_law_820 (by decide) ?_
  clear ev1 ev2 ev17 ev18
  exact K s20 hI23 h27.1 h27.2 (by omega) hY30 hZ33 hG32
set_option maxHeartbeats 4000000 in
theorem zl_23 {X : zCX} {cs ss b L : Nat} {xs : Nat → Int32} {s0 : zSto} {x : Int} (hX : zok X cL_law RL zLd) (hs : va_X b L xs X.2.2.2.2.2.1 X.2.2.2.2.2.1.heap) (hbl : b < X.2.2.2.2.2.1.heap.size) (hE : X.1.1 = X.2.2.2.2.2.1.heap.size) (hL : L ≤ 3072) (h0 : 0 ≤ x) (h1 : x + 6 ≤ (L : Int)) (hrc : cs ≤ X.2.2.2.2.1.cells) (hrs : ss ≤ X.2.2.2.2.1.slots) (hI : zInv s0) (hW : zWF s0) (hS : s0 164 54 = 0) (hT : s0 1 1 = s0 164 1) (hY : yTi s0) (hZ : yTz s0) (hG : yFtq s0) (K : ∀ s : zSto, zInv s → zWF s → s 164 54 = 0 → s 1 1 = s 164 1 → yTi s → yTz s → yFtq s → zZ X zNC cs ss s 1066 [some (.ref b), some (.ref (X.1.1 + 0)), some (.ref (X.1.1 + 164)), some (.int (zI x))] []) : zZ X zNC cs ss s0 823 [some (.ref b), some (.ref (X.1.1 + 0)), some (.ref (X.1.1 + 164)), some (.int (zI x))] [] := by
  refine zt_aload_n (pc' := 824) hX dL_law_823 rfl rfl ?_
  refine zt_aload_n (pc' := 825) hX dL_law_824 rfl rfl ?_
  refine zt_iload_n (pc' := 826) hX dL_law_825 rfl rfl ?_
  refine zt_iconst (pc' := 827) hX dL_law_826 rfl ?_
  refine zt_iadd (pc' := 828) hX dL_law_827 rfl ?_
  refine zt_sld (pc' := 829) hX hs hbl hE dL_law_828 rfl hL (zlx h0 h1 (by decide) (by decide)) (fun v1 ev1 lv1 uv1 => ?_)
  refine zt_aload_n (pc' := 830) hX dL_law_829 rfl rfl ?_
  refine zt_iload_n (pc' := 831) hX dL_law_830 rfl rfl ?_
  refine zt_iconst (pc' := 832) hX dL_law_831 rfl ?_
  refine zt_iadd (pc' := 833) hX dL_law_832 rfl ?_
  refine zt_sld (pc' := 834) hX hs hbl hE dL_law_833 rfl hL (zlx h0 h1 (by decide) (by decide)) (fun v2 ev2 lv2 uv2 => ?_)
  refine zt_aload_n (pc' := 835) hX dL_law_834 rfl rfl ?_
  refine zt_iload_n (pc' := 836) hX dL_law_835 rfl rfl ?_
  refine zt_iconst (pc' := 837) hX dL_law_836 rfl ?_
  refine zt_iadd (pc' := 838) hX dL_law_837 rfl ?_
  refine zt_sld (pc' := 839) hX hs hbl hE dL_law_838 rfl hL (zlx h0 h1 (by decide) (by decide)) (fun v3 ev3 lv3 uv3 => ?_)
  refine zt_callV (pc' := 842) (k := 0) (As := [.int (zI v1), .int (zI v2), .int (zI v3)]) (rest := []) (q := (RX11, TX11, 17)) hX (zc_X11_go _ _ s0 hI v1 ⟨lv1, uv1⟩ v2 ⟨lv2, uv2⟩ v3 ⟨lv3, uv3⟩) zm_yX11_go dL_law_839 rfl zw_61_4 (by decide) zc_0 zs_1 rfl rfl rfl rfl (Nat.le_of_ble_eq_true rfl) (by decide) ⟨hrc, hrs⟩ (fun r4 s5 hr6 hp7 => ?_)
  obtain ⟨hI8, hF9, q10, q11⟩ := hp7
  have tm13 : s5 164 1 = s0 164 1 := congrFun (hF9.1.1 164 (by decide)) 1
  have tc14 : s5 1 1 = s0 1 1 := hF9.2
  have hY15 := yTi_B (zFB_E hF9) hY
  have hG16 := yFtq_C (zFC_E hF9) hG
  have hZ17 := yTz_C (zFC_E hF9) hZ
  have h12 := zLI_B (zFB_E hF9) hW hS
  refine zt_pop (pc' := 843) hX dL_law_842 rfl rfl ?_
  refine zt_aload_n (pc' := 844) hX dL_law_843 rfl rfl ?_
  refine zt_aload_n (pc' := 845) hX dL_law_844 rfl rfl ?_
  refine zt_iload_n (pc' := 846) hX dL_law_845 rfl rfl ?_
  refine zt_iconst (pc' := 847) hX dL_law_846 rfl ?_
  refine zt_iadd (pc' := 848) hX dL_law_847 rfl ?_
  refine zt_sld (pc' := 849) hX hs hbl hE dL_law_848 rfl hL (zlx h0 h1 (by decide) (by decide)) (fun v18 ev18 lv18 uv18 => ?_)
  refine zt_aload_n (pc' := 850) hX dL_law_849 rfl rfl ?_
  refine zt_iload_n (pc' := 851) hX dL_law_850 rfl rfl ?_
  refine zt_iconst (pc' := 852) hX dL_law_851 rfl ?_
  refine zt_iadd (pc' := 853) hX dL_law_852 rfl ?_
  refine zt_sld (pc' := 854) hX hs hbl hE dL_law_853 rfl hL (zlx h0 h1 (by decide) (by decide)) (fun v19 ev19 lv19 uv19 => ?_)
  refine zt_aload_n (pc' := 855) hX dL_law_854 rfl rfl ?_
  refine zt_iload_n (pc' := 856) hX dL_law_855 rfl rfl ?_
  refine zt_iconst (pc' := 857) hX dL_law_856 rfl ?_
  refine zt_iadd (pc' := 858) hX dL_law_857 rfl ?_
  refine zt_sld (pc' := 859) hX hs hbl hE dL_law_858 rfl hL (zlx h0 h1 (by decide) (by decide)) (fun v20 ev20 lv20 uv20 => ?_)
  refine zt_callV (pc' := 862) (k := 164) (As := [.int (zI v18), .int (zI v19), .int (zI v20)]) (rest := []) (q := (RX12, TX12, 108)) hX (zc_X12_go _ _ s5 hI8 v18 ⟨lv18, uv18⟩ v19 ⟨lv19, uv19⟩ v20 ⟨lv20, uv20⟩) zm_yX12_go dL_law_859 rfl zw_61_8 (by decide) zc_164 zs_46 rfl rfl rfl rfl (Nat.le_of_ble_eq_true rfl) (by decide) ⟨hrc, hrs⟩ (fun r21 s22 hr23 hp24 => ?_)
  obtain ⟨hI25, hF26, q27, q28⟩ := hp24
  have tc30 : s22 1 1 = s5 1 1 := congrFun (hF26.1.1 1 (by decide)) 1
  have tm31 : s22 164 1 = s5 164 1 := hF26.1.2.1
  have bz33 := (zv_46_1 hI8 zc_164).1
  have hY32 := yTi_N hF26.1.1 (by omega) hY15
  have hG34 := yFtq_M hF26.1 hG16
  have hZ35 := yTz_N hF26.1.1 hF26.2.1 hZ17
  have h29 := zLI_N (zGN_of hF26) h12.1 h12.2
  refine zt_pop (pc' := 863) hX dL_law_862 rfl rfl ?_
  refine zt_goto (tgt := 1066) hX dL_law_863 (by decide) ?_
  clear ev1 ev2 ev3 ev18 ev19 ev20
  exact K s22 hI25 h29.1 h29.2 (by omega) hY32 hZ35 hG34
set_option maxHeartbeats 4000000 in
theorem zl_24 {X : zCX} {cs ss b L : Nat} {xs : Nat → Int32} {s0 : zSto} {x : Int} (hX : zok X cL_law RL zLd) (hs : va_X b L xs X.2.2.2.2.2.1 X.2.2.2.2.2.1.heap) (hbl : b < X.2.2.2.2.2.1.heap.size) (hE : X.1.1 = X.2.2.2.2.2.1.heap.size) (hL : L ≤ 3072) (h0 : 0 ≤ x) (h1 : x + 6 ≤ (L : Int)) (hrc : cs ≤ X.2.2.2.2.1.cells) (hrs : ss ≤ X.2.2.2.2.1.slots) (hI : zInv s0) (hW : zWF s0) (hS : s0 164 54 = 0) (hT : s0 1 1 = s0 164 1) (hY : yTi s0) (hZ : yTz s0) (hG : yFtq s0) (K : ∀ s : zSto, zInv s → zWF s → s 164 54 = 0 → s 1 1 = s 164 1 → yTi s → yTz s → yFtq s → zZ X zNC cs ss s 1066 [some (.ref b), some (.ref (X.1.1 + 0)), some (.ref (X.1.1 + 164)), some (.int (zI x))] []) : zZ X zNC cs ss s0 866 [some (.ref b), some (.ref (X.1.1 + 0)), some (.ref (X.1.1 + 164)), some (.int (zI x))] [] := by
  refine zt_aload_n (pc' := 867) hX dL_law_866 rfl rfl ?_
  refine zt_aload_n (pc' := 868) hX dL_law_867 rfl rfl ?_
  refine zt_iload_n (pc' := 869) hX dL_law_868 rfl rfl ?_
  refine zt_iconst (pc' := 870) hX dL_law_869 rfl ?_
  refine zt_iadd (pc' := 871) hX dL_law_870 rfl ?_
  refine zt_sld (pc' := 872) hX hs hbl hE dL_law_871 rfl hL (zlx h0 h1 (by decide) (by decide)) (fun v1 ev1 lv1 uv1 => ?_)
  refine zt_aload_n (pc' := 873) hX dL_law_872 rfl rfl ?_
  refine zt_iload_n (pc' := 874) hX dL_law_873 rfl rfl ?_
  refine zt_iconst (pc' := 875) hX dL_law_874 rfl ?_
  refine zt_iadd (pc' := 876) hX dL_law_875 rfl ?_
  refine zt_sld (pc' := 877) hX hs hbl hE dL_law_876 rfl hL (zlx h0 h1 (by decide) (by decide)) (fun v2 ev2 lv2 uv2 => ?_)
  refine zt_callV (pc' := 880) (k := 0) (As := [.int (zI v1), .int (zI v2)]) (rest := []) (q := (RX11, TX11, 17)) hX (zc_X11_mend _ _ s0 hI v1 ⟨lv1, uv1⟩ v2 ⟨lv2, uv2⟩) zm_yX11_mend dL_law_877 rfl zw_61_12 (by decide) zc_0 zs_1 rfl rfl rfl rfl (Nat.le_of_ble_eq_true rfl) (by decide) ⟨hrc, hrs⟩ (fun r3 s4 hr5 hp6 => ?_)
  obtain ⟨hI7, hF8, q9, q10⟩ := hp6
  have tm12 : s4 164 1 = s0 164 1 := congrFun (hF8.1.1 164 (by decide)) 1
  have tc13 : s4 1 1 = s0 1 1 := hF8.2
  have hY14 := yTi_B (zFB_E hF8) hY
  have hG15 := yFtq_C (zFC_E hF8) hG
  have hZ16 := yTz_C (zFC_E hF8) hZ
  have h11 := zLI_B (zFB_E hF8) hW hS
  refine zt_pop (pc' := 881) hX dL_law_880 rfl rfl ?_
  refine zt_aload_n (pc' := 882) hX dL_law_881 rfl rfl ?_
  refine zt_aload_n (pc' := 883) hX dL_law_882 rfl rfl ?_
  refine zt_iload_n (pc' := 884) hX dL_law_883 rfl rfl ?_
  refine zt_iconst (pc' := 885) hX dL_law_884 rfl ?_
  refine zt_iadd (pc' := 886) hX dL_law_885 rfl ?_
  refine zt_sld (pc' := 887) hX hs hbl hE dL_law_886 rfl hL (zlx h0 h1 (by decide) (by decide)) (fun v17 ev17 lv17 uv17 => ?_)
  refine zt_aload_n (pc' := 888) hX dL_law_887 rfl rfl ?_
  refine zt_iload_n (pc' := 889) hX dL_law_888 rfl rfl ?_
  refine zt_iconst (pc' := 890) hX dL_law_889 rfl ?_
  refine zt_iadd (pc' := 891) hX dL_law_890 rfl ?_
  refine zt_sld (pc' := 892) hX hs hbl hE dL_law_891 rfl hL (zlx h0 h1 (by decide) (by decide)) (fun v18 ev18 lv18 uv18 => ?_)
  refine zt_callV (pc' := 895) (k := 164) (As := [.int (zI v17), .int (zI v18)]) (rest := []) (q := (RX12, TX12, 108)) hX (zc_X12_mend _ _ s4 hI7 v17 ⟨lv17, uv17⟩ v18 ⟨lv18, uv18⟩) zm_yX12_mend dL_law_892 rfl zw_61_16 (by decide) zc_164 zs_46 rfl rfl rfl rfl (Nat.le_of_ble_eq_true rfl) (by decide) ⟨hrc, hrs⟩ (fun r19 s20 hr21 hp22 => ?_)
  obtain ⟨hI23, hF24, q25, q26⟩ := hp22
  have tc28 : s20 1 1 = s4 1 1 := congrFun (hF24.1.1 1 (by decide)) 1
  have tm29 : s20 164 1 = s4 164 1 := hF24.1.2.1
  have bz31 := (zv_46_1 hI7 zc_164).1
  have hY30 := yTi_N hF24.1.1 (by omega) hY14
  have hG32 := yFtq_M hF24.1 hG15
  have hZ33 := yTz_N hF24.1.1 hF24.2.1 hZ16
  have h27 := zLI_N (zGN_of hF24) h11.1 h11.2
  refine zt_pop (pc' := 896) hX dL_law_895 rfl rfl ?_
  refine zt_goto (tgt := 1066) hX dL_law_896 (by decide) ?_
  clear ev1 ev2 ev17 ev18
  exact K s20 hI23 h27.1 h27.2 (by omega) hY30 hZ33 hG32
set_option maxHeartbeats 4000000 in
theorem zl_25 {X : zCX} {cs ss b L : Nat} {xs : Nat → Int32} {s0 : zSto} {x : Int} (hX : zok X cL_law RL zLd) (hs : va_X b L xs X.2.2.2.2.2.1 X.2.2.2.2.2.1.heap) (hbl : b < X.2.2.2.2.2.1.heap.size) (hE : X.1.1 = X.2.2.2.2.2.1.heap.size) (hL : L ≤ 3072) (h0 : 0 ≤ x) (h1 : x + 6 ≤ (L : Int)) (hrc : cs ≤ X.2.2.2.2.1.cells) (hrs : ss ≤ X.2.2.2.2.1.slots) (hI : zInv s0) (hW : zWF s0) (hS : s0 164 54 = 0) (hT : s0 1 1 = s0 164 1) (hY : yTi s0) (hZ : yTz s0) (hG : yFtq s0) (K : ∀ s : zSto, zInv s → zWF s → s 164 54 = 0 → s 1 1 = s 164 1 → yTi s → yTz s → yFtq s → zZ X zNC cs ss s 1066 [some (.ref b), some (.ref (X.1.1 + 0)), some (.ref (X.1.1 + 164)), some (.int (zI x))] []) : zZ X zNC cs ss s0 899 [some (.ref b), some (.ref (X.1.1 + 0)), some (.ref (X.1.1 + 164)), some (.int (zI x))] [] := by
  refine zt_aload_n (pc' := 900) hX dL_law_899 rfl rfl ?_
  refine zt_aload_n (pc' := 901) hX dL_law_900 rfl rfl ?_
  refine zt_iload_n (pc' := 902) hX dL_law_901 rfl rfl ?_
  refine zt_iconst (pc' := 903) hX dL_law_902 rfl ?_
  refine zt_iadd (pc' := 904) hX dL_law_903 rfl ?_
  refine zt_sld (pc' := 905) hX hs hbl hE dL_law_904 rfl hL (zlx h0 h1 (by decide) (by decide)) (fun v1 ev1 lv1 uv1 => ?_)
  refine zt_callV (pc' := 908) (k := 0) (As := [.int (zI v1)]) (rest := []) (q := (RX11, TX11, 17)) hX (zc_X11_hours _ _ s0 hI v1 ⟨lv1, uv1⟩) zm_yX11_hours dL_law_905 rfl zw_61_20 (by decide) zc_0 zs_1 rfl rfl rfl rfl (Nat.le_of_ble_eq_true rfl) (by decide) ⟨hrc, hrs⟩ (fun r2 s3 hr4 hp5 => ?_)
  obtain ⟨hI6, hF7, q8, q9⟩ := hp5
  have tm11 : s3 164 1 = s0 164 1 := congrFun (hF7.1.1 164 (by decide)) 1
  have tc12 : s3 1 1 = s0 1 1 := hF7.2
  have hY13 := yTi_B (zFB_E hF7) hY
  have hG14 := yFtq_C (zFC_E hF7) hG
  have hZ15 := yTz_C (zFC_E hF7) hZ
  have h10 := zLI_B (zFB_E hF7) hW hS
  refine zt_pop (pc' := 909) hX dL_law_908 rfl rfl ?_
  refine zt_aload_n (pc' := 910) hX dL_law_909 rfl rfl ?_
  refine zt_aload_n (pc' := 911) hX dL_law_910 rfl rfl ?_
  refine zt_iload_n (pc' := 912) hX dL_law_911 rfl rfl ?_
  refine zt_iconst (pc' := 913) hX dL_law_912 rfl ?_
  refine zt_iadd (pc' := 914) hX dL_law_913 rfl ?_
  refine zt_sld (pc' := 915) hX hs hbl hE dL_law_914 rfl hL (zlx h0 h1 (by decide) (by decide)) (fun v16 ev16 lv16 uv16 => ?_)
  refine zt_callV (pc' := 918) (k := 164) (As := [.int (zI v16)]) (rest := []) (q := (RX12, TX12, 108)) hX (zc_X12_hours _ _ s3 hI6 v16 ⟨lv16, uv16⟩ h10.1) zm_yX12_hours dL_law_915 rfl zw_62_10 (by decide) zc_164 zs_46 rfl rfl rfl rfl (Nat.le_of_ble_eq_true rfl) (by decide) ⟨hrc, hrs⟩ (fun r17 s18 hr19 hp20 => ?_)
  obtain ⟨hI21, hF22, q23, q24⟩ := hp20
  have tc26 : s18 1 1 = s3 1 1 := congrFun (hF22.1.1 1 (by decide)) 1
  have tm27 : s18 164 1 = s3 164 1 := hF22.1.2.1
  have bz29 := (zv_46_1 hI6 zc_164).1
  have hY28 := yTi_N hF22.1.1 (by omega) hY13
  have hG30 := yFtq_M hF22.1 hG14
  have hZ31 := yTz_N hF22.1.1 hF22.2.1 hZ15
  have h25 := zLI_N (zGN_of hF22) h10.1 h10.2
  refine zt_pop (pc' := 919) hX dL_law_918 rfl rfl ?_
  refine zt_goto (tgt := 1066) hX dL_law_919 (by decide) ?_
  clear ev1 ev16
  exact K s18 hI21 h25.1 h25.2 (by omega) hY28 hZ31 hG30
set_option maxHeartbeats 4000000 in
theorem zl_26 {X : zCX} {cs ss b L : Nat} {xs : Nat → Int32} {s0 : zSto} {x : Int} (hX : zok X cL_law RL zLd) (hs : va_X b L xs X.2.2.2.2.2.1 X.2.2.2.2.2.1.heap) (hbl : b < X.2.2.2.2.2.1.heap.size) (hE : X.1.1 = X.2.2.2.2.2.1.heap.size) (hL : L ≤ 3072) (h0 : 0 ≤ x) (h1 : x + 6 ≤ (L : Int)) (hrc : cs ≤ X.2.2.2.2.1.cells) (hrs : ss ≤ X.2.2.2.2.1.slots) (hI : zInv s0) (hW : zWF s0) (hS : s0 164 54 = 0) (hT : s0 1 1 = s0 164 1) (hY : yTi s0) (hZ : yTz s0) (hG : yFtq s0) (K : ∀ s : zSto, zInv s → zWF s → s 164 54 = 0 → s 1 1 = s 164 1 → yTi s → yTz s → yFtq s → zZ X zNC cs ss s 1066 [some (.ref b), some (.ref (X.1.1 + 0)), some (.ref (X.1.1 + 164)), some (.int (zI x))] []) : zZ X zNC cs ss s0 922 [some (.ref b), some (.ref (X.1.1 + 0)), some (.ref (X.1.1 + 164)), some (.int (zI x))] [] := by
  refine zt_aload_n (pc' := 923) hX dL_law_922 rfl rfl ?_
  refine zt_aload_n (pc' := 924) hX dL_law_923 rfl rfl ?_
  refine zt_iload_n (pc' := 925) hX dL_law_924 rfl rfl ?_
  refine zt_iconst (pc' := 926) hX dL_law_925 rfl ?_
  refine zt_iadd (pc' := 927) hX dL_law_926 rfl ?_
  refine zt_sld (pc' := 928) hX hs hbl hE dL_law_927 rfl hL (zlx h0 h1 (by decide) (by decide)) (fun v1 ev1 lv1 uv1 => ?_)
  refine zt_callV (pc' := 931) (k := 0) (As := [.int (zI v1)]) (rest := []) (q := (RX11, TX11, 17)) hX (zc_X11_chance _ _ s0 hI v1 ⟨lv1, uv1⟩) zm_yX11_chance dL_law_928 rfl zw_62_14 (by decide) zc_0 zs_1 rfl rfl rfl rfl (Nat.le_of_ble_eq_true rfl) (by decide) ⟨hrc, hrs⟩ (fun r2 s3 hr4 hp5 => ?_)
  obtain ⟨hI6, hF7, q8, q9⟩ := hp5
  have tm11 : s3 164 1 = s0 164 1 := congrFun (hF7.1.1 164 (by decide)) 1
  have tc12 : s3 1 1 = s0 1 1 := hF7.2
  have hY13 := yTi_B (zFB_E hF7) hY
  have hG14 := yFtq_C (zFC_E hF7) hG
  have hZ15 := yTz_C (zFC_E hF7) hZ
  have h10 := zLI_B (zFB_E hF7) hW hS
  refine zt_pop (pc' := 932) hX dL_law_931 rfl rfl ?_
  refine zt_aload_n (pc' := 933) hX dL_law_932 rfl rfl ?_
  refine zt_aload_n (pc' := 934) hX dL_law_933 rfl rfl ?_
  refine zt_iload_n (pc' := 935) hX dL_law_934 rfl rfl ?_
  refine zt_iconst (pc' := 936) hX dL_law_935 rfl ?_
  refine zt_iadd (pc' := 937) hX dL_law_936 rfl ?_
  refine zt_sld (pc' := 938) hX hs hbl hE dL_law_937 rfl hL (zlx h0 h1 (by decide) (by decide)) (fun v16 ev16 lv16 uv16 => ?_)
  refine zt_callV (pc' := 941) (k := 164) (As := [.int (zI v16)]) (rest := []) (q := (RX12, TX12, 108)) hX (zc_X12_chance _ _ s3 hI6 v16 ⟨lv16, uv16⟩ h10.1) zm_yX12_chance dL_law_938 rfl zw_63_2 (by decide) zc_164 zs_46 rfl rfl rfl rfl (Nat.le_of_ble_eq_true rfl) (by decide) ⟨hrc, hrs⟩ (fun r17 s18 hr19 hp20 => ?_)
  obtain ⟨hI21, hF22, q23, q24⟩ := hp20
  have tc26 : s18 1 1 = s3 1 1 := congrFun (hF22.1.1 1 (by decide)) 1
  have tm27 : s18 164 1 = s3 164 1 := hF22.1.2.1
  have bz29 := (zv_46_1 hI6 zc_164).1
  have hY28 := yTi_N hF22.1.1 (by omega) hY13
  have hG30 := yFtq_M hF22.1 hG14
  have hZ31 := yTz_N hF22.1.1 hF22.2.1 hZ15
  have h25 := zLI_N (zGN_of hF22) h10.1 h10.2
  refine zt_pop (pc' := 942) hX dL_law_941 rfl rfl ?_
  refine zt_goto (tgt := 1066) hX dL_law_942 (by decide) ?_
  clear ev1 ev16
  exact K s18 hI21 h25.1 h25.2 (by omega) hY28 hZ31 hG30
set_option maxHeartbeats 4000000 in
theorem zl_27 {X : zCX} {cs ss b L : Nat} {xs : Nat → Int32} {s0 : zSto} {x : Int} (hX : zok X cL_law RL zLd) (hs : va_X b L xs X.2.2.2.2.2.1 X.2.2.2.2.2.1.heap) (hbl : b < X.2.2.2.2.2.1.heap.size) (hE : X.1.1 = X.2.2.2.2.2.1.heap.size) (hL : L ≤ 3072) (h0 : 0 ≤ x) (h1 : x + 6 ≤ (L : Int)) (hrc : cs ≤ X.2.2.2.2.1.cells) (hrs : ss ≤ X.2.2.2.2.1.slots) (hI : zInv s0) (hW : zWF s0) (hS : s0 164 54 = 0) (hT : s0 1 1 = s0 164 1) (hY : yTi s0) (hZ : yTz s0) (hG : yFtq s0) (K : ∀ s : zSto, zInv s → zWF s → s 164 54 = 0 → s 1 1 = s 164 1 → yTi s → yTz s → yFtq s → zZ X zNC cs ss s 1066 [some (.ref b), some (.ref (X.1.1 + 0)), some (.ref (X.1.1 + 164)), some (.int (zI x))] []) : zZ X zNC cs ss s0 945 [some (.ref b), some (.ref (X.1.1 + 0)), some (.ref (X.1.1 + 164)), some (.int (zI x))] [] := by
  refine zt_aload_n (pc' := 946) hX dL_law_945 rfl rfl ?_
  refine zt_callV (pc' := 949) (k := 0) (As := []) (rest := []) (q := (RX11, TX11, 17)) hX (zc_X11_undo _ _ s0 hI) zm_yX11_undo dL_law_946 rfl zw_63_14 (by decide) zc_0 zs_1 rfl rfl rfl rfl (Nat.le_of_ble_eq_true rfl) (by decide) ⟨hrc, hrs⟩ (fun r1 s2 hr3 hp4 => ?_)
  obtain ⟨hI5, hF6, q7, q8⟩ := hp4
  have tm10 : s2 164 1 = s0 164 1 := congrFun (hF6.1.1 164 (by decide)) 1
  have tc11 : s2 1 1 = s0 1 1 := hF6.2
  have hY12 := yTi_B (zFB_E hF6) hY
  have hG13 := yFtq_C (zFC_E hF6) hG
  have hZ14 := yTz_C (zFC_E hF6) hZ
  have h9 := zLI_B (zFB_E hF6) hW hS
  refine zt_pop (pc' := 950) hX dL_law_949 rfl rfl ?_
  refine zt_aload_n (pc' := 951) hX dL_law_950 rfl rfl ?_
  refine zt_callV (pc' := 954) (k := 164) (As := []) (rest := []) (q := (RX12, TX12, 108)) hX (zc_X12_undo _ _ s2 hI5) zm_yX12_undo dL_law_951 rfl zw_63_22 (by decide) zc_164 zs_46 rfl rfl rfl rfl (Nat.le_of_ble_eq_true rfl) (by decide) ⟨hrc, hrs⟩ (fun r15 s16 hr17 hp18 => ?_)
  obtain ⟨hI19, hF20, q21, q22⟩ := hp18
  have tc24 : s16 1 1 = s2 1 1 := congrFun (hF20.1.1 1 (by decide)) 1
  have tm25 : s16 164 1 = s2 164 1 := hF20.1.2.1
  have bz27 := (zv_46_1 hI5 zc_164).1
  have hY26 := yTi_N hF20.1.1 (by omega) hY12
  have hG28 := yFtq_M hF20.1 hG13
  have hZ29 := yTz_N hF20.1.1 hF20.2.1 hZ14
  have h23 := zLI_N (zGN_of hF20) h9.1 h9.2
  refine zt_pop (pc' := 955) hX dL_law_954 rfl rfl ?_
  refine zt_goto (tgt := 1066) hX dL_law_955 (by decide) ?_
  exact K s16 hI19 h23.1 h23.2 (by omega) hY26 hZ29 hG28
set_option maxHeartbeats 4000000 in
theorem zl_28 {X : zCX} {cs ss b L : Nat} {xs : Nat → Int32} {s0 : zSto} {x : Int} (hX : zok X cL_law RL zLd) (hs : va_X b L xs X.2.2.2.2.2.1 X.2.2.2.2.2.1.heap) (hbl : b < X.2.2.2.2.2.1.heap.size) (hE : X.1.1 = X.2.2.2.2.2.1.heap.size) (hL : L ≤ 3072) (h0 : 0 ≤ x) (h1 : x + 6 ≤ (L : Int)) (hrc : cs ≤ X.2.2.2.2.1.cells) (hrs : ss ≤ X.2.2.2.2.1.slots) (hI : zInv s0) (hW : zWF s0) (hS : s0 164 54 = 0) (hT : s0 1 1 = s0 164 1) (hY : yTi s0) (hZ : yTz s0) (hG : yFtq s0) (K : ∀ s : zSto, zInv s → zWF s → s 164 54 = 0 → s 1 1 = s 164 1 → yTi s → yTz s → yFtq s → zZ X zNC cs ss s 1066 [some (.ref b), some (.ref (X.1.1 + 0)), some (.ref (X.1.1 + 164)), some (.int (zI x))] []) : zZ X zNC cs ss s0 958 [some (.ref b), some (.ref (X.1.1 + 0)), some (.ref (X.1.1 + 164)), some (.int (zI x))] [] := by
  refine zt_aload_n (pc' := 959) hX dL_law_958 rfl rfl ?_
  refine zt_aload_n (pc' := 960) hX dL_law_959 rfl rfl ?_
  refine zt_iload_n (pc' := 961) hX dL_law_960 rfl rfl ?_
  refine zt_iconst (pc' := 962) hX dL_law_961 rfl ?_
  refine zt_iadd (pc' := 963) hX dL_law_962 rfl ?_
  refine zt_sld (pc' := 964) hX hs hbl hE dL_law_963 rfl hL (zlx h0 h1 (by decide) (by decide)) (fun v1 ev1 lv1 uv1 => ?_)
  refine zt_callV (pc' := 967) (k := 0) (As := [.int (zI v1)]) (rest := []) (q := (RX11, TX11, 17)) hX (zc_X11_seed _ _ s0 hI v1 ⟨lv1, uv1⟩) zm_yX11_seed dL_law_964 rfl zw_64_2 (by decide) zc_0 zs_1 rfl rfl rfl rfl (Nat.le_of_ble_eq_true rfl) (by decide) ⟨hrc, hrs⟩ (fun r2 s3 hr4 hp5 => ?_)
  obtain ⟨hI6, hF7, q8, q9, z10⟩ := hp5
  have tm12 : s3 164 1 = s0 164 1 := congrFun (hF7.1.1 164 (by decide)) 1
  have tc13 : s3 1 1 = s0 1 1 := hF7.2
  have hY14 := yTi_B (zFB_E hF7) hY
  have hG15 := yFtq_C (zFC_E hF7) hG
  have hZ16 := yTz_C (zFC_E hF7) hZ
  have h11 := zLI_B (zFB_E hF7) hW hS
  refine zt_pop (pc' := 968) hX dL_law_967 rfl rfl ?_
  refine zt_aload_n (pc' := 969) hX dL_law_968 rfl rfl ?_
  refine zt_aload_n (pc' := 970) hX dL_law_969 rfl rfl ?_
  refine zt_iload_n (pc' := 971) hX dL_law_970 rfl rfl ?_
  refine zt_iconst (pc' := 972) hX dL_law_971 rfl ?_
  refine zt_iadd (pc' := 973) hX dL_law_972 rfl ?_
  refine zt_sld (pc' := 974) hX hs hbl hE dL_law_973 rfl hL (zlx h0 h1 (by decide) (by decide)) (fun v17 ev17 lv17 uv17 => ?_)
  refine zt_callV (pc' := 977) (k := 164) (As := [.int (zI v17)]) (rest := []) (q := (RX12, TX12, 108)) hX (zc_X12_seed _ _ s3 hI6 v17 ⟨lv17, uv17⟩) zm_yX12_seed dL_law_974 rfl zw_64_6 (by decide) zc_164 zs_46 rfl rfl rfl rfl (Nat.le_of_ble_eq_true rfl) (by decide) ⟨hrc, hrs⟩ (fun r18 s19 hr20 hp21 => ?_)
  obtain ⟨hI22, hF23, q24, q25, z26⟩ := hp21
  have tc28 : s19 1 1 = s3 1 1 := congrFun (hF23.1.1 1 (by decide)) 1
  have tm29 : s19 164 1 = s3 164 1 := hF23.1.2.1
  have bz31 := (zv_46_1 hI6 zc_164).1
  have hY30 := yTi_N hF23.1.1 (by omega) hY14
  have hG32 := yFtq_M hF23.1 hG15
  have hZ33 := yTz_N hF23.1.1 hF23.2.1 hZ16
  have h27 := zLI_N (zGN_of hF23) h11.1 h11.2
  refine zt_pop (pc' := 978) hX dL_law_977 rfl rfl ?_
  refine zt_goto (tgt := 1066) hX dL_law_978 (by decide) ?_
  clear ev1 ev17
  exact K s19 hI22 h27.1 h27.2 (by omega) hY30 hZ33 hG32
set_option maxHeartbeats 4000000 in
theorem zl_29 {X : zCX} {cs ss b L : Nat} {xs : Nat → Int32} {s0 : zSto} {x : Int} (hX : zok X cL_law RL zLd) (hs : va_X b L xs X.2.2.2.2.2.1 X.2.2.2.2.2.1.heap) (hbl : b < X.2.2.2.2.2.1.heap.size) (hE : X.1.1 = X.2.2.2.2.2.1.heap.size) (hL : L ≤ 3072) (h0 : 0 ≤ x) (h1 : x + 6 ≤ (L : Int)) (hrc : cs ≤ X.2.2.2.2.1.cells) (hrs : ss ≤ X.2.2.2.2.1.slots) (hI : zInv s0) (hW : zWF s0) (hS : s0 164 54 = 0) (hT : s0 1 1 = s0 164 1) (hY : yTi s0) (hZ : yTz s0) (hG : yFtq s0) (K : ∀ s : zSto, zInv s → zWF s → s 164 54 = 0 → s 1 1 = s 164 1 → yTi s → yTz s → yFtq s → zZ X zNC cs ss s 1066 [some (.ref b), some (.ref (X.1.1 + 0)), some (.ref (X.1.1 + 164)), some (.int (zI x))] []) : zZ X zNC cs ss s0 981 [some (.ref b), some (.ref (X.1.1 + 0)), some (.ref (X.1.1 + 164)), some (.int (zI x))] [] := by
  refine zt_aload_n (pc' := 982) hX dL_law_981 rfl rfl ?_
  refine zt_callV (pc' := 985) (k := 0) (As := []) (rest := []) (q := (RX11, TX11, 17)) hX (we_X11_ask _ _ s0 hI hY.1 hZ) zm_yX11_ask dL_law_982 rfl zw_64_10 (by decide) zc_0 zs_1 rfl rfl rfl rfl (Nat.le_of_ble_eq_true rfl) (by decide) ⟨hrc, hrs⟩ (fun r1 s2 hr3 hp4 => ?_)
  obtain ⟨hI5, hF6, q7, q8, z9, z10, z11, z12, z13⟩ := hp4
  have tm15 : s2 164 1 = s0 164 1 := congrFun (hF6 164 (by decide)) 1
  have hY16 := yTi_B hF6 hY
  have h14 := zLI_B hF6 hW hS
  refine zt_pop2l (pc' := 986) hX dL_law_985 rfl rfl ?_
  refine zt_aload_n (pc' := 987) hX dL_law_986 rfl rfl ?_
  refine zt_callV (pc' := 990) (k := 164) (As := []) (rest := []) (q := (RX12, TX12, 108)) hX (wg_X12_ask _ _ s2 hI5 h14.1 hY16.2.1) zm_yX12_ask dL_law_987 rfl zw_66_11 (by decide) zc_164 zs_46 rfl rfl rfl rfl (Nat.le_of_ble_eq_true rfl) (by decide) ⟨hrc, hrs⟩ (fun r17 s18 hr19 hp20 => ?_)
  obtain ⟨hI21, hF22, q23, q24, z25, z26, z27, z28⟩ := hp20
  have tc30 : s18 1 1 = s2 1 1 := congrFun (hF22.1 1 (by decide)) 1
  have bz32 := (zv_46_1 hI5 zc_164).1
  have hY31 := yTi_N hF22.1 (by omega) hY16
  have hG33 := yFtq_ask hG hI hF6 z10 z28 (yW_T hF6 hY hT) hF22.1
  have hZ34 := yTz_N hF22.1 hF22.2.1 z11
  have h29 := zLI_N hF22 h14.1 h14.2
  refine zt_pop2l (pc' := 991) hX dL_law_990 rfl rfl ?_
  refine zt_goto (tgt := 1066) hX dL_law_991 (by decide) ?_
  exact K s18 hI21 h29.1 h29.2 (by omega) hY31 hZ34 hG33
set_option maxHeartbeats 4000000 in
theorem zl_30 {X : zCX} {cs ss b L : Nat} {xs : Nat → Int32} {s0 : zSto} {x : Int} (hX : zok X cL_law RL zLd) (hs : va_X b L xs X.2.2.2.2.2.1 X.2.2.2.2.2.1.heap) (hbl : b < X.2.2.2.2.2.1.heap.size) (hE : X.1.1 = X.2.2.2.2.2.1.heap.size) (hL : L ≤ 3072) (h0 : 0 ≤ x) (h1 : x + 6 ≤ (L : Int)) (hrc : cs ≤ X.2.2.2.2.1.cells) (hrs : ss ≤ X.2.2.2.2.1.slots) (hI : zInv s0) (hW : zWF s0) (hS : s0 164 54 = 0) (hT : s0 1 1 = s0 164 1) (hY : yTi s0) (hZ : yTz s0) (hG : yFtq s0) (K : ∀ s : zSto, zInv s → zWF s → s 164 54 = 0 → s 1 1 = s 164 1 → yTi s → yTz s → yFtq s → zZ X zNC cs ss s 1066 [some (.ref b), some (.ref (X.1.1 + 0)), some (.ref (X.1.1 + 164)), some (.int (zI x))] []) : zZ X zNC cs ss s0 994 [some (.ref b), some (.ref (X.1.1 + 0)), some (.ref (X.1.1 + 164)), some (.int (zI x))] [] := by
  refine zt_aload_n (pc' := 995) hX dL_law_994 rfl rfl ?_
  refine zt_callV (pc' := 998) (k := 0) (As := []) (rest := []) (q := (RX11, TX11, 17)) hX (we_X11_image _ _ s0 hI hZ) zm_yX11_image dL_law_995 rfl zw_67_10 (by decide) zc_0 zs_1 rfl rfl rfl rfl (Nat.le_of_ble_eq_true rfl) (by decide) ⟨hrc, hrs⟩ (fun r1 s2 hr3 hp4 => ?_)
  obtain ⟨hI5, hF6, q7, q8, z9⟩ := hp4
  have tm11 : s2 164 1 = s0 164 1 := congrFun (hF6.1.1 164 (by decide)) 1
  have tc12 : s2 1 1 = s0 1 1 := hF6.2
  have hY13 := yTi_B (zFB_E hF6) hY
  have hG14 := yFtq_C (zFC_E hF6) hG
  have hZ15 := yTz_C (zFC_E hF6) hZ
  have h10 := zLI_B (zFB_E hF6) hW hS
  refine zt_pop (pc' := 999) hX dL_law_998 rfl rfl ?_
  refine zt_aload_n (pc' := 1000) hX dL_law_999 rfl rfl ?_
  refine zt_callV (pc' := 1003) (k := 164) (As := []) (rest := []) (q := (RX12, TX12, 108)) hX (we_X12_image _ _ s2 hI5) zm_yX12_image dL_law_1000 rfl zw_67_19 (by decide) zc_164 zs_46 rfl rfl rfl rfl (Nat.le_of_ble_eq_true rfl) (by decide) ⟨hrc, hrs⟩ (fun r16 s17 hr18 hp19 => ?_)
  obtain ⟨hI20, hF21, q22, q23, z24⟩ := hp19
  have tc26 : s17 1 1 = s2 1 1 := congrFun (hF21.1.1 1 (by decide)) 1
  have tm27 : s17 164 1 = s2 164 1 := hF21.1.2.1
  have bz29 := (zv_46_1 hI5 zc_164).1
  have hY28 := yTi_N hF21.1.1 (by omega) hY13
  have hG30 := yFtq_M hF21.1 hG14
  have hZ31 := yTz_N hF21.1.1 hF21.2.1 hZ15
  have h25 := zLI_N (zGN_of hF21) h10.1 h10.2
  refine zt_pop (pc' := 1004) hX dL_law_1003 rfl rfl ?_
  refine zt_goto (tgt := 1066) hX dL_law_1004 (by decide) ?_
  exact K s17 hI20 h25.1 h25.2 (by omega) hY28 hZ31 hG30
set_option maxHeartbeats 4000000 in
theorem zl_31 {X : zCX} {cs ss b L : Nat} {xs : Nat → Int32} {s0 : zSto} {x : Int} (hX : zok X cL_law RL zLd) (hs : va_X b L xs X.2.2.2.2.2.1 X.2.2.2.2.2.1.heap) (hbl : b < X.2.2.2.2.2.1.heap.size) (hE : X.1.1 = X.2.2.2.2.2.1.heap.size) (hL : L ≤ 3072) (h0 : 0 ≤ x) (h1 : x + 6 ≤ (L : Int)) (hrc : cs ≤ X.2.2.2.2.1.cells) (hrs : ss ≤ X.2.2.2.2.1.slots) (hI : zInv s0) (hW : zWF s0) (hS : s0 164 54 = 0) (hT : s0 1 1 = s0 164 1) (hY : yTi s0) (hZ : yTz s0) (hG : yFtq s0) (K : ∀ s : zSto, zInv s → zWF s → s 164 54 = 0 → s 1 1 = s 164 1 → yTi s → yTz s → yFtq s → zZ X zNC cs ss s 1066 [some (.ref b), some (.ref (X.1.1 + 0)), some (.ref (X.1.1 + 164)), some (.int (zI x))] []) : zZ X zNC cs ss s0 1007 [some (.ref b), some (.ref (X.1.1 + 0)), some (.ref (X.1.1 + 164)), some (.int (zI x))] [] := by
  refine zt_aload_n (pc' := 1008) hX dL_law_1007 rfl rfl ?_
  refine zt_aload_n (pc' := 1009) hX dL_law_1008 rfl rfl ?_
  refine zt_iload_n (pc' := 1010) hX dL_law_1009 rfl rfl ?_
  refine zt_iconst (pc' := 1011) hX dL_law_1010 rfl ?_
  refine zt_iadd (pc' := 1012) hX dL_law_1011 rfl ?_
  refine zt_sld (pc' := 1013) hX hs hbl hE dL_law_1012 rfl hL (zlx h0 h1 (by decide) (by decide)) (fun v1 ev1 lv1 uv1 => ?_)
  refine zt_callV (pc' := 1016) (k := 0) (As := [.int (zI v1)]) (rest := []) (q := (RX11, TX11, 17)) hX (zc_X11_octet _ _ s0 hI v1 ⟨lv1, uv1⟩) zm_yX11_octet dL_law_1013 rfl zw_68_7 (by decide) zc_0 zs_1 rfl rfl rfl rfl (Nat.le_of_ble_eq_true rfl) (by decide) ⟨hrc, hrs⟩ (fun r2 s3 hr4 hp5 => ?_)
  obtain ⟨rfl, q6, q7⟩ := hp5
  refine zt_pop (pc' := 1017) hX dL_law_1016 rfl rfl ?_
  refine zt_aload_n (pc' := 1018) hX dL_law_1017 rfl rfl ?_
  refine zt_aload_n (pc' := 1019) hX dL_law_1018 rfl rfl ?_
  refine zt_iload_n (pc' := 1020) hX dL_law_1019 rfl rfl ?_
  refine zt_iconst (pc' := 1021) hX dL_law_1020 rfl ?_
  refine zt_iadd (pc' := 1022) hX dL_law_1021 rfl ?_
  refine zt_sld (pc' := 1023) hX hs hbl hE dL_law_1022 rfl hL (zlx h0 h1 (by decide) (by decide)) (fun v8 ev8 lv8 uv8 => ?_)
  refine zt_callV (pc' := 1026) (k := 164) (As := [.int (zI v8)]) (rest := []) (q := (RX12, TX12, 108)) hX (zc_X12_octet _ _ s0 hI v8 ⟨lv8, uv8⟩) zm_yX12_octet dL_law_1023 rfl zw_68_12 (by decide) zc_164 zs_46 rfl rfl rfl rfl (Nat.le_of_ble_eq_true rfl) (by decide) ⟨hrc, hrs⟩ (fun r9 s10 hr11 hp12 => ?_)
  obtain ⟨rfl, q13, q14⟩ := hp12
  refine zt_pop (pc' := 1027) hX dL_law_1026 rfl rfl ?_
  refine zt_goto (tgt := 1066) hX dL_law_1027 (by decide) ?_
  clear ev1 ev8
  exact K s0 hI hW hS (by omega) hY hZ hG
set_option maxHeartbeats 4000000 in
theorem zl_32 {X : zCX} {cs ss b L : Nat} {xs : Nat → Int32} {s0 : zSto} {x : Int} (hX : zok X cL_law RL zLd) (hs : va_X b L xs X.2.2.2.2.2.1 X.2.2.2.2.2.1.heap) (hbl : b < X.2.2.2.2.2.1.heap.size) (hE : X.1.1 = X.2.2.2.2.2.1.heap.size) (hL : L ≤ 3072) (h0 : 0 ≤ x) (h1 : x + 6 ≤ (L : Int)) (hrc : cs ≤ X.2.2.2.2.1.cells) (hrs : ss ≤ X.2.2.2.2.1.slots) (hI : zInv s0) (hW : zWF s0) (hS : s0 164 54 = 0) (hT : s0 1 1 = s0 164 1) (hY : yTi s0) (hZ : yTz s0) (hG : yFtq s0) (K : ∀ s : zSto, zInv s → zWF s → s 164 54 = 0 → s 1 1 = s 164 1 → yTi s → yTz s → yFtq s → zZ X zNC cs ss s 1066 [some (.ref b), some (.ref (X.1.1 + 0)), some (.ref (X.1.1 + 164)), some (.int (zI x))] []) : zZ X zNC cs ss s0 1030 [some (.ref b), some (.ref (X.1.1 + 0)), some (.ref (X.1.1 + 164)), some (.int (zI x))] [] := by
  refine zt_aload_n (pc' := 1031) hX dL_law_1030 rfl rfl ?_
  refine zt_callV (pc' := 1034) (k := 0) (As := []) (rest := []) (q := (RX11, TX11, 17)) hX (zc_X11_on _ _ s0 hI) zm_yX11_on dL_law_1031 rfl zw_68_16 (by decide) zc_0 zs_1 rfl rfl rfl rfl (Nat.le_of_ble_eq_true rfl) (by decide) ⟨hrc, hrs⟩ (fun r1 s2 hr3 hp4 => ?_)
  obtain ⟨hI5, hF6, q7, q8, z9⟩ := hp4
  have tm11 : s2 164 1 = s0 164 1 := congrFun (hF6.1 164 (by decide)) 1
  have hY12 := yTi_B (zFB_D hF6) hY
  have hG13 := yFtq_C (zFC_of hF6) hG
  have hZ14 := yTz_C (zFC_of hF6) hZ
  have h10 := zLI_B (zFB_D hF6) hW hS
  refine zt_pop (pc' := 1035) hX dL_law_1034 rfl rfl ?_
  refine zt_aload_n (pc' := 1036) hX dL_law_1035 rfl rfl ?_
  refine zt_callV (pc' := 1039) (k := 164) (As := []) (rest := []) (q := (RX12, TX12, 108)) hX (zc_X12_on _ _ s2 hI5) zm_yX12_on dL_law_1036 rfl zw_69_11 (by decide) zc_164 zs_46 rfl rfl rfl rfl (Nat.le_of_ble_eq_true rfl) (by decide) ⟨hrc, hrs⟩ (fun r15 s16 hr17 hp18 => ?_)
  obtain ⟨hI19, hF20, q21, q22, z23, z24, z25⟩ := hp18
  have tc27 : s16 1 1 = s2 1 1 := congrFun (hF20.1 1 (by decide)) 1
  have bz29 := (zv_46_1 hI5 zc_164).1
  have hY28 := yTi_N hF20.1 (by omega) hY12
  have hG30 := yFtq_N hF20.1 z24 z25 hG13
  have hZ31 := yTz_N hF20.1 hF20.2.1 hZ14
  have h26 := zLI_N hF20 h10.1 h10.2
  refine zt_pop (pc' := 1040) hX dL_law_1039 rfl rfl ?_
  refine zt_goto (tgt := 1066) hX dL_law_1040 (by decide) ?_
  exact K s16 hI19 h26.1 h26.2 (by omega) hY28 hZ31 hG30
set_option maxHeartbeats 4000000 in
theorem zl_33 {X : zCX} {cs ss b L : Nat} {xs : Nat → Int32} {s0 : zSto} {x : Int} (hX : zok X cL_law RL zLd) (hs : va_X b L xs X.2.2.2.2.2.1 X.2.2.2.2.2.1.heap) (hbl : b < X.2.2.2.2.2.1.heap.size) (hE : X.1.1 = X.2.2.2.2.2.1.heap.size) (hL : L ≤ 3072) (h0 : 0 ≤ x) (h1 : x + 6 ≤ (L : Int)) (hrc : cs ≤ X.2.2.2.2.1.cells) (hrs : ss ≤ X.2.2.2.2.1.slots) (hI : zInv s0) (hW : zWF s0) (hS : s0 164 54 = 0) (hT : s0 1 1 = s0 164 1) (hY : yTi s0) (hZ : yTz s0) (hG : yFtq s0) (K : ∀ s : zSto, zInv s → zWF s → s 164 54 = 0 → s 1 1 = s 164 1 → yTi s → yTz s → yFtq s → zZ X zNC cs ss s 1066 [some (.ref b), some (.ref (X.1.1 + 0)), some (.ref (X.1.1 + 164)), some (.int (zI x))] []) : zZ X zNC cs ss s0 1043 [some (.ref b), some (.ref (X.1.1 + 0)), some (.ref (X.1.1 + 164)), some (.int (zI x))] [] := by
  refine zt_aload_n (pc' := 1044) hX dL_law_1043 rfl rfl ?_
  refine zt_aload_n (pc' := 1045) hX dL_law_1044 rfl rfl ?_
  refine zt_iload_n (pc' := 1046) hX dL_law_1045 rfl rfl ?_
  refine zt_iconst (pc' := 1047) hX dL_law_1046 rfl ?_
  refine zt_iadd (pc' := 1048) hX dL_law_1047 rfl ?_
  refine zt_sld (pc' := 1049) hX hs hbl hE dL_law_1048 rfl hL (zlx h0 h1 (by decide) (by decide)) (fun v1 ev1 lv1 uv1 => ?_)
  refine zt_callV (pc' := 1052) (k := 0) (As := [.int (zI v1)]) (rest := []) (q := (RX11, TX11, 17)) hX (zc_X11_status _ _ s0 hI v1 ⟨lv1, uv1⟩) zm_yX11_status dL_law_1049 rfl zw_69_23 (by decide) zc_0 zs_1 rfl rfl rfl rfl (Nat.le_of_ble_eq_true rfl) (by decide) ⟨hrc, hrs⟩ (fun r2 s3 hr4 hp5 => ?_)
  obtain ⟨rfl, q6, q7⟩ := hp5
  refine zt_pop (pc' := 1053) hX dL_law_1052 rfl rfl ?_
  refine zt_aload_n (pc' := 1054) hX dL_law_1053 rfl rfl ?_
  refine zt_aload_n (pc' := 1055) hX dL_law_1054 rfl rfl ?_
  refine zt_iload_n (pc' := 1056) hX dL_law_1055 rfl rfl ?_
  refine zt_iconst (pc' := 1057) hX dL_law_1056 rfl ?_
  refine zt_iadd (pc' := 1058) hX dL_law_1057 rfl ?_
  refine zt_sld (pc' := 1059) hX hs hbl hE dL_law_1058 rfl hL (zlx h0 h1 (by decide) (by decide)) (fun v8 ev8 lv8 uv8 => ?_)
  refine zt_callV (pc' := 1062) (k := 164) (As := [.int (zI v8)]) (rest := []) (q := (RX12, TX12, 108)) hX (zc_X12_status _ _ s0 hI v8 ⟨lv8, uv8⟩) zm_yX12_status dL_law_1059 rfl zw_70_3 (by decide) zc_164 zs_46 rfl rfl rfl rfl (Nat.le_of_ble_eq_true rfl) (by decide) ⟨hrc, hrs⟩ (fun r9 s10 hr11 hp12 => ?_)
  obtain ⟨rfl, q13, q14⟩ := hp12
  refine zt_pop (pc' := 1063) hX dL_law_1062 rfl rfl ?_
  refine zt_goto (tgt := 1066) hX dL_law_1063 (by decide) ?_
  clear ev1 ev8
  exact K s0 hI hW hS (by omega) hY hZ hG
