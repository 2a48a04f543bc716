def yWtab : List (Nat × List Int) := [(167, [112, 97, 110, 101]), (168, [98, 121]), (169, [116, 111, 117, 103, 104]), (170, [104, 101, 97, 118, 121]), (171, [112, 111, 108, 101]), (172, [97, 116]), (173, [108, 105, 102, 116, 115]), (174, [97, 100, 100, 115]), (175, [104, 111, 108, 100, 115]), (176, [102, 97, 100, 101, 115]), (177, [115, 116, 111, 110, 101]), (178, [104, 97, 105, 108]), (179, [104, 111, 117, 114]), (180, [99, 114, 97, 99, 107, 115]), (181, [119, 101, 105, 103, 104, 116]), (182, [116, 105, 114, 101, 100]), (183, [110, 101, 97, 114]), (184, [110, 117, 109, 98, 101, 114]), (185, [99, 111, 108, 117, 109, 110]), (186, [114, 111, 119]), (187, [102, 97, 114]), (188, [111, 114]), (189, [97, 110, 100]), (190, [110, 111, 116]), (191, [97, 108, 108]), (192, [109, 105, 110]), (193, [109, 97, 120]), (211, [102, 105, 114, 115, 116]), (212, [108, 97, 115, 116]), (213, [111, 102, 116, 101, 110]), (214, [116, 111, 116, 97, 108]), (215, [109, 111, 115, 116]), (216, [108, 101, 97, 115, 116]), (217, [110, 111, 116]), (218, [97, 110, 100]), (219, [111, 114]), (220, [97, 108, 108]), (221, [109, 105, 110]), (222, [109, 97, 120]), (223, [104, 111, 117, 114]), (224, [99, 114, 97, 99, 107, 115]), (225, [119, 101, 105, 103, 104, 116]), (226, [108, 105, 102, 116, 115]), (227, [116, 105, 114, 101, 100]), (228, [110, 101, 97, 114]), (229, [110, 117, 109, 98, 101, 114]), (230, [99, 111, 108, 117, 109, 110]), (231, [114, 111, 119]), (232, [104, 111, 108, 100, 115]), (233, [102, 97, 114])]
def yWd (s : zSto) : Prop := ∀ p, p ∈ yWtab → ∀ j, j < p.2.length → s p.1 j = p.2.getD j 0
def ychk (L : List Int) (w : Nat) : Bool := decide (L.length ≤ 6) && decide (w < 33) && L.all (fun c => decide (97 ≤ c) && decide (c ≤ 122))
  && decide (yWc w = 14348907 * (if 0 < L.length then L.getD 0 0 - 96 else 0) + 531441 * (if 1 < L.length then L.getD 1 0 - 96 else 0) + 19683 * (if 2 < L.length then L.getD 2 0 - 96 else 0) + 729 * (if 3 < L.length then L.getD 3 0 - 96 else 0) + 27 * (if 4 < L.length then L.getD 4 0 - 96 else 0) + (if 5 < L.length then L.getD 5 0 - 96 else 0))
theorem yRow_l {s : zSto} {k : Nat} {L : List Int} {w : Nat} (h : ∀ j, j < L.length → s k j = L.getD j 0) (c : ychk L w = true) : yRow s k L.length (w : Int) := by
  simp only [ychk, Bool.and_eq_true, decide_eq_true_eq, List.all_eq_true] at c
  obtain ⟨⟨⟨c1, c2⟩, c3⟩, c4⟩ := c
  have r : ∀ j, yrd s k L.length j = if j < L.length then L.getD j 0 - 96 else 0 := by
    intro j
    unfold yrd
    by_cases x : j < L.length
    · rw [if_pos x, if_pos x, h j x]
    · rw [if_neg x, if_neg x]
  refine ⟨by omega, c1, fun j hj => ?_, ?_⟩
  · rw [h j hj]
    have m : L.getD j 0 ∈ L := by
      rw [List.getD_eq_getElem?_getD, List.getElem?_eq_getElem hj]
      exact List.getElem_mem hj
    exact c3 _ m
  · rw [show ((w : Int)).toNat = w by omega, c4, r 0, r 1, r 2, r 3, r 4, r 5]
theorem yWd_on {P : Nat → Nat → Bool} {s s' : zSto} (h : yWd s) (o : zOn P s s') (hP : ∀ p, p ∈ yWtab → ∀ j, P p.1 j = false) : yWd s' := fun p hp j hj => (o p.1 j (hP p hp j)).trans (h p hp j hj)
theorem yWd_3 {s s' : zSto} (h : yWd s) (o : zOn zQ3 s s') : yWd s' := yWd_on h o (by
  intro p hp j
  simp only [yWtab, List.mem_cons, List.not_mem_nil, or_false] at hp
  rcases hp with rfl | rfl | rfl | rfl | rfl | rfl | rfl | rfl | rfl | rfl | rfl | rfl | rfl | rfl | rfl | rfl | rfl | rfl | rfl | rfl | rfl | rfl | rfl | rfl | rfl | rfl | rfl | rfl | rfl | rfl | rfl | rfl | rfl | rfl | rfl | rfl | rfl | rfl | rfl | rfl | rfl | rfl | rfl | rfl | rfl | rfl | rfl | rfl | rfl | rfl <;> rfl)
theorem yWd_1 {s s' : zSto} (h : yWd s) (o : zOn zQ1 s s') : yWd s' := yWd_3 h (zOn_up o zi_13)
theorem yWd_a {s s' : zSto} (h : yWd s) (o : zOn zQa s s') : yWd s' := yWd_1 h (zOn_tr (zOn_rf zQ1 s) o zi_a1)
theorem yWd_2 {s s' : zSto} (h : yWd s) (o : zOn zQ2 s s') : yWd s' := yWd_3 h (zOn_up o zi_23)
theorem yrow_167 {s : zSto} (h : yWd s) : yRow s 167 4 0 := yRow_l (L := [112, 97, 110, 101]) (w := 0) (h (167, [112, 97, 110, 101]) (by decide)) (by decide +kernel)
theorem yrow_168 {s : zSto} (h : yWd s) : yRow s 168 2 1 := yRow_l (L := [98, 121]) (w := 1) (h (168, [98, 121]) (by decide)) (by decide +kernel)
theorem yrow_169 {s : zSto} (h : yWd s) : yRow s 169 5 2 := yRow_l (L := [116, 111, 117, 103, 104]) (w := 2) (h (169, [116, 111, 117, 103, 104]) (by decide)) (by decide +kernel)
theorem yrow_170 {s : zSto} (h : yWd s) : yRow s 170 5 3 := yRow_l (L := [104, 101, 97, 118, 121]) (w := 3) (h (170, [104, 101, 97, 118, 121]) (by decide)) (by decide +kernel)
theorem yrow_171 {s : zSto} (h : yWd s) : yRow s 171 4 4 := yRow_l (L := [112, 111, 108, 101]) (w := 4) (h (171, [112, 111, 108, 101]) (by decide)) (by decide +kernel)
theorem yrow_172 {s : zSto} (h : yWd s) : yRow s 172 2 5 := yRow_l (L := [97, 116]) (w := 5) (h (172, [97, 116]) (by decide)) (by decide +kernel)
theorem yrow_173 {s : zSto} (h : yWd s) : yRow s 173 5 6 := yRow_l (L := [108, 105, 102, 116, 115]) (w := 6) (h (173, [108, 105, 102, 116, 115]) (by decide)) (by decide +kernel)
theorem yrow_174 {s : zSto} (h : yWd s) : yRow s 174 4 7 := yRow_l (L := [97, 100, 100, 115]) (w := 7) (h (174, [97, 100, 100, 115]) (by decide)) (by decide +kernel)
theorem yrow_175 {s : zSto} (h : yWd s) : yRow s 175 5 8 := yRow_l (L := [104, 111, 108, 100, 115]) (w := 8) (h (175, [104, 111, 108, 100, 115]) (by decide)) (by decide +kernel)
theorem yrow_176 {s : zSto} (h : yWd s) : yRow s 176 5 9 := yRow_l (L := [102, 97, 100, 101, 115]) (w := 9) (h (176, [102, 97, 100, 101, 115]) (by decide)) (by decide +kernel)
theorem yrow_177 {s : zSto} (h : yWd s) : yRow s 177 5 10 := yRow_l (L := [115, 116, 111, 110, 101]) (w := 10) (h (177, [115, 116, 111, 110, 101]) (by decide)) (by decide +kernel)
theorem yrow_178 {s : zSto} (h : yWd s) : yRow s 178 4 11 := yRow_l (L := [104, 97, 105, 108]) (w := 11) (h (178, [104, 97, 105, 108]) (by decide)) (by decide +kernel)
theorem yrow_179 {s : zSto} (h : yWd s) : yRow s 179 4 12 := yRow_l (L := [104, 111, 117, 114]) (w := 12) (h (179, [104, 111, 117, 114]) (by decide)) (by decide +kernel)
theorem yrow_180 {s : zSto} (h : yWd s) : yRow s 180 6 13 := yRow_l (L := [99, 114, 97, 99, 107, 115]) (w := 13) (h (180, [99, 114, 97, 99, 107, 115]) (by decide)) (by decide +kernel)
theorem yrow_181 {s : zSto} (h : yWd s) : yRow s 181 6 14 := yRow_l (L := [119, 101, 105, 103, 104, 116]) (w := 14) (h (181, [119, 101, 105, 103, 104, 116]) (by decide)) (by decide +kernel)
theorem yrow_182 {s : zSto} (h : yWd s) : yRow s 182 5 15 := yRow_l (L := [116, 105, 114, 101, 100]) (w := 15) (h (182, [116, 105, 114, 101, 100]) (by decide)) (by decide +kernel)
theorem yrow_183 {s : zSto} (h : yWd s) : yRow s 183 4 16 := yRow_l (L := [110, 101, 97, 114]) (w := 16) (h (183, [110, 101, 97, 114]) (by decide)) (by decide +kernel)
theorem yrow_184 {s : zSto} (h : yWd s) : yRow s 184 6 17 := yRow_l (L := [110, 117, 109, 98, 101, 114]) (w := 17) (h (184, [110, 117, 109, 98, 101, 114]) (by decide)) (by decide +kernel)
theorem yrow_185 {s : zSto} (h : yWd s) : yRow s 185 6 18 := yRow_l (L := [99, 111, 108, 117, 109, 110]) (w := 18) (h (185, [99, 111, 108, 117, 109, 110]) (by decide)) (by decide +kernel)
theorem yrow_186 {s : zSto} (h : yWd s) : yRow s 186 3 19 := yRow_l (L := [114, 111, 119]) (w := 19) (h (186, [114, 111, 119]) (by decide)) (by decide +kernel)
theorem yrow_187 {s : zSto} (h : yWd s) : yRow s 187 3 20 := yRow_l (L := [102, 97, 114]) (w := 20) (h (187, [102, 97, 114]) (by decide)) (by decide +kernel)
theorem yrow_188 {s : zSto} (h : yWd s) : yRow s 188 2 21 := yRow_l (L := [111, 114]) (w := 21) (h (188, [111, 114]) (by decide)) (by decide +kernel)
theorem yrow_189 {s : zSto} (h : yWd s) : yRow s 189 3 22 := yRow_l (L := [97, 110, 100]) (w := 22) (h (189, [97, 110, 100]) (by decide)) (by decide +kernel)
theorem yrow_190 {s : zSto} (h : yWd s) : yRow s 190 3 23 := yRow_l (L := [110, 111, 116]) (w := 23) (h (190, [110, 111, 116]) (by decide)) (by decide +kernel)
theorem yrow_191 {s : zSto} (h : yWd s) : yRow s 191 3 24 := yRow_l (L := [97, 108, 108]) (w := 24) (h (191, [97, 108, 108]) (by decide)) (by decide +kernel)
theorem yrow_192 {s : zSto} (h : yWd s) : yRow s 192 3 25 := yRow_l (L := [109, 105, 110]) (w := 25) (h (192, [109, 105, 110]) (by decide)) (by decide +kernel)
theorem yrow_193 {s : zSto} (h : yWd s) : yRow s 193 3 26 := yRow_l (L := [109, 97, 120]) (w := 26) (h (193, [109, 97, 120]) (by decide)) (by decide +kernel)
theorem yrow_211 {s : zSto} (h : yWd s) : yRow s 211 5 27 := yRow_l (L := [102, 105, 114, 115, 116]) (w := 27) (h (211, [102, 105, 114, 115, 116]) (by decide)) (by decide +kernel)
theorem yrow_212 {s : zSto} (h : yWd s) : yRow s 212 4 28 := yRow_l (L := [108, 97, 115, 116]) (w := 28) (h (212, [108, 97, 115, 116]) (by decide)) (by decide +kernel)
theorem yrow_213 {s : zSto} (h : yWd s) : yRow s 213 5 29 := yRow_l (L := [111, 102, 116, 101, 110]) (w := 29) (h (213, [111, 102, 116, 101, 110]) (by decide)) (by decide +kernel)
theorem yrow_214 {s : zSto} (h : yWd s) : yRow s 214 5 30 := yRow_l (L := [116, 111, 116, 97, 108]) (w := 30) (h (214, [116, 111, 116, 97, 108]) (by decide)) (by decide +kernel)
theorem yrow_215 {s : zSto} (h : yWd s) : yRow s 215 4 31 := yRow_l (L := [109, 111, 115, 116]) (w := 31) (h (215, [109, 111, 115, 116]) (by decide)) (by decide +kernel)
theorem yrow_216 {s : zSto} (h : yWd s) : yRow s 216 5 32 := yRow_l (L := [108, 101, 97, 115, 116]) (w := 32) (h (216, [108, 101, 97, 115, 116]) (by decide)) (by decide +kernel)
theorem yrow_217 {s : zSto} (h : yWd s) : yRow s 217 3 23 := yRow_l (L := [110, 111, 116]) (w := 23) (h (217, [110, 111, 116]) (by decide)) (by decide +kernel)
theorem yrow_218 {s : zSto} (h : yWd s) : yRow s 218 3 22 := yRow_l (L := [97, 110, 100]) (w := 22) (h (218, [97, 110, 100]) (by decide)) (by decide +kernel)
theorem yrow_219 {s : zSto} (h : yWd s) : yRow s 219 2 21 := yRow_l (L := [111, 114]) (w := 21) (h (219, [111, 114]) (by decide)) (by decide +kernel)
theorem yrow_220 {s : zSto} (h : yWd s) : yRow s 220 3 24 := yRow_l (L := [97, 108, 108]) (w := 24) (h (220, [97, 108, 108]) (by decide)) (by decide +kernel)
theorem yrow_221 {s : zSto} (h : yWd s) : yRow s 221 3 25 := yRow_l (L := [109, 105, 110]) (w := 25) (h (221, [109, 105, 110]) (by decide)) (by decide +kernel)
theorem yrow_222 {s : zSto} (h : yWd s) : yRow s 222 3 26 := yRow_l (L := [109, 97, 120]) (w := 26) (h (222, [109, 97, 120]) (by decide)) (by decide +kernel)
theorem yrow_223 {s : zSto} (h : yWd s) : yRow s 223 4 12 := yRow_l (L := [104, 111, 117, 114]) (w := 12) (h (223, [104, 111, 117, 114]) (by decide)) (by decide +kernel)
theorem yrow_224 {s : zSto} (h : yWd s) : yRow s 224 6 13 := yRow_l (L := [99, 114, 97, 99, 107, 115]) (w := 13) (h (224, [99, 114, 97, 99, 107, 115]) (by decide)) (by decide +kernel)
theorem yrow_225 {s : zSto} (h : yWd s) : yRow s 225 6 14 := yRow_l (L := [119, 101, 105, 103, 104, 116]) (w := 14) (h (225, [119, 101, 105, 103, 104, 116]) (by decide)) (by decide +kernel)
theorem yrow_226 {s : zSto} (h : yWd s) : yRow s 226 5 6 := yRow_l (L := [108, 105, 102, 116, 115]) (w := 6) (h (226, [108, 105, 102, 116, 115]) (by decide)) (by decide +kernel)
theorem yrow_227 {s : zSto} (h : yWd s) : yRow s 227 5 15 := yRow_l (L := [116, 105, 114, 101, 100]) (w := 15) (h (227, [116, 105, 114, 101, 100]) (by decide)) (by decide +kernel)
theorem yrow_228 {s : zSto} (h : yWd s) : yRow s 228 4 16 := yRow_l (L := [110, 101, 97, 114]) (w := 16) (h (228, [110, 101, 97, 114]) (by decide)) (by decide +kernel)
theorem yrow_229 {s : zSto} (h : yWd s) : yRow s 229 6 17 := yRow_l (L := [110, 117, 109, 98, 101, 114]) (w := 17) (h (229, [110, 117, 109, 98, 101, 114]) (by decide)) (by decide +kernel)
theorem yrow_230 {s : zSto} (h : yWd s) : yRow s 230 6 18 := yRow_l (L := [99, 111, 108, 117, 109, 110]) (w := 18) (h (230, [99, 111, 108, 117, 109, 110]) (by decide)) (by decide +kernel)
theorem yrow_231 {s : zSto} (h : yWd s) : yRow s 231 3 19 := yRow_l (L := [114, 111, 119]) (w := 19) (h (231, [114, 111, 119]) (by decide)) (by decide +kernel)
theorem yrow_232 {s : zSto} (h : yWd s) : yRow s 232 5 8 := yRow_l (L := [104, 111, 108, 100, 115]) (w := 8) (h (232, [104, 111, 108, 100, 115]) (by decide)) (by decide +kernel)
theorem yrow_233 {s : zSto} (h : yWd s) : yRow s 233 3 20 := yRow_l (L := [102, 97, 114]) (w := 20) (h (233, [102, 97, 114]) (by decide)) (by decide +kernel)
