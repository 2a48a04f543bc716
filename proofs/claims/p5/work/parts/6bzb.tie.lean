def yNum (s : zSto) (K : Nat) : Prop := s K 10 = s 194 3 ∧ s K 11 = s 194 4 ∧ s K 12 = s 195 1 ∧ ((s 164 50 = 1 ∧ 2 ≤ s 194 3 ∧ 2 ≤ s 194 4) ∨ (s 164 50 = 0 ∧ s 194 3 = 0 ∧ s 194 4 = 0 ∧ s 195 1 = 0))
def yTz (s : zSto) : Prop := (s 0 3 = 7 ∧ s 0 4 = 17 ∧ yNum s 7) ∨ (s 0 3 = 17 ∧ s 0 4 = 7 ∧ yNum s 17)
theorem yNum_eq {σ s : zSto} {K : Nat} (h : yNum σ K) (a : s K 10 = σ K 10 ∧ s K 11 = σ K 11 ∧ s K 12 = σ K 12) (b : s 194 3 = σ 194 3 ∧ s 194 4 = σ 194 4 ∧ s 195 1 = σ 195 1 ∧ s 164 50 = σ 164 50) : yNum s K := by
  unfold yNum at *
  rw [a.1, a.2.1, a.2.2, b.1, b.2.1, b.2.2.1, b.2.2.2]
  exact h
theorem yTz_eq {σ s : zSto} (h : yTz σ) (z : s 0 3 = σ 0 3 ∧ s 0 4 = σ 0 4) (a : s 7 10 = σ 7 10 ∧ s 7 11 = σ 7 11 ∧ s 7 12 = σ 7 12) (c : s 17 10 = σ 17 10 ∧ s 17 11 = σ 17 11 ∧ s 17 12 = σ 17 12) (b : s 194 3 = σ 194 3 ∧ s 194 4 = σ 194 4 ∧ s 195 1 = σ 195 1 ∧ s 164 50 = σ 164 50) : yTz s := by
  rcases h with ⟨h1, h2, h3⟩ | ⟨h1, h2, h3⟩
  · exact Or.inl ⟨z.1.trans h1, z.2.trans h2, yNum_eq h3 a b⟩
  · exact Or.inr ⟨z.1.trans h1, z.2.trans h2, yNum_eq h3 c b⟩
theorem yTz_C {σ s : zSto} (f : zFC σ s) (h : yTz σ) : yTz s := yTz_eq h ⟨f.2.1, f.2.2.1⟩ ⟨congrFun (f.1 7 (by decide)) 10, congrFun (f.1 7 (by decide)) 11, congrFun (f.1 7 (by decide)) 12⟩ ⟨congrFun (f.1 17 (by decide)) 10, congrFun (f.1 17 (by decide)) 11, congrFun (f.1 17 (by decide)) 12⟩ ⟨congrFun (f.1 194 (by decide)) 3, congrFun (f.1 194 (by decide)) 4, congrFun (f.1 195 (by decide)) 1, congrFun (f.1 164 (by decide)) 50⟩
theorem yKl_n {σ s : zSto} (k : zKl σ s) : s 194 3 = σ 194 3 ∧ s 194 4 = σ 194 4 ∧ s 195 1 = σ 195 1 ∧ s 164 50 = σ 164 50 := ⟨k.2.2.2.1 3 (by decide), k.2.2.2.1 4 (by decide), k.2.2.2.2.2.1, k.2.2.2.2.1⟩
theorem yTz_N {σ s : zSto} (f : zFN σ s) (k : zKl σ s) (h : yTz σ) : yTz s := yTz_eq h ⟨congrFun (f 0 (by decide)) 3, congrFun (f 0 (by decide)) 4⟩ ⟨congrFun (f 7 (by decide)) 10, congrFun (f 7 (by decide)) 11, congrFun (f 7 (by decide)) 12⟩ ⟨congrFun (f 17 (by decide)) 10, congrFun (f 17 (by decide)) 11, congrFun (f 17 (by decide)) 12⟩ (yKl_n k)
theorem yTz_T {σ s : zSto} (f : zFT σ s) (k : zKl σ s) (h : yTz σ) : yTz s := yTz_eq h ⟨congrFun (f 0 (by decide)) 3, congrFun (f 0 (by decide)) 4⟩ ⟨congrFun (f 7 (by decide)) 10, congrFun (f 7 (by decide)) 11, congrFun (f 7 (by decide)) 12⟩ ⟨congrFun (f 17 (by decide)) 10, congrFun (f 17 (by decide)) 11, congrFun (f 17 (by decide)) 12⟩ (yKl_n k)
def yCp (A : yP × yPl × Int) (σ s : zSto) : Prop := (yPo A.1 = 1 → (s 0 3 = 7 ∧ s 0 4 = 17 ∧ yNc s 7 A.2.1) ∨ (s 0 3 = 17 ∧ s 0 4 = 7 ∧ yNc s 17 A.2.1)) ∧ (yPo A.1 = 0 → s 0 3 = σ 0 3 ∧ s 0 4 = σ 0 4 ∧ ((σ 0 3 = 7 ∧ s 7 10 = σ 7 10 ∧ s 7 11 = σ 7 11 ∧ s 7 12 = σ 7 12) ∨ (σ 0 3 = 17 ∧ s 17 10 = σ 17 10 ∧ s 17 11 = σ 17 11 ∧ s 17 12 = σ 17 12)))
def yMp (A : yP × yPl × Int) (σ s : zSto) : Prop := (yPo A.1 = 1 → yNr s A.2.1) ∧ (yPo A.1 = 0 → s 194 3 = σ 194 3 ∧ s 194 4 = σ 194 4 ∧ s 195 1 = σ 195 1 ∧ s 164 50 = σ 164 50) ∧ yFl A.1 (s 164 7) (s 164 8)
theorem yTz_pane {σ s s' : zSto} (h : yTz σ) (fb : zFB σ s) (hc : yCp (yAll (yT σ)) σ s) (hm : yMp (yAll (yW s)) s s') (e : yW s = yT σ) (f : zFN s s') : yTz s' := by
  rw [e] at hm
  have g0 : ∀ j, s' 0 j = s 0 j := fun j => congrFun (f 0 (by decide)) j
  have g7 : ∀ j, s' 7 j = s 7 j := fun j => congrFun (f 7 (by decide)) j
  have g17 : ∀ j, s' 17 j = s 17 j := fun j => congrFun (f 17 (by decide)) j
  have q : ∀ K : Nat, (∀ j, s' K j = s K j) → yNc s K (yAll (yT σ)).2.1 → yNr s' (yAll (yT σ)).2.1 → yNum s' K := fun K g c r => ⟨(g 10).trans (c.1.trans r.1.symm), (g 11).trans (c.2.1.trans r.2.1.symm), (g 12).trans (c.2.2.trans r.2.2.1.symm), Or.inl ⟨r.2.2.2.1, r.2.2.2.2.1, r.2.2.2.2.2⟩⟩
  rcases yPo_b (yAll (yT σ)).1 with o | o
  · rcases hc.1 o with ⟨c1, c2, c3⟩ | ⟨c1, c2, c3⟩
    · exact Or.inl ⟨(g0 3).trans c1, (g0 4).trans c2, q 7 g7 c3 (hm.1 o)⟩
    · exact Or.inr ⟨(g0 3).trans c1, (g0 4).trans c2, q 17 g17 c3 (hm.1 o)⟩
  · obtain ⟨c1, c2, c3⟩ := hc.2 o
    obtain ⟨m1, m2, m3, m4⟩ := hm.2.1 o
    have b : s' 194 3 = σ 194 3 ∧ s' 194 4 = σ 194 4 ∧ s' 195 1 = σ 195 1 ∧ s' 164 50 = σ 164 50 := ⟨m1.trans (congrFun (fb 194 (by decide)) 3), m2.trans (congrFun (fb 194 (by decide)) 4), m3.trans (congrFun (fb 195 (by decide)) 1), m4.trans (congrFun (fb 164 (by decide)) 50)⟩
    rcases h with ⟨h1, h2, h3⟩ | ⟨h1, h2, h3⟩
    · rcases c3 with ⟨-, d1, d2, d3⟩ | ⟨d, -⟩
      · exact Or.inl ⟨(g0 3).trans (c1.trans h1), (g0 4).trans (c2.trans h2), yNum_eq h3 ⟨(g7 10).trans d1, (g7 11).trans d2, (g7 12).trans d3⟩ b⟩
      · exact absurd (h1.symm.trans d) (by decide)
    · rcases c3 with ⟨d, -⟩ | ⟨-, d1, d2, d3⟩
      · exact absurd (h1.symm.trans d) (by decide)
      · exact Or.inr ⟨(g0 3).trans (c1.trans h1), (g0 4).trans (c2.trans h2), yNum_eq h3 ⟨(g17 10).trans d1, (g17 11).trans d2, (g17 12).trans d3⟩ b⟩
theorem we_X11_pane (l : Launch) (E : zEN) (σ : zSto) (hI : zInv σ) (hW : yTab σ) (hZ : yTz σ) : zCt l E yX11_pane cX11_pane 3 (some .int) 38 zNC zNC 0 0 σ [.ref (E.1 + 0)] (fun r σ' => zInv σ' ∧ zFB σ σ' ∧ -1 ≤ r ∧ r ≤ 80 ∧ (σ' 1 1 = 0) ∧ yCp (yAll (yT σ)) σ σ' ∧ yCn (yAll (yT σ)) σ σ' ∧ yFl (yAll (yT σ)).1 (σ' 0 15) (σ' 0 16) ∧ yAns (yAll (yT σ)) r) := by
  rcases hZ with ⟨h1, h2, -⟩ | ⟨h1, h2, -⟩
  · refine zCt_post (yd_X11_pane_17 l E σ hI h2 h1 hW) (fun r s _ x => ?_)
    obtain ⟨x1, x2, x3, x4, x5, x6, x7, x8, x9, x10, x11⟩ := x
    exact ⟨x1, zFB_on x2, x3, x4, x5, ⟨fun o => Or.inr (x7 o), fun o => ⟨(x8 o).1, (x8 o).2.1, Or.inl ⟨h1, (x8 o).2.2⟩⟩⟩, ⟨fun o => Or.inr ⟨(x7 o).1, x9 o⟩, fun o => ⟨(x8 o).1, Or.inl ⟨h1, x10 o⟩⟩⟩, x11, x6⟩
  · refine zCt_post (yd_X11_pane_7 l E σ hI h2 h1 hW) (fun r s _ x => ?_)
    obtain ⟨x1, x2, x3, x4, x5, x6, x7, x8, x9, x10, x11⟩ := x
    exact ⟨x1, zFB_on x2, x3, x4, x5, ⟨fun o => Or.inl (x7 o), fun o => ⟨(x8 o).1, (x8 o).2.1, Or.inr ⟨h1, (x8 o).2.2⟩⟩⟩, ⟨fun o => Or.inl ⟨(x7 o).1, x9 o⟩, fun o => ⟨(x8 o).1, Or.inr ⟨h1, x10 o⟩⟩⟩, x11, x6⟩
theorem yTz_B {σ s : zSto} (f : zFB σ s) (h : yTz σ) (z : s 0 3 = σ 0 3 ∧ s 0 4 = σ 0 4) (a : s 7 10 = σ 7 10 ∧ s 7 11 = σ 7 11 ∧ s 7 12 = σ 7 12) (c : s 17 10 = σ 17 10 ∧ s 17 11 = σ 17 11 ∧ s 17 12 = σ 17 12) : yTz s := yTz_eq h z a c ⟨congrFun (f 194 (by decide)) 3, congrFun (f 194 (by decide)) 4, congrFun (f 195 (by decide)) 1, congrFun (f 164 (by decide)) 50⟩
def yAf (k : Int) (p : yP) (a b a' b' : Int) : Prop := (k = 1 → yFl p a' b') ∧ (k = 0 → a' = a ∧ b' = b)
theorem we_X11_ask (l : Launch) (E : zEN) (σ : zSto) (hI : zInv σ) (hW : yTab σ) (hZ : yTz σ) : zCt l E yX11_ask cX11_ask 3 (some .long) 36 zNC zNC 0 0 σ [.ref (E.1 + 0)] (fun r σ' => zInv σ' ∧ zFB σ σ' ∧ -9223372036854775808 ≤ r ∧ r ≤ 9223372036854775807 ∧ (σ' 1 1 = 0) ∧ yAf (σ 164 50) (yQst (yT σ)) (σ 0 15) (σ 0 16) (σ' 0 15) (σ' 0 16) ∧ yTz σ' ∧ σ' 0 3 = σ 0 3 ∧ zOn zPq σ σ') := by
  rcases id hZ with ⟨h1, h2, h3⟩ | ⟨h1, h2, h3⟩
  · refine zCt_post (yd_X11_ask_7 l E σ hI h1 hW) (fun r s _ x => ?_)
    obtain ⟨x1, x2, x3, x4, x5, x6, x7, x8, x9, x10⟩ := x
    refine ⟨x1, zFB_on (zOn_qb x2), x3, x4, x5, ⟨fun o => x9 ?_, fun o => x10 ?_⟩, yTz_B (zFB_on (zOn_qb x2)) hZ x6 x7 x8, x6.1, x2⟩ <;> rcases h3.2.2.2 with t | t <;> have := h3.1 <;> omega
  · refine zCt_post (yd_X11_ask_17 l E σ hI h1 hW) (fun r s _ x => ?_)
    obtain ⟨x1, x2, x3, x4, x5, x6, x7, x8, x9, x10⟩ := x
    refine ⟨x1, zFB_on (zOn_qb x2), x3, x4, x5, ⟨fun o => x9 ?_, fun o => x10 ?_⟩, yTz_B (zFB_on (zOn_qb x2)) hZ x6 x7 x8, x6.1, x2⟩ <;> rcases h3.2.2.2 with t | t <;> have := h3.1 <;> omega
def yIg (s : zSto) : Int := 3 + s 194 3 * s 194 4 + 4 * s 195 1
theorem yIg_B {σ s : zSto} (f : zFB σ s) : yIg s = yIg σ := by
  have a := congrFun (f 194 (by decide)) 3
  have b := congrFun (f 194 (by decide)) 4
  have c := congrFun (f 195 (by decide)) 1
  unfold yIg
  rw [a, b, c]
theorem yIg_K {σ : zSto} {K : Nat} {r : Int} (h : yNum σ K) (e : r = 3 + σ K 10 * σ K 11 + 4 * σ K 12) : r = yIg σ := by rw [e, h.1, h.2.1, h.2.2.1]; rfl
theorem we_X12_pane (l : Launch) (E : zEN) (σ : zSto) (hI : zInv σ) (hW : zWF σ) (hWd : yWd σ) : zCt l E yX12_pane cX12_pane 2 (some .int) 11 zNC zNC 0 0 σ [.ref (E.1 + 164)] (fun r σ' => zInv σ' ∧ zFN σ σ' ∧ -2147483648 ≤ r ∧ r ≤ 2147483647 ∧ (zwf σ' = 1) ∧ (σ' 164 54 = σ 164 54) ∧ (σ' 164 1 = 0) ∧ yMp (yAll (yW σ)) σ σ' ∧ yMn (yAll (yW σ)) σ σ' ∧ yAns (yAll (yW σ)) r) := by
  refine zCt_post (zCt_both (zc_X12_pane l E σ hI hW) (yc_X12_pane l E σ hI hWd)) (fun r s hr x => ?_)
  obtain ⟨⟨x1, x2, x3, x4, x5, x6, x7⟩, r2, s2, t, ⟨p1, p2, p3, p4, p5, p6, p7, p8, p9, p10⟩, e, b, u1, u2⟩ := x
  have q : r = r2 := zrv_i ⟨x3, x4⟩ ⟨p3, p4⟩ e
  have bi : ∀ {v : Int} {lo hi : Int}, lo ≤ v ∧ v ≤ hi → -2147483648 ≤ lo → hi ≤ 2147483647 → -2147483648 ≤ v ∧ v ≤ 2147483647 := fun h a b => ⟨by omega, by omega⟩
  have n1 : s 194 3 = s2 194 3 := zag_i u1 u2 (by decide) zc_194 zs_76 (by decide) (by decide) (zv_76 x1 zc_194 3).1 (zv_76 p1 zc_194 3).1
  have n2 : s 194 4 = s2 194 4 := zag_i u1 u2 (by decide) zc_194 zs_76 (by decide) (by decide) (zv_76 x1 zc_194 4).1 (zv_76 p1 zc_194 4).1
  have n3 : s 195 1 = s2 195 1 := zag_i u1 u2 (by decide) zc_195 zs_77 (by decide) (by decide) (bi (zv_77 x1 zc_195 1) (by decide) (by decide)) (bi (zv_77 p1 zc_195 1) (by decide) (by decide))
  have n4 : s 164 50 = s2 164 50 := zag_f u1 u2 (by decide) zc_164 zs_46 (by decide) (fun _ => rfl) (bi (zv_46_50 x1 zc_164) (by decide) (by decide)) (bi (zv_46_50 p1 zc_164) (by decide) (by decide))
  have n5 : s 164 7 = s2 164 7 := zag_f u1 u2 (by decide) zc_164 zs_46 (by decide) (fun _ => rfl) (bi (zv_46_7 x1 zc_164) (by decide) (by decide)) (bi (zv_46_7 p1 zc_164) (by decide) (by decide))
  have n6 : s 164 8 = s2 164 8 := zag_f u1 u2 (by decide) zc_164 zs_46 (by decide) (fun _ => rfl) (bi (zv_46_8 x1 zc_164) (by decide) (by decide)) (bi (zv_46_8 p1 zc_164) (by decide) (by decide))
  have n7 : ∀ i : Nat, i < 10 → s 196 (10 + i) = s2 196 (10 + i) := fun i hi => zag_l u1 u2 (by decide) zc_196 zs_78 (by omega) (zv_78 x1 zc_196 _) (zv_78 p1 zc_196 _)
  have n8 := zv_77 x1 zc_195 1
  refine ⟨x1, x2, x3, x4, x5, x6, x7, ⟨fun o => ?_, fun o => ?_, ?_⟩, ⟨fun o => ?_, fun o => ?_⟩, q ▸ p5⟩
  · obtain ⟨a1, a2, a3, a4, a5, a6⟩ := p6 o
    exact ⟨n1.trans a1, n2.trans a2, n3.trans a3, n4.trans a4, by rw [n1]; exact a5, by rw [n2]; exact a6⟩
  · obtain ⟨a1, a2, a3, a4⟩ := p7 o
    exact ⟨n1.trans a1, n2.trans a2, n3.trans a3, n4.trans a4⟩
  · rw [n5, n6]; exact p8
  · obtain ⟨a1, a2⟩ := p9 o
    refine ⟨?_, fun i h9 hi => by rw [n7 i h9]; exact a2 i (by omega)⟩
    rw [a1, n3]
    refine List.map_congr_left (fun i hi => ?_)
    have hi := List.mem_range.mp hi
    show yPd (s2 196 (10 + i)) = yPd (s 196 (10 + i))
    rw [n7 i (by omega)]
  · exact ⟨n3.trans (p7 o).2.2.1, fun i hi => (n7 i hi).trans (p10 o (10 + i) (by omega))⟩
theorem we_X11_image (l : Launch) (E : zEN) (σ : zSto) (hI : zInv σ) (hZ : yTz σ) : zCt l E yX11_image cX11_image 2 (some .int) 2 zNC zNC 0 0 σ [.ref (E.1 + 0)] (fun r σ' => zInv σ' ∧ zFE σ σ' ∧ -2147483648 ≤ r ∧ r ≤ 2147483647 ∧ r = yIg σ) := by
  have g : zCt l E yX11_image cX11_image 2 (some .int) 2 zNC zNC 0 0 σ [.ref (E.1 + 0)] (fun r _ => (-2147483648 ≤ r ∧ r ≤ 2147483647) ∧ r = yIg σ) := by
    rcases hZ with ⟨h1, -, h3⟩ | ⟨h1, -, h3⟩
    · exact zCt_post (yd_X11_image_7 l E σ hI h1) (fun r s _ x => ⟨⟨x.2.2.1, x.2.2.2.1⟩, yIg_K h3 x.2.2.2.2⟩)
    · exact zCt_post (yd_X11_image_17 l E σ hI h1) (fun r s _ x => ⟨⟨x.2.2.1, x.2.2.2.1⟩, yIg_K h3 x.2.2.2.2⟩)
  refine zCt_post (zCt_both (zc_X11_image l E σ hI) g) (fun r s hr x => ?_)
  obtain ⟨⟨x1, x2, x3, x4⟩, r2, s2, t, ⟨p1, p2⟩, e, b, u1, u2⟩ := x
  exact ⟨x1, x2, x3, x4, (zrv_i ⟨x3, x4⟩ p1 e).trans p2⟩
theorem we_X12_image (l : Launch) (E : zEN) (σ : zSto) (hI : zInv σ) : zCt l E yX12_image cX12_image 2 (some .int) 1 zNC zNC 0 0 σ [.ref (E.1 + 164)] (fun r σ' => zInv σ' ∧ zGM σ σ' ∧ 0 ≤ r ∧ r ≤ 79 ∧ r = yIg σ) := by
  refine zCt_post (zCt_both (zc_X12_image l E σ hI) (yd_X12_image l E σ hI)) (fun r s hr x => ?_)
  obtain ⟨⟨x1, x2, x3, x4⟩, r2, s2, t, ⟨p1, p2, p3, p4, p5⟩, e, b, u1, u2⟩ := x
  exact ⟨x1, x2, x3, x4, (zrv_i ⟨by omega, by omega⟩ ⟨p3, p4⟩ e).trans p5⟩
