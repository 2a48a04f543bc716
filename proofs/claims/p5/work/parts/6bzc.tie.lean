def yFtq (s : zSto) : Prop := s 0 15 = s 164 7 ∧ s 0 16 = s 164 8
theorem yFtq_C {σ s : zSto} (f : zFC σ s) (h : yFtq σ) : yFtq s := ⟨f.2.2.2.1.trans (h.1.trans (congrFun (f.1 164 (by decide)) 7).symm), f.2.2.2.2.trans (h.2.trans (congrFun (f.1 164 (by decide)) 8).symm)⟩
theorem yFtq_N {σ s : zSto} (f : zFN σ s) (a : s 164 7 = σ 164 7) (b : s 164 8 = σ 164 8) (h : yFtq σ) : yFtq s := ⟨(congrFun (f 0 (by decide)) 15).trans (h.1.trans a.symm), (congrFun (f 0 (by decide)) 16).trans (h.2.trans b.symm)⟩
theorem yFtq_M {σ s : zSto} (f : zFM σ s) (h : yFtq σ) : yFtq s := yFtq_N f.1 f.2.2.1 f.2.2.2 h
theorem yFtq_2 {σ s : zSto} (f : zOn zF2 σ s) (h : yFtq σ) : yFtq s := ⟨(f 0 15 rfl).trans (h.1.trans (f 164 7 rfl).symm), (f 0 16 rfl).trans (h.2.trans (f 164 8 rfl).symm)⟩
theorem yFtq_pane {σ s s' : zSto} (hc : yFl (yAll (yT σ)).1 (s 0 15) (s 0 16)) (hm : yMp (yAll (yW s)) s s') (e : yW s = yT σ) (f : zFN s s') : yFtq s' := by
  rw [e] at hm
  have q := yFl_u hc hm.2.2
  exact ⟨(congrFun (f 0 (by decide)) 15).trans q.1, (congrFun (f 0 (by decide)) 16).trans q.2⟩
theorem yFtq_ask {σ s s' : zSto} (h : yFtq σ) (hI : zInv σ) (fb : zFB σ s) (hc : yAf (σ 164 50) (yQst (yT σ)) (σ 0 15) (σ 0 16) (s 0 15) (s 0 16)) (hm : yAf (s 164 50) (yQst (yW s)) (s 164 7) (s 164 8) (s' 164 7) (s' 164 8)) (e : yW s = yT σ) (f : zFN s s') : yFtq s' := by
  rw [e, congrFun (fb 164 (by decide)) 50, congrFun (fb 164 (by decide)) 7, congrFun (fb 164 (by decide)) 8] at hm
  have g15 := congrFun (f 0 (by decide)) 15
  have g16 := congrFun (f 0 (by decide)) 16
  have b := zv_46_50 hI zc_164
  rcases (show σ 164 50 = 1 ∨ σ 164 50 = 0 by omega) with o | o
  · have q := yFl_u (hc.1 o) (hm.1 o)
    exact ⟨g15.trans q.1, g16.trans q.2⟩
  · obtain ⟨a1, a2⟩ := hc.2 o
    obtain ⟨b1, b2⟩ := hm.2 o
    exact ⟨g15.trans (a1.trans (h.1.trans b1.symm)), g16.trans (a2.trans (h.2.trans b2.symm))⟩
theorem wg_X12_ask (l : Launch) (E : zEN) (σ : zSto) (hI : zInv σ) (hW : zWF σ) (hWd : yWd σ) : zCt l E yX12_ask cX12_ask 3 (some .long) 9 zNC zNC 0 0 σ [.ref (E.1 + 164)] (fun r σ' => zInv σ' ∧ zGN σ σ' ∧ -9223372036854775808 ≤ r ∧ r ≤ 9223372036854775807 ∧ (zwf σ' = 1) ∧ (σ' 164 54 = σ 164 54) ∧ (σ' 164 1 = 0) ∧ yAf (σ 164 50) (yQst (yW σ)) (σ 164 7) (σ 164 8) (σ' 164 7) (σ' 164 8)) := by
  refine zCt_post (zCt_both (zc_X12_ask l E σ hI hW) (yc_X12_ask l E σ hI hWd hW)) (fun r s _ x => ?_)
  obtain ⟨⟨x1, x2, x3, x4, x5, x6, x7⟩, r2, s2, t, ⟨p1, p2, p3, p4, p5, p6⟩, e, b, u1, u2⟩ := x
  have bi : ∀ {v : Int} {lo hi : Int}, lo ≤ v ∧ v ≤ hi → -2147483648 ≤ lo → hi ≤ 2147483647 → -2147483648 ≤ v ∧ v ≤ 2147483647 := fun h a b => ⟨by omega, by omega⟩
  have n5 : s 164 7 = s2 164 7 := zag_f u1 u2 (by decide) zc_164 zs_46 (by decide) (fun _ => rfl) (bi (zv_46_7 x1 zc_164) (by decide) (by decide)) (bi (zv_46_7 p1 zc_164) (by decide) (by decide))
  have n6 : s 164 8 = s2 164 8 := zag_f u1 u2 (by decide) zc_164 zs_46 (by decide) (fun _ => rfl) (bi (zv_46_8 x1 zc_164) (by decide) (by decide)) (bi (zv_46_8 p1 zc_164) (by decide) (by decide))
  exact ⟨x1, x2, x3, x4, x5, x6, x7, by rw [n5, n6]; exact ⟨p5, p6⟩⟩
