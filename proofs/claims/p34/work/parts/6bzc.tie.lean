theorem yPne_tz {σ : zSto} (h : yTz σ) : yPne σ := by
  have q : ∀ K, yNum σ K → yPne σ := fun K n => by
    rcases n.2.2.2 with t | t
    · exact Or.inl ⟨t.1, t.2.1⟩
    · exact Or.inr ⟨t.1, t.2.1⟩
  rcases h with ⟨-, -, h⟩ | ⟨-, -, h⟩
  · exact q 7 h
  · exact q 17 h
theorem ySx_K {σ : zSto} {K : Nat} {r : Int} (h : yNum σ K) (e : ySx (yT σ) (σ 1 1) (σ K 10) (σ K 11) r) : ySx (yT σ) (σ 1 1) (σ 194 3) (σ 194 4) r := by rw [h.1, h.2.1] at e; exact e
theorem ySx_B {σ s : zSto} {r : Int} (f : zFB σ s) (t : yTi σ) (e : σ 1 1 = σ 164 1) (h : ySx (yW s) (s 164 1) (s 194 3) (s 194 4) r) : ySx (yT σ) (σ 1 1) (σ 194 3) (σ 194 4) r := by
  rw [yW_T f t e, congrFun (f 164 (by decide)) 1, ← e, congrFun (f 194 (by decide)) 3, congrFun (f 194 (by decide)) 4] at h
  exact h
theorem we_X11_sound (l : Launch) (E : zEN) (σ : zSto) (hI : zInv σ) (hZ : yTz σ) : zCt l E yX11_sound cX11_sound 2 (some .int) 3 zNC zNC 0 0 σ [.ref (E.1 + 0)] (fun r σ' => zInv σ' ∧ zFD σ σ' ∧ -2147483648 ≤ r ∧ r ≤ 2147483647 ∧ (σ' 1 1 = 0) ∧ ySx (yT σ) (σ 1 1) (σ 194 3) (σ 194 4) r) := by
  have g : zCt l E yX11_sound cX11_sound 2 (some .int) 3 zNC zNC 0 0 σ [.ref (E.1 + 0)] (fun r _ => (-2147483648 ≤ r ∧ r ≤ 2147483647) ∧ ySx (yT σ) (σ 1 1) (σ 194 3) (σ 194 4) r) := by
    rcases hZ with ⟨h1, -, h3⟩ | ⟨h1, -, h3⟩
    · exact zCt_post (yd_X11_sound_7 l E σ hI h1) (fun r s _ x => ⟨⟨x.2.2.1, x.2.2.2.1⟩, ySx_K h3 x.2.2.2.2⟩)
    · exact zCt_post (yd_X11_sound_17 l E σ hI h1) (fun r s _ x => ⟨⟨x.2.2.1, x.2.2.2.1⟩, ySx_K h3 x.2.2.2.2⟩)
  refine zCt_post (zCt_both (zc_X11_sound l E σ hI) g) (fun r s hr x => ?_)
  obtain ⟨⟨x1, x2, x3, x4, x5⟩, r2, s2, t, ⟨p1, p2⟩, e, b, u1, u2⟩ := x
  exact ⟨x1, x2, x3, x4, x5, (zrv_i ⟨x3, x4⟩ p1 e) ▸ p2⟩
theorem we_X12_sound (l : Launch) (E : zEN) (σ : zSto) (hI : zInv σ) (hZ : yTz σ) : zCt l E yX12_sound cX12_sound 4 (some .int) 2 zNC zNC 0 0 σ [.ref (E.1 + 164)] (fun r σ' => zInv σ' ∧ zGN σ σ' ∧ -1 ≤ r ∧ r ≤ 12 ∧ (σ' 164 1 = 0) ∧ ySx (yW σ) (σ 164 1) (σ 194 3) (σ 194 4) r) := by
  refine zCt_post (zCt_both (zc_X12_sound l E σ hI) (yd_X12_sound l E σ hI (yPne_tz hZ))) (fun r s hr x => ?_)
  obtain ⟨⟨x1, x2, x3, x4, x5⟩, r2, s2, t, ⟨p1, p2, p3, p4, p5⟩, e, b, u1, u2⟩ := x
  exact ⟨x1, x2, x3, x4, x5, (zrv_i ⟨by omega, by omega⟩ ⟨p3, p4⟩ e) ▸ p5⟩
