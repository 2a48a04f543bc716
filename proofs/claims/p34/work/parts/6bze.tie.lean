theorem zrv_z {x y : Int} (hx : -2147483648 ≤ x ∧ x ≤ 2147483647) (hy : -2147483648 ≤ y ∧ y ≤ 2147483647) (h : zrv (some .boolean) x = zrv (some .boolean) y) : x = y := by
  have h : some (Value.int (zI x)) = some (Value.int (zI y)) := h
  injection h with h
  injection h with h
  exact zI_inj hx hy h
theorem yIx_K {σ : zSto} {K : Nat} {r : Int} (h : yNum σ K) (e : yIr (yIx (yT σ) (σ 1 1) (σ K 10) (σ K 11) (σ K 12)) r) : yIr (yIx (yT σ) (σ 1 1) (σ 194 3) (σ 194 4) (σ 195 1)) r := by rw [h.1, h.2.1, h.2.2.1] at e; exact e
theorem yIx_B {σ s : zSto} {r : Int} (f : zFB σ s) (t : yTi σ) (e : σ 1 1 = σ 164 1) (h : yIr (yIx (yW s) (s 164 1) (s 194 3) (s 194 4) (s 195 1)) r) : yIr (yIx (yT σ) (σ 1 1) (σ 194 3) (σ 194 4) (σ 195 1)) r := by
  rw [yW_T f t e, congrFun (f 164 (by decide)) 1, ← e, congrFun (f 194 (by decide)) 3, congrFun (f 194 (by decide)) 4, congrFun (f 195 (by decide)) 1] at h
  exact h
theorem we_X11_on (l : Launch) (E : zEN) (σ : zSto) (hI : zInv σ) (hZ : yTz σ) : zCt l E yX11_on cX11_on 2 (some .boolean) 4 zNC zNC 0 0 σ [.ref (E.1 + 0)] (fun r σ' => zInv σ' ∧ zFD σ σ' ∧ 0 ≤ r ∧ r ≤ 1 ∧ (σ' 1 1 = 0) ∧ yIr (yIx (yT σ) (σ 1 1) (σ 194 3) (σ 194 4) (σ 195 1)) r) := by
  have g : zCt l E yX11_on cX11_on 2 (some .boolean) 4 zNC zNC 0 0 σ [.ref (E.1 + 0)] (fun r _ => (0 ≤ r ∧ r ≤ 1) ∧ yIr (yIx (yT σ) (σ 1 1) (σ 194 3) (σ 194 4) (σ 195 1)) r) := by
    rcases hZ with ⟨h1, -, h3⟩ | ⟨h1, -, h3⟩
    · exact zCt_post (yd_X11_on_7 l E σ hI h1) (fun r s _ x => ⟨⟨x.2.2.1, x.2.2.2.1⟩, yIx_K h3 x.2.2.2.2⟩)
    · exact zCt_post (yd_X11_on_17 l E σ hI h1) (fun r s _ x => ⟨⟨x.2.2.1, x.2.2.2.1⟩, yIx_K h3 x.2.2.2.2⟩)
  refine zCt_post (zCt_both (zc_X11_on l E σ hI) g) (fun r s hr x => ?_)
  obtain ⟨⟨x1, x2, x3, x4, x5⟩, r2, s2, t, ⟨p1, p2⟩, e, b, u1, u2⟩ := x
  exact ⟨x1, x2, x3, x4, x5, (zrv_z ⟨by omega, by omega⟩ ⟨by omega, by omega⟩ e) ▸ p2⟩
theorem we_X12_on (l : Launch) (E : zEN) (σ : zSto) (hI : zInv σ) (hZ : yTz σ) : zCt l E yX12_on cX12_on 5 (some .boolean) 4 zNC zNC 0 0 σ [.ref (E.1 + 164)] (fun r σ' => zInv σ' ∧ zGN σ σ' ∧ 0 ≤ r ∧ r ≤ 1 ∧ (σ' 164 1 = 0) ∧ yIr (yIx (yW σ) (σ 164 1) (σ 194 3) (σ 194 4) (σ 195 1)) r) := by
  refine zCt_post (zCt_both (zc_X12_on l E σ hI) (yd_X12_on l E σ hI (yPne_tz hZ))) (fun r s hr x => ?_)
  obtain ⟨⟨x1, x2, x3, x4, x5⟩, r2, s2, t, ⟨p1, p2, p3, p4, p5⟩, e, b, u1, u2⟩ := x
  exact ⟨x1, x2, x3, x4, x5, (zrv_z ⟨by omega, by omega⟩ ⟨by omega, by omega⟩ e) ▸ p5⟩
