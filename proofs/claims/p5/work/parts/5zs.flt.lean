def zGk (k j : Nat) : Bool := zkn k || (k == 200 && decide (2 ≤ j)) || (k == 201 && decide (2 ≤ j)) || (k == 202 && decide (1600 ≤ j)) || (k == 194 && decide (3 ≤ j)) || (k == 164 && (j == 50 || j == 54)) || (k == 195 && j == 1) || (k == 196 && decide (10 ≤ j))
def zQk (k j : Nat) : Bool := !(zGk k j)
theorem zGN_k {a b : zSto} (h : zGN a b) : zOn zQk a b := fun k j x => by
  have y : zGk k j = true := by
    cases z : zGk k j
    · unfold zQk at x; rw [z] at x; exact absurd x (by decide)
    · rfl
  simp only [zGk, Bool.or_eq_true, Bool.and_eq_true, beq_iff_eq, decide_eq_true_eq] at y
  rcases y with ((((((y | y) | y) | y) | y) | y) | y) | y
  · exact congrFun (h.1 k y) j
  · obtain ⟨rfl, q⟩ := y; exact h.2.1.1 j q
  · obtain ⟨rfl, q⟩ := y; exact h.2.1.2.1 j q
  · obtain ⟨rfl, q⟩ := y; exact h.2.1.2.2.1 j q
  · obtain ⟨rfl, q⟩ := y; exact h.2.1.2.2.2.1 j q
  · obtain ⟨rfl, q⟩ := y
    rcases q with rfl | rfl
    · exact h.2.1.2.2.2.2.1
    · exact h.2.2
  · obtain ⟨rfl, rfl⟩ := y; exact h.2.1.2.2.2.2.2.1
  · obtain ⟨rfl, q⟩ := y; exact h.2.1.2.2.2.2.2.2 j q
theorem zOn_g {a b : zSto} (h : zOn zQk a b) : zGN a b := by
  refine ⟨fun k hk => funext fun j => h k j ?_, ⟨fun j hj => h 200 j ?_, fun j hj => h 201 j ?_, fun j hj => h 202 j ?_, fun j hj => h 194 j ?_, h 164 50 (by decide), h 195 1 (by decide), fun j hj => h 196 j ?_⟩, h 164 54 (by decide)⟩
  · simp [zQk, zGk, hk]
  · simp [zQk, zGk, hj]
  · simp [zQk, zGk, hj]
  · simp [zQk, zGk, hj]
  · simp [zQk, zGk, hj]
  · simp [zQk, zGk, hj]
theorem yWd_g {s s' : zSto} (h : yWd s) (o : zOn zQk s s') : yWd s' := yWd_r h (zOn_r (zOn_g o).1)
theorem yRq_ag {E : zEN} {n : Nat} {s1 s2 : zSto} {t : State} (u1 : zU E n s1 t) (u2 : zU E n s2 t) (hn : 164 < n) (I1 : zInv s1) (I2 : zInv s2) (ht : ∀ j, s1 165 j = s2 165 j) : yRq s2 s1 := by
  have bi : ∀ {v : Int} {lo hi : Int}, lo ≤ v ∧ v ≤ hi → -2147483648 ≤ lo → hi ≤ 2147483647 → -2147483648 ≤ v ∧ v ≤ 2147483647 := fun h a b => ⟨by omega, by omega⟩
  refine ⟨ht, ?_, ?_, ?_, ?_, ?_⟩
  · exact zag_f u1 u2 hn zc_164 zs_46 (by decide) (fun _ => rfl) (bi (zv_46_2 I1 zc_164) (by decide) (by decide)) (bi (zv_46_2 I2 zc_164) (by decide) (by decide))
  · exact zag_f u1 u2 hn zc_164 zs_46 (by decide) (fun _ => rfl) (bi (zv_46_3 I1 zc_164) (by decide) (by decide)) (bi (zv_46_3 I2 zc_164) (by decide) (by decide))
  · exact zag_f u1 u2 hn zc_164 zs_46 (by decide) (fun _ => rfl) (bi (zv_46_4 I1 zc_164) (by decide) (by decide)) (bi (zv_46_4 I2 zc_164) (by decide) (by decide))
  · exact zag_f u1 u2 hn zc_164 zs_46 (by decide) (fun _ => rfl) (bi (zv_46_5 I1 zc_164) (by decide) (by decide)) (bi (zv_46_5 I2 zc_164) (by decide) (by decide))
  · exact zag_f u1 u2 hn zc_164 zs_46 (by decide) (fun _ => rfl) (bi (zv_46_6 I1 zc_164) (by decide) (by decide)) (bi (zv_46_6 I2 zc_164) (by decide) (by decide))
theorem ye_X12_qTest (l : Launch) (E : zEN) (σ : zSto) (hI : zInv σ) (hpre0 : σ 164 5 = 0) (hpre1 : σ 164 97 = 0) (hpre2 : σ 164 99 = 0) (hpre3 : σ 164 100 = 0) (hpre4 : σ 164 101 = 0) (f : Int → Int) (hT : yTq f σ) (hWd : yWd σ) (h51 : σ 164 51 = 2) (hz : zt σ = 1) (hb : zBt σ ≤ zHt σ) : zCt l E yX12_qTest cX12_qTest 3 none 8 zNC zNC 0 0 σ [.ref (E.1 + 164)] (fun r σ' => zInv σ' ∧ zOn zQ2 σ σ' ∧ yTq f σ' ∧ (yTst 2 f (yqs f σ) (yqs f σ')) ∧ (yIm (σ' 164 5 = 0) (zt σ' = 1))) := by
  have b := hT.2.2.1
  have q0 := yQb_q hT rfl ((yHb hT rfl).1 hpre0)
  refine zCt_post (zCt_both (zc_X12_qTest l E σ hI hpre0 (by omega) (by omega) hz hb) (yc_X12_qTest l E σ hI hpre0 hpre1 hpre2 hpre3 hpre4 f hT 0 2 (by decide) hWd h51 ⟨by decide, q0.1⟩)) (fun r s _ x => ?_)
  obtain ⟨⟨x1, x2, -, -, -, -, -, x8⟩, r2, s2, t, ⟨p1, p2, p3, p4, -⟩, -, -, u1, u2⟩ := x
  have k := yRq_ag u1 u2 (by decide) x1 p1 (fun j => (x2 165 j rfl).trans (p2 165 j rfl).symm)
  refine ⟨x1, x2, yTq_rk p3 k, ?_, x8⟩
  rw [yqs_rk k]
  exact p4
theorem ye_X12_qSums (l : Launch) (E : zEN) (σ : zSto) (hI : zInv σ) (hpre0 : σ 164 5 = 0) (hpre1 : σ 164 97 = 0) (hpre2 : σ 164 99 = 0) (hpre3 : σ 164 100 = 0) (f : Int → Int) (hT : yTq f σ) (hWd : yWd σ) (h51 : σ 164 51 = 2) (hz : zt σ = 1) (hb : zBt σ ≤ zHt σ) : zCt l E yX12_qSums cX12_qSums 3 none 6 zNC zNC 0 0 σ [.ref (E.1 + 164)] (fun r σ' => zInv σ' ∧ zOn zQ2 σ σ' ∧ yTq f σ' ∧ (ySum 2 f (yqs f σ) (yqs f σ')) ∧ (yIm (σ' 164 5 = 0) (zt σ' = 1))) := by
  have b := hT.2.2.1
  have q0 := yQb_q hT rfl ((yHb hT rfl).1 hpre0)
  refine zCt_post (zCt_both (zc_X12_qSums l E σ hI hpre0 (by omega) (by omega) hz hb) (yc_X12_qSums l E σ hI hpre0 f hT 0 2 [] (by decide) hWd (by decide) ⟨(by show ((0 : Nat) : Int) = _; omega), by omega, h51⟩ (fun _ => by have t := q0.1; omega) (Or.inl (by omega)))) (fun r s _ x => ?_)
  obtain ⟨⟨x1, x2, -, -, -, -, -, x8⟩, r2, s2, t, ⟨p1, p2, p3, p4, p5, -, -, -⟩, -, -, u1, u2⟩ := x
  have k := yRq_ag u1 u2 (by decide) x1 p1 (fun j => (x2 165 j rfl).trans (p2 165 j rfl).symm)
  refine ⟨x1, x2, yTq_rk p3 k, ?_, fun o => (x8 o).1⟩
  rw [yqs_rk k]
  exact ⟨p4, p5⟩
def yKd (f : Int → Int) (s t : yP) (r : Int) : Prop := (27 ≤ yPi f s ∧ yPi f s ≤ 31 ∧ r = yPi f s - 27 ∧ t = yPx f s) ∨ (r = 5 ∧ ¬ (27 ≤ yPi f s ∧ yPi f s ≤ 31) ∧ t = yPw f 32 s)
theorem yKd_c {f : Int → Int} {s t : yP} {r : Int} (h : yKd f s t r) : (27 ≤ yPi f s ∧ yPi f s ≤ 32 ∧ r = yPi f s - 27 ∧ t = yPx f s) ∨ (r = 5 ∧ ¬ (27 ≤ yPi f s ∧ yPi f s ≤ 32) ∧ t = yPf 1 0 s) := by
  rcases h with ⟨a, b, c, d⟩ | ⟨a, b, c⟩
  · exact Or.inl ⟨a, by omega, c, d⟩
  · by_cases e : yPi f s = 32
    · exact Or.inl ⟨by omega, by omega, by omega, by rw [c]; unfold yPw; rw [if_pos e]⟩
    · exact Or.inr ⟨a, by omega, by rw [c]; unfold yPw; rw [if_neg e]⟩
theorem yQs_f {f : Int → Int} {s : yP} (h : ¬ (27 ≤ yPi f s ∧ yPi f s ≤ 32)) : yPf 1 0 s = yQs1 f s := by unfold yQs1; rw [if_neg (by omega), if_neg (by omega)]
theorem yQst_b {f : Int → Int} {p : yP} (h : p = yQs1 f (.ok (yS f 0))) (o : yPo p = 0) : p = yQst f := yQst_n h (fun m => absurd m.1 (by omega))
