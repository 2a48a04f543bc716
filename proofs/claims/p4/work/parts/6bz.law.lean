theorem zCt_post {l : Launch} {E : zEN} {y : MethodName} {b : ByteArray} {mL : Nat} {ret : Option FieldType} {d n n' mc ms : Nat} {σ : zSto} {av : List Value} {P Q : Int → zSto → Prop} (h : zCt l E y b mL ret d n n' mc ms σ av P) (m : ∀ r σ', zrr ret r → P r σ' → Q r σ') : zCt l E y b mL ret d n n' mc ms σ av Q := by
  unfold zCt Met at *
  refine Jvm.Free.MetFree.mono h (fun _ _ x => x) (fun _ _ _ _ _ x => x) ?_
  intro a s o t hP hq
  obtain ⟨⟨⟨r1, s1, e1, b1, p1, u1⟩, f1⟩, L1⟩ := hq
  exact ⟨⟨⟨r1, s1, e1, b1, m r1 s1 b1 p1, u1⟩, f1⟩, L1⟩
def yAns (A : yP × yPl × Int) (r : Int) : Prop := (yPo A.1 = 1 → r = A.2.2) ∧ (yPo A.1 = 0 → r = -1)
theorem yAns_eq {A : yP × yPl × Int} {r q : Int} (h : yAns A r) (g : yAns A q) : r = q := by
  rcases yPo_b A.1 with o | o
  · exact (h.1 o).trans (g.1 o).symm
  · exact (h.2 o).trans (g.2 o).symm
theorem zPlan_c : ∀ k, k < 238 → zro k = 8 → k = 7 ∨ k = 17 := by decide +kernel
theorem zdraft {σ : zSto} (hI : zInv σ) : σ 0 4 = 7 ∨ σ 0 4 = 17 := by
  obtain ⟨k, ek, hk⟩ := zv_1_4 hI zc_0
  rcases zPlan_c k (zro_lt hk (by decide)) hk with h | h
  · exact Or.inl (by rw [ek, h]; rfl)
  · exact Or.inr (by rw [ek, h]; rfl)
theorem wc_X11_pane (l : Launch) (E : zEN) (σ : zSto) (hI : zInv σ) (hW : yTab σ) : zCt l E yX11_pane cX11_pane 3 (some .int) 38 zNC zNC 0 0 σ [.ref (E.1 + 0)] (fun r σ' => zInv σ' ∧ zFB σ σ' ∧ -1 ≤ r ∧ r ≤ 80 ∧ (σ' 1 1 = 0) ∧ yAns (yAll (yT σ)) r) := by
  have g : zCt l E yX11_pane cX11_pane 3 (some .int) 38 zNC zNC 0 0 σ [.ref (E.1 + 0)] (fun r _ => (-2147483648 ≤ r ∧ r ≤ 2147483647) ∧ yAns (yAll (yT σ)) r) := by
    rcases zdraft hI with h | h
    · exact zCt_post (yc_X11_pane_7 l E σ hI h hW) (fun r s _ x => ⟨⟨x.2.2.1, x.2.2.2.1⟩, x.2.2.2.2⟩)
    · exact zCt_post (yc_X11_pane_17 l E σ hI h hW) (fun r s _ x => ⟨⟨x.2.2.1, x.2.2.2.1⟩, x.2.2.2.2⟩)
  refine zCt_post (zCt_both (zc_X11_pane l E σ hI) g) (fun r s hr x => ?_)
  obtain ⟨⟨x1, x2, x3, x4, x5⟩, r2, s2, t, ⟨p1, p2⟩, e, b, u1, u2⟩ := x
  have q : r = r2 := zrv_i ⟨by omega, by omega⟩ p1 e
  exact ⟨x1, x2, x3, x4, x5, q ▸ p2⟩
theorem wc_X12_pane (l : Launch) (E : zEN) (σ : zSto) (hI : zInv σ) (hW : zWF σ) (hWd : yWd σ) : zCt l E yX12_pane cX12_pane 2 (some .int) 11 zNC zNC 0 0 σ [.ref (E.1 + 164)] (fun r σ' => zInv σ' ∧ zFN σ σ' ∧ -2147483648 ≤ r ∧ r ≤ 2147483647 ∧ (zwf σ' = 1) ∧ (σ' 164 54 = σ 164 54) ∧ (σ' 164 1 = 0) ∧ yAns (yAll (yW σ)) r) := by
  refine zCt_post (zCt_both (zc_X12_pane l E σ hI hW) (yc_X12_pane l E σ hI hWd)) (fun r s hr x => ?_)
  obtain ⟨⟨x1, x2, x3, x4, x5, x6, x7⟩, r2, s2, t, ⟨p1, p2, p3, p4, p5⟩, e, b, u1, u2⟩ := x
  have q : r = r2 := zrv_i ⟨x3, x4⟩ ⟨p3, p4⟩ e
  exact ⟨x1, x2, x3, x4, x5, x6, x7, q ▸ p5⟩
def yTi (s : zSto) : Prop := yTab s ∧ yWd s ∧ ∀ j : Nat, (j : Int) < s 164 1 → s 165 j = s 2 j % 256
theorem yTie {s : zSto} (t : yTi s) (h : s 1 1 = s 164 1) : yW s = yT s := by
  funext k
  unfold yW yT
  rw [h]
  by_cases c : 0 ≤ k ∧ k < s 164 1
  · rw [if_pos c, if_pos c]; exact t.2.2 k.toNat (by omega)
  · rw [if_neg c, if_neg c]
theorem yW_c {σ s : zSto} (h : zFB σ s) : yW s = yW σ := by
  funext k
  unfold yW
  rw [congrFun (h 164 (by decide)) 1, congrFun (h 165 (by decide)) k.toNat]
theorem yW_T {σ s : zSto} (h : zFB σ s) (t : yTi σ) (e : σ 1 1 = σ 164 1) : yW s = yT σ := (yW_c h).trans (yTie t e)
theorem yWtab_c : ∀ p ∈ yWtab, zNK ≤ p.1 ∧ zkn p.1 = true ∧ zkt p.1 = true := by decide +kernel
theorem yTi_B {σ s : zSto} (h : zFB σ s) (t : yTi σ) : yTi s := by
  refine ⟨fun i hi => (congrFun (h 28 (by decide)) i).trans (t.1 i hi), fun p hp j hj => (congrFun (h p.1 (Or.inl (yWtab_c p hp).1)) j).trans (t.2.1 p hp j hj), fun j hj => ?_⟩
  rw [congrFun (h 164 (by decide)) 1] at hj
  rw [congrFun (h 165 (by decide)) j, congrFun (h 2 (by decide)) j]
  exact t.2.2 j hj
theorem yTi_N {σ s : zSto} (h : zFN σ s) (le : s 164 1 ≤ σ 164 1) (t : yTi σ) : yTi s := by
  refine ⟨fun i hi => (congrFun (h 28 (by decide)) i).trans (t.1 i hi), fun p hp j hj => (congrFun (h p.1 (yWtab_c p hp).2.1) j).trans (t.2.1 p hp j hj), fun j hj => ?_⟩
  rw [congrFun (h 165 (by decide)) j, congrFun (h 2 (by decide)) j]
  exact t.2.2 j (by omega)
theorem yTi_F {σ s s' : zSto} {a b c d e : Int} (hc : zFC σ s) (c2 : yFd1 σ s a b c d e) (hm : zGT s s') (m2 : yFd2 s s' a b c d e) (hT : σ 1 1 = σ 164 1) (h0 : 0 ≤ σ 164 1) (e1 : (σ 164 1 ≤ 1580 ∧ s' 164 1 = σ 164 1 + 20) ∨ s' 164 1 = σ 164 1) (t : yTi σ) : yTi s' := by
  have k1 : s 164 1 = σ 164 1 := congrFun (hc 164 (by decide)) 1
  have k2 : ∀ j, s 165 j = σ 165 j := fun j => congrFun (hc 165 (by decide)) j
  have k3 : ∀ j, s' 2 j = s 2 j := fun j => congrFun (hm.1 2 (by decide)) j
  refine ⟨fun i hi => (congrFun (hm.1 28 (by decide)) i).trans ((congrFun (hc 28 (by decide)) i).trans (t.1 i hi)), fun p hp j hj => (congrFun (hm.1 p.1 (yWtab_c p hp).2.2) j).trans ((congrFun (hc p.1 (Or.inl (yWtab_c p hp).1)) j).trans (t.2.1 p hp j hj)), fun j hj => ?_⟩
  by_cases x : (j : Int) < σ 164 1
  · rw [m2.1 j (by omega), k2, k3, c2.1 j (by omega)]
    exact t.2.2 j x
  · rcases e1 with ⟨y1, y2⟩ | y
    · have p1 := c2.2 (by omega) (j - (σ 164 1).toNat) (by omega)
      have p2 := m2.2 (by omega) (j - (σ 164 1).toNat) (by omega)
      rw [show (σ 1 1).toNat + (j - (σ 164 1).toNat) = j by omega] at p1
      rw [show (s 164 1).toNat + (j - (σ 164 1).toNat) = j by omega] at p2
      rw [k3, p1, p2]
    · omega
