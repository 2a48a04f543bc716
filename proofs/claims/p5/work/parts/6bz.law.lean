def yTi (s : zSto) : Prop := yTab s ∧ yWd s ∧ ∀ j : Nat, (j : Int) < s 164 1 → s 165 j = s 2 j % 256
theorem yTie {s : zSto} (t : yTi s) (h : s 1 1 = s 164 1) : yW s = yT s := by
  funext k
  unfold yW yT
  rw [h]
  by_cases c : 0 ≤ k ∧ k < s 164 1
  · rw [if_pos c, if_pos c]; exact t.2.2 k.toNat (by omega)
  · rw [if_neg c, if_neg c]
theorem yW_c {σ s : zSto} (h : zFB σ s) : yW s = yW σ := by
  funext k
  unfold yW
  rw [congrFun (h 164 (by decide)) 1, congrFun (h 165 (by decide)) k.toNat]
theorem yW_T {σ s : zSto} (h : zFB σ s) (t : yTi σ) (e : σ 1 1 = σ 164 1) : yW s = yT σ := (yW_c h).trans (yTie t e)
theorem yWtab_c : ∀ p ∈ yWtab, zNK ≤ p.1 ∧ zkn p.1 = true ∧ zkt p.1 = true := by decide +kernel
theorem yTi_B {σ s : zSto} (h : zFB σ s) (t : yTi σ) : yTi s := by
  refine ⟨fun i hi => (congrFun (h 28 (by decide)) i).trans (t.1 i hi), fun p hp j hj => (congrFun (h p.1 (Or.inl (yWtab_c p hp).1)) j).trans (t.2.1 p hp j hj), fun j hj => ?_⟩
  rw [congrFun (h 164 (by decide)) 1] at hj
  rw [congrFun (h 165 (by decide)) j, congrFun (h 2 (by decide)) j]
  exact t.2.2 j hj
theorem yTi_N {σ s : zSto} (h : zFN σ s) (le : s 164 1 ≤ σ 164 1) (t : yTi σ) : yTi s := by
  refine ⟨fun i hi => (congrFun (h 28 (by decide)) i).trans (t.1 i hi), fun p hp j hj => (congrFun (h p.1 (yWtab_c p hp).2.1) j).trans (t.2.1 p hp j hj), fun j hj => ?_⟩
  rw [congrFun (h 165 (by decide)) j, congrFun (h 2 (by decide)) j]
  exact t.2.2 j (by omega)
theorem yTi_F {σ s s' : zSto} {a b c d e : Int} (hc : zFC σ s) (c2 : yFd1 σ s a b c d e) (hm : zGT s s') (m2 : yFd2 s s' a b c d e) (hT : σ 1 1 = σ 164 1) (h0 : 0 ≤ σ 164 1) (e1 : (σ 164 1 ≤ 1580 ∧ s' 164 1 = σ 164 1 + 20) ∨ s' 164 1 = σ 164 1) (t : yTi σ) : yTi s' := by
  have k1 : s 164 1 = σ 164 1 := congrFun (hc.1 164 (by decide)) 1
  have k2 : ∀ j, s 165 j = σ 165 j := fun j => congrFun (hc.1 165 (by decide)) j
  have k3 : ∀ j, s' 2 j = s 2 j := fun j => congrFun (hm.1 2 (by decide)) j
  refine ⟨fun i hi => (congrFun (hm.1 28 (by decide)) i).trans ((congrFun (hc.1 28 (by decide)) i).trans (t.1 i hi)), fun p hp j hj => (congrFun (hm.1 p.1 (yWtab_c p hp).2.2) j).trans ((congrFun (hc.1 p.1 (Or.inl (yWtab_c p hp).1)) j).trans (t.2.1 p hp j hj)), fun j hj => ?_⟩
  by_cases x : (j : Int) < σ 164 1
  · rw [m2.1 j (by omega), k2, k3, c2.1 j (by omega)]
    exact t.2.2 j x
  · rcases e1 with ⟨y1, y2⟩ | y
    · have p1 := c2.2 (by omega) (j - (σ 164 1).toNat) (by omega)
      have p2 := m2.2 (by omega) (j - (σ 164 1).toNat) (by omega)
      rw [show (σ 1 1).toNat + (j - (σ 164 1).toNat) = j by omega] at p1
      rw [show (s 164 1).toNat + (j - (σ 164 1).toNat) = j by omega] at p2
      rw [k3, p1, p2]
    · omega
