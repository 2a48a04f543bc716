def yNmE (s : zSto) (K : Nat) : Prop := (∀ i : Nat, i < 10 → (i : Int) < s 195 1 → s (K + 2) i = yPd (s 196 (10 + i))) ∧ ∀ i : Nat, i < 10 → (i : Int) < s 195 1 → yvu (s 196 (10 + i))
def yTn (s : zSto) : Prop := (s 0 3 = 7 → yNmE s 7) ∧ (s 0 3 = 17 → yNmE s 17)
theorem yNmE_eq {σ s : zSto} {K : Nat} (h : yNmE σ K) (a : ∀ i : Nat, s (K + 2) i = σ (K + 2) i) (n : s 195 1 = σ 195 1) (m : ∀ i : Nat, i < 10 → s 196 (10 + i) = σ 196 (10 + i)) : yNmE s K := by
  refine ⟨fun i h9 hi => ?_, fun i h9 hi => ?_⟩
  · rw [a i, m i h9]; exact h.1 i h9 (by omega)
  · rw [m i h9]; exact h.2 i h9 (by omega)
theorem yTn_eq {σ s : zSto} (h : yTn σ) (z : s 0 3 = σ 0 3) (a : ∀ i : Nat, s 9 i = σ 9 i) (b : ∀ i : Nat, s 19 i = σ 19 i) (n : s 195 1 = σ 195 1) (m : ∀ i : Nat, i < 10 → s 196 (10 + i) = σ 196 (10 + i)) : yTn s :=
  ⟨fun e => yNmE_eq (h.1 (z.symm.trans e)) a n m, fun e => yNmE_eq (h.2 (z.symm.trans e)) b n m⟩
theorem yTn_C {σ s : zSto} (f : zFC σ s) (h : yTn σ) : yTn s := yTn_eq h f.2.1 (fun i => congrFun (f.1 9 (by decide)) i) (fun i => congrFun (f.1 19 (by decide)) i) (congrFun (f.1 195 (by decide)) 1) (fun i _ => congrFun (f.1 196 (by decide)) _)
theorem yTn_N {σ s : zSto} (f : zFN σ s) (k : zKl σ s) (h : yTn σ) : yTn s := yTn_eq h (congrFun (f 0 (by decide)) 3) (fun i => congrFun (f 9 (by decide)) i) (fun i => congrFun (f 19 (by decide)) i) k.2.2.2.2.2.1 (fun i _ => k.2.2.2.2.2.2 (10 + i) (by omega))
theorem yTn_T {σ s : zSto} (f : zFT σ s) (k : zKl σ s) (h : yTn σ) : yTn s := yTn_eq h (congrFun (f 0 (by decide)) 3) (fun i => congrFun (f 9 (by decide)) i) (fun i => congrFun (f 19 (by decide)) i) k.2.2.2.2.2.1 (fun i _ => k.2.2.2.2.2.2 (10 + i) (by omega))
theorem yMapEq {n m : Nat} {f g : Nat → Int} (h : (List.range n).map f = (List.range m).map g) : n = m ∧ ∀ i, i < n → f i = g i := by
  have l := congrArg List.length h
  rw [List.length_map, List.length_map, List.length_range, List.length_range] at l
  refine ⟨l, fun i hi => ?_⟩
  have e := congrArg (fun x : List Int => x[i]?) h
  simp only [List.getElem?_map] at e
  rw [List.getElem?_range hi, List.getElem?_range (l ▸ hi)] at e
  exact Option.some.inj e
theorem yNmE_of {s s' : zSto} {K : Nat} {P : yPl} (a : yNn s K P) (b : yNp s' P) (g : ∀ i : Nat, s' (K + 2) i = s (K + 2) i) (h0 : 0 ≤ s' 195 1) : yNmE s' K := by
  refine ⟨fun i _ hi => ?_, b.2⟩
  obtain ⟨l, q⟩ := yMapEq (a.symm.trans b.1)
  rw [g i]
  exact q i (by omega)
theorem yTn_pane {σ s s' : zSto} (h : yTn σ) (fb : zFB σ s) (hc : yCn (yAll (yT σ)) σ s) (hm : yMn (yAll (yW s)) s s') (e : yW s = yT σ) (f : zFN s s') (h0 : 0 ≤ s' 195 1) : yTn s' := by
  rw [e] at hm
  have g0 : s' 0 3 = s 0 3 := congrFun (f 0 (by decide)) 3
  have g9 : ∀ i : Nat, s' 9 i = s 9 i := fun i => congrFun (f 9 (by decide)) i
  have g19 : ∀ i : Nat, s' 19 i = s 19 i := fun i => congrFun (f 19 (by decide)) i
  rcases yPo_b (yAll (yT σ)).1 with o | o
  · rcases hc.1 o with ⟨c1, c2⟩ | ⟨c1, c2⟩
    · exact ⟨fun _ => yNmE_of c2 (hm.1 o) g9 h0, fun x => absurd (x.symm.trans (g0.trans c1)) (by decide)⟩
    · exact ⟨fun x => absurd (x.symm.trans (g0.trans c1)) (by decide), fun _ => yNmE_of c2 (hm.1 o) g19 h0⟩
  · obtain ⟨c1, c2⟩ := hc.2 o
    obtain ⟨m1, m2⟩ := hm.2 o
    have n1 : s' 195 1 = σ 195 1 := m1.trans (congrFun (fb 195 (by decide)) 1)
    have n2 : ∀ i : Nat, i < 10 → s' 196 (10 + i) = σ 196 (10 + i) := fun i hi => (m2 i hi).trans (congrFun (fb 196 (by decide)) _)
    rcases c2 with ⟨d, d1⟩ | ⟨d, d1⟩
    · exact ⟨fun _ => yNmE_eq (h.1 d) (fun i => (g9 i).trans (d1 i)) n1 n2, fun x => absurd (x.symm.trans (g0.trans (c1.trans d))) (by decide)⟩
    · exact ⟨fun x => absurd (x.symm.trans (g0.trans (c1.trans d))) (by decide), fun _ => yNmE_eq (h.2 d) (fun i => (g19 i).trans (d1 i)) n1 n2⟩
theorem yTn_0 {s : zSto} (h : s 195 1 = 0) : yTn s := ⟨fun _ => ⟨fun i _ hi => absurd hi (by omega), fun i _ hi => absurd hi (by omega)⟩, fun _ => ⟨fun i _ hi => absurd hi (by omega), fun i _ hi => absurd hi (by omega)⟩⟩
def yLtq (s : zSto) (p k : Int) : Int := yLt (s 195 1) (fun i => yPd (s 196 (10 + i))) p k
theorem yLtq_K {σ : zSto} {K : Nat} {p k r : Int} (h : yNum σ K) (hb : σ 195 1 ≤ 10) (n : yNmE σ K) (e : r = yLt (σ K 12) (σ (K + 2)) p k) : r = yLtq σ p k := by
  rw [e]
  exact yLt_c h.2.2.1 (fun i hi => n.1 i (by have q := h.2.2.1; omega) (by rw [← h.2.2.1]; exact hi))
theorem wf_X11_letter (l : Launch) (E : zEN) (σ : zSto) (hI : zInv σ) (a1_ : Int) (ha1_ : -2147483648 ≤ a1_ ∧ a1_ ≤ 2147483647) (a2_ : Int) (ha2_ : -2147483648 ≤ a2_ ∧ a2_ ≤ 2147483647) (hZ : yTz σ) (hN : yTn σ) : zCt l E yX11_letter cX11_letter 3 (some .int) 1 zNC zNC 0 0 σ [.ref (E.1 + 0), .int (zI a1_), .int (zI a2_)] (fun r σ' => σ = σ' ∧ -2147483648 ≤ r ∧ r ≤ 2147483647 ∧ r = yLtq σ a1_ a2_) := by
  rcases hZ with ⟨h1, -, h3⟩ | ⟨h1, -, h3⟩
  · exact zCt_post (yd_X11_letter_7 l E σ hI a1_ ha1_ a2_ ha2_ h1) (fun r s _ x => ⟨x.1, x.2.1, x.2.2.1, yLtq_K h3 (zv_77 hI zc_195 1).2 (hN.1 h1) x.2.2.2⟩)
  · exact zCt_post (yd_X11_letter_17 l E σ hI a1_ ha1_ a2_ ha2_ h1) (fun r s _ x => ⟨x.1, x.2.1, x.2.2.1, yLtq_K h3 (zv_77 hI zc_195 1).2 (hN.2 h1) x.2.2.2⟩)
theorem wf_X12_letter (l : Launch) (E : zEN) (σ : zSto) (hI : zInv σ) (a1_ : Int) (ha1_ : -2147483648 ≤ a1_ ∧ a1_ ≤ 2147483647) (a2_ : Int) (ha2_ : -2147483648 ≤ a2_ ∧ a2_ ≤ 2147483647) (hZ : yTz σ) (hN : yTn σ) : zCt l E yX12_letter cX12_letter 8 (some .int) 2 zNC zNC 0 0 σ [.ref (E.1 + 164), .int (zI a1_), .int (zI a2_)] (fun r σ' => σ = σ' ∧ -2147483648 ≤ r ∧ r ≤ 2147483647 ∧ r = yLtq σ a1_ a2_) := by
  have hv : ∀ i : Nat, (i : Int) < σ 195 1 → yvu (σ 196 (10 + i)) := by
    rcases hZ with ⟨h1, -, -⟩ | ⟨h1, -, -⟩
    · exact fun i hi => (hN.1 h1).2 i (by have q := zv_77 hI zc_195 1; omega) hi
    · exact fun i hi => (hN.2 h1).2 i (by have q := zv_77 hI zc_195 1; omega) hi
  exact yd_X12_letter l E σ hI hv a1_ ha1_ a2_ ha2_
theorem yTn_Q {σ s : zSto} (f : zOn zPq σ s) (z : s 0 3 = σ 0 3) (h : yTn σ) : yTn s := yTn_eq h z (fun i => f 9 i rfl) (fun i => f 19 i rfl) (f 195 1 rfl) (fun i _ => f 196 _ rfl)
