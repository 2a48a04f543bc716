def yW (s : zSto) : Int → Int := fun k => if 0 ≤ k ∧ k < s 164 1 then s 165 k.toNat else -1
theorem yW_tx {s : zSto} (hI : zInv s) : yTx (yW s) := by
  have b := zv_46_1 hI zc_164
  refine ⟨fun k => ?_, fun k h => ?_, fun k h => ?_⟩
  · unfold yW
    split
    · have := zv_47 hI zc_165 k.toNat; omega
    · omega
  · unfold yW; rw [if_neg (by omega)]
  · unfold yW; rw [if_neg (by omega)]
theorem yQ0 {σ s : zSto} (hI : zInv σ) (e2 : s 164 2 = 0) (e3 : s 164 3 = σ 164 1) (e4 : s 164 4 = -1) (e5 : s 164 5 = 0) (e6 : s 164 6 = -1) (ht : ∀ j, s 165 j = σ 165 j) : yTq (yW σ) s ∧ yqs (yW σ) s = .ok (yS (yW σ) 0) := by
  have b := zv_46_1 hI zc_164
  have m : yW σ (-1) = -1 := (yW_tx hI).2.1 (-1) (by decide)
  have eU : yU s = yW σ := by funext k; unfold yU yW; rw [e3, ht]
  refine ⟨⟨yW_tx hI, eU, by omega, fun _ => ⟨by omega, ?_, e6, ?_⟩⟩, ?_⟩
  · rw [e2, e4]
    constructor
    · intro h; omega
    · intro h
      unfold yAl at h
      rw [show (0 : Int) - 1 = -1 by decide, m] at h
      exact absurd h (by decide)
  · unfold yBd
    rw [e2, show (0 : Int) - 1 = -1 by decide, m]
    exact ⟨fun x => absurd x.1 (by decide), fun x => absurd x.1 (by decide)⟩
  · rw [yqs_1 e5, e2]
def zQr (k _j : Nat) : Bool := !(zkn k)
theorem zQr_n {k j : Nat} (h : zQr k j = false) : zkn k = true := by
  unfold zQr at h
  cases z : zkn k
  · rw [z] at h; exact absurd h (by decide)
  · rfl
theorem zQr_y {k j : Nat} (h : zkn k = false) : zQr k j = true := by unfold zQr; rw [h]; rfl
theorem zi_3r : ∀ k j, zQ3 k j = true → zQr k j = true := by
  intro k j h
  refine zQr_y ?_
  cases z : zkn k
  · rfl
  · rw [zP_lo z] at h; exact absurd h (by decide)
theorem zi_r3 {P : Nat → Nat → Bool} (h : ∀ k j, P k j = true → zQ3 k j = true) : ∀ k j, P k j = true → zQr k j = true := fun k j x => zi_3r k j (h k j x)
theorem zOn_r {a b : zSto} (h : zFN a b) : zOn zQr a b := fun k j x => congrFun (h k (zQr_n x)) j
theorem yWd_r {s s' : zSto} (h : yWd s) (o : zOn zQr s s') : yWd s' := yWd_on h o (fun p hp j => by
  have q : ∀ p ∈ yWtab, zkn p.1 = true := by decide +kernel
  unfold zQr; rw [q p hp]; rfl)
theorem yTe_p {s : zSto} {f : Int → Int} {q : yP} (h0 : s 195 0 = 0) (ha : s 200 0 = -1) (hb : s 200 1 = -1) (hc : s 194 0 = yPv f (yPa1 f q)) (hr : s 194 1 = yPv f (yPa2 f q)) (st : ySt s) : yTe (yPanP f q yPl0) s := by
  refine ⟨?_, fun i hi => absurd hi (by omega), st⟩
  unfold yPlr
  rw [h0, ha, hb, hc, hr]
  rfl
theorem yPan_0 {f : Int → Int} {q : yP} (h : yPi f q ≠ 0) : yPs f 59 (yPan f q) = yPf 1 0 q := by
  have o : yPo (yPf 1 0 q) = 0 := yPo_pf
  have a : yPa1 f q = yPf 1 0 q := if_neg h
  unfold yPan yPa2
  rw [a, ← yPn_no o, ← yPw_no o, ← yPn_no o, ← yPw_no o, ← yPn_no o, ← yPs_no o]
theorem yAll_n {f : Int → Int} {p : yP} (h : yLop f 80 0 (.ok (yS f 0)) yPl0 = (p, yPl0, 0)) (o : yPo p = 0) : (yAll f).1 = p := by
  unfold yAll
  rw [h]
  show (if yPo p = 1 ∧ (0 : Int) = 0 then _ else (p, yPl0, (0 : Int))).1 = p
  rw [if_neg (fun x => by rw [o] at x; exact absurd x.1 (by decide))]
def yLqA (f : Int → Int) (s : zSto) (p : yP) (c : Int) : Prop := yPo p = 1 ∧ (1 ≤ c ∧ c ≤ 80) ∧ (∃ P, yLop f (80 - c).toNat c p P = yLop f 80 0 (.ok (yS f 0)) yPl0 ∧ yTe P s) ∧ s 164 48 ≤ yPq p ∧ (2 ≤ s 194 0 ∧ s 194 0 ≤ 6 ∧ 2 ≤ s 194 1 ∧ s 194 1 ≤ 6)
def yLqB (f : Int → Int) (p : yP) : Prop := yPo p = 0 ∧ (yAll f).1 = p
def yLq (f : Int → Int) (s : zSto) (p : yP) (c : Int) : Prop := yLqA f s p c ∨ yLqB f p
theorem yLq_c {f : Int → Int} {s : zSto} {p : yP} {c : Int} (h : yLq f s p c) : yLqA f s p c ∨ yLqB f p := h
theorem yLq_0 {f : Int → Int} {s : zSto} {p : yP} {c : Int} (hc : c = 1) (e : p = yPs f 59 (yPan f (.ok (yS f 0)))) (z : yPo p = 1 → yTe (yPanP f (.ok (yS f 0)) yPl0) s ∧ s 164 48 ≤ yPq p ∧ (2 ≤ s 194 0 ∧ s 194 0 ≤ 6 ∧ 2 ≤ s 194 1 ∧ s 194 1 ≤ 6)) : yLq f s p c := by
  subst hc
  rcases yPo_b p with o | o
  · obtain ⟨z1, z2, z3⟩ := z o
    by_cases m : yMor f (.ok (yS f 0))
    · refine Or.inl ⟨o, ⟨by decide, by decide⟩, ⟨_, ?_, z1⟩, z2, z3⟩
      rw [e]
      exact yLop_bp (c := 0) rfl m rfl (fun _ => rfl)
    · exfalso
      have k : yPi f (.ok (yS f 0)) = -1 := yPk_i (fun k => m ⟨rfl, by omega⟩)
      rw [e, yPan_0 (by omega), yPo_pf] at o
      exact absurd o (by decide)
  · refine Or.inr ⟨o, ?_⟩
    by_cases m : yMor f (.ok (yS f 0))
    · have h := yLop_bp (c := 0) (Q := yPanP f (.ok (yS f 0)) yPl0) (P := yPl0) rfl m rfl (fun _ => rfl)
      rw [← e, yLop_no (by omega)] at h
      exact yAll_n h.symm o
    · have k : yPi f (.ok (yS f 0)) = -1 := yPk_i (fun k => m ⟨rfl, by omega⟩)
      rw [e, yPan_0 (by omega)]
      exact yAll_z (c := 0) rfl m rfl
theorem yLq_s {f : Int → Int} {s s1 : zSto} {p p1 : yP} {c c1 : Int} (h : yLqA f s p c) (m : yMor f p) (hc : c = s 164 49) (e : p1 = yStE f (yPlr s) c p) (z : yPo p1 = 1 → yStP f s s1 p p1) (hc1 : c1 = s1 164 49) : yLq f s1 p1 c1 := by
  obtain ⟨o, hb, ⟨P, hL, hT⟩, hd, hs⟩ := h
  have hP := hT.1
  unfold yStE at e
  rw [hP] at e
  by_cases g : c = 80
  · rw [if_pos g] at e
    refine Or.inr ⟨by rw [e]; exact yPo_pf, ?_⟩
    rw [yAll_m hL m (by omega), e]
  · rw [if_neg g] at e
    rcases yPo_b p1 with o1 | o1
    · obtain ⟨z1, z2, z3⟩ := z o1
      rw [hP] at z1
      have sc := yStmP_c (f := f) (P := P) (s := p)
      have w0 : s1 194 0 = s 194 0 := by
        have a : (yPlr s1).c = (yStmP f P p).c := by rw [z1.1]
        have b : (yPlr s).c = P.c := by rw [hP]
        exact a.trans (sc.1.trans b.symm)
      have w1 : s1 194 1 = s 194 1 := by
        have a : (yPlr s1).r = (yStmP f P p).r := by rw [z1.1]
        have b : (yPlr s).r = P.r := by rw [hP]
        exact a.trans (sc.2.trans b.symm)
      refine Or.inl ⟨o1, by omega, ⟨_, ?_, z1⟩, z2, by omega⟩
      have t := yLop_bs (Q := yStmP f P p) ⟨by omega, by omega⟩ m hL (fun _ => rfl)
      rw [← e] at t
      rw [hc1, z3, ← hc]
      exact t
    · refine Or.inr ⟨o1, ?_⟩
      have t := yLop_bs (Q := yStmP f P p) ⟨by omega, by omega⟩ m hL (fun _ => rfl)
      rw [← e, yLop_no (by omega)] at t
      exact yAll_n t.symm o1
theorem yLq_e {f : Int → Int} {s : zSto} {p : yP} {c : Int} (h : yLqA f s p c) (m : ¬ yMor f p) : (yAll f).1 = p ∧ yTe (yAll f).2.1 s ∧ c = (yAll f).2.2 := by
  obtain ⟨o, hb, ⟨P, hL, hT⟩, hd, hs⟩ := h
  obtain ⟨a, b⟩ := yAll_1 hL m (by omega)
  obtain ⟨b1, b2⟩ := b o
  exact ⟨a, b1 ▸ hT, b2⟩
theorem yMor_1 {f : Int → Int} {p : yP} {r : Int} (o : yPo p = 1) (h : f (yPq p) = r) (hr : 0 ≤ r) : yMor f p := by
  cases p using yP_cases with
  | ok q =>
    refine ⟨rfl, fun k => ?_⟩
    have a : f q < 0 := yK_0.mp k
    have b : f q = r := h
    omega
  | no a b => exact absurd o (by show ¬ (0 : Int) = 1; decide)
theorem yMor_0 {f : Int → Int} {p : yP} {r : Int} (h : f (yPq p) = r) (hr : r < 0) : ¬ yMor f p := by
  intro m
  cases p using yP_cases with
  | ok q =>
    have b : f q = r := h
    exact m.2 (yK_0.mpr (by omega))
  | no a b => exact absurd m.1 (by show ¬ (0 : Int) = 1; decide)
theorem yTe_fr {P : yPl} {s s' : zSto} {Q : Nat → Nat → Bool} (h : yTe P s) (o : zOn Q s s') (q : (Q 194 0 = false ∧ Q 194 1 = false ∧ Q 195 0 = false ∧ Q 200 0 = false ∧ Q 200 1 = false) ∧ ∀ j, Q 196 j = false ∧ Q 198 j = false ∧ Q 199 j = false) : yTe P s' :=
  ⟨(yPlr_c (o _ _ q.1.1) (o _ _ q.1.2.1) (o _ _ q.1.2.2.1) (fun i => o _ _ (q.2 i).1) (fun i => o _ _ (q.2 i).2.1) (o _ _ q.1.2.2.2.1) (o _ _ q.1.2.2.2.2)).trans h.1, yNvu_c h.2.1 (o _ _ q.1.2.2.1) (fun i => o _ _ (q.2 i).1), ySt_c h.2.2 (fun i => o _ _ (q.2 i).2.2)⟩
theorem yLqA_fr {f : Int → Int} {s s' : zSto} {p : yP} {c : Int} (h : yLqA f s p c) (o : zOn zQ1 s s') : yLqA f s' p c := by
  obtain ⟨h1, h2, ⟨P, hL, hT⟩, h4, h5⟩ := h
  exact ⟨h1, h2, ⟨P, hL, yTe_1 hT o⟩, by rw [o 164 48 rfl]; exact h4, by rw [o 194 0 rfl, o 194 1 rfl]; exact h5⟩
theorem yLqA_t {f : Int → Int} {s : zSto} {p : yP} {c : Int} (h : yLqA f s p c) : yTe (yPlr s) s := by
  obtain ⟨h1, h2, ⟨P, hL, hT⟩, h4, h5⟩ := h
  exact ⟨rfl, hT.2.1, hT.2.2⟩
