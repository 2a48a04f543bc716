def yT (s : zSto) : Int → Int := fun k => if 0 ≤ k ∧ k < s 1 1 then s 2 k.toNat % 256 else -1
def yTab (s : zSto) : Prop := ∀ i : Nat, i < 33 → s 28 i = yWc i
def yTok (f : Int → Int) (s : zSto) (i : Nat) : Prop :=
  (0 ≤ s 30 i ∧ s 30 i ≤ 1600) ∧ s 29 i = yK f (s 30 i) ∧ (yK f (s 30 i) = 1 ∨ yK f (s 30 i) = 4 → s 31 i = yC f (s 30 i)) ∧ (yK f (s 30 i) = 2 ∨ yK f (s 30 i) = 5 → s 31 i = yV f (s 30 i))
    ∧ (yK f (s 30 i) = 3 → s 31 i = f (s 30 i)) ∧ s 32 i = yI f (s 30 i) ∧ yB (f (s 30 i)) = false
def yTk (f : Int → Int) (s : zSto) : Prop :=
  yTx f ∧ (0 ≤ s 27 6 ∧ s 27 6 ≤ s 27 5 ∧ s 27 5 ≤ 1600) ∧ (∀ i : Nat, (i : Int) ≤ s 27 5 → yTok f s i) ∧ (∀ i : Nat, (i : Int) < s 27 5 → 0 ≤ f (s 30 i) ∧ s 30 (i + 1) = yX f (s 30 i)) ∧ f (s 30 (s 27 5).toNat) < 0 ∧ (s 27 7 = 0 → s 27 8 = -1)
def yst (s : zSto) : yP := if s 27 7 = 0 then .ok (s 30 (s 27 6).toNat) else .no (s 27 7) (s 27 8)
theorem yst_1 {s : zSto} (h : s 27 7 = 0) : yst s = .ok (s 30 (s 27 6).toNat) := if_pos h
theorem yst_0 {s : zSto} (h : s 27 7 ≠ 0) : yst s = .no (s 27 7) (s 27 8) := if_neg h
def yRt (s s' : zSto) : Prop := (∀ k j, 29 ≤ k → k ≤ 32 → s' k j = s k j) ∧ s' 27 5 = s 27 5
def yRk (s s' : zSto) : Prop := yRt s s' ∧ s' 27 6 = s 27 6 ∧ s' 27 7 = s 27 7 ∧ s' 27 8 = s 27 8
theorem yTk_rt {f : Int → Int} {s s' : zSto} (h : yTk f s) (hr : yRt s s') (ha : 0 ≤ s' 27 6 ∧ s' 27 6 ≤ s 27 5) (h8 : s' 27 7 = 0 → s' 27 8 = -1) : yTk f s' := by
  obtain ⟨h1, h2, h3, h4, h5, h6⟩ := h
  have e29 : ∀ j, s' 29 j = s 29 j := fun j => hr.1 29 j (by decide) (by decide)
  have e30 : ∀ j, s' 30 j = s 30 j := fun j => hr.1 30 j (by decide) (by decide)
  have e31 : ∀ j, s' 31 j = s 31 j := fun j => hr.1 31 j (by decide) (by decide)
  have e32 : ∀ j, s' 32 j = s 32 j := fun j => hr.1 32 j (by decide) (by decide)
  refine ⟨h1, ?_, ?_, ?_, ?_, h8⟩
  · rw [hr.2]; omega
  · intro i hi
    rw [hr.2] at hi
    unfold yTok
    rw [e29, e30, e31, e32]
    exact h3 i hi
  · intro i hi
    rw [hr.2] at hi
    rw [e30, e30]
    exact h4 i hi
  · rw [hr.2, e30]; exact h5
theorem yTk_rk {f : Int → Int} {s s' : zSto} (h : yTk f s) (hr : yRk s s') : yTk f s' :=
  yTk_rt h hr.1 (by rw [hr.2.1]; exact ⟨h.2.1.1, h.2.1.2.1⟩) (by rw [hr.2.2.1, hr.2.2.2]; exact h.2.2.2.2.2)
theorem yst_rk {s s' : zSto} (hr : yRk s s') : yst s' = yst s := by
  unfold yst
  rw [hr.2.1, hr.2.2.1, hr.2.2.2, hr.1.1 30 _ (by decide) (by decide)]
theorem yRk_set {s s' : zSto} {k j r : Nat} {v : Int} (h : zset s k j v = s') (hk : zro k = r) (hr : r ≠ 14 ∧ r ≠ 16 ∧ r ≠ 17 ∧ r ≠ 18 ∧ r ≠ 19) : yRk s s' := by
  subst h
  have e27 : (27 : Nat) ≠ k := zne_r zc_27 hk hr.1.symm
  refine ⟨⟨?_, zset_k e27⟩, zset_k e27, zset_k e27, zset_k e27⟩
  intro a b h1 h2
  have : a = 29 ∨ a = 30 ∨ a = 31 ∨ a = 32 := by omega
  rcases this with e | e | e | e <;> subst e
  · exact zset_k (zne_r zc_29 hk hr.2.1.symm)
  · exact zset_k (zne_r zc_30 hk hr.2.2.1.symm)
  · exact zset_k (zne_r zc_31 hk hr.2.2.2.1.symm)
  · exact zset_k (zne_r zc_32 hk hr.2.2.2.2.symm)
def zR1 (k j : Nat) : Bool := k == 27 && (j == 6 || j == 7 || j == 8)
def zRp (k _j : Nat) : Bool := zro k == 6 || zro k == 7
def zR2 (k j : Nat) : Bool := zR1 k j || zRp k j
def zR4 (k j : Nat) : Bool := zR2 k j || (k == 33 && (j == 1 || j == 2))
theorem zRp_6 {k j : Nat} (h : zro k = 6) : zRp k j = true := by simp [zRp, h]
theorem zRp_7 {k j : Nat} (h : zro k = 7) : zRp k j = true := by simp [zRp, h]
theorem zi_r12 : ∀ k j, zR1 k j = true → zR2 k j = true := fun k j h => by simp only [zR2, h, Bool.true_or]
theorem zi_rp2 : ∀ k j, zRp k j = true → zR2 k j = true := fun k j h => by simp only [zR2, h, Bool.true_or, Bool.or_true]
theorem zi_r24 : ∀ k j, zR2 k j = true → zR4 k j = true := fun k j h => by simp only [zR4, h, Bool.true_or]
theorem zi_r14 : ∀ k j, zR1 k j = true → zR4 k j = true := fun k j h => zi_r24 k j (zi_r12 k j h)
theorem zi_rp4 : ∀ k j, zRp k j = true → zR4 k j = true := fun k j h => zi_r24 k j (zi_rp2 k j h)
theorem yRk_p {s s' : zSto} (h : zOn zRp s s') : yRk s s' := by
  refine ⟨⟨?_, h _ _ rfl⟩, h _ _ rfl, h _ _ rfl, h _ _ rfl⟩
  intro a b h1 h2
  have : a = 29 ∨ a = 30 ∨ a = 31 ∨ a = 32 := by omega
  rcases this with e | e | e | e <;> subst e <;> exact h _ _ rfl
theorem yHere {f : Int → Int} {s : zSto} (h : yTk f s) :
    (s 27 7 = 0 → yPo (yst s) = 1 ∧ s 29 (s 27 6).toNat = yPk f (yst s) ∧ s 32 (s 27 6).toNat = yPi f (yst s) ∧ s 30 (s 27 6).toNat = yPq (yst s)
      ∧ (yPk f (yst s) = 3 → s 31 (s 27 6).toNat = yPg f (yst s)) ∧ (yPk f (yst s) = 2 ∨ yPk f (yst s) = 5 → s 31 (s 27 6).toNat = yPv f (yst s)))
    ∧ (s 27 7 ≠ 0 → yPo (yst s) = 0 ∧ yPk f (yst s) = 6 ∧ yPi f (yst s) = -1 ∧ yPg f (yst s) = -1)
    ∧ (yPk f (yst s) ≠ 1 → yPi f (yst s) = -1) ∧ (yPk f (yst s) ≠ 3 → yPg f (yst s) = -1) ∧ (s 27 6 ≤ s 27 5 ∧ s 27 5 ≤ 1600) := by
  refine ⟨?_, ?_, fun a => yPk_i a, fun a => yPk_g a, ⟨h.2.1.2.1, h.2.1.2.2⟩⟩
  · intro e
    rw [yst_1 e]
    have b := h.2.1
    obtain ⟨h1, h2, h3, h4, h5, h6, h7⟩ := h.2.2.1 (s 27 6).toNat (by omega)
    refine ⟨rfl, h2, h6, rfl, fun k => ?_, h4⟩
    have k : yK f (s 30 (s 27 6).toNat) = 3 := k
    show _ = if yK f (s 30 (s 27 6).toNat) = 3 then f (s 30 (s 27 6).toNat) else -1
    rw [if_pos k]; exact h5 k
  · intro e
    rw [yst_0 e]; exact ⟨rfl, rfl, rfl, rfl⟩
theorem yL_step1 {f : Int → Int} {s s' : zSto} (h : yTk f s) (e : zset s 27 6 (s 27 6 + 1) = s') (hc : s 27 6 < s 27 5) : yTk f s' ∧ yst s' = yPx f (yst s) := by
  have e6 : s' 27 6 = s 27 6 + 1 := by rw [← e]; exact zset_s
  have b := h.2.1
  have r : yRt s s' := by
    rw [← e]
    exact ⟨fun k j h1 h2 => zset_k (by omega), zset_j (by decide)⟩
  have e7 : s' 27 7 = s 27 7 := by rw [← e]; exact zset_j (by decide)
  have e8 : s' 27 8 = s 27 8 := by rw [← e]; exact zset_j (by decide)
  refine ⟨yTk_rt h r (by omega) (by rw [e7, e8]; exact h.2.2.2.2.2), ?_⟩
  unfold yst
  rw [e7, e8, r.1 30 _ (by decide) (by decide), e6]
  by_cases c : s 27 7 = 0
  · rw [if_pos c, if_pos c]
    show _ = yP.ok (yX f _)
    rw [show (s 27 6 + 1).toNat = (s 27 6).toNat + 1 by omega, (h.2.2.2.1 (s 27 6).toNat (by omega)).2]
  · rw [if_neg c, if_neg c]; rfl
theorem yL_step0 {f : Int → Int} {s : zSto} (h : yTk f s) (hc : s 27 5 ≤ s 27 6) : yst s = yPx f (yst s) := by
  have b := h.2.1
  have e : s 27 6 = s 27 5 := by omega
  unfold yst
  by_cases c : s 27 7 = 0
  · rw [if_pos c]
    show _ = yP.ok (yX f _)
    unfold yX
    rw [e, if_pos h.2.2.2.2.1]
  · rw [if_neg c]; rfl
theorem yL_ref1 {f : Int → Int} {s t s' : zSto} {a p : Int} (h : yTk f s) (e1 : zset s 27 7 a = t) (e2 : zset t 27 8 p = s') (h0 : s 27 7 = 0) (ha : a ≠ 0) : yTk f s' ∧ yst s' = yPno a p (yst s) := by
  have r : yRt s s' := by
    rw [← e2, ← e1]
    exact ⟨fun k j h1 h2 => (zset_k (by omega)).trans (zset_k (by omega)), (zset_j (by decide)).trans (zset_j (by decide))⟩
  have e6 : s' 27 6 = s 27 6 := by rw [← e2, ← e1]; exact (zset_j (by decide)).trans (zset_j (by decide))
  have e7 : s' 27 7 = a := by rw [← e2, ← e1]; exact (zset_j (by decide)).trans zset_s
  have e8 : s' 27 8 = p := by rw [← e2]; exact zset_s
  have b := h.2.1
  refine ⟨yTk_rt h r (by omega) (fun x => by omega), ?_⟩
  rw [yst_1 h0]
  unfold yst
  rw [e7, e8, if_neg ha]; rfl
theorem yL_ref0 {s : zSto} {a p : Int} (h0 : s 27 7 ≠ 0) : yst s = yPno a p (yst s) := by
  rw [yst_0 h0]; rfl
theorem yPno_f {s : yP} {a p d : Int} (h : yPo s = 1 → p = yPq s + d) : yPno a p s = yPf a d s := by
  cases s using yP_cases with
  | ok q => show yP.no a p = yP.no a (q + d); rw [h rfl]; rfl
  | no b u => rfl
theorem ypw_1 {f : Int → Int} {s : yP} {w : Int} (h : yPi f s = w) : yPx f s = yPw f w s := (if_pos h).symm
theorem ypw_0 {f : Int → Int} {s : yP} {w p : Int} (h : yPi f s ≠ w) (hp : yPo s = 1 → p = yPq s) : yPno 1 p s = yPw f w s := by
  unfold yPw; rw [if_neg h]; exact yPno_f (fun o => by rw [hp o]; omega)
theorem yps_1 {f : Int → Int} {s : yP} {w : Int} (h : yPg f s = w) : yPx f s = yPs f w s := (if_pos h).symm
theorem yps_0 {f : Int → Int} {s : yP} {w p : Int} (h : yPg f s ≠ w) (hp : yPo s = 1 → p = yPq s) : yPno 1 p s = yPs f w s := by
  unfold yPs; rw [if_neg h]; exact yPno_f (fun o => by rw [hp o]; omega)
theorem ypn_5 {f : Int → Int} {s : yP} {lo hi p : Int} (h : yPk f s = 5) (hp : yPo s = 1 → p = yPq s + 4) : yPno 1 p s = yPn f lo hi s := by
  unfold yPn; rw [if_pos h]; exact yPno_f hp
theorem ypn_n {f : Int → Int} {s : yP} {lo hi p : Int} (h : yPk f s ≠ 5 ∧ yPk f s ≠ 2) (hp : yPo s = 1 → p = yPq s) : yPno 1 p s = yPn f lo hi s := by
  unfold yPn; rw [if_neg h.1, if_neg h.2]; exact yPno_f (fun o => by rw [hp o]; omega)
theorem ypn_2 {f : Int → Int} {s : yP} {lo hi p : Int} (h : yPk f s = 2) (hv : yPv f s < lo ∨ hi < yPv f s) (hp : yPo s = 1 → p = yPq s) : yPno 2 p s = yPn f lo hi s := by
  unfold yPn; rw [if_neg (by omega), if_pos h, if_pos hv]; exact yPno_f (fun o => by rw [hp o]; omega)
theorem ypn_1 {f : Int → Int} {s : yP} {lo hi : Int} (h : yPk f s = 2) (hv : ¬ (yPv f s < lo ∨ hi < yPv f s)) : yPx f s = yPn f lo hi s := by
  unfold yPn; rw [if_neg (by omega), if_pos h, if_neg hv]
theorem yPo_px {f : Int → Int} {s : yP} : yPo (yPx f s) = yPo s := by cases s <;> rfl
theorem yPo_no {s : yP} {a p : Int} : yPo (yPno a p s) = 0 := by cases s <;> rfl
theorem yPo_pf {s : yP} {a d : Int} : yPo (yPf a d s) = 0 := by cases s <;> rfl
theorem yHv {f : Int → Int} {s : zSto} (_h : yTk f s) : 0 ≤ yPv f (yst s) ∧ yPv f (yst s) ≤ 9999 := by
  cases yst s using yP_cases with
  | ok q => exact yV_b
  | no a p => exact ⟨Int.le_refl _, by show (0 : Int) ≤ 9999; decide⟩
theorem yMo {f : Int → Int} {s : zSto} {p : yP} (h : yTk f s) (e : yst s = p) :
    (yPo p = 1 → 0 ≤ yPq p ∧ yPq p ≤ 1600 ∧ yPq p ≤ yPq (yPx f p) ∧ (yPk f p ≠ 0 → yPq p + 1 ≤ yPq (yPx f p))) ∧ yPo (yPx f p) = yPo p ∧ (yPo p = 0 ∨ yPo p = 1)
      ∧ (yPg f p ≠ -1 ∨ yPi f p ≠ -1 → yPo p = 1 ∧ yPk f p ≠ 0 ∧ yPq p < 1600) ∧ (yPg f p = -1 ∨ yPi f p = -1) ∧ (yPk f p = 1 → yPg f p = -1) ∧ (yPk f p ≠ 1 → yPi f p = -1) := by
  subst e
  have b := h.2.1
  have i1 : yPk f (yst s) = 1 → yPg f (yst s) = -1 := fun k => yPk_g (by omega)
  have i2 : yPk f (yst s) ≠ 1 → yPi f (yst s) = -1 := fun k => yPk_i k
  have i0 : yPg f (yst s) = -1 ∨ yPi f (yst s) = -1 := by
    by_cases c : yPk f (yst s) = 1
    · exact Or.inl (i1 c)
    · exact Or.inr (i2 c)
  by_cases c : s 27 7 = 0
  · rw [yst_1 c] at i0 i1 i2 ⊢
    obtain ⟨h1, -⟩ := h.2.2.1 (s 27 6).toNat (by omega)
    have m := yX_m h.1 h1
    generalize s 30 (s 27 6).toNat = q at *
    have k0 : yK f q ≠ 0 → 0 ≤ f q := fun n => by
      rcases (show f q < 0 ∨ 0 ≤ f q by omega) with c | c
      · exact absurd (yK_0.mpr c) n
      · exact c
    refine ⟨fun _ => ⟨h1.1, h1.2, m.1, fun n => m.2.2 (k0 n)⟩, rfl, Or.inr rfl, ?_, i0, i1, i2⟩
    intro n
    have k : yK f q ≠ 0 := by
      rcases n with n | n
      · have := yPg_k n; have this : yK f q = 3 := this; omega
      · have := yPi_k n; have this : yK f q = 1 := this; omega
    refine ⟨rfl, k, ?_⟩
    show q < 1600
    rcases (show q < 1600 ∨ 1600 ≤ q by omega) with c | c
    · exact c
    · have := h.1.2.2 q c; have := k0 k; omega
  · rw [yst_0 c] at i0 i1 i2 ⊢
    refine ⟨fun e => absurd e (by show ¬ (0 : Int) = 1; decide), rfl, Or.inl rfl, ?_, i0, i1, i2⟩
    intro n
    rcases n with n | n <;> exact absurd rfl n
def yle (a b : yP) : Prop := yPo b = 1 → yPo a = 1 ∧ yPq a ≤ yPq b
theorem yle_rf (a : yP) : yle a a := fun h => ⟨h, Int.le_refl _⟩
theorem yle_tr {a b c : yP} (h : yle a b) (g : yle b c) : yle a c := fun o => ⟨(h (g o).1).1, Int.le_trans (h (g o).1).2 (g o).2⟩
theorem yle_no {a : yP} {k p : Int} : yle a (yPno k p a) := fun o => by rw [yPo_no] at o; exact absurd o (by decide)
theorem yle_f {a : yP} {k d : Int} : yle a (yPf k d a) := fun o => by rw [yPo_pf] at o; exact absurd o (by decide)
theorem yle_x {f : Int → Int} {s : zSto} {p : yP} (h : yTk f s) (e : yst s = p) : yle p (yPx f p) := by
  obtain ⟨m1, m2, -⟩ := yMo h e
  intro o
  rw [m2] at o
  exact ⟨o, (m1 o).2.2.1⟩
theorem yle_w {f : Int → Int} {s : zSto} {p : yP} {w : Int} (h : yTk f s) (e : yst s = p) : yle p (yPw f w p) := by
  unfold yPw
  by_cases c : yPi f p = w
  · rw [if_pos c]; exact yle_x h e
  · rw [if_neg c]; exact yle_f
theorem yle_s {f : Int → Int} {s : zSto} {p : yP} {w : Int} (h : yTk f s) (e : yst s = p) : yle p (yPs f w p) := by
  unfold yPs
  by_cases c : yPg f p = w
  · rw [if_pos c]; exact yle_x h e
  · rw [if_neg c]; exact yle_f
theorem yle_n {f : Int → Int} {s : zSto} {p : yP} {lo hi : Int} (h : yTk f s) (e : yst s = p) : yle p (yPn f lo hi p) := by
  unfold yPn
  by_cases c : yPk f p = 5
  · rw [if_pos c]; exact yle_f
  · rw [if_neg c]
    by_cases d : yPk f p = 2
    · rw [if_pos d]
      by_cases g : yPv f p < lo ∨ hi < yPv f p
      · rw [if_pos g]; exact yle_f
      · rw [if_neg g]; exact yle_x h e
    · rw [if_neg d]; exact yle_f
def yge (i : Int) (p : yP) : Prop := yPo p = 1 → i ≤ yPq p
theorem yge_0 {f : Int → Int} {s : zSto} {p : yP} (h : yTk f s) (e : yst s = p) : yge 0 p := fun o => ((yMo h e).1 o).1
theorem yge_1 {f : Int → Int} {s : zSto} {p : yP} {i : Int} (h : yTk f s) (e : yst s = p) (g : yge i p) (hn : yPg f p ≠ -1 ∨ yPi f p ≠ -1) : yge (i + 1) (yPx f p) := by
  obtain ⟨m1, m2, m3, m4, -⟩ := yMo h e
  intro o
  rw [m2] at o
  have a := g o
  have b := (m1 o).2.2.2 (m4 hn).2.1
  omega
theorem yge_l {p q : yP} {i : Int} (g : yge i p) (h : yle p q) : yge i q := fun o => Int.le_trans (g (h o).1) (h o).2
theorem yge_x {f : Int → Int} {s : zSto} {p : yP} {i : Int} (h : yTk f s) (e : yst s = p) (g : yge i p) : 1600 ≤ i → yPg f p = -1 ∧ yPi f p = -1 := by
  intro hi
  obtain ⟨m1, m2, m3, m4, -⟩ := yMo h e
  by_cases c : yPg f p ≠ -1 ∨ yPi f p ≠ -1
  · have a := m4 c
    have b := g a.1
    omega
  · constructor <;> omega
def yVi (r w : Int) : Int := if yVal r w = true then 1 else 0
theorem yVi_1 {r w : Int} (h : yVi r w = 1) : yVal r w = true := by
  unfold yVi at h
  by_cases c : yVal r w = true
  · exact c
  · rw [if_neg c] at h; exact absurd h (by decide)
theorem yVi_0 {r w : Int} (h : yVi r w = 0) : yVal r w = false := by
  unfold yVi at h
  by_cases c : yVal r w = true
  · rw [if_pos c] at h; exact absurd h (by decide)
  · exact Bool.eq_false_iff.mpr c
theorem yVi_c (r w : Int) : (w = 12 ∨ w = 13 ∨ (w = 14 ∧ r = 0) ∨ ((w = 6 ∨ w = 15 ∨ w = 16) ∧ r ≠ 0) ∨ ((w = 17 ∨ w = 18 ∨ w = 19 ∨ w = 8) ∧ r = 2) → yVi r w = 1)
    ∧ (¬ (w = 12 ∨ w = 13 ∨ (w = 14 ∧ r = 0) ∨ ((w = 6 ∨ w = 15 ∨ w = 16) ∧ r ≠ 0) ∨ ((w = 17 ∨ w = 18 ∨ w = 19 ∨ w = 8) ∧ r = 2)) → yVi r w = 0) := by
  have k : yVal r w = true ↔ (w = 12 ∨ w = 13 ∨ (w = 14 ∧ r = 0) ∨ ((w = 6 ∨ w = 15 ∨ w = 16) ∧ r ≠ 0) ∨ ((w = 17 ∨ w = 18 ∨ w = 19 ∨ w = 8) ∧ r = 2)) := by
    simp only [yVal, Bool.or_eq_true, Bool.and_eq_true, decide_eq_true_eq]
    constructor <;> intro h <;> omega
  unfold yVi
  constructor
  · intro h; rw [if_pos (k.mpr h)]
  · intro h; rw [if_neg (fun c => h (k.mp c))]
