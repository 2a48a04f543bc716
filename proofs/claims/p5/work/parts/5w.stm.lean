def ySt (s : zSto) : Prop := 0 ≤ s 199 0 ∧ s 199 0 ≤ 100 ∧ 0 ≤ s 199 1 ∧ s 199 1 ≤ 100 ∧ 0 ≤ s 199 2 ∧ s 199 2 ≤ 100
theorem ySt_c {s s' : zSto} (h : ySt s) (e : ∀ j, s' 199 j = s 199 j) : ySt s' := by unfold ySt at *; rw [e, e, e]; exact h
def yTe (P : yPl) (s : zSto) : Prop := yPlr s = P ∧ yNvu s ∧ ySt s
theorem yTe_k {P : yPl} {s s' : zSto} {k j : Nat} {v : Int} (h : yTe P s) (e : zset s k j v = s') (hk : 194 ≠ k ∧ 195 ≠ k ∧ 196 ≠ k ∧ 198 ≠ k ∧ 200 ≠ k ∧ 199 ≠ k) : yTe P s' := by
  have a : ∀ c i, c ≠ k → s' c i = s c i := fun c i x => by rw [← e, zset_k x]
  exact ⟨(yPlr_c (a _ _ hk.1) (a _ _ hk.1) (a _ _ hk.2.1) (fun i => a _ _ hk.2.2.1) (fun i => a _ _ hk.2.2.2.1) (a _ _ hk.2.2.2.2.1) (a _ _ hk.2.2.2.2.1)).trans h.1, yNvu_c h.2.1 (a _ _ hk.2.1) (fun i => a _ _ hk.2.2.1), ySt_c h.2.2 (fun i => a _ _ hk.2.2.2.2.2)⟩
theorem yTe_2 {P : yPl} {s s' : zSto} (h : yTe P s) (o : zOn zQ2 s s') : yTe P s' :=
  ⟨(yPlr_c (o 194 0 rfl) (o 194 1 rfl) (o 195 0 rfl) (fun i => o 196 i rfl) (fun i => o 198 i rfl) (o 200 0 rfl) (o 200 1 rfl)).trans h.1, yNvu_c h.2.1 (o 195 0 rfl) (fun i => o 196 i rfl), ySt_c h.2.2 (fun i => o 199 i rfl)⟩
theorem yTe_1 {P : yPl} {s s' : zSto} (h : yTe P s) (o : zOn zQ1 s s') : yTe P s' := yTe_2 h (zOn_tr (zOn_rf zQ2 s) o zi_12)
theorem yTe_h {P : yPl} {s s' : zSto} (h : yTe P s) (o : zOn zQh s s') : yTe P s' :=
  ⟨(yPlr_c (o 194 0 rfl) (o 194 1 rfl) (o 195 0 rfl) (fun i => o 196 i rfl) (fun i => o 198 i rfl) (o 200 0 rfl) (o 200 1 rfl)).trans h.1, yNvu_c h.2.1 (o 195 0 rfl) (fun i => o 196 i rfl), ySt_c h.2.2 (fun i => o 199 i rfl)⟩
theorem yTe_ad {P : yPl} {s s' : zSto} {v : Int} (h : yTe P s) (e : zset s 200 0 v = s') (hv : v ≠ -1) : yTe (P.wad 1) s' := by
  have a : ∀ c i, c ≠ 200 → s' c i = s c i := fun c i x => by rw [← e, zset_k x]
  have a1 : s' 200 1 = s 200 1 := by rw [← e]; exact zset_j (by decide)
  have a0 : s' 200 0 = v := by rw [← e]; exact zset_s
  refine ⟨?_, yNvu_c h.2.1 (a _ _ (by decide)) (fun i => a _ _ (by decide)), ySt_c h.2.2 (fun i => a _ _ (by decide))⟩
  rw [← h.1]
  unfold yPlr
  rw [a 194 0 (by decide), a 194 1 (by decide), a 195 0 (by decide), funext (fun i => a 196 i (by decide)), funext (fun i => a 198 i (by decide)), a0, a1, if_neg hv]
theorem yTe_ho {P : yPl} {s s' : zSto} {v : Int} (h : yTe P s) (e : zset s 200 1 v = s') (hv : v ≠ -1) : yTe (P.who 1) s' := by
  have a : ∀ c i, c ≠ 200 → s' c i = s c i := fun c i x => by rw [← e, zset_k x]
  have a1 : s' 200 0 = s 200 0 := by rw [← e]; exact zset_j (by decide)
  have a0 : s' 200 1 = v := by rw [← e]; exact zset_s
  refine ⟨?_, yNvu_c h.2.1 (a _ _ (by decide)) (fun i => a _ _ (by decide)), ySt_c h.2.2 (fun i => a _ _ (by decide))⟩
  rw [← h.1]
  unfold yPlr
  rw [a 194 0 (by decide), a 194 1 (by decide), a 195 0 (by decide), funext (fun i => a 196 i (by decide)), funext (fun i => a 198 i (by decide)), a0, a1, if_neg hv]
theorem yTe_st {P : yPl} {s s' : zSto} {j : Nat} {v : Int} (h : yTe P s) (e : zset s 199 j v = s') (hv : 0 ≤ v ∧ v ≤ 100) : yTe P s' := by
  have a : ∀ c i, c ≠ 199 → s' c i = s c i := fun c i x => by rw [← e, zset_k x]
  refine ⟨(yPlr_c (a _ _ (by decide)) (a _ _ (by decide)) (a _ _ (by decide)) (fun i => a _ _ (by decide)) (fun i => a _ _ (by decide)) (a _ _ (by decide)) (a _ _ (by decide))).trans h.1, yNvu_c h.2.1 (a _ _ (by decide)) (fun i => a _ _ (by decide)), ?_⟩
  obtain ⟨b1, b2, b3, b4, b5, b6⟩ := h.2.2
  have c : ∀ i, 0 ≤ s 199 i ∧ s 199 i ≤ 100 → 0 ≤ s' 199 i ∧ s' 199 i ≤ 100 := by
    intro i hi
    by_cases z : i = j
    · rw [z, ← e, zset_s]; exact hv
    · rw [← e, zset_j z]; exact hi
  have c0 := c 0 ⟨b1, b2⟩
  have c1 := c 1 ⟨b3, b4⟩
  have c2 := c 2 ⟨b5, b6⟩
  exact ⟨c0.1, c0.2, c1.1, c1.2, c2.1, c2.2⟩
theorem yPno_x {f : Int → Int} {s0 : yP} {a : Int} (o : yPo s0 = 1) (ha : a = yPq s0) : yPno 5 a (yPx f s0) = yPf 5 0 s0 := by
  cases s0 using yP_cases with
  | ok q => show yP.no 5 a = yP.no 5 (q + 0); rw [ha]; show yP.no 5 q = _; rw [Int.add_zero]
  | no x y => exact absurd o (by show ¬ (0 : Int) = 1; decide)
theorem yAds_t {f : Int → Int} {s : zSto} {s0 : yP} {a : Int} (h : s 200 0 ≠ -1) (o : yPo s0 = 1) (ha : a = yPq s0) : yPno 5 a (yPx f s0) = yAds f (yPlr s) s0 := by
  have q : (yPlr s).ad ≠ 0 := by show (if s 200 0 = -1 then (0 : Int) else 1) ≠ 0; rw [if_neg h]; decide
  unfold yAds; rw [if_pos q]; exact yPno_x o ha
theorem yHos_t {f : Int → Int} {s : zSto} {s0 : yP} {a : Int} (h : s 200 1 ≠ -1) (o : yPo s0 = 1) (ha : a = yPq s0) : yPno 5 a (yPx f s0) = yHos f (yPlr s) s0 := by
  have q : (yPlr s).ho ≠ 0 := by show (if s 200 1 = -1 then (0 : Int) else 1) ≠ 0; rw [if_neg h]; decide
  unfold yHos; rw [if_pos q]; exact yPno_x o ha
theorem yAds_s {f : Int → Int} {s : zSto} {s0 p : yP} (h : s 200 0 = -1) (J : yJ 0 f (1, [], yPx f s0) (2, [], p)) (n : yns f p) : p = yAds f (yPlr s) s0 := by
  have q : ¬ (yPlr s).ad ≠ 0 := by show ¬ (if s 200 0 = -1 then (0 : Int) else 1) ≠ 0; rw [if_pos h]; decide
  unfold yAds; rw [if_neg q]; exact (ySm_eq ⟨J, n⟩).symm
theorem yHos_s {f : Int → Int} {s : zSto} {s0 p : yP} (h : s 200 1 = -1) (t : yTst 1 f (yPx f s0) p) : p = yHos f (yPlr s) s0 := by
  have q : ¬ (yPlr s).ho ≠ 0 := by show ¬ (if s 200 1 = -1 then (0 : Int) else 1) ≠ 0; rw [if_pos h]; decide
  unfold yHos; rw [if_neg q]; exact (yTt_eq t).symm
def yCb (s : zSto) (p : yP) : Prop := yPo p = 1 → s 164 48 + s 164 97 ≤ yPq p
