def yIm (a b : Prop) : Prop := a → b
def ybs (s : zSto) : Int := ybr (s 235) (s 164 101).toNat (s 164 99 - s 164 101).toNat
theorem ybs_fr {s s' : zSto} (o : zOn zQ1 s s') : ybs s' = ybs s := by
  unfold ybs
  rw [o 164 101 rfl, o 164 99 rfl, show s' 235 = s 235 from funext (fun j => o 235 j rfl)]
def yBr (b : Int) : Prop := b = -1 ∨ (20 ≤ b ∧ b ≤ 24)
def yLn (cb rl : Int) (f : Int → Int) (k : List Nat) (M0 : Nat × List Nat × yP) (σ s : zSto) (p : yP) : Prop := yLm cb rl f k M0 σ 2 s p ∧ ynf s
theorem yLn_fr {cb : Int} {rl : Int} {f : Int → Int} {k : List Nat} {M0 : Nat × List Nat × yP} {σ s s' : zSto} {p : yP} (h : yLn cb rl f k M0 σ s p) (o : zOn zQ1 s s') : yLn cb rl f k M0 σ s' p := by
  refine ⟨yLm_fr h.1 o, ?_⟩
  unfold ynf
  rw [o 164 99 rfl, o 164 101 rfl, o 235 _ rfl]
  exact h.2
theorem yLn_t {cb : Int} {rl : Int} {f : Int → Int} {k : List Nat} {M0 : Nat × List Nat × yP} {σ s : zSto} {p : yP} (h : yLn cb rl f k M0 σ s p) : (ystk k s = k ∧ ybs s = -1) ∨ ∃ l, ystk k s = yab (ybs s) ++ l ∧ 20 ≤ ybs s ∧ ybs s ≤ 24 := by
  obtain ⟨⟨h1, h2, ⟨⟨b, w, d, t⟩, h4, h5⟩, h6, h7, h8⟩, n⟩ := h
  unfold ystk ybs
  rcases ybr_t _ w (ynf_n ⟨b.1, b.2.1⟩ n) with ⟨x, y⟩ | ⟨l, x, y⟩
  · exact Or.inl ⟨by rw [x]; rfl, y⟩
  · exact Or.inr ⟨l ++ k, by rw [x, List.append_assoc], y⟩
theorem yLn_b {cb : Int} {rl : Int} {f : Int → Int} {k : List Nat} {M0 : Nat × List Nat × yP} {σ s : zSto} {p : yP} (h : yLn cb rl f k M0 σ s p) : yBr (ybs s) := by
  rcases yLn_t h with ⟨_, y⟩ | ⟨_, _, y⟩
  · exact Or.inl y
  · exact Or.inr y
theorem yTopb {cb : Int} {rl : Int} {f : Int → Int} {k : List Nat} {M0 : Nat × List Nat × yP} {σ s sd : zSto} {p : yP} {c : Int} (h : yLn cb rl f k M0 σ s p) (d1 : s 164 101 ≤ sd 164 99 ∧ sd 164 99 ≤ s 164 99)
    (d2 : ∀ i : Nat, sd 164 99 ≤ i → (i : Int) < s 164 99 → ¬ (20 ≤ s 235 i ∧ s 235 i ≤ 24)) (d3 : sd 164 99 = s 164 101 ∨ (s 164 101 < sd 164 99 ∧ (20 ≤ s 235 (sd 164 99 - 1).toNat ∧ s 235 (sd 164 99 - 1).toNat ≤ 24)))
    (hc : ybs s = c) (c20 : 20 ≤ c) : s 164 101 < sd 164 99 ∧ s 235 (sd 164 99 - 1).toNat = c ∧ 1 ≤ s 164 100 := by
  have tt := yLn_t h
  obtain ⟨⟨h1, h2, ⟨⟨b, w, d, t⟩, h4, h5⟩, h6, h7, h8⟩, n⟩ := h
  obtain ⟨r1, r2, r3⟩ := yops (w := s 235) (b := (s 164 101).toNat) (m := (sd 164 99 - s 164 101).toNat) (s 164 99 - s 164 101).toNat (by omega) w (ynf_n ⟨b.1, b.2.1⟩ n) (fun i x y => d2 _ (by omega) (by omega))
  have hb : ybr (s 235) (s 164 101).toNat (sd 164 99 - s 164 101).toNat = c := by rw [← r2]; exact hc
  have lt : s 164 101 < sd 164 99 := by
    rcases d3 with x | x
    · rw [show (sd 164 99 - s 164 101).toNat = 0 by omega] at hb
      have : (-1 : Int) = c := hb
      omega
    · exact x.1
  have br : 20 ≤ s 235 (sd 164 99 - 1).toNat ∧ s 235 (sd 164 99 - 1).toNat ≤ 24 := by
    rcases d3 with x | x
    · omega
    · exact x.2
  refine ⟨lt, ?_, ?_⟩
  · rw [show (sd 164 99 - s 164 101).toNat = (sd 164 99 - 1 - s 164 101).toNat + 1 by omega] at hb
    have hb : (if 20 ≤ s 235 ((s 164 101).toNat + (sd 164 99 - 1 - s 164 101).toNat) ∧ s 235 ((s 164 101).toNat + (sd 164 99 - 1 - s 164 101).toNat) ≤ 24 then s 235 ((s 164 101).toNat + (sd 164 99 - 1 - s 164 101).toNat) else ybr (s 235) (s 164 101).toNat (sd 164 99 - 1 - s 164 101).toNat) = c := hb
    rw [show (s 164 101).toNat + (sd 164 99 - 1 - s 164 101).toNat = (sd 164 99 - 1).toNat by omega, if_pos br] at hb
    exact hb
  · rcases tt with ⟨_, y⟩ | ⟨l, x, y⟩
    · omega
    · have q : ((ydep (ystk k s) : Nat) : Int) = s 164 100 := d
      rw [x] at q
      have z : ∃ a, yab (ybs s) = [a] ∧ a ≠ 5 ∧ a ≠ 6 := by
        unfold yab
        repeat' split
        all_goals first | exact ⟨_, rfl, by decide, by decide⟩ | omega
      obtain ⟨a, ya, n5, n6⟩ := z
      rw [ya] at q
      have q : ((ydep (a :: l) : Nat) : Int) = s 164 100 := q
      rw [ydep_c ⟨n5, n6⟩] at q
      omega
theorem yns_g {f : Int → Int} {p : yP} {c : Int} (h : yPg f p = c) (n : c ≠ 42 ∧ c ≠ 47 ∧ c ≠ 43 ∧ c ≠ 45) : yns f p := by
  unfold yns; rw [h]; exact n
theorem yClose {cb : Int} {rl : Int} {f : Int → Int} {k : List Nat} {M0 : Nat × List Nat × yP} {σ s t sd s3 s' : zSto} {p : yP} {c : Int} (h : yLn cb rl f k M0 σ s p) (hT : yTq f t) (hE : yqs f t = p) (hg : yPg f p = 41) (c3 : c = 20 ∨ c = 23 ∨ c = 24)
    (d2 : ∀ i : Nat, sd 164 99 ≤ i → (i : Int) < s 164 99 → ¬ (20 ≤ s 235 i ∧ s 235 i ≤ 24)) (top : s 164 101 < sd 164 99 ∧ s 235 (sd 164 99 - 1).toNat = c ∧ 1 ≤ s 164 100) (d1 : sd 164 99 ≤ s 164 99)
    (h9 : s3 164 99 = sd 164 99 - 1) (h0 : s3 164 100 = s 164 100 - 1) (hb : s3 164 101 = s 164 101) (ht : s3 164 51 = s 164 51) (hr : ∀ j, s3 235 j = s 235 j) (h97 : s3 164 97 + s3 164 99 ≤ s 164 97 + s 164 99) (e : zOn zWe s3 s')
    (e1 : s' 164 97 + s' 164 99 = s3 164 97 + s3 164 99 ∧ s3 164 101 ≤ s' 164 99 ∧ s' 164 99 ≤ s3 164 99 ∧ s' 164 100 = s3 164 100 - (s3 164 99 - s' 164 99))
    (e2 : ∀ i : Nat, s' 164 99 ≤ i → (i : Int) < s3 164 99 → 60 ≤ s3 235 i) (e3 : s3 164 5 ≠ 0 ∨ s' 164 99 = s3 164 101 ∨ s3 235 (s' 164 99 - 1).toNat < 60) (hE' : yqs f s' = yPx f p) : yLn cb rl f k M0 σ s' (yPx f p) := by
  obtain ⟨⟨h1, h2, ⟨h3, h4, h5⟩, h6, h7, h8⟩, n⟩ := h
  obtain ⟨m3, st, br⟩ := ysm_q (s' := s3) (c := c) h3 n (by omega) (fun i x y => d2 i (by omega) y) (by rw [h9]; exact top.2.1) (by omega) h0 hb ht hr
  have o' : yPo (yPx f p) = 1 := yPo_px.trans h1
  have b0 : s3 164 5 = 0 := by rw [← e 164 5 rfl]; exact yHb1 hE' o'
  obtain ⟨j1, m1, n1⟩ := yEnd (f := f) (p := yPx f p) m3 e ⟨e1.2.1, e1.2.2.1, e1.2.2.2⟩ e2 (e3.resolve_left (fun z => z b0))
  have xx := (yMq hT hE).1 h1
  have y4 := h4 h1
  have px : yPs f 41 p = yPx f p := if_pos hg
  have J : yJ rl f (2, ystk k s, p) (2, ystk k s3, yPx f p) := by
    rw [st, ← px]
    rcases c3 with x | x | x <;> subst x
    · exact yJ_cl (Or.inl rfl) (yns_g hg (by decide))
    · exact yJ_cl (Or.inr rfl) (yns_g hg (by decide))
    · exact yJ_cl (Or.inr rfl) (yns_g hg (by decide))
  refine ⟨⟨o', yJ_tr h2 (yJ_tr J j1), ⟨m1, fun _ => by omega, by omega⟩, ?_, fun j hj => ?_, by omega⟩, n1⟩
  · rw [e 164 101 rfl, hb]; exact h6
  · rw [e 235 j rfl, hr j]; exact h7 j hj
def yLo (cb rl : Int) (f : Int → Int) (k : List Nat) (M0 : Nat × List Nat × yP) (σ s : zSto) (p : yP) : Prop :=
  yPo p = 1 ∧ yJ rl f M0 (1, ystk k s, p) ∧ (ysm rl k s ∧ (0 ≤ cb ∧ cb + s 164 97 + s 164 99 + 1 ≤ yPq p) ∧ s 164 100 ≤ 6) ∧ s 164 101 = σ 164 101 ∧ yKp (σ 164 101) σ s ∧ yPq M0.2.2 ≤ yPq p ∧ ynf s
def ybl (s : zSto) : Prop := s 164 101 ≤ 0 ∨ ¬ (1 ≤ s 235 (s 164 101 - 1).toNat ∧ s 235 (s 164 101 - 1).toNat ≤ 4)
theorem yLo_0 {cb : Int} {rl : Int} {f : Int → Int} {k : List Nat} {M0 : Nat × List Nat × yP} {σ s t : zSto} {p : yP} (h : yLn cb rl f k M0 σ s p) (hT : yTq f t) (hE : yqs f t = p) (h4 : ytop k ≠ 4) (hg : yPg f p = 42 ∨ yPg f p = 47 ∨ yPg f p = 43 ∨ yPg f p = 45) : yLo cb rl f k M0 σ s (yPx f p) := by
  have tt := yLn_t h
  obtain ⟨⟨h1, h2, ⟨h3, hd, h5⟩, h6, h7, h8⟩, n⟩ := h
  have xx := (yMq hT hE).1 h1
  have y4 := hd h1
  have ad := xx.2.2.2 (ykn (Or.inl (by omega)))
  have top : ytop (ystk k s) ≠ 4 := by
    rcases tt with ⟨x, _⟩ | ⟨l, x, y⟩
    · rw [x]; exact h4
    · rw [x]
      unfold yab
      repeat' split
      all_goals first | (show (1 : Nat) ≠ 4; decide) | (show (2 : Nat) ≠ 4; decide) | (show (3 : Nat) ≠ 4; decide) | omega
  exact ⟨yPo_px.trans h1, yJ_tr h2 (yJ_o top hg), ⟨h3, by omega, h5⟩, h6, h7, by omega, n⟩
theorem yLo_fr {cb : Int} {rl : Int} {f : Int → Int} {k : List Nat} {M0 : Nat × List Nat × yP} {σ s s' : zSto} {p : yP} (h : yLo cb rl f k M0 σ s p) (o : zOn zQ1 s s') : yLo cb rl f k M0 σ s' p := by
  obtain ⟨h1, h2, ⟨h3, hd, h5⟩, h6, h7, h8, n⟩ := h
  obtain ⟨a, b⟩ := ysm_eq h3 (o 164 99 rfl) (o 164 100 rfl) (o 164 101 rfl) (o 164 51 rfl) (fun j => o 235 j rfl)
  refine ⟨h1, by rw [b]; exact h2, ⟨a, by rw [o 164 97 rfl, o 164 99 rfl]; exact hd, by rw [o 164 100 rfl]; exact h5⟩, by rw [o 164 101 rfl]; exact h6, fun j hj => (o 235 j rfl).trans (h7 j hj), h8, ?_⟩
  unfold ynf
  rw [o 164 99 rfl, o 164 101 rfl, o 235 _ rfl]
  exact n
theorem yLo_n {cb : Int} {rl : Int} {f : Int → Int} {k : List Nat} {M0 : Nat × List Nat × yP} {σ s : zSto} {p : yP} (h : yLo cb rl f k M0 σ s p) (hT : yTq f s) (hE : yqs f s = p) : s 164 5 = 0 ∧ 0 ≤ s 164 101 ∧ s 164 101 ≤ s 164 99 ∧ s 164 97 + s 164 99 ≤ 1599 := by
  obtain ⟨h1, h2, ⟨h3, hd, h5⟩, h6, h7, h8, n⟩ := h
  have x := (yMq hT hE).1 h1
  exact ⟨yHb1 hE h1, h3.1.1, h3.1.2.1, by omega⟩
theorem yLo_d {cb : Int} {rl : Int} {f : Int → Int} {k : List Nat} {M0 : Nat × List Nat × yP} {σ s s' : zSto} {p : yP} {v : Int} (h : yLo cb rl f k M0 σ s p) (hbl : ybl σ) (h9 : 1 ≤ s 164 99) (hv : s 235 (s 164 99 - 1).toNat = v) (v4 : 1 ≤ v ∧ v ≤ 4) (o : zOn zWd s s') (h' : s' 164 97 = s 164 97 + 1 ∧ s' 164 99 = s 164 99 - 1) : yLo cb rl f k M0 σ s' p := by
  obtain ⟨h1, h2, ⟨⟨b, w, d, t⟩, hd, h5⟩, h6, h7, h8, n⟩ := h
  have lt : s 164 101 < s 164 99 := by
    rcases (show s 164 101 = s 164 99 ∨ s 164 101 < s 164 99 by omega) with x | x
    · exfalso
      rcases hbl with y | y
      · omega
      · refine y ?_
        rw [← h7 _ (by omega), ← h6, x, hv]; exact v4
    · exact x
  have row : s' 235 = s 235 := funext (fun j => o 235 j rfl)
  have hb := o 164 101 rfl
  have h0 := o 164 100 rfl
  have h51 := o 164 51 rfl
  have n1 : (s 164 99 - s 164 101).toNat = (s' 164 99 - s 164 101).toNat + 1 := by omega
  have top : s 235 ((s 164 101).toNat + (s' 164 99 - s 164 101).toNat) = v := by rw [show (s 164 101).toNat + (s' 164 99 - s 164 101).toNat = (s 164 99 - 1).toNat by omega]; exact hv
  have sk : ysk (s 235) (s 164 101).toNat (s 164 99 - s 164 101).toNat = ysk (s 235) (s 164 101).toNat (s' 164 99 - s 164 101).toNat := by
    rw [n1]
    show yab (s 235 ((s 164 101).toNat + (s' 164 99 - s 164 101).toNat)) ++ _ = _
    rw [top, yab_o (Or.inl (by omega))]; rfl
  have st : ystk k s' = ystk k s := by
    unfold ystk
    rw [row, hb, sk]
  refine ⟨h1, by rw [st]; exact h2, ⟨⟨by omega, ?_, ?_, by omega⟩, by omega, by omega⟩, by omega, fun j hj => (o 235 j rfl).trans (h7 j hj), h8, ?_⟩
  · rw [row, hb]
    exact ysw_m (by omega) w
  · have e : ysk (s' 235) (s' 164 101).toNat (s' 164 99 - s' 164 101).toNat ++ k = ystk k s' := rfl
    rw [e, st, h0]; exact d
  · unfold ynf
    rw [row, hb]
    rcases (show s' 164 99 = s 164 101 ∨ s 164 101 < s' 164 99 by omega) with x | x
    · exact Or.inl x
    · refine Or.inr (fun y => ?_)
      have q := w.2 (s' 164 99 - 1).toNat (by omega) (by omega) y
      rw [show (s' 164 99 - 1).toNat + 1 = (s 164 99 - 1).toNat by omega, hv] at q
      omega
theorem yLo_p {cb : Int} {rl : Int} {f : Int → Int} {k : List Nat} {M0 : Nat × List Nat × yP} {σ s t s1 s' : zSto} {p : yP} {c : Int} {j9 : Nat} {u : Int} (h : yLo cb rl f k M0 σ s p) (hT : yTq f t) (hE : yqs f t = p) (h97 : 0 ≤ s 164 97) (hc : 1 ≤ c ∧ c ≤ 4) (e1 : zset s 235 j9 c = s1) (e2 : zset s1 164 99 u = s') (hj : j9 = (s 164 99).toNat) (hu : u = s 164 99 + 1) : yLm cb rl f k M0 σ 1 s' p := by
  obtain ⟨h1, h2, ⟨h3, hd, h5⟩, h6, h7, h8, n⟩ := h
  have x := (yMq hT hE).1 h1
  have o : ∀ j, j ≠ 99 → s' 164 j = s 164 j := fun j a => by rw [← e2, zset_j a, ← e1, zset_k (by decide)]
  have r : ∀ j, j ≠ (s 164 99).toNat → s' 235 j = s 235 j := fun j a => by rw [← e2, zset_k (by decide), ← e1, zset_j (by omega)]
  have v : s' 235 (s 164 99).toNat = c := by rw [← e2, zset_k (by decide), ← e1, hj]; exact zset_s
  have n9 : s' 164 99 = s 164 99 + 1 := by rw [← e2, ← hu]; exact zset_s
  obtain ⟨a, b⟩ := ysm_o h3 n hc n9 (o 100 (by decide)) (o 101 (by decide)) (o 51 (by decide)) (by omega) v r
  have o97 := o 97 (by decide)
  have hb := h3.1
  refine ⟨h1, by rw [b]; exact h2, ⟨a, fun _ => by omega, by rw [o 100 (by decide)]; exact h5⟩, by rw [o 101 (by decide)]; exact h6, fun j hj => ?_, h8⟩
  rw [r j (by omega)]; exact h7 j hj
theorem yComma {cb : Int} {rl : Int} {f : Int → Int} {k : List Nat} {M0 : Nat × List Nat × yP} {σ s t sd s' : zSto} {p : yP} {c u : Int} {j9 : Nat} (h : yLn cb rl f k M0 σ s p) (hT : yTq f t) (hE : yqs f t = p) (hg : yPg f p = 44) (c2 : c = 21 ∨ c = 22)
    (d2 : ∀ i : Nat, sd 164 99 ≤ i → (i : Int) < s 164 99 → ¬ (20 ≤ s 235 i ∧ s 235 i ≤ 24)) (top : s 164 101 < sd 164 99 ∧ s 235 (sd 164 99 - 1).toNat = c ∧ 1 ≤ s 164 100) (d1 : sd 164 97 + sd 164 99 = s 164 97 + s 164 99 ∧ sd 164 99 ≤ s 164 99) (o : zOn zWd s sd) (h97 : 0 ≤ sd 164 97)
    (e : zset sd 235 j9 u = s') (hj : j9 = (sd 164 99 - 1).toNat) (hu : u = c + 2) : yLm cb rl f k M0 σ 1 s' (yPx f p) := by
  obtain ⟨⟨h1, h2, ⟨h3, h4, h5⟩, h6, h7, h8⟩, n⟩ := h
  have hx := (yMq hT hE).1 h1
  have y4 := h4 h1
  have ob := o 164 101 rfl
  have o0 := o 164 100 rfl
  have ot := o 164 51 rfl
  generalize hq1 : zset sd 164 99 (sd 164 99 - 1) = q1
  generalize hq2 : zset q1 164 100 (s 164 100 - 1) = q2
  have a9 : q2 164 99 = sd 164 99 - 1 := by rw [← hq2, zset_j (by decide), ← hq1]; exact zset_s
  have a0 : q2 164 100 = s 164 100 - 1 := by rw [← hq2]; exact zset_s
  have ao : ∀ j, j ≠ 99 → j ≠ 100 → q2 164 j = sd 164 j := fun j x y => by rw [← hq2, zset_j y, ← hq1, zset_j x]
  have ar : ∀ j, q2 235 j = s 235 j := fun j => by rw [← hq2, zset_k (by decide), ← hq1, zset_k (by decide)]; exact o 235 j rfl
  have b1 := ao 101 (by decide) (by decide)
  have b5 := ao 51 (by decide) (by decide)
  obtain ⟨m3, st, br⟩ := ysm_q (s' := q2) (c := c) h3 n (by omega) (fun i x y => d2 i (by omega) y) (by rw [a9]; exact top.2.1) (by omega) a0 (by omega) (by omega) ar
  have so : ∀ j, s' 164 j = sd 164 j := fun j => by rw [← e, zset_k (by decide)]
  have hb := h3.1
  have s99 := so 99
  have s100 := so 100
  have s101 := so 101
  have s51 := so 51
  have s97 := so 97
  obtain ⟨m4, st4⟩ := ysm_p (s := q2) (s' := s') (c := u) m3 (Or.inl (by omega)) (by omega) (by omega) (by omega) (by omega) (by omega) (by rw [a9, ← e, hj]; exact zset_s)
    (fun j x => by rw [a9] at x; rw [ar, ← e, zset_j (by omega)]; exact o 235 j rfl)
  have px : yPs f 44 p = yPx f p := if_pos hg
  have J : yJ rl f (2, ystk k s, p) (1, ystk k s', yPx f p) := by
    rw [st, st4, ← px, hu]
    rcases c2 with x | x <;> subst x
    · exact yJ_cm (yns_g hg (by decide))
    · exact yJ_cm (yns_g hg (by decide))
  refine ⟨yPo_px.trans h1, yJ_tr h2 J, ⟨m4, fun _ => by omega, by omega⟩, by omega, fun j hj => ?_, by omega⟩
  rw [← e, zset_j (by omega), o 235 j rfl]; exact h7 j hj
theorem yCommf {cb : Int} {rl : Int} {f : Int → Int} {k : List Nat} {M0 : Nat × List Nat × yP} {σ s : zSto} {p : yP} (h : yLn cb rl f k M0 σ s p) (hc : ybs s = 21 ∨ ybs s = 22) (hn : yns f p) (o : yPo (yPs f 44 p) = 0) : yFt rl f M0 (yPs f 44 p) := by
  rcases yLn_t h with ⟨_, y⟩ | ⟨l, x, y⟩
  · omega
  · refine ⟨o, yJ_tr h.1.2.1 ?_⟩
    rw [x]
    have ya : yab (ybs s) = [2] := by
      unfold yab
      repeat' split
      all_goals first | rfl | omega
    rw [ya]
    exact yJ_tr (yJ_cm hn) (yJ_any o)
theorem yOpenf {cb : Int} {rl : Int} {f : Int → Int} {k : List Nat} {M0 : Nat × List Nat × yP} {σ s : zSto} {p : yP} {a : Int} (h : yLn cb rl f k M0 σ s p) (hc : ybs s = 20 ∨ ybs s = 23 ∨ ybs s = 24) (hn : yns f p) (n4 : yPg f p ≠ 41) (ha : a = yPq p) : yFt rl f M0 (yPno 1 a p) := by
  have e : yPno 1 a p = yPs f 41 p := by
    unfold yPs; rw [if_neg n4]; exact yPno_f (fun _ => by omega)
  have o : yPo (yPs f 41 p) = 0 := by rw [← e]; exact yPo_no
  rcases yLn_t h with ⟨_, y⟩ | ⟨l, x, y⟩
  · omega
  · rw [e]
    refine ⟨o, yJ_tr h.1.2.1 ?_⟩
    rw [x]
    have ya : yab (ybs s) = [1] ∨ yab (ybs s) = [3] := by
      unfold yab
      repeat' split
      all_goals first | exact Or.inl rfl | exact Or.inr rfl | omega
    rcases ya with z | z <;> rw [z]
    · exact yJ_tr (yJ_cl (Or.inl rfl) hn) (yJ_any o)
    · exact yJ_tr (yJ_cl (Or.inr rfl) hn) (yJ_any o)
theorem yns_f {f : Int → Int} {p : yP} (h : yPo p = 0) : yns f p := by
  cases p using yP_cases with
  | ok q => exact absurd h (by show ¬ (1 : Int) = 0; decide)
  | no a b => exact ⟨by show ¬ (-1 : Int) = 42; decide, by show ¬ (-1 : Int) = 47; decide, by show ¬ (-1 : Int) = 43; decide, by show ¬ (-1 : Int) = 45; decide⟩
theorem ysps {A : Prop} [Decidable A] {r : Int} (h : (A → r = 1) ∧ (¬ A → r = 0)) : (r = 1 ∧ A) ∨ r = 0 := by
  by_cases c : A
  · exact Or.inl ⟨h.1 c, c⟩
  · exact Or.inr (h.2 c)
def yGon (cb rl : Int) (f : Int → Int) (k : List Nat) (σ s : zSto) (p0 p : yP) (r : Int) : Prop :=
  (r = 1 ∧ yLm cb rl f k (2, ystk k σ, p0) σ 1 s p) ∨ (r = 0 ∧ yJ rl f (2, ystk k σ, p0) (2, k, p) ∧ yns f p ∧ (yPo p = 1 → yLm cb rl f k (2, ystk k σ, p0) σ 2 s p ∧ ystk k s = k))
theorem yGon_f {cb : Int} {rl : Int} {f : Int → Int} {k : List Nat} {σ s : zSto} {p0 p : yP} (h : yFt rl f (2, ystk k σ, p0) p) : yGon cb rl f k σ s p0 p 0 :=
  Or.inr ⟨rfl, yJ_tr h.2 (yJ_any h.1), yns_f h.1, fun o => by have := h.1; omega⟩
theorem yGon_e {cb : Int} {rl : Int} {f : Int → Int} {k : List Nat} {σ s : zSto} {p0 p : yP} (h : yLn cb rl f k (2, ystk k σ, p0) σ s p) (hb : ybs s = -1) (hn : yns f p) : yGon cb rl f k σ s p0 p 0 := by
  have st : ystk k s = k := by
    rcases yLn_t h with ⟨x, _⟩ | ⟨l, x, y⟩
    · exact x
    · omega
  refine Or.inr ⟨rfl, ?_, hn, fun _ => ⟨h.1, st⟩⟩
  have q := h.1.2.1
  rw [st] at q
  exact q
theorem yPs_k {f : Int → Int} {p : yP} {c : Int} (o : yPo (yPs f c p) = 1) : yPg f p = c := by
  unfold yPs at o
  by_cases h : yPg f p = c
  · exact h
  · rw [if_neg h, yPo_pf] at o; exact absurd o (by decide)
