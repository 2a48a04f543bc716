theorem yMq {f : Int → Int} {s : zSto} {p : yP} (h : yTq f s) (e : yqs f s = p) :
    (yPo p = 1 → 0 ≤ yPq p ∧ yPq p ≤ 1600 ∧ yPq p ≤ yPq (yPx f p) ∧ (yPk f p ≠ 0 → yPq p + 1 ≤ yPq (yPx f p))) ∧ yPo (yPx f p) = yPo p := by
  subst e
  by_cases c : s 164 5 = 0
  · rw [yqs_1 c]
    have b := h.2.2.1
    have l : s 164 2 ≤ yS f (s 164 2) := yE_b
    have m : yS f (s 164 2) ≤ 1600 := yE_m h.1 yB_m (by omega)
    have x := yX_m h.1 (q := yS f (s 164 2)) (by omega)
    refine ⟨fun _ => ⟨by show 0 ≤ yS f (s 164 2); omega, m, x.1, fun n => ?_⟩, rfl⟩
    have k : 0 ≤ f (yS f (s 164 2)) := by
      rcases (show f (yS f (s 164 2)) < 0 ∨ 0 ≤ f (yS f (s 164 2)) by omega) with z | z
      · exact absurd (yK_0.mpr z) n
      · exact z
    exact x.2.2 k
  · rw [yqs_0 c]
    exact ⟨fun o => absurd o (by show ¬ (0 : Int) = 1; decide), rfl⟩
def ybd (cb : Int) (s : zSto) (p : yP) : Prop := yPo p = 1 → 0 ≤ cb ∧ cb + s 164 97 + s 164 99 ≤ yPq p
theorem ybd_no {cb : Int} {s : zSto} {p : yP} (h : yPo p = 0) : ybd cb s p := fun o => absurd o (by omega)
theorem ybd_b {cb : Int} {f : Int → Int} {s : zSto} {p : yP} (b : ybd cb s p) (h : yTq f s) (e : yqs f s = p) (o : yPo p = 1) : s 164 97 + s 164 99 ≤ 1600 := by
  have m := ((yMq h e).1 o).2.1
  have x := b o
  omega
theorem ykn {f : Int → Int} {p : yP} (h : yPg f p ≠ -1 ∨ yPi f p ≠ -1 ∨ yPk f p = 2) : yPk f p ≠ 0 := by
  rcases h with h | h | h
  · have := yPg_k h; omega
  · have := yPi_k h; omega
  · omega
theorem ybd_x {cb : Int} {f : Int → Int} {σ s s' : zSto} {p : yP} (b : ybd cb s p) (h : yTq f σ) (e : yqs f σ = p) (n : yPk f p ≠ 0) (d : s' 164 97 + s' 164 99 ≤ s 164 97 + s 164 99 + 1) : ybd cb s' (yPx f p) := by
  intro o
  obtain ⟨m1, m2⟩ := yMq h e
  rw [m2] at o
  have a := b o
  have c := (m1 o).2.2.2 n
  omega
theorem ybd_s {cb : Int} {s s' : zSto} {p : yP} (b : ybd cb s p) (d : s' 164 97 + s' 164 99 ≤ s 164 97 + s 164 99) : ybd cb s' p := fun o => by have := b o; omega
def ysm (rl : Int) (k : List Nat) (s : zSto) : Prop :=
  (0 ≤ s 164 101 ∧ s 164 101 ≤ s 164 99 ∧ s 164 99 ≤ 1700) ∧ ysw (s 235) (s 164 101).toNat (s 164 99 - s 164 101).toNat ∧ (ydep (ysk (s 235) (s 164 101).toNat (s 164 99 - s 164 101).toNat ++ k) : Int) = s 164 100 ∧ s 164 51 = rl
def ystk (k : List Nat) (s : zSto) : List Nat := ysk (s 235) (s 164 101).toNat (s 164 99 - s 164 101).toNat ++ k
def ynf (s : zSto) : Prop := s 164 99 = s 164 101 ∨ s 235 (s 164 99 - 1).toNat ≠ 60
theorem ydep_c {a : Nat} {k : List Nat} (h : a ≠ 5 ∧ a ≠ 6) : ydep (a :: k) = ydep k + 1 := by
  show (if a = 5 ∨ a = 6 then ydep k else ydep k + 1) = _
  rw [if_neg (by omega)]
theorem ysm_p {rl : Int} {k : List Nat} {s s' : zSto} {c : Int} (h : ysm rl k s) (hc : (20 ≤ c ∧ c ≤ 24) ∨ c = 60) (h9 : s' 164 99 = s 164 99 + 1) (h0 : s' 164 100 = s 164 100 + 1) (hb : s' 164 101 = s 164 101) (ht : s' 164 51 = s 164 51) (hm : s 164 99 ≤ 1699) (hv : s' 235 (s 164 99).toNat = c) (hr : ∀ j, j ≠ (s 164 99).toNat → s' 235 j = s 235 j) : ysm rl k s' ∧ ystk k s' = yab c ++ ystk k s := by
  obtain ⟨⟨a1, a2, a3⟩, w, d, t⟩ := h
  have n1 : (s' 164 99 - s' 164 101).toNat = (s 164 99 - s 164 101).toNat + 1 := by omega
  have agree : ∀ i, (s 164 101).toNat ≤ i → i < (s 164 101).toNat + (s 164 99 - s 164 101).toNat → s' 235 i = s 235 i := fun i x y => hr i (by omega)
  have top : s' 235 ((s 164 101).toNat + (s 164 99 - s 164 101).toNat) = c := by rw [show (s 164 101).toNat + (s 164 99 - s 164 101).toNat = (s 164 99).toNat by omega]; exact hv
  have st : ystk k s' = yab c ++ ystk k s := by
    unfold ystk
    rw [n1, hb, ysk_p agree top, List.append_assoc]
  refine ⟨⟨by omega, ?_, ?_, by omega⟩, st⟩
  · rw [n1, hb]
    exact ysw_p w agree top (hc.elim (fun x => Or.inr (Or.inl x)) (fun x => Or.inr (Or.inr x)))
  · have e : ysk (s' 235) (s' 164 101).toNat (s' 164 99 - s' 164 101).toNat ++ k = ystk k s' := rfl
    rw [e, st]
    have y : ∃ a, yab c = [a] ∧ a ≠ 5 ∧ a ≠ 6 := by
      unfold yab
      repeat' split
      all_goals first | exact ⟨_, rfl, by decide, by decide⟩ | omega
    obtain ⟨a, ya, n5, n6⟩ := y
    rw [ya]
    show ((ydep (a :: ystk k s) : Nat) : Int) = _
    rw [ydep_c ⟨n5, n6⟩, h0]
    unfold ystk
    omega
theorem ysw_m {w : Nat → Int} {b m n : Nat} (hm : m ≤ n) (h : ysw w b n) : ysw w b m := ⟨fun i h1 h2 => h.1 i h1 (by omega), fun i h1 h2 => h.2 i h1 (by omega)⟩
theorem yops {w : Nat → Int} {b m : Nat} : ∀ n : Nat, m ≤ n → ysw w b n → (n = 0 ∨ w (b + n - 1) ≠ 60) → (∀ i, m ≤ i → i < n → ¬ (20 ≤ w (b + i) ∧ w (b + i) ≤ 24)) → ysk w b n = ysk w b m ∧ ybr w b n = ybr w b m ∧ (m = 0 ∨ w (b + m - 1) ≠ 60) := by
  intro n
  induction n with
  | zero =>
    intro hm h t a
    have e : m = 0 := by omega
    subst e
    exact ⟨rfl, rfl, Or.inl rfl⟩
  | succ n ih =>
    intro hm h t a
    by_cases x : m = n + 1
    · subst x; exact ⟨rfl, rfl, t⟩
    · have t : w (b + n) ≠ 60 := by
        rcases t with t | t
        · omega
        · rw [show b + (n + 1) - 1 = b + n by omega] at t; exact t
      have nb := a n (by omega) (by omega)
      have o : 1 ≤ w (b + n) ∧ w (b + n) ≤ 4 := by
        rcases h.1 (b + n) (by omega) (by omega) with z | z | z
        · exact z
        · exact absurd z nb
        · exact absurd z t
      have below : n = 0 ∨ w (b + n - 1) ≠ 60 := by
        by_cases z : n = 0
        · exact Or.inl z
        · refine Or.inr (fun y => ?_)
          have q := h.2 (b + n - 1) (by omega) (by omega) y
          rw [show b + n - 1 + 1 = b + n by omega] at q
          omega
      obtain ⟨r1, r2, r3⟩ := ih (by omega) (ysw_d h) below (fun i h1 h2 => a i h1 (by omega))
      refine ⟨?_, ?_, r3⟩
      · show yab (w (b + n)) ++ ysk w b n = _
        rw [yab_o (Or.inl (by omega)), r1]; rfl
      · show (if 20 ≤ w (b + n) ∧ w (b + n) ≤ 24 then w (b + n) else ybr w b n) = _
        rw [if_neg nb, r2]
theorem yofs {r : Int} {f : Int → Int} {w : Nat → Int} {b m : Nat} {k : List Nat} {p : yP} : ∀ n : Nat, m ≤ n → (∀ i, m ≤ i → i < n → 60 ≤ w (b + i)) → yJ r f (2, ysk w b n ++ k, p) (2, ysk w b m ++ k, p) ∧ ydep (ysk w b n ++ k) = ydep (ysk w b m ++ k) + (n - m) := by
  intro n
  induction n with
  | zero =>
    intro hm a
    have e : m = 0 := by omega
    subst e
    exact ⟨yJ_rf _, by omega⟩
  | succ n ih =>
    intro hm a
    by_cases x : m = n + 1
    · subst x; exact ⟨yJ_rf _, by omega⟩
    · have c := a n (by omega) (by omega)
      have y : yab (w (b + n)) = [4] := by
        unfold yab
        repeat' split
        all_goals first | rfl | omega
      have e : ysk w b (n + 1) ++ k = 4 :: (ysk w b n ++ k) := by
        show (yab (w (b + n)) ++ ysk w b n) ++ k = _
        rw [y]; rfl
      obtain ⟨r1, r2⟩ := ih (by omega) (fun i h1 h2 => a i h1 (by omega))
      rw [e]
      refine ⟨yJ_tr yJ_of r1, ?_⟩
      rw [ydep_c (by decide), r2]; omega
theorem ysm_o {rl : Int} {k : List Nat} {s s' : zSto} {c : Int} (h : ysm rl k s) (hn : ynf s) (hc : 1 ≤ c ∧ c ≤ 4) (h9 : s' 164 99 = s 164 99 + 1) (h0 : s' 164 100 = s 164 100) (hb : s' 164 101 = s 164 101) (ht : s' 164 51 = s 164 51) (hm : s 164 99 ≤ 1699) (hv : s' 235 (s 164 99).toNat = c) (hr : ∀ j, j ≠ (s 164 99).toNat → s' 235 j = s 235 j) : ysm rl k s' ∧ ystk k s' = ystk k s := by
  obtain ⟨⟨a1, a2, a3⟩, w, d, t⟩ := h
  have n1 : (s' 164 99 - s' 164 101).toNat = (s 164 99 - s 164 101).toNat + 1 := by omega
  have agree : ∀ i, (s 164 101).toNat ≤ i → i < (s 164 101).toNat + (s 164 99 - s 164 101).toNat → s' 235 i = s 235 i := fun i x y => hr i (by omega)
  have top : s' 235 ((s 164 101).toNat + (s 164 99 - s 164 101).toNat) = c := by rw [show (s 164 101).toNat + (s 164 99 - s 164 101).toNat = (s 164 99).toNat by omega]; exact hv
  have nf : (s 164 99 - s 164 101).toNat = 0 ∨ s 235 ((s 164 101).toNat + (s 164 99 - s 164 101).toNat - 1) ≠ 60 := by
    rcases hn with x | x
    · exact Or.inl (by omega)
    · by_cases z : (s 164 99 - s 164 101).toNat = 0
      · exact Or.inl z
      · rw [show (s 164 101).toNat + (s 164 99 - s 164 101).toNat - 1 = (s 164 99 - 1).toNat by omega]; exact Or.inr x
  have st : ystk k s' = ystk k s := by
    unfold ystk
    rw [n1, hb, ysk_p agree top, yab_o (Or.inl (by omega))]; rfl
  refine ⟨⟨by omega, ?_, ?_, by omega⟩, st⟩
  · rw [n1, hb]
    exact ysw_p w agree top (Or.inl ⟨hc.1, hc.2, nf⟩)
  · have e : ysk (s' 235) (s' 164 101).toNat (s' 164 99 - s' 164 101).toNat ++ k = ystk k s' := rfl
    rw [e, st, h0]
    exact d
theorem ynf_n {s : zSto} (hb : 0 ≤ s 164 101 ∧ s 164 101 ≤ s 164 99) (hn : ynf s) : (s 164 99 - s 164 101).toNat = 0 ∨ s 235 ((s 164 101).toNat + (s 164 99 - s 164 101).toNat - 1) ≠ 60 := by
  rcases hn with x | x
  · exact Or.inl (by omega)
  · by_cases z : (s 164 99 - s 164 101).toNat = 0
    · exact Or.inl z
    · rw [show (s 164 101).toNat + (s 164 99 - s 164 101).toNat - 1 = (s 164 99 - 1).toNat by omega]; exact Or.inr x
theorem ysm_q {rl : Int} {k : List Nat} {s s' : zSto} {c : Int} (h : ysm rl k s) (hn : ynf s) (hu : s 164 101 ≤ s' 164 99 ∧ s' 164 99 < s 164 99) (hp : ∀ i : Nat, s' 164 99 + 1 ≤ i → (i : Int) < s 164 99 → ¬ (20 ≤ s 235 i ∧ s 235 i ≤ 24)) (hc : s 235 (s' 164 99).toNat = c) (h20 : 20 ≤ c ∧ c ≤ 24)
    (h0 : s' 164 100 = s 164 100 - 1) (hb : s' 164 101 = s 164 101) (ht : s' 164 51 = s 164 51) (hr : ∀ j : Nat, s' 235 j = s 235 j) : ysm rl k s' ∧ ystk k s = yab c ++ ystk k s' ∧ ybr (s 235) (s 164 101).toNat (s 164 99 - s 164 101).toNat = c := by
  obtain ⟨⟨a1, a2, a3⟩, w, d, t⟩ := h
  have nf := ynf_n ⟨a1, a2⟩ hn
  generalize hN : (s 164 99 - s 164 101).toNat = N at *
  generalize hB : (s 164 101).toNat = B at *
  have hM : (s' 164 99 - s' 164 101).toNat + 1 ≤ N := by omega
  generalize hm : (s' 164 99 - s' 164 101).toNat = M at *
  obtain ⟨r1, r2, r3⟩ := yops (w := s 235) (b := B) (m := M + 1) N hM w nf (fun i h1 h2 => hp (B + i) (by omega) (by omega))
  have row : s' 235 = s 235 := funext hr
  have top : s 235 (B + M) = c := by rw [show B + M = (s' 164 99).toNat by omega]; exact hc
  have sk : ysk (s 235) B N = yab c ++ ysk (s 235) B M := by
    rw [r1]
    show yab (s 235 (B + M)) ++ _ = _
    rw [top]
  have br : ybr (s 235) B N = c := by
    rw [r2]
    show (if 20 ≤ s 235 (B + M) ∧ s 235 (B + M) ≤ 24 then s 235 (B + M) else _) = c
    rw [top, if_pos h20]
  have st : ystk k s = yab c ++ ystk k s' := by
    unfold ystk
    rw [hN, hB, hb, hB, row, sk]
    have e : (s' 164 99 - s 164 101).toNat = M := by rw [← hb]; exact hm
    rw [e, List.append_assoc]
  refine ⟨⟨by omega, ?_, ?_, by omega⟩, st, br⟩
  · rw [hm, hb, hB, row]
    exact ysw_m (by omega) w
  · have e1 : ysk (s' 235) (s' 164 101).toNat M ++ k = ystk k s' := by unfold ystk; rw [hm]
    have e2 : ysk (s 235) B N ++ k = ystk k s := by unfold ystk; rw [hN, hB]
    rw [hm, e1]
    rw [e2, st] at d
    have y : ∃ a, yab c = [a] ∧ a ≠ 5 ∧ a ≠ 6 := by
      unfold yab
      repeat' split
      all_goals first | exact ⟨_, rfl, by decide, by decide⟩ | omega
    obtain ⟨a, ya, n5, n6⟩ := y
    rw [ya] at d
    have d : ((ydep (a :: ystk k s') : Nat) : Int) = s 164 100 := d
    rw [ydep_c ⟨n5, n6⟩] at d
    omega
