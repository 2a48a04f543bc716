theorem yHb1 {f : Int → Int} {s : zSto} {p : yP} (e : yqs f s = p) (o : yPo p = 1) : s 164 5 = 0 := by
  by_cases c : s 164 5 = 0
  · exact c
  · rw [yqs_0 c] at e; rw [← e] at o; exact absurd o (by show ¬ (0 : Int) = 1; decide)
theorem yHb0 {f : Int → Int} {s : zSto} {p : yP} (e : yqs f s = p) (o : yPo p = 0) : s 164 5 ≠ 0 := by
  intro c
  rw [yqs_1 c] at e; rw [← e] at o; exact absurd o (by show ¬ (1 : Int) = 0; decide)
theorem yPo_b (p : yP) : yPo p = 1 ∨ yPo p = 0 := by cases p; exact Or.inl rfl; exact Or.inr rfl
theorem yPno_0 {a q : Int} {p : yP} (h : yPo p = 0) : yPno a q p = p := yPno_n (by omega)
theorem yNam_end {f : Int → Int} {σ : zSto} {t p : yP} {np v k pl : Int} (g : yGo (yNm0 f t) p 3 np v k (σ 196) pl) (hk : k = σ 195 0)
    (z : yPo (yNm0 f t) = 1 → v = yut f (yPq t) (yWe f (yPq t) - yPq t).toNat ∧ np = yPq t) (hN : yNvu σ) (hf : yTx f) (hq : yPo t = 1 → 0 ≤ yPq t ∧ yPq t ≤ 1600) : p = yNam f (yPlr σ) t := by
  rcases g with ⟨rfl, a⟩ | ⟨rfl, o, j, hj, e⟩
  · refine yNam_A (fun o => ?_)
    obtain ⟨c1, c2⟩ := yNam_c hf hq o
    obtain ⟨z1, z2⟩ := z o
    rw [← c1, ← z1]
    exact yrn_0 (k := k) (by rw [z1]; exact c2) hN (a o).1 (by omega)
  · obtain ⟨c1, c2⟩ := yNam_c hf hq o
    obtain ⟨z1, z2⟩ := z o
    refine yNam_B o ?_ z2
    rw [← c1, ← z1]
    exact yrn_1 (k := (j : Int)) (by omega) (by rw [Int.toNat_natCast]; exact e)
theorem yPo_Nam {f : Int → Int} {P : yPl} {t : yP} (o : yPo (yNam f P t) = 1) : yPo (yNm0 f t) = 1 := by
  unfold yNam at o
  unfold yNm0
  by_cases a : yPk f t = 4
  · rw [if_pos a, yPo_pf] at o; exact absurd o (by decide)
  · rw [if_neg a] at o ⊢
    by_cases b : yPk f t ≠ 1 ∨ (0 ≤ yPi f t ∧ yPi f t < 27)
    · rw [if_pos b, yPo_pf] at o; exact absurd o (by decide)
    · rw [if_neg b] at o ⊢
      by_cases c : yPc f t ∈ P.nm
      · rw [if_pos c, yPo_pf] at o; exact absurd o (by decide)
      · rw [if_neg c] at o; exact o
theorem yHom_end {f : Int → Int} {σ : zSto} {s0 p : yP} {np v k pl : Int} (g : yGo (yPo3 f (yPlr σ) s0) p 2 np v k (fun j => σ 198 (2 * j)) pl) (hk : k = σ 195 0)
    (z : yPo (yPo3 f (yPlr σ) s0) = 1 → v = yPoh f (yPlr σ) s0) (hp : yPo (yPo3 f (yPlr σ) s0) = 1 → np = yPq (yPo2 f (yPlr σ) s0)) : p = yPo4 f (yPlr σ) s0 := by
  unfold yPo4
  rcases g with ⟨rfl, a⟩ | ⟨rfl, o, j, hj, e⟩
  · rcases yPo_b (yPo3 f (yPlr σ) s0) with o | o
    · rw [if_neg]
      rw [← z o]
      exact yrh_0 (k := k) (a o).1 (by omega)
    · rw [yPno_0 o, ite_self]
  · rw [if_pos, hp o]
    rw [← z o]
    exact yrh_1 (k := (j : Int)) (by omega) (by rw [show (2 * (j : Int)).toNat = 2 * j by omega]; exact e)
theorem yPo_4 {f : Int → Int} {P : yPl} {s0 : yP} (o : yPo (yPo4 f P s0) = 1) : yPo (yPo3 f P s0) = 1 := by
  unfold yPo4 at o
  by_cases c : yPoh f P s0 ∈ P.hm
  · rw [if_pos c, yPo_no] at o; exact absurd o (by decide)
  · rw [if_neg c] at o; exact o
theorem yPlr_nl {s : zSto} : (yPlr s).nm.length = (s 195 0).toNat := by show (List.map _ _).length = _; rw [List.length_map, List.length_range]
theorem yPol_a {f : Int → Int} {σ : zSto} {s0 : yP} {a : Int} (h : σ 195 0 = 10) (ha : a = yPq s0) (o : yPo s0 = 1) : yPno 5 a (yPx f s0) = yPol f (yPlr σ) s0 := by
  unfold yPol
  rw [if_pos (by rw [yPlr_nl]; omega)]
  cases s0 using yP_cases with
  | ok q => show yP.no 5 a = yP.no 5 (q + 0); rw [ha]; show yP.no 5 q = _; rw [Int.add_zero]
  | no u v => exact absurd o (by show ¬ (0 : Int) = 1; decide)
theorem yPol_b {f : Int → Int} {σ : zSto} {s0 : yP} (h : σ 195 0 < 10) : yPn f 0 99 (yPw f 6 (yPo4 f (yPlr σ) s0)) = yPol f (yPlr σ) s0 := by
  unfold yPol
  rw [if_neg (by rw [yPlr_nl]; omega)]
theorem yPlr_add {σ s s1 s2 s3 s4 : zSto} {j1 j2 j3 : Nat} {v c n u : Int} (F : zOn zQ1 σ s) (h0 : 0 ≤ σ 195 0) (e1 : zset s 196 j1 v = s1) (e2 : zset s1 198 j2 c = s2) (e3 : zset s2 198 j3 n = s3) (e4 : zset s3 195 0 u = s4)
    (k1 : j1 = (σ 195 0).toNat) (k2 : j2 = 2 * (σ 195 0).toNat) (k3 : j3 = 2 * (σ 195 0).toNat + 1) (k4 : u = σ 195 0 + 1) :
    yPlr s4 = (yPl.wnh (yPlr σ) ((yPlr σ).nm ++ [yPd v]) ((yPlr σ).hm ++ [c])) ∧ (yNvu σ → yvu v → yNvu s4) := by
  have a195 : s4 195 0 = σ 195 0 + 1 := by rw [← e4, ← k4]; exact zset_s
  have hn : ∀ j, s4 196 j = if j = (σ 195 0).toNat then v else σ 196 j := by
    intro j
    rw [← e4, zset_k (by decide), ← e3, zset_k (by decide), ← e2, zset_k (by decide), ← e1]
    by_cases x : j = (σ 195 0).toNat
    · rw [if_pos x, x, k1]; exact zset_s
    · rw [if_neg x, zset_j (by omega)]; exact F 196 j rfl
  have hh : ∀ j, s4 198 (2 * j) = if j = (σ 195 0).toNat then c else σ 198 (2 * j) := by
    intro j
    rw [← e4, zset_k (by decide), ← e3, zset_j (by omega), ← e2]
    by_cases x : j = (σ 195 0).toNat
    · rw [if_pos x, x, k2]; exact zset_s
    · rw [if_neg x, zset_j (by omega), ← e1, zset_k (by decide)]; exact F 198 _ rfl
  have o : ∀ k j, k ≠ 195 → k ≠ 196 → k ≠ 198 → k ≠ 164 → s4 k j = σ k j := by
    intro k j n1 n2 n3 n4
    rw [← e4, zset_k n1, ← e3, zset_k n3, ← e2, zset_k n3, ← e1, zset_k n2]
    exact F k j (by simp [zQ1, n4])
  have r : (σ 195 0 + 1).toNat = (σ 195 0).toNat + 1 := by omega
  have nme : (yPlr s4).nm = (yPlr σ).nm ++ [yPd v] := by
    show (List.range (s4 195 0).toNat).map (fun i => yPd (s4 196 i)) = (List.range (σ 195 0).toNat).map (fun i => yPd (σ 196 i)) ++ [yPd v]
    rw [a195, r, List.range_succ, List.map_append]
    congr 1
    · refine List.map_congr_left (fun i hi => ?_)
      have := List.mem_range.mp hi
      rw [hn, if_neg (by omega)]
    · show [yPd (s4 196 (σ 195 0).toNat)] = _
      rw [hn, if_pos rfl]
  have hme : (yPlr s4).hm = (yPlr σ).hm ++ [c] := by
    show (List.range (s4 195 0).toNat).map (fun i => s4 198 (2 * i)) = (List.range (σ 195 0).toNat).map (fun i => σ 198 (2 * i)) ++ [c]
    rw [a195, r, List.range_succ, List.map_append]
    congr 1
    · refine List.map_congr_left (fun i hi => ?_)
      have := List.mem_range.mp hi
      rw [hh, if_neg (by omega)]
    · show [s4 198 (2 * (σ 195 0).toNat)] = _
      rw [hh, if_pos rfl]
  refine ⟨?_, fun h hv i hi => ?_⟩
  · have e : ∀ P : yPl, P = ⟨P.c, P.r, P.nm, P.hm, P.ad, P.ho⟩ := fun P => rfl
    rw [e (yPlr s4), nme, hme]
    show (⟨s4 194 0, s4 194 1, _, _, if s4 200 0 = -1 then 0 else 1, if s4 200 1 = -1 then 0 else 1⟩ : yPl) = ⟨σ 194 0, σ 194 1, _, _, if σ 200 0 = -1 then 0 else 1, if σ 200 1 = -1 then 0 else 1⟩
    rw [o 194 0 (by decide) (by decide) (by decide) (by decide), o 194 1 (by decide) (by decide) (by decide) (by decide), o 200 0 (by decide) (by decide) (by decide) (by decide), o 200 1 (by decide) (by decide) (by decide) (by decide)]
  · rw [hn]
    by_cases x : i = (σ 195 0).toNat
    · rw [if_pos x]; exact hv
    · rw [if_neg x]; exact h i (by omega)
theorem yPol_P {f : Int → Int} {σ s4 : zSto} {s0 : yP} {v c : Int} (hf : yTx f) (hq : yPo (yPx f s0) = 1 → 0 ≤ yPq (yPx f s0) ∧ yPq (yPx f s0) ≤ 1600)
    (o : yPo (yPn f 0 99 (yPw f 6 (yPo4 f (yPlr σ) s0))) = 1) (hN : yNvu σ)
    (zv : yPo (yNm0 f (yPx f s0)) = 1 → v = yut f (yPq (yPx f s0)) (yWe f (yPq (yPx f s0)) - yPq (yPx f s0)).toNat)
    (zc : yPo (yPo3 f (yPlr σ) s0) = 1 → c = yPoh f (yPlr σ) s0)
    (h : yPlr s4 = (yPl.wnh (yPlr σ) ((yPlr σ).nm ++ [yPd v]) ((yPlr σ).hm ++ [c])) ∧ (yNvu σ → yvu v → yNvu s4)) : yPlr s4 = yPolP f (yPlr σ) s0 ∧ yNvu s4 := by
  have o3 := yPo_4 (yPo_w (yPo_n o))
  have o1 := yPo_Nam (yPo_w (yPo_n (yPo_n o3)))
  obtain ⟨c1, c2⟩ := yNam_c hf hq o1
  have z := zv o1
  rw [h.1, z, c1, zc o3]
  exact ⟨rfl, h.2 hN (by rw [z]; exact c2)⟩
def yZn (f : Int → Int) (t : yP) (v pl : Int) : Prop := yPo (yNm0 f t) = 1 → v = yut f (yPq t) (yWe f (yPq t) - yPq t).toNat ∧ pl = yPq t
def yZc (f : Int → Int) (P : yPl) (s0 : yP) (v pl : Int) : Prop := yPo (yPo3 f P s0) = 1 → v = yPoh f P s0 ∧ pl = yPq (yPo2 f P s0)
def yQb (p : yP) : Prop := yPo p = 1 → 0 ≤ yPq p ∧ yPq p ≤ 1600
def yGa (E1 : yP) (np v k : Int) (row : Nat → Int) (place : Int) : Prop := yPo E1 = 1 → (∀ j : Nat, (j : Int) < k → row j ≠ v) ∧ place = np
def yGx (v k : Int) (row : Nat → Int) : Prop := ∃ j : Nat, (j : Int) < k ∧ row j = v
theorem yGo_c {E1 p : yP} {a np v k : Int} {row : Nat → Int} {place : Int} (h : yGo E1 p a np v k row place) : (p = E1 ∧ yGa E1 np v k row place) ∨ (p = yPno a np E1 ∧ yPo E1 = 1 ∧ yGx v k row) := h
theorem yQb_q {f : Int → Int} {s : zSto} {p : yP} (h : yTq f s) (e : yqs f s = p) : yQb p := fun o => by
  have := (yMq h e).1 o
  exact ⟨this.1, this.2.1⟩
def yZm (p : yP) (lo hi r : Int) : Prop := yPo p = 1 → lo ≤ r ∧ r ≤ hi
theorem yZm_b {f : Int → Int} {s : zSto} {p : yP} {lo hi r : Int} (h : yZm p lo hi r) (hT : yTq f s) (hE : yqs f s = p) (h0 : s 164 5 = 0) : lo ≤ r ∧ r ≤ hi := h ((yHb hT hE).1 h0)
