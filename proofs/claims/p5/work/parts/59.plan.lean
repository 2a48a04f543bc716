def yPlc (s : zSto) (K A B C : Nat) : yPl :=
  ⟨s K 10, s K 11, (List.range (s K 12).toNat).map (fun i => s A i), (List.range (s K 12).toNat).map (fun i => s B i + 6 * s C i), s K 7, s K 8⟩
theorem yPlc_c {s s' : zSto} {K A B C : Nat} (h7 : s' K 7 = s K 7) (h8 : s' K 8 = s K 8) (h10 : s' K 10 = s K 10) (h11 : s' K 11 = s K 11) (h12 : s' K 12 = s K 12)
    (hA : ∀ j, s' A j = s A j) (hB : ∀ j, s' B j = s B j) (hC : ∀ j, s' C j = s C j) : yPlc s' K A B C = yPlc s K A B C := by
  unfold yPlc
  rw [h7, h8, h10, h11, h12, funext hA, funext hB, funext hC]
theorem yPlc_pj {s s' : zSto} {K A B C j : Nat} {v : Int} (e : zset s K j v = s') (hj : j ≠ 7 ∧ j ≠ 8 ∧ j ≠ 10 ∧ j ≠ 11 ∧ j ≠ 12) (hK : A ≠ K ∧ B ≠ K ∧ C ≠ K) : yPlc s' K A B C = yPlc s K A B C := by
  subst e
  exact yPlc_c (zset_j hj.1.symm) (zset_j hj.2.1.symm) (zset_j hj.2.2.1.symm) (zset_j hj.2.2.2.1.symm) (zset_j hj.2.2.2.2.symm) (fun _ => zset_k hK.1) (fun _ => zset_k hK.2.1) (fun _ => zset_k hK.2.2)
theorem yPlc_pk {s s' : zSto} {K A B C k j : Nat} {v : Int} (e : zset s k j v = s') (hk : K ≠ k ∧ A ≠ k ∧ B ≠ k ∧ C ≠ k) : yPlc s' K A B C = yPlc s K A B C := by
  subst e
  exact yPlc_c (zset_k hk.1) (zset_k hk.1) (zset_k hk.1) (zset_k hk.1) (zset_k hk.1) (fun _ => zset_k hk.2.1) (fun _ => zset_k hk.2.2.1) (fun _ => zset_k hk.2.2.2)
theorem yPlc_ad {s s' : zSto} {K A B C : Nat} {v : Int} (e : zset s K 7 v = s') (hK : A ≠ K ∧ B ≠ K ∧ C ≠ K) : yPlc s' K A B C = (yPl.wad (yPlc s K A B C) (v)) := by
  subst e
  unfold yPlc
  rw [zset_s, zset_j (by decide), zset_j (by decide), zset_j (by decide), zset_j (by decide)]
  rw [show (fun i => zset s K 7 v A i) = fun i => s A i from funext fun _ => zset_k hK.1, show (fun i => zset s K 7 v B i + 6 * zset s K 7 v C i) = fun i => s B i + 6 * s C i from funext fun _ => by rw [zset_k hK.2.1, zset_k hK.2.2]]
theorem yPlc_ho {s s' : zSto} {K A B C : Nat} {v : Int} (e : zset s K 8 v = s') (hK : A ≠ K ∧ B ≠ K ∧ C ≠ K) : yPlc s' K A B C = (yPl.who (yPlc s K A B C) (v)) := by
  subst e
  unfold yPlc
  rw [zset_s, zset_j (by decide), zset_j (by decide), zset_j (by decide), zset_j (by decide)]
  rw [show (fun i => zset s K 8 v A i) = fun i => s A i from funext fun _ => zset_k hK.1, show (fun i => zset s K 8 v B i + 6 * zset s K 8 v C i) = fun i => s B i + 6 * s C i from funext fun _ => by rw [zset_k hK.2.1, zset_k hK.2.2]]
theorem yPlc_sd {s t s' : zSto} {K A B C : Nat} {v w : Int} (e : zset s K 10 v = t) (g : zset t K 11 w = s') (hK : A ≠ K ∧ B ≠ K ∧ C ≠ K) : yPlc s' K A B C = (yPl.wsd (yPlc s K A B C) (v) (w)) := by
  subst e; subst g
  unfold yPlc
  rw [zset_s, zset_j (show 10 ≠ 11 by decide), zset_s, zset_j (show 12 ≠ 11 by decide), zset_j (show 12 ≠ 10 by decide), zset_j (show 7 ≠ 11 by decide), zset_j (show 7 ≠ 10 by decide), zset_j (show 8 ≠ 11 by decide), zset_j (show 8 ≠ 10 by decide)]
  rw [show (fun i => zset (zset s K 10 v) K 11 w A i) = fun i => s A i from funext fun _ => by rw [zset_k hK.1, zset_k hK.1], show (fun i => zset (zset s K 10 v) K 11 w B i + 6 * zset (zset s K 10 v) K 11 w C i) = fun i => s B i + 6 * s C i from funext fun _ => by rw [zset_k hK.2.1, zset_k hK.2.1, zset_k hK.2.2, zset_k hK.2.2]]
theorem yPlc_add {s t1 t2 t3 t4 s' : zSto} {K A B C D c j2 j3 j4 : Nat} {a b d w n : Int} (h0 : 0 ≤ s K 12) (hc : (s K 12).toNat = c) (e1 : zset s A c a = t1) (e2 : zset t1 B j2 b = t2) (e3 : zset t2 C j3 d = t3) (e4 : zset t3 D j4 w = t4) (e5 : zset t4 K 12 n = s')
    (h2 : j2 = c) (h3 : j3 = c) (hn : n = s K 12 + 1) (hK : K ≠ A ∧ K ≠ B ∧ K ≠ C ∧ K ≠ D ∧ A ≠ B ∧ A ≠ C ∧ A ≠ D ∧ B ≠ C ∧ B ≠ D ∧ C ≠ D) :
    yPlc s' K A B C = (yPl.wnh (yPlc s K A B C) ((yPlc s K A B C).nm ++ [a]) ((yPlc s K A B C).hm ++ [b + 6 * d])) := by
  obtain ⟨k1, k2, k3, k4, k5, k6, k7, k8, k9, k10⟩ := hK
  have oK : ∀ j, j ≠ 12 → s' K j = s K j := fun j hj => by rw [← e5, zset_j hj, ← e4, zset_k k4, ← e3, zset_k k3, ← e2, zset_k k2, ← e1, zset_k k1]
  have o12 : s' K 12 = s K 12 + 1 := by rw [← e5, zset_s, hn]
  have oA : ∀ j, s' A j = if j = c then a else s A j := fun j => by
    rw [← e5, zset_k k1.symm, ← e4, zset_k k7, ← e3, zset_k k6, ← e2, zset_k k5, ← e1]
    by_cases x : j = c
    · rw [if_pos x, x]; exact zset_s
    · rw [if_neg x]; exact zset_j x
  have oB : ∀ j, s' B j = if j = c then b else s B j := fun j => by
    rw [← e5, zset_k k2.symm, ← e4, zset_k k9, ← e3, zset_k k8, ← e2, h2]
    by_cases x : j = c
    · rw [if_pos x, x]; exact zset_s
    · rw [if_neg x, zset_j x, ← e1]; exact zset_k k5.symm
  have oC : ∀ j, s' C j = if j = c then d else s C j := fun j => by
    rw [← e5, zset_k k3.symm, ← e4, zset_k k10, ← e3, h3]
    by_cases x : j = c
    · rw [if_pos x, x]; exact zset_s
    · rw [if_neg x, zset_j x, ← e2, zset_k k8.symm, ← e1]; exact zset_k k6.symm
  have len : (s' K 12).toNat = c + 1 := by rw [o12]; omega
  unfold yPlc
  rw [oK 10 (by decide), oK 11 (by decide), oK 7 (by decide), oK 8 (by decide), len, hc, List.range_succ, List.map_append, List.map_append]
  have m1 : (List.range c).map (fun i => s' A i) = (List.range c).map (fun i => s A i) := List.map_congr_left (fun i hi => by
    have := List.mem_range.mp hi
    rw [oA, if_neg (by omega)])
  have m2 : (List.range c).map (fun i => s' B i + 6 * s' C i) = (List.range c).map (fun i => s B i + 6 * s C i) := List.map_congr_left (fun i hi => by
    have := List.mem_range.mp hi
    rw [oB, oC, if_neg (by omega), if_neg (by omega)])
  rw [m1, m2]
  show (⟨_, _, _ ++ [s' A c], _ ++ [s' B c + 6 * s' C c], _, _⟩ : yPl) = _
  rw [oA, oB, oC, if_pos rfl, if_pos rfl, if_pos rfl]
theorem ynm_1 {s : zSto} {K A B C : Nat} {i c : Int} (h : 0 ≤ i ∧ i < s K 12) (e : s A i.toNat = c) : c ∈ (yPlc s K A B C).nm :=
  List.mem_map.mpr ⟨i.toNat, List.mem_range.mpr (by omega), e⟩
theorem ynm_0 {s : zSto} {K A B C : Nat} {i c : Int} (h : ∀ j : Nat, (j : Int) < i → s A j ≠ c) (hi : s K 12 ≤ i) : c ∉ (yPlc s K A B C).nm := by
  intro m
  obtain ⟨j, hj, e⟩ := List.mem_map.mp m
  have := List.mem_range.mp hj
  exact h j (by omega) e
theorem yhm_1 {s : zSto} {K A B C : Nat} {i b d : Int} (h : 0 ≤ i ∧ i < s K 12) (e : s B i.toNat = b) (g : s C i.toNat = d) : b + 6 * d ∈ (yPlc s K A B C).hm :=
  List.mem_map.mpr ⟨i.toNat, List.mem_range.mpr (by omega), by show s B i.toNat + 6 * s C i.toNat = _; rw [e, g]⟩
theorem yhm_0 {s : zSto} {K A B C : Nat} {i b d : Int} (h : ∀ j : Nat, (j : Int) < i → s B j + 6 * s C j ≠ b + 6 * d) (hi : s K 12 ≤ i) : b + 6 * d ∉ (yPlc s K A B C).hm := by
  intro m
  obtain ⟨j, hj, e⟩ := List.mem_map.mp m
  have := List.mem_range.mp hj
  exact h j (by omega) e
theorem yne_s {g : Nat → Int} {i c v : Int} (h : ∀ j : Nat, (j : Int) < i → g j ≠ c) (hi : 0 ≤ i) (e : g i.toNat = v) (hv : v ≠ c) : ∀ j : Nat, (j : Int) < i + 1 → g j ≠ c := by
  intro j hj
  by_cases x : (j : Int) < i
  · exact h j x
  · rw [show j = i.toNat by omega, e]; exact hv
theorem yPlc_len {s : zSto} {K A B C : Nat} : (yPlc s K A B C).nm.length = (s K 12).toNat := by unfold yPlc; rw [List.length_map, List.length_range]
def zR7 (k j : Nat) : Bool := zR4 k j || (7 ≤ k && k < 13)
def zR17 (k j : Nat) : Bool := zR4 k j || (17 ≤ k && k < 23)
def zRq7 (k j : Nat) : Bool := zRp k j || (7 ≤ k && k < 13)
def zRq17 (k j : Nat) : Bool := zRp k j || (17 ≤ k && k < 23)
def zRt7 (k j : Nat) : Bool := zR7 k j || zR0 k j || (k == 34 && j == 2)
def zRt17 (k j : Nat) : Bool := zR17 k j || zR0 k j || (k == 34 && j == 2)
theorem zi_47 : ∀ k j, zR4 k j = true → zR7 k j = true := fun k j h => by simp only [zR7, h, Bool.true_or]
theorem zi_417 : ∀ k j, zR4 k j = true → zR17 k j = true := fun k j h => by simp only [zR17, h, Bool.true_or]
theorem zi_r17 : ∀ k j, zR1 k j = true → zR7 k j = true := fun k j h => zi_47 k j (zi_r14 k j h)
theorem zi_r117 : ∀ k j, zR1 k j = true → zR17 k j = true := fun k j h => zi_417 k j (zi_r14 k j h)
theorem zi_q7 : ∀ k j, zRq7 k j = true → zR7 k j = true := by
  intro k j h
  simp only [zRq7, Bool.or_eq_true] at h
  rcases h with h | h
  · exact zi_47 k j (zi_rp4 k j h)
  · simp only [zR7, h, Bool.or_true]
theorem zi_q17 : ∀ k j, zRq17 k j = true → zR17 k j = true := by
  intro k j h
  simp only [zRq17, Bool.or_eq_true] at h
  rcases h with h | h
  · exact zi_417 k j (zi_rp4 k j h)
  · simp only [zR17, h, Bool.or_true]
theorem zi_7t : ∀ k j, zR7 k j = true → zRt7 k j = true := fun k j h => by simp only [zRt7, h, Bool.true_or]
theorem zi_17t : ∀ k j, zR17 k j = true → zRt17 k j = true := fun k j h => by simp only [zRt17, h, Bool.true_or]
theorem zi_0t7 : ∀ k j, zR0 k j = true → zRt7 k j = true := fun k j h => by simp only [zRt7, h, Bool.true_or, Bool.or_true]
theorem zi_0t17 : ∀ k j, zR0 k j = true → zRt17 k j = true := fun k j h => by simp only [zRt17, h, Bool.true_or, Bool.or_true]
theorem zi_pq7 : ∀ k j, zRp k j = true → zRq7 k j = true := fun k j h => by simp only [zRq7, h, Bool.true_or]
theorem zi_pq17 : ∀ k j, zRp k j = true → zRq17 k j = true := fun k j h => by simp only [zRq17, h, Bool.true_or]
theorem yRk_q7 {s s' : zSto} (h : zOn zRq7 s s') : yRk s s' := by
  refine ⟨⟨?_, h _ _ rfl⟩, h _ _ rfl, h _ _ rfl, h _ _ rfl⟩
  intro a b h1 h2
  have : a = 29 ∨ a = 30 ∨ a = 31 ∨ a = 32 := by omega
  rcases this with e | e | e | e <;> subst e <;> exact h _ _ rfl
theorem yRk_q17 {s s' : zSto} (h : zOn zRq17 s s') : yRk s s' := by
  refine ⟨⟨?_, h _ _ rfl⟩, h _ _ rfl, h _ _ rfl, h _ _ rfl⟩
  intro a b h1 h2
  have : a = 29 ∨ a = 30 ∨ a = 31 ∨ a = 32 := by omega
  rcases this with e | e | e | e <;> subst e <;> exact h _ _ rfl
theorem yPlc_0 {s : zSto} {K A B C : Nat} (h7 : s K 7 = 0) (h8 : s K 8 = 0) (h10 : s K 10 = 0) (h11 : s K 11 = 0) (h12 : s K 12 = 0) : yPlc s K A B C = yPl0 := by
  unfold yPlc; rw [h7, h8, h10, h11, h12]; rfl
theorem yne_h {g h : Nat → Int} {i b d : Int} (n : ∀ j : Nat, (j : Int) < i → g j + 6 * h j ≠ b + 6 * d) (hi : 0 ≤ i) (hb : 0 ≤ g i.toNat ∧ g i.toNat ≤ 5) (hb2 : 0 ≤ b ∧ b ≤ 5) (e : g i.toNat ≠ b ∨ h i.toNat ≠ d) : ∀ j : Nat, (j : Int) < i + 1 → g j + 6 * h j ≠ b + 6 * d := by
  intro j hj
  by_cases x : (j : Int) < i
  · exact n j x
  · rw [show j = i.toNat by omega]; omega
theorem yHere2 {f : Int → Int} {s : zSto} (h : yTk f s) : s 27 7 = 0 → (yPk f (yst s) = 1 ∨ yPk f (yst s) = 4 → s 31 (s 27 6).toNat = yPc f (yst s)) := by
  intro e
  rw [yst_1 e]
  have b := h.2.1
  exact (h.2.2.1 (s 27 6).toNat (by omega)).2.2.1
theorem yPo_n {f : Int → Int} {lo hi : Int} {s : yP} (h : yPo (yPn f lo hi s) = 1) : yPo s = 1 := by
  cases s using yP_cases with
  | ok q => rfl
  | no a p =>
    exfalso
    have e : yPn f lo hi (.no a p) = .no a p := by
      unfold yPn
      rw [if_neg (by show ¬ (6 : Int) = 5; decide), if_neg (by show ¬ (6 : Int) = 2; decide)]; rfl
    rw [e] at h
    exact absurd h (by show ¬ (0 : Int) = 1; decide)
theorem yPo_w {f : Int → Int} {w : Int} {s : yP} (h : yPo (yPw f w s) = 1) : yPo s = 1 := by
  cases s using yP_cases with
  | ok q => rfl
  | no a p =>
    exfalso
    unfold yPw at h
    by_cases c : yPi f (.no a p) = w
    · rw [if_pos c] at h; exact absurd h (by show ¬ (0 : Int) = 1; decide)
    · rw [if_neg c] at h; exact absurd h (by show ¬ (0 : Int) = 1; decide)
theorem yPo_s {f : Int → Int} {w : Int} {s : yP} (h : yPo (yPs f w s) = 1) : yPo s = 1 := by
  cases s using yP_cases with
  | ok q => rfl
  | no a p =>
    exfalso
    unfold yPs at h
    by_cases c : yPg f (.no a p) = w
    · rw [if_pos c] at h; exact absurd h (by show ¬ (0 : Int) = 1; decide)
    · rw [if_neg c] at h; exact absurd h (by show ¬ (0 : Int) = 1; decide)
theorem yPno_n {a p : Int} {s : yP} (h : yPo s ≠ 1) : yPno a p s = s := by
  cases s using yP_cases with
  | ok q => exact absurd rfl h
  | no b u => rfl
theorem yNam_4 {f : Int → Int} {P : yPl} {s : yP} {p : Int} (h : yPk f s = 4) (hp : yPo s = 1 → p = yPq s + 6) : yPno 1 p s = yNam f P s := by
  unfold yNam; rw [if_pos h]; exact yPno_f hp
theorem yNam_1 {f : Int → Int} {P : yPl} {s : yP} {p : Int} (h4 : yPk f s ≠ 4) (h : yPk f s ≠ 1 ∨ (0 ≤ yPi f s ∧ yPi f s < 27)) (hp : yPo s = 1 → p = yPq s) : yPno 1 p s = yNam f P s := by
  unfold yNam; rw [if_neg h4, if_pos h]; exact yPno_f (fun o => by rw [hp o]; omega)
theorem yNam_3 {f : Int → Int} {P : yPl} {s : yP} {p : Int} (h4 : yPk f s ≠ 4) (h : ¬ (yPk f s ≠ 1 ∨ (0 ≤ yPi f s ∧ yPi f s < 27))) (hm : yPc f s ∈ P.nm) (hp : yPo s = 1 → p = yPq s) : yPno 3 p s = yNam f P s := by
  unfold yNam; rw [if_neg h4, if_neg h, if_pos hm]; exact yPno_f (fun o => by rw [hp o]; omega)
theorem yNam_0 {f : Int → Int} {P : yPl} {s : yP} (h4 : yPk f s ≠ 4) (h : ¬ (yPk f s ≠ 1 ∨ (0 ≤ yPi f s ∧ yPi f s < 27))) (hm : yPc f s ∉ P.nm) : yPx f s = yNam f P s := by
  unfold yNam; rw [if_neg h4, if_neg h, if_neg hm]
theorem yPo4_1 {f : Int → Int} {P : yPl} {s : yP} {p b d : Int} (h : yPo (yPo3 f P s) = 1 → p = yPq (yPo2 f P s) ∧ b = yPv f (yPo1 f P s) ∧ d = yPv f (yPo2 f P s)) (hm : b + 6 * d ∈ P.hm) : yPno 2 p (yPo3 f P s) = yPo4 f P s := by
  unfold yPo4
  by_cases o : yPo (yPo3 f P s) = 1
  · obtain ⟨h1, h2, h3⟩ := h o
    have e : yPoh f P s ∈ P.hm := by unfold yPoh; rw [← h2, ← h3]; exact hm
    rw [if_pos e, h1]
  · by_cases e : yPoh f P s ∈ P.hm
    · rw [if_pos e, yPno_n o, yPno_n o]
    · rw [if_neg e, yPno_n o]
theorem yPo4_0 {f : Int → Int} {P : yPl} {s : yP} {b d : Int} (h : yPo (yPo3 f P s) = 1 → b = yPv f (yPo1 f P s) ∧ d = yPv f (yPo2 f P s)) (hm : b + 6 * d ∉ P.hm) : yPo3 f P s = yPo4 f P s := by
  unfold yPo4
  by_cases o : yPo (yPo3 f P s) = 1
  · obtain ⟨h2, h3⟩ := h o
    have e : yPoh f P s ∉ P.hm := by unfold yPoh; rw [← h2, ← h3]; exact hm
    rw [if_neg e]
  · by_cases e : yPoh f P s ∈ P.hm
    · rw [if_pos e, yPno_n o]
    · rw [if_neg e]
theorem yLop_q {f : Int → Int} {n : Nat} {c : Int} {s : yP} {P Q : yPl} (h : yPo s = 1 → P = Q) : yLop f n c s P = yLop f n c s Q := by
  by_cases o : yPo s = 1
  · rw [h o]
  · rw [yLop_no o, yLop_no o]
theorem yLop_bp {f : Int → Int} {c : Int} {s : yP} {P Q : yPl} {T : yP × yPl × Int} (hc : c = 0) (m : yMor f s) (h : yLop f (80 - c).toNat c s P = T) (hq : yPo (yPs f 59 (yPan f s)) = 1 → Q = yPanP f s P) : yLop f (80 - (c + 1)).toNat (c + 1) (yPs f 59 (yPan f s)) Q = T := by
  subst hc
  rw [yLop_q hq, ← h]
  exact (yLop_p (n := 79) m).symm
theorem yLop_bs {f : Int → Int} {c : Int} {s : yP} {P Q : yPl} {T : yP × yPl × Int} (hc : 0 < c ∧ c < 80) (m : yMor f s) (h : yLop f (80 - c).toNat c s P = T) (hq : yPo (yPs f 59 (yStm f P s)) = 1 → Q = yStmP f P s) : yLop f (80 - (c + 1)).toNat (c + 1) (yPs f 59 (yStm f P s)) Q = T := by
  rw [yLop_q hq, ← h, show (80 - c).toNat = (80 - (c + 1)).toNat + 1 by omega]
  exact (yLop_s m (by omega)).symm
theorem yAll_m {f : Int → Int} {c : Int} {p : yP} {P : yPl} (h : yLop f (80 - c).toNat c p P = yLop f 80 0 (.ok (yS f 0)) yPl0) (m : yMor f p) (hc : 80 ≤ c) : yAll f = (yPf 5 0 p, yPl0, 0) := by
  unfold yAll
  rw [← h, show (80 - c).toNat = 0 by omega, yLop_0 m]
  show (if yPo (yPf 5 0 p) = 1 ∧ (0 : Int) = 0 then _ else _) = _
  rw [if_neg (fun x => by rw [yPo_pf] at x; exact absurd x.1 (by decide))]
theorem yAll_1 {f : Int → Int} {c : Int} {p : yP} {P : yPl} (h : yLop f (80 - c).toNat c p P = yLop f 80 0 (.ok (yS f 0)) yPl0) (m : ¬ yMor f p) (hc : c ≠ 0) : (yAll f).1 = p ∧ (yPo p = 1 → P = (yAll f).2.1 ∧ c = (yAll f).2.2) := by
  unfold yAll
  rw [← h]
  by_cases o : yPo p = 1
  · rw [yLop_e m o]
    have e : (if yPo p = 1 ∧ c = 0 then (yPf 1 0 p, yPl0, 0) else (p, P, c)) = (p, P, c) := if_neg (fun x => hc x.2)
    show (if yPo p = 1 ∧ c = 0 then (yPf 1 0 p, yPl0, 0) else (p, P, c)).1 = p ∧ (yPo p = 1 → P = (if yPo p = 1 ∧ c = 0 then (yPf 1 0 p, yPl0, 0) else (p, P, c)).2.1 ∧ c = (if yPo p = 1 ∧ c = 0 then (yPf 1 0 p, yPl0, 0) else (p, P, c)).2.2)
    rw [e]; exact ⟨rfl, fun _ => ⟨rfl, rfl⟩⟩
  · rw [yLop_no o]
    refine ⟨?_, fun x => absurd x o⟩
    show (if yPo p = 1 ∧ (0 : Int) = 0 then (yPf 1 0 p, yPl0, 0) else (p, yPl0, 0)).1 = p
    rw [if_neg (fun x => o x.1)]
theorem yAll_z {f : Int → Int} {c : Int} {p : yP} {P : yPl} (h : yLop f (80 - c).toNat c p P = yLop f 80 0 (.ok (yS f 0)) yPl0) (m : ¬ yMor f p) (hc : c = 0) : (yAll f).1 = yPf 1 0 p := by
  unfold yAll
  rw [← h]
  by_cases o : yPo p = 1
  · rw [yLop_e m o]
    show (if yPo p = 1 ∧ c = 0 then (yPf 1 0 p, yPl0, 0) else (p, P, c)).1 = _
    rw [if_pos ⟨o, hc⟩]
  · rw [yLop_no o]
    show (if yPo p = 1 ∧ (0 : Int) = 0 then (yPf 1 0 p, yPl0, 0) else (p, yPl0, 0)).1 = _
    rw [if_neg (fun x => o x.1)]
    cases p using yP_cases with
    | ok q => exact absurd rfl o
    | no a u => rfl
